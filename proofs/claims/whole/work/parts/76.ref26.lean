theorem cf_X9_mayPush : wCal yX9_mayPush cX9_mayPush 5 (some .boolean) 1 := ⟨gw_1301, gw_10, by decide, by decide, by rfl⟩
set_option maxRecDepth 100000 in
set_option maxHeartbeats 4000000 in
theorem c_X9_mayPush (l : Launch) (G : wG) (M : wM) (N P : Nat) (pv : Nat → Nat → Int) (hp : PlOk pv N P) (hq : PEq N P pv (M 29)) (w : Nat → Nat → Int) (T : Int) (hm : MoOk w N P T) (hT6 : T ≤ 1000000) (hv : REq N P w (M 29 13)) (d : Int) (hd : -99 ≤ d ∧ d ≤ 99) : Met l yX9_mayPush (gws yX9_mayPush cX9_mayPush 5 (some .boolean)) (wrm 0 0 0) (wPc G M [vR G (29, 0), vI d]) (wQi G (fun z M1 => (z = 0 ∨ z = 1) ∧ (z = 1 ↔ expl N pv w d) ∧ M1 = M)) 0 0 (wA G) := by
  refine wMet (lc := [(0, vR G (29, 0)), (1, vI d)]) (by decide) (Nat.le_of_ble_eq_true rfl) rfl ?_
  intro p e s m args below meth c X hr
  have X : wX p s m args meth c G 5 "StateObserverModel" cX9_mayPush := X
  obtain ⟨hN, hN1, hN4, hP, hP1, hP3, hA, hB, hE, hC, hQ⟩ := id hp
  obtain ⟨qN, qP, qA, qB, qE, qC, qQ⟩ := id hq
  obtain ⟨hT, hL, hU, hS, hG, hY, hAg, hHo, hBo, hTi, hLi, hLb, hLl, hLh⟩ := id hm
  obtain ⟨v1, v2, v3, v28, v29, v30, v38, v39, v37⟩ := id hv
  refine r_iconst (pc' := 1) X dX9_mayPush_0 rfl ?_
  refine r_istore_n (pc' := 2) (lc' := [(0, vR G (29, 0)), (1, vI d), (2, vI 1)]) X [1, 2, 0] dX9_mayPush_1 rfl (by decide) rfl rfl ?_
  refine r_iconst (pc' := 3) X dX9_mayPush_2 rfl ?_
  refine r_istore_n (pc' := 4) (lc' := [(0, vR G (29, 0)), (1, vI d), (2, vI 1), (3, vI 0)]) X [1, 2, 3, 0] dX9_mayPush_3 rfl (by decide) rfl rfl ?_
  have L4 : ∀ (fu : Nat) (i : Nat) (mf : Int), N - i < fu → (i ≤ N) → (mf = 0 ∨ mf = 1) → (mf = 1 ↔ ∀ j, j < i → (pv 7 j ≠ 0 → ¬ (-1000000 < w 2 j ∧ pv 7 j * d < w 2 j - pv 6 j * w 0 10 - w 13 j) ∧ ¬ (w 3 j < 1000000 ∧ w 3 j - pv 6 j * w 0 10 - w 12 j < pv 7 j * d))) → wV p l e (wrm 0 0 0) s m args below meth c G 5 M 0 0 (MQ below (wQi G (fun z M1 => (z = 0 ∨ z = 1) ∧ (z = 1 ↔ expl N pv w d) ∧ M1 = M)) args s 0 0 (wA G)) 4 [(0, vR G (29, 0)), (1, vI d), (2, vI mf), (3, vI (i : Int))] [] := by
    intro fu
    induction fu with
    | zero => intro i mf hfu; exact absurd hfu (Nat.not_lt_zero _)
    | succ fu ih4 =>
      intro i mf hfu4 hi0 hmf hme
      refine r_iload_n (pc' := 5) X 3 dX9_mayPush_4 rfl rfl rfl ?_
      refine r_aload_n (pc' := 6) X 0 dX9_mayPush_5 rfl rfl rfl ?_
      refine gf_29_states (pc' := 9) X gw_972 dX9_mayPush_6 rfl ?_
      refine r_icmp_ge (pc' := 12) (tgt := 146) X dX9_mayPush_9 rfl rfl (by omega) (by omega) (fun h9 => ?_) (fun h9 => ?_)
      · refine r_iload_n (pc' := 147) X 2 dX9_mayPush_146 rfl rfl rfl ?_
        refine w_zret X hr (by omega) dX9_mayPush_147 ?_
        try dsimp only
        refine ⟨hmf, ⟨fun w1 j hj => hme.mp w1 j (by omega), fun w1 => hme.mpr (fun j hj => w1 j (by omega))⟩, rfl⟩
      · have va := v1 i (by omega)
        have qEi := qE i (by omega)
        have qBi := qB i (by omega)
        have rEi := hE i (by omega)
        have rBi := hB i (by omega)
        have rl := hL i (by omega)
        have ru := hU i (by omega)
        have r12 := hLl i (by omega)
        have r13 := hLh i (by omega)
        have hm1 := mul_bd (A := 99) (B := 99) (a := pv 7 i) (b := d) (by decide) rEi hd
        have hm2 := mul_bd (A := 99) (B := 99) (a := pv 6 i) (b := w 0 10) (by decide) rBi hLi
        have e1 : M 29 4 i * d = pv 7 i * d := by rw [qEi]
        have e2 : M 29 3 i * M 29 13 38 = pv 6 i * w 0 10 := by rw [qBi, v38]
        refine r_aload_n (pc' := 13) X 0 dX9_mayPush_12 rfl rfl rfl ?_
        refine gf_29_drive (pc' := 16) X gw_975 dX9_mayPush_13 rfl ?_
        refine r_iload_n (pc' := 17) X 3 dX9_mayPush_16 rfl rfl rfl ?_
        refine r_iald (i := i) (pc' := 18) X k29_3 (by omega) (by omega) (by decide) dX9_mayPush_17 rfl ?_
        refine r_aload_n (pc' := 19) X 0 dX9_mayPush_18 rfl rfl rfl ?_
        refine gf_29_now (pc' := 22) X gw_987 dX9_mayPush_19 rfl ?_
        refine r_bipush (pc' := 24) X dX9_mayPush_22 rfl rfl ?_
        refine r_iald (i := 38) (pc' := 25) X k29_13 (by omega) (by omega) (by decide) dX9_mayPush_24 rfl ?_
        refine r_imul (pc' := 26) X dX9_mayPush_25 rfl ?_
        refine r_istore (pc' := 28) (lc' := [(0, vR G (29, 0)), (1, vI d), (2, vI mf), (3, vI (i : Int)), (4, vI ((M 29 3 i) * (M 29 13 38)))]) X [1, 2, 3, 4, 0] dX9_mayPush_26 (by decide) rfl rfl ?_
        refine r_iload_n (pc' := 29) X 2 dX9_mayPush_28 rfl rfl rfl ?_
        refine r_if_eq (pc' := 32) (tgt := 138) X dX9_mayPush_29 rfl rfl (by omega) (fun h29 => ?_) (fun h29 => ?_)
        · refine r_iconst (pc' := 139) X dX9_mayPush_138 rfl ?_
          refine r_istore_n (pc' := 140) (lc' := [(0, vR G (29, 0)), (1, vI d), (2, vI 0), (3, vI (i : Int)), (4, vI ((M 29 3 i) * (M 29 13 38)))]) X [1, 2, 0, 3, 4] dX9_mayPush_139 rfl (by decide) rfl rfl ?_
          refine r_iinc (pc' := 143) (z' := ((i + 1 : Nat) : Int)) (lc' := [(0, vR G (29, 0)), (1, vI d), (2, vI 0), (3, vI ((i + 1 : Nat) : Int)), (4, vI ((M 29 3 i) * (M 29 13 38)))]) X 3 [1, 2, 3, 0, 4] dX9_mayPush_140 rfl (by omega) (by decide) rfl rfl ?_
          refine r_goto (tgt := 4) X dX9_mayPush_143 rfl ?_
          refine w_sub (lc' := [(0, vR G (29, 0)), (1, vI d), (2, vI 0), (3, vI ((i + 1 : Nat) : Int))]) [0, 1, 2, 3] rfl ?_
          exact ih4 (i + 1) 0 (by omega) (by omega) (by first | exact Or.inl rfl | exact Or.inr rfl) (by first | exact ⟨fun _ j hj => by rcases Nat.lt_or_ge j i with q | q; exact hme.mp (by omega) j q; rw [show j = i by omega]; exact fun he => by constructor <;> omega, fun _ => rfl⟩ | exact ⟨fun w1 => absurd w1 (by decide), fun w1 => by exfalso; have a1 := hme.mpr (fun j hj => w1 j (by omega)); have a2 := w1 i (by omega); omega⟩)
        · refine r_aload_n (pc' := 33) X 0 dX9_mayPush_32 rfl rfl rfl ?_
          refine gf_29_push (pc' := 36) X gw_976 dX9_mayPush_33 rfl ?_
          refine r_iload_n (pc' := 37) X 3 dX9_mayPush_36 rfl rfl rfl ?_
          refine r_iald (i := i) (pc' := 38) X k29_4 (by omega) (by omega) (by decide) dX9_mayPush_37 rfl ?_
          refine r_if_eq (pc' := 41) (tgt := 134) X dX9_mayPush_38 rfl rfl (by omega) (fun h38 => ?_) (fun h38 => ?_)
          · refine r_iconst (pc' := 135) X dX9_mayPush_134 rfl ?_
            refine r_goto (tgt := 139) X dX9_mayPush_135 rfl ?_
            refine r_istore_n (pc' := 140) (lc' := [(0, vR G (29, 0)), (1, vI d), (2, vI 1), (3, vI (i : Int)), (4, vI ((M 29 3 i) * (M 29 13 38)))]) X [1, 2, 0, 3, 4] dX9_mayPush_139 rfl (by decide) rfl rfl ?_
            refine r_iinc (pc' := 143) (z' := ((i + 1 : Nat) : Int)) (lc' := [(0, vR G (29, 0)), (1, vI d), (2, vI 1), (3, vI ((i + 1 : Nat) : Int)), (4, vI ((M 29 3 i) * (M 29 13 38)))]) X 3 [1, 2, 3, 0, 4] dX9_mayPush_140 rfl (by omega) (by decide) rfl rfl ?_
            refine r_goto (tgt := 4) X dX9_mayPush_143 rfl ?_
            refine w_sub (lc' := [(0, vR G (29, 0)), (1, vI d), (2, vI 1), (3, vI ((i + 1 : Nat) : Int))]) [0, 1, 2, 3] rfl ?_
            exact ih4 (i + 1) 1 (by omega) (by omega) (by first | exact Or.inl rfl | exact Or.inr rfl) (by first | exact ⟨fun _ j hj => by rcases Nat.lt_or_ge j i with q | q; exact hme.mp (by omega) j q; rw [show j = i by omega]; exact fun he => by constructor <;> omega, fun _ => rfl⟩ | exact ⟨fun w1 => absurd w1 (by decide), fun w1 => by exfalso; have a1 := hme.mpr (fun j hj => w1 j (by omega)); have a2 := w1 i (by omega); omega⟩)
          · refine r_aload_n (pc' := 42) X 0 dX9_mayPush_41 rfl rfl rfl ?_
            refine gf_29_now (pc' := 45) X gw_987 dX9_mayPush_42 rfl ?_
            refine r_iconst (pc' := 46) X dX9_mayPush_45 rfl ?_
            refine r_iload_n (pc' := 47) X 3 dX9_mayPush_46 rfl rfl rfl ?_
            refine r_iadd (pc' := 48) X dX9_mayPush_47 rfl ?_
            refine r_iald (i := (4 + i)) (pc' := 49) X k29_13 (by omega) (by omega) (by decide) dX9_mayPush_48 rfl ?_
            refine r_ldcw (pc' := 52) (z := (-1000000)) X gw_1302 dX9_mayPush_49 rfl rfl ?_
            refine r_icmp_eq (pc' := 55) (tgt := 87) X dX9_mayPush_52 rfl rfl (by omega) (by omega) (fun h52 => ?_) (fun h52 => ?_)
            · refine r_aload_n (pc' := 88) X 0 dX9_mayPush_87 rfl rfl rfl ?_
              refine gf_29_now (pc' := 91) X gw_987 dX9_mayPush_88 rfl ?_
              refine r_bipush (pc' := 93) X dX9_mayPush_91 rfl rfl ?_
              refine r_iload_n (pc' := 94) X 3 dX9_mayPush_93 rfl rfl rfl ?_
              refine r_iadd (pc' := 95) X dX9_mayPush_94 rfl ?_
              refine r_iald (i := (8 + i)) (pc' := 96) X k29_13 (by omega) (by omega) (by decide) dX9_mayPush_95 rfl ?_
              refine r_ldc (pc' := 98) (z := 1000000) X gw_1229 dX9_mayPush_96 rfl rfl ?_
              refine r_icmp_eq (pc' := 101) (tgt := 134) X dX9_mayPush_98 rfl rfl (by omega) (by omega) (fun h98 => ?_) (fun h98 => ?_)
              · refine r_iconst (pc' := 135) X dX9_mayPush_134 rfl ?_
                refine r_goto (tgt := 139) X dX9_mayPush_135 rfl ?_
                refine r_istore_n (pc' := 140) (lc' := [(0, vR G (29, 0)), (1, vI d), (2, vI 1), (3, vI (i : Int)), (4, vI ((M 29 3 i) * (M 29 13 38)))]) X [1, 2, 0, 3, 4] dX9_mayPush_139 rfl (by decide) rfl rfl ?_
                refine r_iinc (pc' := 143) (z' := ((i + 1 : Nat) : Int)) (lc' := [(0, vR G (29, 0)), (1, vI d), (2, vI 1), (3, vI ((i + 1 : Nat) : Int)), (4, vI ((M 29 3 i) * (M 29 13 38)))]) X 3 [1, 2, 3, 0, 4] dX9_mayPush_140 rfl (by omega) (by decide) rfl rfl ?_
                refine r_goto (tgt := 4) X dX9_mayPush_143 rfl ?_
                refine w_sub (lc' := [(0, vR G (29, 0)), (1, vI d), (2, vI 1), (3, vI ((i + 1 : Nat) : Int))]) [0, 1, 2, 3] rfl ?_
                exact ih4 (i + 1) 1 (by omega) (by omega) (by first | exact Or.inl rfl | exact Or.inr rfl) (by first | exact ⟨fun _ j hj => by rcases Nat.lt_or_ge j i with q | q; exact hme.mp (by omega) j q; rw [show j = i by omega]; exact fun he => by constructor <;> omega, fun _ => rfl⟩ | exact ⟨fun w1 => absurd w1 (by decide), fun w1 => by exfalso; have a1 := hme.mpr (fun j hj => w1 j (by omega)); have a2 := w1 i (by omega); omega⟩)
              · refine r_aload_n (pc' := 102) X 0 dX9_mayPush_101 rfl rfl rfl ?_
                refine gf_29_push (pc' := 105) X gw_976 dX9_mayPush_102 rfl ?_
                refine r_iload_n (pc' := 106) X 3 dX9_mayPush_105 rfl rfl rfl ?_
                refine r_iald (i := i) (pc' := 107) X k29_4 (by omega) (by omega) (by decide) dX9_mayPush_106 rfl ?_
                refine r_iload_n (pc' := 108) X 1 dX9_mayPush_107 rfl rfl rfl ?_
                refine r_imul (pc' := 109) X dX9_mayPush_108 rfl ?_
                refine r_aload_n (pc' := 110) X 0 dX9_mayPush_109 rfl rfl rfl ?_
                refine gf_29_now (pc' := 113) X gw_987 dX9_mayPush_110 rfl ?_
                refine r_bipush (pc' := 115) X dX9_mayPush_113 rfl rfl ?_
                refine r_iload_n (pc' := 116) X 3 dX9_mayPush_115 rfl rfl rfl ?_
                refine r_iadd (pc' := 117) X dX9_mayPush_116 rfl ?_
                refine r_iald (i := (8 + i)) (pc' := 118) X k29_13 (by omega) (by omega) (by decide) dX9_mayPush_117 rfl ?_
                refine r_iload (pc' := 120) X 4 dX9_mayPush_118 rfl rfl ?_
                refine r_isub (pc' := 121) X dX9_mayPush_120 rfl ?_
                refine r_aload_n (pc' := 122) X 0 dX9_mayPush_121 rfl rfl rfl ?_
                refine gf_29_now (pc' := 125) X gw_987 dX9_mayPush_122 rfl ?_
                refine r_bipush (pc' := 127) X dX9_mayPush_125 rfl rfl ?_
                refine r_iload_n (pc' := 128) X 3 dX9_mayPush_127 rfl rfl rfl ?_
                refine r_iadd (pc' := 129) X dX9_mayPush_128 rfl ?_
                refine r_iald (i := (40 + i)) (pc' := 130) X k29_13 (by omega) (by omega) (by decide) dX9_mayPush_129 rfl ?_
                refine r_isub (pc' := 131) X dX9_mayPush_130 rfl ?_
                refine r_icmp_gt (pc' := 134) (tgt := 138) X dX9_mayPush_131 rfl rfl (by omega) (by omega) (fun h131 => ?_) (fun h131 => ?_)
                · refine r_iconst (pc' := 139) X dX9_mayPush_138 rfl ?_
                  refine r_istore_n (pc' := 140) (lc' := [(0, vR G (29, 0)), (1, vI d), (2, vI 0), (3, vI (i : Int)), (4, vI ((M 29 3 i) * (M 29 13 38)))]) X [1, 2, 0, 3, 4] dX9_mayPush_139 rfl (by decide) rfl rfl ?_
                  refine r_iinc (pc' := 143) (z' := ((i + 1 : Nat) : Int)) (lc' := [(0, vR G (29, 0)), (1, vI d), (2, vI 0), (3, vI ((i + 1 : Nat) : Int)), (4, vI ((M 29 3 i) * (M 29 13 38)))]) X 3 [1, 2, 3, 0, 4] dX9_mayPush_140 rfl (by omega) (by decide) rfl rfl ?_
                  refine r_goto (tgt := 4) X dX9_mayPush_143 rfl ?_
                  refine w_sub (lc' := [(0, vR G (29, 0)), (1, vI d), (2, vI 0), (3, vI ((i + 1 : Nat) : Int))]) [0, 1, 2, 3] rfl ?_
                  exact ih4 (i + 1) 0 (by omega) (by omega) (by first | exact Or.inl rfl | exact Or.inr rfl) (by first | exact ⟨fun _ j hj => by rcases Nat.lt_or_ge j i with q | q; exact hme.mp (by omega) j q; rw [show j = i by omega]; exact fun he => by constructor <;> omega, fun _ => rfl⟩ | exact ⟨fun w1 => absurd w1 (by decide), fun w1 => by exfalso; have a1 := hme.mpr (fun j hj => w1 j (by omega)); have a2 := w1 i (by omega); omega⟩)
                · refine r_iconst (pc' := 135) X dX9_mayPush_134 rfl ?_
                  refine r_goto (tgt := 139) X dX9_mayPush_135 rfl ?_
                  refine r_istore_n (pc' := 140) (lc' := [(0, vR G (29, 0)), (1, vI d), (2, vI 1), (3, vI (i : Int)), (4, vI ((M 29 3 i) * (M 29 13 38)))]) X [1, 2, 0, 3, 4] dX9_mayPush_139 rfl (by decide) rfl rfl ?_
                  refine r_iinc (pc' := 143) (z' := ((i + 1 : Nat) : Int)) (lc' := [(0, vR G (29, 0)), (1, vI d), (2, vI 1), (3, vI ((i + 1 : Nat) : Int)), (4, vI ((M 29 3 i) * (M 29 13 38)))]) X 3 [1, 2, 3, 0, 4] dX9_mayPush_140 rfl (by omega) (by decide) rfl rfl ?_
                  refine r_goto (tgt := 4) X dX9_mayPush_143 rfl ?_
                  refine w_sub (lc' := [(0, vR G (29, 0)), (1, vI d), (2, vI 1), (3, vI ((i + 1 : Nat) : Int))]) [0, 1, 2, 3] rfl ?_
                  exact ih4 (i + 1) 1 (by omega) (by omega) (by first | exact Or.inl rfl | exact Or.inr rfl) (by first | exact ⟨fun _ j hj => by rcases Nat.lt_or_ge j i with q | q; exact hme.mp (by omega) j q; rw [show j = i by omega]; exact fun he => by constructor <;> omega, fun _ => rfl⟩ | exact ⟨fun w1 => absurd w1 (by decide), fun w1 => by exfalso; have a1 := hme.mpr (fun j hj => w1 j (by omega)); have a2 := w1 i (by omega); omega⟩)
            · refine r_aload_n (pc' := 56) X 0 dX9_mayPush_55 rfl rfl rfl ?_
              refine gf_29_push (pc' := 59) X gw_976 dX9_mayPush_56 rfl ?_
              refine r_iload_n (pc' := 60) X 3 dX9_mayPush_59 rfl rfl rfl ?_
              refine r_iald (i := i) (pc' := 61) X k29_4 (by omega) (by omega) (by decide) dX9_mayPush_60 rfl ?_
              refine r_iload_n (pc' := 62) X 1 dX9_mayPush_61 rfl rfl rfl ?_
              refine r_imul (pc' := 63) X dX9_mayPush_62 rfl ?_
              refine r_aload_n (pc' := 64) X 0 dX9_mayPush_63 rfl rfl rfl ?_
              refine gf_29_now (pc' := 67) X gw_987 dX9_mayPush_64 rfl ?_
              refine r_iconst (pc' := 68) X dX9_mayPush_67 rfl ?_
              refine r_iload_n (pc' := 69) X 3 dX9_mayPush_68 rfl rfl rfl ?_
              refine r_iadd (pc' := 70) X dX9_mayPush_69 rfl ?_
              refine r_iald (i := (4 + i)) (pc' := 71) X k29_13 (by omega) (by omega) (by decide) dX9_mayPush_70 rfl ?_
              refine r_iload (pc' := 73) X 4 dX9_mayPush_71 rfl rfl ?_
              refine r_isub (pc' := 74) X dX9_mayPush_73 rfl ?_
              refine r_aload_n (pc' := 75) X 0 dX9_mayPush_74 rfl rfl rfl ?_
              refine gf_29_now (pc' := 78) X gw_987 dX9_mayPush_75 rfl ?_
              refine r_bipush (pc' := 80) X dX9_mayPush_78 rfl rfl ?_
              refine r_iload_n (pc' := 81) X 3 dX9_mayPush_80 rfl rfl rfl ?_
              refine r_iadd (pc' := 82) X dX9_mayPush_81 rfl ?_
              refine r_iald (i := (44 + i)) (pc' := 83) X k29_13 (by omega) (by omega) (by decide) dX9_mayPush_82 rfl ?_
              refine r_isub (pc' := 84) X dX9_mayPush_83 rfl ?_
              refine r_icmp_lt (pc' := 87) (tgt := 138) X dX9_mayPush_84 rfl rfl (by omega) (by omega) (fun h84 => ?_) (fun h84 => ?_)
              · refine r_iconst (pc' := 139) X dX9_mayPush_138 rfl ?_
                refine r_istore_n (pc' := 140) (lc' := [(0, vR G (29, 0)), (1, vI d), (2, vI 0), (3, vI (i : Int)), (4, vI ((M 29 3 i) * (M 29 13 38)))]) X [1, 2, 0, 3, 4] dX9_mayPush_139 rfl (by decide) rfl rfl ?_
                refine r_iinc (pc' := 143) (z' := ((i + 1 : Nat) : Int)) (lc' := [(0, vR G (29, 0)), (1, vI d), (2, vI 0), (3, vI ((i + 1 : Nat) : Int)), (4, vI ((M 29 3 i) * (M 29 13 38)))]) X 3 [1, 2, 3, 0, 4] dX9_mayPush_140 rfl (by omega) (by decide) rfl rfl ?_
                refine r_goto (tgt := 4) X dX9_mayPush_143 rfl ?_
                refine w_sub (lc' := [(0, vR G (29, 0)), (1, vI d), (2, vI 0), (3, vI ((i + 1 : Nat) : Int))]) [0, 1, 2, 3] rfl ?_
                exact ih4 (i + 1) 0 (by omega) (by omega) (by first | exact Or.inl rfl | exact Or.inr rfl) (by first | exact ⟨fun _ j hj => by rcases Nat.lt_or_ge j i with q | q; exact hme.mp (by omega) j q; rw [show j = i by omega]; exact fun he => by constructor <;> omega, fun _ => rfl⟩ | exact ⟨fun w1 => absurd w1 (by decide), fun w1 => by exfalso; have a1 := hme.mpr (fun j hj => w1 j (by omega)); have a2 := w1 i (by omega); omega⟩)
              · refine r_aload_n (pc' := 88) X 0 dX9_mayPush_87 rfl rfl rfl ?_
                refine gf_29_now (pc' := 91) X gw_987 dX9_mayPush_88 rfl ?_
                refine r_bipush (pc' := 93) X dX9_mayPush_91 rfl rfl ?_
                refine r_iload_n (pc' := 94) X 3 dX9_mayPush_93 rfl rfl rfl ?_
                refine r_iadd (pc' := 95) X dX9_mayPush_94 rfl ?_
                refine r_iald (i := (8 + i)) (pc' := 96) X k29_13 (by omega) (by omega) (by decide) dX9_mayPush_95 rfl ?_
                refine r_ldc (pc' := 98) (z := 1000000) X gw_1229 dX9_mayPush_96 rfl rfl ?_
                refine r_icmp_eq (pc' := 101) (tgt := 134) X dX9_mayPush_98 rfl rfl (by omega) (by omega) (fun h98 => ?_) (fun h98 => ?_)
                · refine r_iconst (pc' := 135) X dX9_mayPush_134 rfl ?_
                  refine r_goto (tgt := 139) X dX9_mayPush_135 rfl ?_
                  refine r_istore_n (pc' := 140) (lc' := [(0, vR G (29, 0)), (1, vI d), (2, vI 1), (3, vI (i : Int)), (4, vI ((M 29 3 i) * (M 29 13 38)))]) X [1, 2, 0, 3, 4] dX9_mayPush_139 rfl (by decide) rfl rfl ?_
                  refine r_iinc (pc' := 143) (z' := ((i + 1 : Nat) : Int)) (lc' := [(0, vR G (29, 0)), (1, vI d), (2, vI 1), (3, vI ((i + 1 : Nat) : Int)), (4, vI ((M 29 3 i) * (M 29 13 38)))]) X 3 [1, 2, 3, 0, 4] dX9_mayPush_140 rfl (by omega) (by decide) rfl rfl ?_
                  refine r_goto (tgt := 4) X dX9_mayPush_143 rfl ?_
                  refine w_sub (lc' := [(0, vR G (29, 0)), (1, vI d), (2, vI 1), (3, vI ((i + 1 : Nat) : Int))]) [0, 1, 2, 3] rfl ?_
                  exact ih4 (i + 1) 1 (by omega) (by omega) (by first | exact Or.inl rfl | exact Or.inr rfl) (by first | exact ⟨fun _ j hj => by rcases Nat.lt_or_ge j i with q | q; exact hme.mp (by omega) j q; rw [show j = i by omega]; exact fun he => by constructor <;> omega, fun _ => rfl⟩ | exact ⟨fun w1 => absurd w1 (by decide), fun w1 => by exfalso; have a1 := hme.mpr (fun j hj => w1 j (by omega)); have a2 := w1 i (by omega); omega⟩)
                · refine r_aload_n (pc' := 102) X 0 dX9_mayPush_101 rfl rfl rfl ?_
                  refine gf_29_push (pc' := 105) X gw_976 dX9_mayPush_102 rfl ?_
                  refine r_iload_n (pc' := 106) X 3 dX9_mayPush_105 rfl rfl rfl ?_
                  refine r_iald (i := i) (pc' := 107) X k29_4 (by omega) (by omega) (by decide) dX9_mayPush_106 rfl ?_
                  refine r_iload_n (pc' := 108) X 1 dX9_mayPush_107 rfl rfl rfl ?_
                  refine r_imul (pc' := 109) X dX9_mayPush_108 rfl ?_
                  refine r_aload_n (pc' := 110) X 0 dX9_mayPush_109 rfl rfl rfl ?_
                  refine gf_29_now (pc' := 113) X gw_987 dX9_mayPush_110 rfl ?_
                  refine r_bipush (pc' := 115) X dX9_mayPush_113 rfl rfl ?_
                  refine r_iload_n (pc' := 116) X 3 dX9_mayPush_115 rfl rfl rfl ?_
                  refine r_iadd (pc' := 117) X dX9_mayPush_116 rfl ?_
                  refine r_iald (i := (8 + i)) (pc' := 118) X k29_13 (by omega) (by omega) (by decide) dX9_mayPush_117 rfl ?_
                  refine r_iload (pc' := 120) X 4 dX9_mayPush_118 rfl rfl ?_
                  refine r_isub (pc' := 121) X dX9_mayPush_120 rfl ?_
                  refine r_aload_n (pc' := 122) X 0 dX9_mayPush_121 rfl rfl rfl ?_
                  refine gf_29_now (pc' := 125) X gw_987 dX9_mayPush_122 rfl ?_
                  refine r_bipush (pc' := 127) X dX9_mayPush_125 rfl rfl ?_
                  refine r_iload_n (pc' := 128) X 3 dX9_mayPush_127 rfl rfl rfl ?_
                  refine r_iadd (pc' := 129) X dX9_mayPush_128 rfl ?_
                  refine r_iald (i := (40 + i)) (pc' := 130) X k29_13 (by omega) (by omega) (by decide) dX9_mayPush_129 rfl ?_
                  refine r_isub (pc' := 131) X dX9_mayPush_130 rfl ?_
                  refine r_icmp_gt (pc' := 134) (tgt := 138) X dX9_mayPush_131 rfl rfl (by omega) (by omega) (fun h131 => ?_) (fun h131 => ?_)
                  · refine r_iconst (pc' := 139) X dX9_mayPush_138 rfl ?_
                    refine r_istore_n (pc' := 140) (lc' := [(0, vR G (29, 0)), (1, vI d), (2, vI 0), (3, vI (i : Int)), (4, vI ((M 29 3 i) * (M 29 13 38)))]) X [1, 2, 0, 3, 4] dX9_mayPush_139 rfl (by decide) rfl rfl ?_
                    refine r_iinc (pc' := 143) (z' := ((i + 1 : Nat) : Int)) (lc' := [(0, vR G (29, 0)), (1, vI d), (2, vI 0), (3, vI ((i + 1 : Nat) : Int)), (4, vI ((M 29 3 i) * (M 29 13 38)))]) X 3 [1, 2, 3, 0, 4] dX9_mayPush_140 rfl (by omega) (by decide) rfl rfl ?_
                    refine r_goto (tgt := 4) X dX9_mayPush_143 rfl ?_
                    refine w_sub (lc' := [(0, vR G (29, 0)), (1, vI d), (2, vI 0), (3, vI ((i + 1 : Nat) : Int))]) [0, 1, 2, 3] rfl ?_
                    exact ih4 (i + 1) 0 (by omega) (by omega) (by first | exact Or.inl rfl | exact Or.inr rfl) (by first | exact ⟨fun _ j hj => by rcases Nat.lt_or_ge j i with q | q; exact hme.mp (by omega) j q; rw [show j = i by omega]; exact fun he => by constructor <;> omega, fun _ => rfl⟩ | exact ⟨fun w1 => absurd w1 (by decide), fun w1 => by exfalso; have a1 := hme.mpr (fun j hj => w1 j (by omega)); have a2 := w1 i (by omega); omega⟩)
                  · refine r_iconst (pc' := 135) X dX9_mayPush_134 rfl ?_
                    refine r_goto (tgt := 139) X dX9_mayPush_135 rfl ?_
                    refine r_istore_n (pc' := 140) (lc' := [(0, vR G (29, 0)), (1, vI d), (2, vI 1), (3, vI (i : Int)), (4, vI ((M 29 3 i) * (M 29 13 38)))]) X [1, 2, 0, 3, 4] dX9_mayPush_139 rfl (by decide) rfl rfl ?_
                    refine r_iinc (pc' := 143) (z' := ((i + 1 : Nat) : Int)) (lc' := [(0, vR G (29, 0)), (1, vI d), (2, vI 1), (3, vI ((i + 1 : Nat) : Int)), (4, vI ((M 29 3 i) * (M 29 13 38)))]) X 3 [1, 2, 3, 0, 4] dX9_mayPush_140 rfl (by omega) (by decide) rfl rfl ?_
                    refine r_goto (tgt := 4) X dX9_mayPush_143 rfl ?_
                    refine w_sub (lc' := [(0, vR G (29, 0)), (1, vI d), (2, vI 1), (3, vI ((i + 1 : Nat) : Int))]) [0, 1, 2, 3] rfl ?_
                    exact ih4 (i + 1) 1 (by omega) (by omega) (by first | exact Or.inl rfl | exact Or.inr rfl) (by first | exact ⟨fun _ j hj => by rcases Nat.lt_or_ge j i with q | q; exact hme.mp (by omega) j q; rw [show j = i by omega]; exact fun he => by constructor <;> omega, fun _ => rfl⟩ | exact ⟨fun w1 => absurd w1 (by decide), fun w1 => by exfalso; have a1 := hme.mpr (fun j hj => w1 j (by omega)); have a2 := w1 i (by omega); omega⟩)
  exact L4 ((N - 0) + 1) 0 1 (Nat.lt_succ_self _) (by omega) (Or.inr rfl) ⟨fun _ j h => absurd h (Nat.not_lt_zero j), fun _ => rfl⟩
theorem cf_X9_unknown : wCal yX9_unknown cX9_unknown 5 (some .int) 1 := ⟨gw_1297, gw_10, by decide, by decide, by rfl⟩
set_option maxRecDepth 100000 in
set_option maxHeartbeats 4000000 in
theorem c_X9_unknown (l : Launch) (G : wG) (M : wM) (N P : Nat) (pv : Nat → Nat → Int) (hp : PlOk pv N P) (hq : PEq N P pv (M 29)) (w : Nat → Nat → Int) (T : Int) (hm : MoOk w N P T) (hT6 : T ≤ 1000000) (hv : REq N P w (M 29 13)) (b0 : Int) (hb0 : b0 = 0 ∨ b0 = 1) : Met l yX9_unknown (gws yX9_unknown cX9_unknown 5 (some .int)) (wrm 1 0 0) (wPc G M [vR G (29, 0), vI b0]) (wQi G (fun z M1 => (M1 29 0 0 = 0 ∧ RScr M M1 ∧ w 0 9 ≠ 0 ∧ expl N pv w z ∧ (-(w 0 11) ≤ z ∧ z ≤ w 0 11) ∧ (∀ d, -(w 0 11) ≤ d → d ≤ w 0 11 → expl N pv w d → if b0 = 1 then d ≤ z else z ≤ d)) ∨ (M1 29 0 0 = 1 ∧ RScr M M1 ∧ (w 0 9 = 0 ∨ ∀ d, -(w 0 11) ≤ d → d ≤ w 0 11 → ¬ expl N pv w d)))) 0 0 (wA G) := by
  refine wMet (lc := [(0, vR G (29, 0)), (1, vI b0)]) (by decide) (Nat.le_of_ble_eq_true rfl) rfl ?_
  intro p e s m args below meth c X hr
  have X : wX p s m args meth c G 5 "StateObserverModel" cX9_unknown := X
  obtain ⟨hN, hN1, hN4, hP, hP1, hP3, hA, hB, hE, hC, hQ⟩ := id hp
  obtain ⟨qN, qP, qA, qB, qE, qC, qQ⟩ := id hq
  obtain ⟨hT, hL, hU, hS, hG, hY, hAg, hHo, hBo, hTi, hLi, hLb, hLl, hLh⟩ := id hm
  obtain ⟨v1, v2, v3, v28, v29, v30, v38, v39, v37⟩ := id hv
  refine r_iconst (pc' := 1) X dX9_unknown_0 rfl ?_
  refine r_istore_n (pc' := 2) (lc' := [(0, vR G (29, 0)), (1, vI b0), (2, vI 0)]) X [1, 2, 0] dX9_unknown_1 rfl (by decide) rfl rfl ?_
  refine r_iconst (pc' := 3) X dX9_unknown_2 rfl ?_
  refine r_istore_n (pc' := 4) (lc' := [(0, vR G (29, 0)), (1, vI b0), (2, vI 0), (3, vI 0)]) X [1, 2, 3, 0] dX9_unknown_3 rfl (by decide) rfl rfl ?_
  refine r_aload_n (pc' := 5) X 0 dX9_unknown_4 rfl rfl rfl ?_
  refine gf_29_now (pc' := 8) X gw_987 dX9_unknown_5 rfl ?_
  refine r_bipush (pc' := 10) X dX9_unknown_8 rfl rfl ?_
  refine r_iald (i := 39) (pc' := 11) X k29_13 (by omega) (by omega) (by decide) dX9_unknown_10 rfl ?_
  refine r_ineg (pc' := 12) X dX9_unknown_11 rfl ?_
  refine w_eqI (z' := (-(w 0 11))) (by rw [v39]) ?_
  refine r_istore (pc' := 14) (lc' := [(0, vR G (29, 0)), (1, vI b0), (2, vI 0), (3, vI 0), (4, vI (-(w 0 11)))]) X [1, 2, 3, 4, 0] dX9_unknown_12 (by decide) rfl rfl ?_
  have L14 : ∀ (fu : Nat) (dd : Int) (fo : Int) (an : Int), (w 0 11 + 1 - dd).toNat < fu → (-(w 0 11) ≤ dd ∧ dd ≤ w 0 11 + 1) → (an = 0 ∨ an = 1) → (an = 0 → ∀ x, -(w 0 11) ≤ x → x < dd → ¬ expl N pv w x) → (an = 1 → w 0 9 ≠ 0 ∧ expl N pv w fo ∧ (-(w 0 11) ≤ fo ∧ fo < dd) ∧ ∀ x, -(w 0 11) ≤ x → x < dd → expl N pv w x → if b0 = 1 then x ≤ fo else fo ≤ x) → wV p l e (wrm 1 0 0) s m args below meth c G 5 M 0 0 (MQ below (wQi G (fun z M1 => (M1 29 0 0 = 0 ∧ RScr M M1 ∧ w 0 9 ≠ 0 ∧ expl N pv w z ∧ (-(w 0 11) ≤ z ∧ z ≤ w 0 11) ∧ (∀ d, -(w 0 11) ≤ d → d ≤ w 0 11 → expl N pv w d → if b0 = 1 then d ≤ z else z ≤ d)) ∨ (M1 29 0 0 = 1 ∧ RScr M M1 ∧ (w 0 9 = 0 ∨ ∀ d, -(w 0 11) ≤ d → d ≤ w 0 11 → ¬ expl N pv w d)))) args s 0 0 (wA G)) 14 [(0, vR G (29, 0)), (1, vI b0), (2, vI fo), (3, vI an), (4, vI dd)] [] := by
    intro fu
    induction fu with
    | zero => intro dd fo an hfu; exact absurd hfu (Nat.not_lt_zero _)
    | succ fu ih14 =>
      intro dd fo an hfu14 hdd han ha0 ha1
      refine r_iload (pc' := 16) X 4 dX9_unknown_14 rfl rfl ?_
      refine r_aload_n (pc' := 17) X 0 dX9_unknown_16 rfl rfl rfl ?_
      refine gf_29_now (pc' := 20) X gw_987 dX9_unknown_17 rfl ?_
      refine r_bipush (pc' := 22) X dX9_unknown_20 rfl rfl ?_
      refine r_iald (i := 39) (pc' := 23) X k29_13 (by omega) (by omega) (by decide) dX9_unknown_22 rfl ?_
      refine r_icmp_gt (pc' := 26) (tgt := 65) X dX9_unknown_23 rfl rfl (by omega) (by omega) (fun h23 => ?_) (fun h23 => ?_)
      · have hend : (an = 1 → dd = w 0 11 + 1) ∧ (an = 0 → w 0 9 = 0 ∨ dd = w 0 11 + 1) := by
          refine ⟨fun q => ?_, fun q => ?_⟩
          · have := (ha1 q).1
            rw [if_neg this] at v37
            omega
          · by_cases c1 : w 0 9 = 0
            · exact Or.inl c1
            · rw [if_neg c1] at v37
              exact Or.inr (by omega)
        refine r_aload_n (pc' := 66) X 0 dX9_unknown_65 rfl rfl rfl ?_
        refine r_iload_n (pc' := 67) X 3 dX9_unknown_66 rfl rfl rfl ?_
        refine r_if_eq (pc' := 70) (tgt := 74) X dX9_unknown_67 rfl rfl (by omega) (fun h67 => ?_) (fun h67 => ?_)
        · refine r_iconst (pc' := 75) X dX9_unknown_74 rfl ?_
          refine w_calli (pc' := 78) (st := []) (w_runV X (c_X9_refused l G M 1 (by first | assumption | omega)) cf_X9_refused k29_0 rfl gw_1087 gp_25 rfl rfl ⟨Nat.le_of_ble_eq_true rfl, Nat.le_of_ble_eq_true rfl⟩ rfl rfl (Nat.le_of_ble_eq_true rfl) ⟨Nat.le_of_ble_eq_true rfl, Nat.le_of_ble_eq_true rfl⟩ gw_1085 dX9_unknown_75) rfl (fun z75 M1 h75 => ?_)
          have hz75 : z75 = 1 := by rw [h75.1]; rfl
          have ew75 : ∀ a b x, ¬ (a = 29 ∧ b = 0 ∧ x = 0) → M1 a b x = M a b x := fun a b x q => by rw [h75.2]; unfold wu; rw [if_neg q]
          have er75 : M1 29 0 0 = 1 := by rw [h75.2]; unfold wu; rw [if_pos ⟨rfl, rfl, rfl⟩]
          have sc75 : RScr M M1 := fun a b x q => ew75 a b x (by omega)
          have qq75 : PEq N P pv (M1 29) := hq.keep (fun b x q => ew75 29 b x (by omega))
          refine r_if_eq (pc' := 81) (tgt := 85) X dX9_unknown_78 rfl rfl (by omega) (fun h78 => by exfalso; omega) (fun h78 => ?_)
          refine r_iconst (pc' := 82) X dX9_unknown_81 rfl ?_
          refine r_goto (tgt := 86) X dX9_unknown_82 rfl ?_
          refine w_iret X hr dX9_unknown_86 ?_
          try dsimp only
          refine Or.inr ⟨er75, sc75, ?_⟩
          rcases hend.2 (by omega) with q | q
          · exact Or.inl q
          · exact Or.inr fun x h1 h2 => ha0 (by omega) x h1 (by omega)
        · refine r_iconst (pc' := 71) X dX9_unknown_70 rfl ?_
          refine r_goto (tgt := 75) X dX9_unknown_71 rfl ?_
          refine w_calli (pc' := 78) (st := []) (w_runV X (c_X9_refused l G M 0 (by first | assumption | omega)) cf_X9_refused k29_0 rfl gw_1087 gp_25 rfl rfl ⟨Nat.le_of_ble_eq_true rfl, Nat.le_of_ble_eq_true rfl⟩ rfl rfl (Nat.le_of_ble_eq_true rfl) ⟨Nat.le_of_ble_eq_true rfl, Nat.le_of_ble_eq_true rfl⟩ gw_1085 dX9_unknown_75) rfl (fun z75 M2 h75 => ?_)
          have hz75 : z75 = 0 := by rw [h75.1]; rfl
          have ew75 : ∀ a b x, ¬ (a = 29 ∧ b = 0 ∧ x = 0) → M2 a b x = M a b x := fun a b x q => by rw [h75.2]; unfold wu; rw [if_neg q]
          have er75 : M2 29 0 0 = 0 := by rw [h75.2]; unfold wu; rw [if_pos ⟨rfl, rfl, rfl⟩]
          have sc75 : RScr M M2 := fun a b x q => ew75 a b x (by omega)
          have qq75 : PEq N P pv (M2 29) := hq.keep (fun b x q => ew75 29 b x (by omega))
          refine r_if_eq (pc' := 81) (tgt := 85) X dX9_unknown_78 rfl rfl (by omega) (fun h78 => ?_) (fun h78 => by exfalso; omega)
          refine r_iload_n (pc' := 86) X 2 dX9_unknown_85 rfl rfl rfl ?_
          refine w_iret X hr dX9_unknown_86 ?_
          try dsimp only
          have a1 := ha1 (by omega)
          have a2 := hend.1 (by omega)
          exact Or.inl ⟨er75, sc75, a1.1, a1.2.1, by omega, fun x h1 h2 h3 => a1.2.2.2 x h1 (by omega) h3⟩
      · refine r_aload_n (pc' := 27) X 0 dX9_unknown_26 rfl rfl rfl ?_
        refine gf_29_now (pc' := 30) X gw_987 dX9_unknown_27 rfl ?_
        refine r_bipush (pc' := 32) X dX9_unknown_30 rfl rfl ?_
        refine r_iald (i := 37) (pc' := 33) X k29_13 (by omega) (by omega) (by decide) dX9_unknown_32 rfl ?_
        have r37 : M 29 13 37 = 0 ∨ M 29 13 37 = 1 := by rw [v37]; split <;> omega
        refine r_iconst (pc' := 34) X dX9_unknown_33 rfl ?_
        refine r_icmp_ne (pc' := 37) (tgt := 65) X dX9_unknown_34 rfl rfl (by omega) (by omega) (fun h34 => ?_) (fun h34 => ?_)
        · have hend : (an = 1 → dd = w 0 11 + 1) ∧ (an = 0 → w 0 9 = 0 ∨ dd = w 0 11 + 1) := by
            refine ⟨fun q => ?_, fun q => ?_⟩
            · have := (ha1 q).1
              rw [if_neg this] at v37
              omega
            · by_cases c1 : w 0 9 = 0
              · exact Or.inl c1
              · rw [if_neg c1] at v37
                exact Or.inr (by omega)
          refine r_aload_n (pc' := 66) X 0 dX9_unknown_65 rfl rfl rfl ?_
          refine r_iload_n (pc' := 67) X 3 dX9_unknown_66 rfl rfl rfl ?_
          refine r_if_eq (pc' := 70) (tgt := 74) X dX9_unknown_67 rfl rfl (by omega) (fun h67 => ?_) (fun h67 => ?_)
          · refine r_iconst (pc' := 75) X dX9_unknown_74 rfl ?_
            refine w_calli (pc' := 78) (st := []) (w_runV X (c_X9_refused l G M 1 (by first | assumption | omega)) cf_X9_refused k29_0 rfl gw_1087 gp_25 rfl rfl ⟨Nat.le_of_ble_eq_true rfl, Nat.le_of_ble_eq_true rfl⟩ rfl rfl (Nat.le_of_ble_eq_true rfl) ⟨Nat.le_of_ble_eq_true rfl, Nat.le_of_ble_eq_true rfl⟩ gw_1085 dX9_unknown_75) rfl (fun z75 M3 h75 => ?_)
            have hz75 : z75 = 1 := by rw [h75.1]; rfl
            have ew75 : ∀ a b x, ¬ (a = 29 ∧ b = 0 ∧ x = 0) → M3 a b x = M a b x := fun a b x q => by rw [h75.2]; unfold wu; rw [if_neg q]
            have er75 : M3 29 0 0 = 1 := by rw [h75.2]; unfold wu; rw [if_pos ⟨rfl, rfl, rfl⟩]
            have sc75 : RScr M M3 := fun a b x q => ew75 a b x (by omega)
            have qq75 : PEq N P pv (M3 29) := hq.keep (fun b x q => ew75 29 b x (by omega))
            refine r_if_eq (pc' := 81) (tgt := 85) X dX9_unknown_78 rfl rfl (by omega) (fun h78 => by exfalso; omega) (fun h78 => ?_)
            refine r_iconst (pc' := 82) X dX9_unknown_81 rfl ?_
            refine r_goto (tgt := 86) X dX9_unknown_82 rfl ?_
            refine w_iret X hr dX9_unknown_86 ?_
            try dsimp only
            refine Or.inr ⟨er75, sc75, ?_⟩
            rcases hend.2 (by omega) with q | q
            · exact Or.inl q
            · exact Or.inr fun x h1 h2 => ha0 (by omega) x h1 (by omega)
          · refine r_iconst (pc' := 71) X dX9_unknown_70 rfl ?_
            refine r_goto (tgt := 75) X dX9_unknown_71 rfl ?_
            refine w_calli (pc' := 78) (st := []) (w_runV X (c_X9_refused l G M 0 (by first | assumption | omega)) cf_X9_refused k29_0 rfl gw_1087 gp_25 rfl rfl ⟨Nat.le_of_ble_eq_true rfl, Nat.le_of_ble_eq_true rfl⟩ rfl rfl (Nat.le_of_ble_eq_true rfl) ⟨Nat.le_of_ble_eq_true rfl, Nat.le_of_ble_eq_true rfl⟩ gw_1085 dX9_unknown_75) rfl (fun z75 M4 h75 => ?_)
            have hz75 : z75 = 0 := by rw [h75.1]; rfl
            have ew75 : ∀ a b x, ¬ (a = 29 ∧ b = 0 ∧ x = 0) → M4 a b x = M a b x := fun a b x q => by rw [h75.2]; unfold wu; rw [if_neg q]
            have er75 : M4 29 0 0 = 0 := by rw [h75.2]; unfold wu; rw [if_pos ⟨rfl, rfl, rfl⟩]
            have sc75 : RScr M M4 := fun a b x q => ew75 a b x (by omega)
            have qq75 : PEq N P pv (M4 29) := hq.keep (fun b x q => ew75 29 b x (by omega))
            refine r_if_eq (pc' := 81) (tgt := 85) X dX9_unknown_78 rfl rfl (by omega) (fun h78 => ?_) (fun h78 => by exfalso; omega)
            refine r_iload_n (pc' := 86) X 2 dX9_unknown_85 rfl rfl rfl ?_
            refine w_iret X hr dX9_unknown_86 ?_
            try dsimp only
            have a1 := ha1 (by omega)
            have a2 := hend.1 (by omega)
            exact Or.inl ⟨er75, sc75, a1.1, a1.2.1, by omega, fun x h1 h2 h3 => a1.2.2.2 x h1 (by omega) h3⟩
        · refine r_aload_n (pc' := 38) X 0 dX9_unknown_37 rfl rfl rfl ?_
          refine r_iload (pc' := 40) X 4 dX9_unknown_38 rfl rfl ?_
          refine w_calli (pc' := 43) (st := []) (w_runV X (c_X9_mayPush l G M N P pv (by first | assumption | omega) (by first | assumption | omega) w T (by first | assumption | omega) (by first | assumption | omega) (by first | assumption | omega) dd (by omega)) cf_X9_mayPush k29_0 rfl gw_1300 gp_50 rfl rfl ⟨Nat.le_of_ble_eq_true rfl, Nat.le_of_ble_eq_true rfl⟩ rfl rfl (Nat.le_of_ble_eq_true rfl) ⟨Nat.le_of_ble_eq_true rfl, Nat.le_of_ble_eq_true rfl⟩ gw_1298 dX9_unknown_40) rfl (fun z40 M5 h40 => ?_)
          have hz40 := h40.1
          have hex := h40.2.1
          obtain rfl := h40.2.2.symm
          have hw9 : w 0 9 ≠ 0 := fun q => by rw [if_pos q] at v37; omega
          refine r_if_eq (pc' := 46) (tgt := 59) X dX9_unknown_43 rfl rfl (by omega) (fun h43 => ?_) (fun h43 => ?_)
          · refine r_iinc (pc' := 62) (z' := (dd + 1)) (lc' := [(0, vR G (29, 0)), (1, vI b0), (2, vI fo), (3, vI an), (4, vI (dd + 1))]) X 4 [1, 2, 3, 4, 0] dX9_unknown_59 rfl (by omega) (by decide) rfl rfl ?_
            refine r_goto (tgt := 14) X dX9_unknown_62 rfl ?_
            exact ih14 (dd + 1) fo an (by omega) (by omega) (by omega) (fun q x h1 h2 => by first | (exfalso; omega) | (rcases Int.lt_or_le x dd with c1 | c1; exact ha0 (by omega) x h1 c1; rw [show x = dd by omega]; intro h3; have := hex.mpr h3; omega)) (fun q => by
  first
    | (exfalso; omega)
    | (have a1 := ha1 (by omega)
       refine ⟨a1.1, a1.2.1, by omega, fun x h1 h2 h3 => ?_⟩
       rcases Int.lt_or_le x dd with c1 | c1
       · exact a1.2.2.2 x h1 c1 h3
       · have hxd : x = dd := by omega
         rw [hxd] at h3 ⊢
         have := hex.mpr h3
         first | (exfalso; omega) | (rw [if_neg (by omega)]; omega))
    | (refine ⟨hw9, hex.mp (by omega), by omega, fun x h1 h2 h3 => ?_⟩
       rcases Int.lt_or_le x dd with c1 | c1
       · by_cases can : an = 0
         · exact absurd h3 (ha0 can x h1 c1)
         · have a1 := (ha1 (by omega)).2.2.2 x h1 c1 h3
           first | (exfalso; omega) | (rw [if_pos (by omega)]; omega)
       · split <;> omega))
          · refine r_iload_n (pc' := 47) X 1 dX9_unknown_46 rfl rfl rfl ?_
            refine r_if_ne (pc' := 50) (tgt := 54) X dX9_unknown_47 rfl rfl (by omega) (fun h47 => ?_) (fun h47 => ?_)
            · refine r_iload (pc' := 56) X 4 dX9_unknown_54 rfl rfl ?_
              refine r_istore_n (pc' := 57) (lc' := [(0, vR G (29, 0)), (1, vI b0), (2, vI dd), (3, vI an), (4, vI dd)]) X [1, 2, 0, 3, 4] dX9_unknown_56 rfl (by decide) rfl rfl ?_
              refine r_iconst (pc' := 58) X dX9_unknown_57 rfl ?_
              refine r_istore_n (pc' := 59) (lc' := [(0, vR G (29, 0)), (1, vI b0), (2, vI dd), (3, vI 1), (4, vI dd)]) X [1, 2, 3, 0, 4] dX9_unknown_58 rfl (by decide) rfl rfl ?_
              refine r_iinc (pc' := 62) (z' := (dd + 1)) (lc' := [(0, vR G (29, 0)), (1, vI b0), (2, vI dd), (3, vI 1), (4, vI (dd + 1))]) X 4 [1, 2, 3, 4, 0] dX9_unknown_59 rfl (by omega) (by decide) rfl rfl ?_
              refine r_goto (tgt := 14) X dX9_unknown_62 rfl ?_
              exact ih14 (dd + 1) dd 1 (by omega) (by omega) (by omega) (fun q x h1 h2 => by first | (exfalso; omega) | (rcases Int.lt_or_le x dd with c1 | c1; exact ha0 (by omega) x h1 c1; rw [show x = dd by omega]; intro h3; have := hex.mpr h3; omega)) (fun q => by
  first
    | (exfalso; omega)
    | (have a1 := ha1 (by omega)
       refine ⟨a1.1, a1.2.1, by omega, fun x h1 h2 h3 => ?_⟩
       rcases Int.lt_or_le x dd with c1 | c1
       · exact a1.2.2.2 x h1 c1 h3
       · have hxd : x = dd := by omega
         rw [hxd] at h3 ⊢
         have := hex.mpr h3
         first | (exfalso; omega) | (rw [if_neg (by omega)]; omega))
    | (refine ⟨hw9, hex.mp (by omega), by omega, fun x h1 h2 h3 => ?_⟩
       rcases Int.lt_or_le x dd with c1 | c1
       · by_cases can : an = 0
         · exact absurd h3 (ha0 can x h1 c1)
         · have a1 := (ha1 (by omega)).2.2.2 x h1 c1 h3
           first | (exfalso; omega) | (rw [if_pos (by omega)]; omega)
       · split <;> omega))
            · refine r_iload_n (pc' := 51) X 3 dX9_unknown_50 rfl rfl rfl ?_
              refine r_if_ne (pc' := 54) (tgt := 59) X dX9_unknown_51 rfl rfl (by omega) (fun h51 => ?_) (fun h51 => ?_)
              · refine r_iinc (pc' := 62) (z' := (dd + 1)) (lc' := [(0, vR G (29, 0)), (1, vI b0), (2, vI fo), (3, vI an), (4, vI (dd + 1))]) X 4 [1, 2, 3, 4, 0] dX9_unknown_59 rfl (by omega) (by decide) rfl rfl ?_
                refine r_goto (tgt := 14) X dX9_unknown_62 rfl ?_
                exact ih14 (dd + 1) fo an (by omega) (by omega) (by omega) (fun q x h1 h2 => by first | (exfalso; omega) | (rcases Int.lt_or_le x dd with c1 | c1; exact ha0 (by omega) x h1 c1; rw [show x = dd by omega]; intro h3; have := hex.mpr h3; omega)) (fun q => by
  first
    | (exfalso; omega)
    | (have a1 := ha1 (by omega)
       refine ⟨a1.1, a1.2.1, by omega, fun x h1 h2 h3 => ?_⟩
       rcases Int.lt_or_le x dd with c1 | c1
       · exact a1.2.2.2 x h1 c1 h3
       · have hxd : x = dd := by omega
         rw [hxd] at h3 ⊢
         have := hex.mpr h3
         first | (exfalso; omega) | (rw [if_neg (by omega)]; omega))
    | (refine ⟨hw9, hex.mp (by omega), by omega, fun x h1 h2 h3 => ?_⟩
       rcases Int.lt_or_le x dd with c1 | c1
       · by_cases can : an = 0
         · exact absurd h3 (ha0 can x h1 c1)
         · have a1 := (ha1 (by omega)).2.2.2 x h1 c1 h3
           first | (exfalso; omega) | (rw [if_pos (by omega)]; omega)
       · split <;> omega))
              · refine r_iload (pc' := 56) X 4 dX9_unknown_54 rfl rfl ?_
                refine r_istore_n (pc' := 57) (lc' := [(0, vR G (29, 0)), (1, vI b0), (2, vI dd), (3, vI an), (4, vI dd)]) X [1, 2, 0, 3, 4] dX9_unknown_56 rfl (by decide) rfl rfl ?_
                refine r_iconst (pc' := 58) X dX9_unknown_57 rfl ?_
                refine r_istore_n (pc' := 59) (lc' := [(0, vR G (29, 0)), (1, vI b0), (2, vI dd), (3, vI 1), (4, vI dd)]) X [1, 2, 3, 0, 4] dX9_unknown_58 rfl (by decide) rfl rfl ?_
                refine r_iinc (pc' := 62) (z' := (dd + 1)) (lc' := [(0, vR G (29, 0)), (1, vI b0), (2, vI dd), (3, vI 1), (4, vI (dd + 1))]) X 4 [1, 2, 3, 4, 0] dX9_unknown_59 rfl (by omega) (by decide) rfl rfl ?_
                refine r_goto (tgt := 14) X dX9_unknown_62 rfl ?_
                exact ih14 (dd + 1) dd 1 (by omega) (by omega) (by omega) (fun q x h1 h2 => by first | (exfalso; omega) | (rcases Int.lt_or_le x dd with c1 | c1; exact ha0 (by omega) x h1 c1; rw [show x = dd by omega]; intro h3; have := hex.mpr h3; omega)) (fun q => by
  first
    | (exfalso; omega)
    | (have a1 := ha1 (by omega)
       refine ⟨a1.1, a1.2.1, by omega, fun x h1 h2 h3 => ?_⟩
       rcases Int.lt_or_le x dd with c1 | c1
       · exact a1.2.2.2 x h1 c1 h3
       · have hxd : x = dd := by omega
         rw [hxd] at h3 ⊢
         have := hex.mpr h3
         first | (exfalso; omega) | (rw [if_neg (by omega)]; omega))
    | (refine ⟨hw9, hex.mp (by omega), by omega, fun x h1 h2 h3 => ?_⟩
       rcases Int.lt_or_le x dd with c1 | c1
       · by_cases can : an = 0
         · exact absurd h3 (ha0 can x h1 c1)
         · have a1 := (ha1 (by omega)).2.2.2 x h1 c1 h3
           first | (exfalso; omega) | (rw [if_pos (by omega)]; omega)
       · split <;> omega))
  exact L14 (((w 0 11 + 1 - (-(w 0 11))).toNat) + 1) (-(w 0 11)) 0 0 (Nat.lt_succ_self _) (by omega) (Or.inl rfl) (fun _ x h1 h2 => absurd h2 (by omega)) (fun q => absurd q (by decide))
theorem cf_X9_touched : wCal yX9_touched cX9_touched 5 (some .int) 0 := ⟨gw_1346, gw_10, by decide, by decide, by rfl⟩
set_option maxRecDepth 100000 in
set_option maxHeartbeats 4000000 in
theorem c_X9_touched (l : Launch) (G : wG) (M : wM) (N P : Nat) (pv : Nat → Nat → Int) (hp : PlOk pv N P) (hq : PEq N P pv (M 29)) : Met l yX9_touched (gws yX9_touched cX9_touched 5 (some .int)) (wrm 0 0 0) (wPc G M [vR G (29, 0)]) (wQi G (fun z M1 => z = tch N pv P ∧ M1 29 0 0 = 0 ∧ RScr M M1)) 0 0 (wA G) := by
  refine wMet (lc := [(0, vR G (29, 0))]) (by decide) (Nat.le_of_ble_eq_true rfl) rfl ?_
  intro p e s m args below meth c X hr
  have X : wX p s m args meth c G 5 "StateObserverModel" cX9_touched := X
  obtain ⟨hN, hN1, hN4, hP, hP1, hP3, hA, hB, hE, hC, hQ⟩ := id hp
  obtain ⟨qN, qP, qA, qB, qE, qC, qQ⟩ := id hq
  refine r_aload_n (pc' := 1) X 0 dX9_touched_0 rfl rfl rfl ?_
  refine r_iconst (pc' := 2) X dX9_touched_1 rfl ?_
  refine pf_29_refusal (pc' := 5) X gw_967 dX9_touched_2 rfl (fun M1 hM1 => ?_)
  have ew : ∀ a b x, ¬ (a = 29 ∧ b = 0 ∧ x = 0) → M1 a b x = M a b x := fun a b x q => by rw [hM1]; unfold wu; rw [if_neg q]
  obtain ⟨sN, sP, sA, sB, sE, sC, sQ⟩ := hq.keep (fun b x q => ew 29 b x (by omega))
  refine r_iconst (pc' := 6) X dX9_touched_5 rfl ?_
  refine r_istore_n (pc' := 7) (lc' := [(0, vR G (29, 0)), (1, vI 0)]) X [1, 0] dX9_touched_6 rfl (by decide) rfl rfl ?_
  refine r_iconst (pc' := 8) X dX9_touched_7 rfl ?_
  refine r_istore_n (pc' := 9) (lc' := [(0, vR G (29, 0)), (1, vI 0), (2, vI 0)]) X [1, 2, 0] dX9_touched_8 rfl (by decide) rfl rfl ?_
  have L9 : ∀ (fu : Nat) (k : Nat) (sm : Int), P - k < fu → (k ≤ P) → (sm = tch N pv k) → wV p l e (wrm 0 0 0) s m args below meth c G 5 M1 0 0 (MQ below (wQi G (fun z M1 => z = tch N pv P ∧ M1 29 0 0 = 0 ∧ RScr M M1)) args s 0 0 (wA G)) 9 [(0, vR G (29, 0)), (1, vI sm), (2, vI (k : Int))] [] := by
    intro fu
    induction fu with
    | zero => intro k sm hfu; exact absurd hfu (Nat.not_lt_zero _)
    | succ fu ih9 =>
      intro k sm hfu9 hk0 hsm
      refine r_iload_n (pc' := 10) X 2 dX9_touched_9 rfl rfl rfl ?_
      refine r_aload_n (pc' := 11) X 0 dX9_touched_10 rfl rfl rfl ?_
      refine gf_29_outputs (pc' := 14) X gw_973 dX9_touched_11 rfl ?_
      refine r_icmp_ge (pc' := 17) (tgt := 79) X dX9_touched_14 rfl rfl (by omega) (by omega) (fun h14 => ?_) (fun h14 => ?_)
      · refine r_iload_n (pc' := 80) X 1 dX9_touched_79 rfl rfl rfl ?_
        refine w_iret X hr dX9_touched_80 ?_
        try dsimp only
        rw [hsm, show k = P by omega]
        exact ⟨rfl, by rw [hM1]; unfold wu; rw [if_pos ⟨rfl, rfl, rfl⟩], fun a b x q => ew a b x (by omega)⟩
      · refine r_iconst (pc' := 18) X dX9_touched_17 rfl ?_
        refine r_istore_n (pc' := 19) (lc' := [(0, vR G (29, 0)), (1, vI sm), (2, vI (k : Int)), (3, vI 0)]) X [1, 2, 3, 0] dX9_touched_18 rfl (by decide) rfl rfl ?_
        refine r_iconst (pc' := 20) X dX9_touched_19 rfl ?_
        refine r_istore (pc' := 22) (lc' := [(0, vR G (29, 0)), (1, vI sm), (2, vI (k : Int)), (3, vI 0), (4, vI 0)]) X [1, 2, 3, 4, 0] dX9_touched_20 (by decide) rfl rfl ?_
        have L22 : ∀ (fu : Nat) (j : Nat) (t : Int), N - j < fu → (j ≤ N) → (t = dot j (pv (9 + k)) (pv 7)) → wV p l e (wrm 0 0 0) s m args below meth c G 5 M1 0 0 (MQ below (wQi G (fun z M1 => z = tch N pv P ∧ M1 29 0 0 = 0 ∧ RScr M M1)) args s 0 0 (wA G)) 22 [(0, vR G (29, 0)), (1, vI sm), (2, vI (k : Int)), (3, vI t), (4, vI (j : Int))] [] := by
          intro fu
          induction fu with
          | zero => intro j t hfu; exact absurd hfu (Nat.not_lt_zero _)
          | succ fu ih22 =>
            intro j t hfu22 hj0 ht
            refine r_iload (pc' := 24) X 4 dX9_touched_22 rfl rfl ?_
            refine r_aload_n (pc' := 25) X 0 dX9_touched_24 rfl rfl rfl ?_
            refine gf_29_states (pc' := 28) X gw_972 dX9_touched_25 rfl ?_
            refine r_icmp_ge (pc' := 31) (tgt := 59) X dX9_touched_28 rfl rfl (by omega) (by omega) (fun h28 => ?_) (fun h28 => ?_)
            · have hdb := dot_bd (A := 99) (B := 99) (by decide) (by decide) (n := N) (f := pv (9 + k)) (g := pv 7) (fun j hj => hC k j (by omega) hj) hE
              have ht2 : t = dot N (pv (9 + k)) (pv 7) := by rw [ht, show j = N by omega]
              refine r_iload_n (pc' := 60) X 1 dX9_touched_59 rfl rfl rfl ?_
              refine r_iload_n (pc' := 61) X 3 dX9_touched_60 rfl rfl rfl ?_
              refine r_if_eq (pc' := 64) (tgt := 70) X dX9_touched_61 rfl rfl (by omega) (fun h61 => ?_) (fun h61 => ?_)
              · refine r_iconst (pc' := 71) X dX9_touched_70 rfl ?_
                refine r_ior (pc' := 72) X dX9_touched_71 rfl ?_
                refine r_istore_n (pc' := 73) (lc' := [(0, vR G (29, 0)), (1, vI (orI sm 0)), (2, vI (k : Int)), (3, vI t), (4, vI (j : Int))]) X [1, 0, 2, 3, 4] dX9_touched_72 rfl (by decide) rfl rfl ?_
                refine r_iinc (pc' := 76) (z' := ((k + 1 : Nat) : Int)) (lc' := [(0, vR G (29, 0)), (1, vI (orI sm 0)), (2, vI ((k + 1 : Nat) : Int)), (3, vI t), (4, vI (j : Int))]) X 2 [1, 2, 0, 3, 4] dX9_touched_73 rfl (by omega) (by decide) rfl rfl ?_
                refine r_goto (tgt := 9) X dX9_touched_76 rfl ?_
                refine w_sub (lc' := [(0, vR G (29, 0)), (1, vI (orI sm 0)), (2, vI ((k + 1 : Nat) : Int))]) [0, 1, 2] rfl ?_
                exact ih9 (k + 1) (orI sm 0) (by omega) (by omega) (by rw [hsm]; show _ = (if dot N (pv (9 + k)) (pv 7) = 0 then _ else _); first | (rw [if_pos (by omega)]; exact orI_zero (tch_rng k)) | rw [if_neg (by omega)])
              · refine r_iconst (pc' := 65) X dX9_touched_64 rfl ?_
                refine r_iload_n (pc' := 66) X 2 dX9_touched_65 rfl rfl rfl ?_
                refine r_ishl (pc' := 67) X dX9_touched_66 rfl ?_
                refine r_goto (tgt := 71) X dX9_touched_67 rfl ?_
                refine r_ior (pc' := 72) X dX9_touched_71 rfl ?_
                refine r_istore_n (pc' := 73) (lc' := [(0, vR G (29, 0)), (1, vI (orI sm (shlI 1 (k : Int)))), (2, vI (k : Int)), (3, vI t), (4, vI (j : Int))]) X [1, 0, 2, 3, 4] dX9_touched_72 rfl (by decide) rfl rfl ?_
                refine r_iinc (pc' := 76) (z' := ((k + 1 : Nat) : Int)) (lc' := [(0, vR G (29, 0)), (1, vI (orI sm (shlI 1 (k : Int)))), (2, vI ((k + 1 : Nat) : Int)), (3, vI t), (4, vI (j : Int))]) X 2 [1, 2, 0, 3, 4] dX9_touched_73 rfl (by omega) (by decide) rfl rfl ?_
                refine r_goto (tgt := 9) X dX9_touched_76 rfl ?_
                refine w_sub (lc' := [(0, vR G (29, 0)), (1, vI (orI sm (shlI 1 (k : Int)))), (2, vI ((k + 1 : Nat) : Int))]) [0, 1, 2] rfl ?_
                exact ih9 (k + 1) (orI sm (shlI 1 (k : Int))) (by omega) (by omega) (by rw [hsm]; show _ = (if dot N (pv (9 + k)) (pv 7) = 0 then _ else _); first | (rw [if_pos (by omega)]; exact orI_zero (tch_rng k)) | rw [if_neg (by omega)])
            · have qCj := sC k j (by omega) (by omega)
              have qEj := sE j (by omega)
              refine r_iload_n (pc' := 32) X 3 dX9_touched_31 rfl rfl rfl ?_
              refine r_aload_n (pc' := 33) X 0 dX9_touched_32 rfl rfl rfl ?_
              refine gf_29_view (pc' := 36) X gw_977 dX9_touched_33 rfl ?_
              refine r_iconst (pc' := 37) X dX9_touched_36 rfl ?_
              refine r_iload_n (pc' := 38) X 2 dX9_touched_37 rfl rfl rfl ?_
              refine r_imul (pc' := 39) X dX9_touched_38 rfl ?_
              refine r_iload (pc' := 41) X 4 dX9_touched_39 rfl rfl ?_
              refine r_iadd (pc' := 42) X dX9_touched_41 rfl ?_
              refine r_iald (i := (4 * k + j)) (pc' := 43) X k29_5 (by omega) (by omega) (by decide) dX9_touched_42 rfl ?_
              refine r_aload_n (pc' := 44) X 0 dX9_touched_43 rfl rfl rfl ?_
              refine gf_29_push (pc' := 47) X gw_976 dX9_touched_44 rfl ?_
              refine r_iload (pc' := 49) X 4 dX9_touched_47 rfl rfl ?_
              refine r_iald (i := j) (pc' := 50) X k29_4 (by omega) (by omega) (by decide) dX9_touched_49 rfl ?_
              refine r_imul (pc' := 51) X dX9_touched_50 rfl ?_
              refine r_iadd (pc' := 52) X dX9_touched_51 rfl ?_
              refine r_istore_n (pc' := 53) (lc' := [(0, vR G (29, 0)), (1, vI sm), (2, vI (k : Int)), (3, vI (t + ((M1 29 5 (4 * k + j)) * (M1 29 4 j)))), (4, vI (j : Int))]) X [1, 2, 3, 0, 4] dX9_touched_52 rfl (by decide) rfl rfl ?_
              refine r_iinc (pc' := 56) (z' := ((j + 1 : Nat) : Int)) (lc' := [(0, vR G (29, 0)), (1, vI sm), (2, vI (k : Int)), (3, vI (t + ((M1 29 5 (4 * k + j)) * (M1 29 4 j)))), (4, vI ((j + 1 : Nat) : Int))]) X 4 [1, 2, 3, 4, 0] dX9_touched_53 rfl (by omega) (by decide) rfl rfl ?_
              refine r_goto (tgt := 22) X dX9_touched_56 rfl ?_
              exact ih22 (j + 1) (t + ((M1 29 5 (4 * k + j)) * (M1 29 4 j))) (by omega) (by omega) (by rw [ht, qCj, qEj]; rfl)
        exact L22 ((N - 0) + 1) 0 0 (Nat.lt_succ_self _) (by omega) rfl
  exact L9 ((P - 0) + 1) 0 0 (Nat.lt_succ_self _) (by omega) rfl
theorem cf_X9_divisor : wCal yX9_divisor cX9_divisor 5 (some .int) 2 := ⟨gw_1357, gw_10, by decide, by decide, by rfl⟩
set_option maxRecDepth 100000 in
set_option maxHeartbeats 4000000 in
theorem c_X9_divisor (l : Launch) (G : wG) (M : wM) (v w0 : Int) (hv : -99 ≤ v ∧ v ≤ 99) (hw0 : -99 ≤ w0 ∧ w0 ≤ 99) : Met l yX9_divisor (gws yX9_divisor cX9_divisor 5 (some .int)) (wrm 1 0 0) (wPc G M [vI v, vI w0]) (wQi G (fun z M1 => z = ((Int.gcd v w0 : Nat) : Int) ∧ M1 = M)) 0 0 (wA G) := by
  refine wMet (lc := [(0, vI v), (1, vI w0)]) (by decide) (Nat.le_of_ble_eq_true rfl) rfl ?_
  intro p e s m args below meth c X hr
  have X : wX p s m args meth c G 5 "StateObserverModel" cX9_divisor := X
  refine r_iload_n (pc' := 1) X 0 dX9_divisor_0 rfl rfl rfl ?_
  refine w_calli (pc' := 4) (st := []) (w_runS X (c_X9_size l G M v (by first | assumption | omega)) cf_X9_size gw_1227 rfl rfl ⟨Nat.le_of_ble_eq_true rfl, Nat.le_of_ble_eq_true rfl⟩ rfl rfl (Nat.le_of_ble_eq_true rfl) ⟨Nat.le_of_ble_eq_true rfl, Nat.le_of_ble_eq_true rfl⟩ gw_1226 dX9_divisor_1) rfl (fun z1 M1 h1 => ?_)
  obtain rfl := h1.1.symm
  obtain rfl := h1.2.symm
  refine w_eqI (z' := ((v.natAbs : Nat) : Int)) rfl ?_
  refine r_istore_n (pc' := 5) (lc' := [(0, vI v), (1, vI w0), (2, vI ((v.natAbs : Nat) : Int))]) X [1, 2, 0] dX9_divisor_4 rfl (by decide) rfl rfl ?_
  refine r_iload_n (pc' := 6) X 1 dX9_divisor_5 rfl rfl rfl ?_
  refine w_calli (pc' := 9) (st := []) (w_runS X (c_X9_size l G M w0 (by first | assumption | omega)) cf_X9_size gw_1227 rfl rfl ⟨Nat.le_of_ble_eq_true rfl, Nat.le_of_ble_eq_true rfl⟩ rfl rfl (Nat.le_of_ble_eq_true rfl) ⟨Nat.le_of_ble_eq_true rfl, Nat.le_of_ble_eq_true rfl⟩ gw_1226 dX9_divisor_6) rfl (fun z6 M2 h6 => ?_)
  obtain rfl := h6.1.symm
  obtain rfl := h6.2.symm
  refine w_eqI (z' := ((w0.natAbs : Nat) : Int)) rfl ?_
  refine r_istore_n (pc' := 10) (lc' := [(0, vI v), (1, vI w0), (2, vI ((v.natAbs : Nat) : Int)), (3, vI ((w0.natAbs : Nat) : Int))]) X [1, 2, 3, 0] dX9_divisor_9 rfl (by decide) rfl rfl ?_
  have L10 : ∀ (fu : Nat) (a : Nat) (b : Nat), b < fu → (a ≤ 99 ∧ b ≤ 99) → (Nat.gcd a b = Int.gcd v w0) → wV p l e (wrm 1 0 0) s m args below meth c G 5 M 0 0 (MQ below (wQi G (fun z M1 => z = ((Int.gcd v w0 : Nat) : Int) ∧ M1 = M)) args s 0 0 (wA G)) 10 [(0, vI v), (1, vI w0), (2, vI (a : Int)), (3, vI (b : Int))] [] := by
    intro fu
    induction fu with
    | zero => intro a b hfu; exact absurd hfu (Nat.not_lt_zero _)
    | succ fu ih10 =>
      intro a b hfu10 hab hg
      refine r_iload_n (pc' := 11) X 3 dX9_divisor_10 rfl rfl rfl ?_
      refine r_if_eq (pc' := 14) (tgt := 27) X dX9_divisor_11 rfl rfl (by omega) (fun h11 => ?_) (fun h11 => ?_)
      · refine r_iload_n (pc' := 28) X 2 dX9_divisor_27 rfl rfl rfl ?_
        refine w_iret X hr dX9_divisor_28 ?_
        try dsimp only
        have hb0 : b = 0 := by omega
        rw [hb0, Nat.gcd_zero_right] at hg
        exact ⟨by rw [hg], rfl⟩
      · refine r_iload_n (pc' := 15) X 2 dX9_divisor_14 rfl rfl rfl ?_
        refine r_iload_n (pc' := 16) X 3 dX9_divisor_15 rfl rfl rfl ?_
        refine r_irem (pc' := 17) X dX9_divisor_16 (by omega) (by omega) (by omega) rfl ?_
        refine w_eqI (z' := ((a % b : Nat) : Int)) (tm_nat a b) ?_
        refine r_istore (pc' := 19) (lc' := [(0, vI v), (1, vI w0), (2, vI (a : Int)), (3, vI (b : Int)), (4, vI ((a % b : Nat) : Int))]) X [1, 2, 3, 4, 0] dX9_divisor_17 (by decide) rfl rfl ?_
        have hmb := Nat.mod_lt a (show b > 0 by omega)
        refine r_iload_n (pc' := 20) X 3 dX9_divisor_19 rfl rfl rfl ?_
        refine r_istore_n (pc' := 21) (lc' := [(0, vI v), (1, vI w0), (2, vI (b : Int)), (3, vI (b : Int)), (4, vI ((a % b : Nat) : Int))]) X [1, 2, 0, 3, 4] dX9_divisor_20 rfl (by decide) rfl rfl ?_
        refine r_iload (pc' := 23) X 4 dX9_divisor_21 rfl rfl ?_
        refine r_istore_n (pc' := 24) (lc' := [(0, vI v), (1, vI w0), (2, vI (b : Int)), (3, vI ((a % b : Nat) : Int)), (4, vI ((a % b : Nat) : Int))]) X [1, 2, 3, 0, 4] dX9_divisor_23 rfl (by decide) rfl rfl ?_
        refine r_goto (tgt := 10) X dX9_divisor_24 rfl ?_
        refine w_sub (lc' := [(0, vI v), (1, vI w0), (2, vI (b : Int)), (3, vI ((a % b : Nat) : Int))]) [0, 1, 2, 3] rfl ?_
        exact ih10 b (a % b) (by omega) (by omega) (by rw [Nat.gcd_comm b, ← Nat.gcd_rec, Nat.gcd_comm]; exact hg)
  exact L10 ((w0.natAbs) + 1) v.natAbs w0.natAbs (Nat.lt_succ_self _) (by omega) (by rfl)
theorem cf_X9_layFree : wCal yX9_layFree cX9_layFree 5 (some .boolean) 1 := ⟨gw_1354, gw_10, by decide, by decide, by rfl⟩
set_option maxRecDepth 100000 in
set_option maxHeartbeats 4000000 in
theorem c_X9_layFree (l : Launch) (G : wG) (M : wM) (N P : Nat) (pv : Nat → Nat → Int) (hp : PlOk pv N P) (hq : PEq N P pv (M 29)) (q : Int) (hq0 : rI q) : Met l yX9_layFree (gws yX9_layFree cX9_layFree 5 (some .boolean)) (wrm 2 0 0) (wPc G M [vR G (29, 0), vI q]) (wQi G (fun z M1 => z = (if (0 ≤ q ∧ q < combs (pv 7) N) then 1 else 0) ∧ (z = 1 → ∀ i, i < N → M1 29 25 i = (combF (pv 7) N q.toNat i)) ∧ ∀ a b x, ¬ (a = 29 ∧ b = 25) → M1 a b x = M a b x)) 0 0 (wA G) := by
  refine wMet (lc := [(0, vR G (29, 0)), (1, vI q)]) (by decide) (Nat.le_of_ble_eq_true rfl) rfl ?_
  intro p e s m args below meth c X hr
  have X : wX p s m args meth c G 5 "StateObserverModel" cX9_layFree := X
  obtain ⟨hN, hN1, hN4, hP, hP1, hP3, hA, hB, hE, hC, hQ⟩ := id hp
  obtain ⟨qN, qP, qA, qB, qE, qC, qQ⟩ := id hq
  have hfe := firstE_rng (pv 7) N
  obtain ⟨cb, hcb⟩ : ∃ x, x = combs (pv 7) N := ⟨_, rfl⟩
  have hcb1 : firstE (pv 7) N 0 = -1 → cb = N := fun w1 => by rw [hcb]; unfold combs; rw [if_pos w1]
  have hcb2 : firstE (pv 7) N 0 ≠ -1 → cb = N - 1 := fun w1 => by rw [hcb]; unfold combs; rw [if_neg w1]
  refine r_bipush (pc' := 2) X dX9_layFree_0 rfl rfl ?_
  refine r_istore_n (pc' := 3) (lc' := [(0, vR G (29, 0)), (1, vI q), (2, vI (-9))]) X [1, 2, 0] dX9_layFree_2 rfl (by decide) rfl rfl ?_
  refine r_aload_n (pc' := 4) X 0 dX9_layFree_3 rfl rfl rfl ?_
  refine gf_29_states (pc' := 7) X gw_972 dX9_layFree_4 rfl ?_
  refine r_iconst (pc' := 8) X dX9_layFree_7 rfl ?_
  refine r_isub (pc' := 9) X dX9_layFree_8 rfl ?_
  refine w_eqI (z' := ((N : Int) - 1)) (by omega) ?_
  refine r_istore_n (pc' := 10) (lc' := [(0, vR G (29, 0)), (1, vI q), (2, vI (-9)), (3, vI ((N : Int) - 1))]) X [1, 2, 3, 0] dX9_layFree_9 rfl (by decide) rfl rfl ?_
  have L10 : ∀ (fu : Nat) (n : Nat) (t : Int), n < fu → (n ≤ N) → (((firstE (pv 7) (N - n) n) = -1 ∧ t = -9) ∨ ((firstE (pv 7) (N - n) n) ≠ -1 ∧ t = (firstE (pv 7) (N - n) n))) → (t = -9 ∨ (0 ≤ t ∧ t < N)) → wV p l e (wrm 2 0 0) s m args below meth c G 5 M 0 0 (MQ below (wQi G (fun z M1 => z = (if (0 ≤ q ∧ q < combs (pv 7) N) then 1 else 0) ∧ (z = 1 → ∀ i, i < N → M1 29 25 i = (combF (pv 7) N q.toNat i)) ∧ ∀ a b x, ¬ (a = 29 ∧ b = 25) → M1 a b x = M a b x)) args s 0 0 (wA G)) 10 [(0, vR G (29, 0)), (1, vI q), (2, vI t), (3, vI ((n : Int) - 1))] [] := by
    intro fu
    induction fu with
    | zero => intro n t hfu; exact absurd hfu (Nat.not_lt_zero _)
    | succ fu ih10 =>
      intro n t hfu10 hn0 ht htb
      refine r_iload_n (pc' := 11) X 3 dX9_layFree_10 rfl rfl rfl ?_
      refine r_if_lt (pc' := 14) (tgt := 35) X dX9_layFree_11 rfl rfl (by omega) (fun h11 => ?_) (fun h11 => ?_)
      · have hn00 : n = 0 := by omega
        rw [hn00, Nat.sub_zero] at ht
        refine r_iload_n (pc' := 36) X 1 dX9_layFree_35 rfl rfl rfl ?_
        refine r_i2l (pc' := 37) X dX9_layFree_36 (by omega) rfl ?_
        refine r_lconst (pc' := 38) (z := 0) X dX9_layFree_37 rfl rfl ?_
        refine r_iload_n (pc' := 39) X 2 dX9_layFree_38 rfl rfl rfl ?_
        refine r_bipush (pc' := 41) X dX9_layFree_39 rfl rfl ?_
        refine r_icmp_ne (pc' := 44) (tgt := 54) X dX9_layFree_41 rfl rfl (by omega) (by omega) (fun h41 => ?_) (fun h41 => ?_)
        · refine r_aload_n (pc' := 55) X 0 dX9_layFree_54 rfl rfl rfl ?_
          refine gf_29_states (pc' := 58) X gw_972 dX9_layFree_55 rfl ?_
          refine r_iconst (pc' := 59) X dX9_layFree_58 rfl ?_
          refine r_isub (pc' := 60) X dX9_layFree_59 rfl ?_
          refine r_i2l (pc' := 61) X dX9_layFree_60 (by omega) rfl ?_
          refine w_calli (pc' := 64) (st := []) (w_runS X (c_X9_in l G M q 0 ((M 29 0 5) - 2) (by first | assumption | omega) (by first | assumption | omega) (by first | assumption | omega)) cf_X9_in gw_1083 rfl rfl ⟨Nat.le_of_ble_eq_true rfl, Nat.le_of_ble_eq_true rfl⟩ rfl rfl (Nat.le_of_ble_eq_true rfl) ⟨Nat.le_of_ble_eq_true rfl, Nat.le_of_ble_eq_true rfl⟩ gw_1082 dX9_layFree_61) rfl (fun z61 M1 h61 => ?_)
          have hz61 := h61.1
          obtain rfl := h61.2.symm
          have hi61 : z61 = 0 ∨ z61 = 1 := by rw [hz61]; split <;> omega
          have hq61 : z61 = 1 ↔ (0 ≤ q ∧ q ≤ ((M 29 0 5) - 2)) := by rw [hz61]; split <;> omega
          refine r_if_ne (pc' := 67) (tgt := 69) X dX9_layFree_64 rfl rfl (by omega) (fun h64 => ?_) (fun h64 => ?_)
          · refine r_iconst (pc' := 70) X dX9_layFree_69 rfl ?_
            refine r_istore_n (pc' := 71) (lc' := [(0, vR G (29, 0)), (1, vI q), (2, vI t), (3, vI 0)]) X [1, 2, 3, 0] dX9_layFree_70 rfl (by decide) rfl rfl ?_
            have L71 : ∀ (fu : Nat) (y : Nat) (Ma : wM), 4 - y < fu → (y ≤ 4) → (∀ x, x < y → Ma 29 25 x = 0) → (∀ a b x, ¬ (a = 29 ∧ b = 25) → Ma a b x = M a b x) → wV p l e (wrm 2 0 0) s m args below meth c G 5 Ma 0 0 (MQ below (wQi G (fun z M1 => z = (if (0 ≤ q ∧ q < combs (pv 7) N) then 1 else 0) ∧ (z = 1 → ∀ i, i < N → M1 29 25 i = (combF (pv 7) N q.toNat i)) ∧ ∀ a b x, ¬ (a = 29 ∧ b = 25) → M1 a b x = M a b x)) args s 0 0 (wA G)) 71 [(0, vR G (29, 0)), (1, vI q), (2, vI t), (3, vI (y : Int))] [] := by
              intro fu
              induction fu with
              | zero => intro y Ma hfu; exact absurd hfu (Nat.not_lt_zero _)
              | succ fu ih71 =>
                intro y Ma hfu71 hy0 hzz hfr
                refine r_iload_n (pc' := 72) X 3 dX9_layFree_71 rfl rfl rfl ?_
                refine r_iconst (pc' := 73) X dX9_layFree_72 rfl ?_
                refine r_icmp_ge (pc' := 76) (tgt := 89) X dX9_layFree_73 rfl rfl (by omega) (by omega) (fun h73 => ?_) (fun h73 => ?_)
                · obtain ⟨qn, hqn⟩ : ∃ x : Nat, q = (x : Int) := ⟨q.toNat, by omega⟩
                  have hqn2 : q.toNat = qn := by omega
                  have hqE : ∀ i, i < N → Ma 29 4 i = pv 7 i := fun i hi => by rw [hfr 29 4 i (by omega)]; exact qE i hi
                  have hz4 : ∀ x, x < 4 → Ma 29 25 x = 0 := fun x hx => hzz x (by omega)
                  refine r_iload_n (pc' := 90) X 2 dX9_layFree_89 rfl rfl rfl ?_
                  refine r_bipush (pc' := 92) X dX9_layFree_90 rfl rfl ?_
                  refine r_icmp_eq (pc' := 95) (tgt := 106) X dX9_layFree_92 rfl rfl (by omega) (by omega) (fun h92 => ?_) (fun h92 => ?_)
                  · refine r_iload_n (pc' := 107) X 1 dX9_layFree_106 rfl rfl rfl ?_
                    refine r_istore_n (pc' := 108) (lc' := [(0, vR G (29, 0)), (1, vI q), (2, vI t), (3, vI q)]) X [1, 2, 3, 0] dX9_layFree_107 rfl (by decide) rfl rfl ?_
                    refine r_iload_n (pc' := 109) X 2 dX9_layFree_108 rfl rfl rfl ?_
                    refine r_bipush (pc' := 111) X dX9_layFree_109 rfl rfl ?_
                    refine r_icmp_ne (pc' := 114) (tgt := 124) X dX9_layFree_111 rfl rfl (by omega) (by omega) (fun h111 => by exfalso; omega) (fun h111 => ?_)
                    refine r_aload_n (pc' := 115) X 0 dX9_layFree_114 rfl rfl rfl ?_
                    refine gf_29_factor (pc' := 118) X gw_1001 dX9_layFree_115 rfl ?_
                    refine r_iload_n (pc' := 119) X 3 dX9_layFree_118 rfl rfl rfl ?_
                    refine r_iconst (pc' := 120) X dX9_layFree_119 rfl ?_
                    refine r_iast (i := qn) (pc' := 121) X k29_25 hqn (by omega) (by decide) dX9_layFree_120 rfl (fun M2 hM2 => ?_)
                    refine r_goto (tgt := 196) X dX9_layFree_121 rfl ?_
                    refine r_iconst (pc' := 197) X dX9_layFree_196 rfl ?_
                    refine w_zret X hr (by decide) dX9_layFree_197 ?_
                    try dsimp only
                    have hf1 : firstE (pv 7) N 0 = -1 := by omega
                    have hc1 := hcb1 hf1
                    refine ⟨by rw [if_pos (by omega)], fun _ i hi => ?_, fun a b x w1 => by rw [hM2, wu_ne (by omega)]; exact hfr a b x w1⟩
                    unfold combF
                    rw [if_pos hf1, hqn2, hM2]
                    unfold wu
                    by_cases c1 : i = qn
                    · rw [if_pos ⟨rfl, rfl, c1⟩, if_pos c1]
                    · rw [if_neg (by omega), if_neg c1]; exact hz4 i (by omega)
                  · refine r_iload_n (pc' := 96) X 1 dX9_layFree_95 rfl rfl rfl ?_
                    refine r_iload_n (pc' := 97) X 2 dX9_layFree_96 rfl rfl rfl ?_
                    refine r_icmp_lt (pc' := 100) (tgt := 106) X dX9_layFree_97 rfl rfl (by omega) (by omega) (fun h97 => ?_) (fun h97 => ?_)
                    · refine r_iload_n (pc' := 107) X 1 dX9_layFree_106 rfl rfl rfl ?_
                      refine r_istore_n (pc' := 108) (lc' := [(0, vR G (29, 0)), (1, vI q), (2, vI t), (3, vI q)]) X [1, 2, 3, 0] dX9_layFree_107 rfl (by decide) rfl rfl ?_
                      refine r_iload_n (pc' := 109) X 2 dX9_layFree_108 rfl rfl rfl ?_
                      refine r_bipush (pc' := 111) X dX9_layFree_109 rfl rfl ?_
                      refine r_icmp_ne (pc' := 114) (tgt := 124) X dX9_layFree_111 rfl rfl (by omega) (by omega) (fun h111 => ?_) (fun h111 => by exfalso; omega)
                      obtain ⟨tn, htn⟩ : ∃ x : Nat, t = (x : Int) := ⟨t.toNat, by omega⟩
                      have htN : tn < N := by omega
                      have htf : firstE (pv 7) N 0 = (tn : Int) := by omega
                      obtain ⟨sn, hsn⟩ : ∃ x : Nat, q = (x : Int) := ⟨(q).toNat, by omega⟩
                      have hsN : sn < N := by omega
                      have hsf : sn = if (qn : Int) < firstE (pv 7) N 0 then qn else qn + 1 := by first | rw [if_pos (by omega)]; omega | rw [if_neg (by omega)]; omega
                      have e7s := hqE sn hsN
                      have e7t := hqE tn htN
                      have r7s := hE sn hsN
                      have r7t := hE tn htN
                      refine r_aload_n (pc' := 125) X 0 dX9_layFree_124 rfl rfl rfl ?_
                      refine gf_29_push (pc' := 128) X gw_976 dX9_layFree_125 rfl ?_
                      refine r_iload_n (pc' := 129) X 3 dX9_layFree_128 rfl rfl rfl ?_
                      refine r_iald (i := sn) (pc' := 130) X k29_4 hsn (by omega) (by decide) dX9_layFree_129 rfl ?_
                      refine r_aload_n (pc' := 131) X 0 dX9_layFree_130 rfl rfl rfl ?_
                      refine gf_29_push (pc' := 134) X gw_976 dX9_layFree_131 rfl ?_
                      refine r_iload_n (pc' := 135) X 2 dX9_layFree_134 rfl rfl rfl ?_
                      refine r_iald (i := tn) (pc' := 136) X k29_4 htn (by omega) (by decide) dX9_layFree_135 rfl ?_
                      refine w_calli (pc' := 139) (st := []) (w_runS X (c_X9_divisor l G Ma (Ma 29 4 sn) (Ma 29 4 tn) (by omega) (by omega)) cf_X9_divisor gw_1356 rfl rfl ⟨Nat.le_of_ble_eq_true rfl, Nat.le_of_ble_eq_true rfl⟩ rfl rfl (Nat.le_of_ble_eq_true rfl) ⟨Nat.le_of_ble_eq_true rfl, Nat.le_of_ble_eq_true rfl⟩ gw_1355 dX9_layFree_136) rfl (fun z136 M3 h136 => ?_)
                      have hz136 := h136.1
                      obtain rfl := h136.2.symm
                      have hgp : 1 ≤ Int.gcd (pv 7 sn) (pv 7 tn) := by
                        rcases firstE_bd (pv 7) N 0 with ⟨f1, -⟩ | ⟨x, f1, -, f2, f3, -⟩
                        · exfalso; omega
                        · have : x = tn := by omega
                          rw [this] at f3
                          refine Nat.pos_of_ne_zero fun w1 => f3 (Int.gcd_eq_zero_iff.mp w1).2
                      have hgq : Int.gcd (Ma 29 4 sn) (Ma 29 4 tn) = Int.gcd (pv 7 sn) (pv 7 tn) := by rw [e7s, e7t]
                      obtain ⟨gn, hgn⟩ : ∃ x : Nat, x = Int.gcd (pv 7 sn) (pv 7 tn) := ⟨_, rfl⟩
                      have hg9 : gn ≤ 99 := by
                        rw [hgn]
                        have h0 : pv 7 tn ≠ 0 := by
                          rcases firstE_bd (pv 7) N 0 with ⟨f1, -⟩ | ⟨x, f1, -, f2, f3, -⟩
                          · exfalso; omega
                          · rw [show tn = x by omega]; exact f3
                        have := Nat.le_of_dvd (by omega) (Int.natAbs_dvd_natAbs.mpr (Int.gcd_dvd_right (a := pv 7 sn) (b := pv 7 tn)))
                        rw [Int.natAbs_natCast] at this
                        omega
                      rw [← hgn] at hgp
                      refine w_eqI (z' := (gn : Int)) (by rw [hz136, hgq, hgn]) ?_
                      refine r_istore (pc' := 141) (lc' := [(0, vR G (29, 0)), (1, vI q), (2, vI t), (3, vI q), (4, vI (gn : Int))]) X [1, 2, 3, 4, 0] dX9_layFree_139 (by decide) rfl rfl ?_
                      refine r_aload_n (pc' := 142) X 0 dX9_layFree_141 rfl rfl rfl ?_
                      refine gf_29_factor (pc' := 145) X gw_1001 dX9_layFree_142 rfl ?_
                      refine r_iload_n (pc' := 146) X 3 dX9_layFree_145 rfl rfl rfl ?_
                      refine r_aload_n (pc' := 147) X 0 dX9_layFree_146 rfl rfl rfl ?_
                      refine gf_29_push (pc' := 150) X gw_976 dX9_layFree_147 rfl ?_
                      refine r_iload_n (pc' := 151) X 2 dX9_layFree_150 rfl rfl rfl ?_
                      refine r_iald (i := tn) (pc' := 152) X k29_4 htn (by omega) (by decide) dX9_layFree_151 rfl ?_
                      refine w_calli (pc' := 155) (st := [vI q, vR G (29, 25)]) (w_runS X (c_X9_size l G Ma (Ma 29 4 tn) (by first | assumption | omega)) cf_X9_size gw_1227 rfl rfl ⟨Nat.le_of_ble_eq_true rfl, Nat.le_of_ble_eq_true rfl⟩ rfl rfl (Nat.le_of_ble_eq_true rfl) ⟨Nat.le_of_ble_eq_true rfl, Nat.le_of_ble_eq_true rfl⟩ gw_1226 dX9_layFree_152) rfl (fun z152 M4 h152 => ?_)
                      obtain rfl := h152.1.symm
                      obtain rfl := h152.2.symm
                      refine r_iload (pc' := 157) X 4 dX9_layFree_155 rfl rfl ?_
                      refine r_idiv (pc' := 158) X dX9_layFree_157 (by omega) (by omega) (by omega) rfl ?_
                      refine r_iast (i := sn) (pc' := 159) X k29_25 hsn (by omega) (by decide) dX9_layFree_158 rfl (fun M5 hM5 => ?_)
                      have e7t2 : M5 29 4 tn = pv 7 tn := by rw [hM5, wu_ne (by omega)]; exact e7t
                      have e7s2 : M5 29 4 sn = pv 7 sn := by rw [hM5, wu_ne (by omega)]; exact e7s
                      refine r_aload_n (pc' := 160) X 0 dX9_layFree_159 rfl rfl rfl ?_
                      refine gf_29_factor (pc' := 163) X gw_1001 dX9_layFree_160 rfl ?_
                      refine r_iload_n (pc' := 164) X 2 dX9_layFree_163 rfl rfl rfl ?_
                      refine r_aload_n (pc' := 165) X 0 dX9_layFree_164 rfl rfl rfl ?_
                      refine gf_29_push (pc' := 168) X gw_976 dX9_layFree_165 rfl ?_
                      refine r_iload_n (pc' := 169) X 2 dX9_layFree_168 rfl rfl rfl ?_
                      refine r_iald (i := tn) (pc' := 170) X k29_4 htn (by omega) (by decide) dX9_layFree_169 rfl ?_
                      refine r_if_le (pc' := 173) (tgt := 186) X dX9_layFree_170 rfl rfl (by omega) (fun h170 => ?_) (fun h170 => ?_)
                      · refine r_aload_n (pc' := 187) X 0 dX9_layFree_186 rfl rfl rfl ?_
                        refine gf_29_push (pc' := 190) X gw_976 dX9_layFree_187 rfl ?_
                        refine r_iload_n (pc' := 191) X 3 dX9_layFree_190 rfl rfl rfl ?_
                        refine r_iald (i := sn) (pc' := 192) X k29_4 hsn (by omega) (by decide) dX9_layFree_191 rfl ?_
                        refine r_iload (pc' := 194) X 4 dX9_layFree_192 rfl rfl ?_
                        refine r_idiv (pc' := 195) X dX9_layFree_194 (by omega) (by omega) (by omega) rfl ?_
                        refine r_iast (i := tn) (pc' := 196) X k29_25 htn (by omega) (by decide) dX9_layFree_195 rfl (fun M6 hM6 => ?_)
                        refine r_iconst (pc' := 197) X dX9_layFree_196 rfl ?_
                        refine w_zret X hr (by decide) dX9_layFree_197 ?_
                        try dsimp only
                        have hf1 : firstE (pv 7) N 0 ≠ -1 := by omega
                        have hc1 := hcb2 hf1
                        refine ⟨by rw [if_pos (by omega)], fun _ i hi => ?_, fun a b x w1 => by rw [hM6, wu_ne (by omega), hM5, wu_ne (by omega)]; exact hfr a b x w1⟩
                        unfold combF
                        rw [if_neg hf1, hqn2, ← hsf, htf, hM6]
                        unfold wu
                        by_cases c1 : i = tn
                        · rw [if_pos ⟨rfl, rfl, c1⟩, if_pos (by omega), c1]
                          rw [if_neg (show ¬ 0 < pv 7 tn by omega), ← hgn, e7s2]
                        · rw [if_neg (by omega), if_neg (by omega), hM5]
                          unfold wu
                          by_cases c2 : i = sn
                          · rw [if_pos ⟨rfl, rfl, c2⟩, if_pos c2, c2, Int.toNat_natCast, ← hgn, e7t]
                          · rw [if_neg (by omega), if_neg c2]; exact hz4 i (by omega)
                      · refine r_aload_n (pc' := 174) X 0 dX9_layFree_173 rfl rfl rfl ?_
                        refine gf_29_push (pc' := 177) X gw_976 dX9_layFree_174 rfl ?_
                        refine r_iload_n (pc' := 178) X 3 dX9_layFree_177 rfl rfl rfl ?_
                        refine r_iald (i := sn) (pc' := 179) X k29_4 hsn (by omega) (by decide) dX9_layFree_178 rfl ?_
                        refine r_ineg (pc' := 180) X dX9_layFree_179 rfl ?_
                        refine r_iload (pc' := 182) X 4 dX9_layFree_180 rfl rfl ?_
                        refine r_idiv (pc' := 183) X dX9_layFree_182 (by omega) (by omega) (by omega) rfl ?_
                        refine r_goto (tgt := 195) X dX9_layFree_183 rfl ?_
                        refine r_iast (i := tn) (pc' := 196) X k29_25 htn (by omega) (by decide) dX9_layFree_195 rfl (fun M7 hM7 => ?_)
                        refine r_iconst (pc' := 197) X dX9_layFree_196 rfl ?_
                        refine w_zret X hr (by decide) dX9_layFree_197 ?_
                        try dsimp only
                        have hf1 : firstE (pv 7) N 0 ≠ -1 := by omega
                        have hc1 := hcb2 hf1
                        refine ⟨by rw [if_pos (by omega)], fun _ i hi => ?_, fun a b x w1 => by rw [hM7, wu_ne (by omega), hM5, wu_ne (by omega)]; exact hfr a b x w1⟩
                        unfold combF
                        rw [if_neg hf1, hqn2, ← hsf, htf, hM7]
                        unfold wu
                        by_cases c1 : i = tn
                        · rw [if_pos ⟨rfl, rfl, c1⟩, if_pos (by omega), c1]
                          rw [if_pos (show 0 < pv 7 tn by omega), ← hgn, e7s2]
                        · rw [if_neg (by omega), if_neg (by omega), hM5]
                          unfold wu
                          by_cases c2 : i = sn
                          · rw [if_pos ⟨rfl, rfl, c2⟩, if_pos c2, c2, Int.toNat_natCast, ← hgn, e7t]
                          · rw [if_neg (by omega), if_neg c2]; exact hz4 i (by omega)
                    · refine r_iload_n (pc' := 101) X 1 dX9_layFree_100 rfl rfl rfl ?_
                      refine r_iconst (pc' := 102) X dX9_layFree_101 rfl ?_
                      refine r_iadd (pc' := 103) X dX9_layFree_102 rfl ?_
                      refine r_goto (tgt := 107) X dX9_layFree_103 rfl ?_
                      refine r_istore_n (pc' := 108) (lc' := [(0, vR G (29, 0)), (1, vI q), (2, vI t), (3, vI (q + 1))]) X [1, 2, 3, 0] dX9_layFree_107 rfl (by decide) rfl rfl ?_
                      refine r_iload_n (pc' := 109) X 2 dX9_layFree_108 rfl rfl rfl ?_
                      refine r_bipush (pc' := 111) X dX9_layFree_109 rfl rfl ?_
                      refine r_icmp_ne (pc' := 114) (tgt := 124) X dX9_layFree_111 rfl rfl (by omega) (by omega) (fun h111 => ?_) (fun h111 => by exfalso; omega)
                      obtain ⟨tn, htn⟩ : ∃ x : Nat, t = (x : Int) := ⟨t.toNat, by omega⟩
                      have htN : tn < N := by omega
                      have htf : firstE (pv 7) N 0 = (tn : Int) := by omega
                      obtain ⟨sn, hsn⟩ : ∃ x : Nat, (q + 1) = (x : Int) := ⟨((q + 1)).toNat, by omega⟩
                      have hsN : sn < N := by omega
                      have hsf : sn = if (qn : Int) < firstE (pv 7) N 0 then qn else qn + 1 := by first | rw [if_pos (by omega)]; omega | rw [if_neg (by omega)]; omega
                      have e7s := hqE sn hsN
                      have e7t := hqE tn htN
                      have r7s := hE sn hsN
                      have r7t := hE tn htN
                      refine r_aload_n (pc' := 125) X 0 dX9_layFree_124 rfl rfl rfl ?_
                      refine gf_29_push (pc' := 128) X gw_976 dX9_layFree_125 rfl ?_
                      refine r_iload_n (pc' := 129) X 3 dX9_layFree_128 rfl rfl rfl ?_
                      refine r_iald (i := sn) (pc' := 130) X k29_4 hsn (by omega) (by decide) dX9_layFree_129 rfl ?_
                      refine r_aload_n (pc' := 131) X 0 dX9_layFree_130 rfl rfl rfl ?_
                      refine gf_29_push (pc' := 134) X gw_976 dX9_layFree_131 rfl ?_
                      refine r_iload_n (pc' := 135) X 2 dX9_layFree_134 rfl rfl rfl ?_
                      refine r_iald (i := tn) (pc' := 136) X k29_4 htn (by omega) (by decide) dX9_layFree_135 rfl ?_
                      refine w_calli (pc' := 139) (st := []) (w_runS X (c_X9_divisor l G Ma (Ma 29 4 sn) (Ma 29 4 tn) (by omega) (by omega)) cf_X9_divisor gw_1356 rfl rfl ⟨Nat.le_of_ble_eq_true rfl, Nat.le_of_ble_eq_true rfl⟩ rfl rfl (Nat.le_of_ble_eq_true rfl) ⟨Nat.le_of_ble_eq_true rfl, Nat.le_of_ble_eq_true rfl⟩ gw_1355 dX9_layFree_136) rfl (fun z136 M8 h136 => ?_)
                      have hz136 := h136.1
                      obtain rfl := h136.2.symm
                      have hgp : 1 ≤ Int.gcd (pv 7 sn) (pv 7 tn) := by
                        rcases firstE_bd (pv 7) N 0 with ⟨f1, -⟩ | ⟨x, f1, -, f2, f3, -⟩
                        · exfalso; omega
                        · have : x = tn := by omega
                          rw [this] at f3
                          refine Nat.pos_of_ne_zero fun w1 => f3 (Int.gcd_eq_zero_iff.mp w1).2
                      have hgq : Int.gcd (Ma 29 4 sn) (Ma 29 4 tn) = Int.gcd (pv 7 sn) (pv 7 tn) := by rw [e7s, e7t]
                      obtain ⟨gn, hgn⟩ : ∃ x : Nat, x = Int.gcd (pv 7 sn) (pv 7 tn) := ⟨_, rfl⟩
                      have hg9 : gn ≤ 99 := by
                        rw [hgn]
                        have h0 : pv 7 tn ≠ 0 := by
                          rcases firstE_bd (pv 7) N 0 with ⟨f1, -⟩ | ⟨x, f1, -, f2, f3, -⟩
                          · exfalso; omega
                          · rw [show tn = x by omega]; exact f3
                        have := Nat.le_of_dvd (by omega) (Int.natAbs_dvd_natAbs.mpr (Int.gcd_dvd_right (a := pv 7 sn) (b := pv 7 tn)))
                        rw [Int.natAbs_natCast] at this
                        omega
                      rw [← hgn] at hgp
                      refine w_eqI (z' := (gn : Int)) (by rw [hz136, hgq, hgn]) ?_
                      refine r_istore (pc' := 141) (lc' := [(0, vR G (29, 0)), (1, vI q), (2, vI t), (3, vI (q + 1)), (4, vI (gn : Int))]) X [1, 2, 3, 4, 0] dX9_layFree_139 (by decide) rfl rfl ?_
                      refine r_aload_n (pc' := 142) X 0 dX9_layFree_141 rfl rfl rfl ?_
                      refine gf_29_factor (pc' := 145) X gw_1001 dX9_layFree_142 rfl ?_
                      refine r_iload_n (pc' := 146) X 3 dX9_layFree_145 rfl rfl rfl ?_
                      refine r_aload_n (pc' := 147) X 0 dX9_layFree_146 rfl rfl rfl ?_
                      refine gf_29_push (pc' := 150) X gw_976 dX9_layFree_147 rfl ?_
                      refine r_iload_n (pc' := 151) X 2 dX9_layFree_150 rfl rfl rfl ?_
                      refine r_iald (i := tn) (pc' := 152) X k29_4 htn (by omega) (by decide) dX9_layFree_151 rfl ?_
                      refine w_calli (pc' := 155) (st := [vI (q + 1), vR G (29, 25)]) (w_runS X (c_X9_size l G Ma (Ma 29 4 tn) (by first | assumption | omega)) cf_X9_size gw_1227 rfl rfl ⟨Nat.le_of_ble_eq_true rfl, Nat.le_of_ble_eq_true rfl⟩ rfl rfl (Nat.le_of_ble_eq_true rfl) ⟨Nat.le_of_ble_eq_true rfl, Nat.le_of_ble_eq_true rfl⟩ gw_1226 dX9_layFree_152) rfl (fun z152 M9 h152 => ?_)
                      obtain rfl := h152.1.symm
                      obtain rfl := h152.2.symm
                      refine r_iload (pc' := 157) X 4 dX9_layFree_155 rfl rfl ?_
                      refine r_idiv (pc' := 158) X dX9_layFree_157 (by omega) (by omega) (by omega) rfl ?_
                      refine r_iast (i := sn) (pc' := 159) X k29_25 hsn (by omega) (by decide) dX9_layFree_158 rfl (fun M10 hM10 => ?_)
                      have e7t2 : M10 29 4 tn = pv 7 tn := by rw [hM10, wu_ne (by omega)]; exact e7t
                      have e7s2 : M10 29 4 sn = pv 7 sn := by rw [hM10, wu_ne (by omega)]; exact e7s
                      refine r_aload_n (pc' := 160) X 0 dX9_layFree_159 rfl rfl rfl ?_
                      refine gf_29_factor (pc' := 163) X gw_1001 dX9_layFree_160 rfl ?_
                      refine r_iload_n (pc' := 164) X 2 dX9_layFree_163 rfl rfl rfl ?_
                      refine r_aload_n (pc' := 165) X 0 dX9_layFree_164 rfl rfl rfl ?_
                      refine gf_29_push (pc' := 168) X gw_976 dX9_layFree_165 rfl ?_
                      refine r_iload_n (pc' := 169) X 2 dX9_layFree_168 rfl rfl rfl ?_
                      refine r_iald (i := tn) (pc' := 170) X k29_4 htn (by omega) (by decide) dX9_layFree_169 rfl ?_
                      refine r_if_le (pc' := 173) (tgt := 186) X dX9_layFree_170 rfl rfl (by omega) (fun h170 => ?_) (fun h170 => ?_)
                      · refine r_aload_n (pc' := 187) X 0 dX9_layFree_186 rfl rfl rfl ?_
                        refine gf_29_push (pc' := 190) X gw_976 dX9_layFree_187 rfl ?_
                        refine r_iload_n (pc' := 191) X 3 dX9_layFree_190 rfl rfl rfl ?_
                        refine r_iald (i := sn) (pc' := 192) X k29_4 hsn (by omega) (by decide) dX9_layFree_191 rfl ?_
                        refine r_iload (pc' := 194) X 4 dX9_layFree_192 rfl rfl ?_
                        refine r_idiv (pc' := 195) X dX9_layFree_194 (by omega) (by omega) (by omega) rfl ?_
                        refine r_iast (i := tn) (pc' := 196) X k29_25 htn (by omega) (by decide) dX9_layFree_195 rfl (fun M11 hM11 => ?_)
                        refine r_iconst (pc' := 197) X dX9_layFree_196 rfl ?_
                        refine w_zret X hr (by decide) dX9_layFree_197 ?_
                        try dsimp only
                        have hf1 : firstE (pv 7) N 0 ≠ -1 := by omega
                        have hc1 := hcb2 hf1
                        refine ⟨by rw [if_pos (by omega)], fun _ i hi => ?_, fun a b x w1 => by rw [hM11, wu_ne (by omega), hM10, wu_ne (by omega)]; exact hfr a b x w1⟩
                        unfold combF
                        rw [if_neg hf1, hqn2, ← hsf, htf, hM11]
                        unfold wu
                        by_cases c1 : i = tn
                        · rw [if_pos ⟨rfl, rfl, c1⟩, if_pos (by omega), c1]
                          rw [if_neg (show ¬ 0 < pv 7 tn by omega), ← hgn, e7s2]
                        · rw [if_neg (by omega), if_neg (by omega), hM10]
                          unfold wu
                          by_cases c2 : i = sn
                          · rw [if_pos ⟨rfl, rfl, c2⟩, if_pos c2, c2, Int.toNat_natCast, ← hgn, e7t]
                          · rw [if_neg (by omega), if_neg c2]; exact hz4 i (by omega)
                      · refine r_aload_n (pc' := 174) X 0 dX9_layFree_173 rfl rfl rfl ?_
                        refine gf_29_push (pc' := 177) X gw_976 dX9_layFree_174 rfl ?_
                        refine r_iload_n (pc' := 178) X 3 dX9_layFree_177 rfl rfl rfl ?_
                        refine r_iald (i := sn) (pc' := 179) X k29_4 hsn (by omega) (by decide) dX9_layFree_178 rfl ?_
                        refine r_ineg (pc' := 180) X dX9_layFree_179 rfl ?_
                        refine r_iload (pc' := 182) X 4 dX9_layFree_180 rfl rfl ?_
                        refine r_idiv (pc' := 183) X dX9_layFree_182 (by omega) (by omega) (by omega) rfl ?_
                        refine r_goto (tgt := 195) X dX9_layFree_183 rfl ?_
                        refine r_iast (i := tn) (pc' := 196) X k29_25 htn (by omega) (by decide) dX9_layFree_195 rfl (fun M12 hM12 => ?_)
                        refine r_iconst (pc' := 197) X dX9_layFree_196 rfl ?_
                        refine w_zret X hr (by decide) dX9_layFree_197 ?_
                        try dsimp only
                        have hf1 : firstE (pv 7) N 0 ≠ -1 := by omega
                        have hc1 := hcb2 hf1
                        refine ⟨by rw [if_pos (by omega)], fun _ i hi => ?_, fun a b x w1 => by rw [hM12, wu_ne (by omega), hM10, wu_ne (by omega)]; exact hfr a b x w1⟩
                        unfold combF
                        rw [if_neg hf1, hqn2, ← hsf, htf, hM12]
                        unfold wu
                        by_cases c1 : i = tn
                        · rw [if_pos ⟨rfl, rfl, c1⟩, if_pos (by omega), c1]
                          rw [if_pos (show 0 < pv 7 tn by omega), ← hgn, e7s2]
                        · rw [if_neg (by omega), if_neg (by omega), hM10]
                          unfold wu
                          by_cases c2 : i = sn
                          · rw [if_pos ⟨rfl, rfl, c2⟩, if_pos c2, c2, Int.toNat_natCast, ← hgn, e7t]
                          · rw [if_neg (by omega), if_neg c2]; exact hz4 i (by omega)
                · refine r_aload_n (pc' := 77) X 0 dX9_layFree_76 rfl rfl rfl ?_
                  refine gf_29_factor (pc' := 80) X gw_1001 dX9_layFree_77 rfl ?_
                  refine r_iload_n (pc' := 81) X 3 dX9_layFree_80 rfl rfl rfl ?_
                  refine r_iconst (pc' := 82) X dX9_layFree_81 rfl ?_
                  refine r_iast (i := y) (pc' := 83) X k29_25 (by omega) (by omega) (by decide) dX9_layFree_82 rfl (fun M13 hM13 => ?_)
                  refine r_iinc (pc' := 86) (z' := ((y + 1 : Nat) : Int)) (lc' := [(0, vR G (29, 0)), (1, vI q), (2, vI t), (3, vI ((y + 1 : Nat) : Int))]) X 3 [1, 2, 3, 0] dX9_layFree_83 rfl (by omega) (by decide) rfl rfl ?_
                  refine r_goto (tgt := 71) X dX9_layFree_86 rfl ?_
                  exact ih71 (y + 1) M13 (by omega) (by omega) (fun x hx => by rw [hM13]; exact up_s (F := fun _ => 0) hzz rfl hx) (fun a b x w1 => by rw [hM13, wu_ne (by omega)]; exact hfr a b x w1)
            exact L71 ((4 - 0) + 1) 0 M (Nat.lt_succ_self _) (by omega) (fun x h => absurd h (Nat.not_lt_zero x)) (fun _ _ _ _ => rfl)
          · refine r_iconst (pc' := 68) X dX9_layFree_67 rfl ?_
            refine w_zret X hr (by decide) dX9_layFree_68 ?_
            try dsimp only
            refine ⟨?_, fun w1 => absurd w1 (by decide), fun _ _ _ _ => rfl⟩
            rw [if_neg (by rcases ht with w1 | w1; have := hcb1 w1.1; omega; have := hcb2 w1.1; omega)]
        · refine r_aload_n (pc' := 45) X 0 dX9_layFree_44 rfl rfl rfl ?_
          refine gf_29_states (pc' := 48) X gw_972 dX9_layFree_45 rfl ?_
          refine r_iconst (pc' := 49) X dX9_layFree_48 rfl ?_
          refine r_isub (pc' := 50) X dX9_layFree_49 rfl ?_
          refine r_i2l (pc' := 51) X dX9_layFree_50 (by omega) rfl ?_
          refine r_goto (tgt := 61) X dX9_layFree_51 rfl ?_
          refine w_calli (pc' := 64) (st := []) (w_runS X (c_X9_in l G M q 0 ((M 29 0 5) - 1) (by first | assumption | omega) (by first | assumption | omega) (by first | assumption | omega)) cf_X9_in gw_1083 rfl rfl ⟨Nat.le_of_ble_eq_true rfl, Nat.le_of_ble_eq_true rfl⟩ rfl rfl (Nat.le_of_ble_eq_true rfl) ⟨Nat.le_of_ble_eq_true rfl, Nat.le_of_ble_eq_true rfl⟩ gw_1082 dX9_layFree_61) rfl (fun z61 M14 h61 => ?_)
          have hz61 := h61.1
          obtain rfl := h61.2.symm
          have hi61 : z61 = 0 ∨ z61 = 1 := by rw [hz61]; split <;> omega
          have hq61 : z61 = 1 ↔ (0 ≤ q ∧ q ≤ ((M 29 0 5) - 1)) := by rw [hz61]; split <;> omega
          refine r_if_ne (pc' := 67) (tgt := 69) X dX9_layFree_64 rfl rfl (by omega) (fun h64 => ?_) (fun h64 => ?_)
          · refine r_iconst (pc' := 70) X dX9_layFree_69 rfl ?_
            refine r_istore_n (pc' := 71) (lc' := [(0, vR G (29, 0)), (1, vI q), (2, vI t), (3, vI 0)]) X [1, 2, 3, 0] dX9_layFree_70 rfl (by decide) rfl rfl ?_
            have L71 : ∀ (fu : Nat) (y : Nat) (Ma : wM), 4 - y < fu → (y ≤ 4) → (∀ x, x < y → Ma 29 25 x = 0) → (∀ a b x, ¬ (a = 29 ∧ b = 25) → Ma a b x = M a b x) → wV p l e (wrm 2 0 0) s m args below meth c G 5 Ma 0 0 (MQ below (wQi G (fun z M1 => z = (if (0 ≤ q ∧ q < combs (pv 7) N) then 1 else 0) ∧ (z = 1 → ∀ i, i < N → M1 29 25 i = (combF (pv 7) N q.toNat i)) ∧ ∀ a b x, ¬ (a = 29 ∧ b = 25) → M1 a b x = M a b x)) args s 0 0 (wA G)) 71 [(0, vR G (29, 0)), (1, vI q), (2, vI t), (3, vI (y : Int))] [] := by
              intro fu
              induction fu with
              | zero => intro y Ma hfu; exact absurd hfu (Nat.not_lt_zero _)
              | succ fu ih71 =>
                intro y Ma hfu71 hy0 hzz hfr
                refine r_iload_n (pc' := 72) X 3 dX9_layFree_71 rfl rfl rfl ?_
                refine r_iconst (pc' := 73) X dX9_layFree_72 rfl ?_
                refine r_icmp_ge (pc' := 76) (tgt := 89) X dX9_layFree_73 rfl rfl (by omega) (by omega) (fun h73 => ?_) (fun h73 => ?_)
                · obtain ⟨qn, hqn⟩ : ∃ x : Nat, q = (x : Int) := ⟨q.toNat, by omega⟩
                  have hqn2 : q.toNat = qn := by omega
                  have hqE : ∀ i, i < N → Ma 29 4 i = pv 7 i := fun i hi => by rw [hfr 29 4 i (by omega)]; exact qE i hi
                  have hz4 : ∀ x, x < 4 → Ma 29 25 x = 0 := fun x hx => hzz x (by omega)
                  refine r_iload_n (pc' := 90) X 2 dX9_layFree_89 rfl rfl rfl ?_
                  refine r_bipush (pc' := 92) X dX9_layFree_90 rfl rfl ?_
                  refine r_icmp_eq (pc' := 95) (tgt := 106) X dX9_layFree_92 rfl rfl (by omega) (by omega) (fun h92 => ?_) (fun h92 => ?_)
                  · refine r_iload_n (pc' := 107) X 1 dX9_layFree_106 rfl rfl rfl ?_
                    refine r_istore_n (pc' := 108) (lc' := [(0, vR G (29, 0)), (1, vI q), (2, vI t), (3, vI q)]) X [1, 2, 3, 0] dX9_layFree_107 rfl (by decide) rfl rfl ?_
                    refine r_iload_n (pc' := 109) X 2 dX9_layFree_108 rfl rfl rfl ?_
                    refine r_bipush (pc' := 111) X dX9_layFree_109 rfl rfl ?_
                    refine r_icmp_ne (pc' := 114) (tgt := 124) X dX9_layFree_111 rfl rfl (by omega) (by omega) (fun h111 => by exfalso; omega) (fun h111 => ?_)
                    refine r_aload_n (pc' := 115) X 0 dX9_layFree_114 rfl rfl rfl ?_
                    refine gf_29_factor (pc' := 118) X gw_1001 dX9_layFree_115 rfl ?_
                    refine r_iload_n (pc' := 119) X 3 dX9_layFree_118 rfl rfl rfl ?_
                    refine r_iconst (pc' := 120) X dX9_layFree_119 rfl ?_
                    refine r_iast (i := qn) (pc' := 121) X k29_25 hqn (by omega) (by decide) dX9_layFree_120 rfl (fun M15 hM15 => ?_)
                    refine r_goto (tgt := 196) X dX9_layFree_121 rfl ?_
                    refine r_iconst (pc' := 197) X dX9_layFree_196 rfl ?_
                    refine w_zret X hr (by decide) dX9_layFree_197 ?_
                    try dsimp only
                    have hf1 : firstE (pv 7) N 0 = -1 := by omega
                    have hc1 := hcb1 hf1
                    refine ⟨by rw [if_pos (by omega)], fun _ i hi => ?_, fun a b x w1 => by rw [hM15, wu_ne (by omega)]; exact hfr a b x w1⟩
                    unfold combF
                    rw [if_pos hf1, hqn2, hM15]
                    unfold wu
                    by_cases c1 : i = qn
                    · rw [if_pos ⟨rfl, rfl, c1⟩, if_pos c1]
                    · rw [if_neg (by omega), if_neg c1]; exact hz4 i (by omega)
                  · refine r_iload_n (pc' := 96) X 1 dX9_layFree_95 rfl rfl rfl ?_
                    refine r_iload_n (pc' := 97) X 2 dX9_layFree_96 rfl rfl rfl ?_
                    refine r_icmp_lt (pc' := 100) (tgt := 106) X dX9_layFree_97 rfl rfl (by omega) (by omega) (fun h97 => ?_) (fun h97 => ?_)
                    · refine r_iload_n (pc' := 107) X 1 dX9_layFree_106 rfl rfl rfl ?_
                      refine r_istore_n (pc' := 108) (lc' := [(0, vR G (29, 0)), (1, vI q), (2, vI t), (3, vI q)]) X [1, 2, 3, 0] dX9_layFree_107 rfl (by decide) rfl rfl ?_
                      refine r_iload_n (pc' := 109) X 2 dX9_layFree_108 rfl rfl rfl ?_
                      refine r_bipush (pc' := 111) X dX9_layFree_109 rfl rfl ?_
                      refine r_icmp_ne (pc' := 114) (tgt := 124) X dX9_layFree_111 rfl rfl (by omega) (by omega) (fun h111 => ?_) (fun h111 => by exfalso; omega)
                      obtain ⟨tn, htn⟩ : ∃ x : Nat, t = (x : Int) := ⟨t.toNat, by omega⟩
                      have htN : tn < N := by omega
                      have htf : firstE (pv 7) N 0 = (tn : Int) := by omega
                      obtain ⟨sn, hsn⟩ : ∃ x : Nat, q = (x : Int) := ⟨(q).toNat, by omega⟩
                      have hsN : sn < N := by omega
                      have hsf : sn = if (qn : Int) < firstE (pv 7) N 0 then qn else qn + 1 := by first | rw [if_pos (by omega)]; omega | rw [if_neg (by omega)]; omega
                      have e7s := hqE sn hsN
                      have e7t := hqE tn htN
                      have r7s := hE sn hsN
                      have r7t := hE tn htN
                      refine r_aload_n (pc' := 125) X 0 dX9_layFree_124 rfl rfl rfl ?_
                      refine gf_29_push (pc' := 128) X gw_976 dX9_layFree_125 rfl ?_
                      refine r_iload_n (pc' := 129) X 3 dX9_layFree_128 rfl rfl rfl ?_
                      refine r_iald (i := sn) (pc' := 130) X k29_4 hsn (by omega) (by decide) dX9_layFree_129 rfl ?_
                      refine r_aload_n (pc' := 131) X 0 dX9_layFree_130 rfl rfl rfl ?_
                      refine gf_29_push (pc' := 134) X gw_976 dX9_layFree_131 rfl ?_
                      refine r_iload_n (pc' := 135) X 2 dX9_layFree_134 rfl rfl rfl ?_
                      refine r_iald (i := tn) (pc' := 136) X k29_4 htn (by omega) (by decide) dX9_layFree_135 rfl ?_
                      refine w_calli (pc' := 139) (st := []) (w_runS X (c_X9_divisor l G Ma (Ma 29 4 sn) (Ma 29 4 tn) (by omega) (by omega)) cf_X9_divisor gw_1356 rfl rfl ⟨Nat.le_of_ble_eq_true rfl, Nat.le_of_ble_eq_true rfl⟩ rfl rfl (Nat.le_of_ble_eq_true rfl) ⟨Nat.le_of_ble_eq_true rfl, Nat.le_of_ble_eq_true rfl⟩ gw_1355 dX9_layFree_136) rfl (fun z136 M16 h136 => ?_)
                      have hz136 := h136.1
                      obtain rfl := h136.2.symm
                      have hgp : 1 ≤ Int.gcd (pv 7 sn) (pv 7 tn) := by
                        rcases firstE_bd (pv 7) N 0 with ⟨f1, -⟩ | ⟨x, f1, -, f2, f3, -⟩
                        · exfalso; omega
                        · have : x = tn := by omega
                          rw [this] at f3
                          refine Nat.pos_of_ne_zero fun w1 => f3 (Int.gcd_eq_zero_iff.mp w1).2
                      have hgq : Int.gcd (Ma 29 4 sn) (Ma 29 4 tn) = Int.gcd (pv 7 sn) (pv 7 tn) := by rw [e7s, e7t]
                      obtain ⟨gn, hgn⟩ : ∃ x : Nat, x = Int.gcd (pv 7 sn) (pv 7 tn) := ⟨_, rfl⟩
                      have hg9 : gn ≤ 99 := by
                        rw [hgn]
                        have h0 : pv 7 tn ≠ 0 := by
                          rcases firstE_bd (pv 7) N 0 with ⟨f1, -⟩ | ⟨x, f1, -, f2, f3, -⟩
                          · exfalso; omega
                          · rw [show tn = x by omega]; exact f3
                        have := Nat.le_of_dvd (by omega) (Int.natAbs_dvd_natAbs.mpr (Int.gcd_dvd_right (a := pv 7 sn) (b := pv 7 tn)))
                        rw [Int.natAbs_natCast] at this
                        omega
                      rw [← hgn] at hgp
                      refine w_eqI (z' := (gn : Int)) (by rw [hz136, hgq, hgn]) ?_
                      refine r_istore (pc' := 141) (lc' := [(0, vR G (29, 0)), (1, vI q), (2, vI t), (3, vI q), (4, vI (gn : Int))]) X [1, 2, 3, 4, 0] dX9_layFree_139 (by decide) rfl rfl ?_
                      refine r_aload_n (pc' := 142) X 0 dX9_layFree_141 rfl rfl rfl ?_
                      refine gf_29_factor (pc' := 145) X gw_1001 dX9_layFree_142 rfl ?_
                      refine r_iload_n (pc' := 146) X 3 dX9_layFree_145 rfl rfl rfl ?_
                      refine r_aload_n (pc' := 147) X 0 dX9_layFree_146 rfl rfl rfl ?_
                      refine gf_29_push (pc' := 150) X gw_976 dX9_layFree_147 rfl ?_
                      refine r_iload_n (pc' := 151) X 2 dX9_layFree_150 rfl rfl rfl ?_
                      refine r_iald (i := tn) (pc' := 152) X k29_4 htn (by omega) (by decide) dX9_layFree_151 rfl ?_
                      refine w_calli (pc' := 155) (st := [vI q, vR G (29, 25)]) (w_runS X (c_X9_size l G Ma (Ma 29 4 tn) (by first | assumption | omega)) cf_X9_size gw_1227 rfl rfl ⟨Nat.le_of_ble_eq_true rfl, Nat.le_of_ble_eq_true rfl⟩ rfl rfl (Nat.le_of_ble_eq_true rfl) ⟨Nat.le_of_ble_eq_true rfl, Nat.le_of_ble_eq_true rfl⟩ gw_1226 dX9_layFree_152) rfl (fun z152 M17 h152 => ?_)
                      obtain rfl := h152.1.symm
                      obtain rfl := h152.2.symm
                      refine r_iload (pc' := 157) X 4 dX9_layFree_155 rfl rfl ?_
                      refine r_idiv (pc' := 158) X dX9_layFree_157 (by omega) (by omega) (by omega) rfl ?_
                      refine r_iast (i := sn) (pc' := 159) X k29_25 hsn (by omega) (by decide) dX9_layFree_158 rfl (fun M18 hM18 => ?_)
                      have e7t2 : M18 29 4 tn = pv 7 tn := by rw [hM18, wu_ne (by omega)]; exact e7t
                      have e7s2 : M18 29 4 sn = pv 7 sn := by rw [hM18, wu_ne (by omega)]; exact e7s
                      refine r_aload_n (pc' := 160) X 0 dX9_layFree_159 rfl rfl rfl ?_
                      refine gf_29_factor (pc' := 163) X gw_1001 dX9_layFree_160 rfl ?_
                      refine r_iload_n (pc' := 164) X 2 dX9_layFree_163 rfl rfl rfl ?_
                      refine r_aload_n (pc' := 165) X 0 dX9_layFree_164 rfl rfl rfl ?_
                      refine gf_29_push (pc' := 168) X gw_976 dX9_layFree_165 rfl ?_
                      refine r_iload_n (pc' := 169) X 2 dX9_layFree_168 rfl rfl rfl ?_
                      refine r_iald (i := tn) (pc' := 170) X k29_4 htn (by omega) (by decide) dX9_layFree_169 rfl ?_
                      refine r_if_le (pc' := 173) (tgt := 186) X dX9_layFree_170 rfl rfl (by omega) (fun h170 => ?_) (fun h170 => ?_)
                      · refine r_aload_n (pc' := 187) X 0 dX9_layFree_186 rfl rfl rfl ?_
                        refine gf_29_push (pc' := 190) X gw_976 dX9_layFree_187 rfl ?_
                        refine r_iload_n (pc' := 191) X 3 dX9_layFree_190 rfl rfl rfl ?_
                        refine r_iald (i := sn) (pc' := 192) X k29_4 hsn (by omega) (by decide) dX9_layFree_191 rfl ?_
                        refine r_iload (pc' := 194) X 4 dX9_layFree_192 rfl rfl ?_
                        refine r_idiv (pc' := 195) X dX9_layFree_194 (by omega) (by omega) (by omega) rfl ?_
                        refine r_iast (i := tn) (pc' := 196) X k29_25 htn (by omega) (by decide) dX9_layFree_195 rfl (fun M19 hM19 => ?_)
                        refine r_iconst (pc' := 197) X dX9_layFree_196 rfl ?_
                        refine w_zret X hr (by decide) dX9_layFree_197 ?_
                        try dsimp only
                        have hf1 : firstE (pv 7) N 0 ≠ -1 := by omega
                        have hc1 := hcb2 hf1
                        refine ⟨by rw [if_pos (by omega)], fun _ i hi => ?_, fun a b x w1 => by rw [hM19, wu_ne (by omega), hM18, wu_ne (by omega)]; exact hfr a b x w1⟩
                        unfold combF
                        rw [if_neg hf1, hqn2, ← hsf, htf, hM19]
                        unfold wu
                        by_cases c1 : i = tn
                        · rw [if_pos ⟨rfl, rfl, c1⟩, if_pos (by omega), c1]
                          rw [if_neg (show ¬ 0 < pv 7 tn by omega), ← hgn, e7s2]
                        · rw [if_neg (by omega), if_neg (by omega), hM18]
                          unfold wu
                          by_cases c2 : i = sn
                          · rw [if_pos ⟨rfl, rfl, c2⟩, if_pos c2, c2, Int.toNat_natCast, ← hgn, e7t]
                          · rw [if_neg (by omega), if_neg c2]; exact hz4 i (by omega)
                      · refine r_aload_n (pc' := 174) X 0 dX9_layFree_173 rfl rfl rfl ?_
                        refine gf_29_push (pc' := 177) X gw_976 dX9_layFree_174 rfl ?_
                        refine r_iload_n (pc' := 178) X 3 dX9_layFree_177 rfl rfl rfl ?_
                        refine r_iald (i := sn) (pc' := 179) X k29_4 hsn (by omega) (by decide) dX9_layFree_178 rfl ?_
                        refine r_ineg (pc' := 180) X dX9_layFree_179 rfl ?_
                        refine r_iload (pc' := 182) X 4 dX9_layFree_180 rfl rfl ?_
                        refine r_idiv (pc' := 183) X dX9_layFree_182 (by omega) (by omega) (by omega) rfl ?_
                        refine r_goto (tgt := 195) X dX9_layFree_183 rfl ?_
                        refine r_iast (i := tn) (pc' := 196) X k29_25 htn (by omega) (by decide) dX9_layFree_195 rfl (fun M20 hM20 => ?_)
                        refine r_iconst (pc' := 197) X dX9_layFree_196 rfl ?_
                        refine w_zret X hr (by decide) dX9_layFree_197 ?_
                        try dsimp only
                        have hf1 : firstE (pv 7) N 0 ≠ -1 := by omega
                        have hc1 := hcb2 hf1
                        refine ⟨by rw [if_pos (by omega)], fun _ i hi => ?_, fun a b x w1 => by rw [hM20, wu_ne (by omega), hM18, wu_ne (by omega)]; exact hfr a b x w1⟩
                        unfold combF
                        rw [if_neg hf1, hqn2, ← hsf, htf, hM20]
                        unfold wu
                        by_cases c1 : i = tn
                        · rw [if_pos ⟨rfl, rfl, c1⟩, if_pos (by omega), c1]
                          rw [if_pos (show 0 < pv 7 tn by omega), ← hgn, e7s2]
                        · rw [if_neg (by omega), if_neg (by omega), hM18]
                          unfold wu
                          by_cases c2 : i = sn
                          · rw [if_pos ⟨rfl, rfl, c2⟩, if_pos c2, c2, Int.toNat_natCast, ← hgn, e7t]
                          · rw [if_neg (by omega), if_neg c2]; exact hz4 i (by omega)
                    · refine r_iload_n (pc' := 101) X 1 dX9_layFree_100 rfl rfl rfl ?_
                      refine r_iconst (pc' := 102) X dX9_layFree_101 rfl ?_
                      refine r_iadd (pc' := 103) X dX9_layFree_102 rfl ?_
                      refine r_goto (tgt := 107) X dX9_layFree_103 rfl ?_
                      refine r_istore_n (pc' := 108) (lc' := [(0, vR G (29, 0)), (1, vI q), (2, vI t), (3, vI (q + 1))]) X [1, 2, 3, 0] dX9_layFree_107 rfl (by decide) rfl rfl ?_
                      refine r_iload_n (pc' := 109) X 2 dX9_layFree_108 rfl rfl rfl ?_
                      refine r_bipush (pc' := 111) X dX9_layFree_109 rfl rfl ?_
                      refine r_icmp_ne (pc' := 114) (tgt := 124) X dX9_layFree_111 rfl rfl (by omega) (by omega) (fun h111 => ?_) (fun h111 => by exfalso; omega)
                      obtain ⟨tn, htn⟩ : ∃ x : Nat, t = (x : Int) := ⟨t.toNat, by omega⟩
                      have htN : tn < N := by omega
                      have htf : firstE (pv 7) N 0 = (tn : Int) := by omega
                      obtain ⟨sn, hsn⟩ : ∃ x : Nat, (q + 1) = (x : Int) := ⟨((q + 1)).toNat, by omega⟩
                      have hsN : sn < N := by omega
                      have hsf : sn = if (qn : Int) < firstE (pv 7) N 0 then qn else qn + 1 := by first | rw [if_pos (by omega)]; omega | rw [if_neg (by omega)]; omega
                      have e7s := hqE sn hsN
                      have e7t := hqE tn htN
                      have r7s := hE sn hsN
                      have r7t := hE tn htN
                      refine r_aload_n (pc' := 125) X 0 dX9_layFree_124 rfl rfl rfl ?_
                      refine gf_29_push (pc' := 128) X gw_976 dX9_layFree_125 rfl ?_
                      refine r_iload_n (pc' := 129) X 3 dX9_layFree_128 rfl rfl rfl ?_
                      refine r_iald (i := sn) (pc' := 130) X k29_4 hsn (by omega) (by decide) dX9_layFree_129 rfl ?_
                      refine r_aload_n (pc' := 131) X 0 dX9_layFree_130 rfl rfl rfl ?_
                      refine gf_29_push (pc' := 134) X gw_976 dX9_layFree_131 rfl ?_
                      refine r_iload_n (pc' := 135) X 2 dX9_layFree_134 rfl rfl rfl ?_
                      refine r_iald (i := tn) (pc' := 136) X k29_4 htn (by omega) (by decide) dX9_layFree_135 rfl ?_
                      refine w_calli (pc' := 139) (st := []) (w_runS X (c_X9_divisor l G Ma (Ma 29 4 sn) (Ma 29 4 tn) (by omega) (by omega)) cf_X9_divisor gw_1356 rfl rfl ⟨Nat.le_of_ble_eq_true rfl, Nat.le_of_ble_eq_true rfl⟩ rfl rfl (Nat.le_of_ble_eq_true rfl) ⟨Nat.le_of_ble_eq_true rfl, Nat.le_of_ble_eq_true rfl⟩ gw_1355 dX9_layFree_136) rfl (fun z136 M21 h136 => ?_)
                      have hz136 := h136.1
                      obtain rfl := h136.2.symm
                      have hgp : 1 ≤ Int.gcd (pv 7 sn) (pv 7 tn) := by
                        rcases firstE_bd (pv 7) N 0 with ⟨f1, -⟩ | ⟨x, f1, -, f2, f3, -⟩
                        · exfalso; omega
                        · have : x = tn := by omega
                          rw [this] at f3
                          refine Nat.pos_of_ne_zero fun w1 => f3 (Int.gcd_eq_zero_iff.mp w1).2
                      have hgq : Int.gcd (Ma 29 4 sn) (Ma 29 4 tn) = Int.gcd (pv 7 sn) (pv 7 tn) := by rw [e7s, e7t]
                      obtain ⟨gn, hgn⟩ : ∃ x : Nat, x = Int.gcd (pv 7 sn) (pv 7 tn) := ⟨_, rfl⟩
                      have hg9 : gn ≤ 99 := by
                        rw [hgn]
                        have h0 : pv 7 tn ≠ 0 := by
                          rcases firstE_bd (pv 7) N 0 with ⟨f1, -⟩ | ⟨x, f1, -, f2, f3, -⟩
                          · exfalso; omega
                          · rw [show tn = x by omega]; exact f3
                        have := Nat.le_of_dvd (by omega) (Int.natAbs_dvd_natAbs.mpr (Int.gcd_dvd_right (a := pv 7 sn) (b := pv 7 tn)))
                        rw [Int.natAbs_natCast] at this
                        omega
                      rw [← hgn] at hgp
                      refine w_eqI (z' := (gn : Int)) (by rw [hz136, hgq, hgn]) ?_
                      refine r_istore (pc' := 141) (lc' := [(0, vR G (29, 0)), (1, vI q), (2, vI t), (3, vI (q + 1)), (4, vI (gn : Int))]) X [1, 2, 3, 4, 0] dX9_layFree_139 (by decide) rfl rfl ?_
                      refine r_aload_n (pc' := 142) X 0 dX9_layFree_141 rfl rfl rfl ?_
                      refine gf_29_factor (pc' := 145) X gw_1001 dX9_layFree_142 rfl ?_
                      refine r_iload_n (pc' := 146) X 3 dX9_layFree_145 rfl rfl rfl ?_
                      refine r_aload_n (pc' := 147) X 0 dX9_layFree_146 rfl rfl rfl ?_
                      refine gf_29_push (pc' := 150) X gw_976 dX9_layFree_147 rfl ?_
                      refine r_iload_n (pc' := 151) X 2 dX9_layFree_150 rfl rfl rfl ?_
                      refine r_iald (i := tn) (pc' := 152) X k29_4 htn (by omega) (by decide) dX9_layFree_151 rfl ?_
                      refine w_calli (pc' := 155) (st := [vI (q + 1), vR G (29, 25)]) (w_runS X (c_X9_size l G Ma (Ma 29 4 tn) (by first | assumption | omega)) cf_X9_size gw_1227 rfl rfl ⟨Nat.le_of_ble_eq_true rfl, Nat.le_of_ble_eq_true rfl⟩ rfl rfl (Nat.le_of_ble_eq_true rfl) ⟨Nat.le_of_ble_eq_true rfl, Nat.le_of_ble_eq_true rfl⟩ gw_1226 dX9_layFree_152) rfl (fun z152 M22 h152 => ?_)
                      obtain rfl := h152.1.symm
                      obtain rfl := h152.2.symm
                      refine r_iload (pc' := 157) X 4 dX9_layFree_155 rfl rfl ?_
                      refine r_idiv (pc' := 158) X dX9_layFree_157 (by omega) (by omega) (by omega) rfl ?_
                      refine r_iast (i := sn) (pc' := 159) X k29_25 hsn (by omega) (by decide) dX9_layFree_158 rfl (fun M23 hM23 => ?_)
                      have e7t2 : M23 29 4 tn = pv 7 tn := by rw [hM23, wu_ne (by omega)]; exact e7t
                      have e7s2 : M23 29 4 sn = pv 7 sn := by rw [hM23, wu_ne (by omega)]; exact e7s
                      refine r_aload_n (pc' := 160) X 0 dX9_layFree_159 rfl rfl rfl ?_
                      refine gf_29_factor (pc' := 163) X gw_1001 dX9_layFree_160 rfl ?_
                      refine r_iload_n (pc' := 164) X 2 dX9_layFree_163 rfl rfl rfl ?_
                      refine r_aload_n (pc' := 165) X 0 dX9_layFree_164 rfl rfl rfl ?_
                      refine gf_29_push (pc' := 168) X gw_976 dX9_layFree_165 rfl ?_
                      refine r_iload_n (pc' := 169) X 2 dX9_layFree_168 rfl rfl rfl ?_
                      refine r_iald (i := tn) (pc' := 170) X k29_4 htn (by omega) (by decide) dX9_layFree_169 rfl ?_
                      refine r_if_le (pc' := 173) (tgt := 186) X dX9_layFree_170 rfl rfl (by omega) (fun h170 => ?_) (fun h170 => ?_)
                      · refine r_aload_n (pc' := 187) X 0 dX9_layFree_186 rfl rfl rfl ?_
                        refine gf_29_push (pc' := 190) X gw_976 dX9_layFree_187 rfl ?_
                        refine r_iload_n (pc' := 191) X 3 dX9_layFree_190 rfl rfl rfl ?_
                        refine r_iald (i := sn) (pc' := 192) X k29_4 hsn (by omega) (by decide) dX9_layFree_191 rfl ?_
                        refine r_iload (pc' := 194) X 4 dX9_layFree_192 rfl rfl ?_
                        refine r_idiv (pc' := 195) X dX9_layFree_194 (by omega) (by omega) (by omega) rfl ?_
                        refine r_iast (i := tn) (pc' := 196) X k29_25 htn (by omega) (by decide) dX9_layFree_195 rfl (fun M24 hM24 => ?_)
                        refine r_iconst (pc' := 197) X dX9_layFree_196 rfl ?_
                        refine w_zret X hr (by decide) dX9_layFree_197 ?_
                        try dsimp only
                        have hf1 : firstE (pv 7) N 0 ≠ -1 := by omega
                        have hc1 := hcb2 hf1
                        refine ⟨by rw [if_pos (by omega)], fun _ i hi => ?_, fun a b x w1 => by rw [hM24, wu_ne (by omega), hM23, wu_ne (by omega)]; exact hfr a b x w1⟩
                        unfold combF
                        rw [if_neg hf1, hqn2, ← hsf, htf, hM24]
                        unfold wu
                        by_cases c1 : i = tn
                        · rw [if_pos ⟨rfl, rfl, c1⟩, if_pos (by omega), c1]
                          rw [if_neg (show ¬ 0 < pv 7 tn by omega), ← hgn, e7s2]
                        · rw [if_neg (by omega), if_neg (by omega), hM23]
                          unfold wu
                          by_cases c2 : i = sn
                          · rw [if_pos ⟨rfl, rfl, c2⟩, if_pos c2, c2, Int.toNat_natCast, ← hgn, e7t]
                          · rw [if_neg (by omega), if_neg c2]; exact hz4 i (by omega)
                      · refine r_aload_n (pc' := 174) X 0 dX9_layFree_173 rfl rfl rfl ?_
                        refine gf_29_push (pc' := 177) X gw_976 dX9_layFree_174 rfl ?_
                        refine r_iload_n (pc' := 178) X 3 dX9_layFree_177 rfl rfl rfl ?_
                        refine r_iald (i := sn) (pc' := 179) X k29_4 hsn (by omega) (by decide) dX9_layFree_178 rfl ?_
                        refine r_ineg (pc' := 180) X dX9_layFree_179 rfl ?_
                        refine r_iload (pc' := 182) X 4 dX9_layFree_180 rfl rfl ?_
                        refine r_idiv (pc' := 183) X dX9_layFree_182 (by omega) (by omega) (by omega) rfl ?_
                        refine r_goto (tgt := 195) X dX9_layFree_183 rfl ?_
                        refine r_iast (i := tn) (pc' := 196) X k29_25 htn (by omega) (by decide) dX9_layFree_195 rfl (fun M25 hM25 => ?_)
                        refine r_iconst (pc' := 197) X dX9_layFree_196 rfl ?_
                        refine w_zret X hr (by decide) dX9_layFree_197 ?_
                        try dsimp only
                        have hf1 : firstE (pv 7) N 0 ≠ -1 := by omega
                        have hc1 := hcb2 hf1
                        refine ⟨by rw [if_pos (by omega)], fun _ i hi => ?_, fun a b x w1 => by rw [hM25, wu_ne (by omega), hM23, wu_ne (by omega)]; exact hfr a b x w1⟩
                        unfold combF
                        rw [if_neg hf1, hqn2, ← hsf, htf, hM25]
                        unfold wu
                        by_cases c1 : i = tn
                        · rw [if_pos ⟨rfl, rfl, c1⟩, if_pos (by omega), c1]
                          rw [if_pos (show 0 < pv 7 tn by omega), ← hgn, e7s2]
                        · rw [if_neg (by omega), if_neg (by omega), hM23]
                          unfold wu
                          by_cases c2 : i = sn
                          · rw [if_pos ⟨rfl, rfl, c2⟩, if_pos c2, c2, Int.toNat_natCast, ← hgn, e7t]
                          · rw [if_neg (by omega), if_neg c2]; exact hz4 i (by omega)
                · refine r_aload_n (pc' := 77) X 0 dX9_layFree_76 rfl rfl rfl ?_
                  refine gf_29_factor (pc' := 80) X gw_1001 dX9_layFree_77 rfl ?_
                  refine r_iload_n (pc' := 81) X 3 dX9_layFree_80 rfl rfl rfl ?_
                  refine r_iconst (pc' := 82) X dX9_layFree_81 rfl ?_
                  refine r_iast (i := y) (pc' := 83) X k29_25 (by omega) (by omega) (by decide) dX9_layFree_82 rfl (fun M26 hM26 => ?_)
                  refine r_iinc (pc' := 86) (z' := ((y + 1 : Nat) : Int)) (lc' := [(0, vR G (29, 0)), (1, vI q), (2, vI t), (3, vI ((y + 1 : Nat) : Int))]) X 3 [1, 2, 3, 0] dX9_layFree_83 rfl (by omega) (by decide) rfl rfl ?_
                  refine r_goto (tgt := 71) X dX9_layFree_86 rfl ?_
                  exact ih71 (y + 1) M26 (by omega) (by omega) (fun x hx => by rw [hM26]; exact up_s (F := fun _ => 0) hzz rfl hx) (fun a b x w1 => by rw [hM26, wu_ne (by omega)]; exact hfr a b x w1)
            exact L71 ((4 - 0) + 1) 0 M (Nat.lt_succ_self _) (by omega) (fun x h => absurd h (Nat.not_lt_zero x)) (fun _ _ _ _ => rfl)
          · refine r_iconst (pc' := 68) X dX9_layFree_67 rfl ?_
            refine w_zret X hr (by decide) dX9_layFree_68 ?_
            try dsimp only
            refine ⟨?_, fun w1 => absurd w1 (by decide), fun _ _ _ _ => rfl⟩
            rw [if_neg (by rcases ht with w1 | w1; have := hcb1 w1.1; omega; have := hcb2 w1.1; omega)]
      · have qEi := qE (n - 1) (by omega)
        have rEi := hE (n - 1) (by omega)
        have hrng : rI (M 29 4 (n - 1)) := by omega
        refine r_aload_n (pc' := 15) X 0 dX9_layFree_14 rfl rfl rfl ?_
        refine gf_29_push (pc' := 18) X gw_976 dX9_layFree_15 rfl ?_
        refine r_iload_n (pc' := 19) X 3 dX9_layFree_18 rfl rfl rfl ?_
        refine r_iald (i := (n - 1)) (pc' := 20) X k29_4 (by omega) (by omega) (by decide) dX9_layFree_19 rfl ?_
        refine r_if_eq (pc' := 23) (tgt := 27) X dX9_layFree_20 rfl rfl (by omega) (fun h20 => ?_) (fun h20 => ?_)
        · refine r_iload_n (pc' := 28) X 2 dX9_layFree_27 rfl rfl rfl ?_
          refine r_istore_n (pc' := 29) (lc' := [(0, vR G (29, 0)), (1, vI q), (2, vI t), (3, vI ((n : Int) - 1))]) X [1, 2, 0, 3] dX9_layFree_28 rfl (by decide) rfl rfl ?_
          refine r_iinc (pc' := 32) (z' := (((n - 1 : Nat) : Int) - 1)) (lc' := [(0, vR G (29, 0)), (1, vI q), (2, vI t), (3, vI (((n - 1 : Nat) : Int) - 1))]) X 3 [1, 2, 3, 0] dX9_layFree_29 rfl (by omega) (by decide) rfl rfl ?_
          refine r_goto (tgt := 10) X dX9_layFree_32 rfl ?_
          exact ih10 (n - 1) t (by omega) (by omega) (by rw [show N - (n - 1) = (N - n) + 1 by omega, firstE_s, show n - 1 + 1 = n by omega]; first | (rw [if_pos (by omega)]; exact Or.inr ⟨by omega, by omega⟩) | (rw [if_neg (by omega)]; exact ht)) (by omega)
        · refine r_iload_n (pc' := 24) X 3 dX9_layFree_23 rfl rfl rfl ?_
          refine r_goto (tgt := 28) X dX9_layFree_24 rfl ?_
          refine r_istore_n (pc' := 29) (lc' := [(0, vR G (29, 0)), (1, vI q), (2, vI ((n : Int) - 1)), (3, vI ((n : Int) - 1))]) X [1, 2, 0, 3] dX9_layFree_28 rfl (by decide) rfl rfl ?_
          refine r_iinc (pc' := 32) (z' := (((n - 1 : Nat) : Int) - 1)) (lc' := [(0, vR G (29, 0)), (1, vI q), (2, vI ((n : Int) - 1)), (3, vI (((n - 1 : Nat) : Int) - 1))]) X 3 [1, 2, 3, 0] dX9_layFree_29 rfl (by omega) (by decide) rfl rfl ?_
          refine r_goto (tgt := 10) X dX9_layFree_32 rfl ?_
          exact ih10 (n - 1) ((n : Int) - 1) (by omega) (by omega) (by rw [show N - (n - 1) = (N - n) + 1 by omega, firstE_s, show n - 1 + 1 = n by omega]; first | (rw [if_pos (by omega)]; exact Or.inr ⟨by omega, by omega⟩) | (rw [if_neg (by omega)]; exact ht)) (by omega)
  exact L10 ((N) + 1) N (-9) (Nat.lt_succ_self _) (by omega) (Or.inl ⟨by rw [Nat.sub_self]; rfl, rfl⟩) (Or.inl rfl)
theorem cf_X9_free : wCal yX9_free cX9_free 3 (some .int) 2 := ⟨gw_1350, gw_10, by decide, by decide, by rfl⟩
set_option maxRecDepth 100000 in
set_option maxHeartbeats 4000000 in
theorem c_X9_free (l : Launch) (G : wG) (M : wM) (N P : Nat) (pv : Nat → Nat → Int) (hp : PlOk pv N P) (hq : PEq N P pv (M 29)) (q j : Int) (hq0 : rI q) (hj0 : rI j) : Met l yX9_free (gws yX9_free cX9_free 3 (some .int)) (wrm 3 0 0) (wPc G M [vR G (29, 0), vI q, vI j]) (wQi G (fun z M1 => (M1 29 0 0 = 0 ∧ RScr M M1 ∧ ((0 ≤ j ∧ j < N) ∧ 0 ≤ q ∧ q < combs (pv 7) N) ∧ z = combF (pv 7) N q.toNat j.toNat) ∨ (M1 29 0 0 = 1 ∧ RScr M M1 ∧ ¬ ((0 ≤ j ∧ j < N) ∧ 0 ≤ q ∧ q < combs (pv 7) N)))) 0 0 (wA G) := by
  refine wMet (lc := [(0, vR G (29, 0)), (1, vI q), (2, vI j)]) (by decide) (Nat.le_of_ble_eq_true rfl) rfl ?_
  intro p e s m args below meth c X hr
  have X : wX p s m args meth c G 3 "StateObserverModel" cX9_free := X
  obtain ⟨hN, hN1, hN4, hP, hP1, hP3, hA, hB, hE, hC, hQ⟩ := id hp
  obtain ⟨qN, qP, qA, qB, qE, qC, qQ⟩ := id hq
  refine r_aload_n (pc' := 1) X 0 dX9_free_0 rfl rfl rfl ?_
  refine r_aload_n (pc' := 2) X 0 dX9_free_1 rfl rfl rfl ?_
  refine r_iload_n (pc' := 3) X 1 dX9_free_2 rfl rfl rfl ?_
  refine w_calli (pc' := 6) (st := [vR G (29, 0)]) (w_runV X (c_X9_layFree l G M N P pv (by first | assumption | omega) (by first | assumption | omega) q (by first | assumption | omega)) cf_X9_layFree k29_0 rfl gw_1353 gp_55 rfl rfl ⟨Nat.le_of_ble_eq_true rfl, Nat.le_of_ble_eq_true rfl⟩ rfl rfl (Nat.le_of_ble_eq_true rfl) ⟨Nat.le_of_ble_eq_true rfl, Nat.le_of_ble_eq_true rfl⟩ gw_1351 dX9_free_3) rfl (fun z3 M1 h3 => ?_)
  have hz3 := h3.1
  have hi3 : z3 = 0 ∨ z3 = 1 := by rw [hz3]; split <;> omega
  have hq3 : z3 = 1 ↔ (0 ≤ q ∧ q < combs (pv 7) N) := by rw [hz3]; split <;> omega
  have qf : PEq N P pv (M1 29) := hq.keep (fun b x w1 => h3.2.2 29 b x (by omega))
  refine r_if_eq (pc' := 9) (tgt := 21) X dX9_free_6 rfl rfl (by omega) (fun h6 => ?_) (fun h6 => ?_)
  · refine r_iconst (pc' := 22) X dX9_free_21 rfl ?_
    refine w_calli (pc' := 25) (st := []) (w_runV X (c_X9_refused l G M1 1 (by first | assumption | omega)) cf_X9_refused k29_0 rfl gw_1087 gp_25 rfl rfl ⟨Nat.le_of_ble_eq_true rfl, Nat.le_of_ble_eq_true rfl⟩ rfl rfl (Nat.le_of_ble_eq_true rfl) ⟨Nat.le_of_ble_eq_true rfl, Nat.le_of_ble_eq_true rfl⟩ gw_1085 dX9_free_22) rfl (fun z22 M2 h22 => ?_)
    have hz22 : z22 = 1 := by rw [h22.1]; rfl
    have ew22 : ∀ a b x, ¬ (a = 29 ∧ b = 0 ∧ x = 0) → M2 a b x = M1 a b x := fun a b x q => by rw [h22.2]; unfold wu; rw [if_neg q]
    have er22 : M2 29 0 0 = 1 := by rw [h22.2]; unfold wu; rw [if_pos ⟨rfl, rfl, rfl⟩]
    have sc22 : RScr M1 M2 := fun a b x q => ew22 a b x (by omega)
    have qq22 : PEq N P pv (M2 29) := qf.keep (fun b x q => ew22 29 b x (by omega))
    refine r_if_eq (pc' := 28) (tgt := 32) X dX9_free_25 rfl rfl (by omega) (fun h25 => by exfalso; omega) (fun h25 => ?_)
    refine r_iconst (pc' := 29) X dX9_free_28 rfl ?_
    refine r_goto (tgt := 38) X dX9_free_29 rfl ?_
    refine w_iret X hr dX9_free_38 ?_
    try dsimp only
    exact Or.inr ⟨er22, fun a b x w1 => by rw [ew22 a b x (by omega), h3.2.2 a b x (by omega)], by omega⟩
  · refine r_aload_n (pc' := 10) X 0 dX9_free_9 rfl rfl rfl ?_
    refine r_iload_n (pc' := 11) X 2 dX9_free_10 rfl rfl rfl ?_
    refine w_calli (pc' := 14) (st := [vR G (29, 0)]) (w_runV X (c_X9_isState l G M1 N P pv (by first | assumption | omega) (by first | assumption | omega) j (by first | assumption | omega)) cf_X9_isState k29_0 rfl gw_1156 gp_36 rfl rfl ⟨Nat.le_of_ble_eq_true rfl, Nat.le_of_ble_eq_true rfl⟩ rfl rfl (Nat.le_of_ble_eq_true rfl) ⟨Nat.le_of_ble_eq_true rfl, Nat.le_of_ble_eq_true rfl⟩ gw_1154 dX9_free_11) rfl (fun z11 M3 h11 => ?_)
    have hz11 := h11.1
    obtain rfl := h11.2.symm
    have hi11 : z11 = 0 ∨ z11 = 1 := by rw [hz11]; split <;> omega
    have hq11 : z11 = 1 ↔ (0 ≤ j ∧ j < N) := by rw [hz11]; split <;> omega
    refine r_if_eq (pc' := 17) (tgt := 21) X dX9_free_14 rfl rfl (by omega) (fun h14 => ?_) (fun h14 => ?_)
    · refine r_iconst (pc' := 22) X dX9_free_21 rfl ?_
      refine w_calli (pc' := 25) (st := []) (w_runV X (c_X9_refused l G M1 1 (by first | assumption | omega)) cf_X9_refused k29_0 rfl gw_1087 gp_25 rfl rfl ⟨Nat.le_of_ble_eq_true rfl, Nat.le_of_ble_eq_true rfl⟩ rfl rfl (Nat.le_of_ble_eq_true rfl) ⟨Nat.le_of_ble_eq_true rfl, Nat.le_of_ble_eq_true rfl⟩ gw_1085 dX9_free_22) rfl (fun z22 M4 h22 => ?_)
      have hz22 : z22 = 1 := by rw [h22.1]; rfl
      have ew22 : ∀ a b x, ¬ (a = 29 ∧ b = 0 ∧ x = 0) → M4 a b x = M1 a b x := fun a b x q => by rw [h22.2]; unfold wu; rw [if_neg q]
      have er22 : M4 29 0 0 = 1 := by rw [h22.2]; unfold wu; rw [if_pos ⟨rfl, rfl, rfl⟩]
      have sc22 : RScr M1 M4 := fun a b x q => ew22 a b x (by omega)
      have qq22 : PEq N P pv (M4 29) := qf.keep (fun b x q => ew22 29 b x (by omega))
      refine r_if_eq (pc' := 28) (tgt := 32) X dX9_free_25 rfl rfl (by omega) (fun h25 => by exfalso; omega) (fun h25 => ?_)
      refine r_iconst (pc' := 29) X dX9_free_28 rfl ?_
      refine r_goto (tgt := 38) X dX9_free_29 rfl ?_
      refine w_iret X hr dX9_free_38 ?_
      try dsimp only
      exact Or.inr ⟨er22, fun a b x w1 => by rw [ew22 a b x (by omega), h3.2.2 a b x (by omega)], by omega⟩
    · refine r_iconst (pc' := 18) X dX9_free_17 rfl ?_
      refine r_goto (tgt := 22) X dX9_free_18 rfl ?_
      refine w_calli (pc' := 25) (st := []) (w_runV X (c_X9_refused l G M1 0 (by first | assumption | omega)) cf_X9_refused k29_0 rfl gw_1087 gp_25 rfl rfl ⟨Nat.le_of_ble_eq_true rfl, Nat.le_of_ble_eq_true rfl⟩ rfl rfl (Nat.le_of_ble_eq_true rfl) ⟨Nat.le_of_ble_eq_true rfl, Nat.le_of_ble_eq_true rfl⟩ gw_1085 dX9_free_22) rfl (fun z22 M5 h22 => ?_)
      have hz22 : z22 = 0 := by rw [h22.1]; rfl
      have ew22 : ∀ a b x, ¬ (a = 29 ∧ b = 0 ∧ x = 0) → M5 a b x = M1 a b x := fun a b x q => by rw [h22.2]; unfold wu; rw [if_neg q]
      have er22 : M5 29 0 0 = 0 := by rw [h22.2]; unfold wu; rw [if_pos ⟨rfl, rfl, rfl⟩]
      have sc22 : RScr M1 M5 := fun a b x q => ew22 a b x (by omega)
      have qq22 : PEq N P pv (M5 29) := qf.keep (fun b x q => ew22 29 b x (by omega))
      refine r_if_eq (pc' := 28) (tgt := 32) X dX9_free_25 rfl rfl (by omega) (fun h25 => ?_) (fun h25 => by exfalso; omega)
      refine r_aload_n (pc' := 33) X 0 dX9_free_32 rfl rfl rfl ?_
      refine gf_29_factor (pc' := 36) X gw_1001 dX9_free_33 rfl ?_
      refine r_iload_n (pc' := 37) X 2 dX9_free_36 rfl rfl rfl ?_
      refine r_iald (i := j.toNat) (pc' := 38) X k29_25 (by omega) (by omega) (by decide) dX9_free_37 rfl ?_
      refine w_iret X hr dX9_free_38 ?_
      try dsimp only
      refine Or.inl ⟨er22, fun a b x w1 => by rw [ew22 a b x (by omega), h3.2.2 a b x (by omega)], by omega, ?_⟩
      rw [ew22 29 25 _ (by omega)]
      exact h3.2.1 (by omega) j.toNat (by omega)
theorem cf_X9_freeRange : wCal yX9_freeRange cX9_freeRange 3 (some .int) 2 := ⟨gw_1361, gw_10, by decide, by decide, by rfl⟩
set_option maxRecDepth 100000 in
set_option maxHeartbeats 4000000 in
theorem c_X9_freeRange (l : Launch) (G : wG) (M : wM) (N P : Nat) (pv : Nat → Nat → Int) (hp : PlOk pv N P) (hq : PEq N P pv (M 29)) (w : Nat → Nat → Int) (T : Int) (hm : MoOk w N P T) (hT6 : T ≤ 1000000) (hv : REq N P w (M 29 13)) (q b0 : Int) (hq0 : rI q) (hb0 : b0 = 0 ∨ b0 = 1) : Met l yX9_freeRange (gws yX9_freeRange cX9_freeRange 3 (some .int)) (wrm 3 0 0) (wPc G M [vR G (29, 0), vI q, vI b0]) (wQi G (fun z M1 => (M1 29 0 0 = 0 ∧ RScr M M1 ∧ (0 ≤ q ∧ q < combs (pv 7) N) ∧ z = ext N (combF (pv 7) N q.toNat) (w 2) (w 3) (-1) b0) ∨ (M1 29 0 0 = 1 ∧ RScr M M1 ∧ ¬ (0 ≤ q ∧ q < combs (pv 7) N)))) 0 0 (wA G) := by
  refine wMet (lc := [(0, vR G (29, 0)), (1, vI q), (2, vI b0)]) (by decide) (Nat.le_of_ble_eq_true rfl) rfl ?_
  intro p e s m args below meth c X hr
  have X : wX p s m args meth c G 3 "StateObserverModel" cX9_freeRange := X
  obtain ⟨hN, hN1, hN4, hP, hP1, hP3, hA, hB, hE, hC, hQ⟩ := id hp
  obtain ⟨qN, qP, qA, qB, qE, qC, qQ⟩ := id hq
  obtain ⟨hT, hL, hU, hS, hG, hY, hAg, hHo, hBo, hTi, hLi, hLb, hLl, hLh⟩ := id hm
  obtain ⟨v1, v2, v3, v28, v29, v30, v38, v39, v37⟩ := id hv
  have hqq : (0 ≤ q ∧ q < combs (pv 7) N) → (if firstE (pv 7) N 0 = -1 then q.toNat < N else q.toNat + 1 < N) := fun w1 => by
    have w2 := w1.2
    unfold combs at w2
    split at w2 <;> rename_i w3
    · rw [if_pos w3]; omega
    · rw [if_neg w3]; omega
  refine r_aload_n (pc' := 1) X 0 dX9_freeRange_0 rfl rfl rfl ?_
  refine r_aload_n (pc' := 2) X 0 dX9_freeRange_1 rfl rfl rfl ?_
  refine r_iload_n (pc' := 3) X 1 dX9_freeRange_2 rfl rfl rfl ?_
  refine w_calli (pc' := 6) (st := [vR G (29, 0)]) (w_runV X (c_X9_layFree l G M N P pv (by first | assumption | omega) (by first | assumption | omega) q (by first | assumption | omega)) cf_X9_layFree k29_0 rfl gw_1353 gp_55 rfl rfl ⟨Nat.le_of_ble_eq_true rfl, Nat.le_of_ble_eq_true rfl⟩ rfl rfl (Nat.le_of_ble_eq_true rfl) ⟨Nat.le_of_ble_eq_true rfl, Nat.le_of_ble_eq_true rfl⟩ gw_1351 dX9_freeRange_3) rfl (fun z3 M1 h3 => ?_)
  have hz3 := h3.1
  have hi3 : z3 = 0 ∨ z3 = 1 := by rw [hz3]; split <;> omega
  have hq3 : z3 = 1 ↔ (0 ≤ q ∧ q < combs (pv 7) N) := by rw [hz3]; split <;> omega
  have qf : PEq N P pv (M1 29) := hq.keep (fun b x w1 => h3.2.2 29 b x (by omega))
  refine r_if_eq (pc' := 9) (tgt := 13) X dX9_freeRange_6 rfl rfl (by omega) (fun h6 => ?_) (fun h6 => ?_)
  · refine r_iconst (pc' := 14) X dX9_freeRange_13 rfl ?_
    refine w_calli (pc' := 17) (st := []) (w_runV X (c_X9_refused l G M1 1 (by first | assumption | omega)) cf_X9_refused k29_0 rfl gw_1087 gp_25 rfl rfl ⟨Nat.le_of_ble_eq_true rfl, Nat.le_of_ble_eq_true rfl⟩ rfl rfl (Nat.le_of_ble_eq_true rfl) ⟨Nat.le_of_ble_eq_true rfl, Nat.le_of_ble_eq_true rfl⟩ gw_1085 dX9_freeRange_14) rfl (fun z14 M2 h14 => ?_)
    have hz14 : z14 = 1 := by rw [h14.1]; rfl
    have ew14 : ∀ a b x, ¬ (a = 29 ∧ b = 0 ∧ x = 0) → M2 a b x = M1 a b x := fun a b x q => by rw [h14.2]; unfold wu; rw [if_neg q]
    have er14 : M2 29 0 0 = 1 := by rw [h14.2]; unfold wu; rw [if_pos ⟨rfl, rfl, rfl⟩]
    have sc14 : RScr M1 M2 := fun a b x q => ew14 a b x (by omega)
    have qq14 : PEq N P pv (M2 29) := qf.keep (fun b x q => ew14 29 b x (by omega))
    refine r_if_eq (pc' := 20) (tgt := 24) X dX9_freeRange_17 rfl rfl (by omega) (fun h17 => by exfalso; omega) (fun h17 => ?_)
    refine r_iconst (pc' := 21) X dX9_freeRange_20 rfl ?_
    refine r_goto (tgt := 41) X dX9_freeRange_21 rfl ?_
    refine w_iret X hr dX9_freeRange_41 ?_
    try dsimp only
    exact Or.inr ⟨er14, fun a b x w1 => by rw [ew14 a b x (by omega), h3.2.2 a b x (by omega)], by omega⟩
  · refine r_iconst (pc' := 10) X dX9_freeRange_9 rfl ?_
    refine r_goto (tgt := 14) X dX9_freeRange_10 rfl ?_
    refine w_calli (pc' := 17) (st := []) (w_runV X (c_X9_refused l G M1 0 (by first | assumption | omega)) cf_X9_refused k29_0 rfl gw_1087 gp_25 rfl rfl ⟨Nat.le_of_ble_eq_true rfl, Nat.le_of_ble_eq_true rfl⟩ rfl rfl (Nat.le_of_ble_eq_true rfl) ⟨Nat.le_of_ble_eq_true rfl, Nat.le_of_ble_eq_true rfl⟩ gw_1085 dX9_freeRange_14) rfl (fun z14 M3 h14 => ?_)
    have hz14 : z14 = 0 := by rw [h14.1]; rfl
    have ew14 : ∀ a b x, ¬ (a = 29 ∧ b = 0 ∧ x = 0) → M3 a b x = M1 a b x := fun a b x q => by rw [h14.2]; unfold wu; rw [if_neg q]
    have er14 : M3 29 0 0 = 0 := by rw [h14.2]; unfold wu; rw [if_pos ⟨rfl, rfl, rfl⟩]
    have sc14 : RScr M1 M3 := fun a b x q => ew14 a b x (by omega)
    have qq14 : PEq N P pv (M3 29) := qf.keep (fun b x q => ew14 29 b x (by omega))
    refine r_if_eq (pc' := 20) (tgt := 24) X dX9_freeRange_17 rfl rfl (by omega) (fun h17 => ?_) (fun h17 => by exfalso; omega)
    refine r_aload_n (pc' := 25) X 0 dX9_freeRange_24 rfl rfl rfl ?_
    refine r_aload_n (pc' := 26) X 0 dX9_freeRange_25 rfl rfl rfl ?_
    refine gf_29_now (pc' := 29) X gw_987 dX9_freeRange_26 rfl ?_
    refine r_aload_n (pc' := 30) X 0 dX9_freeRange_29 rfl rfl rfl ?_
    refine gf_29_factor (pc' := 33) X gw_1001 dX9_freeRange_30 rfl ?_
    refine r_iconst (pc' := 34) X dX9_freeRange_33 rfl ?_
    refine r_bipush (pc' := 36) X dX9_freeRange_34 rfl rfl ?_
    refine r_iload_n (pc' := 37) X 2 dX9_freeRange_36 rfl rfl rfl ?_
    refine w_callj (pc' := 40) (st := []) (w_runV X (c_X9_end l G M3 N P pv (by first | assumption | omega) qq14 13 25 0 4 (-9) b0 (combF (pv 7) N q.toNat) k29_13 k29_25 (by first | assumption | omega) (by first | assumption | omega) (by first | assumption | omega) (by first | assumption | omega) (fun x hx => by rw [Nat.zero_add, ew14 29 25 _ (by omega)]; exact h3.2.1 (by omega) x hx) (fun x hx => combF_bd hN4 hE (hqq (by omega)) hx) (w 2) (w 3) (fun x hx => by rw [ew14 29 13 _ (by omega), h3.2.2 29 13 _ (by omega)]; exact (v1 x hx).2.1) (fun x hx => by rw [ew14 29 13 _ (by omega), h3.2.2 29 13 _ (by omega)]; exact (v1 x hx).2.2.1) hL hU) cf_X9_end k29_0 rfl gw_1169 gp_37 rfl rfl ⟨Nat.le_of_ble_eq_true rfl, Nat.le_of_ble_eq_true rfl⟩ rfl rfl (Nat.le_of_ble_eq_true rfl) ⟨Nat.le_of_ble_eq_true rfl, Nat.le_of_ble_eq_true rfl⟩ gw_1167 dX9_freeRange_37) rfl (fun z37 M4 h37 => ?_)
    obtain rfl := h37.1.symm
    obtain rfl := h37.2.symm
    refine r_l2i (pc' := 41) X dX9_freeRange_40 rfl ?_
    refine w_iret X hr dX9_freeRange_41 ?_
    try dsimp only
    exact Or.inl ⟨er14, fun a b x w1 => by rw [ew14 a b x (by omega), h3.2.2 a b x (by omega)], by omega, ext_but9⟩
