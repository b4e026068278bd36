theorem cf_X2_advanceIntervals : wCal yX2_advanceIntervals cX2_advanceIntervals 7 none 3 := ⟨gw_770, gw_7, by decide, by decide, by rfl⟩
set_option maxRecDepth 100000 in
set_option maxHeartbeats 4000000 in
theorem c_X2_advanceIntervals (l : Launch) (G : wG) (M : wM) (op om N P : Nat) (u T : Int) (hop : op = 19 ∨ op = 20) (hom : om < 19) (hu : -99 ≤ u ∧ u ≤ 99) (hp : PlOk (M op) N P) (hm : MoOk (M om) N P T) (hT6 : T ≤ 1000000) : Met l yX2_advanceIntervals (gws yX2_advanceIntervals cX2_advanceIntervals 7 none) (wrm 2 0 0) (wPc G M [vR G (21, 0), vR G (op, 0), vR G (om, 0), vI u]) (wQv G (fun M1 => (∀ i, i < N → M1 om 12 i = endF N (M op) (M om 2) (M om 3) 0 i ∧ M1 om 13 i = endF N (M op) (M om 2) (M om 3) 1 i ∧ M1 om 2 i = lowF N (M op) u (M om 0 8) (M om 2) (M om 3) i ∧ M1 om 3 i = uppF N (M op) u (M om 0 8) (M om 2) (M om 3) i) ∧ (∀ a b, ¬ (a = om ∧ b = 12) → ¬ (a = om ∧ b = 13) → ¬ (a = om ∧ b = 2) → ¬ (a = om ∧ b = 3) → M1 a b = M a b))) 0 0 (wA G) := by
  refine wMet (lc := [(0, vR G (21, 0)), (1, vR G (op, 0)), (2, vR G (om, 0)), (3, vI u)]) (by decide) (Nat.le_of_ble_eq_true rfl) rfl ?_
  intro p e s m args below meth c X hr
  have X : wX p s m args meth c G 7 "StateObserver$Motion" cX2_advanceIntervals := X
  obtain ⟨hN, hN1, hN4, hP, hP1, hP3, hA, hB, hE, hC, hQ⟩ := id hp
  obtain ⟨hT, hL, hU, hS, hG, hY, hAg, hHo, hBo, hTi, hLi, hLb, hLl, hLh⟩ := id hm
  have hN0 := hN
  refine r_iconst (pc' := 1) X dX2_advanceIntervals_0 rfl ?_
  refine r_istore (pc' := 3) (lc' := [(0, vR G (21, 0)), (1, vR G (op, 0)), (2, vR G (om, 0)), (3, vI u), (4, vI 0)]) X [1, 2, 3, 4, 0] dX2_advanceIntervals_1 (by decide) rfl rfl ?_
  have L3 : ∀ (fu : Nat) (i : Nat) (Ma : wM), N - i < fu → (i ≤ N) → (∀ a b, ¬ (a = om ∧ b = 12) → ¬ (a = om ∧ b = 13) → Ma a b = M a b) → (∀ x, x < i → Ma om 12 x = endF N (M op) (M om 2) (M om 3) 0 x) → (∀ x, x < i → Ma om 13 x = endF N (M op) (M om 2) (M om 3) 1 x) → wV p l e (wrm 2 0 0) s m args below meth c G 7 Ma 0 0 (MQ below (wQv G (fun M1 => (∀ i, i < N → M1 om 12 i = endF N (M op) (M om 2) (M om 3) 0 i ∧ M1 om 13 i = endF N (M op) (M om 2) (M om 3) 1 i ∧ M1 om 2 i = lowF N (M op) u (M om 0 8) (M om 2) (M om 3) i ∧ M1 om 3 i = uppF N (M op) u (M om 0 8) (M om 2) (M om 3) i) ∧ (∀ a b, ¬ (a = om ∧ b = 12) → ¬ (a = om ∧ b = 13) → ¬ (a = om ∧ b = 2) → ¬ (a = om ∧ b = 3) → M1 a b = M a b))) args s 0 0 (wA G)) 3 [(0, vR G (21, 0)), (1, vR G (op, 0)), (2, vR G (om, 0)), (3, vI u), (4, vI (i : Int))] [] := by
    intro fu
    induction fu with
    | zero => intro i Ma hfu; exact absurd hfu (Nat.not_lt_zero _)
    | succ fu ih3 =>
      intro i Ma hfu3 hi hfr hv hw
      have e1 : Ma op = M op := funext fun b => hfr op b (by omega) (by omega)
      have e2 : Ma om 2 = M om 2 := hfr om 2 (by omega) (by omega)
      have e3 : Ma om 3 = M om 3 := hfr om 3 (by omega) (by omega)
      have hN : Ma op 0 0 = N := by rw [e1]; exact hN0
      refine r_iload (pc' := 5) X 4 dX2_advanceIntervals_3 rfl rfl ?_
      refine r_aload_n (pc' := 6) X 1 dX2_advanceIntervals_5 rfl rfl rfl ?_
      refine gf_P_n (pc' := 9) X hop gw_36 dX2_advanceIntervals_6 rfl ?_
      refine r_icmp_ge (pc' := 12) (tgt := 74) X dX2_advanceIntervals_9 rfl rfl (by omega) (by omega) (fun h9 => ?_) (fun h9 => ?_)
      · refine r_iconst (pc' := 75) X dX2_advanceIntervals_74 rfl ?_
        refine r_istore (pc' := 77) (lc' := [(0, vR G (21, 0)), (1, vR G (op, 0)), (2, vR G (om, 0)), (3, vI u), (4, vI 0)]) X [1, 2, 3, 4, 0] dX2_advanceIntervals_75 (by decide) rfl rfl ?_
        have L77 : ∀ (fu : Nat) (i : Nat) (Mb : wM), N - i < fu → (i ≤ N) → (∀ a b, ¬ (a = om ∧ b = 12) → ¬ (a = om ∧ b = 13) → ¬ (a = om ∧ b = 2) → ¬ (a = om ∧ b = 3) → Mb a b = M a b) → (∀ x, x < N → Mb om 12 x = endF N (M op) (M om 2) (M om 3) 0 x) → (∀ x, x < N → Mb om 13 x = endF N (M op) (M om 2) (M om 3) 1 x) → (∀ x, x < i → Mb om 2 x = lowF N (M op) u (M om 0 8) (M om 2) (M om 3) x) → (∀ x, x < i → Mb om 3 x = uppF N (M op) u (M om 0 8) (M om 2) (M om 3) x) → wV p l e (wrm 2 0 0) s m args below meth c G 7 Mb 0 0 (MQ below (wQv G (fun M1 => (∀ i, i < N → M1 om 12 i = endF N (M op) (M om 2) (M om 3) 0 i ∧ M1 om 13 i = endF N (M op) (M om 2) (M om 3) 1 i ∧ M1 om 2 i = lowF N (M op) u (M om 0 8) (M om 2) (M om 3) i ∧ M1 om 3 i = uppF N (M op) u (M om 0 8) (M om 2) (M om 3) i) ∧ (∀ a b, ¬ (a = om ∧ b = 12) → ¬ (a = om ∧ b = 13) → ¬ (a = om ∧ b = 2) → ¬ (a = om ∧ b = 3) → M1 a b = M a b))) args s 0 0 (wA G)) 77 [(0, vR G (21, 0)), (1, vR G (op, 0)), (2, vR G (om, 0)), (3, vI u), (4, vI (i : Int))] [] := by
          intro fu
          induction fu with
          | zero => intro i Mb hfu; exact absurd hfu (Nat.not_lt_zero _)
          | succ fu ih77 =>
            intro i Mb hfu77 hi hfr hv hw hv2 hw2
            have e1 : Mb op = M op := funext fun b => hfr op b (by omega) (by omega) (by omega) (by omega)
            have e8 : Mb om 0 8 = M om 0 8 := by rw [hfr om 0 (by omega) (by omega) (by omega) (by omega)]
            have hN : Mb op 0 0 = N := by rw [e1]; exact hN0
            refine r_iload (pc' := 79) X 4 dX2_advanceIntervals_77 rfl rfl ?_
            refine r_aload_n (pc' := 80) X 1 dX2_advanceIntervals_79 rfl rfl rfl ?_
            refine gf_P_n (pc' := 83) X hop gw_36 dX2_advanceIntervals_80 rfl ?_
            refine r_icmp_ge (pc' := 86) (tgt := 172) X dX2_advanceIntervals_83 rfl rfl (by omega) (by omega) (fun h83 => ?_) (fun h83 => ?_)
            · refine w_vret X hr dX2_advanceIntervals_172 ?_
              try dsimp only
              exact ⟨fun x hx => ⟨hv x hx, hw x hx, hv2 x (by omega), hw2 x (by omega)⟩, hfr⟩
            · have hBi := hB i (by omega)
              have hEi := hE i (by omega)
              rw [← e1] at hBi hEi
              have hBo' := hBo
              rw [← e8] at hBo'
              have hm1 := mul_bd (A := 99) (B := 99) (by decide) hBi hu
              have hm3 := mul_bd (A := 99) (B := 99) (a := ((Mb op 7 i).natAbs : Int)) (b := Mb om 0 8) (by decide) (by omega) (by omega)
              have hv9 := hv i (by omega)
              have hw9 := hw i (by omega)
              have hx0 := ext_bd (n := N) (f := M op (2 + i)) (lo := M om 2) (hi := M om 3) (but := -1) (gr := 0) (A := 99) (B := 1000000) (by decide) (by decide) (fun j hj => hA i j (by omega) hj) hL hU
              have hx1 := ext_bd (n := N) (f := M op (2 + i)) (lo := M om 2) (hi := M om 3) (but := -1) (gr := 1) (A := 99) (B := 1000000) (by decide) (by decide) (fun j hj => hA i j (by omega) hj) hL hU
              have hy0 := fdiv_small (a := ext N (M op (2 + i)) (M om 2) (M om 3) (-1) 0) (b := 16) (B := 400000000) (by omega) (by omega) (by decide)
              have hy1 := fdiv_small (a := ext N (M op (2 + i)) (M om 2) (M om 3) (-1) 1) (b := 16) (B := 400000000) (by omega) (by omega) (by decide)
              unfold endF at hv9 hw9
              refine r_aload_n (pc' := 87) X 1 dX2_advanceIntervals_86 rfl rfl rfl ?_
              refine gf_P_b (pc' := 90) X hop gw_50 dX2_advanceIntervals_87 rfl ?_
              refine r_iload (pc' := 92) X 4 dX2_advanceIntervals_90 rfl rfl ?_
              refine r_iald (i := i) (pc' := 93) X (kP_6 hop) (by omega) (by omega) (by decide) dX2_advanceIntervals_92 rfl ?_
              refine r_iload_n (pc' := 94) X 3 dX2_advanceIntervals_93 rfl rfl rfl ?_
              refine r_imul (pc' := 95) X dX2_advanceIntervals_94 rfl ?_
              refine r_istore (pc' := 97) (lc' := [(0, vR G (21, 0)), (1, vR G (op, 0)), (2, vR G (om, 0)), (3, vI u), (4, vI (i : Int)), (5, vI ((Mb op 6 i) * u))]) X [1, 2, 3, 4, 5, 0] dX2_advanceIntervals_95 (by decide) rfl rfl ?_
              refine r_aload_n (pc' := 98) X 1 dX2_advanceIntervals_97 rfl rfl rfl ?_
              refine gf_P_e (pc' := 101) X hop gw_54 dX2_advanceIntervals_98 rfl ?_
              refine r_iload (pc' := 103) X 4 dX2_advanceIntervals_101 rfl rfl ?_
              refine r_iald (i := i) (pc' := 104) X (kP_7 hop) (by omega) (by omega) (by decide) dX2_advanceIntervals_103 rfl ?_
              refine w_calli (pc' := 107) (st := []) (w_runS X (c_J9_abs_0f7a4 l G Mb (Mb op 7 i) (by first | assumption | omega)) cf_J9_abs_0f7a4 gw_773 rfl rfl ⟨Nat.le_of_ble_eq_true rfl, Nat.le_of_ble_eq_true rfl⟩ rfl rfl (Nat.le_of_ble_eq_true rfl) ⟨Nat.le_of_ble_eq_true rfl, Nat.le_of_ble_eq_true rfl⟩ gw_772 dX2_advanceIntervals_104) rfl (fun z104 M1 h104 => ?_)
              obtain rfl := h104.1.symm
              obtain rfl := h104.2.symm
              refine r_aload_n (pc' := 108) X 2 dX2_advanceIntervals_107 rfl rfl rfl ?_
              refine gf_M_bound (pc' := 111) X hom gw_120 dX2_advanceIntervals_108 rfl ?_
              refine r_imul (pc' := 112) X dX2_advanceIntervals_111 rfl ?_
              refine r_istore (pc' := 114) (lc' := [(0, vR G (21, 0)), (1, vR G (op, 0)), (2, vR G (om, 0)), (3, vI u), (4, vI (i : Int)), (5, vI ((Mb op 6 i) * u)), (6, vI ((((Mb op 7 i).natAbs : Int)) * (Mb om 0 8)))]) X [1, 2, 3, 4, 5, 6, 0] dX2_advanceIntervals_112 (by decide) rfl rfl ?_
              refine r_aload_n (pc' := 115) X 2 dX2_advanceIntervals_114 rfl rfl rfl ?_
              refine gf_M_lower (pc' := 118) X hom gw_95 dX2_advanceIntervals_115 rfl ?_
              refine r_iload (pc' := 120) X 4 dX2_advanceIntervals_118 rfl rfl ?_
              refine r_aload_n (pc' := 121) X 2 dX2_advanceIntervals_120 rfl rfl rfl ?_
              refine gf_M_lastLow (pc' := 124) X hom gw_134 dX2_advanceIntervals_121 rfl ?_
              refine r_iload (pc' := 126) X 4 dX2_advanceIntervals_124 rfl rfl ?_
              refine r_iald (i := i) (pc' := 127) X (kM_12 hom) (by omega) (by omega) (by decide) dX2_advanceIntervals_126 rfl ?_
              refine r_iload (pc' := 129) X 5 dX2_advanceIntervals_127 rfl rfl ?_
              refine r_iadd (pc' := 130) X dX2_advanceIntervals_129 rfl ?_
              refine r_iload (pc' := 132) X 6 dX2_advanceIntervals_130 rfl rfl ?_
              refine r_isub (pc' := 133) X dX2_advanceIntervals_132 rfl ?_
              refine r_i2l (pc' := 134) X dX2_advanceIntervals_133 (by omega) rfl ?_
              refine r_ldc (pc' := 136) (z := 1000000) X gw_766 dX2_advanceIntervals_134 rfl rfl ?_
              refine w_calli (pc' := 139) (st := [vI (i : Int), vR G (om, 2)]) (w_runSN X (c_X8_limited l G Mb (((Mb om 12 i) + ((Mb op 6 i) * u)) - ((((Mb op 7 i).natAbs : Int)) * (Mb om 0 8))) 1000000 (by first | assumption | omega) (by first | assumption | omega)) cf_X8_limited gw_753 rfl rfl ⟨Nat.le_of_ble_eq_true rfl, Nat.le_of_ble_eq_true rfl⟩ rfl rfl (Nat.le_of_ble_eq_true rfl) ⟨Nat.le_of_ble_eq_true rfl, Nat.le_of_ble_eq_true rfl⟩ tn_752 dX2_advanceIntervals_136) rfl (fun z136 M2 h136 => ?_)
              obtain rfl := h136.1.symm
              obtain rfl := h136.2.symm
              refine r_iast (i := i) (pc' := 140) X (kM_2 hom) (by omega) (by omega) (by decide) dX2_advanceIntervals_139 rfl (fun M3 hM3 => ?_)
              have e13 : M3 om 13 i = Mb om 13 i := by rw [hM3, wu_ne (by omega)]
              have e13b := e13
              refine r_aload_n (pc' := 141) X 2 dX2_advanceIntervals_140 rfl rfl rfl ?_
              refine gf_M_upper (pc' := 144) X hom gw_99 dX2_advanceIntervals_141 rfl ?_
              refine r_iload (pc' := 146) X 4 dX2_advanceIntervals_144 rfl rfl ?_
              refine r_aload_n (pc' := 147) X 2 dX2_advanceIntervals_146 rfl rfl rfl ?_
              refine gf_M_lastHigh (pc' := 150) X hom gw_137 dX2_advanceIntervals_147 rfl ?_
              refine r_iload (pc' := 152) X 4 dX2_advanceIntervals_150 rfl rfl ?_
              refine r_iald (i := i) (pc' := 153) X (kM_13 hom) (by omega) (by omega) (by decide) dX2_advanceIntervals_152 rfl ?_
              refine r_iload (pc' := 155) X 5 dX2_advanceIntervals_153 rfl rfl ?_
              refine r_iadd (pc' := 156) X dX2_advanceIntervals_155 rfl ?_
              refine r_iload (pc' := 158) X 6 dX2_advanceIntervals_156 rfl rfl ?_
              refine r_iadd (pc' := 159) X dX2_advanceIntervals_158 rfl ?_
              refine r_i2l (pc' := 160) X dX2_advanceIntervals_159 (by omega) rfl ?_
              refine r_ldc (pc' := 162) (z := 1000000) X gw_766 dX2_advanceIntervals_160 rfl rfl ?_
              refine w_calli (pc' := 165) (st := [vI (i : Int), vR G (om, 3)]) (w_runSN X (c_X8_limited l G M3 (((M3 om 13 i) + ((Mb op 6 i) * u)) + ((((Mb op 7 i).natAbs : Int)) * (Mb om 0 8))) 1000000 (by first | assumption | omega) (by first | assumption | omega)) cf_X8_limited gw_753 rfl rfl ⟨Nat.le_of_ble_eq_true rfl, Nat.le_of_ble_eq_true rfl⟩ rfl rfl (Nat.le_of_ble_eq_true rfl) ⟨Nat.le_of_ble_eq_true rfl, Nat.le_of_ble_eq_true rfl⟩ tn_752 dX2_advanceIntervals_162) rfl (fun z162 M4 h162 => ?_)
              obtain rfl := h162.1.symm
              obtain rfl := h162.2.symm
              refine r_iast (i := i) (pc' := 166) X (kM_3 hom) (by omega) (by omega) (by decide) dX2_advanceIntervals_165 rfl (fun M5 hM5 => ?_)
              refine r_iinc (pc' := 169) (z' := ((i + 1 : Nat) : Int)) (lc' := [(0, vR G (21, 0)), (1, vR G (op, 0)), (2, vR G (om, 0)), (3, vI u), (4, vI ((i + 1 : Nat) : Int)), (5, vI ((Mb op 6 i) * u)), (6, vI ((((Mb op 7 i).natAbs : Int)) * (Mb om 0 8)))]) X 4 [1, 2, 3, 4, 0, 5, 6] dX2_advanceIntervals_166 rfl (by omega) (by decide) rfl rfl ?_
              refine r_goto (tgt := 77) X dX2_advanceIntervals_169 rfl ?_
              refine w_sub (lc' := [(0, vR G (21, 0)), (1, vR G (op, 0)), (2, vR G (om, 0)), (3, vI u), (4, vI ((i + 1 : Nat) : Int))]) [0, 1, 2, 3, 4] rfl ?_
              exact ih77 (i + 1) M5 (by omega) (by omega) (fun a b h h2 h3 h4 => by rw [hM5, wu_ne h4, hM3, wu_ne h3]; exact hfr a b h h2 h3 h4) (fun x hx => by rw [hM5, wu_ne (by omega), hM3, wu_ne (by omega)]; exact hv x hx) (fun x hx => by rw [hM5, wu_ne (by omega), hM3, wu_ne (by omega)]; exact hw x hx) (fun x hx => by rw [hM5, wu_ne (by omega), hM3]; exact up_s hv2 (by rw [hv i (by omega), e1, e8]; rfl) hx) (fun x hx => by rw [hM5]; exact up_s (fun y hy => by rw [hM3, wu_ne (by omega)]; exact hw2 y hy) (by rw [e13, hw i (by omega), e1, e8]; rfl) hx)
        exact L77 ((N - 0) + 1) 0 Ma (Nat.lt_succ_self _) (by omega) (fun a b h1 h2 _ _ => hfr a b h1 h2) (fun x h => hv x (by omega)) (fun x h => hw x (by omega)) (fun x h => absurd h (Nat.not_lt_zero x)) (fun x h => absurd h (Nat.not_lt_zero x))
      · have hAi : ∀ j, j < N → -99 ≤ Ma op (2 + i) j ∧ Ma op (2 + i) j ≤ 99 := by rw [e1]; exact fun j hj => hA i j (by omega) hj
        have hL2 : ∀ j, j < N → -1000000 ≤ Ma om 2 j ∧ Ma om 2 j ≤ 1000000 := by rw [e2]; exact hL
        have hU2 : ∀ j, j < N → -1000000 ≤ Ma om 3 j ∧ Ma om 3 j ≤ 1000000 := by rw [e3]; exact hU
        have hx0 := ext_bd (but := -1) (gr := 0) (A := 99) (B := 1000000) (by decide) (by decide) hAi hL2 hU2
        have hy0 := fdiv_small (a := ext N (Ma op (2 + i)) (Ma om 2) (Ma om 3) (-1) 0) (b := 16) (B := 400000000) (by omega) (by omega) (by decide)
        refine r_aload_n (pc' := 13) X 2 dX2_advanceIntervals_12 rfl rfl rfl ?_
        refine gf_M_lastLow (pc' := 16) X hom gw_134 dX2_advanceIntervals_13 rfl ?_
        refine r_iload (pc' := 18) X 4 dX2_advanceIntervals_16 rfl rfl ?_
        refine r_aload_n (pc' := 19) X 1 dX2_advanceIntervals_18 rfl rfl rfl ?_
        refine r_aload_n (pc' := 20) X 1 dX2_advanceIntervals_19 rfl rfl rfl ?_
        refine gf_P_a (pc' := 23) X hop gw_45 dX2_advanceIntervals_20 rfl ?_
        refine r_iload (pc' := 25) X 4 dX2_advanceIntervals_23 rfl rfl ?_
        refine r_aald (i := i) (x := (op, (2 + i))) (pc' := 26) X (kP_1 hop) (by decide) (by omega) (by omega) (by decide) rfl dX2_advanceIntervals_25 rfl ?_
        refine r_aload_n (pc' := 27) X 2 dX2_advanceIntervals_26 rfl rfl rfl ?_
        refine r_iconst (pc' := 28) X dX2_advanceIntervals_27 rfl ?_
        refine r_iconst (pc' := 29) X dX2_advanceIntervals_28 rfl ?_
        refine w_callj (pc' := 32) (st := [vI (i : Int), vR G (om, 12)]) (w_runV X (c_X3_extreme l G Ma op op (2 + i) om N (-1) 0 hop hom (kP_a hop (by omega)) (by first | assumption | omega) (by first | assumption | omega) (by first | assumption | omega) (by first | assumption | omega) (fun j hj => by have := hAi j hj; omega) (fun j hj => by have := hL2 j hj; omega) (fun j hj => by have := hU2 j hj; omega)) cf_X3_extreme (kP_0 hop) rfl gw_491 gw_492 rfl rfl ⟨Nat.le_of_ble_eq_true rfl, Nat.le_of_ble_eq_true rfl⟩ rfl rfl (Nat.le_of_ble_eq_true rfl) ⟨Nat.le_of_ble_eq_true rfl, Nat.le_of_ble_eq_true rfl⟩ gw_771 dX2_advanceIntervals_29) rfl (fun z29 M6 h29 => ?_)
        obtain rfl := h29.1.symm
        obtain rfl := h29.2.symm
        refine r_ldc2 (pc' := 35) (z := 16) X gw_747 dX2_advanceIntervals_32 rfl rfl ?_
        refine w_callj (pc' := 38) (st := [vI (i : Int), vR G (om, 12)]) (w_runSN X (c_X8_floorQuotient l G Ma ((ext N (Ma op (2 + i)) (Ma om 2) (Ma om 3) (-1) 0)) 16 (by first | assumption | omega) (by first | assumption | omega) (by first | assumption | omega)) cf_X8_floorQuotient gw_499 rfl rfl ⟨Nat.le_of_ble_eq_true rfl, Nat.le_of_ble_eq_true rfl⟩ rfl rfl (Nat.le_of_ble_eq_true rfl) ⟨Nat.le_of_ble_eq_true rfl, Nat.le_of_ble_eq_true rfl⟩ tn_750 dX2_advanceIntervals_35) rfl (fun z35 M7 h35 => ?_)
        obtain rfl := h35.1.symm
        obtain rfl := h35.2.symm
        refine r_l2i (pc' := 39) X dX2_advanceIntervals_38 rfl ?_
        refine r_iast (i := i) (pc' := 40) X (kM_12 hom) (by omega) (by omega) (by decide) dX2_advanceIntervals_39 rfl (fun M8 hM8 => ?_)
        have f1 : M op = Ma op := e1.symm
        have g1 : M8 op = M op := by rw [e1.symm]; exact funext fun b => by rw [hM8, wu_ne (by omega)]
        have g2 : M8 om 2 = M om 2 := by rw [hM8, wu_ne (by omega), e2]
        have g3 : M8 om 3 = M om 3 := by rw [hM8, wu_ne (by omega), e3]
        have hN' : M8 op 0 0 = N := by rw [g1]; exact hN0
        have hAi' : ∀ j, j < N → -99 ≤ M8 op (2 + i) j ∧ M8 op (2 + i) j ≤ 99 := by rw [g1]; exact fun j hj => hA i j (by omega) hj
        have hL2' : ∀ j, j < N → -1000000 ≤ M8 om 2 j ∧ M8 om 2 j ≤ 1000000 := by rw [g2]; exact hL
        have hU2' : ∀ j, j < N → -1000000 ≤ M8 om 3 j ∧ M8 om 3 j ≤ 1000000 := by rw [g3]; exact hU
        have hx1 := ext_bd (but := -1) (gr := 1) (A := 99) (B := 1000000) (by decide) (by decide) hAi' hL2' hU2'
        have hy1 := fdiv_small (a := ext N (M8 op (2 + i)) (M8 om 2) (M8 om 3) (-1) 1) (b := 16) (B := 400000000) (by omega) (by omega) (by decide)
        refine r_aload_n (pc' := 41) X 2 dX2_advanceIntervals_40 rfl rfl rfl ?_
        refine gf_M_lastHigh (pc' := 44) X hom gw_137 dX2_advanceIntervals_41 rfl ?_
        refine r_iload (pc' := 46) X 4 dX2_advanceIntervals_44 rfl rfl ?_
        refine r_aload_n (pc' := 47) X 1 dX2_advanceIntervals_46 rfl rfl rfl ?_
        refine r_aload_n (pc' := 48) X 1 dX2_advanceIntervals_47 rfl rfl rfl ?_
        refine gf_P_a (pc' := 51) X hop gw_45 dX2_advanceIntervals_48 rfl ?_
        refine r_iload (pc' := 53) X 4 dX2_advanceIntervals_51 rfl rfl ?_
        refine r_aald (i := i) (x := (op, (2 + i))) (pc' := 54) X (kP_1 hop) (by decide) (by omega) (by omega) (by decide) rfl dX2_advanceIntervals_53 rfl ?_
        refine r_aload_n (pc' := 55) X 2 dX2_advanceIntervals_54 rfl rfl rfl ?_
        refine r_iconst (pc' := 56) X dX2_advanceIntervals_55 rfl ?_
        refine r_iconst (pc' := 57) X dX2_advanceIntervals_56 rfl ?_
        refine w_callj (pc' := 60) (st := [vI (i : Int), vR G (om, 13)]) (w_runV X (c_X3_extreme l G M8 op op (2 + i) om N (-1) 1 hop hom (kP_a hop (by omega)) (by first | assumption | omega) (by first | assumption | omega) (by first | assumption | omega) (by first | assumption | omega) (fun j hj => by have := hAi' j hj; omega) (fun j hj => by have := hL2' j hj; omega) (fun j hj => by have := hU2' j hj; omega)) cf_X3_extreme (kP_0 hop) rfl gw_491 gw_492 rfl rfl ⟨Nat.le_of_ble_eq_true rfl, Nat.le_of_ble_eq_true rfl⟩ rfl rfl (Nat.le_of_ble_eq_true rfl) ⟨Nat.le_of_ble_eq_true rfl, Nat.le_of_ble_eq_true rfl⟩ gw_771 dX2_advanceIntervals_57) rfl (fun z57 M9 h57 => ?_)
        obtain rfl := h57.1.symm
        obtain rfl := h57.2.symm
        refine r_ldc2 (pc' := 63) (z := 16) X gw_747 dX2_advanceIntervals_60 rfl rfl ?_
        refine w_callj (pc' := 66) (st := [vI (i : Int), vR G (om, 13)]) (w_runSN X (c_X8_floorQuotient l G M8 ((ext N (M8 op (2 + i)) (M8 om 2) (M8 om 3) (-1) 1)) 16 (by first | assumption | omega) (by first | assumption | omega) (by first | assumption | omega)) cf_X8_floorQuotient gw_499 rfl rfl ⟨Nat.le_of_ble_eq_true rfl, Nat.le_of_ble_eq_true rfl⟩ rfl rfl (Nat.le_of_ble_eq_true rfl) ⟨Nat.le_of_ble_eq_true rfl, Nat.le_of_ble_eq_true rfl⟩ tn_750 dX2_advanceIntervals_63) rfl (fun z63 M10 h63 => ?_)
        obtain rfl := h63.1.symm
        obtain rfl := h63.2.symm
        refine r_l2i (pc' := 67) X dX2_advanceIntervals_66 rfl ?_
        refine r_iast (i := i) (pc' := 68) X (kM_13 hom) (by omega) (by omega) (by decide) dX2_advanceIntervals_67 rfl (fun M11 hM11 => ?_)
        refine r_iinc (pc' := 71) (z' := ((i + 1 : Nat) : Int)) (lc' := [(0, vR G (21, 0)), (1, vR G (op, 0)), (2, vR G (om, 0)), (3, vI u), (4, vI ((i + 1 : Nat) : Int))]) X 4 [1, 2, 3, 4, 0] dX2_advanceIntervals_68 rfl (by omega) (by decide) rfl rfl ?_
        refine r_goto (tgt := 3) X dX2_advanceIntervals_71 rfl ?_
        exact ih3 (i + 1) M11 (by omega) (by omega) (fun a b h h2 => by rw [hM11, wu_ne h2, hM8, wu_ne h]; exact hfr a b h h2) (fun x hx => by rw [hM11, wu_ne (by omega), hM8]; exact up_s hv (by rw [e1, e2, e3]; rfl) hx) (fun x hx => by rw [hM11]; exact up_s (fun y hy => by rw [hM8, wu_ne (by omega)]; exact hw y hy) (by rw [g1, g2, g3]; rfl) hx)
  exact L3 ((N - 0) + 1) 0 M (Nat.lt_succ_self _) (by omega) (fun _ _ _ _ => rfl) (fun x h => absurd h (Nat.not_lt_zero x)) (fun x h => absurd h (Nat.not_lt_zero x))
theorem cf_X2_advanceEstimates : wCal yX2_advanceEstimates cX2_advanceEstimates 11 none 3 := ⟨gw_742, gw_7, by decide, by decide, by rfl⟩
set_option maxRecDepth 100000 in
set_option maxHeartbeats 4000000 in
theorem c_X2_advanceEstimates (l : Launch) (G : wG) (M : wM) (op om N P : Nat) (u T : Int) (hop : op = 19 ∨ op = 20) (hom : om < 19) (hu : -99 ≤ u ∧ u ≤ 99) (hp : PlOk (M op) N P) (hm : MoOk (M om) N P T) (hT6 : T ≤ 1000000) : Met l yX2_advanceEstimates (gws yX2_advanceEstimates cX2_advanceEstimates 11 none) (wrm 2 0 0) (wPc G M [vR G (21, 0), vR G (op, 0), vR G (om, 0), vI u]) (wQv G (fun M1 => (∀ i, i < N → M1 om 4 i = estF N P (M op) (M om) u i) ∧ (∀ a b, ¬ (a = om ∧ b = 4) → ¬ (a = 21 ∧ b = 1) → ¬ (a = 21 ∧ b = 2) → M1 a b = M a b))) 0 0 (wA G) := by
  refine wMet (lc := [(0, vR G (21, 0)), (1, vR G (op, 0)), (2, vR G (om, 0)), (3, vI u)]) (by decide) (Nat.le_of_ble_eq_true rfl) rfl ?_
  intro p e s m args below meth c X hr
  have X : wX p s m args meth c G 11 "StateObserver$Motion" cX2_advanceEstimates := X
  obtain ⟨hN, hN1, hN4, hP, hP1, hP3, hA, hB, hE, hC, hQ⟩ := id hp
  obtain ⟨hT, hL, hU, hS, hG, hY, hAg, hHo, hBo, hTi, hLi, hLb, hLl, hLh⟩ := id hm
  have hN0 := hN
  refine r_iconst (pc' := 1) X dX2_advanceEstimates_0 rfl ?_
  refine r_istore (pc' := 3) (lc' := [(0, vR G (21, 0)), (1, vR G (op, 0)), (2, vR G (om, 0)), (3, vI u), (4, vI 0)]) X [1, 2, 3, 4, 0] dX2_advanceEstimates_1 (by decide) rfl rfl ?_
  have L3 : ∀ (fu : Nat) (k : Nat) (Ma : wM), P - k < fu → (k ≤ P) → (∀ a b, ¬ (a = 21 ∧ b = 2) → Ma a b = M a b) → (∀ x, x < k → Ma 21 2 x = devF N (M op) (M om) x) → wV p l e (wrm 2 0 0) s m args below meth c G 11 Ma 0 0 (MQ below (wQv G (fun M1 => (∀ i, i < N → M1 om 4 i = estF N P (M op) (M om) u i) ∧ (∀ a b, ¬ (a = om ∧ b = 4) → ¬ (a = 21 ∧ b = 1) → ¬ (a = 21 ∧ b = 2) → M1 a b = M a b))) args s 0 0 (wA G)) 3 [(0, vR G (21, 0)), (1, vR G (op, 0)), (2, vR G (om, 0)), (3, vI u), (4, vI (k : Int))] [] := by
    intro fu
    induction fu with
    | zero => intro k Ma hfu; exact absurd hfu (Nat.not_lt_zero _)
    | succ fu ih3 =>
      intro k Ma hfu3 hk hfr hv
      have e1 : Ma op = M op := funext fun b => hfr op b (by omega)
      have e2 : Ma om = M om := funext fun b => hfr om b (by omega)
      have hpa : PlOk (Ma op) N P := by rw [e1]; exact hp
      have hma : MoOk (Ma om) N P T := by rw [e2]; exact hm
      have hNa : Ma op 0 0 = N := by rw [e1]; exact hN0
      have hPa : Ma op 0 1 = P := by rw [e1]; exact hP
      refine r_iload (pc' := 5) X 4 dX2_advanceEstimates_3 rfl rfl ?_
      refine r_aload_n (pc' := 6) X 1 dX2_advanceEstimates_5 rfl rfl rfl ?_
      refine gf_P_p (pc' := 9) X hop gw_41 dX2_advanceEstimates_6 rfl ?_
      refine r_icmp_ge (pc' := 12) (tgt := 33) X dX2_advanceEstimates_9 rfl rfl (by omega) (by omega) (fun h9 => ?_) (fun h9 => ?_)
      · refine r_iconst (pc' := 34) X dX2_advanceEstimates_33 rfl ?_
        refine r_istore (pc' := 36) (lc' := [(0, vR G (21, 0)), (1, vR G (op, 0)), (2, vR G (om, 0)), (3, vI u), (4, vI 0)]) X [1, 2, 3, 4, 0] dX2_advanceEstimates_34 (by decide) rfl rfl ?_
        have L36 : ∀ (fu : Nat) (i : Nat) (Mb : wM), N - i < fu → (i ≤ N) → (∀ a b, ¬ (a = 21 ∧ b = 1) → ¬ (a = 21 ∧ b = 2) → Mb a b = M a b) → (∀ x, x < P → Mb 21 2 x = devF N (M op) (M om) x) → (∀ x, x < i → Mb 21 1 x = estF N P (M op) (M om) u x) → wV p l e (wrm 2 0 0) s m args below meth c G 11 Mb 0 0 (MQ below (wQv G (fun M1 => (∀ i, i < N → M1 om 4 i = estF N P (M op) (M om) u i) ∧ (∀ a b, ¬ (a = om ∧ b = 4) → ¬ (a = 21 ∧ b = 1) → ¬ (a = 21 ∧ b = 2) → M1 a b = M a b))) args s 0 0 (wA G)) 36 [(0, vR G (21, 0)), (1, vR G (op, 0)), (2, vR G (om, 0)), (3, vI u), (4, vI (i : Int))] [] := by
          intro fu
          induction fu with
          | zero => intro i Mb hfu; exact absurd hfu (Nat.not_lt_zero _)
          | succ fu ih36 =>
            intro i Mb hfu36 hi hfr hdv hv
            have e1 : Mb op = M op := funext fun b => hfr op b (by omega) (by omega)
            have e2 : Mb om = M om := funext fun b => hfr om b (by omega) (by omega)
            have hpb : PlOk (Mb op) N P := by rw [e1]; exact hp
            have hmb : MoOk (Mb om) N P T := by rw [e2]; exact hm
            have hNb : Mb op 0 0 = N := by rw [e1]; exact hN0
            have hPb : Mb op 0 1 = P := by rw [e1]; exact hP
            refine r_iload (pc' := 38) X 4 dX2_advanceEstimates_36 rfl rfl ?_
            refine r_aload_n (pc' := 39) X 1 dX2_advanceEstimates_38 rfl rfl rfl ?_
            refine gf_P_n (pc' := 42) X hop gw_36 dX2_advanceEstimates_39 rfl ?_
            refine r_icmp_ge (pc' := 45) (tgt := 160) X dX2_advanceEstimates_42 rfl rfl (by omega) (by omega) (fun h42 => ?_) (fun h42 => ?_)
            · refine r_aload_n (pc' := 161) X 0 dX2_advanceEstimates_160 rfl rfl rfl ?_
              refine gf_21_nextValue (pc' := 164) X gw_245 dX2_advanceEstimates_161 rfl ?_
              refine r_aload_n (pc' := 165) X 2 dX2_advanceEstimates_164 rfl rfl rfl ?_
              refine gf_M_estimate (pc' := 168) X hom gw_102 dX2_advanceEstimates_165 rfl ?_
              refine w_callv (pc' := 171) (st := []) (w_runSN X (c_X8_copyRow l G Mb 21 1 om 4 4 k21_1 (kM_4 hom) (by first | assumption | omega)) cf_X8_copyRow gw_521 rfl rfl ⟨Nat.le_of_ble_eq_true rfl, Nat.le_of_ble_eq_true rfl⟩ rfl rfl (Nat.le_of_ble_eq_true rfl) ⟨Nat.le_of_ble_eq_true rfl, Nat.le_of_ble_eq_true rfl⟩ tn_761 dX2_advanceEstimates_168) rfl (fun M1 h168 => ?_)
              refine w_vret X hr dX2_advanceEstimates_171 ?_
              try dsimp only
              refine ⟨fun x hx => ?_, fun a b h1 h2 h3 => ?_⟩
              · rw [h168, wr_eq]
                exact hv x (by omega)
              · rw [h168, wr_ne h1]
                exact hfr a b h2 h3
            · have hAi : ∀ j, j < N → -99 ≤ Mb op (2 + i) j ∧ Mb op (2 + i) j ≤ 99 := by rw [e1]; exact fun j hj => hA i j (by omega) hj
              have hS2 : ∀ j, j < N → -16000000 ≤ Mb om 4 j ∧ Mb om 4 j ≤ 16000000 := by rw [e2]; exact hS
              have hG2 : ∀ j, j < P → -99 ≤ Mb om (6 + i) j ∧ Mb om (6 + i) j ≤ 99 := by rw [e2]; exact fun j hj => hG i j (by omega) hj
              have hBi : -99 ≤ Mb op 6 i ∧ Mb op 6 i ≤ 99 := by rw [e1]; exact hB i (by omega)
              have hD2 : ∀ j, j < P → -1000000000000 ≤ Mb 21 2 j ∧ Mb 21 2 j ≤ 1000000000000 := fun j hj => by rw [hdv j hj]; exact devF_bd hp hm hj
              have hm1 := mul_bd (A := 1584) (B := 99) (a := 16 * Mb op 6 i) (b := u) (by decide) (by omega) hu
              have hb1 := dot_bd (A := 99) (B := 16000000) (by decide) (by decide) (n := N) (f := Mb op (2 + i)) (g := Mb om 4) hAi hS2
              have hb2 := dot_bd (A := 99) (B := 1000000000000) (by decide) (by decide) (n := P) (f := Mb om (6 + i)) (g := Mb 21 2) hG2 hD2
              have hf1 := fdiv_small (a := dot N (Mb op (2 + i)) (Mb om 4)) (b := 16) (B := 400000000000000) (by omega) (by omega) (by decide)
              have hf2 := fdiv_small (a := dot P (Mb om (6 + i)) (Mb 21 2)) (b := 16) (B := 400000000000000) (by omega) (by omega) (by decide)
              have hdd : dot P (Mb om (6 + i)) (Mb 21 2) = dot P (Mb om (6 + i)) (devF N (M op) (M om)) := dot_congr (fun _ _ => rfl) hdv
              refine r_aload_n (pc' := 46) X 1 dX2_advanceEstimates_45 rfl rfl rfl ?_
              refine r_aload_n (pc' := 47) X 1 dX2_advanceEstimates_46 rfl rfl rfl ?_
              refine gf_P_a (pc' := 50) X hop gw_45 dX2_advanceEstimates_47 rfl ?_
              refine r_iload (pc' := 52) X 4 dX2_advanceEstimates_50 rfl rfl ?_
              refine r_aald (i := i) (x := (op, (2 + i))) (pc' := 53) X (kP_1 hop) (by decide) (by omega) (by omega) (by decide) rfl dX2_advanceEstimates_52 rfl ?_
              refine r_aload_n (pc' := 54) X 2 dX2_advanceEstimates_53 rfl rfl rfl ?_
              refine gf_M_estimate (pc' := 57) X hom gw_102 dX2_advanceEstimates_54 rfl ?_
              refine w_callj (pc' := 60) (st := []) (w_runV X (c_X3_sum l G Mb op op (2 + i) om 4 N hop (kP_a hop (by omega)) (kM_4 hom) (by first | assumption | omega) (by first | assumption | omega) (fun j hj => by have := hAi j hj; omega) (fun j hj => by have := hS2 j hj; omega)) cf_X3_sum (kP_0 hop) rfl gw_715 gw_716 rfl rfl ⟨Nat.le_of_ble_eq_true rfl, Nat.le_of_ble_eq_true rfl⟩ rfl rfl (Nat.le_of_ble_eq_true rfl) ⟨Nat.le_of_ble_eq_true rfl, Nat.le_of_ble_eq_true rfl⟩ gw_749 dX2_advanceEstimates_57) rfl (fun z57 M2 h57 => ?_)
              obtain rfl := h57.1.symm
              obtain rfl := h57.2.symm
              refine r_ldc2 (pc' := 63) (z := 16) X gw_747 dX2_advanceEstimates_60 rfl rfl ?_
              refine w_callj (pc' := 66) (st := []) (w_runSN X (c_X8_floorQuotient l G Mb ((dot N (Mb op (2 + i)) (Mb om 4))) 16 (by first | assumption | omega) (by first | assumption | omega) (by first | assumption | omega)) cf_X8_floorQuotient gw_499 rfl rfl ⟨Nat.le_of_ble_eq_true rfl, Nat.le_of_ble_eq_true rfl⟩ rfl rfl (Nat.le_of_ble_eq_true rfl) ⟨Nat.le_of_ble_eq_true rfl, Nat.le_of_ble_eq_true rfl⟩ tn_750 dX2_advanceEstimates_63) rfl (fun z63 M3 h63 => ?_)
              obtain rfl := h63.1.symm
              obtain rfl := h63.2.symm
              refine r_lstore (pc' := 68) (lc' := [(0, vR G (21, 0)), (1, vR G (op, 0)), (2, vR G (om, 0)), (3, vI u), (4, vI (i : Int)), (5, vJ ((((dot N (Mb op (2 + i)) (Mb om 4))).fdiv 16)))]) X [1, 2, 3, 4, 5, 0] dX2_advanceEstimates_66 (by decide) rfl rfl ?_
              refine r_lconst (pc' := 69) (z := 0) X dX2_advanceEstimates_68 rfl rfl ?_
              refine r_lstore (pc' := 71) (lc' := [(0, vR G (21, 0)), (1, vR G (op, 0)), (2, vR G (om, 0)), (3, vI u), (4, vI (i : Int)), (5, vJ ((((dot N (Mb op (2 + i)) (Mb om 4))).fdiv 16))), (7, vJ 0)]) X [1, 2, 3, 4, 5, 6, 0] dX2_advanceEstimates_69 (by decide) rfl rfl ?_
              refine r_iconst (pc' := 72) X dX2_advanceEstimates_71 rfl ?_
              refine r_istore (pc' := 74) (lc' := [(0, vR G (21, 0)), (1, vR G (op, 0)), (2, vR G (om, 0)), (3, vI u), (4, vI (i : Int)), (5, vJ ((((dot N (Mb op (2 + i)) (Mb om 4))).fdiv 16))), (7, vJ 0), (9, vI 0)]) X [1, 2, 3, 4, 5, 6, 7, 0] dX2_advanceEstimates_72 (by decide) rfl rfl ?_
              have L74 : ∀ (fu : Nat) (k : Nat), P - k < fu → (k ≤ P) → wV p l e (wrm 2 0 0) s m args below meth c G 11 Mb 0 0 (MQ below (wQv G (fun M1 => (∀ i, i < N → M1 om 4 i = estF N P (M op) (M om) u i) ∧ (∀ a b, ¬ (a = om ∧ b = 4) → ¬ (a = 21 ∧ b = 1) → ¬ (a = 21 ∧ b = 2) → M1 a b = M a b))) args s 0 0 (wA G)) 74 [(0, vR G (21, 0)), (1, vR G (op, 0)), (2, vR G (om, 0)), (3, vI u), (4, vI (i : Int)), (5, vJ ((((dot N (Mb op (2 + i)) (Mb om 4))).fdiv 16))), (7, vJ (dot k (Mb om (6 + i)) (Mb 21 2))), (9, vI (k : Int))] [] := by
                intro fu
                induction fu with
                | zero => intro k hfu; exact absurd hfu (Nat.not_lt_zero _)
                | succ fu ih74 =>
                  intro k hfu74 hk
                  refine r_iload (pc' := 76) X 7 dX2_advanceEstimates_74 rfl rfl ?_
                  refine r_aload_n (pc' := 77) X 1 dX2_advanceEstimates_76 rfl rfl rfl ?_
                  refine gf_P_p (pc' := 80) X hop gw_41 dX2_advanceEstimates_77 rfl ?_
                  refine r_icmp_ge (pc' := 83) (tgt := 113) X dX2_advanceEstimates_80 rfl rfl (by omega) (by omega) (fun h80 => ?_) (fun h80 => ?_)
                  · obtain rfl : k = P := by omega
                    refine r_lload (pc' := 115) X 5 dX2_advanceEstimates_113 rfl rfl ?_
                    refine r_bipush (pc' := 117) X dX2_advanceEstimates_115 rfl rfl ?_
                    refine r_aload_n (pc' := 118) X 1 dX2_advanceEstimates_117 rfl rfl rfl ?_
                    refine gf_P_b (pc' := 121) X hop gw_50 dX2_advanceEstimates_118 rfl ?_
                    refine r_iload (pc' := 123) X 4 dX2_advanceEstimates_121 rfl rfl ?_
                    refine r_iald (i := i) (pc' := 124) X (kP_6 hop) (by omega) (by omega) (by decide) dX2_advanceEstimates_123 rfl ?_
                    refine r_imul (pc' := 125) X dX2_advanceEstimates_124 rfl ?_
                    refine r_iload_n (pc' := 126) X 3 dX2_advanceEstimates_125 rfl rfl rfl ?_
                    refine r_imul (pc' := 127) X dX2_advanceEstimates_126 rfl ?_
                    refine r_i2l (pc' := 128) X dX2_advanceEstimates_127 (by omega) rfl ?_
                    refine r_ladd (pc' := 129) X dX2_advanceEstimates_128 rfl ?_
                    refine r_lload (pc' := 131) X 6 dX2_advanceEstimates_129 rfl rfl ?_
                    refine r_ldc2 (pc' := 134) (z := 16) X gw_747 dX2_advanceEstimates_131 rfl rfl ?_
                    refine w_callj (pc' := 137) (st := [vJ (((((dot N (Mb op (2 + i)) (Mb om 4))).fdiv 16)) + ((16 * (Mb op 6 i)) * u))]) (w_runSN X (c_X8_floorQuotient l G Mb (dot k (Mb om (6 + i)) (Mb 21 2)) 16 (by first | assumption | omega) (by first | assumption | omega) (by first | assumption | omega)) cf_X8_floorQuotient gw_499 rfl rfl ⟨Nat.le_of_ble_eq_true rfl, Nat.le_of_ble_eq_true rfl⟩ rfl rfl (Nat.le_of_ble_eq_true rfl) ⟨Nat.le_of_ble_eq_true rfl, Nat.le_of_ble_eq_true rfl⟩ tn_750 dX2_advanceEstimates_134) rfl (fun z134 M4 h134 => ?_)
                    obtain rfl := h134.1.symm
                    obtain rfl := h134.2.symm
                    refine r_ladd (pc' := 138) X dX2_advanceEstimates_137 rfl ?_
                    refine r_lstore (pc' := 140) (lc' := [(0, vR G (21, 0)), (1, vR G (op, 0)), (2, vR G (om, 0)), (3, vI u), (4, vI (i : Int)), (5, vJ ((((dot N (Mb op (2 + i)) (Mb om 4))).fdiv 16))), (7, vJ (dot k (Mb om (6 + i)) (Mb 21 2))), (9, vJ ((((((dot N (Mb op (2 + i)) (Mb om 4))).fdiv 16)) + ((16 * (Mb op 6 i)) * u)) + (((dot k (Mb om (6 + i)) (Mb 21 2)).fdiv 16))))]) X [1, 2, 3, 4, 5, 6, 7, 0] dX2_advanceEstimates_138 (by decide) rfl rfl ?_
                    refine r_aload_n (pc' := 141) X 0 dX2_advanceEstimates_140 rfl rfl rfl ?_
                    refine gf_21_nextValue (pc' := 144) X gw_245 dX2_advanceEstimates_141 rfl ?_
                    refine r_iload (pc' := 146) X 4 dX2_advanceEstimates_144 rfl rfl ?_
                    refine r_lload (pc' := 148) X 7 dX2_advanceEstimates_146 rfl rfl ?_
                    refine r_ldc (pc' := 150) (z := 16000000) X gw_751 dX2_advanceEstimates_148 rfl rfl ?_
                    refine w_calli (pc' := 153) (st := [vI (i : Int), vR G (21, 1)]) (w_runSN X (c_X8_limited l G Mb ((((((dot N (Mb op (2 + i)) (Mb om 4))).fdiv 16)) + ((16 * (Mb op 6 i)) * u)) + (((dot k (Mb om (6 + i)) (Mb 21 2)).fdiv 16))) 16000000 (by first | assumption | omega) (by first | assumption | omega)) cf_X8_limited gw_753 rfl rfl ⟨Nat.le_of_ble_eq_true rfl, Nat.le_of_ble_eq_true rfl⟩ rfl rfl (Nat.le_of_ble_eq_true rfl) ⟨Nat.le_of_ble_eq_true rfl, Nat.le_of_ble_eq_true rfl⟩ tn_752 dX2_advanceEstimates_150) rfl (fun z150 M5 h150 => ?_)
                    obtain rfl := h150.1.symm
                    obtain rfl := h150.2.symm
                    refine r_iast (i := i) (pc' := 154) X k21_1 (by omega) (by omega) (by decide) dX2_advanceEstimates_153 rfl (fun M6 hM6 => ?_)
                    refine r_iinc (pc' := 157) (z' := ((i + 1 : Nat) : Int)) (lc' := [(0, vR G (21, 0)), (1, vR G (op, 0)), (2, vR G (om, 0)), (3, vI u), (4, vI ((i + 1 : Nat) : Int)), (5, vJ ((((dot N (Mb op (2 + i)) (Mb om 4))).fdiv 16))), (7, vJ (dot k (Mb om (6 + i)) (Mb 21 2))), (9, vJ ((((((dot N (Mb op (2 + i)) (Mb om 4))).fdiv 16)) + ((16 * (Mb op 6 i)) * u)) + (((dot k (Mb om (6 + i)) (Mb 21 2)).fdiv 16))))]) X 4 [1, 2, 3, 4, 0, 5, 6, 7] dX2_advanceEstimates_154 rfl (by omega) (by decide) rfl rfl ?_
                    refine r_goto (tgt := 36) X dX2_advanceEstimates_157 rfl ?_
                    refine w_sub (lc' := [(0, vR G (21, 0)), (1, vR G (op, 0)), (2, vR G (om, 0)), (3, vI u), (4, vI ((i + 1 : Nat) : Int))]) [0, 1, 2, 3, 4] rfl ?_
                    exact ih36 (i + 1) M6 (by omega) (by omega) (fun a b h h2 => by rw [hM6, wu_ne h]; exact hfr a b h h2) (fun x hx => by rw [hM6, wu_ne (by omega)]; exact hdv x hx) (fun x hx => by rw [hM6]; exact up_s hv (by rw [hdd, e1, e2]; rfl) hx)
                  · refine r_lload (pc' := 85) X 6 dX2_advanceEstimates_83 rfl rfl ?_
                    refine r_aload_n (pc' := 86) X 2 dX2_advanceEstimates_85 rfl rfl rfl ?_
                    refine gf_M_gain (pc' := 89) X hom gw_105 dX2_advanceEstimates_86 rfl ?_
                    refine r_iload (pc' := 91) X 4 dX2_advanceEstimates_89 rfl rfl ?_
                    refine r_aald (i := i) (x := (om, (6 + i))) (pc' := 92) X (kM_5 hom) (by decide) (by omega) (by omega) (by decide) rfl dX2_advanceEstimates_91 rfl ?_
                    refine r_iload (pc' := 94) X 7 dX2_advanceEstimates_92 rfl rfl ?_
                    refine r_iald (i := k) (pc' := 95) X (kM_g hom (by omega)) (by omega) (by omega) (by decide) dX2_advanceEstimates_94 rfl ?_
                    refine r_i2l (pc' := 96) X dX2_advanceEstimates_95 (by have := hG2 k (by omega); omega) rfl ?_
                    refine r_aload_n (pc' := 97) X 0 dX2_advanceEstimates_96 rfl rfl rfl ?_
                    refine gf_21_deviation (pc' := 100) X gw_246 dX2_advanceEstimates_97 rfl ?_
                    refine r_iload (pc' := 102) X 7 dX2_advanceEstimates_100 rfl rfl ?_
                    refine r_lald (i := k) (pc' := 103) X k21_2 (by omega) (by omega) (by decide) dX2_advanceEstimates_102 rfl ?_
                    refine r_lmul (pc' := 104) X dX2_advanceEstimates_103 rfl ?_
                    refine r_ladd (pc' := 105) X dX2_advanceEstimates_104 rfl ?_
                    refine r_lstore (pc' := 107) (lc' := [(0, vR G (21, 0)), (1, vR G (op, 0)), (2, vR G (om, 0)), (3, vI u), (4, vI (i : Int)), (5, vJ ((((dot N (Mb op (2 + i)) (Mb om 4))).fdiv 16))), (7, vJ ((dot k (Mb om (6 + i)) (Mb 21 2)) + ((Mb om (6 + i) k) * (Mb 21 2 k)))), (9, vI (k : Int))]) X [1, 2, 3, 4, 5, 6, 0, 7] dX2_advanceEstimates_105 (by decide) rfl rfl ?_
                    refine r_iinc (pc' := 110) (z' := ((k + 1 : Nat) : Int)) (lc' := [(0, vR G (21, 0)), (1, vR G (op, 0)), (2, vR G (om, 0)), (3, vI u), (4, vI (i : Int)), (5, vJ ((((dot N (Mb op (2 + i)) (Mb om 4))).fdiv 16))), (7, vJ ((dot k (Mb om (6 + i)) (Mb 21 2)) + ((Mb om (6 + i) k) * (Mb 21 2 k)))), (9, vI ((k + 1 : Nat) : Int))]) X 7 [1, 2, 3, 4, 5, 6, 7, 0] dX2_advanceEstimates_107 rfl (by omega) (by decide) rfl rfl ?_
                    refine r_goto (tgt := 74) X dX2_advanceEstimates_110 rfl ?_
                    exact ih74 (k + 1) (by omega) (by omega)
              exact L74 ((P - 0) + 1) 0 (Nat.lt_succ_self _) (by omega)
        exact L36 ((N - 0) + 1) 0 Ma (Nat.lt_succ_self _) (by omega) (fun a b _ h => hfr a b h) (fun x h => hv x (by omega)) (fun x h => absurd h (Nat.not_lt_zero x))
      · refine r_aload_n (pc' := 13) X 0 dX2_advanceEstimates_12 rfl rfl rfl ?_
        refine gf_21_deviation (pc' := 16) X gw_246 dX2_advanceEstimates_13 rfl ?_
        refine r_iload (pc' := 18) X 4 dX2_advanceEstimates_16 rfl rfl ?_
        refine r_aload_n (pc' := 19) X 0 dX2_advanceEstimates_18 rfl rfl rfl ?_
        refine r_aload_n (pc' := 20) X 1 dX2_advanceEstimates_19 rfl rfl rfl ?_
        refine r_aload_n (pc' := 21) X 2 dX2_advanceEstimates_20 rfl rfl rfl ?_
        refine r_iload (pc' := 23) X 4 dX2_advanceEstimates_21 rfl rfl ?_
        refine w_callj (pc' := 26) (st := [vI (k : Int), vR G (21, 2)]) (w_runV X (c_X2_deviationOf l G Ma op om k N P T hop hom (by first | assumption | omega) hpa hma (by first | assumption | omega)) cf_X2_deviationOf k21_0 rfl gw_745 gp_15 rfl rfl ⟨Nat.le_of_ble_eq_true rfl, Nat.le_of_ble_eq_true rfl⟩ rfl rfl (Nat.le_of_ble_eq_true rfl) ⟨Nat.le_of_ble_eq_true rfl, Nat.le_of_ble_eq_true rfl⟩ gw_743 dX2_advanceEstimates_23) rfl (fun z23 M7 h23 => ?_)
        obtain rfl := h23.1.symm
        obtain rfl := h23.2.symm
        refine r_last (i := k) (pc' := 27) X k21_2 (by omega) (by omega) (by decide) dX2_advanceEstimates_26 rfl (fun M8 hM8 => ?_)
        refine r_iinc (pc' := 30) (z' := ((k + 1 : Nat) : Int)) (lc' := [(0, vR G (21, 0)), (1, vR G (op, 0)), (2, vR G (om, 0)), (3, vI u), (4, vI ((k + 1 : Nat) : Int))]) X 4 [1, 2, 3, 4, 0] dX2_advanceEstimates_27 rfl (by omega) (by decide) rfl rfl ?_
        refine r_goto (tgt := 3) X dX2_advanceEstimates_30 rfl ?_
        exact ih3 (k + 1) M8 (by omega) (by omega) (fun a b h => by rw [hM8, wu_ne h]; exact hfr a b h) (fun x hx => by rw [hM8]; exact up_s hv (by rw [e1, e2]) hx)
  exact L3 ((P - 0) + 1) 0 M (Nat.lt_succ_self _) (by omega) (fun _ _ _ => rfl) (fun x h => absurd h (Nat.not_lt_zero x))
theorem cf_X2_advance : wCal yX2_advance cX2_advance 6 none 4 := ⟨gw_738, gw_7, by decide, by decide, by rfl⟩
set_option maxRecDepth 100000 in
set_option maxHeartbeats 4000000 in
theorem c_X2_advance (l : Launch) (G : wG) (M : wM) (op om N P : Nat) (u d T : Int) (hop : op = 19 ∨ op = 20) (hom : om < 19) (hu : -99 ≤ u ∧ u ≤ 99) (hp : PlOk (M op) N P) (hm : MoOk (M om) N P T) (hT6 : T ≤ 1000000) (hd : -99 ≤ d ∧ d ≤ 99) : Met l yX2_advance (gws yX2_advance cX2_advance 6 none) (wrm 3 0 0) (wPc G M [vR G (21, 0), vR G (op, 0), vR G (om, 0), vI u, vI d]) (wQv G (fun M1 => StepV N P (M op) (M om) (M1 om) u d ∧ ∀ a, a ≠ om → a ≠ 21 → M1 a = M a)) 0 0 (wA G) := by
  refine wMet (lc := [(0, vR G (21, 0)), (1, vR G (op, 0)), (2, vR G (om, 0)), (3, vI u), (4, vI d)]) (by decide) (Nat.le_of_ble_eq_true rfl) rfl ?_
  intro p e s m args below meth c X hr
  have X : wX p s m args meth c G 6 "StateObserver$Motion" cX2_advance := X
  obtain ⟨hN, hN1, hN4, hP, hP1, hP3, hA, hB, hE, hC, hQ⟩ := id hp
  obtain ⟨hT, hL, hU, hS, hG, hY, hAg, hHo, hBo, hTi, hLi, hLb, hLl, hLh⟩ := id hm
  have hN0 := hN
  refine r_aload_n (pc' := 1) X 0 dX2_advance_0 rfl rfl rfl ?_
  refine r_aload_n (pc' := 2) X 1 dX2_advance_1 rfl rfl rfl ?_
  refine r_aload_n (pc' := 3) X 2 dX2_advance_2 rfl rfl rfl ?_
  refine r_iload_n (pc' := 4) X 3 dX2_advance_3 rfl rfl rfl ?_
  refine w_callv (pc' := 7) (st := []) (w_runV X (c_X2_advanceEstimates l G M op om N P u T hop hom (by first | assumption | omega) (by first | assumption | omega) (by first | assumption | omega) (by first | assumption | omega)) cf_X2_advanceEstimates k21_0 rfl gw_741 gp_14 rfl rfl ⟨Nat.le_of_ble_eq_true rfl, Nat.le_of_ble_eq_true rfl⟩ rfl rfl (Nat.le_of_ble_eq_true rfl) ⟨Nat.le_of_ble_eq_true rfl, Nat.le_of_ble_eq_true rfl⟩ gw_739 dX2_advance_4) rfl (fun M1 h4 => ?_)
  have k1 : ∀ b, b ≠ 4 → M1 om b = M om b := fun b hb => h4.2 om b (by omega) (by omega) (by omega)
  have k2 : M1 op = M op := funext fun b => h4.2 op b (by omega) (by omega) (by omega)
  have hp2 : PlOk (M1 op) N P := by rw [k2]; exact hp
  have hm2 : MoOk (M1 om) N P T := ⟨by rw [k1 1 (by omega)]; exact hT, by rw [k1 2 (by omega)]; exact hL, by rw [k1 3 (by omega)]; exact hU, fun i hi => by rw [h4.1 i hi]; exact lim_bd (by decide), fun i k hi hk => by rw [k1 (6 + i) (by omega)]; exact hG i k hi hk, by rw [k1 10 (by omega)]; exact hY, by rw [k1 11 (by omega)]; exact hAg, by rw [k1 0 (by omega)]; exact hHo, by rw [k1 0 (by omega)]; exact hBo, by rw [k1 0 (by omega)]; exact hTi, by rw [k1 0 (by omega)]; exact hLi, by rw [k1 0 (by omega)]; exact hLb, by rw [k1 12 (by omega)]; exact hLl, by rw [k1 13 (by omega)]; exact hLh⟩
  refine r_aload_n (pc' := 8) X 0 dX2_advance_7 rfl rfl rfl ?_
  refine r_aload_n (pc' := 9) X 1 dX2_advance_8 rfl rfl rfl ?_
  refine r_aload_n (pc' := 10) X 2 dX2_advance_9 rfl rfl rfl ?_
  refine r_iload_n (pc' := 11) X 3 dX2_advance_10 rfl rfl rfl ?_
  refine r_iload (pc' := 13) X 4 dX2_advance_11 rfl rfl ?_
  refine w_callv (pc' := 16) (st := []) (w_runV X (c_X2_advanceTruth l G M1 op om N P u d T hop hom (by first | assumption | omega) hp2 hm2 (by first | assumption | omega) (by first | assumption | omega)) cf_X2_advanceTruth k21_0 rfl gw_764 gp_16 rfl rfl ⟨Nat.le_of_ble_eq_true rfl, Nat.le_of_ble_eq_true rfl⟩ rfl rfl (Nat.le_of_ble_eq_true rfl) ⟨Nat.le_of_ble_eq_true rfl, Nat.le_of_ble_eq_true rfl⟩ gw_762 dX2_advance_13) rfl (fun M2 h13 => ?_)
  have k3 : ∀ b, b ≠ 1 → M2 om b = M1 om b := fun b hb => h13.2 om b (by omega) (by omega)
  have k4 : M2 op = M1 op := funext fun b => h13.2 op b (by omega) (by omega)
  have hp3 : PlOk (M2 op) N P := by rw [k4]; exact hp2
  have hm3 : MoOk (M2 om) N P T := by
    obtain ⟨hT, hL, hU, hS, hG, hY, hAg, hHo, hBo, hTi, hLi, hLb, hLl, hLh⟩ := hm2
    exact ⟨fun i hi => by rw [h13.1 i hi]; exact lim_bd (by decide), by rw [k3 2 (by omega)]; exact hL, by rw [k3 3 (by omega)]; exact hU, by rw [k3 4 (by omega)]; exact hS, fun i k hi hk => by rw [k3 (6 + i) (by omega)]; exact hG i k hi hk, by rw [k3 10 (by omega)]; exact hY, by rw [k3 11 (by omega)]; exact hAg, by rw [k3 0 (by omega)]; exact hHo, by rw [k3 0 (by omega)]; exact hBo, by rw [k3 0 (by omega)]; exact hTi, by rw [k3 0 (by omega)]; exact hLi, by rw [k3 0 (by omega)]; exact hLb, by rw [k3 12 (by omega)]; exact hLl, by rw [k3 13 (by omega)]; exact hLh⟩
  refine r_aload_n (pc' := 17) X 0 dX2_advance_16 rfl rfl rfl ?_
  refine r_aload_n (pc' := 18) X 1 dX2_advance_17 rfl rfl rfl ?_
  refine r_aload_n (pc' := 19) X 2 dX2_advance_18 rfl rfl rfl ?_
  refine r_iload_n (pc' := 20) X 3 dX2_advance_19 rfl rfl rfl ?_
  refine w_callv (pc' := 23) (st := []) (w_runV X (c_X2_advanceIntervals l G M2 op om N P u T hop hom (by first | assumption | omega) hp3 hm3 (by first | assumption | omega)) cf_X2_advanceIntervals k21_0 rfl gw_769 gp_17 rfl rfl ⟨Nat.le_of_ble_eq_true rfl, Nat.le_of_ble_eq_true rfl⟩ rfl rfl (Nat.le_of_ble_eq_true rfl) ⟨Nat.le_of_ble_eq_true rfl, Nat.le_of_ble_eq_true rfl⟩ gw_767 dX2_advance_20) rfl (fun M3 h20 => ?_)
  have k5 : ∀ a, a ≠ om → a ≠ 21 → M3 a = M a := fun a h1 h2 => funext fun b => by rw [h20.2 a b (by omega) (by omega) (by omega) (by omega), h13.2 a b (by omega) (by omega), h4.2 a b (by omega) (by omega) (by omega)]
  have k6 : ∀ b, b ≠ 1 → b ≠ 2 → b ≠ 3 → b ≠ 4 → b ≠ 12 → b ≠ 13 → M3 om b = M om b := fun b h1 h2 h3 h4' h5 h6 => by rw [h20.2 om b (by omega) (by omega) (by omega) (by omega), k3 b h1, k1 b h4']
  have k7 : M3 op = M op := k5 op (by omega) (by omega)
  have q1 : ∀ i, i < N → M3 om 1 i = truthF N (M op) u d (M om 1) i := fun i hi => by rw [h20.2 om 1 (by omega) (by omega) (by omega) (by omega), h13.1 i hi, k1 1 (by omega), k2]
  have q4 : ∀ i, i < N → M3 om 4 i = estF N P (M op) (M om) u i := fun i hi => by rw [h20.2 om 4 (by omega) (by omega) (by omega) (by omega), k3 4 (by omega), h4.1 i hi]
  have q2 : ∀ i, i < N → M3 om 12 i = endF N (M op) (M om 2) (M om 3) 0 i ∧ M3 om 13 i = endF N (M op) (M om 2) (M om 3) 1 i ∧ M3 om 2 i = lowF N (M op) u (M om 0 8) (M om 2) (M om 3) i ∧ M3 om 3 i = uppF N (M op) u (M om 0 8) (M om 2) (M om 3) i := fun i hi => by
    have h := h20.1 i hi
    rw [k4, k2, k3 2 (by omega), k3 3 (by omega), k3 0 (by omega), k1 2 (by omega), k1 3 (by omega), k1 0 (by omega)] at h
    exact h
  refine r_iconst (pc' := 24) X dX2_advance_23 rfl ?_
  refine r_istore (pc' := 26) (lc' := [(0, vR G (21, 0)), (1, vR G (op, 0)), (2, vR G (om, 0)), (3, vI u), (4, vI d), (5, vI 0)]) X [1, 2, 3, 4, 5, 0] dX2_advance_24 (by decide) rfl rfl ?_
  have L26 : ∀ (fu : Nat) (k : Nat) (Ma : wM), P - k < fu → (k ≤ P) → (∀ a b, ¬ (a = om ∧ b = 11) → Ma a b = M3 a b) → (∀ x, x < k → Ma om 11 x = if M om 11 x = -1 then -1 else M om 11 x + 1) → (∀ x, k ≤ x → Ma om 11 x = M om 11 x) → wV p l e (wrm 3 0 0) s m args below meth c G 6 Ma 0 0 (MQ below (wQv G (fun M1 => StepV N P (M op) (M om) (M1 om) u d ∧ ∀ a, a ≠ om → a ≠ 21 → M1 a = M a)) args s 0 0 (wA G)) 26 [(0, vR G (21, 0)), (1, vR G (op, 0)), (2, vR G (om, 0)), (3, vI u), (4, vI d), (5, vI (k : Int))] [] := by
    intro fu
    induction fu with
    | zero => intro k Ma hfu; exact absurd hfu (Nat.not_lt_zero _)
    | succ fu ih26 =>
      intro k Ma hfu26 hk hfr hv hw
      have k8 : Ma op 0 1 = P := by rw [hfr op 0 (by omega), k7]; exact hP
      refine r_iload (pc' := 28) X 5 dX2_advance_26 rfl rfl ?_
      refine r_aload_n (pc' := 29) X 1 dX2_advance_28 rfl rfl rfl ?_
      refine gf_P_p (pc' := 32) X hop gw_41 dX2_advance_29 rfl ?_
      refine r_icmp_ge (pc' := 35) (tgt := 63) X dX2_advance_32 rfl rfl (by omega) (by omega) (fun h32 => ?_) (fun h32 => ?_)
      · refine r_aload_n (pc' := 64) X 2 dX2_advance_63 rfl rfl rfl ?_
        refine r_iload_n (pc' := 65) X 3 dX2_advance_64 rfl rfl rfl ?_
        refine pf_M_lastInput (pc' := 68) X hom gw_127 dX2_advance_65 rfl (fun M4 hM4 => ?_)
        refine r_aload_n (pc' := 69) X 2 dX2_advance_68 rfl rfl rfl ?_
        refine r_aload_n (pc' := 70) X 2 dX2_advance_69 rfl rfl rfl ?_
        refine gf_M_bound (pc' := 73) X hom gw_120 dX2_advance_70 rfl ?_
        refine pf_M_lastBound (pc' := 76) X hom gw_130 dX2_advance_73 rfl (fun M5 hM5 => ?_)
        refine r_aload_n (pc' := 77) X 2 dX2_advance_76 rfl rfl rfl ?_
        refine r_dup (pc' := 78) X dX2_advance_77 rfl rfl ?_
        refine gf_M_time (pc' := 81) X hom gw_124 dX2_advance_78 rfl ?_
        refine r_iconst (pc' := 82) X dX2_advance_81 rfl ?_
        refine r_iadd (pc' := 83) X dX2_advance_82 rfl ?_
        refine pf_M_time (pc' := 86) X hom gw_124 dX2_advance_83 rfl (fun M6 hM6 => ?_)
        refine w_vret X hr dX2_advance_86 ?_
        try dsimp only
        have kz : ∀ b, b ≠ 0 → M6 om b = Ma om b := fun b hb => by rw [hM6, wu_ne (by omega), hM5, wu_ne (by omega), hM4, wu_ne (by omega)]
        have ky : ∀ b, b ≠ 0 → b ≠ 11 → M6 om b = M3 om b := fun b hb hc => by rw [kz b hb, hfr om b (by omega)]
        have k0 : ∀ i, i ≠ 9 → i ≠ 10 → i ≠ 11 → M6 om 0 i = M om 0 i := fun i h1 h2 h3 => by rw [hM6, hM5, hM4]; unfold wu; simp only [h1, h2, h3, and_false, if_false]; rw [hfr om 0 (by omega), k6 0 (by omega) (by omega) (by omega) (by omega) (by omega) (by omega)]
        refine ⟨⟨fun i hi => by rw [ky 1 (by omega) (by omega)]; exact q1 i hi, fun i hi => by rw [ky 12 (by omega) (by omega), ky 13 (by omega) (by omega), ky 2 (by omega) (by omega), ky 3 (by omega) (by omega)]; exact q2 i hi, fun i hi => by rw [ky 4 (by omega) (by omega)]; exact q4 i hi, fun x hx => by rw [kz 11 (by omega)]; exact hv x (by omega), fun i x hi hx => by rw [ky (6 + i) (by omega) (by omega), k6 (6 + i) (by omega) (by omega) (by omega) (by omega) (by omega) (by omega)], fun x hx => by rw [ky 10 (by omega) (by omega), k6 10 (by omega) (by omega) (by omega) (by omega) (by omega) (by omega)], k0 7 (by omega) (by omega) (by omega), k0 8 (by omega) (by omega) (by omega), ?_, ?_, ?_⟩, fun a h1 h2 => funext fun b => ?_⟩
        · rw [hM6, hM5, hM4]; unfold wu; simp; rw [hfr om 0 (by omega), k6 0 (by omega) (by omega) (by omega) (by omega) (by omega) (by omega)]
        · rw [hM6, hM5, hM4]; unfold wu; simp
        · rw [hM6, hM5, hM4]; unfold wu; simp; rw [hfr om 0 (by omega), k6 0 (by omega) (by omega) (by omega) (by omega) (by omega) (by omega)]
        · rw [hM6, wu_ne (by omega), hM5, wu_ne (by omega), hM4, wu_ne (by omega), hfr a b (by omega), k5 a h1 h2]
      · have hwk := hw k (Nat.le_refl k)
        have hagk := hAg k (by omega)
        refine r_aload_n (pc' := 36) X 2 dX2_advance_35 rfl rfl rfl ?_
        refine gf_M_age (pc' := 39) X hom gw_113 dX2_advance_36 rfl ?_
        refine r_iload (pc' := 41) X 5 dX2_advance_39 rfl rfl ?_
        refine r_iald (i := k) (pc' := 42) X (kM_11 hom) (by omega) (by omega) (by decide) dX2_advance_41 rfl ?_
        refine r_iconst (pc' := 43) X dX2_advance_42 rfl ?_
        refine r_icmp_eq (pc' := 46) (tgt := 57) X dX2_advance_43 rfl rfl (by omega) (by omega) (fun h43 => ?_) (fun h43 => ?_)
        · refine r_iinc (pc' := 60) (z' := ((k + 1 : Nat) : Int)) (lc' := [(0, vR G (21, 0)), (1, vR G (op, 0)), (2, vR G (om, 0)), (3, vI u), (4, vI d), (5, vI ((k + 1 : Nat) : Int))]) X 5 [1, 2, 3, 4, 5, 0] dX2_advance_57 rfl (by omega) (by decide) rfl rfl ?_
          refine r_goto (tgt := 26) X dX2_advance_60 rfl ?_
          exact ih26 (k + 1) Ma (by omega) (by omega) hfr (fun x hx => by rcases Nat.lt_or_ge x k with q | q; exact hv x q; rw [show x = k by omega, hwk, if_pos (by omega)]; omega) (fun x hx => hw x (by omega))
        · refine r_aload_n (pc' := 47) X 2 dX2_advance_46 rfl rfl rfl ?_
          refine gf_M_age (pc' := 50) X hom gw_113 dX2_advance_47 rfl ?_
          refine r_iload (pc' := 52) X 5 dX2_advance_50 rfl rfl ?_
          refine r_dup2 (pc' := 53) X dX2_advance_52 rfl rfl rfl ?_
          refine r_iald (i := k) (pc' := 54) X (kM_11 hom) (by omega) (by omega) (by decide) dX2_advance_53 rfl ?_
          refine r_iconst (pc' := 55) X dX2_advance_54 rfl ?_
          refine r_iadd (pc' := 56) X dX2_advance_55 rfl ?_
          refine r_iast (i := k) (pc' := 57) X (kM_11 hom) (by omega) (by omega) (by decide) dX2_advance_56 rfl (fun M7 hM7 => ?_)
          refine r_iinc (pc' := 60) (z' := ((k + 1 : Nat) : Int)) (lc' := [(0, vR G (21, 0)), (1, vR G (op, 0)), (2, vR G (om, 0)), (3, vI u), (4, vI d), (5, vI ((k + 1 : Nat) : Int))]) X 5 [1, 2, 3, 4, 5, 0] dX2_advance_57 rfl (by omega) (by decide) rfl rfl ?_
          refine r_goto (tgt := 26) X dX2_advance_60 rfl ?_
          exact ih26 (k + 1) M7 (by omega) (by omega) (fun a b h => by rw [hM7, wu_ne h]; exact hfr a b h) (fun x hx => by rw [hM7]; exact up_s hv (by rw [if_neg (by omega), hwk]) hx) (fun x hx => by rw [hM7]; unfold wu; rw [if_neg (by omega)]; exact hw x (by omega))
  exact L26 ((P - 0) + 1) 0 M3 (Nat.lt_succ_self _) (by omega) (fun _ _ _ => rfl) (fun x h => absurd h (Nat.not_lt_zero x)) (fun x _ => by rw [k6 11 (by omega) (by omega) (by omega) (by omega) (by omega) (by omega)])
