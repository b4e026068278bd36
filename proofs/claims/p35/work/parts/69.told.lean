/-! a system by lot told to both -/
theorem cf_L_told : wCal yL_told cL_told 12 (some .boolean) 4 := ⟨gw_576, gw_0, by decide, by decide, by rfl⟩
set_option maxRecDepth 100000 in
set_option maxHeartbeats 4000000 in
theorem c_L_told (l : Launch) (G1 G2 : wG) (M W : wM) (hfl : l.stackTraces = false) (b Ls : Nat) (xs : Nat → Int32) (t0 : Nat) (ht0 : t0 ≤ 70) (hLs : Ls ≤ 100000) (L nx nn : Nat) (T : Int) (hT : 0 ≤ T ∧ T ≤ 1000) (hB1 : TxB (M 27) L) (hB2 : TxB (W 27) L) (hf1 : FM (M 2)) (hf2 : FM (W 2)) (hn1 : M 26 0 1 = (nx : Int)) (hn2 : W 26 0 1 = (nn : Int)) (hx1 : nx < 14) (hx2 : nn < 14) : Met l yL_told (gws yL_told cL_told 12 (some .boolean)) (wrm 10 280 1680) (dPs G1 G2 M W [vR G1 (28, 0), vR G2 (28, 0), (Value.ref b), vI (t0 : Int)] b Ls xs) (dQi G1 G2 (fun z M1 W1 => z = 1 ∧ ∃ N P L : Nat, Lo N P L nx 0 T M1 ∧ Lo N P L nn 0 T W1 ∧ Al N P M1 W1 ∧ FM (M1 2) ∧ FM (W1 2) ∧ ∀ x, x < 2 → M1 25 2 x = 0 ∧ W1 25 2 x = 0)) 280 1680 (dA G1 G2) := by
  refine dMetS (lc := [(0, vR G1 (28, 0)), (1, vR G2 (28, 0)), (2, (Value.ref b)), (3, vI (t0 : Int))]) (by decide) (Nat.le_of_ble_eq_true rfl) rfl ?_
  intro p e s m args below meth c X hL hr hX hbl hbA
  have X : wX p s m args meth c (gA G1 (dA G1 G2)) 12 "StateObserverLaw" cL_told := X
  have X2 := X.other hL (fun q h => h)
  refine e_aloadQ_n (pc' := 1) X 2 dL_told_0 rfl rfl rfl ?_
  refine e_iload_n (pc' := 2) X 3 dL_told_1 rfl rfl rfl ?_
  refine e_eqI (z' := ((t0 : Nat) : Int)) (by omega) ?_
  refine e_cell (i := t0) (st := []) (pc' := 5) X hX hbl hbA (by omega) hLs ⟨Nat.le_of_ble_eq_true rfl, Nat.le_of_ble_eq_true rfl⟩ (Nat.le_of_ble_eq_true rfl) ⟨by show _ ≤ 280; omega, by show _ ≤ 1680; omega⟩ dL_told_2 rfl (fun z2 hz2a hz2b => ?_)
  have dy := And.intro hz2a hz2b
  have m4 := tmn (a := z2) (b := 4) (by omega) (by decide)
  have q4 := tdn (a := z2) (b := 4) (by omega) (by decide)
  have m3 := tmn (a := z2.tdiv 4) (b := 3) (by omega) (by decide)
  have q12 := tdn (a := z2) (b := 12) (by omega) (by decide)
  have m12 := tmn (a := z2.tdiv 12) (b := 4) (by omega) (by decide)
  have q48 := tdn (a := z2) (b := 48) (by omega) (by decide)
  have m48 := tmn (a := z2.tdiv 48) (b := 3) (by omega) (by decide)
  obtain ⟨z2t, hz2t⟩ : ∃ q : Int, z2.tdiv 144 = q := ⟨_, rfl⟩
  have q144 := tdn (a := z2) (b := 144) (by omega) (by decide)
  rw [hz2t] at q144
  have m144 := tmn (a := z2t) (b := 41) (by omega) (by decide)
  refine e_istore (pc' := 7) (lc' := [(0, vR G1 (28, 0)), (1, vR G2 (28, 0)), (2, (Value.ref b)), (3, vI (t0 : Int)), (4, vI z2)]) X [1, 2, 3, 4, 0] dL_told_5 (by decide) rfl rfl ?_
  refine e_iconst (pc' := 8) X dL_told_7 rfl ?_
  refine e_iload (pc' := 10) X 4 dL_told_8 rfl rfl ?_
  refine e_iconst (pc' := 11) X dL_told_10 rfl ?_
  refine e_irem (pc' := 12) X dL_told_11 (by omega) (by omega) (by omega) rfl ?_
  refine e_iadd (pc' := 13) X dL_told_12 rfl ?_
  obtain ⟨N, hN, hNa, hNb⟩ : ∃ q : Nat, 1 + z2.tmod 4 = (q : Int) ∧ 1 ≤ q ∧ q ≤ 4 := ⟨(1 + z2.tmod 4).toNat, by omega, by omega, by omega⟩
  refine e_eqI (z' := (N : Int)) (by omega) ?_
  refine e_istore (pc' := 15) (lc' := [(0, vR G1 (28, 0)), (1, vR G2 (28, 0)), (2, (Value.ref b)), (3, vI (t0 : Int)), (4, vI z2), (5, vI (N : Int))]) X [1, 2, 3, 4, 5, 0] dL_told_13 (by decide) rfl rfl ?_
  refine e_iconst (pc' := 16) X dL_told_15 rfl ?_
  refine e_iload (pc' := 18) X 4 dL_told_16 rfl rfl ?_
  refine e_iconst (pc' := 19) X dL_told_18 rfl ?_
  refine e_idiv (pc' := 20) X dL_told_19 (by omega) (by omega) (by omega) rfl ?_
  refine e_iconst (pc' := 21) X dL_told_20 rfl ?_
  refine e_irem (pc' := 22) X dL_told_21 (by omega) (by omega) (by omega) rfl ?_
  refine e_iadd (pc' := 23) X dL_told_22 rfl ?_
  obtain ⟨P, hP, hPa, hPb⟩ : ∃ q : Nat, 1 + (z2.tdiv 4).tmod 3 = (q : Int) ∧ 1 ≤ q ∧ q ≤ 3 := ⟨(1 + (z2.tdiv 4).tmod 3).toNat, by omega, by omega, by omega⟩
  refine e_eqI (z' := (P : Int)) (by omega) ?_
  refine e_istore (pc' := 25) (lc' := [(0, vR G1 (28, 0)), (1, vR G2 (28, 0)), (2, (Value.ref b)), (3, vI (t0 : Int)), (4, vI z2), (5, vI (N : Int)), (6, vI (P : Int))]) X [1, 2, 3, 4, 5, 6, 0] dL_told_23 (by decide) rfl rfl ?_
  refine e_aload_n (pc' := 26) X 0 dL_told_25 rfl rfl rfl ?_
  refine e_call1 (pc' := 29) (st := []) hL (fun q h => h) (e_runV X (fun q h => (fun q h => h) q (Or.inl h)) hL.1 (c_X8_clearText l G1 M L hB1) cf_X8_clearText k28_0 rfl gw_578 gw_579 rfl rfl ⟨Nat.le_of_ble_eq_true rfl, Nat.le_of_ble_eq_true rfl⟩ rfl rfl (Nat.le_of_ble_eq_true rfl) ⟨by show _ ≤ 280; omega, by show _ ≤ 1680; omega⟩ gw_577 dL_told_26) rfl (fun z26 M1 h26 => ?_)
  obtain ⟨hz26, hm26⟩ := h26
  refine e_aload_n (pc' := 30) X 1 dL_told_29 rfl rfl rfl ?_
  refine e_call2 (pc' := 33) (st := [vI z26]) hL (fun q h => h) (e_runV X2 (fun q h => (fun q h => h) q (Or.inr h)) hL.2.1 (c_X8_clearText l G2 W L hB2) cf_X8_clearText k28_0 rfl gw_578 gw_579 rfl rfl ⟨Nat.le_of_ble_eq_true rfl, Nat.le_of_ble_eq_true rfl⟩ rfl rfl (Nat.le_of_ble_eq_true rfl) ⟨by show _ ≤ 280; omega, by show _ ≤ 1680; omega⟩ gw_577 dL_told_30) rfl (fun z30 W2 h30 => ?_)
  obtain ⟨hz30, hw30⟩ := h30
  have tw0 : Tw M W M1 W2 0 := by rw [hm26, hw30]; exact Tw.start hB1 hB2 hf1
  refine e_icmp_neE (pc' := 36) (tgt := 122) X dL_told_33 rfl rfl (by omega) ?_
  refine e_aload_n (pc' := 37) X 0 dL_told_36 rfl rfl rfl ?_
  refine e_aload_n (pc' := 38) X 1 dL_told_37 rfl rfl rfl ?_
  refine e_bipush (pc' := 40) X dL_told_38 rfl rfl ?_
  refine e_callD (pc' := 43) (st := []) (fun q h => h) (e_runD X hL (fun q h => h) (c_L_put l G1 G2 M1 W2 hfl 0 (by omega) 78 (by first | omega | assumption | decide) tw0.1 tw0.2.1) cf_L_put gw_582 rfl rfl ⟨Nat.le_of_ble_eq_true rfl, Nat.le_of_ble_eq_true rfl⟩ rfl rfl (Nat.le_of_ble_eq_true rfl) ⟨by show _ ≤ 280; omega, by show _ ≤ 1680; omega⟩ gw_581 dL_told_40) rfl (fun z40 M3 W4 h40 => ?_)
  obtain ⟨hz40, hm40, hw40⟩ := h40
  have tw40 : Tw M W M3 W4 (0 + 1) := by rw [hm40, hw40]; exact tw0.put (by omega) (by omega)
  have ke40 : ∀ y, y < 0 → M3 27 1 y = M1 27 1 y := fun y hy => by rw [hm40]; exact ap_ne (Nat.ne_of_lt hy)
  have at40 : M3 27 1 (0) = _ := (congrFun (congrFun (congrFun hm40 27) 1) (0)).trans ap_at
  refine e_if_eq (pc' := 46) (tgt := 122) X dL_told_43 rfl rfl (by omega) (fun h43 => by exfalso; omega) (fun h43 => ?_)
  refine e_aload_n (pc' := 47) X 0 dL_told_46 rfl rfl rfl ?_
  refine e_aload_n (pc' := 48) X 1 dL_told_47 rfl rfl rfl ?_
  refine e_bipush (pc' := 50) X dL_told_48 rfl rfl ?_
  refine e_iload (pc' := 52) X 5 dL_told_50 rfl rfl ?_
  refine e_iadd (pc' := 53) X dL_told_52 rfl ?_
  refine e_callD (pc' := 56) (st := []) (fun q h => h) (e_runD X hL (fun q h => h) (c_L_put l G1 G2 M3 W4 hfl 1 (by omega) (48 + (N : Int)) (by first | omega | assumption | decide) tw40.1 tw40.2.1) cf_L_put gw_582 rfl rfl ⟨Nat.le_of_ble_eq_true rfl, Nat.le_of_ble_eq_true rfl⟩ rfl rfl (Nat.le_of_ble_eq_true rfl) ⟨by show _ ≤ 280; omega, by show _ ≤ 1680; omega⟩ gw_581 dL_told_53) rfl (fun z53 M5 W6 h53 => ?_)
  obtain ⟨hz53, hm53, hw53⟩ := h53
  have tw53 : Tw M W M5 W6 (1 + 1) := by rw [hm53, hw53]; exact tw40.put (by omega) (by omega)
  have ke53 : ∀ y, y < 1 → M5 27 1 y = M3 27 1 y := fun y hy => by rw [hm53]; exact ap_ne (Nat.ne_of_lt hy)
  have at53 : M5 27 1 (1) = _ := (congrFun (congrFun (congrFun hm53 27) 1) (1)).trans ap_at
  refine e_if_eq (pc' := 59) (tgt := 122) X dL_told_56 rfl rfl (by omega) (fun h56 => by exfalso; omega) (fun h56 => ?_)
  refine e_aload_n (pc' := 60) X 0 dL_told_59 rfl rfl rfl ?_
  refine e_aload_n (pc' := 61) X 1 dL_told_60 rfl rfl rfl ?_
  refine e_bipush (pc' := 63) X dL_told_61 rfl rfl ?_
  refine e_iload (pc' := 65) X 6 dL_told_63 rfl rfl ?_
  refine e_iadd (pc' := 66) X dL_told_65 rfl ?_
  refine e_callD (pc' := 69) (st := []) (fun q h => h) (e_runD X hL (fun q h => h) (c_L_put l G1 G2 M5 W6 hfl 2 (by omega) (48 + (P : Int)) (by first | omega | assumption | decide) tw53.1 tw53.2.1) cf_L_put gw_582 rfl rfl ⟨Nat.le_of_ble_eq_true rfl, Nat.le_of_ble_eq_true rfl⟩ rfl rfl (Nat.le_of_ble_eq_true rfl) ⟨by show _ ≤ 280; omega, by show _ ≤ 1680; omega⟩ gw_581 dL_told_66) rfl (fun z66 M7 W8 h66 => ?_)
  obtain ⟨hz66, hm66, hw66⟩ := h66
  have tw66 : Tw M W M7 W8 (2 + 1) := by rw [hm66, hw66]; exact tw53.put (by omega) (by omega)
  have ke66 : ∀ y, y < 2 → M7 27 1 y = M5 27 1 y := fun y hy => by rw [hm66]; exact ap_ne (Nat.ne_of_lt hy)
  have at66 : M7 27 1 (2) = _ := (congrFun (congrFun (congrFun hm66 27) 1) (2)).trans ap_at
  refine e_if_eq (pc' := 72) (tgt := 122) X dL_told_69 rfl rfl (by omega) (fun h69 => by exfalso; omega) (fun h69 => ?_)
  refine e_aload_n (pc' := 73) X 0 dL_told_72 rfl rfl rfl ?_
  refine e_aload_n (pc' := 74) X 1 dL_told_73 rfl rfl rfl ?_
  refine e_bipush (pc' := 76) X dL_told_74 rfl rfl ?_
  refine e_callD (pc' := 79) (st := []) (fun q h => h) (e_runD X hL (fun q h => h) (c_L_put l G1 G2 M7 W8 hfl 3 (by omega) 48 (by first | omega | assumption | decide) tw66.1 tw66.2.1) cf_L_put gw_582 rfl rfl ⟨Nat.le_of_ble_eq_true rfl, Nat.le_of_ble_eq_true rfl⟩ rfl rfl (Nat.le_of_ble_eq_true rfl) ⟨by show _ ≤ 280; omega, by show _ ≤ 1680; omega⟩ gw_581 dL_told_76) rfl (fun z76 M9 W10 h76 => ?_)
  obtain ⟨hz76, hm76, hw76⟩ := h76
  have tw76 : Tw M W M9 W10 (3 + 1) := by rw [hm76, hw76]; exact tw66.put (by omega) (by omega)
  have ke76 : ∀ y, y < 3 → M9 27 1 y = M7 27 1 y := fun y hy => by rw [hm76]; exact ap_ne (Nat.ne_of_lt hy)
  have at76 : M9 27 1 (3) = _ := (congrFun (congrFun (congrFun hm76 27) 1) (3)).trans ap_at
  refine e_if_eq (pc' := 82) (tgt := 122) X dL_told_79 rfl rfl (by omega) (fun h79 => by exfalso; omega) (fun h79 => ?_)
  refine e_aload_n (pc' := 83) X 0 dL_told_82 rfl rfl rfl ?_
  refine e_aload_n (pc' := 84) X 1 dL_told_83 rfl rfl rfl ?_
  refine e_bipush (pc' := 86) X dL_told_84 rfl rfl ?_
  refine e_iload (pc' := 88) X 4 dL_told_86 rfl rfl ?_
  refine e_bipush (pc' := 90) X dL_told_88 rfl rfl ?_
  refine e_idiv (pc' := 91) X dL_told_90 (by omega) (by omega) (by omega) rfl ?_
  refine e_iconst (pc' := 92) X dL_told_91 rfl ?_
  refine e_irem (pc' := 93) X dL_told_92 (by omega) (by omega) (by omega) rfl ?_
  refine e_iadd (pc' := 94) X dL_told_93 rfl ?_
  obtain ⟨B, hB, hBa, hBb⟩ : ∃ q : Nat, (z2.tdiv 12).tmod 4 = (q : Int) ∧ 0 ≤ q ∧ q ≤ 3 := ⟨((z2.tdiv 12).tmod 4).toNat, by omega, by omega, by omega⟩
  refine e_eqI (z' := (48 + (B : Int))) (by omega) ?_
  refine e_callD (pc' := 97) (st := []) (fun q h => h) (e_runD X hL (fun q h => h) (c_L_put l G1 G2 M9 W10 hfl 4 (by omega) (48 + (B : Int)) (by first | omega | assumption | decide) tw76.1 tw76.2.1) cf_L_put gw_582 rfl rfl ⟨Nat.le_of_ble_eq_true rfl, Nat.le_of_ble_eq_true rfl⟩ rfl rfl (Nat.le_of_ble_eq_true rfl) ⟨by show _ ≤ 280; omega, by show _ ≤ 1680; omega⟩ gw_581 dL_told_94) rfl (fun z94 M11 W12 h94 => ?_)
  obtain ⟨hz94, hm94, hw94⟩ := h94
  have tw94 : Tw M W M11 W12 (4 + 1) := by rw [hm94, hw94]; exact tw76.put (by omega) (by omega)
  have ke94 : ∀ y, y < 4 → M11 27 1 y = M9 27 1 y := fun y hy => by rw [hm94]; exact ap_ne (Nat.ne_of_lt hy)
  have at94 : M11 27 1 (4) = _ := (congrFun (congrFun (congrFun hm94 27) 1) (4)).trans ap_at
  refine e_if_eq (pc' := 100) (tgt := 122) X dL_told_97 rfl rfl (by omega) (fun h97 => by exfalso; omega) (fun h97 => ?_)
  refine e_aload_n (pc' := 101) X 0 dL_told_100 rfl rfl rfl ?_
  refine e_aload_n (pc' := 102) X 1 dL_told_101 rfl rfl rfl ?_
  refine e_bipush (pc' := 104) X dL_told_102 rfl rfl ?_
  refine e_iload (pc' := 106) X 4 dL_told_104 rfl rfl ?_
  refine e_bipush (pc' := 108) X dL_told_106 rfl rfl ?_
  refine e_idiv (pc' := 109) X dL_told_108 (by omega) (by omega) (by omega) rfl ?_
  refine e_iconst (pc' := 110) X dL_told_109 rfl ?_
  refine e_irem (pc' := 111) X dL_told_110 (by omega) (by omega) (by omega) rfl ?_
  refine e_iadd (pc' := 112) X dL_told_111 rfl ?_
  obtain ⟨H, hH, hHa, hHb⟩ : ∃ q : Nat, (z2.tdiv 48).tmod 3 = (q : Int) ∧ 0 ≤ q ∧ q ≤ 2 := ⟨((z2.tdiv 48).tmod 3).toNat, by omega, by omega, by omega⟩
  refine e_eqI (z' := (48 + (H : Int))) (by omega) ?_
  refine e_callD (pc' := 115) (st := []) (fun q h => h) (e_runD X hL (fun q h => h) (c_L_put l G1 G2 M11 W12 hfl 5 (by omega) (48 + (H : Int)) (by first | omega | assumption | decide) tw94.1 tw94.2.1) cf_L_put gw_582 rfl rfl ⟨Nat.le_of_ble_eq_true rfl, Nat.le_of_ble_eq_true rfl⟩ rfl rfl (Nat.le_of_ble_eq_true rfl) ⟨by show _ ≤ 280; omega, by show _ ≤ 1680; omega⟩ gw_581 dL_told_112) rfl (fun z112 M13 W14 h112 => ?_)
  obtain ⟨hz112, hm112, hw112⟩ := h112
  have tw112 : Tw M W M13 W14 (5 + 1) := by rw [hm112, hw112]; exact tw94.put (by omega) (by omega)
  have ke112 : ∀ y, y < 5 → M13 27 1 y = M11 27 1 y := fun y hy => by rw [hm112]; exact ap_ne (Nat.ne_of_lt hy)
  have at112 : M13 27 1 (5) = _ := (congrFun (congrFun (congrFun hm112 27) 1) (5)).trans ap_at
  have hd112 : HdT (M13 27 1) N P B H := by rw [hm112, hm94, hm76, hm66, hm53, hm40]; exact hd_put ⟨hNa, hNb, hPa, hPb, by omega, by omega⟩
  refine e_if_eq (pc' := 118) (tgt := 122) X dL_told_115 rfl rfl (by omega) (fun h115 => by exfalso; omega) (fun h115 => ?_)
  refine e_iconst (pc' := 119) X dL_told_118 rfl ?_
  refine e_goto (tgt := 123) X dL_told_119 rfl ?_
  refine e_istore (pc' := 125) (lc' := [(0, vR G1 (28, 0)), (1, vR G2 (28, 0)), (2, (Value.ref b)), (3, vI (t0 : Int)), (4, vI z2), (5, vI (N : Int)), (6, vI (P : Int)), (7, vI 1)]) X [1, 2, 3, 4, 5, 6, 7, 0] dL_told_123 (by decide) rfl rfl ?_
  refine e_iconst (pc' := 126) X dL_told_125 rfl ?_
  refine e_istore (pc' := 128) (lc' := [(0, vR G1 (28, 0)), (1, vR G2 (28, 0)), (2, (Value.ref b)), (3, vI (t0 : Int)), (4, vI z2), (5, vI (N : Int)), (6, vI (P : Int)), (7, vI 1), (8, vI 0)]) X [1, 2, 3, 4, 5, 6, 7, 8, 0] dL_told_126 (by decide) rfl rfl ?_
  have L128 : ∀ (fu : Nat) (i : Nat) (Ma Wa : wM), N - i < fu → (i ≤ N) → (Tw M W Ma Wa (qS N i)) → (HdT (Ma 27 1) N P B H) → (Sts (Ma 27 1) N i) → eV p l e (wrm 10 280 1680) s m args below meth c (dA G1 G2) (dF G1 G2 Ma Wa) 12 (12 + 38 * i) (6 * (12 + 38 * i)) (MQ below (dQi G1 G2 (fun z M1 W1 => z = 1 ∧ ∃ N P L : Nat, Lo N P L nx 0 T M1 ∧ Lo N P L nn 0 T W1 ∧ Al N P M1 W1 ∧ FM (M1 2) ∧ FM (W1 2) ∧ ∀ x, x < 2 → M1 25 2 x = 0 ∧ W1 25 2 x = 0)) args s 280 1680 (dA G1 G2)) 128 [(0, vR G1 (28, 0)), (1, vR G2 (28, 0)), (2, (Value.ref b)), (3, vI (t0 : Int)), (4, vI z2), (5, vI (N : Int)), (6, vI (P : Int)), (7, vI 1), (8, vI (i : Int))] [] := by
    intro fu
    induction fu with
    | zero => intro i Ma Wa hfu; exact absurd hfu (Nat.not_lt_zero _)
    | succ fu ih128 =>
      intro i Ma Wa hfu128 hi tw hd ss
      have hq := qS_bd (N := N) (by omega) (x := i) (by omega)
      refine e_iload (pc' := 130) X 8 dL_told_128 rfl rfl ?_
      refine e_iload (pc' := 132) X 5 dL_told_130 rfl rfl ?_
      refine e_icmp_ge (pc' := 135) (tgt := 304) X dL_told_132 rfl rfl (by omega) (by omega) (fun h132 => ?_) (fun h132 => ?_)
      · refine e_iconst (pc' := 305) X dL_told_304 rfl ?_
        refine e_istore (pc' := 307) (lc' := [(0, vR G1 (28, 0)), (1, vR G2 (28, 0)), (2, (Value.ref b)), (3, vI (t0 : Int)), (4, vI z2), (5, vI (N : Int)), (6, vI (P : Int)), (7, vI 1), (8, vI 0)]) X [1, 2, 3, 4, 5, 6, 7, 8, 0] dL_told_305 (by decide) rfl rfl ?_
        have L307 : ∀ (fu : Nat) (o : Nat) (Mc Wc : wM), P - o < fu → (o ≤ P) → (Tw M W Mc Wc (qO N o)) → (HdT (Mc 27 1) N P B H) → (Sts (Mc 27 1) N N) → (Ots (Mc 27 1) N o) → eV p l e (wrm 10 280 1680) s m args below meth c (dA G1 G2) (dF G1 G2 Mc Wc) 12 (164 + 30 * o) (6 * (164 + 30 * o)) (MQ below (dQi G1 G2 (fun z M1 W1 => z = 1 ∧ ∃ N P L : Nat, Lo N P L nx 0 T M1 ∧ Lo N P L nn 0 T W1 ∧ Al N P M1 W1 ∧ FM (M1 2) ∧ FM (W1 2) ∧ ∀ x, x < 2 → M1 25 2 x = 0 ∧ W1 25 2 x = 0)) args s 280 1680 (dA G1 G2)) 307 [(0, vR G1 (28, 0)), (1, vR G2 (28, 0)), (2, (Value.ref b)), (3, vI (t0 : Int)), (4, vI z2), (5, vI (N : Int)), (6, vI (P : Int)), (7, vI 1), (8, vI (o : Int))] [] := by
          intro fu
          induction fu with
          | zero => intro o Mc Wc hfu; exact absurd hfu (Nat.not_lt_zero _)
          | succ fu ih307 =>
            intro o Mc Wc hfu307 ho tw4 hd4 ss4 os4
            have hq := qO_bd (N := N) (by omega) (x := o) (by omega)
            have hso := qSO (N := N) (o := o)
            refine e_iload (pc' := 309) X 8 dL_told_307 rfl rfl ?_
            refine e_iload (pc' := 311) X 6 dL_told_309 rfl rfl ?_
            refine e_icmp_ge (pc' := 314) (tgt := 460) X dL_told_311 rfl rfl (by omega) (by omega) (fun h311 => ?_) (fun h311 => ?_)
            · have eo : o = P := by omega
              have tw6 := tw4.to (congrArg (qO N) eo)
              have os6 := os4.to eo
              rw [eo] at hq hso
              refine e_iload (pc' := 462) X 7 dL_told_460 rfl rfl ?_
              refine e_if_eq (pc' := 465) (tgt := 528) X dL_told_462 rfl rfl (by omega) (fun h462 => absurd h462 (by decide)) (fun h462 => ?_)
              refine e_aload_n (pc' := 466) X 0 dL_told_465 rfl rfl rfl ?_
              refine e_call1 (pc' := 469) (st := []) hL (fun q h => h) (e_runV X (fun q h => (fun q h => h) q (Or.inl h)) hL.1 (c_X8_errorPosition l G1 Mc (qO N P) tw6.1) cf_X8_errorPosition k28_0 rfl gw_325 gw_326 rfl rfl ⟨Nat.le_of_ble_eq_true rfl, Nat.le_of_ble_eq_true rfl⟩ rfl rfl (Nat.le_of_ble_eq_true rfl) ⟨by show _ ≤ 280; omega, by show _ ≤ 1680; omega⟩ gw_324 dL_told_466) rfl (fun z466 M15 h466 => ?_)
              have re := rd_all hd4 rfl ss4 os6
              obtain ⟨ez, f1, f2, f3, f4⟩ := h466
              rw [re] at ez
              have ez2 : z466 = -9 := by rw [ez]; exact if_pos rfl
              have twp := tw6.pos f1 f2 f3 f4
              have hdp : HdT (M15 27 1) N P B H := by rw [f3]; exact hd4
              have ssp : Sts (M15 27 1) N N := by rw [f3]; exact ss4
              have osp : Ots (M15 27 1) N P := by rw [f3]; exact os6
              refine e_eqI (z' := (-9)) ez2 ?_
              refine e_bipush (pc' := 471) X dL_told_469 rfl rfl ?_
              refine e_icmp_ne (pc' := 474) (tgt := 528) X dL_told_471 rfl rfl (by omega) (by omega) (fun h471 => absurd h471 (by decide)) (fun h471 => ?_)
              refine e_aload_n (pc' := 475) X 0 dL_told_474 rfl rfl rfl ?_
              refine e_aload_n (pc' := 476) X 1 dL_told_475 rfl rfl rfl ?_
              refine e_bipush (pc' := 478) X dL_told_476 rfl rfl ?_
              refine e_callD (pc' := 481) (st := []) (fun q h => h) (e_runD X hL (fun q h => h) (c_L_put l G1 G2 M15 Wc hfl (qO N P) (by omega) 103 (by first | omega | assumption | decide) twp.1 twp.2.1) cf_L_put gw_582 rfl rfl ⟨Nat.le_of_ble_eq_true rfl, Nat.le_of_ble_eq_true rfl⟩ rfl rfl (Nat.le_of_ble_eq_true rfl) ⟨by show _ ≤ 280; omega, by show _ ≤ 1680; omega⟩ gw_581 dL_told_478) rfl (fun z478 M16 W17 h478 => ?_)
              obtain ⟨hz478, hm478, hw478⟩ := h478
              have tw478 : Tw M W M16 W17 (qO N P + 1) := by rw [hm478, hw478]; exact twp.put (by omega) (by omega)
              have ke478 : ∀ y, y < qO N P → M16 27 1 y = M15 27 1 y := fun y hy => by rw [hm478]; exact ap_ne (Nat.ne_of_lt hy)
              have at478 : M16 27 1 (qO N P) = _ := (congrFun (congrFun (congrFun hm478 27) 1) (qO N P)).trans ap_at
              have hd478 := hdp.keep (L := qO N P) (by omega) ke478
              have ss478 := ssp.keep (L := qO N P) (by omega) ke478
              have os478 := osp.keep (L := qO N P) (by omega) ke478
              refine e_if_eq (pc' := 484) (tgt := 528) X dL_told_481 rfl rfl (by omega) (fun h481 => by exfalso; omega) (fun h481 => ?_)
              refine e_aload_n (pc' := 485) X 0 dL_told_484 rfl rfl rfl ?_
              refine e_aload_n (pc' := 486) X 1 dL_told_485 rfl rfl rfl ?_
              refine e_bipush (pc' := 488) X dL_told_486 rfl rfl ?_
              refine e_callD (pc' := 491) (st := []) (fun q h => h) (e_runD X hL (fun q h => h) (c_L_put l G1 G2 M16 W17 hfl (qO N P + 1) (by omega) 48 (by first | omega | assumption | decide) tw478.1 tw478.2.1) cf_L_put gw_582 rfl rfl ⟨Nat.le_of_ble_eq_true rfl, Nat.le_of_ble_eq_true rfl⟩ rfl rfl (Nat.le_of_ble_eq_true rfl) ⟨by show _ ≤ 280; omega, by show _ ≤ 1680; omega⟩ gw_581 dL_told_488) rfl (fun z488 M18 W19 h488 => ?_)
              obtain ⟨hz488, hm488, hw488⟩ := h488
              have tw488 : Tw M W M18 W19 (qO N P + 1 + 1) := by rw [hm488, hw488]; exact tw478.put (by omega) (by omega)
              have ke488 : ∀ y, y < qO N P + 1 → M18 27 1 y = M16 27 1 y := fun y hy => by rw [hm488]; exact ap_ne (Nat.ne_of_lt hy)
              have at488 : M18 27 1 (qO N P + 1) = _ := (congrFun (congrFun (congrFun hm488 27) 1) (qO N P + 1)).trans ap_at
              have hd488 := hd478.keep (L := qO N P + 1) (by omega) ke488
              have ss488 := ss478.keep (L := qO N P + 1) (by omega) ke488
              have os488 := os478.keep (L := qO N P + 1) (by omega) ke488
              have cha488 := (ke488 _ (by omega)).trans at478
              refine e_if_eq (pc' := 494) (tgt := 528) X dL_told_491 rfl rfl (by omega) (fun h491 => by exfalso; omega) (fun h491 => ?_)
              refine e_aload_n (pc' := 495) X 0 dL_told_494 rfl rfl rfl ?_
              refine e_aload_n (pc' := 496) X 1 dL_told_495 rfl rfl rfl ?_
              refine e_bipush (pc' := 498) X dL_told_496 rfl rfl ?_
              refine e_callD (pc' := 501) (st := []) (fun q h => h) (e_runD X hL (fun q h => h) (c_L_put l G1 G2 M18 W19 hfl (qO N P + 1 + 1) (by omega) 48 (by first | omega | assumption | decide) tw488.1 tw488.2.1) cf_L_put gw_582 rfl rfl ⟨Nat.le_of_ble_eq_true rfl, Nat.le_of_ble_eq_true rfl⟩ rfl rfl (Nat.le_of_ble_eq_true rfl) ⟨by show _ ≤ 280; omega, by show _ ≤ 1680; omega⟩ gw_581 dL_told_498) rfl (fun z498 M20 W21 h498 => ?_)
              obtain ⟨hz498, hm498, hw498⟩ := h498
              have tw498 : Tw M W M20 W21 (qO N P + 1 + 1 + 1) := by rw [hm498, hw498]; exact tw488.put (by omega) (by omega)
              have ke498 : ∀ y, y < qO N P + 1 + 1 → M20 27 1 y = M18 27 1 y := fun y hy => by rw [hm498]; exact ap_ne (Nat.ne_of_lt hy)
              have at498 : M20 27 1 (qO N P + 1 + 1) = _ := (congrFun (congrFun (congrFun hm498 27) 1) (qO N P + 1 + 1)).trans ap_at
              have hd498 := hd488.keep (L := qO N P + 1 + 1) (by omega) ke498
              have ss498 := ss488.keep (L := qO N P + 1 + 1) (by omega) ke498
              have os498 := os488.keep (L := qO N P + 1 + 1) (by omega) ke498
              have cha498 := (ke498 _ (by omega)).trans cha488
              have chb498 := (ke498 _ (by omega)).trans at488
              refine e_if_eq (pc' := 504) (tgt := 528) X dL_told_501 rfl rfl (by omega) (fun h501 => by exfalso; omega) (fun h501 => ?_)
              refine e_aload_n (pc' := 505) X 0 dL_told_504 rfl rfl rfl ?_
              refine e_aload_n (pc' := 506) X 1 dL_told_505 rfl rfl rfl ?_
              refine e_iload (pc' := 508) X 4 dL_told_506 rfl rfl ?_
              refine e_sipush (pc' := 511) X dL_told_508 rfl rfl ?_
              refine e_idiv (pc' := 512) X dL_told_511 (by omega) (by omega) (by omega) rfl ?_
              refine e_eqI (z' := z2t) hz2t ?_
              refine e_bipush (pc' := 514) X dL_told_512 rfl rfl ?_
              refine e_irem (pc' := 515) X dL_told_514 (by omega) (by omega) (by omega) rfl ?_
              refine e_bipush (pc' := 517) X dL_told_515 rfl rfl ?_
              refine e_isub (pc' := 518) X dL_told_517 rfl ?_
              refine e_callD (pc' := 521) (st := []) (fun q h => h) (e_runD X hL (fun q h => h) (c_L_signed l G1 G2 M20 W21 hfl (qO N P + 1 + 1 + 1) (by omega) ((z2t.tmod 41) - 20) (by first | omega | assumption | decide) tw498.1 tw498.2.1) cf_L_signed gw_598 rfl rfl ⟨Nat.le_of_ble_eq_true rfl, Nat.le_of_ble_eq_true rfl⟩ rfl rfl (Nat.le_of_ble_eq_true rfl) ⟨by show _ ≤ 280; omega, by show _ ≤ 1680; omega⟩ gw_597 dL_told_518) rfl (fun z518 M22 W23 h518 => ?_)
              obtain ⟨hz518, hm518, hw518⟩ := h518
              have tw518 : Tw M W M22 W23 (qO N P + 1 + 1 + 1 + 3) := by rw [hm518, hw518]; exact tw498.put3 (by omega) (by omega)
              have ke518 : ∀ y, y < qO N P + 1 + 1 + 1 → M22 27 1 y = M20 27 1 y := fun y hy => by rw [hm518]; exact ap3_ne hy
              have hd518 := hd498.keep (L := qO N P + 1 + 1 + 1) (by omega) ke518
              have ss518 := ss498.keep (L := qO N P + 1 + 1 + 1) (by omega) ke518
              have os518 := os498.keep (L := qO N P + 1 + 1 + 1) (by omega) ke518
              have cha518 := (ke518 _ (by omega)).trans cha498
              have chb518 := (ke518 _ (by omega)).trans chb498
              have chc518 := (ke518 _ (by omega)).trans at498
              have nu518 : NumT (M22 27 1) (qO N P + 3) (z2t.tmod 41 - 20) := by rw [hm518]; exact ap3_num (by omega)
              have tw9 : Tw M W M22 W23 (qO N P + 6) := tw518.to (by omega)
              obtain ⟨rg1, rg2⟩ := rd_gain hd518 (L := qO N P + 6) rfl ss518 os518 cha518 chb518 chc518 nu518
              have hw9 : ∀ i, i < qO N P + 6 → W23 27 1 i = M22 27 1 i := tw9.2.2.1
              obtain ⟨rw1, rw2⟩ := rd_gain (hd518.keep (L := qO N P + 6) (by omega) hw9) (L := qO N P + 6) rfl (ss518.keep (by omega) hw9) (os518.keep (by omega) hw9) ((hw9 _ (by omega)).trans cha518) ((hw9 _ (by omega)).trans chb518) ((hw9 _ (by omega)).trans chc518) (nu518.keep (L := qO N P + 6) (by omega) hw9)
              obtain ⟨en, ep, -⟩ := rd_is hd518 (L := qO N P + 6) (by omega)
              have hr1 : (rdE (M22 27 1) (qO N P + 6)).1.2 = 0 := by rw [rg1]
              have hr2 : (rdE (W23 27 1) (qO N P + 6)).1.2 = 0 := by rw [rw1]
              have hfA : FM (M22 2) := tw9.2.2.2.2.2
              have hfB : FM (W23 2) := by rw [tw9.2.2.2.2.1 2 (by decide)]; exact hf2
              have hnA : M22 26 0 1 = (nx : Int) := by rw [tw9.2.2.2.1 26 (by decide) (by decide) (by decide)]; exact hn1
              have hnB : W23 26 0 1 = (nn : Int) := by rw [tw9.2.2.2.2.1 26 (by decide)]; exact hn2
              have en2 := rdN_cg hw9
              have ep2 := rdP_cg hw9
              rw [en] at en2
              rw [ep] at ep2
              refine e_if_eq (pc' := 524) (tgt := 528) X dL_told_521 rfl rfl (by omega) (fun h521 => by exfalso; omega) (fun h521 => ?_)
              refine e_iconst (pc' := 525) X dL_told_524 rfl ?_
              refine e_goto (tgt := 529) X dL_told_525 rfl ?_
              refine e_istore (pc' := 531) (lc' := [(0, vR G1 (28, 0)), (1, vR G2 (28, 0)), (2, (Value.ref b)), (3, vI (t0 : Int)), (4, vI z2), (5, vI (N : Int)), (6, vI (P : Int)), (7, vI 1), (8, vI (o : Int))]) X [1, 2, 3, 4, 5, 6, 7, 0, 8] dL_told_529 (by decide) rfl rfl ?_
              refine e_iload (pc' := 533) X 7 dL_told_531 rfl rfl ?_
              refine e_if_eq (pc' := 536) (tgt := 614) X dL_told_533 rfl rfl (by omega) (fun h533 => absurd h533 (by decide)) (fun h533 => ?_)
              refine e_aload_n (pc' := 537) X 0 dL_told_536 rfl rfl rfl ?_
              refine e_call1 (pc' := 540) (st := []) hL (fun q h => h) (e_runSH X (fun q h => (fun q h => h) q (Or.inl h)) hL.1 (c_L_tryLoad l G1 M22 hfl (qO N P + 6) tw9.1) cf_L_tryLoad gw_601 rfl rfl ⟨Nat.le_of_ble_eq_true rfl, Nat.le_of_ble_eq_true rfl⟩ rfl rfl (Nat.le_of_ble_eq_true rfl) ⟨by show _ ≤ 280; omega, by show _ ≤ 1680; omega⟩ gw_600 dL_told_537) rfl (fun z537 M24 h537 => ?_)
              rcases h537 with h537 | h537
              rotate_left 1
              · exfalso
                exact h537.2.1 hr1
              have ld1 : LdP (qO N P + 6) M22 M24 := h537.2.2
              obtain ⟨q1, fmA, slA, txA⟩ := ld1.lo hfA hr1 hT hnA hx1
              have hz537 := h537.2.1
              rw [en] at hz537
              rw [en, ep] at q1
              have loM24 := q1
              refine e_eqI (z' := (N : Int)) hz537 ?_
              refine e_iload (pc' := 542) X 5 dL_told_540 rfl rfl ?_
              refine e_icmp_ne (pc' := 545) (tgt := 614) X dL_told_542 rfl rfl (by omega) (by omega) (fun h542 => by exfalso; omega) (fun h542 => ?_)
              refine e_aload_n (pc' := 546) X 1 dL_told_545 rfl rfl rfl ?_
              refine e_call2 (pc' := 549) (st := []) hL (fun q h => h) (e_runSH X2 (fun q h => (fun q h => h) q (Or.inr h)) hL.2.1 (c_L_tryLoad l G2 W23 hfl (qO N P + 6) tw9.2.1) cf_L_tryLoad gw_601 rfl rfl ⟨Nat.le_of_ble_eq_true rfl, Nat.le_of_ble_eq_true rfl⟩ rfl rfl (Nat.le_of_ble_eq_true rfl) ⟨by show _ ≤ 280; omega, by show _ ≤ 1680; omega⟩ gw_600 dL_told_546) rfl (fun z546 W25 h546 => ?_)
              rcases h546 with h546 | h546
              rotate_left 1
              · exfalso
                exact h546.2.1 hr2
              have ld2 : LdP (qO N P + 6) W23 W25 := h546.2.2
              obtain ⟨q2, fmB, slB, txB⟩ := ld2.lo hfB hr2 hT hnB hx2
              have hz546 := h546.2.1
              rw [en2] at hz546
              rw [en2, ep2] at q2
              have loW25 := q2
              have hal := ld1.al ld2 hfA hfB hw9 (by rw [rg2, rw2])
              rw [en, ep] at hal
              refine e_eqI (z' := (N : Int)) hz546 ?_
              refine e_iload (pc' := 551) X 5 dL_told_549 rfl rfl ?_
              refine e_icmp_ne (pc' := 554) (tgt := 614) X dL_told_551 rfl rfl (by omega) (by omega) (fun h551 => by exfalso; omega) (fun h551 => ?_)
              refine e_aload_n (pc' := 555) X 0 dL_told_554 rfl rfl rfl ?_
              refine e_iconst (pc' := 556) X dL_told_555 rfl ?_
              refine e_iconst (pc' := 557) X dL_told_556 rfl ?_
              refine e_iconst (pc' := 558) X dL_told_557 rfl ?_
              refine e_call1 (pc' := 561) (st := []) hL (fun q h => h) (e_runSH X (fun q h => (fun q h => h) q (Or.inl h)) hL.1 (c_L_tryNumber l G1 M24 hfl N P T loM24.ck (by have := loM24.t; omega) 5 0 0 (by first | omega | assumption | decide) (by first | omega | assumption | decide) (by first | omega | assumption | decide)) cf_L_tryNumber gw_619 rfl rfl ⟨Nat.le_of_ble_eq_true rfl, Nat.le_of_ble_eq_true rfl⟩ rfl rfl (Nat.le_of_ble_eq_true rfl) ⟨by show _ ≤ 280; omega, by show _ ≤ 1680; omega⟩ gw_618 dL_told_558) rfl (fun z558 M26 h558 => ?_)
              rcases h558 with h558 | h558 | h558
              rotate_left 1
              · exfalso
                exact h558.2.1 (by decide)
              · exfalso
                exact h558.2.1.2 ⟨⟨by decide, by rw [if_neg (by decide)]; omega⟩, ⟨by decide, by unfold colsF; rw [if_neg (by decide), if_pos rfl]; omega⟩⟩
              obtain ⟨-, -, -, hv558, hm558⟩ := h558
              obtain rfl := hm558.symm
              have hg558 := ld1.gain
              rw [rg2] at hg558
              have hv5 : z558 = z2t.tmod 41 - 20 := hv558.trans (hg558.trans (if_pos ⟨rfl, rfl⟩))
              refine e_eqI (z' := (z2t.tmod 41 - 20)) hv5 ?_
              refine e_iload (pc' := 563) X 4 dL_told_561 rfl rfl ?_
              refine e_sipush (pc' := 566) X dL_told_563 rfl rfl ?_
              refine e_idiv (pc' := 567) X dL_told_566 (by omega) (by omega) (by omega) rfl ?_
              refine e_eqI (z' := z2t) hz2t ?_
              refine e_bipush (pc' := 569) X dL_told_567 rfl rfl ?_
              refine e_irem (pc' := 570) X dL_told_569 (by omega) (by omega) (by omega) rfl ?_
              refine e_bipush (pc' := 572) X dL_told_570 rfl rfl ?_
              refine e_isub (pc' := 573) X dL_told_572 rfl ?_
              refine e_icmp_ne (pc' := 576) (tgt := 614) X dL_told_573 rfl rfl (by omega) (by omega) (fun h573 => by exfalso; omega) (fun h573 => ?_)
              refine e_aload_n (pc' := 577) X 0 dL_told_576 rfl rfl rfl ?_
              refine e_call1 (pc' := 580) (st := []) hL (fun q h => h) (e_runSH X (fun q h => (fun q h => h) q (Or.inl h)) hL.1 (c_L_tryUndo l G1 M24 hfl N P T loM24.ck (by have := loM24.t; omega) nx 0 loM24.nxe loM24.nx14 loM24.cte loM24.ct14) cf_L_tryUndo gw_505 rfl rfl ⟨Nat.le_of_ble_eq_true rfl, Nat.le_of_ble_eq_true rfl⟩ rfl rfl (Nat.le_of_ble_eq_true rfl) ⟨by show _ ≤ 280; omega, by show _ ≤ 1680; omega⟩ gw_504 dL_told_577) rfl (fun z577 M27 h577 => ?_)
              rcases h577 with h577 | h577
              · exfalso
                omega
              obtain ⟨hz577, -, hs577⟩ := h577
              have loM27 := loM24.scr hs577
              refine e_eqI (z' := (-1003)) hz577 ?_
              refine e_sipush (pc' := 583) X dL_told_580 rfl rfl ?_
              refine e_icmp_ne (pc' := 586) (tgt := 614) X dL_told_583 rfl rfl (by omega) (by omega) (fun h583 => absurd h583 (by decide)) (fun h583 => ?_)
              refine e_aload_n (pc' := 587) X 1 dL_told_586 rfl rfl rfl ?_
              refine e_iconst (pc' := 588) X dL_told_587 rfl ?_
              refine e_call2 (pc' := 591) (st := []) hL (fun q h => h) (e_runSH X2 (fun q h => (fun q h => h) q (Or.inr h)) hL.2.1 (c_L_tryRestore l G2 W25 hfl 1 (by first | omega | assumption | decide) loW25.sl) cf_L_tryRestore gw_558 rfl rfl ⟨Nat.le_of_ble_eq_true rfl, Nat.le_of_ble_eq_true rfl⟩ rfl rfl (Nat.le_of_ble_eq_true rfl) ⟨by show _ ≤ 280; omega, by show _ ≤ 1680; omega⟩ gw_557 dL_told_588) rfl (fun z588 W28 h588 => ?_)
              rcases h588 with h588 | h588 | h588
              · exfalso
                have q := h588.2.1; rw [show (1 : Int).toNat = 1 from rfl, slB 1 (by decide)] at q; exact absurd q (by decide)
              · exfalso
                exact h588.2.1 (by decide)
              obtain ⟨hz588, -, hs588⟩ := h588
              have loW28 := loW25.scr hs588
              have hal2 := hal.scr hs577 hs588
              refine e_eqI (z' := (-1003)) hz588 ?_
              refine e_sipush (pc' := 594) X dL_told_591 rfl rfl ?_
              refine e_icmp_ne (pc' := 597) (tgt := 614) X dL_told_594 rfl rfl (by omega) (by omega) (fun h594 => absurd h594 (by decide)) (fun h594 => ?_)
              refine e_aload_n (pc' := 598) X 0 dL_told_597 rfl rfl rfl ?_
              refine e_iconst (pc' := 599) X dL_told_598 rfl ?_
              refine e_call1 (pc' := 602) (st := []) hL (fun q h => h) (e_runSH X (fun q h => (fun q h => h) q (Or.inl h)) hL.1 (c_L_tryRank l G1 M27 hfl N P T loM27.ck (by have := loM27.t; omega) 1 (by first | omega | assumption | decide)) cf_L_tryRank gw_637 rfl rfl ⟨Nat.le_of_ble_eq_true rfl, Nat.le_of_ble_eq_true rfl⟩ rfl rfl (Nat.le_of_ble_eq_true rfl) ⟨by show _ ≤ 280; omega, by show _ ≤ 1680; omega⟩ gw_636 dL_told_599) rfl (fun z599 M29 h599 => ?_)
              rcases h599 with h599 | h599
              rotate_left 1
              · exfalso
                exact h599.2.1 (by decide)
              obtain ⟨-, ⟨k1, hk1, -, rk1⟩, hs599⟩ := h599
              have loM29 := loM27.scr hs599
              refine e_aload_n (pc' := 603) X 1 dL_told_602 rfl rfl rfl ?_
              refine e_iconst (pc' := 604) X dL_told_603 rfl ?_
              refine e_call2 (pc' := 607) (st := [vI z599]) hL (fun q h => h) (e_runSH X2 (fun q h => (fun q h => h) q (Or.inr h)) hL.2.1 (c_L_tryRank l G2 W28 hfl N P T loW28.ck (by have := loW28.t; omega) 1 (by first | omega | assumption | decide)) cf_L_tryRank gw_637 rfl rfl ⟨Nat.le_of_ble_eq_true rfl, Nat.le_of_ble_eq_true rfl⟩ rfl rfl (Nat.le_of_ble_eq_true rfl) ⟨by show _ ≤ 280; omega, by show _ ≤ 1680; omega⟩ gw_636 dL_told_604) rfl (fun z604 W30 h604 => ?_)
              rcases h604 with h604 | h604
              rotate_left 1
              · exfalso
                exact h604.2.1 (by decide)
              obtain ⟨-, ⟨k2, hk2, -, rk2⟩, hs604⟩ := h604
              have loW30 := loW28.scr hs604
              have hkk : (k1 : Int) = (k2 : Int) := congrArg Nat.cast (rank_cg hal2.1 rk1 rk2)
              have hal3 := hal2.scr hs599 hs604
              refine e_icmp_neE (pc' := 610) (tgt := 614) X dL_told_607 rfl rfl (by omega) ?_
              refine e_iconst (pc' := 611) X dL_told_610 rfl ?_
              refine e_goto (tgt := 615) X dL_told_611 rfl ?_
              refine e_widen (k' := 280) (n' := 1680) (by omega) (by omega) ?_
              refine e_zret X hr (by decide) dL_told_615 ?_
              try dsimp only
              exact ⟨rfl, N, P, qO N P + 6, loM29, loW30, hal3, by rw [hs599 2 (by decide) (by decide) (by decide) (by decide) (by decide) (by decide), hs577 2 (by decide) (by decide) (by decide) (by decide) (by decide) (by decide)]; exact fmA, by rw [hs604 2 (by decide) (by decide) (by decide) (by decide) (by decide) (by decide), hs588 2 (by decide) (by decide) (by decide) (by decide) (by decide) (by decide)]; exact fmB, fun x hx => ⟨by rw [hs599 25 (by decide) (by decide) (by decide) (by decide) (by decide) (by decide), hs577 25 (by decide) (by decide) (by decide) (by decide) (by decide) (by decide)]; exact slA x hx, by rw [hs604 25 (by decide) (by decide) (by decide) (by decide) (by decide) (by decide), hs588 25 (by decide) (by decide) (by decide) (by decide) (by decide) (by decide)]; exact slB x hx⟩⟩
            · refine e_iload (pc' := 316) X 7 dL_told_314 rfl rfl ?_
              refine e_if_eq (pc' := 319) (tgt := 460) X dL_told_316 rfl rfl (by omega) (fun h316 => absurd h316 (by decide)) (fun h316 => ?_)
              refine e_aload_n (pc' := 320) X 0 dL_told_319 rfl rfl rfl ?_
              refine e_aload_n (pc' := 321) X 1 dL_told_320 rfl rfl rfl ?_
              refine e_bipush (pc' := 323) X dL_told_321 rfl rfl ?_
              refine e_callD (pc' := 326) (st := []) (fun q h => h) (e_runD X hL (fun q h => h) (c_L_put l G1 G2 Mc Wc hfl (qO N o) (by omega) 111 (by first | omega | assumption | decide) tw4.1 tw4.2.1) cf_L_put gw_582 rfl rfl ⟨Nat.le_of_ble_eq_true rfl, Nat.le_of_ble_eq_true rfl⟩ rfl rfl (Nat.le_of_ble_eq_true rfl) ⟨by show _ ≤ 280; omega, by show _ ≤ 1680; omega⟩ gw_581 dL_told_323) rfl (fun z323 M31 W32 h323 => ?_)
              obtain ⟨hz323, hm323, hw323⟩ := h323
              have tw323 : Tw M W M31 W32 (qO N o + 1) := by rw [hm323, hw323]; exact tw4.put (by omega) (by omega)
              have ke323 : ∀ y, y < qO N o → M31 27 1 y = Mc 27 1 y := fun y hy => by rw [hm323]; exact ap_ne (Nat.ne_of_lt hy)
              have at323 : M31 27 1 (qO N o) = _ := (congrFun (congrFun (congrFun hm323 27) 1) (qO N o)).trans ap_at
              have hd323 := hd4.keep (L := qO N o) (by omega) ke323
              have ss323 := ss4.keep (L := qO N o) (by omega) ke323
              have os323 := os4.keep (L := qO N o) (by omega) ke323
              refine e_eqI (z' := 1) hz323 ?_
              refine e_istore (pc' := 328) (lc' := [(0, vR G1 (28, 0)), (1, vR G2 (28, 0)), (2, (Value.ref b)), (3, vI (t0 : Int)), (4, vI z2), (5, vI (N : Int)), (6, vI (P : Int)), (7, vI 1), (8, vI (o : Int))]) X [1, 2, 3, 4, 5, 6, 7, 0, 8] dL_told_326 (by decide) rfl rfl ?_
              refine e_iconst (pc' := 329) X dL_told_328 rfl ?_
              refine e_istore (pc' := 331) (lc' := [(0, vR G1 (28, 0)), (1, vR G2 (28, 0)), (2, (Value.ref b)), (3, vI (t0 : Int)), (4, vI z2), (5, vI (N : Int)), (6, vI (P : Int)), (7, vI 1), (8, vI (o : Int)), (9, vI 0)]) X [1, 2, 3, 4, 5, 6, 7, 8, 9, 0] dL_told_329 (by decide) rfl rfl ?_
              have L331 : ∀ (fu : Nat) (j : Nat) (Md Wd : wM), N - j < fu → (j ≤ N) → (Tw M W Md Wd (qO N o + 1 + 3 * j)) → (HdT (Md 27 1) N P B H) → (Sts (Md 27 1) N N) → (Ots (Md 27 1) N o) → (Md 27 1 (qO N o) = 111) → (∀ y, y < j → NumOk (Md 27 1) (qO N o + 1 + 3 * y)) → eV p l e (wrm 10 280 1680) s m args below meth c (dA G1 G2) (dF G1 G2 Md Wd) 12 (166 + 30 * o + 6 * j) (6 * (166 + 30 * o + 6 * j)) (MQ below (dQi G1 G2 (fun z M1 W1 => z = 1 ∧ ∃ N P L : Nat, Lo N P L nx 0 T M1 ∧ Lo N P L nn 0 T W1 ∧ Al N P M1 W1 ∧ FM (M1 2) ∧ FM (W1 2) ∧ ∀ x, x < 2 → M1 25 2 x = 0 ∧ W1 25 2 x = 0)) args s 280 1680 (dA G1 G2)) 331 [(0, vR G1 (28, 0)), (1, vR G2 (28, 0)), (2, (Value.ref b)), (3, vI (t0 : Int)), (4, vI z2), (5, vI (N : Int)), (6, vI (P : Int)), (7, vI 1), (8, vI (o : Int)), (9, vI (j : Int))] [] := by
                intro fu
                induction fu with
                | zero => intro j Md Wd hfu; exact absurd hfu (Nat.not_lt_zero _)
                | succ fu ih331 =>
                  intro j Md Wd hfu331 hj tw5 hd5 ss5 os5 c5 nn5
                  refine e_iload (pc' := 333) X 9 dL_told_331 rfl rfl ?_
                  refine e_iload (pc' := 335) X 5 dL_told_333 rfl rfl ?_
                  refine e_icmp_ge (pc' := 338) (tgt := 394) X dL_told_335 rfl rfl (by omega) (by omega) (fun h335 => ?_) (fun h335 => ?_)
                  · refine e_aloadQ_n (pc' := 395) X 2 dL_told_394 rfl rfl rfl ?_
                    refine e_iload_n (pc' := 396) X 3 dL_told_395 rfl rfl rfl ?_
                    refine e_bipush (pc' := 398) X dL_told_396 rfl rfl ?_
                    refine e_iadd (pc' := 399) X dL_told_398 rfl ?_
                    refine e_iconst (pc' := 400) X dL_told_399 rfl ?_
                    refine e_iload (pc' := 402) X 8 dL_told_400 rfl rfl ?_
                    refine e_imul (pc' := 403) X dL_told_402 rfl ?_
                    refine e_iadd (pc' := 404) X dL_told_403 rfl ?_
                    refine e_eqI (z' := (((t0 + 29) + (5 * o) : Nat) : Int)) (by omega) ?_
                    refine e_cell (i := ((t0 + 29) + (5 * o))) (st := []) (pc' := 407) X hX hbl hbA (by omega) hLs ⟨Nat.le_of_ble_eq_true rfl, Nat.le_of_ble_eq_true rfl⟩ (Nat.le_of_ble_eq_true rfl) ⟨by show _ ≤ 280; omega, by show _ ≤ 1680; omega⟩ dL_told_404 rfl (fun z404 hz404a hz404b => ?_)
                    have y2 := tmn (a := z404) (b := 2) (by omega) (by decide)
                    have w2 := tdn (a := z404) (b := 2) (by omega) (by decide)
                    have y9 := tmn (a := z404.tdiv 2) (b := 9) (by omega) (by decide)
                    refine e_istore (pc' := 409) (lc' := [(0, vR G1 (28, 0)), (1, vR G2 (28, 0)), (2, (Value.ref b)), (3, vI (t0 : Int)), (4, vI z2), (5, vI (N : Int)), (6, vI (P : Int)), (7, vI 1), (8, vI (o : Int)), (9, vI z404)]) X [1, 2, 3, 4, 5, 6, 7, 8, 9, 0] dL_told_407 (by decide) rfl rfl ?_
                    refine e_iload (pc' := 411) X 7 dL_told_409 rfl rfl ?_
                    refine e_if_eq (pc' := 414) (tgt := 451) X dL_told_411 rfl rfl (by omega) (fun h411 => absurd h411 (by decide)) (fun h411 => ?_)
                    refine e_aload_n (pc' := 415) X 0 dL_told_414 rfl rfl rfl ?_
                    refine e_aload_n (pc' := 416) X 1 dL_told_415 rfl rfl rfl ?_
                    refine e_bipush (pc' := 418) X dL_told_416 rfl rfl ?_
                    refine e_iload (pc' := 420) X 9 dL_told_418 rfl rfl ?_
                    refine e_iconst (pc' := 421) X dL_told_420 rfl ?_
                    refine e_irem (pc' := 422) X dL_told_421 (by omega) (by omega) (by omega) rfl ?_
                    refine e_iadd (pc' := 423) X dL_told_422 rfl ?_
                    refine e_callD (pc' := 426) (st := []) (fun q h => h) (e_runD X hL (fun q h => h) (c_L_put l G1 G2 Md Wd hfl (qO N o + 1 + 3 * N) (by omega) (48 + (z404.tmod 2)) (by first | omega | assumption | decide) ((tw5.to (show _ = qO N o + 1 + 3 * N by omega)).1) ((tw5.to (show _ = qO N o + 1 + 3 * N by omega)).2.1)) cf_L_put gw_582 rfl rfl ⟨Nat.le_of_ble_eq_true rfl, Nat.le_of_ble_eq_true rfl⟩ rfl rfl (Nat.le_of_ble_eq_true rfl) ⟨by show _ ≤ 280; omega, by show _ ≤ 1680; omega⟩ gw_581 dL_told_423) rfl (fun z423 M33 W34 h423 => ?_)
                    obtain ⟨hz423, hm423, hw423⟩ := h423
                    have tw423 : Tw M W M33 W34 (qO N o + 1 + 3 * N + 1) := by rw [hm423, hw423]; exact (tw5.to (show _ = qO N o + 1 + 3 * N by omega)).put (by omega) (by omega)
                    have ke423 : ∀ y, y < qO N o + 1 + 3 * N → M33 27 1 y = Md 27 1 y := fun y hy => by rw [hm423]; exact ap_ne (Nat.ne_of_lt hy)
                    have at423 : M33 27 1 (qO N o + 1 + 3 * N) = _ := (congrFun (congrFun (congrFun hm423 27) 1) (qO N o + 1 + 3 * N)).trans ap_at
                    have hd423 := hd5.keep (L := qO N o + 1 + 3 * N) (by omega) ke423
                    have ss423 := ss5.keep (L := qO N o + 1 + 3 * N) (by omega) ke423
                    have os423 := os5.keep (L := qO N o + 1 + 3 * N) (by omega) ke423
                    have ch423 := (ke423 _ (by omega)).trans c5
                    refine e_if_eq (pc' := 429) (tgt := 451) X dL_told_426 rfl rfl (by omega) (fun h426 => by exfalso; omega) (fun h426 => ?_)
                    refine e_aload_n (pc' := 430) X 0 dL_told_429 rfl rfl rfl ?_
                    refine e_aload_n (pc' := 431) X 1 dL_told_430 rfl rfl rfl ?_
                    refine e_bipush (pc' := 433) X dL_told_431 rfl rfl ?_
                    refine e_iload (pc' := 435) X 9 dL_told_433 rfl rfl ?_
                    refine e_iconst (pc' := 436) X dL_told_435 rfl ?_
                    refine e_idiv (pc' := 437) X dL_told_436 (by omega) (by omega) (by omega) rfl ?_
                    refine e_bipush (pc' := 439) X dL_told_437 rfl rfl ?_
                    refine e_irem (pc' := 440) X dL_told_439 (by omega) (by omega) (by omega) rfl ?_
                    refine e_iadd (pc' := 441) X dL_told_440 rfl ?_
                    refine e_callD (pc' := 444) (st := []) (fun q h => h) (e_runD X hL (fun q h => h) (c_L_put l G1 G2 M33 W34 hfl (qO N o + 1 + 3 * N + 1) (by omega) (49 + ((z404.tdiv 2).tmod 9)) (by first | omega | assumption | decide) tw423.1 tw423.2.1) cf_L_put gw_582 rfl rfl ⟨Nat.le_of_ble_eq_true rfl, Nat.le_of_ble_eq_true rfl⟩ rfl rfl (Nat.le_of_ble_eq_true rfl) ⟨by show _ ≤ 280; omega, by show _ ≤ 1680; omega⟩ gw_581 dL_told_441) rfl (fun z441 M35 W36 h441 => ?_)
                    obtain ⟨hz441, hm441, hw441⟩ := h441
                    have tw441 : Tw M W M35 W36 (qO N o + 1 + 3 * N + 1 + 1) := by rw [hm441, hw441]; exact tw423.put (by omega) (by omega)
                    have ke441 : ∀ y, y < qO N o + 1 + 3 * N + 1 → M35 27 1 y = M33 27 1 y := fun y hy => by rw [hm441]; exact ap_ne (Nat.ne_of_lt hy)
                    have at441 : M35 27 1 (qO N o + 1 + 3 * N + 1) = _ := (congrFun (congrFun (congrFun hm441 27) 1) (qO N o + 1 + 3 * N + 1)).trans ap_at
                    have hd441 := hd423.keep (L := qO N o + 1 + 3 * N + 1) (by omega) ke441
                    have ss441 := ss423.keep (L := qO N o + 1 + 3 * N + 1) (by omega) ke441
                    have os441 := os423.keep (L := qO N o + 1 + 3 * N + 1) (by omega) ke441
                    have chc441 := (ke441 _ (by omega)).trans ch423
                    have nn441 : ∀ y, y < N → NumOk (M35 27 1) (qO N o + 1 + 3 * y) := fun y hy => ((nn5 y (by omega)).keep (L := qO N o + 1 + 3 * N) (by omega) ke423).keep (L := qO N o + 1 + 3 * N + 1) (by omega) ke441
                    have chd441 : M35 27 1 (qO N o + 1 + 3 * N) = 48 ∨ M35 27 1 (qO N o + 1 + 3 * N) = 49 := by
                      rw [ke441 _ (by omega), at423]
                      omega
                    have che441 : 49 ≤ M35 27 1 (qO N o + 2 + 3 * N) ∧ M35 27 1 (qO N o + 2 + 3 * N) ≤ 57 := by
                      rw [show qO N o + 2 + 3 * N = qO N o + 1 + 3 * N + 1 by omega, at441]
                      omega
                    refine e_if_eq (pc' := 447) (tgt := 451) X dL_told_444 rfl rfl (by omega) (fun h444 => by exfalso; omega) (fun h444 => ?_)
                    refine e_iconst (pc' := 448) X dL_told_447 rfl ?_
                    refine e_goto (tgt := 452) X dL_told_448 rfl ?_
                    refine e_istore (pc' := 454) (lc' := [(0, vR G1 (28, 0)), (1, vR G2 (28, 0)), (2, (Value.ref b)), (3, vI (t0 : Int)), (4, vI z2), (5, vI (N : Int)), (6, vI (P : Int)), (7, vI 1), (8, vI (o : Int)), (9, vI z404)]) X [1, 2, 3, 4, 5, 6, 7, 0, 8, 9] dL_told_452 (by decide) rfl rfl ?_
                    refine e_iinc (pc' := 457) (z' := ((o + 1 : Nat) : Int)) (lc' := [(0, vR G1 (28, 0)), (1, vR G2 (28, 0)), (2, (Value.ref b)), (3, vI (t0 : Int)), (4, vI z2), (5, vI (N : Int)), (6, vI (P : Int)), (7, vI 1), (8, vI ((o + 1 : Nat) : Int)), (9, vI z404)]) X 8 [1, 2, 3, 4, 5, 6, 7, 8, 0, 9] dL_told_454 rfl (by omega) (by decide) rfl rfl ?_
                    refine e_goto (tgt := 307) X dL_told_457 rfl ?_
                    refine e_sub (lc' := [(0, vR G1 (28, 0)), (1, vR G2 (28, 0)), (2, (Value.ref b)), (3, vI (t0 : Int)), (4, vI z2), (5, vI (N : Int)), (6, vI (P : Int)), (7, vI 1), (8, vI ((o + 1 : Nat) : Int))]) [0, 1, 2, 3, 4, 5, 6, 7, 8] rfl ?_
                    refine e_widen (k' := 164 + 30 * (o + 1)) (n' := 6 * (164 + 30 * (o + 1))) (by omega) (by omega) ?_
                    exact ih307 (o + 1) M35 W36 (by omega) (by omega) (tw441.to (by rw [qO_s]; omega)) hd441 ss441 (os441.more ⟨chc441, nn441, chd441, che441⟩)
                  · refine e_iload (pc' := 340) X 7 dL_told_338 rfl rfl ?_
                    refine e_if_eq (pc' := 343) (tgt := 394) X dL_told_340 rfl rfl (by omega) (fun h340 => absurd h340 (by decide)) (fun h340 => ?_)
                    refine e_aloadQ_n (pc' := 344) X 2 dL_told_343 rfl rfl rfl ?_
                    refine e_iload_n (pc' := 345) X 3 dL_told_344 rfl rfl rfl ?_
                    refine e_bipush (pc' := 347) X dL_told_345 rfl rfl ?_
                    refine e_iadd (pc' := 348) X dL_told_347 rfl ?_
                    refine e_iconst (pc' := 349) X dL_told_348 rfl ?_
                    refine e_iload (pc' := 351) X 8 dL_told_349 rfl rfl ?_
                    refine e_imul (pc' := 352) X dL_told_351 rfl ?_
                    refine e_iadd (pc' := 353) X dL_told_352 rfl ?_
                    refine e_iload (pc' := 355) X 9 dL_told_353 rfl rfl ?_
                    refine e_iadd (pc' := 356) X dL_told_355 rfl ?_
                    refine e_eqI (z' := ((((t0 + 25) + (5 * o)) + j : Nat) : Int)) (by omega) ?_
                    refine e_cell (i := (((t0 + 25) + (5 * o)) + j)) (st := []) (pc' := 359) X hX hbl hbA (by omega) hLs ⟨Nat.le_of_ble_eq_true rfl, Nat.le_of_ble_eq_true rfl⟩ (Nat.le_of_ble_eq_true rfl) ⟨by show _ ≤ 280; omega, by show _ ≤ 1680; omega⟩ dL_told_356 rfl (fun z356 hz356a hz356b => ?_)
                    refine e_istore (pc' := 361) (lc' := [(0, vR G1 (28, 0)), (1, vR G2 (28, 0)), (2, (Value.ref b)), (3, vI (t0 : Int)), (4, vI z2), (5, vI (N : Int)), (6, vI (P : Int)), (7, vI 1), (8, vI (o : Int)), (9, vI (j : Int)), (10, vI z356)]) X [1, 2, 3, 4, 5, 6, 7, 8, 9, 10, 0] dL_told_359 (by decide) rfl rfl ?_
                    have J383 : ∀ (v : Int), (-99 ≤ v ∧ v ≤ 99) → eV p l e (wrm 10 280 1680) s m args below meth c (dA G1 G2) (dF G1 G2 Md Wd) 12 (166 + 30 * o + 6 * j) (6 * (166 + 30 * o + 6 * j)) (MQ below (dQi G1 G2 (fun z M1 W1 => z = 1 ∧ ∃ N P L : Nat, Lo N P L nx 0 T M1 ∧ Lo N P L nn 0 T W1 ∧ Al N P M1 W1 ∧ FM (M1 2) ∧ FM (W1 2) ∧ ∀ x, x < 2 → M1 25 2 x = 0 ∧ W1 25 2 x = 0)) args s 280 1680 (dA G1 G2)) 383 [(0, vR G1 (28, 0)), (1, vR G2 (28, 0)), (2, (Value.ref b)), (3, vI (t0 : Int)), (4, vI z2), (5, vI (N : Int)), (6, vI (P : Int)), (7, vI 1), (8, vI (o : Int)), (9, vI (j : Int)), (10, vI z356)] [vI v, vR G2 (28, 0), vR G1 (28, 0)] := by
                      intro v hv
                      refine e_callD (pc' := 386) (st := []) (fun q h => h) (e_runD X hL (fun q h => h) (c_L_signed l G1 G2 Md Wd hfl (qO N o + 1 + 3 * j) (by omega) v (by first | omega | assumption | decide) tw5.1 tw5.2.1) cf_L_signed gw_598 rfl rfl ⟨Nat.le_of_ble_eq_true rfl, Nat.le_of_ble_eq_true rfl⟩ rfl rfl (Nat.le_of_ble_eq_true rfl) ⟨by show _ ≤ 280; omega, by show _ ≤ 1680; omega⟩ gw_597 dL_told_383) rfl (fun z383 M37 W38 h383 => ?_)
                      obtain ⟨hz383, hm383, hw383⟩ := h383
                      have tw383 : Tw M W M37 W38 (qO N o + 1 + 3 * j + 3) := by rw [hm383, hw383]; exact tw5.put3 (by omega) (by omega)
                      have ke383 : ∀ y, y < qO N o + 1 + 3 * j → M37 27 1 y = Md 27 1 y := fun y hy => by rw [hm383]; exact ap3_ne hy
                      have hd383 := hd5.keep (L := qO N o + 1 + 3 * j) (by omega) ke383
                      have ss383 := ss5.keep (L := qO N o + 1 + 3 * j) (by omega) ke383
                      have os383 := os5.keep (L := qO N o + 1 + 3 * j) (by omega) ke383
                      have ch383 := (ke383 _ (by omega)).trans c5
                      have nn383 : ∀ y, y < j + 1 → NumOk (M37 27 1) (qO N o + 1 + 3 * y) := fun y hy => by
                        by_cases q : y = j
                        · rw [q, hm383]; exact ⟨v, ap3_num hv⟩
                        · exact (nn5 y (by omega)).keep (L := qO N o + 1 + 3 * j) (by omega) ke383
                      refine e_eqI (z' := 1) hz383 ?_
                      refine e_istore (pc' := 388) (lc' := [(0, vR G1 (28, 0)), (1, vR G2 (28, 0)), (2, (Value.ref b)), (3, vI (t0 : Int)), (4, vI z2), (5, vI (N : Int)), (6, vI (P : Int)), (7, vI 1), (8, vI (o : Int)), (9, vI (j : Int)), (10, vI z356)]) X [1, 2, 3, 4, 5, 6, 7, 0, 8, 9, 10] dL_told_386 (by decide) rfl rfl ?_
                      refine e_iinc (pc' := 391) (z' := ((j + 1 : Nat) : Int)) (lc' := [(0, vR G1 (28, 0)), (1, vR G2 (28, 0)), (2, (Value.ref b)), (3, vI (t0 : Int)), (4, vI z2), (5, vI (N : Int)), (6, vI (P : Int)), (7, vI 1), (8, vI (o : Int)), (9, vI ((j + 1 : Nat) : Int)), (10, vI z356)]) X 9 [1, 2, 3, 4, 5, 6, 7, 8, 9, 0, 10] dL_told_388 rfl (by omega) (by decide) rfl rfl ?_
                      refine e_goto (tgt := 331) X dL_told_391 rfl ?_
                      refine e_sub (lc' := [(0, vR G1 (28, 0)), (1, vR G2 (28, 0)), (2, (Value.ref b)), (3, vI (t0 : Int)), (4, vI z2), (5, vI (N : Int)), (6, vI (P : Int)), (7, vI 1), (8, vI (o : Int)), (9, vI ((j + 1 : Nat) : Int))]) [0, 1, 2, 3, 4, 5, 6, 7, 8, 9] rfl ?_
                      refine e_widen (k' := 166 + 30 * o + 6 * (j + 1)) (n' := 6 * (166 + 30 * o + 6 * (j + 1))) (by omega) (by omega) ?_
                      exact ih331 (j + 1) M37 W38 (by omega) (by omega) (tw383.to (by omega)) hd383 ss383 os383 ch383 nn383
                    have y3 := tmn (a := z356) (b := 3) (by omega) (by decide)
                    have w3 := tdn (a := z356) (b := 3) (by omega) (by decide)
                    have y9 := tmn (a := z356.tdiv 3) (b := 9) (by omega) (by decide)
                    refine e_aload_n (pc' := 362) X 0 dL_told_361 rfl rfl rfl ?_
                    refine e_aload_n (pc' := 363) X 1 dL_told_362 rfl rfl rfl ?_
                    refine e_iload (pc' := 365) X 10 dL_told_363 rfl rfl ?_
                    refine e_iconst (pc' := 366) X dL_told_365 rfl ?_
                    refine e_irem (pc' := 367) X dL_told_366 (by omega) (by omega) (by omega) rfl ?_
                    refine e_if_ne (pc' := 370) (tgt := 374) X dL_told_367 rfl rfl (by omega) (fun h367 => ?_) (fun h367 => ?_)
                    · refine e_iload (pc' := 376) X 10 dL_told_374 rfl rfl ?_
                      refine e_iconst (pc' := 377) X dL_told_376 rfl ?_
                      refine e_idiv (pc' := 378) X dL_told_377 (by omega) (by omega) (by omega) rfl ?_
                      refine e_bipush (pc' := 380) X dL_told_378 rfl rfl ?_
                      refine e_irem (pc' := 381) X dL_told_380 (by omega) (by omega) (by omega) rfl ?_
                      refine e_iconst (pc' := 382) X dL_told_381 rfl ?_
                      refine e_isub (pc' := 383) X dL_told_382 rfl ?_
                      refine e_widen (k' := 166 + 30 * o + 6 * j) (n' := 6 * (166 + 30 * o + 6 * j)) (by omega) (by omega) ?_
                      exact J383 (((z356.tdiv 3).tmod 9) - 4) (by omega)
                    · refine e_iconst (pc' := 371) X dL_told_370 rfl ?_
                      refine e_goto (tgt := 383) X dL_told_371 rfl ?_
                      refine e_widen (k' := 166 + 30 * o + 6 * j) (n' := 6 * (166 + 30 * o + 6 * j)) (by omega) (by omega) ?_
                      exact J383 0 (by omega)
              refine e_widen (k' := 166 + 30 * o + 6 * 0) (n' := 6 * (166 + 30 * o + 6 * 0)) (by omega) (by omega) ?_
              exact L331 ((N - 0) + 1) 0 M31 W32 (Nat.lt_succ_self _) (by omega) (tw323.to (by omega)) hd323 ss323 os323 at323 (fun y hy => absurd hy (Nat.not_lt_zero y))
        refine e_widen (k' := 164 + 30 * 0) (n' := 6 * (164 + 30 * 0)) (by omega) (by omega) ?_
        exact L307 ((P - 0) + 1) 0 Ma Wa (Nat.lt_succ_self _) (by omega) (tw.to (by rw [show i = N by omega]; rfl)) hd (ss.to (by omega)) (fun x hx => absurd hx (Nat.not_lt_zero x))
      · refine e_iload (pc' := 137) X 7 dL_told_135 rfl rfl ?_
        refine e_if_eq (pc' := 140) (tgt := 304) X dL_told_137 rfl rfl (by omega) (fun h137 => absurd h137 (by decide)) (fun h137 => ?_)
        refine e_aload_n (pc' := 141) X 0 dL_told_140 rfl rfl rfl ?_
        refine e_call1 (pc' := 144) (st := []) hL (fun q h => h) (e_runV X (fun q h => (fun q h => h) q (Or.inl h)) hL.1 (c_X8_errorPosition l G1 Ma (qS N i) tw.1) cf_X8_errorPosition k28_0 rfl gw_325 gw_326 rfl rfl ⟨Nat.le_of_ble_eq_true rfl, Nat.le_of_ble_eq_true rfl⟩ rfl rfl (Nat.le_of_ble_eq_true rfl) ⟨by show _ ≤ 280; omega, by show _ ≤ 1680; omega⟩ gw_324 dL_told_141) rfl (fun z141 M39 h141 => ?_)
        have re := rd_part hd (by omega) rfl ss
        obtain ⟨ez, f1, f2, f3, f4⟩ := h141
        rw [re] at ez
        have ez2 : z141 = ((qS N i : Nat) : Int) := by rw [ez]; exact if_neg (by show ¬ (1 : Int) = 0; decide)
        have twp := tw.pos f1 f2 f3 f4
        have hdp : HdT (M39 27 1) N P B H := by rw [f3]; exact hd
        have ssp : Sts (M39 27 1) N i := by rw [f3]; exact ss
        refine e_eqI (z' := ((qS N i : Nat) : Int)) ez2 ?_
        refine e_bipush (pc' := 146) X dL_told_144 rfl rfl ?_
        refine e_icmp_lt (pc' := 149) (tgt := 163) X dL_told_146 rfl rfl (by omega) (by omega) (fun h146 => by exfalso; omega) (fun h146 => ?_)
        refine e_aload_n (pc' := 150) X 0 dL_told_149 rfl rfl rfl ?_
        refine e_aload_n (pc' := 151) X 1 dL_told_150 rfl rfl rfl ?_
        refine e_bipush (pc' := 153) X dL_told_151 rfl rfl ?_
        refine e_callD (pc' := 156) (st := []) (fun q h => h) (e_runD X hL (fun q h => h) (c_L_put l G1 G2 M39 Wa hfl (qS N i) (by omega) 114 (by first | omega | assumption | decide) twp.1 twp.2.1) cf_L_put gw_582 rfl rfl ⟨Nat.le_of_ble_eq_true rfl, Nat.le_of_ble_eq_true rfl⟩ rfl rfl (Nat.le_of_ble_eq_true rfl) ⟨by show _ ≤ 280; omega, by show _ ≤ 1680; omega⟩ gw_581 dL_told_153) rfl (fun z153 M40 W41 h153 => ?_)
        obtain ⟨hz153, hm153, hw153⟩ := h153
        have tw153 : Tw M W M40 W41 (qS N i + 1) := by rw [hm153, hw153]; exact twp.put (by omega) (by omega)
        have ke153 : ∀ y, y < qS N i → M40 27 1 y = M39 27 1 y := fun y hy => by rw [hm153]; exact ap_ne (Nat.ne_of_lt hy)
        have at153 : M40 27 1 (qS N i) = _ := (congrFun (congrFun (congrFun hm153 27) 1) (qS N i)).trans ap_at
        have hd153 := hdp.keep (L := qS N i) (by omega) ke153
        have ss153 := ssp.keep (L := qS N i) (by omega) ke153
        refine e_if_eq (pc' := 159) (tgt := 163) X dL_told_156 rfl rfl (by omega) (fun h156 => by exfalso; omega) (fun h156 => ?_)
        refine e_iconst (pc' := 160) X dL_told_159 rfl ?_
        refine e_goto (tgt := 164) X dL_told_160 rfl ?_
        refine e_istore (pc' := 166) (lc' := [(0, vR G1 (28, 0)), (1, vR G2 (28, 0)), (2, (Value.ref b)), (3, vI (t0 : Int)), (4, vI z2), (5, vI (N : Int)), (6, vI (P : Int)), (7, vI 1), (8, vI (i : Int))]) X [1, 2, 3, 4, 5, 6, 7, 0, 8] dL_told_164 (by decide) rfl rfl ?_
        refine e_iconst (pc' := 167) X dL_told_166 rfl ?_
        refine e_istore (pc' := 169) (lc' := [(0, vR G1 (28, 0)), (1, vR G2 (28, 0)), (2, (Value.ref b)), (3, vI (t0 : Int)), (4, vI z2), (5, vI (N : Int)), (6, vI (P : Int)), (7, vI 1), (8, vI (i : Int)), (9, vI 0)]) X [1, 2, 3, 4, 5, 6, 7, 8, 9, 0] dL_told_167 (by decide) rfl rfl ?_
        have L169 : ∀ (fu : Nat) (j : Nat) (Mb Wb : wM), N + 2 - j < fu → (j ≤ N + 2) → (Tw M W Mb Wb (qS N i + 1 + 3 * j)) → (HdT (Mb 27 1) N P B H) → (Sts (Mb 27 1) N i) → (Mb 27 1 (qS N i) = 114) → (∀ y, y < j → NumOk (Mb 27 1) (qS N i + 1 + 3 * y)) → eV p l e (wrm 10 280 1680) s m args below meth c (dA G1 G2) (dF G1 G2 Mb Wb) 12 (14 + 38 * i + 6 * j) (6 * (14 + 38 * i + 6 * j)) (MQ below (dQi G1 G2 (fun z M1 W1 => z = 1 ∧ ∃ N P L : Nat, Lo N P L nx 0 T M1 ∧ Lo N P L nn 0 T W1 ∧ Al N P M1 W1 ∧ FM (M1 2) ∧ FM (W1 2) ∧ ∀ x, x < 2 → M1 25 2 x = 0 ∧ W1 25 2 x = 0)) args s 280 1680 (dA G1 G2)) 169 [(0, vR G1 (28, 0)), (1, vR G2 (28, 0)), (2, (Value.ref b)), (3, vI (t0 : Int)), (4, vI z2), (5, vI (N : Int)), (6, vI (P : Int)), (7, vI 1), (8, vI (i : Int)), (9, vI (j : Int))] [] := by
          intro fu
          induction fu with
          | zero => intro j Mb Wb hfu; exact absurd hfu (Nat.not_lt_zero _)
          | succ fu ih169 =>
            intro j Mb Wb hfu169 hj tw2 hd2 ss2 c2 nn2
            refine e_iload (pc' := 171) X 9 dL_told_169 rfl rfl ?_
            refine e_iload (pc' := 173) X 5 dL_told_171 rfl rfl ?_
            refine e_iconst (pc' := 174) X dL_told_173 rfl ?_
            refine e_iadd (pc' := 175) X dL_told_174 rfl ?_
            refine e_icmp_ge (pc' := 178) (tgt := 298) X dL_told_175 rfl rfl (by omega) (by omega) (fun h175 => ?_) (fun h175 => ?_)
            · refine e_iinc (pc' := 301) (z' := ((i + 1 : Nat) : Int)) (lc' := [(0, vR G1 (28, 0)), (1, vR G2 (28, 0)), (2, (Value.ref b)), (3, vI (t0 : Int)), (4, vI z2), (5, vI (N : Int)), (6, vI (P : Int)), (7, vI 1), (8, vI ((i + 1 : Nat) : Int)), (9, vI (j : Int))]) X 8 [1, 2, 3, 4, 5, 6, 7, 8, 0, 9] dL_told_298 rfl (by omega) (by decide) rfl rfl ?_
              refine e_goto (tgt := 128) X dL_told_301 rfl ?_
              refine e_sub (lc' := [(0, vR G1 (28, 0)), (1, vR G2 (28, 0)), (2, (Value.ref b)), (3, vI (t0 : Int)), (4, vI z2), (5, vI (N : Int)), (6, vI (P : Int)), (7, vI 1), (8, vI ((i + 1 : Nat) : Int))]) [0, 1, 2, 3, 4, 5, 6, 7, 8] rfl ?_
              refine e_widen (k' := 12 + 38 * (i + 1)) (n' := 6 * (12 + 38 * (i + 1))) (by omega) (by omega) ?_
              exact ih128 (i + 1) Mb Wb (by omega) (by omega) (tw2.to (by rw [qS_s]; omega)) hd2 (ss2.more ⟨c2, fun y hy => nn2 y (by omega)⟩)
            · refine e_iload (pc' := 180) X 7 dL_told_178 rfl rfl ?_
              refine e_if_eq (pc' := 183) (tgt := 298) X dL_told_180 rfl rfl (by omega) (fun h180 => absurd h180 (by decide)) (fun h180 => ?_)
              refine e_aloadQ_n (pc' := 184) X 2 dL_told_183 rfl rfl rfl ?_
              refine e_iload_n (pc' := 185) X 3 dL_told_184 rfl rfl rfl ?_
              refine e_iconst (pc' := 186) X dL_told_185 rfl ?_
              refine e_iadd (pc' := 187) X dL_told_186 rfl ?_
              refine e_bipush (pc' := 189) X dL_told_187 rfl rfl ?_
              refine e_iload (pc' := 191) X 8 dL_told_189 rfl rfl ?_
              refine e_imul (pc' := 192) X dL_told_191 rfl ?_
              refine e_iadd (pc' := 193) X dL_told_192 rfl ?_
              refine e_iload (pc' := 195) X 9 dL_told_193 rfl rfl ?_
              refine e_iadd (pc' := 196) X dL_told_195 rfl ?_
              refine e_eqI (z' := ((((t0 + 1) + (6 * i)) + j : Nat) : Int)) (by omega) ?_
              refine e_cell (i := (((t0 + 1) + (6 * i)) + j)) (st := []) (pc' := 199) X hX hbl hbA (by omega) hLs ⟨Nat.le_of_ble_eq_true rfl, Nat.le_of_ble_eq_true rfl⟩ (Nat.le_of_ble_eq_true rfl) ⟨by show _ ≤ 280; omega, by show _ ≤ 1680; omega⟩ dL_told_196 rfl (fun z196 hz196a hz196b => ?_)
              refine e_istore (pc' := 201) (lc' := [(0, vR G1 (28, 0)), (1, vR G2 (28, 0)), (2, (Value.ref b)), (3, vI (t0 : Int)), (4, vI z2), (5, vI (N : Int)), (6, vI (P : Int)), (7, vI 1), (8, vI (i : Int)), (9, vI (j : Int)), (10, vI z196)]) X [1, 2, 3, 4, 5, 6, 7, 8, 9, 10, 0] dL_told_199 (by decide) rfl rfl ?_
              have J281 : ∀ (v : Int), (-99 ≤ v ∧ v ≤ 99) → eV p l e (wrm 10 280 1680) s m args below meth c (dA G1 G2) (dF G1 G2 Mb Wb) 12 (14 + 38 * i + 6 * j) (6 * (14 + 38 * i + 6 * j)) (MQ below (dQi G1 G2 (fun z M1 W1 => z = 1 ∧ ∃ N P L : Nat, Lo N P L nx 0 T M1 ∧ Lo N P L nn 0 T W1 ∧ Al N P M1 W1 ∧ FM (M1 2) ∧ FM (W1 2) ∧ ∀ x, x < 2 → M1 25 2 x = 0 ∧ W1 25 2 x = 0)) args s 280 1680 (dA G1 G2)) 281 [(0, vR G1 (28, 0)), (1, vR G2 (28, 0)), (2, (Value.ref b)), (3, vI (t0 : Int)), (4, vI z2), (5, vI (N : Int)), (6, vI (P : Int)), (7, vI 1), (8, vI (i : Int)), (9, vI (j : Int)), (10, vI z196)] [vI v] := by
                intro v hv
                refine e_istore (pc' := 283) (lc' := [(0, vR G1 (28, 0)), (1, vR G2 (28, 0)), (2, (Value.ref b)), (3, vI (t0 : Int)), (4, vI z2), (5, vI (N : Int)), (6, vI (P : Int)), (7, vI 1), (8, vI (i : Int)), (9, vI (j : Int)), (10, vI z196), (11, vI v)]) X [1, 2, 3, 4, 5, 6, 7, 8, 9, 10, 11, 0] dL_told_281 (by decide) rfl rfl ?_
                refine e_aload_n (pc' := 284) X 0 dL_told_283 rfl rfl rfl ?_
                refine e_aload_n (pc' := 285) X 1 dL_told_284 rfl rfl rfl ?_
                refine e_iload (pc' := 287) X 11 dL_told_285 rfl rfl ?_
                refine e_callD (pc' := 290) (st := []) (fun q h => h) (e_runD X hL (fun q h => h) (c_L_signed l G1 G2 Mb Wb hfl (qS N i + 1 + 3 * j) (by omega) v (by first | omega | assumption | decide) tw2.1 tw2.2.1) cf_L_signed gw_598 rfl rfl ⟨Nat.le_of_ble_eq_true rfl, Nat.le_of_ble_eq_true rfl⟩ rfl rfl (Nat.le_of_ble_eq_true rfl) ⟨by show _ ≤ 280; omega, by show _ ≤ 1680; omega⟩ gw_597 dL_told_287) rfl (fun z287 M42 W43 h287 => ?_)
                obtain ⟨hz287, hm287, hw287⟩ := h287
                have tw287 : Tw M W M42 W43 (qS N i + 1 + 3 * j + 3) := by rw [hm287, hw287]; exact tw2.put3 (by omega) (by omega)
                have ke287 : ∀ y, y < qS N i + 1 + 3 * j → M42 27 1 y = Mb 27 1 y := fun y hy => by rw [hm287]; exact ap3_ne hy
                have hd287 := hd2.keep (L := qS N i + 1 + 3 * j) (by omega) ke287
                have ss287 := ss2.keep (L := qS N i + 1 + 3 * j) (by omega) ke287
                have ch287 := (ke287 _ (by omega)).trans c2
                have nn287 : ∀ y, y < j + 1 → NumOk (M42 27 1) (qS N i + 1 + 3 * y) := fun y hy => by
                  by_cases q : y = j
                  · rw [q, hm287]; exact ⟨v, ap3_num hv⟩
                  · exact (nn2 y (by omega)).keep (L := qS N i + 1 + 3 * j) (by omega) ke287
                refine e_eqI (z' := 1) hz287 ?_
                refine e_istore (pc' := 292) (lc' := [(0, vR G1 (28, 0)), (1, vR G2 (28, 0)), (2, (Value.ref b)), (3, vI (t0 : Int)), (4, vI z2), (5, vI (N : Int)), (6, vI (P : Int)), (7, vI 1), (8, vI (i : Int)), (9, vI (j : Int)), (10, vI z196), (11, vI v)]) X [1, 2, 3, 4, 5, 6, 7, 0, 8, 9, 10, 11] dL_told_290 (by decide) rfl rfl ?_
                refine e_iinc (pc' := 295) (z' := ((j + 1 : Nat) : Int)) (lc' := [(0, vR G1 (28, 0)), (1, vR G2 (28, 0)), (2, (Value.ref b)), (3, vI (t0 : Int)), (4, vI z2), (5, vI (N : Int)), (6, vI (P : Int)), (7, vI 1), (8, vI (i : Int)), (9, vI ((j + 1 : Nat) : Int)), (10, vI z196), (11, vI v)]) X 9 [1, 2, 3, 4, 5, 6, 7, 8, 9, 0, 10, 11] dL_told_292 rfl (by omega) (by decide) rfl rfl ?_
                refine e_goto (tgt := 169) X dL_told_295 rfl ?_
                refine e_sub (lc' := [(0, vR G1 (28, 0)), (1, vR G2 (28, 0)), (2, (Value.ref b)), (3, vI (t0 : Int)), (4, vI z2), (5, vI (N : Int)), (6, vI (P : Int)), (7, vI 1), (8, vI (i : Int)), (9, vI ((j + 1 : Nat) : Int))]) [0, 1, 2, 3, 4, 5, 6, 7, 8, 9] rfl ?_
                refine e_widen (k' := 14 + 38 * i + 6 * (j + 1)) (n' := 6 * (14 + 38 * i + 6 * (j + 1))) (by omega) (by omega) ?_
                exact ih169 (j + 1) M42 W43 (by omega) (by omega) (tw287.to (by omega)) hd287 ss287 ch287 nn287
              have y33 := tmn (a := z196) (b := 33) (by omega) (by decide)
              have y3 := tmn (a := z196) (b := 3) (by omega) (by decide)
              have w3 := tdn (a := z196) (b := 3) (by omega) (by decide)
              have y17 := tmn (a := z196.tdiv 3) (b := 17) (by omega) (by decide)
              have y7 := tmn (a := z196) (b := 7) (by omega) (by decide)
              have y2 := tmn (a := z196) (b := 2) (by omega) (by decide)
              have w2 := tdn (a := z196) (b := 2) (by omega) (by decide)
              have y27 := tmn (a := z196.tdiv 2) (b := 7) (by omega) (by decide)
              have yp : -99 ≤ z196.tmod 2 * ((z196.tdiv 2).tmod 7 - 3) ∧ z196.tmod 2 * ((z196.tdiv 2).tmod 7 - 3) ≤ 99 := by
                rcases (show z196.tmod 2 = 0 ∨ z196.tmod 2 = 1 by omega) with q | q
                · rw [q]; omega
                · rw [q]; omega
              refine e_iload (pc' := 203) X 9 dL_told_201 rfl rfl ?_
              refine e_iload (pc' := 205) X 8 dL_told_203 rfl rfl ?_
              refine e_icmp_ne (pc' := 208) (tgt := 219) X dL_told_205 rfl rfl (by omega) (by omega) (fun h205 => ?_) (fun h205 => ?_)
              · refine e_iload (pc' := 221) X 9 dL_told_219 rfl rfl ?_
                refine e_iload (pc' := 223) X 5 dL_told_221 rfl rfl ?_
                refine e_icmp_ge (pc' := 226) (tgt := 250) X dL_told_223 rfl rfl (by omega) (by omega) (fun h223 => ?_) (fun h223 => ?_)
                · refine e_iload (pc' := 252) X 9 dL_told_250 rfl rfl ?_
                  refine e_iload (pc' := 254) X 5 dL_told_252 rfl rfl ?_
                  refine e_icmp_ne (pc' := 257) (tgt := 267) X dL_told_254 rfl rfl (by omega) (by omega) (fun h254 => ?_) (fun h254 => ?_)
                  · refine e_iload (pc' := 269) X 10 dL_told_267 rfl rfl ?_
                    refine e_iconst (pc' := 270) X dL_told_269 rfl ?_
                    refine e_irem (pc' := 271) X dL_told_270 (by omega) (by omega) (by omega) rfl ?_
                    refine e_iload (pc' := 273) X 10 dL_told_271 rfl rfl ?_
                    refine e_iconst (pc' := 274) X dL_told_273 rfl ?_
                    refine e_idiv (pc' := 275) X dL_told_274 (by omega) (by omega) (by omega) rfl ?_
                    refine e_bipush (pc' := 277) X dL_told_275 rfl rfl ?_
                    refine e_irem (pc' := 278) X dL_told_277 (by omega) (by omega) (by omega) rfl ?_
                    refine e_iconst (pc' := 279) X dL_told_278 rfl ?_
                    refine e_isub (pc' := 280) X dL_told_279 rfl ?_
                    refine e_imul (pc' := 281) X dL_told_280 rfl ?_
                    refine e_widen (k' := 14 + 38 * i + 6 * j) (n' := 6 * (14 + 38 * i + 6 * j)) (by omega) (by omega) ?_
                    exact J281 ((z196.tmod 2) * (((z196.tdiv 2).tmod 7) - 3)) (by omega)
                  · refine e_iload (pc' := 259) X 10 dL_told_257 rfl rfl ?_
                    refine e_bipush (pc' := 261) X dL_told_259 rfl rfl ?_
                    refine e_irem (pc' := 262) X dL_told_261 (by omega) (by omega) (by omega) rfl ?_
                    refine e_iconst (pc' := 263) X dL_told_262 rfl ?_
                    refine e_isub (pc' := 264) X dL_told_263 rfl ?_
                    refine e_goto (tgt := 281) X dL_told_264 rfl ?_
                    refine e_widen (k' := 14 + 38 * i + 6 * j) (n' := 6 * (14 + 38 * i + 6 * j)) (by omega) (by omega) ?_
                    exact J281 ((z196.tmod 7) - 3) (by omega)
                · refine e_iload (pc' := 228) X 10 dL_told_226 rfl rfl ?_
                  refine e_iconst (pc' := 229) X dL_told_228 rfl ?_
                  refine e_irem (pc' := 230) X dL_told_229 (by omega) (by omega) (by omega) rfl ?_
                  refine e_if_ne (pc' := 233) (tgt := 246) X dL_told_230 rfl rfl (by omega) (fun h230 => ?_) (fun h230 => ?_)
                  · refine e_iconst (pc' := 247) X dL_told_246 rfl ?_
                    refine e_goto (tgt := 281) X dL_told_247 rfl ?_
                    refine e_widen (k' := 14 + 38 * i + 6 * j) (n' := 6 * (14 + 38 * i + 6 * j)) (by omega) (by omega) ?_
                    exact J281 0 (by omega)
                  · refine e_iload (pc' := 235) X 10 dL_told_233 rfl rfl ?_
                    refine e_iconst (pc' := 236) X dL_told_235 rfl ?_
                    refine e_idiv (pc' := 237) X dL_told_236 (by omega) (by omega) (by omega) rfl ?_
                    refine e_bipush (pc' := 239) X dL_told_237 rfl rfl ?_
                    refine e_irem (pc' := 240) X dL_told_239 (by omega) (by omega) (by omega) rfl ?_
                    refine e_bipush (pc' := 242) X dL_told_240 rfl rfl ?_
                    refine e_isub (pc' := 243) X dL_told_242 rfl ?_
                    refine e_goto (tgt := 281) X dL_told_243 rfl ?_
                    refine e_widen (k' := 14 + 38 * i + 6 * j) (n' := 6 * (14 + 38 * i + 6 * j)) (by omega) (by omega) ?_
                    exact J281 (((z196.tdiv 3).tmod 17) - 8) (by omega)
              · refine e_iload (pc' := 210) X 10 dL_told_208 rfl rfl ?_
                refine e_bipush (pc' := 212) X dL_told_210 rfl rfl ?_
                refine e_irem (pc' := 213) X dL_told_212 (by omega) (by omega) (by omega) rfl ?_
                refine e_bipush (pc' := 215) X dL_told_213 rfl rfl ?_
                refine e_isub (pc' := 216) X dL_told_215 rfl ?_
                refine e_goto (tgt := 281) X dL_told_216 rfl ?_
                refine e_widen (k' := 14 + 38 * i + 6 * j) (n' := 6 * (14 + 38 * i + 6 * j)) (by omega) (by omega) ?_
                exact J281 ((z196.tmod 33) - 16) (by omega)
        refine e_widen (k' := 14 + 38 * i + 6 * 0) (n' := 6 * (14 + 38 * i + 6 * 0)) (by omega) (by omega) ?_
        exact L169 ((N + 2 - 0) + 1) 0 M40 W41 (Nat.lt_succ_self _) (by omega) (tw153.to (by omega)) hd153 ss153 at153 (fun y hy => absurd hy (Nat.not_lt_zero y))
  refine e_widen (k' := 12 + 38 * 0) (n' := 6 * (12 + 38 * 0)) (by omega) (by omega) ?_
  exact L128 ((N - 0) + 1) 0 M13 W14 (Nat.lt_succ_self _) (by omega) (tw112.to rfl) hd112 (fun x hx => absurd hx (Nat.not_lt_zero x))
