/-! THE LAW: its walk, its start -/
set_option maxRecDepth 100000 in
set_option maxHeartbeats 8000000 in
theorem law_walk {p : Program} {l : Launch} {e : Env} {s : State} {m : MethodId} {below : List Frame} {meth : Method} {c : Code} {A : Nat → Prop} {G1 G2 : wG} {b Ls B : Nat} {xs : Nat → Int32} (hfl : l.stackTraces = false) (X : wX p s m #[Value.ref b] meth c (gA G1 A) 8 "StateObserverLaw" cL_law) (hL : dL G1 G2) (hN : ∀ q, dA G1 G2 q → A q) (hNB : ∀ q, sA G1 B q → A q) (hGB : ∀ q, wA G1 q → q < B) (hBD : ∀ q, wA G2 q → q < B) (hBs : ∀ (M V : wM) (H : Heap), dF G1 G2 M V H → B ≤ H.size) (hbase : ∀ q, A q → s.heap.size ≤ q) (hX : va_X b Ls xs s s.heap) (hbl : b < s.heap.size) (hbA : ¬ A b) (hLs0 : Ls ≤ 260) (hr : meth.sig.returnType = ret) : eV p l e room_1 s m #[Value.ref b] below meth c A (dF G1 G2 M0 M0) 8 648 3888 (lw_Z below #[Value.ref b] s) 16 [(0, .ref b), (1, vR G1 (28, 0)), (2, vR G2 (28, 0))] [] := by
  have hfl2 := hfl
  have X2 := X.other hL hN
  have hLs : Ls ≤ 100000 := by omega
  refine e_aload_n (pc' := 17) X 1 dL_law_16 rfl rfl rfl ?_
  refine e_call1 (pc' := 20) (st := []) hL hN (e_runV X (fun q h => hN q (Or.inl h)) hL.1 (c_X8_errorPosition l G1 M0 0 M0_lo.tx) cf_X8_errorPosition k28_0 rfl gw_325 gw_326 rfl rfl ⟨Nat.le_of_ble_eq_true rfl, Nat.le_of_ble_eq_true rfl⟩ rfl rfl (Nat.le_of_ble_eq_true rfl) ⟨by show _ ≤ 683782; omega, by show _ ≤ 7050279; omega⟩ gw_324 dL_law_17) rfl (fun z17 M1 h17 => ?_)
  obtain ⟨ez, f1, f2, f3, f4⟩ := h17
  have bo17 := M0_err f1 f2 f4
  have em17 : M1 0 = M0 0 := f2 0 (by decide) (by decide) (by decide)
  refine e_eqI (z' := 0) (ez.trans M0_pos) ?_
  refine e_if_ne (pc' := 23) (tgt := 89) X dL_law_20 rfl rfl (by omega) (fun h20 => absurd h20 (by decide)) (fun h20 => ?_)
  refine e_aload_n (pc' := 24) X 1 dL_law_23 rfl rfl rfl ?_
  refine e_iconst (pc' := 25) X dL_law_24 rfl ?_
  refine e_call1 (pc' := 28) (st := []) hL hN (e_runSH X (fun q h => hN q (Or.inl h)) hL.1 (c_L_tryUnknown l G1 M1 hfl _ _ _ bo17.1.ck (by have := bo17.1.t; omega) 1 (by first | omega | assumption | decide)) cf_L_tryUnknown gw_534 rfl rfl ⟨Nat.le_of_ble_eq_true rfl, Nat.le_of_ble_eq_true rfl⟩ rfl rfl (Nat.le_of_ble_eq_true rfl) ⟨by show _ ≤ 683782; omega, by show _ ≤ 7050279; omega⟩ gw_533 dL_law_25) rfl (fun z25 M2 h25 => ?_)
  rcases h25 with h25 | h25
  · exfalso
    exact h25.1 (by rw [em17]; rfl)
  obtain ⟨hz25, -, hs25⟩ := h25
  have bo25 := bo17.scr hs25 ScrEq.rfl
  have em25 : M2 0 = M0 0 := hs25.z0.trans em17
  refine e_eqI (z' := (-1003)) hz25 ?_
  refine e_sipush (pc' := 31) X dL_law_28 rfl rfl ?_
  refine e_icmp_ne (pc' := 34) (tgt := 89) X dL_law_31 rfl rfl (by omega) (by omega) (fun h31 => absurd h31 (by decide)) (fun h31 => ?_)
  refine e_aload_n (pc' := 35) X 1 dL_law_34 rfl rfl rfl ?_
  refine e_iconst (pc' := 36) X dL_law_35 rfl ?_
  refine e_iconst (pc' := 37) X dL_law_36 rfl ?_
  refine e_call1 (pc' := 40) (st := []) hL hN (e_runSH X (fun q h => hN q (Or.inl h)) hL.1 (c_L_tryOutput l G1 M2 hfl _ _ _ bo25.1.ck (by have := bo25.1.t; omega) 0 0 (by first | omega | assumption | decide) (by first | omega | assumption | decide)) cf_L_tryOutput gw_377 rfl rfl ⟨Nat.le_of_ble_eq_true rfl, Nat.le_of_ble_eq_true rfl⟩ rfl rfl (Nat.le_of_ble_eq_true rfl) ⟨by show _ ≤ 683782; omega, by show _ ≤ 7050279; omega⟩ gw_376 dL_law_37) rfl (fun z37 M3 h37 => ?_)
  rcases h37 with h37 | h37 | h37 | h37
  · exfalso
    exact h37.2.2.1 ⟨by decide, by rw [em25]; rfl⟩
  · exfalso
    exact h37.2.1 (by decide)
  · exfalso
    exact h37.2.1.2 (by decide)
  obtain ⟨hz37, -, hs37⟩ := h37
  have bo37 := bo25.scr hs37 ScrEq.rfl
  have em37 : M3 0 = M0 0 := hs37.z0.trans em25
  refine e_eqI (z' := (-1003)) hz37 ?_
  refine e_sipush (pc' := 43) X dL_law_40 rfl rfl ?_
  refine e_icmp_ne (pc' := 46) (tgt := 89) X dL_law_43 rfl rfl (by omega) (by omega) (fun h43 => absurd h43 (by decide)) (fun h43 => ?_)
  refine e_aload_n (pc' := 47) X 1 dL_law_46 rfl rfl rfl ?_
  refine e_call1 (pc' := 50) (st := []) hL hN (e_runV X (fun q h => hN q (Or.inl h)) hL.1 (c_X8_width l G1 M3 _ _ _ bo37.1.ck (by have := bo37.1.t; omega)) cf_X8_width k28_0 rfl gw_369 gw_370 rfl rfl ⟨Nat.le_of_ble_eq_true rfl, Nat.le_of_ble_eq_true rfl⟩ rfl rfl (Nat.le_of_ble_eq_true rfl) ⟨by show _ ≤ 683782; omega, by show _ ≤ 7050279; omega⟩ gw_368 dL_law_47) rfl (fun z47 M4 h47 => ?_)
  obtain ⟨hz47, hm47⟩ := h47
  obtain rfl := hm47.symm
  have ew47 : wid 1 (M3 0 2) (M3 0 3) = 2000 := by rw [em37]; decide
  refine e_eqI (z' := 2000) (hz47.trans ew47) ?_
  refine e_sipush (pc' := 53) X dL_law_50 rfl rfl ?_
  refine e_icmp_ne (pc' := 56) (tgt := 89) X dL_law_53 rfl rfl (by omega) (by omega) (fun h53 => absurd h53 (by decide)) (fun h53 => ?_)
  refine e_aload_n (pc' := 57) X 2 dL_law_56 rfl rfl rfl ?_
  refine e_call2 (pc' := 60) (st := []) hL hN (e_runS X2 (fun q h => hN q (Or.inr h)) hL.2.1 (c_L_refuses l G2 M0 hfl _ _ _ _ _ _ bo37.2.1) cf_L_refuses gw_701 rfl rfl ⟨Nat.le_of_ble_eq_true rfl, Nat.le_of_ble_eq_true rfl⟩ rfl rfl (Nat.le_of_ble_eq_true rfl) ⟨by show _ ≤ 683782; omega, by show _ ≤ 7050279; omega⟩ gw_700 dL_law_57) rfl (fun z57 W5 h57 => ?_)
  obtain ⟨hz57, hs57⟩ := h57
  have bo57 := bo37.scr ScrEq.rfl hs57
  refine e_eqI (z' := 1) hz57 ?_
  refine e_if_eq (pc' := 63) (tgt := 89) X dL_law_60 rfl rfl (by omega) (fun h60 => absurd h60 (by decide)) (fun h60 => ?_)
  refine e_aload_n (pc' := 64) X 1 dL_law_63 rfl rfl rfl ?_
  refine e_aload_n (pc' := 65) X 2 dL_law_64 rfl rfl rfl ?_
  refine e_callD (pc' := 68) (st := []) hN (e_runD X hL hN (c_L_alike l G1 G2 M3 W5 hfl _ _ _ _ _ _ _ _ _ bo57.1 bo57.2.1 bo57.2.2.1) cf_L_alike gw_678 rfl rfl ⟨Nat.le_of_ble_eq_true rfl, Nat.le_of_ble_eq_true rfl⟩ rfl rfl (Nat.le_of_ble_eq_true rfl) ⟨by show _ ≤ 683782; omega, by show _ ≤ 7050279; omega⟩ gw_677 dL_law_65) rfl (fun z65 M6 W7 h65 => ?_)
  obtain ⟨hz65, hs65, ht65⟩ := h65
  have bo65 := bo57.scr hs65 ht65
  refine e_eqI (z' := 1) hz65 ?_
  refine e_if_eq (pc' := 71) (tgt := 89) X dL_law_68 rfl rfl (by omega) (fun h68 => absurd h68 (by decide)) (fun h68 => ?_)
  refine e_aload_n (pc' := 72) X 1 dL_law_71 rfl rfl rfl ?_
  refine e_call1 (pc' := 75) (st := []) hL hN (e_runS X (fun q h => hN q (Or.inl h)) hL.1 (c_L_contained l G1 M6 hfl _ _ _ _ _ _ bo65.1) cf_L_contained gw_974 rfl rfl ⟨Nat.le_of_ble_eq_true rfl, Nat.le_of_ble_eq_true rfl⟩ rfl rfl (Nat.le_of_ble_eq_true rfl) ⟨by show _ ≤ 683782; omega, by show _ ≤ 7050279; omega⟩ gw_973 dL_law_72) rfl (fun z72 M8 h72 => ?_)
  obtain ⟨hz72, hs72⟩ := h72
  have bo72 := bo65.scr hs72 ScrEq.rfl
  refine e_eqI (z' := 1) hz72 ?_
  refine e_if_eq (pc' := 78) (tgt := 89) X dL_law_75 rfl rfl (by omega) (fun h75 => absurd h75 (by decide)) (fun h75 => ?_)
  refine e_aload_n (pc' := 79) X 1 dL_law_78 rfl rfl rfl ?_
  refine e_call1 (pc' := 82) (st := []) hL hN (e_runS X (fun q h => hN q (Or.inl h)) hL.1 (c_L_seen l G1 M8 hfl _ _ _ _ _ _ bo72.1) cf_L_seen gw_994 rfl rfl ⟨Nat.le_of_ble_eq_true rfl, Nat.le_of_ble_eq_true rfl⟩ rfl rfl (Nat.le_of_ble_eq_true rfl) ⟨by show _ ≤ 683782; omega, by show _ ≤ 7050279; omega⟩ gw_993 dL_law_79) rfl (fun z79 M9 h79 => ?_)
  obtain ⟨hz79, hs79⟩ := h79
  have bo79 := bo72.scr hs79 ScrEq.rfl
  refine e_eqI (z' := 1) hz79 ?_
  refine e_if_eq (pc' := 85) (tgt := 89) X dL_law_82 rfl rfl (by omega) (fun h82 => absurd h82 (by decide)) (fun h82 => ?_)
  refine e_iconst (pc' := 86) X dL_law_85 rfl ?_
  refine e_goto (tgt := 90) X dL_law_86 rfl ?_
  refine e_istore_n (pc' := 91) (lc' := [(0, (Value.ref b)), (1, vR G1 (28, 0)), (2, vR G2 (28, 0)), (3, vI 1)]) X [1, 2, 3, 0] dL_law_90 rfl (by decide) rfl rfl ?_
  refine e_iconst (pc' := 92) X dL_law_91 rfl ?_
  refine e_istore (pc' := 94) (lc' := [(0, (Value.ref b)), (1, vR G1 (28, 0)), (2, vR G2 (28, 0)), (3, vI 1), (4, vI 0)]) X [1, 2, 3, 4, 0] dL_law_92 (by decide) rfl rfl ?_
  have L94 : ∀ (fu : Nat) (t : Nat) (Ma Wa : wM), 2 - t < fu → (t ≤ 2) → (∃ N P L nx nn ct : Nat, ∃ T : Int, Bo N P L L nx nn ct T Ma Wa) → eV p l e room_1 s m #[Value.ref b] below meth c A (dF G1 G2 Ma Wa) 8 (1500 + 20000 * t) (6 * (1500 + 20000 * t)) (lw_Z below #[Value.ref b] s) 94 [(0, (Value.ref b)), (1, vR G1 (28, 0)), (2, vR G2 (28, 0)), (3, vI 1), (4, vI (t : Int))] [] := by
    intro fu
    induction fu with
    | zero => intro t Ma Wa hfu; exact absurd hfu (Nat.not_lt_zero _)
    | succ fu ih94 =>
      intro t Ma Wa hfu94 ht oi
      obtain ⟨N0, P0, L0, nx0, nn0, ct0, T0, bo94⟩ := oi
      refine e_iload (pc' := 96) X 4 dL_law_94 rfl rfl ?_
      refine e_iconst (pc' := 97) X dL_law_96 rfl ?_
      refine e_icmp_ge (pc' := 100) (tgt := 349) X dL_law_97 rfl rfl (by omega) (by omega) (fun h97 => ?_) (fun h97 => ?_)
      · refine e_iload_n (pc' := 350) X 3 dL_law_349 rfl rfl rfl ?_
        exact e_end hbase X hr (by omega) (by omega)
      · refine e_iload_n (pc' := 101) X 3 dL_law_100 rfl rfl rfl ?_
        refine e_if_eq (pc' := 104) (tgt := 349) X dL_law_101 rfl rfl (by omega) (fun h101 => absurd h101 (by decide)) (fun h101 => ?_)
        refine e_aload_n (pc' := 105) X 1 dL_law_104 rfl rfl rfl ?_
        refine e_aload_n (pc' := 106) X 2 dL_law_105 rfl rfl rfl ?_
        refine e_aloadQ_n (pc' := 107) X 0 dL_law_106 rfl rfl rfl ?_
        refine e_bipush (pc' := 109) X dL_law_107 rfl rfl ?_
        refine e_iload (pc' := 111) X 4 dL_law_109 rfl rfl ?_
        refine e_imul (pc' := 112) X dL_law_111 rfl ?_
        refine e_eqI (z' := ((70 * t : Nat) : Int)) (by omega) ?_
        refine e_callD (pc' := 115) (st := []) hN (e_runDS X hL hN hX hbl hbA (c_L_told l G1 G2 Ma Wa hfl b Ls xs (70 * t) (by omega) (by omega) _ _ _ 0 (by decide) bo94.1.tx bo94.2.1.tx bo94.2.2.2.2.2.1 bo94.2.2.2.2.2.2 bo94.1.nxe bo94.2.1.nxe bo94.1.nx14 bo94.2.1.nx14) cf_L_told gw_575 rfl rfl ⟨Nat.le_of_ble_eq_true rfl, Nat.le_of_ble_eq_true rfl⟩ rfl rfl (Nat.le_of_ble_eq_true rfl) ⟨by show _ ≤ 683782; omega, by show _ ≤ 7050279; omega⟩ gw_574 dL_law_112) rfl (fun z112 M10 W11 h112 => ?_)
        obtain ⟨hz112, N, P, L, q1, q2, q3, q4, q5, q6⟩ := h112
        have bo112 := Bo.told q1 q2 q3 q4 q5 q6
        refine e_eqI (z' := 1) hz112 ?_
        refine e_if_eq (pc' := 118) (tgt := 144) X dL_law_115 rfl rfl (by omega) (fun h115 => absurd h115 (by decide)) (fun h115 => ?_)
        refine e_aload_n (pc' := 119) X 2 dL_law_118 rfl rfl rfl ?_
        refine e_call2 (pc' := 122) (st := []) hL hN (e_runS X2 (fun q h => hN q (Or.inr h)) hL.2.1 (c_L_refuses l G2 W11 hfl _ _ _ _ _ _ bo112.2.1) cf_L_refuses gw_701 rfl rfl ⟨Nat.le_of_ble_eq_true rfl, Nat.le_of_ble_eq_true rfl⟩ rfl rfl (Nat.le_of_ble_eq_true rfl) ⟨by show _ ≤ 683782; omega, by show _ ≤ 7050279; omega⟩ gw_700 dL_law_119) rfl (fun z119 W12 h119 => ?_)
        obtain ⟨hz119, hs119⟩ := h119
        have bo119 := bo112.scr ScrEq.rfl hs119
        refine e_eqI (z' := 1) hz119 ?_
        refine e_if_eq (pc' := 125) (tgt := 144) X dL_law_122 rfl rfl (by omega) (fun h122 => absurd h122 (by decide)) (fun h122 => ?_)
        refine e_aload_n (pc' := 126) X 1 dL_law_125 rfl rfl rfl ?_
        refine e_aload_n (pc' := 127) X 2 dL_law_126 rfl rfl rfl ?_
        refine e_callD (pc' := 130) (st := []) hN (e_runD X hL hN (c_L_alike l G1 G2 M10 W12 hfl _ _ _ _ _ _ _ _ _ bo119.1 bo119.2.1 bo119.2.2.1) cf_L_alike gw_678 rfl rfl ⟨Nat.le_of_ble_eq_true rfl, Nat.le_of_ble_eq_true rfl⟩ rfl rfl (Nat.le_of_ble_eq_true rfl) ⟨by show _ ≤ 683782; omega, by show _ ≤ 7050279; omega⟩ gw_677 dL_law_127) rfl (fun z127 M13 W14 h127 => ?_)
        obtain ⟨hz127, hs127, ht127⟩ := h127
        have bo127 := bo119.scr hs127 ht127
        refine e_eqI (z' := 1) hz127 ?_
        refine e_if_eq (pc' := 133) (tgt := 144) X dL_law_130 rfl rfl (by omega) (fun h130 => absurd h130 (by decide)) (fun h130 => ?_)
        refine e_aload_n (pc' := 134) X 1 dL_law_133 rfl rfl rfl ?_
        refine e_call1 (pc' := 137) (st := []) hL hN (e_runS X (fun q h => hN q (Or.inl h)) hL.1 (c_L_seen l G1 M13 hfl _ _ _ _ _ _ bo127.1) cf_L_seen gw_994 rfl rfl ⟨Nat.le_of_ble_eq_true rfl, Nat.le_of_ble_eq_true rfl⟩ rfl rfl (Nat.le_of_ble_eq_true rfl) ⟨by show _ ≤ 683782; omega, by show _ ≤ 7050279; omega⟩ gw_993 dL_law_134) rfl (fun z134 M15 h134 => ?_)
        obtain ⟨hz134, hs134⟩ := h134
        have bo134 := bo127.scr hs134 ScrEq.rfl
        refine e_eqI (z' := 1) hz134 ?_
        refine e_if_eq (pc' := 140) (tgt := 144) X dL_law_137 rfl rfl (by omega) (fun h137 => absurd h137 (by decide)) (fun h137 => ?_)
        refine e_iconst (pc' := 141) X dL_law_140 rfl ?_
        refine e_goto (tgt := 145) X dL_law_141 rfl ?_
        refine e_istore_n (pc' := 146) (lc' := [(0, (Value.ref b)), (1, vR G1 (28, 0)), (2, vR G2 (28, 0)), (3, vI 1), (4, vI (t : Int))]) X [1, 2, 3, 0, 4] dL_law_145 rfl (by decide) rfl rfl ?_
        refine e_iconst (pc' := 147) X dL_law_146 rfl ?_
        refine e_istore (pc' := 149) (lc' := [(0, (Value.ref b)), (1, vR G1 (28, 0)), (2, vR G2 (28, 0)), (3, vI 1), (4, vI (t : Int)), (5, vI 0)]) X [1, 2, 3, 4, 5, 0] dL_law_147 (by decide) rfl rfl ?_
        have L149 : ∀ (fu : Nat) (k : Nat) (Mb Wb : wM), 9 - k < fu → (k ≤ 9) → (∃ nx nn ct : Nat, Bo N P L L nx nn ct (2 * (k : Int)) Mb Wb) → eV p l e room_1 s m #[Value.ref b] below meth c A (dF G1 G2 Mb Wb) 8 (1500 + 20000 * t + 1000 + 1700 * k) (6 * (1500 + 20000 * t + 1000 + 1700 * k)) (lw_Z below #[Value.ref b] s) 149 [(0, (Value.ref b)), (1, vR G1 (28, 0)), (2, vR G2 (28, 0)), (3, vI 1), (4, vI (t : Int)), (5, vI (k : Int))] [] := by
          intro fu
          induction fu with
          | zero => intro k Mb Wb hfu; exact absurd hfu (Nat.not_lt_zero _)
          | succ fu ih149 =>
            intro k Mb Wb hfu149 hk bi
            obtain ⟨nx1, nn1, ct1, bo149⟩ := bi
            refine e_iload (pc' := 151) X 5 dL_law_149 rfl rfl ?_
            refine e_bipush (pc' := 153) X dL_law_151 rfl rfl ?_
            refine e_icmp_ge (pc' := 156) (tgt := 343) X dL_law_153 rfl rfl (by omega) (by omega) (fun h153 => ?_) (fun h153 => ?_)
            · refine e_iinc (pc' := 346) (z' := ((t + 1 : Nat) : Int)) (lc' := [(0, (Value.ref b)), (1, vR G1 (28, 0)), (2, vR G2 (28, 0)), (3, vI 1), (4, vI ((t + 1 : Nat) : Int)), (5, vI (k : Int))]) X 4 [1, 2, 3, 4, 0, 5] dL_law_343 rfl (by omega) (by decide) rfl rfl ?_
              refine e_goto (tgt := 94) X dL_law_346 rfl ?_
              refine e_sub (lc' := [(0, (Value.ref b)), (1, vR G1 (28, 0)), (2, vR G2 (28, 0)), (3, vI 1), (4, vI ((t + 1 : Nat) : Int))]) [0, 1, 2, 3, 4] rfl ?_
              refine e_widen (k' := 1500 + 20000 * (t + 1)) (n' := 6 * (1500 + 20000 * (t + 1))) (by omega) (by omega) ?_
              exact ih94 (t + 1) Mb Wb (by omega) (by omega) ⟨_, _, _, _, _, _, _, bo149⟩
            · refine e_iload_n (pc' := 157) X 3 dL_law_156 rfl rfl rfl ?_
              refine e_if_eq (pc' := 160) (tgt := 343) X dL_law_157 rfl rfl (by omega) (fun h157 => absurd h157 (by decide)) (fun h157 => ?_)
              refine e_aloadQ_n (pc' := 161) X 0 dL_law_160 rfl rfl rfl ?_
              refine e_bipush (pc' := 163) X dL_law_161 rfl rfl ?_
              refine e_iload (pc' := 165) X 4 dL_law_163 rfl rfl ?_
              refine e_imul (pc' := 166) X dL_law_165 rfl ?_
              refine e_bipush (pc' := 168) X dL_law_166 rfl rfl ?_
              refine e_iadd (pc' := 169) X dL_law_168 rfl ?_
              refine e_iconst (pc' := 170) X dL_law_169 rfl ?_
              refine e_iload (pc' := 172) X 5 dL_law_170 rfl rfl ?_
              refine e_imul (pc' := 173) X dL_law_172 rfl ?_
              refine e_iadd (pc' := 174) X dL_law_173 rfl ?_
              refine e_eqI (z' := ((((70 * t) + 45) + (2 * k) : Nat) : Int)) (by omega) ?_
              refine e_cell (i := (((70 * t) + 45) + (2 * k))) (st := []) (pc' := 177) X hX hbl hbA (by omega) hLs ⟨Nat.le_of_ble_eq_true rfl, Nat.le_of_ble_eq_true rfl⟩ (Nat.le_of_ble_eq_true rfl) ⟨by show _ ≤ 683782; omega, by show _ ≤ 7050279; omega⟩ dL_law_174 rfl (fun z174 hz174a hz174b => ?_)
              refine e_istore (pc' := 179) (lc' := [(0, (Value.ref b)), (1, vR G1 (28, 0)), (2, vR G2 (28, 0)), (3, vI 1), (4, vI (t : Int)), (5, vI (k : Int)), (6, vI z174)]) X [1, 2, 3, 4, 5, 6, 0] dL_law_177 (by decide) rfl rfl ?_
              refine e_aloadQ_n (pc' := 180) X 0 dL_law_179 rfl rfl rfl ?_
              refine e_bipush (pc' := 182) X dL_law_180 rfl rfl ?_
              refine e_iload (pc' := 184) X 4 dL_law_182 rfl rfl ?_
              refine e_imul (pc' := 185) X dL_law_184 rfl ?_
              refine e_bipush (pc' := 187) X dL_law_185 rfl rfl ?_
              refine e_iadd (pc' := 188) X dL_law_187 rfl ?_
              refine e_iconst (pc' := 189) X dL_law_188 rfl ?_
              refine e_iload (pc' := 191) X 5 dL_law_189 rfl rfl ?_
              refine e_imul (pc' := 192) X dL_law_191 rfl ?_
              refine e_iadd (pc' := 193) X dL_law_192 rfl ?_
              refine e_eqI (z' := ((((70 * t) + 46) + (2 * k) : Nat) : Int)) (by omega) ?_
              refine e_cell (i := (((70 * t) + 46) + (2 * k))) (st := []) (pc' := 196) X hX hbl hbA (by omega) hLs ⟨Nat.le_of_ble_eq_true rfl, Nat.le_of_ble_eq_true rfl⟩ (Nat.le_of_ble_eq_true rfl) ⟨by show _ ≤ 683782; omega, by show _ ≤ 7050279; omega⟩ dL_law_193 rfl (fun z193 hz193a hz193b => ?_)
              refine e_istore (pc' := 198) (lc' := [(0, (Value.ref b)), (1, vR G1 (28, 0)), (2, vR G2 (28, 0)), (3, vI 1), (4, vI (t : Int)), (5, vI (k : Int)), (6, vI z174), (7, vI z193)]) X [1, 2, 3, 4, 5, 6, 7, 0] dL_law_196 (by decide) rfl rfl ?_
              refine e_aload_n (pc' := 199) X 1 dL_law_198 rfl rfl rfl ?_
              refine e_iload (pc' := 201) X 6 dL_law_199 rfl rfl ?_
              refine e_iload (pc' := 203) X 7 dL_law_201 rfl rfl ?_
              refine e_call1 (pc' := 206) (st := []) hL hN (e_runS X (fun q h => hN q (Or.inl h)) hL.1 (c_L_act l G1 Mb hfl _ _ _ _ _ _ bo149.1 z174 z193 (by first | omega | assumption | decide) (by first | omega | assumption | decide)) cf_L_act gw_1026 rfl rfl ⟨Nat.le_of_ble_eq_true rfl, Nat.le_of_ble_eq_true rfl⟩ rfl rfl (Nat.le_of_ble_eq_true rfl) ⟨by show _ ≤ 683782; omega, by show _ ≤ 7050279; omega⟩ gw_1025 dL_law_203) rfl (fun z203 M16 h203 => ?_)
              refine e_aload_n (pc' := 207) X 2 dL_law_206 rfl rfl rfl ?_
              refine e_iload (pc' := 209) X 6 dL_law_207 rfl rfl ?_
              refine e_iload (pc' := 211) X 7 dL_law_209 rfl rfl ?_
              refine e_call2 (pc' := 214) (st := [vI z203]) hL hN (e_runS X2 (fun q h => hN q (Or.inr h)) hL.2.1 (c_L_act l G2 Wb hfl _ _ _ _ _ _ bo149.2.1 z174 z193 (by first | omega | assumption | decide) (by first | omega | assumption | decide)) cf_L_act gw_1026 rfl rfl ⟨Nat.le_of_ble_eq_true rfl, Nat.le_of_ble_eq_true rfl⟩ rfl rfl (Nat.le_of_ble_eq_true rfl) ⟨by show _ ≤ 683782; omega, by show _ ≤ 7050279; omega⟩ gw_1025 dL_law_211) rfl (fun z211 W17 h211 => ?_)
              obtain ⟨ez211, nx2, nn2, ct2, bo211⟩ := bo149.act (by omega) h203 h211 (by omega) (by omega)
              refine e_icmp_neE (pc' := 217) (tgt := 261) X dL_law_214 rfl rfl ez211 ?_
              refine e_aload_n (pc' := 218) X 2 dL_law_217 rfl rfl rfl ?_
              refine e_call2 (pc' := 221) (st := []) hL hN (e_runS X2 (fun q h => hN q (Or.inr h)) hL.2.1 (c_L_refuses l G2 W17 hfl _ _ _ _ _ _ bo211.2.1) cf_L_refuses gw_701 rfl rfl ⟨Nat.le_of_ble_eq_true rfl, Nat.le_of_ble_eq_true rfl⟩ rfl rfl (Nat.le_of_ble_eq_true rfl) ⟨by show _ ≤ 683782; omega, by show _ ≤ 7050279; omega⟩ gw_700 dL_law_218) rfl (fun z218 W18 h218 => ?_)
              obtain ⟨hz218, hs218⟩ := h218
              have bo218 := bo211.scr ScrEq.rfl hs218
              refine e_eqI (z' := 1) hz218 ?_
              refine e_if_eq (pc' := 224) (tgt := 261) X dL_law_221 rfl rfl (by omega) (fun h221 => absurd h221 (by decide)) (fun h221 => ?_)
              refine e_aload_n (pc' := 225) X 1 dL_law_224 rfl rfl rfl ?_
              refine e_aload_n (pc' := 226) X 2 dL_law_225 rfl rfl rfl ?_
              refine e_callD (pc' := 229) (st := []) hN (e_runD X hL hN (c_L_alike l G1 G2 M16 W18 hfl _ _ _ _ _ _ _ _ _ bo218.1 bo218.2.1 bo218.2.2.1) cf_L_alike gw_678 rfl rfl ⟨Nat.le_of_ble_eq_true rfl, Nat.le_of_ble_eq_true rfl⟩ rfl rfl (Nat.le_of_ble_eq_true rfl) ⟨by show _ ≤ 683782; omega, by show _ ≤ 7050279; omega⟩ gw_677 dL_law_226) rfl (fun z226 M19 W20 h226 => ?_)
              obtain ⟨hz226, hs226, ht226⟩ := h226
              have bo226 := bo218.scr hs226 ht226
              refine e_eqI (z' := 1) hz226 ?_
              refine e_if_eq (pc' := 232) (tgt := 261) X dL_law_229 rfl rfl (by omega) (fun h229 => absurd h229 (by decide)) (fun h229 => ?_)
              refine e_aload_n (pc' := 233) X 1 dL_law_232 rfl rfl rfl ?_
              refine e_call1 (pc' := 236) (st := []) hL hN (e_runS X (fun q h => hN q (Or.inl h)) hL.1 (c_L_contained l G1 M19 hfl _ _ _ _ _ _ bo226.1) cf_L_contained gw_974 rfl rfl ⟨Nat.le_of_ble_eq_true rfl, Nat.le_of_ble_eq_true rfl⟩ rfl rfl (Nat.le_of_ble_eq_true rfl) ⟨by show _ ≤ 683782; omega, by show _ ≤ 7050279; omega⟩ gw_973 dL_law_233) rfl (fun z233 M21 h233 => ?_)
              obtain ⟨hz233, hs233⟩ := h233
              have bo233 := bo226.scr hs233 ScrEq.rfl
              refine e_eqI (z' := 1) hz233 ?_
              refine e_if_eq (pc' := 239) (tgt := 261) X dL_law_236 rfl rfl (by omega) (fun h236 => absurd h236 (by decide)) (fun h236 => ?_)
              refine e_aload_n (pc' := 240) X 1 dL_law_239 rfl rfl rfl ?_
              refine e_iload (pc' := 242) X 7 dL_law_240 rfl rfl ?_
              refine e_call1 (pc' := 245) (st := []) hL hN (e_runS X (fun q h => hN q (Or.inl h)) hL.1 (c_L_earliest l G1 M21 hfl _ _ _ _ _ _ bo233.1 z193 (by first | omega | assumption | decide)) cf_L_earliest gw_1010 rfl rfl ⟨Nat.le_of_ble_eq_true rfl, Nat.le_of_ble_eq_true rfl⟩ rfl rfl (Nat.le_of_ble_eq_true rfl) ⟨by show _ ≤ 683782; omega, by show _ ≤ 7050279; omega⟩ gw_1009 dL_law_242) rfl (fun z242 M22 h242 => ?_)
              obtain ⟨hz242, hs242⟩ := h242
              have bo242 := bo233.scr hs242 ScrEq.rfl
              refine e_eqI (z' := 1) hz242 ?_
              refine e_if_eq (pc' := 248) (tgt := 261) X dL_law_245 rfl rfl (by omega) (fun h245 => absurd h245 (by decide)) (fun h245 => ?_)
              refine e_aload_n (pc' := 249) X 1 dL_law_248 rfl rfl rfl ?_
              refine e_iload (pc' := 251) X 6 dL_law_249 rfl rfl ?_
              refine e_call1 (pc' := 254) (st := []) hL hN (e_runS X (fun q h => hN q (Or.inl h)) hL.1 (c_L_scripts l G1 M22 hfl _ _ _ _ _ _ bo242.1 z174 (by first | omega | assumption | decide)) cf_L_scripts gw_1013 rfl rfl ⟨Nat.le_of_ble_eq_true rfl, Nat.le_of_ble_eq_true rfl⟩ rfl rfl (Nat.le_of_ble_eq_true rfl) ⟨by show _ ≤ 683782; omega, by show _ ≤ 7050279; omega⟩ gw_1012 dL_law_251) rfl (fun z251 M23 h251 => ?_)
              obtain ⟨hz251, hs251⟩ := h251
              have bo251 := bo242.scr hs251 ScrEq.rfl
              refine e_eqI (z' := 1) hz251 ?_
              refine e_if_eq (pc' := 257) (tgt := 261) X dL_law_254 rfl rfl (by omega) (fun h254 => absurd h254 (by decide)) (fun h254 => ?_)
              refine e_iconst (pc' := 258) X dL_law_257 rfl ?_
              refine e_goto (tgt := 262) X dL_law_258 rfl ?_
              refine e_istore_n (pc' := 263) (lc' := [(0, (Value.ref b)), (1, vR G1 (28, 0)), (2, vR G2 (28, 0)), (3, vI 1), (4, vI (t : Int)), (5, vI (k : Int)), (6, vI z174), (7, vI z193)]) X [1, 2, 3, 0, 4, 5, 6, 7] dL_law_262 rfl (by decide) rfl rfl ?_
              refine e_iload_n (pc' := 264) X 3 dL_law_263 rfl rfl rfl ?_
              refine e_if_eq (pc' := 267) (tgt := 335) X dL_law_264 rfl rfl (by omega) (fun h264 => absurd h264 (by decide)) (fun h264 => ?_)
              refine e_iload (pc' := 269) X 5 dL_law_267 rfl rfl ?_
              refine e_iconst (pc' := 270) X dL_law_269 rfl ?_
              have k4 := tmn (a := (k : Int)) (b := 4) (by omega) (by decide)
              refine e_irem (pc' := 271) X dL_law_270 (by omega) (by omega) (by omega) rfl ?_
              refine e_iconst (pc' := 272) X dL_law_271 rfl ?_
              refine e_icmp_ne (pc' := 275) (tgt := 331) X dL_law_272 rfl rfl (by omega) (by omega) (fun h272 => ?_) (fun h272 => ?_)
              · refine e_iconst (pc' := 332) X dL_law_331 rfl ?_
                refine e_goto (tgt := 336) X dL_law_332 rfl ?_
                refine e_istore_n (pc' := 337) (lc' := [(0, (Value.ref b)), (1, vR G1 (28, 0)), (2, vR G2 (28, 0)), (3, vI 1), (4, vI (t : Int)), (5, vI (k : Int)), (6, vI z174), (7, vI z193)]) X [1, 2, 3, 0, 4, 5, 6, 7] dL_law_336 rfl (by decide) rfl rfl ?_
                refine e_iinc (pc' := 340) (z' := ((k + 1 : Nat) : Int)) (lc' := [(0, (Value.ref b)), (1, vR G1 (28, 0)), (2, vR G2 (28, 0)), (3, vI 1), (4, vI (t : Int)), (5, vI ((k + 1 : Nat) : Int)), (6, vI z174), (7, vI z193)]) X 5 [1, 2, 3, 4, 5, 0, 6, 7] dL_law_337 rfl (by omega) (by decide) rfl rfl ?_
                refine e_goto (tgt := 149) X dL_law_340 rfl ?_
                refine e_sub (lc' := [(0, (Value.ref b)), (1, vR G1 (28, 0)), (2, vR G2 (28, 0)), (3, vI 1), (4, vI (t : Int)), (5, vI ((k + 1 : Nat) : Int))]) [0, 1, 2, 3, 4, 5] rfl ?_
                refine e_widen (k' := 1500 + 20000 * t + 1000 + 1700 * (k + 1)) (n' := 6 * (1500 + 20000 * t + 1000 + 1700 * (k + 1))) (by omega) (by omega) ?_
                exact ih149 (k + 1) M23 W20 (by omega) (by omega) ⟨_, _, _, bo251.up (by omega) (by omega)⟩
              · refine e_aload_n (pc' := 276) X 1 dL_law_275 rfl rfl rfl ?_
                refine e_iconst (pc' := 277) X dL_law_276 rfl ?_
                refine e_call1 (pc' := 280) (st := []) hL hN (e_runSH X (fun q h => hN q (Or.inl h)) hL.1 (c_L_trySave l G1 M23 hfl 0 (by first | omega | assumption | decide)) cf_L_trySave gw_549 rfl rfl ⟨Nat.le_of_ble_eq_true rfl, Nat.le_of_ble_eq_true rfl⟩ rfl rfl (Nat.le_of_ble_eq_true rfl) ⟨by show _ ≤ 683782; omega, by show _ ≤ 7050279; omega⟩ gw_548 dL_law_277) rfl (fun z277 M24 h277 => ?_)
                rcases h277 with h277 | h277
                rotate_left 1
                · exfalso
                  exact h277.2.1 (by decide)
                have hs277 : SaveP M23 M24 0 z277 := h277.2
                refine e_aload_n (pc' := 281) X 2 dL_law_280 rfl rfl rfl ?_
                refine e_iconst (pc' := 282) X dL_law_281 rfl ?_
                refine e_call2 (pc' := 285) (st := [vI z277]) hL hN (e_runSH X2 (fun q h => hN q (Or.inr h)) hL.2.1 (c_L_trySave l G2 W20 hfl 0 (by first | omega | assumption | decide)) cf_L_trySave gw_549 rfl rfl ⟨Nat.le_of_ble_eq_true rfl, Nat.le_of_ble_eq_true rfl⟩ rfl rfl (Nat.le_of_ble_eq_true rfl) ⟨by show _ ≤ 683782; omega, by show _ ≤ 7050279; omega⟩ gw_548 dL_law_282) rfl (fun z282 W25 h282 => ?_)
                rcases h282 with h282 | h282
                rotate_left 1
                · exfalso
                  exact h282.2.1 (by decide)
                have hs282 : SaveP W20 W25 0 z282 := h282.2
                obtain ⟨ez282, bo282, sl282⟩ := bo251.save (by decide) hs277 hs282
                refine e_icmp_neE (pc' := 288) (tgt := 335) X dL_law_285 rfl rfl ez282 ?_
                refine e_aload_n (pc' := 289) X 1 dL_law_288 rfl rfl rfl ?_
                refine e_iload (pc' := 291) X 7 dL_law_289 rfl rfl ?_
                refine e_callP (pc' := 294) (st := []) hL hNB hBD (e_runP X hL hNB hBs (c_L_stepped l G1 M24 hfl _ _ _ _ _ _ bo282.1 B hGB (by omega) z193 (by first | omega | assumption | decide)) cf_L_stepped gw_1001 rfl rfl ⟨Nat.le_of_ble_eq_true rfl, Nat.le_of_ble_eq_true rfl⟩ rfl rfl (Nat.le_of_ble_eq_true rfl) ⟨by show _ ≤ 683782; omega, by show _ ≤ 7050279; omega⟩ gw_1000 dL_law_291) rfl (fun z291 M26 h291 => ?_)
                obtain ⟨hz291, fr291, nq, cq, lo291⟩ := h291
                refine e_eqI (z' := 1) hz291 ?_
                refine e_if_eq (pc' := 297) (tgt := 335) X dL_law_294 rfl rfl (by omega) (fun h294 => absurd h294 (by decide)) (fun h294 => ?_)
                refine e_aload_n (pc' := 298) X 1 dL_law_297 rfl rfl rfl ?_
                refine e_iconst (pc' := 299) X dL_law_298 rfl ?_
                refine e_call1 (pc' := 302) (st := []) hL hN (e_runSH X (fun q h => hN q (Or.inl h)) hL.1 (c_L_tryRestore l G1 M26 hfl 0 (by first | omega | assumption | decide) lo291.sl) cf_L_tryRestore gw_558 rfl rfl ⟨Nat.le_of_ble_eq_true rfl, Nat.le_of_ble_eq_true rfl⟩ rfl rfl (Nat.le_of_ble_eq_true rfl) ⟨by show _ ≤ 683782; omega, by show _ ≤ 7050279; omega⟩ gw_557 dL_law_299) rfl (fun z299 M27 h299 => ?_)
                have hr299 : RestP M26 M27 0 z299 := by
                  rcases h299 with q | q | q
                  · exact Or.inl ⟨q.2.1, q.2.2.1, q.2.2.2.1, q.2.2.2.2.1, q.2.2.2.2.2.1, q.2.2.2.2.2.2⟩
                  · exfalso; have hd := q.2.1; omega
                  · exact Or.inr ⟨q.2.1.2, q.1, q.2.2⟩
                have hz299 := bo282.rz sl282 fr291 hr299
                refine e_if_lt (pc' := 305) (tgt := 335) X dL_law_302 rfl rfl (by omega) (fun h302 => by exfalso; omega) (fun h302 => ?_)
                refine e_aload_n (pc' := 306) X 2 dL_law_305 rfl rfl rfl ?_
                refine e_iconst (pc' := 307) X dL_law_306 rfl ?_
                refine e_call2 (pc' := 310) (st := []) hL hN (e_runSH X2 (fun q h => hN q (Or.inr h)) hL.2.1 (c_L_tryRestore l G2 W25 hfl 0 (by first | omega | assumption | decide) bo282.2.1.sl) cf_L_tryRestore gw_558 rfl rfl ⟨Nat.le_of_ble_eq_true rfl, Nat.le_of_ble_eq_true rfl⟩ rfl rfl (Nat.le_of_ble_eq_true rfl) ⟨by show _ ≤ 683782; omega, by show _ ≤ 7050279; omega⟩ gw_557 dL_law_307) rfl (fun z307 W28 h307 => ?_)
                have hr307 : RestP W25 W28 0 z307 := by
                  rcases h307 with q | q | q
                  · exact Or.inl ⟨q.2.1, q.2.2.1, q.2.2.2.1, q.2.2.2.2.1, q.2.2.2.2.2.1, q.2.2.2.2.2.2⟩
                  · exfalso; have hd := q.2.1; omega
                  · exact Or.inr ⟨q.2.1.2, q.1, q.2.2⟩
                obtain ⟨hz307, bo307⟩ := bo282.back sl282 lo291 fr291 hr299 hr307 (by omega) (by omega)
                refine e_if_lt (pc' := 313) (tgt := 335) X dL_law_310 rfl rfl (by omega) (fun h310 => by exfalso; omega) (fun h310 => ?_)
                refine e_aload_n (pc' := 314) X 1 dL_law_313 rfl rfl rfl ?_
                refine e_call1 (pc' := 317) (st := []) hL hN (e_runSH X (fun q h => hN q (Or.inl h)) hL.1 (c_L_tryUndo l G1 M27 hfl _ _ _ bo307.1.ck (by have := bo307.1.t; omega) _ _ bo307.1.nxe bo307.1.nx14 bo307.1.cte bo307.1.ct14) cf_L_tryUndo gw_505 rfl rfl ⟨Nat.le_of_ble_eq_true rfl, Nat.le_of_ble_eq_true rfl⟩ rfl rfl (Nat.le_of_ble_eq_true rfl) ⟨by show _ ≤ 683782; omega, by show _ ≤ 7050279; omega⟩ gw_504 dL_law_314) rfl (fun z314 M29 h314 => ?_)
                rcases h314 with h314 | h314
                · exfalso
                  exact absurd h314.1 (by decide)
                obtain ⟨hz314, -, hs314⟩ := h314
                have bo314 := bo307.scr hs314 ScrEq.rfl
                refine e_eqI (z' := (-1003)) hz314 ?_
                refine e_sipush (pc' := 320) X dL_law_317 rfl rfl ?_
                refine e_icmp_ne (pc' := 323) (tgt := 335) X dL_law_320 rfl rfl (by omega) (by omega) (fun h320 => absurd h320 (by decide)) (fun h320 => ?_)
                refine e_aload_n (pc' := 324) X 1 dL_law_323 rfl rfl rfl ?_
                refine e_aload_n (pc' := 325) X 2 dL_law_324 rfl rfl rfl ?_
                refine e_callD (pc' := 328) (st := []) hN (e_runD X hL hN (c_L_alike l G1 G2 M29 W28 hfl _ _ _ _ _ _ _ _ _ bo314.1 bo314.2.1 bo314.2.2.1) cf_L_alike gw_678 rfl rfl ⟨Nat.le_of_ble_eq_true rfl, Nat.le_of_ble_eq_true rfl⟩ rfl rfl (Nat.le_of_ble_eq_true rfl) ⟨by show _ ≤ 683782; omega, by show _ ≤ 7050279; omega⟩ gw_677 dL_law_325) rfl (fun z325 M30 W31 h325 => ?_)
                obtain ⟨hz325, hs325, ht325⟩ := h325
                have bo325 := bo314.scr hs325 ht325
                refine e_eqI (z' := 1) hz325 ?_
                refine e_if_eq (pc' := 331) (tgt := 335) X dL_law_328 rfl rfl (by omega) (fun h328 => absurd h328 (by decide)) (fun h328 => ?_)
                refine e_iconst (pc' := 332) X dL_law_331 rfl ?_
                refine e_goto (tgt := 336) X dL_law_332 rfl ?_
                refine e_istore_n (pc' := 337) (lc' := [(0, (Value.ref b)), (1, vR G1 (28, 0)), (2, vR G2 (28, 0)), (3, vI 1), (4, vI (t : Int)), (5, vI (k : Int)), (6, vI z174), (7, vI z193)]) X [1, 2, 3, 0, 4, 5, 6, 7] dL_law_336 rfl (by decide) rfl rfl ?_
                refine e_iinc (pc' := 340) (z' := ((k + 1 : Nat) : Int)) (lc' := [(0, (Value.ref b)), (1, vR G1 (28, 0)), (2, vR G2 (28, 0)), (3, vI 1), (4, vI (t : Int)), (5, vI ((k + 1 : Nat) : Int)), (6, vI z174), (7, vI z193)]) X 5 [1, 2, 3, 4, 5, 0, 6, 7] dL_law_337 rfl (by omega) (by decide) rfl rfl ?_
                refine e_goto (tgt := 149) X dL_law_340 rfl ?_
                refine e_sub (lc' := [(0, (Value.ref b)), (1, vR G1 (28, 0)), (2, vR G2 (28, 0)), (3, vI 1), (4, vI (t : Int)), (5, vI ((k + 1 : Nat) : Int))]) [0, 1, 2, 3, 4, 5] rfl ?_
                refine e_widen (k' := 1500 + 20000 * t + 1000 + 1700 * (k + 1)) (n' := 6 * (1500 + 20000 * t + 1000 + 1700 * (k + 1))) (by omega) (by omega) ?_
                exact ih149 (k + 1) M30 W31 (by omega) (by omega) ⟨_, _, _, bo325.up (by omega) (by omega)⟩
        refine e_widen (k' := 1500 + 20000 * t + 1000 + 1700 * 0) (n' := 6 * (1500 + 20000 * t + 1000 + 1700 * 0)) (by omega) (by omega) ?_
        exact L149 ((9 - 0) + 1) 0 M15 W14 (Nat.lt_succ_self _) (by omega) ⟨_, _, _, bo134.up (by omega) (by omega)⟩
  refine e_widen (k' := 1500 + 20000 * 0) (n' := 6 * (1500 + 20000 * 0)) (by omega) (by omega) ?_
  exact L94 ((2 - 0) + 1) 0 M9 W7 (Nat.lt_succ_self _) (by omega) ⟨_, _, _, _, _, _, _, bo79⟩
set_option maxHeartbeats 4000000 in
set_option maxRecDepth 100000 in
/-- THE LAW, from its entry -/
theorem whole_start {p : Program} {e : Env} {s : State} {m : MethodId} {below : List Frame} {meth : Method} {c : Code} (l : Launch) (hflags : l.flags = flags0) {b L : Nat} {xs : Nat → Int32} (hL : L ≤ 260) (C0 : lw_At p s m meth c b L xs) : W p l e room_1 s m #[Value.ref b] below meth c s.heap [] 0 0 (lw_Z below #[Value.ref b] s) (entryFrame m ([Value.ref b] : List Value).toArray 8) := by
  obtain ⟨hx, hb, hr, hml, hown, hts, hX, hbl, hlocks, hgv⟩ := id C0
  have hfl : l.stackTraces = false := hfl_of hflags
  obtain ⟨cl, va, hSt, hcN⟩ := w_begin hts hgv
  obtain ⟨h, hh⟩ : ∃ h, h = s.heap.size := ⟨_, rfl⟩
  rw [← hh] at hSt hcN
  have hgw : ∀ w ∈ GW, w.before #[Value.ref b] s = true := fun w hw => hts w (List.mem_filter.mp hw).1
  have X : wX p s m #[Value.ref b] meth c (oG cl va h (fun q => h ≤ q)) 8 "StateObserverLaw" cL_law := ⟨hx, hb, hml, hown, hgw, hSt, oG_lay cl va h _ (fun q h1 _ => h1), trivial, hlocks⟩
  have hl := lv_entry ([.ref b]) (n := 8) (Nat.le_of_ble_eq_true rfl)
  rw [lg_entry_eq]
  generalize (lg_sl ([.ref b]) ++ List.replicate (8 - (lg_sl ([.ref b])).length) Slot.unset).toArray = ls at hl ⊢
  have hl : lv_has ls 8 [(0, .ref b)] := hl
  have hb0 : ∀ q, h ≤ q → (oG cl va h (fun q => h ≤ q)).2.2.2 q := fun q hq => hq
  have K : cV p l e room_1 s m #[Value.ref b] below meth c (oG cl va h (fun q => h ≤ q)) 8 h 0 (fun _ => .inl (8, [(.null : Value), (.null : Value), (.null : Value), (.null : Value), (.null : Value), (.null : Value), (.null : Value), (.null : Value), (.null : Value)])) s.heap 0 0 (lw_Z below #[Value.ref b] s) 0 [(0, .ref b)] [] := by
    refine cr_new (ci := 8) (N := 9) (C := RX8) (Tc := TX8) (fs := [(.null : Value), (.null : Value), (.null : Value), (.null : Value), (.null : Value), (.null : Value), (.null : Value), (.null : Value), (.null : Value)]) (pc' := 3) X tyX8 tyX8_ok rfl inW8 (fun j hj => by rcases (show j = 0 ∨ j = 1 ∨ j = 2 ∨ j = 3 ∨ j = 4 ∨ j = 5 ∨ j = 6 ∨ j = 7 ∨ j = 8 by omega) with rfl | rfl | rfl | rfl | rfl | rfl | rfl | rfl | rfl <;> rfl) gw_18 gw_19 gw_1 (Nat.le_of_ble_eq_true rfl) (Nat.le_of_ble_eq_true rfl) dL_law_0 rfl ?_
    refine cr_dup (pc' := 4) X dL_law_3 rfl rfl ?_
    refine cr_init (nn := 0) (n2 := 324) (pc' := 7) X hcN hb0 (fun H => c_X8_init l _ (h + 0) H) cf_X8_init rfl gw_21 rfl rfl ⟨(Nat.le_of_ble_eq_true rfl), (Nat.le_of_ble_eq_true rfl)⟩ (Nat.le_of_ble_eq_true rfl) ⟨(Nat.le_of_ble_eq_true rfl), (Nat.le_of_ble_eq_true rfl)⟩ gw_20 dL_law_4 rfl ?_
    refine cr_astore_n (pc' := 8) (lc' := [(0, .ref b), (1, .ref (h + 0))]) X [1, 0] dL_law_7 rfl (by decide) rfl rfl ?_
    refine cr_new (ci := 8) (N := 9) (C := RX8) (Tc := TX8) (fs := [(.null : Value), (.null : Value), (.null : Value), (.null : Value), (.null : Value), (.null : Value), (.null : Value), (.null : Value), (.null : Value)]) (pc' := 11) X tyX8 tyX8_ok rfl inW8 (fun j hj => by rcases (show j = 0 ∨ j = 1 ∨ j = 2 ∨ j = 3 ∨ j = 4 ∨ j = 5 ∨ j = 6 ∨ j = 7 ∨ j = 8 by omega) with rfl | rfl | rfl | rfl | rfl | rfl | rfl | rfl | rfl <;> rfl) gw_18 gw_19 gw_1 (Nat.le_of_ble_eq_true rfl) (Nat.le_of_ble_eq_true rfl) dL_law_8 rfl ?_
    refine cr_dup (pc' := 12) X dL_law_11 rfl rfl ?_
    refine cr_init (nn := 0 + 324) (n2 := 324) (pc' := 15) X hcN (fun q hq => by show h ≤ q; omega) (fun H => c_X8_init l _ (h + (0 + 324)) H) cf_X8_init rfl gw_21 rfl rfl ⟨(Nat.le_of_ble_eq_true rfl), (Nat.le_of_ble_eq_true rfl)⟩ (Nat.le_of_ble_eq_true rfl) ⟨(Nat.le_of_ble_eq_true rfl), (Nat.le_of_ble_eq_true rfl)⟩ gw_20 dL_law_12 rfl ?_
    refine cr_astore_n (pc' := 16) (lc' := [(0, .ref b), (1, .ref (h + 0)), (2, .ref (h + (0 + 324)))]) X [1, 2, 0] dL_law_15 rfl (by decide) rfl rfl ?_
    intro H locs ls hW hS hl
    obtain ⟨hz, hc, -⟩ := hW
    have w1 : wW (oG cl va h (fun q => h ≤ q ∧ q < h + 324)) M0 H := w_start fun i hi => by
      have hq := hc i (by omega)
      rw [t_one hi] at hq
      exact hq.move rfl rfl
    have w2 : wW (oG cl va (h + 324) (fun q => h + 324 ≤ q ∧ q < h + 648)) M0 H := w_start fun i hi => by
      have hq := hc (324 + i) (by omega)
      rw [t_two, show h + (324 + i) = h + 324 + i by omega] at hq
      exact hq.move rfl rfl
    have hB : ∀ (M V : wM) (H : Heap), dF (oG cl va h (fun q => h ≤ q ∧ q < h + 324)) (oG cl va (h + 324) (fun q => h + 324 ≤ q ∧ q < h + 648)) M V H → h + 648 ≤ H.size := fun M V H hd => by
      have h9 : (h + 324) + 323 < H.size := hd.2.lt (o := 28) (j := 1) k28_1
      omega
    have hD : dL (oG cl va h (fun q => h ≤ q ∧ q < h + 324)) (oG cl va (h + 324) (fun q => h + 324 ≤ q ∧ q < h + 648)) := ⟨oG_lay _ _ _ _ (fun q h1 h2 => ⟨h1, h2⟩), oG_lay _ _ _ _ (fun q h1 h2 => ⟨h1, by omega⟩), fun q h1 h2 => by have h1 : h ≤ q ∧ q < h + 324 := h1; have h2 : h + 324 ≤ q ∧ q < h + 648 := h2; omega, rfl, rfl⟩
    have hN : ∀ q, dA (oG cl va h (fun q => h ≤ q ∧ q < h + 324)) (oG cl va (h + 324) (fun q => h + 324 ≤ q ∧ q < h + 648)) q → h ≤ q := fun q hq => by
      rcases hq with hq | hq
      · exact (show h ≤ q ∧ q < h + 324 from hq).1
      · have hq : h + 324 ≤ q ∧ q < h + 648 := hq
        omega
    have X1 : wX p s m #[Value.ref b] meth c (gA (oG cl va h (fun q => h ≤ q ∧ q < h + 324)) (fun q => h ≤ q)) 8 "StateObserverLaw" cL_law := X
    have K2 := law_walk (e := e) (below := below) (B := h + 648) hfl X1 hD hN (fun q hq => by
      rcases hq with hq | hq
      · exact (show h ≤ q ∧ q < h + 324 from hq).1
      · show h ≤ q
        omega) (fun q hq => by have hq : h ≤ q ∧ q < h + 324 := hq; omega) (fun q hq => by have hq : h + 324 ≤ q ∧ q < h + 648 := hq; omega) hB (fun q hq => by rw [← hh]; exact hq) hX hbl (fun q => by have q : h ≤ b := q; omega) hL hr
    have K3 := K2 H locs ls ⟨w1, w2⟩ hS hl
    exact W.widen (k := 648) (n := 3888) (Nat.le_of_ble_eq_true rfl) (Nat.le_of_ble_eq_true rfl) K3
  exact K s.heap [] ls ⟨by rw [hh]; rfl, fun i hi => absurd hi (Nat.not_lt_zero i), fun _ _ => rfl⟩ va_S.rf hl
