theorem cf_X9_residue : wCal yX9_residue cX9_residue 4 (some .long) 1 := ⟨gw_1313, gw_10, by decide, by decide, by rfl⟩
set_option maxRecDepth 100000 in
set_option maxHeartbeats 4000000 in
theorem c_X9_residue (l : Launch) (G : wG) (M : wM) (a : Int) (ha : -4611686018427387904 ≤ a ∧ a ≤ 4611686018427387904) : Met l yX9_residue (gws yX9_residue cX9_residue 4 (some .long)) (wrm 0 0 0) (wPc G M [vJ a]) (wQj G (fun z M1 => z = a % 1000003 ∧ M1 = M)) 0 0 (wA G) := by
  refine wMet (lc := [(0, vJ a)]) (by decide) (Nat.le_of_ble_eq_true rfl) rfl ?_
  intro p e s m args below meth c X hr
  have X : wX p s m args meth c G 4 "StateObserverModel" cX9_residue := X
  have hq2 := tmod_bd (a := a) (b := 1000003) (by omega)
  have hro := res_of (a := a) rfl
  refine r_lload_n (pc' := 1) X 0 dX9_residue_0 rfl rfl rfl ?_
  refine r_ldc2 (pc' := 4) (z := 1000003) X gw_1314 dX9_residue_1 rfl rfl ?_
  refine r_lrem (pc' := 5) X dX9_residue_4 (by omega) (by omega) (by omega) rfl ?_
  refine r_lstore_n (pc' := 6) (lc' := [(0, vJ a), (2, vJ (a.tmod 1000003))]) X [1, 0] dX9_residue_5 rfl (by decide) rfl rfl ?_
  refine r_lload_n (pc' := 7) X 1 dX9_residue_6 rfl rfl rfl ?_
  refine r_lconst (pc' := 8) (z := 0) X dX9_residue_7 rfl rfl ?_
  refine r_lcmp (pc' := 9) X dX9_residue_8 (by omega) (by omega) rfl (fun z8 z8r z8l z8e z8g => ?_)
  refine r_if_ge (pc' := 12) (tgt := 20) X dX9_residue_9 rfl rfl (by omega) (fun h9 => ?_) (fun h9 => ?_)
  · refine r_lload_n (pc' := 21) X 1 dX9_residue_20 rfl rfl rfl ?_
    refine w_lret X hr dX9_residue_21 ?_
    try dsimp only
    refine ⟨?_, rfl⟩
    rw [← hro]
    first | rw [if_pos (by omega)] | rw [if_neg (by omega)]
  · refine r_lload_n (pc' := 13) X 1 dX9_residue_12 rfl rfl rfl ?_
    refine r_ldc2 (pc' := 16) (z := 1000003) X gw_1314 dX9_residue_13 rfl rfl ?_
    refine r_ladd (pc' := 17) X dX9_residue_16 rfl ?_
    refine r_goto (tgt := 21) X dX9_residue_17 rfl ?_
    refine w_lret X hr dX9_residue_21 ?_
    try dsimp only
    refine ⟨?_, rfl⟩
    rw [← hro]
    first | rw [if_pos (by omega)] | rw [if_neg (by omega)]
theorem cf_X9_inverse : wCal yX9_inverse cX9_inverse 8 (some .long) 1 := ⟨gw_1324, gw_10, by decide, by decide, by rfl⟩
set_option maxRecDepth 100000 in
set_option maxHeartbeats 4000000 in
theorem c_X9_inverse (l : Launch) (G : wG) (M : wM) (v : Int) (hv : 0 ≤ v ∧ v < 1000003) : Met l yX9_inverse (gws yX9_inverse cX9_inverse 8 (some .long)) (wrm 0 0 0) (wPc G M [vJ v]) (wQj G (fun z M1 => (0 ≤ z ∧ z < 1000003) ∧ (¬ Z0 v → Z0 (v * z - 1)) ∧ M1 = M)) 0 0 (wA G) := by
  refine wMet (lc := [(0, vJ v)]) (by decide) (Nat.le_of_ble_eq_true rfl) rfl ?_
  intro p e s m args below meth c X hr
  have X : wX p s m args meth c G 8 "StateObserverModel" cX9_inverse := X
  obtain ⟨K, hK⟩ : ∃ K : Nat, K = 1000001 := ⟨_, rfl⟩
  refine r_lconst (pc' := 1) (z := 1) X dX9_inverse_0 rfl rfl ?_
  refine r_lstore_n (pc' := 2) (lc' := [(0, vJ v), (2, vJ 1)]) X [1, 0] dX9_inverse_1 rfl (by decide) rfl rfl ?_
  refine r_lload_n (pc' := 3) X 0 dX9_inverse_2 rfl rfl rfl ?_
  refine r_lstore (pc' := 5) (lc' := [(0, vJ v), (2, vJ 1), (4, vJ v)]) X [1, 2, 0] dX9_inverse_3 (by decide) rfl rfl ?_
  refine r_ldc2 (pc' := 8) (z := 1000001) X gw_1325 dX9_inverse_5 rfl rfl ?_
  refine r_lstore (pc' := 10) (lc' := [(0, vJ v), (2, vJ 1), (4, vJ v), (6, vJ 1000001)]) X [1, 2, 3, 0] dX9_inverse_8 (by decide) rfl rfl ?_
  have L10 : ∀ (fu : Nat) (rr : Int) (qq : Int) (tt : Int), Int.toNat tt < fu → (0 ≤ rr ∧ rr < 1000003) → (0 ≤ qq ∧ qq < 1000003) → (0 ≤ tt ∧ tt ≤ 1000001) → (Z0 (rr * ipw qq tt.toNat - ipw v K)) → wV p l e (wrm 0 0 0) s m args below meth c G 8 M 0 0 (MQ below (wQj G (fun z M1 => (0 ≤ z ∧ z < 1000003) ∧ (¬ Z0 v → Z0 (v * z - 1)) ∧ M1 = M)) args s 0 0 (wA G)) 10 [(0, vJ v), (2, vJ rr), (4, vJ qq), (6, vJ tt)] [] := by
    intro fu
    induction fu with
    | zero => intro rr qq tt hfu; exact absurd hfu (Nat.not_lt_zero _)
    | succ fu ih10 =>
      intro rr qq tt hfu10 hrr hqq htt hin
      refine r_lload (pc' := 12) X 3 dX9_inverse_10 rfl rfl ?_
      refine r_lconst (pc' := 13) (z := 0) X dX9_inverse_12 rfl rfl ?_
      refine r_lcmp (pc' := 14) X dX9_inverse_13 (by omega) (by omega) rfl (fun z13 z13r z13l z13e z13g => ?_)
      refine r_if_le (pc' := 17) (tgt := 63) X dX9_inverse_14 rfl rfl (by omega) (fun h14 => ?_) (fun h14 => ?_)
      · refine r_lload_n (pc' := 64) X 1 dX9_inverse_63 rfl rfl rfl ?_
        refine w_lret X hr dX9_inverse_64 ?_
        try dsimp only
        refine ⟨hrr, fun h0 => ?_, rfl⟩
        rw [show tt.toNat = 0 by omega] at hin
        have f1 := fermat_i hv.1 h0
        rw [← hK] at f1
        have f2 : Z0 (rr * 1 - ipw v K) := hin
        have f3 := (f2.mul v).add f1
        rw [Int.mul_sub, Int.mul_one, show v * rr - v * ipw v K + (v * ipw v K - 1) = v * rr - 1 by omega] at f3
        exact f3
      · obtain ⟨d1, d2, d3⟩ := td2 htt.1
        have m1 := Int.mul_nonneg hrr.1 hqq.1
        have m2 := Int.mul_nonneg hqq.1 hqq.1
        have b1 := mul_bd (A := 1000003) (B := 1000003) (a := rr) (b := qq) (by decide) (by omega) (by omega)
        have b2 := mul_bd (A := 1000003) (B := 1000003) (a := qq) (b := qq) (by decide) (by omega) (by omega)
        have t1 := tm_pos m1
        have t2 := tm_pos m2
        have hqs : Z0 ((qq * qq).tmod 1000003 - qq * qq) := by rw [t2]; exact Z0.emod _
        refine r_lload (pc' := 19) X 3 dX9_inverse_17 rfl rfl ?_
        refine r_ldc2 (pc' := 22) (z := 2) X gw_1326 dX9_inverse_19 rfl rfl ?_
        refine r_lrem (pc' := 23) X dX9_inverse_22 (by omega) (by omega) (by omega) rfl ?_
        refine r_lconst (pc' := 24) (z := 1) X dX9_inverse_23 rfl rfl ?_
        refine r_lcmp (pc' := 25) X dX9_inverse_24 (by omega) (by omega) rfl (fun z24 z24r z24l z24e z24g => ?_)
        refine r_if_ne (pc' := 28) (tgt := 39) X dX9_inverse_25 rfl rfl (by omega) (fun h25 => ?_) (fun h25 => ?_)
        · refine r_lload_n (pc' := 40) X 1 dX9_inverse_39 rfl rfl rfl ?_
          refine r_lstore_n (pc' := 41) (lc' := [(0, vJ v), (2, vJ rr), (4, vJ qq), (6, vJ tt)]) X [1, 0, 2, 3] dX9_inverse_40 rfl (by decide) rfl rfl ?_
          refine r_lload (pc' := 43) X 2 dX9_inverse_41 rfl rfl ?_
          refine r_lload (pc' := 45) X 2 dX9_inverse_43 rfl rfl ?_
          refine r_lmul (pc' := 46) X dX9_inverse_45 rfl ?_
          refine r_ldc2 (pc' := 49) (z := 1000003) X gw_1314 dX9_inverse_46 rfl rfl ?_
          refine r_lrem (pc' := 50) X dX9_inverse_49 (by omega) (by omega) (by omega) rfl ?_
          refine r_lstore (pc' := 52) (lc' := [(0, vJ v), (2, vJ rr), (4, vJ ((qq * qq).tmod 1000003)), (6, vJ tt)]) X [1, 2, 0, 3] dX9_inverse_50 (by decide) rfl rfl ?_
          refine r_lload (pc' := 54) X 3 dX9_inverse_52 rfl rfl ?_
          refine r_ldc2 (pc' := 57) (z := 2) X gw_1326 dX9_inverse_54 rfl rfl ?_
          refine r_ldiv (pc' := 58) X dX9_inverse_57 (by omega) (by omega) (by omega) rfl ?_
          refine r_lstore (pc' := 60) (lc' := [(0, vJ v), (2, vJ rr), (4, vJ ((qq * qq).tmod 1000003)), (6, vJ (tt.tdiv 2))]) X [1, 2, 3, 0] dX9_inverse_58 (by decide) rfl rfl ?_
          refine r_goto (tgt := 10) X dX9_inverse_60 rfl ?_
          exact ih10 rr ((qq * qq).tmod 1000003) (tt.tdiv 2) (by omega) (by omega) (by omega) (by omega) (by rw [d1]; exact ipw_round hin hqs (by rw [if_neg (by omega), Int.sub_self]; exact Z0.zero))
        · refine r_lload_n (pc' := 29) X 1 dX9_inverse_28 rfl rfl rfl ?_
          refine r_lload (pc' := 31) X 2 dX9_inverse_29 rfl rfl ?_
          refine r_lmul (pc' := 32) X dX9_inverse_31 rfl ?_
          refine r_ldc2 (pc' := 35) (z := 1000003) X gw_1314 dX9_inverse_32 rfl rfl ?_
          refine r_lrem (pc' := 36) X dX9_inverse_35 (by omega) (by omega) (by omega) rfl ?_
          refine r_goto (tgt := 40) X dX9_inverse_36 rfl ?_
          refine r_lstore_n (pc' := 41) (lc' := [(0, vJ v), (2, vJ ((rr * qq).tmod 1000003)), (4, vJ qq), (6, vJ tt)]) X [1, 0, 2, 3] dX9_inverse_40 rfl (by decide) rfl rfl ?_
          refine r_lload (pc' := 43) X 2 dX9_inverse_41 rfl rfl ?_
          refine r_lload (pc' := 45) X 2 dX9_inverse_43 rfl rfl ?_
          refine r_lmul (pc' := 46) X dX9_inverse_45 rfl ?_
          refine r_ldc2 (pc' := 49) (z := 1000003) X gw_1314 dX9_inverse_46 rfl rfl ?_
          refine r_lrem (pc' := 50) X dX9_inverse_49 (by omega) (by omega) (by omega) rfl ?_
          refine r_lstore (pc' := 52) (lc' := [(0, vJ v), (2, vJ ((rr * qq).tmod 1000003)), (4, vJ ((qq * qq).tmod 1000003)), (6, vJ tt)]) X [1, 2, 0, 3] dX9_inverse_50 (by decide) rfl rfl ?_
          refine r_lload (pc' := 54) X 3 dX9_inverse_52 rfl rfl ?_
          refine r_ldc2 (pc' := 57) (z := 2) X gw_1326 dX9_inverse_54 rfl rfl ?_
          refine r_ldiv (pc' := 58) X dX9_inverse_57 (by omega) (by omega) (by omega) rfl ?_
          refine r_lstore (pc' := 60) (lc' := [(0, vJ v), (2, vJ ((rr * qq).tmod 1000003)), (4, vJ ((qq * qq).tmod 1000003)), (6, vJ (tt.tdiv 2))]) X [1, 2, 3, 0] dX9_inverse_58 (by decide) rfl rfl ?_
          refine r_goto (tgt := 10) X dX9_inverse_60 rfl ?_
          exact ih10 ((rr * qq).tmod 1000003) ((qq * qq).tmod 1000003) (tt.tdiv 2) (by omega) (by omega) (by omega) (by omega) (by rw [d1]; exact ipw_round hin hqs (by rw [if_pos (by omega), t1]; exact Z0.emod _))
  exact L10 ((Int.toNat 1000001) + 1) 1 v 1000001 (Nat.lt_succ_self _) (by omega) hv (by omega) (by rw [Int.one_mul, show (1000001 : Int).toNat = K by omega, Int.sub_self]; exact Z0.zero)
theorem cf_X9_eliminate : wCal yX9_eliminate cX9_eliminate 11 (some .int) 2 := ⟨gw_1321, gw_10, by decide, by decide, by rfl⟩
set_option maxRecDepth 100000 in
set_option maxHeartbeats 4000000 in
theorem c_X9_eliminate (l : Launch) (G : wG) (M : wM) (N bb nn k : Nat) (hkd : wkd 29 bb = some (.inr (1, nn, wNr))) (hnn : nn ≤ 100000) (hk4 : 4 * k ≤ nn) (hN4 : N ≤ 4) (hR : RwOk N (M 29 bb) k) : Met l yX9_eliminate (gws yX9_eliminate cX9_eliminate 11 (some .int)) (wrm 1 0 0) (wPc G M [vR G (29, bb), vI (k : Int)]) (wQi G (fun z M1 => (∀ a b, ¬ (a = 29 ∧ b = bb) → M1 a b = M a b) ∧ ∃ y : Nat, z = (y : Int) ∧ y ≤ k ∧ RwOk N (M1 29 bb) k ∧ (∃ l, Ech N y (mr (M1 29 bb)) l) ∧ ∀ u, Sp N (rws (mr (M1 29 bb)) y) u ↔ Sp N (rws (mr (M 29 bb)) k) u)) 0 0 (wA G) := by
  refine wMet (lc := [(0, vR G (29, bb)), (1, vI (k : Int))]) (by decide) (Nat.le_of_ble_eq_true rfl) rfl ?_
  intro p e s m args below meth c X hr
  have X : wX p s m args meth c G 11 "StateObserverModel" cX9_eliminate := X
  refine r_iconst (pc' := 1) X dX9_eliminate_0 rfl ?_
  refine r_istore_n (pc' := 2) (lc' := [(0, vR G (29, bb)), (1, vI (k : Int)), (2, vI 0)]) X [1, 2, 0] dX9_eliminate_1 rfl (by decide) rfl rfl ?_
  refine r_iconst (pc' := 3) X dX9_eliminate_2 rfl ?_
  refine r_istore_n (pc' := 4) (lc' := [(0, vR G (29, bb)), (1, vI (k : Int)), (2, vI 0), (3, vI 0)]) X [1, 2, 3, 0] dX9_eliminate_3 rfl (by decide) rfl rfl ?_
  have L4 : ∀ (fu : Nat) (rk : Nat) (cc : Nat) (Ma : wM), 4 - cc < fu → (cc ≤ 4) → (rk ≤ cc ∧ rk ≤ k) → (ElOk N (Ma 29 bb) k rk cc) → (RwOk N (Ma 29 bb) k) → (∀ u, Sp N (rws (mr (Ma 29 bb)) k) u ↔ Sp N (rws (mr (M 29 bb)) k) u) → (∀ a b, ¬ (a = 29 ∧ b = bb) → Ma a b = M a b) → wV p l e (wrm 1 0 0) s m args below meth c G 11 Ma 0 0 (MQ below (wQi G (fun z M1 => (∀ a b, ¬ (a = 29 ∧ b = bb) → M1 a b = M a b) ∧ ∃ y : Nat, z = (y : Int) ∧ y ≤ k ∧ RwOk N (M1 29 bb) k ∧ (∃ l, Ech N y (mr (M1 29 bb)) l) ∧ ∀ u, Sp N (rws (mr (M1 29 bb)) y) u ↔ Sp N (rws (mr (M 29 bb)) k) u)) args s 0 0 (wA G)) 4 [(0, vR G (29, bb)), (1, vI (k : Int)), (2, vI (rk : Int)), (3, vI (cc : Int))] [] := by
    intro fu
    induction fu with
    | zero => intro rk cc Ma hfu; exact absurd hfu (Nat.not_lt_zero _)
    | succ fu ih4 =>
      intro rk cc Ma hfu4 hc4 hrc hel hrw hsp hfr
      refine r_iload_n (pc' := 5) X 3 dX9_eliminate_4 rfl rfl rfl ?_
      refine r_iconst (pc' := 6) X dX9_eliminate_5 rfl ?_
      refine r_icmp_ge (pc' := 9) (tgt := 204) X dX9_eliminate_6 rfl rfl (by omega) (by omega) (fun h6 => ?_) (fun h6 => ?_)
      · refine r_iload_n (pc' := 205) X 2 dX9_eliminate_204 rfl rfl rfl ?_
        refine w_iret X hr dX9_eliminate_205 ?_
        try dsimp only
        have hc44 : cc = 4 := by omega
        rw [hc44] at hel
        exact ⟨hfr, rk, rfl, hrc.2, hrw, hel.ech, fun u => (hel.fin hN4 u).trans (hsp u)⟩
      · refine r_iload_n (pc' := 10) X 2 dX9_eliminate_9 rfl rfl rfl ?_
        refine r_istore (pc' := 12) (lc' := [(0, vR G (29, bb)), (1, vI (k : Int)), (2, vI (rk : Int)), (3, vI (cc : Int)), (4, vI (rk : Int))]) X [1, 2, 3, 4, 0] dX9_eliminate_10 (by decide) rfl rfl ?_
        have L12 : ∀ (fu : Nat) (pp : Nat), k - pp < fu → (rk ≤ pp ∧ pp ≤ k) → (∀ r, rk ≤ r → r < pp → Ma 29 bb (4 * r + cc) = 0) → wV p l e (wrm 1 0 0) s m args below meth c G 11 Ma 0 0 (MQ below (wQi G (fun z M1 => (∀ a b, ¬ (a = 29 ∧ b = bb) → M1 a b = M a b) ∧ ∃ y : Nat, z = (y : Int) ∧ y ≤ k ∧ RwOk N (M1 29 bb) k ∧ (∃ l, Ech N y (mr (M1 29 bb)) l) ∧ ∀ u, Sp N (rws (mr (M1 29 bb)) y) u ↔ Sp N (rws (mr (M 29 bb)) k) u)) args s 0 0 (wA G)) 12 [(0, vR G (29, bb)), (1, vI (k : Int)), (2, vI (rk : Int)), (3, vI (cc : Int)), (4, vI (pp : Int))] [] := by
          intro fu
          induction fu with
          | zero => intro pp hfu; exact absurd hfu (Nat.not_lt_zero _)
          | succ fu ih12 =>
            intro pp hfu12 hpp hz
            refine r_iload (pc' := 14) X 4 dX9_eliminate_12 rfl rfl ?_
            refine r_iload_n (pc' := 15) X 1 dX9_eliminate_14 rfl rfl rfl ?_
            refine r_icmp_ge (pc' := 18) (tgt := 37) X dX9_eliminate_15 rfl rfl (by omega) (by omega) (fun h15 => ?_) (fun h15 => ?_)
            · refine r_iload (pc' := 39) X 4 dX9_eliminate_37 rfl rfl ?_
              refine r_iload_n (pc' := 40) X 1 dX9_eliminate_39 rfl rfl rfl ?_
              refine r_icmp_ge (pc' := 43) (tgt := 198) X dX9_eliminate_40 rfl rfl (by omega) (by omega) (fun h40 => ?_) (fun h40 => by exfalso; omega)
              refine r_iinc (pc' := 201) (z' := ((cc + 1 : Nat) : Int)) (lc' := [(0, vR G (29, bb)), (1, vI (k : Int)), (2, vI (rk : Int)), (3, vI ((cc + 1 : Nat) : Int)), (4, vI (pp : Int))]) X 3 [1, 2, 3, 0, 4] dX9_eliminate_198 rfl (by omega) (by decide) rfl rfl ?_
              refine r_goto (tgt := 4) X dX9_eliminate_201 rfl ?_
              refine w_sub (lc' := [(0, vR G (29, bb)), (1, vI (k : Int)), (2, vI (rk : Int)), (3, vI ((cc + 1 : Nat) : Int))]) [0, 1, 2, 3] rfl ?_
              exact ih4 rk (cc + 1) Ma (by omega) (by omega) (by omega) (hel.skip fun r w1 w2 => hz r w1 (by omega)) hrw hsp hfr
            · have hpv := (hrw pp (by omega) cc (by omega)).1
              refine r_aload_n (pc' := 19) X 0 dX9_eliminate_18 rfl rfl rfl ?_
              refine r_iconst (pc' := 20) X dX9_eliminate_19 rfl ?_
              refine r_iload (pc' := 22) X 4 dX9_eliminate_20 rfl rfl ?_
              refine r_imul (pc' := 23) X dX9_eliminate_22 rfl ?_
              refine r_iload_n (pc' := 24) X 3 dX9_eliminate_23 rfl rfl rfl ?_
              refine r_iadd (pc' := 25) X dX9_eliminate_24 rfl ?_
              refine r_lald (i := ((4 * pp) + cc)) (pc' := 26) X hkd (by omega) (by omega) (by omega) dX9_eliminate_25 rfl ?_
              refine r_lconst (pc' := 27) (z := 0) X dX9_eliminate_26 rfl rfl ?_
              refine r_lcmp (pc' := 28) X dX9_eliminate_27 (by omega) (by omega) rfl (fun z27 z27r z27l z27e z27g => ?_)
              refine r_if_ne (pc' := 31) (tgt := 37) X dX9_eliminate_28 rfl rfl (by omega) (fun h28 => ?_) (fun h28 => ?_)
              · refine r_iload (pc' := 39) X 4 dX9_eliminate_37 rfl rfl ?_
                refine r_iload_n (pc' := 40) X 1 dX9_eliminate_39 rfl rfl rfl ?_
                refine r_icmp_ge (pc' := 43) (tgt := 198) X dX9_eliminate_40 rfl rfl (by omega) (by omega) (fun h40 => by exfalso; omega) (fun h40 => ?_)
                refine r_aload_n (pc' := 44) X 0 dX9_eliminate_43 rfl rfl rfl ?_
                refine r_iconst (pc' := 45) X dX9_eliminate_44 rfl ?_
                refine r_iload (pc' := 47) X 4 dX9_eliminate_45 rfl rfl ?_
                refine r_imul (pc' := 48) X dX9_eliminate_47 rfl ?_
                refine r_iload_n (pc' := 49) X 3 dX9_eliminate_48 rfl rfl rfl ?_
                refine r_iadd (pc' := 50) X dX9_eliminate_49 rfl ?_
                refine r_lald (i := ((4 * pp) + cc)) (pc' := 51) X hkd (by omega) (by omega) (by omega) dX9_eliminate_50 rfl ?_
                have hpc := (hrw pp (by omega) cc (by omega)).1
                have hpn : Ma 29 bb (4 * pp + cc) ≠ 0 := by omega
                refine w_callj (pc' := 54) (st := []) (w_runS X (c_X9_inverse l G Ma (Ma 29 bb ((4 * pp) + cc)) hpc) cf_X9_inverse gw_1323 rfl rfl ⟨Nat.le_of_ble_eq_true rfl, Nat.le_of_ble_eq_true rfl⟩ rfl rfl (Nat.le_of_ble_eq_true rfl) ⟨Nat.le_of_ble_eq_true rfl, Nat.le_of_ble_eq_true rfl⟩ gw_1322 dX9_eliminate_51) rfl (fun z51 M1 h51 => ?_)
                obtain ⟨hzb, hzi, hzm⟩ := h51
                obtain rfl := hzm.symm
                refine r_lstore (pc' := 56) (lc' := [(0, vR G (29, bb)), (1, vI (k : Int)), (2, vI (rk : Int)), (3, vI (cc : Int)), (4, vI (pp : Int)), (5, vJ z51)]) X [1, 2, 3, 4, 5, 0] dX9_eliminate_54 (by decide) rfl rfl ?_
                refine r_iconst (pc' := 57) X dX9_eliminate_56 rfl ?_
                refine r_istore (pc' := 59) (lc' := [(0, vR G (29, bb)), (1, vI (k : Int)), (2, vI (rk : Int)), (3, vI (cc : Int)), (4, vI (pp : Int)), (5, vJ z51), (7, vI 0)]) X [1, 2, 3, 4, 5, 6, 0] dX9_eliminate_57 (by decide) rfl rfl ?_
                have L59 : ∀ (fu : Nat) (i : Nat) (Mb : wM), 4 - i < fu → (i ≤ 4) → (∀ a b, ¬ (a = 29 ∧ b = bb) → Mb a b = Ma a b) → (∀ r j, j < 4 → Mb 29 bb (4 * r + j) = if j < i then (if r = rk then Ma 29 bb (4 * pp + j) * z51 % 1000003 else if r = pp then Ma 29 bb (4 * rk + j) else Ma 29 bb (4 * r + j)) else Ma 29 bb (4 * r + j)) → wV p l e (wrm 1 0 0) s m args below meth c G 11 Mb 0 0 (MQ below (wQi G (fun z M1 => (∀ a b, ¬ (a = 29 ∧ b = bb) → M1 a b = M a b) ∧ ∃ y : Nat, z = (y : Int) ∧ y ≤ k ∧ RwOk N (M1 29 bb) k ∧ (∃ l, Ech N y (mr (M1 29 bb)) l) ∧ ∀ u, Sp N (rws (mr (M1 29 bb)) y) u ↔ Sp N (rws (mr (M 29 bb)) k) u)) args s 0 0 (wA G)) 59 [(0, vR G (29, bb)), (1, vI (k : Int)), (2, vI (rk : Int)), (3, vI (cc : Int)), (4, vI (pp : Int)), (5, vJ z51), (7, vI (i : Int))] [] := by
                  intro fu
                  induction fu with
                  | zero => intro i Mb hfu; exact absurd hfu (Nat.not_lt_zero _)
                  | succ fu ih59 =>
                    intro i Mb hfu59 hi4 hfb hsw
                    refine r_iload (pc' := 61) X 6 dX9_eliminate_59 rfl rfl ?_
                    refine r_iconst (pc' := 62) X dX9_eliminate_61 rfl ?_
                    refine r_icmp_ge (pc' := 65) (tgt := 116) X dX9_eliminate_62 rfl rfl (by omega) (by omega) (fun h62 => ?_) (fun h62 => ?_)
                    · have hs4 : ∀ r j, j < 4 → Mb 29 bb (4 * r + j) = if r = rk then Ma 29 bb (4 * pp + j) * z51 % 1000003 else if r = pp then Ma 29 bb (4 * rk + j) else Ma 29 bb (4 * r + j) := fun r j w1 => by rw [hsw r j w1, if_pos (by omega)]
                      have hB4 : ∀ r j, r < k → j < 4 → 0 ≤ Mb 29 bb (4 * r + j) ∧ Mb 29 bb (4 * r + j) < 1000003 := fun r j w1 w2 => by
                        rw [hs4 r j w2]
                        split
                        · omega
                        · split
                          · exact (hrw rk (by omega) j w2).1
                          · exact (hrw r w1 j w2).1
                      refine r_iconst (pc' := 117) X dX9_eliminate_116 rfl ?_
                      refine r_istore (pc' := 119) (lc' := [(0, vR G (29, bb)), (1, vI (k : Int)), (2, vI (rk : Int)), (3, vI (cc : Int)), (4, vI (pp : Int)), (5, vJ z51), (7, vI 0)]) X [1, 2, 3, 4, 5, 6, 0] dX9_eliminate_117 (by decide) rfl rfl ?_
                      have L119 : ∀ (fu : Nat) (y : Nat) (Mc : wM), k - y < fu → (y ≤ k) → (∀ a b, ¬ (a = 29 ∧ b = bb) → Mc a b = Mb a b) → (∀ r, r < y → r ≠ rk → ∀ j, j < 4 → Mc 29 bb (4 * r + j) = (Mb 29 bb (4 * r + j) - Mb 29 bb (4 * r + cc) * Mb 29 bb (4 * rk + j)) % 1000003) → (∀ r, r = rk ∨ y ≤ r → ∀ j, j < 4 → Mc 29 bb (4 * r + j) = Mb 29 bb (4 * r + j)) → wV p l e (wrm 1 0 0) s m args below meth c G 11 Mc 0 0 (MQ below (wQi G (fun z M1 => (∀ a b, ¬ (a = 29 ∧ b = bb) → M1 a b = M a b) ∧ ∃ y : Nat, z = (y : Int) ∧ y ≤ k ∧ RwOk N (M1 29 bb) k ∧ (∃ l, Ech N y (mr (M1 29 bb)) l) ∧ ∀ u, Sp N (rws (mr (M1 29 bb)) y) u ↔ Sp N (rws (mr (M 29 bb)) k) u)) args s 0 0 (wA G)) 119 [(0, vR G (29, bb)), (1, vI (k : Int)), (2, vI (rk : Int)), (3, vI (cc : Int)), (4, vI (pp : Int)), (5, vJ z51), (7, vI (y : Int))] [] := by
                        intro fu
                        induction fu with
                        | zero => intro y Mc hfu; exact absurd hfu (Nat.not_lt_zero _)
                        | succ fu ih119 =>
                          intro y Mc hfu119 hy hfc hdn hre
                          refine r_iload (pc' := 121) X 6 dX9_eliminate_119 rfl rfl ?_
                          refine r_iload_n (pc' := 122) X 1 dX9_eliminate_121 rfl rfl rfl ?_
                          refine r_icmp_ge (pc' := 125) (tgt := 195) X dX9_eliminate_122 rfl rfl (by omega) (by omega) (fun h122 => ?_) (fun h122 => ?_)
                          · have hyk : y = k := by omega
                            have hst := el_step (f := Ma 29 bb) (g := Mc 29 bb) (k := k) (rk := rk) (c := cc) (p := pp) (v := z51) hN4 (by omega) hrw hel (by omega) hz hpn (hzi fun w1 => hpn (by unfold Z0 at w1; omega)) (fun j w1 => by
                              rw [hre rk (Or.inl rfl) j w1, hs4 rk j w1, if_pos rfl]) (fun r w1 w2 j w3 => by
                              rw [hdn r (by omega) w2 j w3, hre rk (Or.inl rfl) j w3, hs4 r j w3, hs4 r cc (by omega), if_neg w2, if_neg w2]
                              by_cases e1 : r = pp
                              · rw [if_pos e1, if_pos e1, if_pos e1]
                              · rw [if_neg e1, if_neg e1, if_neg e1])
                            refine r_iinc (pc' := 198) (z' := ((rk + 1 : Nat) : Int)) (lc' := [(0, vR G (29, bb)), (1, vI (k : Int)), (2, vI ((rk + 1 : Nat) : Int)), (3, vI (cc : Int)), (4, vI (pp : Int)), (5, vJ z51), (7, vI (y : Int))]) X 2 [1, 2, 0, 3, 4, 5, 6] dX9_eliminate_195 rfl (by omega) (by decide) rfl rfl ?_
                            refine r_iinc (pc' := 201) (z' := ((cc + 1 : Nat) : Int)) (lc' := [(0, vR G (29, bb)), (1, vI (k : Int)), (2, vI ((rk + 1 : Nat) : Int)), (3, vI ((cc + 1 : Nat) : Int)), (4, vI (pp : Int)), (5, vJ z51), (7, vI (y : Int))]) X 3 [1, 2, 3, 0, 4, 5, 6] dX9_eliminate_198 rfl (by omega) (by decide) rfl rfl ?_
                            refine r_goto (tgt := 4) X dX9_eliminate_201 rfl ?_
                            refine w_sub (lc' := [(0, vR G (29, bb)), (1, vI (k : Int)), (2, vI ((rk + 1 : Nat) : Int)), (3, vI ((cc + 1 : Nat) : Int))]) [0, 1, 2, 3] rfl ?_
                            exact ih4 (rk + 1) (cc + 1) Mc (by omega) (by omega) (by omega) hst.2.1 hst.1 (fun u => (hst.2.2 u).trans (hsp u)) (fun a b w1 => by rw [hfc a b w1, hfb a b w1]; exact hfr a b w1)
                          · refine r_aload_n (pc' := 126) X 0 dX9_eliminate_125 rfl rfl rfl ?_
                            refine r_iconst (pc' := 127) X dX9_eliminate_126 rfl ?_
                            refine r_iload (pc' := 129) X 6 dX9_eliminate_127 rfl rfl ?_
                            refine r_imul (pc' := 130) X dX9_eliminate_129 rfl ?_
                            refine r_iload_n (pc' := 131) X 3 dX9_eliminate_130 rfl rfl rfl ?_
                            refine r_iadd (pc' := 132) X dX9_eliminate_131 rfl ?_
                            refine r_lald (i := ((4 * y) + cc)) (pc' := 133) X hkd (by omega) (by omega) (by omega) dX9_eliminate_132 rfl ?_
                            refine r_lstore (pc' := 135) (lc' := [(0, vR G (29, bb)), (1, vI (k : Int)), (2, vI (rk : Int)), (3, vI (cc : Int)), (4, vI (pp : Int)), (5, vJ z51), (7, vI (y : Int)), (8, vJ (Mc 29 bb ((4 * y) + cc)))]) X [1, 2, 3, 4, 5, 6, 7, 0] dX9_eliminate_133 (by decide) rfl rfl ?_
                            refine r_iconst (pc' := 136) X dX9_eliminate_135 rfl ?_
                            refine r_istore (pc' := 138) (lc' := [(0, vR G (29, bb)), (1, vI (k : Int)), (2, vI (rk : Int)), (3, vI (cc : Int)), (4, vI (pp : Int)), (5, vJ z51), (7, vI (y : Int)), (8, vJ (Mc 29 bb ((4 * y) + cc))), (10, vI 0)]) X [1, 2, 3, 4, 5, 6, 7, 8, 0] dX9_eliminate_136 (by decide) rfl rfl ?_
                            have L138 : ∀ (fu : Nat) (x : Nat) (Md : wM), 4 - x < fu → (x ≤ 4) → (0 < x → y ≠ rk) → (∀ a b, ¬ (a = 29 ∧ b = bb) → Md a b = Mc a b) → (∀ r j, j < 4 → Md 29 bb (4 * r + j) = if r = y ∧ j < x then (Mb 29 bb (4 * y + j) - Mb 29 bb (4 * y + cc) * Mb 29 bb (4 * rk + j)) % 1000003 else Mc 29 bb (4 * r + j)) → wV p l e (wrm 1 0 0) s m args below meth c G 11 Md 0 0 (MQ below (wQi G (fun z M1 => (∀ a b, ¬ (a = 29 ∧ b = bb) → M1 a b = M a b) ∧ ∃ y : Nat, z = (y : Int) ∧ y ≤ k ∧ RwOk N (M1 29 bb) k ∧ (∃ l, Ech N y (mr (M1 29 bb)) l) ∧ ∀ u, Sp N (rws (mr (M1 29 bb)) y) u ↔ Sp N (rws (mr (M 29 bb)) k) u)) args s 0 0 (wA G)) 138 [(0, vR G (29, bb)), (1, vI (k : Int)), (2, vI (rk : Int)), (3, vI (cc : Int)), (4, vI (pp : Int)), (5, vJ z51), (7, vI (y : Int)), (8, vJ (Mc 29 bb ((4 * y) + cc))), (10, vI (x : Int))] [] := by
                              intro fu
                              induction fu with
                              | zero => intro x Md hfu; exact absurd hfu (Nat.not_lt_zero _)
                              | succ fu ih138 =>
                                intro x Md hfu138 hx4 hxn hfd hmd
                                refine r_iload (pc' := 140) X 8 dX9_eliminate_138 rfl rfl ?_
                                refine r_iconst (pc' := 141) X dX9_eliminate_140 rfl ?_
                                refine r_icmp_ge (pc' := 144) (tgt := 189) X dX9_eliminate_141 rfl rfl (by omega) (by omega) (fun h141 => ?_) (fun h141 => ?_)
                                · refine r_iinc (pc' := 192) (z' := ((y + 1 : Nat) : Int)) (lc' := [(0, vR G (29, bb)), (1, vI (k : Int)), (2, vI (rk : Int)), (3, vI (cc : Int)), (4, vI (pp : Int)), (5, vJ z51), (7, vI ((y + 1 : Nat) : Int)), (8, vJ (Mc 29 bb ((4 * y) + cc))), (10, vI (x : Int))]) X 6 [1, 2, 3, 4, 5, 6, 0, 7, 8] dX9_eliminate_189 rfl (by omega) (by decide) rfl rfl ?_
                                  refine r_goto (tgt := 119) X dX9_eliminate_192 rfl ?_
                                  refine w_sub (lc' := [(0, vR G (29, bb)), (1, vI (k : Int)), (2, vI (rk : Int)), (3, vI (cc : Int)), (4, vI (pp : Int)), (5, vJ z51), (7, vI ((y + 1 : Nat) : Int))]) [0, 1, 2, 3, 4, 5, 6] rfl ?_
                                  exact ih119 (y + 1) Md (by omega) (by omega) (fun a b w1 => by rw [hfd a b w1]; exact hfc a b w1) (fun r w1 w2 j w3 => by
                                                              rw [hmd r j w3]
                                                              by_cases e1 : r = y
                                                              · rw [if_pos (by omega), e1]
                                                              · rw [if_neg (by omega)]
                                                                exact hdn r (by omega) w2 j w3) (fun r w1 j w3 => by
                                                              rw [hmd r j w3, if_neg (by omega)]
                                                              exact hre r (by omega) j w3)
                                · refine r_iload (pc' := 146) X 6 dX9_eliminate_144 rfl rfl ?_
                                  refine r_iload_n (pc' := 147) X 2 dX9_eliminate_146 rfl rfl rfl ?_
                                  refine r_icmp_eq (pc' := 150) (tgt := 189) X dX9_eliminate_147 rfl rfl (by omega) (by omega) (fun h147 => ?_) (fun h147 => ?_)
                                  · refine r_iinc (pc' := 192) (z' := ((y + 1 : Nat) : Int)) (lc' := [(0, vR G (29, bb)), (1, vI (k : Int)), (2, vI (rk : Int)), (3, vI (cc : Int)), (4, vI (pp : Int)), (5, vJ z51), (7, vI ((y + 1 : Nat) : Int)), (8, vJ (Mc 29 bb ((4 * y) + cc))), (10, vI (x : Int))]) X 6 [1, 2, 3, 4, 5, 6, 0, 7, 8] dX9_eliminate_189 rfl (by omega) (by decide) rfl rfl ?_
                                    refine r_goto (tgt := 119) X dX9_eliminate_192 rfl ?_
                                    refine w_sub (lc' := [(0, vR G (29, bb)), (1, vI (k : Int)), (2, vI (rk : Int)), (3, vI (cc : Int)), (4, vI (pp : Int)), (5, vJ z51), (7, vI ((y + 1 : Nat) : Int))]) [0, 1, 2, 3, 4, 5, 6] rfl ?_
                                    exact ih119 (y + 1) Md (by omega) (by omega) (fun a b w1 => by rw [hfd a b w1]; exact hfc a b w1) (fun r w1 w2 j w3 => by
                                                              rw [hmd r j w3]
                                                              by_cases e1 : r = y
                                                              · rw [if_pos (by omega), e1]
                                                              · rw [if_neg (by omega)]
                                                                exact hdn r (by omega) w2 j w3) (fun r w1 j w3 => by
                                                              rw [hmd r j w3, if_neg (by omega)]
                                                              exact hre r (by omega) j w3)
                                  · have q1 : Md 29 bb (4 * y + x) = Mb 29 bb (4 * y + x) := by rw [hmd y x (by omega), if_neg (by omega)]; exact hre y (Or.inr (Nat.le_refl y)) x (by omega)
                                    have q2 : Mc 29 bb (4 * y + cc) = Mb 29 bb (4 * y + cc) := hre y (Or.inr (Nat.le_refl y)) cc (by omega)
                                    have q3 : Md 29 bb (4 * rk + x) = Mb 29 bb (4 * rk + x) := by rw [hmd rk x (by omega), if_neg (by omega)]; exact hre rk (Or.inl rfl) x (by omega)
                                    have r1 := hB4 y x (by omega) (by omega)
                                    have r2 := hB4 y cc (by omega) (by omega)
                                    have r3 := hB4 rk x (by omega) (by omega)
                                    have r4 := mul_bd (A := 1000003) (B := 1000003) (a := Mc 29 bb (4 * y + cc)) (b := Md 29 bb (4 * rk + x)) (by decide) (by omega) (by omega)
                                    refine r_aload_n (pc' := 151) X 0 dX9_eliminate_150 rfl rfl rfl ?_
                                    refine r_iconst (pc' := 152) X dX9_eliminate_151 rfl ?_
                                    refine r_iload (pc' := 154) X 6 dX9_eliminate_152 rfl rfl ?_
                                    refine r_imul (pc' := 155) X dX9_eliminate_154 rfl ?_
                                    refine r_iload (pc' := 157) X 8 dX9_eliminate_155 rfl rfl ?_
                                    refine r_iadd (pc' := 158) X dX9_eliminate_157 rfl ?_
                                    refine r_aload_n (pc' := 159) X 0 dX9_eliminate_158 rfl rfl rfl ?_
                                    refine r_iconst (pc' := 160) X dX9_eliminate_159 rfl ?_
                                    refine r_iload (pc' := 162) X 6 dX9_eliminate_160 rfl rfl ?_
                                    refine r_imul (pc' := 163) X dX9_eliminate_162 rfl ?_
                                    refine r_iload (pc' := 165) X 8 dX9_eliminate_163 rfl rfl ?_
                                    refine r_iadd (pc' := 166) X dX9_eliminate_165 rfl ?_
                                    refine r_lald (i := ((4 * y) + x)) (pc' := 167) X hkd (by omega) (by omega) (by omega) dX9_eliminate_166 rfl ?_
                                    refine r_lload (pc' := 169) X 7 dX9_eliminate_167 rfl rfl ?_
                                    refine r_aload_n (pc' := 170) X 0 dX9_eliminate_169 rfl rfl rfl ?_
                                    refine r_iconst (pc' := 171) X dX9_eliminate_170 rfl ?_
                                    refine r_iload_n (pc' := 172) X 2 dX9_eliminate_171 rfl rfl rfl ?_
                                    refine r_imul (pc' := 173) X dX9_eliminate_172 rfl ?_
                                    refine r_iload (pc' := 175) X 8 dX9_eliminate_173 rfl rfl ?_
                                    refine r_iadd (pc' := 176) X dX9_eliminate_175 rfl ?_
                                    refine r_lald (i := ((4 * rk) + x)) (pc' := 177) X hkd (by omega) (by omega) (by omega) dX9_eliminate_176 rfl ?_
                                    refine r_lmul (pc' := 178) X dX9_eliminate_177 rfl ?_
                                    refine r_lsub (pc' := 179) X dX9_eliminate_178 rfl ?_
                                    refine w_callj (pc' := 182) (st := [vI ((4 * (y : Int)) + (x : Int)), vR G (29, bb)]) (w_runS X (c_X9_residue l G Md ((Md 29 bb ((4 * y) + x)) - ((Mc 29 bb ((4 * y) + cc)) * (Md 29 bb ((4 * rk) + x)))) (by first | assumption | omega)) cf_X9_residue gw_1312 rfl rfl ⟨Nat.le_of_ble_eq_true rfl, Nat.le_of_ble_eq_true rfl⟩ rfl rfl (Nat.le_of_ble_eq_true rfl) ⟨Nat.le_of_ble_eq_true rfl, Nat.le_of_ble_eq_true rfl⟩ gw_1311 dX9_eliminate_179) rfl (fun z179 M2 h179 => ?_)
                                    obtain rfl := h179.1.symm
                                    obtain rfl := h179.2.symm
                                    refine r_last (i := ((4 * y) + x)) (pc' := 183) X hkd (by omega) (by omega) (by omega) dX9_eliminate_182 rfl (fun M3 hM3 => ?_)
                                    refine r_iinc (pc' := 186) (z' := ((x + 1 : Nat) : Int)) (lc' := [(0, vR G (29, bb)), (1, vI (k : Int)), (2, vI (rk : Int)), (3, vI (cc : Int)), (4, vI (pp : Int)), (5, vJ z51), (7, vI (y : Int)), (8, vJ (Mc 29 bb ((4 * y) + cc))), (10, vI ((x + 1 : Nat) : Int))]) X 8 [1, 2, 3, 4, 5, 6, 7, 8, 0] dX9_eliminate_183 rfl (by omega) (by decide) rfl rfl ?_
                                    refine r_goto (tgt := 138) X dX9_eliminate_186 rfl ?_
                                    exact ih138 (x + 1) M3 (by omega) (by omega) (fun _ => by omega) (fun a b w1 => by rw [hM3, wu_ne w1]; exact hfd a b w1) (fun r j w1 => by
                                                              rw [hM3]; unfold wu
                                                              by_cases e1 : r = y ∧ j = x
                                                              · rw [if_pos ⟨rfl, rfl, by omega⟩, if_pos (by omega), q1, q2, q3, e1.2]
                                                              · rw [if_neg (by omega), hmd r j w1]
                                                                by_cases e2 : r = y ∧ j < x
                                                                · rw [if_pos e2, if_pos (by omega)]
                                                                · rw [if_neg e2, if_neg (by omega)])
                            exact L138 ((4 - 0) + 1) 0 Mc (Nat.lt_succ_self _) (by omega) (fun w1 => absurd w1 (by omega)) (fun _ _ _ => rfl) (fun r j w1 => by rw [if_neg (by omega)])
                      exact L119 ((k - 0) + 1) 0 Mb (Nat.lt_succ_self _) (by omega) (fun _ _ _ => rfl) (fun r w1 => absurd w1 (Nat.not_lt_zero r)) (fun _ _ _ _ => rfl)
                    · refine r_aload_n (pc' := 66) X 0 dX9_eliminate_65 rfl rfl rfl ?_
                      refine r_iconst (pc' := 67) X dX9_eliminate_66 rfl ?_
                      refine r_iload (pc' := 69) X 4 dX9_eliminate_67 rfl rfl ?_
                      refine r_imul (pc' := 70) X dX9_eliminate_69 rfl ?_
                      refine r_iload (pc' := 72) X 6 dX9_eliminate_70 rfl rfl ?_
                      refine r_iadd (pc' := 73) X dX9_eliminate_72 rfl ?_
                      refine r_lald (i := ((4 * pp) + i)) (pc' := 74) X hkd (by omega) (by omega) (by omega) dX9_eliminate_73 rfl ?_
                      refine r_lstore (pc' := 76) (lc' := [(0, vR G (29, bb)), (1, vI (k : Int)), (2, vI (rk : Int)), (3, vI (cc : Int)), (4, vI (pp : Int)), (5, vJ z51), (7, vI (i : Int)), (8, vJ (Mb 29 bb ((4 * pp) + i)))]) X [1, 2, 3, 4, 5, 6, 7, 0] dX9_eliminate_74 (by decide) rfl rfl ?_
                      have hbp : Mb 29 bb (4 * pp + i) = Ma 29 bb (4 * pp + i) := by rw [hsw pp i (by omega), if_neg (by omega)]
                      have hbk : Mb 29 bb (4 * rk + i) = Ma 29 bb (4 * rk + i) := by rw [hsw rk i (by omega), if_neg (by omega)]
                      have hbr := (hrw pp (by omega) i (by omega)).1
                      rw [← hbp] at hbr
                      have hm0 := Int.mul_nonneg hbr.1 hzb.1
                      have hm1 := mul_bd (A := 1000003) (B := 1000003) (a := Mb 29 bb (4 * pp + i)) (b := z51) (by decide) (by omega) (by omega)
                      refine r_aload_n (pc' := 77) X 0 dX9_eliminate_76 rfl rfl rfl ?_
                      refine r_iconst (pc' := 78) X dX9_eliminate_77 rfl ?_
                      refine r_iload (pc' := 80) X 4 dX9_eliminate_78 rfl rfl ?_
                      refine r_imul (pc' := 81) X dX9_eliminate_80 rfl ?_
                      refine r_iload (pc' := 83) X 6 dX9_eliminate_81 rfl rfl ?_
                      refine r_iadd (pc' := 84) X dX9_eliminate_83 rfl ?_
                      refine r_aload_n (pc' := 85) X 0 dX9_eliminate_84 rfl rfl rfl ?_
                      refine r_iconst (pc' := 86) X dX9_eliminate_85 rfl ?_
                      refine r_iload_n (pc' := 87) X 2 dX9_eliminate_86 rfl rfl rfl ?_
                      refine r_imul (pc' := 88) X dX9_eliminate_87 rfl ?_
                      refine r_iload (pc' := 90) X 6 dX9_eliminate_88 rfl rfl ?_
                      refine r_iadd (pc' := 91) X dX9_eliminate_90 rfl ?_
                      refine r_lald (i := ((4 * rk) + i)) (pc' := 92) X hkd (by omega) (by omega) (by omega) dX9_eliminate_91 rfl ?_
                      refine r_last (i := ((4 * pp) + i)) (pc' := 93) X hkd (by omega) (by omega) (by omega) dX9_eliminate_92 rfl (fun M4 hM4 => ?_)
                      refine r_aload_n (pc' := 94) X 0 dX9_eliminate_93 rfl rfl rfl ?_
                      refine r_iconst (pc' := 95) X dX9_eliminate_94 rfl ?_
                      refine r_iload_n (pc' := 96) X 2 dX9_eliminate_95 rfl rfl rfl ?_
                      refine r_imul (pc' := 97) X dX9_eliminate_96 rfl ?_
                      refine r_iload (pc' := 99) X 6 dX9_eliminate_97 rfl rfl ?_
                      refine r_iadd (pc' := 100) X dX9_eliminate_99 rfl ?_
                      refine r_lload (pc' := 102) X 7 dX9_eliminate_100 rfl rfl ?_
                      refine r_lload (pc' := 104) X 5 dX9_eliminate_102 rfl rfl ?_
                      refine r_lmul (pc' := 105) X dX9_eliminate_104 rfl ?_
                      refine r_ldc2 (pc' := 108) (z := 1000003) X gw_1314 dX9_eliminate_105 rfl rfl ?_
                      refine r_lrem (pc' := 109) X dX9_eliminate_108 (by omega) (by omega) (by omega) rfl ?_
                      refine r_last (i := ((4 * rk) + i)) (pc' := 110) X hkd (by omega) (by omega) (by omega) dX9_eliminate_109 rfl (fun M5 hM5 => ?_)
                      refine r_iinc (pc' := 113) (z' := ((i + 1 : Nat) : Int)) (lc' := [(0, vR G (29, bb)), (1, vI (k : Int)), (2, vI (rk : Int)), (3, vI (cc : Int)), (4, vI (pp : Int)), (5, vJ z51), (7, vI ((i + 1 : Nat) : Int)), (8, vJ (Mb 29 bb ((4 * pp) + i)))]) X 6 [1, 2, 3, 4, 5, 6, 0, 7] dX9_eliminate_110 rfl (by omega) (by decide) rfl rfl ?_
                      refine r_goto (tgt := 59) X dX9_eliminate_113 rfl ?_
                      refine w_sub (lc' := [(0, vR G (29, bb)), (1, vI (k : Int)), (2, vI (rk : Int)), (3, vI (cc : Int)), (4, vI (pp : Int)), (5, vJ z51), (7, vI ((i + 1 : Nat) : Int))]) [0, 1, 2, 3, 4, 5, 6] rfl ?_
                      exact ih59 (i + 1) M5 (by omega) (by omega) (fun a b w1 => by rw [hM5, wu_ne w1, hM4, wu_ne w1]; exact hfb a b w1) (fun r j w1 => by
                                                              rw [hM5]; unfold wu
                                                              by_cases e1 : r = rk ∧ j = i
                                                              · rw [if_pos ⟨rfl, rfl, by omega⟩, e1.2, if_pos (by omega), if_pos e1.1, tm_pos hm0, hbp]
                                                              · rw [if_neg (by omega), hM4]; unfold wu
                                                                by_cases e2 : r = pp ∧ j = i
                                                                · rw [if_pos ⟨rfl, rfl, by omega⟩, e2.2, if_pos (by omega), if_neg (by omega), if_pos e2.1, hbk]
                                                                · rw [if_neg (by omega), hsw r j w1]
                                                                  by_cases e3 : j = i
                                                                  · rw [if_neg (by omega), if_pos (by omega), if_neg (by omega), if_neg (by omega)]
                                                                  · by_cases e4 : j < i
                                                                    · rw [if_pos e4, if_pos (show j < i + 1 by omega)]
                                                                    · rw [if_neg e4, if_neg (by omega)])
                exact L59 ((4 - 0) + 1) 0 Ma (Nat.lt_succ_self _) (by omega) (fun _ _ _ => rfl) (fun r j w1 => by rw [if_neg (by omega)])
              · refine r_iinc (pc' := 34) (z' := ((pp + 1 : Nat) : Int)) (lc' := [(0, vR G (29, bb)), (1, vI (k : Int)), (2, vI (rk : Int)), (3, vI (cc : Int)), (4, vI ((pp + 1 : Nat) : Int))]) X 4 [1, 2, 3, 4, 0] dX9_eliminate_31 rfl (by omega) (by decide) rfl rfl ?_
                refine r_goto (tgt := 12) X dX9_eliminate_34 rfl ?_
                exact ih12 (pp + 1) (by omega) (by omega) (fun r w1 w2 => by by_cases w3 : r = pp; rw [w3]; omega; exact hz r w1 (by omega))
        exact L12 ((k - rk) + 1) rk (Nat.lt_succ_self _) (by omega) (fun r w1 w2 => absurd w2 (by omega))
  exact L4 ((4 - 0) + 1) 0 0 M (Nat.lt_succ_self _) (by omega) (by omega) ⟨Nat.le_refl 0, Nat.zero_le k, ⟨fun _ => 0, fun r h => absurd h (Nat.not_lt_zero r)⟩, fun r _ _ j h => absurd h (Nat.not_lt_zero j)⟩ hR (fun _ => Iff.rfl) (fun _ _ _ => rfl)
