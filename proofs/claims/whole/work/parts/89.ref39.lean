theorem cf_X9_alongPush : wCal yX9_alongPush cX9_alongPush 5 (some .long) 1 := ⟨gw_1342, gw_10, by decide, by decide, by rfl⟩
set_option maxRecDepth 100000 in
set_option maxHeartbeats 4000000 in
theorem c_X9_alongPush (l : Launch) (G : wG) (M : wM) (N P : Nat) (pv : Nat → Nat → Int) (hp : PlOk pv N P) (hq : PEq N P pv (M 29)) (r : Nat) (hr7 : r < 7) (hmk : ∀ j, j < 4 → 0 ≤ M 29 24 (4 * r + j) ∧ M 29 24 (4 * r + j) < 1000003) : Met l yX9_alongPush (gws yX9_alongPush cX9_alongPush 5 (some .long)) (wrm 1 0 0) (wPc G M [vR G (29, 0), vI (r : Int)]) (wQj G (fun z M1 => z = dot N (mr (M 29 24) r) (pv 7) % 1000003 ∧ M1 = M)) 0 0 (wA G) := by
  refine wMet (lc := [(0, vR G (29, 0)), (1, vI (r : Int))]) (by decide) (Nat.le_of_ble_eq_true rfl) rfl ?_
  intro p e s m args below meth c X hr
  have X : wX p s m args meth c G 5 "StateObserverModel" cX9_alongPush := X
  obtain ⟨hN, hN1, hN4, hP, hP1, hP3, hA, hB, hE, hC, hQ⟩ := id hp
  obtain ⟨qN, qP, qA, qB, qE, qC, qQ⟩ := id hq
  have qE0 := hp.2.2.2.2.2.2.2.2.1
  refine r_lconst (pc' := 1) (z := 0) X dX9_alongPush_0 rfl rfl ?_
  refine r_lstore_n (pc' := 2) (lc' := [(0, vR G (29, 0)), (1, vI (r : Int)), (2, vJ 0)]) X [1, 2, 0] dX9_alongPush_1 rfl (by decide) rfl rfl ?_
  refine r_iconst (pc' := 3) X dX9_alongPush_2 rfl ?_
  refine r_istore (pc' := 5) (lc' := [(0, vR G (29, 0)), (1, vI (r : Int)), (2, vJ 0), (4, vI 0)]) X [1, 2, 3, 0] dX9_alongPush_3 (by decide) rfl rfl ?_
  have L5 : ∀ (fu : Nat) (i : Nat) (sm : Int), N - i < fu → (i ≤ N) → (Z0 (sm - dot i (mr (M 29 24) r) (pv 7))) → (-(1000003 * i) ≤ sm ∧ sm ≤ 1000003 * i) → wV p l e (wrm 1 0 0) s m args below meth c G 5 M 0 0 (MQ below (wQj G (fun z M1 => z = dot N (mr (M 29 24) r) (pv 7) % 1000003 ∧ M1 = M)) args s 0 0 (wA G)) 5 [(0, vR G (29, 0)), (1, vI (r : Int)), (2, vJ sm), (4, vI (i : Int))] [] := by
    intro fu
    induction fu with
    | zero => intro i sm hfu; exact absurd hfu (Nat.not_lt_zero _)
    | succ fu ih5 =>
      intro i sm hfu5 hi0 hsm hsb
      refine r_iload (pc' := 7) X 3 dX9_alongPush_5 rfl rfl ?_
      refine r_aload_n (pc' := 8) X 0 dX9_alongPush_7 rfl rfl rfl ?_
      refine gf_29_states (pc' := 11) X gw_972 dX9_alongPush_8 rfl ?_
      refine r_icmp_ge (pc' := 14) (tgt := 47) X dX9_alongPush_11 rfl rfl (by omega) (by omega) (fun h11 => ?_) (fun h11 => ?_)
      · refine r_lload_n (pc' := 48) X 2 dX9_alongPush_47 rfl rfl rfl ?_
        refine w_callj (pc' := 51) (st := []) (w_runS X (c_X9_residue l G M sm (by first | assumption | omega)) cf_X9_residue gw_1312 rfl rfl ⟨Nat.le_of_ble_eq_true rfl, Nat.le_of_ble_eq_true rfl⟩ rfl rfl (Nat.le_of_ble_eq_true rfl) ⟨Nat.le_of_ble_eq_true rfl, Nat.le_of_ble_eq_true rfl⟩ gw_1311 dX9_alongPush_48) rfl (fun z48 M1 h48 => ?_)
        obtain rfl := h48.1.symm
        obtain rfl := h48.2.symm
        refine w_lret X hr dX9_alongPush_51 ?_
        try dsimp only
        have hiN : i = N := by omega
        rw [hiN] at hsm
        exact ⟨hsm.eqm, rfl⟩
      · have e2 : M 29 4 i = pv 7 i := qE i (by omega)
        have g1 := hmk i (by omega)
        have g2 := qE0 i (by omega)
        have g3 := mul_bd (A := 1000003) (B := 99) (a := M 29 24 (4 * r + i)) (b := M 29 4 i) (by decide) (by omega) (by omega)
        have g4 := tmod_bd (a := M 29 24 (4 * r + i) * M 29 4 i) (b := 1000003) (by omega)
        have hd1 : dot (i + 1) (mr (M 29 24) r) (pv 7) = dot i (mr (M 29 24) r) (pv 7) + M 29 24 (4 * r + i) * pv 7 i := rfl
        refine r_lload_n (pc' := 15) X 2 dX9_alongPush_14 rfl rfl rfl ?_
        refine r_aload_n (pc' := 16) X 0 dX9_alongPush_15 rfl rfl rfl ?_
        refine gf_29_marks (pc' := 19) X gw_999 dX9_alongPush_16 rfl ?_
        refine r_iconst (pc' := 20) X dX9_alongPush_19 rfl ?_
        refine r_iload_n (pc' := 21) X 1 dX9_alongPush_20 rfl rfl rfl ?_
        refine r_imul (pc' := 22) X dX9_alongPush_21 rfl ?_
        refine r_iload (pc' := 24) X 3 dX9_alongPush_22 rfl rfl ?_
        refine r_iadd (pc' := 25) X dX9_alongPush_24 rfl ?_
        refine r_lald (i := ((4 * r) + i)) (pc' := 26) X k29_24 (by omega) (by omega) (by decide) dX9_alongPush_25 rfl ?_
        refine r_aload_n (pc' := 27) X 0 dX9_alongPush_26 rfl rfl rfl ?_
        refine gf_29_push (pc' := 30) X gw_976 dX9_alongPush_27 rfl ?_
        refine r_iload (pc' := 32) X 3 dX9_alongPush_30 rfl rfl ?_
        refine r_iald (i := i) (pc' := 33) X k29_4 (by omega) (by omega) (by decide) dX9_alongPush_32 rfl ?_
        refine r_i2l (pc' := 34) X dX9_alongPush_33 (by omega) rfl ?_
        refine r_lmul (pc' := 35) X dX9_alongPush_34 rfl ?_
        refine r_ldc2 (pc' := 38) (z := 1000003) X gw_1314 dX9_alongPush_35 rfl rfl ?_
        refine r_lrem (pc' := 39) X dX9_alongPush_38 (by omega) (by omega) (by omega) rfl ?_
        refine r_ladd (pc' := 40) X dX9_alongPush_39 rfl ?_
        refine r_lstore_n (pc' := 41) (lc' := [(0, vR G (29, 0)), (1, vI (r : Int)), (2, vJ (sm + (((M 29 24 ((4 * r) + i)) * (M 29 4 i)).tmod 1000003))), (4, vI (i : Int))]) X [1, 2, 0, 3] dX9_alongPush_40 rfl (by decide) rfl rfl ?_
        refine r_iinc (pc' := 44) (z' := ((i + 1 : Nat) : Int)) (lc' := [(0, vR G (29, 0)), (1, vI (r : Int)), (2, vJ (sm + (((M 29 24 ((4 * r) + i)) * (M 29 4 i)).tmod 1000003))), (4, vI ((i + 1 : Nat) : Int))]) X 3 [1, 2, 3, 0] dX9_alongPush_41 rfl (by omega) (by decide) rfl rfl ?_
        refine r_goto (tgt := 5) X dX9_alongPush_44 rfl ?_
        exact ih5 (i + 1) (sm + (((M 29 24 ((4 * r) + i)) * (M 29 4 i)).tmod 1000003)) (by omega) (by omega) (by rw [hd1]; have f1 := Z0.tmod (a := M 29 24 (4 * r + i) * M 29 4 i); rw [e2] at f1 ⊢; unfold Z0 at *; omega) (by omega)
  exact L5 ((N - 0) + 1) 0 0 (Nat.lt_succ_self _) (by omega) Z0.zero (by omega)
theorem cf_X9_dropPush : wCal yX9_dropPush cX9_dropPush 8 none 0 := ⟨gw_1338, gw_10, by decide, by decide, by rfl⟩
set_option maxRecDepth 100000 in
set_option maxHeartbeats 4000000 in
theorem c_X9_dropPush (l : Launch) (G : wG) (M : wM) (N P : Nat) (pv : Nat → Nat → Int) (hp : PlOk pv N P) (hq : PEq N P pv (M 29)) (kk : Nat) (hkk : M 29 0 33 = (kk : Int)) (hk7 : kk ≤ 7) (hR : RwOk N (M 29 24) kk) : Met l yX9_dropPush (gws yX9_dropPush cX9_dropPush 8 none) (wrm 2 0 0) (wPc G M [vR G (29, 0)]) (wQv G (fun M1 => (∀ a b x, ¬ (a = 29 ∧ (b = 24 ∨ (b = 0 ∧ x = 33))) → M1 a b x = M a b x) ∧ ∃ y : Nat, M1 29 0 33 = (y : Int) ∧ y ≤ kk ∧ RwOk N (M1 29 24) y ∧ ∀ u, Sp N (rws (mr (M1 29 24)) y) u ↔ meetE N (pv 7) (Sp N (rws (mr (M 29 24)) kk)) u)) 0 0 (wA G) := by
  refine wMet (lc := [(0, vR G (29, 0))]) (by decide) (Nat.le_of_ble_eq_true rfl) rfl ?_
  intro p e s m args below meth c X hr
  have X : wX p s m args meth c G 8 "StateObserverModel" cX9_dropPush := X
  obtain ⟨hN, hN1, hN4, hP, hP1, hP3, hA, hB, hE, hC, hQ⟩ := id hp
  obtain ⟨qN, qP, qA, qB, qE, qC, qQ⟩ := id hq
  refine r_bipush (pc' := 2) X dX9_dropPush_0 rfl rfl ?_
  refine r_istore_n (pc' := 3) (lc' := [(0, vR G (29, 0)), (1, vI (-9))]) X [1, 0] dX9_dropPush_2 rfl (by decide) rfl rfl ?_
  refine r_iconst (pc' := 4) X dX9_dropPush_3 rfl ?_
  refine r_istore_n (pc' := 5) (lc' := [(0, vR G (29, 0)), (1, vI (-9)), (2, vI 0)]) X [1, 2, 0] dX9_dropPush_4 rfl (by decide) rfl rfl ?_
  have L5 : ∀ (fu : Nat) (r : Nat) (cv : Int), kk - r < fu → (r ≤ kk) → (-9 ≤ cv ∧ cv ≤ 7) → (DpV (fun x => dot N (mr (M 29 24) x) (pv 7)) r cv) → wV p l e (wrm 2 0 0) s m args below meth c G 8 M 0 0 (MQ below (wQv G (fun M1 => (∀ a b x, ¬ (a = 29 ∧ (b = 24 ∨ (b = 0 ∧ x = 33))) → M1 a b x = M a b x) ∧ ∃ y : Nat, M1 29 0 33 = (y : Int) ∧ y ≤ kk ∧ RwOk N (M1 29 24) y ∧ ∀ u, Sp N (rws (mr (M1 29 24)) y) u ↔ meetE N (pv 7) (Sp N (rws (mr (M 29 24)) kk)) u)) args s 0 0 (wA G)) 5 [(0, vR G (29, 0)), (1, vI cv), (2, vI (r : Int))] [] := by
    intro fu
    induction fu with
    | zero => intro r cv hfu; exact absurd hfu (Nat.not_lt_zero _)
    | succ fu ih5 =>
      intro r cv hfu5 hrk hcr hcv
      refine r_iload_n (pc' := 6) X 2 dX9_dropPush_5 rfl rfl rfl ?_
      refine r_aload_n (pc' := 7) X 0 dX9_dropPush_6 rfl rfl rfl ?_
      refine gf_29_many (pc' := 10) X gw_1000 dX9_dropPush_7 rfl ?_
      refine r_icmp_ge (pc' := 13) (tgt := 41) X dX9_dropPush_10 rfl rfl (by omega) (by omega) (fun h10 => ?_) (fun h10 => ?_)
      · refine r_iload_n (pc' := 42) X 1 dX9_dropPush_41 rfl rfl rfl ?_
        refine r_bipush (pc' := 44) X dX9_dropPush_42 rfl rfl ?_
        refine r_icmp_ne (pc' := 47) (tgt := 48) X dX9_dropPush_44 rfl rfl (by omega) (by omega) (fun h44 => ?_) (fun h44 => ?_)
        · obtain ⟨y, hy1, hy2, hy3⟩ : ∃ y : Nat, cv = (y : Int) ∧ y < kk ∧ (dot N (mr (M 29 24) y) (pv 7)) % 1000003 ≠ 0 := by
            rcases hcv with ⟨w1, w2⟩ | ⟨y, w1, w2, w3⟩
            · omega
            · exact ⟨y, w1, by omega, w3⟩
          refine r_aload_n (pc' := 49) X 0 dX9_dropPush_48 rfl rfl rfl ?_
          refine r_iload_n (pc' := 50) X 1 dX9_dropPush_49 rfl rfl rfl ?_
          refine w_eqI (z' := (y : Int)) hy1 ?_
          refine w_callj (pc' := 53) (st := []) (w_runV X (c_X9_alongPush l G M N P pv (by first | assumption | omega) (by first | assumption | omega) y (by omega) (fun j w1 => (hR y (by omega) j w1).1)) cf_X9_alongPush k29_0 rfl gw_1341 gp_54 rfl rfl ⟨Nat.le_of_ble_eq_true rfl, Nat.le_of_ble_eq_true rfl⟩ rfl rfl (Nat.le_of_ble_eq_true rfl) ⟨Nat.le_of_ble_eq_true rfl, Nat.le_of_ble_eq_true rfl⟩ gw_1339 dX9_dropPush_50) rfl (fun z50 M1 h50 => ?_)
          obtain rfl := h50.1.symm
          obtain rfl := h50.2.symm
          refine w_callj (pc' := 56) (st := []) (w_runS X (c_X9_inverse l G M ((dot N (mr (M 29 24) y) (pv 7) % 1000003)) (by omega)) cf_X9_inverse gw_1323 rfl rfl ⟨Nat.le_of_ble_eq_true rfl, Nat.le_of_ble_eq_true rfl⟩ rfl rfl (Nat.le_of_ble_eq_true rfl) ⟨Nat.le_of_ble_eq_true rfl, Nat.le_of_ble_eq_true rfl⟩ gw_1322 dX9_dropPush_53) rfl (fun z53 M2 h53 => ?_)
          obtain ⟨hzb, hzi, hzm⟩ := h53
          obtain rfl := hzm.symm
          refine r_lstore_n (pc' := 57) (lc' := [(0, vR G (29, 0)), (1, vI cv), (2, vJ z53)]) X [1, 2, 0] dX9_dropPush_56 rfl (by decide) rfl rfl ?_
          refine r_iconst (pc' := 58) X dX9_dropPush_57 rfl ?_
          refine r_istore (pc' := 60) (lc' := [(0, vR G (29, 0)), (1, vI cv), (2, vJ z53), (4, vI 0)]) X [1, 2, 3, 0] dX9_dropPush_58 (by decide) rfl rfl ?_
          have L60 : ∀ (fu : Nat) (r : Nat) (Ma : wM), kk - r < fu → (r ≤ kk) → (∀ a b x, ¬ (a = 29 ∧ b = 24) → Ma a b x = M a b x) → (∀ x, x < r → x ≠ y → ∀ j, j < 4 → Ma 29 24 (4 * x + j) = (M 29 24 (4 * x + j) - ((dot N (mr (M 29 24) x) (pv 7)) % 1000003 * z53 % 1000003) * M 29 24 (4 * y + j)) % 1000003) → (∀ x, (x = y ∨ r ≤ x) → ∀ j, j < 4 → Ma 29 24 (4 * x + j) = M 29 24 (4 * x + j)) → wV p l e (wrm 2 0 0) s m args below meth c G 8 Ma 0 0 (MQ below (wQv G (fun M1 => (∀ a b x, ¬ (a = 29 ∧ (b = 24 ∨ (b = 0 ∧ x = 33))) → M1 a b x = M a b x) ∧ ∃ y : Nat, M1 29 0 33 = (y : Int) ∧ y ≤ kk ∧ RwOk N (M1 29 24) y ∧ ∀ u, Sp N (rws (mr (M1 29 24)) y) u ↔ meetE N (pv 7) (Sp N (rws (mr (M 29 24)) kk)) u)) args s 0 0 (wA G)) 60 [(0, vR G (29, 0)), (1, vI cv), (2, vJ z53), (4, vI (r : Int))] [] := by
            intro fu
            induction fu with
            | zero => intro r Ma hfu; exact absurd hfu (Nat.not_lt_zero _)
            | succ fu ih60 =>
              intro r Ma hfu60 hrk2 hfa hdn hre
              have qKa : Ma 29 0 33 = kk := by rw [hfa 29 0 33 (by omega)]; exact hkk
              have qa : PEq N P pv (Ma 29) := hq.keep (fun b x w1 => hfa 29 b x (by omega))
              refine r_iload (pc' := 62) X 3 dX9_dropPush_60 rfl rfl ?_
              refine r_aload_n (pc' := 63) X 0 dX9_dropPush_62 rfl rfl rfl ?_
              refine gf_29_many (pc' := 66) X gw_1000 dX9_dropPush_63 rfl ?_
              refine r_icmp_ge (pc' := 69) (tgt := 152) X dX9_dropPush_66 rfl rfl (by omega) (by omega) (fun h66 => ?_) (fun h66 => ?_)
              · have hrk3 : r = kk := by omega
                refine r_iconst (pc' := 153) X dX9_dropPush_152 rfl ?_
                refine r_istore (pc' := 155) (lc' := [(0, vR G (29, 0)), (1, vI cv), (2, vJ z53), (4, vI 0)]) X [1, 2, 3, 0] dX9_dropPush_153 (by decide) rfl rfl ?_
                have L155 : ∀ (fu : Nat) (x : Nat) (Mc : wM), 4 - x < fu → (x ≤ 4) → (∀ a b x, ¬ (a = 29 ∧ b = 24) → Mc a b x = M a b x) → (∀ t j, j < 4 → Mc 29 24 (4 * t + j) = if t = y ∧ j < x then Ma 29 24 (4 * (kk - 1) + j) else Ma 29 24 (4 * t + j)) → wV p l e (wrm 2 0 0) s m args below meth c G 8 Mc 0 0 (MQ below (wQv G (fun M1 => (∀ a b x, ¬ (a = 29 ∧ (b = 24 ∨ (b = 0 ∧ x = 33))) → M1 a b x = M a b x) ∧ ∃ y : Nat, M1 29 0 33 = (y : Int) ∧ y ≤ kk ∧ RwOk N (M1 29 24) y ∧ ∀ u, Sp N (rws (mr (M1 29 24)) y) u ↔ meetE N (pv 7) (Sp N (rws (mr (M 29 24)) kk)) u)) args s 0 0 (wA G)) 155 [(0, vR G (29, 0)), (1, vI cv), (2, vJ z53), (4, vI (x : Int))] [] := by
                  intro fu
                  induction fu with
                  | zero => intro x Mc hfu; exact absurd hfu (Nat.not_lt_zero _)
                  | succ fu ih155 =>
                    intro x Mc hfu155 hx4 hfc hmc
                    have qKc : Mc 29 0 33 = kk := by rw [hfc 29 0 33 (by omega)]; exact hkk
                    refine r_iload (pc' := 157) X 3 dX9_dropPush_155 rfl rfl ?_
                    refine r_iconst (pc' := 158) X dX9_dropPush_157 rfl ?_
                    refine r_icmp_ge (pc' := 161) (tgt := 194) X dX9_dropPush_158 rfl rfl (by omega) (by omega) (fun h158 => ?_) (fun h158 => ?_)
                    · refine r_aload_n (pc' := 195) X 0 dX9_dropPush_194 rfl rfl rfl ?_
                      refine r_dup (pc' := 196) X dX9_dropPush_195 rfl rfl ?_
                      refine gf_29_many (pc' := 199) X gw_1000 dX9_dropPush_196 rfl ?_
                      refine r_iconst (pc' := 200) X dX9_dropPush_199 rfl ?_
                      refine r_isub (pc' := 201) X dX9_dropPush_200 rfl ?_
                      refine pf_29_many (pc' := 204) X gw_1000 dX9_dropPush_201 rfl (fun M3 hM3 => ?_)
                      refine w_vret X hr dX9_dropPush_204 ?_
                      try dsimp only
                      have hx44 : x = 4 := by omega
                      have p24 : ∀ w, M3 29 24 w = Mc 29 24 w := fun w => by rw [hM3]; unfold wu; rw [if_neg (by omega)]
                      have hm4 : ∀ t j, j < 4 → Mc 29 24 (4 * t + j) = if t = y then Ma 29 24 (4 * (kk - 1) + j) else Ma 29 24 (4 * t + j) := fun t j w1 => by
                        rw [hmc t j w1]
                        by_cases e1 : t = y
                        · rw [if_pos (by omega), if_pos e1]
                        · rw [if_neg (by omega), if_neg e1]
                      have hrr : ∀ t, t < kk → ∀ j, j < 4 → (0 ≤ Ma 29 24 (4 * t + j) ∧ Ma 29 24 (4 * t + j) < 1000003) ∧ (N ≤ j → Ma 29 24 (4 * t + j) = 0) := fun t w1 j w2 => by
                        by_cases e1 : t = y
                        · rw [hre t (Or.inl e1) j w2]
                          exact hR t w1 j w2
                        · rw [hdn t (by omega) e1 j w2]
                          refine ⟨by omega, fun w3 => ?_⟩
                          rw [(hR t w1 j w2).2 w3, (hR y hy2 j w2).2 w3, Int.mul_zero]
                          rfl
                      refine ⟨fun a b x w1 => by rw [hM3]; unfold wu; rw [if_neg (by omega)]; exact hfc a b x (by omega), kk - 1, by rw [hM3]; unfold wu; rw [if_pos ⟨rfl, rfl, rfl⟩]; omega, by omega, fun t w1 j w2 => ?_, ?_⟩
                      · rw [p24, hm4 t j w2]
                        split
                        · exact hrr (kk - 1) (by omega) j w2
                        · exact hrr t (by omega) j w2
                      · have hdz := Z0.emod (dot N (mr (M 29 24) y) (pv 7))
                        have hzz := hzi (fun w1 => hy3 (by unfold Z0 at w1; omega))
                        refine drop_push (f := mr (M 29 24)) (h := mr (M3 29 24)) (e := pv 7) (b := fun r => dot N (mr (M 29 24) r) (pv 7) % 1000003 * z53 % 1000003) (v := z53) (mr (Ma 29 24)) hy2 ?_ (fun r w1 => ?_) (fun r w1 w2 i w3 => ?_) (fun r w1 w2 i w3 => ?_) (fun w1 i w2 => ?_)
                        · have h1 := hzz.sub (hdz.mulr z53)
                          rw [Int.sub_mul, show dot N (mr (M 29 24) y) (pv 7) % 1000003 * z53 - 1 - (dot N (mr (M 29 24) y) (pv 7) % 1000003 * z53 - dot N (mr (M 29 24) y) (pv 7) * z53) = dot N (mr (M 29 24) y) (pv 7) * z53 - 1 by omega] at h1
                          exact h1
                        · have h1 := (Z0.emod (dot N (mr (M 29 24) r) (pv 7) % 1000003 * z53)).add ((Z0.emod (dot N (mr (M 29 24) r) (pv 7))).mulr z53)
                          rw [Int.sub_mul, show dot N (mr (M 29 24) r) (pv 7) % 1000003 * z53 % 1000003 - dot N (mr (M 29 24) r) (pv 7) % 1000003 * z53 + (dot N (mr (M 29 24) r) (pv 7) % 1000003 * z53 - dot N (mr (M 29 24) r) (pv 7) * z53) = dot N (mr (M 29 24) r) (pv 7) % 1000003 * z53 % 1000003 - dot N (mr (M 29 24) r) (pv 7) * z53 by omega] at h1
                          exact h1
                        · show Z0 (Ma 29 24 (4 * r + i) - _)
                          rw [hdn r (by omega) w2 i (by omega)]
                          exact Z0.emod _
                        · show M3 29 24 (4 * r + i) = Ma 29 24 (4 * r + i)
                          rw [p24, hm4 r i (by omega), if_neg w2]
                        · show M3 29 24 (4 * y + i) = Ma 29 24 (4 * (kk - 1) + i)
                          rw [p24, hm4 y i (by omega), if_pos rfl]
                    · have q1 : Mc 29 24 (4 * (kk - 1) + x) = Ma 29 24 (4 * (kk - 1) + x) := by rw [hmc (kk - 1) x (by omega), if_neg (by omega)]
                      refine r_aload_n (pc' := 162) X 0 dX9_dropPush_161 rfl rfl rfl ?_
                      refine gf_29_marks (pc' := 165) X gw_999 dX9_dropPush_162 rfl ?_
                      refine r_iconst (pc' := 166) X dX9_dropPush_165 rfl ?_
                      refine r_iload_n (pc' := 167) X 1 dX9_dropPush_166 rfl rfl rfl ?_
                      refine r_imul (pc' := 168) X dX9_dropPush_167 rfl ?_
                      refine r_iload (pc' := 170) X 3 dX9_dropPush_168 rfl rfl ?_
                      refine r_iadd (pc' := 171) X dX9_dropPush_170 rfl ?_
                      refine r_aload_n (pc' := 172) X 0 dX9_dropPush_171 rfl rfl rfl ?_
                      refine gf_29_marks (pc' := 175) X gw_999 dX9_dropPush_172 rfl ?_
                      refine r_iconst (pc' := 176) X dX9_dropPush_175 rfl ?_
                      refine r_aload_n (pc' := 177) X 0 dX9_dropPush_176 rfl rfl rfl ?_
                      refine gf_29_many (pc' := 180) X gw_1000 dX9_dropPush_177 rfl ?_
                      refine r_iconst (pc' := 181) X dX9_dropPush_180 rfl ?_
                      refine r_isub (pc' := 182) X dX9_dropPush_181 rfl ?_
                      refine r_imul (pc' := 183) X dX9_dropPush_182 rfl ?_
                      refine r_iload (pc' := 185) X 3 dX9_dropPush_183 rfl rfl ?_
                      refine r_iadd (pc' := 186) X dX9_dropPush_185 rfl ?_
                      refine r_lald (i := (4 * (kk - 1) + x)) (pc' := 187) X k29_24 (by omega) (by omega) (by decide) dX9_dropPush_186 rfl ?_
                      refine r_last (i := (4 * y + x)) (pc' := 188) X k29_24 (by omega) (by omega) (by decide) dX9_dropPush_187 rfl (fun M4 hM4 => ?_)
                      refine r_iinc (pc' := 191) (z' := ((x + 1 : Nat) : Int)) (lc' := [(0, vR G (29, 0)), (1, vI cv), (2, vJ z53), (4, vI ((x + 1 : Nat) : Int))]) X 3 [1, 2, 3, 0] dX9_dropPush_188 rfl (by omega) (by decide) rfl rfl ?_
                      refine r_goto (tgt := 155) X dX9_dropPush_191 rfl ?_
                      exact ih155 (x + 1) M4 (by omega) (by omega) (fun a b z w1 => by rw [hM4]; unfold wu; rw [if_neg (by omega)]; exact hfc a b z w1) (fun t j w1 => by
                                                              rw [hM4]; unfold wu
                                                              by_cases e1 : t = y ∧ j = x
                                                              · rw [if_pos ⟨rfl, rfl, by omega⟩, if_pos (by omega), q1, e1.2]
                                                              · rw [if_neg (by omega), hmc t j w1]
                                                                by_cases e2 : t = y ∧ j < x
                                                                · rw [if_pos e2, if_pos (show t = y ∧ j < x + 1 by omega)]
                                                                · rw [if_neg e2, if_neg (show ¬ (t = y ∧ j < x + 1) by omega)])
                exact L155 ((4 - 0) + 1) 0 Ma (Nat.lt_succ_self _) (by omega) hfa (fun r j w1 => by rw [if_neg (by omega)])
              · have ha7 : ∀ j, j < 4 → 0 ≤ Ma 29 24 (4 * r + j) ∧ Ma 29 24 (4 * r + j) < 1000003 := fun j w1 => by
                  rw [hre r (Or.inr (Nat.le_refl r)) j w1]
                  exact (hR r (by omega) j w1).1
                refine r_aload_n (pc' := 70) X 0 dX9_dropPush_69 rfl rfl rfl ?_
                refine r_iload (pc' := 72) X 3 dX9_dropPush_70 rfl rfl ?_
                refine w_callj (pc' := 75) (st := []) (w_runV X (c_X9_alongPush l G Ma N P pv (by first | assumption | omega) qa r (by omega) ha7) cf_X9_alongPush k29_0 rfl gw_1341 gp_54 rfl rfl ⟨Nat.le_of_ble_eq_true rfl, Nat.le_of_ble_eq_true rfl⟩ rfl rfl (Nat.le_of_ble_eq_true rfl) ⟨Nat.le_of_ble_eq_true rfl, Nat.le_of_ble_eq_true rfl⟩ gw_1339 dX9_dropPush_72) rfl (fun z72 M5 h72 => ?_)
                obtain rfl := h72.1.symm
                obtain rfl := h72.2.symm
                have e72 : dot N (mr (Ma 29 24) r) (pv 7) = dot N (mr (M 29 24) r) (pv 7) := dot_cg fun i hi => ⟨hre r (Or.inr (Nat.le_refl r)) i (by omega), rfl⟩
                rw [e72]
                have b0 : 0 ≤ dot N (mr (M 29 24) r) (pv 7) % 1000003 ∧ dot N (mr (M 29 24) r) (pv 7) % 1000003 < 1000003 := by omega
                have b1 := Int.mul_nonneg b0.1 hzb.1
                have b2 := mul_bd (A := 1000003) (B := 1000003) (a := dot N (mr (M 29 24) r) (pv 7) % 1000003) (b := z53) (by decide) (by omega) (by omega)
                have b3 := tm_pos b1
                refine r_lload_n (pc' := 76) X 2 dX9_dropPush_75 rfl rfl rfl ?_
                refine r_lmul (pc' := 77) X dX9_dropPush_76 rfl ?_
                refine r_ldc2 (pc' := 80) (z := 1000003) X gw_1314 dX9_dropPush_77 rfl rfl ?_
                refine r_lrem (pc' := 81) X dX9_dropPush_80 (by omega) (by omega) (by omega) rfl ?_
                rw [b3]
                refine r_lstore (pc' := 83) (lc' := [(0, vR G (29, 0)), (1, vI cv), (2, vJ z53), (4, vI (r : Int)), (5, vJ (dot N (mr (M 29 24) r) (pv 7) % 1000003 * z53 % 1000003))]) X [1, 2, 3, 4, 0] dX9_dropPush_81 (by decide) rfl rfl ?_
                refine r_iconst (pc' := 84) X dX9_dropPush_83 rfl ?_
                refine r_istore (pc' := 86) (lc' := [(0, vR G (29, 0)), (1, vI cv), (2, vJ z53), (4, vI (r : Int)), (5, vJ (dot N (mr (M 29 24) r) (pv 7) % 1000003 * z53 % 1000003)), (7, vI 0)]) X [1, 2, 3, 4, 5, 0] dX9_dropPush_84 (by decide) rfl rfl ?_
                have L86 : ∀ (fu : Nat) (x : Nat) (Md : wM), 4 - x < fu → (x ≤ 4) → (0 < x → r ≠ y) → (∀ a b x, ¬ (a = 29 ∧ b = 24) → Md a b x = M a b x) → (∀ t j, j < 4 → Md 29 24 (4 * t + j) = if t = r ∧ j < x then (M 29 24 (4 * r + j) - ((dot N (mr (M 29 24) r) (pv 7)) % 1000003 * z53 % 1000003) * M 29 24 (4 * y + j)) % 1000003 else Ma 29 24 (4 * t + j)) → wV p l e (wrm 2 0 0) s m args below meth c G 8 Md 0 0 (MQ below (wQv G (fun M1 => (∀ a b x, ¬ (a = 29 ∧ (b = 24 ∨ (b = 0 ∧ x = 33))) → M1 a b x = M a b x) ∧ ∃ y : Nat, M1 29 0 33 = (y : Int) ∧ y ≤ kk ∧ RwOk N (M1 29 24) y ∧ ∀ u, Sp N (rws (mr (M1 29 24)) y) u ↔ meetE N (pv 7) (Sp N (rws (mr (M 29 24)) kk)) u)) args s 0 0 (wA G)) 86 [(0, vR G (29, 0)), (1, vI cv), (2, vJ z53), (4, vI (r : Int)), (5, vJ (dot N (mr (M 29 24) r) (pv 7) % 1000003 * z53 % 1000003)), (7, vI (x : Int))] [] := by
                  intro fu
                  induction fu with
                  | zero => intro x Md hfu; exact absurd hfu (Nat.not_lt_zero _)
                  | succ fu ih86 =>
                    intro x Md hfu86 hx4 hxn hfd hmd
                    refine r_iload (pc' := 88) X 5 dX9_dropPush_86 rfl rfl ?_
                    refine r_iconst (pc' := 89) X dX9_dropPush_88 rfl ?_
                    refine r_icmp_ge (pc' := 92) (tgt := 146) X dX9_dropPush_89 rfl rfl (by omega) (by omega) (fun h89 => ?_) (fun h89 => ?_)
                    · refine r_iinc (pc' := 149) (z' := ((r + 1 : Nat) : Int)) (lc' := [(0, vR G (29, 0)), (1, vI cv), (2, vJ z53), (4, vI ((r + 1 : Nat) : Int)), (5, vJ (dot N (mr (M 29 24) r) (pv 7) % 1000003 * z53 % 1000003)), (7, vI (x : Int))]) X 3 [1, 2, 3, 0, 4, 5] dX9_dropPush_146 rfl (by omega) (by decide) rfl rfl ?_
                      refine r_goto (tgt := 60) X dX9_dropPush_149 rfl ?_
                      refine w_sub (lc' := [(0, vR G (29, 0)), (1, vI cv), (2, vJ z53), (4, vI ((r + 1 : Nat) : Int))]) [0, 1, 2, 3] rfl ?_
                      exact ih60 (r + 1) Md (by omega) (by omega) hfd (fun x w1 w2 j w3 => by
                                                              rw [hmd x j w3]
                                                              by_cases e1 : x = r
                                                              · rw [if_pos (by omega), e1]
                                                              · rw [if_neg (by omega)]
                                                                exact hdn x (by omega) w2 j w3) (fun x w1 j w3 => by
                                                              rw [hmd x j w3, if_neg (by omega)]
                                                              exact hre x (by omega) j w3)
                    · refine r_iload (pc' := 94) X 3 dX9_dropPush_92 rfl rfl ?_
                      refine r_iload_n (pc' := 95) X 1 dX9_dropPush_94 rfl rfl rfl ?_
                      refine r_icmp_eq (pc' := 98) (tgt := 146) X dX9_dropPush_95 rfl rfl (by omega) (by omega) (fun h95 => ?_) (fun h95 => ?_)
                      · refine r_iinc (pc' := 149) (z' := ((r + 1 : Nat) : Int)) (lc' := [(0, vR G (29, 0)), (1, vI cv), (2, vJ z53), (4, vI ((r + 1 : Nat) : Int)), (5, vJ (dot N (mr (M 29 24) r) (pv 7) % 1000003 * z53 % 1000003)), (7, vI (x : Int))]) X 3 [1, 2, 3, 0, 4, 5] dX9_dropPush_146 rfl (by omega) (by decide) rfl rfl ?_
                        refine r_goto (tgt := 60) X dX9_dropPush_149 rfl ?_
                        refine w_sub (lc' := [(0, vR G (29, 0)), (1, vI cv), (2, vJ z53), (4, vI ((r + 1 : Nat) : Int))]) [0, 1, 2, 3] rfl ?_
                        exact ih60 (r + 1) Md (by omega) (by omega) hfd (fun x w1 w2 j w3 => by
                                                              rw [hmd x j w3]
                                                              by_cases e1 : x = r
                                                              · rw [if_pos (by omega), e1]
                                                              · rw [if_neg (by omega)]
                                                                exact hdn x (by omega) w2 j w3) (fun x w1 j w3 => by
                                                              rw [hmd x j w3, if_neg (by omega)]
                                                              exact hre x (by omega) j w3)
                      · have q1 : Md 29 24 (4 * r + x) = M 29 24 (4 * r + x) := by rw [hmd r x (by omega), if_neg (by omega)]; exact hre r (Or.inr (Nat.le_refl r)) x (by omega)
                        have q3 : Md 29 24 (4 * y + x) = M 29 24 (4 * y + x) := by rw [hmd y x (by omega), if_neg (by omega)]; exact hre y (Or.inl rfl) x (by omega)
                        have r1 := (hR r (by omega) x (by omega)).1
                        have r3 := (hR y (by omega) x (by omega)).1
                        have r4 := mul_bd (A := 1000003) (B := 1000003) (a := ((dot N (mr (M 29 24) r) (pv 7)) % 1000003 * z53 % 1000003)) (b := Md 29 24 (4 * y + x)) (by decide) (by omega) (by omega)
                        refine r_aload_n (pc' := 99) X 0 dX9_dropPush_98 rfl rfl rfl ?_
                        refine gf_29_marks (pc' := 102) X gw_999 dX9_dropPush_99 rfl ?_
                        refine r_iconst (pc' := 103) X dX9_dropPush_102 rfl ?_
                        refine r_iload (pc' := 105) X 3 dX9_dropPush_103 rfl rfl ?_
                        refine r_imul (pc' := 106) X dX9_dropPush_105 rfl ?_
                        refine r_iload (pc' := 108) X 5 dX9_dropPush_106 rfl rfl ?_
                        refine r_iadd (pc' := 109) X dX9_dropPush_108 rfl ?_
                        refine r_aload_n (pc' := 110) X 0 dX9_dropPush_109 rfl rfl rfl ?_
                        refine gf_29_marks (pc' := 113) X gw_999 dX9_dropPush_110 rfl ?_
                        refine r_iconst (pc' := 114) X dX9_dropPush_113 rfl ?_
                        refine r_iload (pc' := 116) X 3 dX9_dropPush_114 rfl rfl ?_
                        refine r_imul (pc' := 117) X dX9_dropPush_116 rfl ?_
                        refine r_iload (pc' := 119) X 5 dX9_dropPush_117 rfl rfl ?_
                        refine r_iadd (pc' := 120) X dX9_dropPush_119 rfl ?_
                        refine r_lald (i := ((4 * r) + x)) (pc' := 121) X k29_24 (by omega) (by omega) (by decide) dX9_dropPush_120 rfl ?_
                        refine r_lload (pc' := 123) X 4 dX9_dropPush_121 rfl rfl ?_
                        refine r_aload_n (pc' := 124) X 0 dX9_dropPush_123 rfl rfl rfl ?_
                        refine gf_29_marks (pc' := 127) X gw_999 dX9_dropPush_124 rfl ?_
                        refine r_iconst (pc' := 128) X dX9_dropPush_127 rfl ?_
                        refine r_iload_n (pc' := 129) X 1 dX9_dropPush_128 rfl rfl rfl ?_
                        refine r_imul (pc' := 130) X dX9_dropPush_129 rfl ?_
                        refine r_iload (pc' := 132) X 5 dX9_dropPush_130 rfl rfl ?_
                        refine r_iadd (pc' := 133) X dX9_dropPush_132 rfl ?_
                        refine r_lald (i := (4 * y + x)) (pc' := 134) X k29_24 (by omega) (by omega) (by decide) dX9_dropPush_133 rfl ?_
                        refine r_lmul (pc' := 135) X dX9_dropPush_134 rfl ?_
                        refine r_lsub (pc' := 136) X dX9_dropPush_135 rfl ?_
                        refine w_callj (pc' := 139) (st := [vI ((4 * (r : Int)) + (x : Int)), vR G (29, 24)]) (w_runS X (c_X9_residue l G Md ((Md 29 24 ((4 * r) + x)) - ((dot N (mr (M 29 24) r) (pv 7) % 1000003 * z53 % 1000003) * (Md 29 24 (4 * y + x)))) (by first | assumption | omega)) cf_X9_residue gw_1312 rfl rfl ⟨Nat.le_of_ble_eq_true rfl, Nat.le_of_ble_eq_true rfl⟩ rfl rfl (Nat.le_of_ble_eq_true rfl) ⟨Nat.le_of_ble_eq_true rfl, Nat.le_of_ble_eq_true rfl⟩ gw_1311 dX9_dropPush_136) rfl (fun z136 M6 h136 => ?_)
                        obtain rfl := h136.1.symm
                        obtain rfl := h136.2.symm
                        refine r_last (i := ((4 * r) + x)) (pc' := 140) X k29_24 (by omega) (by omega) (by decide) dX9_dropPush_139 rfl (fun M7 hM7 => ?_)
                        refine r_iinc (pc' := 143) (z' := ((x + 1 : Nat) : Int)) (lc' := [(0, vR G (29, 0)), (1, vI cv), (2, vJ z53), (4, vI (r : Int)), (5, vJ (dot N (mr (M 29 24) r) (pv 7) % 1000003 * z53 % 1000003)), (7, vI ((x + 1 : Nat) : Int))]) X 5 [1, 2, 3, 4, 5, 0] dX9_dropPush_140 rfl (by omega) (by decide) rfl rfl ?_
                        refine r_goto (tgt := 86) X dX9_dropPush_143 rfl ?_
                        exact ih86 (x + 1) M7 (by omega) (by omega) (fun _ => by omega) (fun a b z w1 => by rw [hM7]; unfold wu; rw [if_neg (by omega)]; exact hfd a b z w1) (fun t j w1 => by
                                                              rw [hM7]; unfold wu
                                                              by_cases e1 : t = r ∧ j = x
                                                              · rw [if_pos ⟨rfl, rfl, by omega⟩, if_pos (by omega), q1, q3, e1.2]
                                                              · rw [if_neg (by omega), hmd t j w1]
                                                                by_cases e2 : t = r ∧ j < x
                                                                · rw [if_pos e2, if_pos (show t = r ∧ j < x + 1 by omega)]
                                                                · rw [if_neg e2, if_neg (show ¬ (t = r ∧ j < x + 1) by omega)])
                exact L86 ((4 - 0) + 1) 0 Ma (Nat.lt_succ_self _) (by omega) (fun w1 => absurd w1 (by omega)) hfa (fun r j w1 => by rw [if_neg (by omega)])
          exact L60 ((kk - 0) + 1) 0 M (Nat.lt_succ_self _) (by omega) (fun _ _ _ _ => rfl) (fun x h => absurd h (Nat.not_lt_zero x)) (fun _ _ _ _ => rfl)
        · refine w_vret X hr dX9_dropPush_47 ?_
          try dsimp only
          refine ⟨fun _ _ _ _ => rfl, kk, hkk, Nat.le_refl kk, hR, fun u => drop_none (fun r w1 => ?_) u⟩
          rcases hcv with ⟨w2, w3⟩ | ⟨y, w2, w3, w4⟩
          · exact Z0.modz.mp (by rw [w3 r (by omega)]; exact Z0.zero)
          · omega
      · refine r_iload_n (pc' := 14) X 1 dX9_dropPush_13 rfl rfl rfl ?_
        refine r_bipush (pc' := 16) X dX9_dropPush_14 rfl rfl ?_
        refine r_icmp_ne (pc' := 19) (tgt := 33) X dX9_dropPush_16 rfl rfl (by omega) (by omega) (fun h16 => ?_) (fun h16 => ?_)
        · refine r_iload_n (pc' := 34) X 1 dX9_dropPush_33 rfl rfl rfl ?_
          refine r_istore_n (pc' := 35) (lc' := [(0, vR G (29, 0)), (1, vI cv), (2, vI (r : Int))]) X [1, 0, 2] dX9_dropPush_34 rfl (by decide) rfl rfl ?_
          refine r_iinc (pc' := 38) (z' := ((r + 1 : Nat) : Int)) (lc' := [(0, vR G (29, 0)), (1, vI cv), (2, vI ((r + 1 : Nat) : Int))]) X 2 [1, 2, 0] dX9_dropPush_35 rfl (by omega) (by decide) rfl rfl ?_
          refine r_goto (tgt := 5) X dX9_dropPush_38 rfl ?_
          exact ih5 (r + 1) cv (by omega) (by omega) (by omega) (by rcases hcv with ⟨w1, w2⟩ | ⟨y, w1, w2, w3⟩; exact absurd w1 h16; exact Or.inr ⟨y, w1, by omega, w3⟩)
        · refine r_aload_n (pc' := 20) X 0 dX9_dropPush_19 rfl rfl rfl ?_
          refine r_iload_n (pc' := 21) X 2 dX9_dropPush_20 rfl rfl rfl ?_
          refine w_callj (pc' := 24) (st := []) (w_runV X (c_X9_alongPush l G M N P pv (by first | assumption | omega) (by first | assumption | omega) r (by omega) (fun j w1 => (hR r (by omega) j w1).1)) cf_X9_alongPush k29_0 rfl gw_1341 gp_54 rfl rfl ⟨Nat.le_of_ble_eq_true rfl, Nat.le_of_ble_eq_true rfl⟩ rfl rfl (Nat.le_of_ble_eq_true rfl) ⟨Nat.le_of_ble_eq_true rfl, Nat.le_of_ble_eq_true rfl⟩ gw_1339 dX9_dropPush_21) rfl (fun z21 M8 h21 => ?_)
          obtain rfl := h21.1.symm
          obtain rfl := h21.2.symm
          refine r_lconst (pc' := 25) (z := 0) X dX9_dropPush_24 rfl rfl ?_
          refine r_lcmp (pc' := 26) X dX9_dropPush_25 (by omega) (by omega) rfl (fun z25 z25r z25l z25e z25g => ?_)
          refine r_if_eq (pc' := 29) (tgt := 33) X dX9_dropPush_26 rfl rfl (by omega) (fun h26 => ?_) (fun h26 => ?_)
          · refine r_iload_n (pc' := 34) X 1 dX9_dropPush_33 rfl rfl rfl ?_
            refine r_istore_n (pc' := 35) (lc' := [(0, vR G (29, 0)), (1, vI cv), (2, vI (r : Int))]) X [1, 0, 2] dX9_dropPush_34 rfl (by decide) rfl rfl ?_
            refine r_iinc (pc' := 38) (z' := ((r + 1 : Nat) : Int)) (lc' := [(0, vR G (29, 0)), (1, vI cv), (2, vI ((r + 1 : Nat) : Int))]) X 2 [1, 2, 0] dX9_dropPush_35 rfl (by omega) (by decide) rfl rfl ?_
            refine r_goto (tgt := 5) X dX9_dropPush_38 rfl ?_
            exact ih5 (r + 1) cv (by omega) (by omega) (by omega) (by rcases hcv with ⟨w1, w2⟩ | ⟨y, w1, w2, w3⟩; exact Or.inl ⟨w1, fun x hx => by by_cases w4 : x = r; rw [w4]; dsimp only; omega; exact w2 x (by omega)⟩; omega)
          · refine r_iload_n (pc' := 30) X 2 dX9_dropPush_29 rfl rfl rfl ?_
            refine r_goto (tgt := 34) X dX9_dropPush_30 rfl ?_
            refine r_istore_n (pc' := 35) (lc' := [(0, vR G (29, 0)), (1, vI (r : Int)), (2, vI (r : Int))]) X [1, 0, 2] dX9_dropPush_34 rfl (by decide) rfl rfl ?_
            refine r_iinc (pc' := 38) (z' := ((r + 1 : Nat) : Int)) (lc' := [(0, vR G (29, 0)), (1, vI (r : Int)), (2, vI ((r + 1 : Nat) : Int))]) X 2 [1, 2, 0] dX9_dropPush_35 rfl (by omega) (by decide) rfl rfl ?_
            refine r_goto (tgt := 5) X dX9_dropPush_38 rfl ?_
            exact ih5 (r + 1) (r : Int) (by omega) (by omega) (by omega) (Or.inr ⟨r, rfl, by omega, by dsimp only; omega⟩)
  exact L5 ((kk - 0) + 1) 0 (-9) (Nat.lt_succ_self _) (by omega) (by omega) (Or.inl ⟨rfl, fun x h => absurd h (Nat.not_lt_zero x)⟩)
