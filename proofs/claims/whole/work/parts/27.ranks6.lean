theorem cf_X4_ofPowers : wCal yX4_ofPowers cX4_ofPowers 5 (some .int) 2 := ⟨gw_391, gw_8, by decide, by decide, by rfl⟩
set_option maxRecDepth 100000 in
set_option maxHeartbeats 4000000 in
theorem c_X4_ofPowers (l : Launch) (G : wG) (M : wM) (op N P K : Nat) (hop : op = 19 ∨ op = 20) (hp : PlOk (M op) N P) (hK8 : K ≤ 8) : Met l yX4_ofPowers (gws yX4_ofPowers cX4_ofPowers 5 (some .int)) (wrm 3 0 0) (wPc G M [vR G (22, 0), vR G (op, 0), vI (K : Int)]) (wQi G (fun z M1 => ∃ k' : Nat, z = (k' : Int) ∧ k' ≤ N ∧ RankOf N (Sp N (Gp N P (M op) K)) k' ∧ ∀ a b, a ≠ 22 → a ≠ 23 → M1 a b = M a b)) 0 0 (wA G) := by
  refine wMet (lc := [(0, vR G (22, 0)), (1, vR G (op, 0)), (2, vI (K : Int))]) (by decide) (Nat.le_of_ble_eq_true rfl) rfl ?_
  intro p e s m args below meth c X hr
  have X : wX p s m args meth c G 5 "StateObserver$Ranks" cX4_ofPowers := X
  obtain ⟨hN, hN1, hN4, hP, hP1, hP3, hA, hB, hE, hC, hQ⟩ := id hp
  have o22 : op ≠ 22 := by omega
  have o23 : op ≠ 23 := by omega
  refine r_aload_n (pc' := 1) X 0 dX4_ofPowers_0 rfl rfl rfl ?_
  refine gf_22_space (pc' := 4) X gw_281 dX4_ofPowers_1 rfl ?_
  refine r_iconst (pc' := 5) X dX4_ofPowers_4 rfl ?_
  refine pf_S_rank (pc' := 8) X (by decide) gw_272 dX4_ofPowers_5 rfl (fun M1 hM1 => ?_)
  refine r_iconst (pc' := 9) X dX4_ofPowers_8 rfl ?_
  refine r_istore_n (pc' := 10) (lc' := [(0, vR G (22, 0)), (1, vR G (op, 0)), (2, vI (K : Int)), (3, vI 0)]) X [1, 2, 3, 0] dX4_ofPowers_9 rfl (by decide) rfl rfl ?_
  have L10 : ∀ (fu : Nat) (o : Nat) (Ma : wM), P - o < fu → (o ≤ P) → (∀ a b, a ≠ 22 → Ma a b = M1 a b) → (∀ x, x < o → ∀ j, j < N → Ma 22 (2 + x) j = M op (9 + x) j % 1000003) → wV p l e (wrm 3 0 0) s m args below meth c G 5 Ma 0 0 (MQ below (wQi G (fun z M1 => ∃ k' : Nat, z = (k' : Int) ∧ k' ≤ N ∧ RankOf N (Sp N (Gp N P (M op) K)) k' ∧ ∀ a b, a ≠ 22 → a ≠ 23 → M1 a b = M a b)) args s 0 0 (wA G)) 10 [(0, vR G (22, 0)), (1, vR G (op, 0)), (2, vI (K : Int)), (3, vI (o : Int))] [] := by
    intro fu
    induction fu with
    | zero => intro o Ma hfu; exact absurd hfu (Nat.not_lt_zero _)
    | succ fu ih10 =>
      intro o Ma hfu10 ho hfra hlo
      have ea : Ma op = M op := funext fun b => by rw [hfra op b o22, hM1, wu_ne (fun q => o23 q.1)]
      have ePa : Ma op 0 1 = P := by rw [ea]; exact hP
      refine r_iload_n (pc' := 11) X 3 dX4_ofPowers_10 rfl rfl rfl ?_
      refine r_aload_n (pc' := 12) X 1 dX4_ofPowers_11 rfl rfl rfl ?_
      refine gf_P_p (pc' := 15) X hop gw_41 dX4_ofPowers_12 rfl ?_
      refine r_icmp_ge (pc' := 18) (tgt := 36) X dX4_ofPowers_15 rfl rfl (by omega) (by omega) (fun h15 => ?_) (fun h15 => ?_)
      · have hbl0 : ∀ x, x < P → RowOk N (Ma 22 (2 + x)) ∧ ∀ j, j < N → Z0 (Ma 22 (2 + x) j - pw N (M op) x 0 j) := fun x hx => ⟨RowOk.mod (hlo x (by omega)), fun j hj => by rw [hlo x (by omega) j hj]; exact Z0.emod _⟩
        have hss0 : SpcOk (Ma 23) N 0 := SpcOk.empty (by rw [hfra 23 0 (by decide), hM1]; unfold wu; rw [if_pos ⟨rfl, rfl, rfl⟩])
        have hsp0 : ∀ u, Sp N (rws (fun r => Ma 23 (2 + r)) 0) u ↔ Sp N (Gp N P (M op) 0) u := rws_0 (fun u q => by obtain ⟨t, o, h, -⟩ := q; exact absurd h (Nat.not_lt_zero t))
        refine r_iconst (pc' := 37) X dX4_ofPowers_36 rfl ?_
        refine r_istore_n (pc' := 38) (lc' := [(0, vR G (22, 0)), (1, vR G (op, 0)), (2, vI (K : Int)), (3, vI 0)]) X [1, 2, 3, 0] dX4_ofPowers_37 rfl (by decide) rfl rfl ?_
        have L38 : ∀ (fu : Nat) (t : Nat) (kk : Nat) (Mb : wM), K - t < fu → (t ≤ K) → (∀ a b, a ≠ 22 → a ≠ 23 → Mb a b = M a b) → (∀ x, x < P → RowOk N (Mb 22 (2 + x)) ∧ ∀ j, j < N → Z0 (Mb 22 (2 + x) j - pw N (M op) x t j)) → (SpcOk (Mb 23) N kk) → (∀ u, Sp N (rws (fun r => Mb 23 (2 + r)) kk) u ↔ Sp N (Gp N P (M op) t) u) → wV p l e (wrm 3 0 0) s m args below meth c G 5 Mb 0 0 (MQ below (wQi G (fun z M1 => ∃ k' : Nat, z = (k' : Int) ∧ k' ≤ N ∧ RankOf N (Sp N (Gp N P (M op) K)) k' ∧ ∀ a b, a ≠ 22 → a ≠ 23 → M1 a b = M a b)) args s 0 0 (wA G)) 38 [(0, vR G (22, 0)), (1, vR G (op, 0)), (2, vI (K : Int)), (3, vI (t : Int))] [] := by
          intro fu
          induction fu with
          | zero => intro t kk Mb hfu; exact absurd hfu (Nat.not_lt_zero _)
          | succ fu ih38 =>
            intro t kk Mb hfu38 ht hfr hbl hss hsp
            refine r_iload_n (pc' := 39) X 3 dX4_ofPowers_38 rfl rfl rfl ?_
            refine r_iload_n (pc' := 40) X 2 dX4_ofPowers_39 rfl rfl rfl ?_
            refine r_icmp_ge (pc' := 43) (tgt := 108) X dX4_ofPowers_40 rfl rfl (by omega) (by omega) (fun h40 => ?_) (fun h40 => ?_)
            · refine r_aload_n (pc' := 109) X 0 dX4_ofPowers_108 rfl rfl rfl ?_
              refine gf_22_space (pc' := 112) X gw_281 dX4_ofPowers_109 rfl ?_
              refine gf_S_rank (pc' := 115) X (by decide) gw_272 dX4_ofPowers_112 rfl ?_
              refine w_eqI (z' := (kk : Int)) hss.1 ?_
              refine w_iret X hr dX4_ofPowers_115 ?_
              try dsimp only
              refine ⟨kk, rfl, hss.2.1, ⟨(fun r => Mb 23 (2 + r)), fun r => (Mb 23 6 r).toNat, hss.2.2.2.2.1, fun u => (hsp u).trans (by rw [show t = K by omega])⟩, hfr⟩
            · refine r_iconst (pc' := 44) X dX4_ofPowers_43 rfl ?_
              refine r_istore (pc' := 46) (lc' := [(0, vR G (22, 0)), (1, vR G (op, 0)), (2, vI (K : Int)), (3, vI (t : Int)), (4, vI 0)]) X [1, 2, 3, 4, 0] dX4_ofPowers_44 (by decide) rfl rfl ?_
              have L46 : ∀ (fu : Nat) (o : Nat) (kc : Nat) (Mc : wM), P - o < fu → (o ≤ P) → (∀ a b, a ≠ 22 → a ≠ 23 → Mc a b = M a b) → (∀ x, x < P → RowOk N (Mc 22 (2 + x)) ∧ ∀ j, j < N → Z0 (Mc 22 (2 + x) j - pw N (M op) x (if x < o then t + 1 else t) j)) → (SpcOk (Mc 23) N kc) → (∀ u, Sp N (rws (fun r => Mc 23 (2 + r)) kc) u ↔ Sp N (Gq N P (M op) t o) u) → wV p l e (wrm 3 0 0) s m args below meth c G 5 Mc 0 0 (MQ below (wQi G (fun z M1 => ∃ k' : Nat, z = (k' : Int) ∧ k' ≤ N ∧ RankOf N (Sp N (Gp N P (M op) K)) k' ∧ ∀ a b, a ≠ 22 → a ≠ 23 → M1 a b = M a b)) args s 0 0 (wA G)) 46 [(0, vR G (22, 0)), (1, vR G (op, 0)), (2, vI (K : Int)), (3, vI (t : Int)), (4, vI (o : Int))] [] := by
                intro fu
                induction fu with
                | zero => intro o kc Mc hfu; exact absurd hfu (Nat.not_lt_zero _)
                | succ fu ih46 =>
                  intro o kc Mc hfu46 ho hfrc hblc hssc hspc
                  have ec : Mc op = M op := funext fun b => hfrc op b o22 o23
                  have ePc : Mc op 0 1 = P := by rw [ec]; exact hP
                  refine r_iload (pc' := 48) X 4 dX4_ofPowers_46 rfl rfl ?_
                  refine r_aload_n (pc' := 49) X 1 dX4_ofPowers_48 rfl rfl rfl ?_
                  refine gf_P_p (pc' := 52) X hop gw_41 dX4_ofPowers_49 rfl ?_
                  refine r_icmp_ge (pc' := 55) (tgt := 102) X dX4_ofPowers_52 rfl rfl (by omega) (by omega) (fun h52 => ?_) (fun h52 => ?_)
                  · refine r_iinc (pc' := 105) (z' := ((t + 1 : Nat) : Int)) (lc' := [(0, vR G (22, 0)), (1, vR G (op, 0)), (2, vI (K : Int)), (3, vI ((t + 1 : Nat) : Int)), (4, vI (o : Int))]) X 3 [1, 2, 3, 0, 4] dX4_ofPowers_102 rfl (by omega) (by decide) rfl rfl ?_
                    refine r_goto (tgt := 38) X dX4_ofPowers_105 rfl ?_
                    refine w_sub (lc' := [(0, vR G (22, 0)), (1, vR G (op, 0)), (2, vI (K : Int)), (3, vI ((t + 1 : Nat) : Int))]) [0, 1, 2, 3] rfl ?_
                    exact ih38 (t + 1) kc Mc (by omega) (by omega) hfrc (fun x hx => by have := hblc x hx; rw [if_pos (show x < o by omega)] at this; exact this) hssc (fun u => (hspc u).trans (by rw [show o = P by omega]; exact Gq_m u))
                  · refine r_aload_n (pc' := 56) X 0 dX4_ofPowers_55 rfl rfl rfl ?_
                    refine gf_22_block (pc' := 59) X gw_283 dX4_ofPowers_56 rfl ?_
                    refine r_iload (pc' := 61) X 4 dX4_ofPowers_59 rfl rfl ?_
                    refine r_aald (i := o) (x := (22, (2 + o))) (pc' := 62) X k22_1 (by decide) (by omega) (by omega) (by decide) rfl dX4_ofPowers_61 rfl ?_
                    refine r_aload_n (pc' := 63) X 0 dX4_ofPowers_62 rfl rfl rfl ?_
                    refine gf_22_vector (pc' := 66) X gw_284 dX4_ofPowers_63 rfl ?_
                    refine w_callv (pc' := 69) (st := []) (w_runSN X (c_X8_copyRow_ l G Mc 22 (2 + o) 22 5 4 (k22_b (by omega)) k22_5 (by first | assumption | omega)) cf_X8_copyRow_ gw_401 rfl rfl ⟨Nat.le_of_ble_eq_true rfl, Nat.le_of_ble_eq_true rfl⟩ rfl rfl (Nat.le_of_ble_eq_true rfl) ⟨Nat.le_of_ble_eq_true rfl, Nat.le_of_ble_eq_true rfl⟩ tn_400 dX4_ofPowers_66) rfl (fun M2 h66 => ?_)
                    refine r_aload_n (pc' := 70) X 0 dX4_ofPowers_69 rfl rfl rfl ?_
                    refine gf_22_space (pc' := 73) X gw_281 dX4_ofPowers_70 rfl ?_
                    refine r_aload_n (pc' := 74) X 0 dX4_ofPowers_73 rfl rfl rfl ?_
                    refine gf_22_vector (pc' := 77) X gw_284 dX4_ofPowers_74 rfl ?_
                    refine r_aload_n (pc' := 78) X 1 dX4_ofPowers_77 rfl rfl rfl ?_
                    refine gf_P_n (pc' := 81) X hop gw_36 dX4_ofPowers_78 rfl ?_
                    refine w_eqI (z' := (N : Int)) (by rw [h66, wr_ne (fun q => o22 q.1), ec]; exact hN) ?_
                    refine w_callv (pc' := 84) (st := []) (w_runV X (c_X6_include l G M2 23 N kc (by decide) hN4 (by rw [h66, wr_o (by decide)]; exact hssc) (by rw [h66, wr_eq]; exact (hblc o (by omega)).1)) cf_X6_include (kS_0 (by decide)) rfl gw_410 gw_411 rfl rfl ⟨Nat.le_of_ble_eq_true rfl, Nat.le_of_ble_eq_true rfl⟩ rfl rfl (Nat.le_of_ble_eq_true rfl) ⟨Nat.le_of_ble_eq_true rfl, Nat.le_of_ble_eq_true rfl⟩ gw_409 dX4_ofPowers_81) rfl (fun M3 h81 => ?_)
                    obtain ⟨kc2, hi1, hi2, hi3⟩ := h81
                    have eo2 : M3 22 (2 + o) = Mc 22 (2 + o) := by rw [hi3 22 (2 + o) (by decide) (by omega), h66, wr_ne (by omega)]
                    have eop2 : M3 op = M op := funext fun b => by rw [hi3 op b o23 (fun q => o22 q.1), h66, wr_ne (fun q => o22 q.1)]; exact hfrc op b o22 o23
                    have hpo := hblc o (by omega)
                    rw [if_neg (Nat.lt_irrefl o)] at hpo
                    have hspd : ∀ u, Sp N (rws (fun r => M3 23 (2 + r)) kc2) u ↔ Sp N (Gq N P (M op) t (o + 1)) u := fun u => by
                      have q := hi2 u
                      rw [h66, wr_o (show 23 ≠ 22 by decide), wr_eq] at q
                      exact q.trans ((adj_span hspc u).trans ((adj_congr hpo.2 u).trans (Gq_s u)))
                    refine r_aload_n (pc' := 85) X 0 dX4_ofPowers_84 rfl rfl rfl ?_
                    refine r_aload_n (pc' := 86) X 1 dX4_ofPowers_85 rfl rfl rfl ?_
                    refine r_aload_n (pc' := 87) X 0 dX4_ofPowers_86 rfl rfl rfl ?_
                    refine gf_22_block (pc' := 90) X gw_283 dX4_ofPowers_87 rfl ?_
                    refine r_iload (pc' := 92) X 4 dX4_ofPowers_90 rfl rfl ?_
                    refine r_aald (i := o) (x := (22, (2 + o))) (pc' := 93) X k22_1 (by decide) (by omega) (by omega) (by decide) rfl dX4_ofPowers_92 rfl ?_
                    refine w_callv (pc' := 96) (st := []) (w_runV X (c_X4_multiply l G M3 op (2 + o) N P hop (by omega) (k22_b (show o < 3 by omega)) (by rw [eop2]; exact hp) (by rw [eo2]; exact hpo.1)) cf_X4_multiply k22_0 rfl gw_421 gp_9 rfl rfl ⟨Nat.le_of_ble_eq_true rfl, Nat.le_of_ble_eq_true rfl⟩ rfl rfl (Nat.le_of_ble_eq_true rfl) ⟨Nat.le_of_ble_eq_true rfl, Nat.le_of_ble_eq_true rfl⟩ gw_419 dX4_ofPowers_93) rfl (fun M4 h93 => ?_)
                    have hfrd : ∀ a b, a ≠ 22 → a ≠ 23 → M4 a b = M a b := fun a b h1 h2 => by rw [h93.1 a b (fun q => h1 q.1), hi3 a b h2 (fun q => h1 q.1), h66, wr_ne (fun q => h1 q.1)]; exact hfrc a b h1 h2
                    have hbld : ∀ x, x < P → RowOk N (M4 22 (2 + x)) ∧ ∀ j, j < N → Z0 (M4 22 (2 + x) j - pw N (M op) x (if x < o + 1 then t + 1 else t) j) := fun x hx => by
                      by_cases e : x = o
                      · rw [e, if_pos (Nat.lt_succ_self o)]
                        refine ⟨RowOk.mod h93.2, mulF_z (v := M3 22 (2 + o)) (by rw [eo2]; exact hpo.2) (fun j hj => by rw [h93.2 j hj, eop2])⟩
                      · rw [h93.1 22 (2 + x) (by omega), hi3 22 (2 + x) (by decide) (by omega), h66, wr_ne (by omega)]
                        have := hblc x hx
                        by_cases e2 : x < o
                        · rw [if_pos e2] at this; rw [if_pos (by omega)]; exact this
                        · rw [if_neg e2] at this; rw [if_neg (by omega)]; exact this
                    have hssd : SpcOk (M4 23) N kc2 := by rw [show M4 23 = M3 23 from funext fun b => h93.1 23 b (by omega)]; exact hi1
                    rw [show M3 23 = M4 23 from funext fun b => (h93.1 23 b (by omega)).symm] at hspd
                    refine r_iinc (pc' := 99) (z' := ((o + 1 : Nat) : Int)) (lc' := [(0, vR G (22, 0)), (1, vR G (op, 0)), (2, vI (K : Int)), (3, vI (t : Int)), (4, vI ((o + 1 : Nat) : Int))]) X 4 [1, 2, 3, 4, 0] dX4_ofPowers_96 rfl (by omega) (by decide) rfl rfl ?_
                    refine r_goto (tgt := 46) X dX4_ofPowers_99 rfl ?_
                    exact ih46 (o + 1) kc2 M4 (by omega) (by omega) hfrd hbld hssd hspd
              exact L46 ((P - 0) + 1) 0 kk Mb (Nat.lt_succ_self _) (by omega) hfr (fun x hx => by rw [if_neg (Nat.not_lt_zero x)]; exact hbl x hx) hss (fun u => (hsp u).trans (Gq_0 u))
        exact L38 ((K - 0) + 1) 0 0 Ma (Nat.lt_succ_self _) (by omega) (fun a b h1 h2 => (hfra a b h1).trans (by rw [hM1, wu_ne (by omega)])) hbl0 hss0 hsp0
      · refine r_aload_n (pc' := 19) X 0 dX4_ofPowers_18 rfl rfl rfl ?_
        refine r_aload_n (pc' := 20) X 1 dX4_ofPowers_19 rfl rfl rfl ?_
        refine r_iload_n (pc' := 21) X 3 dX4_ofPowers_20 rfl rfl rfl ?_
        refine r_aload_n (pc' := 22) X 0 dX4_ofPowers_21 rfl rfl rfl ?_
        refine gf_22_block (pc' := 25) X gw_283 dX4_ofPowers_22 rfl ?_
        refine r_iload_n (pc' := 26) X 3 dX4_ofPowers_25 rfl rfl rfl ?_
        refine r_aald (i := o) (x := (22, (2 + o))) (pc' := 27) X k22_1 (by decide) (by omega) (by omega) (by decide) rfl dX4_ofPowers_26 rfl ?_
        refine w_callv (pc' := 30) (st := []) (w_runV X (c_X4_putOutput l G Ma op o (2 + o) N P hop (by omega) (k22_b (show o < 3 by omega)) (by rw [ea]; exact hp)) cf_X4_putOutput k22_0 rfl gw_394 gp_8 rfl rfl ⟨Nat.le_of_ble_eq_true rfl, Nat.le_of_ble_eq_true rfl⟩ rfl rfl (Nat.le_of_ble_eq_true rfl) ⟨Nat.le_of_ble_eq_true rfl, Nat.le_of_ble_eq_true rfl⟩ gw_392 dX4_ofPowers_27) rfl (fun M5 h27 => ?_)
        refine r_iinc (pc' := 33) (z' := ((o + 1 : Nat) : Int)) (lc' := [(0, vR G (22, 0)), (1, vR G (op, 0)), (2, vI (K : Int)), (3, vI ((o + 1 : Nat) : Int))]) X 3 [1, 2, 3, 0] dX4_ofPowers_30 rfl (by omega) (by decide) rfl rfl ?_
        refine r_goto (tgt := 10) X dX4_ofPowers_33 rfl ?_
        exact ih10 (o + 1) M5 (by omega) (by omega) (fun a b h => (h27.1 a b (by omega)).trans (hfra a b h)) (fun x hx j hj => by by_cases e : x = o; rw [e, h27.2 j hj, ea]; rw [h27.1 22 (2 + x) (by omega)]; exact hlo x (by omega) j hj)
  exact L10 ((P - 0) + 1) 0 M1 (Nat.lt_succ_self _) (by omega) (fun _ _ _ => rfl) (fun x h => absurd h (Nat.not_lt_zero x))
theorem cf_X4_ofVisible : wCal yX4_ofVisible cX4_ofVisible 5 (some .int) 2 := ⟨gw_859, gw_8, by decide, by decide, by rfl⟩
set_option maxRecDepth 100000 in
set_option maxHeartbeats 4000000 in
theorem c_X4_ofVisible (l : Launch) (G : wG) (M : wM) (op N P K : Nat) (hop : op = 19 ∨ op = 20) (hp : PlOk (M op) N P) (hK8 : K ≤ 8) : Met l yX4_ofVisible (gws yX4_ofVisible cX4_ofVisible 5 (some .int)) (wrm 4 0 0) (wPc G M [vR G (22, 0), vR G (op, 0), vI (K : Int)]) (wQi G (fun z M1 => ∃ k' : Nat, z = (k' : Int) ∧ k' ≤ N ∧ RankOf N (Vis N P (M op) K) k' ∧ ∀ a b, a ≠ 22 → a ≠ 23 → a ≠ 24 → M1 a b = M a b)) 0 0 (wA G) := by
  refine wMet (lc := [(0, vR G (22, 0)), (1, vR G (op, 0)), (2, vI (K : Int))]) (by decide) (Nat.le_of_ble_eq_true rfl) rfl ?_
  intro p e s m args below meth c X hr
  have X : wX p s m args meth c G 5 "StateObserver$Ranks" cX4_ofVisible := X
  obtain ⟨hN, hN1, hN4, hP, hP1, hP3, hA, hB, hE, hC, hQ⟩ := id hp
  have o22 : op ≠ 22 := by omega
  have o23 : op ≠ 23 := by omega
  have o24 : op ≠ 24 := by omega
  refine r_aload_n (pc' := 1) X 0 dX4_ofVisible_0 rfl rfl rfl ?_
  refine gf_22_space (pc' := 4) X gw_281 dX4_ofVisible_1 rfl ?_
  refine r_iconst (pc' := 5) X dX4_ofVisible_4 rfl ?_
  refine pf_S_rank (pc' := 8) X (by decide) gw_272 dX4_ofVisible_5 rfl (fun M1 hM1 => ?_)
  refine r_iconst (pc' := 9) X dX4_ofVisible_8 rfl ?_
  refine r_istore_n (pc' := 10) (lc' := [(0, vR G (22, 0)), (1, vR G (op, 0)), (2, vI (K : Int)), (3, vI 0)]) X [1, 2, 3, 0] dX4_ofVisible_9 rfl (by decide) rfl rfl ?_
  have L10 : ∀ (fu : Nat) (t : Nat) (kk : Nat) (Mb : wM), K - t < fu → (t ≤ K) → (∀ a b, a ≠ 22 → a ≠ 23 → a ≠ 24 → Mb a b = M a b) → (SpcOk (Mb 23) N kk) → (∀ u, Sp N (rws (fun r => Mb 23 (2 + r)) kk) u ↔ Vis N P (M op) t u) → wV p l e (wrm 4 0 0) s m args below meth c G 5 Mb 0 0 (MQ below (wQi G (fun z M1 => ∃ k' : Nat, z = (k' : Int) ∧ k' ≤ N ∧ RankOf N (Vis N P (M op) K) k' ∧ ∀ a b, a ≠ 22 → a ≠ 23 → a ≠ 24 → M1 a b = M a b)) args s 0 0 (wA G)) 10 [(0, vR G (22, 0)), (1, vR G (op, 0)), (2, vI (K : Int)), (3, vI (t : Int))] [] := by
    intro fu
    induction fu with
    | zero => intro t kk Mb hfu; exact absurd hfu (Nat.not_lt_zero _)
    | succ fu ih10 =>
      intro t kk Mb hfu10 ht hfr hss hsp
      refine r_iload_n (pc' := 11) X 3 dX4_ofVisible_10 rfl rfl rfl ?_
      refine r_iload_n (pc' := 12) X 2 dX4_ofVisible_11 rfl rfl rfl ?_
      refine r_icmp_ge (pc' := 15) (tgt := 89) X dX4_ofVisible_12 rfl rfl (by omega) (by omega) (fun h12 => ?_) (fun h12 => ?_)
      · refine r_aload_n (pc' := 90) X 0 dX4_ofVisible_89 rfl rfl rfl ?_
        refine gf_22_space (pc' := 93) X gw_281 dX4_ofVisible_90 rfl ?_
        refine gf_S_rank (pc' := 96) X (by decide) gw_272 dX4_ofVisible_93 rfl ?_
        refine w_eqI (z' := (kk : Int)) hss.1 ?_
        refine w_iret X hr dX4_ofVisible_96 ?_
        try dsimp only
        refine ⟨kk, rfl, hss.2.1, ⟨(fun r => Mb 23 (2 + r)), fun r => (Mb 23 6 r).toNat, hss.2.2.2.2.1, fun u => (hsp u).trans (by rw [show t = K by omega])⟩, hfr⟩
      · refine r_aload_n (pc' := 16) X 0 dX4_ofVisible_15 rfl rfl rfl ?_
        refine gf_22_nextSpace (pc' := 19) X gw_282 dX4_ofVisible_16 rfl ?_
        refine r_iconst (pc' := 20) X dX4_ofVisible_19 rfl ?_
        refine pf_S_rank (pc' := 23) X (by decide) gw_272 dX4_ofVisible_20 rfl (fun M2 hM2 => ?_)
        refine r_iconst (pc' := 24) X dX4_ofVisible_23 rfl ?_
        refine r_istore (pc' := 26) (lc' := [(0, vR G (22, 0)), (1, vR G (op, 0)), (2, vI (K : Int)), (3, vI (t : Int)), (4, vI 0)]) X [1, 2, 3, 4, 0] dX4_ofVisible_24 (by decide) rfl rfl ?_
        have L26 : ∀ (fu : Nat) (o : Nat) (k2 : Nat) (Mc : wM), P - o < fu → (o ≤ P) → (∀ a b, a ≠ 22 → a ≠ 24 → Mc a b = Mb a b) → (SpcOk (Mc 24) N k2) → (∀ u, Sp N (rws (fun r => Mc 24 (2 + r)) k2) u ↔ Sp N (fun x => ∃ y, y < o ∧ x = M op (9 + y)) u) → wV p l e (wrm 4 0 0) s m args below meth c G 5 Mc 0 0 (MQ below (wQi G (fun z M1 => ∃ k' : Nat, z = (k' : Int) ∧ k' ≤ N ∧ RankOf N (Vis N P (M op) K) k' ∧ ∀ a b, a ≠ 22 → a ≠ 23 → a ≠ 24 → M1 a b = M a b)) args s 0 0 (wA G)) 26 [(0, vR G (22, 0)), (1, vR G (op, 0)), (2, vI (K : Int)), (3, vI (t : Int)), (4, vI (o : Int))] [] := by
          intro fu
          induction fu with
          | zero => intro o k2 Mc hfu; exact absurd hfu (Nat.not_lt_zero _)
          | succ fu ih26 =>
            intro o k2 Mc hfu26 ho hfrc hs2 hsp2
            have ec : Mc op = M op := funext fun b => by rw [hfrc op b o22 o24]; exact hfr op b o22 o23 o24
            have ePc : Mc op 0 1 = P := by rw [ec]; exact hP
            have e23 : Mc 23 = Mb 23 := funext fun b => hfrc 23 b (by decide) (by decide)
            refine r_iload (pc' := 28) X 4 dX4_ofVisible_26 rfl rfl ?_
            refine r_aload_n (pc' := 29) X 1 dX4_ofVisible_28 rfl rfl rfl ?_
            refine gf_P_p (pc' := 32) X hop gw_41 dX4_ofVisible_29 rfl ?_
            refine r_icmp_ge (pc' := 35) (tgt := 67) X dX4_ofVisible_32 rfl rfl (by omega) (by omega) (fun h32 => ?_) (fun h32 => ?_)
            · refine r_aload_n (pc' := 68) X 0 dX4_ofVisible_67 rfl rfl rfl ?_
              refine r_aload_n (pc' := 69) X 1 dX4_ofVisible_68 rfl rfl rfl ?_
              refine w_callv (pc' := 72) (st := []) (w_runV X (c_X4_includeEarlier l G Mc op N P kk k2 hop (by rw [ec]; exact hp) (by rw [e23]; exact hss) hs2) cf_X4_includeEarlier k22_0 rfl gw_862 gp_21 rfl rfl ⟨Nat.le_of_ble_eq_true rfl, Nat.le_of_ble_eq_true rfl⟩ rfl rfl (Nat.le_of_ble_eq_true rfl) ⟨Nat.le_of_ble_eq_true rfl, Nat.le_of_ble_eq_true rfl⟩ gw_860 dX4_ofVisible_69) rfl (fun M3 h69 => ?_)
              obtain ⟨k3, hj1, hj2, hj3⟩ := h69
              have hvis : ∀ u, Sp N (rws (fun r => M3 24 (2 + r)) k3) u ↔ Vis N P (M op) (t + 1) u := fun u => by
                have q := hj2 u
                rw [ec, e23] at q
                exact q.trans (genM_congr (A' := fun x => ∃ o, o < P ∧ x = M op (9 + o)) (V' := Vis N P (M op) t) (fun u => by rw [show o = P by omega] at hsp2; exact hsp2 u) hsp u)
              refine r_aload_n (pc' := 73) X 0 dX4_ofVisible_72 rfl rfl rfl ?_
              refine gf_22_space (pc' := 76) X gw_281 dX4_ofVisible_73 rfl ?_
              refine r_aload_n (pc' := 77) X 0 dX4_ofVisible_76 rfl rfl rfl ?_
              refine gf_22_nextSpace (pc' := 80) X gw_282 dX4_ofVisible_77 rfl ?_
              refine w_callv (pc' := 83) (st := []) (w_runV X (c_X6_copyFrom l G M3 23 24 (by decide) (by decide) (by decide)) cf_X6_copyFrom (kS_0 (by decide)) rfl gw_870 gw_871 rfl rfl ⟨Nat.le_of_ble_eq_true rfl, Nat.le_of_ble_eq_true rfl⟩ rfl rfl (Nat.le_of_ble_eq_true rfl) ⟨Nat.le_of_ble_eq_true rfl, Nat.le_of_ble_eq_true rfl⟩ gw_869 dX4_ofVisible_80) rfl (fun M4 h80 => ?_)
              have hcp := SpcOk.copy (v := M3 24) (v' := M4 23) hj1 h80.2.1 h80.2.2.1 h80.2.2.2 hN4
              refine r_iinc (pc' := 86) (z' := ((t + 1 : Nat) : Int)) (lc' := [(0, vR G (22, 0)), (1, vR G (op, 0)), (2, vI (K : Int)), (3, vI ((t + 1 : Nat) : Int)), (4, vI (o : Int))]) X 3 [1, 2, 3, 0, 4] dX4_ofVisible_83 rfl (by omega) (by decide) rfl rfl ?_
              refine r_goto (tgt := 10) X dX4_ofVisible_86 rfl ?_
              refine w_sub (lc' := [(0, vR G (22, 0)), (1, vR G (op, 0)), (2, vI (K : Int)), (3, vI ((t + 1 : Nat) : Int))]) [0, 1, 2, 3] rfl ?_
              exact ih10 (t + 1) k3 M4 (by omega) (by omega) (fun a b h1 h2 h3 => by rw [h80.1 a b h2, hj3 a b h3 (fun q => h1 q.1), hfrc a b h1 h3]; exact hfr a b h1 h2 h3) hcp.1 (fun u => (hcp.2 u).trans (hvis u))
            · refine r_aload_n (pc' := 36) X 0 dX4_ofVisible_35 rfl rfl rfl ?_
              refine r_aload_n (pc' := 37) X 1 dX4_ofVisible_36 rfl rfl rfl ?_
              refine r_iload (pc' := 39) X 4 dX4_ofVisible_37 rfl rfl ?_
              refine r_aload_n (pc' := 40) X 0 dX4_ofVisible_39 rfl rfl rfl ?_
              refine gf_22_vector (pc' := 43) X gw_284 dX4_ofVisible_40 rfl ?_
              refine w_callv (pc' := 46) (st := []) (w_runV X (c_X4_putOutput l G Mc op o 5 N P hop (by omega) k22_5 (by rw [ec]; exact hp)) cf_X4_putOutput k22_0 rfl gw_394 gp_8 rfl rfl ⟨Nat.le_of_ble_eq_true rfl, Nat.le_of_ble_eq_true rfl⟩ rfl rfl (Nat.le_of_ble_eq_true rfl) ⟨Nat.le_of_ble_eq_true rfl, Nat.le_of_ble_eq_true rfl⟩ gw_392 dX4_ofVisible_43) rfl (fun M5 h43 => ?_)
              have ed : M5 op = M op := by rw [← ec]; exact funext fun b => h43.1 op b (fun q => o22 q.1)
              have e24 : M5 24 = Mc 24 := funext fun b => h43.1 24 b (by omega)
              refine r_aload_n (pc' := 47) X 0 dX4_ofVisible_46 rfl rfl rfl ?_
              refine gf_22_nextSpace (pc' := 50) X gw_282 dX4_ofVisible_47 rfl ?_
              refine r_aload_n (pc' := 51) X 0 dX4_ofVisible_50 rfl rfl rfl ?_
              refine gf_22_vector (pc' := 54) X gw_284 dX4_ofVisible_51 rfl ?_
              refine r_aload_n (pc' := 55) X 1 dX4_ofVisible_54 rfl rfl rfl ?_
              refine gf_P_n (pc' := 58) X hop gw_36 dX4_ofVisible_55 rfl ?_
              refine w_eqI (z' := (N : Int)) (by rw [ed]; exact hN) ?_
              refine w_callv (pc' := 61) (st := []) (w_runV X (c_X6_include l G M5 24 N k2 (by decide) hN4 (by rw [e24]; exact hs2) (RowOk.mod h43.2)) cf_X6_include (kS_0 (by decide)) rfl gw_410 gw_411 rfl rfl ⟨Nat.le_of_ble_eq_true rfl, Nat.le_of_ble_eq_true rfl⟩ rfl rfl (Nat.le_of_ble_eq_true rfl) ⟨Nat.le_of_ble_eq_true rfl, Nat.le_of_ble_eq_true rfl⟩ gw_409 dX4_ofVisible_58) rfl (fun M6 h58 => ?_)
              obtain ⟨kc2, hi1, hi2, hi3⟩ := h58
              have hspd : ∀ u, Sp N (rws (fun r => M6 24 (2 + r)) kc2) u ↔ Sp N (fun x => ∃ y, y < o + 1 ∧ x = M op (9 + y)) u := fun u => by
                have q := hi2 u
                rw [e24] at q
                exact q.trans ((adj_span hsp2 u).trans ((adj_congr (fun j hj => by rw [h43.2 j hj, ec]; exact Z0.emod _) u).trans (outs_s u)))
              refine r_iinc (pc' := 64) (z' := ((o + 1 : Nat) : Int)) (lc' := [(0, vR G (22, 0)), (1, vR G (op, 0)), (2, vI (K : Int)), (3, vI (t : Int)), (4, vI ((o + 1 : Nat) : Int))]) X 4 [1, 2, 3, 4, 0] dX4_ofVisible_61 rfl (by omega) (by decide) rfl rfl ?_
              refine r_goto (tgt := 26) X dX4_ofVisible_64 rfl ?_
              exact ih26 (o + 1) kc2 M6 (by omega) (by omega) (fun a b h1 h2 => by rw [hi3 a b h2 (fun q => h1 q.1), h43.1 a b (fun q => h1 q.1)]; exact hfrc a b h1 h2) hi1 hspd
        exact L26 ((P - 0) + 1) 0 0 M2 (Nat.lt_succ_self _) (by omega) (fun a b h1 h2 => by rw [hM2, wu_ne (fun q => h2 q.1)]) (SpcOk.empty (by rw [hM2]; unfold wu; rw [if_pos ⟨rfl, rfl, rfl⟩])) (rws_0 (fun u q => by obtain ⟨y, h, -⟩ := q; exact absurd h (Nat.not_lt_zero y)))
  exact L10 ((K - 0) + 1) 0 0 M1 (Nat.lt_succ_self _) (by omega) (fun a b h1 h2 h3 => by rw [hM1, wu_ne (by omega)]) (SpcOk.empty (by rw [hM1]; unfold wu; rw [if_pos ⟨rfl, rfl, rfl⟩])) (rws_0 (fun u q => q))
