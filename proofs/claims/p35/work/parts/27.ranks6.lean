theorem cf_X4_ofPowers : wCal yX4_ofPowers cX4_ofPowers 5 (some .int) 2 := ⟨gw_647, gw_8, by decide, by decide, by rfl⟩
set_option maxRecDepth 100000 in
set_option maxHeartbeats 4000000 in
theorem c_X4_ofPowers (l : Launch) (G : wG) (M : wM) (op N P K : Nat) (hop : op = 19 ∨ op = 20) (hp : PlOk (M op) N P) (hK8 : K ≤ 8) : Met l yX4_ofPowers (gws yX4_ofPowers cX4_ofPowers 5 (some .int)) (wrm 3 0 0) (wPc G M [vR G (22, 0), vR G (op, 0), vI (K : Int)]) (wQi G (fun z M1 => ∃ k' : Nat, z = (k' : Int) ∧ k' ≤ N ∧ RankOf N (Sp N (Gp N P (M op) K)) k' ∧ ∀ a b, a ≠ 22 → a ≠ 23 → M1 a b = M a b)) 0 0 (wA G) := by
  refine wMet (lc := [(0, vR G (22, 0)), (1, vR G (op, 0)), (2, vI (K : Int))]) (by decide) (Nat.le_of_ble_eq_true rfl) rfl ?_
  intro p e s m args below meth c X hr
  have X : wX p s m args meth c G 5 "StateObserver$Ranks" cX4_ofPowers := X
  obtain ⟨hN, hN1, hN4, hP, hP1, hP3, hA, hB, hE, hC, hQ⟩ := id hp
  have o22 : op ≠ 22 := by omega
  have o23 : op ≠ 23 := by omega
  refine r_aload_n (pc' := 1) X 0 dX4_ofPowers_0 rfl rfl rfl ?_
  refine gf_22_space (pc' := 4) X gw_277 dX4_ofPowers_1 rfl ?_
  refine w_callv (pc' := 7) (st := []) (w_runV X (c_X6_clear l G M 23 (by decide)) cf_X6_clear (kS_0 (by decide)) rfl gw_649 gw_650 rfl rfl ⟨Nat.le_of_ble_eq_true rfl, Nat.le_of_ble_eq_true rfl⟩ rfl rfl (Nat.le_of_ble_eq_true rfl) ⟨Nat.le_of_ble_eq_true rfl, Nat.le_of_ble_eq_true rfl⟩ gw_648 dX4_ofPowers_4) rfl (fun M1 h4 => ?_)
  refine r_iconst (pc' := 8) X dX4_ofPowers_7 rfl ?_
  refine r_istore_n (pc' := 9) (lc' := [(0, vR G (22, 0)), (1, vR G (op, 0)), (2, vI (K : Int)), (3, vI 0)]) X [1, 2, 3, 0] dX4_ofPowers_8 rfl (by decide) rfl rfl ?_
  have L9 : ∀ (fu : Nat) (o : Nat) (Ma : wM), P - o < fu → (o ≤ P) → (∀ a b, a ≠ 22 → Ma a b = M1 a b) → (∀ x, x < o → ∀ j, j < N → Ma 22 (2 + x) j = M op (9 + x) j % 1000003) → wV p l e (wrm 3 0 0) s m args below meth c G 5 Ma 0 0 (MQ below (wQi G (fun z M1 => ∃ k' : Nat, z = (k' : Int) ∧ k' ≤ N ∧ RankOf N (Sp N (Gp N P (M op) K)) k' ∧ ∀ a b, a ≠ 22 → a ≠ 23 → M1 a b = M a b)) args s 0 0 (wA G)) 9 [(0, vR G (22, 0)), (1, vR G (op, 0)), (2, vI (K : Int)), (3, vI (o : Int))] [] := by
    intro fu
    induction fu with
    | zero => intro o Ma hfu; exact absurd hfu (Nat.not_lt_zero _)
    | succ fu ih9 =>
      intro o Ma hfu9 ho hfra hlo
      have ea : Ma op = M op := funext fun b => by rw [hfra op b o22, h4.1 op b o23]
      have ePa : Ma op 0 1 = P := by rw [ea]; exact hP
      refine r_iload_n (pc' := 10) X 3 dX4_ofPowers_9 rfl rfl rfl ?_
      refine r_aload_n (pc' := 11) X 1 dX4_ofPowers_10 rfl rfl rfl ?_
      refine gf_P_p (pc' := 14) X hop gw_40 dX4_ofPowers_11 rfl ?_
      refine r_icmp_ge (pc' := 17) (tgt := 35) X dX4_ofPowers_14 rfl rfl (by omega) (by omega) (fun h14 => ?_) (fun h14 => ?_)
      · have hbl0 : ∀ x, x < P → RowOk N (Ma 22 (2 + x)) ∧ ∀ j, j < N → Z0 (Ma 22 (2 + x) j - pw N (M op) x 0 j) := fun x hx => ⟨RowOk.mod (hlo x (by omega)), fun j hj => by rw [hlo x (by omega) j hj]; exact Z0.emod _⟩
        have hss0 : SpcOk (Ma 23) N 0 := SpcOk.empty hN4 (by rw [hfra 23 0 (by decide)]; exact h4.2.1) (fun r i h1 h2 => by rw [hfra 23 _ (by decide)]; exact h4.2.2 r i h1 h2)
        have hsp0 : ∀ u, Sp N (rws (fun r => Ma 23 (2 + r)) N) u ↔ Sp N (Gp N P (M op) 0) u := rws_z hN4 (fun r i h1 h2 => by rw [hfra 23 _ (by decide)]; exact h4.2.2 r i h1 h2) (fun u q => by obtain ⟨t, o, h, -⟩ := q; exact absurd h (Nat.not_lt_zero t))
        refine r_iconst (pc' := 36) X dX4_ofPowers_35 rfl ?_
        refine r_istore_n (pc' := 37) (lc' := [(0, vR G (22, 0)), (1, vR G (op, 0)), (2, vI (K : Int)), (3, vI 0)]) X [1, 2, 3, 0] dX4_ofPowers_36 rfl (by decide) rfl rfl ?_
        have L37 : ∀ (fu : Nat) (t : Nat) (kk : Nat) (Mb : wM), K - t < fu → (t ≤ K) → (∀ a b, a ≠ 22 → a ≠ 23 → Mb a b = M a b) → (∀ x, x < P → RowOk N (Mb 22 (2 + x)) ∧ ∀ j, j < N → Z0 (Mb 22 (2 + x) j - pw N (M op) x t j)) → (SpcOk (Mb 23) N kk) → (∀ u, Sp N (rws (fun r => Mb 23 (2 + r)) N) u ↔ Sp N (Gp N P (M op) t) u) → wV p l e (wrm 3 0 0) s m args below meth c G 5 Mb 0 0 (MQ below (wQi G (fun z M1 => ∃ k' : Nat, z = (k' : Int) ∧ k' ≤ N ∧ RankOf N (Sp N (Gp N P (M op) K)) k' ∧ ∀ a b, a ≠ 22 → a ≠ 23 → M1 a b = M a b)) args s 0 0 (wA G)) 37 [(0, vR G (22, 0)), (1, vR G (op, 0)), (2, vI (K : Int)), (3, vI (t : Int))] [] := by
          intro fu
          induction fu with
          | zero => intro t kk Mb hfu; exact absurd hfu (Nat.not_lt_zero _)
          | succ fu ih37 =>
            intro t kk Mb hfu37 ht hfr hbl hss hsp
            refine r_iload_n (pc' := 38) X 3 dX4_ofPowers_37 rfl rfl rfl ?_
            refine r_iload_n (pc' := 39) X 2 dX4_ofPowers_38 rfl rfl rfl ?_
            refine r_icmp_ge (pc' := 42) (tgt := 107) X dX4_ofPowers_39 rfl rfl (by omega) (by omega) (fun h39 => ?_) (fun h39 => ?_)
            · refine r_aload_n (pc' := 108) X 0 dX4_ofPowers_107 rfl rfl rfl ?_
              refine gf_22_space (pc' := 111) X gw_277 dX4_ofPowers_108 rfl ?_
              refine gf_S_rank (pc' := 114) X (by decide) gw_270 dX4_ofPowers_111 rfl ?_
              refine w_eqI (z' := (kk : Int)) hss.1 ?_
              refine w_iret X hr dX4_ofPowers_114 ?_
              try dsimp only
              have hrk := hss.rank hsp
              rw [show t = K by omega] at hrk
              exact ⟨kk, rfl, hrk.1, hrk.2, hfr⟩
            · refine r_iconst (pc' := 43) X dX4_ofPowers_42 rfl ?_
              refine r_istore (pc' := 45) (lc' := [(0, vR G (22, 0)), (1, vR G (op, 0)), (2, vI (K : Int)), (3, vI (t : Int)), (4, vI 0)]) X [1, 2, 3, 4, 0] dX4_ofPowers_43 (by decide) rfl rfl ?_
              have L45 : ∀ (fu : Nat) (o : Nat) (kc : Nat) (Mc : wM), P - o < fu → (o ≤ P) → (∀ a b, a ≠ 22 → a ≠ 23 → Mc a b = M a b) → (∀ x, x < P → RowOk N (Mc 22 (2 + x)) ∧ ∀ j, j < N → Z0 (Mc 22 (2 + x) j - pw N (M op) x (if x < o then t + 1 else t) j)) → (SpcOk (Mc 23) N kc) → (∀ u, Sp N (rws (fun r => Mc 23 (2 + r)) N) u ↔ Sp N (Gq N P (M op) t o) u) → wV p l e (wrm 3 0 0) s m args below meth c G 5 Mc 0 0 (MQ below (wQi G (fun z M1 => ∃ k' : Nat, z = (k' : Int) ∧ k' ≤ N ∧ RankOf N (Sp N (Gp N P (M op) K)) k' ∧ ∀ a b, a ≠ 22 → a ≠ 23 → M1 a b = M a b)) args s 0 0 (wA G)) 45 [(0, vR G (22, 0)), (1, vR G (op, 0)), (2, vI (K : Int)), (3, vI (t : Int)), (4, vI (o : Int))] [] := by
                intro fu
                induction fu with
                | zero => intro o kc Mc hfu; exact absurd hfu (Nat.not_lt_zero _)
                | succ fu ih45 =>
                  intro o kc Mc hfu45 ho hfrc hblc hssc hspc
                  have ec : Mc op = M op := funext fun b => hfrc op b o22 o23
                  have ePc : Mc op 0 1 = P := by rw [ec]; exact hP
                  refine r_iload (pc' := 47) X 4 dX4_ofPowers_45 rfl rfl ?_
                  refine r_aload_n (pc' := 48) X 1 dX4_ofPowers_47 rfl rfl rfl ?_
                  refine gf_P_p (pc' := 51) X hop gw_40 dX4_ofPowers_48 rfl ?_
                  refine r_icmp_ge (pc' := 54) (tgt := 101) X dX4_ofPowers_51 rfl rfl (by omega) (by omega) (fun h51 => ?_) (fun h51 => ?_)
                  · refine r_iinc (pc' := 104) (z' := ((t + 1 : Nat) : Int)) (lc' := [(0, vR G (22, 0)), (1, vR G (op, 0)), (2, vI (K : Int)), (3, vI ((t + 1 : Nat) : Int)), (4, vI (o : Int))]) X 3 [1, 2, 3, 0, 4] dX4_ofPowers_101 rfl (by omega) (by decide) rfl rfl ?_
                    refine r_goto (tgt := 37) X dX4_ofPowers_104 rfl ?_
                    refine w_sub (lc' := [(0, vR G (22, 0)), (1, vR G (op, 0)), (2, vI (K : Int)), (3, vI ((t + 1 : Nat) : Int))]) [0, 1, 2, 3] rfl ?_
                    exact ih37 (t + 1) kc Mc (by omega) (by omega) hfrc (fun x hx => by have := hblc x hx; rw [if_pos (show x < o by omega)] at this; exact this) hssc (fun u => (hspc u).trans (by rw [show o = P by omega]; exact Gq_m u))
                  · refine r_aload_n (pc' := 55) X 0 dX4_ofPowers_54 rfl rfl rfl ?_
                    refine gf_22_block (pc' := 58) X gw_279 dX4_ofPowers_55 rfl ?_
                    refine r_iload (pc' := 60) X 4 dX4_ofPowers_58 rfl rfl ?_
                    refine r_aald (i := o) (x := (22, (2 + o))) (pc' := 61) X k22_1 (by decide) (by omega) (by omega) (by decide) rfl dX4_ofPowers_60 rfl ?_
                    refine r_aload_n (pc' := 62) X 0 dX4_ofPowers_61 rfl rfl rfl ?_
                    refine gf_22_vector (pc' := 65) X gw_280 dX4_ofPowers_62 rfl ?_
                    refine w_callv (pc' := 68) (st := []) (w_runSN X (c_X8_copyRow_ l G Mc 22 (2 + o) 22 5 4 (k22_b (by omega)) k22_5 (by first | assumption | omega)) cf_X8_copyRow_ gw_661 rfl rfl ⟨Nat.le_of_ble_eq_true rfl, Nat.le_of_ble_eq_true rfl⟩ rfl rfl (Nat.le_of_ble_eq_true rfl) ⟨Nat.le_of_ble_eq_true rfl, Nat.le_of_ble_eq_true rfl⟩ tn_660 dX4_ofPowers_65) rfl (fun M2 h65 => ?_)
                    refine r_aload_n (pc' := 69) X 0 dX4_ofPowers_68 rfl rfl rfl ?_
                    refine gf_22_space (pc' := 72) X gw_277 dX4_ofPowers_69 rfl ?_
                    refine r_aload_n (pc' := 73) X 0 dX4_ofPowers_72 rfl rfl rfl ?_
                    refine gf_22_vector (pc' := 76) X gw_280 dX4_ofPowers_73 rfl ?_
                    refine r_aload_n (pc' := 77) X 1 dX4_ofPowers_76 rfl rfl rfl ?_
                    refine gf_P_n (pc' := 80) X hop gw_35 dX4_ofPowers_77 rfl ?_
                    refine w_eqI (z' := (N : Int)) (by rw [h65, wr_ne (fun q => o22 q.1), ec]; exact hN) ?_
                    refine w_callv (pc' := 83) (st := []) (w_runV X (c_X6_include l G M2 23 N kc (by decide) hN4 (by rw [h65, wr_o (by decide)]; exact hssc) (by rw [h65, wr_eq]; exact (hblc o (by omega)).1)) cf_X6_include (kS_0 (by decide)) rfl gw_664 gw_665 rfl rfl ⟨Nat.le_of_ble_eq_true rfl, Nat.le_of_ble_eq_true rfl⟩ rfl rfl (Nat.le_of_ble_eq_true rfl) ⟨Nat.le_of_ble_eq_true rfl, Nat.le_of_ble_eq_true rfl⟩ gw_663 dX4_ofPowers_80) rfl (fun M3 h80 => ?_)
                    obtain ⟨kc2, hi1, hi2, hi3⟩ := h80
                    have eo2 : M3 22 (2 + o) = Mc 22 (2 + o) := by rw [hi3 22 (2 + o) (by decide) (by omega), h65, wr_ne (by omega)]
                    have eop2 : M3 op = M op := funext fun b => by rw [hi3 op b o23 (fun q => o22 q.1), h65, wr_ne (fun q => o22 q.1)]; exact hfrc op b o22 o23
                    have hpo := hblc o (by omega)
                    rw [if_neg (Nat.lt_irrefl o)] at hpo
                    have hspd : ∀ u, Sp N (rws (fun r => M3 23 (2 + r)) N) u ↔ Sp N (Gq N P (M op) t (o + 1)) u := fun u => by
                      have q := hi2 u
                      rw [h65, wr_o (show 23 ≠ 22 by decide), wr_eq] at q
                      exact q.trans ((adj_span hspc u).trans ((adj_congr hpo.2 u).trans (Gq_s u)))
                    refine r_aload_n (pc' := 84) X 0 dX4_ofPowers_83 rfl rfl rfl ?_
                    refine r_aload_n (pc' := 85) X 1 dX4_ofPowers_84 rfl rfl rfl ?_
                    refine r_aload_n (pc' := 86) X 0 dX4_ofPowers_85 rfl rfl rfl ?_
                    refine gf_22_block (pc' := 89) X gw_279 dX4_ofPowers_86 rfl ?_
                    refine r_iload (pc' := 91) X 4 dX4_ofPowers_89 rfl rfl ?_
                    refine r_aald (i := o) (x := (22, (2 + o))) (pc' := 92) X k22_1 (by decide) (by omega) (by omega) (by decide) rfl dX4_ofPowers_91 rfl ?_
                    refine w_callv (pc' := 95) (st := []) (w_runV X (c_X4_multiply l G M3 op (2 + o) N P hop (by omega) (k22_b (show o < 3 by omega)) (by rw [eop2]; exact hp) (by rw [eo2]; exact hpo.1)) cf_X4_multiply k22_0 rfl gw_675 gp_13 rfl rfl ⟨Nat.le_of_ble_eq_true rfl, Nat.le_of_ble_eq_true rfl⟩ rfl rfl (Nat.le_of_ble_eq_true rfl) ⟨Nat.le_of_ble_eq_true rfl, Nat.le_of_ble_eq_true rfl⟩ gw_673 dX4_ofPowers_92) rfl (fun M4 h92 => ?_)
                    have hfrd : ∀ a b, a ≠ 22 → a ≠ 23 → M4 a b = M a b := fun a b h1 h2 => by rw [h92.1 a b (fun q => h1 q.1), hi3 a b h2 (fun q => h1 q.1), h65, wr_ne (fun q => h1 q.1)]; exact hfrc a b h1 h2
                    have hbld : ∀ x, x < P → RowOk N (M4 22 (2 + x)) ∧ ∀ j, j < N → Z0 (M4 22 (2 + x) j - pw N (M op) x (if x < o + 1 then t + 1 else t) j) := fun x hx => by
                      by_cases e : x = o
                      · rw [e, if_pos (Nat.lt_succ_self o)]
                        refine ⟨RowOk.mod h92.2, mulF_z (v := M3 22 (2 + o)) (by rw [eo2]; exact hpo.2) (fun j hj => by rw [h92.2 j hj, eop2])⟩
                      · rw [h92.1 22 (2 + x) (by omega), hi3 22 (2 + x) (by decide) (by omega), h65, wr_ne (by omega)]
                        have := hblc x hx
                        by_cases e2 : x < o
                        · rw [if_pos e2] at this; rw [if_pos (by omega)]; exact this
                        · rw [if_neg e2] at this; rw [if_neg (by omega)]; exact this
                    have hssd : SpcOk (M4 23) N kc2 := by rw [show M4 23 = M3 23 from funext fun b => h92.1 23 b (by omega)]; exact hi1
                    rw [show M3 23 = M4 23 from funext fun b => (h92.1 23 b (by omega)).symm] at hspd
                    refine r_iinc (pc' := 98) (z' := ((o + 1 : Nat) : Int)) (lc' := [(0, vR G (22, 0)), (1, vR G (op, 0)), (2, vI (K : Int)), (3, vI (t : Int)), (4, vI ((o + 1 : Nat) : Int))]) X 4 [1, 2, 3, 4, 0] dX4_ofPowers_95 rfl (by omega) (by decide) rfl rfl ?_
                    refine r_goto (tgt := 45) X dX4_ofPowers_98 rfl ?_
                    exact ih45 (o + 1) kc2 M4 (by omega) (by omega) hfrd hbld hssd hspd
              exact L45 ((P - 0) + 1) 0 kk Mb (Nat.lt_succ_self _) (by omega) hfr (fun x hx => by rw [if_neg (Nat.not_lt_zero x)]; exact hbl x hx) hss (fun u => (hsp u).trans (Gq_0 u))
        exact L37 ((K - 0) + 1) 0 0 Ma (Nat.lt_succ_self _) (by omega) (fun a b h1 h2 => (hfra a b h1).trans (h4.1 a b h2)) hbl0 hss0 hsp0
      · refine r_aload_n (pc' := 18) X 0 dX4_ofPowers_17 rfl rfl rfl ?_
        refine r_aload_n (pc' := 19) X 1 dX4_ofPowers_18 rfl rfl rfl ?_
        refine r_iload_n (pc' := 20) X 3 dX4_ofPowers_19 rfl rfl rfl ?_
        refine r_aload_n (pc' := 21) X 0 dX4_ofPowers_20 rfl rfl rfl ?_
        refine gf_22_block (pc' := 24) X gw_279 dX4_ofPowers_21 rfl ?_
        refine r_iload_n (pc' := 25) X 3 dX4_ofPowers_24 rfl rfl rfl ?_
        refine r_aald (i := o) (x := (22, (2 + o))) (pc' := 26) X k22_1 (by decide) (by omega) (by omega) (by decide) rfl dX4_ofPowers_25 rfl ?_
        refine w_callv (pc' := 29) (st := []) (w_runV X (c_X4_putOutput l G Ma op o (2 + o) N P hop (by omega) (k22_b (show o < 3 by omega)) (by rw [ea]; exact hp)) cf_X4_putOutput k22_0 rfl gw_654 gp_12 rfl rfl ⟨Nat.le_of_ble_eq_true rfl, Nat.le_of_ble_eq_true rfl⟩ rfl rfl (Nat.le_of_ble_eq_true rfl) ⟨Nat.le_of_ble_eq_true rfl, Nat.le_of_ble_eq_true rfl⟩ gw_652 dX4_ofPowers_26) rfl (fun M5 h26 => ?_)
        refine r_iinc (pc' := 32) (z' := ((o + 1 : Nat) : Int)) (lc' := [(0, vR G (22, 0)), (1, vR G (op, 0)), (2, vI (K : Int)), (3, vI ((o + 1 : Nat) : Int))]) X 3 [1, 2, 3, 0] dX4_ofPowers_29 rfl (by omega) (by decide) rfl rfl ?_
        refine r_goto (tgt := 9) X dX4_ofPowers_32 rfl ?_
        exact ih9 (o + 1) M5 (by omega) (by omega) (fun a b h => (h26.1 a b (by omega)).trans (hfra a b h)) (fun x hx j hj => by by_cases e : x = o; rw [e, h26.2 j hj, ea]; rw [h26.1 22 (2 + x) (by omega)]; exact hlo x (by omega) j hj)
  exact L9 ((P - 0) + 1) 0 M1 (Nat.lt_succ_self _) (by omega) (fun _ _ _ => rfl) (fun x h => absurd h (Nat.not_lt_zero x))
theorem cf_X4_ofVisible : wCal yX4_ofVisible cX4_ofVisible 5 (some .int) 2 := ⟨gw_887, gw_8, by decide, by decide, by rfl⟩
set_option maxRecDepth 100000 in
set_option maxHeartbeats 4000000 in
theorem c_X4_ofVisible (l : Launch) (G : wG) (M : wM) (op N P K : Nat) (hop : op = 19 ∨ op = 20) (hp : PlOk (M op) N P) (hK8 : K ≤ 8) : Met l yX4_ofVisible (gws yX4_ofVisible cX4_ofVisible 5 (some .int)) (wrm 4 0 0) (wPc G M [vR G (22, 0), vR G (op, 0), vI (K : Int)]) (wQi G (fun z M1 => ∃ k' : Nat, z = (k' : Int) ∧ k' ≤ N ∧ RankOf N (Vis N P (M op) K) k' ∧ ∀ a b, a ≠ 22 → a ≠ 23 → a ≠ 24 → M1 a b = M a b)) 0 0 (wA G) := by
  refine wMet (lc := [(0, vR G (22, 0)), (1, vR G (op, 0)), (2, vI (K : Int))]) (by decide) (Nat.le_of_ble_eq_true rfl) rfl ?_
  intro p e s m args below meth c X hr
  have X : wX p s m args meth c G 5 "StateObserver$Ranks" cX4_ofVisible := X
  obtain ⟨hN, hN1, hN4, hP, hP1, hP3, hA, hB, hE, hC, hQ⟩ := id hp
  have o22 : op ≠ 22 := by omega
  have o23 : op ≠ 23 := by omega
  have o24 : op ≠ 24 := by omega
  refine r_aload_n (pc' := 1) X 0 dX4_ofVisible_0 rfl rfl rfl ?_
  refine gf_22_space (pc' := 4) X gw_277 dX4_ofVisible_1 rfl ?_
  refine w_callv (pc' := 7) (st := []) (w_runV X (c_X6_clear l G M 23 (by decide)) cf_X6_clear (kS_0 (by decide)) rfl gw_649 gw_650 rfl rfl ⟨Nat.le_of_ble_eq_true rfl, Nat.le_of_ble_eq_true rfl⟩ rfl rfl (Nat.le_of_ble_eq_true rfl) ⟨Nat.le_of_ble_eq_true rfl, Nat.le_of_ble_eq_true rfl⟩ gw_648 dX4_ofVisible_4) rfl (fun M1 h4 => ?_)
  refine r_iconst (pc' := 8) X dX4_ofVisible_7 rfl ?_
  refine r_istore_n (pc' := 9) (lc' := [(0, vR G (22, 0)), (1, vR G (op, 0)), (2, vI (K : Int)), (3, vI 0)]) X [1, 2, 3, 0] dX4_ofVisible_8 rfl (by decide) rfl rfl ?_
  have L9 : ∀ (fu : Nat) (t : Nat) (kk : Nat) (Mb : wM), K - t < fu → (t ≤ K) → (∀ a b, a ≠ 22 → a ≠ 23 → a ≠ 24 → Mb a b = M a b) → (SpcOk (Mb 23) N kk) → (∀ u, Sp N (rws (fun r => Mb 23 (2 + r)) N) u ↔ Vis N P (M op) t u) → wV p l e (wrm 4 0 0) s m args below meth c G 5 Mb 0 0 (MQ below (wQi G (fun z M1 => ∃ k' : Nat, z = (k' : Int) ∧ k' ≤ N ∧ RankOf N (Vis N P (M op) K) k' ∧ ∀ a b, a ≠ 22 → a ≠ 23 → a ≠ 24 → M1 a b = M a b)) args s 0 0 (wA G)) 9 [(0, vR G (22, 0)), (1, vR G (op, 0)), (2, vI (K : Int)), (3, vI (t : Int))] [] := by
    intro fu
    induction fu with
    | zero => intro t kk Mb hfu; exact absurd hfu (Nat.not_lt_zero _)
    | succ fu ih9 =>
      intro t kk Mb hfu9 ht hfr hss hsp
      refine r_iload_n (pc' := 10) X 3 dX4_ofVisible_9 rfl rfl rfl ?_
      refine r_iload_n (pc' := 11) X 2 dX4_ofVisible_10 rfl rfl rfl ?_
      refine r_icmp_ge (pc' := 14) (tgt := 87) X dX4_ofVisible_11 rfl rfl (by omega) (by omega) (fun h11 => ?_) (fun h11 => ?_)
      · refine r_aload_n (pc' := 88) X 0 dX4_ofVisible_87 rfl rfl rfl ?_
        refine gf_22_space (pc' := 91) X gw_277 dX4_ofVisible_88 rfl ?_
        refine gf_S_rank (pc' := 94) X (by decide) gw_270 dX4_ofVisible_91 rfl ?_
        refine w_eqI (z' := (kk : Int)) hss.1 ?_
        refine w_iret X hr dX4_ofVisible_94 ?_
        try dsimp only
        have hrk := hss.rank hsp
        rw [show t = K by omega] at hrk
        exact ⟨kk, rfl, hrk.1, hrk.2, hfr⟩
      · refine r_aload_n (pc' := 15) X 0 dX4_ofVisible_14 rfl rfl rfl ?_
        refine gf_22_nextSpace (pc' := 18) X gw_278 dX4_ofVisible_15 rfl ?_
        refine w_callv (pc' := 21) (st := []) (w_runV X (c_X6_clear l G Mb 24 (by decide)) cf_X6_clear (kS_0 (by decide)) rfl gw_649 gw_650 rfl rfl ⟨Nat.le_of_ble_eq_true rfl, Nat.le_of_ble_eq_true rfl⟩ rfl rfl (Nat.le_of_ble_eq_true rfl) ⟨Nat.le_of_ble_eq_true rfl, Nat.le_of_ble_eq_true rfl⟩ gw_648 dX4_ofVisible_18) rfl (fun M2 h18 => ?_)
        refine r_iconst (pc' := 22) X dX4_ofVisible_21 rfl ?_
        refine r_istore (pc' := 24) (lc' := [(0, vR G (22, 0)), (1, vR G (op, 0)), (2, vI (K : Int)), (3, vI (t : Int)), (4, vI 0)]) X [1, 2, 3, 4, 0] dX4_ofVisible_22 (by decide) rfl rfl ?_
        have L24 : ∀ (fu : Nat) (o : Nat) (k2 : Nat) (Mc : wM), P - o < fu → (o ≤ P) → (∀ a b, a ≠ 22 → a ≠ 24 → Mc a b = Mb a b) → (SpcOk (Mc 24) N k2) → (∀ u, Sp N (rws (fun r => Mc 24 (2 + r)) N) u ↔ Sp N (fun x => ∃ y, y < o ∧ x = M op (9 + y)) u) → wV p l e (wrm 4 0 0) s m args below meth c G 5 Mc 0 0 (MQ below (wQi G (fun z M1 => ∃ k' : Nat, z = (k' : Int) ∧ k' ≤ N ∧ RankOf N (Vis N P (M op) K) k' ∧ ∀ a b, a ≠ 22 → a ≠ 23 → a ≠ 24 → M1 a b = M a b)) args s 0 0 (wA G)) 24 [(0, vR G (22, 0)), (1, vR G (op, 0)), (2, vI (K : Int)), (3, vI (t : Int)), (4, vI (o : Int))] [] := by
          intro fu
          induction fu with
          | zero => intro o k2 Mc hfu; exact absurd hfu (Nat.not_lt_zero _)
          | succ fu ih24 =>
            intro o k2 Mc hfu24 ho hfrc hs2 hsp2
            have ec : Mc op = M op := funext fun b => by rw [hfrc op b o22 o24]; exact hfr op b o22 o23 o24
            have ePc : Mc op 0 1 = P := by rw [ec]; exact hP
            have e23 : Mc 23 = Mb 23 := funext fun b => hfrc 23 b (by decide) (by decide)
            refine r_iload (pc' := 26) X 4 dX4_ofVisible_24 rfl rfl ?_
            refine r_aload_n (pc' := 27) X 1 dX4_ofVisible_26 rfl rfl rfl ?_
            refine gf_P_p (pc' := 30) X hop gw_40 dX4_ofVisible_27 rfl ?_
            refine r_icmp_ge (pc' := 33) (tgt := 65) X dX4_ofVisible_30 rfl rfl (by omega) (by omega) (fun h30 => ?_) (fun h30 => ?_)
            · refine r_aload_n (pc' := 66) X 0 dX4_ofVisible_65 rfl rfl rfl ?_
              refine r_aload_n (pc' := 67) X 1 dX4_ofVisible_66 rfl rfl rfl ?_
              refine w_callv (pc' := 70) (st := []) (w_runV X (c_X4_includeEarlier l G Mc op N P kk k2 hop (by rw [ec]; exact hp) (by rw [e23]; exact hss) hs2) cf_X4_includeEarlier k22_0 rfl gw_890 gp_21 rfl rfl ⟨Nat.le_of_ble_eq_true rfl, Nat.le_of_ble_eq_true rfl⟩ rfl rfl (Nat.le_of_ble_eq_true rfl) ⟨Nat.le_of_ble_eq_true rfl, Nat.le_of_ble_eq_true rfl⟩ gw_888 dX4_ofVisible_67) rfl (fun M3 h67 => ?_)
              obtain ⟨k3, hj1, hj2, hj3⟩ := h67
              have hvis : ∀ u, Sp N (rws (fun r => M3 24 (2 + r)) N) u ↔ Vis N P (M op) (t + 1) u := fun u => by
                have q := hj2 u
                rw [ec, e23] at q
                exact q.trans (genM_congr (A' := fun x => ∃ o, o < P ∧ x = M op (9 + o)) (V' := Vis N P (M op) t) (fun u => by rw [show o = P by omega] at hsp2; exact hsp2 u) hsp u)
              refine r_aload_n (pc' := 71) X 0 dX4_ofVisible_70 rfl rfl rfl ?_
              refine gf_22_space (pc' := 74) X gw_277 dX4_ofVisible_71 rfl ?_
              refine r_aload_n (pc' := 75) X 0 dX4_ofVisible_74 rfl rfl rfl ?_
              refine gf_22_nextSpace (pc' := 78) X gw_278 dX4_ofVisible_75 rfl ?_
              refine w_callv (pc' := 81) (st := []) (w_runV X (c_X6_copyFrom l G M3 23 24 (by decide) (by decide) (by decide)) cf_X6_copyFrom (kS_0 (by decide)) rfl gw_898 gw_899 rfl rfl ⟨Nat.le_of_ble_eq_true rfl, Nat.le_of_ble_eq_true rfl⟩ rfl rfl (Nat.le_of_ble_eq_true rfl) ⟨Nat.le_of_ble_eq_true rfl, Nat.le_of_ble_eq_true rfl⟩ gw_897 dX4_ofVisible_78) rfl (fun M4 h78 => ?_)
              have hcp := SpcOk.copy (v := M3 24) (v' := M4 23) hj1 h78.2.1 h78.2.2 hN4
              refine r_iinc (pc' := 84) (z' := ((t + 1 : Nat) : Int)) (lc' := [(0, vR G (22, 0)), (1, vR G (op, 0)), (2, vI (K : Int)), (3, vI ((t + 1 : Nat) : Int)), (4, vI (o : Int))]) X 3 [1, 2, 3, 0, 4] dX4_ofVisible_81 rfl (by omega) (by decide) rfl rfl ?_
              refine r_goto (tgt := 9) X dX4_ofVisible_84 rfl ?_
              refine w_sub (lc' := [(0, vR G (22, 0)), (1, vR G (op, 0)), (2, vI (K : Int)), (3, vI ((t + 1 : Nat) : Int))]) [0, 1, 2, 3] rfl ?_
              exact ih9 (t + 1) k3 M4 (by omega) (by omega) (fun a b h1 h2 h3 => by rw [h78.1 a b h2, hj3 a b h3 (fun q => h1 q.1), hfrc a b h1 h3]; exact hfr a b h1 h2 h3) hcp.1 (fun u => (hcp.2 u).trans (hvis u))
            · refine r_aload_n (pc' := 34) X 0 dX4_ofVisible_33 rfl rfl rfl ?_
              refine r_aload_n (pc' := 35) X 1 dX4_ofVisible_34 rfl rfl rfl ?_
              refine r_iload (pc' := 37) X 4 dX4_ofVisible_35 rfl rfl ?_
              refine r_aload_n (pc' := 38) X 0 dX4_ofVisible_37 rfl rfl rfl ?_
              refine gf_22_vector (pc' := 41) X gw_280 dX4_ofVisible_38 rfl ?_
              refine w_callv (pc' := 44) (st := []) (w_runV X (c_X4_putOutput l G Mc op o 5 N P hop (by omega) k22_5 (by rw [ec]; exact hp)) cf_X4_putOutput k22_0 rfl gw_654 gp_12 rfl rfl ⟨Nat.le_of_ble_eq_true rfl, Nat.le_of_ble_eq_true rfl⟩ rfl rfl (Nat.le_of_ble_eq_true rfl) ⟨Nat.le_of_ble_eq_true rfl, Nat.le_of_ble_eq_true rfl⟩ gw_652 dX4_ofVisible_41) rfl (fun M5 h41 => ?_)
              have ed : M5 op = M op := by rw [← ec]; exact funext fun b => h41.1 op b (fun q => o22 q.1)
              have e24 : M5 24 = Mc 24 := funext fun b => h41.1 24 b (by omega)
              refine r_aload_n (pc' := 45) X 0 dX4_ofVisible_44 rfl rfl rfl ?_
              refine gf_22_nextSpace (pc' := 48) X gw_278 dX4_ofVisible_45 rfl ?_
              refine r_aload_n (pc' := 49) X 0 dX4_ofVisible_48 rfl rfl rfl ?_
              refine gf_22_vector (pc' := 52) X gw_280 dX4_ofVisible_49 rfl ?_
              refine r_aload_n (pc' := 53) X 1 dX4_ofVisible_52 rfl rfl rfl ?_
              refine gf_P_n (pc' := 56) X hop gw_35 dX4_ofVisible_53 rfl ?_
              refine w_eqI (z' := (N : Int)) (by rw [ed]; exact hN) ?_
              refine w_callv (pc' := 59) (st := []) (w_runV X (c_X6_include l G M5 24 N k2 (by decide) hN4 (by rw [e24]; exact hs2) (RowOk.mod h41.2)) cf_X6_include (kS_0 (by decide)) rfl gw_664 gw_665 rfl rfl ⟨Nat.le_of_ble_eq_true rfl, Nat.le_of_ble_eq_true rfl⟩ rfl rfl (Nat.le_of_ble_eq_true rfl) ⟨Nat.le_of_ble_eq_true rfl, Nat.le_of_ble_eq_true rfl⟩ gw_663 dX4_ofVisible_56) rfl (fun M6 h56 => ?_)
              obtain ⟨kc2, hi1, hi2, hi3⟩ := h56
              have hspd : ∀ u, Sp N (rws (fun r => M6 24 (2 + r)) N) u ↔ Sp N (fun x => ∃ y, y < o + 1 ∧ x = M op (9 + y)) u := fun u => by
                have q := hi2 u
                rw [e24] at q
                exact q.trans ((adj_span hsp2 u).trans ((adj_congr (fun j hj => by rw [h41.2 j hj, ec]; exact Z0.emod _) u).trans (outs_s u)))
              refine r_iinc (pc' := 62) (z' := ((o + 1 : Nat) : Int)) (lc' := [(0, vR G (22, 0)), (1, vR G (op, 0)), (2, vI (K : Int)), (3, vI (t : Int)), (4, vI ((o + 1 : Nat) : Int))]) X 4 [1, 2, 3, 4, 0] dX4_ofVisible_59 rfl (by omega) (by decide) rfl rfl ?_
              refine r_goto (tgt := 24) X dX4_ofVisible_62 rfl ?_
              exact ih24 (o + 1) kc2 M6 (by omega) (by omega) (fun a b h1 h2 => by rw [hi3 a b h2 (fun q => h1 q.1), h41.1 a b (fun q => h1 q.1)]; exact hfrc a b h1 h2) hi1 hspd
        exact L24 ((P - 0) + 1) 0 0 M2 (Nat.lt_succ_self _) (by omega) (fun a b h1 h2 => h18.1 a b h2) (SpcOk.empty hN4 h18.2.1 h18.2.2) (rws_z hN4 h18.2.2 (fun u q => by obtain ⟨y, h, -⟩ := q; exact absurd h (Nat.not_lt_zero y)))
  exact L9 ((K - 0) + 1) 0 0 M1 (Nat.lt_succ_self _) (by omega) (fun a b h1 h2 h3 => h4.1 a b h2) (SpcOk.empty hN4 h4.2.1 h4.2.2) (rws_z hN4 h4.2.2 (fun u q => q))
