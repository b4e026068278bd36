theorem cf_X4_includeEarlier : wCal yX4_includeEarlier cX4_includeEarlier 4 none 1 := ⟨gw_891, gw_8, by decide, by decide, by rfl⟩
set_option maxRecDepth 100000 in
set_option maxHeartbeats 4000000 in
theorem c_X4_includeEarlier (l : Launch) (G : wG) (M : wM) (op N P k k2 : Nat) (hop : op = 19 ∨ op = 20) (hp : PlOk (M op) N P) (hs : SpcOk (M 23) N k) (hs2 : SpcOk (M 24) N k2) : Met l yX4_includeEarlier (gws yX4_includeEarlier cX4_includeEarlier 4 none) (wrm 3 0 0) (wPc G M [vR G (22, 0), vR G (op, 0)]) (wQv G (fun M1 => ∃ k', SpcOk (M1 24) N k' ∧ (∀ u, Sp N (rws (fun r => M1 24 (2 + r)) N) u ↔ Sp N (genM N (M op) (M op 7) (rws (fun r => M 24 (2 + r)) N) (Sp N (rws (fun r => M 23 (2 + r)) N))) u) ∧ ∀ a b, a ≠ 24 → ¬ (a = 22 ∧ (b = 5 ∨ b = 6 ∨ b = 7)) → M1 a b = M a b)) 0 0 (wA G) := by
  refine wMet (lc := [(0, vR G (22, 0)), (1, vR G (op, 0))]) (by decide) (Nat.le_of_ble_eq_true rfl) rfl ?_
  intro p e s m args below meth c X hr
  have X : wX p s m args meth c G 4 "StateObserver$Ranks" cX4_includeEarlier := X
  obtain ⟨hN, hN1, hN4, hP, hP1, hP3, hA, hB, hE, hC, hQ⟩ := id hp
  have o22 : op ≠ 22 := by omega
  have o24 : op ≠ 24 := by omega
  obtain ⟨hk0, hrow, hlow, hdz, hcnt⟩ := id hs
  refine r_aload_n (pc' := 1) X 0 dX4_includeEarlier_0 rfl rfl rfl ?_
  refine r_aload_n (pc' := 2) X 1 dX4_includeEarlier_1 rfl rfl rfl ?_
  refine w_calli (pc' := 5) (st := []) (w_runV X (c_X4_putEffects l G M op N P k hop hp hs) cf_X4_putEffects k22_0 rfl gw_894 gp_22 rfl rfl ⟨Nat.le_of_ble_eq_true rfl, Nat.le_of_ble_eq_true rfl⟩ rfl rfl (Nat.le_of_ble_eq_true rfl) ⟨Nat.le_of_ble_eq_true rfl, Nat.le_of_ble_eq_true rfl⟩ gw_892 dX4_includeEarlier_2) rfl (fun z2 M1 h2 => ?_)
  obtain ⟨cv, hc⟩ : ∃ c : Nat, z2 = (c : Int) := by rcases h2.2.2 with ⟨q, -⟩ | ⟨c, -, q, -⟩; exact ⟨N, q⟩; exact ⟨c, q⟩
  obtain ⟨gv, hgv⟩ : ∃ g : Nat → Vc, g = fun x j => if cv < N then M 23 (2 + x) j * M1 22 7 cv - M 23 (2 + cv) j * M1 22 7 x else M 23 (2 + x) j := ⟨_, rfl⟩
  refine r_istore_n (pc' := 6) (lc' := [(0, vR G (22, 0)), (1, vR G (op, 0)), (2, vI z2)]) X [1, 2, 0] dX4_includeEarlier_5 rfl (by decide) rfl rfl ?_
  refine r_iconst (pc' := 7) X dX4_includeEarlier_6 rfl ?_
  refine r_istore_n (pc' := 8) (lc' := [(0, vR G (22, 0)), (1, vR G (op, 0)), (2, vI z2), (3, vI 0)]) X [1, 2, 3, 0] dX4_includeEarlier_7 rfl (by decide) rfl rfl ?_
  have L8 : ∀ (fu : Nat) (r : Nat) (kk : Nat) (Ma : wM), N - r < fu → (r ≤ N) → (∀ a b, a ≠ 24 → ¬ (a = 22 ∧ (b = 5 ∨ b = 6)) → Ma a b = M1 a b) → (SpcOk (Ma 24) N kk) → (∀ u, Sp N (rws (fun r => Ma 24 (2 + r)) N) u ↔ Sp N (genE (rws (fun r => M 24 (2 + r)) N) (fun r => mulF N (M op) (gv r)) cv r) u) → wV p l e (wrm 3 0 0) s m args below meth c G 4 Ma 0 0 (MQ below (wQv G (fun M1 => ∃ k', SpcOk (M1 24) N k' ∧ (∀ u, Sp N (rws (fun r => M1 24 (2 + r)) N) u ↔ Sp N (genM N (M op) (M op 7) (rws (fun r => M 24 (2 + r)) N) (Sp N (rws (fun r => M 23 (2 + r)) N))) u) ∧ ∀ a b, a ≠ 24 → ¬ (a = 22 ∧ (b = 5 ∨ b = 6 ∨ b = 7)) → M1 a b = M a b)) args s 0 0 (wA G)) 8 [(0, vR G (22, 0)), (1, vR G (op, 0)), (2, vI z2), (3, vI (r : Int))] [] := by
    intro fu
    induction fu with
    | zero => intro r kk Ma hfu; exact absurd hfu (Nat.not_lt_zero _)
    | succ fu ih8 =>
      intro r kk Ma hfu8 hr1 hfr hss hsp
      have e23 : ∀ r, Ma 23 r = M 23 r := fun r => by rw [show Ma 23 r = M1 23 r from hfr 23 r (by omega) (by omega)]; exact h2.1 23 r (by omega)
      have e7 : Ma 22 7 = M1 22 7 := hfr 22 7 (by omega) (by omega)
      have eopa : Ma op = M op := funext fun b => by rw [hfr op b o24 (fun q => o22 q.1)]; exact h2.1 op b (fun q => o22 q.1)
      have eNa : Ma op 0 0 = N := by rw [eopa]; exact hN
      refine r_iload_n (pc' := 9) X 3 dX4_includeEarlier_8 rfl rfl rfl ?_
      refine r_aload_n (pc' := 10) X 1 dX4_includeEarlier_9 rfl rfl rfl ?_
      refine gf_P_n (pc' := 13) X hop gw_35 dX4_includeEarlier_10 rfl ?_
      refine r_icmp_ge (pc' := 16) (tgt := 107) X dX4_includeEarlier_13 rfl rfl (by omega) (by omega) (fun h13 => ?_) (fun h13 => ?_)
      · refine w_vret X hr dX4_includeEarlier_107 ?_
        try dsimp only
        refine ⟨kk, hss, fun u => (hsp u).trans ?_, fun a b h1 h2' => by rw [hfr a b h1 (by omega)]; exact h2.1 a b (by omega)⟩
        rw [show r = N by omega]
        rcases h2.2.2 with ⟨q1, q2⟩ | ⟨c', q1, q2, q3⟩
        · have hck : ¬ cv < N := by omega
          refine genE_none hck (fun r hr => ?_) (fun r hr => by rw [hgv]; funext j; exact if_neg hck) u
          have := (Z0.emod (dot N (M 23 (2 + r)) (M op 7))).neg
          rw [← h2.2.1 r hr, q2 r hr] at this
          rw [show -(0 - dot N (M 23 (2 + r)) (M op 7)) = dot N (M 23 (2 + r)) (M op 7) by omega] at this
          exact this
        · have hck : cv < N := by omega
          have ecc : c' = cv := by omega
          refine genE_pivot (a := M1 22 7 cv) (b := fun r => M1 22 7 r) hck (by rw [h2.2.1 cv hck]; exact Z0.emod _) (fun r hr => by show Z0 (M1 22 7 r - _); rw [h2.2.1 r hr]; exact Z0.emod _) (fun z => q3 ?_) (fun r hr hne i hi => by rw [hgv]; show Z0 ((if cv < N then _ else _) - _); rw [if_pos hck, Int.sub_self]; exact Z0.zero) u
          rw [ecc]
          rw [h2.2.1 cv hck] at z ⊢
          unfold Z0 at z
          omega
      · refine r_iload_n (pc' := 17) X 3 dX4_includeEarlier_16 rfl rfl rfl ?_
        refine r_iload_n (pc' := 18) X 2 dX4_includeEarlier_17 rfl rfl rfl ?_
        refine r_icmp_eq (pc' := 21) (tgt := 101) X dX4_includeEarlier_18 rfl rfl (by omega) (by omega) (fun h18 => ?_) (fun h18 => ?_)
        · refine r_iinc (pc' := 104) (z' := ((r + 1 : Nat) : Int)) (lc' := [(0, vR G (22, 0)), (1, vR G (op, 0)), (2, vI z2), (3, vI ((r + 1 : Nat) : Int))]) X 3 [1, 2, 3, 0] dX4_includeEarlier_101 rfl (by omega) (by decide) rfl rfl ?_
          refine r_goto (tgt := 8) X dX4_includeEarlier_104 rfl ?_
          exact ih8 (r + 1) kk Ma (by omega) (by omega) hfr hss (fun u => (hsp u).trans (by rw [show r = cv by omega]; exact genE_c u))
        · have hrc : r ≠ cv := by omega
          refine r_aload_n (pc' := 22) X 0 dX4_includeEarlier_21 rfl rfl rfl ?_
          refine gf_22_space (pc' := 25) X gw_277 dX4_includeEarlier_22 rfl ?_
          refine gf_S_rows (pc' := 28) X (by decide) gw_268 dX4_includeEarlier_25 rfl ?_
          refine r_iload_n (pc' := 29) X 3 dX4_includeEarlier_28 rfl rfl rfl ?_
          refine r_aald (i := r) (x := (23, (2 + r))) (pc' := 30) X (kS_1 (by decide)) (by decide) (by omega) (by omega) (by decide) rfl dX4_includeEarlier_29 rfl ?_
          refine r_aload_n (pc' := 31) X 0 dX4_includeEarlier_30 rfl rfl rfl ?_
          refine gf_22_vector (pc' := 34) X gw_280 dX4_includeEarlier_31 rfl ?_
          refine w_callv (pc' := 37) (st := []) (w_runSN X (c_X8_copyRow_ l G Ma 23 (2 + r) 22 5 4 (kS_r (by decide) (by omega)) k22_5 (by first | assumption | omega)) cf_X8_copyRow_ gw_661 rfl rfl ⟨Nat.le_of_ble_eq_true rfl, Nat.le_of_ble_eq_true rfl⟩ rfl rfl (Nat.le_of_ble_eq_true rfl) ⟨Nat.le_of_ble_eq_true rfl, Nat.le_of_ble_eq_true rfl⟩ tn_660 dX4_includeEarlier_34) rfl (fun M2 h34 => ?_)
          have eN1 : M2 op 0 0 = N := by rw [h34, wr_ne (fun q => o22 q.1)]; exact eNa
          refine r_iload_n (pc' := 38) X 2 dX4_includeEarlier_37 rfl rfl rfl ?_
          refine r_aload_n (pc' := 39) X 1 dX4_includeEarlier_38 rfl rfl rfl ?_
          refine gf_P_n (pc' := 42) X hop gw_35 dX4_includeEarlier_39 rfl ?_
          refine r_icmp_ge (pc' := 45) (tgt := 77) X dX4_includeEarlier_42 rfl rfl (by omega) (by omega) (fun h42 => ?_) (fun h42 => ?_)
          · have hck : ¬ cv < N := by omega
            have hfr2 : ∀ a b, a ≠ 24 → ¬ (a = 22 ∧ (b = 5 ∨ b = 6)) → M2 a b = Ma a b := fun a b h1 h2 => by
              rw [h34, wr_ne (by omega)]
            have hgz : ∀ j, j < N → Z0 (M2 22 5 j - gv r j) := fun j hj => by
              rw [h34, wr_eq, hgv]
              show Z0 (_ - (if cv < N then _ else _))
              rw [if_neg hck, e23, Int.sub_self]
              exact Z0.zero
            have hrow5 : RowOk N (M2 22 5) := by
              rw [h34, wr_eq, e23]; exact hrow r (by omega)
            have eop : M2 op = M op := by rw [← eopa]; exact funext fun b => hfr2 op b o24 (fun q => o22 q.1)
            have hpm : PlOk (M2 op) N P := by rw [eop]; exact hp
            refine r_aload_n (pc' := 78) X 0 dX4_includeEarlier_77 rfl rfl rfl ?_
            refine r_aload_n (pc' := 79) X 1 dX4_includeEarlier_78 rfl rfl rfl ?_
            refine r_aload_n (pc' := 80) X 0 dX4_includeEarlier_79 rfl rfl rfl ?_
            refine gf_22_vector (pc' := 83) X gw_280 dX4_includeEarlier_80 rfl ?_
            refine w_callv (pc' := 86) (st := []) (w_runV X (c_X4_multiply l G M2 op 5 N P hop (by decide) k22_5 hpm hrow5) cf_X4_multiply k22_0 rfl gw_675 gp_13 rfl rfl ⟨Nat.le_of_ble_eq_true rfl, Nat.le_of_ble_eq_true rfl⟩ rfl rfl (Nat.le_of_ble_eq_true rfl) ⟨Nat.le_of_ble_eq_true rfl, Nat.le_of_ble_eq_true rfl⟩ gw_673 dX4_includeEarlier_83) rfl (fun M3 h83 => ?_)
            have hfr3 : ∀ a b, a ≠ 24 → ¬ (a = 22 ∧ (b = 5 ∨ b = 6)) → M3 a b = M1 a b := fun a b h1 h2 => by rw [h83.1 a b (by omega), hfr2 a b h1 h2]; exact hfr a b h1 h2
            have e24 : M3 24 = Ma 24 := funext fun b => by rw [h83.1 24 b (by omega)]; rw [h34, wr_ne (by omega)]
            have hvz : ∀ j, j < N → Z0 (M3 22 5 j - mulF N (M op) (gv r) j) := mulF_z hgz (fun j hj => by rw [h83.2 j hj, eop])
            have eop2 : M3 op = M op := by rw [← eop]; exact funext fun b => h83.1 op b (fun q => o22 q.1)
            have eN2 : M3 op 0 0 = N := by rw [eop2]; exact hN
            refine r_aload_n (pc' := 87) X 0 dX4_includeEarlier_86 rfl rfl rfl ?_
            refine gf_22_nextSpace (pc' := 90) X gw_278 dX4_includeEarlier_87 rfl ?_
            refine r_aload_n (pc' := 91) X 0 dX4_includeEarlier_90 rfl rfl rfl ?_
            refine gf_22_vector (pc' := 94) X gw_280 dX4_includeEarlier_91 rfl ?_
            refine r_aload_n (pc' := 95) X 1 dX4_includeEarlier_94 rfl rfl rfl ?_
            refine gf_P_n (pc' := 98) X hop gw_35 dX4_includeEarlier_95 rfl ?_
            refine w_eqI (z' := (N : Int)) eN2 ?_
            refine w_callv (pc' := 101) (st := []) (w_runV X (c_X6_include l G M3 24 N kk (by decide) hN4 (by rw [e24]; exact hss) (RowOk.mod h83.2)) cf_X6_include (kS_0 (by decide)) rfl gw_664 gw_665 rfl rfl ⟨Nat.le_of_ble_eq_true rfl, Nat.le_of_ble_eq_true rfl⟩ rfl rfl (Nat.le_of_ble_eq_true rfl) ⟨Nat.le_of_ble_eq_true rfl, Nat.le_of_ble_eq_true rfl⟩ gw_663 dX4_includeEarlier_98) rfl (fun M4 h98 => ?_)
            obtain ⟨kk2, hi1, hi2, hi3⟩ := h98
            have hnew : ∀ u, Sp N (rws (fun r => M4 24 (2 + r)) N) u ↔ Sp N (genE (rws (fun r => M 24 (2 + r)) N) (fun r => mulF N (M op) (gv r)) cv (r + 1)) u := fun u => by
              have q := hi2 u
              rw [e24] at q
              exact q.trans ((adj_span hsp u).trans ((adj_congr hvz u).trans (genE_s (m := (fun r => mulF N (M op) (gv r))) hrc u)))
            refine r_iinc (pc' := 104) (z' := ((r + 1 : Nat) : Int)) (lc' := [(0, vR G (22, 0)), (1, vR G (op, 0)), (2, vI z2), (3, vI ((r + 1 : Nat) : Int))]) X 3 [1, 2, 3, 0] dX4_includeEarlier_101 rfl (by omega) (by decide) rfl rfl ?_
            refine r_goto (tgt := 8) X dX4_includeEarlier_104 rfl ?_
            exact ih8 (r + 1) kk2 M4 (by omega) (by omega) (fun a b h1 h2 => by rw [hi3 a b h1 (by omega)]; exact hfr3 a b h1 h2) hi1 hnew
          · have hck : cv < N := by omega
            refine r_aload_n (pc' := 46) X 0 dX4_includeEarlier_45 rfl rfl rfl ?_
            refine gf_22_vector (pc' := 49) X gw_280 dX4_includeEarlier_46 rfl ?_
            refine r_aload_n (pc' := 50) X 0 dX4_includeEarlier_49 rfl rfl rfl ?_
            refine gf_22_effect (pc' := 53) X gw_282 dX4_includeEarlier_50 rfl ?_
            refine r_iload_n (pc' := 54) X 3 dX4_includeEarlier_53 rfl rfl rfl ?_
            refine r_lald (i := r) (pc' := 55) X k22_7 (by omega) (by omega) (by decide) dX4_includeEarlier_54 rfl ?_
            refine r_aload_n (pc' := 56) X 0 dX4_includeEarlier_55 rfl rfl rfl ?_
            refine gf_22_space (pc' := 59) X gw_277 dX4_includeEarlier_56 rfl ?_
            refine gf_S_rows (pc' := 62) X (by decide) gw_268 dX4_includeEarlier_59 rfl ?_
            refine r_iload_n (pc' := 63) X 2 dX4_includeEarlier_62 rfl rfl rfl ?_
            refine r_aald (i := cv) (x := (23, (2 + cv))) (pc' := 64) X (kS_1 (by decide)) (by decide) hc (by omega) (by decide) rfl dX4_includeEarlier_63 rfl ?_
            refine r_aload_n (pc' := 65) X 0 dX4_includeEarlier_64 rfl rfl rfl ?_
            refine gf_22_effect (pc' := 68) X gw_282 dX4_includeEarlier_65 rfl ?_
            refine r_iload_n (pc' := 69) X 2 dX4_includeEarlier_68 rfl rfl rfl ?_
            refine r_lald (i := cv) (pc' := 70) X k22_7 hc (by omega) (by decide) dX4_includeEarlier_69 rfl ?_
            refine r_aload_n (pc' := 71) X 1 dX4_includeEarlier_70 rfl rfl rfl ?_
            refine gf_P_n (pc' := 74) X hop gw_35 dX4_includeEarlier_71 rfl ?_
            refine w_eqI (z' := (N : Int)) eN1 ?_
            refine w_callv (pc' := 77) (st := []) (w_runSN X (c_X8_removeLead l G M2 22 5 23 (2 + cv) N (M2 22 7 r) (M2 22 7 cv) k22_5 (kS_r (by decide) (show cv < 4 by omega)) (by omega) hN4 (by rw [h34, wr_eq, e23]; exact hrow r (by omega)) (by rw [h34, wr_ne (by omega), e23]; exact hrow cv hck) (by rw [h34, wr_ne (by omega), e7]; rw [h2.2.1 r (by omega)]; omega) (by rw [h34, wr_ne (by omega), e7]; rw [h2.2.1 cv hck]; omega)) cf_X8_removeLead gw_669 rfl rfl ⟨Nat.le_of_ble_eq_true rfl, Nat.le_of_ble_eq_true rfl⟩ rfl rfl (Nat.le_of_ble_eq_true rfl) ⟨Nat.le_of_ble_eq_true rfl, Nat.le_of_ble_eq_true rfl⟩ tn_896 dX4_includeEarlier_74) rfl (fun M5 h74 => ?_)
            have hfr2 : ∀ a b, a ≠ 24 → ¬ (a = 22 ∧ (b = 5 ∨ b = 6)) → M5 a b = Ma a b := fun a b h1 h2 => by
              rw [h74.1 a b (by omega), h34, wr_ne (by omega)]
            have hgz : ∀ j, j < N → Z0 (M5 22 5 j - gv r j) := fun j hj => by
              rw [h74.2 j hj, hgv]
              show Z0 (_ - (if cv < N then _ else _))
              rw [if_pos hck, h34, wr_eq, wr_ne (by omega), wr_ne (by omega), e23, e23, e7]
              exact Z0.emod _
            have hrow5 : RowOk N (M5 22 5) := by
              exact RowOk.mod h74.2
            have eop : M5 op = M op := by rw [← eopa]; exact funext fun b => hfr2 op b o24 (fun q => o22 q.1)
            have hpm : PlOk (M5 op) N P := by rw [eop]; exact hp
            refine r_aload_n (pc' := 78) X 0 dX4_includeEarlier_77 rfl rfl rfl ?_
            refine r_aload_n (pc' := 79) X 1 dX4_includeEarlier_78 rfl rfl rfl ?_
            refine r_aload_n (pc' := 80) X 0 dX4_includeEarlier_79 rfl rfl rfl ?_
            refine gf_22_vector (pc' := 83) X gw_280 dX4_includeEarlier_80 rfl ?_
            refine w_callv (pc' := 86) (st := []) (w_runV X (c_X4_multiply l G M5 op 5 N P hop (by decide) k22_5 hpm hrow5) cf_X4_multiply k22_0 rfl gw_675 gp_13 rfl rfl ⟨Nat.le_of_ble_eq_true rfl, Nat.le_of_ble_eq_true rfl⟩ rfl rfl (Nat.le_of_ble_eq_true rfl) ⟨Nat.le_of_ble_eq_true rfl, Nat.le_of_ble_eq_true rfl⟩ gw_673 dX4_includeEarlier_83) rfl (fun M6 h83 => ?_)
            have hfr3 : ∀ a b, a ≠ 24 → ¬ (a = 22 ∧ (b = 5 ∨ b = 6)) → M6 a b = M1 a b := fun a b h1 h2 => by rw [h83.1 a b (by omega), hfr2 a b h1 h2]; exact hfr a b h1 h2
            have e24 : M6 24 = Ma 24 := funext fun b => by rw [h83.1 24 b (by omega)]; rw [h74.1 24 b (by omega), h34, wr_ne (by omega)]
            have hvz : ∀ j, j < N → Z0 (M6 22 5 j - mulF N (M op) (gv r) j) := mulF_z hgz (fun j hj => by rw [h83.2 j hj, eop])
            have eop2 : M6 op = M op := by rw [← eop]; exact funext fun b => h83.1 op b (fun q => o22 q.1)
            have eN2 : M6 op 0 0 = N := by rw [eop2]; exact hN
            refine r_aload_n (pc' := 87) X 0 dX4_includeEarlier_86 rfl rfl rfl ?_
            refine gf_22_nextSpace (pc' := 90) X gw_278 dX4_includeEarlier_87 rfl ?_
            refine r_aload_n (pc' := 91) X 0 dX4_includeEarlier_90 rfl rfl rfl ?_
            refine gf_22_vector (pc' := 94) X gw_280 dX4_includeEarlier_91 rfl ?_
            refine r_aload_n (pc' := 95) X 1 dX4_includeEarlier_94 rfl rfl rfl ?_
            refine gf_P_n (pc' := 98) X hop gw_35 dX4_includeEarlier_95 rfl ?_
            refine w_eqI (z' := (N : Int)) eN2 ?_
            refine w_callv (pc' := 101) (st := []) (w_runV X (c_X6_include l G M6 24 N kk (by decide) hN4 (by rw [e24]; exact hss) (RowOk.mod h83.2)) cf_X6_include (kS_0 (by decide)) rfl gw_664 gw_665 rfl rfl ⟨Nat.le_of_ble_eq_true rfl, Nat.le_of_ble_eq_true rfl⟩ rfl rfl (Nat.le_of_ble_eq_true rfl) ⟨Nat.le_of_ble_eq_true rfl, Nat.le_of_ble_eq_true rfl⟩ gw_663 dX4_includeEarlier_98) rfl (fun M7 h98 => ?_)
            obtain ⟨kk2, hi1, hi2, hi3⟩ := h98
            have hnew : ∀ u, Sp N (rws (fun r => M7 24 (2 + r)) N) u ↔ Sp N (genE (rws (fun r => M 24 (2 + r)) N) (fun r => mulF N (M op) (gv r)) cv (r + 1)) u := fun u => by
              have q := hi2 u
              rw [e24] at q
              exact q.trans ((adj_span hsp u).trans ((adj_congr hvz u).trans (genE_s (m := (fun r => mulF N (M op) (gv r))) hrc u)))
            refine r_iinc (pc' := 104) (z' := ((r + 1 : Nat) : Int)) (lc' := [(0, vR G (22, 0)), (1, vR G (op, 0)), (2, vI z2), (3, vI ((r + 1 : Nat) : Int))]) X 3 [1, 2, 3, 0] dX4_includeEarlier_101 rfl (by omega) (by decide) rfl rfl ?_
            refine r_goto (tgt := 8) X dX4_includeEarlier_104 rfl ?_
            exact ih8 (r + 1) kk2 M7 (by omega) (by omega) (fun a b h1 h2 => by rw [hi3 a b h1 (by omega)]; exact hfr3 a b h1 h2) hi1 hnew
  exact L8 ((N - 0) + 1) 0 k2 M1 (Nat.lt_succ_self _) (by omega) (fun _ _ _ _ => rfl) (by rw [show M1 24 = M 24 from funext fun b => h2.1 24 b (by omega)]; exact hs2) (fun u => by rw [show M1 24 = M 24 from funext fun b => h2.1 24 b (by omega)]; exact (genE_0 u).symm)
