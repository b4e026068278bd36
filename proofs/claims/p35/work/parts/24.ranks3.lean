theorem cf_X6_include : wCal yX6_include cX6_include 4 none 2 := ⟨gw_666, gw_9, by decide, by decide, by rfl⟩
set_option maxRecDepth 100000 in
set_option maxHeartbeats 4000000 in
theorem c_X6_include (l : Launch) (G : wG) (M : wM) (o n k : Nat) (ho : o = 23 ∨ o = 24) (hn4 : n ≤ 4) (hs : SpcOk (M o) n k) (hv : RowOk n (M 22 5)) : Met l yX6_include (gws yX6_include cX6_include 4 none) (wrm 2 0 0) (wPc G M [vR G (o, 0), vR G (22, 5), vI (n : Int)]) (wQv G (fun M1 => ∃ k', SpcOk (M1 o) n k' ∧ (∀ u, Sp n (rws (fun r => M1 o (2 + r)) n) u ↔ Sp n (adj (rws (fun r => M o (2 + r)) n) (M 22 5)) u) ∧ ∀ a b, a ≠ o → ¬ (a = 22 ∧ b = 5) → M1 a b = M a b)) 0 0 (wA G) := by
  refine wMet (lc := [(0, vR G (o, 0)), (1, vR G (22, 5)), (2, vI (n : Int))]) (by decide) (Nat.le_of_ble_eq_true rfl) rfl ?_
  intro p e s m args below meth c X hr
  have X : wX p s m args meth c G 4 "StateObserver$Space" cX6_include := X
  obtain ⟨hk0, hrow, hlow, hdz, hcnt⟩ := id hs
  refine r_iconst (pc' := 1) X dX6_include_0 rfl ?_
  refine r_istore_n (pc' := 2) (lc' := [(0, vR G (o, 0)), (1, vR G (22, 5)), (2, vI (n : Int)), (3, vI 0)]) X [1, 2, 3, 0] dX6_include_1 rfl (by decide) rfl rfl ?_
  have L2 : ∀ (fu : Nat) (j : Nat) (Ma : wM), n - j < fu → (j ≤ n) → (∀ a b, ¬ (a = 22 ∧ b = 5) → Ma a b = M a b) → (RowOk n (Ma 22 5)) → (∀ i, i < j → Ma 22 5 i = 0) → (Sp n (adj (rws (fun r => M o (2 + r)) n) (M 22 5)) (Ma 22 5)) → (Sp n (adj (rws (fun r => M o (2 + r)) n) (Ma 22 5)) (M 22 5)) → wV p l e (wrm 2 0 0) s m args below meth c G 4 Ma 0 0 (MQ below (wQv G (fun M1 => ∃ k', SpcOk (M1 o) n k' ∧ (∀ u, Sp n (rws (fun r => M1 o (2 + r)) n) u ↔ Sp n (adj (rws (fun r => M o (2 + r)) n) (M 22 5)) u) ∧ ∀ a b, a ≠ o → ¬ (a = 22 ∧ b = 5) → M1 a b = M a b)) args s 0 0 (wA G)) 2 [(0, vR G (o, 0)), (1, vR G (22, 5)), (2, vI (n : Int)), (3, vI (j : Int))] [] := by
    intro fu
    induction fu with
    | zero => intro j Ma hfu; exact absurd hfu (Nat.not_lt_zero _)
    | succ fu ih2 =>
      intro j Ma hfu2 hj hfr hvo hzz hsp1 hsp2
      refine r_iload_n (pc' := 3) X 3 dX6_include_2 rfl rfl rfl ?_
      refine r_iload_n (pc' := 4) X 2 dX6_include_3 rfl rfl rfl ?_
      refine r_icmp_ge (pc' := 7) (tgt := 85) X dX6_include_4 rfl rfl (by omega) (by omega) (fun h4 => ?_) (fun h4 => ?_)
      · refine w_vret X hr dX6_include_85 ?_
        try dsimp only
        have hall : ∀ i, i < n → Z0 (Ma 22 5 i) := fun i hi => by rw [hzz i (by omega)]; exact Z0.zero
        have eo : Ma o = M o := funext fun b => hfr o b (by omega)
        refine ⟨k, by rw [eo]; exact hs, fun u => ?_, fun a b _ h2 => hfr a b h2⟩
        rw [eo]
        exact (adj_zero hall u).symm.trans (adj_swap hsp2 hsp1 u)
      · have hjn : j < n := by omega
        have er : Ma o (2 + j) = M o (2 + j) := hfr o (2 + j) (by omega)
        have hor : RowOk n (Ma o (2 + j)) := by rw [er]; exact hrow j hjn
        have hb1 := hvo j hjn
        have hb2 := hor j hjn
        refine r_aload_n (pc' := 8) X 1 dX6_include_7 rfl rfl rfl ?_
        refine r_iload_n (pc' := 9) X 3 dX6_include_8 rfl rfl rfl ?_
        refine r_lald (i := j) (pc' := 10) X k22_5 (by omega) (by omega) (by decide) dX6_include_9 rfl ?_
        refine r_lconst (pc' := 11) (z := 0) X dX6_include_10 rfl rfl ?_
        refine r_lcmp (pc' := 12) X dX6_include_11 (by omega) (by omega) rfl (fun z11 z11r z11l z11e z11g => ?_)
        refine r_if_eq (pc' := 15) (tgt := 49) X dX6_include_12 rfl rfl (by omega) (fun h12 => ?_) (fun h12 => ?_)
        · refine r_aload_n (pc' := 50) X 1 dX6_include_49 rfl rfl rfl ?_
          refine r_iload_n (pc' := 51) X 3 dX6_include_50 rfl rfl rfl ?_
          refine r_lald (i := j) (pc' := 52) X k22_5 (by omega) (by omega) (by decide) dX6_include_51 rfl ?_
          refine r_lconst (pc' := 53) (z := 0) X dX6_include_52 rfl rfl ?_
          refine r_lcmp (pc' := 54) X dX6_include_53 (by omega) (by omega) rfl (fun z53 z53r z53l z53e z53g => ?_)
          refine r_if_eq (pc' := 57) (tgt := 79) X dX6_include_54 rfl rfl (by omega) (fun h54 => ?_) (fun h54 => by exfalso; omega)
          refine r_iinc (pc' := 82) (z' := ((j + 1 : Nat) : Int)) (lc' := [(0, vR G (o, 0)), (1, vR G (22, 5)), (2, vI (n : Int)), (3, vI ((j + 1 : Nat) : Int))]) X 3 [1, 2, 3, 0] dX6_include_79 rfl (by omega) (by decide) rfl rfl ?_
          refine r_goto (tgt := 2) X dX6_include_82 rfl ?_
          exact ih2 (j + 1) Ma (by omega) (by omega) hfr hvo (fun i hi => by rcases Nat.lt_or_ge i j with q | q; exact hzz i q; rw [show i = j by omega]; omega) hsp1 hsp2
        · refine r_aload_n (pc' := 16) X 0 dX6_include_15 rfl rfl rfl ?_
          refine gf_S_rows (pc' := 19) X ho gw_267 dX6_include_16 rfl ?_
          refine r_iload_n (pc' := 20) X 3 dX6_include_19 rfl rfl rfl ?_
          refine r_aald (i := j) (x := (o, (2 + j))) (pc' := 21) X (kS_1 ho) (by decide) (by omega) (by omega) (by decide) rfl dX6_include_20 rfl ?_
          refine r_iload_n (pc' := 22) X 3 dX6_include_21 rfl rfl rfl ?_
          refine r_lald (i := j) (pc' := 23) X (kS_r ho (by omega)) (by omega) (by omega) (by decide) dX6_include_22 rfl ?_
          refine r_lconst (pc' := 24) (z := 0) X dX6_include_23 rfl rfl ?_
          refine r_lcmp (pc' := 25) X dX6_include_24 (by omega) (by omega) rfl (fun z24 z24r z24l z24e z24g => ?_)
          refine r_if_ne (pc' := 28) (tgt := 49) X dX6_include_25 rfl rfl (by omega) (fun h25 => ?_) (fun h25 => ?_)
          · refine r_aload_n (pc' := 50) X 1 dX6_include_49 rfl rfl rfl ?_
            refine r_iload_n (pc' := 51) X 3 dX6_include_50 rfl rfl rfl ?_
            refine r_lald (i := j) (pc' := 52) X k22_5 (by omega) (by omega) (by decide) dX6_include_51 rfl ?_
            refine r_lconst (pc' := 53) (z := 0) X dX6_include_52 rfl rfl ?_
            refine r_lcmp (pc' := 54) X dX6_include_53 (by omega) (by omega) rfl (fun z53 z53r z53l z53e z53g => ?_)
            refine r_if_eq (pc' := 57) (tgt := 79) X dX6_include_54 rfl rfl (by omega) (fun h54 => by exfalso; omega) (fun h54 => ?_)
            refine r_aload_n (pc' := 58) X 1 dX6_include_57 rfl rfl rfl ?_
            refine r_aload_n (pc' := 59) X 1 dX6_include_58 rfl rfl rfl ?_
            refine r_iload_n (pc' := 60) X 3 dX6_include_59 rfl rfl rfl ?_
            refine r_lald (i := j) (pc' := 61) X k22_5 (by omega) (by omega) (by decide) dX6_include_60 rfl ?_
            refine r_aload_n (pc' := 62) X 0 dX6_include_61 rfl rfl rfl ?_
            refine gf_S_rows (pc' := 65) X ho gw_267 dX6_include_62 rfl ?_
            refine r_iload_n (pc' := 66) X 3 dX6_include_65 rfl rfl rfl ?_
            refine r_aald (i := j) (x := (o, (2 + j))) (pc' := 67) X (kS_1 ho) (by decide) (by omega) (by omega) (by decide) rfl dX6_include_66 rfl ?_
            refine r_aload_n (pc' := 68) X 0 dX6_include_67 rfl rfl rfl ?_
            refine gf_S_rows (pc' := 71) X ho gw_267 dX6_include_68 rfl ?_
            refine r_iload_n (pc' := 72) X 3 dX6_include_71 rfl rfl rfl ?_
            refine r_aald (i := j) (x := (o, (2 + j))) (pc' := 73) X (kS_1 ho) (by decide) (by omega) (by omega) (by decide) rfl dX6_include_72 rfl ?_
            refine r_iload_n (pc' := 74) X 3 dX6_include_73 rfl rfl rfl ?_
            refine r_lald (i := j) (pc' := 75) X (kS_r ho (by omega)) (by omega) (by omega) (by decide) dX6_include_74 rfl ?_
            refine r_iload_n (pc' := 76) X 2 dX6_include_75 rfl rfl rfl ?_
            refine w_callv (pc' := 79) (st := []) (w_runSN X (c_X8_removeLead l G Ma 22 5 o (2 + j) n (Ma 22 5 j) (Ma o (2 + j) j) k22_5 (kS_r ho (show j < 4 by omega)) (by omega) hn4 hvo hor hb1 hb2) cf_X8_removeLead gw_669 rfl rfl ⟨Nat.le_of_ble_eq_true rfl, Nat.le_of_ble_eq_true rfl⟩ rfl rfl (Nat.le_of_ble_eq_true rfl) ⟨Nat.le_of_ble_eq_true rfl, Nat.le_of_ble_eq_true rfl⟩ tn_668 dX6_include_76) rfl (fun M1 h76 => ?_)
            have hnz : ¬ Z0 (Ma o (2 + j) j) := fun z => by have := (hor.z hjn).mp z; omega
            have htk := Sp.take (S := adj (rws (fun r => M o (2 + r)) n) (M 22 5)) (v := Ma 22 5) (o := Ma o (2 + j)) (w := M1 22 5) (n := n) (by rw [er]; exact Sp.of (Or.inl ⟨j, hjn, rfl⟩)) h76.2
            have htk2 := Sp.take (S := adj (rws (fun r => M o (2 + r)) n) (M1 22 5)) (v := Ma 22 5) (o := Ma o (2 + j)) (w := M1 22 5) (n := n) (by rw [er]; exact Sp.of (Or.inl ⟨j, hjn, rfl⟩)) h76.2
            have hzz2 : ∀ i, i < j + 1 → M1 22 5 i = 0 := fun i hi => by
              rw [h76.2 i (by omega)]
              by_cases e : i = j
              · rw [e, Int.mul_comm, Int.sub_self]
                rfl
              · rw [hzz i (by omega), er, hlow j hjn i (by omega), Int.zero_mul, Int.zero_mul]
                rfl
            refine r_iinc (pc' := 82) (z' := ((j + 1 : Nat) : Int)) (lc' := [(0, vR G (o, 0)), (1, vR G (22, 5)), (2, vI (n : Int)), (3, vI ((j + 1 : Nat) : Int))]) X 3 [1, 2, 3, 0] dX6_include_79 rfl (by omega) (by decide) rfl rfl ?_
            refine r_goto (tgt := 2) X dX6_include_82 rfl ?_
            exact ih2 (j + 1) M1 (by omega) (by omega) (fun a b h => (h76.1 a b h).trans (hfr a b h)) (fun j hj => by rw [h76.2 j hj]; omega) hzz2 (htk.1 hsp1) (adj_sub (fun _ q => Sp.of (Or.inl q)) (htk2.2 hnz adj_of) hsp2)
          · refine r_aload_n (pc' := 29) X 1 dX6_include_28 rfl rfl rfl ?_
            refine r_aload_n (pc' := 30) X 0 dX6_include_29 rfl rfl rfl ?_
            refine gf_S_rows (pc' := 33) X ho gw_267 dX6_include_30 rfl ?_
            refine r_iload_n (pc' := 34) X 3 dX6_include_33 rfl rfl rfl ?_
            refine r_aald (i := j) (x := (o, (2 + j))) (pc' := 35) X (kS_1 ho) (by decide) (by omega) (by omega) (by decide) rfl dX6_include_34 rfl ?_
            refine w_callv (pc' := 38) (st := []) (w_runSN X (c_X8_copyRow_ l G Ma 22 5 o (2 + j) 4 k22_5 (kS_r ho (by omega)) (by first | assumption | omega)) cf_X8_copyRow_ gw_661 rfl rfl ⟨Nat.le_of_ble_eq_true rfl, Nat.le_of_ble_eq_true rfl⟩ rfl rfl (Nat.le_of_ble_eq_true rfl) ⟨Nat.le_of_ble_eq_true rfl, Nat.le_of_ble_eq_true rfl⟩ tn_667 dX6_include_35) rfl (fun M2 h35 => ?_)
            refine r_aload_n (pc' := 39) X 0 dX6_include_38 rfl rfl rfl ?_
            refine r_dup (pc' := 40) X dX6_include_39 rfl rfl ?_
            refine gf_S_rank (pc' := 43) X ho gw_269 dX6_include_40 rfl ?_
            refine w_eqI (z' := (k : Int)) (by rw [h35, wr_ne (by omega), hfr o 0 (by omega)]; exact hk0) ?_
            refine r_iconst (pc' := 44) X dX6_include_43 rfl ?_
            refine r_iadd (pc' := 45) X dX6_include_44 rfl ?_
            refine pf_S_rank (pc' := 48) X ho gw_269 dX6_include_45 rfl (fun M3 hM3 => ?_)
            refine w_vret X hr dX6_include_48 ?_
            try dsimp only
            have hm := SpcOk.more (v := M o) (v' := M3 o) (w := Ma 22 5) (j := j) hs hvo hjn (by rw [← er]; omega) (by omega) hzz (by rw [hM3]; unfold wu; rw [if_pos ⟨rfl, rfl, rfl⟩]) (fun r _ hr => by rw [hM3, wu_ne (by omega), h35, wr_ne (by omega)]; exact hfr o _ (by omega)) (by rw [hM3, wu_ne (by omega), h35, wr_eq])
            exact ⟨k + 1, hm.1, fun u => (hm.2 u).trans (adj_swap hsp2 hsp1 u), fun a b h1 h2 => by rw [hM3, wu_ne (by omega), h35, wr_ne (by omega)]; exact hfr a b h2⟩
  exact L2 ((n - 0) + 1) 0 M (Nat.lt_succ_self _) (by omega) (fun _ _ _ => rfl) hv (fun x h => absurd h (Nat.not_lt_zero x)) adj_of adj_of
theorem cf_X4_multiply : wCal yX4_multiply cX4_multiply 7 none 2 := ⟨gw_676, gw_8, by decide, by decide, by rfl⟩
set_option maxRecDepth 100000 in
set_option maxHeartbeats 4000000 in
theorem c_X4_multiply (l : Launch) (G : wG) (M : wM) (op fj N P : Nat) (hop : op = 19 ∨ op = 20) (hfj : fj ≠ 6) (hkf : wkd 22 fj = some (.inr (1, 4, wNr))) (hp : PlOk (M op) N P) (hf : RowOk N (M 22 fj)) : Met l yX4_multiply (gws yX4_multiply cX4_multiply 7 none) (wrm 2 0 0) (wPc G M [vR G (22, 0), vR G (op, 0), vR G (22, fj)]) (wQv G (fun M1 => (∀ a b, ¬ (a = 22 ∧ (b = 6 ∨ b = fj)) → M1 a b = M a b) ∧ ∀ j, j < N → M1 22 fj j = (mulF N (M op) (M 22 fj) j % 1000003))) 0 0 (wA G) := by
  refine wMet (lc := [(0, vR G (22, 0)), (1, vR G (op, 0)), (2, vR G (22, fj))]) (by decide) (Nat.le_of_ble_eq_true rfl) rfl ?_
  intro p e s m args below meth c X hr
  have X : wX p s m args meth c G 7 "StateObserver$Ranks" cX4_multiply := X
  obtain ⟨hN, hN1, hN4, hP, hP1, hP3, hA, hB, hE, hC, hQ⟩ := id hp
  refine r_iconst (pc' := 1) X dX4_multiply_0 rfl ?_
  refine r_istore_n (pc' := 2) (lc' := [(0, vR G (22, 0)), (1, vR G (op, 0)), (2, vR G (22, fj)), (3, vI 0)]) X [1, 2, 3, 0] dX4_multiply_1 rfl (by decide) rfl rfl ?_
  have L2 : ∀ (fu : Nat) (j : Nat) (Ma : wM), N - j < fu → (j ≤ N) → (∀ a b, ¬ (a = 22 ∧ b = 6) → Ma a b = M a b) → (∀ x, x < j → Ma 22 6 x = (mulF N (M op) (M 22 fj) x % 1000003)) → wV p l e (wrm 2 0 0) s m args below meth c G 7 Ma 0 0 (MQ below (wQv G (fun M1 => (∀ a b, ¬ (a = 22 ∧ (b = 6 ∨ b = fj)) → M1 a b = M a b) ∧ ∀ j, j < N → M1 22 fj j = (mulF N (M op) (M 22 fj) j % 1000003))) args s 0 0 (wA G)) 2 [(0, vR G (22, 0)), (1, vR G (op, 0)), (2, vR G (22, fj)), (3, vI (j : Int))] [] := by
    intro fu
    induction fu with
    | zero => intro j Ma hfu; exact absurd hfu (Nat.not_lt_zero _)
    | succ fu ih2 =>
      intro j Ma hfu2 hj hfr hlo
      have e1 : Ma 22 fj = M 22 fj := hfr 22 fj (by omega)
      have e2 : Ma op = M op := funext fun b => hfr op b (by omega)
      have eN : Ma op 0 0 = N := by rw [e2]; exact hN
      refine r_iload_n (pc' := 3) X 3 dX4_multiply_2 rfl rfl rfl ?_
      refine r_aload_n (pc' := 4) X 1 dX4_multiply_3 rfl rfl rfl ?_
      refine gf_P_n (pc' := 7) X hop gw_35 dX4_multiply_4 rfl ?_
      refine r_icmp_ge (pc' := 10) (tgt := 71) X dX4_multiply_7 rfl rfl (by omega) (by omega) (fun h7 => ?_) (fun h7 => ?_)
      · refine r_aload_n (pc' := 72) X 0 dX4_multiply_71 rfl rfl rfl ?_
        refine gf_22_product (pc' := 75) X gw_281 dX4_multiply_72 rfl ?_
        refine r_aload_n (pc' := 76) X 2 dX4_multiply_75 rfl rfl rfl ?_
        refine w_callv (pc' := 79) (st := []) (w_runSN X (c_X8_copyRow_ l G Ma 22 6 22 fj 4 k22_6 hkf (by first | assumption | omega)) cf_X8_copyRow_ gw_661 rfl rfl ⟨Nat.le_of_ble_eq_true rfl, Nat.le_of_ble_eq_true rfl⟩ rfl rfl (Nat.le_of_ble_eq_true rfl) ⟨Nat.le_of_ble_eq_true rfl, Nat.le_of_ble_eq_true rfl⟩ tn_660 dX4_multiply_76) rfl (fun M1 h76 => ?_)
        refine w_vret X hr dX4_multiply_79 ?_
        try dsimp only
        have ej : j = N := by omega
        refine ⟨fun a b h => by rw [h76, wr_ne (by omega)]; exact hfr a b (by omega), fun x hx => by rw [h76, wr_eq]; exact hlo x (by omega)⟩
      · refine r_lconst (pc' := 11) (z := 0) X dX4_multiply_10 rfl rfl ?_
        refine r_lstore (pc' := 13) (lc' := [(0, vR G (22, 0)), (1, vR G (op, 0)), (2, vR G (22, fj)), (3, vI (j : Int)), (4, vJ 0)]) X [1, 2, 3, 4, 0] dX4_multiply_11 (by decide) rfl rfl ?_
        refine r_iconst (pc' := 14) X dX4_multiply_13 rfl ?_
        refine r_istore (pc' := 16) (lc' := [(0, vR G (22, 0)), (1, vR G (op, 0)), (2, vR G (22, fj)), (3, vI (j : Int)), (4, vJ 0), (6, vI 0)]) X [1, 2, 3, 4, 5, 0] dX4_multiply_14 (by decide) rfl rfl ?_
        have L16 : ∀ (fu : Nat) (i : Nat) (sm : Int), N - i < fu → (i ≤ N) → (sm = dot i (M 22 fj) (fun x => M op (2 + x) j)) → wV p l e (wrm 2 0 0) s m args below meth c G 7 Ma 0 0 (MQ below (wQv G (fun M1 => (∀ a b, ¬ (a = 22 ∧ (b = 6 ∨ b = fj)) → M1 a b = M a b) ∧ ∀ j, j < N → M1 22 fj j = (mulF N (M op) (M 22 fj) j % 1000003))) args s 0 0 (wA G)) 16 [(0, vR G (22, 0)), (1, vR G (op, 0)), (2, vR G (22, fj)), (3, vI (j : Int)), (4, vJ sm), (6, vI (i : Int))] [] := by
          intro fu
          induction fu with
          | zero => intro i sm hfu; exact absurd hfu (Nat.not_lt_zero _)
          | succ fu ih16 =>
            intro i sm hfu16 hi hsm
            refine r_iload (pc' := 18) X 5 dX4_multiply_16 rfl rfl ?_
            refine r_aload_n (pc' := 19) X 1 dX4_multiply_18 rfl rfl rfl ?_
            refine gf_P_n (pc' := 22) X hop gw_35 dX4_multiply_19 rfl ?_
            refine r_icmp_ge (pc' := 25) (tgt := 51) X dX4_multiply_22 rfl rfl (by omega) (by omega) (fun h22 => ?_) (fun h22 => ?_)
            · have hdb := dot_bd (A := 1000003) (B := 99) (by decide) (by decide) (n := i) (f := M 22 fj) (g := fun x => M op (2 + x) j) (fun x hx => by have := hf x (by omega); omega) (fun x hx => hA x j (by omega) (by omega))
              rw [← hsm] at hdb
              refine r_aload_n (pc' := 52) X 0 dX4_multiply_51 rfl rfl rfl ?_
              refine gf_22_product (pc' := 55) X gw_281 dX4_multiply_52 rfl ?_
              refine r_iload_n (pc' := 56) X 3 dX4_multiply_55 rfl rfl rfl ?_
              refine r_lload (pc' := 58) X 4 dX4_multiply_56 rfl rfl ?_
              refine r_ldc2 (pc' := 61) (z := 1000003) X gw_656 dX4_multiply_58 rfl rfl ?_
              refine w_callj (pc' := 64) (st := [vI (j : Int), vR G (22, 6)]) (w_runS X (c_J9_floorMod_f86c9 l G Ma sm 1000003 (by first | assumption | omega) (by first | assumption | omega) (by first | assumption | omega)) cf_J9_floorMod_f86c9 gw_658 rfl rfl ⟨Nat.le_of_ble_eq_true rfl, Nat.le_of_ble_eq_true rfl⟩ rfl rfl (Nat.le_of_ble_eq_true rfl) ⟨Nat.le_of_ble_eq_true rfl, Nat.le_of_ble_eq_true rfl⟩ gw_657 dX4_multiply_61) rfl (fun z61 M2 h61 => ?_)
              obtain rfl := h61.1.symm
              obtain rfl := h61.2.symm
              refine r_last (i := j) (pc' := 65) X k22_6 (by omega) (by omega) (by decide) dX4_multiply_64 rfl (fun M3 hM3 => ?_)
              refine r_iinc (pc' := 68) (z' := ((j + 1 : Nat) : Int)) (lc' := [(0, vR G (22, 0)), (1, vR G (op, 0)), (2, vR G (22, fj)), (3, vI ((j + 1 : Nat) : Int)), (4, vJ sm), (6, vI (i : Int))]) X 3 [1, 2, 3, 0, 4, 5] dX4_multiply_65 rfl (by omega) (by decide) rfl rfl ?_
              refine r_goto (tgt := 2) X dX4_multiply_68 rfl ?_
              refine w_sub (lc' := [(0, vR G (22, 0)), (1, vR G (op, 0)), (2, vR G (22, fj)), (3, vI ((j + 1 : Nat) : Int))]) [0, 1, 2, 3] rfl ?_
              exact ih2 (j + 1) M3 (by omega) (by omega) (fun a b h => by rw [hM3, wu_ne h]; exact hfr a b h) (fun x hx => by rw [hM3]; exact up_s (F := fun x => (mulF N (M op) (M 22 fj) x % 1000003)) hlo (by rw [hsm, show i = N by omega]; rfl) hx)
            · have hAij := hA i j (by omega) (by omega)
              have eA : Ma op (2 + i) j = M op (2 + i) j := by rw [e2]
              refine r_lload (pc' := 27) X 4 dX4_multiply_25 rfl rfl ?_
              refine r_aload_n (pc' := 28) X 2 dX4_multiply_27 rfl rfl rfl ?_
              refine r_iload (pc' := 30) X 5 dX4_multiply_28 rfl rfl ?_
              refine r_lald (i := i) (pc' := 31) X hkf (by omega) (by omega) (by decide) dX4_multiply_30 rfl ?_
              refine r_aload_n (pc' := 32) X 1 dX4_multiply_31 rfl rfl rfl ?_
              refine gf_P_a (pc' := 35) X hop gw_47 dX4_multiply_32 rfl ?_
              refine r_iload (pc' := 37) X 5 dX4_multiply_35 rfl rfl ?_
              refine r_aald (i := i) (x := (op, (2 + i))) (pc' := 38) X (kP_1 hop) (by decide) (by omega) (by omega) (by decide) rfl dX4_multiply_37 rfl ?_
              refine r_iload_n (pc' := 39) X 3 dX4_multiply_38 rfl rfl rfl ?_
              refine r_iald (i := j) (pc' := 40) X (kP_a hop (by omega)) (by omega) (by omega) (by decide) dX4_multiply_39 rfl ?_
              refine r_i2l (pc' := 41) X dX4_multiply_40 (by omega) rfl ?_
              refine r_lmul (pc' := 42) X dX4_multiply_41 rfl ?_
              refine r_ladd (pc' := 43) X dX4_multiply_42 rfl ?_
              refine r_lstore (pc' := 45) (lc' := [(0, vR G (22, 0)), (1, vR G (op, 0)), (2, vR G (22, fj)), (3, vI (j : Int)), (4, vJ (sm + ((Ma 22 fj i) * (Ma op (2 + i) j)))), (6, vI (i : Int))]) X [1, 2, 3, 4, 0, 5] dX4_multiply_43 (by decide) rfl rfl ?_
              refine r_iinc (pc' := 48) (z' := ((i + 1 : Nat) : Int)) (lc' := [(0, vR G (22, 0)), (1, vR G (op, 0)), (2, vR G (22, fj)), (3, vI (j : Int)), (4, vJ (sm + ((Ma 22 fj i) * (Ma op (2 + i) j)))), (6, vI ((i + 1 : Nat) : Int))]) X 5 [1, 2, 3, 4, 5, 0] dX4_multiply_45 rfl (by omega) (by decide) rfl rfl ?_
              refine r_goto (tgt := 16) X dX4_multiply_48 rfl ?_
              exact ih16 (i + 1) (sm + ((Ma 22 fj i) * (Ma op (2 + i) j))) (by omega) (by omega) (by rw [hsm, e1, e2]; rfl)
        exact L16 ((N - 0) + 1) 0 0 (Nat.lt_succ_self _) (by omega) rfl
  exact L2 ((N - 0) + 1) 0 M (Nat.lt_succ_self _) (by omega) (fun _ _ _ => rfl) (fun x h => absurd h (Nat.not_lt_zero x))
theorem cf_X4_putOutput : wCal yX4_putOutput cX4_putOutput 5 none 3 := ⟨gw_655, gw_8, by decide, by decide, by rfl⟩
set_option maxRecDepth 100000 in
set_option maxHeartbeats 4000000 in
theorem c_X4_putOutput (l : Launch) (G : wG) (M : wM) (op k tj N P : Nat) (hop : op = 19 ∨ op = 20) (hk : k < P) (hkt : wkd 22 tj = some (.inr (1, 4, wNr))) (hp : PlOk (M op) N P) : Met l yX4_putOutput (gws yX4_putOutput cX4_putOutput 5 none) (wrm 1 0 0) (wPc G M [vR G (22, 0), vR G (op, 0), vI (k : Int), vR G (22, tj)]) (wQv G (fun M1 => (∀ a b, ¬ (a = 22 ∧ b = tj) → M1 a b = M a b) ∧ ∀ j, j < N → M1 22 tj j = M op (9 + k) j % 1000003)) 0 0 (wA G) := by
  refine wMet (lc := [(0, vR G (22, 0)), (1, vR G (op, 0)), (2, vI (k : Int)), (3, vR G (22, tj))]) (by decide) (Nat.le_of_ble_eq_true rfl) rfl ?_
  intro p e s m args below meth c X hr
  have X : wX p s m args meth c G 5 "StateObserver$Ranks" cX4_putOutput := X
  obtain ⟨hN, hN1, hN4, hP, hP1, hP3, hA, hB, hE, hC, hQ⟩ := id hp
  refine r_iconst (pc' := 1) X dX4_putOutput_0 rfl ?_
  refine r_istore (pc' := 3) (lc' := [(0, vR G (22, 0)), (1, vR G (op, 0)), (2, vI (k : Int)), (3, vR G (22, tj)), (4, vI 0)]) X [1, 2, 3, 4, 0] dX4_putOutput_1 (by decide) rfl rfl ?_
  have L3 : ∀ (fu : Nat) (j : Nat) (Ma : wM), N - j < fu → (j ≤ N) → (∀ a b, ¬ (a = 22 ∧ b = tj) → Ma a b = M a b) → (∀ x, x < j → Ma 22 tj x = M op (9 + k) x % 1000003) → wV p l e (wrm 1 0 0) s m args below meth c G 5 Ma 0 0 (MQ below (wQv G (fun M1 => (∀ a b, ¬ (a = 22 ∧ b = tj) → M1 a b = M a b) ∧ ∀ j, j < N → M1 22 tj j = M op (9 + k) j % 1000003)) args s 0 0 (wA G)) 3 [(0, vR G (22, 0)), (1, vR G (op, 0)), (2, vI (k : Int)), (3, vR G (22, tj)), (4, vI (j : Int))] [] := by
    intro fu
    induction fu with
    | zero => intro j Ma hfu; exact absurd hfu (Nat.not_lt_zero _)
    | succ fu ih3 =>
      intro j Ma hfu3 hj hfr hlo
      have e2 : Ma op = M op := funext fun b => hfr op b (by omega)
      have eN : Ma op 0 0 = N := by rw [e2]; exact hN
      refine r_iload (pc' := 5) X 4 dX4_putOutput_3 rfl rfl ?_
      refine r_aload_n (pc' := 6) X 1 dX4_putOutput_5 rfl rfl rfl ?_
      refine gf_P_n (pc' := 9) X hop gw_35 dX4_putOutput_6 rfl ?_
      refine r_icmp_ge (pc' := 12) (tgt := 38) X dX4_putOutput_9 rfl rfl (by omega) (by omega) (fun h9 => ?_) (fun h9 => ?_)
      · refine w_vret X hr dX4_putOutput_38 ?_
        try dsimp only
        exact ⟨hfr, fun x hx => hlo x (by omega)⟩
      · have hCj := hC k j hk (by omega)
        have eC : Ma op (9 + k) j = M op (9 + k) j := by rw [e2]
        refine r_aload_n (pc' := 13) X 3 dX4_putOutput_12 rfl rfl rfl ?_
        refine r_iload (pc' := 15) X 4 dX4_putOutput_13 rfl rfl ?_
        refine r_aload_n (pc' := 16) X 1 dX4_putOutput_15 rfl rfl rfl ?_
        refine gf_P_c (pc' := 19) X hop gw_59 dX4_putOutput_16 rfl ?_
        refine r_iload_n (pc' := 20) X 2 dX4_putOutput_19 rfl rfl rfl ?_
        refine r_aald (i := k) (x := (op, (9 + k))) (pc' := 21) X (kP_8 hop) (by decide) (by omega) (by omega) (by decide) rfl dX4_putOutput_20 rfl ?_
        refine r_iload (pc' := 23) X 4 dX4_putOutput_21 rfl rfl ?_
        refine r_iald (i := j) (pc' := 24) X (kP_c hop (by omega)) (by omega) (by omega) (by decide) dX4_putOutput_23 rfl ?_
        refine r_i2l (pc' := 25) X dX4_putOutput_24 (by omega) rfl ?_
        refine r_ldc2 (pc' := 28) (z := 1000003) X gw_656 dX4_putOutput_25 rfl rfl ?_
        refine w_callj (pc' := 31) (st := [vI (j : Int), vR G (22, tj)]) (w_runS X (c_J9_floorMod_f86c9 l G Ma (Ma op (9 + k) j) 1000003 (by first | assumption | omega) (by first | assumption | omega) (by first | assumption | omega)) cf_J9_floorMod_f86c9 gw_658 rfl rfl ⟨Nat.le_of_ble_eq_true rfl, Nat.le_of_ble_eq_true rfl⟩ rfl rfl (Nat.le_of_ble_eq_true rfl) ⟨Nat.le_of_ble_eq_true rfl, Nat.le_of_ble_eq_true rfl⟩ gw_657 dX4_putOutput_28) rfl (fun z28 M1 h28 => ?_)
        obtain rfl := h28.1.symm
        obtain rfl := h28.2.symm
        refine r_last (i := j) (pc' := 32) X hkt (by omega) (by omega) (by decide) dX4_putOutput_31 rfl (fun M2 hM2 => ?_)
        refine r_iinc (pc' := 35) (z' := ((j + 1 : Nat) : Int)) (lc' := [(0, vR G (22, 0)), (1, vR G (op, 0)), (2, vI (k : Int)), (3, vR G (22, tj)), (4, vI ((j + 1 : Nat) : Int))]) X 4 [1, 2, 3, 4, 0] dX4_putOutput_32 rfl (by omega) (by decide) rfl rfl ?_
        refine r_goto (tgt := 3) X dX4_putOutput_35 rfl ?_
        exact ih3 (j + 1) M2 (by omega) (by omega) (fun a b h => by rw [hM2, wu_ne h]; exact hfr a b h) (fun x hx => by rw [hM2]; exact up_s (F := fun x => M op (9 + k) x % 1000003) hlo (by rw [e2]) hx)
  exact L3 ((N - 0) + 1) 0 M (Nat.lt_succ_self _) (by omega) (fun _ _ _ => rfl) (fun x h => absurd h (Nat.not_lt_zero x))
theorem cf_X4_putEffects : wCal yX4_putEffects cX4_putEffects 7 (some .int) 1 := ⟨gw_895, gw_8, by decide, by decide, by rfl⟩
set_option maxRecDepth 100000 in
set_option maxHeartbeats 4000000 in
theorem c_X4_putEffects (l : Launch) (G : wG) (M : wM) (op N P k : Nat) (hop : op = 19 ∨ op = 20) (hp : PlOk (M op) N P) (hs : SpcOk (M 23) N k) : Met l yX4_putEffects (gws yX4_putEffects cX4_putEffects 7 (some .int)) (wrm 1 0 0) (wPc G M [vR G (22, 0), vR G (op, 0)]) (wQi G (fun z M1 => (∀ a b, ¬ (a = 22 ∧ b = 7) → M1 a b = M a b) ∧ (∀ r, r < N → M1 22 7 r = (dot N (M 23 (2 + r)) (M op 7) % 1000003)) ∧ ((z = N ∧ ∀ r, r < N → M1 22 7 r = 0) ∨ ∃ c : Nat, c < N ∧ z = c ∧ M1 22 7 c ≠ 0))) 0 0 (wA G) := by
  refine wMet (lc := [(0, vR G (22, 0)), (1, vR G (op, 0))]) (by decide) (Nat.le_of_ble_eq_true rfl) rfl ?_
  intro p e s m args below meth c X hr
  have X : wX p s m args meth c G 7 "StateObserver$Ranks" cX4_putEffects := X
  obtain ⟨hN, hN1, hN4, hP, hP1, hP3, hA, hB, hE, hC, hQ⟩ := id hp
  obtain ⟨hk0, hrow, hlow, hdz, hcnt⟩ := id hs
  refine r_aload_n (pc' := 1) X 1 dX4_putEffects_0 rfl rfl rfl ?_
  refine gf_P_n (pc' := 4) X hop gw_35 dX4_putEffects_1 rfl ?_
  refine w_eqI (z' := (N : Int)) hN ?_
  refine r_istore_n (pc' := 5) (lc' := [(0, vR G (22, 0)), (1, vR G (op, 0)), (2, vI (N : Int))]) X [1, 2, 0] dX4_putEffects_4 rfl (by decide) rfl rfl ?_
  refine r_aload_n (pc' := 6) X 1 dX4_putEffects_5 rfl rfl rfl ?_
  refine gf_P_n (pc' := 9) X hop gw_35 dX4_putEffects_6 rfl ?_
  refine w_eqI (z' := (N : Int)) hN ?_
  refine r_iconst (pc' := 10) X dX4_putEffects_9 rfl ?_
  refine r_isub (pc' := 11) X dX4_putEffects_10 rfl ?_
  refine r_istore_n (pc' := 12) (lc' := [(0, vR G (22, 0)), (1, vR G (op, 0)), (2, vI (N : Int)), (3, vI ((N : Int) - 1))]) X [1, 2, 3, 0] dX4_putEffects_11 rfl (by decide) rfl rfl ?_
  have L12 : ∀ (fu : Nat) (t : Nat) (cz : Int) (Ma : wM), t < fu → (t ≤ N) → (∀ a b, ¬ (a = 22 ∧ b = 7) → Ma a b = M a b) → (∀ x, t ≤ x → x < N → Ma 22 7 x = (dot N (M 23 (2 + x)) (M op 7) % 1000003)) → ((cz = N ∧ ∀ x, t ≤ x → x < N → Ma 22 7 x = 0) ∨ ∃ c : Nat, t ≤ c ∧ c < N ∧ cz = c ∧ Ma 22 7 c ≠ 0) → wV p l e (wrm 1 0 0) s m args below meth c G 7 Ma 0 0 (MQ below (wQi G (fun z M1 => (∀ a b, ¬ (a = 22 ∧ b = 7) → M1 a b = M a b) ∧ (∀ r, r < N → M1 22 7 r = (dot N (M 23 (2 + r)) (M op 7) % 1000003)) ∧ ((z = N ∧ ∀ r, r < N → M1 22 7 r = 0) ∨ ∃ c : Nat, c < N ∧ z = c ∧ M1 22 7 c ≠ 0))) args s 0 0 (wA G)) 12 [(0, vR G (22, 0)), (1, vR G (op, 0)), (2, vI cz), (3, vI ((t : Int) - 1))] [] := by
    intro fu
    induction fu with
    | zero => intro t cz Ma hfu; exact absurd hfu (Nat.not_lt_zero _)
    | succ fu ih12 =>
      intro t cz Ma hfu12 ht hfr hlo hcz
      have e2 : Ma op = M op := funext fun b => hfr op b (by omega)
      have e3 : Ma 23 = M 23 := funext fun b => hfr 23 b (by omega)
      have eN : Ma op 0 0 = N := by rw [e2]; exact hN
      refine r_iload_n (pc' := 13) X 3 dX4_putEffects_12 rfl rfl rfl ?_
      refine r_if_lt (pc' := 16) (tgt := 96) X dX4_putEffects_13 rfl rfl (by omega) (fun h13 => ?_) (fun h13 => ?_)
      · refine r_iload_n (pc' := 97) X 2 dX4_putEffects_96 rfl rfl rfl ?_
        refine w_iret X hr dX4_putEffects_97 ?_
        try dsimp only
        refine ⟨hfr, fun r hr => hlo r (by omega) hr, ?_⟩
        rcases hcz with ⟨q1, q2⟩ | ⟨c, q1, q2, q3, q4⟩
        · exact Or.inl ⟨q1, fun r hr => q2 r (by omega) hr⟩
        · exact Or.inr ⟨c, q2, q3, q4⟩
      · have e1 : Ma 23 (2 + (t - 1)) = M 23 (2 + (t - 1)) := by rw [e3]
        refine r_lconst (pc' := 17) (z := 0) X dX4_putEffects_16 rfl rfl ?_
        refine r_lstore (pc' := 19) (lc' := [(0, vR G (22, 0)), (1, vR G (op, 0)), (2, vI cz), (3, vI ((t : Int) - 1)), (4, vJ 0)]) X [1, 2, 3, 4, 0] dX4_putEffects_17 (by decide) rfl rfl ?_
        refine r_iconst (pc' := 20) X dX4_putEffects_19 rfl ?_
        refine r_istore (pc' := 22) (lc' := [(0, vR G (22, 0)), (1, vR G (op, 0)), (2, vI cz), (3, vI ((t : Int) - 1)), (4, vJ 0), (6, vI 0)]) X [1, 2, 3, 4, 5, 0] dX4_putEffects_20 (by decide) rfl rfl ?_
        have L22 : ∀ (fu : Nat) (i : Nat) (sm : Int), N - i < fu → (i ≤ N) → (sm = dot i (M 23 (2 + (t - 1))) (M op 7)) → wV p l e (wrm 1 0 0) s m args below meth c G 7 Ma 0 0 (MQ below (wQi G (fun z M1 => (∀ a b, ¬ (a = 22 ∧ b = 7) → M1 a b = M a b) ∧ (∀ r, r < N → M1 22 7 r = (dot N (M 23 (2 + r)) (M op 7) % 1000003)) ∧ ((z = N ∧ ∀ r, r < N → M1 22 7 r = 0) ∨ ∃ c : Nat, c < N ∧ z = c ∧ M1 22 7 c ≠ 0))) args s 0 0 (wA G)) 22 [(0, vR G (22, 0)), (1, vR G (op, 0)), (2, vI cz), (3, vI ((t : Int) - 1)), (4, vJ sm), (6, vI (i : Int))] [] := by
          intro fu
          induction fu with
          | zero => intro i sm hfu; exact absurd hfu (Nat.not_lt_zero _)
          | succ fu ih22 =>
            intro i sm hfu22 hi hsm
            refine r_iload (pc' := 24) X 5 dX4_putEffects_22 rfl rfl ?_
            refine r_aload_n (pc' := 25) X 1 dX4_putEffects_24 rfl rfl rfl ?_
            refine gf_P_n (pc' := 28) X hop gw_35 dX4_putEffects_25 rfl ?_
            refine r_icmp_ge (pc' := 31) (tgt := 63) X dX4_putEffects_28 rfl rfl (by omega) (by omega) (fun h28 => ?_) (fun h28 => ?_)
            · have hdb := dot_bd (A := 1000003) (B := 99) (by decide) (by decide) (n := i) (f := M 23 (2 + (t - 1))) (g := M op 7) (fun x hx => by have := hrow (t - 1) (by omega) x (by omega); omega) (fun x hx => hE x (by omega))
              rw [← hsm] at hdb
              refine r_aload_n (pc' := 64) X 0 dX4_putEffects_63 rfl rfl rfl ?_
              refine gf_22_effect (pc' := 67) X gw_282 dX4_putEffects_64 rfl ?_
              refine r_iload_n (pc' := 68) X 3 dX4_putEffects_67 rfl rfl rfl ?_
              refine r_lload (pc' := 70) X 4 dX4_putEffects_68 rfl rfl ?_
              refine r_ldc2 (pc' := 73) (z := 1000003) X gw_656 dX4_putEffects_70 rfl rfl ?_
              refine w_callj (pc' := 76) (st := [vI ((t : Int) - 1), vR G (22, 7)]) (w_runS X (c_J9_floorMod_f86c9 l G Ma sm 1000003 (by first | assumption | omega) (by first | assumption | omega) (by first | assumption | omega)) cf_J9_floorMod_f86c9 gw_658 rfl rfl ⟨Nat.le_of_ble_eq_true rfl, Nat.le_of_ble_eq_true rfl⟩ rfl rfl (Nat.le_of_ble_eq_true rfl) ⟨Nat.le_of_ble_eq_true rfl, Nat.le_of_ble_eq_true rfl⟩ gw_657 dX4_putEffects_73) rfl (fun z73 M1 h73 => ?_)
              obtain rfl := h73.1.symm
              obtain rfl := h73.2.symm
              refine r_last (i := (t - 1)) (pc' := 77) X k22_7 (by omega) (by omega) (by decide) dX4_putEffects_76 rfl (fun M2 hM2 => ?_)
              have hval : M2 22 7 (t - 1) = sm % 1000003 := by rw [hM2]; unfold wu; rw [if_pos ⟨rfl, rfl, rfl⟩]
              have hoth : ∀ x, x ≠ t - 1 → M2 22 7 x = Ma 22 7 x := fun x hx => by rw [hM2]; unfold wu; rw [if_neg (by omega)]
              have hlo2 : ∀ x, t - 1 ≤ x → x < N → M2 22 7 x = (dot N (M 23 (2 + x)) (M op 7) % 1000003) := fun x h1 h2 => by
                by_cases e : x = t - 1
                · rw [e, hval, hsm, show i = N by omega]
                · rw [hoth x e]; exact hlo x (by omega) h2
              have h0 : 0 ≤ sm % 1000003 ∧ sm % 1000003 < 1000003 := by omega
              refine r_aload_n (pc' := 78) X 0 dX4_putEffects_77 rfl rfl rfl ?_
              refine gf_22_effect (pc' := 81) X gw_282 dX4_putEffects_78 rfl ?_
              refine r_iload_n (pc' := 82) X 3 dX4_putEffects_81 rfl rfl rfl ?_
              refine r_lald (i := (t - 1)) (pc' := 83) X k22_7 (by omega) (by omega) (by decide) dX4_putEffects_82 rfl ?_
              refine r_lconst (pc' := 84) (z := 0) X dX4_putEffects_83 rfl rfl ?_
              refine r_lcmp (pc' := 85) X dX4_putEffects_84 (by omega) (by omega) rfl (fun z84 z84r z84l z84e z84g => ?_)
              refine r_if_eq (pc' := 88) (tgt := 90) X dX4_putEffects_85 rfl rfl (by omega) (fun h85 => ?_) (fun h85 => ?_)
              · have hcz2 : (cz = (N : Int) ∧ ∀ x, t - 1 ≤ x → x < N → M2 22 7 x = 0) ∨ ∃ c : Nat, t - 1 ≤ c ∧ c < N ∧ cz = (c : Int) ∧ M2 22 7 c ≠ 0 := by
                  first
                    | (refine Or.inr ⟨t - 1, by omega, by omega, by omega, ?_⟩; omega)
                    | (rcases hcz with ⟨q1, q2⟩ | ⟨c, q1, q2, q3, q4⟩
                       · refine Or.inl ⟨q1, fun x h1 h2 => ?_⟩
                         by_cases e : x = t - 1
                         · rw [e]; omega
                         · rw [hoth x e]; exact q2 x (by omega) h2
                       · exact Or.inr ⟨c, by omega, q2, q3, by rw [hoth c (by omega)]; exact q4⟩)
                refine r_iinc (pc' := 93) (z' := (((t - 1 : Nat) : Int) - 1)) (lc' := [(0, vR G (22, 0)), (1, vR G (op, 0)), (2, vI cz), (3, vI (((t - 1 : Nat) : Int) - 1)), (4, vJ sm), (6, vI (i : Int))]) X 3 [1, 2, 3, 0, 4, 5] dX4_putEffects_90 rfl (by omega) (by decide) rfl rfl ?_
                refine r_goto (tgt := 12) X dX4_putEffects_93 rfl ?_
                refine w_sub (lc' := [(0, vR G (22, 0)), (1, vR G (op, 0)), (2, vI cz), (3, vI (((t - 1 : Nat) : Int) - 1))]) [0, 1, 2, 3] rfl ?_
                exact ih12 (t - 1) cz M2 (by omega) (by omega) (fun a b h => by rw [hM2, wu_ne h]; exact hfr a b h) hlo2 hcz2
              · refine r_iload_n (pc' := 89) X 3 dX4_putEffects_88 rfl rfl rfl ?_
                refine r_istore_n (pc' := 90) (lc' := [(0, vR G (22, 0)), (1, vR G (op, 0)), (2, vI ((t : Int) - 1)), (3, vI ((t : Int) - 1)), (4, vJ sm), (6, vI (i : Int))]) X [1, 2, 0, 3, 4, 5] dX4_putEffects_89 rfl (by decide) rfl rfl ?_
                have hcz2 : (((t : Int) - 1) = (N : Int) ∧ ∀ x, t - 1 ≤ x → x < N → M2 22 7 x = 0) ∨ ∃ c : Nat, t - 1 ≤ c ∧ c < N ∧ ((t : Int) - 1) = (c : Int) ∧ M2 22 7 c ≠ 0 := by
                  first
                    | (refine Or.inr ⟨t - 1, by omega, by omega, by omega, ?_⟩; omega)
                    | (rcases hcz with ⟨q1, q2⟩ | ⟨c, q1, q2, q3, q4⟩
                       · refine Or.inl ⟨q1, fun x h1 h2 => ?_⟩
                         by_cases e : x = t - 1
                         · rw [e]; omega
                         · rw [hoth x e]; exact q2 x (by omega) h2
                       · exact Or.inr ⟨c, by omega, q2, q3, by rw [hoth c (by omega)]; exact q4⟩)
                refine r_iinc (pc' := 93) (z' := (((t - 1 : Nat) : Int) - 1)) (lc' := [(0, vR G (22, 0)), (1, vR G (op, 0)), (2, vI ((t : Int) - 1)), (3, vI (((t - 1 : Nat) : Int) - 1)), (4, vJ sm), (6, vI (i : Int))]) X 3 [1, 2, 3, 0, 4, 5] dX4_putEffects_90 rfl (by omega) (by decide) rfl rfl ?_
                refine r_goto (tgt := 12) X dX4_putEffects_93 rfl ?_
                refine w_sub (lc' := [(0, vR G (22, 0)), (1, vR G (op, 0)), (2, vI ((t : Int) - 1)), (3, vI (((t - 1 : Nat) : Int) - 1))]) [0, 1, 2, 3] rfl ?_
                exact ih12 (t - 1) ((t : Int) - 1) M2 (by omega) (by omega) (fun a b h => by rw [hM2, wu_ne h]; exact hfr a b h) hlo2 hcz2
            · have hEi := hE i (by omega)
              have eE : Ma op 7 i = M op 7 i := by rw [e2]
              refine r_lload (pc' := 33) X 4 dX4_putEffects_31 rfl rfl ?_
              refine r_aload_n (pc' := 34) X 0 dX4_putEffects_33 rfl rfl rfl ?_
              refine gf_22_space (pc' := 37) X gw_277 dX4_putEffects_34 rfl ?_
              refine gf_S_rows (pc' := 40) X (by decide) gw_268 dX4_putEffects_37 rfl ?_
              refine r_iload_n (pc' := 41) X 3 dX4_putEffects_40 rfl rfl rfl ?_
              refine r_aald (i := (t - 1)) (x := (23, (2 + (t - 1)))) (pc' := 42) X (kS_1 (by decide)) (by decide) (by omega) (by omega) (by decide) rfl dX4_putEffects_41 rfl ?_
              refine r_iload (pc' := 44) X 5 dX4_putEffects_42 rfl rfl ?_
              refine r_lald (i := i) (pc' := 45) X (kS_r (by decide) (by omega)) (by omega) (by omega) (by decide) dX4_putEffects_44 rfl ?_
              refine r_aload_n (pc' := 46) X 1 dX4_putEffects_45 rfl rfl rfl ?_
              refine gf_P_e (pc' := 49) X hop gw_55 dX4_putEffects_46 rfl ?_
              refine r_iload (pc' := 51) X 5 dX4_putEffects_49 rfl rfl ?_
              refine r_iald (i := i) (pc' := 52) X (kP_7 hop) (by omega) (by omega) (by decide) dX4_putEffects_51 rfl ?_
              refine r_i2l (pc' := 53) X dX4_putEffects_52 (by omega) rfl ?_
              refine r_lmul (pc' := 54) X dX4_putEffects_53 rfl ?_
              refine r_ladd (pc' := 55) X dX4_putEffects_54 rfl ?_
              refine r_lstore (pc' := 57) (lc' := [(0, vR G (22, 0)), (1, vR G (op, 0)), (2, vI cz), (3, vI ((t : Int) - 1)), (4, vJ (sm + ((Ma 23 (2 + (t - 1)) i) * (Ma op 7 i)))), (6, vI (i : Int))]) X [1, 2, 3, 4, 0, 5] dX4_putEffects_55 (by decide) rfl rfl ?_
              refine r_iinc (pc' := 60) (z' := ((i + 1 : Nat) : Int)) (lc' := [(0, vR G (22, 0)), (1, vR G (op, 0)), (2, vI cz), (3, vI ((t : Int) - 1)), (4, vJ (sm + ((Ma 23 (2 + (t - 1)) i) * (Ma op 7 i)))), (6, vI ((i + 1 : Nat) : Int))]) X 5 [1, 2, 3, 4, 5, 0] dX4_putEffects_57 rfl (by omega) (by decide) rfl rfl ?_
              refine r_goto (tgt := 22) X dX4_putEffects_60 rfl ?_
              exact ih22 (i + 1) (sm + ((Ma 23 (2 + (t - 1)) i) * (Ma op 7 i))) (by omega) (by omega) (by rw [hsm, e1, e2]; rfl)
        exact L22 ((N - 0) + 1) 0 0 (Nat.lt_succ_self _) (by omega) rfl
  exact L12 ((N) + 1) N (N : Int) M (Nat.lt_succ_self _) (Nat.le_refl N) (fun _ _ _ => rfl) (fun x h1 h2 => absurd h1 (by omega)) (Or.inl ⟨rfl, fun x h1 h2 => absurd h1 (by omega)⟩)
