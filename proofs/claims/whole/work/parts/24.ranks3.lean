theorem cf_X6_include : wCal yX6_include cX6_include 4 none 2 := ⟨gw_412, gw_9, by decide, by decide, by rfl⟩
set_option maxRecDepth 100000 in
set_option maxHeartbeats 4000000 in
theorem c_X6_include (l : Launch) (G : wG) (M : wM) (o n k : Nat) (ho : o = 23 ∨ o = 24) (hn4 : n ≤ 4) (hs : SpcOk (M o) n k) (hv : RowOk n (M 22 5)) : Met l yX6_include (gws yX6_include cX6_include 4 none) (wrm 2 0 0) (wPc G M [vR G (o, 0), vR G (22, 5), vI (n : Int)]) (wQv G (fun M1 => ∃ k', SpcOk (M1 o) n k' ∧ (∀ u, Sp n (rws (fun r => M1 o (2 + r)) k') u ↔ Sp n (adj (rws (fun r => M o (2 + r)) k) (M 22 5)) u) ∧ ∀ a b, a ≠ o → ¬ (a = 22 ∧ b = 5) → M1 a b = M a b)) 0 0 (wA G) := by
  refine wMet (lc := [(0, vR G (o, 0)), (1, vR G (22, 5)), (2, vI (n : Int))]) (by decide) (Nat.le_of_ble_eq_true rfl) rfl ?_
  intro p e s m args below meth c X hr
  have X : wX p s m args meth c G 4 "StateObserver$Space" cX6_include := X
  obtain ⟨hk0, hkn, hrow, hld, hech, hz⟩ := id hs
  refine r_iconst (pc' := 1) X dX6_include_0 rfl ?_
  refine r_istore_n (pc' := 2) (lc' := [(0, vR G (o, 0)), (1, vR G (22, 5)), (2, vI (n : Int)), (3, vI 0)]) X [1, 2, 3, 0] dX6_include_1 rfl (by decide) rfl rfl ?_
  have L2 : ∀ (fu : Nat) (r : Nat) (Ma : wM), k - r < fu → (r ≤ k) → (∀ a b, ¬ (a = 22 ∧ b = 5) → Ma a b = M a b) → (RowOk n (Ma 22 5)) → (∀ x, x < r → Ma 22 5 (M o 6 x).toNat = 0) → (Sp n (adj (rws (fun r => M o (2 + r)) k) (M 22 5)) (Ma 22 5)) → (Sp n (adj (rws (fun r => M o (2 + r)) k) (Ma 22 5)) (M 22 5)) → wV p l e (wrm 2 0 0) s m args below meth c G 4 Ma 0 0 (MQ below (wQv G (fun M1 => ∃ k', SpcOk (M1 o) n k' ∧ (∀ u, Sp n (rws (fun r => M1 o (2 + r)) k') u ↔ Sp n (adj (rws (fun r => M o (2 + r)) k) (M 22 5)) u) ∧ ∀ a b, a ≠ o → ¬ (a = 22 ∧ b = 5) → M1 a b = M a b)) args s 0 0 (wA G)) 2 [(0, vR G (o, 0)), (1, vR G (22, 5)), (2, vI (n : Int)), (3, vI (r : Int))] [] := by
    intro fu
    induction fu with
    | zero => intro r Ma hfu; exact absurd hfu (Nat.not_lt_zero _)
    | succ fu ih2 =>
      intro r Ma hfu2 hr1 hfr hvo hzr hsp1 hsp2
      have hkk : Ma o 0 2 = k := by rw [hfr o 0 (by omega)]; exact hk0
      have e6 : Ma o 6 = M o 6 := hfr o 6 (by omega)
      refine r_iload_n (pc' := 3) X 3 dX6_include_2 rfl rfl rfl ?_
      refine r_aload_n (pc' := 4) X 0 dX6_include_3 rfl rfl rfl ?_
      refine gf_S_rank (pc' := 7) X ho gw_271 dX6_include_4 rfl ?_
      refine r_icmp_ge (pc' := 10) (tgt := 48) X dX6_include_7 rfl rfl (by omega) (by omega) (fun h7 => ?_) (fun h7 => ?_)
      · have erk : r = k := by omega
        rw [erk] at hzr
        refine r_iconst (pc' := 49) X dX6_include_48 rfl ?_
        refine r_istore_n (pc' := 50) (lc' := [(0, vR G (o, 0)), (1, vR G (22, 5)), (2, vI (n : Int)), (3, vI 0)]) X [1, 2, 3, 0] dX6_include_49 rfl (by decide) rfl rfl ?_
        have L50 : ∀ (fu : Nat) (j : Nat), n - j < fu → (j ≤ n) → (∀ i, i < j → Ma 22 5 i = 0) → wV p l e (wrm 2 0 0) s m args below meth c G 4 Ma 0 0 (MQ below (wQv G (fun M1 => ∃ k', SpcOk (M1 o) n k' ∧ (∀ u, Sp n (rws (fun r => M1 o (2 + r)) k') u ↔ Sp n (adj (rws (fun r => M o (2 + r)) k) (M 22 5)) u) ∧ ∀ a b, a ≠ o → ¬ (a = 22 ∧ b = 5) → M1 a b = M a b)) args s 0 0 (wA G)) 50 [(0, vR G (o, 0)), (1, vR G (22, 5)), (2, vI (n : Int)), (3, vI (j : Int))] [] := by
          intro fu
          induction fu with
          | zero => intro j hfu; exact absurd hfu (Nat.not_lt_zero _)
          | succ fu ih50 =>
            intro j hfu50 hj hzz
            refine r_iload_n (pc' := 51) X 3 dX6_include_50 rfl rfl rfl ?_
            refine r_iload_n (pc' := 52) X 2 dX6_include_51 rfl rfl rfl ?_
            refine r_icmp_ge (pc' := 55) (tgt := 111) X dX6_include_52 rfl rfl (by omega) (by omega) (fun h52 => ?_) (fun h52 => ?_)
            · have hall : ∀ i, i < n → Z0 (Ma 22 5 i) := by
                first
                  | exact fun i hi => by rw [hzz i (by omega)]; exact Z0.zero
                  | exact hech.zero (by omega) (fun x hx => by show Z0 (Ma 22 5 (M o 6 x).toNat); rw [hzr x hx]; exact Z0.zero)
              refine w_vret X hr dX6_include_111 ?_
              try dsimp only
              have eo : Ma o = M o := funext fun b => hfr o b (by omega)
              refine ⟨k, by rw [eo]; exact hs, fun u => ?_, fun a b _ h2 => hfr a b h2⟩
              rw [eo]
              exact (adj_zero hall u).symm.trans (adj_swap hsp2 hsp1 u)
            · refine r_aload_n (pc' := 56) X 0 dX6_include_55 rfl rfl rfl ?_
              refine gf_S_rank (pc' := 59) X ho gw_271 dX6_include_56 rfl ?_
              refine r_iconst (pc' := 60) X dX6_include_59 rfl ?_
              refine r_icmp_ge (pc' := 63) (tgt := 111) X dX6_include_60 rfl rfl (by omega) (by omega) (fun h60 => ?_) (fun h60 => ?_)
              · have hall : ∀ i, i < n → Z0 (Ma 22 5 i) := by
                  first
                    | exact fun i hi => by rw [hzz i (by omega)]; exact Z0.zero
                    | exact hech.zero (by omega) (fun x hx => by show Z0 (Ma 22 5 (M o 6 x).toNat); rw [hzr x hx]; exact Z0.zero)
                refine w_vret X hr dX6_include_111 ?_
                try dsimp only
                have eo : Ma o = M o := funext fun b => hfr o b (by omega)
                refine ⟨k, by rw [eo]; exact hs, fun u => ?_, fun a b _ h2 => hfr a b h2⟩
                rw [eo]
                exact (adj_zero hall u).symm.trans (adj_swap hsp2 hsp1 u)
              · have hvj := hvo j (by omega)
                refine r_aload_n (pc' := 64) X 1 dX6_include_63 rfl rfl rfl ?_
                refine r_iload_n (pc' := 65) X 3 dX6_include_64 rfl rfl rfl ?_
                refine r_lald (i := j) (pc' := 66) X k22_5 (by omega) (by omega) (by decide) dX6_include_65 rfl ?_
                refine r_lconst (pc' := 67) (z := 0) X dX6_include_66 rfl rfl ?_
                refine r_lcmp (pc' := 68) X dX6_include_67 (by omega) (by omega) rfl (fun z67 z67r z67l z67e z67g => ?_)
                refine r_if_eq (pc' := 71) (tgt := 105) X dX6_include_68 rfl rfl (by omega) (fun h68 => ?_) (fun h68 => ?_)
                · refine r_iinc (pc' := 108) (z' := ((j + 1 : Nat) : Int)) (lc' := [(0, vR G (o, 0)), (1, vR G (22, 5)), (2, vI (n : Int)), (3, vI ((j + 1 : Nat) : Int))]) X 3 [1, 2, 3, 0] dX6_include_105 rfl (by omega) (by decide) rfl rfl ?_
                  refine r_goto (tgt := 50) X dX6_include_108 rfl ?_
                  exact ih50 (j + 1) (by omega) (by omega) (fun i hi => by rcases Nat.lt_or_ge i j with q | q; exact hzz i q; rw [show i = j by omega]; omega)
                · refine r_aload_n (pc' := 72) X 1 dX6_include_71 rfl rfl rfl ?_
                  refine r_aload_n (pc' := 73) X 0 dX6_include_72 rfl rfl rfl ?_
                  refine gf_S_rows (pc' := 76) X ho gw_268 dX6_include_73 rfl ?_
                  refine r_aload_n (pc' := 77) X 0 dX6_include_76 rfl rfl rfl ?_
                  refine gf_S_rank (pc' := 80) X ho gw_271 dX6_include_77 rfl ?_
                  refine r_aald (i := k) (x := (o, (2 + k))) (pc' := 81) X (kS_1 ho) (by decide) hkk (by omega) (by decide) rfl dX6_include_80 rfl ?_
                  refine w_callv (pc' := 84) (st := []) (w_runSN X (c_X8_copyRow_ l G Ma 22 5 o (2 + k) 4 k22_5 (kS_r ho (by omega)) (by first | assumption | omega)) cf_X8_copyRow_ gw_401 rfl rfl ⟨Nat.le_of_ble_eq_true rfl, Nat.le_of_ble_eq_true rfl⟩ rfl rfl (Nat.le_of_ble_eq_true rfl) ⟨Nat.le_of_ble_eq_true rfl, Nat.le_of_ble_eq_true rfl⟩ tn_418 dX6_include_81) rfl (fun M1 h81 => ?_)
                  refine r_aload_n (pc' := 85) X 0 dX6_include_84 rfl rfl rfl ?_
                  refine gf_S_lead (pc' := 88) X ho gw_270 dX6_include_85 rfl ?_
                  refine r_aload_n (pc' := 89) X 0 dX6_include_88 rfl rfl rfl ?_
                  refine gf_S_rank (pc' := 92) X ho gw_271 dX6_include_89 rfl ?_
                  refine w_eqI (z' := (k : Int)) (by rw [h81, wr_ne (by omega)]; exact hkk) ?_
                  refine r_iload_n (pc' := 93) X 3 dX6_include_92 rfl rfl rfl ?_
                  refine r_iast (i := k) (pc' := 94) X (kS_6 ho) (by omega) (by omega) (by decide) dX6_include_93 rfl (fun M2 hM2 => ?_)
                  refine r_aload_n (pc' := 95) X 0 dX6_include_94 rfl rfl rfl ?_
                  refine r_dup (pc' := 96) X dX6_include_95 rfl rfl ?_
                  refine gf_S_rank (pc' := 99) X ho gw_271 dX6_include_96 rfl ?_
                  refine w_eqI (z' := (k : Int)) (by rw [hM2, wu_ne (by omega), h81, wr_ne (by omega)]; exact hkk) ?_
                  refine r_iconst (pc' := 100) X dX6_include_99 rfl ?_
                  refine r_iadd (pc' := 101) X dX6_include_100 rfl ?_
                  refine pf_S_rank (pc' := 104) X ho gw_271 dX6_include_101 rfl (fun M3 hM3 => ?_)
                  refine w_vret X hr dX6_include_104 ?_
                  try dsimp only
                  have hm := SpcOk.more (v := M o) (v' := M3 o) (w := Ma 22 5) (j := j) hs hvo hzr (by omega) (by omega) hzz (by rw [hM3]; unfold wu; rw [if_pos ⟨rfl, rfl, rfl⟩]) (fun x hx => by rw [hM3, wu_ne (by omega), hM2, wu_ne (by omega), h81, wr_ne (by omega)]; exact hfr o _ (by omega)) (by rw [hM3, wu_ne (by omega), hM2, wu_ne (by omega), h81, wr_eq]) (fun x hx => by rw [hM3, wu_ne (by omega), hM2]; unfold wu; rw [if_neg (by omega), h81, wr_ne (by omega), e6]) (by rw [hM3, wu_ne (by omega), hM2]; unfold wu; rw [if_pos ⟨rfl, rfl, rfl⟩])
                  exact ⟨k + 1, hm.1, fun u => (hm.2 u).trans (adj_swap hsp2 hsp1 u), fun a b h1 h2 => by rw [hM3, wu_ne (by omega), hM2, wu_ne (by omega), h81, wr_ne (by omega)]; exact hfr a b h2⟩
        exact L50 ((n - 0) + 1) 0 (Nat.lt_succ_self _) (by omega) (fun i h => absurd h (Nat.not_lt_zero i))
      · have hrk : r < k := by omega
        have hL := hld r hrk
        obtain ⟨lr, hlr⟩ : ∃ q : Nat, M o 6 r = q := ⟨(M o 6 r).toNat, by omega⟩
        have er : Ma o (2 + r) = M o (2 + r) := hfr o (2 + r) (by omega)
        have hor : RowOk n (Ma o (2 + r)) := by rw [er]; exact hrow r hrk
        have hb1 := hvo lr (by omega)
        have hb2 := hor lr (by omega)
        have hnz : ¬ Z0 (Ma o (2 + r) lr) := by
          have := (hech r hrk).1.2.1
          simp only [hlr, Int.toNat_natCast] at this
          rw [er]; exact this
        refine r_aload_n (pc' := 11) X 1 dX6_include_10 rfl rfl rfl ?_
        refine r_aload_n (pc' := 12) X 1 dX6_include_11 rfl rfl rfl ?_
        refine r_aload_n (pc' := 13) X 0 dX6_include_12 rfl rfl rfl ?_
        refine gf_S_lead (pc' := 16) X ho gw_270 dX6_include_13 rfl ?_
        refine r_iload_n (pc' := 17) X 3 dX6_include_16 rfl rfl rfl ?_
        refine r_iald (i := r) (pc' := 18) X (kS_6 ho) (by omega) (by omega) (by decide) dX6_include_17 rfl ?_
        refine r_lald (i := lr) (pc' := 19) X k22_5 (by rw [e6]; exact hlr) (by omega) (by decide) dX6_include_18 rfl ?_
        refine r_aload_n (pc' := 20) X 0 dX6_include_19 rfl rfl rfl ?_
        refine gf_S_rows (pc' := 23) X ho gw_268 dX6_include_20 rfl ?_
        refine r_iload_n (pc' := 24) X 3 dX6_include_23 rfl rfl rfl ?_
        refine r_aald (i := r) (x := (o, (2 + r))) (pc' := 25) X (kS_1 ho) (by decide) (by omega) (by omega) (by decide) rfl dX6_include_24 rfl ?_
        refine r_aload_n (pc' := 26) X 0 dX6_include_25 rfl rfl rfl ?_
        refine gf_S_rows (pc' := 29) X ho gw_268 dX6_include_26 rfl ?_
        refine r_iload_n (pc' := 30) X 3 dX6_include_29 rfl rfl rfl ?_
        refine r_aald (i := r) (x := (o, (2 + r))) (pc' := 31) X (kS_1 ho) (by decide) (by omega) (by omega) (by decide) rfl dX6_include_30 rfl ?_
        refine r_aload_n (pc' := 32) X 0 dX6_include_31 rfl rfl rfl ?_
        refine gf_S_lead (pc' := 35) X ho gw_270 dX6_include_32 rfl ?_
        refine r_iload_n (pc' := 36) X 3 dX6_include_35 rfl rfl rfl ?_
        refine r_iald (i := r) (pc' := 37) X (kS_6 ho) (by omega) (by omega) (by decide) dX6_include_36 rfl ?_
        refine r_lald (i := lr) (pc' := 38) X (kS_r ho (by omega)) (by rw [e6]; exact hlr) (by omega) (by decide) dX6_include_37 rfl ?_
        refine r_iload_n (pc' := 39) X 2 dX6_include_38 rfl rfl rfl ?_
        refine w_callv (pc' := 42) (st := []) (w_runSN X (c_X8_removeLead l G Ma 22 5 o (2 + r) n (Ma 22 5 lr) (Ma o (2 + r) lr) k22_5 (kS_r ho (show r < 4 by omega)) (by omega) hn4 hvo hor hb1 hb2) cf_X8_removeLead gw_414 rfl rfl ⟨Nat.le_of_ble_eq_true rfl, Nat.le_of_ble_eq_true rfl⟩ rfl rfl (Nat.le_of_ble_eq_true rfl) ⟨Nat.le_of_ble_eq_true rfl, Nat.le_of_ble_eq_true rfl⟩ tn_413 dX6_include_39) rfl (fun M4 h39 => ?_)
        have htk := Sp.take (S := adj (rws (fun r => M o (2 + r)) k) (M 22 5)) (v := Ma 22 5) (o := Ma o (2 + r)) (w := M4 22 5) (n := n) (by rw [er]; exact Sp.of (Or.inl ⟨r, hrk, rfl⟩)) h39.2
        have htk2 := Sp.take (S := adj (rws (fun r => M o (2 + r)) k) (M4 22 5)) (v := Ma 22 5) (o := Ma o (2 + r)) (w := M4 22 5) (n := n) (by rw [er]; exact Sp.of (Or.inl ⟨r, hrk, rfl⟩)) h39.2
        have hzr2 : ∀ x, x < r + 1 → M4 22 5 (M o 6 x).toNat = 0 := fun x hx => by
          have hlx := hld x (by omega)
          rw [h39.2 _ (by omega)]
          by_cases e : x = r
          · rw [e, hlr, Int.toNat_natCast, Int.mul_comm, Int.sub_self]
            rfl
          · rw [hzr x (by omega), er, hz x r (by omega) hrk, Int.zero_mul, Int.zero_mul]
            rfl
        refine r_iinc (pc' := 45) (z' := ((r + 1 : Nat) : Int)) (lc' := [(0, vR G (o, 0)), (1, vR G (22, 5)), (2, vI (n : Int)), (3, vI ((r + 1 : Nat) : Int))]) X 3 [1, 2, 3, 0] dX6_include_42 rfl (by omega) (by decide) rfl rfl ?_
        refine r_goto (tgt := 2) X dX6_include_45 rfl ?_
        exact ih2 (r + 1) M4 (by omega) (by omega) (fun a b h => (h39.1 a b h).trans (hfr a b h)) (fun j hj => by rw [h39.2 j hj]; omega) hzr2 (htk.1 hsp1) (adj_sub (fun _ q => Sp.of (Or.inl q)) (htk2.2 hnz adj_of) hsp2)
  exact L2 ((k - 0) + 1) 0 M (Nat.lt_succ_self _) (by omega) (fun _ _ _ => rfl) hv (fun x h => absurd h (Nat.not_lt_zero x)) adj_of adj_of
theorem cf_X4_multiply : wCal yX4_multiply cX4_multiply 7 none 2 := ⟨gw_422, gw_8, by decide, by decide, by rfl⟩
set_option maxRecDepth 100000 in
set_option maxHeartbeats 4000000 in
theorem c_X4_multiply (l : Launch) (G : wG) (M : wM) (op fj N P : Nat) (hop : op = 19 ∨ op = 20) (hfj : fj ≠ 6) (hkf : wkd 22 fj = some (.inr (1, 4, wNr))) (hp : PlOk (M op) N P) (hf : RowOk N (M 22 fj)) : Met l yX4_multiply (gws yX4_multiply cX4_multiply 7 none) (wrm 2 0 0) (wPc G M [vR G (22, 0), vR G (op, 0), vR G (22, fj)]) (wQv G (fun M1 => (∀ a b, ¬ (a = 22 ∧ (b = 6 ∨ b = fj)) → M1 a b = M a b) ∧ ∀ j, j < N → M1 22 fj j = (mulF N (M op) (M 22 fj) j % 1000003))) 0 0 (wA G) := by
  refine wMet (lc := [(0, vR G (22, 0)), (1, vR G (op, 0)), (2, vR G (22, fj))]) (by decide) (Nat.le_of_ble_eq_true rfl) rfl ?_
  intro p e s m args below meth c X hr
  have X : wX p s m args meth c G 7 "StateObserver$Ranks" cX4_multiply := X
  obtain ⟨hN, hN1, hN4, hP, hP1, hP3, hA, hB, hE, hC, hQ⟩ := id hp
  refine r_iconst (pc' := 1) X dX4_multiply_0 rfl ?_
  refine r_istore_n (pc' := 2) (lc' := [(0, vR G (22, 0)), (1, vR G (op, 0)), (2, vR G (22, fj)), (3, vI 0)]) X [1, 2, 3, 0] dX4_multiply_1 rfl (by decide) rfl rfl ?_
  have L2 : ∀ (fu : Nat) (j : Nat) (Ma : wM), N - j < fu → (j ≤ N) → (∀ a b, ¬ (a = 22 ∧ b = 6) → Ma a b = M a b) → (∀ x, x < j → Ma 22 6 x = (mulF N (M op) (M 22 fj) x % 1000003)) → wV p l e (wrm 2 0 0) s m args below meth c G 7 Ma 0 0 (MQ below (wQv G (fun M1 => (∀ a b, ¬ (a = 22 ∧ (b = 6 ∨ b = fj)) → M1 a b = M a b) ∧ ∀ j, j < N → M1 22 fj j = (mulF N (M op) (M 22 fj) j % 1000003))) args s 0 0 (wA G)) 2 [(0, vR G (22, 0)), (1, vR G (op, 0)), (2, vR G (22, fj)), (3, vI (j : Int))] [] := by
    intro fu
    induction fu with
    | zero => intro j Ma hfu; exact absurd hfu (Nat.not_lt_zero _)
    | succ fu ih2 =>
      intro j Ma hfu2 hj hfr hlo
      have e1 : Ma 22 fj = M 22 fj := hfr 22 fj (by omega)
      have e2 : Ma op = M op := funext fun b => hfr op b (by omega)
      have eN : Ma op 0 0 = N := by rw [e2]; exact hN
      refine r_iload_n (pc' := 3) X 3 dX4_multiply_2 rfl rfl rfl ?_
      refine r_aload_n (pc' := 4) X 1 dX4_multiply_3 rfl rfl rfl ?_
      refine gf_P_n (pc' := 7) X hop gw_36 dX4_multiply_4 rfl ?_
      refine r_icmp_ge (pc' := 10) (tgt := 71) X dX4_multiply_7 rfl rfl (by omega) (by omega) (fun h7 => ?_) (fun h7 => ?_)
      · refine r_aload_n (pc' := 72) X 0 dX4_multiply_71 rfl rfl rfl ?_
        refine gf_22_product (pc' := 75) X gw_285 dX4_multiply_72 rfl ?_
        refine r_aload_n (pc' := 76) X 2 dX4_multiply_75 rfl rfl rfl ?_
        refine w_callv (pc' := 79) (st := []) (w_runSN X (c_X8_copyRow_ l G Ma 22 6 22 fj 4 k22_6 hkf (by first | assumption | omega)) cf_X8_copyRow_ gw_401 rfl rfl ⟨Nat.le_of_ble_eq_true rfl, Nat.le_of_ble_eq_true rfl⟩ rfl rfl (Nat.le_of_ble_eq_true rfl) ⟨Nat.le_of_ble_eq_true rfl, Nat.le_of_ble_eq_true rfl⟩ tn_400 dX4_multiply_76) rfl (fun M1 h76 => ?_)
        refine w_vret X hr dX4_multiply_79 ?_
        try dsimp only
        have ej : j = N := by omega
        refine ⟨fun a b h => by rw [h76, wr_ne (by omega)]; exact hfr a b (by omega), fun x hx => by rw [h76, wr_eq]; exact hlo x (by omega)⟩
      · refine r_lconst (pc' := 11) (z := 0) X dX4_multiply_10 rfl rfl ?_
        refine r_lstore (pc' := 13) (lc' := [(0, vR G (22, 0)), (1, vR G (op, 0)), (2, vR G (22, fj)), (3, vI (j : Int)), (4, vJ 0)]) X [1, 2, 3, 4, 0] dX4_multiply_11 (by decide) rfl rfl ?_
        refine r_iconst (pc' := 14) X dX4_multiply_13 rfl ?_
        refine r_istore (pc' := 16) (lc' := [(0, vR G (22, 0)), (1, vR G (op, 0)), (2, vR G (22, fj)), (3, vI (j : Int)), (4, vJ 0), (6, vI 0)]) X [1, 2, 3, 4, 5, 0] dX4_multiply_14 (by decide) rfl rfl ?_
        have L16 : ∀ (fu : Nat) (i : Nat) (sm : Int), N - i < fu → (i ≤ N) → (sm = dot i (M 22 fj) (fun x => M op (2 + x) j)) → wV p l e (wrm 2 0 0) s m args below meth c G 7 Ma 0 0 (MQ below (wQv G (fun M1 => (∀ a b, ¬ (a = 22 ∧ (b = 6 ∨ b = fj)) → M1 a b = M a b) ∧ ∀ j, j < N → M1 22 fj j = (mulF N (M op) (M 22 fj) j % 1000003))) args s 0 0 (wA G)) 16 [(0, vR G (22, 0)), (1, vR G (op, 0)), (2, vR G (22, fj)), (3, vI (j : Int)), (4, vJ sm), (6, vI (i : Int))] [] := by
          intro fu
          induction fu with
          | zero => intro i sm hfu; exact absurd hfu (Nat.not_lt_zero _)
          | succ fu ih16 =>
            intro i sm hfu16 hi hsm
            refine r_iload (pc' := 18) X 5 dX4_multiply_16 rfl rfl ?_
            refine r_aload_n (pc' := 19) X 1 dX4_multiply_18 rfl rfl rfl ?_
            refine gf_P_n (pc' := 22) X hop gw_36 dX4_multiply_19 rfl ?_
            refine r_icmp_ge (pc' := 25) (tgt := 51) X dX4_multiply_22 rfl rfl (by omega) (by omega) (fun h22 => ?_) (fun h22 => ?_)
            · have hdb := dot_bd (A := 1000003) (B := 99) (by decide) (by decide) (n := i) (f := M 22 fj) (g := fun x => M op (2 + x) j) (fun x hx => by have := hf x (by omega); omega) (fun x hx => hA x j (by omega) (by omega))
              rw [← hsm] at hdb
              refine r_aload_n (pc' := 52) X 0 dX4_multiply_51 rfl rfl rfl ?_
              refine gf_22_product (pc' := 55) X gw_285 dX4_multiply_52 rfl ?_
              refine r_iload_n (pc' := 56) X 3 dX4_multiply_55 rfl rfl rfl ?_
              refine r_lload (pc' := 58) X 4 dX4_multiply_56 rfl rfl ?_
              refine r_ldc2 (pc' := 61) (z := 1000003) X gw_396 dX4_multiply_58 rfl rfl ?_
              refine w_callj (pc' := 64) (st := [vI (j : Int), vR G (22, 6)]) (w_runS X (c_J9_floorMod_f86c9 l G Ma sm 1000003 (by first | assumption | omega) (by first | assumption | omega) (by first | assumption | omega)) cf_J9_floorMod_f86c9 gw_398 rfl rfl ⟨Nat.le_of_ble_eq_true rfl, Nat.le_of_ble_eq_true rfl⟩ rfl rfl (Nat.le_of_ble_eq_true rfl) ⟨Nat.le_of_ble_eq_true rfl, Nat.le_of_ble_eq_true rfl⟩ gw_397 dX4_multiply_61) rfl (fun z61 M2 h61 => ?_)
              obtain rfl := h61.1.symm
              obtain rfl := h61.2.symm
              refine r_last (i := j) (pc' := 65) X k22_6 (by omega) (by omega) (by decide) dX4_multiply_64 rfl (fun M3 hM3 => ?_)
              refine r_iinc (pc' := 68) (z' := ((j + 1 : Nat) : Int)) (lc' := [(0, vR G (22, 0)), (1, vR G (op, 0)), (2, vR G (22, fj)), (3, vI ((j + 1 : Nat) : Int)), (4, vJ sm), (6, vI (i : Int))]) X 3 [1, 2, 3, 0, 4, 5] dX4_multiply_65 rfl (by omega) (by decide) rfl rfl ?_
              refine r_goto (tgt := 2) X dX4_multiply_68 rfl ?_
              refine w_sub (lc' := [(0, vR G (22, 0)), (1, vR G (op, 0)), (2, vR G (22, fj)), (3, vI ((j + 1 : Nat) : Int))]) [0, 1, 2, 3] rfl ?_
              exact ih2 (j + 1) M3 (by omega) (by omega) (fun a b h => by rw [hM3, wu_ne h]; exact hfr a b h) (fun x hx => by rw [hM3]; exact up_s (F := fun x => (mulF N (M op) (M 22 fj) x % 1000003)) hlo (by rw [hsm, show i = N by omega]; rfl) hx)
            · have hAij := hA i j (by omega) (by omega)
              have eA : Ma op (2 + i) j = M op (2 + i) j := by rw [e2]
              refine r_lload (pc' := 27) X 4 dX4_multiply_25 rfl rfl ?_
              refine r_aload_n (pc' := 28) X 2 dX4_multiply_27 rfl rfl rfl ?_
              refine r_iload (pc' := 30) X 5 dX4_multiply_28 rfl rfl ?_
              refine r_lald (i := i) (pc' := 31) X hkf (by omega) (by omega) (by decide) dX4_multiply_30 rfl ?_
              refine r_aload_n (pc' := 32) X 1 dX4_multiply_31 rfl rfl rfl ?_
              refine gf_P_a (pc' := 35) X hop gw_48 dX4_multiply_32 rfl ?_
              refine r_iload (pc' := 37) X 5 dX4_multiply_35 rfl rfl ?_
              refine r_aald (i := i) (x := (op, (2 + i))) (pc' := 38) X (kP_1 hop) (by decide) (by omega) (by omega) (by decide) rfl dX4_multiply_37 rfl ?_
              refine r_iload_n (pc' := 39) X 3 dX4_multiply_38 rfl rfl rfl ?_
              refine r_iald (i := j) (pc' := 40) X (kP_a hop (by omega)) (by omega) (by omega) (by decide) dX4_multiply_39 rfl ?_
              refine r_i2l (pc' := 41) X dX4_multiply_40 (by omega) rfl ?_
              refine r_lmul (pc' := 42) X dX4_multiply_41 rfl ?_
              refine r_ladd (pc' := 43) X dX4_multiply_42 rfl ?_
              refine r_lstore (pc' := 45) (lc' := [(0, vR G (22, 0)), (1, vR G (op, 0)), (2, vR G (22, fj)), (3, vI (j : Int)), (4, vJ (sm + ((Ma 22 fj i) * (Ma op (2 + i) j)))), (6, vI (i : Int))]) X [1, 2, 3, 4, 0, 5] dX4_multiply_43 (by decide) rfl rfl ?_
              refine r_iinc (pc' := 48) (z' := ((i + 1 : Nat) : Int)) (lc' := [(0, vR G (22, 0)), (1, vR G (op, 0)), (2, vR G (22, fj)), (3, vI (j : Int)), (4, vJ (sm + ((Ma 22 fj i) * (Ma op (2 + i) j)))), (6, vI ((i + 1 : Nat) : Int))]) X 5 [1, 2, 3, 4, 5, 0] dX4_multiply_45 rfl (by omega) (by decide) rfl rfl ?_
              refine r_goto (tgt := 16) X dX4_multiply_48 rfl ?_
              exact ih16 (i + 1) (sm + ((Ma 22 fj i) * (Ma op (2 + i) j))) (by omega) (by omega) (by rw [hsm, e1, e2]; rfl)
        exact L16 ((N - 0) + 1) 0 0 (Nat.lt_succ_self _) (by omega) rfl
  exact L2 ((N - 0) + 1) 0 M (Nat.lt_succ_self _) (by omega) (fun _ _ _ => rfl) (fun x h => absurd h (Nat.not_lt_zero x))
theorem cf_X4_putOutput : wCal yX4_putOutput cX4_putOutput 5 none 3 := ⟨gw_395, gw_8, by decide, by decide, by rfl⟩
set_option maxRecDepth 100000 in
set_option maxHeartbeats 4000000 in
theorem c_X4_putOutput (l : Launch) (G : wG) (M : wM) (op k tj N P : Nat) (hop : op = 19 ∨ op = 20) (hk : k < P) (hkt : wkd 22 tj = some (.inr (1, 4, wNr))) (hp : PlOk (M op) N P) : Met l yX4_putOutput (gws yX4_putOutput cX4_putOutput 5 none) (wrm 1 0 0) (wPc G M [vR G (22, 0), vR G (op, 0), vI (k : Int), vR G (22, tj)]) (wQv G (fun M1 => (∀ a b, ¬ (a = 22 ∧ b = tj) → M1 a b = M a b) ∧ ∀ j, j < N → M1 22 tj j = M op (9 + k) j % 1000003)) 0 0 (wA G) := by
  refine wMet (lc := [(0, vR G (22, 0)), (1, vR G (op, 0)), (2, vI (k : Int)), (3, vR G (22, tj))]) (by decide) (Nat.le_of_ble_eq_true rfl) rfl ?_
  intro p e s m args below meth c X hr
  have X : wX p s m args meth c G 5 "StateObserver$Ranks" cX4_putOutput := X
  obtain ⟨hN, hN1, hN4, hP, hP1, hP3, hA, hB, hE, hC, hQ⟩ := id hp
  refine r_iconst (pc' := 1) X dX4_putOutput_0 rfl ?_
  refine r_istore (pc' := 3) (lc' := [(0, vR G (22, 0)), (1, vR G (op, 0)), (2, vI (k : Int)), (3, vR G (22, tj)), (4, vI 0)]) X [1, 2, 3, 4, 0] dX4_putOutput_1 (by decide) rfl rfl ?_
  have L3 : ∀ (fu : Nat) (j : Nat) (Ma : wM), N - j < fu → (j ≤ N) → (∀ a b, ¬ (a = 22 ∧ b = tj) → Ma a b = M a b) → (∀ x, x < j → Ma 22 tj x = M op (9 + k) x % 1000003) → wV p l e (wrm 1 0 0) s m args below meth c G 5 Ma 0 0 (MQ below (wQv G (fun M1 => (∀ a b, ¬ (a = 22 ∧ b = tj) → M1 a b = M a b) ∧ ∀ j, j < N → M1 22 tj j = M op (9 + k) j % 1000003)) args s 0 0 (wA G)) 3 [(0, vR G (22, 0)), (1, vR G (op, 0)), (2, vI (k : Int)), (3, vR G (22, tj)), (4, vI (j : Int))] [] := by
    intro fu
    induction fu with
    | zero => intro j Ma hfu; exact absurd hfu (Nat.not_lt_zero _)
    | succ fu ih3 =>
      intro j Ma hfu3 hj hfr hlo
      have e2 : Ma op = M op := funext fun b => hfr op b (by omega)
      have eN : Ma op 0 0 = N := by rw [e2]; exact hN
      refine r_iload (pc' := 5) X 4 dX4_putOutput_3 rfl rfl ?_
      refine r_aload_n (pc' := 6) X 1 dX4_putOutput_5 rfl rfl rfl ?_
      refine gf_P_n (pc' := 9) X hop gw_36 dX4_putOutput_6 rfl ?_
      refine r_icmp_ge (pc' := 12) (tgt := 38) X dX4_putOutput_9 rfl rfl (by omega) (by omega) (fun h9 => ?_) (fun h9 => ?_)
      · refine w_vret X hr dX4_putOutput_38 ?_
        try dsimp only
        exact ⟨hfr, fun x hx => hlo x (by omega)⟩
      · have hCj := hC k j hk (by omega)
        have eC : Ma op (9 + k) j = M op (9 + k) j := by rw [e2]
        refine r_aload_n (pc' := 13) X 3 dX4_putOutput_12 rfl rfl rfl ?_
        refine r_iload (pc' := 15) X 4 dX4_putOutput_13 rfl rfl ?_
        refine r_aload_n (pc' := 16) X 1 dX4_putOutput_15 rfl rfl rfl ?_
        refine gf_P_c (pc' := 19) X hop gw_60 dX4_putOutput_16 rfl ?_
        refine r_iload_n (pc' := 20) X 2 dX4_putOutput_19 rfl rfl rfl ?_
        refine r_aald (i := k) (x := (op, (9 + k))) (pc' := 21) X (kP_8 hop) (by decide) (by omega) (by omega) (by decide) rfl dX4_putOutput_20 rfl ?_
        refine r_iload (pc' := 23) X 4 dX4_putOutput_21 rfl rfl ?_
        refine r_iald (i := j) (pc' := 24) X (kP_c hop (by omega)) (by omega) (by omega) (by decide) dX4_putOutput_23 rfl ?_
        refine r_i2l (pc' := 25) X dX4_putOutput_24 (by omega) rfl ?_
        refine r_ldc2 (pc' := 28) (z := 1000003) X gw_396 dX4_putOutput_25 rfl rfl ?_
        refine w_callj (pc' := 31) (st := [vI (j : Int), vR G (22, tj)]) (w_runS X (c_J9_floorMod_f86c9 l G Ma (Ma op (9 + k) j) 1000003 (by first | assumption | omega) (by first | assumption | omega) (by first | assumption | omega)) cf_J9_floorMod_f86c9 gw_398 rfl rfl ⟨Nat.le_of_ble_eq_true rfl, Nat.le_of_ble_eq_true rfl⟩ rfl rfl (Nat.le_of_ble_eq_true rfl) ⟨Nat.le_of_ble_eq_true rfl, Nat.le_of_ble_eq_true rfl⟩ gw_397 dX4_putOutput_28) rfl (fun z28 M1 h28 => ?_)
        obtain rfl := h28.1.symm
        obtain rfl := h28.2.symm
        refine r_last (i := j) (pc' := 32) X hkt (by omega) (by omega) (by decide) dX4_putOutput_31 rfl (fun M2 hM2 => ?_)
        refine r_iinc (pc' := 35) (z' := ((j + 1 : Nat) : Int)) (lc' := [(0, vR G (22, 0)), (1, vR G (op, 0)), (2, vI (k : Int)), (3, vR G (22, tj)), (4, vI ((j + 1 : Nat) : Int))]) X 4 [1, 2, 3, 4, 0] dX4_putOutput_32 rfl (by omega) (by decide) rfl rfl ?_
        refine r_goto (tgt := 3) X dX4_putOutput_35 rfl ?_
        exact ih3 (j + 1) M2 (by omega) (by omega) (fun a b h => by rw [hM2, wu_ne h]; exact hfr a b h) (fun x hx => by rw [hM2]; exact up_s (F := fun x => M op (9 + k) x % 1000003) hlo (by rw [e2]) hx)
  exact L3 ((N - 0) + 1) 0 M (Nat.lt_succ_self _) (by omega) (fun _ _ _ => rfl) (fun x h => absurd h (Nat.not_lt_zero x))
theorem cf_X4_putEffects : wCal yX4_putEffects cX4_putEffects 7 (some .int) 1 := ⟨gw_867, gw_8, by decide, by decide, by rfl⟩
set_option maxRecDepth 100000 in
set_option maxHeartbeats 4000000 in
theorem c_X4_putEffects (l : Launch) (G : wG) (M : wM) (op N P k : Nat) (hop : op = 19 ∨ op = 20) (hp : PlOk (M op) N P) (hs : SpcOk (M 23) N k) : Met l yX4_putEffects (gws yX4_putEffects cX4_putEffects 7 (some .int)) (wrm 1 0 0) (wPc G M [vR G (22, 0), vR G (op, 0)]) (wQi G (fun z M1 => (∀ a b, ¬ (a = 22 ∧ b = 7) → M1 a b = M a b) ∧ (∀ r, r < k → M1 22 7 r = (dot N (M 23 (2 + r)) (M op 7) % 1000003)) ∧ ((z = k ∧ ∀ r, r < k → M1 22 7 r = 0) ∨ ∃ c : Nat, c < k ∧ z = c ∧ M1 22 7 c ≠ 0))) 0 0 (wA G) := by
  refine wMet (lc := [(0, vR G (22, 0)), (1, vR G (op, 0))]) (by decide) (Nat.le_of_ble_eq_true rfl) rfl ?_
  intro p e s m args below meth c X hr
  have X : wX p s m args meth c G 7 "StateObserver$Ranks" cX4_putEffects := X
  obtain ⟨hN, hN1, hN4, hP, hP1, hP3, hA, hB, hE, hC, hQ⟩ := id hp
  obtain ⟨hk0, hkn, hrow, hld, hech, hzl⟩ := id hs
  refine r_aload_n (pc' := 1) X 0 dX4_putEffects_0 rfl rfl rfl ?_
  refine gf_22_space (pc' := 4) X gw_281 dX4_putEffects_1 rfl ?_
  refine gf_S_rank (pc' := 7) X (by decide) gw_272 dX4_putEffects_4 rfl ?_
  refine w_eqI (z' := (k : Int)) hk0 ?_
  refine r_istore_n (pc' := 8) (lc' := [(0, vR G (22, 0)), (1, vR G (op, 0)), (2, vI (k : Int))]) X [1, 2, 0] dX4_putEffects_7 rfl (by decide) rfl rfl ?_
  refine r_aload_n (pc' := 9) X 0 dX4_putEffects_8 rfl rfl rfl ?_
  refine gf_22_space (pc' := 12) X gw_281 dX4_putEffects_9 rfl ?_
  refine gf_S_rank (pc' := 15) X (by decide) gw_272 dX4_putEffects_12 rfl ?_
  refine w_eqI (z' := (k : Int)) hk0 ?_
  refine r_iconst (pc' := 16) X dX4_putEffects_15 rfl ?_
  refine r_isub (pc' := 17) X dX4_putEffects_16 rfl ?_
  refine r_istore_n (pc' := 18) (lc' := [(0, vR G (22, 0)), (1, vR G (op, 0)), (2, vI (k : Int)), (3, vI ((k : Int) - 1))]) X [1, 2, 3, 0] dX4_putEffects_17 rfl (by decide) rfl rfl ?_
  have L18 : ∀ (fu : Nat) (t : Nat) (cz : Int) (Ma : wM), t < fu → (t ≤ k) → (∀ a b, ¬ (a = 22 ∧ b = 7) → Ma a b = M a b) → (∀ x, t ≤ x → x < k → Ma 22 7 x = (dot N (M 23 (2 + x)) (M op 7) % 1000003)) → ((cz = k ∧ ∀ x, t ≤ x → x < k → Ma 22 7 x = 0) ∨ ∃ c : Nat, t ≤ c ∧ c < k ∧ cz = c ∧ Ma 22 7 c ≠ 0) → wV p l e (wrm 1 0 0) s m args below meth c G 7 Ma 0 0 (MQ below (wQi G (fun z M1 => (∀ a b, ¬ (a = 22 ∧ b = 7) → M1 a b = M a b) ∧ (∀ r, r < k → M1 22 7 r = (dot N (M 23 (2 + r)) (M op 7) % 1000003)) ∧ ((z = k ∧ ∀ r, r < k → M1 22 7 r = 0) ∨ ∃ c : Nat, c < k ∧ z = c ∧ M1 22 7 c ≠ 0))) args s 0 0 (wA G)) 18 [(0, vR G (22, 0)), (1, vR G (op, 0)), (2, vI cz), (3, vI ((t : Int) - 1))] [] := by
    intro fu
    induction fu with
    | zero => intro t cz Ma hfu; exact absurd hfu (Nat.not_lt_zero _)
    | succ fu ih18 =>
      intro t cz Ma hfu18 ht hfr hlo hcz
      have e2 : Ma op = M op := funext fun b => hfr op b (by omega)
      have e3 : Ma 23 = M 23 := funext fun b => hfr 23 b (by omega)
      have eN : Ma op 0 0 = N := by rw [e2]; exact hN
      refine r_iload_n (pc' := 19) X 3 dX4_putEffects_18 rfl rfl rfl ?_
      refine r_if_lt (pc' := 22) (tgt := 102) X dX4_putEffects_19 rfl rfl (by omega) (fun h19 => ?_) (fun h19 => ?_)
      · refine r_iload_n (pc' := 103) X 2 dX4_putEffects_102 rfl rfl rfl ?_
        refine w_iret X hr dX4_putEffects_103 ?_
        try dsimp only
        refine ⟨hfr, fun r hr => hlo r (by omega) hr, ?_⟩
        rcases hcz with ⟨q1, q2⟩ | ⟨c, q1, q2, q3, q4⟩
        · exact Or.inl ⟨q1, fun r hr => q2 r (by omega) hr⟩
        · exact Or.inr ⟨c, q2, q3, q4⟩
      · have e1 : Ma 23 (2 + (t - 1)) = M 23 (2 + (t - 1)) := by rw [e3]
        refine r_lconst (pc' := 23) (z := 0) X dX4_putEffects_22 rfl rfl ?_
        refine r_lstore (pc' := 25) (lc' := [(0, vR G (22, 0)), (1, vR G (op, 0)), (2, vI cz), (3, vI ((t : Int) - 1)), (4, vJ 0)]) X [1, 2, 3, 4, 0] dX4_putEffects_23 (by decide) rfl rfl ?_
        refine r_iconst (pc' := 26) X dX4_putEffects_25 rfl ?_
        refine r_istore (pc' := 28) (lc' := [(0, vR G (22, 0)), (1, vR G (op, 0)), (2, vI cz), (3, vI ((t : Int) - 1)), (4, vJ 0), (6, vI 0)]) X [1, 2, 3, 4, 5, 0] dX4_putEffects_26 (by decide) rfl rfl ?_
        have L28 : ∀ (fu : Nat) (i : Nat) (sm : Int), N - i < fu → (i ≤ N) → (sm = dot i (M 23 (2 + (t - 1))) (M op 7)) → wV p l e (wrm 1 0 0) s m args below meth c G 7 Ma 0 0 (MQ below (wQi G (fun z M1 => (∀ a b, ¬ (a = 22 ∧ b = 7) → M1 a b = M a b) ∧ (∀ r, r < k → M1 22 7 r = (dot N (M 23 (2 + r)) (M op 7) % 1000003)) ∧ ((z = k ∧ ∀ r, r < k → M1 22 7 r = 0) ∨ ∃ c : Nat, c < k ∧ z = c ∧ M1 22 7 c ≠ 0))) args s 0 0 (wA G)) 28 [(0, vR G (22, 0)), (1, vR G (op, 0)), (2, vI cz), (3, vI ((t : Int) - 1)), (4, vJ sm), (6, vI (i : Int))] [] := by
          intro fu
          induction fu with
          | zero => intro i sm hfu; exact absurd hfu (Nat.not_lt_zero _)
          | succ fu ih28 =>
            intro i sm hfu28 hi hsm
            refine r_iload (pc' := 30) X 5 dX4_putEffects_28 rfl rfl ?_
            refine r_aload_n (pc' := 31) X 1 dX4_putEffects_30 rfl rfl rfl ?_
            refine gf_P_n (pc' := 34) X hop gw_36 dX4_putEffects_31 rfl ?_
            refine r_icmp_ge (pc' := 37) (tgt := 69) X dX4_putEffects_34 rfl rfl (by omega) (by omega) (fun h34 => ?_) (fun h34 => ?_)
            · have hdb := dot_bd (A := 1000003) (B := 99) (by decide) (by decide) (n := i) (f := M 23 (2 + (t - 1))) (g := M op 7) (fun x hx => by have := hrow (t - 1) (by omega) x (by omega); omega) (fun x hx => hE x (by omega))
              rw [← hsm] at hdb
              refine r_aload_n (pc' := 70) X 0 dX4_putEffects_69 rfl rfl rfl ?_
              refine gf_22_effect (pc' := 73) X gw_286 dX4_putEffects_70 rfl ?_
              refine r_iload_n (pc' := 74) X 3 dX4_putEffects_73 rfl rfl rfl ?_
              refine r_lload (pc' := 76) X 4 dX4_putEffects_74 rfl rfl ?_
              refine r_ldc2 (pc' := 79) (z := 1000003) X gw_396 dX4_putEffects_76 rfl rfl ?_
              refine w_callj (pc' := 82) (st := [vI ((t : Int) - 1), vR G (22, 7)]) (w_runS X (c_J9_floorMod_f86c9 l G Ma sm 1000003 (by first | assumption | omega) (by first | assumption | omega) (by first | assumption | omega)) cf_J9_floorMod_f86c9 gw_398 rfl rfl ⟨Nat.le_of_ble_eq_true rfl, Nat.le_of_ble_eq_true rfl⟩ rfl rfl (Nat.le_of_ble_eq_true rfl) ⟨Nat.le_of_ble_eq_true rfl, Nat.le_of_ble_eq_true rfl⟩ gw_397 dX4_putEffects_79) rfl (fun z79 M1 h79 => ?_)
              obtain rfl := h79.1.symm
              obtain rfl := h79.2.symm
              refine r_last (i := (t - 1)) (pc' := 83) X k22_7 (by omega) (by omega) (by decide) dX4_putEffects_82 rfl (fun M2 hM2 => ?_)
              have hval : M2 22 7 (t - 1) = sm % 1000003 := by rw [hM2]; unfold wu; rw [if_pos ⟨rfl, rfl, rfl⟩]
              have hoth : ∀ x, x ≠ t - 1 → M2 22 7 x = Ma 22 7 x := fun x hx => by rw [hM2]; unfold wu; rw [if_neg (by omega)]
              have hlo2 : ∀ x, t - 1 ≤ x → x < k → M2 22 7 x = (dot N (M 23 (2 + x)) (M op 7) % 1000003) := fun x h1 h2 => by
                by_cases e : x = t - 1
                · rw [e, hval, hsm, show i = N by omega]
                · rw [hoth x e]; exact hlo x (by omega) h2
              have h0 : 0 ≤ sm % 1000003 ∧ sm % 1000003 < 1000003 := by omega
              refine r_aload_n (pc' := 84) X 0 dX4_putEffects_83 rfl rfl rfl ?_
              refine gf_22_effect (pc' := 87) X gw_286 dX4_putEffects_84 rfl ?_
              refine r_iload_n (pc' := 88) X 3 dX4_putEffects_87 rfl rfl rfl ?_
              refine r_lald (i := (t - 1)) (pc' := 89) X k22_7 (by omega) (by omega) (by decide) dX4_putEffects_88 rfl ?_
              refine r_lconst (pc' := 90) (z := 0) X dX4_putEffects_89 rfl rfl ?_
              refine r_lcmp (pc' := 91) X dX4_putEffects_90 (by omega) (by omega) rfl (fun z90 z90r z90l z90e z90g => ?_)
              refine r_if_eq (pc' := 94) (tgt := 96) X dX4_putEffects_91 rfl rfl (by omega) (fun h91 => ?_) (fun h91 => ?_)
              · have hcz2 : (cz = (k : Int) ∧ ∀ x, t - 1 ≤ x → x < k → M2 22 7 x = 0) ∨ ∃ c : Nat, t - 1 ≤ c ∧ c < k ∧ cz = (c : Int) ∧ M2 22 7 c ≠ 0 := by
                  first
                    | (refine Or.inr ⟨t - 1, by omega, by omega, by omega, ?_⟩; omega)
                    | (rcases hcz with ⟨q1, q2⟩ | ⟨c, q1, q2, q3, q4⟩
                       · refine Or.inl ⟨q1, fun x h1 h2 => ?_⟩
                         by_cases e : x = t - 1
                         · rw [e]; omega
                         · rw [hoth x e]; exact q2 x (by omega) h2
                       · exact Or.inr ⟨c, by omega, q2, q3, by rw [hoth c (by omega)]; exact q4⟩)
                refine r_iinc (pc' := 99) (z' := (((t - 1 : Nat) : Int) - 1)) (lc' := [(0, vR G (22, 0)), (1, vR G (op, 0)), (2, vI cz), (3, vI (((t - 1 : Nat) : Int) - 1)), (4, vJ sm), (6, vI (i : Int))]) X 3 [1, 2, 3, 0, 4, 5] dX4_putEffects_96 rfl (by omega) (by decide) rfl rfl ?_
                refine r_goto (tgt := 18) X dX4_putEffects_99 rfl ?_
                refine w_sub (lc' := [(0, vR G (22, 0)), (1, vR G (op, 0)), (2, vI cz), (3, vI (((t - 1 : Nat) : Int) - 1))]) [0, 1, 2, 3] rfl ?_
                exact ih18 (t - 1) cz M2 (by omega) (by omega) (fun a b h => by rw [hM2, wu_ne h]; exact hfr a b h) hlo2 hcz2
              · refine r_iload_n (pc' := 95) X 3 dX4_putEffects_94 rfl rfl rfl ?_
                refine r_istore_n (pc' := 96) (lc' := [(0, vR G (22, 0)), (1, vR G (op, 0)), (2, vI ((t : Int) - 1)), (3, vI ((t : Int) - 1)), (4, vJ sm), (6, vI (i : Int))]) X [1, 2, 0, 3, 4, 5] dX4_putEffects_95 rfl (by decide) rfl rfl ?_
                have hcz2 : (((t : Int) - 1) = (k : Int) ∧ ∀ x, t - 1 ≤ x → x < k → M2 22 7 x = 0) ∨ ∃ c : Nat, t - 1 ≤ c ∧ c < k ∧ ((t : Int) - 1) = (c : Int) ∧ M2 22 7 c ≠ 0 := by
                  first
                    | (refine Or.inr ⟨t - 1, by omega, by omega, by omega, ?_⟩; omega)
                    | (rcases hcz with ⟨q1, q2⟩ | ⟨c, q1, q2, q3, q4⟩
                       · refine Or.inl ⟨q1, fun x h1 h2 => ?_⟩
                         by_cases e : x = t - 1
                         · rw [e]; omega
                         · rw [hoth x e]; exact q2 x (by omega) h2
                       · exact Or.inr ⟨c, by omega, q2, q3, by rw [hoth c (by omega)]; exact q4⟩)
                refine r_iinc (pc' := 99) (z' := (((t - 1 : Nat) : Int) - 1)) (lc' := [(0, vR G (22, 0)), (1, vR G (op, 0)), (2, vI ((t : Int) - 1)), (3, vI (((t - 1 : Nat) : Int) - 1)), (4, vJ sm), (6, vI (i : Int))]) X 3 [1, 2, 3, 0, 4, 5] dX4_putEffects_96 rfl (by omega) (by decide) rfl rfl ?_
                refine r_goto (tgt := 18) X dX4_putEffects_99 rfl ?_
                refine w_sub (lc' := [(0, vR G (22, 0)), (1, vR G (op, 0)), (2, vI ((t : Int) - 1)), (3, vI (((t - 1 : Nat) : Int) - 1))]) [0, 1, 2, 3] rfl ?_
                exact ih18 (t - 1) ((t : Int) - 1) M2 (by omega) (by omega) (fun a b h => by rw [hM2, wu_ne h]; exact hfr a b h) hlo2 hcz2
            · have hEi := hE i (by omega)
              have eE : Ma op 7 i = M op 7 i := by rw [e2]
              refine r_lload (pc' := 39) X 4 dX4_putEffects_37 rfl rfl ?_
              refine r_aload_n (pc' := 40) X 0 dX4_putEffects_39 rfl rfl rfl ?_
              refine gf_22_space (pc' := 43) X gw_281 dX4_putEffects_40 rfl ?_
              refine gf_S_rows (pc' := 46) X (by decide) gw_269 dX4_putEffects_43 rfl ?_
              refine r_iload_n (pc' := 47) X 3 dX4_putEffects_46 rfl rfl rfl ?_
              refine r_aald (i := (t - 1)) (x := (23, (2 + (t - 1)))) (pc' := 48) X (kS_1 (by decide)) (by decide) (by omega) (by omega) (by decide) rfl dX4_putEffects_47 rfl ?_
              refine r_iload (pc' := 50) X 5 dX4_putEffects_48 rfl rfl ?_
              refine r_lald (i := i) (pc' := 51) X (kS_r (by decide) (by omega)) (by omega) (by omega) (by decide) dX4_putEffects_50 rfl ?_
              refine r_aload_n (pc' := 52) X 1 dX4_putEffects_51 rfl rfl rfl ?_
              refine gf_P_e (pc' := 55) X hop gw_56 dX4_putEffects_52 rfl ?_
              refine r_iload (pc' := 57) X 5 dX4_putEffects_55 rfl rfl ?_
              refine r_iald (i := i) (pc' := 58) X (kP_7 hop) (by omega) (by omega) (by decide) dX4_putEffects_57 rfl ?_
              refine r_i2l (pc' := 59) X dX4_putEffects_58 (by omega) rfl ?_
              refine r_lmul (pc' := 60) X dX4_putEffects_59 rfl ?_
              refine r_ladd (pc' := 61) X dX4_putEffects_60 rfl ?_
              refine r_lstore (pc' := 63) (lc' := [(0, vR G (22, 0)), (1, vR G (op, 0)), (2, vI cz), (3, vI ((t : Int) - 1)), (4, vJ (sm + ((Ma 23 (2 + (t - 1)) i) * (Ma op 7 i)))), (6, vI (i : Int))]) X [1, 2, 3, 4, 0, 5] dX4_putEffects_61 (by decide) rfl rfl ?_
              refine r_iinc (pc' := 66) (z' := ((i + 1 : Nat) : Int)) (lc' := [(0, vR G (22, 0)), (1, vR G (op, 0)), (2, vI cz), (3, vI ((t : Int) - 1)), (4, vJ (sm + ((Ma 23 (2 + (t - 1)) i) * (Ma op 7 i)))), (6, vI ((i + 1 : Nat) : Int))]) X 5 [1, 2, 3, 4, 5, 0] dX4_putEffects_63 rfl (by omega) (by decide) rfl rfl ?_
              refine r_goto (tgt := 28) X dX4_putEffects_66 rfl ?_
              exact ih28 (i + 1) (sm + ((Ma 23 (2 + (t - 1)) i) * (Ma op 7 i))) (by omega) (by omega) (by rw [hsm, e1, e2]; rfl)
        exact L28 ((N - 0) + 1) 0 0 (Nat.lt_succ_self _) (by omega) rfl
  exact L18 ((k) + 1) k (k : Int) M (Nat.lt_succ_self _) (Nat.le_refl k) (fun _ _ _ => rfl) (fun x h1 h2 => absurd h1 (by omega)) (Or.inl ⟨rfl, fun x h1 h2 => absurd h1 (by omega)⟩)
