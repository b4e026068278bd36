theorem cf_X8_removeLead : wCal yX8_removeLead cX8_removeLead 8 none 5 := ⟨gw_670, gw_1, by decide, by decide, by rfl⟩
set_option maxRecDepth 100000 in
set_option maxHeartbeats 4000000 in
theorem c_X8_removeLead (l : Launch) (G : wG) (M : wM) (vo vj oo oj n : Nat) (ld ol : Int) (hkv : wkd vo vj = some (.inr (1, 4, wNr))) (hko : wkd oo oj = some (.inr (1, 4, wNr))) (hne : ¬ (oo = vo ∧ oj = vj)) (hn : n ≤ 4) (hv : RowOk n (M vo vj)) (ho : RowOk n (M oo oj)) (hld : 0 ≤ ld ∧ ld < 1000003) (hol : 0 ≤ ol ∧ ol < 1000003) : Met l yX8_removeLead (gws yX8_removeLead cX8_removeLead 8 none) (wrm 1 0 0) (wPc G M [vR G (vo, vj), vJ ld, vR G (oo, oj), vJ ol, vI (n : Int)]) (wQv G (fun M1 => (∀ a b, ¬ (a = vo ∧ b = vj) → M1 a b = M a b) ∧ ∀ j, j < n → M1 vo vj j = ((M vo vj j * ol - M oo oj j * ld) % 1000003))) 0 0 (wA G) := by
  refine wMet (lc := [(0, vR G (vo, vj)), (1, vJ ld), (3, vR G (oo, oj)), (4, vJ ol), (6, vI (n : Int))]) (by decide) (Nat.le_of_ble_eq_true rfl) rfl ?_
  intro p e s m args below meth c X hr
  have X : wX p s m args meth c G 8 "StateObserver" cX8_removeLead := X
  refine r_iconst (pc' := 1) X dX8_removeLead_0 rfl ?_
  refine r_istore (pc' := 3) (lc' := [(0, vR G (vo, vj)), (1, vJ ld), (3, vR G (oo, oj)), (4, vJ ol), (6, vI (n : Int)), (7, vI 0)]) X [1, 2, 3, 4, 5, 0] dX8_removeLead_1 (by decide) rfl rfl ?_
  have L3 : ∀ (fu : Nat) (j : Nat) (Ma : wM), n - j < fu → (j ≤ n) → (∀ a b, ¬ (a = vo ∧ b = vj) → Ma a b = M a b) → (∀ x, x < j → Ma vo vj x = ((M vo vj x * ol - M oo oj x * ld) % 1000003)) → (∀ x, j ≤ x → Ma vo vj x = M vo vj x) → wV p l e (wrm 1 0 0) s m args below meth c G 8 Ma 0 0 (MQ below (wQv G (fun M1 => (∀ a b, ¬ (a = vo ∧ b = vj) → M1 a b = M a b) ∧ ∀ j, j < n → M1 vo vj j = ((M vo vj j * ol - M oo oj j * ld) % 1000003))) args s 0 0 (wA G)) 3 [(0, vR G (vo, vj)), (1, vJ ld), (3, vR G (oo, oj)), (4, vJ ol), (6, vI (n : Int)), (7, vI (j : Int))] [] := by
    intro fu
    induction fu with
    | zero => intro j Ma hfu; exact absurd hfu (Nat.not_lt_zero _)
    | succ fu ih3 =>
      intro j Ma hfu3 hj hfr hlo hhi
      refine r_iload (pc' := 5) X 5 dX8_removeLead_3 rfl rfl ?_
      refine r_iload (pc' := 7) X 4 dX8_removeLead_5 rfl rfl ?_
      refine r_icmp_ge (pc' := 10) (tgt := 40) X dX8_removeLead_7 rfl rfl (by omega) (by omega) (fun h7 => ?_) (fun h7 => ?_)
      · refine w_vret X hr dX8_removeLead_40 ?_
        try dsimp only
        exact ⟨hfr, fun x hx => hlo x (by omega)⟩
      · have hj1 : Ma vo vj j = M vo vj j := hhi j (Nat.le_refl j)
        have hj2 : Ma oo oj j = M oo oj j := by rw [hfr oo oj hne]
        have hb1 := hv j (by omega)
        have hb2 := ho j (by omega)
        have hm1 := mul_bd (A := 1000003) (B := 1000003) (a := Ma vo vj j) (b := ol) (by decide) (by omega) (by omega)
        have hm2 := mul_bd (A := 1000003) (B := 1000003) (a := Ma oo oj j) (b := ld) (by decide) (by omega) (by omega)
        refine r_aload_n (pc' := 11) X 0 dX8_removeLead_10 rfl rfl rfl ?_
        refine r_iload (pc' := 13) X 5 dX8_removeLead_11 rfl rfl ?_
        refine r_aload_n (pc' := 14) X 0 dX8_removeLead_13 rfl rfl rfl ?_
        refine r_iload (pc' := 16) X 5 dX8_removeLead_14 rfl rfl ?_
        refine r_lald (i := j) (pc' := 17) X hkv (by omega) (by omega) (by decide) dX8_removeLead_16 rfl ?_
        refine r_lload (pc' := 19) X 3 dX8_removeLead_17 rfl rfl ?_
        refine r_lmul (pc' := 20) X dX8_removeLead_19 rfl ?_
        refine r_aload_n (pc' := 21) X 2 dX8_removeLead_20 rfl rfl rfl ?_
        refine r_iload (pc' := 23) X 5 dX8_removeLead_21 rfl rfl ?_
        refine r_lald (i := j) (pc' := 24) X hko (by omega) (by omega) (by decide) dX8_removeLead_23 rfl ?_
        refine r_lload_n (pc' := 25) X 1 dX8_removeLead_24 rfl rfl rfl ?_
        refine r_lmul (pc' := 26) X dX8_removeLead_25 rfl ?_
        refine r_lsub (pc' := 27) X dX8_removeLead_26 rfl ?_
        refine r_ldc2 (pc' := 30) (z := 1000003) X gw_671 dX8_removeLead_27 rfl rfl ?_
        refine w_callj (pc' := 33) (st := [vI (j : Int), vR G (vo, vj)]) (w_runS X (c_J9_floorMod_f86c9 l G Ma (((Ma vo vj j) * ol) - ((Ma oo oj j) * ld)) 1000003 (by first | assumption | omega) (by first | assumption | omega) (by first | assumption | omega)) cf_J9_floorMod_f86c9 gw_658 rfl rfl ⟨Nat.le_of_ble_eq_true rfl, Nat.le_of_ble_eq_true rfl⟩ rfl rfl (Nat.le_of_ble_eq_true rfl) ⟨Nat.le_of_ble_eq_true rfl, Nat.le_of_ble_eq_true rfl⟩ gw_672 dX8_removeLead_30) rfl (fun z30 M1 h30 => ?_)
        obtain rfl := h30.1.symm
        obtain rfl := h30.2.symm
        refine r_last (i := j) (pc' := 34) X hkv (by omega) (by omega) (by decide) dX8_removeLead_33 rfl (fun M2 hM2 => ?_)
        refine r_iinc (pc' := 37) (z' := ((j + 1 : Nat) : Int)) (lc' := [(0, vR G (vo, vj)), (1, vJ ld), (3, vR G (oo, oj)), (4, vJ ol), (6, vI (n : Int)), (7, vI ((j + 1 : Nat) : Int))]) X 5 [1, 2, 3, 4, 5, 0] dX8_removeLead_34 rfl (by omega) (by decide) rfl rfl ?_
        refine r_goto (tgt := 3) X dX8_removeLead_37 rfl ?_
        exact ih3 (j + 1) M2 (by omega) (by omega) (fun a b h => by rw [hM2, wu_ne h]; exact hfr a b h) (fun x hx => by rw [hM2]; exact up_s (F := fun x => ((M vo vj x * ol - M oo oj x * ld) % 1000003)) hlo (by rw [hj1, hj2]) hx) (fun x hx => by rw [hM2]; unfold wu; rw [if_neg (by omega)]; exact hhi x (by omega))
  exact L3 ((n - 0) + 1) 0 M (Nat.lt_succ_self _) (by omega) (fun _ _ _ => rfl) (fun x h => absurd h (Nat.not_lt_zero x)) (fun _ _ => rfl)
theorem cf_X6_copyFrom : wCal yX6_copyFrom cX6_copyFrom 3 none 1 := ⟨gw_900, gw_9, by decide, by decide, by rfl⟩
set_option maxRecDepth 100000 in
set_option maxHeartbeats 4000000 in
theorem c_X6_copyFrom (l : Launch) (G : wG) (M : wM) (o q : Nat) (ho : o = 23 ∨ o = 24) (hq : q = 23 ∨ q = 24) (hne : q ≠ o) : Met l yX6_copyFrom (gws yX6_copyFrom cX6_copyFrom 3 none) (wrm 2 0 0) (wPc G M [vR G (o, 0), vR G (q, 0)]) (wQv G (fun M1 => (∀ a b, a ≠ o → M1 a b = M a b) ∧ M1 o 0 1 = M q 0 1 ∧ ∀ r, r < 4 → M1 o (2 + r) = M q (2 + r))) 0 0 (wA G) := by
  refine wMet (lc := [(0, vR G (o, 0)), (1, vR G (q, 0))]) (by decide) (Nat.le_of_ble_eq_true rfl) rfl ?_
  intro p e s m args below meth c X hr
  have X : wX p s m args meth c G 3 "StateObserver$Space" cX6_copyFrom := X
  refine r_aload_n (pc' := 1) X 0 dX6_copyFrom_0 rfl rfl rfl ?_
  refine r_aload_n (pc' := 2) X 1 dX6_copyFrom_1 rfl rfl rfl ?_
  refine gf_S_rank (pc' := 5) X hq gw_269 dX6_copyFrom_2 rfl ?_
  refine pf_S_rank (pc' := 8) X ho gw_269 dX6_copyFrom_5 rfl (fun M1 hM1 => ?_)
  refine r_iconst (pc' := 9) X dX6_copyFrom_8 rfl ?_
  refine r_istore_n (pc' := 10) (lc' := [(0, vR G (o, 0)), (1, vR G (q, 0)), (2, vI 0)]) X [1, 2, 0] dX6_copyFrom_9 rfl (by decide) rfl rfl ?_
  have L10 : ∀ (fu : Nat) (r : Nat) (Ma : wM), 4 - r < fu → (r ≤ 4) → (∀ a b, a ≠ o → Ma a b = M a b) → (Ma o 0 1 = M q 0 1) → (∀ x, x < r → Ma o (2 + x) = M q (2 + x)) → wV p l e (wrm 2 0 0) s m args below meth c G 3 Ma 0 0 (MQ below (wQv G (fun M1 => (∀ a b, a ≠ o → M1 a b = M a b) ∧ M1 o 0 1 = M q 0 1 ∧ ∀ r, r < 4 → M1 o (2 + r) = M q (2 + r))) args s 0 0 (wA G)) 10 [(0, vR G (o, 0)), (1, vR G (q, 0)), (2, vI (r : Int))] [] := by
    intro fu
    induction fu with
    | zero => intro r Ma hfu; exact absurd hfu (Nat.not_lt_zero _)
    | succ fu ih10 =>
      intro r Ma hfu10 hr4 hfr h02 hrw
      refine r_iload_n (pc' := 11) X 2 dX6_copyFrom_10 rfl rfl rfl ?_
      refine r_iconst (pc' := 12) X dX6_copyFrom_11 rfl ?_
      refine r_icmp_ge (pc' := 15) (tgt := 36) X dX6_copyFrom_12 rfl rfl (by omega) (by omega) (fun h12 => ?_) (fun h12 => ?_)
      · refine w_vret X hr dX6_copyFrom_36 ?_
        try dsimp only
        exact ⟨hfr, h02, fun r hr => hrw r (by omega)⟩
      · refine r_aload_n (pc' := 16) X 1 dX6_copyFrom_15 rfl rfl rfl ?_
        refine gf_S_rows (pc' := 19) X hq gw_267 dX6_copyFrom_16 rfl ?_
        refine r_iload_n (pc' := 20) X 2 dX6_copyFrom_19 rfl rfl rfl ?_
        refine r_aald (i := r) (x := (q, (2 + r))) (pc' := 21) X (kS_1 hq) (by decide) (by omega) (by omega) (by decide) rfl dX6_copyFrom_20 rfl ?_
        refine r_aload_n (pc' := 22) X 0 dX6_copyFrom_21 rfl rfl rfl ?_
        refine gf_S_rows (pc' := 25) X ho gw_267 dX6_copyFrom_22 rfl ?_
        refine r_iload_n (pc' := 26) X 2 dX6_copyFrom_25 rfl rfl rfl ?_
        refine r_aald (i := r) (x := (o, (2 + r))) (pc' := 27) X (kS_1 ho) (by decide) (by omega) (by omega) (by decide) rfl dX6_copyFrom_26 rfl ?_
        refine w_callv (pc' := 30) (st := []) (w_runSN X (c_X8_copyRow_ l G Ma q (2 + r) o (2 + r) 4 (kS_r hq (by omega)) (kS_r ho (by omega)) (by first | assumption | omega)) cf_X8_copyRow_ gw_661 rfl rfl ⟨Nat.le_of_ble_eq_true rfl, Nat.le_of_ble_eq_true rfl⟩ rfl rfl (Nat.le_of_ble_eq_true rfl) ⟨Nat.le_of_ble_eq_true rfl, Nat.le_of_ble_eq_true rfl⟩ tn_667 dX6_copyFrom_27) rfl (fun M2 h27 => ?_)
        refine r_iinc (pc' := 33) (z' := ((r + 1 : Nat) : Int)) (lc' := [(0, vR G (o, 0)), (1, vR G (q, 0)), (2, vI ((r + 1 : Nat) : Int))]) X 2 [1, 2, 0] dX6_copyFrom_30 rfl (by omega) (by decide) rfl rfl ?_
        refine r_goto (tgt := 10) X dX6_copyFrom_33 rfl ?_
        exact ih10 (r + 1) M2 (by omega) (by omega) (fun a b h => by rw [h27, wr_ne (by omega)]; exact hfr a b h) (by rw [h27, wr_ne (by omega)]; exact h02) (fun x hx => by rw [h27]; by_cases e : x = r; rw [e, wr_eq]; exact hfr q (2 + r) hne; rw [wr_ne (by omega)]; exact hrw x (by omega))
  exact L10 ((4 - 0) + 1) 0 M1 (Nat.lt_succ_self _) (by omega) (fun a b h => by rw [hM1, wu_ne (by omega)]) (by rw [hM1]; unfold wu; rw [if_pos ⟨rfl, rfl, rfl⟩]) (fun x h => absurd h (Nat.not_lt_zero x))
theorem cf_X6_clear : wCal yX6_clear cX6_clear 3 none 0 := ⟨gw_651, gw_9, by decide, by decide, by rfl⟩
set_option maxRecDepth 100000 in
set_option maxHeartbeats 4000000 in
theorem c_X6_clear (l : Launch) (G : wG) (M : wM) (o : Nat) (ho : o = 23 ∨ o = 24) : Met l yX6_clear (gws yX6_clear cX6_clear 3 none) (wrm 0 0 0) (wPc G M [vR G (o, 0)]) (wQv G (fun M1 => (∀ a b, a ≠ o → M1 a b = M a b) ∧ M1 o 0 1 = 0 ∧ ∀ r i, r < 4 → i < 4 → M1 o (2 + r) i = 0)) 0 0 (wA G) := by
  refine wMet (lc := [(0, vR G (o, 0))]) (by decide) (Nat.le_of_ble_eq_true rfl) rfl ?_
  intro p e s m args below meth c X hr
  have X : wX p s m args meth c G 3 "StateObserver$Space" cX6_clear := X
  refine r_aload_n (pc' := 1) X 0 dX6_clear_0 rfl rfl rfl ?_
  refine r_iconst (pc' := 2) X dX6_clear_1 rfl ?_
  refine pf_S_rank (pc' := 5) X ho gw_269 dX6_clear_2 rfl (fun M1 hM1 => ?_)
  refine r_iconst (pc' := 6) X dX6_clear_5 rfl ?_
  refine r_istore_n (pc' := 7) (lc' := [(0, vR G (o, 0)), (1, vI 0)]) X [1, 0] dX6_clear_6 rfl (by decide) rfl rfl ?_
  have L7 : ∀ (fu : Nat) (i : Nat) (M2 : wM), 4 - i < fu → (i ≤ 4) → (∀ a b, a ≠ o → M2 a b = M a b) → (M2 o 0 1 = 0) → (∀ x k, x < i → k < 4 → M2 o (2 + x) k = 0) → wV p l e (wrm 0 0 0) s m args below meth c G 3 M2 0 0 (MQ below (wQv G (fun M1 => (∀ a b, a ≠ o → M1 a b = M a b) ∧ M1 o 0 1 = 0 ∧ ∀ r i, r < 4 → i < 4 → M1 o (2 + r) i = 0)) args s 0 0 (wA G)) 7 [(0, vR G (o, 0)), (1, vI (i : Int))] [] := by
    intro fu
    induction fu with
    | zero => intro i M2 hfu; exact absurd hfu (Nat.not_lt_zero _)
    | succ fu ih7 =>
      intro i M2 hfu7 hi hm h02 hz
      refine r_iload_n (pc' := 8) X 1 dX6_clear_7 rfl rfl rfl ?_
      refine r_iconst (pc' := 9) X dX6_clear_8 rfl ?_
      refine r_icmp_ge (pc' := 12) (tgt := 40) X dX6_clear_9 rfl rfl (by omega) (by omega) (fun h9 => ?_) (fun h9 => ?_)
      · refine w_vret X hr dX6_clear_40 ?_
        try dsimp only
        exact ⟨hm, h02, fun x k hx hk => hz x k (by omega) hk⟩
      · refine r_iconst (pc' := 13) X dX6_clear_12 rfl ?_
        refine r_istore_n (pc' := 14) (lc' := [(0, vR G (o, 0)), (1, vI (i : Int)), (2, vI 0)]) X [1, 2, 0] dX6_clear_13 rfl (by decide) rfl rfl ?_
        have L14 : ∀ (fu : Nat) (k : Nat) (M3 : wM), 4 - k < fu → (k ≤ 4) → (∀ a b, a ≠ o → M3 a b = M a b) → (M3 o 0 1 = 0) → (∀ x y, (x < i ∧ y < 4) ∨ (x = i ∧ y < k) → M3 o (2 + x) y = 0) → wV p l e (wrm 0 0 0) s m args below meth c G 3 M3 0 0 (MQ below (wQv G (fun M1 => (∀ a b, a ≠ o → M1 a b = M a b) ∧ M1 o 0 1 = 0 ∧ ∀ r i, r < 4 → i < 4 → M1 o (2 + r) i = 0)) args s 0 0 (wA G)) 14 [(0, vR G (o, 0)), (1, vI (i : Int)), (2, vI (k : Int))] [] := by
          intro fu
          induction fu with
          | zero => intro k M3 hfu; exact absurd hfu (Nat.not_lt_zero _)
          | succ fu ih14 =>
            intro k M3 hfu14 hk hm2 h022 hz2
            refine r_iload_n (pc' := 15) X 2 dX6_clear_14 rfl rfl rfl ?_
            refine r_iconst (pc' := 16) X dX6_clear_15 rfl ?_
            refine r_icmp_ge (pc' := 19) (tgt := 34) X dX6_clear_16 rfl rfl (by omega) (by omega) (fun h16 => ?_) (fun h16 => ?_)
            · refine r_iinc (pc' := 37) (z' := ((i + 1 : Nat) : Int)) (lc' := [(0, vR G (o, 0)), (1, vI ((i + 1 : Nat) : Int)), (2, vI (k : Int))]) X 1 [1, 0, 2] dX6_clear_34 rfl (by omega) (by decide) rfl rfl ?_
              refine r_goto (tgt := 7) X dX6_clear_37 rfl ?_
              refine w_sub (lc' := [(0, vR G (o, 0)), (1, vI ((i + 1 : Nat) : Int))]) [0, 1] rfl ?_
              exact ih7 (i + 1) M3 (by omega) (by omega) hm2 h022 (fun x k hx hk => by rcases Nat.lt_or_ge x i with q | q; exact hz2 x k (Or.inl ⟨q, hk⟩); exact hz2 x k (Or.inr ⟨by omega, by omega⟩))
            · refine r_aload_n (pc' := 20) X 0 dX6_clear_19 rfl rfl rfl ?_
              refine gf_S_rows (pc' := 23) X ho gw_267 dX6_clear_20 rfl ?_
              refine r_iload_n (pc' := 24) X 1 dX6_clear_23 rfl rfl rfl ?_
              refine r_aald (i := i) (x := (o, (2 + i))) (pc' := 25) X (kS_1 ho) (by decide) (by omega) (by omega) (by decide) rfl dX6_clear_24 rfl ?_
              refine r_iload_n (pc' := 26) X 2 dX6_clear_25 rfl rfl rfl ?_
              refine r_lconst (pc' := 27) (z := 0) X dX6_clear_26 rfl rfl ?_
              refine r_last (i := k) (pc' := 28) X (kS_r ho (by omega)) (by omega) (by omega) (by decide) dX6_clear_27 rfl (fun M2 hM2 => ?_)
              refine r_iinc (pc' := 31) (z' := ((k + 1 : Nat) : Int)) (lc' := [(0, vR G (o, 0)), (1, vI (i : Int)), (2, vI ((k + 1 : Nat) : Int))]) X 2 [1, 2, 0] dX6_clear_28 rfl (by omega) (by decide) rfl rfl ?_
              refine r_goto (tgt := 14) X dX6_clear_31 rfl ?_
              exact ih14 (k + 1) M2 (by omega) (by omega) (fun a b h => by rw [hM2, wu_ne (by omega)]; exact hm2 a b h) (by rw [hM2, wu_ne (by omega)]; exact h022) (fun x y h => by rw [hM2]; unfold wu; split; rfl; exact hz2 x y (by omega))
        exact L14 ((4 - 0) + 1) 0 M2 (Nat.lt_succ_self _) (by omega) hm h02 (fun x y h => hz x y (by omega) (by omega))
  exact L7 ((4 - 0) + 1) 0 M1 (Nat.lt_succ_self _) (by omega) (fun a b h => by rw [hM1, wu_ne (by omega)]) (by rw [hM1]; unfold wu; rw [if_pos ⟨rfl, rfl, rfl⟩]) (fun x k h _ => absurd h (Nat.not_lt_zero _))
