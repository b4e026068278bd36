theorem cf_X9_shave : wCal yX9_shave cX9_shave 5 (some .int) 2 := ⟨gw_1252, gw_10, by decide, by decide, by rfl⟩
set_option maxRecDepth 100000 in
set_option maxHeartbeats 4000000 in
theorem c_X9_shave (l : Launch) (G : wG) (M : wM) (N P : Nat) (pv : Nat → Nat → Int) (hp : PlOk pv N P) (hq : PEq N P pv (M 29)) (w : Nat → Nat → Int) (T : Int) (hm : MoOk w N P T) (hT6 : T ≤ 1000000) (hv : REq N P w (M 29 13)) (hbx : BoxOk N (w 2) (w 3)) (htr : TrOk w N P pv) (ct : Nat) (hct : M 29 0 24 = (ct : Int)) (hct14 : ct ≤ 14) (i n : Int) (hi : rI i) (hn : rI n) : Met l yX9_shave (gws yX9_shave cX9_shave 5 (some .int)) (wrm 5 0 0) (wPc G M [vR G (29, 0), vI i, vI n]) (wQi G (fun z M1 => (M1 29 0 0 = 0 ∧ RNoted M M1 ct ∧ ((0 ≤ i ∧ i < N) ∧ 1 ≤ n ∧ n ≤ 100) ∧ z = (((shv N P pv i.toNat 2 1 n.toNat w).1 : Int) + ((shv N P pv i.toNat 3 (-1) n.toNat (shv N P pv i.toNat 2 1 n.toNat w).2).1 : Int)) ∧ REq N P (shv N P pv i.toNat 3 (-1) n.toNat (shv N P pv i.toNat 2 1 n.toNat w).2).2 (M1 29 13)) ∨ (M1 29 0 0 = 1 ∧ RScr M M1 ∧ ¬ (0 ≤ i ∧ i < N)) ∨ (M1 29 0 0 = 2 ∧ RScr M M1 ∧ (0 ≤ i ∧ i < N) ∧ ¬ (1 ≤ n ∧ n ≤ 100)))) 0 0 (wA G) := by
  refine wMet (lc := [(0, vR G (29, 0)), (1, vI i), (2, vI n)]) (by decide) (Nat.le_of_ble_eq_true rfl) rfl ?_
  intro p e s m args below meth c X hr
  have X : wX p s m args meth c G 5 "StateObserverModel" cX9_shave := X
  obtain ⟨hN, hN1, hN4, hP, hP1, hP3, hA, hB, hE, hC, hQ⟩ := id hp
  obtain ⟨qN, qP, qA, qB, qE, qC, qQ⟩ := id hq
  obtain ⟨hT, hL, hU, hS, hG, hY, hAg, hHo, hBo, hTi, hLi, hLb, hLl, hLh⟩ := id hm
  obtain ⟨v1, v2, v3, v28, v29, v30, v38, v39, v37⟩ := id hv
  refine r_aload_n (pc' := 1) X 0 dX9_shave_0 rfl rfl rfl ?_
  refine r_aload_n (pc' := 2) X 0 dX9_shave_1 rfl rfl rfl ?_
  refine r_iload_n (pc' := 3) X 1 dX9_shave_2 rfl rfl rfl ?_
  refine w_calli (pc' := 6) (st := [vR G (29, 0)]) (w_runV X (c_X9_isState l G M N P pv (by first | assumption | omega) (by first | assumption | omega) i (by first | assumption | omega)) cf_X9_isState k29_0 rfl gw_1156 gp_36 rfl rfl ⟨Nat.le_of_ble_eq_true rfl, Nat.le_of_ble_eq_true rfl⟩ rfl rfl (Nat.le_of_ble_eq_true rfl) ⟨Nat.le_of_ble_eq_true rfl, Nat.le_of_ble_eq_true rfl⟩ gw_1154 dX9_shave_3) rfl (fun z3 M1 h3 => ?_)
  have hz3 := h3.1
  obtain rfl := h3.2.symm
  have hi3 : z3 = 0 ∨ z3 = 1 := by rw [hz3]; split <;> omega
  have hq3 : z3 = 1 ↔ (0 ≤ i ∧ i < N) := by rw [hz3]; split <;> omega
  refine r_if_ne (pc' := 9) (tgt := 13) X dX9_shave_6 rfl rfl (by omega) (fun h6 => ?_) (fun h6 => ?_)
  · refine r_iload_n (pc' := 14) X 2 dX9_shave_13 rfl rfl rfl ?_
    refine r_i2l (pc' := 15) X dX9_shave_14 (by omega) rfl ?_
    refine r_lconst (pc' := 16) (z := 1) X dX9_shave_15 rfl rfl ?_
    refine r_ldc2 (pc' := 19) (z := 100) X gw_1253 dX9_shave_16 rfl rfl ?_
    refine w_calli (pc' := 22) (st := [vR G (29, 0)]) (w_runS X (c_X9_in l G M n 1 100 (by first | assumption | omega) (by first | assumption | omega) (by first | assumption | omega)) cf_X9_in gw_1083 rfl rfl ⟨Nat.le_of_ble_eq_true rfl, Nat.le_of_ble_eq_true rfl⟩ rfl rfl (Nat.le_of_ble_eq_true rfl) ⟨Nat.le_of_ble_eq_true rfl, Nat.le_of_ble_eq_true rfl⟩ gw_1082 dX9_shave_19) rfl (fun z19 M2 h19 => ?_)
    have hz19 := h19.1
    obtain rfl := h19.2.symm
    have hi19 : z19 = 0 ∨ z19 = 1 := by rw [hz19]; split <;> omega
    have hq19 : z19 = 1 ↔ (1 ≤ n ∧ n ≤ 100) := by rw [hz19]; split <;> omega
    refine r_if_ne (pc' := 25) (tgt := 29) X dX9_shave_22 rfl rfl (by omega) (fun h22 => ?_) (fun h22 => ?_)
    · refine r_iconst (pc' := 30) X dX9_shave_29 rfl ?_
      refine w_calli (pc' := 33) (st := []) (w_runV X (c_X9_refused l G M 0 (by first | assumption | omega)) cf_X9_refused k29_0 rfl gw_1087 gp_25 rfl rfl ⟨Nat.le_of_ble_eq_true rfl, Nat.le_of_ble_eq_true rfl⟩ rfl rfl (Nat.le_of_ble_eq_true rfl) ⟨Nat.le_of_ble_eq_true rfl, Nat.le_of_ble_eq_true rfl⟩ gw_1085 dX9_shave_30) rfl (fun z30 M3 h30 => ?_)
      have hz30 : z30 = 0 := by rw [h30.1]; rfl
      have ew30 : ∀ a b x, ¬ (a = 29 ∧ b = 0 ∧ x = 0) → M3 a b x = M a b x := fun a b x q => by rw [h30.2]; unfold wu; rw [if_neg q]
      have er30 : M3 29 0 0 = 0 := by rw [h30.2]; unfold wu; rw [if_pos ⟨rfl, rfl, rfl⟩]
      have sc30 : RScr M M3 := fun a b x q => ew30 a b x (by omega)
      have qq30 : PEq N P pv (M3 29) := hq.keep (fun b x q => ew30 29 b x (by omega))
      refine r_if_eq (pc' := 36) (tgt := 38) X dX9_shave_33 rfl rfl (by omega) (fun h33 => ?_) (fun h33 => by exfalso; omega)
      refine r_aload_n (pc' := 39) X 0 dX9_shave_38 rfl rfl rfl ?_
      refine w_callv (pc' := 42) (st := []) (w_runV X (c_X9_note l G M3 ct (by rw [ew30 29 0 24 (by omega)]; exact hct) (by first | assumption | omega)) cf_X9_note k29_0 rfl gw_1200 gp_42 rfl rfl ⟨Nat.le_of_ble_eq_true rfl, Nat.le_of_ble_eq_true rfl⟩ rfl rfl (Nat.le_of_ble_eq_true rfl) ⟨Nat.le_of_ble_eq_true rfl, Nat.le_of_ble_eq_true rfl⟩ gw_1198 dX9_shave_39) rfl (fun M4 h39 => ?_)
      have kn : ∀ a b x, ¬ (a = 29 ∧ ((b = 0 ∧ (x = 0 ∨ x = 24)) ∨ b = 16)) → M4 a b x = M a b x := fun a b x q => by rw [h39.2 a b x (by omega), ew30 a b x (by omega)]
      have qn : PEq N P pv (M4 29) := hq.keep (fun b x q => kn 29 b x (by omega))
      have rn : RNoted M M4 ct := h39.1.pre ew30
      have zn : M4 29 0 0 = 0 := by rw [h39.2 29 0 0 (by omega)]; exact er30
      have n13 : M4 29 13 = M 29 13 := funext fun x => kn 29 13 x (by omega)
      have vn : REq N P w (M4 29 13) := by rw [n13]; exact hv
      refine r_iconst (pc' := 43) X dX9_shave_42 rfl ?_
      refine r_istore_n (pc' := 44) (lc' := [(0, vR G (29, 0)), (1, vI i), (2, vI n), (3, vI 0)]) X [1, 2, 3, 0] dX9_shave_43 rfl (by decide) rfl rfl ?_
      refine r_iconst (pc' := 45) X dX9_shave_44 rfl ?_
      refine r_istore (pc' := 47) (lc' := [(0, vR G (29, 0)), (1, vI i), (2, vI n), (3, vI 0), (4, vI 0)]) X [1, 2, 3, 4, 0] dX9_shave_45 (by decide) rfl rfl ?_
      have L47 : ∀ (fu : Nat) (t : Nat) (v : Nat → Nat → Int) (Ma : wM), n.toNat - t < fu → (t ≤ n.toNat) → ((shv N P pv i.toNat 2 1 n.toNat w).1 = t + (shv N P pv i.toNat 2 1 (n.toNat - t) v).1) → ((shv N P pv i.toNat 2 1 n.toNat w).2 = (shv N P pv i.toNat 2 1 (n.toNat - t) v).2) → (MoOk v N P T) → (BoxOk N (v 2) (v 3)) → (TrOk v N P pv) → (REq N P v (Ma 29 13)) → (RNoted M Ma ct) → (Ma 29 0 0 = 0) → (PEq N P pv (Ma 29)) → wV p l e (wrm 5 0 0) s m args below meth c G 5 Ma 0 0 (MQ below (wQi G (fun z M1 => (M1 29 0 0 = 0 ∧ RNoted M M1 ct ∧ ((0 ≤ i ∧ i < N) ∧ 1 ≤ n ∧ n ≤ 100) ∧ z = (((shv N P pv i.toNat 2 1 n.toNat w).1 : Int) + ((shv N P pv i.toNat 3 (-1) n.toNat (shv N P pv i.toNat 2 1 n.toNat w).2).1 : Int)) ∧ REq N P (shv N P pv i.toNat 3 (-1) n.toNat (shv N P pv i.toNat 2 1 n.toNat w).2).2 (M1 29 13)) ∨ (M1 29 0 0 = 1 ∧ RScr M M1 ∧ ¬ (0 ≤ i ∧ i < N)) ∨ (M1 29 0 0 = 2 ∧ RScr M M1 ∧ (0 ≤ i ∧ i < N) ∧ ¬ (1 ≤ n ∧ n ≤ 100)))) args s 0 0 (wA G)) 47 [(0, vR G (29, 0)), (1, vI i), (2, vI n), (3, vI (t : Int)), (4, vI (t : Int))] [] := by
        intro fu
        induction fu with
        | zero => intro t v Ma hfu; exact absurd hfu (Nat.not_lt_zero _)
        | succ fu ih47 =>
          intro t v Ma hfu47 hnA hs1A hs2A hmA hbA htA hvA rnA znA qnA
          refine r_iload (pc' := 49) X 4 dX9_shave_47 rfl rfl ?_
          refine r_iload_n (pc' := 50) X 2 dX9_shave_49 rfl rfl rfl ?_
          refine r_icmp_ge (pc' := 53) (tgt := 85) X dX9_shave_50 rfl rfl (by omega) (by omega) (fun h50 => ?_) (fun h50 => ?_)
          · have hstopA : (shv N P pv i.toNat 2 1 (n.toNat - t) v) = (0, v) := by
              refine shv_n ?_
              first
                | exact Or.inl (by omega)
                | (refine Or.inr fun w1 => ?_
                   rw [if_pos w1] at hzo
                   omega)
            have hs1e : (shv N P pv i.toNat 2 1 n.toNat w).1 = t := by rw [hs1A, hstopA]; rfl
            have hs2e : (shv N P pv i.toNat 2 1 n.toNat w).2 = v := by rw [hs2A, hstopA]
            refine r_iconst (pc' := 86) X dX9_shave_85 rfl ?_
            refine r_istore (pc' := 88) (lc' := [(0, vR G (29, 0)), (1, vI i), (2, vI n), (3, vI ((t : Int) + ((0 : Nat) : Int))), (4, vI 0)]) X [1, 2, 3, 4, 0] dX9_shave_86 (by decide) rfl rfl ?_
            have L88 : ∀ (fu : Nat) (y : Nat) (v : Nat → Nat → Int) (Mb : wM), n.toNat - y < fu → (y ≤ n.toNat) → ((shv N P pv i.toNat 3 (-1) n.toNat (shv N P pv i.toNat 2 1 n.toNat w).2).1 = y + (shv N P pv i.toNat 3 (-1) (n.toNat - y) v).1) → ((shv N P pv i.toNat 3 (-1) n.toNat (shv N P pv i.toNat 2 1 n.toNat w).2).2 = (shv N P pv i.toNat 3 (-1) (n.toNat - y) v).2) → (MoOk v N P T) → (BoxOk N (v 2) (v 3)) → (TrOk v N P pv) → (REq N P v (Mb 29 13)) → (RNoted M Mb ct) → (Mb 29 0 0 = 0) → (PEq N P pv (Mb 29)) → wV p l e (wrm 5 0 0) s m args below meth c G 5 Mb 0 0 (MQ below (wQi G (fun z M1 => (M1 29 0 0 = 0 ∧ RNoted M M1 ct ∧ ((0 ≤ i ∧ i < N) ∧ 1 ≤ n ∧ n ≤ 100) ∧ z = (((shv N P pv i.toNat 2 1 n.toNat w).1 : Int) + ((shv N P pv i.toNat 3 (-1) n.toNat (shv N P pv i.toNat 2 1 n.toNat w).2).1 : Int)) ∧ REq N P (shv N P pv i.toNat 3 (-1) n.toNat (shv N P pv i.toNat 2 1 n.toNat w).2).2 (M1 29 13)) ∨ (M1 29 0 0 = 1 ∧ RScr M M1 ∧ ¬ (0 ≤ i ∧ i < N)) ∨ (M1 29 0 0 = 2 ∧ RScr M M1 ∧ (0 ≤ i ∧ i < N) ∧ ¬ (1 ≤ n ∧ n ≤ 100)))) args s 0 0 (wA G)) 88 [(0, vR G (29, 0)), (1, vI i), (2, vI n), (3, vI ((t : Int) + (y : Int))), (4, vI (y : Int))] [] := by
              intro fu
              induction fu with
              | zero => intro y v Mb hfu; exact absurd hfu (Nat.not_lt_zero _)
              | succ fu ih88 =>
                intro y v Mb hfu88 hnB hs1B hs2B hmB hbB htB hvB rnB znB qnB
                refine r_iload (pc' := 90) X 4 dX9_shave_88 rfl rfl ?_
                refine r_iload_n (pc' := 91) X 2 dX9_shave_90 rfl rfl rfl ?_
                refine r_icmp_ge (pc' := 94) (tgt := 128) X dX9_shave_91 rfl rfl (by omega) (by omega) (fun h91 => ?_) (fun h91 => ?_)
                · have hstopB : (shv N P pv i.toNat 3 (-1) (n.toNat - y) v) = (0, v) := by
                    refine shv_n ?_
                    first
                      | exact Or.inl (by omega)
                      | (refine Or.inr fun w1 => ?_
                         rw [if_pos w1] at hzo
                         omega)
                  have hs1f : (shv N P pv i.toNat 3 (-1) n.toNat (shv N P pv i.toNat 2 1 n.toNat w).2).1 = y := by rw [hs1B, hstopB]; rfl
                  have hs2f : (shv N P pv i.toNat 3 (-1) n.toNat (shv N P pv i.toNat 2 1 n.toNat w).2).2 = v := by rw [hs2B, hstopB]
                  refine r_iload_n (pc' := 129) X 3 dX9_shave_128 rfl rfl rfl ?_
                  refine w_iret X hr dX9_shave_129 ?_
                  try dsimp only
                  exact Or.inl ⟨znB, rnB, by omega, by rw [hs1e, hs1f], by rw [hs2f]; exact hvB⟩
                · have hbi := hbB i.toNat (by omega)
                  refine r_aload_n (pc' := 95) X 0 dX9_shave_94 rfl rfl rfl ?_
                  refine r_iload_n (pc' := 96) X 1 dX9_shave_95 rfl rfl rfl ?_
                  refine r_bipush (pc' := 98) X dX9_shave_96 rfl rfl ?_
                  refine r_iload_n (pc' := 99) X 1 dX9_shave_98 rfl rfl rfl ?_
                  refine r_iadd (pc' := 100) X dX9_shave_99 rfl ?_
                  refine w_eqI (z' := ((8 + i.toNat : Nat) : Int)) (by omega) ?_
                  refine w_calli (pc' := 103) (st := []) (w_runV X (c_X9_isOut l G Mb N P pv (by first | assumption | omega) qnB v T hmB (by first | assumption | omega) hvB hbB i (8 + i.toNat) (v 3 i.toNat) (by omega) (by omega) ((hvB.1 _ (by omega)).2.2.1) (by omega)) cf_X9_isOut k29_0 rfl gw_1256 gp_49 rfl rfl ⟨Nat.le_of_ble_eq_true rfl, Nat.le_of_ble_eq_true rfl⟩ rfl rfl (Nat.le_of_ble_eq_true rfl) ⟨Nat.le_of_ble_eq_true rfl, Nat.le_of_ble_eq_true rfl⟩ gw_1254 dX9_shave_100) rfl (fun z100 M5 h100 => ?_)
                  have hzo := h100.1
                  have eoo := h100.2
                  refine r_if_eq (pc' := 106) (tgt := 128) X dX9_shave_103 rfl rfl (by omega) (fun h103 => ?_) (fun h103 => ?_)
                  · have hstopB : (shv N P pv i.toNat 3 (-1) (n.toNat - y) v) = (0, v) := by
                      refine shv_n ?_
                      first
                        | exact Or.inl (by omega)
                        | (refine Or.inr fun w1 => ?_
                           rw [if_pos w1] at hzo
                           omega)
                    have hs1f : (shv N P pv i.toNat 3 (-1) n.toNat (shv N P pv i.toNat 2 1 n.toNat w).2).1 = y := by rw [hs1B, hstopB]; rfl
                    have hs2f : (shv N P pv i.toNat 3 (-1) n.toNat (shv N P pv i.toNat 2 1 n.toNat w).2).2 = v := by rw [hs2B, hstopB]
                    have hvB : REq N P v (M5 29 13) := by rw [show M5 29 13 = Mb 29 13 from funext fun y => eoo 29 13 y (by omega)]; exact hvB
                    have rnB : RNoted M M5 ct := rnB.post (fun a b x q => eoo a b x (by omega))
                    have znB : M5 29 0 0 = 0 := by rw [eoo 29 0 0 (by omega)]; exact znB
                    have qnB : PEq N P pv (M5 29) := qnB.keep (fun b x q => eoo 29 b x (by omega))
                    refine r_iload_n (pc' := 129) X 3 dX9_shave_128 rfl rfl rfl ?_
                    refine w_iret X hr dX9_shave_129 ?_
                    try dsimp only
                    exact Or.inl ⟨znB, rnB, by omega, by rw [hs1e, hs1f], by rw [hs2f]; exact hvB⟩
                  · refine r_aload_n (pc' := 107) X 0 dX9_shave_106 rfl rfl rfl ?_
                    refine gf_29_now (pc' := 110) X gw_987 dX9_shave_107 rfl ?_
                    refine r_bipush (pc' := 112) X dX9_shave_110 rfl rfl ?_
                    refine r_iload_n (pc' := 113) X 1 dX9_shave_112 rfl rfl rfl ?_
                    refine r_iadd (pc' := 114) X dX9_shave_113 rfl ?_
                    refine r_dup2 (pc' := 115) X dX9_shave_114 rfl rfl rfl ?_
                    refine r_iald (i := (8 + i.toNat)) (pc' := 116) X k29_13 (by omega) (by omega) (by decide) dX9_shave_115 rfl ?_
                    refine r_iconst (pc' := 117) X dX9_shave_116 rfl ?_
                    refine r_isub (pc' := 118) X dX9_shave_117 rfl ?_
                    refine r_iast (i := (8 + i.toNat)) (pc' := 119) X k29_13 (by omega) (by omega) (by decide) dX9_shave_118 rfl (fun M6 hM6 => ?_)
                    have htt : (tight N P pv (v 10) (v 11) 100 (up1 (v 2) i.toNat (v 3 i.toNat)) (up1 (v 3) i.toNat (v 3 i.toNat))).1 = 2 := by
                      split at hzo <;> rename_i w1
                      · exact w1
                      · exfalso; omega
                    have hin := shave_in (d := (-1)) hp hmB hbB htB (show i.toNat < N by omega) (by omega) htt
                    have hstep : shv N P pv i.toNat 3 (-1) (n.toNat - y) v = (((shv N P pv i.toNat 3 (-1) (n.toNat - (y + 1)) (setV v 3 i.toNat (v 3 i.toNat + (-1))))).1 + 1, ((shv N P pv i.toNat 3 (-1) (n.toNat - (y + 1)) (setV v 3 i.toNat (v 3 i.toNat + (-1))))).2) := by rw [show n.toNat - y = (n.toNat - (y + 1)) + 1 by omega]; exact shv_s htt
                    have e13o : M5 29 13 = Mb 29 13 := funext fun y => eoo 29 13 y (by omega)
                    have hvn : REq N P (setV v 3 i.toNat (v 3 i.toNat + (-1))) (M6 29 13) := by
                      have q := hvB.bound (v := v 3 i.toNat + (-1)) hN4 hP3 (b := 3) (i := i.toNat) (at0 := 8 + i.toNat) (by omega) (by omega)
                      have e : M6 29 13 = up1 (Mb 29 13) (8 + i.toNat) (v 3 i.toNat + (-1)) := by rw [hM6, wu_eq, e13o, (hvB.1 _ (by omega)).2.2.1]; rfl
                      rw [e]; exact q
                    have rnn : RNoted M M6 ct := rnB.post (fun a b x q => by rw [hM6, wu_ne (by omega)]; exact eoo a b x (by omega))
                    have znn : M6 29 0 0 = 0 := by rw [hM6, wu_ne (by omega), eoo 29 0 0 (by omega)]; exact znB
                    have qnn : PEq N P pv (M6 29) := qnB.keep (fun b x q => by rw [hM6, wu_ne (by omega)]; exact eoo 29 b x (by omega))
                    refine r_iinc (pc' := 122) (z' := (((t : Int) + (y : Int)) + 1)) (lc' := [(0, vR G (29, 0)), (1, vI i), (2, vI n), (3, vI (((t : Int) + (y : Int)) + 1)), (4, vI (y : Int))]) X 3 [1, 2, 3, 0, 4] dX9_shave_119 rfl (by omega) (by decide) rfl rfl ?_
                    refine r_iinc (pc' := 125) (z' := ((y + 1 : Nat) : Int)) (lc' := [(0, vR G (29, 0)), (1, vI i), (2, vI n), (3, vI (((t : Int) + (y : Int)) + 1)), (4, vI ((y + 1 : Nat) : Int))]) X 4 [1, 2, 3, 4, 0] dX9_shave_122 rfl (by omega) (by decide) rfl rfl ?_
                    refine r_goto (tgt := 88) X dX9_shave_125 rfl ?_
                    exact ih88 (y + 1) (setV v 3 i.toNat (v 3 i.toNat + -1)) M6 (by omega) (by omega) (by rw [hs1B, hstep]; omega) (by rw [hs2B, hstep]) hin.1 hin.2.1 hin.2.2 hvn rnn znn qnn
            exact L88 ((n.toNat - 0) + 1) 0 v Ma (Nat.lt_succ_self _) (by omega) (by rw [hs2e, Nat.zero_add]; rfl) (by rw [hs2e]; rfl) hmA hbA htA hvA rnA znA qnA
          · have hbi := hbA i.toNat (by omega)
            refine r_aload_n (pc' := 54) X 0 dX9_shave_53 rfl rfl rfl ?_
            refine r_iload_n (pc' := 55) X 1 dX9_shave_54 rfl rfl rfl ?_
            refine r_iconst (pc' := 56) X dX9_shave_55 rfl ?_
            refine r_iload_n (pc' := 57) X 1 dX9_shave_56 rfl rfl rfl ?_
            refine r_iadd (pc' := 58) X dX9_shave_57 rfl ?_
            refine w_eqI (z' := ((4 + i.toNat : Nat) : Int)) (by omega) ?_
            refine w_calli (pc' := 61) (st := []) (w_runV X (c_X9_isOut l G Ma N P pv (by first | assumption | omega) qnA v T hmA (by first | assumption | omega) hvA hbA i (4 + i.toNat) (v 2 i.toNat) (by omega) (by omega) ((hvA.1 _ (by omega)).2.1) (by omega)) cf_X9_isOut k29_0 rfl gw_1256 gp_49 rfl rfl ⟨Nat.le_of_ble_eq_true rfl, Nat.le_of_ble_eq_true rfl⟩ rfl rfl (Nat.le_of_ble_eq_true rfl) ⟨Nat.le_of_ble_eq_true rfl, Nat.le_of_ble_eq_true rfl⟩ gw_1254 dX9_shave_58) rfl (fun z58 M7 h58 => ?_)
            have hzo := h58.1
            have eoo := h58.2
            refine r_if_eq (pc' := 64) (tgt := 85) X dX9_shave_61 rfl rfl (by omega) (fun h61 => ?_) (fun h61 => ?_)
            · have hstopA : (shv N P pv i.toNat 2 1 (n.toNat - t) v) = (0, v) := by
                refine shv_n ?_
                first
                  | exact Or.inl (by omega)
                  | (refine Or.inr fun w1 => ?_
                     rw [if_pos w1] at hzo
                     omega)
              have hs1e : (shv N P pv i.toNat 2 1 n.toNat w).1 = t := by rw [hs1A, hstopA]; rfl
              have hs2e : (shv N P pv i.toNat 2 1 n.toNat w).2 = v := by rw [hs2A, hstopA]
              have hvA : REq N P v (M7 29 13) := by rw [show M7 29 13 = Ma 29 13 from funext fun y => eoo 29 13 y (by omega)]; exact hvA
              have rnA : RNoted M M7 ct := rnA.post (fun a b x q => eoo a b x (by omega))
              have znA : M7 29 0 0 = 0 := by rw [eoo 29 0 0 (by omega)]; exact znA
              have qnA : PEq N P pv (M7 29) := qnA.keep (fun b x q => eoo 29 b x (by omega))
              refine r_iconst (pc' := 86) X dX9_shave_85 rfl ?_
              refine r_istore (pc' := 88) (lc' := [(0, vR G (29, 0)), (1, vI i), (2, vI n), (3, vI ((t : Int) + ((0 : Nat) : Int))), (4, vI 0)]) X [1, 2, 3, 4, 0] dX9_shave_86 (by decide) rfl rfl ?_
              have L88 : ∀ (fu : Nat) (y : Nat) (v : Nat → Nat → Int) (Mb : wM), n.toNat - y < fu → (y ≤ n.toNat) → ((shv N P pv i.toNat 3 (-1) n.toNat (shv N P pv i.toNat 2 1 n.toNat w).2).1 = y + (shv N P pv i.toNat 3 (-1) (n.toNat - y) v).1) → ((shv N P pv i.toNat 3 (-1) n.toNat (shv N P pv i.toNat 2 1 n.toNat w).2).2 = (shv N P pv i.toNat 3 (-1) (n.toNat - y) v).2) → (MoOk v N P T) → (BoxOk N (v 2) (v 3)) → (TrOk v N P pv) → (REq N P v (Mb 29 13)) → (RNoted M Mb ct) → (Mb 29 0 0 = 0) → (PEq N P pv (Mb 29)) → wV p l e (wrm 5 0 0) s m args below meth c G 5 Mb 0 0 (MQ below (wQi G (fun z M1 => (M1 29 0 0 = 0 ∧ RNoted M M1 ct ∧ ((0 ≤ i ∧ i < N) ∧ 1 ≤ n ∧ n ≤ 100) ∧ z = (((shv N P pv i.toNat 2 1 n.toNat w).1 : Int) + ((shv N P pv i.toNat 3 (-1) n.toNat (shv N P pv i.toNat 2 1 n.toNat w).2).1 : Int)) ∧ REq N P (shv N P pv i.toNat 3 (-1) n.toNat (shv N P pv i.toNat 2 1 n.toNat w).2).2 (M1 29 13)) ∨ (M1 29 0 0 = 1 ∧ RScr M M1 ∧ ¬ (0 ≤ i ∧ i < N)) ∨ (M1 29 0 0 = 2 ∧ RScr M M1 ∧ (0 ≤ i ∧ i < N) ∧ ¬ (1 ≤ n ∧ n ≤ 100)))) args s 0 0 (wA G)) 88 [(0, vR G (29, 0)), (1, vI i), (2, vI n), (3, vI ((t : Int) + (y : Int))), (4, vI (y : Int))] [] := by
                intro fu
                induction fu with
                | zero => intro y v Mb hfu; exact absurd hfu (Nat.not_lt_zero _)
                | succ fu ih88 =>
                  intro y v Mb hfu88 hnB hs1B hs2B hmB hbB htB hvB rnB znB qnB
                  refine r_iload (pc' := 90) X 4 dX9_shave_88 rfl rfl ?_
                  refine r_iload_n (pc' := 91) X 2 dX9_shave_90 rfl rfl rfl ?_
                  refine r_icmp_ge (pc' := 94) (tgt := 128) X dX9_shave_91 rfl rfl (by omega) (by omega) (fun h91 => ?_) (fun h91 => ?_)
                  · have hstopB : (shv N P pv i.toNat 3 (-1) (n.toNat - y) v) = (0, v) := by
                      refine shv_n ?_
                      first
                        | exact Or.inl (by omega)
                        | (refine Or.inr fun w1 => ?_
                           rw [if_pos w1] at hzo
                           omega)
                    have hs1f : (shv N P pv i.toNat 3 (-1) n.toNat (shv N P pv i.toNat 2 1 n.toNat w).2).1 = y := by rw [hs1B, hstopB]; rfl
                    have hs2f : (shv N P pv i.toNat 3 (-1) n.toNat (shv N P pv i.toNat 2 1 n.toNat w).2).2 = v := by rw [hs2B, hstopB]
                    refine r_iload_n (pc' := 129) X 3 dX9_shave_128 rfl rfl rfl ?_
                    refine w_iret X hr dX9_shave_129 ?_
                    try dsimp only
                    exact Or.inl ⟨znB, rnB, by omega, by rw [hs1e, hs1f], by rw [hs2f]; exact hvB⟩
                  · have hbi := hbB i.toNat (by omega)
                    refine r_aload_n (pc' := 95) X 0 dX9_shave_94 rfl rfl rfl ?_
                    refine r_iload_n (pc' := 96) X 1 dX9_shave_95 rfl rfl rfl ?_
                    refine r_bipush (pc' := 98) X dX9_shave_96 rfl rfl ?_
                    refine r_iload_n (pc' := 99) X 1 dX9_shave_98 rfl rfl rfl ?_
                    refine r_iadd (pc' := 100) X dX9_shave_99 rfl ?_
                    refine w_eqI (z' := ((8 + i.toNat : Nat) : Int)) (by omega) ?_
                    refine w_calli (pc' := 103) (st := []) (w_runV X (c_X9_isOut l G Mb N P pv (by first | assumption | omega) qnB v T hmB (by first | assumption | omega) hvB hbB i (8 + i.toNat) (v 3 i.toNat) (by omega) (by omega) ((hvB.1 _ (by omega)).2.2.1) (by omega)) cf_X9_isOut k29_0 rfl gw_1256 gp_49 rfl rfl ⟨Nat.le_of_ble_eq_true rfl, Nat.le_of_ble_eq_true rfl⟩ rfl rfl (Nat.le_of_ble_eq_true rfl) ⟨Nat.le_of_ble_eq_true rfl, Nat.le_of_ble_eq_true rfl⟩ gw_1254 dX9_shave_100) rfl (fun z100 M8 h100 => ?_)
                    have hzo := h100.1
                    have eoo := h100.2
                    refine r_if_eq (pc' := 106) (tgt := 128) X dX9_shave_103 rfl rfl (by omega) (fun h103 => ?_) (fun h103 => ?_)
                    · have hstopB : (shv N P pv i.toNat 3 (-1) (n.toNat - y) v) = (0, v) := by
                        refine shv_n ?_
                        first
                          | exact Or.inl (by omega)
                          | (refine Or.inr fun w1 => ?_
                             rw [if_pos w1] at hzo
                             omega)
                      have hs1f : (shv N P pv i.toNat 3 (-1) n.toNat (shv N P pv i.toNat 2 1 n.toNat w).2).1 = y := by rw [hs1B, hstopB]; rfl
                      have hs2f : (shv N P pv i.toNat 3 (-1) n.toNat (shv N P pv i.toNat 2 1 n.toNat w).2).2 = v := by rw [hs2B, hstopB]
                      have hvB : REq N P v (M8 29 13) := by rw [show M8 29 13 = Mb 29 13 from funext fun y => eoo 29 13 y (by omega)]; exact hvB
                      have rnB : RNoted M M8 ct := rnB.post (fun a b x q => eoo a b x (by omega))
                      have znB : M8 29 0 0 = 0 := by rw [eoo 29 0 0 (by omega)]; exact znB
                      have qnB : PEq N P pv (M8 29) := qnB.keep (fun b x q => eoo 29 b x (by omega))
                      refine r_iload_n (pc' := 129) X 3 dX9_shave_128 rfl rfl rfl ?_
                      refine w_iret X hr dX9_shave_129 ?_
                      try dsimp only
                      exact Or.inl ⟨znB, rnB, by omega, by rw [hs1e, hs1f], by rw [hs2f]; exact hvB⟩
                    · refine r_aload_n (pc' := 107) X 0 dX9_shave_106 rfl rfl rfl ?_
                      refine gf_29_now (pc' := 110) X gw_987 dX9_shave_107 rfl ?_
                      refine r_bipush (pc' := 112) X dX9_shave_110 rfl rfl ?_
                      refine r_iload_n (pc' := 113) X 1 dX9_shave_112 rfl rfl rfl ?_
                      refine r_iadd (pc' := 114) X dX9_shave_113 rfl ?_
                      refine r_dup2 (pc' := 115) X dX9_shave_114 rfl rfl rfl ?_
                      refine r_iald (i := (8 + i.toNat)) (pc' := 116) X k29_13 (by omega) (by omega) (by decide) dX9_shave_115 rfl ?_
                      refine r_iconst (pc' := 117) X dX9_shave_116 rfl ?_
                      refine r_isub (pc' := 118) X dX9_shave_117 rfl ?_
                      refine r_iast (i := (8 + i.toNat)) (pc' := 119) X k29_13 (by omega) (by omega) (by decide) dX9_shave_118 rfl (fun M9 hM9 => ?_)
                      have htt : (tight N P pv (v 10) (v 11) 100 (up1 (v 2) i.toNat (v 3 i.toNat)) (up1 (v 3) i.toNat (v 3 i.toNat))).1 = 2 := by
                        split at hzo <;> rename_i w1
                        · exact w1
                        · exfalso; omega
                      have hin := shave_in (d := (-1)) hp hmB hbB htB (show i.toNat < N by omega) (by omega) htt
                      have hstep : shv N P pv i.toNat 3 (-1) (n.toNat - y) v = (((shv N P pv i.toNat 3 (-1) (n.toNat - (y + 1)) (setV v 3 i.toNat (v 3 i.toNat + (-1))))).1 + 1, ((shv N P pv i.toNat 3 (-1) (n.toNat - (y + 1)) (setV v 3 i.toNat (v 3 i.toNat + (-1))))).2) := by rw [show n.toNat - y = (n.toNat - (y + 1)) + 1 by omega]; exact shv_s htt
                      have e13o : M8 29 13 = Mb 29 13 := funext fun y => eoo 29 13 y (by omega)
                      have hvn : REq N P (setV v 3 i.toNat (v 3 i.toNat + (-1))) (M9 29 13) := by
                        have q := hvB.bound (v := v 3 i.toNat + (-1)) hN4 hP3 (b := 3) (i := i.toNat) (at0 := 8 + i.toNat) (by omega) (by omega)
                        have e : M9 29 13 = up1 (Mb 29 13) (8 + i.toNat) (v 3 i.toNat + (-1)) := by rw [hM9, wu_eq, e13o, (hvB.1 _ (by omega)).2.2.1]; rfl
                        rw [e]; exact q
                      have rnn : RNoted M M9 ct := rnB.post (fun a b x q => by rw [hM9, wu_ne (by omega)]; exact eoo a b x (by omega))
                      have znn : M9 29 0 0 = 0 := by rw [hM9, wu_ne (by omega), eoo 29 0 0 (by omega)]; exact znB
                      have qnn : PEq N P pv (M9 29) := qnB.keep (fun b x q => by rw [hM9, wu_ne (by omega)]; exact eoo 29 b x (by omega))
                      refine r_iinc (pc' := 122) (z' := (((t : Int) + (y : Int)) + 1)) (lc' := [(0, vR G (29, 0)), (1, vI i), (2, vI n), (3, vI (((t : Int) + (y : Int)) + 1)), (4, vI (y : Int))]) X 3 [1, 2, 3, 0, 4] dX9_shave_119 rfl (by omega) (by decide) rfl rfl ?_
                      refine r_iinc (pc' := 125) (z' := ((y + 1 : Nat) : Int)) (lc' := [(0, vR G (29, 0)), (1, vI i), (2, vI n), (3, vI (((t : Int) + (y : Int)) + 1)), (4, vI ((y + 1 : Nat) : Int))]) X 4 [1, 2, 3, 4, 0] dX9_shave_122 rfl (by omega) (by decide) rfl rfl ?_
                      refine r_goto (tgt := 88) X dX9_shave_125 rfl ?_
                      exact ih88 (y + 1) (setV v 3 i.toNat (v 3 i.toNat + -1)) M9 (by omega) (by omega) (by rw [hs1B, hstep]; omega) (by rw [hs2B, hstep]) hin.1 hin.2.1 hin.2.2 hvn rnn znn qnn
              exact L88 ((n.toNat - 0) + 1) 0 v M7 (Nat.lt_succ_self _) (by omega) (by rw [hs2e, Nat.zero_add]; rfl) (by rw [hs2e]; rfl) hmA hbA htA hvA rnA znA qnA
            · refine r_aload_n (pc' := 65) X 0 dX9_shave_64 rfl rfl rfl ?_
              refine gf_29_now (pc' := 68) X gw_987 dX9_shave_65 rfl ?_
              refine r_iconst (pc' := 69) X dX9_shave_68 rfl ?_
              refine r_iload_n (pc' := 70) X 1 dX9_shave_69 rfl rfl rfl ?_
              refine r_iadd (pc' := 71) X dX9_shave_70 rfl ?_
              refine r_dup2 (pc' := 72) X dX9_shave_71 rfl rfl rfl ?_
              refine r_iald (i := (4 + i.toNat)) (pc' := 73) X k29_13 (by omega) (by omega) (by decide) dX9_shave_72 rfl ?_
              refine r_iconst (pc' := 74) X dX9_shave_73 rfl ?_
              refine r_iadd (pc' := 75) X dX9_shave_74 rfl ?_
              refine r_iast (i := (4 + i.toNat)) (pc' := 76) X k29_13 (by omega) (by omega) (by decide) dX9_shave_75 rfl (fun M10 hM10 => ?_)
              have htt : (tight N P pv (v 10) (v 11) 100 (up1 (v 2) i.toNat (v 2 i.toNat)) (up1 (v 3) i.toNat (v 2 i.toNat))).1 = 2 := by
                split at hzo <;> rename_i w1
                · exact w1
                · exfalso; omega
              have hin := shave_in (d := 1) hp hmA hbA htA (show i.toNat < N by omega) (by omega) htt
              have hstep : shv N P pv i.toNat 2 1 (n.toNat - t) v = (((shv N P pv i.toNat 2 1 (n.toNat - (t + 1)) (setV v 2 i.toNat (v 2 i.toNat + 1)))).1 + 1, ((shv N P pv i.toNat 2 1 (n.toNat - (t + 1)) (setV v 2 i.toNat (v 2 i.toNat + 1)))).2) := by rw [show n.toNat - t = (n.toNat - (t + 1)) + 1 by omega]; exact shv_s htt
              have e13o : M7 29 13 = Ma 29 13 := funext fun y => eoo 29 13 y (by omega)
              have hvn : REq N P (setV v 2 i.toNat (v 2 i.toNat + 1)) (M10 29 13) := by
                have q := hvA.bound (v := v 2 i.toNat + 1) hN4 hP3 (b := 2) (i := i.toNat) (at0 := 4 + i.toNat) (by omega) (by omega)
                have e : M10 29 13 = up1 (Ma 29 13) (4 + i.toNat) (v 2 i.toNat + 1) := by rw [hM10, wu_eq, e13o, (hvA.1 _ (by omega)).2.1]; rfl
                rw [e]; exact q
              have rnn : RNoted M M10 ct := rnA.post (fun a b x q => by rw [hM10, wu_ne (by omega)]; exact eoo a b x (by omega))
              have znn : M10 29 0 0 = 0 := by rw [hM10, wu_ne (by omega), eoo 29 0 0 (by omega)]; exact znA
              have qnn : PEq N P pv (M10 29) := qnA.keep (fun b x q => by rw [hM10, wu_ne (by omega)]; exact eoo 29 b x (by omega))
              refine r_iinc (pc' := 79) (z' := ((t + 1 : Nat) : Int)) (lc' := [(0, vR G (29, 0)), (1, vI i), (2, vI n), (3, vI ((t + 1 : Nat) : Int)), (4, vI (t : Int))]) X 3 [1, 2, 3, 0, 4] dX9_shave_76 rfl (by omega) (by decide) rfl rfl ?_
              refine r_iinc (pc' := 82) (z' := ((t + 1 : Nat) : Int)) (lc' := [(0, vR G (29, 0)), (1, vI i), (2, vI n), (3, vI ((t + 1 : Nat) : Int)), (4, vI ((t + 1 : Nat) : Int))]) X 4 [1, 2, 3, 4, 0] dX9_shave_79 rfl (by omega) (by decide) rfl rfl ?_
              refine r_goto (tgt := 47) X dX9_shave_82 rfl ?_
              exact ih47 (t + 1) (setV v 2 i.toNat (v 2 i.toNat + 1)) M10 (by omega) (by omega) (by rw [hs1A, hstep]; omega) (by rw [hs2A, hstep]) hin.1 hin.2.1 hin.2.2 hvn rnn znn qnn
      exact L47 ((n.toNat - 0) + 1) 0 w M4 (Nat.lt_succ_self _) (by omega) (by rw [Nat.zero_add]; rfl) rfl hm hbx htr vn rn zn qn
    · refine r_iconst (pc' := 26) X dX9_shave_25 rfl ?_
      refine r_goto (tgt := 30) X dX9_shave_26 rfl ?_
      refine w_calli (pc' := 33) (st := []) (w_runV X (c_X9_refused l G M 2 (by first | assumption | omega)) cf_X9_refused k29_0 rfl gw_1087 gp_25 rfl rfl ⟨Nat.le_of_ble_eq_true rfl, Nat.le_of_ble_eq_true rfl⟩ rfl rfl (Nat.le_of_ble_eq_true rfl) ⟨Nat.le_of_ble_eq_true rfl, Nat.le_of_ble_eq_true rfl⟩ gw_1085 dX9_shave_30) rfl (fun z30 M11 h30 => ?_)
      have hz30 : z30 = 1 := by rw [h30.1]; rfl
      have ew30 : ∀ a b x, ¬ (a = 29 ∧ b = 0 ∧ x = 0) → M11 a b x = M a b x := fun a b x q => by rw [h30.2]; unfold wu; rw [if_neg q]
      have er30 : M11 29 0 0 = 2 := by rw [h30.2]; unfold wu; rw [if_pos ⟨rfl, rfl, rfl⟩]
      have sc30 : RScr M M11 := fun a b x q => ew30 a b x (by omega)
      have qq30 : PEq N P pv (M11 29) := hq.keep (fun b x q => ew30 29 b x (by omega))
      refine r_if_eq (pc' := 36) (tgt := 38) X dX9_shave_33 rfl rfl (by omega) (fun h33 => by exfalso; omega) (fun h33 => ?_)
      refine r_iconst (pc' := 37) X dX9_shave_36 rfl ?_
      refine w_iret X hr dX9_shave_37 ?_
      try dsimp only
      exact (Or.inr (Or.inr ⟨er30, sc30, by omega⟩))
  · refine r_iconst (pc' := 10) X dX9_shave_9 rfl ?_
    refine r_goto (tgt := 30) X dX9_shave_10 rfl ?_
    refine w_calli (pc' := 33) (st := []) (w_runV X (c_X9_refused l G M 1 (by first | assumption | omega)) cf_X9_refused k29_0 rfl gw_1087 gp_25 rfl rfl ⟨Nat.le_of_ble_eq_true rfl, Nat.le_of_ble_eq_true rfl⟩ rfl rfl (Nat.le_of_ble_eq_true rfl) ⟨Nat.le_of_ble_eq_true rfl, Nat.le_of_ble_eq_true rfl⟩ gw_1085 dX9_shave_30) rfl (fun z30 M12 h30 => ?_)
    have hz30 : z30 = 1 := by rw [h30.1]; rfl
    have ew30 : ∀ a b x, ¬ (a = 29 ∧ b = 0 ∧ x = 0) → M12 a b x = M a b x := fun a b x q => by rw [h30.2]; unfold wu; rw [if_neg q]
    have er30 : M12 29 0 0 = 1 := by rw [h30.2]; unfold wu; rw [if_pos ⟨rfl, rfl, rfl⟩]
    have sc30 : RScr M M12 := fun a b x q => ew30 a b x (by omega)
    have qq30 : PEq N P pv (M12 29) := hq.keep (fun b x q => ew30 29 b x (by omega))
    refine r_if_eq (pc' := 36) (tgt := 38) X dX9_shave_33 rfl rfl (by omega) (fun h33 => by exfalso; omega) (fun h33 => ?_)
    refine r_iconst (pc' := 37) X dX9_shave_36 rfl ?_
    refine w_iret X hr dX9_shave_37 ?_
    try dsimp only
    exact (Or.inr (Or.inl ⟨er30, sc30, by omega⟩))
theorem cf_X9_undo : wCal yX9_undo cX9_undo 1 (some .int) 0 := ⟨gw_1274, gw_10, by decide, by decide, by rfl⟩
set_option maxRecDepth 100000 in
set_option maxHeartbeats 4000000 in
theorem c_X9_undo (l : Launch) (G : wG) (M : wM) (ct : Nat) (hct : M 29 0 24 = (ct : Int)) (hct14 : ct ≤ 14) : Met l yX9_undo (gws yX9_undo cX9_undo 1 (some .int)) (wrm 1 0 0) (wPc G M [vR G (29, 0)]) (wQi G (fun z M1 => (M1 29 0 0 = 0 ∧ (∀ a b x, (a = 29 → (b = 0 ∧ (x = 2 ∨ x = 5 ∨ x = 6)) ∨ (1 ≤ b ∧ b ≤ 6) ∨ b = 16 ∨ b = 17 ∨ b = 18) → M1 a b x = M a b x) ∧ 1 ≤ ct ∧ z = (ct : Int) - 1 ∧ M1 29 0 24 = (ct : Int) - 1 ∧ (∀ x, x < 48 → M1 29 13 x = M 29 16 (48 * (ct - 1) + x))) ∨ (M1 29 0 0 = 1 ∧ RScr M M1 ∧ ct = 0))) 0 0 (wA G) := by
  refine wMet (lc := [(0, vR G (29, 0))]) (by decide) (Nat.le_of_ble_eq_true rfl) rfl ?_
  intro p e s m args below meth c X hr
  have X : wX p s m args meth c G 1 "StateObserverModel" cX9_undo := X
  refine r_aload_n (pc' := 1) X 0 dX9_undo_0 rfl rfl rfl ?_
  refine r_aload_n (pc' := 2) X 0 dX9_undo_1 rfl rfl rfl ?_
  refine gf_29_acts (pc' := 5) X gw_991 dX9_undo_2 rfl ?_
  refine r_if_ne (pc' := 8) (tgt := 12) X dX9_undo_5 rfl rfl (by omega) (fun h5 => ?_) (fun h5 => ?_)
  · refine r_iconst (pc' := 13) X dX9_undo_12 rfl ?_
    refine w_calli (pc' := 16) (st := []) (w_runV X (c_X9_refused l G M 0 (by first | assumption | omega)) cf_X9_refused k29_0 rfl gw_1087 gp_25 rfl rfl ⟨Nat.le_of_ble_eq_true rfl, Nat.le_of_ble_eq_true rfl⟩ rfl rfl (Nat.le_of_ble_eq_true rfl) ⟨Nat.le_of_ble_eq_true rfl, Nat.le_of_ble_eq_true rfl⟩ gw_1085 dX9_undo_13) rfl (fun z13 M1 h13 => ?_)
    have hz13 : z13 = 0 := by rw [h13.1]; rfl
    have ew13 : ∀ a b x, ¬ (a = 29 ∧ b = 0 ∧ x = 0) → M1 a b x = M a b x := fun a b x q => by rw [h13.2]; unfold wu; rw [if_neg q]
    have er13 : M1 29 0 0 = 0 := by rw [h13.2]; unfold wu; rw [if_pos ⟨rfl, rfl, rfl⟩]
    have sc13 : RScr M M1 := fun a b x q => ew13 a b x (by omega)
    refine r_if_eq (pc' := 19) (tgt := 21) X dX9_undo_16 rfl rfl (by omega) (fun h16 => ?_) (fun h16 => by exfalso; omega)
    refine r_aload_n (pc' := 22) X 0 dX9_undo_21 rfl rfl rfl ?_
    refine r_dup (pc' := 23) X dX9_undo_22 rfl rfl ?_
    refine gf_29_acts (pc' := 26) X gw_991 dX9_undo_23 rfl ?_
    refine w_eqI (z' := (ct : Int)) (by rw [ew13 29 0 24 (by omega)]; exact hct) ?_
    refine r_iconst (pc' := 27) X dX9_undo_26 rfl ?_
    refine r_isub (pc' := 28) X dX9_undo_27 rfl ?_
    refine pf_29_acts (pc' := 31) X gw_991 dX9_undo_28 rfl (fun M2 hM2 => ?_)
    refine r_aload_n (pc' := 32) X 0 dX9_undo_31 rfl rfl rfl ?_
    refine gf_29_diary (pc' := 35) X gw_990 dX9_undo_32 rfl ?_
    refine r_bipush (pc' := 37) X dX9_undo_35 rfl rfl ?_
    refine r_aload_n (pc' := 38) X 0 dX9_undo_37 rfl rfl rfl ?_
    refine gf_29_acts (pc' := 41) X gw_991 dX9_undo_38 rfl ?_
    refine w_eqI (z' := ((ct - 1 : Nat) : Int)) (by rw [hM2]; unfold wu; rw [if_pos ⟨rfl, rfl, rfl⟩]; omega) ?_
    refine r_imul (pc' := 42) X dX9_undo_41 rfl ?_
    refine r_aload_n (pc' := 43) X 0 dX9_undo_42 rfl rfl rfl ?_
    refine gf_29_now (pc' := 46) X gw_987 dX9_undo_43 rfl ?_
    refine r_iconst (pc' := 47) X dX9_undo_46 rfl ?_
    refine r_bipush (pc' := 49) X dX9_undo_47 rfl rfl ?_
    refine w_callv (pc' := 52) (st := []) (w_runS X (c_X9_copy l G M2 29 16 (48 * (ct - 1)) 29 13 0 48 672 48 k29_16 k29_13 (by first | assumption | omega) (by first | assumption | omega) (by first | assumption | omega) (by first | assumption | omega) (by first | assumption | omega)) cf_X9_copy gw_1138 rfl rfl ⟨Nat.le_of_ble_eq_true rfl, Nat.le_of_ble_eq_true rfl⟩ rfl rfl (Nat.le_of_ble_eq_true rfl) ⟨Nat.le_of_ble_eq_true rfl, Nat.le_of_ble_eq_true rfl⟩ gw_1137 dX9_undo_49) rfl (fun M3 h49 => ?_)
    refine r_aload_n (pc' := 53) X 0 dX9_undo_52 rfl rfl rfl ?_
    refine gf_29_acts (pc' := 56) X gw_991 dX9_undo_53 rfl ?_
    refine w_iret X hr dX9_undo_56 ?_
    try dsimp only
    have e0 : ∀ a b x, ¬ (a = 29 ∧ (b = 13 ∨ (b = 0 ∧ (x = 0 ∨ x = 24)))) → M3 a b x = M a b x := fun a b x q => by
      rw [h49.1 a b (by omega), hM2]; unfold wu; rw [if_neg (by omega)]; exact ew13 a b x (by omega)
    have e24 : M3 29 0 24 = (ct : Int) - 1 := by rw [h49.1 29 0 (by omega), hM2]; unfold wu; rw [if_pos ⟨rfl, rfl, rfl⟩]
    refine Or.inl ⟨by rw [h49.1 29 0 (by omega), hM2]; unfold wu; rw [if_neg (by omega)]; exact er13, fun a b x q => e0 a b x (by omega), by omega, e24, e24, fun x hx => ?_⟩
    have q := h49.2.1 x hx
    rw [Nat.zero_add] at q
    rw [q, hM2, wu_ne (by omega), ew13 29 16 _ (by omega)]
  · refine r_iconst (pc' := 9) X dX9_undo_8 rfl ?_
    refine r_goto (tgt := 13) X dX9_undo_9 rfl ?_
    refine w_calli (pc' := 16) (st := []) (w_runV X (c_X9_refused l G M 1 (by first | assumption | omega)) cf_X9_refused k29_0 rfl gw_1087 gp_25 rfl rfl ⟨Nat.le_of_ble_eq_true rfl, Nat.le_of_ble_eq_true rfl⟩ rfl rfl (Nat.le_of_ble_eq_true rfl) ⟨Nat.le_of_ble_eq_true rfl, Nat.le_of_ble_eq_true rfl⟩ gw_1085 dX9_undo_13) rfl (fun z13 M4 h13 => ?_)
    have hz13 : z13 = 1 := by rw [h13.1]; rfl
    have ew13 : ∀ a b x, ¬ (a = 29 ∧ b = 0 ∧ x = 0) → M4 a b x = M a b x := fun a b x q => by rw [h13.2]; unfold wu; rw [if_neg q]
    have er13 : M4 29 0 0 = 1 := by rw [h13.2]; unfold wu; rw [if_pos ⟨rfl, rfl, rfl⟩]
    have sc13 : RScr M M4 := fun a b x q => ew13 a b x (by omega)
    refine r_if_eq (pc' := 19) (tgt := 21) X dX9_undo_16 rfl rfl (by omega) (fun h16 => by exfalso; omega) (fun h16 => ?_)
    refine r_iconst (pc' := 20) X dX9_undo_19 rfl ?_
    refine w_iret X hr dX9_undo_20 ?_
    try dsimp only
    exact (Or.inr ⟨er13, sc13, by omega⟩)
theorem cf_X9_save : wCal yX9_save cX9_save 2 (some .int) 1 := ⟨gw_1385, gw_10, by decide, by decide, by rfl⟩
set_option maxRecDepth 100000 in
set_option maxHeartbeats 4000000 in
theorem c_X9_save (l : Launch) (G : wG) (M : wM) (s0 : Int) (hs0 : rI s0) : Met l yX9_save (gws yX9_save cX9_save 2 (some .int)) (wrm 1 0 0) (wPc G M [vR G (29, 0), vI s0]) (wQi G (fun z M1 => (M1 29 0 0 = 0 ∧ (∀ a b x, ¬ (a = 29 ∧ (b = 17 ∨ b = 18 ∨ (b = 0 ∧ x = 0))) → M1 a b x = M a b x) ∧ (0 ≤ s0 ∧ s0 ≤ 1) ∧ z = M 29 13 30 ∧ M1 29 18 s0.toNat = 1 ∧ (∀ x, x ≠ s0.toNat → M1 29 18 x = M 29 18 x) ∧ (∀ x, x < 48 → M1 29 17 (48 * s0.toNat + x) = M 29 13 x) ∧ (∀ x, ¬ (48 * s0.toNat ≤ x ∧ x < 48 * s0.toNat + 48) → M1 29 17 x = M 29 17 x)) ∨ (M1 29 0 0 = 1 ∧ RScr M M1 ∧ ¬ (0 ≤ s0 ∧ s0 ≤ 1)))) 0 0 (wA G) := by
  refine wMet (lc := [(0, vR G (29, 0)), (1, vI s0)]) (by decide) (Nat.le_of_ble_eq_true rfl) rfl ?_
  intro p e s m args below meth c X hr
  have X : wX p s m args meth c G 2 "StateObserverModel" cX9_save := X
  refine r_aload_n (pc' := 1) X 0 dX9_save_0 rfl rfl rfl ?_
  refine r_iload_n (pc' := 2) X 1 dX9_save_1 rfl rfl rfl ?_
  refine r_i2l (pc' := 3) X dX9_save_2 (by omega) rfl ?_
  refine r_lconst (pc' := 4) (z := 0) X dX9_save_3 rfl rfl ?_
  refine r_lconst (pc' := 5) (z := 1) X dX9_save_4 rfl rfl ?_
  refine w_calli (pc' := 8) (st := [vR G (29, 0)]) (w_runS X (c_X9_in l G M s0 0 1 (by first | assumption | omega) (by first | assumption | omega) (by first | assumption | omega)) cf_X9_in gw_1083 rfl rfl ⟨Nat.le_of_ble_eq_true rfl, Nat.le_of_ble_eq_true rfl⟩ rfl rfl (Nat.le_of_ble_eq_true rfl) ⟨Nat.le_of_ble_eq_true rfl, Nat.le_of_ble_eq_true rfl⟩ gw_1082 dX9_save_5) rfl (fun z5 M1 h5 => ?_)
  have hz5 := h5.1
  obtain rfl := h5.2.symm
  have hi5 : z5 = 0 ∨ z5 = 1 := by rw [hz5]; split <;> omega
  have hq5 : z5 = 1 ↔ (0 ≤ s0 ∧ s0 ≤ 1) := by rw [hz5]; split <;> omega
  refine r_if_eq (pc' := 11) (tgt := 15) X dX9_save_8 rfl rfl (by omega) (fun h8 => ?_) (fun h8 => ?_)
  · refine r_iconst (pc' := 16) X dX9_save_15 rfl ?_
    refine w_calli (pc' := 19) (st := []) (w_runV X (c_X9_refused l G M 1 (by first | assumption | omega)) cf_X9_refused k29_0 rfl gw_1087 gp_25 rfl rfl ⟨Nat.le_of_ble_eq_true rfl, Nat.le_of_ble_eq_true rfl⟩ rfl rfl (Nat.le_of_ble_eq_true rfl) ⟨Nat.le_of_ble_eq_true rfl, Nat.le_of_ble_eq_true rfl⟩ gw_1085 dX9_save_16) rfl (fun z16 M2 h16 => ?_)
    have hz16 : z16 = 1 := by rw [h16.1]; rfl
    have ew16 : ∀ a b x, ¬ (a = 29 ∧ b = 0 ∧ x = 0) → M2 a b x = M a b x := fun a b x q => by rw [h16.2]; unfold wu; rw [if_neg q]
    have er16 : M2 29 0 0 = 1 := by rw [h16.2]; unfold wu; rw [if_pos ⟨rfl, rfl, rfl⟩]
    have sc16 : RScr M M2 := fun a b x q => ew16 a b x (by omega)
    refine r_if_eq (pc' := 22) (tgt := 24) X dX9_save_19 rfl rfl (by omega) (fun h19 => by exfalso; omega) (fun h19 => ?_)
    refine r_iconst (pc' := 23) X dX9_save_22 rfl ?_
    refine w_iret X hr dX9_save_23 ?_
    try dsimp only
    exact (Or.inr ⟨er16, sc16, by omega⟩)
  · refine r_iconst (pc' := 12) X dX9_save_11 rfl ?_
    refine r_goto (tgt := 16) X dX9_save_12 rfl ?_
    refine w_calli (pc' := 19) (st := []) (w_runV X (c_X9_refused l G M 0 (by first | assumption | omega)) cf_X9_refused k29_0 rfl gw_1087 gp_25 rfl rfl ⟨Nat.le_of_ble_eq_true rfl, Nat.le_of_ble_eq_true rfl⟩ rfl rfl (Nat.le_of_ble_eq_true rfl) ⟨Nat.le_of_ble_eq_true rfl, Nat.le_of_ble_eq_true rfl⟩ gw_1085 dX9_save_16) rfl (fun z16 M3 h16 => ?_)
    have hz16 : z16 = 0 := by rw [h16.1]; rfl
    have ew16 : ∀ a b x, ¬ (a = 29 ∧ b = 0 ∧ x = 0) → M3 a b x = M a b x := fun a b x q => by rw [h16.2]; unfold wu; rw [if_neg q]
    have er16 : M3 29 0 0 = 0 := by rw [h16.2]; unfold wu; rw [if_pos ⟨rfl, rfl, rfl⟩]
    have sc16 : RScr M M3 := fun a b x q => ew16 a b x (by omega)
    refine r_if_eq (pc' := 22) (tgt := 24) X dX9_save_19 rfl rfl (by omega) (fun h19 => ?_) (fun h19 => by exfalso; omega)
    refine r_aload_n (pc' := 25) X 0 dX9_save_24 rfl rfl rfl ?_
    refine gf_29_isKept (pc' := 28) X gw_993 dX9_save_25 rfl ?_
    refine r_iload_n (pc' := 29) X 1 dX9_save_28 rfl rfl rfl ?_
    refine r_iconst (pc' := 30) X dX9_save_29 rfl ?_
    refine r_zast (i := s0.toNat) (pc' := 31) X k29_18 (by omega) (by omega) (by decide) (by first | omega | decide) dX9_save_30 rfl (fun M4 hM4 => ?_)
    refine r_aload_n (pc' := 32) X 0 dX9_save_31 rfl rfl rfl ?_
    refine gf_29_now (pc' := 35) X gw_987 dX9_save_32 rfl ?_
    refine r_iconst (pc' := 36) X dX9_save_35 rfl ?_
    refine r_aload_n (pc' := 37) X 0 dX9_save_36 rfl rfl rfl ?_
    refine gf_29_kept (pc' := 40) X gw_992 dX9_save_37 rfl ?_
    refine r_bipush (pc' := 42) X dX9_save_40 rfl rfl ?_
    refine r_iload_n (pc' := 43) X 1 dX9_save_42 rfl rfl rfl ?_
    refine w_eqI (z' := ((s0.toNat : Nat) : Int)) (by omega) ?_
    refine r_imul (pc' := 44) X dX9_save_43 rfl ?_
    refine r_bipush (pc' := 46) X dX9_save_44 rfl rfl ?_
    refine w_callv (pc' := 49) (st := []) (w_runS X (c_X9_copy l G M4 29 13 0 29 17 (48 * s0.toNat) 48 48 96 k29_13 k29_17 (by first | assumption | omega) (by first | assumption | omega) (by first | assumption | omega) (by first | assumption | omega) (by first | assumption | omega)) cf_X9_copy gw_1138 rfl rfl ⟨Nat.le_of_ble_eq_true rfl, Nat.le_of_ble_eq_true rfl⟩ rfl rfl (Nat.le_of_ble_eq_true rfl) ⟨Nat.le_of_ble_eq_true rfl, Nat.le_of_ble_eq_true rfl⟩ gw_1137 dX9_save_46) rfl (fun M5 h46 => ?_)
    refine r_aload_n (pc' := 50) X 0 dX9_save_49 rfl rfl rfl ?_
    refine gf_29_now (pc' := 53) X gw_987 dX9_save_50 rfl ?_
    refine r_bipush (pc' := 55) X dX9_save_53 rfl rfl ?_
    refine r_iald (i := 30) (pc' := 56) X k29_13 (by omega) (by omega) (by decide) dX9_save_55 rfl ?_
    refine w_iret X hr dX9_save_56 ?_
    try dsimp only
    have e0 : ∀ a b x, ¬ (a = 29 ∧ (b = 17 ∨ b = 18 ∨ (b = 0 ∧ x = 0))) → M5 a b x = M a b x := fun a b x q => by
      rw [h46.1 a b (by omega), hM4, wu_ne (by omega)]; exact ew16 a b x (by omega)
    refine Or.inl ⟨by rw [h46.1 29 0 (by omega), hM4, wu_ne (by omega)]; exact er16, e0, by omega, by rw [e0 29 13 30 (by omega)], ?_, fun x hx => ?_, fun x hx => ?_, fun x hx => ?_⟩
    · rw [h46.1 29 18 (by omega), hM4]; unfold wu; rw [if_pos ⟨rfl, rfl, rfl⟩]
    · rw [h46.1 29 18 (by omega), hM4]; unfold wu; rw [if_neg (by omega)]; exact ew16 29 18 x (by omega)
    · have q := h46.2.1 x hx
      rw [Nat.zero_add] at q
      rw [q, hM4, wu_ne (by omega)]; exact ew16 29 13 x (by omega)
    · rw [h46.2.2 x hx, hM4, wu_ne (by omega)]; exact ew16 29 17 x (by omega)
theorem cf_X9_restore : wCal yX9_restore cX9_restore 2 (some .int) 1 := ⟨gw_1389, gw_10, by decide, by decide, by rfl⟩
set_option maxRecDepth 100000 in
set_option maxHeartbeats 4000000 in
theorem c_X9_restore (l : Launch) (G : wG) (M : wM) (s0 : Int) (hs0 : rI s0) (hf01 : ∀ x, x < 2 → M 29 18 x = 0 ∨ M 29 18 x = 1) : Met l yX9_restore (gws yX9_restore cX9_restore 2 (some .int)) (wrm 1 0 0) (wPc G M [vR G (29, 0), vI s0]) (wQi G (fun z M1 => (M1 29 0 0 = 0 ∧ (∀ a b x, (a = 29 → (b = 0 ∧ (x = 2 ∨ x = 5 ∨ x = 6)) ∨ (1 ≤ b ∧ b ≤ 6) ∨ b = 16 ∨ b = 17 ∨ b = 18) → M1 a b x = M a b x) ∧ (0 ≤ s0 ∧ s0 ≤ 1) ∧ M 29 18 s0.toNat = 1 ∧ z = M 29 17 (48 * s0.toNat + 30) ∧ M1 29 0 24 = 0 ∧ (∀ x, x < 48 → M1 29 13 x = M 29 17 (48 * s0.toNat + x))) ∨ (M1 29 0 0 = 1 ∧ RScr M M1 ∧ ¬ (0 ≤ s0 ∧ s0 ≤ 1)) ∨ (M1 29 0 0 = 2 ∧ RScr M M1 ∧ (0 ≤ s0 ∧ s0 ≤ 1) ∧ M 29 18 s0.toNat = 0))) 0 0 (wA G) := by
  refine wMet (lc := [(0, vR G (29, 0)), (1, vI s0)]) (by decide) (Nat.le_of_ble_eq_true rfl) rfl ?_
  intro p e s m args below meth c X hr
  have X : wX p s m args meth c G 2 "StateObserverModel" cX9_restore := X
  refine r_aload_n (pc' := 1) X 0 dX9_restore_0 rfl rfl rfl ?_
  refine r_iload_n (pc' := 2) X 1 dX9_restore_1 rfl rfl rfl ?_
  refine r_i2l (pc' := 3) X dX9_restore_2 (by omega) rfl ?_
  refine r_lconst (pc' := 4) (z := 0) X dX9_restore_3 rfl rfl ?_
  refine r_lconst (pc' := 5) (z := 1) X dX9_restore_4 rfl rfl ?_
  refine w_calli (pc' := 8) (st := [vR G (29, 0)]) (w_runS X (c_X9_in l G M s0 0 1 (by first | assumption | omega) (by first | assumption | omega) (by first | assumption | omega)) cf_X9_in gw_1083 rfl rfl ⟨Nat.le_of_ble_eq_true rfl, Nat.le_of_ble_eq_true rfl⟩ rfl rfl (Nat.le_of_ble_eq_true rfl) ⟨Nat.le_of_ble_eq_true rfl, Nat.le_of_ble_eq_true rfl⟩ gw_1082 dX9_restore_5) rfl (fun z5 M1 h5 => ?_)
  have hz5 := h5.1
  obtain rfl := h5.2.symm
  have hi5 : z5 = 0 ∨ z5 = 1 := by rw [hz5]; split <;> omega
  have hq5 : z5 = 1 ↔ (0 ≤ s0 ∧ s0 ≤ 1) := by rw [hz5]; split <;> omega
  refine r_if_ne (pc' := 11) (tgt := 15) X dX9_restore_8 rfl rfl (by omega) (fun h8 => ?_) (fun h8 => ?_)
  · refine r_aload_n (pc' := 16) X 0 dX9_restore_15 rfl rfl rfl ?_
    refine gf_29_isKept (pc' := 19) X gw_993 dX9_restore_16 rfl ?_
    have hb01 := hf01 s0.toNat (by omega)
    refine r_iload_n (pc' := 20) X 1 dX9_restore_19 rfl rfl rfl ?_
    refine r_zald (i := s0.toNat) (pc' := 21) X k29_18 (by omega) (by omega) (by decide) dX9_restore_20 rfl ?_
    refine r_if_ne (pc' := 24) (tgt := 28) X dX9_restore_21 rfl rfl (by omega) (fun h21 => ?_) (fun h21 => ?_)
    · refine r_iconst (pc' := 29) X dX9_restore_28 rfl ?_
      refine w_calli (pc' := 32) (st := []) (w_runV X (c_X9_refused l G M 0 (by first | assumption | omega)) cf_X9_refused k29_0 rfl gw_1087 gp_25 rfl rfl ⟨Nat.le_of_ble_eq_true rfl, Nat.le_of_ble_eq_true rfl⟩ rfl rfl (Nat.le_of_ble_eq_true rfl) ⟨Nat.le_of_ble_eq_true rfl, Nat.le_of_ble_eq_true rfl⟩ gw_1085 dX9_restore_29) rfl (fun z29 M2 h29 => ?_)
      have hz29 : z29 = 0 := by rw [h29.1]; rfl
      have ew29 : ∀ a b x, ¬ (a = 29 ∧ b = 0 ∧ x = 0) → M2 a b x = M a b x := fun a b x q => by rw [h29.2]; unfold wu; rw [if_neg q]
      have er29 : M2 29 0 0 = 0 := by rw [h29.2]; unfold wu; rw [if_pos ⟨rfl, rfl, rfl⟩]
      have sc29 : RScr M M2 := fun a b x q => ew29 a b x (by omega)
      refine r_if_eq (pc' := 35) (tgt := 37) X dX9_restore_32 rfl rfl (by omega) (fun h32 => ?_) (fun h32 => by exfalso; omega)
      refine r_aload_n (pc' := 38) X 0 dX9_restore_37 rfl rfl rfl ?_
      refine gf_29_kept (pc' := 41) X gw_992 dX9_restore_38 rfl ?_
      refine r_bipush (pc' := 43) X dX9_restore_41 rfl rfl ?_
      refine r_iload_n (pc' := 44) X 1 dX9_restore_43 rfl rfl rfl ?_
      refine w_eqI (z' := ((s0.toNat : Nat) : Int)) (by omega) ?_
      refine r_imul (pc' := 45) X dX9_restore_44 rfl ?_
      refine r_aload_n (pc' := 46) X 0 dX9_restore_45 rfl rfl rfl ?_
      refine gf_29_now (pc' := 49) X gw_987 dX9_restore_46 rfl ?_
      refine r_iconst (pc' := 50) X dX9_restore_49 rfl ?_
      refine r_bipush (pc' := 52) X dX9_restore_50 rfl rfl ?_
      refine w_callv (pc' := 55) (st := []) (w_runS X (c_X9_copy l G M2 29 17 (48 * s0.toNat) 29 13 0 48 96 48 k29_17 k29_13 (by first | assumption | omega) (by first | assumption | omega) (by first | assumption | omega) (by first | assumption | omega) (by first | assumption | omega)) cf_X9_copy gw_1138 rfl rfl ⟨Nat.le_of_ble_eq_true rfl, Nat.le_of_ble_eq_true rfl⟩ rfl rfl (Nat.le_of_ble_eq_true rfl) ⟨Nat.le_of_ble_eq_true rfl, Nat.le_of_ble_eq_true rfl⟩ gw_1137 dX9_restore_52) rfl (fun M3 h52 => ?_)
      refine r_aload_n (pc' := 56) X 0 dX9_restore_55 rfl rfl rfl ?_
      refine r_iconst (pc' := 57) X dX9_restore_56 rfl ?_
      refine pf_29_acts (pc' := 60) X gw_991 dX9_restore_57 rfl (fun M4 hM4 => ?_)
      refine r_aload_n (pc' := 61) X 0 dX9_restore_60 rfl rfl rfl ?_
      refine gf_29_now (pc' := 64) X gw_987 dX9_restore_61 rfl ?_
      refine r_bipush (pc' := 66) X dX9_restore_64 rfl rfl ?_
      refine r_iald (i := 30) (pc' := 67) X k29_13 (by omega) (by omega) (by decide) dX9_restore_66 rfl ?_
      refine w_iret X hr dX9_restore_67 ?_
      try dsimp only
      have e0 : ∀ a b x, ¬ (a = 29 ∧ (b = 13 ∨ (b = 0 ∧ (x = 0 ∨ x = 24)))) → M4 a b x = M a b x := fun a b x q => by
        rw [hM4]; unfold wu; rw [if_neg (by omega), h52.1 a b (by omega)]; exact ew29 a b x (by omega)
      have e13 : ∀ x, x < 48 → M4 29 13 x = M 29 17 (48 * s0.toNat + x) := fun x hx => by
        have q := h52.2.1 x hx
        rw [Nat.zero_add] at q
        rw [hM4, wu_ne (by omega), q]; exact ew29 29 17 _ (by omega)
      refine Or.inl ⟨by rw [hM4]; unfold wu; rw [if_neg (by omega), h52.1 29 0 (by omega)]; exact er29, fun a b x q => e0 a b x (by omega), by omega, by omega, e13 30 (by omega), by rw [hM4]; unfold wu; rw [if_pos ⟨rfl, rfl, rfl⟩], e13⟩
    · refine r_iconst (pc' := 25) X dX9_restore_24 rfl ?_
      refine r_goto (tgt := 29) X dX9_restore_25 rfl ?_
      refine w_calli (pc' := 32) (st := []) (w_runV X (c_X9_refused l G M 2 (by first | assumption | omega)) cf_X9_refused k29_0 rfl gw_1087 gp_25 rfl rfl ⟨Nat.le_of_ble_eq_true rfl, Nat.le_of_ble_eq_true rfl⟩ rfl rfl (Nat.le_of_ble_eq_true rfl) ⟨Nat.le_of_ble_eq_true rfl, Nat.le_of_ble_eq_true rfl⟩ gw_1085 dX9_restore_29) rfl (fun z29 M5 h29 => ?_)
      have hz29 : z29 = 1 := by rw [h29.1]; rfl
      have ew29 : ∀ a b x, ¬ (a = 29 ∧ b = 0 ∧ x = 0) → M5 a b x = M a b x := fun a b x q => by rw [h29.2]; unfold wu; rw [if_neg q]
      have er29 : M5 29 0 0 = 2 := by rw [h29.2]; unfold wu; rw [if_pos ⟨rfl, rfl, rfl⟩]
      have sc29 : RScr M M5 := fun a b x q => ew29 a b x (by omega)
      refine r_if_eq (pc' := 35) (tgt := 37) X dX9_restore_32 rfl rfl (by omega) (fun h32 => by exfalso; omega) (fun h32 => ?_)
      refine r_iconst (pc' := 36) X dX9_restore_35 rfl ?_
      refine w_iret X hr dX9_restore_36 ?_
      try dsimp only
      exact (Or.inr (Or.inr ⟨er29, sc29, by omega⟩))
  · refine r_iconst (pc' := 12) X dX9_restore_11 rfl ?_
    refine r_goto (tgt := 29) X dX9_restore_12 rfl ?_
    refine w_calli (pc' := 32) (st := []) (w_runV X (c_X9_refused l G M 1 (by first | assumption | omega)) cf_X9_refused k29_0 rfl gw_1087 gp_25 rfl rfl ⟨Nat.le_of_ble_eq_true rfl, Nat.le_of_ble_eq_true rfl⟩ rfl rfl (Nat.le_of_ble_eq_true rfl) ⟨Nat.le_of_ble_eq_true rfl, Nat.le_of_ble_eq_true rfl⟩ gw_1085 dX9_restore_29) rfl (fun z29 M6 h29 => ?_)
    have hz29 : z29 = 1 := by rw [h29.1]; rfl
    have ew29 : ∀ a b x, ¬ (a = 29 ∧ b = 0 ∧ x = 0) → M6 a b x = M a b x := fun a b x q => by rw [h29.2]; unfold wu; rw [if_neg q]
    have er29 : M6 29 0 0 = 1 := by rw [h29.2]; unfold wu; rw [if_pos ⟨rfl, rfl, rfl⟩]
    have sc29 : RScr M M6 := fun a b x q => ew29 a b x (by omega)
    refine r_if_eq (pc' := 35) (tgt := 37) X dX9_restore_32 rfl rfl (by omega) (fun h32 => by exfalso; omega) (fun h32 => ?_)
    refine r_iconst (pc' := 36) X dX9_restore_35 rfl ?_
    refine w_iret X hr dX9_restore_36 ?_
    try dsimp only
    exact (Or.inr (Or.inl ⟨er29, sc29, by omega⟩))
