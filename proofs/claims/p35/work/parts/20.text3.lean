theorem cf_X7_put : wCal yX7_put cX7_put 2 none 1 := ⟨gw_596, gw_6, by decide, by decide, by rfl⟩
set_option maxRecDepth 100000 in
set_option maxHeartbeats 4000000 in
theorem c_X7_put (l : Launch) (G : wG) (M : wM) (L : Nat) (c0 : Int) (hc : 0 ≤ c0 ∧ c0 ≤ 255) (hL : M 27 0 1 = (L : Int)) (hL2 : L < 200) : Met l yX7_put (gws yX7_put cX7_put 2 none) (wrm 0 0 0) (wPc G M [vR G (27, 0), vI c0]) (wQv G (fun M1 => M1 = wu (wu M 27 1 L c0) 27 0 1 ((L : Int) + 1))) 0 0 (wA G) := by
  refine wMet (lc := [(0, vR G (27, 0)), (1, vI c0)]) (by decide) (Nat.le_of_ble_eq_true rfl) rfl ?_
  intro p e s m args below meth c X hr
  have X : wX p s m args meth c G 2 "StateObserver$SystemText" cX7_put := X
  refine r_aload_n (pc' := 1) X 0 dX7_put_0 rfl rfl rfl ?_
  refine gf_27_length (pc' := 4) X gw_217 dX7_put_1 rfl ?_
  refine w_eqI (z' := (L : Int)) hL ?_
  refine r_sipush (pc' := 7) X dX7_put_4 rfl rfl ?_
  refine r_icmp_ge (pc' := 10) (tgt := 30) X dX7_put_7 rfl rfl (by omega) (by omega) (fun h7 => ?_) (fun h7 => ?_)
  · refine w_vret X hr dX7_put_30 ?_
    try dsimp only
    omega
  · refine r_aload_n (pc' := 11) X 0 dX7_put_10 rfl rfl rfl ?_
    refine gf_27_characters (pc' := 14) X gw_216 dX7_put_11 rfl ?_
    refine r_aload_n (pc' := 15) X 0 dX7_put_14 rfl rfl rfl ?_
    refine gf_27_length (pc' := 18) X gw_217 dX7_put_15 rfl ?_
    refine w_eqI (z' := (L : Int)) hL ?_
    refine r_iload_n (pc' := 19) X 1 dX7_put_18 rfl rfl rfl ?_
    refine r_cast (i := L) (pc' := 20) X k27_1 (by omega) (by omega) (by decide) (q_narC (by omega)) dX7_put_19 rfl (fun M1 hM1 => ?_)
    refine r_aload_n (pc' := 21) X 0 dX7_put_20 rfl rfl rfl ?_
    refine r_dup (pc' := 22) X dX7_put_21 rfl rfl ?_
    refine gf_27_length (pc' := 25) X gw_217 dX7_put_22 rfl ?_
    refine w_eqI (z' := (L : Int)) (by rw [hM1, wu_ne (by omega)]; exact hL) ?_
    refine r_iconst (pc' := 26) X dX7_put_25 rfl ?_
    refine r_iadd (pc' := 27) X dX7_put_26 rfl ?_
    refine pf_27_length (pc' := 30) X gw_217 dX7_put_27 rfl (fun M2 hM2 => ?_)
    refine w_vret X hr dX7_put_30 ?_
    try dsimp only
    rw [hM2, hM1]
theorem cf_X7_firstError : wCal yX7_firstError cX7_firstError 2 (some .int) 0 := ⟨gw_331, gw_6, by decide, by decide, by rfl⟩
set_option maxRecDepth 100000 in
set_option maxHeartbeats 4000000 in
theorem c_X7_firstError (l : Launch) (G : wG) (M : wM) (L : Nat) (hB : TxB (M 27) L) : Met l yX7_firstError (gws yX7_firstError cX7_firstError 2 (some .int)) (wrm 5 0 0) (wPc G M [vR G (27, 0)]) (wQi G (fun z M1 => z = (if (rdE (M 27 1) L).1.2 = 0 then -9 else ((rdE (M 27 1) L).1.1 : Int)) ∧ TxOk (M1 27) L (rdE (M 27 1) L).1 ∧ (∀ a, a ≠ 2 → a ≠ 20 → a ≠ 27 → M1 a = M a) ∧ M1 27 1 = M 27 1 ∧ (∀ b x, ¬ (b = 0 ∧ (x = 7 ∨ x = 8)) → ¬ (6 ≤ b ∧ b < 10) → M1 2 b x = M 2 b x) ∧ ((rdE (M 27 1) L).1.2 = 0 → TxF M M1 L (rdN (M 27 1) L) (rdP (M 27 1) L) ((hdB (M 27 1) L (0, 0)).1) ((hdH (M 27 1) L (0, 0)).1) (rdS (M 27 1) L) (rdN (M 27 1) L) (rdP (M 27 1) L) ∧ ∀ x y, x < 4 → y < 3 → M1 2 (6 + x) y = (rdE (M 27 1) L).2 x y))) 0 0 (wA G) := by
  refine wMet (lc := [(0, vR G (27, 0))]) (by decide) (Nat.le_of_ble_eq_true rfl) rfl ?_
  intro p e s m args below meth c X hr
  have X : wX p s m args meth c G 2 "StateObserver$SystemText" cX7_firstError := X
  have hn4 := (rd_n (ch := M 27 1) (L := L)).2
  have hp3 := (rd_p (ch := M 27 1) (L := L)).2
  refine r_aload_n (pc' := 1) X 0 dX7_firstError_0 rfl rfl rfl ?_
  refine r_iconst (pc' := 2) X dX7_firstError_1 rfl ?_
  refine pf_27_position (pc' := 5) X gw_223 dX7_firstError_2 rfl (fun M1 hM1 => ?_)
  refine r_aload_n (pc' := 6) X 0 dX7_firstError_5 rfl rfl rfl ?_
  refine r_iconst (pc' := 7) X dX7_firstError_6 rfl ?_
  refine pf_27_wrong (pc' := 10) X (by omega) gw_224 dX7_firstError_7 rfl (fun M2 hM2 => ?_)
  have fa : M2 = setS M (0, 0) := by rw [hM2, hM1]; exact setS_0
  have hta : TxOk (M2 27) L (0, 0) := by rw [fa]; exact hB.ok rd0
  have hca : M2 27 1 = M 27 1 := by rw [fa, setS_1]
  refine r_aload_n (pc' := 11) X 0 dX7_firstError_10 rfl rfl rfl ?_
  refine w_callv (pc' := 14) (st := []) (w_runV X (c_X7_takeHead l G M2 L (0, 0) hta) cf_X7_takeHead k27_0 rfl gw_334 gp_0 rfl rfl ⟨Nat.le_of_ble_eq_true rfl, Nat.le_of_ble_eq_true rfl⟩ rfl rfl (Nat.le_of_ble_eq_true rfl) ⟨Nat.le_of_ble_eq_true rfl, Nat.le_of_ble_eq_true rfl⟩ gw_332 dX7_firstError_11) rfl (fun M3 h11 => ?_)
  rw [hca, fa] at h11
  simp only [setS_wu (show (20 : Nat) ≠ 27 by decide), setS_wu (show (2 : Nat) ≠ 27 by decide), setS_wr (show (20 : Nat) ≠ 27 by decide), setS_setS] at h11
  have hF0 : TxF M M3 L (rdN (M 27 1) L) (rdP (M 27 1) L) ((hdB (M 27 1) L (0, 0)).1) ((hdH (M 27 1) L (0, 0)).1) (rdS (M 27 1) L) 0 0 := by
    refine ⟨fun a a1 a2 a3 => ?_, ?_, fun b x q1 q2 => ?_, ?_, ?_, ?_, ?_, fun x hx => absurd hx (Nat.not_lt_zero x), fun x hx => absurd hx (Nat.not_lt_zero x)⟩
    · rw [h11, setS_o a3, wu_o a1, wu_o a1, wu_o a2, wu_o a2]
    · rw [h11, setS_1, wu_o (by decide), wu_o (by decide), wu_o (by decide), wu_o (by decide)]
    · rw [h11, setS_o (by decide)]
      by_cases q : b = 0
      · subst q
        simp only [wu]
        rw [if_neg (by omega), if_neg (by omega), if_neg (by omega), if_neg (by omega)]
      · rw [wu_ne (by omega), wu_ne (by omega), wu_ne (by omega), wu_ne (by omega)]
    · rw [h11, ← rd_n.1]; simp [setS, wu]
    · rw [h11, ← rd_p.1]; simp [setS, wu]
    · rw [h11]; simp [setS, wu]
    · rw [h11]; simp [setS, wu]
  have hx0 : TxOk (M3 27) L (rdS (M 27 1) L) := by
    rw [h11]
    exact TxB.ok (by rw [wu_o (by decide), wu_o (by decide), wu_o (by decide), wu_o (by decide)]; exact hB) rdS_ok
  refine r_iconst (pc' := 15) X dX7_firstError_14 rfl ?_
  refine r_istore_n (pc' := 16) (lc' := [(0, vR G (27, 0)), (1, vI 0)]) X [1, 0] dX7_firstError_15 rfl (by decide) rfl rfl ?_
  have L16 : ∀ (fu : Nat) (i : Nat) (Ma : wM), (rdN (M 27 1) L) - i < fu → (i ≤ (rdN (M 27 1) L)) → (TxF M Ma L (rdN (M 27 1) L) (rdP (M 27 1) L) ((hdB (M 27 1) L (0, 0)).1) ((hdH (M 27 1) L (0, 0)).1) (rdS (M 27 1) L) i 0) → (TxOk (Ma 27) L (sS (M 27 1) L (rdN (M 27 1) L) (rdS (M 27 1) L) i)) → wV p l e (wrm 5 0 0) s m args below meth c G 2 Ma 0 0 (MQ below (wQi G (fun z M1 => z = (if (rdE (M 27 1) L).1.2 = 0 then -9 else ((rdE (M 27 1) L).1.1 : Int)) ∧ TxOk (M1 27) L (rdE (M 27 1) L).1 ∧ (∀ a, a ≠ 2 → a ≠ 20 → a ≠ 27 → M1 a = M a) ∧ M1 27 1 = M 27 1 ∧ (∀ b x, ¬ (b = 0 ∧ (x = 7 ∨ x = 8)) → ¬ (6 ≤ b ∧ b < 10) → M1 2 b x = M 2 b x) ∧ ((rdE (M 27 1) L).1.2 = 0 → TxF M M1 L (rdN (M 27 1) L) (rdP (M 27 1) L) ((hdB (M 27 1) L (0, 0)).1) ((hdH (M 27 1) L (0, 0)).1) (rdS (M 27 1) L) (rdN (M 27 1) L) (rdP (M 27 1) L) ∧ ∀ x y, x < 4 → y < 3 → M1 2 (6 + x) y = (rdE (M 27 1) L).2 x y))) args s 0 0 (wA G)) 16 [(0, vR G (27, 0)), (1, vI (i : Int))] [] := by
    intro fu
    induction fu with
    | zero => intro i Ma hfu; exact absurd hfu (Nat.not_lt_zero _)
    | succ fu ih16 =>
      intro i Ma hfu16 hi hF hx
      obtain ⟨-, hca, -, hNa, hPa, -⟩ := id hF
      have hwa : Ma 27 0 5 = (sS (M 27 1) L (rdN (M 27 1) L) (rdS (M 27 1) L) i).2 := hx.2.2.2.1
      have hw01 := hx.2.2.2.2.1.2
      refine r_iload_n (pc' := 17) X 1 dX7_firstError_16 rfl rfl rfl ?_
      refine r_aload_n (pc' := 18) X 0 dX7_firstError_17 rfl rfl rfl ?_
      refine gf_27_plant (pc' := 21) X gw_219 dX7_firstError_18 rfl ?_
      refine gf_P_n (pc' := 24) X (by decide) gw_37 dX7_firstError_21 rfl ?_
      refine r_icmp_ge (pc' := 27) (tgt := 45) X dX7_firstError_24 rfl rfl (by omega) (by omega) (fun h24 => ?_) (fun h24 => ?_)
      · have hS : (sS (M 27 1) L (rdN (M 27 1) L) (rdS (M 27 1) L) (rdN (M 27 1) L)) = (sS (M 27 1) L (rdN (M 27 1) L) (rdS (M 27 1) L) i) := by
          rcases (show i = (rdN (M 27 1) L) ∨ (sS (M 27 1) L (rdN (M 27 1) L) (rdS (M 27 1) L) i).2 = 1 by omega) with q | q
          · exact congrArg (fun x => sS (M 27 1) L (rdN (M 27 1) L) (rdS (M 27 1) L) x) q.symm
          · have := sS_1 q ((rdN (M 27 1) L) - i)
            rw [show i + ((rdN (M 27 1) L) - i) = (rdN (M 27 1) L) by omega] at this
            exact this
        have hiN : (sS (M 27 1) L (rdN (M 27 1) L) (rdS (M 27 1) L) (rdN (M 27 1) L)).2 = 0 → i = (rdN (M 27 1) L) := by rw [hS]; omega
        refine r_iconst (pc' := 46) X dX7_firstError_45 rfl ?_
        refine r_istore_n (pc' := 47) (lc' := [(0, vR G (27, 0)), (1, vI 0)]) X [1, 0] dX7_firstError_46 rfl (by decide) rfl rfl ?_
        have L47 : ∀ (fu : Nat) (k : Nat) (Mb : wM), (rdP (M 27 1) L) - k < fu → (k ≤ (rdP (M 27 1) L)) → (TxF M Mb L (rdN (M 27 1) L) (rdP (M 27 1) L) ((hdB (M 27 1) L (0, 0)).1) ((hdH (M 27 1) L (0, 0)).1) (rdS (M 27 1) L) i k) → (TxOk (Mb 27) L (sO (M 27 1) L (rdN (M 27 1) L) (sS (M 27 1) L (rdN (M 27 1) L) (rdS (M 27 1) L) (rdN (M 27 1) L)) k)) → wV p l e (wrm 5 0 0) s m args below meth c G 2 Mb 0 0 (MQ below (wQi G (fun z M1 => z = (if (rdE (M 27 1) L).1.2 = 0 then -9 else ((rdE (M 27 1) L).1.1 : Int)) ∧ TxOk (M1 27) L (rdE (M 27 1) L).1 ∧ (∀ a, a ≠ 2 → a ≠ 20 → a ≠ 27 → M1 a = M a) ∧ M1 27 1 = M 27 1 ∧ (∀ b x, ¬ (b = 0 ∧ (x = 7 ∨ x = 8)) → ¬ (6 ≤ b ∧ b < 10) → M1 2 b x = M 2 b x) ∧ ((rdE (M 27 1) L).1.2 = 0 → TxF M M1 L (rdN (M 27 1) L) (rdP (M 27 1) L) ((hdB (M 27 1) L (0, 0)).1) ((hdH (M 27 1) L (0, 0)).1) (rdS (M 27 1) L) (rdN (M 27 1) L) (rdP (M 27 1) L) ∧ ∀ x y, x < 4 → y < 3 → M1 2 (6 + x) y = (rdE (M 27 1) L).2 x y))) args s 0 0 (wA G)) 47 [(0, vR G (27, 0)), (1, vI (k : Int))] [] := by
          intro fu
          induction fu with
          | zero => intro k Mb hfu; exact absurd hfu (Nat.not_lt_zero _)
          | succ fu ih47 =>
            intro k Mb hfu47 hk hG hy
            obtain ⟨-, hcb, -, hNb, hPb, -⟩ := id hG
            have hwb : Mb 27 0 5 = (sO (M 27 1) L (rdN (M 27 1) L) (sS (M 27 1) L (rdN (M 27 1) L) (rdS (M 27 1) L) (rdN (M 27 1) L)) k).2 := hy.2.2.2.1
            have hw02 := hy.2.2.2.2.1.2
            refine r_iload_n (pc' := 48) X 1 dX7_firstError_47 rfl rfl rfl ?_
            refine r_aload_n (pc' := 49) X 0 dX7_firstError_48 rfl rfl rfl ?_
            refine gf_27_plant (pc' := 52) X gw_219 dX7_firstError_49 rfl ?_
            refine gf_P_p (pc' := 55) X (by decide) gw_42 dX7_firstError_52 rfl ?_
            refine r_icmp_ge (pc' := 58) (tgt := 76) X dX7_firstError_55 rfl rfl (by omega) (by omega) (fun h55 => ?_) (fun h55 => ?_)
            · have hO : (sO (M 27 1) L (rdN (M 27 1) L) (sS (M 27 1) L (rdN (M 27 1) L) (rdS (M 27 1) L) (rdN (M 27 1) L)) (rdP (M 27 1) L)) = (sO (M 27 1) L (rdN (M 27 1) L) (sS (M 27 1) L (rdN (M 27 1) L) (rdS (M 27 1) L) (rdN (M 27 1) L)) k) := by
                rcases (show k = (rdP (M 27 1) L) ∨ (sO (M 27 1) L (rdN (M 27 1) L) (sS (M 27 1) L (rdN (M 27 1) L) (rdS (M 27 1) L) (rdN (M 27 1) L)) k).2 = 1 by omega) with q | q
                · exact congrArg (fun x => sO (M 27 1) L (rdN (M 27 1) L) (sS (M 27 1) L (rdN (M 27 1) L) (rdS (M 27 1) L) (rdN (M 27 1) L)) x) q.symm
                · have := sO_1 q ((rdP (M 27 1) L) - k)
                  rw [show k + ((rdP (M 27 1) L) - k) = (rdP (M 27 1) L) by omega] at this
                  exact this
              have hkP : (sO (M 27 1) L (rdN (M 27 1) L) (sS (M 27 1) L (rdN (M 27 1) L) (rdS (M 27 1) L) (rdN (M 27 1) L)) k).2 = 0 → k = (rdP (M 27 1) L) := by omega
              have hNP0 : (sO (M 27 1) L (rdN (M 27 1) L) (sS (M 27 1) L (rdN (M 27 1) L) (rdS (M 27 1) L) (rdN (M 27 1) L)) k).2 = 0 → i = (rdN (M 27 1) L) ∧ k = (rdP (M 27 1) L) ∧ (rdS (M 27 1) L).2 = 0 := fun q => by
                have q1 : (sS (M 27 1) L (rdN (M 27 1) L) (rdS (M 27 1) L) (rdN (M 27 1) L)).2 = 0 := by
                  rcases (sS_ok (ch := M 27 1) (N := rdN (M 27 1) L) (rdS_ok (ch := M 27 1) (L := L)) (rdN (M 27 1) L)).2 with z | z
                  · exact z
                  · have := sO_1 (ch := M 27 1) (L := L) (N := rdN (M 27 1) L) (i := 0) (s := (sS (M 27 1) L (rdN (M 27 1) L) (rdS (M 27 1) L) (rdN (M 27 1) L))) z k
                    rw [Nat.zero_add] at this
                    rw [this] at q
                    exact absurd (q.symm.trans z) (by decide)
                refine ⟨hiN q1, hkP q, ?_⟩
                rcases (rdS_ok (ch := M 27 1) (L := L)).2 with z | z
                · exact z
                · have := sS_1 (ch := M 27 1) (L := L) (i := 0) (N := rdN (M 27 1) L) (s := rdS (M 27 1) L) z (rdN (M 27 1) L)
                  rw [Nat.zero_add] at this
                  rw [this] at q1
                  exact absurd (q1.symm.trans z) (by decide)
              refine r_aload_n (pc' := 77) X 0 dX7_firstError_76 rfl rfl rfl ?_
              refine gf_27_start (pc' := 80) X gw_221 dX7_firstError_77 rfl ?_
              refine w_callv (pc' := 83) (st := []) (w_runV X (c_X1_clearGains l G Mb 2 (by decide)) cf_X1_clearGains (kM_0 (by decide)) rfl gw_361 gw_362 rfl rfl ⟨Nat.le_of_ble_eq_true rfl, Nat.le_of_ble_eq_true rfl⟩ rfl rfl (Nat.le_of_ble_eq_true rfl) ⟨Nat.le_of_ble_eq_true rfl, Nat.le_of_ble_eq_true rfl⟩ gw_360 dX7_firstError_80) rfl (fun M4 h80 => ?_)
              have hK : TxF M M4 L (rdN (M 27 1) L) (rdP (M 27 1) L) ((hdB (M 27 1) L (0, 0)).1) ((hdH (M 27 1) L (0, 0)).1) (rdS (M 27 1) L) i k := TxF_keep hG (fun a a1 a2 => funext fun b => h80.1 a b (by omega)) (h80.1 27 1 (by omega)) (fun b hb => h80.1 2 b (by omega))
              have hz0 : TxOk (M4 27) L (sO (M 27 1) L (rdN (M 27 1) L) (sS (M 27 1) L (rdN (M 27 1) L) (rdS (M 27 1) L) (rdN (M 27 1) L)) k) := by rw [show M4 27 = Mb 27 from funext fun b => h80.1 27 b (by omega)]; exact hy
              refine r_iconst (pc' := 84) X dX7_firstError_83 rfl ?_
              refine r_istore_n (pc' := 85) (lc' := [(0, vR G (27, 0)), (1, vI 0)]) X [1, 0] dX7_firstError_84 rfl (by decide) rfl rfl ?_
              have L85 : ∀ (fu : Nat) (g : Nat) (t : pS) (gt : Nat → Nat → Int) (Mc : wM), 200 - g < fu → (g ≤ 200) → (rdE (M 27 1) L = gG (M 27 1) L (rdN (M 27 1) L) (rdP (M 27 1) L) (200 - g) t gt) → (TxOk (Mc 27) L t) → (TxF M Mc L (rdN (M 27 1) L) (rdP (M 27 1) L) ((hdB (M 27 1) L (0, 0)).1) ((hdH (M 27 1) L (0, 0)).1) (rdS (M 27 1) L) i k) → (∀ x y, x < 4 → y < 3 → Mc 2 (6 + x) y = gt x y) → (t.2 = 0 → i = (rdN (M 27 1) L) ∧ k = (rdP (M 27 1) L) ∧ (rdS (M 27 1) L).2 = 0) → wV p l e (wrm 5 0 0) s m args below meth c G 2 Mc 0 0 (MQ below (wQi G (fun z M1 => z = (if (rdE (M 27 1) L).1.2 = 0 then -9 else ((rdE (M 27 1) L).1.1 : Int)) ∧ TxOk (M1 27) L (rdE (M 27 1) L).1 ∧ (∀ a, a ≠ 2 → a ≠ 20 → a ≠ 27 → M1 a = M a) ∧ M1 27 1 = M 27 1 ∧ (∀ b x, ¬ (b = 0 ∧ (x = 7 ∨ x = 8)) → ¬ (6 ≤ b ∧ b < 10) → M1 2 b x = M 2 b x) ∧ ((rdE (M 27 1) L).1.2 = 0 → TxF M M1 L (rdN (M 27 1) L) (rdP (M 27 1) L) ((hdB (M 27 1) L (0, 0)).1) ((hdH (M 27 1) L (0, 0)).1) (rdS (M 27 1) L) (rdN (M 27 1) L) (rdP (M 27 1) L) ∧ ∀ x y, x < 4 → y < 3 → M1 2 (6 + x) y = (rdE (M 27 1) L).2 x y))) args s 0 0 (wA G)) 85 [(0, vR G (27, 0)), (1, vI (g : Int))] [] := by
                intro fu
                induction fu with
                | zero => intro g t gt Mc hfu; exact absurd hfu (Nat.not_lt_zero _)
                | succ fu ih85 =>
                  intro g t gt Mc hfu85 hgd hgG hz hH hgt hNP
                  obtain ⟨-, hcc, -, hNc, hPc, -⟩ := id hH
                  have hwc : Mc 27 0 5 = t.2 := hz.2.2.2.1
                  have hpc : Mc 27 0 4 = t.1 := hz.2.2.1
                  have hlc : Mc 27 0 1 = L := hz.1
                  have hL2 := hB.2.1
                  obtain ⟨hw03, hw04⟩ := hz.2.2.2.2.1
                  refine r_iload_n (pc' := 86) X 1 dX7_firstError_85 rfl rfl rfl ?_
                  refine r_sipush (pc' := 89) X dX7_firstError_86 rfl rfl ?_
                  refine r_icmp_ge (pc' := 92) (tgt := 120) X dX7_firstError_89 rfl rfl (by omega) (by omega) (fun h89 => ?_) (fun h89 => ?_)
                  · have hE : rdE (M 27 1) L = (t, gt) := by
                      rw [hgG]
                      by_cases q : t.2 = 0 ∧ t.1 < L
                      · rw [show 200 - g = 0 by omega]; rfl
                      · exact gG_stop q
                    refine r_aload_n (pc' := 121) X 0 dX7_firstError_120 rfl rfl rfl ?_
                    refine gf_27_wrong (pc' := 124) X gw_224 dX7_firstError_121 rfl ?_
                    refine r_if_eq (pc' := 127) (tgt := 134) X dX7_firstError_124 rfl rfl (by omega) (fun h124 => ?_) (fun h124 => ?_)
                    · refine r_bipush (pc' := 136) X dX7_firstError_134 rfl rfl ?_
                      refine w_iret X hr dX7_firstError_136 ?_
                      try dsimp only
                      rw [hE]
                      refine ⟨?_, hz, hH.1, hH.2.1, hH.2.2.1, fun q => ⟨?_, hgt⟩⟩
                      · dsimp only
                        first | (exfalso; omega) | rw [if_pos (show t.2 = 0 by omega)] | (rw [if_neg (show ¬ t.2 = 0 by omega)]; exact hpc)
                      · have := hNP q
                        rw [this.1, this.2.1] at hH
                        exact hH
                    · refine r_aload_n (pc' := 128) X 0 dX7_firstError_127 rfl rfl rfl ?_
                      refine gf_27_position (pc' := 131) X gw_223 dX7_firstError_128 rfl ?_
                      refine r_goto (tgt := 136) X dX7_firstError_131 rfl ?_
                      refine w_iret X hr dX7_firstError_136 ?_
                      try dsimp only
                      rw [hE]
                      refine ⟨?_, hz, hH.1, hH.2.1, hH.2.2.1, fun q => ⟨?_, hgt⟩⟩
                      · dsimp only
                        first | (exfalso; omega) | rw [if_pos (show t.2 = 0 by omega)] | (rw [if_neg (show ¬ t.2 = 0 by omega)]; exact hpc)
                      · have := hNP q
                        rw [this.1, this.2.1] at hH
                        exact hH
                  · refine r_aload_n (pc' := 93) X 0 dX7_firstError_92 rfl rfl rfl ?_
                    refine gf_27_wrong (pc' := 96) X gw_224 dX7_firstError_93 rfl ?_
                    refine r_if_ne (pc' := 99) (tgt := 120) X dX7_firstError_96 rfl rfl (by omega) (fun h96 => ?_) (fun h96 => ?_)
                    · have hE : rdE (M 27 1) L = (t, gt) := by
                        rw [hgG]
                        by_cases q : t.2 = 0 ∧ t.1 < L
                        · rw [show 200 - g = 0 by omega]; rfl
                        · exact gG_stop q
                      refine r_aload_n (pc' := 121) X 0 dX7_firstError_120 rfl rfl rfl ?_
                      refine gf_27_wrong (pc' := 124) X gw_224 dX7_firstError_121 rfl ?_
                      refine r_if_eq (pc' := 127) (tgt := 134) X dX7_firstError_124 rfl rfl (by omega) (fun h124 => ?_) (fun h124 => ?_)
                      · refine r_bipush (pc' := 136) X dX7_firstError_134 rfl rfl ?_
                        refine w_iret X hr dX7_firstError_136 ?_
                        try dsimp only
                        rw [hE]
                        refine ⟨?_, hz, hH.1, hH.2.1, hH.2.2.1, fun q => ⟨?_, hgt⟩⟩
                        · dsimp only
                          first | (exfalso; omega) | rw [if_pos (show t.2 = 0 by omega)] | (rw [if_neg (show ¬ t.2 = 0 by omega)]; exact hpc)
                        · have := hNP q
                          rw [this.1, this.2.1] at hH
                          exact hH
                      · refine r_aload_n (pc' := 128) X 0 dX7_firstError_127 rfl rfl rfl ?_
                        refine gf_27_position (pc' := 131) X gw_223 dX7_firstError_128 rfl ?_
                        refine r_goto (tgt := 136) X dX7_firstError_131 rfl ?_
                        refine w_iret X hr dX7_firstError_136 ?_
                        try dsimp only
                        rw [hE]
                        refine ⟨?_, hz, hH.1, hH.2.1, hH.2.2.1, fun q => ⟨?_, hgt⟩⟩
                        · dsimp only
                          first | (exfalso; omega) | rw [if_pos (show t.2 = 0 by omega)] | (rw [if_neg (show ¬ t.2 = 0 by omega)]; exact hpc)
                        · have := hNP q
                          rw [this.1, this.2.1] at hH
                          exact hH
                    · refine r_aload_n (pc' := 100) X 0 dX7_firstError_99 rfl rfl rfl ?_
                      refine gf_27_position (pc' := 103) X gw_223 dX7_firstError_100 rfl ?_
                      refine r_aload_n (pc' := 104) X 0 dX7_firstError_103 rfl rfl rfl ?_
                      refine gf_27_length (pc' := 107) X gw_217 dX7_firstError_104 rfl ?_
                      refine r_icmp_ge (pc' := 110) (tgt := 120) X dX7_firstError_107 rfl rfl (by omega) (by omega) (fun h107 => ?_) (fun h107 => ?_)
                      · have hE : rdE (M 27 1) L = (t, gt) := by
                          rw [hgG]
                          by_cases q : t.2 = 0 ∧ t.1 < L
                          · rw [show 200 - g = 0 by omega]; rfl
                          · exact gG_stop q
                        refine r_aload_n (pc' := 121) X 0 dX7_firstError_120 rfl rfl rfl ?_
                        refine gf_27_wrong (pc' := 124) X gw_224 dX7_firstError_121 rfl ?_
                        refine r_if_eq (pc' := 127) (tgt := 134) X dX7_firstError_124 rfl rfl (by omega) (fun h124 => ?_) (fun h124 => ?_)
                        · refine r_bipush (pc' := 136) X dX7_firstError_134 rfl rfl ?_
                          refine w_iret X hr dX7_firstError_136 ?_
                          try dsimp only
                          rw [hE]
                          refine ⟨?_, hz, hH.1, hH.2.1, hH.2.2.1, fun q => ⟨?_, hgt⟩⟩
                          · dsimp only
                            first | (exfalso; omega) | rw [if_pos (show t.2 = 0 by omega)] | (rw [if_neg (show ¬ t.2 = 0 by omega)]; exact hpc)
                          · have := hNP q
                            rw [this.1, this.2.1] at hH
                            exact hH
                        · refine r_aload_n (pc' := 128) X 0 dX7_firstError_127 rfl rfl rfl ?_
                          refine gf_27_position (pc' := 131) X gw_223 dX7_firstError_128 rfl ?_
                          refine r_goto (tgt := 136) X dX7_firstError_131 rfl ?_
                          refine w_iret X hr dX7_firstError_136 ?_
                          try dsimp only
                          rw [hE]
                          refine ⟨?_, hz, hH.1, hH.2.1, hH.2.2.1, fun q => ⟨?_, hgt⟩⟩
                          · dsimp only
                            first | (exfalso; omega) | rw [if_pos (show t.2 = 0 by omega)] | (rw [if_neg (show ¬ t.2 = 0 by omega)]; exact hpc)
                          · have := hNP q
                            rw [this.1, this.2.1] at hH
                            exact hH
                      · have ht0 : t.2 = 0 := by omega
                        have ht1 : t.1 < L := by omega
                        have hn1 := rdS_0 (hNP ht0).2.2
                        refine r_aload_n (pc' := 111) X 0 dX7_firstError_110 rfl rfl rfl ?_
                        refine w_callv (pc' := 114) (st := []) (w_runV X (c_X7_takeGain l G Mc (rdN (M 27 1) L) (rdP (M 27 1) L) L t hNc (⟨hn1.1, hn4⟩) hPc (⟨hn1.2, hp3⟩) hz) cf_X7_takeGain k27_0 rfl gw_366 gp_7 rfl rfl ⟨Nat.le_of_ble_eq_true rfl, Nat.le_of_ble_eq_true rfl⟩ rfl rfl (Nat.le_of_ble_eq_true rfl) ⟨Nat.le_of_ble_eq_true rfl, Nat.le_of_ble_eq_true rfl⟩ gw_364 dX7_firstError_111) rfl (fun M5 h111 => ?_)
                        rw [hcc] at h111
                        have hz2 : TxOk (M5 27) L (gV (M 27 1) L (rdN (M 27 1) L) (rdP (M 27 1) L) t).2 := by rw [h111]; exact setS_ok (s := t) (by rw [wu_o (by decide)]; exact hz) (gV_ok hz.2.2.2.2.1)
                        have hgi := pD_bd (ch := M 27 1) (L := L) (a := 0) (b := ((rdN (M 27 1) L) : Int) - 1) (s := pC (M 27 1) L 103 103 t) (by decide) (by omega)
                        have hH2 : TxF M M5 L (rdN (M 27 1) L) (rdP (M 27 1) L) ((hdB (M 27 1) L (0, 0)).1) ((hdH (M 27 1) L (0, 0)).1) (rdS (M 27 1) L) i k := TxF_keep hH (fun a a1 a2 => by rw [h111, setS_o a2, wu_o a1]) (by rw [h111, setS_1, wu_o (by decide)]) (fun b hb => by rw [h111, setS_ne (by omega), wu_ne]; intro q; apply hb; rw [q.2]; unfold gI; omega)
                        have hgt2 : ∀ x y, x < 4 → y < 3 → M5 2 (6 + x) y = gUp (M 27 1) L (rdN (M 27 1) L) (rdP (M 27 1) L) t gt x y := fun x y hx hy => by
                          rw [h111, setS_o (by decide)]
                          unfold wu gUp
                          by_cases c : x = (gI (M 27 1) L (rdN (M 27 1) L) t).1.toNat ∧ y = (gK (M 27 1) L (rdN (M 27 1) L) (rdP (M 27 1) L) t).1.toNat
                          · rw [if_pos c, if_pos ⟨rfl, by omega, c.2⟩]
                          · rw [if_neg c, if_neg (fun q => c ⟨by omega, q.2.2⟩)]
                            exact hgt x y hx hy
                        refine r_iinc (pc' := 117) (z' := ((g + 1 : Nat) : Int)) (lc' := [(0, vR G (27, 0)), (1, vI ((g + 1 : Nat) : Int))]) X 1 [1, 0] dX7_firstError_114 rfl (by omega) (by decide) rfl rfl ?_
                        refine r_goto (tgt := 85) X dX7_firstError_117 rfl ?_
                        exact ih85 (g + 1) ((gV (M 27 1) L (rdN (M 27 1) L) (rdP (M 27 1) L) t).2) (gUp (M 27 1) L (rdN (M 27 1) L) (rdP (M 27 1) L) t gt) M5 (by omega) (by omega) (by rw [hgG, show 200 - g = (200 - (g + 1)) + 1 by omega]; exact gG_s ⟨ht0, ht1⟩) hz2 hH2 hgt2 (fun _ => hNP ht0)
              exact L85 ((200 - 0) + 1) 0 (sO (M 27 1) L (rdN (M 27 1) L) (sS (M 27 1) L (rdN (M 27 1) L) (rdS (M 27 1) L) (rdN (M 27 1) L)) k) (fun _ _ => 0) M4 (Nat.lt_succ_self _) (by omega) (by unfold rdE rdO; rw [hO]) hz0 hK (fun x y hx hy => h80.2 x y hx hy) hNP0
            · refine r_aload_n (pc' := 59) X 0 dX7_firstError_58 rfl rfl rfl ?_
              refine gf_27_wrong (pc' := 62) X gw_224 dX7_firstError_59 rfl ?_
              refine r_if_ne (pc' := 65) (tgt := 76) X dX7_firstError_62 rfl rfl (by omega) (fun h62 => ?_) (fun h62 => ?_)
              · have hO : (sO (M 27 1) L (rdN (M 27 1) L) (sS (M 27 1) L (rdN (M 27 1) L) (rdS (M 27 1) L) (rdN (M 27 1) L)) (rdP (M 27 1) L)) = (sO (M 27 1) L (rdN (M 27 1) L) (sS (M 27 1) L (rdN (M 27 1) L) (rdS (M 27 1) L) (rdN (M 27 1) L)) k) := by
                  rcases (show k = (rdP (M 27 1) L) ∨ (sO (M 27 1) L (rdN (M 27 1) L) (sS (M 27 1) L (rdN (M 27 1) L) (rdS (M 27 1) L) (rdN (M 27 1) L)) k).2 = 1 by omega) with q | q
                  · exact congrArg (fun x => sO (M 27 1) L (rdN (M 27 1) L) (sS (M 27 1) L (rdN (M 27 1) L) (rdS (M 27 1) L) (rdN (M 27 1) L)) x) q.symm
                  · have := sO_1 q ((rdP (M 27 1) L) - k)
                    rw [show k + ((rdP (M 27 1) L) - k) = (rdP (M 27 1) L) by omega] at this
                    exact this
                have hkP : (sO (M 27 1) L (rdN (M 27 1) L) (sS (M 27 1) L (rdN (M 27 1) L) (rdS (M 27 1) L) (rdN (M 27 1) L)) k).2 = 0 → k = (rdP (M 27 1) L) := by omega
                have hNP0 : (sO (M 27 1) L (rdN (M 27 1) L) (sS (M 27 1) L (rdN (M 27 1) L) (rdS (M 27 1) L) (rdN (M 27 1) L)) k).2 = 0 → i = (rdN (M 27 1) L) ∧ k = (rdP (M 27 1) L) ∧ (rdS (M 27 1) L).2 = 0 := fun q => by
                  have q1 : (sS (M 27 1) L (rdN (M 27 1) L) (rdS (M 27 1) L) (rdN (M 27 1) L)).2 = 0 := by
                    rcases (sS_ok (ch := M 27 1) (N := rdN (M 27 1) L) (rdS_ok (ch := M 27 1) (L := L)) (rdN (M 27 1) L)).2 with z | z
                    · exact z
                    · have := sO_1 (ch := M 27 1) (L := L) (N := rdN (M 27 1) L) (i := 0) (s := (sS (M 27 1) L (rdN (M 27 1) L) (rdS (M 27 1) L) (rdN (M 27 1) L))) z k
                      rw [Nat.zero_add] at this
                      rw [this] at q
                      exact absurd (q.symm.trans z) (by decide)
                  refine ⟨hiN q1, hkP q, ?_⟩
                  rcases (rdS_ok (ch := M 27 1) (L := L)).2 with z | z
                  · exact z
                  · have := sS_1 (ch := M 27 1) (L := L) (i := 0) (N := rdN (M 27 1) L) (s := rdS (M 27 1) L) z (rdN (M 27 1) L)
                    rw [Nat.zero_add] at this
                    rw [this] at q1
                    exact absurd (q1.symm.trans z) (by decide)
                refine r_aload_n (pc' := 77) X 0 dX7_firstError_76 rfl rfl rfl ?_
                refine gf_27_start (pc' := 80) X gw_221 dX7_firstError_77 rfl ?_
                refine w_callv (pc' := 83) (st := []) (w_runV X (c_X1_clearGains l G Mb 2 (by decide)) cf_X1_clearGains (kM_0 (by decide)) rfl gw_361 gw_362 rfl rfl ⟨Nat.le_of_ble_eq_true rfl, Nat.le_of_ble_eq_true rfl⟩ rfl rfl (Nat.le_of_ble_eq_true rfl) ⟨Nat.le_of_ble_eq_true rfl, Nat.le_of_ble_eq_true rfl⟩ gw_360 dX7_firstError_80) rfl (fun M6 h80 => ?_)
                have hK : TxF M M6 L (rdN (M 27 1) L) (rdP (M 27 1) L) ((hdB (M 27 1) L (0, 0)).1) ((hdH (M 27 1) L (0, 0)).1) (rdS (M 27 1) L) i k := TxF_keep hG (fun a a1 a2 => funext fun b => h80.1 a b (by omega)) (h80.1 27 1 (by omega)) (fun b hb => h80.1 2 b (by omega))
                have hz0 : TxOk (M6 27) L (sO (M 27 1) L (rdN (M 27 1) L) (sS (M 27 1) L (rdN (M 27 1) L) (rdS (M 27 1) L) (rdN (M 27 1) L)) k) := by rw [show M6 27 = Mb 27 from funext fun b => h80.1 27 b (by omega)]; exact hy
                refine r_iconst (pc' := 84) X dX7_firstError_83 rfl ?_
                refine r_istore_n (pc' := 85) (lc' := [(0, vR G (27, 0)), (1, vI 0)]) X [1, 0] dX7_firstError_84 rfl (by decide) rfl rfl ?_
                have L85 : ∀ (fu : Nat) (g : Nat) (t : pS) (gt : Nat → Nat → Int) (Mc : wM), 200 - g < fu → (g ≤ 200) → (rdE (M 27 1) L = gG (M 27 1) L (rdN (M 27 1) L) (rdP (M 27 1) L) (200 - g) t gt) → (TxOk (Mc 27) L t) → (TxF M Mc L (rdN (M 27 1) L) (rdP (M 27 1) L) ((hdB (M 27 1) L (0, 0)).1) ((hdH (M 27 1) L (0, 0)).1) (rdS (M 27 1) L) i k) → (∀ x y, x < 4 → y < 3 → Mc 2 (6 + x) y = gt x y) → (t.2 = 0 → i = (rdN (M 27 1) L) ∧ k = (rdP (M 27 1) L) ∧ (rdS (M 27 1) L).2 = 0) → wV p l e (wrm 5 0 0) s m args below meth c G 2 Mc 0 0 (MQ below (wQi G (fun z M1 => z = (if (rdE (M 27 1) L).1.2 = 0 then -9 else ((rdE (M 27 1) L).1.1 : Int)) ∧ TxOk (M1 27) L (rdE (M 27 1) L).1 ∧ (∀ a, a ≠ 2 → a ≠ 20 → a ≠ 27 → M1 a = M a) ∧ M1 27 1 = M 27 1 ∧ (∀ b x, ¬ (b = 0 ∧ (x = 7 ∨ x = 8)) → ¬ (6 ≤ b ∧ b < 10) → M1 2 b x = M 2 b x) ∧ ((rdE (M 27 1) L).1.2 = 0 → TxF M M1 L (rdN (M 27 1) L) (rdP (M 27 1) L) ((hdB (M 27 1) L (0, 0)).1) ((hdH (M 27 1) L (0, 0)).1) (rdS (M 27 1) L) (rdN (M 27 1) L) (rdP (M 27 1) L) ∧ ∀ x y, x < 4 → y < 3 → M1 2 (6 + x) y = (rdE (M 27 1) L).2 x y))) args s 0 0 (wA G)) 85 [(0, vR G (27, 0)), (1, vI (g : Int))] [] := by
                  intro fu
                  induction fu with
                  | zero => intro g t gt Mc hfu; exact absurd hfu (Nat.not_lt_zero _)
                  | succ fu ih85 =>
                    intro g t gt Mc hfu85 hgd hgG hz hH hgt hNP
                    obtain ⟨-, hcc, -, hNc, hPc, -⟩ := id hH
                    have hwc : Mc 27 0 5 = t.2 := hz.2.2.2.1
                    have hpc : Mc 27 0 4 = t.1 := hz.2.2.1
                    have hlc : Mc 27 0 1 = L := hz.1
                    have hL2 := hB.2.1
                    obtain ⟨hw03, hw04⟩ := hz.2.2.2.2.1
                    refine r_iload_n (pc' := 86) X 1 dX7_firstError_85 rfl rfl rfl ?_
                    refine r_sipush (pc' := 89) X dX7_firstError_86 rfl rfl ?_
                    refine r_icmp_ge (pc' := 92) (tgt := 120) X dX7_firstError_89 rfl rfl (by omega) (by omega) (fun h89 => ?_) (fun h89 => ?_)
                    · have hE : rdE (M 27 1) L = (t, gt) := by
                        rw [hgG]
                        by_cases q : t.2 = 0 ∧ t.1 < L
                        · rw [show 200 - g = 0 by omega]; rfl
                        · exact gG_stop q
                      refine r_aload_n (pc' := 121) X 0 dX7_firstError_120 rfl rfl rfl ?_
                      refine gf_27_wrong (pc' := 124) X gw_224 dX7_firstError_121 rfl ?_
                      refine r_if_eq (pc' := 127) (tgt := 134) X dX7_firstError_124 rfl rfl (by omega) (fun h124 => ?_) (fun h124 => ?_)
                      · refine r_bipush (pc' := 136) X dX7_firstError_134 rfl rfl ?_
                        refine w_iret X hr dX7_firstError_136 ?_
                        try dsimp only
                        rw [hE]
                        refine ⟨?_, hz, hH.1, hH.2.1, hH.2.2.1, fun q => ⟨?_, hgt⟩⟩
                        · dsimp only
                          first | (exfalso; omega) | rw [if_pos (show t.2 = 0 by omega)] | (rw [if_neg (show ¬ t.2 = 0 by omega)]; exact hpc)
                        · have := hNP q
                          rw [this.1, this.2.1] at hH
                          exact hH
                      · refine r_aload_n (pc' := 128) X 0 dX7_firstError_127 rfl rfl rfl ?_
                        refine gf_27_position (pc' := 131) X gw_223 dX7_firstError_128 rfl ?_
                        refine r_goto (tgt := 136) X dX7_firstError_131 rfl ?_
                        refine w_iret X hr dX7_firstError_136 ?_
                        try dsimp only
                        rw [hE]
                        refine ⟨?_, hz, hH.1, hH.2.1, hH.2.2.1, fun q => ⟨?_, hgt⟩⟩
                        · dsimp only
                          first | (exfalso; omega) | rw [if_pos (show t.2 = 0 by omega)] | (rw [if_neg (show ¬ t.2 = 0 by omega)]; exact hpc)
                        · have := hNP q
                          rw [this.1, this.2.1] at hH
                          exact hH
                    · refine r_aload_n (pc' := 93) X 0 dX7_firstError_92 rfl rfl rfl ?_
                      refine gf_27_wrong (pc' := 96) X gw_224 dX7_firstError_93 rfl ?_
                      refine r_if_ne (pc' := 99) (tgt := 120) X dX7_firstError_96 rfl rfl (by omega) (fun h96 => ?_) (fun h96 => ?_)
                      · have hE : rdE (M 27 1) L = (t, gt) := by
                          rw [hgG]
                          by_cases q : t.2 = 0 ∧ t.1 < L
                          · rw [show 200 - g = 0 by omega]; rfl
                          · exact gG_stop q
                        refine r_aload_n (pc' := 121) X 0 dX7_firstError_120 rfl rfl rfl ?_
                        refine gf_27_wrong (pc' := 124) X gw_224 dX7_firstError_121 rfl ?_
                        refine r_if_eq (pc' := 127) (tgt := 134) X dX7_firstError_124 rfl rfl (by omega) (fun h124 => ?_) (fun h124 => ?_)
                        · refine r_bipush (pc' := 136) X dX7_firstError_134 rfl rfl ?_
                          refine w_iret X hr dX7_firstError_136 ?_
                          try dsimp only
                          rw [hE]
                          refine ⟨?_, hz, hH.1, hH.2.1, hH.2.2.1, fun q => ⟨?_, hgt⟩⟩
                          · dsimp only
                            first | (exfalso; omega) | rw [if_pos (show t.2 = 0 by omega)] | (rw [if_neg (show ¬ t.2 = 0 by omega)]; exact hpc)
                          · have := hNP q
                            rw [this.1, this.2.1] at hH
                            exact hH
                        · refine r_aload_n (pc' := 128) X 0 dX7_firstError_127 rfl rfl rfl ?_
                          refine gf_27_position (pc' := 131) X gw_223 dX7_firstError_128 rfl ?_
                          refine r_goto (tgt := 136) X dX7_firstError_131 rfl ?_
                          refine w_iret X hr dX7_firstError_136 ?_
                          try dsimp only
                          rw [hE]
                          refine ⟨?_, hz, hH.1, hH.2.1, hH.2.2.1, fun q => ⟨?_, hgt⟩⟩
                          · dsimp only
                            first | (exfalso; omega) | rw [if_pos (show t.2 = 0 by omega)] | (rw [if_neg (show ¬ t.2 = 0 by omega)]; exact hpc)
                          · have := hNP q
                            rw [this.1, this.2.1] at hH
                            exact hH
                      · refine r_aload_n (pc' := 100) X 0 dX7_firstError_99 rfl rfl rfl ?_
                        refine gf_27_position (pc' := 103) X gw_223 dX7_firstError_100 rfl ?_
                        refine r_aload_n (pc' := 104) X 0 dX7_firstError_103 rfl rfl rfl ?_
                        refine gf_27_length (pc' := 107) X gw_217 dX7_firstError_104 rfl ?_
                        refine r_icmp_ge (pc' := 110) (tgt := 120) X dX7_firstError_107 rfl rfl (by omega) (by omega) (fun h107 => ?_) (fun h107 => ?_)
                        · have hE : rdE (M 27 1) L = (t, gt) := by
                            rw [hgG]
                            by_cases q : t.2 = 0 ∧ t.1 < L
                            · rw [show 200 - g = 0 by omega]; rfl
                            · exact gG_stop q
                          refine r_aload_n (pc' := 121) X 0 dX7_firstError_120 rfl rfl rfl ?_
                          refine gf_27_wrong (pc' := 124) X gw_224 dX7_firstError_121 rfl ?_
                          refine r_if_eq (pc' := 127) (tgt := 134) X dX7_firstError_124 rfl rfl (by omega) (fun h124 => ?_) (fun h124 => ?_)
                          · refine r_bipush (pc' := 136) X dX7_firstError_134 rfl rfl ?_
                            refine w_iret X hr dX7_firstError_136 ?_
                            try dsimp only
                            rw [hE]
                            refine ⟨?_, hz, hH.1, hH.2.1, hH.2.2.1, fun q => ⟨?_, hgt⟩⟩
                            · dsimp only
                              first | (exfalso; omega) | rw [if_pos (show t.2 = 0 by omega)] | (rw [if_neg (show ¬ t.2 = 0 by omega)]; exact hpc)
                            · have := hNP q
                              rw [this.1, this.2.1] at hH
                              exact hH
                          · refine r_aload_n (pc' := 128) X 0 dX7_firstError_127 rfl rfl rfl ?_
                            refine gf_27_position (pc' := 131) X gw_223 dX7_firstError_128 rfl ?_
                            refine r_goto (tgt := 136) X dX7_firstError_131 rfl ?_
                            refine w_iret X hr dX7_firstError_136 ?_
                            try dsimp only
                            rw [hE]
                            refine ⟨?_, hz, hH.1, hH.2.1, hH.2.2.1, fun q => ⟨?_, hgt⟩⟩
                            · dsimp only
                              first | (exfalso; omega) | rw [if_pos (show t.2 = 0 by omega)] | (rw [if_neg (show ¬ t.2 = 0 by omega)]; exact hpc)
                            · have := hNP q
                              rw [this.1, this.2.1] at hH
                              exact hH
                        · have ht0 : t.2 = 0 := by omega
                          have ht1 : t.1 < L := by omega
                          have hn1 := rdS_0 (hNP ht0).2.2
                          refine r_aload_n (pc' := 111) X 0 dX7_firstError_110 rfl rfl rfl ?_
                          refine w_callv (pc' := 114) (st := []) (w_runV X (c_X7_takeGain l G Mc (rdN (M 27 1) L) (rdP (M 27 1) L) L t hNc (⟨hn1.1, hn4⟩) hPc (⟨hn1.2, hp3⟩) hz) cf_X7_takeGain k27_0 rfl gw_366 gp_7 rfl rfl ⟨Nat.le_of_ble_eq_true rfl, Nat.le_of_ble_eq_true rfl⟩ rfl rfl (Nat.le_of_ble_eq_true rfl) ⟨Nat.le_of_ble_eq_true rfl, Nat.le_of_ble_eq_true rfl⟩ gw_364 dX7_firstError_111) rfl (fun M7 h111 => ?_)
                          rw [hcc] at h111
                          have hz2 : TxOk (M7 27) L (gV (M 27 1) L (rdN (M 27 1) L) (rdP (M 27 1) L) t).2 := by rw [h111]; exact setS_ok (s := t) (by rw [wu_o (by decide)]; exact hz) (gV_ok hz.2.2.2.2.1)
                          have hgi := pD_bd (ch := M 27 1) (L := L) (a := 0) (b := ((rdN (M 27 1) L) : Int) - 1) (s := pC (M 27 1) L 103 103 t) (by decide) (by omega)
                          have hH2 : TxF M M7 L (rdN (M 27 1) L) (rdP (M 27 1) L) ((hdB (M 27 1) L (0, 0)).1) ((hdH (M 27 1) L (0, 0)).1) (rdS (M 27 1) L) i k := TxF_keep hH (fun a a1 a2 => by rw [h111, setS_o a2, wu_o a1]) (by rw [h111, setS_1, wu_o (by decide)]) (fun b hb => by rw [h111, setS_ne (by omega), wu_ne]; intro q; apply hb; rw [q.2]; unfold gI; omega)
                          have hgt2 : ∀ x y, x < 4 → y < 3 → M7 2 (6 + x) y = gUp (M 27 1) L (rdN (M 27 1) L) (rdP (M 27 1) L) t gt x y := fun x y hx hy => by
                            rw [h111, setS_o (by decide)]
                            unfold wu gUp
                            by_cases c : x = (gI (M 27 1) L (rdN (M 27 1) L) t).1.toNat ∧ y = (gK (M 27 1) L (rdN (M 27 1) L) (rdP (M 27 1) L) t).1.toNat
                            · rw [if_pos c, if_pos ⟨rfl, by omega, c.2⟩]
                            · rw [if_neg c, if_neg (fun q => c ⟨by omega, q.2.2⟩)]
                              exact hgt x y hx hy
                          refine r_iinc (pc' := 117) (z' := ((g + 1 : Nat) : Int)) (lc' := [(0, vR G (27, 0)), (1, vI ((g + 1 : Nat) : Int))]) X 1 [1, 0] dX7_firstError_114 rfl (by omega) (by decide) rfl rfl ?_
                          refine r_goto (tgt := 85) X dX7_firstError_117 rfl ?_
                          exact ih85 (g + 1) ((gV (M 27 1) L (rdN (M 27 1) L) (rdP (M 27 1) L) t).2) (gUp (M 27 1) L (rdN (M 27 1) L) (rdP (M 27 1) L) t gt) M7 (by omega) (by omega) (by rw [hgG, show 200 - g = (200 - (g + 1)) + 1 by omega]; exact gG_s ⟨ht0, ht1⟩) hz2 hH2 hgt2 (fun _ => hNP ht0)
                exact L85 ((200 - 0) + 1) 0 (sO (M 27 1) L (rdN (M 27 1) L) (sS (M 27 1) L (rdN (M 27 1) L) (rdS (M 27 1) L) (rdN (M 27 1) L)) k) (fun _ _ => 0) M6 (Nat.lt_succ_self _) (by omega) (by unfold rdE rdO; rw [hO]) hz0 hK (fun x y hx hy => h80.2 x y hx hy) hNP0
              · refine r_aload_n (pc' := 66) X 0 dX7_firstError_65 rfl rfl rfl ?_
                refine r_iload_n (pc' := 67) X 1 dX7_firstError_66 rfl rfl rfl ?_
                refine w_callv (pc' := 70) (st := []) (w_runV X (c_X7_takeOutput l G Mb k (rdN (M 27 1) L) L (sO (M 27 1) L (rdN (M 27 1) L) (sS (M 27 1) L (rdN (M 27 1) L) (rdS (M 27 1) L) (rdN (M 27 1) L)) k) hNb hn4 (by first | assumption | omega) hy) cf_X7_takeOutput k27_0 rfl gw_358 gp_6 rfl rfl ⟨Nat.le_of_ble_eq_true rfl, Nat.le_of_ble_eq_true rfl⟩ rfl rfl (Nat.le_of_ble_eq_true rfl) ⟨Nat.le_of_ble_eq_true rfl, Nat.le_of_ble_eq_true rfl⟩ gw_356 dX7_firstError_67) rfl (fun M8 h67 => ?_)
                have hG2 : TxF M M8 L (rdN (M 27 1) L) (rdP (M 27 1) L) ((hdB (M 27 1) L (0, 0)).1) ((hdH (M 27 1) L (0, 0)).1) (rdS (M 27 1) L) i (k + 1) := TxF_out (by omega) (by omega) hG rfl h67
                have hy2 : TxOk (M8 27) L (sO (M 27 1) L (rdN (M 27 1) L) (sS (M 27 1) L (rdN (M 27 1) L) (rdS (M 27 1) L) (rdN (M 27 1) L)) (k + 1)) := by rw [h67, hcb]; exact setS_ok (s := (sO (M 27 1) L (rdN (M 27 1) L) (sS (M 27 1) L (rdN (M 27 1) L) (rdS (M 27 1) L) (rdN (M 27 1) L)) k)) (by rw [wu_o (by decide), wr_o (by decide)]; exact hy) (sO_ok (sS_ok rdS_ok _) (k + 1))
                refine r_iinc (pc' := 73) (z' := ((k + 1 : Nat) : Int)) (lc' := [(0, vR G (27, 0)), (1, vI ((k + 1 : Nat) : Int))]) X 1 [1, 0] dX7_firstError_70 rfl (by omega) (by decide) rfl rfl ?_
                refine r_goto (tgt := 47) X dX7_firstError_73 rfl ?_
                exact ih47 (k + 1) M8 (by omega) (by omega) hG2 hy2
        exact L47 (((rdP (M 27 1) L) - 0) + 1) 0 Ma (Nat.lt_succ_self _) (by omega) hF (by show TxOk (Ma 27) L (sS (M 27 1) L (rdN (M 27 1) L) (rdS (M 27 1) L) (rdN (M 27 1) L)); rw [hS]; exact hx)
      · refine r_aload_n (pc' := 28) X 0 dX7_firstError_27 rfl rfl rfl ?_
        refine gf_27_wrong (pc' := 31) X gw_224 dX7_firstError_28 rfl ?_
        refine r_if_ne (pc' := 34) (tgt := 45) X dX7_firstError_31 rfl rfl (by omega) (fun h31 => ?_) (fun h31 => ?_)
        · have hS : (sS (M 27 1) L (rdN (M 27 1) L) (rdS (M 27 1) L) (rdN (M 27 1) L)) = (sS (M 27 1) L (rdN (M 27 1) L) (rdS (M 27 1) L) i) := by
            rcases (show i = (rdN (M 27 1) L) ∨ (sS (M 27 1) L (rdN (M 27 1) L) (rdS (M 27 1) L) i).2 = 1 by omega) with q | q
            · exact congrArg (fun x => sS (M 27 1) L (rdN (M 27 1) L) (rdS (M 27 1) L) x) q.symm
            · have := sS_1 q ((rdN (M 27 1) L) - i)
              rw [show i + ((rdN (M 27 1) L) - i) = (rdN (M 27 1) L) by omega] at this
              exact this
          have hiN : (sS (M 27 1) L (rdN (M 27 1) L) (rdS (M 27 1) L) (rdN (M 27 1) L)).2 = 0 → i = (rdN (M 27 1) L) := by rw [hS]; omega
          refine r_iconst (pc' := 46) X dX7_firstError_45 rfl ?_
          refine r_istore_n (pc' := 47) (lc' := [(0, vR G (27, 0)), (1, vI 0)]) X [1, 0] dX7_firstError_46 rfl (by decide) rfl rfl ?_
          have L47 : ∀ (fu : Nat) (k : Nat) (Mb : wM), (rdP (M 27 1) L) - k < fu → (k ≤ (rdP (M 27 1) L)) → (TxF M Mb L (rdN (M 27 1) L) (rdP (M 27 1) L) ((hdB (M 27 1) L (0, 0)).1) ((hdH (M 27 1) L (0, 0)).1) (rdS (M 27 1) L) i k) → (TxOk (Mb 27) L (sO (M 27 1) L (rdN (M 27 1) L) (sS (M 27 1) L (rdN (M 27 1) L) (rdS (M 27 1) L) (rdN (M 27 1) L)) k)) → wV p l e (wrm 5 0 0) s m args below meth c G 2 Mb 0 0 (MQ below (wQi G (fun z M1 => z = (if (rdE (M 27 1) L).1.2 = 0 then -9 else ((rdE (M 27 1) L).1.1 : Int)) ∧ TxOk (M1 27) L (rdE (M 27 1) L).1 ∧ (∀ a, a ≠ 2 → a ≠ 20 → a ≠ 27 → M1 a = M a) ∧ M1 27 1 = M 27 1 ∧ (∀ b x, ¬ (b = 0 ∧ (x = 7 ∨ x = 8)) → ¬ (6 ≤ b ∧ b < 10) → M1 2 b x = M 2 b x) ∧ ((rdE (M 27 1) L).1.2 = 0 → TxF M M1 L (rdN (M 27 1) L) (rdP (M 27 1) L) ((hdB (M 27 1) L (0, 0)).1) ((hdH (M 27 1) L (0, 0)).1) (rdS (M 27 1) L) (rdN (M 27 1) L) (rdP (M 27 1) L) ∧ ∀ x y, x < 4 → y < 3 → M1 2 (6 + x) y = (rdE (M 27 1) L).2 x y))) args s 0 0 (wA G)) 47 [(0, vR G (27, 0)), (1, vI (k : Int))] [] := by
            intro fu
            induction fu with
            | zero => intro k Mb hfu; exact absurd hfu (Nat.not_lt_zero _)
            | succ fu ih47 =>
              intro k Mb hfu47 hk hG hy
              obtain ⟨-, hcb, -, hNb, hPb, -⟩ := id hG
              have hwb : Mb 27 0 5 = (sO (M 27 1) L (rdN (M 27 1) L) (sS (M 27 1) L (rdN (M 27 1) L) (rdS (M 27 1) L) (rdN (M 27 1) L)) k).2 := hy.2.2.2.1
              have hw02 := hy.2.2.2.2.1.2
              refine r_iload_n (pc' := 48) X 1 dX7_firstError_47 rfl rfl rfl ?_
              refine r_aload_n (pc' := 49) X 0 dX7_firstError_48 rfl rfl rfl ?_
              refine gf_27_plant (pc' := 52) X gw_219 dX7_firstError_49 rfl ?_
              refine gf_P_p (pc' := 55) X (by decide) gw_42 dX7_firstError_52 rfl ?_
              refine r_icmp_ge (pc' := 58) (tgt := 76) X dX7_firstError_55 rfl rfl (by omega) (by omega) (fun h55 => ?_) (fun h55 => ?_)
              · have hO : (sO (M 27 1) L (rdN (M 27 1) L) (sS (M 27 1) L (rdN (M 27 1) L) (rdS (M 27 1) L) (rdN (M 27 1) L)) (rdP (M 27 1) L)) = (sO (M 27 1) L (rdN (M 27 1) L) (sS (M 27 1) L (rdN (M 27 1) L) (rdS (M 27 1) L) (rdN (M 27 1) L)) k) := by
                  rcases (show k = (rdP (M 27 1) L) ∨ (sO (M 27 1) L (rdN (M 27 1) L) (sS (M 27 1) L (rdN (M 27 1) L) (rdS (M 27 1) L) (rdN (M 27 1) L)) k).2 = 1 by omega) with q | q
                  · exact congrArg (fun x => sO (M 27 1) L (rdN (M 27 1) L) (sS (M 27 1) L (rdN (M 27 1) L) (rdS (M 27 1) L) (rdN (M 27 1) L)) x) q.symm
                  · have := sO_1 q ((rdP (M 27 1) L) - k)
                    rw [show k + ((rdP (M 27 1) L) - k) = (rdP (M 27 1) L) by omega] at this
                    exact this
                have hkP : (sO (M 27 1) L (rdN (M 27 1) L) (sS (M 27 1) L (rdN (M 27 1) L) (rdS (M 27 1) L) (rdN (M 27 1) L)) k).2 = 0 → k = (rdP (M 27 1) L) := by omega
                have hNP0 : (sO (M 27 1) L (rdN (M 27 1) L) (sS (M 27 1) L (rdN (M 27 1) L) (rdS (M 27 1) L) (rdN (M 27 1) L)) k).2 = 0 → i = (rdN (M 27 1) L) ∧ k = (rdP (M 27 1) L) ∧ (rdS (M 27 1) L).2 = 0 := fun q => by
                  have q1 : (sS (M 27 1) L (rdN (M 27 1) L) (rdS (M 27 1) L) (rdN (M 27 1) L)).2 = 0 := by
                    rcases (sS_ok (ch := M 27 1) (N := rdN (M 27 1) L) (rdS_ok (ch := M 27 1) (L := L)) (rdN (M 27 1) L)).2 with z | z
                    · exact z
                    · have := sO_1 (ch := M 27 1) (L := L) (N := rdN (M 27 1) L) (i := 0) (s := (sS (M 27 1) L (rdN (M 27 1) L) (rdS (M 27 1) L) (rdN (M 27 1) L))) z k
                      rw [Nat.zero_add] at this
                      rw [this] at q
                      exact absurd (q.symm.trans z) (by decide)
                  refine ⟨hiN q1, hkP q, ?_⟩
                  rcases (rdS_ok (ch := M 27 1) (L := L)).2 with z | z
                  · exact z
                  · have := sS_1 (ch := M 27 1) (L := L) (i := 0) (N := rdN (M 27 1) L) (s := rdS (M 27 1) L) z (rdN (M 27 1) L)
                    rw [Nat.zero_add] at this
                    rw [this] at q1
                    exact absurd (q1.symm.trans z) (by decide)
                refine r_aload_n (pc' := 77) X 0 dX7_firstError_76 rfl rfl rfl ?_
                refine gf_27_start (pc' := 80) X gw_221 dX7_firstError_77 rfl ?_
                refine w_callv (pc' := 83) (st := []) (w_runV X (c_X1_clearGains l G Mb 2 (by decide)) cf_X1_clearGains (kM_0 (by decide)) rfl gw_361 gw_362 rfl rfl ⟨Nat.le_of_ble_eq_true rfl, Nat.le_of_ble_eq_true rfl⟩ rfl rfl (Nat.le_of_ble_eq_true rfl) ⟨Nat.le_of_ble_eq_true rfl, Nat.le_of_ble_eq_true rfl⟩ gw_360 dX7_firstError_80) rfl (fun M9 h80 => ?_)
                have hK : TxF M M9 L (rdN (M 27 1) L) (rdP (M 27 1) L) ((hdB (M 27 1) L (0, 0)).1) ((hdH (M 27 1) L (0, 0)).1) (rdS (M 27 1) L) i k := TxF_keep hG (fun a a1 a2 => funext fun b => h80.1 a b (by omega)) (h80.1 27 1 (by omega)) (fun b hb => h80.1 2 b (by omega))
                have hz0 : TxOk (M9 27) L (sO (M 27 1) L (rdN (M 27 1) L) (sS (M 27 1) L (rdN (M 27 1) L) (rdS (M 27 1) L) (rdN (M 27 1) L)) k) := by rw [show M9 27 = Mb 27 from funext fun b => h80.1 27 b (by omega)]; exact hy
                refine r_iconst (pc' := 84) X dX7_firstError_83 rfl ?_
                refine r_istore_n (pc' := 85) (lc' := [(0, vR G (27, 0)), (1, vI 0)]) X [1, 0] dX7_firstError_84 rfl (by decide) rfl rfl ?_
                have L85 : ∀ (fu : Nat) (g : Nat) (t : pS) (gt : Nat → Nat → Int) (Mc : wM), 200 - g < fu → (g ≤ 200) → (rdE (M 27 1) L = gG (M 27 1) L (rdN (M 27 1) L) (rdP (M 27 1) L) (200 - g) t gt) → (TxOk (Mc 27) L t) → (TxF M Mc L (rdN (M 27 1) L) (rdP (M 27 1) L) ((hdB (M 27 1) L (0, 0)).1) ((hdH (M 27 1) L (0, 0)).1) (rdS (M 27 1) L) i k) → (∀ x y, x < 4 → y < 3 → Mc 2 (6 + x) y = gt x y) → (t.2 = 0 → i = (rdN (M 27 1) L) ∧ k = (rdP (M 27 1) L) ∧ (rdS (M 27 1) L).2 = 0) → wV p l e (wrm 5 0 0) s m args below meth c G 2 Mc 0 0 (MQ below (wQi G (fun z M1 => z = (if (rdE (M 27 1) L).1.2 = 0 then -9 else ((rdE (M 27 1) L).1.1 : Int)) ∧ TxOk (M1 27) L (rdE (M 27 1) L).1 ∧ (∀ a, a ≠ 2 → a ≠ 20 → a ≠ 27 → M1 a = M a) ∧ M1 27 1 = M 27 1 ∧ (∀ b x, ¬ (b = 0 ∧ (x = 7 ∨ x = 8)) → ¬ (6 ≤ b ∧ b < 10) → M1 2 b x = M 2 b x) ∧ ((rdE (M 27 1) L).1.2 = 0 → TxF M M1 L (rdN (M 27 1) L) (rdP (M 27 1) L) ((hdB (M 27 1) L (0, 0)).1) ((hdH (M 27 1) L (0, 0)).1) (rdS (M 27 1) L) (rdN (M 27 1) L) (rdP (M 27 1) L) ∧ ∀ x y, x < 4 → y < 3 → M1 2 (6 + x) y = (rdE (M 27 1) L).2 x y))) args s 0 0 (wA G)) 85 [(0, vR G (27, 0)), (1, vI (g : Int))] [] := by
                  intro fu
                  induction fu with
                  | zero => intro g t gt Mc hfu; exact absurd hfu (Nat.not_lt_zero _)
                  | succ fu ih85 =>
                    intro g t gt Mc hfu85 hgd hgG hz hH hgt hNP
                    obtain ⟨-, hcc, -, hNc, hPc, -⟩ := id hH
                    have hwc : Mc 27 0 5 = t.2 := hz.2.2.2.1
                    have hpc : Mc 27 0 4 = t.1 := hz.2.2.1
                    have hlc : Mc 27 0 1 = L := hz.1
                    have hL2 := hB.2.1
                    obtain ⟨hw03, hw04⟩ := hz.2.2.2.2.1
                    refine r_iload_n (pc' := 86) X 1 dX7_firstError_85 rfl rfl rfl ?_
                    refine r_sipush (pc' := 89) X dX7_firstError_86 rfl rfl ?_
                    refine r_icmp_ge (pc' := 92) (tgt := 120) X dX7_firstError_89 rfl rfl (by omega) (by omega) (fun h89 => ?_) (fun h89 => ?_)
                    · have hE : rdE (M 27 1) L = (t, gt) := by
                        rw [hgG]
                        by_cases q : t.2 = 0 ∧ t.1 < L
                        · rw [show 200 - g = 0 by omega]; rfl
                        · exact gG_stop q
                      refine r_aload_n (pc' := 121) X 0 dX7_firstError_120 rfl rfl rfl ?_
                      refine gf_27_wrong (pc' := 124) X gw_224 dX7_firstError_121 rfl ?_
                      refine r_if_eq (pc' := 127) (tgt := 134) X dX7_firstError_124 rfl rfl (by omega) (fun h124 => ?_) (fun h124 => ?_)
                      · refine r_bipush (pc' := 136) X dX7_firstError_134 rfl rfl ?_
                        refine w_iret X hr dX7_firstError_136 ?_
                        try dsimp only
                        rw [hE]
                        refine ⟨?_, hz, hH.1, hH.2.1, hH.2.2.1, fun q => ⟨?_, hgt⟩⟩
                        · dsimp only
                          first | (exfalso; omega) | rw [if_pos (show t.2 = 0 by omega)] | (rw [if_neg (show ¬ t.2 = 0 by omega)]; exact hpc)
                        · have := hNP q
                          rw [this.1, this.2.1] at hH
                          exact hH
                      · refine r_aload_n (pc' := 128) X 0 dX7_firstError_127 rfl rfl rfl ?_
                        refine gf_27_position (pc' := 131) X gw_223 dX7_firstError_128 rfl ?_
                        refine r_goto (tgt := 136) X dX7_firstError_131 rfl ?_
                        refine w_iret X hr dX7_firstError_136 ?_
                        try dsimp only
                        rw [hE]
                        refine ⟨?_, hz, hH.1, hH.2.1, hH.2.2.1, fun q => ⟨?_, hgt⟩⟩
                        · dsimp only
                          first | (exfalso; omega) | rw [if_pos (show t.2 = 0 by omega)] | (rw [if_neg (show ¬ t.2 = 0 by omega)]; exact hpc)
                        · have := hNP q
                          rw [this.1, this.2.1] at hH
                          exact hH
                    · refine r_aload_n (pc' := 93) X 0 dX7_firstError_92 rfl rfl rfl ?_
                      refine gf_27_wrong (pc' := 96) X gw_224 dX7_firstError_93 rfl ?_
                      refine r_if_ne (pc' := 99) (tgt := 120) X dX7_firstError_96 rfl rfl (by omega) (fun h96 => ?_) (fun h96 => ?_)
                      · have hE : rdE (M 27 1) L = (t, gt) := by
                          rw [hgG]
                          by_cases q : t.2 = 0 ∧ t.1 < L
                          · rw [show 200 - g = 0 by omega]; rfl
                          · exact gG_stop q
                        refine r_aload_n (pc' := 121) X 0 dX7_firstError_120 rfl rfl rfl ?_
                        refine gf_27_wrong (pc' := 124) X gw_224 dX7_firstError_121 rfl ?_
                        refine r_if_eq (pc' := 127) (tgt := 134) X dX7_firstError_124 rfl rfl (by omega) (fun h124 => ?_) (fun h124 => ?_)
                        · refine r_bipush (pc' := 136) X dX7_firstError_134 rfl rfl ?_
                          refine w_iret X hr dX7_firstError_136 ?_
                          try dsimp only
                          rw [hE]
                          refine ⟨?_, hz, hH.1, hH.2.1, hH.2.2.1, fun q => ⟨?_, hgt⟩⟩
                          · dsimp only
                            first | (exfalso; omega) | rw [if_pos (show t.2 = 0 by omega)] | (rw [if_neg (show ¬ t.2 = 0 by omega)]; exact hpc)
                          · have := hNP q
                            rw [this.1, this.2.1] at hH
                            exact hH
                        · refine r_aload_n (pc' := 128) X 0 dX7_firstError_127 rfl rfl rfl ?_
                          refine gf_27_position (pc' := 131) X gw_223 dX7_firstError_128 rfl ?_
                          refine r_goto (tgt := 136) X dX7_firstError_131 rfl ?_
                          refine w_iret X hr dX7_firstError_136 ?_
                          try dsimp only
                          rw [hE]
                          refine ⟨?_, hz, hH.1, hH.2.1, hH.2.2.1, fun q => ⟨?_, hgt⟩⟩
                          · dsimp only
                            first | (exfalso; omega) | rw [if_pos (show t.2 = 0 by omega)] | (rw [if_neg (show ¬ t.2 = 0 by omega)]; exact hpc)
                          · have := hNP q
                            rw [this.1, this.2.1] at hH
                            exact hH
                      · refine r_aload_n (pc' := 100) X 0 dX7_firstError_99 rfl rfl rfl ?_
                        refine gf_27_position (pc' := 103) X gw_223 dX7_firstError_100 rfl ?_
                        refine r_aload_n (pc' := 104) X 0 dX7_firstError_103 rfl rfl rfl ?_
                        refine gf_27_length (pc' := 107) X gw_217 dX7_firstError_104 rfl ?_
                        refine r_icmp_ge (pc' := 110) (tgt := 120) X dX7_firstError_107 rfl rfl (by omega) (by omega) (fun h107 => ?_) (fun h107 => ?_)
                        · have hE : rdE (M 27 1) L = (t, gt) := by
                            rw [hgG]
                            by_cases q : t.2 = 0 ∧ t.1 < L
                            · rw [show 200 - g = 0 by omega]; rfl
                            · exact gG_stop q
                          refine r_aload_n (pc' := 121) X 0 dX7_firstError_120 rfl rfl rfl ?_
                          refine gf_27_wrong (pc' := 124) X gw_224 dX7_firstError_121 rfl ?_
                          refine r_if_eq (pc' := 127) (tgt := 134) X dX7_firstError_124 rfl rfl (by omega) (fun h124 => ?_) (fun h124 => ?_)
                          · refine r_bipush (pc' := 136) X dX7_firstError_134 rfl rfl ?_
                            refine w_iret X hr dX7_firstError_136 ?_
                            try dsimp only
                            rw [hE]
                            refine ⟨?_, hz, hH.1, hH.2.1, hH.2.2.1, fun q => ⟨?_, hgt⟩⟩
                            · dsimp only
                              first | (exfalso; omega) | rw [if_pos (show t.2 = 0 by omega)] | (rw [if_neg (show ¬ t.2 = 0 by omega)]; exact hpc)
                            · have := hNP q
                              rw [this.1, this.2.1] at hH
                              exact hH
                          · refine r_aload_n (pc' := 128) X 0 dX7_firstError_127 rfl rfl rfl ?_
                            refine gf_27_position (pc' := 131) X gw_223 dX7_firstError_128 rfl ?_
                            refine r_goto (tgt := 136) X dX7_firstError_131 rfl ?_
                            refine w_iret X hr dX7_firstError_136 ?_
                            try dsimp only
                            rw [hE]
                            refine ⟨?_, hz, hH.1, hH.2.1, hH.2.2.1, fun q => ⟨?_, hgt⟩⟩
                            · dsimp only
                              first | (exfalso; omega) | rw [if_pos (show t.2 = 0 by omega)] | (rw [if_neg (show ¬ t.2 = 0 by omega)]; exact hpc)
                            · have := hNP q
                              rw [this.1, this.2.1] at hH
                              exact hH
                        · have ht0 : t.2 = 0 := by omega
                          have ht1 : t.1 < L := by omega
                          have hn1 := rdS_0 (hNP ht0).2.2
                          refine r_aload_n (pc' := 111) X 0 dX7_firstError_110 rfl rfl rfl ?_
                          refine w_callv (pc' := 114) (st := []) (w_runV X (c_X7_takeGain l G Mc (rdN (M 27 1) L) (rdP (M 27 1) L) L t hNc (⟨hn1.1, hn4⟩) hPc (⟨hn1.2, hp3⟩) hz) cf_X7_takeGain k27_0 rfl gw_366 gp_7 rfl rfl ⟨Nat.le_of_ble_eq_true rfl, Nat.le_of_ble_eq_true rfl⟩ rfl rfl (Nat.le_of_ble_eq_true rfl) ⟨Nat.le_of_ble_eq_true rfl, Nat.le_of_ble_eq_true rfl⟩ gw_364 dX7_firstError_111) rfl (fun M10 h111 => ?_)
                          rw [hcc] at h111
                          have hz2 : TxOk (M10 27) L (gV (M 27 1) L (rdN (M 27 1) L) (rdP (M 27 1) L) t).2 := by rw [h111]; exact setS_ok (s := t) (by rw [wu_o (by decide)]; exact hz) (gV_ok hz.2.2.2.2.1)
                          have hgi := pD_bd (ch := M 27 1) (L := L) (a := 0) (b := ((rdN (M 27 1) L) : Int) - 1) (s := pC (M 27 1) L 103 103 t) (by decide) (by omega)
                          have hH2 : TxF M M10 L (rdN (M 27 1) L) (rdP (M 27 1) L) ((hdB (M 27 1) L (0, 0)).1) ((hdH (M 27 1) L (0, 0)).1) (rdS (M 27 1) L) i k := TxF_keep hH (fun a a1 a2 => by rw [h111, setS_o a2, wu_o a1]) (by rw [h111, setS_1, wu_o (by decide)]) (fun b hb => by rw [h111, setS_ne (by omega), wu_ne]; intro q; apply hb; rw [q.2]; unfold gI; omega)
                          have hgt2 : ∀ x y, x < 4 → y < 3 → M10 2 (6 + x) y = gUp (M 27 1) L (rdN (M 27 1) L) (rdP (M 27 1) L) t gt x y := fun x y hx hy => by
                            rw [h111, setS_o (by decide)]
                            unfold wu gUp
                            by_cases c : x = (gI (M 27 1) L (rdN (M 27 1) L) t).1.toNat ∧ y = (gK (M 27 1) L (rdN (M 27 1) L) (rdP (M 27 1) L) t).1.toNat
                            · rw [if_pos c, if_pos ⟨rfl, by omega, c.2⟩]
                            · rw [if_neg c, if_neg (fun q => c ⟨by omega, q.2.2⟩)]
                              exact hgt x y hx hy
                          refine r_iinc (pc' := 117) (z' := ((g + 1 : Nat) : Int)) (lc' := [(0, vR G (27, 0)), (1, vI ((g + 1 : Nat) : Int))]) X 1 [1, 0] dX7_firstError_114 rfl (by omega) (by decide) rfl rfl ?_
                          refine r_goto (tgt := 85) X dX7_firstError_117 rfl ?_
                          exact ih85 (g + 1) ((gV (M 27 1) L (rdN (M 27 1) L) (rdP (M 27 1) L) t).2) (gUp (M 27 1) L (rdN (M 27 1) L) (rdP (M 27 1) L) t gt) M10 (by omega) (by omega) (by rw [hgG, show 200 - g = (200 - (g + 1)) + 1 by omega]; exact gG_s ⟨ht0, ht1⟩) hz2 hH2 hgt2 (fun _ => hNP ht0)
                exact L85 ((200 - 0) + 1) 0 (sO (M 27 1) L (rdN (M 27 1) L) (sS (M 27 1) L (rdN (M 27 1) L) (rdS (M 27 1) L) (rdN (M 27 1) L)) k) (fun _ _ => 0) M9 (Nat.lt_succ_self _) (by omega) (by unfold rdE rdO; rw [hO]) hz0 hK (fun x y hx hy => h80.2 x y hx hy) hNP0
              · refine r_aload_n (pc' := 59) X 0 dX7_firstError_58 rfl rfl rfl ?_
                refine gf_27_wrong (pc' := 62) X gw_224 dX7_firstError_59 rfl ?_
                refine r_if_ne (pc' := 65) (tgt := 76) X dX7_firstError_62 rfl rfl (by omega) (fun h62 => ?_) (fun h62 => ?_)
                · have hO : (sO (M 27 1) L (rdN (M 27 1) L) (sS (M 27 1) L (rdN (M 27 1) L) (rdS (M 27 1) L) (rdN (M 27 1) L)) (rdP (M 27 1) L)) = (sO (M 27 1) L (rdN (M 27 1) L) (sS (M 27 1) L (rdN (M 27 1) L) (rdS (M 27 1) L) (rdN (M 27 1) L)) k) := by
                    rcases (show k = (rdP (M 27 1) L) ∨ (sO (M 27 1) L (rdN (M 27 1) L) (sS (M 27 1) L (rdN (M 27 1) L) (rdS (M 27 1) L) (rdN (M 27 1) L)) k).2 = 1 by omega) with q | q
                    · exact congrArg (fun x => sO (M 27 1) L (rdN (M 27 1) L) (sS (M 27 1) L (rdN (M 27 1) L) (rdS (M 27 1) L) (rdN (M 27 1) L)) x) q.symm
                    · have := sO_1 q ((rdP (M 27 1) L) - k)
                      rw [show k + ((rdP (M 27 1) L) - k) = (rdP (M 27 1) L) by omega] at this
                      exact this
                  have hkP : (sO (M 27 1) L (rdN (M 27 1) L) (sS (M 27 1) L (rdN (M 27 1) L) (rdS (M 27 1) L) (rdN (M 27 1) L)) k).2 = 0 → k = (rdP (M 27 1) L) := by omega
                  have hNP0 : (sO (M 27 1) L (rdN (M 27 1) L) (sS (M 27 1) L (rdN (M 27 1) L) (rdS (M 27 1) L) (rdN (M 27 1) L)) k).2 = 0 → i = (rdN (M 27 1) L) ∧ k = (rdP (M 27 1) L) ∧ (rdS (M 27 1) L).2 = 0 := fun q => by
                    have q1 : (sS (M 27 1) L (rdN (M 27 1) L) (rdS (M 27 1) L) (rdN (M 27 1) L)).2 = 0 := by
                      rcases (sS_ok (ch := M 27 1) (N := rdN (M 27 1) L) (rdS_ok (ch := M 27 1) (L := L)) (rdN (M 27 1) L)).2 with z | z
                      · exact z
                      · have := sO_1 (ch := M 27 1) (L := L) (N := rdN (M 27 1) L) (i := 0) (s := (sS (M 27 1) L (rdN (M 27 1) L) (rdS (M 27 1) L) (rdN (M 27 1) L))) z k
                        rw [Nat.zero_add] at this
                        rw [this] at q
                        exact absurd (q.symm.trans z) (by decide)
                    refine ⟨hiN q1, hkP q, ?_⟩
                    rcases (rdS_ok (ch := M 27 1) (L := L)).2 with z | z
                    · exact z
                    · have := sS_1 (ch := M 27 1) (L := L) (i := 0) (N := rdN (M 27 1) L) (s := rdS (M 27 1) L) z (rdN (M 27 1) L)
                      rw [Nat.zero_add] at this
                      rw [this] at q1
                      exact absurd (q1.symm.trans z) (by decide)
                  refine r_aload_n (pc' := 77) X 0 dX7_firstError_76 rfl rfl rfl ?_
                  refine gf_27_start (pc' := 80) X gw_221 dX7_firstError_77 rfl ?_
                  refine w_callv (pc' := 83) (st := []) (w_runV X (c_X1_clearGains l G Mb 2 (by decide)) cf_X1_clearGains (kM_0 (by decide)) rfl gw_361 gw_362 rfl rfl ⟨Nat.le_of_ble_eq_true rfl, Nat.le_of_ble_eq_true rfl⟩ rfl rfl (Nat.le_of_ble_eq_true rfl) ⟨Nat.le_of_ble_eq_true rfl, Nat.le_of_ble_eq_true rfl⟩ gw_360 dX7_firstError_80) rfl (fun M11 h80 => ?_)
                  have hK : TxF M M11 L (rdN (M 27 1) L) (rdP (M 27 1) L) ((hdB (M 27 1) L (0, 0)).1) ((hdH (M 27 1) L (0, 0)).1) (rdS (M 27 1) L) i k := TxF_keep hG (fun a a1 a2 => funext fun b => h80.1 a b (by omega)) (h80.1 27 1 (by omega)) (fun b hb => h80.1 2 b (by omega))
                  have hz0 : TxOk (M11 27) L (sO (M 27 1) L (rdN (M 27 1) L) (sS (M 27 1) L (rdN (M 27 1) L) (rdS (M 27 1) L) (rdN (M 27 1) L)) k) := by rw [show M11 27 = Mb 27 from funext fun b => h80.1 27 b (by omega)]; exact hy
                  refine r_iconst (pc' := 84) X dX7_firstError_83 rfl ?_
                  refine r_istore_n (pc' := 85) (lc' := [(0, vR G (27, 0)), (1, vI 0)]) X [1, 0] dX7_firstError_84 rfl (by decide) rfl rfl ?_
                  have L85 : ∀ (fu : Nat) (g : Nat) (t : pS) (gt : Nat → Nat → Int) (Mc : wM), 200 - g < fu → (g ≤ 200) → (rdE (M 27 1) L = gG (M 27 1) L (rdN (M 27 1) L) (rdP (M 27 1) L) (200 - g) t gt) → (TxOk (Mc 27) L t) → (TxF M Mc L (rdN (M 27 1) L) (rdP (M 27 1) L) ((hdB (M 27 1) L (0, 0)).1) ((hdH (M 27 1) L (0, 0)).1) (rdS (M 27 1) L) i k) → (∀ x y, x < 4 → y < 3 → Mc 2 (6 + x) y = gt x y) → (t.2 = 0 → i = (rdN (M 27 1) L) ∧ k = (rdP (M 27 1) L) ∧ (rdS (M 27 1) L).2 = 0) → wV p l e (wrm 5 0 0) s m args below meth c G 2 Mc 0 0 (MQ below (wQi G (fun z M1 => z = (if (rdE (M 27 1) L).1.2 = 0 then -9 else ((rdE (M 27 1) L).1.1 : Int)) ∧ TxOk (M1 27) L (rdE (M 27 1) L).1 ∧ (∀ a, a ≠ 2 → a ≠ 20 → a ≠ 27 → M1 a = M a) ∧ M1 27 1 = M 27 1 ∧ (∀ b x, ¬ (b = 0 ∧ (x = 7 ∨ x = 8)) → ¬ (6 ≤ b ∧ b < 10) → M1 2 b x = M 2 b x) ∧ ((rdE (M 27 1) L).1.2 = 0 → TxF M M1 L (rdN (M 27 1) L) (rdP (M 27 1) L) ((hdB (M 27 1) L (0, 0)).1) ((hdH (M 27 1) L (0, 0)).1) (rdS (M 27 1) L) (rdN (M 27 1) L) (rdP (M 27 1) L) ∧ ∀ x y, x < 4 → y < 3 → M1 2 (6 + x) y = (rdE (M 27 1) L).2 x y))) args s 0 0 (wA G)) 85 [(0, vR G (27, 0)), (1, vI (g : Int))] [] := by
                    intro fu
                    induction fu with
                    | zero => intro g t gt Mc hfu; exact absurd hfu (Nat.not_lt_zero _)
                    | succ fu ih85 =>
                      intro g t gt Mc hfu85 hgd hgG hz hH hgt hNP
                      obtain ⟨-, hcc, -, hNc, hPc, -⟩ := id hH
                      have hwc : Mc 27 0 5 = t.2 := hz.2.2.2.1
                      have hpc : Mc 27 0 4 = t.1 := hz.2.2.1
                      have hlc : Mc 27 0 1 = L := hz.1
                      have hL2 := hB.2.1
                      obtain ⟨hw03, hw04⟩ := hz.2.2.2.2.1
                      refine r_iload_n (pc' := 86) X 1 dX7_firstError_85 rfl rfl rfl ?_
                      refine r_sipush (pc' := 89) X dX7_firstError_86 rfl rfl ?_
                      refine r_icmp_ge (pc' := 92) (tgt := 120) X dX7_firstError_89 rfl rfl (by omega) (by omega) (fun h89 => ?_) (fun h89 => ?_)
                      · have hE : rdE (M 27 1) L = (t, gt) := by
                          rw [hgG]
                          by_cases q : t.2 = 0 ∧ t.1 < L
                          · rw [show 200 - g = 0 by omega]; rfl
                          · exact gG_stop q
                        refine r_aload_n (pc' := 121) X 0 dX7_firstError_120 rfl rfl rfl ?_
                        refine gf_27_wrong (pc' := 124) X gw_224 dX7_firstError_121 rfl ?_
                        refine r_if_eq (pc' := 127) (tgt := 134) X dX7_firstError_124 rfl rfl (by omega) (fun h124 => ?_) (fun h124 => ?_)
                        · refine r_bipush (pc' := 136) X dX7_firstError_134 rfl rfl ?_
                          refine w_iret X hr dX7_firstError_136 ?_
                          try dsimp only
                          rw [hE]
                          refine ⟨?_, hz, hH.1, hH.2.1, hH.2.2.1, fun q => ⟨?_, hgt⟩⟩
                          · dsimp only
                            first | (exfalso; omega) | rw [if_pos (show t.2 = 0 by omega)] | (rw [if_neg (show ¬ t.2 = 0 by omega)]; exact hpc)
                          · have := hNP q
                            rw [this.1, this.2.1] at hH
                            exact hH
                        · refine r_aload_n (pc' := 128) X 0 dX7_firstError_127 rfl rfl rfl ?_
                          refine gf_27_position (pc' := 131) X gw_223 dX7_firstError_128 rfl ?_
                          refine r_goto (tgt := 136) X dX7_firstError_131 rfl ?_
                          refine w_iret X hr dX7_firstError_136 ?_
                          try dsimp only
                          rw [hE]
                          refine ⟨?_, hz, hH.1, hH.2.1, hH.2.2.1, fun q => ⟨?_, hgt⟩⟩
                          · dsimp only
                            first | (exfalso; omega) | rw [if_pos (show t.2 = 0 by omega)] | (rw [if_neg (show ¬ t.2 = 0 by omega)]; exact hpc)
                          · have := hNP q
                            rw [this.1, this.2.1] at hH
                            exact hH
                      · refine r_aload_n (pc' := 93) X 0 dX7_firstError_92 rfl rfl rfl ?_
                        refine gf_27_wrong (pc' := 96) X gw_224 dX7_firstError_93 rfl ?_
                        refine r_if_ne (pc' := 99) (tgt := 120) X dX7_firstError_96 rfl rfl (by omega) (fun h96 => ?_) (fun h96 => ?_)
                        · have hE : rdE (M 27 1) L = (t, gt) := by
                            rw [hgG]
                            by_cases q : t.2 = 0 ∧ t.1 < L
                            · rw [show 200 - g = 0 by omega]; rfl
                            · exact gG_stop q
                          refine r_aload_n (pc' := 121) X 0 dX7_firstError_120 rfl rfl rfl ?_
                          refine gf_27_wrong (pc' := 124) X gw_224 dX7_firstError_121 rfl ?_
                          refine r_if_eq (pc' := 127) (tgt := 134) X dX7_firstError_124 rfl rfl (by omega) (fun h124 => ?_) (fun h124 => ?_)
                          · refine r_bipush (pc' := 136) X dX7_firstError_134 rfl rfl ?_
                            refine w_iret X hr dX7_firstError_136 ?_
                            try dsimp only
                            rw [hE]
                            refine ⟨?_, hz, hH.1, hH.2.1, hH.2.2.1, fun q => ⟨?_, hgt⟩⟩
                            · dsimp only
                              first | (exfalso; omega) | rw [if_pos (show t.2 = 0 by omega)] | (rw [if_neg (show ¬ t.2 = 0 by omega)]; exact hpc)
                            · have := hNP q
                              rw [this.1, this.2.1] at hH
                              exact hH
                          · refine r_aload_n (pc' := 128) X 0 dX7_firstError_127 rfl rfl rfl ?_
                            refine gf_27_position (pc' := 131) X gw_223 dX7_firstError_128 rfl ?_
                            refine r_goto (tgt := 136) X dX7_firstError_131 rfl ?_
                            refine w_iret X hr dX7_firstError_136 ?_
                            try dsimp only
                            rw [hE]
                            refine ⟨?_, hz, hH.1, hH.2.1, hH.2.2.1, fun q => ⟨?_, hgt⟩⟩
                            · dsimp only
                              first | (exfalso; omega) | rw [if_pos (show t.2 = 0 by omega)] | (rw [if_neg (show ¬ t.2 = 0 by omega)]; exact hpc)
                            · have := hNP q
                              rw [this.1, this.2.1] at hH
                              exact hH
                        · refine r_aload_n (pc' := 100) X 0 dX7_firstError_99 rfl rfl rfl ?_
                          refine gf_27_position (pc' := 103) X gw_223 dX7_firstError_100 rfl ?_
                          refine r_aload_n (pc' := 104) X 0 dX7_firstError_103 rfl rfl rfl ?_
                          refine gf_27_length (pc' := 107) X gw_217 dX7_firstError_104 rfl ?_
                          refine r_icmp_ge (pc' := 110) (tgt := 120) X dX7_firstError_107 rfl rfl (by omega) (by omega) (fun h107 => ?_) (fun h107 => ?_)
                          · have hE : rdE (M 27 1) L = (t, gt) := by
                              rw [hgG]
                              by_cases q : t.2 = 0 ∧ t.1 < L
                              · rw [show 200 - g = 0 by omega]; rfl
                              · exact gG_stop q
                            refine r_aload_n (pc' := 121) X 0 dX7_firstError_120 rfl rfl rfl ?_
                            refine gf_27_wrong (pc' := 124) X gw_224 dX7_firstError_121 rfl ?_
                            refine r_if_eq (pc' := 127) (tgt := 134) X dX7_firstError_124 rfl rfl (by omega) (fun h124 => ?_) (fun h124 => ?_)
                            · refine r_bipush (pc' := 136) X dX7_firstError_134 rfl rfl ?_
                              refine w_iret X hr dX7_firstError_136 ?_
                              try dsimp only
                              rw [hE]
                              refine ⟨?_, hz, hH.1, hH.2.1, hH.2.2.1, fun q => ⟨?_, hgt⟩⟩
                              · dsimp only
                                first | (exfalso; omega) | rw [if_pos (show t.2 = 0 by omega)] | (rw [if_neg (show ¬ t.2 = 0 by omega)]; exact hpc)
                              · have := hNP q
                                rw [this.1, this.2.1] at hH
                                exact hH
                            · refine r_aload_n (pc' := 128) X 0 dX7_firstError_127 rfl rfl rfl ?_
                              refine gf_27_position (pc' := 131) X gw_223 dX7_firstError_128 rfl ?_
                              refine r_goto (tgt := 136) X dX7_firstError_131 rfl ?_
                              refine w_iret X hr dX7_firstError_136 ?_
                              try dsimp only
                              rw [hE]
                              refine ⟨?_, hz, hH.1, hH.2.1, hH.2.2.1, fun q => ⟨?_, hgt⟩⟩
                              · dsimp only
                                first | (exfalso; omega) | rw [if_pos (show t.2 = 0 by omega)] | (rw [if_neg (show ¬ t.2 = 0 by omega)]; exact hpc)
                              · have := hNP q
                                rw [this.1, this.2.1] at hH
                                exact hH
                          · have ht0 : t.2 = 0 := by omega
                            have ht1 : t.1 < L := by omega
                            have hn1 := rdS_0 (hNP ht0).2.2
                            refine r_aload_n (pc' := 111) X 0 dX7_firstError_110 rfl rfl rfl ?_
                            refine w_callv (pc' := 114) (st := []) (w_runV X (c_X7_takeGain l G Mc (rdN (M 27 1) L) (rdP (M 27 1) L) L t hNc (⟨hn1.1, hn4⟩) hPc (⟨hn1.2, hp3⟩) hz) cf_X7_takeGain k27_0 rfl gw_366 gp_7 rfl rfl ⟨Nat.le_of_ble_eq_true rfl, Nat.le_of_ble_eq_true rfl⟩ rfl rfl (Nat.le_of_ble_eq_true rfl) ⟨Nat.le_of_ble_eq_true rfl, Nat.le_of_ble_eq_true rfl⟩ gw_364 dX7_firstError_111) rfl (fun M12 h111 => ?_)
                            rw [hcc] at h111
                            have hz2 : TxOk (M12 27) L (gV (M 27 1) L (rdN (M 27 1) L) (rdP (M 27 1) L) t).2 := by rw [h111]; exact setS_ok (s := t) (by rw [wu_o (by decide)]; exact hz) (gV_ok hz.2.2.2.2.1)
                            have hgi := pD_bd (ch := M 27 1) (L := L) (a := 0) (b := ((rdN (M 27 1) L) : Int) - 1) (s := pC (M 27 1) L 103 103 t) (by decide) (by omega)
                            have hH2 : TxF M M12 L (rdN (M 27 1) L) (rdP (M 27 1) L) ((hdB (M 27 1) L (0, 0)).1) ((hdH (M 27 1) L (0, 0)).1) (rdS (M 27 1) L) i k := TxF_keep hH (fun a a1 a2 => by rw [h111, setS_o a2, wu_o a1]) (by rw [h111, setS_1, wu_o (by decide)]) (fun b hb => by rw [h111, setS_ne (by omega), wu_ne]; intro q; apply hb; rw [q.2]; unfold gI; omega)
                            have hgt2 : ∀ x y, x < 4 → y < 3 → M12 2 (6 + x) y = gUp (M 27 1) L (rdN (M 27 1) L) (rdP (M 27 1) L) t gt x y := fun x y hx hy => by
                              rw [h111, setS_o (by decide)]
                              unfold wu gUp
                              by_cases c : x = (gI (M 27 1) L (rdN (M 27 1) L) t).1.toNat ∧ y = (gK (M 27 1) L (rdN (M 27 1) L) (rdP (M 27 1) L) t).1.toNat
                              · rw [if_pos c, if_pos ⟨rfl, by omega, c.2⟩]
                              · rw [if_neg c, if_neg (fun q => c ⟨by omega, q.2.2⟩)]
                                exact hgt x y hx hy
                            refine r_iinc (pc' := 117) (z' := ((g + 1 : Nat) : Int)) (lc' := [(0, vR G (27, 0)), (1, vI ((g + 1 : Nat) : Int))]) X 1 [1, 0] dX7_firstError_114 rfl (by omega) (by decide) rfl rfl ?_
                            refine r_goto (tgt := 85) X dX7_firstError_117 rfl ?_
                            exact ih85 (g + 1) ((gV (M 27 1) L (rdN (M 27 1) L) (rdP (M 27 1) L) t).2) (gUp (M 27 1) L (rdN (M 27 1) L) (rdP (M 27 1) L) t gt) M12 (by omega) (by omega) (by rw [hgG, show 200 - g = (200 - (g + 1)) + 1 by omega]; exact gG_s ⟨ht0, ht1⟩) hz2 hH2 hgt2 (fun _ => hNP ht0)
                  exact L85 ((200 - 0) + 1) 0 (sO (M 27 1) L (rdN (M 27 1) L) (sS (M 27 1) L (rdN (M 27 1) L) (rdS (M 27 1) L) (rdN (M 27 1) L)) k) (fun _ _ => 0) M11 (Nat.lt_succ_self _) (by omega) (by unfold rdE rdO; rw [hO]) hz0 hK (fun x y hx hy => h80.2 x y hx hy) hNP0
                · refine r_aload_n (pc' := 66) X 0 dX7_firstError_65 rfl rfl rfl ?_
                  refine r_iload_n (pc' := 67) X 1 dX7_firstError_66 rfl rfl rfl ?_
                  refine w_callv (pc' := 70) (st := []) (w_runV X (c_X7_takeOutput l G Mb k (rdN (M 27 1) L) L (sO (M 27 1) L (rdN (M 27 1) L) (sS (M 27 1) L (rdN (M 27 1) L) (rdS (M 27 1) L) (rdN (M 27 1) L)) k) hNb hn4 (by first | assumption | omega) hy) cf_X7_takeOutput k27_0 rfl gw_358 gp_6 rfl rfl ⟨Nat.le_of_ble_eq_true rfl, Nat.le_of_ble_eq_true rfl⟩ rfl rfl (Nat.le_of_ble_eq_true rfl) ⟨Nat.le_of_ble_eq_true rfl, Nat.le_of_ble_eq_true rfl⟩ gw_356 dX7_firstError_67) rfl (fun M13 h67 => ?_)
                  have hG2 : TxF M M13 L (rdN (M 27 1) L) (rdP (M 27 1) L) ((hdB (M 27 1) L (0, 0)).1) ((hdH (M 27 1) L (0, 0)).1) (rdS (M 27 1) L) i (k + 1) := TxF_out (by omega) (by omega) hG rfl h67
                  have hy2 : TxOk (M13 27) L (sO (M 27 1) L (rdN (M 27 1) L) (sS (M 27 1) L (rdN (M 27 1) L) (rdS (M 27 1) L) (rdN (M 27 1) L)) (k + 1)) := by rw [h67, hcb]; exact setS_ok (s := (sO (M 27 1) L (rdN (M 27 1) L) (sS (M 27 1) L (rdN (M 27 1) L) (rdS (M 27 1) L) (rdN (M 27 1) L)) k)) (by rw [wu_o (by decide), wr_o (by decide)]; exact hy) (sO_ok (sS_ok rdS_ok _) (k + 1))
                  refine r_iinc (pc' := 73) (z' := ((k + 1 : Nat) : Int)) (lc' := [(0, vR G (27, 0)), (1, vI ((k + 1 : Nat) : Int))]) X 1 [1, 0] dX7_firstError_70 rfl (by omega) (by decide) rfl rfl ?_
                  refine r_goto (tgt := 47) X dX7_firstError_73 rfl ?_
                  exact ih47 (k + 1) M13 (by omega) (by omega) hG2 hy2
          exact L47 (((rdP (M 27 1) L) - 0) + 1) 0 Ma (Nat.lt_succ_self _) (by omega) hF (by show TxOk (Ma 27) L (sS (M 27 1) L (rdN (M 27 1) L) (rdS (M 27 1) L) (rdN (M 27 1) L)); rw [hS]; exact hx)
        · refine r_aload_n (pc' := 35) X 0 dX7_firstError_34 rfl rfl rfl ?_
          refine r_iload_n (pc' := 36) X 1 dX7_firstError_35 rfl rfl rfl ?_
          refine w_callv (pc' := 39) (st := []) (w_runV X (c_X7_takeState l G Ma i (rdN (M 27 1) L) L (sS (M 27 1) L (rdN (M 27 1) L) (rdS (M 27 1) L) i) hNa hn4 (by first | assumption | omega) hx) cf_X7_takeState k27_0 rfl gw_350 gp_4 rfl rfl ⟨Nat.le_of_ble_eq_true rfl, Nat.le_of_ble_eq_true rfl⟩ rfl rfl (Nat.le_of_ble_eq_true rfl) ⟨Nat.le_of_ble_eq_true rfl, Nat.le_of_ble_eq_true rfl⟩ gw_348 dX7_firstError_36) rfl (fun M14 h36 => ?_)
          have hF2 : TxF M M14 L (rdN (M 27 1) L) (rdP (M 27 1) L) ((hdB (M 27 1) L (0, 0)).1) ((hdH (M 27 1) L (0, 0)).1) (rdS (M 27 1) L) (i + 1) 0 := TxF_state hn4 (by omega) hF rfl h36
          have hx2 : TxOk (M14 27) L (sS (M 27 1) L (rdN (M 27 1) L) (rdS (M 27 1) L) (i + 1)) := by rw [h36, hca]; exact setS_ok (s := (sS (M 27 1) L (rdN (M 27 1) L) (rdS (M 27 1) L) i)) (by rw [wu_o (by decide), wu_o (by decide), wr_o (by decide)]; exact hx) (sS_ok rdS_ok (i + 1))
          refine r_iinc (pc' := 42) (z' := ((i + 1 : Nat) : Int)) (lc' := [(0, vR G (27, 0)), (1, vI ((i + 1 : Nat) : Int))]) X 1 [1, 0] dX7_firstError_39 rfl (by omega) (by decide) rfl rfl ?_
          refine r_goto (tgt := 16) X dX7_firstError_42 rfl ?_
          exact ih16 (i + 1) M14 (by omega) (by omega) hF2 hx2
  exact L16 (((rdN (M 27 1) L) - 0) + 1) 0 M3 (Nat.lt_succ_self _) (by omega) hF0 hx0
