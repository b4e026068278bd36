theorem cf_X9_about : wCal yX9_about cX9_about 2 (some .int) 1 := ⟨gw_1143, gw_10, by decide, by decide, by rfl⟩
set_option maxRecDepth 100000 in
set_option maxHeartbeats 4000000 in
theorem c_X9_about (l : Launch) (G : wG) (M : wM) (N P : Nat) (pv : Nat → Nat → Int) (hp : PlOk pv N P) (hq : PEq N P pv (M 29)) (w : Nat → Nat → Int) (T : Int) (hm : MoOk w N P T) (hT6 : T ≤ 1000000) (hv : REq N P w (M 29 13)) (q0 : Int) (hq0 : rI q0) : Met l yX9_about (gws yX9_about cX9_about 2 (some .int)) (wrm 1 0 0) (wPc G M [vR G (29, 0), vI q0]) (wQi G (fun z M1 => (M1 29 0 0 = 0 ∧ RScr M M1 ∧ (0 ≤ q0 ∧ q0 ≤ 4) ∧ z = aboutF N P w q0) ∨ (M1 29 0 0 = 1 ∧ RScr M M1 ∧ ¬ (0 ≤ q0 ∧ q0 ≤ 4)))) 0 0 (wA G) := by
  refine wMet (lc := [(0, vR G (29, 0)), (1, vI q0)]) (by decide) (Nat.le_of_ble_eq_true rfl) rfl ?_
  intro p e s m args below meth c X hr
  have X : wX p s m args meth c G 2 "StateObserverModel" cX9_about := X
  obtain ⟨hN, hN1, hN4, hP, hP1, hP3, hA, hB, hE, hC, hQ⟩ := id hp
  obtain ⟨qN, qP, qA, qB, qE, qC, qQ⟩ := id hq
  obtain ⟨hT, hL, hU, hS, hG, hY, hAg, hHo, hBo, hTi, hLi, hLb, hLl, hLh⟩ := id hm
  obtain ⟨v1, v2, v3, v28, v29, v30, v38, v39, v37⟩ := id hv
  refine r_aload_n (pc' := 1) X 0 dX9_about_0 rfl rfl rfl ?_
  refine r_iload_n (pc' := 2) X 1 dX9_about_1 rfl rfl rfl ?_
  refine r_i2l (pc' := 3) X dX9_about_2 (by omega) rfl ?_
  refine r_lconst (pc' := 4) (z := 0) X dX9_about_3 rfl rfl ?_
  refine r_ldc2 (pc' := 7) (z := 4) X gw_1144 dX9_about_4 rfl rfl ?_
  refine w_calli (pc' := 10) (st := [vR G (29, 0)]) (w_runS X (c_X9_in l G M q0 0 4 (by first | assumption | omega) (by first | assumption | omega) (by first | assumption | omega)) cf_X9_in gw_1083 rfl rfl ⟨Nat.le_of_ble_eq_true rfl, Nat.le_of_ble_eq_true rfl⟩ rfl rfl (Nat.le_of_ble_eq_true rfl) ⟨Nat.le_of_ble_eq_true rfl, Nat.le_of_ble_eq_true rfl⟩ gw_1082 dX9_about_7) rfl (fun z7 M1 h7 => ?_)
  have hz7 := h7.1
  obtain rfl := h7.2.symm
  have hi7 : z7 = 0 ∨ z7 = 1 := by rw [hz7]; split <;> omega
  have hq7 : z7 = 1 ↔ (0 ≤ q0 ∧ q0 ≤ 4) := by rw [hz7]; split <;> omega
  refine r_if_eq (pc' := 13) (tgt := 17) X dX9_about_10 rfl rfl (by omega) (fun h10 => ?_) (fun h10 => ?_)
  · refine r_iconst (pc' := 18) X dX9_about_17 rfl ?_
    refine w_calli (pc' := 21) (st := []) (w_runV X (c_X9_refused l G M 1 (by first | assumption | omega)) cf_X9_refused k29_0 rfl gw_1087 gp_25 rfl rfl ⟨Nat.le_of_ble_eq_true rfl, Nat.le_of_ble_eq_true rfl⟩ rfl rfl (Nat.le_of_ble_eq_true rfl) ⟨Nat.le_of_ble_eq_true rfl, Nat.le_of_ble_eq_true rfl⟩ gw_1085 dX9_about_18) rfl (fun z18 M2 h18 => ?_)
    have hz18 : z18 = 1 := by rw [h18.1]; rfl
    have ew18 : ∀ a b x, ¬ (a = 29 ∧ b = 0 ∧ x = 0) → M2 a b x = M a b x := fun a b x q => by rw [h18.2]; unfold wu; rw [if_neg q]
    have er18 : M2 29 0 0 = 1 := by rw [h18.2]; unfold wu; rw [if_pos ⟨rfl, rfl, rfl⟩]
    have sc18 : RScr M M2 := fun a b x q => ew18 a b x (by omega)
    have qq18 : PEq N P pv (M2 29) := hq.keep (fun b x q => ew18 29 b x (by omega))
    have n13 : M2 29 13 = M 29 13 := funext fun x => ew18 29 13 x (by omega)
    have qN2 := qq18.1
    have qP2 := qq18.2.1
    refine r_if_eq (pc' := 24) (tgt := 26) X dX9_about_21 rfl rfl (by omega) (fun h21 => by exfalso; omega) (fun h21 => ?_)
    refine r_iconst (pc' := 25) X dX9_about_24 rfl ?_
    refine w_iret X hr dX9_about_25 ?_
    try dsimp only
    exact (Or.inr ⟨er18, sc18, by omega⟩)
  · refine r_iconst (pc' := 14) X dX9_about_13 rfl ?_
    refine r_goto (tgt := 18) X dX9_about_14 rfl ?_
    refine w_calli (pc' := 21) (st := []) (w_runV X (c_X9_refused l G M 0 (by first | assumption | omega)) cf_X9_refused k29_0 rfl gw_1087 gp_25 rfl rfl ⟨Nat.le_of_ble_eq_true rfl, Nat.le_of_ble_eq_true rfl⟩ rfl rfl (Nat.le_of_ble_eq_true rfl) ⟨Nat.le_of_ble_eq_true rfl, Nat.le_of_ble_eq_true rfl⟩ gw_1085 dX9_about_18) rfl (fun z18 M3 h18 => ?_)
    have hz18 : z18 = 0 := by rw [h18.1]; rfl
    have ew18 : ∀ a b x, ¬ (a = 29 ∧ b = 0 ∧ x = 0) → M3 a b x = M a b x := fun a b x q => by rw [h18.2]; unfold wu; rw [if_neg q]
    have er18 : M3 29 0 0 = 0 := by rw [h18.2]; unfold wu; rw [if_pos ⟨rfl, rfl, rfl⟩]
    have sc18 : RScr M M3 := fun a b x q => ew18 a b x (by omega)
    have qq18 : PEq N P pv (M3 29) := hq.keep (fun b x q => ew18 29 b x (by omega))
    have n13 : M3 29 13 = M 29 13 := funext fun x => ew18 29 13 x (by omega)
    have qN2 := qq18.1
    have qP2 := qq18.2.1
    refine r_if_eq (pc' := 24) (tgt := 26) X dX9_about_21 rfl rfl (by omega) (fun h21 => ?_) (fun h21 => by exfalso; omega)
    refine r_iload_n (pc' := 27) X 1 dX9_about_26 rfl rfl rfl ?_
    refine r_if_ne (pc' := 30) (tgt := 37) X dX9_about_27 rfl rfl (by omega) (fun h27 => ?_) (fun h27 => ?_)
    · refine r_iload_n (pc' := 38) X 1 dX9_about_37 rfl rfl rfl ?_
      refine r_iconst (pc' := 39) X dX9_about_38 rfl ?_
      refine r_icmp_ne (pc' := 42) (tgt := 49) X dX9_about_39 rfl rfl (by omega) (by omega) (fun h39 => ?_) (fun h39 => ?_)
      · refine r_iload_n (pc' := 50) X 1 dX9_about_49 rfl rfl rfl ?_
        refine r_iconst (pc' := 51) X dX9_about_50 rfl ?_
        refine r_icmp_ne (pc' := 54) (tgt := 64) X dX9_about_51 rfl rfl (by omega) (by omega) (fun h51 => ?_) (fun h51 => ?_)
        · refine r_iload_n (pc' := 65) X 1 dX9_about_64 rfl rfl rfl ?_
          refine r_iconst (pc' := 66) X dX9_about_65 rfl ?_
          refine r_icmp_ne (pc' := 69) (tgt := 79) X dX9_about_66 rfl rfl (by omega) (by omega) (fun h66 => ?_) (fun h66 => ?_)
          · refine r_aload_n (pc' := 80) X 0 dX9_about_79 rfl rfl rfl ?_
            refine gf_29_now (pc' := 83) X gw_987 dX9_about_80 rfl ?_
            refine r_bipush (pc' := 85) X dX9_about_83 rfl rfl ?_
            refine r_iald (i := 30) (pc' := 86) X k29_13 (by omega) (by omega) (by decide) dX9_about_85 rfl ?_
            refine w_iret X hr dX9_about_86 ?_
            try dsimp only
            refine Or.inl ⟨er18, sc18, by omega, ?_⟩
            unfold aboutF
            first
              | rw [if_pos (by omega)]; exact qN2
              | rw [if_neg (by omega), if_pos (by omega)]; exact qP2
              | rw [if_neg (by omega), if_neg (by omega), if_pos (by omega), n13]; exact v29
              | rw [if_neg (by omega), if_neg (by omega), if_neg (by omega), if_pos (by omega), n13]; exact v28
              | rw [if_neg (by omega), if_neg (by omega), if_neg (by omega), if_neg (by omega), n13]; exact v30
          · refine r_aload_n (pc' := 70) X 0 dX9_about_69 rfl rfl rfl ?_
            refine gf_29_now (pc' := 73) X gw_987 dX9_about_70 rfl ?_
            refine r_bipush (pc' := 75) X dX9_about_73 rfl rfl ?_
            refine r_iald (i := 28) (pc' := 76) X k29_13 (by omega) (by omega) (by decide) dX9_about_75 rfl ?_
            refine r_goto (tgt := 86) X dX9_about_76 rfl ?_
            refine w_iret X hr dX9_about_86 ?_
            try dsimp only
            refine Or.inl ⟨er18, sc18, by omega, ?_⟩
            unfold aboutF
            first
              | rw [if_pos (by omega)]; exact qN2
              | rw [if_neg (by omega), if_pos (by omega)]; exact qP2
              | rw [if_neg (by omega), if_neg (by omega), if_pos (by omega), n13]; exact v29
              | rw [if_neg (by omega), if_neg (by omega), if_neg (by omega), if_pos (by omega), n13]; exact v28
              | rw [if_neg (by omega), if_neg (by omega), if_neg (by omega), if_neg (by omega), n13]; exact v30
        · refine r_aload_n (pc' := 55) X 0 dX9_about_54 rfl rfl rfl ?_
          refine gf_29_now (pc' := 58) X gw_987 dX9_about_55 rfl ?_
          refine r_bipush (pc' := 60) X dX9_about_58 rfl rfl ?_
          refine r_iald (i := 29) (pc' := 61) X k29_13 (by omega) (by omega) (by decide) dX9_about_60 rfl ?_
          refine r_goto (tgt := 86) X dX9_about_61 rfl ?_
          refine w_iret X hr dX9_about_86 ?_
          try dsimp only
          refine Or.inl ⟨er18, sc18, by omega, ?_⟩
          unfold aboutF
          first
            | rw [if_pos (by omega)]; exact qN2
            | rw [if_neg (by omega), if_pos (by omega)]; exact qP2
            | rw [if_neg (by omega), if_neg (by omega), if_pos (by omega), n13]; exact v29
            | rw [if_neg (by omega), if_neg (by omega), if_neg (by omega), if_pos (by omega), n13]; exact v28
            | rw [if_neg (by omega), if_neg (by omega), if_neg (by omega), if_neg (by omega), n13]; exact v30
      · refine r_aload_n (pc' := 43) X 0 dX9_about_42 rfl rfl rfl ?_
        refine gf_29_outputs (pc' := 46) X gw_973 dX9_about_43 rfl ?_
        refine r_goto (tgt := 86) X dX9_about_46 rfl ?_
        refine w_iret X hr dX9_about_86 ?_
        try dsimp only
        refine Or.inl ⟨er18, sc18, by omega, ?_⟩
        unfold aboutF
        first
          | rw [if_pos (by omega)]; exact qN2
          | rw [if_neg (by omega), if_pos (by omega)]; exact qP2
          | rw [if_neg (by omega), if_neg (by omega), if_pos (by omega), n13]; exact v29
          | rw [if_neg (by omega), if_neg (by omega), if_neg (by omega), if_pos (by omega), n13]; exact v28
          | rw [if_neg (by omega), if_neg (by omega), if_neg (by omega), if_neg (by omega), n13]; exact v30
    · refine r_aload_n (pc' := 31) X 0 dX9_about_30 rfl rfl rfl ?_
      refine gf_29_states (pc' := 34) X gw_972 dX9_about_31 rfl ?_
      refine r_goto (tgt := 86) X dX9_about_34 rfl ?_
      refine w_iret X hr dX9_about_86 ?_
      try dsimp only
      refine Or.inl ⟨er18, sc18, by omega, ?_⟩
      unfold aboutF
      first
        | rw [if_pos (by omega)]; exact qN2
        | rw [if_neg (by omega), if_pos (by omega)]; exact qP2
        | rw [if_neg (by omega), if_neg (by omega), if_pos (by omega), n13]; exact v29
        | rw [if_neg (by omega), if_neg (by omega), if_neg (by omega), if_pos (by omega), n13]; exact v28
        | rw [if_neg (by omega), if_neg (by omega), if_neg (by omega), if_neg (by omega), n13]; exact v30
theorem cf_X9_state : wCal yX9_state cX9_state 6 (some .int) 2 := ⟨gw_1161, gw_10, by decide, by decide, by rfl⟩
set_option maxRecDepth 100000 in
set_option maxHeartbeats 4000000 in
theorem c_X9_state (l : Launch) (G : wG) (M : wM) (N P : Nat) (pv : Nat → Nat → Int) (hp : PlOk pv N P) (hq : PEq N P pv (M 29)) (w : Nat → Nat → Int) (T : Int) (hm : MoOk w N P T) (hT6 : T ≤ 1000000) (hv : REq N P w (M 29 13)) (hbx : BoxOk N (w 2) (w 3)) (i q0 : Int) (hi : rI i) (hq0 : rI q0) : Met l yX9_state (gws yX9_state cX9_state 6 (some .int)) (wrm 2 0 0) (wPc G M [vR G (29, 0), vI i, vI q0]) (wQi G (fun z M1 => (M1 29 0 0 = 0 ∧ RScr M M1 ∧ (0 ≤ i ∧ i < N) ∧ (0 ≤ q0 ∧ q0 ≤ 4) ∧ z = stateF w i.toNat q0) ∨ (M1 29 0 0 = 1 ∧ RScr M M1 ∧ ¬ (0 ≤ i ∧ i < N)) ∨ (M1 29 0 0 = 2 ∧ RScr M M1 ∧ (0 ≤ i ∧ i < N) ∧ ¬ (0 ≤ q0 ∧ q0 ≤ 4)))) 0 0 (wA G) := by
  refine wMet (lc := [(0, vR G (29, 0)), (1, vI i), (2, vI q0)]) (by decide) (Nat.le_of_ble_eq_true rfl) rfl ?_
  intro p e s m args below meth c X hr
  have X : wX p s m args meth c G 6 "StateObserverModel" cX9_state := X
  obtain ⟨hN, hN1, hN4, hP, hP1, hP3, hA, hB, hE, hC, hQ⟩ := id hp
  obtain ⟨qN, qP, qA, qB, qE, qC, qQ⟩ := id hq
  obtain ⟨hT, hL, hU, hS, hG, hY, hAg, hHo, hBo, hTi, hLi, hLb, hLl, hLh⟩ := id hm
  obtain ⟨v1, v2, v3, v28, v29, v30, v38, v39, v37⟩ := id hv
  refine r_aload_n (pc' := 1) X 0 dX9_state_0 rfl rfl rfl ?_
  refine r_aload_n (pc' := 2) X 0 dX9_state_1 rfl rfl rfl ?_
  refine r_iload_n (pc' := 3) X 1 dX9_state_2 rfl rfl rfl ?_
  refine w_calli (pc' := 6) (st := [vR G (29, 0)]) (w_runV X (c_X9_isState l G M N P pv (by first | assumption | omega) (by first | assumption | omega) i (by first | assumption | omega)) cf_X9_isState k29_0 rfl gw_1156 gp_36 rfl rfl ⟨Nat.le_of_ble_eq_true rfl, Nat.le_of_ble_eq_true rfl⟩ rfl rfl (Nat.le_of_ble_eq_true rfl) ⟨Nat.le_of_ble_eq_true rfl, Nat.le_of_ble_eq_true rfl⟩ gw_1154 dX9_state_3) rfl (fun z3 M1 h3 => ?_)
  have hz3 := h3.1
  obtain rfl := h3.2.symm
  have hi3 : z3 = 0 ∨ z3 = 1 := by rw [hz3]; split <;> omega
  have hq3 : z3 = 1 ↔ (0 ≤ i ∧ i < N) := by rw [hz3]; split <;> omega
  refine r_if_ne (pc' := 9) (tgt := 13) X dX9_state_6 rfl rfl (by omega) (fun h6 => ?_) (fun h6 => ?_)
  · refine r_iload_n (pc' := 14) X 2 dX9_state_13 rfl rfl rfl ?_
    refine r_i2l (pc' := 15) X dX9_state_14 (by omega) rfl ?_
    refine r_lconst (pc' := 16) (z := 0) X dX9_state_15 rfl rfl ?_
    refine r_ldc2 (pc' := 19) (z := 4) X gw_1144 dX9_state_16 rfl rfl ?_
    refine w_calli (pc' := 22) (st := [vR G (29, 0)]) (w_runS X (c_X9_in l G M q0 0 4 (by first | assumption | omega) (by first | assumption | omega) (by first | assumption | omega)) cf_X9_in gw_1083 rfl rfl ⟨Nat.le_of_ble_eq_true rfl, Nat.le_of_ble_eq_true rfl⟩ rfl rfl (Nat.le_of_ble_eq_true rfl) ⟨Nat.le_of_ble_eq_true rfl, Nat.le_of_ble_eq_true rfl⟩ gw_1082 dX9_state_19) rfl (fun z19 M2 h19 => ?_)
    have hz19 := h19.1
    obtain rfl := h19.2.symm
    have hi19 : z19 = 0 ∨ z19 = 1 := by rw [hz19]; split <;> omega
    have hq19 : z19 = 1 ↔ (0 ≤ q0 ∧ q0 ≤ 4) := by rw [hz19]; split <;> omega
    refine r_if_ne (pc' := 25) (tgt := 29) X dX9_state_22 rfl rfl (by omega) (fun h22 => ?_) (fun h22 => ?_)
    · refine r_iconst (pc' := 30) X dX9_state_29 rfl ?_
      refine w_calli (pc' := 33) (st := []) (w_runV X (c_X9_refused l G M 0 (by first | assumption | omega)) cf_X9_refused k29_0 rfl gw_1087 gp_25 rfl rfl ⟨Nat.le_of_ble_eq_true rfl, Nat.le_of_ble_eq_true rfl⟩ rfl rfl (Nat.le_of_ble_eq_true rfl) ⟨Nat.le_of_ble_eq_true rfl, Nat.le_of_ble_eq_true rfl⟩ gw_1085 dX9_state_30) rfl (fun z30 M3 h30 => ?_)
      have hz30 : z30 = 0 := by rw [h30.1]; rfl
      have ew30 : ∀ a b x, ¬ (a = 29 ∧ b = 0 ∧ x = 0) → M3 a b x = M a b x := fun a b x q => by rw [h30.2]; unfold wu; rw [if_neg q]
      have er30 : M3 29 0 0 = 0 := by rw [h30.2]; unfold wu; rw [if_pos ⟨rfl, rfl, rfl⟩]
      have sc30 : RScr M M3 := fun a b x q => ew30 a b x (by omega)
      have qq30 : PEq N P pv (M3 29) := hq.keep (fun b x q => ew30 29 b x (by omega))
      have n13 : M3 29 13 = M 29 13 := funext fun x => ew30 29 13 x (by omega)
      have qN2 := qq30.1
      have qP2 := qq30.2.1
      refine r_if_eq (pc' := 36) (tgt := 38) X dX9_state_33 rfl rfl (by omega) (fun h33 => ?_) (fun h33 => by exfalso; omega)
      refine r_iload_n (pc' := 39) X 2 dX9_state_38 rfl rfl rfl ?_
      refine r_iconst (pc' := 40) X dX9_state_39 rfl ?_
      refine r_icmp_ge (pc' := 43) (tgt := 54) X dX9_state_40 rfl rfl (by omega) (by omega) (fun h40 => ?_) (fun h40 => ?_)
      · have vi := v1 i.toNat (by omega)
        have ri2 := hL i.toNat (by omega)
        have ri3 := hU i.toNat (by omega)
        have ri4 := hS i.toNat (by omega)
        have rib := hbx i.toNat (by omega)
        rw [← n13] at vi
        refine r_bipush (pc' := 56) X dX9_state_54 rfl rfl ?_
        refine r_aload_n (pc' := 57) X 0 dX9_state_56 rfl rfl rfl ?_
        refine gf_29_now (pc' := 60) X gw_987 dX9_state_57 rfl ?_
        refine r_iconst (pc' := 61) X dX9_state_60 rfl ?_
        refine r_iload_n (pc' := 62) X 1 dX9_state_61 rfl rfl rfl ?_
        refine r_iadd (pc' := 63) X dX9_state_62 rfl ?_
        refine r_iald (i := (4 + i.toNat)) (pc' := 64) X k29_13 (by omega) (by omega) (by decide) dX9_state_63 rfl ?_
        refine r_imul (pc' := 65) X dX9_state_64 rfl ?_
        refine r_istore_n (pc' := 66) (lc' := [(0, vR G (29, 0)), (1, vI i), (2, vI q0), (3, vI (16 * (M3 29 13 (4 + i.toNat))))]) X [1, 2, 3, 0] dX9_state_65 rfl (by decide) rfl rfl ?_
        refine r_bipush (pc' := 68) X dX9_state_66 rfl rfl ?_
        refine r_aload_n (pc' := 69) X 0 dX9_state_68 rfl rfl rfl ?_
        refine gf_29_now (pc' := 72) X gw_987 dX9_state_69 rfl ?_
        refine r_bipush (pc' := 74) X dX9_state_72 rfl rfl ?_
        refine r_iload_n (pc' := 75) X 1 dX9_state_74 rfl rfl rfl ?_
        refine r_iadd (pc' := 76) X dX9_state_75 rfl ?_
        refine r_iald (i := (8 + i.toNat)) (pc' := 77) X k29_13 (by omega) (by omega) (by decide) dX9_state_76 rfl ?_
        refine r_imul (pc' := 78) X dX9_state_77 rfl ?_
        refine r_istore (pc' := 80) (lc' := [(0, vR G (29, 0)), (1, vI i), (2, vI q0), (3, vI (16 * (M3 29 13 (4 + i.toNat)))), (4, vI (16 * (M3 29 13 (8 + i.toNat))))]) X [1, 2, 3, 4, 0] dX9_state_78 (by decide) rfl rfl ?_
        refine r_aload_n (pc' := 81) X 0 dX9_state_80 rfl rfl rfl ?_
        refine gf_29_now (pc' := 84) X gw_987 dX9_state_81 rfl ?_
        refine r_bipush (pc' := 86) X dX9_state_84 rfl rfl ?_
        refine r_iload_n (pc' := 87) X 1 dX9_state_86 rfl rfl rfl ?_
        refine r_iadd (pc' := 88) X dX9_state_87 rfl ?_
        refine r_iald (i := (12 + i.toNat)) (pc' := 89) X k29_13 (by omega) (by omega) (by decide) dX9_state_88 rfl ?_
        refine r_istore (pc' := 91) (lc' := [(0, vR G (29, 0)), (1, vI i), (2, vI q0), (3, vI (16 * (M3 29 13 (4 + i.toNat)))), (4, vI (16 * (M3 29 13 (8 + i.toNat)))), (5, vI (M3 29 13 (12 + i.toNat)))]) X [1, 2, 3, 4, 5, 0] dX9_state_89 (by decide) rfl rfl ?_
        refine r_iload (pc' := 93) X 5 dX9_state_91 rfl rfl ?_
        refine r_iload_n (pc' := 94) X 3 dX9_state_93 rfl rfl rfl ?_
        refine r_icmp_ge (pc' := 97) (tgt := 101) X dX9_state_94 rfl rfl (by omega) (by omega) (fun h94 => ?_) (fun h94 => ?_)
        · refine r_iload (pc' := 103) X 5 dX9_state_101 rfl rfl ?_
          refine r_iload (pc' := 105) X 4 dX9_state_103 rfl rfl ?_
          refine r_icmp_le (pc' := 108) (tgt := 113) X dX9_state_105 rfl rfl (by omega) (by omega) (fun h105 => ?_) (fun h105 => ?_)
          · refine r_iload (pc' := 115) X 5 dX9_state_113 rfl rfl ?_
            refine w_iret X hr dX9_state_115 ?_
            try dsimp only
            refine Or.inl ⟨er30, sc30, by omega, by omega, ?_⟩
            rw [show q0 = 4 by omega, stF_4]
            omega
          · refine r_iload (pc' := 110) X 4 dX9_state_108 rfl rfl ?_
            refine r_goto (tgt := 115) X dX9_state_110 rfl ?_
            refine w_iret X hr dX9_state_115 ?_
            try dsimp only
            refine Or.inl ⟨er30, sc30, by omega, by omega, ?_⟩
            rw [show q0 = 4 by omega, stF_4]
            omega
        · refine r_iload_n (pc' := 98) X 3 dX9_state_97 rfl rfl rfl ?_
          refine r_goto (tgt := 115) X dX9_state_98 rfl ?_
          refine w_iret X hr dX9_state_115 ?_
          try dsimp only
          refine Or.inl ⟨er30, sc30, by omega, by omega, ?_⟩
          rw [show q0 = 4 by omega, stF_4]
          omega
      · refine r_aload_n (pc' := 44) X 0 dX9_state_43 rfl rfl rfl ?_
        refine gf_29_now (pc' := 47) X gw_987 dX9_state_44 rfl ?_
        refine r_iconst (pc' := 48) X dX9_state_47 rfl ?_
        refine r_iload_n (pc' := 49) X 2 dX9_state_48 rfl rfl rfl ?_
        refine r_imul (pc' := 50) X dX9_state_49 rfl ?_
        refine r_iload_n (pc' := 51) X 1 dX9_state_50 rfl rfl rfl ?_
        refine r_iadd (pc' := 52) X dX9_state_51 rfl ?_
        refine r_iald (i := (4 * q0.toNat + i.toNat)) (pc' := 53) X k29_13 (by omega) (by omega) (by decide) dX9_state_52 rfl ?_
        refine w_iret X hr dX9_state_53 ?_
        try dsimp only
        refine Or.inl ⟨er30, sc30, by omega, by omega, ?_⟩
        have vi := v1 i.toNat (by omega)
        rw [n13]
        rcases (show q0 = 0 ∨ q0 = 1 ∨ q0 = 2 ∨ q0 = 3 by omega) with rfl | rfl | rfl | rfl
        · rw [stF_0, show 4 * (0 : Int).toNat + i.toNat = i.toNat from by omega]; exact vi.1
        · exact vi.2.1
        · exact vi.2.2.1
        · exact vi.2.2.2.1
    · refine r_iconst (pc' := 26) X dX9_state_25 rfl ?_
      refine r_goto (tgt := 30) X dX9_state_26 rfl ?_
      refine w_calli (pc' := 33) (st := []) (w_runV X (c_X9_refused l G M 2 (by first | assumption | omega)) cf_X9_refused k29_0 rfl gw_1087 gp_25 rfl rfl ⟨Nat.le_of_ble_eq_true rfl, Nat.le_of_ble_eq_true rfl⟩ rfl rfl (Nat.le_of_ble_eq_true rfl) ⟨Nat.le_of_ble_eq_true rfl, Nat.le_of_ble_eq_true rfl⟩ gw_1085 dX9_state_30) rfl (fun z30 M4 h30 => ?_)
      have hz30 : z30 = 1 := by rw [h30.1]; rfl
      have ew30 : ∀ a b x, ¬ (a = 29 ∧ b = 0 ∧ x = 0) → M4 a b x = M a b x := fun a b x q => by rw [h30.2]; unfold wu; rw [if_neg q]
      have er30 : M4 29 0 0 = 2 := by rw [h30.2]; unfold wu; rw [if_pos ⟨rfl, rfl, rfl⟩]
      have sc30 : RScr M M4 := fun a b x q => ew30 a b x (by omega)
      have qq30 : PEq N P pv (M4 29) := hq.keep (fun b x q => ew30 29 b x (by omega))
      have n13 : M4 29 13 = M 29 13 := funext fun x => ew30 29 13 x (by omega)
      have qN2 := qq30.1
      have qP2 := qq30.2.1
      refine r_if_eq (pc' := 36) (tgt := 38) X dX9_state_33 rfl rfl (by omega) (fun h33 => by exfalso; omega) (fun h33 => ?_)
      refine r_iconst (pc' := 37) X dX9_state_36 rfl ?_
      refine w_iret X hr dX9_state_37 ?_
      try dsimp only
      exact (Or.inr (Or.inr ⟨er30, sc30, by omega⟩))
  · refine r_iconst (pc' := 10) X dX9_state_9 rfl ?_
    refine r_goto (tgt := 30) X dX9_state_10 rfl ?_
    refine w_calli (pc' := 33) (st := []) (w_runV X (c_X9_refused l G M 1 (by first | assumption | omega)) cf_X9_refused k29_0 rfl gw_1087 gp_25 rfl rfl ⟨Nat.le_of_ble_eq_true rfl, Nat.le_of_ble_eq_true rfl⟩ rfl rfl (Nat.le_of_ble_eq_true rfl) ⟨Nat.le_of_ble_eq_true rfl, Nat.le_of_ble_eq_true rfl⟩ gw_1085 dX9_state_30) rfl (fun z30 M5 h30 => ?_)
    have hz30 : z30 = 1 := by rw [h30.1]; rfl
    have ew30 : ∀ a b x, ¬ (a = 29 ∧ b = 0 ∧ x = 0) → M5 a b x = M a b x := fun a b x q => by rw [h30.2]; unfold wu; rw [if_neg q]
    have er30 : M5 29 0 0 = 1 := by rw [h30.2]; unfold wu; rw [if_pos ⟨rfl, rfl, rfl⟩]
    have sc30 : RScr M M5 := fun a b x q => ew30 a b x (by omega)
    have qq30 : PEq N P pv (M5 29) := hq.keep (fun b x q => ew30 29 b x (by omega))
    have n13 : M5 29 13 = M 29 13 := funext fun x => ew30 29 13 x (by omega)
    have qN2 := qq30.1
    have qP2 := qq30.2.1
    refine r_if_eq (pc' := 36) (tgt := 38) X dX9_state_33 rfl rfl (by omega) (fun h33 => by exfalso; omega) (fun h33 => ?_)
    refine r_iconst (pc' := 37) X dX9_state_36 rfl ?_
    refine w_iret X hr dX9_state_37 ?_
    try dsimp only
    exact (Or.inr (Or.inl ⟨er30, sc30, by omega⟩))
theorem cf_X9_coefficient : wCal yX9_coefficient cX9_coefficient 6 (some .int) 3 := ⟨gw_1148, gw_10, by decide, by decide, by rfl⟩
set_option maxRecDepth 100000 in
set_option maxHeartbeats 4000000 in
theorem c_X9_coefficient (l : Launch) (G : wG) (M : wM) (N P : Nat) (pv : Nat → Nat → Int) (hp : PlOk pv N P) (hq : PEq N P pv (M 29)) (w : Nat → Nat → Int) (T : Int) (hm : MoOk w N P T) (hT6 : T ≤ 1000000) (hv : REq N P w (M 29 13)) (q0 i j : Int) (hq0 : rI q0) (hi : rI i) (hj0 : rI j) : Met l yX9_coefficient (gws yX9_coefficient cX9_coefficient 6 (some .int)) (wrm 2 0 0) (wPc G M [vR G (29, 0), vI q0, vI i, vI j]) (wQi G (fun z M1 => (M1 29 0 0 = 0 ∧ RScr M M1 ∧ (0 ≤ q0 ∧ q0 ≤ 5) ∧ (0 ≤ i ∧ i < (if q0 = 3 ∨ q0 = 4 then (P : Int) else N)) ∧ (0 ≤ j ∧ j < colsF N P q0) ∧ z = coefF pv w q0 i.toNat j.toNat) ∨ (M1 29 0 0 = 1 ∧ RScr M M1 ∧ (0 ≤ q0 ∧ q0 ≤ 5) ∧ ¬ ((0 ≤ i ∧ i < (if q0 = 3 ∨ q0 = 4 then (P : Int) else N)) ∧ (0 ≤ j ∧ j < colsF N P q0))) ∨ (M1 29 0 0 = 2 ∧ RScr M M1 ∧ ¬ (0 ≤ q0 ∧ q0 ≤ 5)))) 0 0 (wA G) := by
  refine wMet (lc := [(0, vR G (29, 0)), (1, vI q0), (2, vI i), (3, vI j)]) (by decide) (Nat.le_of_ble_eq_true rfl) rfl ?_
  intro p e s m args below meth c X hr
  have X : wX p s m args meth c G 6 "StateObserverModel" cX9_coefficient := X
  obtain ⟨hN, hN1, hN4, hP, hP1, hP3, hA, hB, hE, hC, hQ⟩ := id hp
  obtain ⟨qN, qP, qA, qB, qE, qC, qQ⟩ := id hq
  obtain ⟨hT, hL, hU, hS, hG, hY, hAg, hHo, hBo, hTi, hLi, hLb, hLl, hLh⟩ := id hm
  obtain ⟨v1, v2, v3, v28, v29, v30, v38, v39, v37⟩ := id hv
  obtain ⟨rb, hrb⟩ : ∃ x, x = (if q0 = 3 ∨ q0 = 4 then (P : Int) else N) := ⟨_, rfl⟩
  obtain ⟨cb, hcb⟩ : ∃ x, x = colsF N P q0 := ⟨_, rfl⟩
  have hrb1 : q0 = 3 ∨ q0 = 4 → rb = P := fun q => by rw [hrb, if_pos q]
  have hrb2 : ¬ (q0 = 3 ∨ q0 = 4) → rb = N := fun q => by rw [hrb, if_neg q]
  have hcb1 : q0 = 0 ∨ q0 = 3 → cb = N := fun q => by rw [hcb]; unfold colsF; rw [if_pos q]
  have hcb2 : q0 = 5 → cb = P := fun q => by rw [hcb]; unfold colsF; rw [if_neg (by omega), if_pos q]
  have hcb3 : ¬ (q0 = 0 ∨ q0 = 3 ∨ q0 = 5) → cb = 1 := fun q => by rw [hcb]; unfold colsF; rw [if_neg (by omega), if_neg (by omega)]
  rw [← hrb, ← hcb]
  refine r_aload_n (pc' := 1) X 0 dX9_coefficient_0 rfl rfl rfl ?_
  refine r_iload_n (pc' := 2) X 1 dX9_coefficient_1 rfl rfl rfl ?_
  refine r_i2l (pc' := 3) X dX9_coefficient_2 (by omega) rfl ?_
  refine r_lconst (pc' := 4) (z := 0) X dX9_coefficient_3 rfl rfl ?_
  refine r_ldc2 (pc' := 7) (z := 5) X gw_1149 dX9_coefficient_4 rfl rfl ?_
  refine w_calli (pc' := 10) (st := [vR G (29, 0)]) (w_runS X (c_X9_in l G M q0 0 5 (by first | assumption | omega) (by first | assumption | omega) (by first | assumption | omega)) cf_X9_in gw_1083 rfl rfl ⟨Nat.le_of_ble_eq_true rfl, Nat.le_of_ble_eq_true rfl⟩ rfl rfl (Nat.le_of_ble_eq_true rfl) ⟨Nat.le_of_ble_eq_true rfl, Nat.le_of_ble_eq_true rfl⟩ gw_1082 dX9_coefficient_7) rfl (fun z7 M1 h7 => ?_)
  have hz7 := h7.1
  obtain rfl := h7.2.symm
  have hi7 : z7 = 0 ∨ z7 = 1 := by rw [hz7]; split <;> omega
  have hq7 : z7 = 1 ↔ (0 ≤ q0 ∧ q0 ≤ 5) := by rw [hz7]; split <;> omega
  refine r_if_eq (pc' := 13) (tgt := 17) X dX9_coefficient_10 rfl rfl (by omega) (fun h10 => ?_) (fun h10 => ?_)
  · refine r_iconst (pc' := 18) X dX9_coefficient_17 rfl ?_
    refine w_calli (pc' := 21) (st := []) (w_runV X (c_X9_refused l G M 2 (by first | assumption | omega)) cf_X9_refused k29_0 rfl gw_1087 gp_25 rfl rfl ⟨Nat.le_of_ble_eq_true rfl, Nat.le_of_ble_eq_true rfl⟩ rfl rfl (Nat.le_of_ble_eq_true rfl) ⟨Nat.le_of_ble_eq_true rfl, Nat.le_of_ble_eq_true rfl⟩ gw_1085 dX9_coefficient_18) rfl (fun z18 M2 h18 => ?_)
    have hz18 : z18 = 1 := by rw [h18.1]; rfl
    have ew18 : ∀ a b x, ¬ (a = 29 ∧ b = 0 ∧ x = 0) → M2 a b x = M a b x := fun a b x q => by rw [h18.2]; unfold wu; rw [if_neg q]
    have er18 : M2 29 0 0 = 2 := by rw [h18.2]; unfold wu; rw [if_pos ⟨rfl, rfl, rfl⟩]
    have sc18 : RScr M M2 := fun a b x q => ew18 a b x (by omega)
    have qq18 : PEq N P pv (M2 29) := hq.keep (fun b x q => ew18 29 b x (by omega))
    have n13 : M2 29 13 = M 29 13 := funext fun x => ew18 29 13 x (by omega)
    have qN2 := qq18.1
    have qP2 := qq18.2.1
    refine r_if_eq (pc' := 24) (tgt := 26) X dX9_coefficient_21 rfl rfl (by omega) (fun h21 => by exfalso; omega) (fun h21 => ?_)
    refine r_iconst (pc' := 25) X dX9_coefficient_24 rfl ?_
    refine w_iret X hr dX9_coefficient_25 ?_
    try dsimp only
    exact (Or.inr (Or.inr ⟨er18, sc18, by omega⟩))
  · refine r_iconst (pc' := 14) X dX9_coefficient_13 rfl ?_
    refine r_goto (tgt := 18) X dX9_coefficient_14 rfl ?_
    refine w_calli (pc' := 21) (st := []) (w_runV X (c_X9_refused l G M 0 (by first | assumption | omega)) cf_X9_refused k29_0 rfl gw_1087 gp_25 rfl rfl ⟨Nat.le_of_ble_eq_true rfl, Nat.le_of_ble_eq_true rfl⟩ rfl rfl (Nat.le_of_ble_eq_true rfl) ⟨Nat.le_of_ble_eq_true rfl, Nat.le_of_ble_eq_true rfl⟩ gw_1085 dX9_coefficient_18) rfl (fun z18 M3 h18 => ?_)
    have hz18 : z18 = 0 := by rw [h18.1]; rfl
    have ew18 : ∀ a b x, ¬ (a = 29 ∧ b = 0 ∧ x = 0) → M3 a b x = M a b x := fun a b x q => by rw [h18.2]; unfold wu; rw [if_neg q]
    have er18 : M3 29 0 0 = 0 := by rw [h18.2]; unfold wu; rw [if_pos ⟨rfl, rfl, rfl⟩]
    have sc18 : RScr M M3 := fun a b x q => ew18 a b x (by omega)
    have qq18 : PEq N P pv (M3 29) := hq.keep (fun b x q => ew18 29 b x (by omega))
    have n13 : M3 29 13 = M 29 13 := funext fun x => ew18 29 13 x (by omega)
    have qN2 := qq18.1
    have qP2 := qq18.2.1
    refine r_if_eq (pc' := 24) (tgt := 26) X dX9_coefficient_21 rfl rfl (by omega) (fun h21 => ?_) (fun h21 => by exfalso; omega)
    obtain ⟨sN, sP, sA, sB, sE, sC, sQ⟩ := id qq18
    refine r_iload_n (pc' := 27) X 1 dX9_coefficient_26 rfl rfl rfl ?_
    refine r_iconst (pc' := 28) X dX9_coefficient_27 rfl ?_
    refine r_icmp_eq (pc' := 31) (tgt := 36) X dX9_coefficient_28 rfl rfl (by omega) (by omega) (fun h28 => ?_) (fun h28 => ?_)
    · refine r_aload_n (pc' := 37) X 0 dX9_coefficient_36 rfl rfl rfl ?_
      refine r_iload_n (pc' := 38) X 2 dX9_coefficient_37 rfl rfl rfl ?_
      refine w_calli (pc' := 41) (st := []) (w_runV X (c_X9_isOutput l G M3 N P pv (by first | assumption | omega) (by first | assumption | omega) i (by first | assumption | omega)) cf_X9_isOutput k29_0 rfl gw_1152 gp_35 rfl rfl ⟨Nat.le_of_ble_eq_true rfl, Nat.le_of_ble_eq_true rfl⟩ rfl rfl (Nat.le_of_ble_eq_true rfl) ⟨Nat.le_of_ble_eq_true rfl, Nat.le_of_ble_eq_true rfl⟩ gw_1150 dX9_coefficient_38) rfl (fun z38 M4 h38 => ?_)
      have hz38 := h38.1
      obtain rfl := h38.2.symm
      have hi38 : z38 = 0 ∨ z38 = 1 := by rw [hz38]; split <;> omega
      have hq38 : z38 = 1 ↔ (0 ≤ i ∧ i < P) := by rw [hz38]; split <;> omega
      refine r_goto (tgt := 49) X dX9_coefficient_41 rfl ?_
      refine r_istore (pc' := 51) (lc' := [(0, vR G (29, 0)), (1, vI q0), (2, vI i), (3, vI j), (4, vI z38)]) X [1, 2, 3, 4, 0] dX9_coefficient_49 (by decide) rfl rfl ?_
      refine r_iload_n (pc' := 52) X 1 dX9_coefficient_51 rfl rfl rfl ?_
      refine r_if_eq (pc' := 55) (tgt := 60) X dX9_coefficient_52 rfl rfl (by omega) (fun h52 => ?_) (fun h52 => ?_)
      · refine r_aload_n (pc' := 61) X 0 dX9_coefficient_60 rfl rfl rfl ?_
        refine r_iload_n (pc' := 62) X 3 dX9_coefficient_61 rfl rfl rfl ?_
        refine w_calli (pc' := 65) (st := []) (w_runV X (c_X9_isState l G M3 N P pv (by first | assumption | omega) (by first | assumption | omega) j (by first | assumption | omega)) cf_X9_isState k29_0 rfl gw_1156 gp_36 rfl rfl ⟨Nat.le_of_ble_eq_true rfl, Nat.le_of_ble_eq_true rfl⟩ rfl rfl (Nat.le_of_ble_eq_true rfl) ⟨Nat.le_of_ble_eq_true rfl, Nat.le_of_ble_eq_true rfl⟩ gw_1154 dX9_coefficient_62) rfl (fun z62 M5 h62 => ?_)
        have hz62 := h62.1
        obtain rfl := h62.2.symm
        have hi62 : z62 = 0 ∨ z62 = 1 := by rw [hz62]; split <;> omega
        have hq62 : z62 = 1 ↔ (0 ≤ j ∧ j < N) := by rw [hz62]; split <;> omega
        refine r_goto (tgt := 90) X dX9_coefficient_65 rfl ?_
        refine r_istore (pc' := 92) (lc' := [(0, vR G (29, 0)), (1, vI q0), (2, vI i), (3, vI j), (4, vI z38), (5, vI z62)]) X [1, 2, 3, 4, 5, 0] dX9_coefficient_90 (by decide) rfl rfl ?_
        refine r_aload_n (pc' := 93) X 0 dX9_coefficient_92 rfl rfl rfl ?_
        refine r_iload (pc' := 95) X 4 dX9_coefficient_93 rfl rfl ?_
        refine r_if_eq (pc' := 98) (tgt := 107) X dX9_coefficient_95 rfl rfl (by omega) (fun h95 => ?_) (fun h95 => ?_)
        · refine r_iconst (pc' := 108) X dX9_coefficient_107 rfl ?_
          refine w_calli (pc' := 111) (st := []) (w_runV X (c_X9_refused l G M3 1 (by first | assumption | omega)) cf_X9_refused k29_0 rfl gw_1087 gp_25 rfl rfl ⟨Nat.le_of_ble_eq_true rfl, Nat.le_of_ble_eq_true rfl⟩ rfl rfl (Nat.le_of_ble_eq_true rfl) ⟨Nat.le_of_ble_eq_true rfl, Nat.le_of_ble_eq_true rfl⟩ gw_1085 dX9_coefficient_108) rfl (fun z108 M6 h108 => ?_)
          have hz108 : z108 = 1 := by rw [h108.1]; rfl
          have ew108 : ∀ a b x, ¬ (a = 29 ∧ b = 0 ∧ x = 0) → M6 a b x = M3 a b x := fun a b x q => by rw [h108.2]; unfold wu; rw [if_neg q]
          have er108 : M6 29 0 0 = 1 := by rw [h108.2]; unfold wu; rw [if_pos ⟨rfl, rfl, rfl⟩]
          have sc108 : RScr M3 M6 := fun a b x q => ew108 a b x (by omega)
          have qq108 : PEq N P pv (M6 29) := qq18.keep (fun b x q => ew108 29 b x (by omega))
          refine r_if_eq (pc' := 114) (tgt := 116) X dX9_coefficient_111 rfl rfl (by omega) (fun h111 => by exfalso; omega) (fun h111 => ?_)
          refine r_iconst (pc' := 115) X dX9_coefficient_114 rfl ?_
          refine w_iret X hr dX9_coefficient_115 ?_
          try dsimp only
          exact (Or.inr (Or.inl ⟨er108, (RScr.trans sc18 sc108), by omega⟩))
        · refine r_iload (pc' := 100) X 5 dX9_coefficient_98 rfl rfl ?_
          refine r_if_eq (pc' := 103) (tgt := 107) X dX9_coefficient_100 rfl rfl (by omega) (fun h100 => ?_) (fun h100 => ?_)
          · refine r_iconst (pc' := 108) X dX9_coefficient_107 rfl ?_
            refine w_calli (pc' := 111) (st := []) (w_runV X (c_X9_refused l G M3 1 (by first | assumption | omega)) cf_X9_refused k29_0 rfl gw_1087 gp_25 rfl rfl ⟨Nat.le_of_ble_eq_true rfl, Nat.le_of_ble_eq_true rfl⟩ rfl rfl (Nat.le_of_ble_eq_true rfl) ⟨Nat.le_of_ble_eq_true rfl, Nat.le_of_ble_eq_true rfl⟩ gw_1085 dX9_coefficient_108) rfl (fun z108 M7 h108 => ?_)
            have hz108 : z108 = 1 := by rw [h108.1]; rfl
            have ew108 : ∀ a b x, ¬ (a = 29 ∧ b = 0 ∧ x = 0) → M7 a b x = M3 a b x := fun a b x q => by rw [h108.2]; unfold wu; rw [if_neg q]
            have er108 : M7 29 0 0 = 1 := by rw [h108.2]; unfold wu; rw [if_pos ⟨rfl, rfl, rfl⟩]
            have sc108 : RScr M3 M7 := fun a b x q => ew108 a b x (by omega)
            have qq108 : PEq N P pv (M7 29) := qq18.keep (fun b x q => ew108 29 b x (by omega))
            refine r_if_eq (pc' := 114) (tgt := 116) X dX9_coefficient_111 rfl rfl (by omega) (fun h111 => by exfalso; omega) (fun h111 => ?_)
            refine r_iconst (pc' := 115) X dX9_coefficient_114 rfl ?_
            refine w_iret X hr dX9_coefficient_115 ?_
            try dsimp only
            exact (Or.inr (Or.inl ⟨er108, (RScr.trans sc18 sc108), by omega⟩))
          · refine r_iconst (pc' := 104) X dX9_coefficient_103 rfl ?_
            refine r_goto (tgt := 108) X dX9_coefficient_104 rfl ?_
            refine w_calli (pc' := 111) (st := []) (w_runV X (c_X9_refused l G M3 0 (by first | assumption | omega)) cf_X9_refused k29_0 rfl gw_1087 gp_25 rfl rfl ⟨Nat.le_of_ble_eq_true rfl, Nat.le_of_ble_eq_true rfl⟩ rfl rfl (Nat.le_of_ble_eq_true rfl) ⟨Nat.le_of_ble_eq_true rfl, Nat.le_of_ble_eq_true rfl⟩ gw_1085 dX9_coefficient_108) rfl (fun z108 M8 h108 => ?_)
            have hz108 : z108 = 0 := by rw [h108.1]; rfl
            have ew108 : ∀ a b x, ¬ (a = 29 ∧ b = 0 ∧ x = 0) → M8 a b x = M3 a b x := fun a b x q => by rw [h108.2]; unfold wu; rw [if_neg q]
            have er108 : M8 29 0 0 = 0 := by rw [h108.2]; unfold wu; rw [if_pos ⟨rfl, rfl, rfl⟩]
            have sc108 : RScr M3 M8 := fun a b x q => ew108 a b x (by omega)
            have qq108 : PEq N P pv (M8 29) := qq18.keep (fun b x q => ew108 29 b x (by omega))
            refine r_if_eq (pc' := 114) (tgt := 116) X dX9_coefficient_111 rfl rfl (by omega) (fun h111 => ?_) (fun h111 => by exfalso; omega)
            obtain ⟨tN, tP, tA, tB, tE, tC, tQ⟩ := id qq108
            have n13b : M8 29 13 = M3 29 13 := funext fun x => ew108 29 13 x (by omega)
            refine r_iload_n (pc' := 117) X 1 dX9_coefficient_116 rfl rfl rfl ?_
            by_cases hs117 : 0 ≤ q0 ∧ q0 ≤ 4
            · rcases (show q0 = 0 ∨ q0 = 1 ∨ q0 = 2 ∨ q0 = 3 ∨ q0 = 4 by omega) with hs117 | hs117 | hs117 | hs117 | hs117
              · refine r_tsw (v := 0) (tgt := 152) X dX9_coefficient_117 hs117 (by decide) (by decide) (by decide) rfl rfl ?_
                refine r_aload_n (pc' := 153) X 0 dX9_coefficient_152 rfl rfl rfl ?_
                refine gf_29_matrix (pc' := 156) X gw_974 dX9_coefficient_153 rfl ?_
                refine r_iconst (pc' := 157) X dX9_coefficient_156 rfl ?_
                refine r_iload_n (pc' := 158) X 2 dX9_coefficient_157 rfl rfl rfl ?_
                refine r_imul (pc' := 159) X dX9_coefficient_158 rfl ?_
                refine r_iload_n (pc' := 160) X 3 dX9_coefficient_159 rfl rfl rfl ?_
                refine r_iadd (pc' := 161) X dX9_coefficient_160 rfl ?_
                refine r_iald (i := (4 * i.toNat + j.toNat)) (pc' := 162) X k29_2 (by omega) (by omega) (by decide) dX9_coefficient_161 rfl ?_
                refine w_iret X hr dX9_coefficient_162 ?_
                try dsimp only
                refine Or.inl ⟨er108, RScr.trans sc18 sc108, by omega, by omega, by omega, ?_⟩
                unfold coefF
                first
                  | (rw [hs117]; first | exact tA _ _ (by omega) (by omega) | exact tB _ (by omega) | exact tE _ (by omega) | exact tC _ _ (by omega) (by omega) | exact tQ _ (by omega))
                  | (rw [show q0 = 5 by omega, n13b, n13]; exact v2 _ _ (by omega) (by omega))
              · refine r_tsw (v := 1) (tgt := 163) X dX9_coefficient_117 hs117 (by decide) (by decide) (by decide) rfl rfl ?_
                refine r_aload_n (pc' := 164) X 0 dX9_coefficient_163 rfl rfl rfl ?_
                refine gf_29_drive (pc' := 167) X gw_975 dX9_coefficient_164 rfl ?_
                refine r_iload_n (pc' := 168) X 2 dX9_coefficient_167 rfl rfl rfl ?_
                refine r_iald (i := i.toNat) (pc' := 169) X k29_3 (by omega) (by omega) (by decide) dX9_coefficient_168 rfl ?_
                refine w_iret X hr dX9_coefficient_169 ?_
                try dsimp only
                refine Or.inl ⟨er108, RScr.trans sc18 sc108, by omega, by omega, by omega, ?_⟩
                unfold coefF
                first
                  | (rw [hs117]; first | exact tA _ _ (by omega) (by omega) | exact tB _ (by omega) | exact tE _ (by omega) | exact tC _ _ (by omega) (by omega) | exact tQ _ (by omega))
                  | (rw [show q0 = 5 by omega, n13b, n13]; exact v2 _ _ (by omega) (by omega))
              · refine r_tsw (v := 2) (tgt := 170) X dX9_coefficient_117 hs117 (by decide) (by decide) (by decide) rfl rfl ?_
                refine r_aload_n (pc' := 171) X 0 dX9_coefficient_170 rfl rfl rfl ?_
                refine gf_29_push (pc' := 174) X gw_976 dX9_coefficient_171 rfl ?_
                refine r_iload_n (pc' := 175) X 2 dX9_coefficient_174 rfl rfl rfl ?_
                refine r_iald (i := i.toNat) (pc' := 176) X k29_4 (by omega) (by omega) (by decide) dX9_coefficient_175 rfl ?_
                refine w_iret X hr dX9_coefficient_176 ?_
                try dsimp only
                refine Or.inl ⟨er108, RScr.trans sc18 sc108, by omega, by omega, by omega, ?_⟩
                unfold coefF
                first
                  | (rw [hs117]; first | exact tA _ _ (by omega) (by omega) | exact tB _ (by omega) | exact tE _ (by omega) | exact tC _ _ (by omega) (by omega) | exact tQ _ (by omega))
                  | (rw [show q0 = 5 by omega, n13b, n13]; exact v2 _ _ (by omega) (by omega))
              · refine r_tsw (v := 3) (tgt := 177) X dX9_coefficient_117 hs117 (by decide) (by decide) (by decide) rfl rfl ?_
                refine r_aload_n (pc' := 178) X 0 dX9_coefficient_177 rfl rfl rfl ?_
                refine gf_29_view (pc' := 181) X gw_977 dX9_coefficient_178 rfl ?_
                refine r_iconst (pc' := 182) X dX9_coefficient_181 rfl ?_
                refine r_iload_n (pc' := 183) X 2 dX9_coefficient_182 rfl rfl rfl ?_
                refine r_imul (pc' := 184) X dX9_coefficient_183 rfl ?_
                refine r_iload_n (pc' := 185) X 3 dX9_coefficient_184 rfl rfl rfl ?_
                refine r_iadd (pc' := 186) X dX9_coefficient_185 rfl ?_
                refine r_iald (i := (4 * i.toNat + j.toNat)) (pc' := 187) X k29_5 (by omega) (by omega) (by decide) dX9_coefficient_186 rfl ?_
                refine w_iret X hr dX9_coefficient_187 ?_
                try dsimp only
                refine Or.inl ⟨er108, RScr.trans sc18 sc108, by omega, by omega, by omega, ?_⟩
                unfold coefF
                first
                  | (rw [hs117]; first | exact tA _ _ (by omega) (by omega) | exact tB _ (by omega) | exact tE _ (by omega) | exact tC _ _ (by omega) (by omega) | exact tQ _ (by omega))
                  | (rw [show q0 = 5 by omega, n13b, n13]; exact v2 _ _ (by omega) (by omega))
              · refine r_tsw (v := 4) (tgt := 188) X dX9_coefficient_117 hs117 (by decide) (by decide) (by decide) rfl rfl ?_
                refine r_aload_n (pc' := 189) X 0 dX9_coefficient_188 rfl rfl rfl ?_
                refine gf_29_quantum (pc' := 192) X gw_978 dX9_coefficient_189 rfl ?_
                refine r_iload_n (pc' := 193) X 2 dX9_coefficient_192 rfl rfl rfl ?_
                refine r_iald (i := i.toNat) (pc' := 194) X k29_6 (by omega) (by omega) (by decide) dX9_coefficient_193 rfl ?_
                refine w_iret X hr dX9_coefficient_194 ?_
                try dsimp only
                refine Or.inl ⟨er108, RScr.trans sc18 sc108, by omega, by omega, by omega, ?_⟩
                unfold coefF
                first
                  | (rw [hs117]; first | exact tA _ _ (by omega) (by omega) | exact tB _ (by omega) | exact tE _ (by omega) | exact tC _ _ (by omega) (by omega) | exact tQ _ (by omega))
                  | (rw [show q0 = 5 by omega, n13b, n13]; exact v2 _ _ (by omega) (by omega))
            · refine r_tswD (tgt := 195) X dX9_coefficient_117 (by omega) (by omega) rfl ?_
              refine r_aload_n (pc' := 196) X 0 dX9_coefficient_195 rfl rfl rfl ?_
              refine gf_29_now (pc' := 199) X gw_987 dX9_coefficient_196 rfl ?_
              refine r_bipush (pc' := 201) X dX9_coefficient_199 rfl rfl ?_
              refine r_iconst (pc' := 202) X dX9_coefficient_201 rfl ?_
              refine r_iload_n (pc' := 203) X 2 dX9_coefficient_202 rfl rfl rfl ?_
              refine r_imul (pc' := 204) X dX9_coefficient_203 rfl ?_
              refine r_iadd (pc' := 205) X dX9_coefficient_204 rfl ?_
              refine r_iload_n (pc' := 206) X 3 dX9_coefficient_205 rfl rfl rfl ?_
              refine r_iadd (pc' := 207) X dX9_coefficient_206 rfl ?_
              refine r_iald (i := (16 + 3 * i.toNat + j.toNat)) (pc' := 208) X k29_13 (by omega) (by omega) (by decide) dX9_coefficient_207 rfl ?_
              refine w_iret X hr dX9_coefficient_208 ?_
              try dsimp only
              refine Or.inl ⟨er108, RScr.trans sc18 sc108, by omega, by omega, by omega, ?_⟩
              unfold coefF
              first
                | (rw [hs117]; first | exact tA _ _ (by omega) (by omega) | exact tB _ (by omega) | exact tE _ (by omega) | exact tC _ _ (by omega) (by omega) | exact tQ _ (by omega))
                | (rw [show q0 = 5 by omega, n13b, n13]; exact v2 _ _ (by omega) (by omega))
      · refine r_iload_n (pc' := 56) X 1 dX9_coefficient_55 rfl rfl rfl ?_
        refine r_iconst (pc' := 57) X dX9_coefficient_56 rfl ?_
        refine r_icmp_ne (pc' := 60) (tgt := 68) X dX9_coefficient_57 rfl rfl (by omega) (by omega) (fun h57 => ?_) (fun h57 => ?_)
        · refine r_iload_n (pc' := 69) X 1 dX9_coefficient_68 rfl rfl rfl ?_
          refine r_iconst (pc' := 70) X dX9_coefficient_69 rfl ?_
          refine r_icmp_ne (pc' := 73) (tgt := 81) X dX9_coefficient_70 rfl rfl (by omega) (by omega) (fun h70 => ?_) (fun h70 => ?_)
          · refine r_iload_n (pc' := 82) X 3 dX9_coefficient_81 rfl rfl rfl ?_
            refine r_if_ne (pc' := 85) (tgt := 89) X dX9_coefficient_82 rfl rfl (by omega) (fun h82 => ?_) (fun h82 => ?_)
            · refine r_iconst (pc' := 90) X dX9_coefficient_89 rfl ?_
              refine r_istore (pc' := 92) (lc' := [(0, vR G (29, 0)), (1, vI q0), (2, vI i), (3, vI j), (4, vI z38), (5, vI 0)]) X [1, 2, 3, 4, 5, 0] dX9_coefficient_90 (by decide) rfl rfl ?_
              refine r_aload_n (pc' := 93) X 0 dX9_coefficient_92 rfl rfl rfl ?_
              refine r_iload (pc' := 95) X 4 dX9_coefficient_93 rfl rfl ?_
              refine r_if_eq (pc' := 98) (tgt := 107) X dX9_coefficient_95 rfl rfl (by omega) (fun h95 => ?_) (fun h95 => ?_)
              · refine r_iconst (pc' := 108) X dX9_coefficient_107 rfl ?_
                refine w_calli (pc' := 111) (st := []) (w_runV X (c_X9_refused l G M3 1 (by first | assumption | omega)) cf_X9_refused k29_0 rfl gw_1087 gp_25 rfl rfl ⟨Nat.le_of_ble_eq_true rfl, Nat.le_of_ble_eq_true rfl⟩ rfl rfl (Nat.le_of_ble_eq_true rfl) ⟨Nat.le_of_ble_eq_true rfl, Nat.le_of_ble_eq_true rfl⟩ gw_1085 dX9_coefficient_108) rfl (fun z108 M9 h108 => ?_)
                have hz108 : z108 = 1 := by rw [h108.1]; rfl
                have ew108 : ∀ a b x, ¬ (a = 29 ∧ b = 0 ∧ x = 0) → M9 a b x = M3 a b x := fun a b x q => by rw [h108.2]; unfold wu; rw [if_neg q]
                have er108 : M9 29 0 0 = 1 := by rw [h108.2]; unfold wu; rw [if_pos ⟨rfl, rfl, rfl⟩]
                have sc108 : RScr M3 M9 := fun a b x q => ew108 a b x (by omega)
                have qq108 : PEq N P pv (M9 29) := qq18.keep (fun b x q => ew108 29 b x (by omega))
                refine r_if_eq (pc' := 114) (tgt := 116) X dX9_coefficient_111 rfl rfl (by omega) (fun h111 => by exfalso; omega) (fun h111 => ?_)
                refine r_iconst (pc' := 115) X dX9_coefficient_114 rfl ?_
                refine w_iret X hr dX9_coefficient_115 ?_
                try dsimp only
                exact (Or.inr (Or.inl ⟨er108, (RScr.trans sc18 sc108), by omega⟩))
              · refine r_iload (pc' := 100) X 5 dX9_coefficient_98 rfl rfl ?_
                refine r_if_eq (pc' := 103) (tgt := 107) X dX9_coefficient_100 rfl rfl (by omega) (fun h100 => ?_) (fun h100 => absurd h100 (by decide))
                refine r_iconst (pc' := 108) X dX9_coefficient_107 rfl ?_
                refine w_calli (pc' := 111) (st := []) (w_runV X (c_X9_refused l G M3 1 (by first | assumption | omega)) cf_X9_refused k29_0 rfl gw_1087 gp_25 rfl rfl ⟨Nat.le_of_ble_eq_true rfl, Nat.le_of_ble_eq_true rfl⟩ rfl rfl (Nat.le_of_ble_eq_true rfl) ⟨Nat.le_of_ble_eq_true rfl, Nat.le_of_ble_eq_true rfl⟩ gw_1085 dX9_coefficient_108) rfl (fun z108 M10 h108 => ?_)
                have hz108 : z108 = 1 := by rw [h108.1]; rfl
                have ew108 : ∀ a b x, ¬ (a = 29 ∧ b = 0 ∧ x = 0) → M10 a b x = M3 a b x := fun a b x q => by rw [h108.2]; unfold wu; rw [if_neg q]
                have er108 : M10 29 0 0 = 1 := by rw [h108.2]; unfold wu; rw [if_pos ⟨rfl, rfl, rfl⟩]
                have sc108 : RScr M3 M10 := fun a b x q => ew108 a b x (by omega)
                have qq108 : PEq N P pv (M10 29) := qq18.keep (fun b x q => ew108 29 b x (by omega))
                refine r_if_eq (pc' := 114) (tgt := 116) X dX9_coefficient_111 rfl rfl (by omega) (fun h111 => by exfalso; omega) (fun h111 => ?_)
                refine r_iconst (pc' := 115) X dX9_coefficient_114 rfl ?_
                refine w_iret X hr dX9_coefficient_115 ?_
                try dsimp only
                exact (Or.inr (Or.inl ⟨er108, (RScr.trans sc18 sc108), by omega⟩))
            · refine r_iconst (pc' := 86) X dX9_coefficient_85 rfl ?_
              refine r_goto (tgt := 90) X dX9_coefficient_86 rfl ?_
              refine r_istore (pc' := 92) (lc' := [(0, vR G (29, 0)), (1, vI q0), (2, vI i), (3, vI j), (4, vI z38), (5, vI 1)]) X [1, 2, 3, 4, 5, 0] dX9_coefficient_90 (by decide) rfl rfl ?_
              refine r_aload_n (pc' := 93) X 0 dX9_coefficient_92 rfl rfl rfl ?_
              refine r_iload (pc' := 95) X 4 dX9_coefficient_93 rfl rfl ?_
              refine r_if_eq (pc' := 98) (tgt := 107) X dX9_coefficient_95 rfl rfl (by omega) (fun h95 => ?_) (fun h95 => ?_)
              · refine r_iconst (pc' := 108) X dX9_coefficient_107 rfl ?_
                refine w_calli (pc' := 111) (st := []) (w_runV X (c_X9_refused l G M3 1 (by first | assumption | omega)) cf_X9_refused k29_0 rfl gw_1087 gp_25 rfl rfl ⟨Nat.le_of_ble_eq_true rfl, Nat.le_of_ble_eq_true rfl⟩ rfl rfl (Nat.le_of_ble_eq_true rfl) ⟨Nat.le_of_ble_eq_true rfl, Nat.le_of_ble_eq_true rfl⟩ gw_1085 dX9_coefficient_108) rfl (fun z108 M11 h108 => ?_)
                have hz108 : z108 = 1 := by rw [h108.1]; rfl
                have ew108 : ∀ a b x, ¬ (a = 29 ∧ b = 0 ∧ x = 0) → M11 a b x = M3 a b x := fun a b x q => by rw [h108.2]; unfold wu; rw [if_neg q]
                have er108 : M11 29 0 0 = 1 := by rw [h108.2]; unfold wu; rw [if_pos ⟨rfl, rfl, rfl⟩]
                have sc108 : RScr M3 M11 := fun a b x q => ew108 a b x (by omega)
                have qq108 : PEq N P pv (M11 29) := qq18.keep (fun b x q => ew108 29 b x (by omega))
                refine r_if_eq (pc' := 114) (tgt := 116) X dX9_coefficient_111 rfl rfl (by omega) (fun h111 => by exfalso; omega) (fun h111 => ?_)
                refine r_iconst (pc' := 115) X dX9_coefficient_114 rfl ?_
                refine w_iret X hr dX9_coefficient_115 ?_
                try dsimp only
                exact (Or.inr (Or.inl ⟨er108, (RScr.trans sc18 sc108), by omega⟩))
              · refine r_iload (pc' := 100) X 5 dX9_coefficient_98 rfl rfl ?_
                refine r_if_eq (pc' := 103) (tgt := 107) X dX9_coefficient_100 rfl rfl (by omega) (fun h100 => absurd h100 (by decide)) (fun h100 => ?_)
                refine r_iconst (pc' := 104) X dX9_coefficient_103 rfl ?_
                refine r_goto (tgt := 108) X dX9_coefficient_104 rfl ?_
                refine w_calli (pc' := 111) (st := []) (w_runV X (c_X9_refused l G M3 0 (by first | assumption | omega)) cf_X9_refused k29_0 rfl gw_1087 gp_25 rfl rfl ⟨Nat.le_of_ble_eq_true rfl, Nat.le_of_ble_eq_true rfl⟩ rfl rfl (Nat.le_of_ble_eq_true rfl) ⟨Nat.le_of_ble_eq_true rfl, Nat.le_of_ble_eq_true rfl⟩ gw_1085 dX9_coefficient_108) rfl (fun z108 M12 h108 => ?_)
                have hz108 : z108 = 0 := by rw [h108.1]; rfl
                have ew108 : ∀ a b x, ¬ (a = 29 ∧ b = 0 ∧ x = 0) → M12 a b x = M3 a b x := fun a b x q => by rw [h108.2]; unfold wu; rw [if_neg q]
                have er108 : M12 29 0 0 = 0 := by rw [h108.2]; unfold wu; rw [if_pos ⟨rfl, rfl, rfl⟩]
                have sc108 : RScr M3 M12 := fun a b x q => ew108 a b x (by omega)
                have qq108 : PEq N P pv (M12 29) := qq18.keep (fun b x q => ew108 29 b x (by omega))
                refine r_if_eq (pc' := 114) (tgt := 116) X dX9_coefficient_111 rfl rfl (by omega) (fun h111 => ?_) (fun h111 => by exfalso; omega)
                obtain ⟨tN, tP, tA, tB, tE, tC, tQ⟩ := id qq108
                have n13b : M12 29 13 = M3 29 13 := funext fun x => ew108 29 13 x (by omega)
                refine r_iload_n (pc' := 117) X 1 dX9_coefficient_116 rfl rfl rfl ?_
                by_cases hs117 : 0 ≤ q0 ∧ q0 ≤ 4
                · rcases (show q0 = 0 ∨ q0 = 1 ∨ q0 = 2 ∨ q0 = 3 ∨ q0 = 4 by omega) with hs117 | hs117 | hs117 | hs117 | hs117
                  · refine r_tsw (v := 0) (tgt := 152) X dX9_coefficient_117 hs117 (by decide) (by decide) (by decide) rfl rfl ?_
                    refine r_aload_n (pc' := 153) X 0 dX9_coefficient_152 rfl rfl rfl ?_
                    refine gf_29_matrix (pc' := 156) X gw_974 dX9_coefficient_153 rfl ?_
                    refine r_iconst (pc' := 157) X dX9_coefficient_156 rfl ?_
                    refine r_iload_n (pc' := 158) X 2 dX9_coefficient_157 rfl rfl rfl ?_
                    refine r_imul (pc' := 159) X dX9_coefficient_158 rfl ?_
                    refine r_iload_n (pc' := 160) X 3 dX9_coefficient_159 rfl rfl rfl ?_
                    refine r_iadd (pc' := 161) X dX9_coefficient_160 rfl ?_
                    refine r_iald (i := (4 * i.toNat + j.toNat)) (pc' := 162) X k29_2 (by omega) (by omega) (by decide) dX9_coefficient_161 rfl ?_
                    refine w_iret X hr dX9_coefficient_162 ?_
                    try dsimp only
                    refine Or.inl ⟨er108, RScr.trans sc18 sc108, by omega, by omega, by omega, ?_⟩
                    unfold coefF
                    first
                      | (rw [hs117]; first | exact tA _ _ (by omega) (by omega) | exact tB _ (by omega) | exact tE _ (by omega) | exact tC _ _ (by omega) (by omega) | exact tQ _ (by omega))
                      | (rw [show q0 = 5 by omega, n13b, n13]; exact v2 _ _ (by omega) (by omega))
                  · refine r_tsw (v := 1) (tgt := 163) X dX9_coefficient_117 hs117 (by decide) (by decide) (by decide) rfl rfl ?_
                    refine r_aload_n (pc' := 164) X 0 dX9_coefficient_163 rfl rfl rfl ?_
                    refine gf_29_drive (pc' := 167) X gw_975 dX9_coefficient_164 rfl ?_
                    refine r_iload_n (pc' := 168) X 2 dX9_coefficient_167 rfl rfl rfl ?_
                    refine r_iald (i := i.toNat) (pc' := 169) X k29_3 (by omega) (by omega) (by decide) dX9_coefficient_168 rfl ?_
                    refine w_iret X hr dX9_coefficient_169 ?_
                    try dsimp only
                    refine Or.inl ⟨er108, RScr.trans sc18 sc108, by omega, by omega, by omega, ?_⟩
                    unfold coefF
                    first
                      | (rw [hs117]; first | exact tA _ _ (by omega) (by omega) | exact tB _ (by omega) | exact tE _ (by omega) | exact tC _ _ (by omega) (by omega) | exact tQ _ (by omega))
                      | (rw [show q0 = 5 by omega, n13b, n13]; exact v2 _ _ (by omega) (by omega))
                  · refine r_tsw (v := 2) (tgt := 170) X dX9_coefficient_117 hs117 (by decide) (by decide) (by decide) rfl rfl ?_
                    refine r_aload_n (pc' := 171) X 0 dX9_coefficient_170 rfl rfl rfl ?_
                    refine gf_29_push (pc' := 174) X gw_976 dX9_coefficient_171 rfl ?_
                    refine r_iload_n (pc' := 175) X 2 dX9_coefficient_174 rfl rfl rfl ?_
                    refine r_iald (i := i.toNat) (pc' := 176) X k29_4 (by omega) (by omega) (by decide) dX9_coefficient_175 rfl ?_
                    refine w_iret X hr dX9_coefficient_176 ?_
                    try dsimp only
                    refine Or.inl ⟨er108, RScr.trans sc18 sc108, by omega, by omega, by omega, ?_⟩
                    unfold coefF
                    first
                      | (rw [hs117]; first | exact tA _ _ (by omega) (by omega) | exact tB _ (by omega) | exact tE _ (by omega) | exact tC _ _ (by omega) (by omega) | exact tQ _ (by omega))
                      | (rw [show q0 = 5 by omega, n13b, n13]; exact v2 _ _ (by omega) (by omega))
                  · refine r_tsw (v := 3) (tgt := 177) X dX9_coefficient_117 hs117 (by decide) (by decide) (by decide) rfl rfl ?_
                    refine r_aload_n (pc' := 178) X 0 dX9_coefficient_177 rfl rfl rfl ?_
                    refine gf_29_view (pc' := 181) X gw_977 dX9_coefficient_178 rfl ?_
                    refine r_iconst (pc' := 182) X dX9_coefficient_181 rfl ?_
                    refine r_iload_n (pc' := 183) X 2 dX9_coefficient_182 rfl rfl rfl ?_
                    refine r_imul (pc' := 184) X dX9_coefficient_183 rfl ?_
                    refine r_iload_n (pc' := 185) X 3 dX9_coefficient_184 rfl rfl rfl ?_
                    refine r_iadd (pc' := 186) X dX9_coefficient_185 rfl ?_
                    refine r_iald (i := (4 * i.toNat + j.toNat)) (pc' := 187) X k29_5 (by omega) (by omega) (by decide) dX9_coefficient_186 rfl ?_
                    refine w_iret X hr dX9_coefficient_187 ?_
                    try dsimp only
                    refine Or.inl ⟨er108, RScr.trans sc18 sc108, by omega, by omega, by omega, ?_⟩
                    unfold coefF
                    first
                      | (rw [hs117]; first | exact tA _ _ (by omega) (by omega) | exact tB _ (by omega) | exact tE _ (by omega) | exact tC _ _ (by omega) (by omega) | exact tQ _ (by omega))
                      | (rw [show q0 = 5 by omega, n13b, n13]; exact v2 _ _ (by omega) (by omega))
                  · refine r_tsw (v := 4) (tgt := 188) X dX9_coefficient_117 hs117 (by decide) (by decide) (by decide) rfl rfl ?_
                    refine r_aload_n (pc' := 189) X 0 dX9_coefficient_188 rfl rfl rfl ?_
                    refine gf_29_quantum (pc' := 192) X gw_978 dX9_coefficient_189 rfl ?_
                    refine r_iload_n (pc' := 193) X 2 dX9_coefficient_192 rfl rfl rfl ?_
                    refine r_iald (i := i.toNat) (pc' := 194) X k29_6 (by omega) (by omega) (by decide) dX9_coefficient_193 rfl ?_
                    refine w_iret X hr dX9_coefficient_194 ?_
                    try dsimp only
                    refine Or.inl ⟨er108, RScr.trans sc18 sc108, by omega, by omega, by omega, ?_⟩
                    unfold coefF
                    first
                      | (rw [hs117]; first | exact tA _ _ (by omega) (by omega) | exact tB _ (by omega) | exact tE _ (by omega) | exact tC _ _ (by omega) (by omega) | exact tQ _ (by omega))
                      | (rw [show q0 = 5 by omega, n13b, n13]; exact v2 _ _ (by omega) (by omega))
                · refine r_tswD (tgt := 195) X dX9_coefficient_117 (by omega) (by omega) rfl ?_
                  refine r_aload_n (pc' := 196) X 0 dX9_coefficient_195 rfl rfl rfl ?_
                  refine gf_29_now (pc' := 199) X gw_987 dX9_coefficient_196 rfl ?_
                  refine r_bipush (pc' := 201) X dX9_coefficient_199 rfl rfl ?_
                  refine r_iconst (pc' := 202) X dX9_coefficient_201 rfl ?_
                  refine r_iload_n (pc' := 203) X 2 dX9_coefficient_202 rfl rfl rfl ?_
                  refine r_imul (pc' := 204) X dX9_coefficient_203 rfl ?_
                  refine r_iadd (pc' := 205) X dX9_coefficient_204 rfl ?_
                  refine r_iload_n (pc' := 206) X 3 dX9_coefficient_205 rfl rfl rfl ?_
                  refine r_iadd (pc' := 207) X dX9_coefficient_206 rfl ?_
                  refine r_iald (i := (16 + 3 * i.toNat + j.toNat)) (pc' := 208) X k29_13 (by omega) (by omega) (by decide) dX9_coefficient_207 rfl ?_
                  refine w_iret X hr dX9_coefficient_208 ?_
                  try dsimp only
                  refine Or.inl ⟨er108, RScr.trans sc18 sc108, by omega, by omega, by omega, ?_⟩
                  unfold coefF
                  first
                    | (rw [hs117]; first | exact tA _ _ (by omega) (by omega) | exact tB _ (by omega) | exact tE _ (by omega) | exact tC _ _ (by omega) (by omega) | exact tQ _ (by omega))
                    | (rw [show q0 = 5 by omega, n13b, n13]; exact v2 _ _ (by omega) (by omega))
          · refine r_aload_n (pc' := 74) X 0 dX9_coefficient_73 rfl rfl rfl ?_
            refine r_iload_n (pc' := 75) X 3 dX9_coefficient_74 rfl rfl rfl ?_
            refine w_calli (pc' := 78) (st := []) (w_runV X (c_X9_isOutput l G M3 N P pv (by first | assumption | omega) (by first | assumption | omega) j (by first | assumption | omega)) cf_X9_isOutput k29_0 rfl gw_1152 gp_35 rfl rfl ⟨Nat.le_of_ble_eq_true rfl, Nat.le_of_ble_eq_true rfl⟩ rfl rfl (Nat.le_of_ble_eq_true rfl) ⟨Nat.le_of_ble_eq_true rfl, Nat.le_of_ble_eq_true rfl⟩ gw_1150 dX9_coefficient_75) rfl (fun z75 M13 h75 => ?_)
            have hz75 := h75.1
            obtain rfl := h75.2.symm
            have hi75 : z75 = 0 ∨ z75 = 1 := by rw [hz75]; split <;> omega
            have hq75 : z75 = 1 ↔ (0 ≤ j ∧ j < P) := by rw [hz75]; split <;> omega
            refine r_goto (tgt := 90) X dX9_coefficient_78 rfl ?_
            refine r_istore (pc' := 92) (lc' := [(0, vR G (29, 0)), (1, vI q0), (2, vI i), (3, vI j), (4, vI z38), (5, vI z75)]) X [1, 2, 3, 4, 5, 0] dX9_coefficient_90 (by decide) rfl rfl ?_
            refine r_aload_n (pc' := 93) X 0 dX9_coefficient_92 rfl rfl rfl ?_
            refine r_iload (pc' := 95) X 4 dX9_coefficient_93 rfl rfl ?_
            refine r_if_eq (pc' := 98) (tgt := 107) X dX9_coefficient_95 rfl rfl (by omega) (fun h95 => ?_) (fun h95 => ?_)
            · refine r_iconst (pc' := 108) X dX9_coefficient_107 rfl ?_
              refine w_calli (pc' := 111) (st := []) (w_runV X (c_X9_refused l G M3 1 (by first | assumption | omega)) cf_X9_refused k29_0 rfl gw_1087 gp_25 rfl rfl ⟨Nat.le_of_ble_eq_true rfl, Nat.le_of_ble_eq_true rfl⟩ rfl rfl (Nat.le_of_ble_eq_true rfl) ⟨Nat.le_of_ble_eq_true rfl, Nat.le_of_ble_eq_true rfl⟩ gw_1085 dX9_coefficient_108) rfl (fun z108 M14 h108 => ?_)
              have hz108 : z108 = 1 := by rw [h108.1]; rfl
              have ew108 : ∀ a b x, ¬ (a = 29 ∧ b = 0 ∧ x = 0) → M14 a b x = M3 a b x := fun a b x q => by rw [h108.2]; unfold wu; rw [if_neg q]
              have er108 : M14 29 0 0 = 1 := by rw [h108.2]; unfold wu; rw [if_pos ⟨rfl, rfl, rfl⟩]
              have sc108 : RScr M3 M14 := fun a b x q => ew108 a b x (by omega)
              have qq108 : PEq N P pv (M14 29) := qq18.keep (fun b x q => ew108 29 b x (by omega))
              refine r_if_eq (pc' := 114) (tgt := 116) X dX9_coefficient_111 rfl rfl (by omega) (fun h111 => by exfalso; omega) (fun h111 => ?_)
              refine r_iconst (pc' := 115) X dX9_coefficient_114 rfl ?_
              refine w_iret X hr dX9_coefficient_115 ?_
              try dsimp only
              exact (Or.inr (Or.inl ⟨er108, (RScr.trans sc18 sc108), by omega⟩))
            · refine r_iload (pc' := 100) X 5 dX9_coefficient_98 rfl rfl ?_
              refine r_if_eq (pc' := 103) (tgt := 107) X dX9_coefficient_100 rfl rfl (by omega) (fun h100 => ?_) (fun h100 => ?_)
              · refine r_iconst (pc' := 108) X dX9_coefficient_107 rfl ?_
                refine w_calli (pc' := 111) (st := []) (w_runV X (c_X9_refused l G M3 1 (by first | assumption | omega)) cf_X9_refused k29_0 rfl gw_1087 gp_25 rfl rfl ⟨Nat.le_of_ble_eq_true rfl, Nat.le_of_ble_eq_true rfl⟩ rfl rfl (Nat.le_of_ble_eq_true rfl) ⟨Nat.le_of_ble_eq_true rfl, Nat.le_of_ble_eq_true rfl⟩ gw_1085 dX9_coefficient_108) rfl (fun z108 M15 h108 => ?_)
                have hz108 : z108 = 1 := by rw [h108.1]; rfl
                have ew108 : ∀ a b x, ¬ (a = 29 ∧ b = 0 ∧ x = 0) → M15 a b x = M3 a b x := fun a b x q => by rw [h108.2]; unfold wu; rw [if_neg q]
                have er108 : M15 29 0 0 = 1 := by rw [h108.2]; unfold wu; rw [if_pos ⟨rfl, rfl, rfl⟩]
                have sc108 : RScr M3 M15 := fun a b x q => ew108 a b x (by omega)
                have qq108 : PEq N P pv (M15 29) := qq18.keep (fun b x q => ew108 29 b x (by omega))
                refine r_if_eq (pc' := 114) (tgt := 116) X dX9_coefficient_111 rfl rfl (by omega) (fun h111 => by exfalso; omega) (fun h111 => ?_)
                refine r_iconst (pc' := 115) X dX9_coefficient_114 rfl ?_
                refine w_iret X hr dX9_coefficient_115 ?_
                try dsimp only
                exact (Or.inr (Or.inl ⟨er108, (RScr.trans sc18 sc108), by omega⟩))
              · refine r_iconst (pc' := 104) X dX9_coefficient_103 rfl ?_
                refine r_goto (tgt := 108) X dX9_coefficient_104 rfl ?_
                refine w_calli (pc' := 111) (st := []) (w_runV X (c_X9_refused l G M3 0 (by first | assumption | omega)) cf_X9_refused k29_0 rfl gw_1087 gp_25 rfl rfl ⟨Nat.le_of_ble_eq_true rfl, Nat.le_of_ble_eq_true rfl⟩ rfl rfl (Nat.le_of_ble_eq_true rfl) ⟨Nat.le_of_ble_eq_true rfl, Nat.le_of_ble_eq_true rfl⟩ gw_1085 dX9_coefficient_108) rfl (fun z108 M16 h108 => ?_)
                have hz108 : z108 = 0 := by rw [h108.1]; rfl
                have ew108 : ∀ a b x, ¬ (a = 29 ∧ b = 0 ∧ x = 0) → M16 a b x = M3 a b x := fun a b x q => by rw [h108.2]; unfold wu; rw [if_neg q]
                have er108 : M16 29 0 0 = 0 := by rw [h108.2]; unfold wu; rw [if_pos ⟨rfl, rfl, rfl⟩]
                have sc108 : RScr M3 M16 := fun a b x q => ew108 a b x (by omega)
                have qq108 : PEq N P pv (M16 29) := qq18.keep (fun b x q => ew108 29 b x (by omega))
                refine r_if_eq (pc' := 114) (tgt := 116) X dX9_coefficient_111 rfl rfl (by omega) (fun h111 => ?_) (fun h111 => by exfalso; omega)
                obtain ⟨tN, tP, tA, tB, tE, tC, tQ⟩ := id qq108
                have n13b : M16 29 13 = M3 29 13 := funext fun x => ew108 29 13 x (by omega)
                refine r_iload_n (pc' := 117) X 1 dX9_coefficient_116 rfl rfl rfl ?_
                by_cases hs117 : 0 ≤ q0 ∧ q0 ≤ 4
                · rcases (show q0 = 0 ∨ q0 = 1 ∨ q0 = 2 ∨ q0 = 3 ∨ q0 = 4 by omega) with hs117 | hs117 | hs117 | hs117 | hs117
                  · refine r_tsw (v := 0) (tgt := 152) X dX9_coefficient_117 hs117 (by decide) (by decide) (by decide) rfl rfl ?_
                    refine r_aload_n (pc' := 153) X 0 dX9_coefficient_152 rfl rfl rfl ?_
                    refine gf_29_matrix (pc' := 156) X gw_974 dX9_coefficient_153 rfl ?_
                    refine r_iconst (pc' := 157) X dX9_coefficient_156 rfl ?_
                    refine r_iload_n (pc' := 158) X 2 dX9_coefficient_157 rfl rfl rfl ?_
                    refine r_imul (pc' := 159) X dX9_coefficient_158 rfl ?_
                    refine r_iload_n (pc' := 160) X 3 dX9_coefficient_159 rfl rfl rfl ?_
                    refine r_iadd (pc' := 161) X dX9_coefficient_160 rfl ?_
                    refine r_iald (i := (4 * i.toNat + j.toNat)) (pc' := 162) X k29_2 (by omega) (by omega) (by decide) dX9_coefficient_161 rfl ?_
                    refine w_iret X hr dX9_coefficient_162 ?_
                    try dsimp only
                    refine Or.inl ⟨er108, RScr.trans sc18 sc108, by omega, by omega, by omega, ?_⟩
                    unfold coefF
                    first
                      | (rw [hs117]; first | exact tA _ _ (by omega) (by omega) | exact tB _ (by omega) | exact tE _ (by omega) | exact tC _ _ (by omega) (by omega) | exact tQ _ (by omega))
                      | (rw [show q0 = 5 by omega, n13b, n13]; exact v2 _ _ (by omega) (by omega))
                  · refine r_tsw (v := 1) (tgt := 163) X dX9_coefficient_117 hs117 (by decide) (by decide) (by decide) rfl rfl ?_
                    refine r_aload_n (pc' := 164) X 0 dX9_coefficient_163 rfl rfl rfl ?_
                    refine gf_29_drive (pc' := 167) X gw_975 dX9_coefficient_164 rfl ?_
                    refine r_iload_n (pc' := 168) X 2 dX9_coefficient_167 rfl rfl rfl ?_
                    refine r_iald (i := i.toNat) (pc' := 169) X k29_3 (by omega) (by omega) (by decide) dX9_coefficient_168 rfl ?_
                    refine w_iret X hr dX9_coefficient_169 ?_
                    try dsimp only
                    refine Or.inl ⟨er108, RScr.trans sc18 sc108, by omega, by omega, by omega, ?_⟩
                    unfold coefF
                    first
                      | (rw [hs117]; first | exact tA _ _ (by omega) (by omega) | exact tB _ (by omega) | exact tE _ (by omega) | exact tC _ _ (by omega) (by omega) | exact tQ _ (by omega))
                      | (rw [show q0 = 5 by omega, n13b, n13]; exact v2 _ _ (by omega) (by omega))
                  · refine r_tsw (v := 2) (tgt := 170) X dX9_coefficient_117 hs117 (by decide) (by decide) (by decide) rfl rfl ?_
                    refine r_aload_n (pc' := 171) X 0 dX9_coefficient_170 rfl rfl rfl ?_
                    refine gf_29_push (pc' := 174) X gw_976 dX9_coefficient_171 rfl ?_
                    refine r_iload_n (pc' := 175) X 2 dX9_coefficient_174 rfl rfl rfl ?_
                    refine r_iald (i := i.toNat) (pc' := 176) X k29_4 (by omega) (by omega) (by decide) dX9_coefficient_175 rfl ?_
                    refine w_iret X hr dX9_coefficient_176 ?_
                    try dsimp only
                    refine Or.inl ⟨er108, RScr.trans sc18 sc108, by omega, by omega, by omega, ?_⟩
                    unfold coefF
                    first
                      | (rw [hs117]; first | exact tA _ _ (by omega) (by omega) | exact tB _ (by omega) | exact tE _ (by omega) | exact tC _ _ (by omega) (by omega) | exact tQ _ (by omega))
                      | (rw [show q0 = 5 by omega, n13b, n13]; exact v2 _ _ (by omega) (by omega))
                  · refine r_tsw (v := 3) (tgt := 177) X dX9_coefficient_117 hs117 (by decide) (by decide) (by decide) rfl rfl ?_
                    refine r_aload_n (pc' := 178) X 0 dX9_coefficient_177 rfl rfl rfl ?_
                    refine gf_29_view (pc' := 181) X gw_977 dX9_coefficient_178 rfl ?_
                    refine r_iconst (pc' := 182) X dX9_coefficient_181 rfl ?_
                    refine r_iload_n (pc' := 183) X 2 dX9_coefficient_182 rfl rfl rfl ?_
                    refine r_imul (pc' := 184) X dX9_coefficient_183 rfl ?_
                    refine r_iload_n (pc' := 185) X 3 dX9_coefficient_184 rfl rfl rfl ?_
                    refine r_iadd (pc' := 186) X dX9_coefficient_185 rfl ?_
                    refine r_iald (i := (4 * i.toNat + j.toNat)) (pc' := 187) X k29_5 (by omega) (by omega) (by decide) dX9_coefficient_186 rfl ?_
                    refine w_iret X hr dX9_coefficient_187 ?_
                    try dsimp only
                    refine Or.inl ⟨er108, RScr.trans sc18 sc108, by omega, by omega, by omega, ?_⟩
                    unfold coefF
                    first
                      | (rw [hs117]; first | exact tA _ _ (by omega) (by omega) | exact tB _ (by omega) | exact tE _ (by omega) | exact tC _ _ (by omega) (by omega) | exact tQ _ (by omega))
                      | (rw [show q0 = 5 by omega, n13b, n13]; exact v2 _ _ (by omega) (by omega))
                  · refine r_tsw (v := 4) (tgt := 188) X dX9_coefficient_117 hs117 (by decide) (by decide) (by decide) rfl rfl ?_
                    refine r_aload_n (pc' := 189) X 0 dX9_coefficient_188 rfl rfl rfl ?_
                    refine gf_29_quantum (pc' := 192) X gw_978 dX9_coefficient_189 rfl ?_
                    refine r_iload_n (pc' := 193) X 2 dX9_coefficient_192 rfl rfl rfl ?_
                    refine r_iald (i := i.toNat) (pc' := 194) X k29_6 (by omega) (by omega) (by decide) dX9_coefficient_193 rfl ?_
                    refine w_iret X hr dX9_coefficient_194 ?_
                    try dsimp only
                    refine Or.inl ⟨er108, RScr.trans sc18 sc108, by omega, by omega, by omega, ?_⟩
                    unfold coefF
                    first
                      | (rw [hs117]; first | exact tA _ _ (by omega) (by omega) | exact tB _ (by omega) | exact tE _ (by omega) | exact tC _ _ (by omega) (by omega) | exact tQ _ (by omega))
                      | (rw [show q0 = 5 by omega, n13b, n13]; exact v2 _ _ (by omega) (by omega))
                · refine r_tswD (tgt := 195) X dX9_coefficient_117 (by omega) (by omega) rfl ?_
                  refine r_aload_n (pc' := 196) X 0 dX9_coefficient_195 rfl rfl rfl ?_
                  refine gf_29_now (pc' := 199) X gw_987 dX9_coefficient_196 rfl ?_
                  refine r_bipush (pc' := 201) X dX9_coefficient_199 rfl rfl ?_
                  refine r_iconst (pc' := 202) X dX9_coefficient_201 rfl ?_
                  refine r_iload_n (pc' := 203) X 2 dX9_coefficient_202 rfl rfl rfl ?_
                  refine r_imul (pc' := 204) X dX9_coefficient_203 rfl ?_
                  refine r_iadd (pc' := 205) X dX9_coefficient_204 rfl ?_
                  refine r_iload_n (pc' := 206) X 3 dX9_coefficient_205 rfl rfl rfl ?_
                  refine r_iadd (pc' := 207) X dX9_coefficient_206 rfl ?_
                  refine r_iald (i := (16 + 3 * i.toNat + j.toNat)) (pc' := 208) X k29_13 (by omega) (by omega) (by decide) dX9_coefficient_207 rfl ?_
                  refine w_iret X hr dX9_coefficient_208 ?_
                  try dsimp only
                  refine Or.inl ⟨er108, RScr.trans sc18 sc108, by omega, by omega, by omega, ?_⟩
                  unfold coefF
                  first
                    | (rw [hs117]; first | exact tA _ _ (by omega) (by omega) | exact tB _ (by omega) | exact tE _ (by omega) | exact tC _ _ (by omega) (by omega) | exact tQ _ (by omega))
                    | (rw [show q0 = 5 by omega, n13b, n13]; exact v2 _ _ (by omega) (by omega))
        · refine r_aload_n (pc' := 61) X 0 dX9_coefficient_60 rfl rfl rfl ?_
          refine r_iload_n (pc' := 62) X 3 dX9_coefficient_61 rfl rfl rfl ?_
          refine w_calli (pc' := 65) (st := []) (w_runV X (c_X9_isState l G M3 N P pv (by first | assumption | omega) (by first | assumption | omega) j (by first | assumption | omega)) cf_X9_isState k29_0 rfl gw_1156 gp_36 rfl rfl ⟨Nat.le_of_ble_eq_true rfl, Nat.le_of_ble_eq_true rfl⟩ rfl rfl (Nat.le_of_ble_eq_true rfl) ⟨Nat.le_of_ble_eq_true rfl, Nat.le_of_ble_eq_true rfl⟩ gw_1154 dX9_coefficient_62) rfl (fun z62 M17 h62 => ?_)
          have hz62 := h62.1
          obtain rfl := h62.2.symm
          have hi62 : z62 = 0 ∨ z62 = 1 := by rw [hz62]; split <;> omega
          have hq62 : z62 = 1 ↔ (0 ≤ j ∧ j < N) := by rw [hz62]; split <;> omega
          refine r_goto (tgt := 90) X dX9_coefficient_65 rfl ?_
          refine r_istore (pc' := 92) (lc' := [(0, vR G (29, 0)), (1, vI q0), (2, vI i), (3, vI j), (4, vI z38), (5, vI z62)]) X [1, 2, 3, 4, 5, 0] dX9_coefficient_90 (by decide) rfl rfl ?_
          refine r_aload_n (pc' := 93) X 0 dX9_coefficient_92 rfl rfl rfl ?_
          refine r_iload (pc' := 95) X 4 dX9_coefficient_93 rfl rfl ?_
          refine r_if_eq (pc' := 98) (tgt := 107) X dX9_coefficient_95 rfl rfl (by omega) (fun h95 => ?_) (fun h95 => ?_)
          · refine r_iconst (pc' := 108) X dX9_coefficient_107 rfl ?_
            refine w_calli (pc' := 111) (st := []) (w_runV X (c_X9_refused l G M3 1 (by first | assumption | omega)) cf_X9_refused k29_0 rfl gw_1087 gp_25 rfl rfl ⟨Nat.le_of_ble_eq_true rfl, Nat.le_of_ble_eq_true rfl⟩ rfl rfl (Nat.le_of_ble_eq_true rfl) ⟨Nat.le_of_ble_eq_true rfl, Nat.le_of_ble_eq_true rfl⟩ gw_1085 dX9_coefficient_108) rfl (fun z108 M18 h108 => ?_)
            have hz108 : z108 = 1 := by rw [h108.1]; rfl
            have ew108 : ∀ a b x, ¬ (a = 29 ∧ b = 0 ∧ x = 0) → M18 a b x = M3 a b x := fun a b x q => by rw [h108.2]; unfold wu; rw [if_neg q]
            have er108 : M18 29 0 0 = 1 := by rw [h108.2]; unfold wu; rw [if_pos ⟨rfl, rfl, rfl⟩]
            have sc108 : RScr M3 M18 := fun a b x q => ew108 a b x (by omega)
            have qq108 : PEq N P pv (M18 29) := qq18.keep (fun b x q => ew108 29 b x (by omega))
            refine r_if_eq (pc' := 114) (tgt := 116) X dX9_coefficient_111 rfl rfl (by omega) (fun h111 => by exfalso; omega) (fun h111 => ?_)
            refine r_iconst (pc' := 115) X dX9_coefficient_114 rfl ?_
            refine w_iret X hr dX9_coefficient_115 ?_
            try dsimp only
            exact (Or.inr (Or.inl ⟨er108, (RScr.trans sc18 sc108), by omega⟩))
          · refine r_iload (pc' := 100) X 5 dX9_coefficient_98 rfl rfl ?_
            refine r_if_eq (pc' := 103) (tgt := 107) X dX9_coefficient_100 rfl rfl (by omega) (fun h100 => ?_) (fun h100 => ?_)
            · refine r_iconst (pc' := 108) X dX9_coefficient_107 rfl ?_
              refine w_calli (pc' := 111) (st := []) (w_runV X (c_X9_refused l G M3 1 (by first | assumption | omega)) cf_X9_refused k29_0 rfl gw_1087 gp_25 rfl rfl ⟨Nat.le_of_ble_eq_true rfl, Nat.le_of_ble_eq_true rfl⟩ rfl rfl (Nat.le_of_ble_eq_true rfl) ⟨Nat.le_of_ble_eq_true rfl, Nat.le_of_ble_eq_true rfl⟩ gw_1085 dX9_coefficient_108) rfl (fun z108 M19 h108 => ?_)
              have hz108 : z108 = 1 := by rw [h108.1]; rfl
              have ew108 : ∀ a b x, ¬ (a = 29 ∧ b = 0 ∧ x = 0) → M19 a b x = M3 a b x := fun a b x q => by rw [h108.2]; unfold wu; rw [if_neg q]
              have er108 : M19 29 0 0 = 1 := by rw [h108.2]; unfold wu; rw [if_pos ⟨rfl, rfl, rfl⟩]
              have sc108 : RScr M3 M19 := fun a b x q => ew108 a b x (by omega)
              have qq108 : PEq N P pv (M19 29) := qq18.keep (fun b x q => ew108 29 b x (by omega))
              refine r_if_eq (pc' := 114) (tgt := 116) X dX9_coefficient_111 rfl rfl (by omega) (fun h111 => by exfalso; omega) (fun h111 => ?_)
              refine r_iconst (pc' := 115) X dX9_coefficient_114 rfl ?_
              refine w_iret X hr dX9_coefficient_115 ?_
              try dsimp only
              exact (Or.inr (Or.inl ⟨er108, (RScr.trans sc18 sc108), by omega⟩))
            · refine r_iconst (pc' := 104) X dX9_coefficient_103 rfl ?_
              refine r_goto (tgt := 108) X dX9_coefficient_104 rfl ?_
              refine w_calli (pc' := 111) (st := []) (w_runV X (c_X9_refused l G M3 0 (by first | assumption | omega)) cf_X9_refused k29_0 rfl gw_1087 gp_25 rfl rfl ⟨Nat.le_of_ble_eq_true rfl, Nat.le_of_ble_eq_true rfl⟩ rfl rfl (Nat.le_of_ble_eq_true rfl) ⟨Nat.le_of_ble_eq_true rfl, Nat.le_of_ble_eq_true rfl⟩ gw_1085 dX9_coefficient_108) rfl (fun z108 M20 h108 => ?_)
              have hz108 : z108 = 0 := by rw [h108.1]; rfl
              have ew108 : ∀ a b x, ¬ (a = 29 ∧ b = 0 ∧ x = 0) → M20 a b x = M3 a b x := fun a b x q => by rw [h108.2]; unfold wu; rw [if_neg q]
              have er108 : M20 29 0 0 = 0 := by rw [h108.2]; unfold wu; rw [if_pos ⟨rfl, rfl, rfl⟩]
              have sc108 : RScr M3 M20 := fun a b x q => ew108 a b x (by omega)
              have qq108 : PEq N P pv (M20 29) := qq18.keep (fun b x q => ew108 29 b x (by omega))
              refine r_if_eq (pc' := 114) (tgt := 116) X dX9_coefficient_111 rfl rfl (by omega) (fun h111 => ?_) (fun h111 => by exfalso; omega)
              obtain ⟨tN, tP, tA, tB, tE, tC, tQ⟩ := id qq108
              have n13b : M20 29 13 = M3 29 13 := funext fun x => ew108 29 13 x (by omega)
              refine r_iload_n (pc' := 117) X 1 dX9_coefficient_116 rfl rfl rfl ?_
              by_cases hs117 : 0 ≤ q0 ∧ q0 ≤ 4
              · rcases (show q0 = 0 ∨ q0 = 1 ∨ q0 = 2 ∨ q0 = 3 ∨ q0 = 4 by omega) with hs117 | hs117 | hs117 | hs117 | hs117
                · refine r_tsw (v := 0) (tgt := 152) X dX9_coefficient_117 hs117 (by decide) (by decide) (by decide) rfl rfl ?_
                  refine r_aload_n (pc' := 153) X 0 dX9_coefficient_152 rfl rfl rfl ?_
                  refine gf_29_matrix (pc' := 156) X gw_974 dX9_coefficient_153 rfl ?_
                  refine r_iconst (pc' := 157) X dX9_coefficient_156 rfl ?_
                  refine r_iload_n (pc' := 158) X 2 dX9_coefficient_157 rfl rfl rfl ?_
                  refine r_imul (pc' := 159) X dX9_coefficient_158 rfl ?_
                  refine r_iload_n (pc' := 160) X 3 dX9_coefficient_159 rfl rfl rfl ?_
                  refine r_iadd (pc' := 161) X dX9_coefficient_160 rfl ?_
                  refine r_iald (i := (4 * i.toNat + j.toNat)) (pc' := 162) X k29_2 (by omega) (by omega) (by decide) dX9_coefficient_161 rfl ?_
                  refine w_iret X hr dX9_coefficient_162 ?_
                  try dsimp only
                  refine Or.inl ⟨er108, RScr.trans sc18 sc108, by omega, by omega, by omega, ?_⟩
                  unfold coefF
                  first
                    | (rw [hs117]; first | exact tA _ _ (by omega) (by omega) | exact tB _ (by omega) | exact tE _ (by omega) | exact tC _ _ (by omega) (by omega) | exact tQ _ (by omega))
                    | (rw [show q0 = 5 by omega, n13b, n13]; exact v2 _ _ (by omega) (by omega))
                · refine r_tsw (v := 1) (tgt := 163) X dX9_coefficient_117 hs117 (by decide) (by decide) (by decide) rfl rfl ?_
                  refine r_aload_n (pc' := 164) X 0 dX9_coefficient_163 rfl rfl rfl ?_
                  refine gf_29_drive (pc' := 167) X gw_975 dX9_coefficient_164 rfl ?_
                  refine r_iload_n (pc' := 168) X 2 dX9_coefficient_167 rfl rfl rfl ?_
                  refine r_iald (i := i.toNat) (pc' := 169) X k29_3 (by omega) (by omega) (by decide) dX9_coefficient_168 rfl ?_
                  refine w_iret X hr dX9_coefficient_169 ?_
                  try dsimp only
                  refine Or.inl ⟨er108, RScr.trans sc18 sc108, by omega, by omega, by omega, ?_⟩
                  unfold coefF
                  first
                    | (rw [hs117]; first | exact tA _ _ (by omega) (by omega) | exact tB _ (by omega) | exact tE _ (by omega) | exact tC _ _ (by omega) (by omega) | exact tQ _ (by omega))
                    | (rw [show q0 = 5 by omega, n13b, n13]; exact v2 _ _ (by omega) (by omega))
                · refine r_tsw (v := 2) (tgt := 170) X dX9_coefficient_117 hs117 (by decide) (by decide) (by decide) rfl rfl ?_
                  refine r_aload_n (pc' := 171) X 0 dX9_coefficient_170 rfl rfl rfl ?_
                  refine gf_29_push (pc' := 174) X gw_976 dX9_coefficient_171 rfl ?_
                  refine r_iload_n (pc' := 175) X 2 dX9_coefficient_174 rfl rfl rfl ?_
                  refine r_iald (i := i.toNat) (pc' := 176) X k29_4 (by omega) (by omega) (by decide) dX9_coefficient_175 rfl ?_
                  refine w_iret X hr dX9_coefficient_176 ?_
                  try dsimp only
                  refine Or.inl ⟨er108, RScr.trans sc18 sc108, by omega, by omega, by omega, ?_⟩
                  unfold coefF
                  first
                    | (rw [hs117]; first | exact tA _ _ (by omega) (by omega) | exact tB _ (by omega) | exact tE _ (by omega) | exact tC _ _ (by omega) (by omega) | exact tQ _ (by omega))
                    | (rw [show q0 = 5 by omega, n13b, n13]; exact v2 _ _ (by omega) (by omega))
                · refine r_tsw (v := 3) (tgt := 177) X dX9_coefficient_117 hs117 (by decide) (by decide) (by decide) rfl rfl ?_
                  refine r_aload_n (pc' := 178) X 0 dX9_coefficient_177 rfl rfl rfl ?_
                  refine gf_29_view (pc' := 181) X gw_977 dX9_coefficient_178 rfl ?_
                  refine r_iconst (pc' := 182) X dX9_coefficient_181 rfl ?_
                  refine r_iload_n (pc' := 183) X 2 dX9_coefficient_182 rfl rfl rfl ?_
                  refine r_imul (pc' := 184) X dX9_coefficient_183 rfl ?_
                  refine r_iload_n (pc' := 185) X 3 dX9_coefficient_184 rfl rfl rfl ?_
                  refine r_iadd (pc' := 186) X dX9_coefficient_185 rfl ?_
                  refine r_iald (i := (4 * i.toNat + j.toNat)) (pc' := 187) X k29_5 (by omega) (by omega) (by decide) dX9_coefficient_186 rfl ?_
                  refine w_iret X hr dX9_coefficient_187 ?_
                  try dsimp only
                  refine Or.inl ⟨er108, RScr.trans sc18 sc108, by omega, by omega, by omega, ?_⟩
                  unfold coefF
                  first
                    | (rw [hs117]; first | exact tA _ _ (by omega) (by omega) | exact tB _ (by omega) | exact tE _ (by omega) | exact tC _ _ (by omega) (by omega) | exact tQ _ (by omega))
                    | (rw [show q0 = 5 by omega, n13b, n13]; exact v2 _ _ (by omega) (by omega))
                · refine r_tsw (v := 4) (tgt := 188) X dX9_coefficient_117 hs117 (by decide) (by decide) (by decide) rfl rfl ?_
                  refine r_aload_n (pc' := 189) X 0 dX9_coefficient_188 rfl rfl rfl ?_
                  refine gf_29_quantum (pc' := 192) X gw_978 dX9_coefficient_189 rfl ?_
                  refine r_iload_n (pc' := 193) X 2 dX9_coefficient_192 rfl rfl rfl ?_
                  refine r_iald (i := i.toNat) (pc' := 194) X k29_6 (by omega) (by omega) (by decide) dX9_coefficient_193 rfl ?_
                  refine w_iret X hr dX9_coefficient_194 ?_
                  try dsimp only
                  refine Or.inl ⟨er108, RScr.trans sc18 sc108, by omega, by omega, by omega, ?_⟩
                  unfold coefF
                  first
                    | (rw [hs117]; first | exact tA _ _ (by omega) (by omega) | exact tB _ (by omega) | exact tE _ (by omega) | exact tC _ _ (by omega) (by omega) | exact tQ _ (by omega))
                    | (rw [show q0 = 5 by omega, n13b, n13]; exact v2 _ _ (by omega) (by omega))
              · refine r_tswD (tgt := 195) X dX9_coefficient_117 (by omega) (by omega) rfl ?_
                refine r_aload_n (pc' := 196) X 0 dX9_coefficient_195 rfl rfl rfl ?_
                refine gf_29_now (pc' := 199) X gw_987 dX9_coefficient_196 rfl ?_
                refine r_bipush (pc' := 201) X dX9_coefficient_199 rfl rfl ?_
                refine r_iconst (pc' := 202) X dX9_coefficient_201 rfl ?_
                refine r_iload_n (pc' := 203) X 2 dX9_coefficient_202 rfl rfl rfl ?_
                refine r_imul (pc' := 204) X dX9_coefficient_203 rfl ?_
                refine r_iadd (pc' := 205) X dX9_coefficient_204 rfl ?_
                refine r_iload_n (pc' := 206) X 3 dX9_coefficient_205 rfl rfl rfl ?_
                refine r_iadd (pc' := 207) X dX9_coefficient_206 rfl ?_
                refine r_iald (i := (16 + 3 * i.toNat + j.toNat)) (pc' := 208) X k29_13 (by omega) (by omega) (by decide) dX9_coefficient_207 rfl ?_
                refine w_iret X hr dX9_coefficient_208 ?_
                try dsimp only
                refine Or.inl ⟨er108, RScr.trans sc18 sc108, by omega, by omega, by omega, ?_⟩
                unfold coefF
                first
                  | (rw [hs117]; first | exact tA _ _ (by omega) (by omega) | exact tB _ (by omega) | exact tE _ (by omega) | exact tC _ _ (by omega) (by omega) | exact tQ _ (by omega))
                  | (rw [show q0 = 5 by omega, n13b, n13]; exact v2 _ _ (by omega) (by omega))
    · refine r_iload_n (pc' := 32) X 1 dX9_coefficient_31 rfl rfl rfl ?_
      refine r_iconst (pc' := 33) X dX9_coefficient_32 rfl ?_
      refine r_icmp_ne (pc' := 36) (tgt := 44) X dX9_coefficient_33 rfl rfl (by omega) (by omega) (fun h33 => ?_) (fun h33 => ?_)
      · refine r_aload_n (pc' := 45) X 0 dX9_coefficient_44 rfl rfl rfl ?_
        refine r_iload_n (pc' := 46) X 2 dX9_coefficient_45 rfl rfl rfl ?_
        refine w_calli (pc' := 49) (st := []) (w_runV X (c_X9_isState l G M3 N P pv (by first | assumption | omega) (by first | assumption | omega) i (by first | assumption | omega)) cf_X9_isState k29_0 rfl gw_1156 gp_36 rfl rfl ⟨Nat.le_of_ble_eq_true rfl, Nat.le_of_ble_eq_true rfl⟩ rfl rfl (Nat.le_of_ble_eq_true rfl) ⟨Nat.le_of_ble_eq_true rfl, Nat.le_of_ble_eq_true rfl⟩ gw_1154 dX9_coefficient_46) rfl (fun z46 M21 h46 => ?_)
        have hz46 := h46.1
        obtain rfl := h46.2.symm
        have hi46 : z46 = 0 ∨ z46 = 1 := by rw [hz46]; split <;> omega
        have hq46 : z46 = 1 ↔ (0 ≤ i ∧ i < N) := by rw [hz46]; split <;> omega
        refine r_istore (pc' := 51) (lc' := [(0, vR G (29, 0)), (1, vI q0), (2, vI i), (3, vI j), (4, vI z46)]) X [1, 2, 3, 4, 0] dX9_coefficient_49 (by decide) rfl rfl ?_
        refine r_iload_n (pc' := 52) X 1 dX9_coefficient_51 rfl rfl rfl ?_
        refine r_if_eq (pc' := 55) (tgt := 60) X dX9_coefficient_52 rfl rfl (by omega) (fun h52 => ?_) (fun h52 => ?_)
        · refine r_aload_n (pc' := 61) X 0 dX9_coefficient_60 rfl rfl rfl ?_
          refine r_iload_n (pc' := 62) X 3 dX9_coefficient_61 rfl rfl rfl ?_
          refine w_calli (pc' := 65) (st := []) (w_runV X (c_X9_isState l G M3 N P pv (by first | assumption | omega) (by first | assumption | omega) j (by first | assumption | omega)) cf_X9_isState k29_0 rfl gw_1156 gp_36 rfl rfl ⟨Nat.le_of_ble_eq_true rfl, Nat.le_of_ble_eq_true rfl⟩ rfl rfl (Nat.le_of_ble_eq_true rfl) ⟨Nat.le_of_ble_eq_true rfl, Nat.le_of_ble_eq_true rfl⟩ gw_1154 dX9_coefficient_62) rfl (fun z62 M22 h62 => ?_)
          have hz62 := h62.1
          obtain rfl := h62.2.symm
          have hi62 : z62 = 0 ∨ z62 = 1 := by rw [hz62]; split <;> omega
          have hq62 : z62 = 1 ↔ (0 ≤ j ∧ j < N) := by rw [hz62]; split <;> omega
          refine r_goto (tgt := 90) X dX9_coefficient_65 rfl ?_
          refine r_istore (pc' := 92) (lc' := [(0, vR G (29, 0)), (1, vI q0), (2, vI i), (3, vI j), (4, vI z46), (5, vI z62)]) X [1, 2, 3, 4, 5, 0] dX9_coefficient_90 (by decide) rfl rfl ?_
          refine r_aload_n (pc' := 93) X 0 dX9_coefficient_92 rfl rfl rfl ?_
          refine r_iload (pc' := 95) X 4 dX9_coefficient_93 rfl rfl ?_
          refine r_if_eq (pc' := 98) (tgt := 107) X dX9_coefficient_95 rfl rfl (by omega) (fun h95 => ?_) (fun h95 => ?_)
          · refine r_iconst (pc' := 108) X dX9_coefficient_107 rfl ?_
            refine w_calli (pc' := 111) (st := []) (w_runV X (c_X9_refused l G M3 1 (by first | assumption | omega)) cf_X9_refused k29_0 rfl gw_1087 gp_25 rfl rfl ⟨Nat.le_of_ble_eq_true rfl, Nat.le_of_ble_eq_true rfl⟩ rfl rfl (Nat.le_of_ble_eq_true rfl) ⟨Nat.le_of_ble_eq_true rfl, Nat.le_of_ble_eq_true rfl⟩ gw_1085 dX9_coefficient_108) rfl (fun z108 M23 h108 => ?_)
            have hz108 : z108 = 1 := by rw [h108.1]; rfl
            have ew108 : ∀ a b x, ¬ (a = 29 ∧ b = 0 ∧ x = 0) → M23 a b x = M3 a b x := fun a b x q => by rw [h108.2]; unfold wu; rw [if_neg q]
            have er108 : M23 29 0 0 = 1 := by rw [h108.2]; unfold wu; rw [if_pos ⟨rfl, rfl, rfl⟩]
            have sc108 : RScr M3 M23 := fun a b x q => ew108 a b x (by omega)
            have qq108 : PEq N P pv (M23 29) := qq18.keep (fun b x q => ew108 29 b x (by omega))
            refine r_if_eq (pc' := 114) (tgt := 116) X dX9_coefficient_111 rfl rfl (by omega) (fun h111 => by exfalso; omega) (fun h111 => ?_)
            refine r_iconst (pc' := 115) X dX9_coefficient_114 rfl ?_
            refine w_iret X hr dX9_coefficient_115 ?_
            try dsimp only
            exact (Or.inr (Or.inl ⟨er108, (RScr.trans sc18 sc108), by omega⟩))
          · refine r_iload (pc' := 100) X 5 dX9_coefficient_98 rfl rfl ?_
            refine r_if_eq (pc' := 103) (tgt := 107) X dX9_coefficient_100 rfl rfl (by omega) (fun h100 => ?_) (fun h100 => ?_)
            · refine r_iconst (pc' := 108) X dX9_coefficient_107 rfl ?_
              refine w_calli (pc' := 111) (st := []) (w_runV X (c_X9_refused l G M3 1 (by first | assumption | omega)) cf_X9_refused k29_0 rfl gw_1087 gp_25 rfl rfl ⟨Nat.le_of_ble_eq_true rfl, Nat.le_of_ble_eq_true rfl⟩ rfl rfl (Nat.le_of_ble_eq_true rfl) ⟨Nat.le_of_ble_eq_true rfl, Nat.le_of_ble_eq_true rfl⟩ gw_1085 dX9_coefficient_108) rfl (fun z108 M24 h108 => ?_)
              have hz108 : z108 = 1 := by rw [h108.1]; rfl
              have ew108 : ∀ a b x, ¬ (a = 29 ∧ b = 0 ∧ x = 0) → M24 a b x = M3 a b x := fun a b x q => by rw [h108.2]; unfold wu; rw [if_neg q]
              have er108 : M24 29 0 0 = 1 := by rw [h108.2]; unfold wu; rw [if_pos ⟨rfl, rfl, rfl⟩]
              have sc108 : RScr M3 M24 := fun a b x q => ew108 a b x (by omega)
              have qq108 : PEq N P pv (M24 29) := qq18.keep (fun b x q => ew108 29 b x (by omega))
              refine r_if_eq (pc' := 114) (tgt := 116) X dX9_coefficient_111 rfl rfl (by omega) (fun h111 => by exfalso; omega) (fun h111 => ?_)
              refine r_iconst (pc' := 115) X dX9_coefficient_114 rfl ?_
              refine w_iret X hr dX9_coefficient_115 ?_
              try dsimp only
              exact (Or.inr (Or.inl ⟨er108, (RScr.trans sc18 sc108), by omega⟩))
            · refine r_iconst (pc' := 104) X dX9_coefficient_103 rfl ?_
              refine r_goto (tgt := 108) X dX9_coefficient_104 rfl ?_
              refine w_calli (pc' := 111) (st := []) (w_runV X (c_X9_refused l G M3 0 (by first | assumption | omega)) cf_X9_refused k29_0 rfl gw_1087 gp_25 rfl rfl ⟨Nat.le_of_ble_eq_true rfl, Nat.le_of_ble_eq_true rfl⟩ rfl rfl (Nat.le_of_ble_eq_true rfl) ⟨Nat.le_of_ble_eq_true rfl, Nat.le_of_ble_eq_true rfl⟩ gw_1085 dX9_coefficient_108) rfl (fun z108 M25 h108 => ?_)
              have hz108 : z108 = 0 := by rw [h108.1]; rfl
              have ew108 : ∀ a b x, ¬ (a = 29 ∧ b = 0 ∧ x = 0) → M25 a b x = M3 a b x := fun a b x q => by rw [h108.2]; unfold wu; rw [if_neg q]
              have er108 : M25 29 0 0 = 0 := by rw [h108.2]; unfold wu; rw [if_pos ⟨rfl, rfl, rfl⟩]
              have sc108 : RScr M3 M25 := fun a b x q => ew108 a b x (by omega)
              have qq108 : PEq N P pv (M25 29) := qq18.keep (fun b x q => ew108 29 b x (by omega))
              refine r_if_eq (pc' := 114) (tgt := 116) X dX9_coefficient_111 rfl rfl (by omega) (fun h111 => ?_) (fun h111 => by exfalso; omega)
              obtain ⟨tN, tP, tA, tB, tE, tC, tQ⟩ := id qq108
              have n13b : M25 29 13 = M3 29 13 := funext fun x => ew108 29 13 x (by omega)
              refine r_iload_n (pc' := 117) X 1 dX9_coefficient_116 rfl rfl rfl ?_
              by_cases hs117 : 0 ≤ q0 ∧ q0 ≤ 4
              · rcases (show q0 = 0 ∨ q0 = 1 ∨ q0 = 2 ∨ q0 = 3 ∨ q0 = 4 by omega) with hs117 | hs117 | hs117 | hs117 | hs117
                · refine r_tsw (v := 0) (tgt := 152) X dX9_coefficient_117 hs117 (by decide) (by decide) (by decide) rfl rfl ?_
                  refine r_aload_n (pc' := 153) X 0 dX9_coefficient_152 rfl rfl rfl ?_
                  refine gf_29_matrix (pc' := 156) X gw_974 dX9_coefficient_153 rfl ?_
                  refine r_iconst (pc' := 157) X dX9_coefficient_156 rfl ?_
                  refine r_iload_n (pc' := 158) X 2 dX9_coefficient_157 rfl rfl rfl ?_
                  refine r_imul (pc' := 159) X dX9_coefficient_158 rfl ?_
                  refine r_iload_n (pc' := 160) X 3 dX9_coefficient_159 rfl rfl rfl ?_
                  refine r_iadd (pc' := 161) X dX9_coefficient_160 rfl ?_
                  refine r_iald (i := (4 * i.toNat + j.toNat)) (pc' := 162) X k29_2 (by omega) (by omega) (by decide) dX9_coefficient_161 rfl ?_
                  refine w_iret X hr dX9_coefficient_162 ?_
                  try dsimp only
                  refine Or.inl ⟨er108, RScr.trans sc18 sc108, by omega, by omega, by omega, ?_⟩
                  unfold coefF
                  first
                    | (rw [hs117]; first | exact tA _ _ (by omega) (by omega) | exact tB _ (by omega) | exact tE _ (by omega) | exact tC _ _ (by omega) (by omega) | exact tQ _ (by omega))
                    | (rw [show q0 = 5 by omega, n13b, n13]; exact v2 _ _ (by omega) (by omega))
                · refine r_tsw (v := 1) (tgt := 163) X dX9_coefficient_117 hs117 (by decide) (by decide) (by decide) rfl rfl ?_
                  refine r_aload_n (pc' := 164) X 0 dX9_coefficient_163 rfl rfl rfl ?_
                  refine gf_29_drive (pc' := 167) X gw_975 dX9_coefficient_164 rfl ?_
                  refine r_iload_n (pc' := 168) X 2 dX9_coefficient_167 rfl rfl rfl ?_
                  refine r_iald (i := i.toNat) (pc' := 169) X k29_3 (by omega) (by omega) (by decide) dX9_coefficient_168 rfl ?_
                  refine w_iret X hr dX9_coefficient_169 ?_
                  try dsimp only
                  refine Or.inl ⟨er108, RScr.trans sc18 sc108, by omega, by omega, by omega, ?_⟩
                  unfold coefF
                  first
                    | (rw [hs117]; first | exact tA _ _ (by omega) (by omega) | exact tB _ (by omega) | exact tE _ (by omega) | exact tC _ _ (by omega) (by omega) | exact tQ _ (by omega))
                    | (rw [show q0 = 5 by omega, n13b, n13]; exact v2 _ _ (by omega) (by omega))
                · refine r_tsw (v := 2) (tgt := 170) X dX9_coefficient_117 hs117 (by decide) (by decide) (by decide) rfl rfl ?_
                  refine r_aload_n (pc' := 171) X 0 dX9_coefficient_170 rfl rfl rfl ?_
                  refine gf_29_push (pc' := 174) X gw_976 dX9_coefficient_171 rfl ?_
                  refine r_iload_n (pc' := 175) X 2 dX9_coefficient_174 rfl rfl rfl ?_
                  refine r_iald (i := i.toNat) (pc' := 176) X k29_4 (by omega) (by omega) (by decide) dX9_coefficient_175 rfl ?_
                  refine w_iret X hr dX9_coefficient_176 ?_
                  try dsimp only
                  refine Or.inl ⟨er108, RScr.trans sc18 sc108, by omega, by omega, by omega, ?_⟩
                  unfold coefF
                  first
                    | (rw [hs117]; first | exact tA _ _ (by omega) (by omega) | exact tB _ (by omega) | exact tE _ (by omega) | exact tC _ _ (by omega) (by omega) | exact tQ _ (by omega))
                    | (rw [show q0 = 5 by omega, n13b, n13]; exact v2 _ _ (by omega) (by omega))
                · refine r_tsw (v := 3) (tgt := 177) X dX9_coefficient_117 hs117 (by decide) (by decide) (by decide) rfl rfl ?_
                  refine r_aload_n (pc' := 178) X 0 dX9_coefficient_177 rfl rfl rfl ?_
                  refine gf_29_view (pc' := 181) X gw_977 dX9_coefficient_178 rfl ?_
                  refine r_iconst (pc' := 182) X dX9_coefficient_181 rfl ?_
                  refine r_iload_n (pc' := 183) X 2 dX9_coefficient_182 rfl rfl rfl ?_
                  refine r_imul (pc' := 184) X dX9_coefficient_183 rfl ?_
                  refine r_iload_n (pc' := 185) X 3 dX9_coefficient_184 rfl rfl rfl ?_
                  refine r_iadd (pc' := 186) X dX9_coefficient_185 rfl ?_
                  refine r_iald (i := (4 * i.toNat + j.toNat)) (pc' := 187) X k29_5 (by omega) (by omega) (by decide) dX9_coefficient_186 rfl ?_
                  refine w_iret X hr dX9_coefficient_187 ?_
                  try dsimp only
                  refine Or.inl ⟨er108, RScr.trans sc18 sc108, by omega, by omega, by omega, ?_⟩
                  unfold coefF
                  first
                    | (rw [hs117]; first | exact tA _ _ (by omega) (by omega) | exact tB _ (by omega) | exact tE _ (by omega) | exact tC _ _ (by omega) (by omega) | exact tQ _ (by omega))
                    | (rw [show q0 = 5 by omega, n13b, n13]; exact v2 _ _ (by omega) (by omega))
                · refine r_tsw (v := 4) (tgt := 188) X dX9_coefficient_117 hs117 (by decide) (by decide) (by decide) rfl rfl ?_
                  refine r_aload_n (pc' := 189) X 0 dX9_coefficient_188 rfl rfl rfl ?_
                  refine gf_29_quantum (pc' := 192) X gw_978 dX9_coefficient_189 rfl ?_
                  refine r_iload_n (pc' := 193) X 2 dX9_coefficient_192 rfl rfl rfl ?_
                  refine r_iald (i := i.toNat) (pc' := 194) X k29_6 (by omega) (by omega) (by decide) dX9_coefficient_193 rfl ?_
                  refine w_iret X hr dX9_coefficient_194 ?_
                  try dsimp only
                  refine Or.inl ⟨er108, RScr.trans sc18 sc108, by omega, by omega, by omega, ?_⟩
                  unfold coefF
                  first
                    | (rw [hs117]; first | exact tA _ _ (by omega) (by omega) | exact tB _ (by omega) | exact tE _ (by omega) | exact tC _ _ (by omega) (by omega) | exact tQ _ (by omega))
                    | (rw [show q0 = 5 by omega, n13b, n13]; exact v2 _ _ (by omega) (by omega))
              · refine r_tswD (tgt := 195) X dX9_coefficient_117 (by omega) (by omega) rfl ?_
                refine r_aload_n (pc' := 196) X 0 dX9_coefficient_195 rfl rfl rfl ?_
                refine gf_29_now (pc' := 199) X gw_987 dX9_coefficient_196 rfl ?_
                refine r_bipush (pc' := 201) X dX9_coefficient_199 rfl rfl ?_
                refine r_iconst (pc' := 202) X dX9_coefficient_201 rfl ?_
                refine r_iload_n (pc' := 203) X 2 dX9_coefficient_202 rfl rfl rfl ?_
                refine r_imul (pc' := 204) X dX9_coefficient_203 rfl ?_
                refine r_iadd (pc' := 205) X dX9_coefficient_204 rfl ?_
                refine r_iload_n (pc' := 206) X 3 dX9_coefficient_205 rfl rfl rfl ?_
                refine r_iadd (pc' := 207) X dX9_coefficient_206 rfl ?_
                refine r_iald (i := (16 + 3 * i.toNat + j.toNat)) (pc' := 208) X k29_13 (by omega) (by omega) (by decide) dX9_coefficient_207 rfl ?_
                refine w_iret X hr dX9_coefficient_208 ?_
                try dsimp only
                refine Or.inl ⟨er108, RScr.trans sc18 sc108, by omega, by omega, by omega, ?_⟩
                unfold coefF
                first
                  | (rw [hs117]; first | exact tA _ _ (by omega) (by omega) | exact tB _ (by omega) | exact tE _ (by omega) | exact tC _ _ (by omega) (by omega) | exact tQ _ (by omega))
                  | (rw [show q0 = 5 by omega, n13b, n13]; exact v2 _ _ (by omega) (by omega))
        · refine r_iload_n (pc' := 56) X 1 dX9_coefficient_55 rfl rfl rfl ?_
          refine r_iconst (pc' := 57) X dX9_coefficient_56 rfl ?_
          refine r_icmp_ne (pc' := 60) (tgt := 68) X dX9_coefficient_57 rfl rfl (by omega) (by omega) (fun h57 => ?_) (fun h57 => ?_)
          · refine r_iload_n (pc' := 69) X 1 dX9_coefficient_68 rfl rfl rfl ?_
            refine r_iconst (pc' := 70) X dX9_coefficient_69 rfl ?_
            refine r_icmp_ne (pc' := 73) (tgt := 81) X dX9_coefficient_70 rfl rfl (by omega) (by omega) (fun h70 => ?_) (fun h70 => ?_)
            · refine r_iload_n (pc' := 82) X 3 dX9_coefficient_81 rfl rfl rfl ?_
              refine r_if_ne (pc' := 85) (tgt := 89) X dX9_coefficient_82 rfl rfl (by omega) (fun h82 => ?_) (fun h82 => ?_)
              · refine r_iconst (pc' := 90) X dX9_coefficient_89 rfl ?_
                refine r_istore (pc' := 92) (lc' := [(0, vR G (29, 0)), (1, vI q0), (2, vI i), (3, vI j), (4, vI z46), (5, vI 0)]) X [1, 2, 3, 4, 5, 0] dX9_coefficient_90 (by decide) rfl rfl ?_
                refine r_aload_n (pc' := 93) X 0 dX9_coefficient_92 rfl rfl rfl ?_
                refine r_iload (pc' := 95) X 4 dX9_coefficient_93 rfl rfl ?_
                refine r_if_eq (pc' := 98) (tgt := 107) X dX9_coefficient_95 rfl rfl (by omega) (fun h95 => ?_) (fun h95 => ?_)
                · refine r_iconst (pc' := 108) X dX9_coefficient_107 rfl ?_
                  refine w_calli (pc' := 111) (st := []) (w_runV X (c_X9_refused l G M3 1 (by first | assumption | omega)) cf_X9_refused k29_0 rfl gw_1087 gp_25 rfl rfl ⟨Nat.le_of_ble_eq_true rfl, Nat.le_of_ble_eq_true rfl⟩ rfl rfl (Nat.le_of_ble_eq_true rfl) ⟨Nat.le_of_ble_eq_true rfl, Nat.le_of_ble_eq_true rfl⟩ gw_1085 dX9_coefficient_108) rfl (fun z108 M26 h108 => ?_)
                  have hz108 : z108 = 1 := by rw [h108.1]; rfl
                  have ew108 : ∀ a b x, ¬ (a = 29 ∧ b = 0 ∧ x = 0) → M26 a b x = M3 a b x := fun a b x q => by rw [h108.2]; unfold wu; rw [if_neg q]
                  have er108 : M26 29 0 0 = 1 := by rw [h108.2]; unfold wu; rw [if_pos ⟨rfl, rfl, rfl⟩]
                  have sc108 : RScr M3 M26 := fun a b x q => ew108 a b x (by omega)
                  have qq108 : PEq N P pv (M26 29) := qq18.keep (fun b x q => ew108 29 b x (by omega))
                  refine r_if_eq (pc' := 114) (tgt := 116) X dX9_coefficient_111 rfl rfl (by omega) (fun h111 => by exfalso; omega) (fun h111 => ?_)
                  refine r_iconst (pc' := 115) X dX9_coefficient_114 rfl ?_
                  refine w_iret X hr dX9_coefficient_115 ?_
                  try dsimp only
                  exact (Or.inr (Or.inl ⟨er108, (RScr.trans sc18 sc108), by omega⟩))
                · refine r_iload (pc' := 100) X 5 dX9_coefficient_98 rfl rfl ?_
                  refine r_if_eq (pc' := 103) (tgt := 107) X dX9_coefficient_100 rfl rfl (by omega) (fun h100 => ?_) (fun h100 => absurd h100 (by decide))
                  refine r_iconst (pc' := 108) X dX9_coefficient_107 rfl ?_
                  refine w_calli (pc' := 111) (st := []) (w_runV X (c_X9_refused l G M3 1 (by first | assumption | omega)) cf_X9_refused k29_0 rfl gw_1087 gp_25 rfl rfl ⟨Nat.le_of_ble_eq_true rfl, Nat.le_of_ble_eq_true rfl⟩ rfl rfl (Nat.le_of_ble_eq_true rfl) ⟨Nat.le_of_ble_eq_true rfl, Nat.le_of_ble_eq_true rfl⟩ gw_1085 dX9_coefficient_108) rfl (fun z108 M27 h108 => ?_)
                  have hz108 : z108 = 1 := by rw [h108.1]; rfl
                  have ew108 : ∀ a b x, ¬ (a = 29 ∧ b = 0 ∧ x = 0) → M27 a b x = M3 a b x := fun a b x q => by rw [h108.2]; unfold wu; rw [if_neg q]
                  have er108 : M27 29 0 0 = 1 := by rw [h108.2]; unfold wu; rw [if_pos ⟨rfl, rfl, rfl⟩]
                  have sc108 : RScr M3 M27 := fun a b x q => ew108 a b x (by omega)
                  have qq108 : PEq N P pv (M27 29) := qq18.keep (fun b x q => ew108 29 b x (by omega))
                  refine r_if_eq (pc' := 114) (tgt := 116) X dX9_coefficient_111 rfl rfl (by omega) (fun h111 => by exfalso; omega) (fun h111 => ?_)
                  refine r_iconst (pc' := 115) X dX9_coefficient_114 rfl ?_
                  refine w_iret X hr dX9_coefficient_115 ?_
                  try dsimp only
                  exact (Or.inr (Or.inl ⟨er108, (RScr.trans sc18 sc108), by omega⟩))
              · refine r_iconst (pc' := 86) X dX9_coefficient_85 rfl ?_
                refine r_goto (tgt := 90) X dX9_coefficient_86 rfl ?_
                refine r_istore (pc' := 92) (lc' := [(0, vR G (29, 0)), (1, vI q0), (2, vI i), (3, vI j), (4, vI z46), (5, vI 1)]) X [1, 2, 3, 4, 5, 0] dX9_coefficient_90 (by decide) rfl rfl ?_
                refine r_aload_n (pc' := 93) X 0 dX9_coefficient_92 rfl rfl rfl ?_
                refine r_iload (pc' := 95) X 4 dX9_coefficient_93 rfl rfl ?_
                refine r_if_eq (pc' := 98) (tgt := 107) X dX9_coefficient_95 rfl rfl (by omega) (fun h95 => ?_) (fun h95 => ?_)
                · refine r_iconst (pc' := 108) X dX9_coefficient_107 rfl ?_
                  refine w_calli (pc' := 111) (st := []) (w_runV X (c_X9_refused l G M3 1 (by first | assumption | omega)) cf_X9_refused k29_0 rfl gw_1087 gp_25 rfl rfl ⟨Nat.le_of_ble_eq_true rfl, Nat.le_of_ble_eq_true rfl⟩ rfl rfl (Nat.le_of_ble_eq_true rfl) ⟨Nat.le_of_ble_eq_true rfl, Nat.le_of_ble_eq_true rfl⟩ gw_1085 dX9_coefficient_108) rfl (fun z108 M28 h108 => ?_)
                  have hz108 : z108 = 1 := by rw [h108.1]; rfl
                  have ew108 : ∀ a b x, ¬ (a = 29 ∧ b = 0 ∧ x = 0) → M28 a b x = M3 a b x := fun a b x q => by rw [h108.2]; unfold wu; rw [if_neg q]
                  have er108 : M28 29 0 0 = 1 := by rw [h108.2]; unfold wu; rw [if_pos ⟨rfl, rfl, rfl⟩]
                  have sc108 : RScr M3 M28 := fun a b x q => ew108 a b x (by omega)
                  have qq108 : PEq N P pv (M28 29) := qq18.keep (fun b x q => ew108 29 b x (by omega))
                  refine r_if_eq (pc' := 114) (tgt := 116) X dX9_coefficient_111 rfl rfl (by omega) (fun h111 => by exfalso; omega) (fun h111 => ?_)
                  refine r_iconst (pc' := 115) X dX9_coefficient_114 rfl ?_
                  refine w_iret X hr dX9_coefficient_115 ?_
                  try dsimp only
                  exact (Or.inr (Or.inl ⟨er108, (RScr.trans sc18 sc108), by omega⟩))
                · refine r_iload (pc' := 100) X 5 dX9_coefficient_98 rfl rfl ?_
                  refine r_if_eq (pc' := 103) (tgt := 107) X dX9_coefficient_100 rfl rfl (by omega) (fun h100 => absurd h100 (by decide)) (fun h100 => ?_)
                  refine r_iconst (pc' := 104) X dX9_coefficient_103 rfl ?_
                  refine r_goto (tgt := 108) X dX9_coefficient_104 rfl ?_
                  refine w_calli (pc' := 111) (st := []) (w_runV X (c_X9_refused l G M3 0 (by first | assumption | omega)) cf_X9_refused k29_0 rfl gw_1087 gp_25 rfl rfl ⟨Nat.le_of_ble_eq_true rfl, Nat.le_of_ble_eq_true rfl⟩ rfl rfl (Nat.le_of_ble_eq_true rfl) ⟨Nat.le_of_ble_eq_true rfl, Nat.le_of_ble_eq_true rfl⟩ gw_1085 dX9_coefficient_108) rfl (fun z108 M29 h108 => ?_)
                  have hz108 : z108 = 0 := by rw [h108.1]; rfl
                  have ew108 : ∀ a b x, ¬ (a = 29 ∧ b = 0 ∧ x = 0) → M29 a b x = M3 a b x := fun a b x q => by rw [h108.2]; unfold wu; rw [if_neg q]
                  have er108 : M29 29 0 0 = 0 := by rw [h108.2]; unfold wu; rw [if_pos ⟨rfl, rfl, rfl⟩]
                  have sc108 : RScr M3 M29 := fun a b x q => ew108 a b x (by omega)
                  have qq108 : PEq N P pv (M29 29) := qq18.keep (fun b x q => ew108 29 b x (by omega))
                  refine r_if_eq (pc' := 114) (tgt := 116) X dX9_coefficient_111 rfl rfl (by omega) (fun h111 => ?_) (fun h111 => by exfalso; omega)
                  obtain ⟨tN, tP, tA, tB, tE, tC, tQ⟩ := id qq108
                  have n13b : M29 29 13 = M3 29 13 := funext fun x => ew108 29 13 x (by omega)
                  refine r_iload_n (pc' := 117) X 1 dX9_coefficient_116 rfl rfl rfl ?_
                  by_cases hs117 : 0 ≤ q0 ∧ q0 ≤ 4
                  · rcases (show q0 = 0 ∨ q0 = 1 ∨ q0 = 2 ∨ q0 = 3 ∨ q0 = 4 by omega) with hs117 | hs117 | hs117 | hs117 | hs117
                    · refine r_tsw (v := 0) (tgt := 152) X dX9_coefficient_117 hs117 (by decide) (by decide) (by decide) rfl rfl ?_
                      refine r_aload_n (pc' := 153) X 0 dX9_coefficient_152 rfl rfl rfl ?_
                      refine gf_29_matrix (pc' := 156) X gw_974 dX9_coefficient_153 rfl ?_
                      refine r_iconst (pc' := 157) X dX9_coefficient_156 rfl ?_
                      refine r_iload_n (pc' := 158) X 2 dX9_coefficient_157 rfl rfl rfl ?_
                      refine r_imul (pc' := 159) X dX9_coefficient_158 rfl ?_
                      refine r_iload_n (pc' := 160) X 3 dX9_coefficient_159 rfl rfl rfl ?_
                      refine r_iadd (pc' := 161) X dX9_coefficient_160 rfl ?_
                      refine r_iald (i := (4 * i.toNat + j.toNat)) (pc' := 162) X k29_2 (by omega) (by omega) (by decide) dX9_coefficient_161 rfl ?_
                      refine w_iret X hr dX9_coefficient_162 ?_
                      try dsimp only
                      refine Or.inl ⟨er108, RScr.trans sc18 sc108, by omega, by omega, by omega, ?_⟩
                      unfold coefF
                      first
                        | (rw [hs117]; first | exact tA _ _ (by omega) (by omega) | exact tB _ (by omega) | exact tE _ (by omega) | exact tC _ _ (by omega) (by omega) | exact tQ _ (by omega))
                        | (rw [show q0 = 5 by omega, n13b, n13]; exact v2 _ _ (by omega) (by omega))
                    · refine r_tsw (v := 1) (tgt := 163) X dX9_coefficient_117 hs117 (by decide) (by decide) (by decide) rfl rfl ?_
                      refine r_aload_n (pc' := 164) X 0 dX9_coefficient_163 rfl rfl rfl ?_
                      refine gf_29_drive (pc' := 167) X gw_975 dX9_coefficient_164 rfl ?_
                      refine r_iload_n (pc' := 168) X 2 dX9_coefficient_167 rfl rfl rfl ?_
                      refine r_iald (i := i.toNat) (pc' := 169) X k29_3 (by omega) (by omega) (by decide) dX9_coefficient_168 rfl ?_
                      refine w_iret X hr dX9_coefficient_169 ?_
                      try dsimp only
                      refine Or.inl ⟨er108, RScr.trans sc18 sc108, by omega, by omega, by omega, ?_⟩
                      unfold coefF
                      first
                        | (rw [hs117]; first | exact tA _ _ (by omega) (by omega) | exact tB _ (by omega) | exact tE _ (by omega) | exact tC _ _ (by omega) (by omega) | exact tQ _ (by omega))
                        | (rw [show q0 = 5 by omega, n13b, n13]; exact v2 _ _ (by omega) (by omega))
                    · refine r_tsw (v := 2) (tgt := 170) X dX9_coefficient_117 hs117 (by decide) (by decide) (by decide) rfl rfl ?_
                      refine r_aload_n (pc' := 171) X 0 dX9_coefficient_170 rfl rfl rfl ?_
                      refine gf_29_push (pc' := 174) X gw_976 dX9_coefficient_171 rfl ?_
                      refine r_iload_n (pc' := 175) X 2 dX9_coefficient_174 rfl rfl rfl ?_
                      refine r_iald (i := i.toNat) (pc' := 176) X k29_4 (by omega) (by omega) (by decide) dX9_coefficient_175 rfl ?_
                      refine w_iret X hr dX9_coefficient_176 ?_
                      try dsimp only
                      refine Or.inl ⟨er108, RScr.trans sc18 sc108, by omega, by omega, by omega, ?_⟩
                      unfold coefF
                      first
                        | (rw [hs117]; first | exact tA _ _ (by omega) (by omega) | exact tB _ (by omega) | exact tE _ (by omega) | exact tC _ _ (by omega) (by omega) | exact tQ _ (by omega))
                        | (rw [show q0 = 5 by omega, n13b, n13]; exact v2 _ _ (by omega) (by omega))
                    · refine r_tsw (v := 3) (tgt := 177) X dX9_coefficient_117 hs117 (by decide) (by decide) (by decide) rfl rfl ?_
                      refine r_aload_n (pc' := 178) X 0 dX9_coefficient_177 rfl rfl rfl ?_
                      refine gf_29_view (pc' := 181) X gw_977 dX9_coefficient_178 rfl ?_
                      refine r_iconst (pc' := 182) X dX9_coefficient_181 rfl ?_
                      refine r_iload_n (pc' := 183) X 2 dX9_coefficient_182 rfl rfl rfl ?_
                      refine r_imul (pc' := 184) X dX9_coefficient_183 rfl ?_
                      refine r_iload_n (pc' := 185) X 3 dX9_coefficient_184 rfl rfl rfl ?_
                      refine r_iadd (pc' := 186) X dX9_coefficient_185 rfl ?_
                      refine r_iald (i := (4 * i.toNat + j.toNat)) (pc' := 187) X k29_5 (by omega) (by omega) (by decide) dX9_coefficient_186 rfl ?_
                      refine w_iret X hr dX9_coefficient_187 ?_
                      try dsimp only
                      refine Or.inl ⟨er108, RScr.trans sc18 sc108, by omega, by omega, by omega, ?_⟩
                      unfold coefF
                      first
                        | (rw [hs117]; first | exact tA _ _ (by omega) (by omega) | exact tB _ (by omega) | exact tE _ (by omega) | exact tC _ _ (by omega) (by omega) | exact tQ _ (by omega))
                        | (rw [show q0 = 5 by omega, n13b, n13]; exact v2 _ _ (by omega) (by omega))
                    · refine r_tsw (v := 4) (tgt := 188) X dX9_coefficient_117 hs117 (by decide) (by decide) (by decide) rfl rfl ?_
                      refine r_aload_n (pc' := 189) X 0 dX9_coefficient_188 rfl rfl rfl ?_
                      refine gf_29_quantum (pc' := 192) X gw_978 dX9_coefficient_189 rfl ?_
                      refine r_iload_n (pc' := 193) X 2 dX9_coefficient_192 rfl rfl rfl ?_
                      refine r_iald (i := i.toNat) (pc' := 194) X k29_6 (by omega) (by omega) (by decide) dX9_coefficient_193 rfl ?_
                      refine w_iret X hr dX9_coefficient_194 ?_
                      try dsimp only
                      refine Or.inl ⟨er108, RScr.trans sc18 sc108, by omega, by omega, by omega, ?_⟩
                      unfold coefF
                      first
                        | (rw [hs117]; first | exact tA _ _ (by omega) (by omega) | exact tB _ (by omega) | exact tE _ (by omega) | exact tC _ _ (by omega) (by omega) | exact tQ _ (by omega))
                        | (rw [show q0 = 5 by omega, n13b, n13]; exact v2 _ _ (by omega) (by omega))
                  · refine r_tswD (tgt := 195) X dX9_coefficient_117 (by omega) (by omega) rfl ?_
                    refine r_aload_n (pc' := 196) X 0 dX9_coefficient_195 rfl rfl rfl ?_
                    refine gf_29_now (pc' := 199) X gw_987 dX9_coefficient_196 rfl ?_
                    refine r_bipush (pc' := 201) X dX9_coefficient_199 rfl rfl ?_
                    refine r_iconst (pc' := 202) X dX9_coefficient_201 rfl ?_
                    refine r_iload_n (pc' := 203) X 2 dX9_coefficient_202 rfl rfl rfl ?_
                    refine r_imul (pc' := 204) X dX9_coefficient_203 rfl ?_
                    refine r_iadd (pc' := 205) X dX9_coefficient_204 rfl ?_
                    refine r_iload_n (pc' := 206) X 3 dX9_coefficient_205 rfl rfl rfl ?_
                    refine r_iadd (pc' := 207) X dX9_coefficient_206 rfl ?_
                    refine r_iald (i := (16 + 3 * i.toNat + j.toNat)) (pc' := 208) X k29_13 (by omega) (by omega) (by decide) dX9_coefficient_207 rfl ?_
                    refine w_iret X hr dX9_coefficient_208 ?_
                    try dsimp only
                    refine Or.inl ⟨er108, RScr.trans sc18 sc108, by omega, by omega, by omega, ?_⟩
                    unfold coefF
                    first
                      | (rw [hs117]; first | exact tA _ _ (by omega) (by omega) | exact tB _ (by omega) | exact tE _ (by omega) | exact tC _ _ (by omega) (by omega) | exact tQ _ (by omega))
                      | (rw [show q0 = 5 by omega, n13b, n13]; exact v2 _ _ (by omega) (by omega))
            · refine r_aload_n (pc' := 74) X 0 dX9_coefficient_73 rfl rfl rfl ?_
              refine r_iload_n (pc' := 75) X 3 dX9_coefficient_74 rfl rfl rfl ?_
              refine w_calli (pc' := 78) (st := []) (w_runV X (c_X9_isOutput l G M3 N P pv (by first | assumption | omega) (by first | assumption | omega) j (by first | assumption | omega)) cf_X9_isOutput k29_0 rfl gw_1152 gp_35 rfl rfl ⟨Nat.le_of_ble_eq_true rfl, Nat.le_of_ble_eq_true rfl⟩ rfl rfl (Nat.le_of_ble_eq_true rfl) ⟨Nat.le_of_ble_eq_true rfl, Nat.le_of_ble_eq_true rfl⟩ gw_1150 dX9_coefficient_75) rfl (fun z75 M30 h75 => ?_)
              have hz75 := h75.1
              obtain rfl := h75.2.symm
              have hi75 : z75 = 0 ∨ z75 = 1 := by rw [hz75]; split <;> omega
              have hq75 : z75 = 1 ↔ (0 ≤ j ∧ j < P) := by rw [hz75]; split <;> omega
              refine r_goto (tgt := 90) X dX9_coefficient_78 rfl ?_
              refine r_istore (pc' := 92) (lc' := [(0, vR G (29, 0)), (1, vI q0), (2, vI i), (3, vI j), (4, vI z46), (5, vI z75)]) X [1, 2, 3, 4, 5, 0] dX9_coefficient_90 (by decide) rfl rfl ?_
              refine r_aload_n (pc' := 93) X 0 dX9_coefficient_92 rfl rfl rfl ?_
              refine r_iload (pc' := 95) X 4 dX9_coefficient_93 rfl rfl ?_
              refine r_if_eq (pc' := 98) (tgt := 107) X dX9_coefficient_95 rfl rfl (by omega) (fun h95 => ?_) (fun h95 => ?_)
              · refine r_iconst (pc' := 108) X dX9_coefficient_107 rfl ?_
                refine w_calli (pc' := 111) (st := []) (w_runV X (c_X9_refused l G M3 1 (by first | assumption | omega)) cf_X9_refused k29_0 rfl gw_1087 gp_25 rfl rfl ⟨Nat.le_of_ble_eq_true rfl, Nat.le_of_ble_eq_true rfl⟩ rfl rfl (Nat.le_of_ble_eq_true rfl) ⟨Nat.le_of_ble_eq_true rfl, Nat.le_of_ble_eq_true rfl⟩ gw_1085 dX9_coefficient_108) rfl (fun z108 M31 h108 => ?_)
                have hz108 : z108 = 1 := by rw [h108.1]; rfl
                have ew108 : ∀ a b x, ¬ (a = 29 ∧ b = 0 ∧ x = 0) → M31 a b x = M3 a b x := fun a b x q => by rw [h108.2]; unfold wu; rw [if_neg q]
                have er108 : M31 29 0 0 = 1 := by rw [h108.2]; unfold wu; rw [if_pos ⟨rfl, rfl, rfl⟩]
                have sc108 : RScr M3 M31 := fun a b x q => ew108 a b x (by omega)
                have qq108 : PEq N P pv (M31 29) := qq18.keep (fun b x q => ew108 29 b x (by omega))
                refine r_if_eq (pc' := 114) (tgt := 116) X dX9_coefficient_111 rfl rfl (by omega) (fun h111 => by exfalso; omega) (fun h111 => ?_)
                refine r_iconst (pc' := 115) X dX9_coefficient_114 rfl ?_
                refine w_iret X hr dX9_coefficient_115 ?_
                try dsimp only
                exact (Or.inr (Or.inl ⟨er108, (RScr.trans sc18 sc108), by omega⟩))
              · refine r_iload (pc' := 100) X 5 dX9_coefficient_98 rfl rfl ?_
                refine r_if_eq (pc' := 103) (tgt := 107) X dX9_coefficient_100 rfl rfl (by omega) (fun h100 => ?_) (fun h100 => ?_)
                · refine r_iconst (pc' := 108) X dX9_coefficient_107 rfl ?_
                  refine w_calli (pc' := 111) (st := []) (w_runV X (c_X9_refused l G M3 1 (by first | assumption | omega)) cf_X9_refused k29_0 rfl gw_1087 gp_25 rfl rfl ⟨Nat.le_of_ble_eq_true rfl, Nat.le_of_ble_eq_true rfl⟩ rfl rfl (Nat.le_of_ble_eq_true rfl) ⟨Nat.le_of_ble_eq_true rfl, Nat.le_of_ble_eq_true rfl⟩ gw_1085 dX9_coefficient_108) rfl (fun z108 M32 h108 => ?_)
                  have hz108 : z108 = 1 := by rw [h108.1]; rfl
                  have ew108 : ∀ a b x, ¬ (a = 29 ∧ b = 0 ∧ x = 0) → M32 a b x = M3 a b x := fun a b x q => by rw [h108.2]; unfold wu; rw [if_neg q]
                  have er108 : M32 29 0 0 = 1 := by rw [h108.2]; unfold wu; rw [if_pos ⟨rfl, rfl, rfl⟩]
                  have sc108 : RScr M3 M32 := fun a b x q => ew108 a b x (by omega)
                  have qq108 : PEq N P pv (M32 29) := qq18.keep (fun b x q => ew108 29 b x (by omega))
                  refine r_if_eq (pc' := 114) (tgt := 116) X dX9_coefficient_111 rfl rfl (by omega) (fun h111 => by exfalso; omega) (fun h111 => ?_)
                  refine r_iconst (pc' := 115) X dX9_coefficient_114 rfl ?_
                  refine w_iret X hr dX9_coefficient_115 ?_
                  try dsimp only
                  exact (Or.inr (Or.inl ⟨er108, (RScr.trans sc18 sc108), by omega⟩))
                · refine r_iconst (pc' := 104) X dX9_coefficient_103 rfl ?_
                  refine r_goto (tgt := 108) X dX9_coefficient_104 rfl ?_
                  refine w_calli (pc' := 111) (st := []) (w_runV X (c_X9_refused l G M3 0 (by first | assumption | omega)) cf_X9_refused k29_0 rfl gw_1087 gp_25 rfl rfl ⟨Nat.le_of_ble_eq_true rfl, Nat.le_of_ble_eq_true rfl⟩ rfl rfl (Nat.le_of_ble_eq_true rfl) ⟨Nat.le_of_ble_eq_true rfl, Nat.le_of_ble_eq_true rfl⟩ gw_1085 dX9_coefficient_108) rfl (fun z108 M33 h108 => ?_)
                  have hz108 : z108 = 0 := by rw [h108.1]; rfl
                  have ew108 : ∀ a b x, ¬ (a = 29 ∧ b = 0 ∧ x = 0) → M33 a b x = M3 a b x := fun a b x q => by rw [h108.2]; unfold wu; rw [if_neg q]
                  have er108 : M33 29 0 0 = 0 := by rw [h108.2]; unfold wu; rw [if_pos ⟨rfl, rfl, rfl⟩]
                  have sc108 : RScr M3 M33 := fun a b x q => ew108 a b x (by omega)
                  have qq108 : PEq N P pv (M33 29) := qq18.keep (fun b x q => ew108 29 b x (by omega))
                  refine r_if_eq (pc' := 114) (tgt := 116) X dX9_coefficient_111 rfl rfl (by omega) (fun h111 => ?_) (fun h111 => by exfalso; omega)
                  obtain ⟨tN, tP, tA, tB, tE, tC, tQ⟩ := id qq108
                  have n13b : M33 29 13 = M3 29 13 := funext fun x => ew108 29 13 x (by omega)
                  refine r_iload_n (pc' := 117) X 1 dX9_coefficient_116 rfl rfl rfl ?_
                  by_cases hs117 : 0 ≤ q0 ∧ q0 ≤ 4
                  · rcases (show q0 = 0 ∨ q0 = 1 ∨ q0 = 2 ∨ q0 = 3 ∨ q0 = 4 by omega) with hs117 | hs117 | hs117 | hs117 | hs117
                    · refine r_tsw (v := 0) (tgt := 152) X dX9_coefficient_117 hs117 (by decide) (by decide) (by decide) rfl rfl ?_
                      refine r_aload_n (pc' := 153) X 0 dX9_coefficient_152 rfl rfl rfl ?_
                      refine gf_29_matrix (pc' := 156) X gw_974 dX9_coefficient_153 rfl ?_
                      refine r_iconst (pc' := 157) X dX9_coefficient_156 rfl ?_
                      refine r_iload_n (pc' := 158) X 2 dX9_coefficient_157 rfl rfl rfl ?_
                      refine r_imul (pc' := 159) X dX9_coefficient_158 rfl ?_
                      refine r_iload_n (pc' := 160) X 3 dX9_coefficient_159 rfl rfl rfl ?_
                      refine r_iadd (pc' := 161) X dX9_coefficient_160 rfl ?_
                      refine r_iald (i := (4 * i.toNat + j.toNat)) (pc' := 162) X k29_2 (by omega) (by omega) (by decide) dX9_coefficient_161 rfl ?_
                      refine w_iret X hr dX9_coefficient_162 ?_
                      try dsimp only
                      refine Or.inl ⟨er108, RScr.trans sc18 sc108, by omega, by omega, by omega, ?_⟩
                      unfold coefF
                      first
                        | (rw [hs117]; first | exact tA _ _ (by omega) (by omega) | exact tB _ (by omega) | exact tE _ (by omega) | exact tC _ _ (by omega) (by omega) | exact tQ _ (by omega))
                        | (rw [show q0 = 5 by omega, n13b, n13]; exact v2 _ _ (by omega) (by omega))
                    · refine r_tsw (v := 1) (tgt := 163) X dX9_coefficient_117 hs117 (by decide) (by decide) (by decide) rfl rfl ?_
                      refine r_aload_n (pc' := 164) X 0 dX9_coefficient_163 rfl rfl rfl ?_
                      refine gf_29_drive (pc' := 167) X gw_975 dX9_coefficient_164 rfl ?_
                      refine r_iload_n (pc' := 168) X 2 dX9_coefficient_167 rfl rfl rfl ?_
                      refine r_iald (i := i.toNat) (pc' := 169) X k29_3 (by omega) (by omega) (by decide) dX9_coefficient_168 rfl ?_
                      refine w_iret X hr dX9_coefficient_169 ?_
                      try dsimp only
                      refine Or.inl ⟨er108, RScr.trans sc18 sc108, by omega, by omega, by omega, ?_⟩
                      unfold coefF
                      first
                        | (rw [hs117]; first | exact tA _ _ (by omega) (by omega) | exact tB _ (by omega) | exact tE _ (by omega) | exact tC _ _ (by omega) (by omega) | exact tQ _ (by omega))
                        | (rw [show q0 = 5 by omega, n13b, n13]; exact v2 _ _ (by omega) (by omega))
                    · refine r_tsw (v := 2) (tgt := 170) X dX9_coefficient_117 hs117 (by decide) (by decide) (by decide) rfl rfl ?_
                      refine r_aload_n (pc' := 171) X 0 dX9_coefficient_170 rfl rfl rfl ?_
                      refine gf_29_push (pc' := 174) X gw_976 dX9_coefficient_171 rfl ?_
                      refine r_iload_n (pc' := 175) X 2 dX9_coefficient_174 rfl rfl rfl ?_
                      refine r_iald (i := i.toNat) (pc' := 176) X k29_4 (by omega) (by omega) (by decide) dX9_coefficient_175 rfl ?_
                      refine w_iret X hr dX9_coefficient_176 ?_
                      try dsimp only
                      refine Or.inl ⟨er108, RScr.trans sc18 sc108, by omega, by omega, by omega, ?_⟩
                      unfold coefF
                      first
                        | (rw [hs117]; first | exact tA _ _ (by omega) (by omega) | exact tB _ (by omega) | exact tE _ (by omega) | exact tC _ _ (by omega) (by omega) | exact tQ _ (by omega))
                        | (rw [show q0 = 5 by omega, n13b, n13]; exact v2 _ _ (by omega) (by omega))
                    · refine r_tsw (v := 3) (tgt := 177) X dX9_coefficient_117 hs117 (by decide) (by decide) (by decide) rfl rfl ?_
                      refine r_aload_n (pc' := 178) X 0 dX9_coefficient_177 rfl rfl rfl ?_
                      refine gf_29_view (pc' := 181) X gw_977 dX9_coefficient_178 rfl ?_
                      refine r_iconst (pc' := 182) X dX9_coefficient_181 rfl ?_
                      refine r_iload_n (pc' := 183) X 2 dX9_coefficient_182 rfl rfl rfl ?_
                      refine r_imul (pc' := 184) X dX9_coefficient_183 rfl ?_
                      refine r_iload_n (pc' := 185) X 3 dX9_coefficient_184 rfl rfl rfl ?_
                      refine r_iadd (pc' := 186) X dX9_coefficient_185 rfl ?_
                      refine r_iald (i := (4 * i.toNat + j.toNat)) (pc' := 187) X k29_5 (by omega) (by omega) (by decide) dX9_coefficient_186 rfl ?_
                      refine w_iret X hr dX9_coefficient_187 ?_
                      try dsimp only
                      refine Or.inl ⟨er108, RScr.trans sc18 sc108, by omega, by omega, by omega, ?_⟩
                      unfold coefF
                      first
                        | (rw [hs117]; first | exact tA _ _ (by omega) (by omega) | exact tB _ (by omega) | exact tE _ (by omega) | exact tC _ _ (by omega) (by omega) | exact tQ _ (by omega))
                        | (rw [show q0 = 5 by omega, n13b, n13]; exact v2 _ _ (by omega) (by omega))
                    · refine r_tsw (v := 4) (tgt := 188) X dX9_coefficient_117 hs117 (by decide) (by decide) (by decide) rfl rfl ?_
                      refine r_aload_n (pc' := 189) X 0 dX9_coefficient_188 rfl rfl rfl ?_
                      refine gf_29_quantum (pc' := 192) X gw_978 dX9_coefficient_189 rfl ?_
                      refine r_iload_n (pc' := 193) X 2 dX9_coefficient_192 rfl rfl rfl ?_
                      refine r_iald (i := i.toNat) (pc' := 194) X k29_6 (by omega) (by omega) (by decide) dX9_coefficient_193 rfl ?_
                      refine w_iret X hr dX9_coefficient_194 ?_
                      try dsimp only
                      refine Or.inl ⟨er108, RScr.trans sc18 sc108, by omega, by omega, by omega, ?_⟩
                      unfold coefF
                      first
                        | (rw [hs117]; first | exact tA _ _ (by omega) (by omega) | exact tB _ (by omega) | exact tE _ (by omega) | exact tC _ _ (by omega) (by omega) | exact tQ _ (by omega))
                        | (rw [show q0 = 5 by omega, n13b, n13]; exact v2 _ _ (by omega) (by omega))
                  · refine r_tswD (tgt := 195) X dX9_coefficient_117 (by omega) (by omega) rfl ?_
                    refine r_aload_n (pc' := 196) X 0 dX9_coefficient_195 rfl rfl rfl ?_
                    refine gf_29_now (pc' := 199) X gw_987 dX9_coefficient_196 rfl ?_
                    refine r_bipush (pc' := 201) X dX9_coefficient_199 rfl rfl ?_
                    refine r_iconst (pc' := 202) X dX9_coefficient_201 rfl ?_
                    refine r_iload_n (pc' := 203) X 2 dX9_coefficient_202 rfl rfl rfl ?_
                    refine r_imul (pc' := 204) X dX9_coefficient_203 rfl ?_
                    refine r_iadd (pc' := 205) X dX9_coefficient_204 rfl ?_
                    refine r_iload_n (pc' := 206) X 3 dX9_coefficient_205 rfl rfl rfl ?_
                    refine r_iadd (pc' := 207) X dX9_coefficient_206 rfl ?_
                    refine r_iald (i := (16 + 3 * i.toNat + j.toNat)) (pc' := 208) X k29_13 (by omega) (by omega) (by decide) dX9_coefficient_207 rfl ?_
                    refine w_iret X hr dX9_coefficient_208 ?_
                    try dsimp only
                    refine Or.inl ⟨er108, RScr.trans sc18 sc108, by omega, by omega, by omega, ?_⟩
                    unfold coefF
                    first
                      | (rw [hs117]; first | exact tA _ _ (by omega) (by omega) | exact tB _ (by omega) | exact tE _ (by omega) | exact tC _ _ (by omega) (by omega) | exact tQ _ (by omega))
                      | (rw [show q0 = 5 by omega, n13b, n13]; exact v2 _ _ (by omega) (by omega))
          · refine r_aload_n (pc' := 61) X 0 dX9_coefficient_60 rfl rfl rfl ?_
            refine r_iload_n (pc' := 62) X 3 dX9_coefficient_61 rfl rfl rfl ?_
            refine w_calli (pc' := 65) (st := []) (w_runV X (c_X9_isState l G M3 N P pv (by first | assumption | omega) (by first | assumption | omega) j (by first | assumption | omega)) cf_X9_isState k29_0 rfl gw_1156 gp_36 rfl rfl ⟨Nat.le_of_ble_eq_true rfl, Nat.le_of_ble_eq_true rfl⟩ rfl rfl (Nat.le_of_ble_eq_true rfl) ⟨Nat.le_of_ble_eq_true rfl, Nat.le_of_ble_eq_true rfl⟩ gw_1154 dX9_coefficient_62) rfl (fun z62 M34 h62 => ?_)
            have hz62 := h62.1
            obtain rfl := h62.2.symm
            have hi62 : z62 = 0 ∨ z62 = 1 := by rw [hz62]; split <;> omega
            have hq62 : z62 = 1 ↔ (0 ≤ j ∧ j < N) := by rw [hz62]; split <;> omega
            refine r_goto (tgt := 90) X dX9_coefficient_65 rfl ?_
            refine r_istore (pc' := 92) (lc' := [(0, vR G (29, 0)), (1, vI q0), (2, vI i), (3, vI j), (4, vI z46), (5, vI z62)]) X [1, 2, 3, 4, 5, 0] dX9_coefficient_90 (by decide) rfl rfl ?_
            refine r_aload_n (pc' := 93) X 0 dX9_coefficient_92 rfl rfl rfl ?_
            refine r_iload (pc' := 95) X 4 dX9_coefficient_93 rfl rfl ?_
            refine r_if_eq (pc' := 98) (tgt := 107) X dX9_coefficient_95 rfl rfl (by omega) (fun h95 => ?_) (fun h95 => ?_)
            · refine r_iconst (pc' := 108) X dX9_coefficient_107 rfl ?_
              refine w_calli (pc' := 111) (st := []) (w_runV X (c_X9_refused l G M3 1 (by first | assumption | omega)) cf_X9_refused k29_0 rfl gw_1087 gp_25 rfl rfl ⟨Nat.le_of_ble_eq_true rfl, Nat.le_of_ble_eq_true rfl⟩ rfl rfl (Nat.le_of_ble_eq_true rfl) ⟨Nat.le_of_ble_eq_true rfl, Nat.le_of_ble_eq_true rfl⟩ gw_1085 dX9_coefficient_108) rfl (fun z108 M35 h108 => ?_)
              have hz108 : z108 = 1 := by rw [h108.1]; rfl
              have ew108 : ∀ a b x, ¬ (a = 29 ∧ b = 0 ∧ x = 0) → M35 a b x = M3 a b x := fun a b x q => by rw [h108.2]; unfold wu; rw [if_neg q]
              have er108 : M35 29 0 0 = 1 := by rw [h108.2]; unfold wu; rw [if_pos ⟨rfl, rfl, rfl⟩]
              have sc108 : RScr M3 M35 := fun a b x q => ew108 a b x (by omega)
              have qq108 : PEq N P pv (M35 29) := qq18.keep (fun b x q => ew108 29 b x (by omega))
              refine r_if_eq (pc' := 114) (tgt := 116) X dX9_coefficient_111 rfl rfl (by omega) (fun h111 => by exfalso; omega) (fun h111 => ?_)
              refine r_iconst (pc' := 115) X dX9_coefficient_114 rfl ?_
              refine w_iret X hr dX9_coefficient_115 ?_
              try dsimp only
              exact (Or.inr (Or.inl ⟨er108, (RScr.trans sc18 sc108), by omega⟩))
            · refine r_iload (pc' := 100) X 5 dX9_coefficient_98 rfl rfl ?_
              refine r_if_eq (pc' := 103) (tgt := 107) X dX9_coefficient_100 rfl rfl (by omega) (fun h100 => ?_) (fun h100 => ?_)
              · refine r_iconst (pc' := 108) X dX9_coefficient_107 rfl ?_
                refine w_calli (pc' := 111) (st := []) (w_runV X (c_X9_refused l G M3 1 (by first | assumption | omega)) cf_X9_refused k29_0 rfl gw_1087 gp_25 rfl rfl ⟨Nat.le_of_ble_eq_true rfl, Nat.le_of_ble_eq_true rfl⟩ rfl rfl (Nat.le_of_ble_eq_true rfl) ⟨Nat.le_of_ble_eq_true rfl, Nat.le_of_ble_eq_true rfl⟩ gw_1085 dX9_coefficient_108) rfl (fun z108 M36 h108 => ?_)
                have hz108 : z108 = 1 := by rw [h108.1]; rfl
                have ew108 : ∀ a b x, ¬ (a = 29 ∧ b = 0 ∧ x = 0) → M36 a b x = M3 a b x := fun a b x q => by rw [h108.2]; unfold wu; rw [if_neg q]
                have er108 : M36 29 0 0 = 1 := by rw [h108.2]; unfold wu; rw [if_pos ⟨rfl, rfl, rfl⟩]
                have sc108 : RScr M3 M36 := fun a b x q => ew108 a b x (by omega)
                have qq108 : PEq N P pv (M36 29) := qq18.keep (fun b x q => ew108 29 b x (by omega))
                refine r_if_eq (pc' := 114) (tgt := 116) X dX9_coefficient_111 rfl rfl (by omega) (fun h111 => by exfalso; omega) (fun h111 => ?_)
                refine r_iconst (pc' := 115) X dX9_coefficient_114 rfl ?_
                refine w_iret X hr dX9_coefficient_115 ?_
                try dsimp only
                exact (Or.inr (Or.inl ⟨er108, (RScr.trans sc18 sc108), by omega⟩))
              · refine r_iconst (pc' := 104) X dX9_coefficient_103 rfl ?_
                refine r_goto (tgt := 108) X dX9_coefficient_104 rfl ?_
                refine w_calli (pc' := 111) (st := []) (w_runV X (c_X9_refused l G M3 0 (by first | assumption | omega)) cf_X9_refused k29_0 rfl gw_1087 gp_25 rfl rfl ⟨Nat.le_of_ble_eq_true rfl, Nat.le_of_ble_eq_true rfl⟩ rfl rfl (Nat.le_of_ble_eq_true rfl) ⟨Nat.le_of_ble_eq_true rfl, Nat.le_of_ble_eq_true rfl⟩ gw_1085 dX9_coefficient_108) rfl (fun z108 M37 h108 => ?_)
                have hz108 : z108 = 0 := by rw [h108.1]; rfl
                have ew108 : ∀ a b x, ¬ (a = 29 ∧ b = 0 ∧ x = 0) → M37 a b x = M3 a b x := fun a b x q => by rw [h108.2]; unfold wu; rw [if_neg q]
                have er108 : M37 29 0 0 = 0 := by rw [h108.2]; unfold wu; rw [if_pos ⟨rfl, rfl, rfl⟩]
                have sc108 : RScr M3 M37 := fun a b x q => ew108 a b x (by omega)
                have qq108 : PEq N P pv (M37 29) := qq18.keep (fun b x q => ew108 29 b x (by omega))
                refine r_if_eq (pc' := 114) (tgt := 116) X dX9_coefficient_111 rfl rfl (by omega) (fun h111 => ?_) (fun h111 => by exfalso; omega)
                obtain ⟨tN, tP, tA, tB, tE, tC, tQ⟩ := id qq108
                have n13b : M37 29 13 = M3 29 13 := funext fun x => ew108 29 13 x (by omega)
                refine r_iload_n (pc' := 117) X 1 dX9_coefficient_116 rfl rfl rfl ?_
                by_cases hs117 : 0 ≤ q0 ∧ q0 ≤ 4
                · rcases (show q0 = 0 ∨ q0 = 1 ∨ q0 = 2 ∨ q0 = 3 ∨ q0 = 4 by omega) with hs117 | hs117 | hs117 | hs117 | hs117
                  · refine r_tsw (v := 0) (tgt := 152) X dX9_coefficient_117 hs117 (by decide) (by decide) (by decide) rfl rfl ?_
                    refine r_aload_n (pc' := 153) X 0 dX9_coefficient_152 rfl rfl rfl ?_
                    refine gf_29_matrix (pc' := 156) X gw_974 dX9_coefficient_153 rfl ?_
                    refine r_iconst (pc' := 157) X dX9_coefficient_156 rfl ?_
                    refine r_iload_n (pc' := 158) X 2 dX9_coefficient_157 rfl rfl rfl ?_
                    refine r_imul (pc' := 159) X dX9_coefficient_158 rfl ?_
                    refine r_iload_n (pc' := 160) X 3 dX9_coefficient_159 rfl rfl rfl ?_
                    refine r_iadd (pc' := 161) X dX9_coefficient_160 rfl ?_
                    refine r_iald (i := (4 * i.toNat + j.toNat)) (pc' := 162) X k29_2 (by omega) (by omega) (by decide) dX9_coefficient_161 rfl ?_
                    refine w_iret X hr dX9_coefficient_162 ?_
                    try dsimp only
                    refine Or.inl ⟨er108, RScr.trans sc18 sc108, by omega, by omega, by omega, ?_⟩
                    unfold coefF
                    first
                      | (rw [hs117]; first | exact tA _ _ (by omega) (by omega) | exact tB _ (by omega) | exact tE _ (by omega) | exact tC _ _ (by omega) (by omega) | exact tQ _ (by omega))
                      | (rw [show q0 = 5 by omega, n13b, n13]; exact v2 _ _ (by omega) (by omega))
                  · refine r_tsw (v := 1) (tgt := 163) X dX9_coefficient_117 hs117 (by decide) (by decide) (by decide) rfl rfl ?_
                    refine r_aload_n (pc' := 164) X 0 dX9_coefficient_163 rfl rfl rfl ?_
                    refine gf_29_drive (pc' := 167) X gw_975 dX9_coefficient_164 rfl ?_
                    refine r_iload_n (pc' := 168) X 2 dX9_coefficient_167 rfl rfl rfl ?_
                    refine r_iald (i := i.toNat) (pc' := 169) X k29_3 (by omega) (by omega) (by decide) dX9_coefficient_168 rfl ?_
                    refine w_iret X hr dX9_coefficient_169 ?_
                    try dsimp only
                    refine Or.inl ⟨er108, RScr.trans sc18 sc108, by omega, by omega, by omega, ?_⟩
                    unfold coefF
                    first
                      | (rw [hs117]; first | exact tA _ _ (by omega) (by omega) | exact tB _ (by omega) | exact tE _ (by omega) | exact tC _ _ (by omega) (by omega) | exact tQ _ (by omega))
                      | (rw [show q0 = 5 by omega, n13b, n13]; exact v2 _ _ (by omega) (by omega))
                  · refine r_tsw (v := 2) (tgt := 170) X dX9_coefficient_117 hs117 (by decide) (by decide) (by decide) rfl rfl ?_
                    refine r_aload_n (pc' := 171) X 0 dX9_coefficient_170 rfl rfl rfl ?_
                    refine gf_29_push (pc' := 174) X gw_976 dX9_coefficient_171 rfl ?_
                    refine r_iload_n (pc' := 175) X 2 dX9_coefficient_174 rfl rfl rfl ?_
                    refine r_iald (i := i.toNat) (pc' := 176) X k29_4 (by omega) (by omega) (by decide) dX9_coefficient_175 rfl ?_
                    refine w_iret X hr dX9_coefficient_176 ?_
                    try dsimp only
                    refine Or.inl ⟨er108, RScr.trans sc18 sc108, by omega, by omega, by omega, ?_⟩
                    unfold coefF
                    first
                      | (rw [hs117]; first | exact tA _ _ (by omega) (by omega) | exact tB _ (by omega) | exact tE _ (by omega) | exact tC _ _ (by omega) (by omega) | exact tQ _ (by omega))
                      | (rw [show q0 = 5 by omega, n13b, n13]; exact v2 _ _ (by omega) (by omega))
                  · refine r_tsw (v := 3) (tgt := 177) X dX9_coefficient_117 hs117 (by decide) (by decide) (by decide) rfl rfl ?_
                    refine r_aload_n (pc' := 178) X 0 dX9_coefficient_177 rfl rfl rfl ?_
                    refine gf_29_view (pc' := 181) X gw_977 dX9_coefficient_178 rfl ?_
                    refine r_iconst (pc' := 182) X dX9_coefficient_181 rfl ?_
                    refine r_iload_n (pc' := 183) X 2 dX9_coefficient_182 rfl rfl rfl ?_
                    refine r_imul (pc' := 184) X dX9_coefficient_183 rfl ?_
                    refine r_iload_n (pc' := 185) X 3 dX9_coefficient_184 rfl rfl rfl ?_
                    refine r_iadd (pc' := 186) X dX9_coefficient_185 rfl ?_
                    refine r_iald (i := (4 * i.toNat + j.toNat)) (pc' := 187) X k29_5 (by omega) (by omega) (by decide) dX9_coefficient_186 rfl ?_
                    refine w_iret X hr dX9_coefficient_187 ?_
                    try dsimp only
                    refine Or.inl ⟨er108, RScr.trans sc18 sc108, by omega, by omega, by omega, ?_⟩
                    unfold coefF
                    first
                      | (rw [hs117]; first | exact tA _ _ (by omega) (by omega) | exact tB _ (by omega) | exact tE _ (by omega) | exact tC _ _ (by omega) (by omega) | exact tQ _ (by omega))
                      | (rw [show q0 = 5 by omega, n13b, n13]; exact v2 _ _ (by omega) (by omega))
                  · refine r_tsw (v := 4) (tgt := 188) X dX9_coefficient_117 hs117 (by decide) (by decide) (by decide) rfl rfl ?_
                    refine r_aload_n (pc' := 189) X 0 dX9_coefficient_188 rfl rfl rfl ?_
                    refine gf_29_quantum (pc' := 192) X gw_978 dX9_coefficient_189 rfl ?_
                    refine r_iload_n (pc' := 193) X 2 dX9_coefficient_192 rfl rfl rfl ?_
                    refine r_iald (i := i.toNat) (pc' := 194) X k29_6 (by omega) (by omega) (by decide) dX9_coefficient_193 rfl ?_
                    refine w_iret X hr dX9_coefficient_194 ?_
                    try dsimp only
                    refine Or.inl ⟨er108, RScr.trans sc18 sc108, by omega, by omega, by omega, ?_⟩
                    unfold coefF
                    first
                      | (rw [hs117]; first | exact tA _ _ (by omega) (by omega) | exact tB _ (by omega) | exact tE _ (by omega) | exact tC _ _ (by omega) (by omega) | exact tQ _ (by omega))
                      | (rw [show q0 = 5 by omega, n13b, n13]; exact v2 _ _ (by omega) (by omega))
                · refine r_tswD (tgt := 195) X dX9_coefficient_117 (by omega) (by omega) rfl ?_
                  refine r_aload_n (pc' := 196) X 0 dX9_coefficient_195 rfl rfl rfl ?_
                  refine gf_29_now (pc' := 199) X gw_987 dX9_coefficient_196 rfl ?_
                  refine r_bipush (pc' := 201) X dX9_coefficient_199 rfl rfl ?_
                  refine r_iconst (pc' := 202) X dX9_coefficient_201 rfl ?_
                  refine r_iload_n (pc' := 203) X 2 dX9_coefficient_202 rfl rfl rfl ?_
                  refine r_imul (pc' := 204) X dX9_coefficient_203 rfl ?_
                  refine r_iadd (pc' := 205) X dX9_coefficient_204 rfl ?_
                  refine r_iload_n (pc' := 206) X 3 dX9_coefficient_205 rfl rfl rfl ?_
                  refine r_iadd (pc' := 207) X dX9_coefficient_206 rfl ?_
                  refine r_iald (i := (16 + 3 * i.toNat + j.toNat)) (pc' := 208) X k29_13 (by omega) (by omega) (by decide) dX9_coefficient_207 rfl ?_
                  refine w_iret X hr dX9_coefficient_208 ?_
                  try dsimp only
                  refine Or.inl ⟨er108, RScr.trans sc18 sc108, by omega, by omega, by omega, ?_⟩
                  unfold coefF
                  first
                    | (rw [hs117]; first | exact tA _ _ (by omega) (by omega) | exact tB _ (by omega) | exact tE _ (by omega) | exact tC _ _ (by omega) (by omega) | exact tQ _ (by omega))
                    | (rw [show q0 = 5 by omega, n13b, n13]; exact v2 _ _ (by omega) (by omega))
      · refine r_aload_n (pc' := 37) X 0 dX9_coefficient_36 rfl rfl rfl ?_
        refine r_iload_n (pc' := 38) X 2 dX9_coefficient_37 rfl rfl rfl ?_
        refine w_calli (pc' := 41) (st := []) (w_runV X (c_X9_isOutput l G M3 N P pv (by first | assumption | omega) (by first | assumption | omega) i (by first | assumption | omega)) cf_X9_isOutput k29_0 rfl gw_1152 gp_35 rfl rfl ⟨Nat.le_of_ble_eq_true rfl, Nat.le_of_ble_eq_true rfl⟩ rfl rfl (Nat.le_of_ble_eq_true rfl) ⟨Nat.le_of_ble_eq_true rfl, Nat.le_of_ble_eq_true rfl⟩ gw_1150 dX9_coefficient_38) rfl (fun z38 M38 h38 => ?_)
        have hz38 := h38.1
        obtain rfl := h38.2.symm
        have hi38 : z38 = 0 ∨ z38 = 1 := by rw [hz38]; split <;> omega
        have hq38 : z38 = 1 ↔ (0 ≤ i ∧ i < P) := by rw [hz38]; split <;> omega
        refine r_goto (tgt := 49) X dX9_coefficient_41 rfl ?_
        refine r_istore (pc' := 51) (lc' := [(0, vR G (29, 0)), (1, vI q0), (2, vI i), (3, vI j), (4, vI z38)]) X [1, 2, 3, 4, 0] dX9_coefficient_49 (by decide) rfl rfl ?_
        refine r_iload_n (pc' := 52) X 1 dX9_coefficient_51 rfl rfl rfl ?_
        refine r_if_eq (pc' := 55) (tgt := 60) X dX9_coefficient_52 rfl rfl (by omega) (fun h52 => ?_) (fun h52 => ?_)
        · refine r_aload_n (pc' := 61) X 0 dX9_coefficient_60 rfl rfl rfl ?_
          refine r_iload_n (pc' := 62) X 3 dX9_coefficient_61 rfl rfl rfl ?_
          refine w_calli (pc' := 65) (st := []) (w_runV X (c_X9_isState l G M3 N P pv (by first | assumption | omega) (by first | assumption | omega) j (by first | assumption | omega)) cf_X9_isState k29_0 rfl gw_1156 gp_36 rfl rfl ⟨Nat.le_of_ble_eq_true rfl, Nat.le_of_ble_eq_true rfl⟩ rfl rfl (Nat.le_of_ble_eq_true rfl) ⟨Nat.le_of_ble_eq_true rfl, Nat.le_of_ble_eq_true rfl⟩ gw_1154 dX9_coefficient_62) rfl (fun z62 M39 h62 => ?_)
          have hz62 := h62.1
          obtain rfl := h62.2.symm
          have hi62 : z62 = 0 ∨ z62 = 1 := by rw [hz62]; split <;> omega
          have hq62 : z62 = 1 ↔ (0 ≤ j ∧ j < N) := by rw [hz62]; split <;> omega
          refine r_goto (tgt := 90) X dX9_coefficient_65 rfl ?_
          refine r_istore (pc' := 92) (lc' := [(0, vR G (29, 0)), (1, vI q0), (2, vI i), (3, vI j), (4, vI z38), (5, vI z62)]) X [1, 2, 3, 4, 5, 0] dX9_coefficient_90 (by decide) rfl rfl ?_
          refine r_aload_n (pc' := 93) X 0 dX9_coefficient_92 rfl rfl rfl ?_
          refine r_iload (pc' := 95) X 4 dX9_coefficient_93 rfl rfl ?_
          refine r_if_eq (pc' := 98) (tgt := 107) X dX9_coefficient_95 rfl rfl (by omega) (fun h95 => ?_) (fun h95 => ?_)
          · refine r_iconst (pc' := 108) X dX9_coefficient_107 rfl ?_
            refine w_calli (pc' := 111) (st := []) (w_runV X (c_X9_refused l G M3 1 (by first | assumption | omega)) cf_X9_refused k29_0 rfl gw_1087 gp_25 rfl rfl ⟨Nat.le_of_ble_eq_true rfl, Nat.le_of_ble_eq_true rfl⟩ rfl rfl (Nat.le_of_ble_eq_true rfl) ⟨Nat.le_of_ble_eq_true rfl, Nat.le_of_ble_eq_true rfl⟩ gw_1085 dX9_coefficient_108) rfl (fun z108 M40 h108 => ?_)
            have hz108 : z108 = 1 := by rw [h108.1]; rfl
            have ew108 : ∀ a b x, ¬ (a = 29 ∧ b = 0 ∧ x = 0) → M40 a b x = M3 a b x := fun a b x q => by rw [h108.2]; unfold wu; rw [if_neg q]
            have er108 : M40 29 0 0 = 1 := by rw [h108.2]; unfold wu; rw [if_pos ⟨rfl, rfl, rfl⟩]
            have sc108 : RScr M3 M40 := fun a b x q => ew108 a b x (by omega)
            have qq108 : PEq N P pv (M40 29) := qq18.keep (fun b x q => ew108 29 b x (by omega))
            refine r_if_eq (pc' := 114) (tgt := 116) X dX9_coefficient_111 rfl rfl (by omega) (fun h111 => by exfalso; omega) (fun h111 => ?_)
            refine r_iconst (pc' := 115) X dX9_coefficient_114 rfl ?_
            refine w_iret X hr dX9_coefficient_115 ?_
            try dsimp only
            exact (Or.inr (Or.inl ⟨er108, (RScr.trans sc18 sc108), by omega⟩))
          · refine r_iload (pc' := 100) X 5 dX9_coefficient_98 rfl rfl ?_
            refine r_if_eq (pc' := 103) (tgt := 107) X dX9_coefficient_100 rfl rfl (by omega) (fun h100 => ?_) (fun h100 => ?_)
            · refine r_iconst (pc' := 108) X dX9_coefficient_107 rfl ?_
              refine w_calli (pc' := 111) (st := []) (w_runV X (c_X9_refused l G M3 1 (by first | assumption | omega)) cf_X9_refused k29_0 rfl gw_1087 gp_25 rfl rfl ⟨Nat.le_of_ble_eq_true rfl, Nat.le_of_ble_eq_true rfl⟩ rfl rfl (Nat.le_of_ble_eq_true rfl) ⟨Nat.le_of_ble_eq_true rfl, Nat.le_of_ble_eq_true rfl⟩ gw_1085 dX9_coefficient_108) rfl (fun z108 M41 h108 => ?_)
              have hz108 : z108 = 1 := by rw [h108.1]; rfl
              have ew108 : ∀ a b x, ¬ (a = 29 ∧ b = 0 ∧ x = 0) → M41 a b x = M3 a b x := fun a b x q => by rw [h108.2]; unfold wu; rw [if_neg q]
              have er108 : M41 29 0 0 = 1 := by rw [h108.2]; unfold wu; rw [if_pos ⟨rfl, rfl, rfl⟩]
              have sc108 : RScr M3 M41 := fun a b x q => ew108 a b x (by omega)
              have qq108 : PEq N P pv (M41 29) := qq18.keep (fun b x q => ew108 29 b x (by omega))
              refine r_if_eq (pc' := 114) (tgt := 116) X dX9_coefficient_111 rfl rfl (by omega) (fun h111 => by exfalso; omega) (fun h111 => ?_)
              refine r_iconst (pc' := 115) X dX9_coefficient_114 rfl ?_
              refine w_iret X hr dX9_coefficient_115 ?_
              try dsimp only
              exact (Or.inr (Or.inl ⟨er108, (RScr.trans sc18 sc108), by omega⟩))
            · refine r_iconst (pc' := 104) X dX9_coefficient_103 rfl ?_
              refine r_goto (tgt := 108) X dX9_coefficient_104 rfl ?_
              refine w_calli (pc' := 111) (st := []) (w_runV X (c_X9_refused l G M3 0 (by first | assumption | omega)) cf_X9_refused k29_0 rfl gw_1087 gp_25 rfl rfl ⟨Nat.le_of_ble_eq_true rfl, Nat.le_of_ble_eq_true rfl⟩ rfl rfl (Nat.le_of_ble_eq_true rfl) ⟨Nat.le_of_ble_eq_true rfl, Nat.le_of_ble_eq_true rfl⟩ gw_1085 dX9_coefficient_108) rfl (fun z108 M42 h108 => ?_)
              have hz108 : z108 = 0 := by rw [h108.1]; rfl
              have ew108 : ∀ a b x, ¬ (a = 29 ∧ b = 0 ∧ x = 0) → M42 a b x = M3 a b x := fun a b x q => by rw [h108.2]; unfold wu; rw [if_neg q]
              have er108 : M42 29 0 0 = 0 := by rw [h108.2]; unfold wu; rw [if_pos ⟨rfl, rfl, rfl⟩]
              have sc108 : RScr M3 M42 := fun a b x q => ew108 a b x (by omega)
              have qq108 : PEq N P pv (M42 29) := qq18.keep (fun b x q => ew108 29 b x (by omega))
              refine r_if_eq (pc' := 114) (tgt := 116) X dX9_coefficient_111 rfl rfl (by omega) (fun h111 => ?_) (fun h111 => by exfalso; omega)
              obtain ⟨tN, tP, tA, tB, tE, tC, tQ⟩ := id qq108
              have n13b : M42 29 13 = M3 29 13 := funext fun x => ew108 29 13 x (by omega)
              refine r_iload_n (pc' := 117) X 1 dX9_coefficient_116 rfl rfl rfl ?_
              by_cases hs117 : 0 ≤ q0 ∧ q0 ≤ 4
              · rcases (show q0 = 0 ∨ q0 = 1 ∨ q0 = 2 ∨ q0 = 3 ∨ q0 = 4 by omega) with hs117 | hs117 | hs117 | hs117 | hs117
                · refine r_tsw (v := 0) (tgt := 152) X dX9_coefficient_117 hs117 (by decide) (by decide) (by decide) rfl rfl ?_
                  refine r_aload_n (pc' := 153) X 0 dX9_coefficient_152 rfl rfl rfl ?_
                  refine gf_29_matrix (pc' := 156) X gw_974 dX9_coefficient_153 rfl ?_
                  refine r_iconst (pc' := 157) X dX9_coefficient_156 rfl ?_
                  refine r_iload_n (pc' := 158) X 2 dX9_coefficient_157 rfl rfl rfl ?_
                  refine r_imul (pc' := 159) X dX9_coefficient_158 rfl ?_
                  refine r_iload_n (pc' := 160) X 3 dX9_coefficient_159 rfl rfl rfl ?_
                  refine r_iadd (pc' := 161) X dX9_coefficient_160 rfl ?_
                  refine r_iald (i := (4 * i.toNat + j.toNat)) (pc' := 162) X k29_2 (by omega) (by omega) (by decide) dX9_coefficient_161 rfl ?_
                  refine w_iret X hr dX9_coefficient_162 ?_
                  try dsimp only
                  refine Or.inl ⟨er108, RScr.trans sc18 sc108, by omega, by omega, by omega, ?_⟩
                  unfold coefF
                  first
                    | (rw [hs117]; first | exact tA _ _ (by omega) (by omega) | exact tB _ (by omega) | exact tE _ (by omega) | exact tC _ _ (by omega) (by omega) | exact tQ _ (by omega))
                    | (rw [show q0 = 5 by omega, n13b, n13]; exact v2 _ _ (by omega) (by omega))
                · refine r_tsw (v := 1) (tgt := 163) X dX9_coefficient_117 hs117 (by decide) (by decide) (by decide) rfl rfl ?_
                  refine r_aload_n (pc' := 164) X 0 dX9_coefficient_163 rfl rfl rfl ?_
                  refine gf_29_drive (pc' := 167) X gw_975 dX9_coefficient_164 rfl ?_
                  refine r_iload_n (pc' := 168) X 2 dX9_coefficient_167 rfl rfl rfl ?_
                  refine r_iald (i := i.toNat) (pc' := 169) X k29_3 (by omega) (by omega) (by decide) dX9_coefficient_168 rfl ?_
                  refine w_iret X hr dX9_coefficient_169 ?_
                  try dsimp only
                  refine Or.inl ⟨er108, RScr.trans sc18 sc108, by omega, by omega, by omega, ?_⟩
                  unfold coefF
                  first
                    | (rw [hs117]; first | exact tA _ _ (by omega) (by omega) | exact tB _ (by omega) | exact tE _ (by omega) | exact tC _ _ (by omega) (by omega) | exact tQ _ (by omega))
                    | (rw [show q0 = 5 by omega, n13b, n13]; exact v2 _ _ (by omega) (by omega))
                · refine r_tsw (v := 2) (tgt := 170) X dX9_coefficient_117 hs117 (by decide) (by decide) (by decide) rfl rfl ?_
                  refine r_aload_n (pc' := 171) X 0 dX9_coefficient_170 rfl rfl rfl ?_
                  refine gf_29_push (pc' := 174) X gw_976 dX9_coefficient_171 rfl ?_
                  refine r_iload_n (pc' := 175) X 2 dX9_coefficient_174 rfl rfl rfl ?_
                  refine r_iald (i := i.toNat) (pc' := 176) X k29_4 (by omega) (by omega) (by decide) dX9_coefficient_175 rfl ?_
                  refine w_iret X hr dX9_coefficient_176 ?_
                  try dsimp only
                  refine Or.inl ⟨er108, RScr.trans sc18 sc108, by omega, by omega, by omega, ?_⟩
                  unfold coefF
                  first
                    | (rw [hs117]; first | exact tA _ _ (by omega) (by omega) | exact tB _ (by omega) | exact tE _ (by omega) | exact tC _ _ (by omega) (by omega) | exact tQ _ (by omega))
                    | (rw [show q0 = 5 by omega, n13b, n13]; exact v2 _ _ (by omega) (by omega))
                · refine r_tsw (v := 3) (tgt := 177) X dX9_coefficient_117 hs117 (by decide) (by decide) (by decide) rfl rfl ?_
                  refine r_aload_n (pc' := 178) X 0 dX9_coefficient_177 rfl rfl rfl ?_
                  refine gf_29_view (pc' := 181) X gw_977 dX9_coefficient_178 rfl ?_
                  refine r_iconst (pc' := 182) X dX9_coefficient_181 rfl ?_
                  refine r_iload_n (pc' := 183) X 2 dX9_coefficient_182 rfl rfl rfl ?_
                  refine r_imul (pc' := 184) X dX9_coefficient_183 rfl ?_
                  refine r_iload_n (pc' := 185) X 3 dX9_coefficient_184 rfl rfl rfl ?_
                  refine r_iadd (pc' := 186) X dX9_coefficient_185 rfl ?_
                  refine r_iald (i := (4 * i.toNat + j.toNat)) (pc' := 187) X k29_5 (by omega) (by omega) (by decide) dX9_coefficient_186 rfl ?_
                  refine w_iret X hr dX9_coefficient_187 ?_
                  try dsimp only
                  refine Or.inl ⟨er108, RScr.trans sc18 sc108, by omega, by omega, by omega, ?_⟩
                  unfold coefF
                  first
                    | (rw [hs117]; first | exact tA _ _ (by omega) (by omega) | exact tB _ (by omega) | exact tE _ (by omega) | exact tC _ _ (by omega) (by omega) | exact tQ _ (by omega))
                    | (rw [show q0 = 5 by omega, n13b, n13]; exact v2 _ _ (by omega) (by omega))
                · refine r_tsw (v := 4) (tgt := 188) X dX9_coefficient_117 hs117 (by decide) (by decide) (by decide) rfl rfl ?_
                  refine r_aload_n (pc' := 189) X 0 dX9_coefficient_188 rfl rfl rfl ?_
                  refine gf_29_quantum (pc' := 192) X gw_978 dX9_coefficient_189 rfl ?_
                  refine r_iload_n (pc' := 193) X 2 dX9_coefficient_192 rfl rfl rfl ?_
                  refine r_iald (i := i.toNat) (pc' := 194) X k29_6 (by omega) (by omega) (by decide) dX9_coefficient_193 rfl ?_
                  refine w_iret X hr dX9_coefficient_194 ?_
                  try dsimp only
                  refine Or.inl ⟨er108, RScr.trans sc18 sc108, by omega, by omega, by omega, ?_⟩
                  unfold coefF
                  first
                    | (rw [hs117]; first | exact tA _ _ (by omega) (by omega) | exact tB _ (by omega) | exact tE _ (by omega) | exact tC _ _ (by omega) (by omega) | exact tQ _ (by omega))
                    | (rw [show q0 = 5 by omega, n13b, n13]; exact v2 _ _ (by omega) (by omega))
              · refine r_tswD (tgt := 195) X dX9_coefficient_117 (by omega) (by omega) rfl ?_
                refine r_aload_n (pc' := 196) X 0 dX9_coefficient_195 rfl rfl rfl ?_
                refine gf_29_now (pc' := 199) X gw_987 dX9_coefficient_196 rfl ?_
                refine r_bipush (pc' := 201) X dX9_coefficient_199 rfl rfl ?_
                refine r_iconst (pc' := 202) X dX9_coefficient_201 rfl ?_
                refine r_iload_n (pc' := 203) X 2 dX9_coefficient_202 rfl rfl rfl ?_
                refine r_imul (pc' := 204) X dX9_coefficient_203 rfl ?_
                refine r_iadd (pc' := 205) X dX9_coefficient_204 rfl ?_
                refine r_iload_n (pc' := 206) X 3 dX9_coefficient_205 rfl rfl rfl ?_
                refine r_iadd (pc' := 207) X dX9_coefficient_206 rfl ?_
                refine r_iald (i := (16 + 3 * i.toNat + j.toNat)) (pc' := 208) X k29_13 (by omega) (by omega) (by decide) dX9_coefficient_207 rfl ?_
                refine w_iret X hr dX9_coefficient_208 ?_
                try dsimp only
                refine Or.inl ⟨er108, RScr.trans sc18 sc108, by omega, by omega, by omega, ?_⟩
                unfold coefF
                first
                  | (rw [hs117]; first | exact tA _ _ (by omega) (by omega) | exact tB _ (by omega) | exact tE _ (by omega) | exact tC _ _ (by omega) (by omega) | exact tQ _ (by omega))
                  | (rw [show q0 = 5 by omega, n13b, n13]; exact v2 _ _ (by omega) (by omega))
        · refine r_iload_n (pc' := 56) X 1 dX9_coefficient_55 rfl rfl rfl ?_
          refine r_iconst (pc' := 57) X dX9_coefficient_56 rfl ?_
          refine r_icmp_ne (pc' := 60) (tgt := 68) X dX9_coefficient_57 rfl rfl (by omega) (by omega) (fun h57 => ?_) (fun h57 => ?_)
          · refine r_iload_n (pc' := 69) X 1 dX9_coefficient_68 rfl rfl rfl ?_
            refine r_iconst (pc' := 70) X dX9_coefficient_69 rfl ?_
            refine r_icmp_ne (pc' := 73) (tgt := 81) X dX9_coefficient_70 rfl rfl (by omega) (by omega) (fun h70 => ?_) (fun h70 => ?_)
            · refine r_iload_n (pc' := 82) X 3 dX9_coefficient_81 rfl rfl rfl ?_
              refine r_if_ne (pc' := 85) (tgt := 89) X dX9_coefficient_82 rfl rfl (by omega) (fun h82 => ?_) (fun h82 => ?_)
              · refine r_iconst (pc' := 90) X dX9_coefficient_89 rfl ?_
                refine r_istore (pc' := 92) (lc' := [(0, vR G (29, 0)), (1, vI q0), (2, vI i), (3, vI j), (4, vI z38), (5, vI 0)]) X [1, 2, 3, 4, 5, 0] dX9_coefficient_90 (by decide) rfl rfl ?_
                refine r_aload_n (pc' := 93) X 0 dX9_coefficient_92 rfl rfl rfl ?_
                refine r_iload (pc' := 95) X 4 dX9_coefficient_93 rfl rfl ?_
                refine r_if_eq (pc' := 98) (tgt := 107) X dX9_coefficient_95 rfl rfl (by omega) (fun h95 => ?_) (fun h95 => ?_)
                · refine r_iconst (pc' := 108) X dX9_coefficient_107 rfl ?_
                  refine w_calli (pc' := 111) (st := []) (w_runV X (c_X9_refused l G M3 1 (by first | assumption | omega)) cf_X9_refused k29_0 rfl gw_1087 gp_25 rfl rfl ⟨Nat.le_of_ble_eq_true rfl, Nat.le_of_ble_eq_true rfl⟩ rfl rfl (Nat.le_of_ble_eq_true rfl) ⟨Nat.le_of_ble_eq_true rfl, Nat.le_of_ble_eq_true rfl⟩ gw_1085 dX9_coefficient_108) rfl (fun z108 M43 h108 => ?_)
                  have hz108 : z108 = 1 := by rw [h108.1]; rfl
                  have ew108 : ∀ a b x, ¬ (a = 29 ∧ b = 0 ∧ x = 0) → M43 a b x = M3 a b x := fun a b x q => by rw [h108.2]; unfold wu; rw [if_neg q]
                  have er108 : M43 29 0 0 = 1 := by rw [h108.2]; unfold wu; rw [if_pos ⟨rfl, rfl, rfl⟩]
                  have sc108 : RScr M3 M43 := fun a b x q => ew108 a b x (by omega)
                  have qq108 : PEq N P pv (M43 29) := qq18.keep (fun b x q => ew108 29 b x (by omega))
                  refine r_if_eq (pc' := 114) (tgt := 116) X dX9_coefficient_111 rfl rfl (by omega) (fun h111 => by exfalso; omega) (fun h111 => ?_)
                  refine r_iconst (pc' := 115) X dX9_coefficient_114 rfl ?_
                  refine w_iret X hr dX9_coefficient_115 ?_
                  try dsimp only
                  exact (Or.inr (Or.inl ⟨er108, (RScr.trans sc18 sc108), by omega⟩))
                · refine r_iload (pc' := 100) X 5 dX9_coefficient_98 rfl rfl ?_
                  refine r_if_eq (pc' := 103) (tgt := 107) X dX9_coefficient_100 rfl rfl (by omega) (fun h100 => ?_) (fun h100 => absurd h100 (by decide))
                  refine r_iconst (pc' := 108) X dX9_coefficient_107 rfl ?_
                  refine w_calli (pc' := 111) (st := []) (w_runV X (c_X9_refused l G M3 1 (by first | assumption | omega)) cf_X9_refused k29_0 rfl gw_1087 gp_25 rfl rfl ⟨Nat.le_of_ble_eq_true rfl, Nat.le_of_ble_eq_true rfl⟩ rfl rfl (Nat.le_of_ble_eq_true rfl) ⟨Nat.le_of_ble_eq_true rfl, Nat.le_of_ble_eq_true rfl⟩ gw_1085 dX9_coefficient_108) rfl (fun z108 M44 h108 => ?_)
                  have hz108 : z108 = 1 := by rw [h108.1]; rfl
                  have ew108 : ∀ a b x, ¬ (a = 29 ∧ b = 0 ∧ x = 0) → M44 a b x = M3 a b x := fun a b x q => by rw [h108.2]; unfold wu; rw [if_neg q]
                  have er108 : M44 29 0 0 = 1 := by rw [h108.2]; unfold wu; rw [if_pos ⟨rfl, rfl, rfl⟩]
                  have sc108 : RScr M3 M44 := fun a b x q => ew108 a b x (by omega)
                  have qq108 : PEq N P pv (M44 29) := qq18.keep (fun b x q => ew108 29 b x (by omega))
                  refine r_if_eq (pc' := 114) (tgt := 116) X dX9_coefficient_111 rfl rfl (by omega) (fun h111 => by exfalso; omega) (fun h111 => ?_)
                  refine r_iconst (pc' := 115) X dX9_coefficient_114 rfl ?_
                  refine w_iret X hr dX9_coefficient_115 ?_
                  try dsimp only
                  exact (Or.inr (Or.inl ⟨er108, (RScr.trans sc18 sc108), by omega⟩))
              · refine r_iconst (pc' := 86) X dX9_coefficient_85 rfl ?_
                refine r_goto (tgt := 90) X dX9_coefficient_86 rfl ?_
                refine r_istore (pc' := 92) (lc' := [(0, vR G (29, 0)), (1, vI q0), (2, vI i), (3, vI j), (4, vI z38), (5, vI 1)]) X [1, 2, 3, 4, 5, 0] dX9_coefficient_90 (by decide) rfl rfl ?_
                refine r_aload_n (pc' := 93) X 0 dX9_coefficient_92 rfl rfl rfl ?_
                refine r_iload (pc' := 95) X 4 dX9_coefficient_93 rfl rfl ?_
                refine r_if_eq (pc' := 98) (tgt := 107) X dX9_coefficient_95 rfl rfl (by omega) (fun h95 => ?_) (fun h95 => ?_)
                · refine r_iconst (pc' := 108) X dX9_coefficient_107 rfl ?_
                  refine w_calli (pc' := 111) (st := []) (w_runV X (c_X9_refused l G M3 1 (by first | assumption | omega)) cf_X9_refused k29_0 rfl gw_1087 gp_25 rfl rfl ⟨Nat.le_of_ble_eq_true rfl, Nat.le_of_ble_eq_true rfl⟩ rfl rfl (Nat.le_of_ble_eq_true rfl) ⟨Nat.le_of_ble_eq_true rfl, Nat.le_of_ble_eq_true rfl⟩ gw_1085 dX9_coefficient_108) rfl (fun z108 M45 h108 => ?_)
                  have hz108 : z108 = 1 := by rw [h108.1]; rfl
                  have ew108 : ∀ a b x, ¬ (a = 29 ∧ b = 0 ∧ x = 0) → M45 a b x = M3 a b x := fun a b x q => by rw [h108.2]; unfold wu; rw [if_neg q]
                  have er108 : M45 29 0 0 = 1 := by rw [h108.2]; unfold wu; rw [if_pos ⟨rfl, rfl, rfl⟩]
                  have sc108 : RScr M3 M45 := fun a b x q => ew108 a b x (by omega)
                  have qq108 : PEq N P pv (M45 29) := qq18.keep (fun b x q => ew108 29 b x (by omega))
                  refine r_if_eq (pc' := 114) (tgt := 116) X dX9_coefficient_111 rfl rfl (by omega) (fun h111 => by exfalso; omega) (fun h111 => ?_)
                  refine r_iconst (pc' := 115) X dX9_coefficient_114 rfl ?_
                  refine w_iret X hr dX9_coefficient_115 ?_
                  try dsimp only
                  exact (Or.inr (Or.inl ⟨er108, (RScr.trans sc18 sc108), by omega⟩))
                · refine r_iload (pc' := 100) X 5 dX9_coefficient_98 rfl rfl ?_
                  refine r_if_eq (pc' := 103) (tgt := 107) X dX9_coefficient_100 rfl rfl (by omega) (fun h100 => absurd h100 (by decide)) (fun h100 => ?_)
                  refine r_iconst (pc' := 104) X dX9_coefficient_103 rfl ?_
                  refine r_goto (tgt := 108) X dX9_coefficient_104 rfl ?_
                  refine w_calli (pc' := 111) (st := []) (w_runV X (c_X9_refused l G M3 0 (by first | assumption | omega)) cf_X9_refused k29_0 rfl gw_1087 gp_25 rfl rfl ⟨Nat.le_of_ble_eq_true rfl, Nat.le_of_ble_eq_true rfl⟩ rfl rfl (Nat.le_of_ble_eq_true rfl) ⟨Nat.le_of_ble_eq_true rfl, Nat.le_of_ble_eq_true rfl⟩ gw_1085 dX9_coefficient_108) rfl (fun z108 M46 h108 => ?_)
                  have hz108 : z108 = 0 := by rw [h108.1]; rfl
                  have ew108 : ∀ a b x, ¬ (a = 29 ∧ b = 0 ∧ x = 0) → M46 a b x = M3 a b x := fun a b x q => by rw [h108.2]; unfold wu; rw [if_neg q]
                  have er108 : M46 29 0 0 = 0 := by rw [h108.2]; unfold wu; rw [if_pos ⟨rfl, rfl, rfl⟩]
                  have sc108 : RScr M3 M46 := fun a b x q => ew108 a b x (by omega)
                  have qq108 : PEq N P pv (M46 29) := qq18.keep (fun b x q => ew108 29 b x (by omega))
                  refine r_if_eq (pc' := 114) (tgt := 116) X dX9_coefficient_111 rfl rfl (by omega) (fun h111 => ?_) (fun h111 => by exfalso; omega)
                  obtain ⟨tN, tP, tA, tB, tE, tC, tQ⟩ := id qq108
                  have n13b : M46 29 13 = M3 29 13 := funext fun x => ew108 29 13 x (by omega)
                  refine r_iload_n (pc' := 117) X 1 dX9_coefficient_116 rfl rfl rfl ?_
                  by_cases hs117 : 0 ≤ q0 ∧ q0 ≤ 4
                  · rcases (show q0 = 0 ∨ q0 = 1 ∨ q0 = 2 ∨ q0 = 3 ∨ q0 = 4 by omega) with hs117 | hs117 | hs117 | hs117 | hs117
                    · refine r_tsw (v := 0) (tgt := 152) X dX9_coefficient_117 hs117 (by decide) (by decide) (by decide) rfl rfl ?_
                      refine r_aload_n (pc' := 153) X 0 dX9_coefficient_152 rfl rfl rfl ?_
                      refine gf_29_matrix (pc' := 156) X gw_974 dX9_coefficient_153 rfl ?_
                      refine r_iconst (pc' := 157) X dX9_coefficient_156 rfl ?_
                      refine r_iload_n (pc' := 158) X 2 dX9_coefficient_157 rfl rfl rfl ?_
                      refine r_imul (pc' := 159) X dX9_coefficient_158 rfl ?_
                      refine r_iload_n (pc' := 160) X 3 dX9_coefficient_159 rfl rfl rfl ?_
                      refine r_iadd (pc' := 161) X dX9_coefficient_160 rfl ?_
                      refine r_iald (i := (4 * i.toNat + j.toNat)) (pc' := 162) X k29_2 (by omega) (by omega) (by decide) dX9_coefficient_161 rfl ?_
                      refine w_iret X hr dX9_coefficient_162 ?_
                      try dsimp only
                      refine Or.inl ⟨er108, RScr.trans sc18 sc108, by omega, by omega, by omega, ?_⟩
                      unfold coefF
                      first
                        | (rw [hs117]; first | exact tA _ _ (by omega) (by omega) | exact tB _ (by omega) | exact tE _ (by omega) | exact tC _ _ (by omega) (by omega) | exact tQ _ (by omega))
                        | (rw [show q0 = 5 by omega, n13b, n13]; exact v2 _ _ (by omega) (by omega))
                    · refine r_tsw (v := 1) (tgt := 163) X dX9_coefficient_117 hs117 (by decide) (by decide) (by decide) rfl rfl ?_
                      refine r_aload_n (pc' := 164) X 0 dX9_coefficient_163 rfl rfl rfl ?_
                      refine gf_29_drive (pc' := 167) X gw_975 dX9_coefficient_164 rfl ?_
                      refine r_iload_n (pc' := 168) X 2 dX9_coefficient_167 rfl rfl rfl ?_
                      refine r_iald (i := i.toNat) (pc' := 169) X k29_3 (by omega) (by omega) (by decide) dX9_coefficient_168 rfl ?_
                      refine w_iret X hr dX9_coefficient_169 ?_
                      try dsimp only
                      refine Or.inl ⟨er108, RScr.trans sc18 sc108, by omega, by omega, by omega, ?_⟩
                      unfold coefF
                      first
                        | (rw [hs117]; first | exact tA _ _ (by omega) (by omega) | exact tB _ (by omega) | exact tE _ (by omega) | exact tC _ _ (by omega) (by omega) | exact tQ _ (by omega))
                        | (rw [show q0 = 5 by omega, n13b, n13]; exact v2 _ _ (by omega) (by omega))
                    · refine r_tsw (v := 2) (tgt := 170) X dX9_coefficient_117 hs117 (by decide) (by decide) (by decide) rfl rfl ?_
                      refine r_aload_n (pc' := 171) X 0 dX9_coefficient_170 rfl rfl rfl ?_
                      refine gf_29_push (pc' := 174) X gw_976 dX9_coefficient_171 rfl ?_
                      refine r_iload_n (pc' := 175) X 2 dX9_coefficient_174 rfl rfl rfl ?_
                      refine r_iald (i := i.toNat) (pc' := 176) X k29_4 (by omega) (by omega) (by decide) dX9_coefficient_175 rfl ?_
                      refine w_iret X hr dX9_coefficient_176 ?_
                      try dsimp only
                      refine Or.inl ⟨er108, RScr.trans sc18 sc108, by omega, by omega, by omega, ?_⟩
                      unfold coefF
                      first
                        | (rw [hs117]; first | exact tA _ _ (by omega) (by omega) | exact tB _ (by omega) | exact tE _ (by omega) | exact tC _ _ (by omega) (by omega) | exact tQ _ (by omega))
                        | (rw [show q0 = 5 by omega, n13b, n13]; exact v2 _ _ (by omega) (by omega))
                    · refine r_tsw (v := 3) (tgt := 177) X dX9_coefficient_117 hs117 (by decide) (by decide) (by decide) rfl rfl ?_
                      refine r_aload_n (pc' := 178) X 0 dX9_coefficient_177 rfl rfl rfl ?_
                      refine gf_29_view (pc' := 181) X gw_977 dX9_coefficient_178 rfl ?_
                      refine r_iconst (pc' := 182) X dX9_coefficient_181 rfl ?_
                      refine r_iload_n (pc' := 183) X 2 dX9_coefficient_182 rfl rfl rfl ?_
                      refine r_imul (pc' := 184) X dX9_coefficient_183 rfl ?_
                      refine r_iload_n (pc' := 185) X 3 dX9_coefficient_184 rfl rfl rfl ?_
                      refine r_iadd (pc' := 186) X dX9_coefficient_185 rfl ?_
                      refine r_iald (i := (4 * i.toNat + j.toNat)) (pc' := 187) X k29_5 (by omega) (by omega) (by decide) dX9_coefficient_186 rfl ?_
                      refine w_iret X hr dX9_coefficient_187 ?_
                      try dsimp only
                      refine Or.inl ⟨er108, RScr.trans sc18 sc108, by omega, by omega, by omega, ?_⟩
                      unfold coefF
                      first
                        | (rw [hs117]; first | exact tA _ _ (by omega) (by omega) | exact tB _ (by omega) | exact tE _ (by omega) | exact tC _ _ (by omega) (by omega) | exact tQ _ (by omega))
                        | (rw [show q0 = 5 by omega, n13b, n13]; exact v2 _ _ (by omega) (by omega))
                    · refine r_tsw (v := 4) (tgt := 188) X dX9_coefficient_117 hs117 (by decide) (by decide) (by decide) rfl rfl ?_
                      refine r_aload_n (pc' := 189) X 0 dX9_coefficient_188 rfl rfl rfl ?_
                      refine gf_29_quantum (pc' := 192) X gw_978 dX9_coefficient_189 rfl ?_
                      refine r_iload_n (pc' := 193) X 2 dX9_coefficient_192 rfl rfl rfl ?_
                      refine r_iald (i := i.toNat) (pc' := 194) X k29_6 (by omega) (by omega) (by decide) dX9_coefficient_193 rfl ?_
                      refine w_iret X hr dX9_coefficient_194 ?_
                      try dsimp only
                      refine Or.inl ⟨er108, RScr.trans sc18 sc108, by omega, by omega, by omega, ?_⟩
                      unfold coefF
                      first
                        | (rw [hs117]; first | exact tA _ _ (by omega) (by omega) | exact tB _ (by omega) | exact tE _ (by omega) | exact tC _ _ (by omega) (by omega) | exact tQ _ (by omega))
                        | (rw [show q0 = 5 by omega, n13b, n13]; exact v2 _ _ (by omega) (by omega))
                  · refine r_tswD (tgt := 195) X dX9_coefficient_117 (by omega) (by omega) rfl ?_
                    refine r_aload_n (pc' := 196) X 0 dX9_coefficient_195 rfl rfl rfl ?_
                    refine gf_29_now (pc' := 199) X gw_987 dX9_coefficient_196 rfl ?_
                    refine r_bipush (pc' := 201) X dX9_coefficient_199 rfl rfl ?_
                    refine r_iconst (pc' := 202) X dX9_coefficient_201 rfl ?_
                    refine r_iload_n (pc' := 203) X 2 dX9_coefficient_202 rfl rfl rfl ?_
                    refine r_imul (pc' := 204) X dX9_coefficient_203 rfl ?_
                    refine r_iadd (pc' := 205) X dX9_coefficient_204 rfl ?_
                    refine r_iload_n (pc' := 206) X 3 dX9_coefficient_205 rfl rfl rfl ?_
                    refine r_iadd (pc' := 207) X dX9_coefficient_206 rfl ?_
                    refine r_iald (i := (16 + 3 * i.toNat + j.toNat)) (pc' := 208) X k29_13 (by omega) (by omega) (by decide) dX9_coefficient_207 rfl ?_
                    refine w_iret X hr dX9_coefficient_208 ?_
                    try dsimp only
                    refine Or.inl ⟨er108, RScr.trans sc18 sc108, by omega, by omega, by omega, ?_⟩
                    unfold coefF
                    first
                      | (rw [hs117]; first | exact tA _ _ (by omega) (by omega) | exact tB _ (by omega) | exact tE _ (by omega) | exact tC _ _ (by omega) (by omega) | exact tQ _ (by omega))
                      | (rw [show q0 = 5 by omega, n13b, n13]; exact v2 _ _ (by omega) (by omega))
            · refine r_aload_n (pc' := 74) X 0 dX9_coefficient_73 rfl rfl rfl ?_
              refine r_iload_n (pc' := 75) X 3 dX9_coefficient_74 rfl rfl rfl ?_
              refine w_calli (pc' := 78) (st := []) (w_runV X (c_X9_isOutput l G M3 N P pv (by first | assumption | omega) (by first | assumption | omega) j (by first | assumption | omega)) cf_X9_isOutput k29_0 rfl gw_1152 gp_35 rfl rfl ⟨Nat.le_of_ble_eq_true rfl, Nat.le_of_ble_eq_true rfl⟩ rfl rfl (Nat.le_of_ble_eq_true rfl) ⟨Nat.le_of_ble_eq_true rfl, Nat.le_of_ble_eq_true rfl⟩ gw_1150 dX9_coefficient_75) rfl (fun z75 M47 h75 => ?_)
              have hz75 := h75.1
              obtain rfl := h75.2.symm
              have hi75 : z75 = 0 ∨ z75 = 1 := by rw [hz75]; split <;> omega
              have hq75 : z75 = 1 ↔ (0 ≤ j ∧ j < P) := by rw [hz75]; split <;> omega
              refine r_goto (tgt := 90) X dX9_coefficient_78 rfl ?_
              refine r_istore (pc' := 92) (lc' := [(0, vR G (29, 0)), (1, vI q0), (2, vI i), (3, vI j), (4, vI z38), (5, vI z75)]) X [1, 2, 3, 4, 5, 0] dX9_coefficient_90 (by decide) rfl rfl ?_
              refine r_aload_n (pc' := 93) X 0 dX9_coefficient_92 rfl rfl rfl ?_
              refine r_iload (pc' := 95) X 4 dX9_coefficient_93 rfl rfl ?_
              refine r_if_eq (pc' := 98) (tgt := 107) X dX9_coefficient_95 rfl rfl (by omega) (fun h95 => ?_) (fun h95 => ?_)
              · refine r_iconst (pc' := 108) X dX9_coefficient_107 rfl ?_
                refine w_calli (pc' := 111) (st := []) (w_runV X (c_X9_refused l G M3 1 (by first | assumption | omega)) cf_X9_refused k29_0 rfl gw_1087 gp_25 rfl rfl ⟨Nat.le_of_ble_eq_true rfl, Nat.le_of_ble_eq_true rfl⟩ rfl rfl (Nat.le_of_ble_eq_true rfl) ⟨Nat.le_of_ble_eq_true rfl, Nat.le_of_ble_eq_true rfl⟩ gw_1085 dX9_coefficient_108) rfl (fun z108 M48 h108 => ?_)
                have hz108 : z108 = 1 := by rw [h108.1]; rfl
                have ew108 : ∀ a b x, ¬ (a = 29 ∧ b = 0 ∧ x = 0) → M48 a b x = M3 a b x := fun a b x q => by rw [h108.2]; unfold wu; rw [if_neg q]
                have er108 : M48 29 0 0 = 1 := by rw [h108.2]; unfold wu; rw [if_pos ⟨rfl, rfl, rfl⟩]
                have sc108 : RScr M3 M48 := fun a b x q => ew108 a b x (by omega)
                have qq108 : PEq N P pv (M48 29) := qq18.keep (fun b x q => ew108 29 b x (by omega))
                refine r_if_eq (pc' := 114) (tgt := 116) X dX9_coefficient_111 rfl rfl (by omega) (fun h111 => by exfalso; omega) (fun h111 => ?_)
                refine r_iconst (pc' := 115) X dX9_coefficient_114 rfl ?_
                refine w_iret X hr dX9_coefficient_115 ?_
                try dsimp only
                exact (Or.inr (Or.inl ⟨er108, (RScr.trans sc18 sc108), by omega⟩))
              · refine r_iload (pc' := 100) X 5 dX9_coefficient_98 rfl rfl ?_
                refine r_if_eq (pc' := 103) (tgt := 107) X dX9_coefficient_100 rfl rfl (by omega) (fun h100 => ?_) (fun h100 => ?_)
                · refine r_iconst (pc' := 108) X dX9_coefficient_107 rfl ?_
                  refine w_calli (pc' := 111) (st := []) (w_runV X (c_X9_refused l G M3 1 (by first | assumption | omega)) cf_X9_refused k29_0 rfl gw_1087 gp_25 rfl rfl ⟨Nat.le_of_ble_eq_true rfl, Nat.le_of_ble_eq_true rfl⟩ rfl rfl (Nat.le_of_ble_eq_true rfl) ⟨Nat.le_of_ble_eq_true rfl, Nat.le_of_ble_eq_true rfl⟩ gw_1085 dX9_coefficient_108) rfl (fun z108 M49 h108 => ?_)
                  have hz108 : z108 = 1 := by rw [h108.1]; rfl
                  have ew108 : ∀ a b x, ¬ (a = 29 ∧ b = 0 ∧ x = 0) → M49 a b x = M3 a b x := fun a b x q => by rw [h108.2]; unfold wu; rw [if_neg q]
                  have er108 : M49 29 0 0 = 1 := by rw [h108.2]; unfold wu; rw [if_pos ⟨rfl, rfl, rfl⟩]
                  have sc108 : RScr M3 M49 := fun a b x q => ew108 a b x (by omega)
                  have qq108 : PEq N P pv (M49 29) := qq18.keep (fun b x q => ew108 29 b x (by omega))
                  refine r_if_eq (pc' := 114) (tgt := 116) X dX9_coefficient_111 rfl rfl (by omega) (fun h111 => by exfalso; omega) (fun h111 => ?_)
                  refine r_iconst (pc' := 115) X dX9_coefficient_114 rfl ?_
                  refine w_iret X hr dX9_coefficient_115 ?_
                  try dsimp only
                  exact (Or.inr (Or.inl ⟨er108, (RScr.trans sc18 sc108), by omega⟩))
                · refine r_iconst (pc' := 104) X dX9_coefficient_103 rfl ?_
                  refine r_goto (tgt := 108) X dX9_coefficient_104 rfl ?_
                  refine w_calli (pc' := 111) (st := []) (w_runV X (c_X9_refused l G M3 0 (by first | assumption | omega)) cf_X9_refused k29_0 rfl gw_1087 gp_25 rfl rfl ⟨Nat.le_of_ble_eq_true rfl, Nat.le_of_ble_eq_true rfl⟩ rfl rfl (Nat.le_of_ble_eq_true rfl) ⟨Nat.le_of_ble_eq_true rfl, Nat.le_of_ble_eq_true rfl⟩ gw_1085 dX9_coefficient_108) rfl (fun z108 M50 h108 => ?_)
                  have hz108 : z108 = 0 := by rw [h108.1]; rfl
                  have ew108 : ∀ a b x, ¬ (a = 29 ∧ b = 0 ∧ x = 0) → M50 a b x = M3 a b x := fun a b x q => by rw [h108.2]; unfold wu; rw [if_neg q]
                  have er108 : M50 29 0 0 = 0 := by rw [h108.2]; unfold wu; rw [if_pos ⟨rfl, rfl, rfl⟩]
                  have sc108 : RScr M3 M50 := fun a b x q => ew108 a b x (by omega)
                  have qq108 : PEq N P pv (M50 29) := qq18.keep (fun b x q => ew108 29 b x (by omega))
                  refine r_if_eq (pc' := 114) (tgt := 116) X dX9_coefficient_111 rfl rfl (by omega) (fun h111 => ?_) (fun h111 => by exfalso; omega)
                  obtain ⟨tN, tP, tA, tB, tE, tC, tQ⟩ := id qq108
                  have n13b : M50 29 13 = M3 29 13 := funext fun x => ew108 29 13 x (by omega)
                  refine r_iload_n (pc' := 117) X 1 dX9_coefficient_116 rfl rfl rfl ?_
                  by_cases hs117 : 0 ≤ q0 ∧ q0 ≤ 4
                  · rcases (show q0 = 0 ∨ q0 = 1 ∨ q0 = 2 ∨ q0 = 3 ∨ q0 = 4 by omega) with hs117 | hs117 | hs117 | hs117 | hs117
                    · refine r_tsw (v := 0) (tgt := 152) X dX9_coefficient_117 hs117 (by decide) (by decide) (by decide) rfl rfl ?_
                      refine r_aload_n (pc' := 153) X 0 dX9_coefficient_152 rfl rfl rfl ?_
                      refine gf_29_matrix (pc' := 156) X gw_974 dX9_coefficient_153 rfl ?_
                      refine r_iconst (pc' := 157) X dX9_coefficient_156 rfl ?_
                      refine r_iload_n (pc' := 158) X 2 dX9_coefficient_157 rfl rfl rfl ?_
                      refine r_imul (pc' := 159) X dX9_coefficient_158 rfl ?_
                      refine r_iload_n (pc' := 160) X 3 dX9_coefficient_159 rfl rfl rfl ?_
                      refine r_iadd (pc' := 161) X dX9_coefficient_160 rfl ?_
                      refine r_iald (i := (4 * i.toNat + j.toNat)) (pc' := 162) X k29_2 (by omega) (by omega) (by decide) dX9_coefficient_161 rfl ?_
                      refine w_iret X hr dX9_coefficient_162 ?_
                      try dsimp only
                      refine Or.inl ⟨er108, RScr.trans sc18 sc108, by omega, by omega, by omega, ?_⟩
                      unfold coefF
                      first
                        | (rw [hs117]; first | exact tA _ _ (by omega) (by omega) | exact tB _ (by omega) | exact tE _ (by omega) | exact tC _ _ (by omega) (by omega) | exact tQ _ (by omega))
                        | (rw [show q0 = 5 by omega, n13b, n13]; exact v2 _ _ (by omega) (by omega))
                    · refine r_tsw (v := 1) (tgt := 163) X dX9_coefficient_117 hs117 (by decide) (by decide) (by decide) rfl rfl ?_
                      refine r_aload_n (pc' := 164) X 0 dX9_coefficient_163 rfl rfl rfl ?_
                      refine gf_29_drive (pc' := 167) X gw_975 dX9_coefficient_164 rfl ?_
                      refine r_iload_n (pc' := 168) X 2 dX9_coefficient_167 rfl rfl rfl ?_
                      refine r_iald (i := i.toNat) (pc' := 169) X k29_3 (by omega) (by omega) (by decide) dX9_coefficient_168 rfl ?_
                      refine w_iret X hr dX9_coefficient_169 ?_
                      try dsimp only
                      refine Or.inl ⟨er108, RScr.trans sc18 sc108, by omega, by omega, by omega, ?_⟩
                      unfold coefF
                      first
                        | (rw [hs117]; first | exact tA _ _ (by omega) (by omega) | exact tB _ (by omega) | exact tE _ (by omega) | exact tC _ _ (by omega) (by omega) | exact tQ _ (by omega))
                        | (rw [show q0 = 5 by omega, n13b, n13]; exact v2 _ _ (by omega) (by omega))
                    · refine r_tsw (v := 2) (tgt := 170) X dX9_coefficient_117 hs117 (by decide) (by decide) (by decide) rfl rfl ?_
                      refine r_aload_n (pc' := 171) X 0 dX9_coefficient_170 rfl rfl rfl ?_
                      refine gf_29_push (pc' := 174) X gw_976 dX9_coefficient_171 rfl ?_
                      refine r_iload_n (pc' := 175) X 2 dX9_coefficient_174 rfl rfl rfl ?_
                      refine r_iald (i := i.toNat) (pc' := 176) X k29_4 (by omega) (by omega) (by decide) dX9_coefficient_175 rfl ?_
                      refine w_iret X hr dX9_coefficient_176 ?_
                      try dsimp only
                      refine Or.inl ⟨er108, RScr.trans sc18 sc108, by omega, by omega, by omega, ?_⟩
                      unfold coefF
                      first
                        | (rw [hs117]; first | exact tA _ _ (by omega) (by omega) | exact tB _ (by omega) | exact tE _ (by omega) | exact tC _ _ (by omega) (by omega) | exact tQ _ (by omega))
                        | (rw [show q0 = 5 by omega, n13b, n13]; exact v2 _ _ (by omega) (by omega))
                    · refine r_tsw (v := 3) (tgt := 177) X dX9_coefficient_117 hs117 (by decide) (by decide) (by decide) rfl rfl ?_
                      refine r_aload_n (pc' := 178) X 0 dX9_coefficient_177 rfl rfl rfl ?_
                      refine gf_29_view (pc' := 181) X gw_977 dX9_coefficient_178 rfl ?_
                      refine r_iconst (pc' := 182) X dX9_coefficient_181 rfl ?_
                      refine r_iload_n (pc' := 183) X 2 dX9_coefficient_182 rfl rfl rfl ?_
                      refine r_imul (pc' := 184) X dX9_coefficient_183 rfl ?_
                      refine r_iload_n (pc' := 185) X 3 dX9_coefficient_184 rfl rfl rfl ?_
                      refine r_iadd (pc' := 186) X dX9_coefficient_185 rfl ?_
                      refine r_iald (i := (4 * i.toNat + j.toNat)) (pc' := 187) X k29_5 (by omega) (by omega) (by decide) dX9_coefficient_186 rfl ?_
                      refine w_iret X hr dX9_coefficient_187 ?_
                      try dsimp only
                      refine Or.inl ⟨er108, RScr.trans sc18 sc108, by omega, by omega, by omega, ?_⟩
                      unfold coefF
                      first
                        | (rw [hs117]; first | exact tA _ _ (by omega) (by omega) | exact tB _ (by omega) | exact tE _ (by omega) | exact tC _ _ (by omega) (by omega) | exact tQ _ (by omega))
                        | (rw [show q0 = 5 by omega, n13b, n13]; exact v2 _ _ (by omega) (by omega))
                    · refine r_tsw (v := 4) (tgt := 188) X dX9_coefficient_117 hs117 (by decide) (by decide) (by decide) rfl rfl ?_
                      refine r_aload_n (pc' := 189) X 0 dX9_coefficient_188 rfl rfl rfl ?_
                      refine gf_29_quantum (pc' := 192) X gw_978 dX9_coefficient_189 rfl ?_
                      refine r_iload_n (pc' := 193) X 2 dX9_coefficient_192 rfl rfl rfl ?_
                      refine r_iald (i := i.toNat) (pc' := 194) X k29_6 (by omega) (by omega) (by decide) dX9_coefficient_193 rfl ?_
                      refine w_iret X hr dX9_coefficient_194 ?_
                      try dsimp only
                      refine Or.inl ⟨er108, RScr.trans sc18 sc108, by omega, by omega, by omega, ?_⟩
                      unfold coefF
                      first
                        | (rw [hs117]; first | exact tA _ _ (by omega) (by omega) | exact tB _ (by omega) | exact tE _ (by omega) | exact tC _ _ (by omega) (by omega) | exact tQ _ (by omega))
                        | (rw [show q0 = 5 by omega, n13b, n13]; exact v2 _ _ (by omega) (by omega))
                  · refine r_tswD (tgt := 195) X dX9_coefficient_117 (by omega) (by omega) rfl ?_
                    refine r_aload_n (pc' := 196) X 0 dX9_coefficient_195 rfl rfl rfl ?_
                    refine gf_29_now (pc' := 199) X gw_987 dX9_coefficient_196 rfl ?_
                    refine r_bipush (pc' := 201) X dX9_coefficient_199 rfl rfl ?_
                    refine r_iconst (pc' := 202) X dX9_coefficient_201 rfl ?_
                    refine r_iload_n (pc' := 203) X 2 dX9_coefficient_202 rfl rfl rfl ?_
                    refine r_imul (pc' := 204) X dX9_coefficient_203 rfl ?_
                    refine r_iadd (pc' := 205) X dX9_coefficient_204 rfl ?_
                    refine r_iload_n (pc' := 206) X 3 dX9_coefficient_205 rfl rfl rfl ?_
                    refine r_iadd (pc' := 207) X dX9_coefficient_206 rfl ?_
                    refine r_iald (i := (16 + 3 * i.toNat + j.toNat)) (pc' := 208) X k29_13 (by omega) (by omega) (by decide) dX9_coefficient_207 rfl ?_
                    refine w_iret X hr dX9_coefficient_208 ?_
                    try dsimp only
                    refine Or.inl ⟨er108, RScr.trans sc18 sc108, by omega, by omega, by omega, ?_⟩
                    unfold coefF
                    first
                      | (rw [hs117]; first | exact tA _ _ (by omega) (by omega) | exact tB _ (by omega) | exact tE _ (by omega) | exact tC _ _ (by omega) (by omega) | exact tQ _ (by omega))
                      | (rw [show q0 = 5 by omega, n13b, n13]; exact v2 _ _ (by omega) (by omega))
          · refine r_aload_n (pc' := 61) X 0 dX9_coefficient_60 rfl rfl rfl ?_
            refine r_iload_n (pc' := 62) X 3 dX9_coefficient_61 rfl rfl rfl ?_
            refine w_calli (pc' := 65) (st := []) (w_runV X (c_X9_isState l G M3 N P pv (by first | assumption | omega) (by first | assumption | omega) j (by first | assumption | omega)) cf_X9_isState k29_0 rfl gw_1156 gp_36 rfl rfl ⟨Nat.le_of_ble_eq_true rfl, Nat.le_of_ble_eq_true rfl⟩ rfl rfl (Nat.le_of_ble_eq_true rfl) ⟨Nat.le_of_ble_eq_true rfl, Nat.le_of_ble_eq_true rfl⟩ gw_1154 dX9_coefficient_62) rfl (fun z62 M51 h62 => ?_)
            have hz62 := h62.1
            obtain rfl := h62.2.symm
            have hi62 : z62 = 0 ∨ z62 = 1 := by rw [hz62]; split <;> omega
            have hq62 : z62 = 1 ↔ (0 ≤ j ∧ j < N) := by rw [hz62]; split <;> omega
            refine r_goto (tgt := 90) X dX9_coefficient_65 rfl ?_
            refine r_istore (pc' := 92) (lc' := [(0, vR G (29, 0)), (1, vI q0), (2, vI i), (3, vI j), (4, vI z38), (5, vI z62)]) X [1, 2, 3, 4, 5, 0] dX9_coefficient_90 (by decide) rfl rfl ?_
            refine r_aload_n (pc' := 93) X 0 dX9_coefficient_92 rfl rfl rfl ?_
            refine r_iload (pc' := 95) X 4 dX9_coefficient_93 rfl rfl ?_
            refine r_if_eq (pc' := 98) (tgt := 107) X dX9_coefficient_95 rfl rfl (by omega) (fun h95 => ?_) (fun h95 => ?_)
            · refine r_iconst (pc' := 108) X dX9_coefficient_107 rfl ?_
              refine w_calli (pc' := 111) (st := []) (w_runV X (c_X9_refused l G M3 1 (by first | assumption | omega)) cf_X9_refused k29_0 rfl gw_1087 gp_25 rfl rfl ⟨Nat.le_of_ble_eq_true rfl, Nat.le_of_ble_eq_true rfl⟩ rfl rfl (Nat.le_of_ble_eq_true rfl) ⟨Nat.le_of_ble_eq_true rfl, Nat.le_of_ble_eq_true rfl⟩ gw_1085 dX9_coefficient_108) rfl (fun z108 M52 h108 => ?_)
              have hz108 : z108 = 1 := by rw [h108.1]; rfl
              have ew108 : ∀ a b x, ¬ (a = 29 ∧ b = 0 ∧ x = 0) → M52 a b x = M3 a b x := fun a b x q => by rw [h108.2]; unfold wu; rw [if_neg q]
              have er108 : M52 29 0 0 = 1 := by rw [h108.2]; unfold wu; rw [if_pos ⟨rfl, rfl, rfl⟩]
              have sc108 : RScr M3 M52 := fun a b x q => ew108 a b x (by omega)
              have qq108 : PEq N P pv (M52 29) := qq18.keep (fun b x q => ew108 29 b x (by omega))
              refine r_if_eq (pc' := 114) (tgt := 116) X dX9_coefficient_111 rfl rfl (by omega) (fun h111 => by exfalso; omega) (fun h111 => ?_)
              refine r_iconst (pc' := 115) X dX9_coefficient_114 rfl ?_
              refine w_iret X hr dX9_coefficient_115 ?_
              try dsimp only
              exact (Or.inr (Or.inl ⟨er108, (RScr.trans sc18 sc108), by omega⟩))
            · refine r_iload (pc' := 100) X 5 dX9_coefficient_98 rfl rfl ?_
              refine r_if_eq (pc' := 103) (tgt := 107) X dX9_coefficient_100 rfl rfl (by omega) (fun h100 => ?_) (fun h100 => ?_)
              · refine r_iconst (pc' := 108) X dX9_coefficient_107 rfl ?_
                refine w_calli (pc' := 111) (st := []) (w_runV X (c_X9_refused l G M3 1 (by first | assumption | omega)) cf_X9_refused k29_0 rfl gw_1087 gp_25 rfl rfl ⟨Nat.le_of_ble_eq_true rfl, Nat.le_of_ble_eq_true rfl⟩ rfl rfl (Nat.le_of_ble_eq_true rfl) ⟨Nat.le_of_ble_eq_true rfl, Nat.le_of_ble_eq_true rfl⟩ gw_1085 dX9_coefficient_108) rfl (fun z108 M53 h108 => ?_)
                have hz108 : z108 = 1 := by rw [h108.1]; rfl
                have ew108 : ∀ a b x, ¬ (a = 29 ∧ b = 0 ∧ x = 0) → M53 a b x = M3 a b x := fun a b x q => by rw [h108.2]; unfold wu; rw [if_neg q]
                have er108 : M53 29 0 0 = 1 := by rw [h108.2]; unfold wu; rw [if_pos ⟨rfl, rfl, rfl⟩]
                have sc108 : RScr M3 M53 := fun a b x q => ew108 a b x (by omega)
                have qq108 : PEq N P pv (M53 29) := qq18.keep (fun b x q => ew108 29 b x (by omega))
                refine r_if_eq (pc' := 114) (tgt := 116) X dX9_coefficient_111 rfl rfl (by omega) (fun h111 => by exfalso; omega) (fun h111 => ?_)
                refine r_iconst (pc' := 115) X dX9_coefficient_114 rfl ?_
                refine w_iret X hr dX9_coefficient_115 ?_
                try dsimp only
                exact (Or.inr (Or.inl ⟨er108, (RScr.trans sc18 sc108), by omega⟩))
              · refine r_iconst (pc' := 104) X dX9_coefficient_103 rfl ?_
                refine r_goto (tgt := 108) X dX9_coefficient_104 rfl ?_
                refine w_calli (pc' := 111) (st := []) (w_runV X (c_X9_refused l G M3 0 (by first | assumption | omega)) cf_X9_refused k29_0 rfl gw_1087 gp_25 rfl rfl ⟨Nat.le_of_ble_eq_true rfl, Nat.le_of_ble_eq_true rfl⟩ rfl rfl (Nat.le_of_ble_eq_true rfl) ⟨Nat.le_of_ble_eq_true rfl, Nat.le_of_ble_eq_true rfl⟩ gw_1085 dX9_coefficient_108) rfl (fun z108 M54 h108 => ?_)
                have hz108 : z108 = 0 := by rw [h108.1]; rfl
                have ew108 : ∀ a b x, ¬ (a = 29 ∧ b = 0 ∧ x = 0) → M54 a b x = M3 a b x := fun a b x q => by rw [h108.2]; unfold wu; rw [if_neg q]
                have er108 : M54 29 0 0 = 0 := by rw [h108.2]; unfold wu; rw [if_pos ⟨rfl, rfl, rfl⟩]
                have sc108 : RScr M3 M54 := fun a b x q => ew108 a b x (by omega)
                have qq108 : PEq N P pv (M54 29) := qq18.keep (fun b x q => ew108 29 b x (by omega))
                refine r_if_eq (pc' := 114) (tgt := 116) X dX9_coefficient_111 rfl rfl (by omega) (fun h111 => ?_) (fun h111 => by exfalso; omega)
                obtain ⟨tN, tP, tA, tB, tE, tC, tQ⟩ := id qq108
                have n13b : M54 29 13 = M3 29 13 := funext fun x => ew108 29 13 x (by omega)
                refine r_iload_n (pc' := 117) X 1 dX9_coefficient_116 rfl rfl rfl ?_
                by_cases hs117 : 0 ≤ q0 ∧ q0 ≤ 4
                · rcases (show q0 = 0 ∨ q0 = 1 ∨ q0 = 2 ∨ q0 = 3 ∨ q0 = 4 by omega) with hs117 | hs117 | hs117 | hs117 | hs117
                  · refine r_tsw (v := 0) (tgt := 152) X dX9_coefficient_117 hs117 (by decide) (by decide) (by decide) rfl rfl ?_
                    refine r_aload_n (pc' := 153) X 0 dX9_coefficient_152 rfl rfl rfl ?_
                    refine gf_29_matrix (pc' := 156) X gw_974 dX9_coefficient_153 rfl ?_
                    refine r_iconst (pc' := 157) X dX9_coefficient_156 rfl ?_
                    refine r_iload_n (pc' := 158) X 2 dX9_coefficient_157 rfl rfl rfl ?_
                    refine r_imul (pc' := 159) X dX9_coefficient_158 rfl ?_
                    refine r_iload_n (pc' := 160) X 3 dX9_coefficient_159 rfl rfl rfl ?_
                    refine r_iadd (pc' := 161) X dX9_coefficient_160 rfl ?_
                    refine r_iald (i := (4 * i.toNat + j.toNat)) (pc' := 162) X k29_2 (by omega) (by omega) (by decide) dX9_coefficient_161 rfl ?_
                    refine w_iret X hr dX9_coefficient_162 ?_
                    try dsimp only
                    refine Or.inl ⟨er108, RScr.trans sc18 sc108, by omega, by omega, by omega, ?_⟩
                    unfold coefF
                    first
                      | (rw [hs117]; first | exact tA _ _ (by omega) (by omega) | exact tB _ (by omega) | exact tE _ (by omega) | exact tC _ _ (by omega) (by omega) | exact tQ _ (by omega))
                      | (rw [show q0 = 5 by omega, n13b, n13]; exact v2 _ _ (by omega) (by omega))
                  · refine r_tsw (v := 1) (tgt := 163) X dX9_coefficient_117 hs117 (by decide) (by decide) (by decide) rfl rfl ?_
                    refine r_aload_n (pc' := 164) X 0 dX9_coefficient_163 rfl rfl rfl ?_
                    refine gf_29_drive (pc' := 167) X gw_975 dX9_coefficient_164 rfl ?_
                    refine r_iload_n (pc' := 168) X 2 dX9_coefficient_167 rfl rfl rfl ?_
                    refine r_iald (i := i.toNat) (pc' := 169) X k29_3 (by omega) (by omega) (by decide) dX9_coefficient_168 rfl ?_
                    refine w_iret X hr dX9_coefficient_169 ?_
                    try dsimp only
                    refine Or.inl ⟨er108, RScr.trans sc18 sc108, by omega, by omega, by omega, ?_⟩
                    unfold coefF
                    first
                      | (rw [hs117]; first | exact tA _ _ (by omega) (by omega) | exact tB _ (by omega) | exact tE _ (by omega) | exact tC _ _ (by omega) (by omega) | exact tQ _ (by omega))
                      | (rw [show q0 = 5 by omega, n13b, n13]; exact v2 _ _ (by omega) (by omega))
                  · refine r_tsw (v := 2) (tgt := 170) X dX9_coefficient_117 hs117 (by decide) (by decide) (by decide) rfl rfl ?_
                    refine r_aload_n (pc' := 171) X 0 dX9_coefficient_170 rfl rfl rfl ?_
                    refine gf_29_push (pc' := 174) X gw_976 dX9_coefficient_171 rfl ?_
                    refine r_iload_n (pc' := 175) X 2 dX9_coefficient_174 rfl rfl rfl ?_
                    refine r_iald (i := i.toNat) (pc' := 176) X k29_4 (by omega) (by omega) (by decide) dX9_coefficient_175 rfl ?_
                    refine w_iret X hr dX9_coefficient_176 ?_
                    try dsimp only
                    refine Or.inl ⟨er108, RScr.trans sc18 sc108, by omega, by omega, by omega, ?_⟩
                    unfold coefF
                    first
                      | (rw [hs117]; first | exact tA _ _ (by omega) (by omega) | exact tB _ (by omega) | exact tE _ (by omega) | exact tC _ _ (by omega) (by omega) | exact tQ _ (by omega))
                      | (rw [show q0 = 5 by omega, n13b, n13]; exact v2 _ _ (by omega) (by omega))
                  · refine r_tsw (v := 3) (tgt := 177) X dX9_coefficient_117 hs117 (by decide) (by decide) (by decide) rfl rfl ?_
                    refine r_aload_n (pc' := 178) X 0 dX9_coefficient_177 rfl rfl rfl ?_
                    refine gf_29_view (pc' := 181) X gw_977 dX9_coefficient_178 rfl ?_
                    refine r_iconst (pc' := 182) X dX9_coefficient_181 rfl ?_
                    refine r_iload_n (pc' := 183) X 2 dX9_coefficient_182 rfl rfl rfl ?_
                    refine r_imul (pc' := 184) X dX9_coefficient_183 rfl ?_
                    refine r_iload_n (pc' := 185) X 3 dX9_coefficient_184 rfl rfl rfl ?_
                    refine r_iadd (pc' := 186) X dX9_coefficient_185 rfl ?_
                    refine r_iald (i := (4 * i.toNat + j.toNat)) (pc' := 187) X k29_5 (by omega) (by omega) (by decide) dX9_coefficient_186 rfl ?_
                    refine w_iret X hr dX9_coefficient_187 ?_
                    try dsimp only
                    refine Or.inl ⟨er108, RScr.trans sc18 sc108, by omega, by omega, by omega, ?_⟩
                    unfold coefF
                    first
                      | (rw [hs117]; first | exact tA _ _ (by omega) (by omega) | exact tB _ (by omega) | exact tE _ (by omega) | exact tC _ _ (by omega) (by omega) | exact tQ _ (by omega))
                      | (rw [show q0 = 5 by omega, n13b, n13]; exact v2 _ _ (by omega) (by omega))
                  · refine r_tsw (v := 4) (tgt := 188) X dX9_coefficient_117 hs117 (by decide) (by decide) (by decide) rfl rfl ?_
                    refine r_aload_n (pc' := 189) X 0 dX9_coefficient_188 rfl rfl rfl ?_
                    refine gf_29_quantum (pc' := 192) X gw_978 dX9_coefficient_189 rfl ?_
                    refine r_iload_n (pc' := 193) X 2 dX9_coefficient_192 rfl rfl rfl ?_
                    refine r_iald (i := i.toNat) (pc' := 194) X k29_6 (by omega) (by omega) (by decide) dX9_coefficient_193 rfl ?_
                    refine w_iret X hr dX9_coefficient_194 ?_
                    try dsimp only
                    refine Or.inl ⟨er108, RScr.trans sc18 sc108, by omega, by omega, by omega, ?_⟩
                    unfold coefF
                    first
                      | (rw [hs117]; first | exact tA _ _ (by omega) (by omega) | exact tB _ (by omega) | exact tE _ (by omega) | exact tC _ _ (by omega) (by omega) | exact tQ _ (by omega))
                      | (rw [show q0 = 5 by omega, n13b, n13]; exact v2 _ _ (by omega) (by omega))
                · refine r_tswD (tgt := 195) X dX9_coefficient_117 (by omega) (by omega) rfl ?_
                  refine r_aload_n (pc' := 196) X 0 dX9_coefficient_195 rfl rfl rfl ?_
                  refine gf_29_now (pc' := 199) X gw_987 dX9_coefficient_196 rfl ?_
                  refine r_bipush (pc' := 201) X dX9_coefficient_199 rfl rfl ?_
                  refine r_iconst (pc' := 202) X dX9_coefficient_201 rfl ?_
                  refine r_iload_n (pc' := 203) X 2 dX9_coefficient_202 rfl rfl rfl ?_
                  refine r_imul (pc' := 204) X dX9_coefficient_203 rfl ?_
                  refine r_iadd (pc' := 205) X dX9_coefficient_204 rfl ?_
                  refine r_iload_n (pc' := 206) X 3 dX9_coefficient_205 rfl rfl rfl ?_
                  refine r_iadd (pc' := 207) X dX9_coefficient_206 rfl ?_
                  refine r_iald (i := (16 + 3 * i.toNat + j.toNat)) (pc' := 208) X k29_13 (by omega) (by omega) (by decide) dX9_coefficient_207 rfl ?_
                  refine w_iret X hr dX9_coefficient_208 ?_
                  try dsimp only
                  refine Or.inl ⟨er108, RScr.trans sc18 sc108, by omega, by omega, by omega, ?_⟩
                  unfold coefF
                  first
                    | (rw [hs117]; first | exact tA _ _ (by omega) (by omega) | exact tB _ (by omega) | exact tE _ (by omega) | exact tC _ _ (by omega) (by omega) | exact tQ _ (by omega))
                    | (rw [show q0 = 5 by omega, n13b, n13]; exact v2 _ _ (by omega) (by omega))
theorem cf_X9_output : wCal yX9_output cX9_output 3 (some .int) 2 := ⟨gw_1165, gw_10, by decide, by decide, by rfl⟩
set_option maxRecDepth 100000 in
set_option maxHeartbeats 4000000 in
theorem c_X9_output (l : Launch) (G : wG) (M : wM) (N P : Nat) (pv : Nat → Nat → Int) (hp : PlOk pv N P) (hq : PEq N P pv (M 29)) (w : Nat → Nat → Int) (T : Int) (hm : MoOk w N P T) (hT6 : T ≤ 1000000) (hv : REq N P w (M 29 13)) (i q0 : Int) (hi : rI i) (hq0 : rI q0) : Met l yX9_output (gws yX9_output cX9_output 3 (some .int)) (wrm 2 0 0) (wPc G M [vR G (29, 0), vI i, vI q0]) (wQi G (fun z M1 => (M1 29 0 0 = 0 ∧ RScr M M1 ∧ (0 ≤ i ∧ i < P) ∧ (0 ≤ q0 ∧ q0 ≤ 3) ∧ ¬ (q0 ≤ 1 ∧ w 11 i.toNat = -1) ∧ z = outF N pv w i.toNat q0) ∨ (M1 29 0 0 = 1 ∧ RScr M M1 ∧ ¬ (0 ≤ i ∧ i < P)) ∨ (M1 29 0 0 = 2 ∧ RScr M M1 ∧ (0 ≤ i ∧ i < P) ∧ ¬ (0 ≤ q0 ∧ q0 ≤ 3)) ∨ (M1 29 0 0 = 3 ∧ RScr M M1 ∧ (0 ≤ i ∧ i < P) ∧ (0 ≤ q0 ∧ q0 ≤ 3) ∧ (q0 ≤ 1 ∧ w 11 i.toNat = -1)))) 0 0 (wA G) := by
  refine wMet (lc := [(0, vR G (29, 0)), (1, vI i), (2, vI q0)]) (by decide) (Nat.le_of_ble_eq_true rfl) rfl ?_
  intro p e s m args below meth c X hr
  have X : wX p s m args meth c G 3 "StateObserverModel" cX9_output := X
  obtain ⟨hN, hN1, hN4, hP, hP1, hP3, hA, hB, hE, hC, hQ⟩ := id hp
  obtain ⟨qN, qP, qA, qB, qE, qC, qQ⟩ := id hq
  obtain ⟨hT, hL, hU, hS, hG, hY, hAg, hHo, hBo, hTi, hLi, hLb, hLl, hLh⟩ := id hm
  obtain ⟨v1, v2, v3, v28, v29, v30, v38, v39, v37⟩ := id hv
  refine r_aload_n (pc' := 1) X 0 dX9_output_0 rfl rfl rfl ?_
  refine r_aload_n (pc' := 2) X 0 dX9_output_1 rfl rfl rfl ?_
  refine r_iload_n (pc' := 3) X 1 dX9_output_2 rfl rfl rfl ?_
  refine w_calli (pc' := 6) (st := [vR G (29, 0)]) (w_runV X (c_X9_isOutput l G M N P pv (by first | assumption | omega) (by first | assumption | omega) i (by first | assumption | omega)) cf_X9_isOutput k29_0 rfl gw_1152 gp_35 rfl rfl ⟨Nat.le_of_ble_eq_true rfl, Nat.le_of_ble_eq_true rfl⟩ rfl rfl (Nat.le_of_ble_eq_true rfl) ⟨Nat.le_of_ble_eq_true rfl, Nat.le_of_ble_eq_true rfl⟩ gw_1150 dX9_output_3) rfl (fun z3 M1 h3 => ?_)
  have hz3 := h3.1
  obtain rfl := h3.2.symm
  have hi3 : z3 = 0 ∨ z3 = 1 := by rw [hz3]; split <;> omega
  have hq3 : z3 = 1 ↔ (0 ≤ i ∧ i < P) := by rw [hz3]; split <;> omega
  refine r_if_ne (pc' := 9) (tgt := 13) X dX9_output_6 rfl rfl (by omega) (fun h6 => ?_) (fun h6 => ?_)
  · refine r_iload_n (pc' := 14) X 2 dX9_output_13 rfl rfl rfl ?_
    refine r_i2l (pc' := 15) X dX9_output_14 (by omega) rfl ?_
    refine r_lconst (pc' := 16) (z := 0) X dX9_output_15 rfl rfl ?_
    refine r_ldc2 (pc' := 19) (z := 3) X gw_1166 dX9_output_16 rfl rfl ?_
    refine w_calli (pc' := 22) (st := [vR G (29, 0)]) (w_runS X (c_X9_in l G M q0 0 3 (by first | assumption | omega) (by first | assumption | omega) (by first | assumption | omega)) cf_X9_in gw_1083 rfl rfl ⟨Nat.le_of_ble_eq_true rfl, Nat.le_of_ble_eq_true rfl⟩ rfl rfl (Nat.le_of_ble_eq_true rfl) ⟨Nat.le_of_ble_eq_true rfl, Nat.le_of_ble_eq_true rfl⟩ gw_1082 dX9_output_19) rfl (fun z19 M2 h19 => ?_)
    have hz19 := h19.1
    obtain rfl := h19.2.symm
    have hi19 : z19 = 0 ∨ z19 = 1 := by rw [hz19]; split <;> omega
    have hq19 : z19 = 1 ↔ (0 ≤ q0 ∧ q0 ≤ 3) := by rw [hz19]; split <;> omega
    refine r_if_ne (pc' := 25) (tgt := 29) X dX9_output_22 rfl rfl (by omega) (fun h22 => ?_) (fun h22 => ?_)
    · have vk := v3 i.toNat (by omega)
      have ak := hAg i.toNat (by omega)
      refine r_iload_n (pc' := 30) X 2 dX9_output_29 rfl rfl rfl ?_
      refine r_iconst (pc' := 31) X dX9_output_30 rfl ?_
      refine r_icmp_ge (pc' := 34) (tgt := 50) X dX9_output_31 rfl rfl (by omega) (by omega) (fun h31 => ?_) (fun h31 => ?_)
      · refine r_iconst (pc' := 51) X dX9_output_50 rfl ?_
        refine w_calli (pc' := 54) (st := []) (w_runV X (c_X9_refused l G M 0 (by first | assumption | omega)) cf_X9_refused k29_0 rfl gw_1087 gp_25 rfl rfl ⟨Nat.le_of_ble_eq_true rfl, Nat.le_of_ble_eq_true rfl⟩ rfl rfl (Nat.le_of_ble_eq_true rfl) ⟨Nat.le_of_ble_eq_true rfl, Nat.le_of_ble_eq_true rfl⟩ gw_1085 dX9_output_51) rfl (fun z51 M3 h51 => ?_)
        have hz51 : z51 = 0 := by rw [h51.1]; rfl
        have ew51 : ∀ a b x, ¬ (a = 29 ∧ b = 0 ∧ x = 0) → M3 a b x = M a b x := fun a b x q => by rw [h51.2]; unfold wu; rw [if_neg q]
        have er51 : M3 29 0 0 = 0 := by rw [h51.2]; unfold wu; rw [if_pos ⟨rfl, rfl, rfl⟩]
        have sc51 : RScr M M3 := fun a b x q => ew51 a b x (by omega)
        have qq51 : PEq N P pv (M3 29) := hq.keep (fun b x q => ew51 29 b x (by omega))
        have n13 : M3 29 13 = M 29 13 := funext fun x => ew51 29 13 x (by omega)
        have qN2 := qq51.1
        have qP2 := qq51.2.1
        refine r_if_eq (pc' := 57) (tgt := 59) X dX9_output_54 rfl rfl (by omega) (fun h54 => ?_) (fun h54 => by exfalso; omega)
        have vk2 := v3 i.toNat (by omega)
        have ak2 := hAg i.toNat (by omega)
        rw [← n13] at vk2
        refine r_iload_n (pc' := 60) X 2 dX9_output_59 rfl rfl rfl ?_
        refine r_iconst (pc' := 61) X dX9_output_60 rfl ?_
        refine r_icmp_ge (pc' := 64) (tgt := 85) X dX9_output_61 rfl rfl (by omega) (by omega) (fun h61 => ?_) (fun h61 => ?_)
        · have rq := hQ i.toNat (by omega)
          have qk := qq51.2.2.2.2.2.2 i.toNat (by omega)
          have hx0 := ext_bd (n := N) (f := pv (9 + i.toNat)) (lo := w 2) (hi := w 3) (but := -9) (gr := 0) (A := 99) (B := 1000000) (by decide) (by decide) (fun x hx => hC _ x (by omega) hx) hL hU
          have hx1 := ext_bd (n := N) (f := pv (9 + i.toNat)) (lo := w 2) (hi := w 3) (but := -9) (gr := 1) (A := 99) (B := 1000000) (by decide) (by decide) (fun x hx => hC _ x (by omega) hx) hL hU
          refine r_aload_n (pc' := 86) X 0 dX9_output_85 rfl rfl rfl ?_
          refine r_aload_n (pc' := 87) X 0 dX9_output_86 rfl rfl rfl ?_
          refine gf_29_now (pc' := 90) X gw_987 dX9_output_87 rfl ?_
          refine r_aload_n (pc' := 91) X 0 dX9_output_90 rfl rfl rfl ?_
          refine gf_29_view (pc' := 94) X gw_977 dX9_output_91 rfl ?_
          refine r_iconst (pc' := 95) X dX9_output_94 rfl ?_
          refine r_iload_n (pc' := 96) X 1 dX9_output_95 rfl rfl rfl ?_
          refine r_imul (pc' := 97) X dX9_output_96 rfl ?_
          refine w_eqI (z' := ((4 * i.toNat : Nat) : Int)) (by omega) ?_
          refine r_bipush (pc' := 99) X dX9_output_97 rfl rfl ?_
          refine r_iload_n (pc' := 100) X 2 dX9_output_99 rfl rfl rfl ?_
          refine r_iconst (pc' := 101) X dX9_output_100 rfl ?_
          refine r_icmp_ne (pc' := 104) (tgt := 108) X dX9_output_101 rfl rfl (by omega) (by omega) (fun h101 => ?_) (fun h101 => ?_)
          · refine r_iconst (pc' := 109) X dX9_output_108 rfl ?_
            refine w_callj (pc' := 112) (st := []) (w_runV X (c_X9_end l G M3 N P pv (by first | assumption | omega) qq51 13 5 (4 * i.toNat) 12 (-9) 0 (pv (9 + i.toNat)) k29_13 k29_5 (by first | assumption | omega) (by first | assumption | omega) (by first | assumption | omega) (by first | assumption | omega) (fun x hx => qq51.2.2.2.2.2.1 _ x (by omega) hx) (fun x hx => hC _ x (by omega) hx) (w 2) (w 3) (fun x hx => by rw [n13]; exact (v1 x hx).2.1) (fun x hx => by rw [n13]; exact (v1 x hx).2.2.1) hL hU) cf_X9_end k29_0 rfl gw_1169 gp_37 rfl rfl ⟨Nat.le_of_ble_eq_true rfl, Nat.le_of_ble_eq_true rfl⟩ rfl rfl (Nat.le_of_ble_eq_true rfl) ⟨Nat.le_of_ble_eq_true rfl, Nat.le_of_ble_eq_true rfl⟩ gw_1167 dX9_output_109) rfl (fun z109 M4 h109 => ?_)
            obtain rfl := h109.1.symm
            obtain rfl := h109.2.symm
            refine r_aload_n (pc' := 113) X 0 dX9_output_112 rfl rfl rfl ?_
            refine gf_29_quantum (pc' := 116) X gw_978 dX9_output_113 rfl ?_
            refine r_iload_n (pc' := 117) X 1 dX9_output_116 rfl rfl rfl ?_
            refine r_iald (i := i.toNat) (pc' := 118) X k29_6 (by omega) (by omega) (by decide) dX9_output_117 rfl ?_
            refine r_i2l (pc' := 119) X dX9_output_118 (by omega) rfl ?_
            refine w_callj (pc' := 122) (st := []) (w_runS X (c_X9_down l G M3 ((ext N (pv (9 + i.toNat)) (w 2) (w 3) (-9) 0)) (M3 29 6 i.toNat) (by first | assumption | omega) (by first | assumption | omega)) cf_X9_down gw_1172 rfl rfl ⟨Nat.le_of_ble_eq_true rfl, Nat.le_of_ble_eq_true rfl⟩ rfl rfl (Nat.le_of_ble_eq_true rfl) ⟨Nat.le_of_ble_eq_true rfl, Nat.le_of_ble_eq_true rfl⟩ gw_1171 dX9_output_119) rfl (fun z119 M5 h119 => ?_)
            obtain rfl := h119.1.symm
            obtain rfl := h119.2.symm
            refine r_l2i (pc' := 123) X dX9_output_122 rfl ?_
            refine w_iret X hr dX9_output_123 ?_
            try dsimp only
            refine Or.inl ⟨er51, sc51, by omega, by omega, by omega, ?_⟩
            unfold outF
            rw [if_neg (show ¬ q0 = 0 by omega), if_neg (show ¬ q0 = 1 by omega), ext_but9, qk]
            rw [if_neg (show ¬ q0 = 3 by omega)]
          · refine r_iconst (pc' := 105) X dX9_output_104 rfl ?_
            refine r_goto (tgt := 109) X dX9_output_105 rfl ?_
            refine w_callj (pc' := 112) (st := []) (w_runV X (c_X9_end l G M3 N P pv (by first | assumption | omega) qq51 13 5 (4 * i.toNat) 12 (-9) 1 (pv (9 + i.toNat)) k29_13 k29_5 (by first | assumption | omega) (by first | assumption | omega) (by first | assumption | omega) (by first | assumption | omega) (fun x hx => qq51.2.2.2.2.2.1 _ x (by omega) hx) (fun x hx => hC _ x (by omega) hx) (w 2) (w 3) (fun x hx => by rw [n13]; exact (v1 x hx).2.1) (fun x hx => by rw [n13]; exact (v1 x hx).2.2.1) hL hU) cf_X9_end k29_0 rfl gw_1169 gp_37 rfl rfl ⟨Nat.le_of_ble_eq_true rfl, Nat.le_of_ble_eq_true rfl⟩ rfl rfl (Nat.le_of_ble_eq_true rfl) ⟨Nat.le_of_ble_eq_true rfl, Nat.le_of_ble_eq_true rfl⟩ gw_1167 dX9_output_109) rfl (fun z109 M6 h109 => ?_)
            obtain rfl := h109.1.symm
            obtain rfl := h109.2.symm
            refine r_aload_n (pc' := 113) X 0 dX9_output_112 rfl rfl rfl ?_
            refine gf_29_quantum (pc' := 116) X gw_978 dX9_output_113 rfl ?_
            refine r_iload_n (pc' := 117) X 1 dX9_output_116 rfl rfl rfl ?_
            refine r_iald (i := i.toNat) (pc' := 118) X k29_6 (by omega) (by omega) (by decide) dX9_output_117 rfl ?_
            refine r_i2l (pc' := 119) X dX9_output_118 (by omega) rfl ?_
            refine w_callj (pc' := 122) (st := []) (w_runS X (c_X9_down l G M3 ((ext N (pv (9 + i.toNat)) (w 2) (w 3) (-9) 1)) (M3 29 6 i.toNat) (by first | assumption | omega) (by first | assumption | omega)) cf_X9_down gw_1172 rfl rfl ⟨Nat.le_of_ble_eq_true rfl, Nat.le_of_ble_eq_true rfl⟩ rfl rfl (Nat.le_of_ble_eq_true rfl) ⟨Nat.le_of_ble_eq_true rfl, Nat.le_of_ble_eq_true rfl⟩ gw_1171 dX9_output_119) rfl (fun z119 M7 h119 => ?_)
            obtain rfl := h119.1.symm
            obtain rfl := h119.2.symm
            refine r_l2i (pc' := 123) X dX9_output_122 rfl ?_
            refine w_iret X hr dX9_output_123 ?_
            try dsimp only
            refine Or.inl ⟨er51, sc51, by omega, by omega, by omega, ?_⟩
            unfold outF
            rw [if_neg (show ¬ q0 = 0 by omega), if_neg (show ¬ q0 = 1 by omega), ext_but9, qk]
            rw [if_pos (show q0 = 3 by omega)]
        · refine r_aload_n (pc' := 65) X 0 dX9_output_64 rfl rfl rfl ?_
          refine gf_29_now (pc' := 68) X gw_987 dX9_output_65 rfl ?_
          refine r_iload_n (pc' := 69) X 2 dX9_output_68 rfl rfl rfl ?_
          refine r_if_ne (pc' := 72) (tgt := 79) X dX9_output_69 rfl rfl (by omega) (fun h69 => ?_) (fun h69 => ?_)
          · refine r_bipush (pc' := 81) X dX9_output_79 rfl rfl ?_
            refine r_iload_n (pc' := 82) X 1 dX9_output_81 rfl rfl rfl ?_
            refine r_iadd (pc' := 83) X dX9_output_82 rfl ?_
            refine r_iald (i := (34 + i.toNat)) (pc' := 84) X k29_13 (by omega) (by omega) (by decide) dX9_output_83 rfl ?_
            refine w_iret X hr dX9_output_84 ?_
            try dsimp only
            refine Or.inl ⟨er51, sc51, by omega, by omega, by omega, ?_⟩
            unfold outF
            first | (rw [if_pos (by omega)]; exact vk2.1) | (rw [if_neg (by omega), if_pos (by omega)]; exact vk2.2)
          · refine r_bipush (pc' := 74) X dX9_output_72 rfl rfl ?_
            refine r_iload_n (pc' := 75) X 1 dX9_output_74 rfl rfl rfl ?_
            refine r_iadd (pc' := 76) X dX9_output_75 rfl ?_
            refine r_goto (tgt := 83) X dX9_output_76 rfl ?_
            refine r_iald (i := (31 + i.toNat)) (pc' := 84) X k29_13 (by omega) (by omega) (by decide) dX9_output_83 rfl ?_
            refine w_iret X hr dX9_output_84 ?_
            try dsimp only
            refine Or.inl ⟨er51, sc51, by omega, by omega, by omega, ?_⟩
            unfold outF
            first | (rw [if_pos (by omega)]; exact vk2.1) | (rw [if_neg (by omega), if_pos (by omega)]; exact vk2.2)
      · refine r_aload_n (pc' := 35) X 0 dX9_output_34 rfl rfl rfl ?_
        refine gf_29_now (pc' := 38) X gw_987 dX9_output_35 rfl ?_
        refine r_bipush (pc' := 40) X dX9_output_38 rfl rfl ?_
        refine r_iload_n (pc' := 41) X 1 dX9_output_40 rfl rfl rfl ?_
        refine r_iadd (pc' := 42) X dX9_output_41 rfl ?_
        refine r_iald (i := (34 + i.toNat)) (pc' := 43) X k29_13 (by omega) (by omega) (by decide) dX9_output_42 rfl ?_
        refine r_if_ge (pc' := 46) (tgt := 50) X dX9_output_43 rfl rfl (by omega) (fun h43 => ?_) (fun h43 => ?_)
        · refine r_iconst (pc' := 51) X dX9_output_50 rfl ?_
          refine w_calli (pc' := 54) (st := []) (w_runV X (c_X9_refused l G M 0 (by first | assumption | omega)) cf_X9_refused k29_0 rfl gw_1087 gp_25 rfl rfl ⟨Nat.le_of_ble_eq_true rfl, Nat.le_of_ble_eq_true rfl⟩ rfl rfl (Nat.le_of_ble_eq_true rfl) ⟨Nat.le_of_ble_eq_true rfl, Nat.le_of_ble_eq_true rfl⟩ gw_1085 dX9_output_51) rfl (fun z51 M8 h51 => ?_)
          have hz51 : z51 = 0 := by rw [h51.1]; rfl
          have ew51 : ∀ a b x, ¬ (a = 29 ∧ b = 0 ∧ x = 0) → M8 a b x = M a b x := fun a b x q => by rw [h51.2]; unfold wu; rw [if_neg q]
          have er51 : M8 29 0 0 = 0 := by rw [h51.2]; unfold wu; rw [if_pos ⟨rfl, rfl, rfl⟩]
          have sc51 : RScr M M8 := fun a b x q => ew51 a b x (by omega)
          have qq51 : PEq N P pv (M8 29) := hq.keep (fun b x q => ew51 29 b x (by omega))
          have n13 : M8 29 13 = M 29 13 := funext fun x => ew51 29 13 x (by omega)
          have qN2 := qq51.1
          have qP2 := qq51.2.1
          refine r_if_eq (pc' := 57) (tgt := 59) X dX9_output_54 rfl rfl (by omega) (fun h54 => ?_) (fun h54 => by exfalso; omega)
          have vk2 := v3 i.toNat (by omega)
          have ak2 := hAg i.toNat (by omega)
          rw [← n13] at vk2
          refine r_iload_n (pc' := 60) X 2 dX9_output_59 rfl rfl rfl ?_
          refine r_iconst (pc' := 61) X dX9_output_60 rfl ?_
          refine r_icmp_ge (pc' := 64) (tgt := 85) X dX9_output_61 rfl rfl (by omega) (by omega) (fun h61 => ?_) (fun h61 => ?_)
          · have rq := hQ i.toNat (by omega)
            have qk := qq51.2.2.2.2.2.2 i.toNat (by omega)
            have hx0 := ext_bd (n := N) (f := pv (9 + i.toNat)) (lo := w 2) (hi := w 3) (but := -9) (gr := 0) (A := 99) (B := 1000000) (by decide) (by decide) (fun x hx => hC _ x (by omega) hx) hL hU
            have hx1 := ext_bd (n := N) (f := pv (9 + i.toNat)) (lo := w 2) (hi := w 3) (but := -9) (gr := 1) (A := 99) (B := 1000000) (by decide) (by decide) (fun x hx => hC _ x (by omega) hx) hL hU
            refine r_aload_n (pc' := 86) X 0 dX9_output_85 rfl rfl rfl ?_
            refine r_aload_n (pc' := 87) X 0 dX9_output_86 rfl rfl rfl ?_
            refine gf_29_now (pc' := 90) X gw_987 dX9_output_87 rfl ?_
            refine r_aload_n (pc' := 91) X 0 dX9_output_90 rfl rfl rfl ?_
            refine gf_29_view (pc' := 94) X gw_977 dX9_output_91 rfl ?_
            refine r_iconst (pc' := 95) X dX9_output_94 rfl ?_
            refine r_iload_n (pc' := 96) X 1 dX9_output_95 rfl rfl rfl ?_
            refine r_imul (pc' := 97) X dX9_output_96 rfl ?_
            refine w_eqI (z' := ((4 * i.toNat : Nat) : Int)) (by omega) ?_
            refine r_bipush (pc' := 99) X dX9_output_97 rfl rfl ?_
            refine r_iload_n (pc' := 100) X 2 dX9_output_99 rfl rfl rfl ?_
            refine r_iconst (pc' := 101) X dX9_output_100 rfl ?_
            refine r_icmp_ne (pc' := 104) (tgt := 108) X dX9_output_101 rfl rfl (by omega) (by omega) (fun h101 => ?_) (fun h101 => ?_)
            · refine r_iconst (pc' := 109) X dX9_output_108 rfl ?_
              refine w_callj (pc' := 112) (st := []) (w_runV X (c_X9_end l G M8 N P pv (by first | assumption | omega) qq51 13 5 (4 * i.toNat) 12 (-9) 0 (pv (9 + i.toNat)) k29_13 k29_5 (by first | assumption | omega) (by first | assumption | omega) (by first | assumption | omega) (by first | assumption | omega) (fun x hx => qq51.2.2.2.2.2.1 _ x (by omega) hx) (fun x hx => hC _ x (by omega) hx) (w 2) (w 3) (fun x hx => by rw [n13]; exact (v1 x hx).2.1) (fun x hx => by rw [n13]; exact (v1 x hx).2.2.1) hL hU) cf_X9_end k29_0 rfl gw_1169 gp_37 rfl rfl ⟨Nat.le_of_ble_eq_true rfl, Nat.le_of_ble_eq_true rfl⟩ rfl rfl (Nat.le_of_ble_eq_true rfl) ⟨Nat.le_of_ble_eq_true rfl, Nat.le_of_ble_eq_true rfl⟩ gw_1167 dX9_output_109) rfl (fun z109 M9 h109 => ?_)
              obtain rfl := h109.1.symm
              obtain rfl := h109.2.symm
              refine r_aload_n (pc' := 113) X 0 dX9_output_112 rfl rfl rfl ?_
              refine gf_29_quantum (pc' := 116) X gw_978 dX9_output_113 rfl ?_
              refine r_iload_n (pc' := 117) X 1 dX9_output_116 rfl rfl rfl ?_
              refine r_iald (i := i.toNat) (pc' := 118) X k29_6 (by omega) (by omega) (by decide) dX9_output_117 rfl ?_
              refine r_i2l (pc' := 119) X dX9_output_118 (by omega) rfl ?_
              refine w_callj (pc' := 122) (st := []) (w_runS X (c_X9_down l G M8 ((ext N (pv (9 + i.toNat)) (w 2) (w 3) (-9) 0)) (M8 29 6 i.toNat) (by first | assumption | omega) (by first | assumption | omega)) cf_X9_down gw_1172 rfl rfl ⟨Nat.le_of_ble_eq_true rfl, Nat.le_of_ble_eq_true rfl⟩ rfl rfl (Nat.le_of_ble_eq_true rfl) ⟨Nat.le_of_ble_eq_true rfl, Nat.le_of_ble_eq_true rfl⟩ gw_1171 dX9_output_119) rfl (fun z119 M10 h119 => ?_)
              obtain rfl := h119.1.symm
              obtain rfl := h119.2.symm
              refine r_l2i (pc' := 123) X dX9_output_122 rfl ?_
              refine w_iret X hr dX9_output_123 ?_
              try dsimp only
              refine Or.inl ⟨er51, sc51, by omega, by omega, by omega, ?_⟩
              unfold outF
              rw [if_neg (show ¬ q0 = 0 by omega), if_neg (show ¬ q0 = 1 by omega), ext_but9, qk]
              rw [if_neg (show ¬ q0 = 3 by omega)]
            · refine r_iconst (pc' := 105) X dX9_output_104 rfl ?_
              refine r_goto (tgt := 109) X dX9_output_105 rfl ?_
              refine w_callj (pc' := 112) (st := []) (w_runV X (c_X9_end l G M8 N P pv (by first | assumption | omega) qq51 13 5 (4 * i.toNat) 12 (-9) 1 (pv (9 + i.toNat)) k29_13 k29_5 (by first | assumption | omega) (by first | assumption | omega) (by first | assumption | omega) (by first | assumption | omega) (fun x hx => qq51.2.2.2.2.2.1 _ x (by omega) hx) (fun x hx => hC _ x (by omega) hx) (w 2) (w 3) (fun x hx => by rw [n13]; exact (v1 x hx).2.1) (fun x hx => by rw [n13]; exact (v1 x hx).2.2.1) hL hU) cf_X9_end k29_0 rfl gw_1169 gp_37 rfl rfl ⟨Nat.le_of_ble_eq_true rfl, Nat.le_of_ble_eq_true rfl⟩ rfl rfl (Nat.le_of_ble_eq_true rfl) ⟨Nat.le_of_ble_eq_true rfl, Nat.le_of_ble_eq_true rfl⟩ gw_1167 dX9_output_109) rfl (fun z109 M11 h109 => ?_)
              obtain rfl := h109.1.symm
              obtain rfl := h109.2.symm
              refine r_aload_n (pc' := 113) X 0 dX9_output_112 rfl rfl rfl ?_
              refine gf_29_quantum (pc' := 116) X gw_978 dX9_output_113 rfl ?_
              refine r_iload_n (pc' := 117) X 1 dX9_output_116 rfl rfl rfl ?_
              refine r_iald (i := i.toNat) (pc' := 118) X k29_6 (by omega) (by omega) (by decide) dX9_output_117 rfl ?_
              refine r_i2l (pc' := 119) X dX9_output_118 (by omega) rfl ?_
              refine w_callj (pc' := 122) (st := []) (w_runS X (c_X9_down l G M8 ((ext N (pv (9 + i.toNat)) (w 2) (w 3) (-9) 1)) (M8 29 6 i.toNat) (by first | assumption | omega) (by first | assumption | omega)) cf_X9_down gw_1172 rfl rfl ⟨Nat.le_of_ble_eq_true rfl, Nat.le_of_ble_eq_true rfl⟩ rfl rfl (Nat.le_of_ble_eq_true rfl) ⟨Nat.le_of_ble_eq_true rfl, Nat.le_of_ble_eq_true rfl⟩ gw_1171 dX9_output_119) rfl (fun z119 M12 h119 => ?_)
              obtain rfl := h119.1.symm
              obtain rfl := h119.2.symm
              refine r_l2i (pc' := 123) X dX9_output_122 rfl ?_
              refine w_iret X hr dX9_output_123 ?_
              try dsimp only
              refine Or.inl ⟨er51, sc51, by omega, by omega, by omega, ?_⟩
              unfold outF
              rw [if_neg (show ¬ q0 = 0 by omega), if_neg (show ¬ q0 = 1 by omega), ext_but9, qk]
              rw [if_pos (show q0 = 3 by omega)]
          · refine r_aload_n (pc' := 65) X 0 dX9_output_64 rfl rfl rfl ?_
            refine gf_29_now (pc' := 68) X gw_987 dX9_output_65 rfl ?_
            refine r_iload_n (pc' := 69) X 2 dX9_output_68 rfl rfl rfl ?_
            refine r_if_ne (pc' := 72) (tgt := 79) X dX9_output_69 rfl rfl (by omega) (fun h69 => ?_) (fun h69 => ?_)
            · refine r_bipush (pc' := 81) X dX9_output_79 rfl rfl ?_
              refine r_iload_n (pc' := 82) X 1 dX9_output_81 rfl rfl rfl ?_
              refine r_iadd (pc' := 83) X dX9_output_82 rfl ?_
              refine r_iald (i := (34 + i.toNat)) (pc' := 84) X k29_13 (by omega) (by omega) (by decide) dX9_output_83 rfl ?_
              refine w_iret X hr dX9_output_84 ?_
              try dsimp only
              refine Or.inl ⟨er51, sc51, by omega, by omega, by omega, ?_⟩
              unfold outF
              first | (rw [if_pos (by omega)]; exact vk2.1) | (rw [if_neg (by omega), if_pos (by omega)]; exact vk2.2)
            · refine r_bipush (pc' := 74) X dX9_output_72 rfl rfl ?_
              refine r_iload_n (pc' := 75) X 1 dX9_output_74 rfl rfl rfl ?_
              refine r_iadd (pc' := 76) X dX9_output_75 rfl ?_
              refine r_goto (tgt := 83) X dX9_output_76 rfl ?_
              refine r_iald (i := (31 + i.toNat)) (pc' := 84) X k29_13 (by omega) (by omega) (by decide) dX9_output_83 rfl ?_
              refine w_iret X hr dX9_output_84 ?_
              try dsimp only
              refine Or.inl ⟨er51, sc51, by omega, by omega, by omega, ?_⟩
              unfold outF
              first | (rw [if_pos (by omega)]; exact vk2.1) | (rw [if_neg (by omega), if_pos (by omega)]; exact vk2.2)
        · refine r_iconst (pc' := 47) X dX9_output_46 rfl ?_
          refine r_goto (tgt := 51) X dX9_output_47 rfl ?_
          refine w_calli (pc' := 54) (st := []) (w_runV X (c_X9_refused l G M 3 (by first | assumption | omega)) cf_X9_refused k29_0 rfl gw_1087 gp_25 rfl rfl ⟨Nat.le_of_ble_eq_true rfl, Nat.le_of_ble_eq_true rfl⟩ rfl rfl (Nat.le_of_ble_eq_true rfl) ⟨Nat.le_of_ble_eq_true rfl, Nat.le_of_ble_eq_true rfl⟩ gw_1085 dX9_output_51) rfl (fun z51 M13 h51 => ?_)
          have hz51 : z51 = 1 := by rw [h51.1]; rfl
          have ew51 : ∀ a b x, ¬ (a = 29 ∧ b = 0 ∧ x = 0) → M13 a b x = M a b x := fun a b x q => by rw [h51.2]; unfold wu; rw [if_neg q]
          have er51 : M13 29 0 0 = 3 := by rw [h51.2]; unfold wu; rw [if_pos ⟨rfl, rfl, rfl⟩]
          have sc51 : RScr M M13 := fun a b x q => ew51 a b x (by omega)
          have qq51 : PEq N P pv (M13 29) := hq.keep (fun b x q => ew51 29 b x (by omega))
          have n13 : M13 29 13 = M 29 13 := funext fun x => ew51 29 13 x (by omega)
          have qN2 := qq51.1
          have qP2 := qq51.2.1
          refine r_if_eq (pc' := 57) (tgt := 59) X dX9_output_54 rfl rfl (by omega) (fun h54 => by exfalso; omega) (fun h54 => ?_)
          refine r_iconst (pc' := 58) X dX9_output_57 rfl ?_
          refine w_iret X hr dX9_output_58 ?_
          try dsimp only
          exact (Or.inr (Or.inr (Or.inr ⟨er51, sc51, by omega⟩)))
    · refine r_iconst (pc' := 26) X dX9_output_25 rfl ?_
      refine r_goto (tgt := 51) X dX9_output_26 rfl ?_
      refine w_calli (pc' := 54) (st := []) (w_runV X (c_X9_refused l G M 2 (by first | assumption | omega)) cf_X9_refused k29_0 rfl gw_1087 gp_25 rfl rfl ⟨Nat.le_of_ble_eq_true rfl, Nat.le_of_ble_eq_true rfl⟩ rfl rfl (Nat.le_of_ble_eq_true rfl) ⟨Nat.le_of_ble_eq_true rfl, Nat.le_of_ble_eq_true rfl⟩ gw_1085 dX9_output_51) rfl (fun z51 M14 h51 => ?_)
      have hz51 : z51 = 1 := by rw [h51.1]; rfl
      have ew51 : ∀ a b x, ¬ (a = 29 ∧ b = 0 ∧ x = 0) → M14 a b x = M a b x := fun a b x q => by rw [h51.2]; unfold wu; rw [if_neg q]
      have er51 : M14 29 0 0 = 2 := by rw [h51.2]; unfold wu; rw [if_pos ⟨rfl, rfl, rfl⟩]
      have sc51 : RScr M M14 := fun a b x q => ew51 a b x (by omega)
      have qq51 : PEq N P pv (M14 29) := hq.keep (fun b x q => ew51 29 b x (by omega))
      have n13 : M14 29 13 = M 29 13 := funext fun x => ew51 29 13 x (by omega)
      have qN2 := qq51.1
      have qP2 := qq51.2.1
      refine r_if_eq (pc' := 57) (tgt := 59) X dX9_output_54 rfl rfl (by omega) (fun h54 => by exfalso; omega) (fun h54 => ?_)
      refine r_iconst (pc' := 58) X dX9_output_57 rfl ?_
      refine w_iret X hr dX9_output_58 ?_
      try dsimp only
      exact (Or.inr (Or.inr (Or.inl ⟨er51, sc51, by omega⟩)))
  · refine r_iconst (pc' := 10) X dX9_output_9 rfl ?_
    refine r_goto (tgt := 51) X dX9_output_10 rfl ?_
    refine w_calli (pc' := 54) (st := []) (w_runV X (c_X9_refused l G M 1 (by first | assumption | omega)) cf_X9_refused k29_0 rfl gw_1087 gp_25 rfl rfl ⟨Nat.le_of_ble_eq_true rfl, Nat.le_of_ble_eq_true rfl⟩ rfl rfl (Nat.le_of_ble_eq_true rfl) ⟨Nat.le_of_ble_eq_true rfl, Nat.le_of_ble_eq_true rfl⟩ gw_1085 dX9_output_51) rfl (fun z51 M15 h51 => ?_)
    have hz51 : z51 = 1 := by rw [h51.1]; rfl
    have ew51 : ∀ a b x, ¬ (a = 29 ∧ b = 0 ∧ x = 0) → M15 a b x = M a b x := fun a b x q => by rw [h51.2]; unfold wu; rw [if_neg q]
    have er51 : M15 29 0 0 = 1 := by rw [h51.2]; unfold wu; rw [if_pos ⟨rfl, rfl, rfl⟩]
    have sc51 : RScr M M15 := fun a b x q => ew51 a b x (by omega)
    have qq51 : PEq N P pv (M15 29) := hq.keep (fun b x q => ew51 29 b x (by omega))
    have n13 : M15 29 13 = M 29 13 := funext fun x => ew51 29 13 x (by omega)
    have qN2 := qq51.1
    have qP2 := qq51.2.1
    refine r_if_eq (pc' := 57) (tgt := 59) X dX9_output_54 rfl rfl (by omega) (fun h54 => by exfalso; omega) (fun h54 => ?_)
    refine r_iconst (pc' := 58) X dX9_output_57 rfl ?_
    refine w_iret X hr dX9_output_58 ?_
    try dsimp only
    exact (Or.inr (Or.inl ⟨er51, sc51, by omega⟩))
theorem cf_X9_width : wCal yX9_width cX9_width 1 (some .int) 0 := ⟨gw_1177, gw_10, by decide, by decide, by rfl⟩
set_option maxRecDepth 100000 in
set_option maxHeartbeats 4000000 in
theorem c_X9_width (l : Launch) (G : wG) (M : wM) (N P : Nat) (pv : Nat → Nat → Int) (hp : PlOk pv N P) (hq : PEq N P pv (M 29)) (w : Nat → Nat → Int) (T : Int) (hm : MoOk w N P T) (hT6 : T ≤ 1000000) (hv : REq N P w (M 29 13)) : Met l yX9_width (gws yX9_width cX9_width 1 (some .int)) (wrm 1 0 0) (wPc G M [vR G (29, 0)]) (wQi G (fun z M1 => z = wid N (w 2) (w 3) ∧ M1 29 0 0 = 0 ∧ RScr M M1)) 0 0 (wA G) := by
  refine wMet (lc := [(0, vR G (29, 0))]) (by decide) (Nat.le_of_ble_eq_true rfl) rfl ?_
  intro p e s m args below meth c X hr
  have X : wX p s m args meth c G 1 "StateObserverModel" cX9_width := X
  obtain ⟨hN, hN1, hN4, hP, hP1, hP3, hA, hB, hE, hC, hQ⟩ := id hp
  obtain ⟨qN, qP, qA, qB, qE, qC, qQ⟩ := id hq
  obtain ⟨hT, hL, hU, hS, hG, hY, hAg, hHo, hBo, hTi, hLi, hLb, hLl, hLh⟩ := id hm
  obtain ⟨v1, v2, v3, v28, v29, v30, v38, v39, v37⟩ := id hv
  refine r_aload_n (pc' := 1) X 0 dX9_width_0 rfl rfl rfl ?_
  refine r_iconst (pc' := 2) X dX9_width_1 rfl ?_
  refine pf_29_refusal (pc' := 5) X gw_967 dX9_width_2 rfl (fun M1 hM1 => ?_)
  have ew : ∀ a b x, ¬ (a = 29 ∧ b = 0 ∧ x = 0) → M1 a b x = M a b x := fun a b x q => by rw [hM1]; unfold wu; rw [if_neg q]
  refine r_aload_n (pc' := 6) X 0 dX9_width_5 rfl rfl rfl ?_
  refine r_aload_n (pc' := 7) X 0 dX9_width_6 rfl rfl rfl ?_
  refine gf_29_now (pc' := 10) X gw_987 dX9_width_7 rfl ?_
  refine w_calli (pc' := 13) (st := []) (w_runV X (c_X9_widths l G M1 N P pv (by first | assumption | omega) (hq.keep (fun b x q => ew 29 b x (by omega))) 13 k29_13 (w 2) (w 3) (fun x hx => by rw [ew 29 13 _ (by omega)]; exact (v1 x hx).2.1) (fun x hx => by rw [ew 29 13 _ (by omega)]; exact (v1 x hx).2.2.1) hL hU) cf_X9_widths k29_0 rfl gw_1180 gp_38 rfl rfl ⟨Nat.le_of_ble_eq_true rfl, Nat.le_of_ble_eq_true rfl⟩ rfl rfl (Nat.le_of_ble_eq_true rfl) ⟨Nat.le_of_ble_eq_true rfl, Nat.le_of_ble_eq_true rfl⟩ gw_1178 dX9_width_10) rfl (fun z10 M2 h10 => ?_)
  obtain rfl := h10.1.symm
  obtain rfl := h10.2.symm
  refine w_iret X hr dX9_width_13 ?_
  try dsimp only
  exact ⟨rfl, by rw [hM1]; unfold wu; rw [if_pos ⟨rfl, rfl, rfl⟩], fun a b x q => ew a b x (by omega)⟩
