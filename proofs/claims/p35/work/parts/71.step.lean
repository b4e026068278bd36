/-! a step as it was told ahead -/
theorem cf_L_stepped : wCal yL_stepped cL_stepped 17 (some .boolean) 2 := ⟨gw_1002, gw_0, by decide, by decide, by rfl⟩
set_option maxRecDepth 100000 in
set_option maxHeartbeats 8000000 in
theorem c_L_stepped (l : Launch) (G : wG) (M : wM) (hfl : l.stackTraces = false) (N P L nx ct : Nat) (T : Int) (lo : Lo N P L nx ct T M) (B : Nat) (hGB : ∀ q, wA G q → q < B) (hT1 : T + 1 ≤ 1000) (x : Int) (hx : 0 ≤ x ∧ x ≤ 2147483647) : Met l yL_stepped (gws yL_stepped cL_stepped 17 (some .boolean)) (wrm 9 840 5040) (sPc G B M [vR G (28, 0), vI x]) (sQi G B (fun z M1 => z = 1 ∧ Fr M M1 ∧ ∃ nq cq : Nat, Lo N P L nq cq (T + 1) M1)) 840 5040 (sA G B) := by
  refine sMet (lc := [(0, vR G (28, 0)), (1, vI x)]) (by decide) (Nat.le_of_ble_eq_true rfl) rfl ?_
  intro p e s m args below meth c X hLy hBs hr
  have X : wX p s m args meth c (gA G (sA G B)) 17 "StateObserverLaw" cL_stepped := X
  have hn := lo.n
  have hbo := lo.bo
  have hT0 := lo.t
  have hA := lo.ck.1.2.2.2.2.2.2.1
  have hBp := lo.ck.1.2.2.2.2.2.2.2.1
  have hEs := lo.ck.2.1.2.2.2.1
  have hA0 := lo.ck.2.1.2.2.2.2.2.2.1
  have x41 := tmn (a := x) (b := 41) (by omega) (by decide)
  have q41 := tdn (a := x) (b := 41) (by omega) (by decide)
  have yB := tmn (a := x.tdiv 41) (b := 2 * M 0 0 8 + 1) (by omega) (by omega)
  have xN := tmn (a := x) (b := (N : Int)) (by omega) (by omega)
  have q8 := tdn (a := x) (b := 8) (by omega) (by decide)
  have m5 := tmn (a := x.tdiv 8) (b := 5) (by omega) (by decide)
  refine e_aload_n (pc' := 1) X 0 dL_stepped_0 rfl rfl rfl ?_
  refine e_iconst (pc' := 2) X dL_stepped_1 rfl ?_
  refine s_calli as0 hGB (pc' := 5) (st := []) (e_runSH X (fun q h => Or.inl h) hLy (c_L_tryAbout l G M hfl N P T lo.ck (by have := lo.t; omega) 0 (by first | omega | assumption | decide)) cf_L_tryAbout gw_681 rfl rfl ⟨Nat.le_of_ble_eq_true rfl, Nat.le_of_ble_eq_true rfl⟩ rfl rfl (Nat.le_of_ble_eq_true rfl) ⟨by show _ ≤ 840; omega, by show _ ≤ 5040; omega⟩ gw_680 dL_stepped_2) rfl (fun z2 M1 h2 => ?_)
  rcases h2 with h2 | h2
  rotate_left 1
  · exfalso
    have hd := h2.2.1; clear h2; omega
  obtain ⟨-, hv2, hm2⟩ := h2
  obtain rfl := hm2.symm
  refine e_eqI (z' := (N : Int)) hv2 ?_
  refine e_istore_n (pc' := 6) (lc' := [(0, vR G (28, 0)), (1, vI x), (2, vI (N : Int))]) X [1, 2, 0] dL_stepped_5 rfl (by decide) rfl rfl ?_
  refine e_aload_n (pc' := 7) X 0 dL_stepped_6 rfl rfl rfl ?_
  refine e_iconst (pc' := 8) X dL_stepped_7 rfl ?_
  refine s_calli as0 hGB (pc' := 11) (st := []) (e_runSH X (fun q h => Or.inl h) hLy (c_L_tryAbout l G M hfl N P T lo.ck (by have := lo.t; omega) 2 (by first | omega | assumption | decide)) cf_L_tryAbout gw_681 rfl rfl ⟨Nat.le_of_ble_eq_true rfl, Nat.le_of_ble_eq_true rfl⟩ rfl rfl (Nat.le_of_ble_eq_true rfl) ⟨by show _ ≤ 840; omega, by show _ ≤ 5040; omega⟩ gw_680 dL_stepped_8) rfl (fun z8 M2 h8 => ?_)
  rcases h8 with h8 | h8
  rotate_left 1
  · exfalso
    have hd := h8.2.1; clear h8; omega
  obtain ⟨-, hv8, hm8⟩ := h8
  obtain rfl := hm8.symm
  refine e_eqI (z' := M 0 0 8) hv8 ?_
  refine e_istore_n (pc' := 12) (lc' := [(0, vR G (28, 0)), (1, vI x), (2, vI (N : Int)), (3, vI (M 0 0 8))]) X [1, 2, 3, 0] dL_stepped_11 rfl (by decide) rfl rfl ?_
  refine e_iload_n (pc' := 13) X 1 dL_stepped_12 rfl rfl rfl ?_
  refine e_bipush (pc' := 15) X dL_stepped_13 rfl rfl ?_
  refine e_irem (pc' := 16) X dL_stepped_15 (by omega) (by omega) (by omega) rfl ?_
  refine e_bipush (pc' := 18) X dL_stepped_16 rfl rfl ?_
  refine e_isub (pc' := 19) X dL_stepped_18 rfl ?_
  obtain ⟨u, hu0⟩ : ∃ q : Int, ((x.tmod 41) - 20) = q := ⟨_, rfl⟩
  refine e_eqI (z' := u) hu0 ?_
  refine e_istore (pc' := 21) (lc' := [(0, vR G (28, 0)), (1, vI x), (2, vI (N : Int)), (3, vI (M 0 0 8)), (4, vI u)]) X [1, 2, 3, 4, 0] dL_stepped_19 (by decide) rfl rfl ?_
  refine e_iload_n (pc' := 22) X 1 dL_stepped_21 rfl rfl rfl ?_
  refine e_bipush (pc' := 24) X dL_stepped_22 rfl rfl ?_
  refine e_idiv (pc' := 25) X dL_stepped_24 (by omega) (by omega) (by omega) rfl ?_
  refine e_iconst (pc' := 26) X dL_stepped_25 rfl ?_
  refine e_iload_n (pc' := 27) X 3 dL_stepped_26 rfl rfl rfl ?_
  refine e_imul (pc' := 28) X dL_stepped_27 rfl ?_
  refine e_iconst (pc' := 29) X dL_stepped_28 rfl ?_
  refine e_iadd (pc' := 30) X dL_stepped_29 rfl ?_
  refine e_irem (pc' := 31) X dL_stepped_30 (by omega) (by omega) (by omega) rfl ?_
  refine e_iload_n (pc' := 32) X 3 dL_stepped_31 rfl rfl rfl ?_
  refine e_isub (pc' := 33) X dL_stepped_32 rfl ?_
  obtain ⟨d, hd0⟩ : ∃ q : Int, (((x.tdiv 41).tmod ((2 * (M 0 0 8)) + 1)) - (M 0 0 8)) = q := ⟨_, rfl⟩
  refine e_eqI (z' := d) hd0 ?_
  have hdr : -(M 0 0 8) ≤ d ∧ d ≤ M 0 0 8 := by omega
  refine e_istore (pc' := 35) (lc' := [(0, vR G (28, 0)), (1, vI x), (2, vI (N : Int)), (3, vI (M 0 0 8)), (4, vI u), (5, vI d)]) X [1, 2, 3, 4, 5, 0] dL_stepped_33 (by decide) rfl rfl ?_
  have hgb : ∀ y, y < N → -500000000 ≤ gsF N (M 19) (M 0) u y ∧ gsF N (M 19) (M 0) u y ≤ 500000000 := fun y hy => gsF_bd lo.ck.1 lo.ck.2.1 (by omega) hy
  refine e_iconst (pc' := 36) X dL_stepped_35 rfl ?_
  refine s_newa (pc' := 38) X hBs hGB gw_82 ⟨by show _ ≤ 840; omega, by show _ ≤ 5040; omega⟩ dL_stepped_36 rfl (fun a1 ha1 na1 => ?_)
  refine e_astoreQ (pc' := 40) (lc' := [(0, vR G (28, 0)), (1, vI x), (2, vI (N : Int)), (3, vI (M 0 0 8)), (4, vI u), (5, vI d), (6, (Value.ref a1))]) X [1, 2, 3, 4, 5, 6, 0] dL_stepped_38 (by decide) rfl rfl ?_
  refine e_iconst (pc' := 41) X dL_stepped_40 rfl ?_
  refine s_newa (pc' := 43) X hBs hGB gw_82 ⟨by show _ ≤ 840; omega, by show _ ≤ 5040; omega⟩ dL_stepped_41 rfl (fun a2 ha2 na2 => ?_)
  have na1a2 : a1 ≠ a2 := na2 (a1, _) (List.Mem.head _)
  refine e_astoreQ (pc' := 45) (lc' := [(0, vR G (28, 0)), (1, vI x), (2, vI (N : Int)), (3, vI (M 0 0 8)), (4, vI u), (5, vI d), (6, (Value.ref a1)), (7, (Value.ref a2))]) X [1, 2, 3, 4, 5, 6, 7, 0] dL_stepped_43 (by decide) rfl rfl ?_
  refine e_iconst (pc' := 46) X dL_stepped_45 rfl ?_
  refine s_newa (pc' := 48) X hBs hGB gw_82 ⟨by show _ ≤ 840; omega, by show _ ≤ 5040; omega⟩ dL_stepped_46 rfl (fun a3 ha3 na3 => ?_)
  have na2a3 : a2 ≠ a3 := na3 (a2, _) (List.Mem.head _)
  have na1a3 : a1 ≠ a3 := na3 (a1, _) (List.Mem.tail _ (List.Mem.head _))
  refine e_astoreQ (pc' := 50) (lc' := [(0, vR G (28, 0)), (1, vI x), (2, vI (N : Int)), (3, vI (M 0 0 8)), (4, vI u), (5, vI d), (6, (Value.ref a1)), (7, (Value.ref a2)), (8, (Value.ref a3))]) X [1, 2, 3, 4, 5, 6, 7, 8, 0] dL_stepped_48 (by decide) rfl rfl ?_
  refine e_iconst (pc' := 51) X dL_stepped_50 rfl ?_
  refine e_istore (pc' := 53) (lc' := [(0, vR G (28, 0)), (1, vI x), (2, vI (N : Int)), (3, vI (M 0 0 8)), (4, vI u), (5, vI d), (6, (Value.ref a1)), (7, (Value.ref a2)), (8, (Value.ref a3)), (9, vI 0)]) X [1, 2, 3, 4, 5, 6, 7, 8, 9, 0] dL_stepped_51 (by decide) rfl rfl ?_
  have L53 : ∀ (fu : Nat) (i : Nat) (fl : Nat → Int) (fh : Nat → Int) (fg : Nat → Int) (Mq : wM), N - i < fu → (i ≤ N) → (∀ y, y < i → fl y = lowF N (M 19) u (M 0 0 8) (M 0 2) (M 0 3) y) → (∀ y, y < i → fh y = uppF N (M 19) u (M 0 0 8) (M 0 2) (M 0 3) y) → (∀ y, y < i → fg y = gsF N (M 19) (M 0) u y) → (ScrEq M Mq) → eV p l e (wrm 9 840 5040) s m args below meth c (sA G B) (aF G s [(a3, fg), (a2, fh), (a1, fl)] Mq) 17 (5 + 12 * i) (6 * (5 + 12 * i)) (MQ below (sQi G B (fun z M1 => z = 1 ∧ Fr M M1 ∧ ∃ nq cq : Nat, Lo N P L nq cq (T + 1) M1)) args s 840 5040 (sA G B)) 53 [(0, vR G (28, 0)), (1, vI x), (2, vI (N : Int)), (3, vI (M 0 0 8)), (4, vI u), (5, vI d), (6, (Value.ref a1)), (7, (Value.ref a2)), (8, (Value.ref a3)), (9, vI (i : Int))] [] := by
    intro fu
    induction fu with
    | zero => intro i fl fh fg Mq hfu; exact absurd hfu (Nat.not_lt_zero _)
    | succ fu ih53 =>
      intro i fl fh fg Mq hfu53 hi hfL hfH hfG sMq
      have qMq := lo.scr sMq
      have e0Mq := sMq.z0
      have e19Mq := sMq.z19
      refine e_iload (pc' := 55) X 9 dL_stepped_53 rfl rfl ?_
      refine e_iload_n (pc' := 56) X 2 dL_stepped_55 rfl rfl rfl ?_
      refine e_icmp_ge (pc' := 59) (tgt := 169) X dL_stepped_56 rfl rfl (by omega) (by omega) (fun h56 => ?_) (fun h56 => ?_)
      · have eiN : i = N := by omega
        rw [eiN] at hfL hfH hfG
        refine e_aload_n (pc' := 170) X 0 dL_stepped_169 rfl rfl rfl ?_
        refine s_calli (as3 ha1 ha2 ha3) hGB (pc' := 173) (st := []) (e_runV X (fun q h => Or.inl h) hLy (c_X8_width l G Mq N P T qMq.ck (by have := qMq.t; omega)) cf_X8_width k28_0 rfl gw_369 gw_370 rfl rfl ⟨Nat.le_of_ble_eq_true rfl, Nat.le_of_ble_eq_true rfl⟩ rfl rfl (Nat.le_of_ble_eq_true rfl) ⟨by show _ ≤ 840; omega, by show _ ≤ 5040; omega⟩ gw_368 dL_stepped_170) rfl (fun z170 M3 h170 => ?_)
        obtain ⟨hv170, hm170⟩ := h170
        obtain rfl := hm170.symm
        simp only [e0Mq, e19Mq] at hv170
        refine e_eqI (z' := wid N (M 0 2) (M 0 3)) hv170 ?_
        refine e_istore (pc' := 175) (lc' := [(0, vR G (28, 0)), (1, vI x), (2, vI (N : Int)), (3, vI (M 0 0 8)), (4, vI u), (5, vI d), (6, (Value.ref a1)), (7, (Value.ref a2)), (8, (Value.ref a3)), (9, vI (wid N (M 0 2) (M 0 3)))]) X [1, 2, 3, 4, 5, 6, 7, 8, 9, 0] dL_stepped_173 (by decide) rfl rfl ?_
        refine e_aload_n (pc' := 176) X 0 dL_stepped_175 rfl rfl rfl ?_
        refine e_iconst (pc' := 177) X dL_stepped_176 rfl ?_
        refine e_iload (pc' := 179) X 4 dL_stepped_177 rfl rfl ?_
        refine e_iconst (pc' := 180) X dL_stepped_179 rfl ?_
        refine e_iconst (pc' := 181) X dL_stepped_180 rfl ?_
        refine s_calli (as3 ha1 ha2 ha3) hGB (pc' := 184) (st := []) (e_runSH X (fun q h => Or.inl h) hLy (c_L_tryAhead l G Mq hfl N P T qMq.ck (by have := qMq.t; omega) 5 u 0 1 (by first | omega | assumption | decide) (by first | omega | assumption | decide) (by first | omega | assumption | decide) (by first | omega | assumption | decide)) cf_L_tryAhead gw_861 rfl rfl ⟨Nat.le_of_ble_eq_true rfl, Nat.le_of_ble_eq_true rfl⟩ rfl rfl (Nat.le_of_ble_eq_true rfl) ⟨by show _ ≤ 840; omega, by show _ ≤ 5040; omega⟩ gw_860 dL_stepped_181) rfl (fun z181 M4 h181 => ?_)
        rcases h181 with h181 | h181 | h181
        rotate_left 1
        · exfalso
          have hd := h181.2.1; clear h181; omega
        · exfalso
          have hd := h181.2.1; clear h181; omega
        have hs181 := h181.2.2
        simp only [e0Mq, e19Mq] at h181
        have sM4 : ScrEq M M4 := sMq.trans (hs181)
        have qM4 := lo.scr sM4
        have e0M4 : M4 0 = M 0 := sM4.z0
        have e19M4 : M4 19 = M 19 := sM4.z19
        have e181 := (ahd h181.2.1 (k := 5) (j := 0) rfl rfl).2 rfl
        refine e_istore (pc' := 186) (lc' := [(0, vR G (28, 0)), (1, vI x), (2, vI (N : Int)), (3, vI (M 0 0 8)), (4, vI u), (5, vI d), (6, (Value.ref a1)), (7, (Value.ref a2)), (8, (Value.ref a3)), (9, vI (wid N (M 0 2) (M 0 3))), (10, vI z181)]) X [1, 2, 3, 4, 5, 6, 7, 8, 9, 10, 0] dL_stepped_184 (by decide) rfl rfl ?_
        refine e_aload_n (pc' := 187) X 0 dL_stepped_186 rfl rfl rfl ?_
        refine e_iconst (pc' := 188) X dL_stepped_187 rfl ?_
        refine s_calli (as3 ha1 ha2 ha3) hGB (pc' := 191) (st := []) (e_runSH X (fun q h => Or.inl h) hLy (c_L_tryAbout l G M4 hfl N P T qM4.ck (by have := qM4.t; omega) 4 (by first | omega | assumption | decide)) cf_L_tryAbout gw_681 rfl rfl ⟨Nat.le_of_ble_eq_true rfl, Nat.le_of_ble_eq_true rfl⟩ rfl rfl (Nat.le_of_ble_eq_true rfl) ⟨by show _ ≤ 840; omega, by show _ ≤ 5040; omega⟩ gw_680 dL_stepped_188) rfl (fun z188 M5 h188 => ?_)
        rcases h188 with h188 | h188
        rotate_left 1
        · exfalso
          have hd := h188.2.1; clear h188; omega
        obtain ⟨-, hv188, hm188⟩ := h188
        obtain rfl := hm188.symm
        simp only [e0M4, e19M4] at hv188
        refine e_eqI (z' := M 0 0 9) hv188 ?_
        refine e_istore (pc' := 193) (lc' := [(0, vR G (28, 0)), (1, vI x), (2, vI (N : Int)), (3, vI (M 0 0 8)), (4, vI u), (5, vI d), (6, (Value.ref a1)), (7, (Value.ref a2)), (8, (Value.ref a3)), (9, vI (wid N (M 0 2) (M 0 3))), (10, vI z181), (11, vI (M 0 0 9))]) X [1, 2, 3, 4, 5, 6, 7, 8, 9, 10, 11, 0] dL_stepped_191 (by decide) rfl rfl ?_
        refine e_aload_n (pc' := 194) X 0 dL_stepped_193 rfl rfl rfl ?_
        refine e_iload (pc' := 196) X 4 dL_stepped_194 rfl rfl ?_
        refine e_iload (pc' := 198) X 5 dL_stepped_196 rfl rfl ?_
        refine s_calli (as3 ha1 ha2 ha3) hGB (pc' := 201) (st := []) (e_runSH X (fun q h => Or.inl h) hLy (c_L_tryStep l G M4 hfl N P T qM4.ck (by have := qM4.t; omega) nx ct qM4.nxe qM4.nx14 qM4.cte qM4.ct14 u d (by first | omega | assumption | decide) (by first | omega | assumption | decide)) cf_L_tryStep gw_725 rfl rfl ⟨Nat.le_of_ble_eq_true rfl, Nat.le_of_ble_eq_true rfl⟩ rfl rfl (Nat.le_of_ble_eq_true rfl) ⟨by show _ ≤ 840; omega, by show _ ≤ 5040; omega⟩ gw_724 dL_stepped_198) rfl (fun z198 M6 h198 => ?_)
        rcases h198 with h198 | h198
        rotate_left 1
        · exfalso
          have hd := h198.2.1; rw [e0M4] at hd; clear h198; omega
        obtain ⟨-, hst0, hz198, hnt⟩ := h198
        have hnx14 := lo.nx14
        rw [e19M4, e0M4] at hst0
        rw [e0M4] at hz198
        have hok := StepV.ok lo.ck.1 lo.ck.2.1 lo.ck.2.2 hst0 (by omega)
        have htr := StepV.tr lo.ck.2.1 lo.tr hst0 hdr
        have loS : Lo N P L ((nx + 1) % 14) (min (ct + 1) 14) (T + 1) M6 := Lo.noted qM4 hnt hok.1 hok.2 (by rw [e19M4]; exact htr) (by omega)
        have hs19 : M6 19 = M 19 := (hnt.2.2.2 19 (by decide) (by decide) (by omega) (by decide) (by decide) (by decide) (by decide) (by decide) (by decide)).trans e19M4
        have hhS : M6 (5 + nx) = M 0 := hnt.1.trans e0M4
        have hFS : Fr M M6 := (Fr.of sM4).noted hnt lo.nx14
        have tdS : Told N (M 19) (M6 0) d := StepV.told lo.ck.2.1 lo.tr hst0 hdr
        have tdS1 : Told N (M6 19) (M6 0) d := by rw [hs19]; exact tdS
        have hexS : M6 0 0 9 ≠ 0 ∧ expl N (M6 19) (M6 0) d ∧ -(M6 0 0 11) ≤ d ∧ d ≤ M6 0 0 11 := ⟨tdS1.1, tdS1.expl loS.tr.1, tdS1.2.1⟩
        have hage : ∀ y, y < P → M6 0 11 y = -1 ∨ 1 ≤ M6 0 11 y := fun y hy => by
          have f := hst0.2.2.2.1 y hy
          have g := hA0 y hy
          by_cases q : M 0 11 y = -1
          · rw [if_pos q] at f; exact Or.inl f
          · rw [if_neg q] at f; right; omega
        have h7S : M6 0 0 7 = M 0 0 7 := hst0.2.2.2.2.2.2.1
        obtain ⟨n1, hn1⟩ : ∃ q, q = (nx + 1) % 14 := ⟨_, rfl⟩
        obtain ⟨c1, hc1⟩ : ∃ q, q = min (ct + 1) 14 := ⟨_, rfl⟩
        rw [← hn1, ← hc1] at loS
        have hnx14 := lo.nx14
        have hc1p : 1 ≤ c1 := by omega
        have hboS := loS.bo
        have hA11 := loS.ck.2.1.2.2.2.2.2.2.1
        have hEsS := loS.ck.2.1.2.2.2.1
        refine e_iload (pc' := 203) X 11 dL_stepped_201 rfl rfl ?_
        refine e_iconst (pc' := 204) X dL_stepped_203 rfl ?_
        refine e_iadd (pc' := 205) X dL_stepped_204 rfl ?_
        refine e_icmp_ne (pc' := 208) (tgt := 212) X dL_stepped_205 rfl rfl (by omega) (by omega) (fun h205 => by exfalso; omega) (fun h205 => ?_)
        refine e_iconst (pc' := 209) X dL_stepped_208 rfl ?_
        refine e_goto (tgt := 213) X dL_stepped_209 rfl ?_
        refine e_istore (pc' := 215) (lc' := [(0, vR G (28, 0)), (1, vI x), (2, vI (N : Int)), (3, vI (M 0 0 8)), (4, vI u), (5, vI d), (6, (Value.ref a1)), (7, (Value.ref a2)), (8, (Value.ref a3)), (9, vI (wid N (M 0 2) (M 0 3))), (10, vI z181), (11, vI (M 0 0 9)), (12, vI 1)]) X [1, 2, 3, 4, 5, 6, 7, 8, 9, 10, 11, 12, 0] dL_stepped_213 (by decide) rfl rfl ?_
        refine e_iconst (pc' := 216) X dL_stepped_215 rfl ?_
        refine e_istore (pc' := 218) (lc' := [(0, vR G (28, 0)), (1, vI x), (2, vI (N : Int)), (3, vI (M 0 0 8)), (4, vI u), (5, vI d), (6, (Value.ref a1)), (7, (Value.ref a2)), (8, (Value.ref a3)), (9, vI (wid N (M 0 2) (M 0 3))), (10, vI z181), (11, vI (M 0 0 9)), (12, vI 1), (13, vI 1)]) X [1, 2, 3, 4, 5, 6, 7, 8, 9, 10, 11, 12, 13, 0] dL_stepped_216 (by decide) rfl rfl ?_
        refine e_iconst (pc' := 219) X dL_stepped_218 rfl ?_
        refine e_istore (pc' := 221) (lc' := [(0, vR G (28, 0)), (1, vI x), (2, vI (N : Int)), (3, vI (M 0 0 8)), (4, vI u), (5, vI d), (6, (Value.ref a1)), (7, (Value.ref a2)), (8, (Value.ref a3)), (9, vI (wid N (M 0 2) (M 0 3))), (10, vI z181), (11, vI (M 0 0 9)), (12, vI 1), (13, vI 1), (14, vI 0)]) X [1, 2, 3, 4, 5, 6, 7, 8, 9, 10, 11, 12, 13, 14, 0] dL_stepped_219 (by decide) rfl rfl ?_
        have L221 : ∀ (fu : Nat) (kk : Nat) (sl : Int) (Mk : wM), P - kk < fu → (kk ≤ P) → (sl = 0 ∨ sl = 1) → (sl = 1 → ∀ y, y < kk → M6 0 11 y ≠ -1 ∧ M6 0 0 7 < M6 0 11 y - 1) → (ScrEq M6 Mk) → eV p l e (wrm 9 840 5040) s m args below meth c (sA G B) (aF G s [(a3, fg), (a2, fh), (a1, fl)] Mk) 17 (60 + 4 * kk) (6 * (60 + 4 * kk)) (MQ below (sQi G B (fun z M1 => z = 1 ∧ Fr M M1 ∧ ∃ nq cq : Nat, Lo N P L nq cq (T + 1) M1)) args s 840 5040 (sA G B)) 221 [(0, vR G (28, 0)), (1, vI x), (2, vI (N : Int)), (3, vI (M 0 0 8)), (4, vI u), (5, vI d), (6, (Value.ref a1)), (7, (Value.ref a2)), (8, (Value.ref a3)), (9, vI (wid N (M 0 2) (M 0 3))), (10, vI z181), (11, vI (M 0 0 9)), (12, vI 1), (13, vI sl), (14, vI (kk : Int))] [] := by
          intro fu
          induction fu with
          | zero => intro kk sl Mk hfu; exact absurd hfu (Nat.not_lt_zero _)
          | succ fu ih221 =>
            intro kk sl Mk hfu221 hkk hsl01 hsl sMk
            have qMk := loS.scr sMk
            have e0Mk := sMk.z0
            have e19Mk := sMk.z19
            refine e_iload (pc' := 223) X 14 dL_stepped_221 rfl rfl ?_
            refine e_aload_n (pc' := 224) X 0 dL_stepped_223 rfl rfl rfl ?_
            refine e_iconst (pc' := 225) X dL_stepped_224 rfl ?_
            refine s_calli (as3 ha1 ha2 ha3) hGB (pc' := 228) (st := [vI (kk : Int)]) (e_runSH X (fun q h => Or.inl h) hLy (c_L_tryAbout l G Mk hfl N P (T + 1) qMk.ck (by have := qMk.t; omega) 1 (by first | omega | assumption | decide)) cf_L_tryAbout gw_681 rfl rfl ⟨Nat.le_of_ble_eq_true rfl, Nat.le_of_ble_eq_true rfl⟩ rfl rfl (Nat.le_of_ble_eq_true rfl) ⟨by show _ ≤ 840; omega, by show _ ≤ 5040; omega⟩ gw_680 dL_stepped_225) rfl (fun z225 M7 h225 => ?_)
            rcases h225 with h225 | h225
            rotate_left 1
            · exfalso
              have hd := h225.2.1; clear h225; omega
            obtain ⟨-, hv225, hm225⟩ := h225
            obtain rfl := hm225.symm
            simp only [e0Mk, e19Mk] at hv225
            refine e_eqI (z' := (P : Int)) hv225 ?_
            refine e_icmp_ge (pc' := 231) (tgt := 288) X dL_stepped_228 rfl rfl (by omega) (by omega) (fun h228 => ?_) (fun h228 => ?_)
            · have hsil : sl = 1 → ∀ y, y < P → M 0 0 7 < M 0 11 y := fun q y hy => by
                have f := hsl q y (by omega)
                have g := hst0.2.2.2.1 y hy
                by_cases w : M 0 11 y = -1
                · rw [if_pos w] at g; exact absurd g f.1
                · rw [if_neg w] at g; omega
              refine e_iconst (pc' := 289) X dL_stepped_288 rfl ?_
              refine e_istore (pc' := 291) (lc' := [(0, vR G (28, 0)), (1, vI x), (2, vI (N : Int)), (3, vI (M 0 0 8)), (4, vI u), (5, vI d), (6, (Value.ref a1)), (7, (Value.ref a2)), (8, (Value.ref a3)), (9, vI (wid N (M 0 2) (M 0 3))), (10, vI z181), (11, vI (M 0 0 9)), (12, vI 1), (13, vI sl), (14, vI 0)]) X [1, 2, 3, 4, 5, 6, 7, 8, 9, 10, 11, 12, 13, 14, 0] dL_stepped_289 (by decide) rfl rfl ?_
              have L291 : ∀ (fu : Nat) (ii : Nat), N - ii < fu → (ii ≤ N) → eV p l e (wrm 9 840 5040) s m args below meth c (sA G B) (aF G s [(a3, fg), (a2, fh), (a1, fl)] Mk) 17 (74 + 3 * ii) (6 * (74 + 3 * ii)) (MQ below (sQi G B (fun z M1 => z = 1 ∧ Fr M M1 ∧ ∃ nq cq : Nat, Lo N P L nq cq (T + 1) M1)) args s 840 5040 (sA G B)) 291 [(0, vR G (28, 0)), (1, vI x), (2, vI (N : Int)), (3, vI (M 0 0 8)), (4, vI u), (5, vI d), (6, (Value.ref a1)), (7, (Value.ref a2)), (8, (Value.ref a3)), (9, vI (wid N (M 0 2) (M 0 3))), (10, vI z181), (11, vI (M 0 0 9)), (12, vI 1), (13, vI sl), (14, vI (ii : Int))] [] := by
                intro fu
                induction fu with
                | zero => intro ii hfu; exact absurd hfu (Nat.not_lt_zero _)
                | succ fu ih291 =>
                  intro ii hfu291 hii
                  refine e_iload (pc' := 293) X 14 dL_stepped_291 rfl rfl ?_
                  refine e_iload_n (pc' := 294) X 2 dL_stepped_293 rfl rfl rfl ?_
                  refine e_icmp_ge (pc' := 297) (tgt := 385) X dL_stepped_294 rfl rfl (by omega) (by omega) (fun h294 => ?_) (fun h294 => ?_)
                  · refine e_iload (pc' := 387) X 12 dL_stepped_385 rfl rfl ?_
                    refine e_if_eq (pc' := 390) (tgt := 424) X dL_stepped_387 rfl rfl (by omega) (fun h387 => absurd h387 (by decide)) (fun h387 => ?_)
                    refine e_iload (pc' := 392) X 10 dL_stepped_390 rfl rfl ?_
                    refine e_aload_n (pc' := 393) X 0 dL_stepped_392 rfl rfl rfl ?_
                    refine e_iconst (pc' := 394) X dL_stepped_393 rfl ?_
                    refine e_iload (pc' := 396) X 4 dL_stepped_394 rfl rfl ?_
                    refine e_iconst (pc' := 397) X dL_stepped_396 rfl ?_
                    refine e_iconst (pc' := 398) X dL_stepped_397 rfl ?_
                    refine s_calli (as3 ha1 ha2 ha3) hGB (pc' := 401) (st := [vI z181]) (e_runSH X (fun q h => Or.inl h) hLy (c_L_tryAhead l G Mk hfl N P (T + 1) qMk.ck (by have := qMk.t; omega) 4 u 0 1 (by first | omega | assumption | decide) (by first | omega | assumption | decide) (by first | omega | assumption | decide) (by first | omega | assumption | decide)) cf_L_tryAhead gw_861 rfl rfl ⟨Nat.le_of_ble_eq_true rfl, Nat.le_of_ble_eq_true rfl⟩ rfl rfl (Nat.le_of_ble_eq_true rfl) ⟨by show _ ≤ 840; omega, by show _ ≤ 5040; omega⟩ gw_860 dL_stepped_398) rfl (fun z398 M8 h398 => ?_)
                    rcases h398 with h398 | h398 | h398
                    rotate_left 1
                    · exfalso
                      have hd := h398.2.1; clear h398; omega
                    · exfalso
                      have hd := h398.2.1; clear h398; omega
                    have hs398 := h398.2.2
                    simp only [e0Mk, e19Mk] at h398
                    have sM8 : ScrEq M6 M8 := sMk.trans (hs398)
                    have qM8 := loS.scr sM8
                    have e0M8 : M8 0 = M6 0 := sM8.z0
                    have e19M8 : M8 19 = M6 19 := sM8.z19
                    have e398 := (ahd h398.2.1 (k := 4) (j := 0) rfl rfl).2 rfl
                    rw [hs19, hst0.2.2.2.2.2.2.2.1, (itv_next (fun y hy => ⟨(hst0.2.1 y hy).2.2.1, (hst0.2.1 y hy).2.2.2⟩) 4 0 (by omega)).2] at e398
                    have e401 : z181 = z398 := e181.trans e398.symm
                    refine e_icmp_neE (pc' := 404) (tgt := 424) X dL_stepped_401 rfl rfl e401 ?_
                    refine e_aload_n (pc' := 405) X 0 dL_stepped_404 rfl rfl rfl ?_
                    refine e_iload (pc' := 407) X 5 dL_stepped_405 rfl rfl ?_
                    refine s_calli (as3 ha1 ha2 ha3) hGB (pc' := 410) (st := []) (e_runS X (fun q h => Or.inl h) hLy (c_L_bounded l G M8 hfl N P L n1 c1 (T + 1) qM8 d (by first | omega | assumption | decide) (by rw [e0M8, e19M8]; exact hexS)) cf_L_bounded gw_1007 rfl rfl ⟨Nat.le_of_ble_eq_true rfl, Nat.le_of_ble_eq_true rfl⟩ rfl rfl (Nat.le_of_ble_eq_true rfl) ⟨by show _ ≤ 840; omega, by show _ ≤ 5040; omega⟩ gw_1006 dL_stepped_407) rfl (fun z407 M9 h407 => ?_)
                    obtain ⟨hv407, hm407⟩ := h407
                    obtain rfl := hm407.symm
                    refine e_eqI (z' := 1) hv407 ?_
                    refine e_if_eq (pc' := 413) (tgt := 424) X dL_stepped_410 rfl rfl (by omega) (fun h410 => absurd h410 (by decide)) (fun h410 => ?_)
                    refine e_aload_n (pc' := 414) X 0 dL_stepped_413 rfl rfl rfl ?_
                    refine s_calli (as3 ha1 ha2 ha3) hGB (pc' := 417) (st := []) (e_runS X (fun q h => Or.inl h) hLy (c_L_contained l G M8 hfl N P L n1 c1 (T + 1) qM8) cf_L_contained gw_974 rfl rfl ⟨Nat.le_of_ble_eq_true rfl, Nat.le_of_ble_eq_true rfl⟩ rfl rfl (Nat.le_of_ble_eq_true rfl) ⟨by show _ ≤ 840; omega, by show _ ≤ 5040; omega⟩ gw_973 dL_stepped_414) rfl (fun z414 M10 h414 => ?_)
                    obtain ⟨hv414, hs414⟩ := h414
                    have sM10 : ScrEq M6 M10 := sM8.trans (hs414)
                    have qM10 := loS.scr sM10
                    have e0M10 : M10 0 = M6 0 := sM10.z0
                    have e19M10 : M10 19 = M6 19 := sM10.z19
                    refine e_eqI (z' := 1) hv414 ?_
                    refine e_if_eq (pc' := 420) (tgt := 424) X dL_stepped_417 rfl rfl (by omega) (fun h417 => absurd h417 (by decide)) (fun h417 => ?_)
                    refine e_iconst (pc' := 421) X dL_stepped_420 rfl ?_
                    refine e_goto (tgt := 425) X dL_stepped_421 rfl ?_
                    refine e_istore (pc' := 427) (lc' := [(0, vR G (28, 0)), (1, vI x), (2, vI (N : Int)), (3, vI (M 0 0 8)), (4, vI u), (5, vI d), (6, (Value.ref a1)), (7, (Value.ref a2)), (8, (Value.ref a3)), (9, vI (wid N (M 0 2) (M 0 3))), (10, vI z181), (11, vI (M 0 0 9)), (12, vI 1), (13, vI sl), (14, vI (ii : Int))]) X [1, 2, 3, 4, 5, 6, 7, 8, 9, 10, 11, 12, 0, 13, 14] dL_stepped_425 (by decide) rfl rfl ?_
                    have hS0 : StI N P L n1 nx (T + 1) M M6 M10 c1 := ⟨qM10, e0M10, (sM10.at (by omega)).trans hhS, hc1p, hFS.scr sM10⟩
                    refine e_iconst (pc' := 428) X dL_stepped_427 rfl ?_
                    refine e_istore (pc' := 430) (lc' := [(0, vR G (28, 0)), (1, vI x), (2, vI (N : Int)), (3, vI (M 0 0 8)), (4, vI u), (5, vI d), (6, (Value.ref a1)), (7, (Value.ref a2)), (8, (Value.ref a3)), (9, vI (wid N (M 0 2) (M 0 3))), (10, vI z181), (11, vI (M 0 0 9)), (12, vI 1), (13, vI sl), (14, vI 0)]) X [1, 2, 3, 4, 5, 6, 7, 8, 9, 10, 11, 12, 13, 14, 0] dL_stepped_428 (by decide) rfl rfl ?_
                    have L430 : ∀ (fu : Nat) (kr : Nat) (cc : Nat) (Mr : wM), P - kr < fu → (kr ≤ P) → (StI N P L n1 nx (T + 1) M M6 Mr cc) → eV p l e (wrm 9 840 5040) s m args below meth c (sA G B) (aF G s [(a3, fg), (a2, fh), (a1, fl)] Mr) 17 (330 + 5 * kr) (6 * (330 + 5 * kr)) (MQ below (sQi G B (fun z M1 => z = 1 ∧ Fr M M1 ∧ ∃ nq cq : Nat, Lo N P L nq cq (T + 1) M1)) args s 840 5040 (sA G B)) 430 [(0, vR G (28, 0)), (1, vI x), (2, vI (N : Int)), (3, vI (M 0 0 8)), (4, vI u), (5, vI d), (6, (Value.ref a1)), (7, (Value.ref a2)), (8, (Value.ref a3)), (9, vI (wid N (M 0 2) (M 0 3))), (10, vI z181), (11, vI (M 0 0 9)), (12, vI 1), (13, vI sl), (14, vI (kr : Int))] [] := by
                      intro fu
                      induction fu with
                      | zero => intro kr cc Mr hfu; exact absurd hfu (Nat.not_lt_zero _)
                      | succ fu ih430 =>
                        intro kr cc Mr hfu430 hkr hS
                        have loK := hS.1
                        have hK19 : Mr 19 = M 19 := hS.2.2.2.2 19 (by decide) (by decide) (by omega) (by decide) (by decide) (by decide) (by decide) (by decide) (by decide)
                        refine e_iload (pc' := 432) X 14 dL_stepped_430 rfl rfl ?_
                        refine e_aload_n (pc' := 433) X 0 dL_stepped_432 rfl rfl rfl ?_
                        refine e_iconst (pc' := 434) X dL_stepped_433 rfl ?_
                        refine s_calli (as3 ha1 ha2 ha3) hGB (pc' := 437) (st := [vI (kr : Int)]) (e_runSH X (fun q h => Or.inl h) hLy (c_L_tryAbout l G Mr hfl N P (T + 1) loK.ck (by have := loK.t; omega) 1 (by first | omega | assumption | decide)) cf_L_tryAbout gw_681 rfl rfl ⟨Nat.le_of_ble_eq_true rfl, Nat.le_of_ble_eq_true rfl⟩ rfl rfl (Nat.le_of_ble_eq_true rfl) ⟨by show _ ≤ 840; omega, by show _ ≤ 5040; omega⟩ gw_680 dL_stepped_434) rfl (fun z434 M11 h434 => ?_)
                        rcases h434 with h434 | h434
                        rotate_left 1
                        · exfalso
                          omega
                        obtain ⟨-, hv434, hm434⟩ := h434
                        obtain rfl := hm434.symm
                        refine e_eqI (z' := (P : Int)) hv434 ?_
                        refine e_icmp_ge (pc' := 440) (tgt := 515) X dL_stepped_437 rfl rfl (by omega) (by omega) (fun h437 => ?_) (fun h437 => ?_)
                        · refine e_iload (pc' := 517) X 12 dL_stepped_515 rfl rfl ?_
                          refine e_if_eq (pc' := 520) (tgt := 554) X dL_stepped_517 rfl rfl (by omega) (fun h517 => absurd h517 (by decide)) (fun h517 => ?_)
                          refine e_aload_n (pc' := 521) X 0 dL_stepped_520 rfl rfl rfl ?_
                          refine e_iconst (pc' := 522) X dL_stepped_521 rfl ?_
                          refine s_calli (as3 ha1 ha2 ha3) hGB (pc' := 525) (st := []) (e_runSH X (fun q h => Or.inl h) hLy (c_L_tryRead l G Mr hfl N P (T + 1) loK.ck (by have := loK.t; omega) n1 cc loK.nxe loK.nx14 loK.cte loK.ct14 loK.t.1 0 (by first | omega | assumption | decide)) cf_L_tryRead gw_776 rfl rfl ⟨Nat.le_of_ble_eq_true rfl, Nat.le_of_ble_eq_true rfl⟩ rfl rfl (Nat.le_of_ble_eq_true rfl) ⟨by show _ ≤ 840; omega, by show _ ≤ 5040; omega⟩ gw_775 dL_stepped_522) rfl (fun z522 M12 h522 => ?_)
                          rcases h522 with h522 | h522
                          rotate_left 1
                          · exfalso
                            have hd := h522.2.1; clear h522; omega
                          obtain ⟨-, ho, hz522, hnt⟩ := h522
                          have hny14 := loK.nx14
                          have hob := obs_ok loK.ck.1 loK.ck.2.1 loK.t.1 loK.ck.2.2 loK.tr (K := 0) (by omega)
                          have lo2 : Lo N P L ((n1 + 1) % 14) (min (cc + 1) 14) (T + 1) M12 := loK.noted hnt (by rw [ho]; exact hob.1) (by rw [ho]; exact hob.2.1) (by rw [ho]; exact hob.2.2) loK.t
                          have hr19 : M12 19 = Mr 19 := hnt.2.2.2 19 (by decide) (by decide) (by omega) (by decide) (by decide) (by decide) (by decide) (by decide) (by decide)
                          have hor := obs_read (z := z522) (w := M12 0) loK.ck.1 lo2.ck.2.1 (by rw [← hr19]; exact lo2.tr) (K := 0) (by omega) ho hz522
                          rw [← hr19] at hor
                          obtain ⟨ho1, ho2, ho3, ho4, ho5, ho6, ho7⟩ := hor
                          have hw1 := wid_bd loK.ck.2.2
                          have hw2 := wid_bd lo2.ck.2.2
                          obtain ⟨n2, hn2⟩ : ∃ q, q = (n1 + 1) % 14 := ⟨_, rfl⟩
                          obtain ⟨c2, hc2⟩ : ∃ q, q = min (cc + 1) 14 := ⟨_, rfl⟩
                          rw [← hn2, ← hc2] at lo2
                          have hn14 := loK.nx14
                          have hk1 : M12 (5 + n1) = Mr 0 := hnt.1
                          have hk2 : M12 (5 + nx) = M 0 := (hnt.at (by omega) (by omega)).trans hS.2.2.1
                          have hF3 := hS.2.2.2.2.noted hnt hn14
                          have td2 : Told N (M 19) (Mr 0) d := by rw [hS.2.1]; exact tdS
                          have td3 : Told N (M12 19) (M12 0) d := by rw [hr19, hK19]; exact td2.same ho6
                          have hex3 : M12 0 0 9 ≠ 0 ∧ expl N (M12 19) (M12 0) d ∧ -(M12 0 0 11) ≤ d ∧ d ≤ M12 0 0 11 := ⟨td3.1, td3.expl lo2.tr.1, td3.2.1⟩
                          refine e_aload_n (pc' := 526) X 0 dL_stepped_525 rfl rfl rfl ?_
                          refine e_iconst (pc' := 527) X dL_stepped_526 rfl ?_
                          refine e_iconst (pc' := 528) X dL_stepped_527 rfl ?_
                          refine s_calli (as3 ha1 ha2 ha3) hGB (pc' := 531) (st := [vI z522]) (e_runSH X (fun q h => Or.inl h) hLy (c_L_tryOutput l G M12 hfl N P (T + 1) lo2.ck (by have := lo2.t; omega) 0 0 (by first | omega | assumption | decide) (by first | omega | assumption | decide)) cf_L_tryOutput gw_377 rfl rfl ⟨Nat.le_of_ble_eq_true rfl, Nat.le_of_ble_eq_true rfl⟩ rfl rfl (Nat.le_of_ble_eq_true rfl) ⟨by show _ ≤ 840; omega, by show _ ≤ 5040; omega⟩ gw_376 dL_stepped_528) rfl (fun z528 M13 h528 => ?_)
                          rcases h528 with h528 | h528 | h528 | h528
                          rotate_left 1
                          · exfalso
                            have hd := h528.2.1; clear h528; omega
                          · exfalso
                            have hd := h528.2.1; clear h528; omega
                          · exfalso
                            exact absurd (h528.2.1.2.2.2.symm.trans ho3) (by decide)
                          obtain ⟨-, -, -, hv528, hm528⟩ := h528
                          obtain rfl := hm528.symm
                          refine e_eqI (z' := M12 0 10 0) hv528 ?_
                          refine e_icmp_neE (pc' := 534) (tgt := 554) X dL_stepped_531 rfl rfl ho4.symm ?_
                          refine e_aload_n (pc' := 535) X 0 dL_stepped_534 rfl rfl rfl ?_
                          refine e_iload (pc' := 537) X 5 dL_stepped_535 rfl rfl ?_
                          refine s_calli (as3 ha1 ha2 ha3) hGB (pc' := 540) (st := []) (e_runS X (fun q h => Or.inl h) hLy (c_L_bounded l G M12 hfl N P L n2 c2 (T + 1) lo2 d (by first | omega | assumption | decide) hex3) cf_L_bounded gw_1007 rfl rfl ⟨Nat.le_of_ble_eq_true rfl, Nat.le_of_ble_eq_true rfl⟩ rfl rfl (Nat.le_of_ble_eq_true rfl) ⟨by show _ ≤ 840; omega, by show _ ≤ 5040; omega⟩ gw_1006 dL_stepped_537) rfl (fun z537 M14 h537 => ?_)
                          obtain ⟨hv537, hm537⟩ := h537
                          obtain rfl := hm537.symm
                          refine e_eqI (z' := 1) hv537 ?_
                          refine e_if_eq (pc' := 543) (tgt := 554) X dL_stepped_540 rfl rfl (by omega) (fun h540 => absurd h540 (by decide)) (fun h540 => ?_)
                          refine e_aload_n (pc' := 544) X 0 dL_stepped_543 rfl rfl rfl ?_
                          refine s_calli (as3 ha1 ha2 ha3) hGB (pc' := 547) (st := []) (e_runS X (fun q h => Or.inl h) hLy (c_L_contained l G M12 hfl N P L n2 c2 (T + 1) lo2) cf_L_contained gw_974 rfl rfl ⟨Nat.le_of_ble_eq_true rfl, Nat.le_of_ble_eq_true rfl⟩ rfl rfl (Nat.le_of_ble_eq_true rfl) ⟨by show _ ≤ 840; omega, by show _ ≤ 5040; omega⟩ gw_973 dL_stepped_544) rfl (fun z544 M15 h544 => ?_)
                          obtain ⟨hv544, hs544⟩ := h544
                          have sM15 : ScrEq M12 M15 := hs544
                          have qM15 := lo2.scr sM15
                          have e0M15 : M15 0 = M12 0 := sM15.z0
                          have e19M15 : M15 19 = M12 19 := sM15.z19
                          refine e_eqI (z' := 1) hv544 ?_
                          refine e_if_eq (pc' := 550) (tgt := 554) X dL_stepped_547 rfl rfl (by omega) (fun h547 => absurd h547 (by decide)) (fun h547 => ?_)
                          refine e_iconst (pc' := 551) X dL_stepped_550 rfl ?_
                          refine e_goto (tgt := 555) X dL_stepped_551 rfl ?_
                          refine e_istore (pc' := 557) (lc' := [(0, vR G (28, 0)), (1, vI x), (2, vI (N : Int)), (3, vI (M 0 0 8)), (4, vI u), (5, vI d), (6, (Value.ref a1)), (7, (Value.ref a2)), (8, (Value.ref a3)), (9, vI (wid N (M 0 2) (M 0 3))), (10, vI z181), (11, vI (M 0 0 9)), (12, vI 1), (13, vI sl), (14, vI (kr : Int))]) X [1, 2, 3, 4, 5, 6, 7, 8, 9, 10, 11, 12, 0, 13, 14] dL_stepped_555 (by decide) rfl rfl ?_
                          refine e_aload_n (pc' := 558) X 0 dL_stepped_557 rfl rfl rfl ?_
                          refine s_calli (as3 ha1 ha2 ha3) hGB (pc' := 561) (st := []) (e_runV X (fun q h => Or.inl h) hLy (c_X8_width l G M15 N P (T + 1) qM15.ck (by have := qM15.t; omega)) cf_X8_width k28_0 rfl gw_369 gw_370 rfl rfl ⟨Nat.le_of_ble_eq_true rfl, Nat.le_of_ble_eq_true rfl⟩ rfl rfl (Nat.le_of_ble_eq_true rfl) ⟨by show _ ≤ 840; omega, by show _ ≤ 5040; omega⟩ gw_368 dL_stepped_558) rfl (fun z558 M16 h558 => ?_)
                          obtain ⟨hv558, hm558⟩ := h558
                          obtain rfl := hm558.symm
                          simp only [e0M15, e19M15] at hv558
                          refine e_eqI (z' := wid N (M12 0 2) (M12 0 3)) hv558 ?_
                          refine e_istore (pc' := 563) (lc' := [(0, vR G (28, 0)), (1, vI x), (2, vI (N : Int)), (3, vI (M 0 0 8)), (4, vI u), (5, vI d), (6, (Value.ref a1)), (7, (Value.ref a2)), (8, (Value.ref a3)), (9, vI (wid N (M 0 2) (M 0 3))), (10, vI z181), (11, vI (M 0 0 9)), (12, vI 1), (13, vI sl), (14, vI (wid N (M12 0 2) (M12 0 3)))]) X [1, 2, 3, 4, 5, 6, 7, 8, 9, 10, 11, 12, 13, 14, 0] dL_stepped_561 (by decide) rfl rfl ?_
                          refine e_aload_n (pc' := 564) X 0 dL_stepped_563 rfl rfl rfl ?_
                          refine e_iload_n (pc' := 565) X 1 dL_stepped_564 rfl rfl rfl ?_
                          refine e_iload_n (pc' := 566) X 2 dL_stepped_565 rfl rfl rfl ?_
                          refine e_irem (pc' := 567) X dL_stepped_566 (by omega) (by omega) (by omega) rfl ?_
                          refine e_iconst (pc' := 568) X dL_stepped_567 rfl ?_
                          refine e_iload_n (pc' := 569) X 1 dL_stepped_568 rfl rfl rfl ?_
                          refine e_bipush (pc' := 571) X dL_stepped_569 rfl rfl ?_
                          refine e_idiv (pc' := 572) X dL_stepped_571 (by omega) (by omega) (by omega) rfl ?_
                          refine e_iconst (pc' := 573) X dL_stepped_572 rfl ?_
                          refine e_irem (pc' := 574) X dL_stepped_573 (by omega) (by omega) (by omega) rfl ?_
                          refine e_iadd (pc' := 575) X dL_stepped_574 rfl ?_
                          refine s_calli (as3 ha1 ha2 ha3) hGB (pc' := 578) (st := []) (e_runSH X (fun q h => Or.inl h) hLy (c_L_tryShave l G M15 hfl N P (T + 1) qM15.ck (by have := qM15.t; omega) n2 c2 qM15.nxe qM15.nx14 qM15.cte qM15.ct14 qM15.tr (x.tmod (N : Int)) (1 + ((x.tdiv 8).tmod 5)) (by first | omega | assumption | decide) (by first | omega | assumption | decide)) cf_L_tryShave gw_804 rfl rfl ⟨Nat.le_of_ble_eq_true rfl, Nat.le_of_ble_eq_true rfl⟩ rfl rfl (Nat.le_of_ble_eq_true rfl) ⟨by show _ ≤ 840; omega, by show _ ≤ 5040; omega⟩ gw_803 dL_stepped_575) rfl (fun z575 M17 h575 => ?_)
                          rcases h575 with h575 | h575 | h575
                          rotate_left 1
                          · exfalso
                            have hd := h575.2.1; clear h575; omega
                          · exfalso
                            have hd := h575.2.1; clear h575; omega
                          obtain ⟨hi4, hzs, hs0, hmo, hbx, htr4, hnt4⟩ := h575
                          have hny24 := lo2.nx14
                          rw [e0M15, e19M15] at hzs hs0
                          rw [e19M15] at htr4
                          have lo4 : Lo N P L ((n2 + 1) % 14) (min (c2 + 1) 14) (T + 1) M17 := Lo.noted qM15 hnt4 hmo hbx (by rw [e19M15]; exact htr4) lo2.t
                          obtain ⟨hw4, hz4, hb4⟩ := shv2 (show (x.tmod N).toNat < N by omega) hzs hs0
                          have h419 : M17 19 = M12 19 := (hnt4.2.2.2 19 (by decide) (by decide) (by omega) (by decide) (by decide) (by decide) (by decide) (by decide) (by decide)).trans e19M15
                          have td4 : Told N (M17 19) (M17 0) d := by rw [h419]; exact td3.same (fun b hb => hb4 b (by omega) (by omega))
                          have hex4 : M17 0 0 9 ≠ 0 ∧ expl N (M17 19) (M17 0) d ∧ -(M17 0 0 11) ≤ d ∧ d ≤ M17 0 0 11 := ⟨td4.1, td4.expl lo4.tr.1, td4.2.1⟩
                          have hw8 := wid_bd lo4.ck.2.2
                          have hw9 := wid_bd lo2.ck.2.2
                          have hn24 := lo2.nx14
                          obtain ⟨n3, hn3⟩ : ∃ q, q = (n2 + 1) % 14 := ⟨_, rfl⟩
                          obtain ⟨c3, hc3⟩ : ∃ q, q = min (c2 + 1) 14 := ⟨_, rfl⟩
                          rw [← hn3, ← hc3] at lo4
                          have hk41 : M17 (5 + n2) = M12 0 := hnt4.1.trans e0M15
                          have hk42 : M17 (5 + n1) = Mr 0 := (hnt4.at (by omega) (by omega)).trans ((sM15.at (by omega)).trans hk1)
                          have hk43 : M17 (5 + nx) = M 0 := (hnt4.at (by omega) (by omega)).trans ((sM15.at (by omega)).trans hk2)
                          have hF4 := (hF3.scr sM15).noted hnt4 hn24
                          have hcc := hS.2.2.2.1
                          refine e_istore (pc' := 580) (lc' := [(0, vR G (28, 0)), (1, vI x), (2, vI (N : Int)), (3, vI (M 0 0 8)), (4, vI u), (5, vI d), (6, (Value.ref a1)), (7, (Value.ref a2)), (8, (Value.ref a3)), (9, vI (wid N (M 0 2) (M 0 3))), (10, vI z181), (11, vI (M 0 0 9)), (12, vI 1), (13, vI sl), (14, vI (wid N (M12 0 2) (M12 0 3))), (15, vI z575)]) X [1, 2, 3, 4, 5, 6, 7, 8, 9, 10, 11, 12, 13, 14, 15, 0] dL_stepped_578 (by decide) rfl rfl ?_
                          refine e_iload (pc' := 582) X 12 dL_stepped_580 rfl rfl ?_
                          refine e_if_eq (pc' := 585) (tgt := 622) X dL_stepped_582 rfl rfl (by omega) (fun h582 => absurd h582 (by decide)) (fun h582 => ?_)
                          refine e_iload (pc' := 587) X 15 dL_stepped_585 rfl rfl ?_
                          refine e_if_lt (pc' := 590) (tgt := 622) X dL_stepped_587 rfl rfl (by omega) (fun h587 => by exfalso; omega) (fun h587 => ?_)
                          refine e_aload_n (pc' := 591) X 0 dL_stepped_590 rfl rfl rfl ?_
                          refine s_calli (as3 ha1 ha2 ha3) hGB (pc' := 594) (st := []) (e_runV X (fun q h => Or.inl h) hLy (c_X8_width l G M17 N P (T + 1) lo4.ck (by have := lo4.t; omega)) cf_X8_width k28_0 rfl gw_369 gw_370 rfl rfl ⟨Nat.le_of_ble_eq_true rfl, Nat.le_of_ble_eq_true rfl⟩ rfl rfl (Nat.le_of_ble_eq_true rfl) ⟨by show _ ≤ 840; omega, by show _ ≤ 5040; omega⟩ gw_368 dL_stepped_591) rfl (fun z591 M18 h591 => ?_)
                          obtain ⟨hv591, hm591⟩ := h591
                          obtain rfl := hm591.symm
                          refine e_eqI (z' := wid N (M17 0 2) (M17 0 3)) hv591 ?_
                          refine e_iload (pc' := 596) X 14 dL_stepped_594 rfl rfl ?_
                          refine e_iload (pc' := 598) X 15 dL_stepped_596 rfl rfl ?_
                          refine e_isub (pc' := 599) X dL_stepped_598 rfl ?_
                          refine e_icmp_neE (pc' := 602) (tgt := 622) X dL_stepped_599 rfl rfl hw4 ?_
                          refine e_aload_n (pc' := 603) X 0 dL_stepped_602 rfl rfl rfl ?_
                          refine s_calli (as3 ha1 ha2 ha3) hGB (pc' := 606) (st := []) (e_runS X (fun q h => Or.inl h) hLy (c_L_contained l G M17 hfl N P L n3 c3 (T + 1) lo4) cf_L_contained gw_974 rfl rfl ⟨Nat.le_of_ble_eq_true rfl, Nat.le_of_ble_eq_true rfl⟩ rfl rfl (Nat.le_of_ble_eq_true rfl) ⟨by show _ ≤ 840; omega, by show _ ≤ 5040; omega⟩ gw_973 dL_stepped_603) rfl (fun z603 M19 h603 => ?_)
                          obtain ⟨hv603, hs603⟩ := h603
                          have sM19 : ScrEq M17 M19 := hs603
                          have qM19 := lo4.scr sM19
                          have e0M19 : M19 0 = M17 0 := sM19.z0
                          have e19M19 : M19 19 = M17 19 := sM19.z19
                          refine e_eqI (z' := 1) hv603 ?_
                          refine e_if_eq (pc' := 609) (tgt := 622) X dL_stepped_606 rfl rfl (by omega) (fun h606 => absurd h606 (by decide)) (fun h606 => ?_)
                          refine e_aload_n (pc' := 610) X 0 dL_stepped_609 rfl rfl rfl ?_
                          refine e_iload (pc' := 612) X 5 dL_stepped_610 rfl rfl ?_
                          refine s_calli (as3 ha1 ha2 ha3) hGB (pc' := 615) (st := []) (e_runS X (fun q h => Or.inl h) hLy (c_L_bounded l G M19 hfl N P L n3 c3 (T + 1) qM19 d (by first | omega | assumption | decide) (by rw [e0M19, e19M19]; exact hex4)) cf_L_bounded gw_1007 rfl rfl ⟨Nat.le_of_ble_eq_true rfl, Nat.le_of_ble_eq_true rfl⟩ rfl rfl (Nat.le_of_ble_eq_true rfl) ⟨by show _ ≤ 840; omega, by show _ ≤ 5040; omega⟩ gw_1006 dL_stepped_612) rfl (fun z612 M20 h612 => ?_)
                          obtain ⟨hv612, hm612⟩ := h612
                          obtain rfl := hm612.symm
                          refine e_eqI (z' := 1) hv612 ?_
                          refine e_if_eq (pc' := 618) (tgt := 622) X dL_stepped_615 rfl rfl (by omega) (fun h615 => absurd h615 (by decide)) (fun h615 => ?_)
                          refine e_iconst (pc' := 619) X dL_stepped_618 rfl ?_
                          refine e_goto (tgt := 623) X dL_stepped_619 rfl ?_
                          refine e_istore (pc' := 625) (lc' := [(0, vR G (28, 0)), (1, vI x), (2, vI (N : Int)), (3, vI (M 0 0 8)), (4, vI u), (5, vI d), (6, (Value.ref a1)), (7, (Value.ref a2)), (8, (Value.ref a3)), (9, vI (wid N (M 0 2) (M 0 3))), (10, vI z181), (11, vI (M 0 0 9)), (12, vI 1), (13, vI sl), (14, vI (wid N (M12 0 2) (M12 0 3))), (15, vI z575)]) X [1, 2, 3, 4, 5, 6, 7, 8, 9, 10, 11, 12, 0, 13, 14, 15] dL_stepped_623 (by decide) rfl rfl ?_
                          refine e_iconst (pc' := 626) X dL_stepped_625 rfl ?_
                          refine e_istore (pc' := 628) (lc' := [(0, vR G (28, 0)), (1, vI x), (2, vI (N : Int)), (3, vI (M 0 0 8)), (4, vI u), (5, vI d), (6, (Value.ref a1)), (7, (Value.ref a2)), (8, (Value.ref a3)), (9, vI (wid N (M 0 2) (M 0 3))), (10, vI z181), (11, vI (M 0 0 9)), (12, vI 1), (13, vI sl), (14, vI (wid N (M12 0 2) (M12 0 3))), (15, vI z575), (16, vI 0)]) X [1, 2, 3, 4, 5, 6, 7, 8, 9, 10, 11, 12, 13, 14, 15, 16, 0] dL_stepped_626 (by decide) rfl rfl ?_
                          refine e_iload (pc' := 630) X 16 dL_stepped_628 rfl rfl ?_
                          refine e_iconst (pc' := 631) X dL_stepped_630 rfl ?_
                          refine e_icmp_ge (pc' := 634) (tgt := 659) X dL_stepped_631 rfl rfl (by omega) (by omega) (fun h631 => absurd h631 (by decide)) (fun h631 => ?_)
                          refine e_iload (pc' := 636) X 12 dL_stepped_634 rfl rfl ?_
                          refine e_if_eq (pc' := 639) (tgt := 650) X dL_stepped_636 rfl rfl (by omega) (fun h636 => absurd h636 (by decide)) (fun h636 => ?_)
                          refine e_aload_n (pc' := 640) X 0 dL_stepped_639 rfl rfl rfl ?_
                          refine s_calli (as3 ha1 ha2 ha3) hGB (pc' := 643) (st := []) (e_runSH X (fun q h => Or.inl h) hLy (c_L_tryUndo l G M19 hfl N P (T + 1) qM19.ck (by have := qM19.t; omega) n3 c3 qM19.nxe qM19.nx14 qM19.cte qM19.ct14) cf_L_tryUndo gw_505 rfl rfl ⟨Nat.le_of_ble_eq_true rfl, Nat.le_of_ble_eq_true rfl⟩ rfl rfl (Nat.le_of_ble_eq_true rfl) ⟨by show _ ≤ 840; omega, by show _ ≤ 5040; omega⟩ gw_504 dL_stepped_640) rfl (fun z640 M21 h640 => ?_)
                          rcases h640 with h640 | h640
                          rotate_left 1
                          · exfalso
                            have hd := h640.2.1; clear h640; omega
                          obtain ⟨uz, u0, u1, u2, u3⟩ := undo_at h640 hn3 hn24
                          have lo5 : Lo N P L n2 (c3 - 1) (T + 1) M21 := Lo.undo qM19 lo2 (u0.trans ((sM19.at (by omega)).trans hk41)) (e19M19.trans h419).symm u1 hn24 u2 (by omega) u3
                          have hk51 : M21 (5 + n1) = Mr 0 := (u3 _ (by omega) (by omega)).trans ((sM19.at (by omega)).trans hk42)
                          have hk52 : M21 (5 + nx) = M 0 := (u3 _ (by omega) (by omega)).trans ((sM19.at (by omega)).trans hk43)
                          have hF5 := (hF4.scr sM19).undo u3
                          refine e_if_lt (pc' := 646) (tgt := 650) X dL_stepped_643 rfl rfl (by omega) (fun h643 => by exfalso; omega) (fun h643 => ?_)
                          refine e_iconst (pc' := 647) X dL_stepped_646 rfl ?_
                          refine e_goto (tgt := 651) X dL_stepped_647 rfl ?_
                          refine e_istore (pc' := 653) (lc' := [(0, vR G (28, 0)), (1, vI x), (2, vI (N : Int)), (3, vI (M 0 0 8)), (4, vI u), (5, vI d), (6, (Value.ref a1)), (7, (Value.ref a2)), (8, (Value.ref a3)), (9, vI (wid N (M 0 2) (M 0 3))), (10, vI z181), (11, vI (M 0 0 9)), (12, vI 1), (13, vI sl), (14, vI (wid N (M12 0 2) (M12 0 3))), (15, vI z575), (16, vI 0)]) X [1, 2, 3, 4, 5, 6, 7, 8, 9, 10, 11, 12, 0, 13, 14, 15, 16] dL_stepped_651 (by decide) rfl rfl ?_
                          refine e_iinc (pc' := 656) (z' := 1) (lc' := [(0, vR G (28, 0)), (1, vI x), (2, vI (N : Int)), (3, vI (M 0 0 8)), (4, vI u), (5, vI d), (6, (Value.ref a1)), (7, (Value.ref a2)), (8, (Value.ref a3)), (9, vI (wid N (M 0 2) (M 0 3))), (10, vI z181), (11, vI (M 0 0 9)), (12, vI 1), (13, vI sl), (14, vI (wid N (M12 0 2) (M12 0 3))), (15, vI z575), (16, vI 1)]) X 16 [1, 2, 3, 4, 5, 6, 7, 8, 9, 10, 11, 12, 13, 14, 15, 16, 0] dL_stepped_653 rfl (by decide) (by decide) rfl rfl ?_
                          refine e_goto (tgt := 628) X dL_stepped_656 rfl ?_
                          refine e_iload (pc' := 630) X 16 dL_stepped_628 rfl rfl ?_
                          refine e_iconst (pc' := 631) X dL_stepped_630 rfl ?_
                          refine e_icmp_ge (pc' := 634) (tgt := 659) X dL_stepped_631 rfl rfl (by omega) (by omega) (fun h631 => absurd h631 (by decide)) (fun h631 => ?_)
                          refine e_iload (pc' := 636) X 12 dL_stepped_634 rfl rfl ?_
                          refine e_if_eq (pc' := 639) (tgt := 650) X dL_stepped_636 rfl rfl (by omega) (fun h636 => absurd h636 (by decide)) (fun h636 => ?_)
                          refine e_aload_n (pc' := 640) X 0 dL_stepped_639 rfl rfl rfl ?_
                          refine s_calli (as3 ha1 ha2 ha3) hGB (pc' := 643) (st := []) (e_runSH X (fun q h => Or.inl h) hLy (c_L_tryUndo l G M21 hfl N P (T + 1) lo5.ck (by have := lo5.t; omega) n2 (c3 - 1) lo5.nxe lo5.nx14 lo5.cte lo5.ct14) cf_L_tryUndo gw_505 rfl rfl ⟨Nat.le_of_ble_eq_true rfl, Nat.le_of_ble_eq_true rfl⟩ rfl rfl (Nat.le_of_ble_eq_true rfl) ⟨by show _ ≤ 840; omega, by show _ ≤ 5040; omega⟩ gw_504 dL_stepped_640) rfl (fun z640 M22 h640 => ?_)
                          rcases h640 with h640 | h640
                          rotate_left 1
                          · exfalso
                            have hd := h640.2.1; clear h640; omega
                          obtain ⟨uz, u0, u1, u2, u3⟩ := undo_at h640 hn2 hn14
                          have lo6 : Lo N P L n1 (c3 - 1 - 1) (T + 1) M22 := Lo.undo lo5 loK (u0.trans hk51) (hK19.trans (hF5 19 (by decide) (by decide) (by omega) (by decide) (by decide) (by decide) (by decide) (by decide) (by decide)).symm) u1 hn14 u2 (by omega) u3
                          have hk62 : M22 (5 + nx) = M 0 := (u3 _ (by omega) (by omega)).trans hk52
                          have hF6 := hF5.undo u3
                          refine e_if_lt (pc' := 646) (tgt := 650) X dL_stepped_643 rfl rfl (by omega) (fun h643 => by exfalso; omega) (fun h643 => ?_)
                          refine e_iconst (pc' := 647) X dL_stepped_646 rfl ?_
                          refine e_goto (tgt := 651) X dL_stepped_647 rfl ?_
                          refine e_istore (pc' := 653) (lc' := [(0, vR G (28, 0)), (1, vI x), (2, vI (N : Int)), (3, vI (M 0 0 8)), (4, vI u), (5, vI d), (6, (Value.ref a1)), (7, (Value.ref a2)), (8, (Value.ref a3)), (9, vI (wid N (M 0 2) (M 0 3))), (10, vI z181), (11, vI (M 0 0 9)), (12, vI 1), (13, vI sl), (14, vI (wid N (M12 0 2) (M12 0 3))), (15, vI z575), (16, vI 1)]) X [1, 2, 3, 4, 5, 6, 7, 8, 9, 10, 11, 12, 0, 13, 14, 15, 16] dL_stepped_651 (by decide) rfl rfl ?_
                          refine e_iinc (pc' := 656) (z' := 2) (lc' := [(0, vR G (28, 0)), (1, vI x), (2, vI (N : Int)), (3, vI (M 0 0 8)), (4, vI u), (5, vI d), (6, (Value.ref a1)), (7, (Value.ref a2)), (8, (Value.ref a3)), (9, vI (wid N (M 0 2) (M 0 3))), (10, vI z181), (11, vI (M 0 0 9)), (12, vI 1), (13, vI sl), (14, vI (wid N (M12 0 2) (M12 0 3))), (15, vI z575), (16, vI 2)]) X 16 [1, 2, 3, 4, 5, 6, 7, 8, 9, 10, 11, 12, 13, 14, 15, 16, 0] dL_stepped_653 rfl (by decide) (by decide) rfl rfl ?_
                          refine e_goto (tgt := 628) X dL_stepped_656 rfl ?_
                          refine e_iload (pc' := 630) X 16 dL_stepped_628 rfl rfl ?_
                          refine e_iconst (pc' := 631) X dL_stepped_630 rfl ?_
                          refine e_icmp_ge (pc' := 634) (tgt := 659) X dL_stepped_631 rfl rfl (by omega) (by omega) (fun h631 => absurd h631 (by decide)) (fun h631 => ?_)
                          refine e_iload (pc' := 636) X 12 dL_stepped_634 rfl rfl ?_
                          refine e_if_eq (pc' := 639) (tgt := 650) X dL_stepped_636 rfl rfl (by omega) (fun h636 => absurd h636 (by decide)) (fun h636 => ?_)
                          refine e_aload_n (pc' := 640) X 0 dL_stepped_639 rfl rfl rfl ?_
                          refine s_calli (as3 ha1 ha2 ha3) hGB (pc' := 643) (st := []) (e_runSH X (fun q h => Or.inl h) hLy (c_L_tryUndo l G M22 hfl N P (T + 1) lo6.ck (by have := lo6.t; omega) n1 (c3 - 1 - 1) lo6.nxe lo6.nx14 lo6.cte lo6.ct14) cf_L_tryUndo gw_505 rfl rfl ⟨Nat.le_of_ble_eq_true rfl, Nat.le_of_ble_eq_true rfl⟩ rfl rfl (Nat.le_of_ble_eq_true rfl) ⟨by show _ ≤ 840; omega, by show _ ≤ 5040; omega⟩ gw_504 dL_stepped_640) rfl (fun z640 M23 h640 => ?_)
                          rcases h640 with h640 | h640
                          rotate_left 1
                          · exfalso
                            have hd := h640.2.1; clear h640; omega
                          obtain ⟨uz, u0, u1, u2, u3⟩ := undo_at h640 hn1 hnx14
                          have h70 : M23 0 = M 0 := u0.trans hk62
                          have lo7 : Lo N P L nx (c3 - 1 - 1 - 1) (T + 1) M23 := Lo.undo lo6 (lo.up (by omega) (by omega)) h70 (hF6 19 (by decide) (by decide) (by omega) (by decide) (by decide) (by decide) (by decide) (by decide) (by decide)).symm u1 hnx14 u2 (by omega) u3
                          have hF7 := hF6.undo u3
                          refine e_if_lt (pc' := 646) (tgt := 650) X dL_stepped_643 rfl rfl (by omega) (fun h643 => by exfalso; omega) (fun h643 => ?_)
                          refine e_iconst (pc' := 647) X dL_stepped_646 rfl ?_
                          refine e_goto (tgt := 651) X dL_stepped_647 rfl ?_
                          refine e_istore (pc' := 653) (lc' := [(0, vR G (28, 0)), (1, vI x), (2, vI (N : Int)), (3, vI (M 0 0 8)), (4, vI u), (5, vI d), (6, (Value.ref a1)), (7, (Value.ref a2)), (8, (Value.ref a3)), (9, vI (wid N (M 0 2) (M 0 3))), (10, vI z181), (11, vI (M 0 0 9)), (12, vI 1), (13, vI sl), (14, vI (wid N (M12 0 2) (M12 0 3))), (15, vI z575), (16, vI 2)]) X [1, 2, 3, 4, 5, 6, 7, 8, 9, 10, 11, 12, 0, 13, 14, 15, 16] dL_stepped_651 (by decide) rfl rfl ?_
                          refine e_iinc (pc' := 656) (z' := 3) (lc' := [(0, vR G (28, 0)), (1, vI x), (2, vI (N : Int)), (3, vI (M 0 0 8)), (4, vI u), (5, vI d), (6, (Value.ref a1)), (7, (Value.ref a2)), (8, (Value.ref a3)), (9, vI (wid N (M 0 2) (M 0 3))), (10, vI z181), (11, vI (M 0 0 9)), (12, vI 1), (13, vI sl), (14, vI (wid N (M12 0 2) (M12 0 3))), (15, vI z575), (16, vI 3)]) X 16 [1, 2, 3, 4, 5, 6, 7, 8, 9, 10, 11, 12, 13, 14, 15, 16, 0] dL_stepped_653 rfl (by decide) (by decide) rfl rfl ?_
                          refine e_goto (tgt := 628) X dL_stepped_656 rfl ?_
                          refine e_iload (pc' := 630) X 16 dL_stepped_628 rfl rfl ?_
                          refine e_iconst (pc' := 631) X dL_stepped_630 rfl ?_
                          refine e_icmp_ge (pc' := 634) (tgt := 659) X dL_stepped_631 rfl rfl (by omega) (by omega) (fun h631 => ?_) (fun h631 => absurd h631 (by decide))
                          refine e_iload (pc' := 661) X 12 dL_stepped_659 rfl rfl ?_
                          refine e_if_eq (pc' := 664) (tgt := 687) X dL_stepped_661 rfl rfl (by omega) (fun h661 => absurd h661 (by decide)) (fun h661 => ?_)
                          refine e_aload_n (pc' := 665) X 0 dL_stepped_664 rfl rfl rfl ?_
                          refine s_calli (as3 ha1 ha2 ha3) hGB (pc' := 668) (st := []) (e_runV X (fun q h => Or.inl h) hLy (c_X8_width l G M23 N P (T + 1) lo7.ck (by have := lo7.t; omega)) cf_X8_width k28_0 rfl gw_369 gw_370 rfl rfl ⟨Nat.le_of_ble_eq_true rfl, Nat.le_of_ble_eq_true rfl⟩ rfl rfl (Nat.le_of_ble_eq_true rfl) ⟨by show _ ≤ 840; omega, by show _ ≤ 5040; omega⟩ gw_368 dL_stepped_665) rfl (fun z665 M24 h665 => ?_)
                          obtain ⟨hv665, hm665⟩ := h665
                          obtain rfl := hm665.symm
                          refine e_eqI (z' := wid N (M23 0 2) (M23 0 3)) hv665 ?_
                          refine e_iload (pc' := 670) X 9 dL_stepped_668 rfl rfl ?_
                          refine e_icmp_neE (pc' := 673) (tgt := 687) X dL_stepped_670 rfl rfl (by rw [h70]) ?_
                          refine e_aload_n (pc' := 674) X 0 dL_stepped_673 rfl rfl rfl ?_
                          refine e_iconst (pc' := 675) X dL_stepped_674 rfl ?_
                          refine s_calli (as3 ha1 ha2 ha3) hGB (pc' := 678) (st := []) (e_runSH X (fun q h => Or.inl h) hLy (c_L_tryAbout l G M23 hfl N P (T + 1) lo7.ck (by have := lo7.t; omega) 4 (by first | omega | assumption | decide)) cf_L_tryAbout gw_681 rfl rfl ⟨Nat.le_of_ble_eq_true rfl, Nat.le_of_ble_eq_true rfl⟩ rfl rfl (Nat.le_of_ble_eq_true rfl) ⟨by show _ ≤ 840; omega, by show _ ≤ 5040; omega⟩ gw_680 dL_stepped_675) rfl (fun z675 M25 h675 => ?_)
                          rcases h675 with h675 | h675
                          rotate_left 1
                          · exfalso
                            have hd := h675.2.1; clear h675; omega
                          obtain ⟨-, hv675, hm675⟩ := h675
                          obtain rfl := hm675.symm
                          refine e_eqI (z' := M23 0 0 9) hv675 ?_
                          refine e_iload (pc' := 680) X 11 dL_stepped_678 rfl rfl ?_
                          refine e_icmp_neE (pc' := 683) (tgt := 687) X dL_stepped_680 rfl rfl (by rw [h70]) ?_
                          refine e_iconst (pc' := 684) X dL_stepped_683 rfl ?_
                          refine e_goto (tgt := 688) X dL_stepped_684 rfl ?_
                          refine e_widen (k' := 840) (n' := 5040) (by omega) (by omega) ?_
                          refine s_zret X hr (by decide) dL_stepped_688 ?_
                          try dsimp only
                          exact ⟨rfl, hF7, nx, c3 - 1 - 1 - 1, lo7⟩
                        · refine e_iload (pc' := 442) X 12 dL_stepped_440 rfl rfl ?_
                          refine e_if_eq (pc' := 445) (tgt := 515) X dL_stepped_442 rfl rfl (by omega) (fun h442 => absurd h442 (by decide)) (fun h442 => ?_)
                          refine e_aload_n (pc' := 446) X 0 dL_stepped_445 rfl rfl rfl ?_
                          refine s_calli (as3 ha1 ha2 ha3) hGB (pc' := 449) (st := []) (e_runV X (fun q h => Or.inl h) hLy (c_X8_width l G Mr N P (T + 1) loK.ck (by have := loK.t; omega)) cf_X8_width k28_0 rfl gw_369 gw_370 rfl rfl ⟨Nat.le_of_ble_eq_true rfl, Nat.le_of_ble_eq_true rfl⟩ rfl rfl (Nat.le_of_ble_eq_true rfl) ⟨by show _ ≤ 840; omega, by show _ ≤ 5040; omega⟩ gw_368 dL_stepped_446) rfl (fun z446 M26 h446 => ?_)
                          obtain ⟨hv446, hm446⟩ := h446
                          obtain rfl := hm446.symm
                          refine e_eqI (z' := wid N (Mr 0 2) (Mr 0 3)) hv446 ?_
                          refine e_istore (pc' := 451) (lc' := [(0, vR G (28, 0)), (1, vI x), (2, vI (N : Int)), (3, vI (M 0 0 8)), (4, vI u), (5, vI d), (6, (Value.ref a1)), (7, (Value.ref a2)), (8, (Value.ref a3)), (9, vI (wid N (M 0 2) (M 0 3))), (10, vI z181), (11, vI (M 0 0 9)), (12, vI 1), (13, vI sl), (14, vI (kr : Int)), (15, vI (wid N (Mr 0 2) (Mr 0 3)))]) X [1, 2, 3, 4, 5, 6, 7, 8, 9, 10, 11, 12, 13, 14, 15, 0] dL_stepped_449 (by decide) rfl rfl ?_
                          refine e_aload_n (pc' := 452) X 0 dL_stepped_451 rfl rfl rfl ?_
                          refine e_iload (pc' := 454) X 14 dL_stepped_452 rfl rfl ?_
                          refine s_calli (as3 ha1 ha2 ha3) hGB (pc' := 457) (st := []) (e_runSH X (fun q h => Or.inl h) hLy (c_L_tryRead l G Mr hfl N P (T + 1) loK.ck (by have := loK.t; omega) n1 cc loK.nxe loK.nx14 loK.cte loK.ct14 loK.t.1 (kr : Int) (by first | omega | assumption | decide)) cf_L_tryRead gw_776 rfl rfl ⟨Nat.le_of_ble_eq_true rfl, Nat.le_of_ble_eq_true rfl⟩ rfl rfl (Nat.le_of_ble_eq_true rfl) ⟨by show _ ≤ 840; omega, by show _ ≤ 5040; omega⟩ gw_775 dL_stepped_454) rfl (fun z454 M27 h454 => ?_)
                          rcases h454 with h454 | h454
                          rotate_left 1
                          · exfalso
                            have hd := h454.2.1; clear h454; omega
                          obtain ⟨-, ho, hz454, hnt⟩ := h454
                          have hny14 := loK.nx14
                          have hob := obs_ok loK.ck.1 loK.ck.2.1 loK.t.1 loK.ck.2.2 loK.tr (K := kr) (by omega)
                          have lo2 : Lo N P L ((n1 + 1) % 14) (min (cc + 1) 14) (T + 1) M27 := loK.noted hnt (by rw [ho]; exact hob.1) (by rw [ho]; exact hob.2.1) (by rw [ho]; exact hob.2.2) loK.t
                          have hr19 : M27 19 = Mr 19 := hnt.2.2.2 19 (by decide) (by decide) (by omega) (by decide) (by decide) (by decide) (by decide) (by decide) (by decide)
                          have hor := obs_read (z := z454) (w := M27 0) loK.ck.1 lo2.ck.2.1 (by rw [← hr19]; exact lo2.tr) (K := kr) (by omega) ho hz454
                          rw [← hr19] at hor
                          obtain ⟨ho1, ho2, ho3, ho4, ho5, ho6, ho7⟩ := hor
                          have hw1 := wid_bd loK.ck.2.2
                          have hw2 := wid_bd lo2.ck.2.2
                          refine e_aload_n (pc' := 458) X 0 dL_stepped_457 rfl rfl rfl ?_
                          refine e_iload (pc' := 460) X 14 dL_stepped_458 rfl rfl ?_
                          refine e_iconst (pc' := 461) X dL_stepped_460 rfl ?_
                          refine s_calli (as3 ha1 ha2 ha3) hGB (pc' := 464) (st := [vI z454]) (e_runSH X (fun q h => Or.inl h) hLy (c_L_tryOutput l G M27 hfl N P (T + 1) lo2.ck (by have := lo2.t; omega) (kr : Int) 2 (by first | omega | assumption | decide) (by first | omega | assumption | decide)) cf_L_tryOutput gw_377 rfl rfl ⟨Nat.le_of_ble_eq_true rfl, Nat.le_of_ble_eq_true rfl⟩ rfl rfl (Nat.le_of_ble_eq_true rfl) ⟨by show _ ≤ 840; omega, by show _ ≤ 5040; omega⟩ gw_376 dL_stepped_461) rfl (fun z461 M28 h461 => ?_)
                          rcases h461 with h461 | h461 | h461 | h461
                          rotate_left 1
                          · exfalso
                            have hd := h461.2.1; clear h461; omega
                          · exfalso
                            have hd := h461.2.1; clear h461; omega
                          · exfalso
                            have hd := h461.2.1; clear h461; omega
                          obtain ⟨-, -, -, hv461, hm461⟩ := h461
                          obtain rfl := hm461.symm
                          refine e_eqI (z' := (ext N (M27 19 (9 + kr)) (M27 0 2) (M27 0 3) (-1) 0).fdiv (M27 19 12 kr)) hv461 ?_
                          refine e_icmp_lt (pc' := 467) (tgt := 506) X dL_stepped_464 rfl rfl (by omega) (by omega) (fun h464 => by exfalso; omega) (fun h464 => ?_)
                          refine e_aload_n (pc' := 468) X 0 dL_stepped_467 rfl rfl rfl ?_
                          refine e_iload (pc' := 470) X 14 dL_stepped_468 rfl rfl ?_
                          refine e_iconst (pc' := 471) X dL_stepped_470 rfl ?_
                          refine s_calli (as3 ha1 ha2 ha3) hGB (pc' := 474) (st := []) (e_runSH X (fun q h => Or.inl h) hLy (c_L_tryOutput l G M27 hfl N P (T + 1) lo2.ck (by have := lo2.t; omega) (kr : Int) 1 (by first | omega | assumption | decide) (by first | omega | assumption | decide)) cf_L_tryOutput gw_377 rfl rfl ⟨Nat.le_of_ble_eq_true rfl, Nat.le_of_ble_eq_true rfl⟩ rfl rfl (Nat.le_of_ble_eq_true rfl) ⟨by show _ ≤ 840; omega, by show _ ≤ 5040; omega⟩ gw_376 dL_stepped_471) rfl (fun z471 M29 h471 => ?_)
                          rcases h471 with h471 | h471 | h471 | h471
                          rotate_left 1
                          · exfalso
                            have hd := h471.2.1; clear h471; omega
                          · exfalso
                            have hd := h471.2.1; clear h471; omega
                          · exfalso
                            exact absurd (h471.2.1.2.2.2.symm.trans ho3) (by decide)
                          obtain ⟨-, -, -, hv471, hm471⟩ := h471
                          obtain rfl := hm471.symm
                          refine e_eqI (z' := M27 0 11 kr) hv471 ?_
                          refine e_if_ne (pc' := 477) (tgt := 506) X dL_stepped_474 rfl rfl (by omega) (fun h474 => by exfalso; omega) (fun h474 => ?_)
                          refine e_aload_n (pc' := 478) X 0 dL_stepped_477 rfl rfl rfl ?_
                          refine s_calli (as3 ha1 ha2 ha3) hGB (pc' := 481) (st := []) (e_runV X (fun q h => Or.inl h) hLy (c_X8_width l G M27 N P (T + 1) lo2.ck (by have := lo2.t; omega)) cf_X8_width k28_0 rfl gw_369 gw_370 rfl rfl ⟨Nat.le_of_ble_eq_true rfl, Nat.le_of_ble_eq_true rfl⟩ rfl rfl (Nat.le_of_ble_eq_true rfl) ⟨by show _ ≤ 840; omega, by show _ ≤ 5040; omega⟩ gw_368 dL_stepped_478) rfl (fun z478 M30 h478 => ?_)
                          obtain ⟨hv478, hm478⟩ := h478
                          obtain rfl := hm478.symm
                          refine e_eqI (z' := wid N (M27 0 2) (M27 0 3)) hv478 ?_
                          refine e_iload (pc' := 483) X 15 dL_stepped_481 rfl rfl ?_
                          refine e_icmp_gt (pc' := 486) (tgt := 506) X dL_stepped_483 rfl rfl (by omega) (by omega) (fun h483 => by exfalso; omega) (fun h483 => ?_)
                          refine e_aload_n (pc' := 487) X 0 dL_stepped_486 rfl rfl rfl ?_
                          refine s_calli (as3 ha1 ha2 ha3) hGB (pc' := 490) (st := []) (e_runSH X (fun q h => Or.inl h) hLy (c_L_tryUndo l G M27 hfl N P (T + 1) lo2.ck (by have := lo2.t; omega) ((n1 + 1) % 14) (min (cc + 1) 14) lo2.nxe lo2.nx14 lo2.cte lo2.ct14) cf_L_tryUndo gw_505 rfl rfl ⟨Nat.le_of_ble_eq_true rfl, Nat.le_of_ble_eq_true rfl⟩ rfl rfl (Nat.le_of_ble_eq_true rfl) ⟨by show _ ≤ 840; omega, by show _ ≤ 5040; omega⟩ gw_504 dL_stepped_487) rfl (fun z487 M31 h487 => ?_)
                          rcases h487 with h487 | h487
                          rotate_left 1
                          · exfalso
                            have hd := h487.2.1; clear h487; omega
                          obtain ⟨hSb, hz487, hm0⟩ := StI.back hS hn1 hnx14 hnt h487
                          have hz487b := h487.2.1
                          have lo3 := hSb.1
                          refine e_if_lt (pc' := 493) (tgt := 506) X dL_stepped_490 rfl rfl (by omega) (fun h490 => by exfalso; omega) (fun h490 => ?_)
                          refine e_aload_n (pc' := 494) X 0 dL_stepped_493 rfl rfl rfl ?_
                          refine s_calli (as3 ha1 ha2 ha3) hGB (pc' := 497) (st := []) (e_runV X (fun q h => Or.inl h) hLy (c_X8_width l G M31 N P (T + 1) lo3.ck (by have := lo3.t; omega)) cf_X8_width k28_0 rfl gw_369 gw_370 rfl rfl ⟨Nat.le_of_ble_eq_true rfl, Nat.le_of_ble_eq_true rfl⟩ rfl rfl (Nat.le_of_ble_eq_true rfl) ⟨by show _ ≤ 840; omega, by show _ ≤ 5040; omega⟩ gw_368 dL_stepped_494) rfl (fun z494 M32 h494 => ?_)
                          obtain ⟨hv494, hm494⟩ := h494
                          obtain rfl := hm494.symm
                          refine e_eqI (z' := wid N (M31 0 2) (M31 0 3)) hv494 ?_
                          refine e_iload (pc' := 499) X 15 dL_stepped_497 rfl rfl ?_
                          refine e_icmp_neE (pc' := 502) (tgt := 506) X dL_stepped_499 rfl rfl (by rw [hm0]) ?_
                          refine e_iconst (pc' := 503) X dL_stepped_502 rfl ?_
                          refine e_goto (tgt := 507) X dL_stepped_503 rfl ?_
                          refine e_istore (pc' := 509) (lc' := [(0, vR G (28, 0)), (1, vI x), (2, vI (N : Int)), (3, vI (M 0 0 8)), (4, vI u), (5, vI d), (6, (Value.ref a1)), (7, (Value.ref a2)), (8, (Value.ref a3)), (9, vI (wid N (M 0 2) (M 0 3))), (10, vI z181), (11, vI (M 0 0 9)), (12, vI 1), (13, vI sl), (14, vI (kr : Int)), (15, vI (wid N (Mr 0 2) (Mr 0 3)))]) X [1, 2, 3, 4, 5, 6, 7, 8, 9, 10, 11, 12, 0, 13, 14, 15] dL_stepped_507 (by decide) rfl rfl ?_
                          refine e_iinc (pc' := 512) (z' := ((kr + 1 : Nat) : Int)) (lc' := [(0, vR G (28, 0)), (1, vI x), (2, vI (N : Int)), (3, vI (M 0 0 8)), (4, vI u), (5, vI d), (6, (Value.ref a1)), (7, (Value.ref a2)), (8, (Value.ref a3)), (9, vI (wid N (M 0 2) (M 0 3))), (10, vI z181), (11, vI (M 0 0 9)), (12, vI 1), (13, vI sl), (14, vI ((kr + 1 : Nat) : Int)), (15, vI (wid N (Mr 0 2) (Mr 0 3)))]) X 14 [1, 2, 3, 4, 5, 6, 7, 8, 9, 10, 11, 12, 13, 14, 0, 15] dL_stepped_509 rfl (by omega) (by decide) rfl rfl ?_
                          refine e_goto (tgt := 430) X dL_stepped_512 rfl ?_
                          refine e_sub (lc' := [(0, vR G (28, 0)), (1, vI x), (2, vI (N : Int)), (3, vI (M 0 0 8)), (4, vI u), (5, vI d), (6, (Value.ref a1)), (7, (Value.ref a2)), (8, (Value.ref a3)), (9, vI (wid N (M 0 2) (M 0 3))), (10, vI z181), (11, vI (M 0 0 9)), (12, vI 1), (13, vI sl), (14, vI ((kr + 1 : Nat) : Int))]) [0, 1, 2, 3, 4, 5, 6, 7, 8, 9, 10, 11, 12, 13, 14] rfl ?_
                          refine e_widen (k' := 330 + 5 * (kr + 1)) (n' := 6 * (330 + 5 * (kr + 1))) (by omega) (by omega) ?_
                          exact ih430 (kr + 1) (min (cc + 1) 14 - 1) M31 (by omega) (by omega) hSb
                    refine e_widen (k' := 330 + 5 * 0) (n' := 6 * (330 + 5 * 0)) (by omega) (by omega) ?_
                    exact L430 ((P - 0) + 1) 0 c1 M10 (Nat.lt_succ_self _) (by omega) hS0
                  · refine e_iload (pc' := 299) X 12 dL_stepped_297 rfl rfl ?_
                    refine e_if_eq (pc' := 302) (tgt := 385) X dL_stepped_299 rfl rfl (by omega) (fun h299 => absurd h299 (by decide)) (fun h299 => ?_)
                    have hb1 := loS.box (i := ii) (by omega)
                    have f1 : fl ii = M6 0 2 ii := (hfL ii (by omega)).trans (hst0.2.1 ii (by omega)).2.2.1.symm
                    have f2 : fh ii = M6 0 3 ii := (hfH ii (by omega)).trans (hst0.2.1 ii (by omega)).2.2.2.symm
                    have f3 := hfG ii (by omega)
                    have f4 := hgb ii (by omega)
                    rw [← f3] at f4
                    have f5 := hEsS ii (by omega)
                    refine e_aload_n (pc' := 303) X 0 dL_stepped_302 rfl rfl rfl ?_
                    refine e_iload (pc' := 305) X 14 dL_stepped_303 rfl rfl ?_
                    refine e_iconst (pc' := 306) X dL_stepped_305 rfl ?_
                    refine s_calli (as3 ha1 ha2 ha3) hGB (pc' := 309) (st := []) (e_runSH X (fun q h => Or.inl h) hLy (c_L_tryState l G Mk hfl N P (T + 1) qMk.ck (by have := qMk.t; omega) (ii : Int) 1 (by first | omega | assumption | decide) (by first | omega | assumption | decide)) cf_L_tryState gw_689 rfl rfl ⟨Nat.le_of_ble_eq_true rfl, Nat.le_of_ble_eq_true rfl⟩ rfl rfl (Nat.le_of_ble_eq_true rfl) ⟨by show _ ≤ 840; omega, by show _ ≤ 5040; omega⟩ gw_688 dL_stepped_306) rfl (fun z306 M33 h306 => ?_)
                    rcases h306 with h306 | h306 | h306
                    rotate_left 1
                    · exfalso
                      have hd := h306.2.1; clear h306; omega
                    · exfalso
                      have hd := h306.2.1; clear h306; omega
                    obtain ⟨-, -, hv306, hm306⟩ := h306
                    obtain rfl := hm306.symm
                    simp only [e0Mk, e19Mk] at hv306
                    refine e_eqI (z' := M6 0 2 ii) hv306 ?_
                    refine e_aloadQ (pc' := 311) X 6 dL_stepped_309 rfl rfl ?_
                    refine e_iload (pc' := 313) X 14 dL_stepped_311 rfl rfl ?_
                    refine s_ald (a := a1) (i := ii) (f := fl) (pc' := 314) X mem_a (by omega) (by omega) dL_stepped_313 rfl ?_
                    refine e_icmp_ne (pc' := 317) (tgt := 376) X dL_stepped_314 rfl rfl (by omega) (by omega) (fun h314 => by exfalso; omega) (fun h314 => ?_)
                    refine e_aload_n (pc' := 318) X 0 dL_stepped_317 rfl rfl rfl ?_
                    refine e_iload (pc' := 320) X 14 dL_stepped_318 rfl rfl ?_
                    refine e_iconst (pc' := 321) X dL_stepped_320 rfl ?_
                    refine s_calli (as3 ha1 ha2 ha3) hGB (pc' := 324) (st := []) (e_runSH X (fun q h => Or.inl h) hLy (c_L_tryState l G Mk hfl N P (T + 1) qMk.ck (by have := qMk.t; omega) (ii : Int) 2 (by first | omega | assumption | decide) (by first | omega | assumption | decide)) cf_L_tryState gw_689 rfl rfl ⟨Nat.le_of_ble_eq_true rfl, Nat.le_of_ble_eq_true rfl⟩ rfl rfl (Nat.le_of_ble_eq_true rfl) ⟨by show _ ≤ 840; omega, by show _ ≤ 5040; omega⟩ gw_688 dL_stepped_321) rfl (fun z321 M34 h321 => ?_)
                    rcases h321 with h321 | h321 | h321
                    rotate_left 1
                    · exfalso
                      have hd := h321.2.1; clear h321; omega
                    · exfalso
                      have hd := h321.2.1; clear h321; omega
                    obtain ⟨-, -, hv321, hm321⟩ := h321
                    obtain rfl := hm321.symm
                    simp only [e0Mk, e19Mk] at hv321
                    refine e_eqI (z' := M6 0 3 ii) hv321 ?_
                    refine e_aloadQ (pc' := 326) X 7 dL_stepped_324 rfl rfl ?_
                    refine e_iload (pc' := 328) X 14 dL_stepped_326 rfl rfl ?_
                    refine s_ald (a := a2) (i := ii) (f := fh) (pc' := 329) X mem_b (by omega) (by omega) dL_stepped_328 rfl ?_
                    refine e_icmp_ne (pc' := 332) (tgt := 376) X dL_stepped_329 rfl rfl (by omega) (by omega) (fun h329 => by exfalso; omega) (fun h329 => ?_)
                    refine e_iload (pc' := 334) X 13 dL_stepped_332 rfl rfl ?_
                    refine e_if_eq (pc' := 337) (tgt := 372) X dL_stepped_334 rfl rfl (by omega) (fun h334 => ?_) (fun h334 => ?_)
                    · refine e_iconst (pc' := 373) X dL_stepped_372 rfl ?_
                      refine e_goto (tgt := 377) X dL_stepped_373 rfl ?_
                      refine e_istore (pc' := 379) (lc' := [(0, vR G (28, 0)), (1, vI x), (2, vI (N : Int)), (3, vI (M 0 0 8)), (4, vI u), (5, vI d), (6, (Value.ref a1)), (7, (Value.ref a2)), (8, (Value.ref a3)), (9, vI (wid N (M 0 2) (M 0 3))), (10, vI z181), (11, vI (M 0 0 9)), (12, vI 1), (13, vI sl), (14, vI (ii : Int))]) X [1, 2, 3, 4, 5, 6, 7, 8, 9, 10, 11, 12, 0, 13, 14] dL_stepped_377 (by decide) rfl rfl ?_
                      refine e_iinc (pc' := 382) (z' := ((ii + 1 : Nat) : Int)) (lc' := [(0, vR G (28, 0)), (1, vI x), (2, vI (N : Int)), (3, vI (M 0 0 8)), (4, vI u), (5, vI d), (6, (Value.ref a1)), (7, (Value.ref a2)), (8, (Value.ref a3)), (9, vI (wid N (M 0 2) (M 0 3))), (10, vI z181), (11, vI (M 0 0 9)), (12, vI 1), (13, vI sl), (14, vI ((ii + 1 : Nat) : Int))]) X 14 [1, 2, 3, 4, 5, 6, 7, 8, 9, 10, 11, 12, 13, 14, 0] dL_stepped_379 rfl (by omega) (by decide) rfl rfl ?_
                      refine e_goto (tgt := 291) X dL_stepped_382 rfl ?_
                      refine e_widen (k' := 74 + 3 * (ii + 1)) (n' := 6 * (74 + 3 * (ii + 1))) (by omega) (by omega) ?_
                      exact ih291 (ii + 1) (by omega) (by omega)
                    · refine e_aloadQ (pc' := 339) X 8 dL_stepped_337 rfl rfl ?_
                      refine e_iload (pc' := 341) X 14 dL_stepped_339 rfl rfl ?_
                      refine s_ald (a := a3) (i := ii) (f := fg) (pc' := 342) X mem_d (by omega) (by omega) dL_stepped_341 rfl ?_
                      refine e_ldc (pc' := 344) (z := 15000000) X gw_1004 dL_stepped_342 rfl rfl ?_
                      refine e_icmp_gt (pc' := 347) (tgt := 372) X dL_stepped_344 rfl rfl (by omega) (by omega) (fun h344 => ?_) (fun h344 => ?_)
                      · refine e_iconst (pc' := 373) X dL_stepped_372 rfl ?_
                        refine e_goto (tgt := 377) X dL_stepped_373 rfl ?_
                        refine e_istore (pc' := 379) (lc' := [(0, vR G (28, 0)), (1, vI x), (2, vI (N : Int)), (3, vI (M 0 0 8)), (4, vI u), (5, vI d), (6, (Value.ref a1)), (7, (Value.ref a2)), (8, (Value.ref a3)), (9, vI (wid N (M 0 2) (M 0 3))), (10, vI z181), (11, vI (M 0 0 9)), (12, vI 1), (13, vI sl), (14, vI (ii : Int))]) X [1, 2, 3, 4, 5, 6, 7, 8, 9, 10, 11, 12, 0, 13, 14] dL_stepped_377 (by decide) rfl rfl ?_
                        refine e_iinc (pc' := 382) (z' := ((ii + 1 : Nat) : Int)) (lc' := [(0, vR G (28, 0)), (1, vI x), (2, vI (N : Int)), (3, vI (M 0 0 8)), (4, vI u), (5, vI d), (6, (Value.ref a1)), (7, (Value.ref a2)), (8, (Value.ref a3)), (9, vI (wid N (M 0 2) (M 0 3))), (10, vI z181), (11, vI (M 0 0 9)), (12, vI 1), (13, vI sl), (14, vI ((ii + 1 : Nat) : Int))]) X 14 [1, 2, 3, 4, 5, 6, 7, 8, 9, 10, 11, 12, 13, 14, 0] dL_stepped_379 rfl (by omega) (by decide) rfl rfl ?_
                        refine e_goto (tgt := 291) X dL_stepped_382 rfl ?_
                        refine e_widen (k' := 74 + 3 * (ii + 1)) (n' := 6 * (74 + 3 * (ii + 1))) (by omega) (by omega) ?_
                        exact ih291 (ii + 1) (by omega) (by omega)
                      · refine e_aloadQ (pc' := 349) X 8 dL_stepped_347 rfl rfl ?_
                        refine e_iload (pc' := 351) X 14 dL_stepped_349 rfl rfl ?_
                        refine s_ald (a := a3) (i := ii) (f := fg) (pc' := 352) X mem_d (by omega) (by omega) dL_stepped_351 rfl ?_
                        refine e_ldc (pc' := 354) (z := (-15000000)) X gw_1005 dL_stepped_352 rfl rfl ?_
                        refine e_icmp_lt (pc' := 357) (tgt := 372) X dL_stepped_354 rfl rfl (by omega) (by omega) (fun h354 => ?_) (fun h354 => ?_)
                        · refine e_iconst (pc' := 373) X dL_stepped_372 rfl ?_
                          refine e_goto (tgt := 377) X dL_stepped_373 rfl ?_
                          refine e_istore (pc' := 379) (lc' := [(0, vR G (28, 0)), (1, vI x), (2, vI (N : Int)), (3, vI (M 0 0 8)), (4, vI u), (5, vI d), (6, (Value.ref a1)), (7, (Value.ref a2)), (8, (Value.ref a3)), (9, vI (wid N (M 0 2) (M 0 3))), (10, vI z181), (11, vI (M 0 0 9)), (12, vI 1), (13, vI sl), (14, vI (ii : Int))]) X [1, 2, 3, 4, 5, 6, 7, 8, 9, 10, 11, 12, 0, 13, 14] dL_stepped_377 (by decide) rfl rfl ?_
                          refine e_iinc (pc' := 382) (z' := ((ii + 1 : Nat) : Int)) (lc' := [(0, vR G (28, 0)), (1, vI x), (2, vI (N : Int)), (3, vI (M 0 0 8)), (4, vI u), (5, vI d), (6, (Value.ref a1)), (7, (Value.ref a2)), (8, (Value.ref a3)), (9, vI (wid N (M 0 2) (M 0 3))), (10, vI z181), (11, vI (M 0 0 9)), (12, vI 1), (13, vI sl), (14, vI ((ii + 1 : Nat) : Int))]) X 14 [1, 2, 3, 4, 5, 6, 7, 8, 9, 10, 11, 12, 13, 14, 0] dL_stepped_379 rfl (by omega) (by decide) rfl rfl ?_
                          refine e_goto (tgt := 291) X dL_stepped_382 rfl ?_
                          refine e_widen (k' := 74 + 3 * (ii + 1)) (n' := 6 * (74 + 3 * (ii + 1))) (by omega) (by omega) ?_
                          exact ih291 (ii + 1) (by omega) (by omega)
                        · have f6 : M6 0 4 ii = fg ii := by
                            rw [hst0.2.2.1 ii (by omega), est_silent (fun y hy => Or.inr (hsil (by omega) y hy))]
                            have f7 : lim (gsF N (M 19) (M 0) u ii) 16000000 = gsF N (M 19) (M 0) u ii := lim_in (by omega)
                            exact f7.trans f3.symm
                          refine e_aload_n (pc' := 358) X 0 dL_stepped_357 rfl rfl rfl ?_
                          refine e_iload (pc' := 360) X 14 dL_stepped_358 rfl rfl ?_
                          refine e_iconst (pc' := 361) X dL_stepped_360 rfl ?_
                          refine s_calli (as3 ha1 ha2 ha3) hGB (pc' := 364) (st := []) (e_runSH X (fun q h => Or.inl h) hLy (c_L_tryState l G Mk hfl N P (T + 1) qMk.ck (by have := qMk.t; omega) (ii : Int) 3 (by first | omega | assumption | decide) (by first | omega | assumption | decide)) cf_L_tryState gw_689 rfl rfl ⟨Nat.le_of_ble_eq_true rfl, Nat.le_of_ble_eq_true rfl⟩ rfl rfl (Nat.le_of_ble_eq_true rfl) ⟨by show _ ≤ 840; omega, by show _ ≤ 5040; omega⟩ gw_688 dL_stepped_361) rfl (fun z361 M35 h361 => ?_)
                          rcases h361 with h361 | h361 | h361
                          rotate_left 1
                          · exfalso
                            have hd := h361.2.1; clear h361; omega
                          · exfalso
                            have hd := h361.2.1; clear h361; omega
                          obtain ⟨-, -, hv361, hm361⟩ := h361
                          obtain rfl := hm361.symm
                          simp only [e0Mk, e19Mk] at hv361
                          refine e_eqI (z' := M6 0 4 ii) hv361 ?_
                          refine e_aloadQ (pc' := 366) X 8 dL_stepped_364 rfl rfl ?_
                          refine e_iload (pc' := 368) X 14 dL_stepped_366 rfl rfl ?_
                          refine s_ald (a := a3) (i := ii) (f := fg) (pc' := 369) X mem_d (by omega) (by omega) dL_stepped_368 rfl ?_
                          refine e_icmp_ne (pc' := 372) (tgt := 376) X dL_stepped_369 rfl rfl (by omega) (by omega) (fun h369 => by exfalso; omega) (fun h369 => ?_)
                          refine e_iconst (pc' := 373) X dL_stepped_372 rfl ?_
                          refine e_goto (tgt := 377) X dL_stepped_373 rfl ?_
                          refine e_istore (pc' := 379) (lc' := [(0, vR G (28, 0)), (1, vI x), (2, vI (N : Int)), (3, vI (M 0 0 8)), (4, vI u), (5, vI d), (6, (Value.ref a1)), (7, (Value.ref a2)), (8, (Value.ref a3)), (9, vI (wid N (M 0 2) (M 0 3))), (10, vI z181), (11, vI (M 0 0 9)), (12, vI 1), (13, vI sl), (14, vI (ii : Int))]) X [1, 2, 3, 4, 5, 6, 7, 8, 9, 10, 11, 12, 0, 13, 14] dL_stepped_377 (by decide) rfl rfl ?_
                          refine e_iinc (pc' := 382) (z' := ((ii + 1 : Nat) : Int)) (lc' := [(0, vR G (28, 0)), (1, vI x), (2, vI (N : Int)), (3, vI (M 0 0 8)), (4, vI u), (5, vI d), (6, (Value.ref a1)), (7, (Value.ref a2)), (8, (Value.ref a3)), (9, vI (wid N (M 0 2) (M 0 3))), (10, vI z181), (11, vI (M 0 0 9)), (12, vI 1), (13, vI sl), (14, vI ((ii + 1 : Nat) : Int))]) X 14 [1, 2, 3, 4, 5, 6, 7, 8, 9, 10, 11, 12, 13, 14, 0] dL_stepped_379 rfl (by omega) (by decide) rfl rfl ?_
                          refine e_goto (tgt := 291) X dL_stepped_382 rfl ?_
                          refine e_widen (k' := 74 + 3 * (ii + 1)) (n' := 6 * (74 + 3 * (ii + 1))) (by omega) (by omega) ?_
                          exact ih291 (ii + 1) (by omega) (by omega)
              refine e_widen (k' := 74 + 3 * 0) (n' := 6 * (74 + 3 * 0)) (by omega) (by omega) ?_
              exact L291 ((N - 0) + 1) 0 (Nat.lt_succ_self _) (by omega)
            · have J258 : ∀ (sv : Int) (Mj : wM), (sv = 0 ∨ sv = 1) → (sv = 1 → ∀ y, y < kk + 1 → M6 0 11 y ≠ -1 ∧ M6 0 0 7 < M6 0 11 y - 1) → (ScrEq M6 Mj) → eV p l e (wrm 9 840 5040) s m args below meth c (sA G B) (aF G s [(a3, fg), (a2, fh), (a1, fl)] Mj) 17 (63 + 4 * kk) (6 * (63 + 4 * kk)) (MQ below (sQi G B (fun z M1 => z = 1 ∧ Fr M M1 ∧ ∃ nq cq : Nat, Lo N P L nq cq (T + 1) M1)) args s 840 5040 (sA G B)) 258 [(0, vR G (28, 0)), (1, vI x), (2, vI (N : Int)), (3, vI (M 0 0 8)), (4, vI u), (5, vI d), (6, (Value.ref a1)), (7, (Value.ref a2)), (8, (Value.ref a3)), (9, vI (wid N (M 0 2) (M 0 3))), (10, vI z181), (11, vI (M 0 0 9)), (12, vI 1), (13, vI sl), (14, vI (kk : Int))] [vI sv] := by
                intro sv Mj hsv hsv1 sMj
                have qMj := loS.scr sMj
                have e0Mj := sMj.z0
                have e19Mj := sMj.z19
                refine e_istore (pc' := 260) (lc' := [(0, vR G (28, 0)), (1, vI x), (2, vI (N : Int)), (3, vI (M 0 0 8)), (4, vI u), (5, vI d), (6, (Value.ref a1)), (7, (Value.ref a2)), (8, (Value.ref a3)), (9, vI (wid N (M 0 2) (M 0 3))), (10, vI z181), (11, vI (M 0 0 9)), (12, vI 1), (13, vI sv), (14, vI (kk : Int))]) X [1, 2, 3, 4, 5, 6, 7, 8, 9, 10, 11, 12, 13, 0, 14] dL_stepped_258 (by decide) rfl rfl ?_
                refine e_iload (pc' := 262) X 12 dL_stepped_260 rfl rfl ?_
                refine e_if_eq (pc' := 265) (tgt := 279) X dL_stepped_262 rfl rfl (by omega) (fun h262 => absurd h262 (by decide)) (fun h262 => ?_)
                refine e_aload_n (pc' := 266) X 0 dL_stepped_265 rfl rfl rfl ?_
                refine e_iload (pc' := 268) X 14 dL_stepped_266 rfl rfl ?_
                refine e_iconst (pc' := 269) X dL_stepped_268 rfl ?_
                refine s_calli (as3 ha1 ha2 ha3) hGB (pc' := 272) (st := []) (e_runSH X (fun q h => Or.inl h) hLy (c_L_tryOutput l G Mj hfl N P (T + 1) qMj.ck (by have := qMj.t; omega) (kk : Int) 1 (by first | omega | assumption | decide) (by first | omega | assumption | decide)) cf_L_tryOutput gw_377 rfl rfl ⟨Nat.le_of_ble_eq_true rfl, Nat.le_of_ble_eq_true rfl⟩ rfl rfl (Nat.le_of_ble_eq_true rfl) ⟨by show _ ≤ 840; omega, by show _ ≤ 5040; omega⟩ gw_376 dL_stepped_269) rfl (fun z269 M36 h269 => ?_)
                have hb269 : ScrEq Mj M36 ∧ ((z269 = M6 0 11 kk ∧ M6 0 11 kk ≠ -1) ∨ (z269 = -1003 ∧ M6 0 11 kk = -1)) := by
                  rcases h269 with q | q | q | q
                  · obtain ⟨-, -, q3, q4, q5⟩ := q
                    rw [e0Mj] at q3 q4
                    rw [q5]
                    exact ⟨ScrEq.rfl, Or.inl ⟨q4, fun w => q3 ⟨by decide, w⟩⟩⟩
                  · exfalso; have hd := q.2.1; clear q; omega
                  · exfalso; have hd := q.2.1; clear q; omega
                  · have q4 := q.2.1.2.2.2
                    rw [e0Mj] at q4
                    exact ⟨q.2.2, Or.inr ⟨q.1, q4⟩⟩
                have hs269 := hb269.1
                have sM36 : ScrEq M6 M36 := sMj.trans (hs269)
                have qM36 := loS.scr sM36
                have e0M36 : M36 0 = M6 0 := sM36.z0
                have e19M36 : M36 19 = M6 19 := sM36.z19
                have hv269 := hb269.2
                have hA1 := hA11 kk (by omega)
                have hTT := loS.t
                have hag := hage kk (by omega)
                refine e_if_eq (pc' := 275) (tgt := 279) X dL_stepped_272 rfl rfl (by omega) (fun h272 => by exfalso; omega) (fun h272 => ?_)
                refine e_iconst (pc' := 276) X dL_stepped_275 rfl ?_
                refine e_goto (tgt := 280) X dL_stepped_276 rfl ?_
                refine e_istore (pc' := 282) (lc' := [(0, vR G (28, 0)), (1, vI x), (2, vI (N : Int)), (3, vI (M 0 0 8)), (4, vI u), (5, vI d), (6, (Value.ref a1)), (7, (Value.ref a2)), (8, (Value.ref a3)), (9, vI (wid N (M 0 2) (M 0 3))), (10, vI z181), (11, vI (M 0 0 9)), (12, vI 1), (13, vI sv), (14, vI (kk : Int))]) X [1, 2, 3, 4, 5, 6, 7, 8, 9, 10, 11, 12, 0, 13, 14] dL_stepped_280 (by decide) rfl rfl ?_
                refine e_iinc (pc' := 285) (z' := ((kk + 1 : Nat) : Int)) (lc' := [(0, vR G (28, 0)), (1, vI x), (2, vI (N : Int)), (3, vI (M 0 0 8)), (4, vI u), (5, vI d), (6, (Value.ref a1)), (7, (Value.ref a2)), (8, (Value.ref a3)), (9, vI (wid N (M 0 2) (M 0 3))), (10, vI z181), (11, vI (M 0 0 9)), (12, vI 1), (13, vI sv), (14, vI ((kk + 1 : Nat) : Int))]) X 14 [1, 2, 3, 4, 5, 6, 7, 8, 9, 10, 11, 12, 13, 14, 0] dL_stepped_282 rfl (by omega) (by decide) rfl rfl ?_
                refine e_goto (tgt := 221) X dL_stepped_285 rfl ?_
                refine e_widen (k' := 60 + 4 * (kk + 1)) (n' := 6 * (60 + 4 * (kk + 1))) (by omega) (by omega) ?_
                exact ih221 (kk + 1) sv M36 (by omega) (by omega) hsv hsv1 sM36
              refine e_iload (pc' := 233) X 13 dL_stepped_231 rfl rfl ?_
              refine e_if_eq (pc' := 236) (tgt := 257) X dL_stepped_233 rfl rfl (by omega) (fun h233 => ?_) (fun h233 => ?_)
              · refine e_iconst (pc' := 258) X dL_stepped_257 rfl ?_
                refine e_widen (k' := 63 + 4 * kk) (n' := 6 * (63 + 4 * kk)) (by omega) (by omega) ?_
                exact J258 0 Mk (Or.inl rfl) (fun q => absurd q (by decide)) sMk
              · refine e_aload_n (pc' := 237) X 0 dL_stepped_236 rfl rfl rfl ?_
                refine e_iload (pc' := 239) X 14 dL_stepped_237 rfl rfl ?_
                refine e_iconst (pc' := 240) X dL_stepped_239 rfl ?_
                refine s_calli (as3 ha1 ha2 ha3) hGB (pc' := 243) (st := []) (e_runSH X (fun q h => Or.inl h) hLy (c_L_tryOutput l G Mk hfl N P (T + 1) qMk.ck (by have := qMk.t; omega) (kk : Int) 1 (by first | omega | assumption | decide) (by first | omega | assumption | decide)) cf_L_tryOutput gw_377 rfl rfl ⟨Nat.le_of_ble_eq_true rfl, Nat.le_of_ble_eq_true rfl⟩ rfl rfl (Nat.le_of_ble_eq_true rfl) ⟨by show _ ≤ 840; omega, by show _ ≤ 5040; omega⟩ gw_376 dL_stepped_240) rfl (fun z240 M37 h240 => ?_)
                have hb240 : ScrEq Mk M37 ∧ ((z240 = M6 0 11 kk ∧ M6 0 11 kk ≠ -1) ∨ (z240 = -1003 ∧ M6 0 11 kk = -1)) := by
                  rcases h240 with q | q | q | q
                  · obtain ⟨-, -, q3, q4, q5⟩ := q
                    rw [e0Mk] at q3 q4
                    rw [q5]
                    exact ⟨ScrEq.rfl, Or.inl ⟨q4, fun w => q3 ⟨by decide, w⟩⟩⟩
                  · exfalso; have hd := q.2.1; clear q; omega
                  · exfalso; have hd := q.2.1; clear q; omega
                  · have q4 := q.2.1.2.2.2
                    rw [e0Mk] at q4
                    exact ⟨q.2.2, Or.inr ⟨q.1, q4⟩⟩
                have hs240 := hb240.1
                have sM37 : ScrEq M6 M37 := sMk.trans (hs240)
                have qM37 := loS.scr sM37
                have e0M37 : M37 0 = M6 0 := sM37.z0
                have e19M37 : M37 19 = M6 19 := sM37.z19
                have hv240 := hb240.2
                have hA1 := hA11 kk (by omega)
                have hTT := loS.t
                have hag := hage kk (by omega)
                refine e_iconst (pc' := 244) X dL_stepped_243 rfl ?_
                refine e_isub (pc' := 245) X dL_stepped_244 rfl ?_
                refine e_aload_n (pc' := 246) X 0 dL_stepped_245 rfl rfl rfl ?_
                refine e_iconst (pc' := 247) X dL_stepped_246 rfl ?_
                refine s_calli (as3 ha1 ha2 ha3) hGB (pc' := 250) (st := [vI (z240 - 1)]) (e_runSH X (fun q h => Or.inl h) hLy (c_L_tryAbout l G M37 hfl N P (T + 1) qM37.ck (by have := qM37.t; omega) 3 (by first | omega | assumption | decide)) cf_L_tryAbout gw_681 rfl rfl ⟨Nat.le_of_ble_eq_true rfl, Nat.le_of_ble_eq_true rfl⟩ rfl rfl (Nat.le_of_ble_eq_true rfl) ⟨by show _ ≤ 840; omega, by show _ ≤ 5040; omega⟩ gw_680 dL_stepped_247) rfl (fun z247 M38 h247 => ?_)
                rcases h247 with h247 | h247
                rotate_left 1
                · exfalso
                  have hd := h247.2.1; clear h247; omega
                obtain ⟨-, hv247, hm247⟩ := h247
                obtain rfl := hm247.symm
                simp only [e0M37, e19M37] at hv247
                refine e_eqI (z' := M6 0 0 7) hv247 ?_
                refine e_icmp_le (pc' := 253) (tgt := 257) X dL_stepped_250 rfl rfl (by omega) (by omega) (fun h250 => ?_) (fun h250 => ?_)
                · refine e_iconst (pc' := 258) X dL_stepped_257 rfl ?_
                  refine e_widen (k' := 63 + 4 * kk) (n' := 6 * (63 + 4 * kk)) (by omega) (by omega) ?_
                  exact J258 0 M37 (Or.inl rfl) (fun q => absurd q (by decide)) sM37
                · have hk1 : M6 0 11 kk ≠ -1 ∧ M6 0 0 7 < M6 0 11 kk - 1 := by
                    rcases hv240 with ⟨q1, q2⟩ | ⟨q1, q2⟩
                    · exact ⟨q2, by omega⟩
                    · exfalso; omega
                  have hk2 : ∀ y, y < kk + 1 → M6 0 11 y ≠ -1 ∧ M6 0 0 7 < M6 0 11 y - 1 := fun y hy => by
                    by_cases q : y = kk
                    · rw [q]; exact hk1
                    · exact hsl (by omega) y (by omega)
                  refine e_iconst (pc' := 254) X dL_stepped_253 rfl ?_
                  refine e_goto (tgt := 258) X dL_stepped_254 rfl ?_
                  refine e_widen (k' := 63 + 4 * kk) (n' := 6 * (63 + 4 * kk)) (by omega) (by omega) ?_
                  exact J258 1 M37 (Or.inr rfl) (fun _ y hy => hk2 y hy) sM37
        refine e_widen (k' := 60 + 4 * 0) (n' := 6 * (60 + 4 * 0)) (by omega) (by omega) ?_
        exact L221 ((P - 0) + 1) 0 1 M6 (Nat.lt_succ_self _) (by omega) (Or.inr rfl) (fun _ y hy => absurd hy (Nat.not_lt_zero y)) ScrEq.rfl
      · refine e_aloadQ (pc' := 61) X 6 dL_stepped_59 rfl rfl ?_
        refine e_iload (pc' := 63) X 9 dL_stepped_61 rfl rfl ?_
        refine e_aload_n (pc' := 64) X 0 dL_stepped_63 rfl rfl rfl ?_
        refine e_iconst (pc' := 65) X dL_stepped_64 rfl ?_
        refine e_iload (pc' := 67) X 4 dL_stepped_65 rfl rfl ?_
        refine e_iload (pc' := 69) X 9 dL_stepped_67 rfl rfl ?_
        refine e_iconst (pc' := 70) X dL_stepped_69 rfl ?_
        refine s_calli (as3 ha1 ha2 ha3) hGB (pc' := 73) (st := [vI (i : Int), (Value.ref a1)]) (e_runSH X (fun q h => Or.inl h) hLy (c_L_tryAhead l G Mq hfl N P T qMq.ck (by have := qMq.t; omega) 1 u (i : Int) 0 (by first | omega | assumption | decide) (by first | omega | assumption | decide) (by first | omega | assumption | decide) (by first | omega | assumption | decide)) cf_L_tryAhead gw_861 rfl rfl ⟨Nat.le_of_ble_eq_true rfl, Nat.le_of_ble_eq_true rfl⟩ rfl rfl (Nat.le_of_ble_eq_true rfl) ⟨by show _ ≤ 840; omega, by show _ ≤ 5040; omega⟩ gw_860 dL_stepped_70) rfl (fun z70 M39 h70 => ?_)
        rcases h70 with h70 | h70 | h70
        rotate_left 1
        · exfalso
          have hd := h70.2.1; clear h70; omega
        · exfalso
          have hd := h70.2.1; clear h70; omega
        have hs70 := h70.2.2
        simp only [e0Mq, e19Mq] at h70
        have sM39 : ScrEq M M39 := sMq.trans (hs70)
        have qM39 := lo.scr sM39
        have e0M39 : M39 0 = M 0 := sM39.z0
        have e19M39 : M39 19 = M 19 := sM39.z19
        have e70 := (ahd h70.2.1 (k := 1) (j := i) rfl rfl).1 rfl
        refine s_ast (a := a1) (i := i) (f := fl) (as' := [(a3, fg), (a2, fh), (a1, (up1 fl i z70))]) (pc' := 74) X hGB hLy mem_a ha1 (by omega) (by omega) (st_a na1a2 na1a3) dL_stepped_73 rfl ?_
        refine e_aloadQ (pc' := 76) X 7 dL_stepped_74 rfl rfl ?_
        refine e_iload (pc' := 78) X 9 dL_stepped_76 rfl rfl ?_
        refine e_aload_n (pc' := 79) X 0 dL_stepped_78 rfl rfl rfl ?_
        refine e_iconst (pc' := 80) X dL_stepped_79 rfl ?_
        refine e_iload (pc' := 82) X 4 dL_stepped_80 rfl rfl ?_
        refine e_iload (pc' := 84) X 9 dL_stepped_82 rfl rfl ?_
        refine e_iconst (pc' := 85) X dL_stepped_84 rfl ?_
        refine s_calli (as3 ha1 ha2 ha3) hGB (pc' := 88) (st := [vI (i : Int), (Value.ref a2)]) (e_runSH X (fun q h => Or.inl h) hLy (c_L_tryAhead l G M39 hfl N P T qM39.ck (by have := qM39.t; omega) 1 u (i : Int) 1 (by first | omega | assumption | decide) (by first | omega | assumption | decide) (by first | omega | assumption | decide) (by first | omega | assumption | decide)) cf_L_tryAhead gw_861 rfl rfl ⟨Nat.le_of_ble_eq_true rfl, Nat.le_of_ble_eq_true rfl⟩ rfl rfl (Nat.le_of_ble_eq_true rfl) ⟨by show _ ≤ 840; omega, by show _ ≤ 5040; omega⟩ gw_860 dL_stepped_85) rfl (fun z85 M40 h85 => ?_)
        rcases h85 with h85 | h85 | h85
        rotate_left 1
        · exfalso
          have hd := h85.2.1; clear h85; omega
        · exfalso
          have hd := h85.2.1; clear h85; omega
        have hs85 := h85.2.2
        simp only [e0M39, e19M39] at h85
        have sM40 : ScrEq M M40 := sM39.trans (hs85)
        have qM40 := lo.scr sM40
        have e0M40 : M40 0 = M 0 := sM40.z0
        have e19M40 : M40 19 = M 19 := sM40.z19
        have e85 := (ahd h85.2.1 (k := 1) (j := i) rfl rfl).2 rfl
        refine s_ast (a := a2) (i := i) (f := fh) (as' := [(a3, fg), (a2, (up1 fh i z85)), (a1, (up1 fl i z70))]) (pc' := 89) X hGB hLy mem_b ha2 (by omega) (by omega) (st_b na1a2 na2a3) dL_stepped_88 rfl ?_
        refine e_lconst (pc' := 90) (z := 0) X dL_stepped_89 rfl rfl ?_
        refine e_lstore (pc' := 92) (lc' := [(0, vR G (28, 0)), (1, vI x), (2, vI (N : Int)), (3, vI (M 0 0 8)), (4, vI u), (5, vI d), (6, (Value.ref a1)), (7, (Value.ref a2)), (8, (Value.ref a3)), (9, vI (i : Int)), (10, vJ 0)]) X [1, 2, 3, 4, 5, 6, 7, 8, 9, 10, 0] dL_stepped_90 (by decide) rfl rfl ?_
        refine e_iconst (pc' := 93) X dL_stepped_92 rfl ?_
        refine e_istore (pc' := 95) (lc' := [(0, vR G (28, 0)), (1, vI x), (2, vI (N : Int)), (3, vI (M 0 0 8)), (4, vI u), (5, vI d), (6, (Value.ref a1)), (7, (Value.ref a2)), (8, (Value.ref a3)), (9, vI (i : Int)), (10, vJ 0), (12, vI 0)]) X [1, 2, 3, 4, 5, 6, 7, 8, 9, 10, 11, 0] dL_stepped_93 (by decide) rfl rfl ?_
        have L95 : ∀ (fu : Nat) (j : Nat) (sa : Int), N - j < fu → (j ≤ N) → (sa = dot j (M 19 (2 + i)) (M 0 4)) → eV p l e (wrm 9 840 5040) s m args below meth c (sA G B) (aF G s [(a3, fg), (a2, (up1 fh i z85)), (a1, (up1 fl i z70))] M40) 17 (7 + 12 * i + 2 * j) (6 * (7 + 12 * i + 2 * j)) (MQ below (sQi G B (fun z M1 => z = 1 ∧ Fr M M1 ∧ ∃ nq cq : Nat, Lo N P L nq cq (T + 1) M1)) args s 840 5040 (sA G B)) 95 [(0, vR G (28, 0)), (1, vI x), (2, vI (N : Int)), (3, vI (M 0 0 8)), (4, vI u), (5, vI d), (6, (Value.ref a1)), (7, (Value.ref a2)), (8, (Value.ref a3)), (9, vI (i : Int)), (10, vJ sa), (12, vI (j : Int))] [] := by
          intro fu
          induction fu with
          | zero => intro j sa hfu; exact absurd hfu (Nat.not_lt_zero _)
          | succ fu ih95 =>
            intro j sa hfu95 hj hsa
            refine e_iload (pc' := 97) X 11 dL_stepped_95 rfl rfl ?_
            refine e_iload_n (pc' := 98) X 2 dL_stepped_97 rfl rfl rfl ?_
            refine e_icmp_ge (pc' := 101) (tgt := 131) X dL_stepped_98 rfl rfl (by omega) (by omega) (fun h98 => ?_) (fun h98 => ?_)
            · have ejN : j = N := by omega
              rw [ejN] at hsa
              have hdb := dot_bd (A := 99) (B := 16000000) (by decide) (by decide) (n := N) (f := M 19 (2 + i)) (g := M 0 4) (fun y hy => hA i y (by omega) hy) hEs
              rw [← hsa] at hdb
              refine e_aloadQ (pc' := 133) X 8 dL_stepped_131 rfl rfl ?_
              refine e_iload (pc' := 135) X 9 dL_stepped_133 rfl rfl ?_
              refine e_lload (pc' := 137) X 10 dL_stepped_135 rfl rfl ?_
              refine e_ldc2 (pc' := 140) (z := 16) X gw_1003 dL_stepped_137 rfl rfl ?_
              refine s_callj (as3 ha1 ha2 ha3) hGB (pc' := 143) (st := [vI (i : Int), (Value.ref a3)]) (e_runS X (fun q h => Or.inl h) hLy (c_L_down l G M40 sa 16 (by first | omega | assumption | decide) (by first | omega | assumption | decide)) cf_L_down gw_981 rfl rfl ⟨Nat.le_of_ble_eq_true rfl, Nat.le_of_ble_eq_true rfl⟩ rfl rfl (Nat.le_of_ble_eq_true rfl) ⟨by show _ ≤ 840; omega, by show _ ≤ 5040; omega⟩ gw_980 dL_stepped_140) rfl (fun z140 M41 h140 => ?_)
              obtain ⟨hv140, hm140⟩ := h140
              obtain rfl := hm140.symm
              refine e_eqJ (z' := (sa).fdiv 16) hv140 ?_
              refine e_ldc2 (pc' := 146) (z := 16) X gw_1003 dL_stepped_143 rfl rfl ?_
              refine e_aload_n (pc' := 147) X 0 dL_stepped_146 rfl rfl rfl ?_
              refine e_iconst (pc' := 148) X dL_stepped_147 rfl ?_
              refine e_iload (pc' := 150) X 9 dL_stepped_148 rfl rfl ?_
              refine e_iconst (pc' := 151) X dL_stepped_150 rfl ?_
              refine s_calli (as3 ha1 ha2 ha3) hGB (pc' := 154) (st := [vJ 16, vJ ((sa).fdiv 16), vI (i : Int), (Value.ref a3)]) (e_runSH X (fun q h => Or.inl h) hLy (c_L_tryNumber l G M40 hfl N P T qM40.ck (by have := qM40.t; omega) 1 (i : Int) 0 (by first | omega | assumption | decide) (by first | omega | assumption | decide) (by first | omega | assumption | decide)) cf_L_tryNumber gw_619 rfl rfl ⟨Nat.le_of_ble_eq_true rfl, Nat.le_of_ble_eq_true rfl⟩ rfl rfl (Nat.le_of_ble_eq_true rfl) ⟨by show _ ≤ 840; omega, by show _ ≤ 5040; omega⟩ gw_618 dL_stepped_151) rfl (fun z151 M42 h151 => ?_)
              rcases h151 with h151 | h151 | h151
              rotate_left 1
              · exfalso
                have hd := h151.2.1; clear h151; omega
              · exfalso
                exact h151.2.1.2 ⟨⟨by omega, by rw [if_neg (by decide)]; omega⟩, by omega, by unfold colsF; rw [if_neg (by decide), if_neg (by decide)]; omega⟩
              obtain ⟨-, -, -, hv151, hm151⟩ := h151
              obtain rfl := hm151.symm
              simp only [e0M40, e19M40] at hv151
              refine e_eqI (z' := M 19 6 i) hv151 ?_
              have hBi := hBp i (by omega)
              refine e_i2l (pc' := 155) X dL_stepped_154 (by omega) rfl ?_
              refine e_lmul (pc' := 156) X dL_stepped_155 rfl ?_
              refine e_iload (pc' := 158) X 4 dL_stepped_156 rfl rfl ?_
              refine e_i2l (pc' := 159) X dL_stepped_158 (by omega) rfl ?_
              refine e_lmul (pc' := 160) X dL_stepped_159 rfl ?_
              refine e_ladd (pc' := 161) X dL_stepped_160 rfl ?_
              refine e_l2i (pc' := 162) X dL_stepped_161 rfl ?_
              refine s_ast (a := a3) (i := i) (f := fg) (as' := [(a3, (up1 fg i (((sa).fdiv 16) + ((16 * (M 19 6 i)) * u)))), (a2, (up1 fh i z85)), (a1, (up1 fl i z70))]) (pc' := 163) X hGB hLy mem_d ha3 (by omega) (by omega) (st_d na1a3 na2a3) dL_stepped_162 rfl ?_
              refine e_iinc (pc' := 166) (z' := ((i + 1 : Nat) : Int)) (lc' := [(0, vR G (28, 0)), (1, vI x), (2, vI (N : Int)), (3, vI (M 0 0 8)), (4, vI u), (5, vI d), (6, (Value.ref a1)), (7, (Value.ref a2)), (8, (Value.ref a3)), (9, vI ((i + 1 : Nat) : Int)), (10, vJ sa), (12, vI (j : Int))]) X 9 [1, 2, 3, 4, 5, 6, 7, 8, 9, 0, 10, 11] dL_stepped_163 rfl (by omega) (by decide) rfl rfl ?_
              refine e_goto (tgt := 53) X dL_stepped_166 rfl ?_
              refine e_sub (lc' := [(0, vR G (28, 0)), (1, vI x), (2, vI (N : Int)), (3, vI (M 0 0 8)), (4, vI u), (5, vI d), (6, (Value.ref a1)), (7, (Value.ref a2)), (8, (Value.ref a3)), (9, vI ((i + 1 : Nat) : Int))]) [0, 1, 2, 3, 4, 5, 6, 7, 8, 9] rfl ?_
              refine e_widen (k' := 5 + 12 * (i + 1)) (n' := 6 * (5 + 12 * (i + 1))) (by omega) (by omega) ?_
              exact ih53 (i + 1) (up1 fl i z70) (up1 fh i z85) (up1 fg i (((sa).fdiv 16) + ((16 * (M 19 6 i)) * u))) M40 (by omega) (by omega) (up_all hfL e70) (up_all hfH e85) (up_all hfG (by rw [hsa]; rfl)) sM40
            · refine e_lload (pc' := 103) X 10 dL_stepped_101 rfl rfl ?_
              refine e_aload_n (pc' := 104) X 0 dL_stepped_103 rfl rfl rfl ?_
              refine e_iconst (pc' := 105) X dL_stepped_104 rfl ?_
              refine e_iload (pc' := 107) X 9 dL_stepped_105 rfl rfl ?_
              refine e_iload (pc' := 109) X 11 dL_stepped_107 rfl rfl ?_
              refine s_calli (as3 ha1 ha2 ha3) hGB (pc' := 112) (st := [vJ sa]) (e_runSH X (fun q h => Or.inl h) hLy (c_L_tryNumber l G M40 hfl N P T qM40.ck (by have := qM40.t; omega) 0 (i : Int) (j : Int) (by first | omega | assumption | decide) (by first | omega | assumption | decide) (by first | omega | assumption | decide)) cf_L_tryNumber gw_619 rfl rfl ⟨Nat.le_of_ble_eq_true rfl, Nat.le_of_ble_eq_true rfl⟩ rfl rfl (Nat.le_of_ble_eq_true rfl) ⟨by show _ ≤ 840; omega, by show _ ≤ 5040; omega⟩ gw_618 dL_stepped_109) rfl (fun z109 M43 h109 => ?_)
              rcases h109 with h109 | h109 | h109
              rotate_left 1
              · exfalso
                have hd := h109.2.1; clear h109; omega
              · exfalso
                exact h109.2.1.2 ⟨⟨by omega, by rw [if_neg (by decide)]; omega⟩, by omega, by unfold colsF; rw [if_pos (by decide)]; omega⟩
              obtain ⟨-, -, -, hv109, hm109⟩ := h109
              obtain rfl := hm109.symm
              simp only [e0M40, e19M40] at hv109
              refine e_eqI (z' := M 19 (2 + i) j) hv109 ?_
              have hA1 := hA i j (by omega) (by omega)
              refine e_i2l (pc' := 113) X dL_stepped_112 (by omega) rfl ?_
              refine e_aload_n (pc' := 114) X 0 dL_stepped_113 rfl rfl rfl ?_
              refine e_iload (pc' := 116) X 11 dL_stepped_114 rfl rfl ?_
              refine e_iconst (pc' := 117) X dL_stepped_116 rfl ?_
              refine s_calli (as3 ha1 ha2 ha3) hGB (pc' := 120) (st := [vJ (M 19 (2 + i) j), vJ sa]) (e_runSH X (fun q h => Or.inl h) hLy (c_L_tryState l G M40 hfl N P T qM40.ck (by have := qM40.t; omega) (j : Int) 3 (by first | omega | assumption | decide) (by first | omega | assumption | decide)) cf_L_tryState gw_689 rfl rfl ⟨Nat.le_of_ble_eq_true rfl, Nat.le_of_ble_eq_true rfl⟩ rfl rfl (Nat.le_of_ble_eq_true rfl) ⟨by show _ ≤ 840; omega, by show _ ≤ 5040; omega⟩ gw_688 dL_stepped_117) rfl (fun z117 M44 h117 => ?_)
              rcases h117 with h117 | h117 | h117
              rotate_left 1
              · exfalso
                have hd := h117.2.1; clear h117; omega
              · exfalso
                have hd := h117.2.1; clear h117; omega
              obtain ⟨-, -, hv117, hm117⟩ := h117
              obtain rfl := hm117.symm
              simp only [e0M40, e19M40] at hv117
              refine e_eqI (z' := M 0 4 j) hv117 ?_
              have hE1 := hEs j (by omega)
              refine e_i2l (pc' := 121) X dL_stepped_120 (by omega) rfl ?_
              refine e_lmul (pc' := 122) X dL_stepped_121 rfl ?_
              refine e_ladd (pc' := 123) X dL_stepped_122 rfl ?_
              refine e_lstore (pc' := 125) (lc' := [(0, vR G (28, 0)), (1, vI x), (2, vI (N : Int)), (3, vI (M 0 0 8)), (4, vI u), (5, vI d), (6, (Value.ref a1)), (7, (Value.ref a2)), (8, (Value.ref a3)), (9, vI (i : Int)), (10, vJ (sa + ((M 19 (2 + i) j) * (M 0 4 j)))), (12, vI (j : Int))]) X [1, 2, 3, 4, 5, 6, 7, 8, 9, 10, 0, 11] dL_stepped_123 (by decide) rfl rfl ?_
              refine e_iinc (pc' := 128) (z' := ((j + 1 : Nat) : Int)) (lc' := [(0, vR G (28, 0)), (1, vI x), (2, vI (N : Int)), (3, vI (M 0 0 8)), (4, vI u), (5, vI d), (6, (Value.ref a1)), (7, (Value.ref a2)), (8, (Value.ref a3)), (9, vI (i : Int)), (10, vJ (sa + ((M 19 (2 + i) j) * (M 0 4 j)))), (12, vI ((j + 1 : Nat) : Int))]) X 11 [1, 2, 3, 4, 5, 6, 7, 8, 9, 10, 11, 0] dL_stepped_125 rfl (by omega) (by decide) rfl rfl ?_
              refine e_goto (tgt := 95) X dL_stepped_128 rfl ?_
              refine e_widen (k' := 7 + 12 * i + 2 * (j + 1)) (n' := 6 * (7 + 12 * i + 2 * (j + 1))) (by omega) (by omega) ?_
              exact ih95 (j + 1) (sa + ((M 19 (2 + i) j) * (M 0 4 j))) (by omega) (by omega) (by rw [hsa]; rfl)
        refine e_widen (k' := 7 + 12 * i + 2 * 0) (n' := 6 * (7 + 12 * i + 2 * 0)) (by omega) (by omega) ?_
        exact L95 ((N - 0) + 1) 0 0 (Nat.lt_succ_self _) (by omega) rfl
  refine e_widen (k' := 5 + 12 * 0) (n' := 6 * (5 + 12 * 0)) (by omega) (by omega) ?_
  exact L53 ((N - 0) + 1) 0 (fun _ => 0) (fun _ => 0) (fun _ => 0) M (Nat.lt_succ_self _) (by omega) (fun y hy => absurd hy (Nat.not_lt_zero y)) (fun y hy => absurd hy (Nat.not_lt_zero y)) (fun y hy => absurd hy (Nat.not_lt_zero y)) ScrEq.rfl
