/-! the true values within all that is known -/
theorem cf_L_contained : wCal yL_contained cL_contained 16 (some .boolean) 1 := ⟨gw_975, gw_0, by decide, by decide, by rfl⟩
set_option maxRecDepth 100000 in
set_option maxHeartbeats 4000000 in
theorem c_L_contained (l : Launch) (G : wG) (M : wM) (hfl : l.stackTraces = false) (N P L nx ct : Nat) (T : Int) (lo : Lo N P L nx ct T M)  : Met l yL_contained (gws yL_contained cL_contained 16 (some .boolean)) (wrm 8 240 1440) (wPc G M [vR G (28, 0)]) (wQi G (fun z M1 => z = 1 ∧ ScrEq M M1)) 240 1440 (wA G) := by
  refine wMet (lc := [(0, vR G (28, 0))]) (by decide) (Nat.le_of_ble_eq_true rfl) rfl ?_
  intro p e s m args below meth c X hr
  have X : wX p s m args meth c G 16 "StateObserverLaw" cL_contained := X
  have hn := lo.n
  have hE := lo.ck.1.2.2.2.2.2.2.2.2.1
  have hC := lo.ck.1.2.2.2.2.2.2.2.2.2.1
  have hQ := lo.ck.1.2.2.2.2.2.2.2.2.2.2
  have hTr := lo.ck.2.1.1
  have hLo := lo.ck.2.1.2.1
  have hUp := lo.ck.2.1.2.2.1
  have hSt := lo.ck.2.1.2.2.2.1
  have hwb := wid_bd lo.ck.2.2
  have hb0 := lo.box (i := 0) (by omega)
  have ht0 := hTr 0 (by omega)
  refine r_aload_n (pc' := 1) X 0 dL_contained_0 rfl rfl rfl ?_
  refine r_iconst (pc' := 2) X dL_contained_1 rfl ?_
  refine w_calli (pc' := 5) (st := []) (w_runSH X (c_L_tryAbout l G M hfl N P T lo.ck (by have := lo.t; omega) 0 (by first | omega | assumption | decide)) cf_L_tryAbout gw_681 rfl rfl ⟨Nat.le_of_ble_eq_true rfl, Nat.le_of_ble_eq_true rfl⟩ rfl rfl (Nat.le_of_ble_eq_true rfl) ⟨by show _ ≤ 240; omega, by show _ ≤ 1440; omega⟩ gw_680 dL_contained_2) rfl (fun z2 M1 h2 => ?_)
  rcases h2 with h2 | h2
  rotate_left 1
  · exfalso
    have hd := h2.2.1; clear h2; omega
  obtain ⟨-, hv2, hm2⟩ := h2
  obtain rfl := hm2.symm
  refine w_eqI (z' := (N : Int)) hv2 ?_
  refine r_istore_n (pc' := 6) (lc' := [(0, vR G (28, 0)), (1, vI (N : Int))]) X [1, 0] dL_contained_5 rfl (by decide) rfl rfl ?_
  refine r_aload_n (pc' := 7) X 0 dL_contained_6 rfl rfl rfl ?_
  refine r_iconst (pc' := 8) X dL_contained_7 rfl ?_
  refine w_calli (pc' := 11) (st := []) (w_runSH X (c_L_tryAbout l G M hfl N P T lo.ck (by have := lo.t; omega) 1 (by first | omega | assumption | decide)) cf_L_tryAbout gw_681 rfl rfl ⟨Nat.le_of_ble_eq_true rfl, Nat.le_of_ble_eq_true rfl⟩ rfl rfl (Nat.le_of_ble_eq_true rfl) ⟨by show _ ≤ 240; omega, by show _ ≤ 1440; omega⟩ gw_680 dL_contained_8) rfl (fun z8 M2 h8 => ?_)
  rcases h8 with h8 | h8
  rotate_left 1
  · exfalso
    have hd := h8.2.1; clear h8; omega
  obtain ⟨-, hv8, hm8⟩ := h8
  obtain rfl := hm8.symm
  refine w_eqI (z' := (P : Int)) hv8 ?_
  refine r_istore_n (pc' := 12) (lc' := [(0, vR G (28, 0)), (1, vI (N : Int)), (2, vI (P : Int))]) X [1, 2, 0] dL_contained_11 rfl (by decide) rfl rfl ?_
  refine r_iconst (pc' := 13) X dL_contained_12 rfl ?_
  refine r_istore_n (pc' := 14) (lc' := [(0, vR G (28, 0)), (1, vI (N : Int)), (2, vI (P : Int)), (3, vI 0)]) X [1, 2, 3, 0] dL_contained_13 rfl (by decide) rfl rfl ?_
  refine r_iconst (pc' := 15) X dL_contained_14 rfl ?_
  refine r_istore (pc' := 17) (lc' := [(0, vR G (28, 0)), (1, vI (N : Int)), (2, vI (P : Int)), (3, vI 0), (4, vI 1)]) X [1, 2, 3, 4, 0] dL_contained_15 (by decide) rfl rfl ?_
  refine r_iconst (pc' := 18) X dL_contained_17 rfl ?_
  refine r_istore (pc' := 20) (lc' := [(0, vR G (28, 0)), (1, vI (N : Int)), (2, vI (P : Int)), (3, vI 0), (4, vI 1), (5, vI 0)]) X [1, 2, 3, 4, 5, 0] dL_contained_18 (by decide) rfl rfl ?_
  have L20 : ∀ (fu : Nat) (i : Nat) (wd : Int), N - i < fu → (i ≤ N) → (wd = wid i (M 0 2) (M 0 3)) → wV p l e (wrm 8 240 1440) s m args below meth c G 16 M (2 + 5 * i) (6 * (2 + 5 * i)) (MQ below (wQi G (fun z M1 => z = 1 ∧ ScrEq M M1)) args s 240 1440 (wA G)) 20 [(0, vR G (28, 0)), (1, vI (N : Int)), (2, vI (P : Int)), (3, vI wd), (4, vI 1), (5, vI (i : Int))] [] := by
    intro fu
    induction fu with
    | zero => intro i wd hfu; exact absurd hfu (Nat.not_lt_zero _)
    | succ fu ih20 =>
      intro i wd hfu20 hi hwd
      refine r_iload (pc' := 22) X 5 dL_contained_20 rfl rfl ?_
      refine r_iload_n (pc' := 23) X 1 dL_contained_22 rfl rfl rfl ?_
      refine r_icmp_ge (pc' := 26) (tgt := 178) X dL_contained_23 rfl rfl (by omega) (by omega) (fun h23 => ?_) (fun h23 => ?_)
      · refine r_iload (pc' := 180) X 4 dL_contained_178 rfl rfl ?_
        have ewd : wd = wid N (M 0 2) (M 0 3) := by rw [hwd, show i = N by omega]
        refine r_if_eq (pc' := 183) (tgt := 286) X dL_contained_180 rfl rfl (by omega) (fun h180 => absurd h180 (by decide)) (fun h180 => ?_)
        refine r_iload_n (pc' := 184) X 3 dL_contained_183 rfl rfl rfl ?_
        refine r_aload_n (pc' := 185) X 0 dL_contained_184 rfl rfl rfl ?_
        refine w_calli (pc' := 188) (st := [vI wd]) (w_runV X (c_X8_width l G M N P T lo.ck (by have := lo.t; omega)) cf_X8_width k28_0 rfl gw_369 gw_370 rfl rfl ⟨Nat.le_of_ble_eq_true rfl, Nat.le_of_ble_eq_true rfl⟩ rfl rfl (Nat.le_of_ble_eq_true rfl) ⟨by show _ ≤ 240; omega, by show _ ≤ 1440; omega⟩ gw_368 dL_contained_185) rfl (fun z185 M3 h185 => ?_)
        obtain ⟨hv185, hm185⟩ := h185
        obtain rfl := hm185.symm
        refine w_eqI (z' := wid N (M 0 2) (M 0 3)) hv185 ?_
        refine r_icmp_ne (pc' := 191) (tgt := 286) X dL_contained_188 rfl rfl (by omega) (by omega) (fun h188 => by exfalso; omega) (fun h188 => ?_)
        have J243 : ∀ (vb : Int) (vc : Int) (vd : Int), ((1 < N → vb = M 0 1 1) ∧ (N ≤ 1 → vb = 0)) → ((2 < N → vc = M 0 1 2) ∧ (N ≤ 2 → vc = 0)) → ((3 < N → vd = M 0 1 3) ∧ (N ≤ 3 → vd = 0)) → wV p l e (wrm 8 240 1440) s m args below meth c G 16 M (30) (6 * (30)) (MQ below (wQi G (fun z M1 => z = 1 ∧ ScrEq M M1)) args s 240 1440 (wA G)) 243 [(0, vR G (28, 0)), (1, vI (N : Int)), (2, vI (P : Int)), (3, vI wd), (4, vI 1), (5, vI (i : Int))] [vI vd, vI vc, vI vb, vI (M 0 1 0), vR G (28, 0)] := by
          intro vb vc vd hvb hvc hvd
          have rvb : rI vb := by
            rcases Nat.lt_or_ge 1 N with q | q
            · rw [hvb.1 q]; have := hTr 1 q; omega
            · rw [hvb.2 q]; decide
          have rvc : rI vc := by
            rcases Nat.lt_or_ge 2 N with q | q
            · rw [hvc.1 q]; have := hTr 2 q; omega
            · rw [hvc.2 q]; decide
          have rvd : rI vd := by
            rcases Nat.lt_or_ge 3 N with q | q
            · rw [hvd.1 q]; have := hTr 3 q; omega
            · rw [hvd.2 q]; decide
          refine w_calli (pc' := 246) (st := []) (w_runSH X (c_L_tryCanBe l G M hfl N P T lo.ck (by have := lo.t; omega) (M 0 1 0) vb vc vd (by first | omega | assumption | decide) (by first | omega | assumption | decide) (by first | omega | assumption | decide) (by first | omega | assumption | decide)) cf_L_tryCanBe gw_842 rfl rfl ⟨Nat.le_of_ble_eq_true rfl, Nat.le_of_ble_eq_true rfl⟩ rfl rfl (Nat.le_of_ble_eq_true rfl) ⟨by show _ ≤ 240; omega, by show _ ≤ 1440; omega⟩ gw_841 dL_contained_243) rfl (fun z243 M4 h243 => ?_)
          rcases h243 with h243 | h243
          rotate_left 1
          · exfalso
            exact h243.2.1 (row4_0 hn.1 hvb.2 hvc.2 hvd.2)
          have hs243 := h243.2.2.2
          have sM4 : ScrEq M M4 := hs243
          have qM4 := lo.scr sM4
          have e0M4 : M4 0 = M 0 := sM4.z0
          have e19M4 : M4 19 = M 19 := sM4.z19
          have e243 : z243 = 1 := by
            refine h243.2.2.1.mpr (can_true (v := M 0) (fun i hi => ?_) lo.tr)
            exact row4_x (x := M 0 1) hn.2.1 hvb.1 hvc.1 hvd.1 i hi
          refine r_iconst (pc' := 247) X dL_contained_246 rfl ?_
          refine r_icmp_ne (pc' := 250) (tgt := 286) X dL_contained_247 rfl rfl (by omega) (by omega) (fun h247 => by exfalso; omega) (fun h247 => ?_)
          refine r_aload_n (pc' := 251) X 0 dL_contained_250 rfl rfl rfl ?_
          refine r_aload_n (pc' := 252) X 0 dL_contained_251 rfl rfl rfl ?_
          refine r_iconst (pc' := 253) X dL_contained_252 rfl ?_
          refine r_iconst (pc' := 254) X dL_contained_253 rfl ?_
          refine w_calli (pc' := 257) (st := [vR G (28, 0)]) (w_runSH X (c_L_tryState l G M4 hfl N P T qM4.ck (by have := qM4.t; omega) 0 2 (by first | omega | assumption | decide) (by first | omega | assumption | decide)) cf_L_tryState gw_689 rfl rfl ⟨Nat.le_of_ble_eq_true rfl, Nat.le_of_ble_eq_true rfl⟩ rfl rfl (Nat.le_of_ble_eq_true rfl) ⟨by show _ ≤ 240; omega, by show _ ≤ 1440; omega⟩ gw_688 dL_contained_254) rfl (fun z254 M5 h254 => ?_)
          rcases h254 with h254 | h254 | h254
          rotate_left 1
          · exfalso
            have hd := h254.2.1; clear h254; omega
          · exfalso
            have hd := h254.2.1; clear h254; omega
          obtain ⟨-, -, hv254, hm254⟩ := h254
          obtain rfl := hm254.symm
          simp only [e0M4, e19M4] at hv254
          refine w_eqI (z' := M 0 3 0) hv254 ?_
          refine r_iconst (pc' := 258) X dL_contained_257 rfl ?_
          refine r_iadd (pc' := 259) X dL_contained_258 rfl ?_
          have J274 : ∀ (vw : Int), (N ≤ 1 → vw = 0) → (rI vw) → wV p l e (wrm 8 240 1440) s m args below meth c G 16 M4 (40) (6 * (40)) (MQ below (wQi G (fun z M1 => z = 1 ∧ ScrEq M M1)) args s 240 1440 (wA G)) 274 [(0, vR G (28, 0)), (1, vI (N : Int)), (2, vI (P : Int)), (3, vI wd), (4, vI 1), (5, vI (i : Int))] [vI vw, vI (M 0 3 0 + 1), vR G (28, 0)] := by
            intro vw hvw rvw
            refine r_iconst (pc' := 275) X dL_contained_274 rfl ?_
            refine r_iconst (pc' := 276) X dL_contained_275 rfl ?_
            refine w_calli (pc' := 279) (st := []) (w_runSH X (c_L_tryCanBe l G M4 hfl N P T qM4.ck (by have := qM4.t; omega) (M 0 3 0 + 1) vw 0 0 (by first | omega | assumption | decide) (by first | omega | assumption | decide) (by first | omega | assumption | decide) (by first | omega | assumption | decide)) cf_L_tryCanBe gw_842 rfl rfl ⟨Nat.le_of_ble_eq_true rfl, Nat.le_of_ble_eq_true rfl⟩ rfl rfl (Nat.le_of_ble_eq_true rfl) ⟨by show _ ≤ 240; omega, by show _ ≤ 1440; omega⟩ gw_841 dL_contained_276) rfl (fun z276 M6 h276 => ?_)
            rcases h276 with h276 | h276
            rotate_left 1
            · exfalso
              exact h276.2.1 (row4_0 hn.1 hvw (fun _ => rfl) (fun _ => rfl))
            have hs276 := h276.2.2.2
            simp only [e0M4, e19M4] at h276
            have sM6 : ScrEq M M6 := sM4.trans (hs276)
            have qM6 := lo.scr sM6
            have e0M6 : M6 0 = M 0 := sM6.z0
            have e19M6 : M6 19 = M 19 := sM6.z19
            have e276 : z276 = 0 := by
              rcases h276.2.1 with q | q
              · exact q
              · exfalso
                have := (h276.2.2.1.mp q).1 0 (by omega)
                rw [row4_a] at this
                omega
            refine r_if_ne (pc' := 282) (tgt := 286) X dL_contained_279 rfl rfl (by omega) (fun h279 => by exfalso; omega) (fun h279 => ?_)
            refine r_iconst (pc' := 283) X dL_contained_282 rfl ?_
            refine r_goto (tgt := 287) X dL_contained_283 rfl ?_
            refine r_istore (pc' := 289) (lc' := [(0, vR G (28, 0)), (1, vI (N : Int)), (2, vI (P : Int)), (3, vI wd), (4, vI 1), (5, vI (i : Int))]) X [1, 2, 3, 4, 0, 5] dL_contained_287 (by decide) rfl rfl ?_
            refine r_iconst (pc' := 290) X dL_contained_289 rfl ?_
            refine r_istore (pc' := 292) (lc' := [(0, vR G (28, 0)), (1, vI (N : Int)), (2, vI (P : Int)), (3, vI wd), (4, vI 1), (5, vI 0)]) X [1, 2, 3, 4, 5, 0] dL_contained_290 (by decide) rfl rfl ?_
            refine r_iconst (pc' := 293) X dL_contained_292 rfl ?_
            refine r_istore (pc' := 295) (lc' := [(0, vR G (28, 0)), (1, vI (N : Int)), (2, vI (P : Int)), (3, vI wd), (4, vI 1), (5, vI 0), (6, vI 0)]) X [1, 2, 3, 4, 5, 6, 0] dL_contained_293 (by decide) rfl rfl ?_
            have L295 : ∀ (fu : Nat) (kk : Nat) (tb : Int) (Mq : wM), P - kk < fu → (kk ≤ P) → (tb = tch N (M 19) kk) → (ScrEq M Mq) → wV p l e (wrm 8 240 1440) s m args below meth c G 16 Mq (50 + 60 * kk) (6 * (50 + 60 * kk)) (MQ below (wQi G (fun z M1 => z = 1 ∧ ScrEq M M1)) args s 240 1440 (wA G)) 295 [(0, vR G (28, 0)), (1, vI (N : Int)), (2, vI (P : Int)), (3, vI wd), (4, vI 1), (5, vI tb), (6, vI (kk : Int))] [] := by
              intro fu
              induction fu with
              | zero => intro kk tb Mq hfu; exact absurd hfu (Nat.not_lt_zero _)
              | succ fu ih295 =>
                intro kk tb Mq hfu295 hkk htb sMq
                have qMq := lo.scr sMq
                have e0Mq := sMq.z0
                have e19Mq := sMq.z19
                refine r_iload (pc' := 297) X 6 dL_contained_295 rfl rfl ?_
                refine r_iload_n (pc' := 298) X 2 dL_contained_297 rfl rfl rfl ?_
                refine r_icmp_ge (pc' := 301) (tgt := 628) X dL_contained_298 rfl rfl (by omega) (by omega) (fun h298 => ?_) (fun h298 => ?_)
                · refine r_iload (pc' := 630) X 4 dL_contained_628 rfl rfl ?_
                  refine r_if_eq (pc' := 633) (tgt := 646) X dL_contained_630 rfl rfl (by omega) (fun h630 => absurd h630 (by decide)) (fun h630 => ?_)
                  refine r_aload_n (pc' := 634) X 0 dL_contained_633 rfl rfl rfl ?_
                  refine w_calli (pc' := 637) (st := []) (w_runV X (c_X8_touched l G Mq N P T qMq.ck (by have := qMq.t; omega)) cf_X8_touched k28_0 rfl gw_989 gw_990 rfl rfl ⟨Nat.le_of_ble_eq_true rfl, Nat.le_of_ble_eq_true rfl⟩ rfl rfl (Nat.le_of_ble_eq_true rfl) ⟨by show _ ≤ 240; omega, by show _ ≤ 1440; omega⟩ gw_988 dL_contained_634) rfl (fun z634 M7 h634 => ?_)
                  obtain ⟨hv634, hm634⟩ := h634
                  obtain rfl := hm634.symm
                  simp only [e0Mq, e19Mq] at hv634
                  refine w_eqI (z' := tch N (M 19) P) hv634 ?_
                  have etb : tb = tch N (M 19) P := by rw [htb, show kk = P by omega]
                  have htr := tch_rng (N := N) (pv := M 19) P
                  refine r_iload (pc' := 639) X 5 dL_contained_637 rfl rfl ?_
                  refine r_icmp_ne (pc' := 642) (tgt := 646) X dL_contained_639 rfl rfl (by omega) (by omega) (fun h639 => by exfalso; omega) (fun h639 => ?_)
                  refine r_iconst (pc' := 643) X dL_contained_642 rfl ?_
                  refine r_goto (tgt := 647) X dL_contained_643 rfl ?_
                  refine w_widen (k' := 240) (n' := 1440) (by omega) (by omega) ?_
                  refine w_zret X hr (by decide) dL_contained_647 ?_
                  try dsimp only
                  exact ⟨rfl, sMq⟩
                · refine r_iload (pc' := 303) X 4 dL_contained_301 rfl rfl ?_
                  refine r_if_eq (pc' := 306) (tgt := 628) X dL_contained_303 rfl rfl (by omega) (fun h303 => absurd h303 (by decide)) (fun h303 => ?_)
                  refine r_lconst (pc' := 307) (z := 0) X dL_contained_306 rfl rfl ?_
                  refine r_lstore (pc' := 309) (lc' := [(0, vR G (28, 0)), (1, vI (N : Int)), (2, vI (P : Int)), (3, vI wd), (4, vI 1), (5, vI tb), (6, vI (kk : Int)), (7, vJ 0)]) X [1, 2, 3, 4, 5, 6, 7, 0] dL_contained_307 (by decide) rfl rfl ?_
                  refine r_iconst (pc' := 310) X dL_contained_309 rfl ?_
                  refine r_istore (pc' := 312) (lc' := [(0, vR G (28, 0)), (1, vI (N : Int)), (2, vI (P : Int)), (3, vI wd), (4, vI 1), (5, vI tb), (6, vI (kk : Int)), (7, vJ 0), (9, vI 0)]) X [1, 2, 3, 4, 5, 6, 7, 8, 0] dL_contained_310 (by decide) rfl rfl ?_
                  refine r_iconst (pc' := 313) X dL_contained_312 rfl ?_
                  refine r_istore (pc' := 315) (lc' := [(0, vR G (28, 0)), (1, vI (N : Int)), (2, vI (P : Int)), (3, vI wd), (4, vI 1), (5, vI tb), (6, vI (kk : Int)), (7, vJ 0), (9, vI 0), (10, vI 0)]) X [1, 2, 3, 4, 5, 6, 7, 8, 9, 0] dL_contained_313 (by decide) rfl rfl ?_
                  refine r_iconst (pc' := 316) X dL_contained_315 rfl ?_
                  refine r_istore (pc' := 318) (lc' := [(0, vR G (28, 0)), (1, vI (N : Int)), (2, vI (P : Int)), (3, vI wd), (4, vI 1), (5, vI tb), (6, vI (kk : Int)), (7, vJ 0), (9, vI 0), (10, vI 0), (11, vI 0)]) X [1, 2, 3, 4, 5, 6, 7, 8, 9, 10, 0] dL_contained_316 (by decide) rfl rfl ?_
                  have L318 : ∀ (fu : Nat) (j : Nat) (sa : Int) (pa : Int) (se : Int), N - j < fu → (j ≤ N) → (sa = dot j (M 19 (9 + kk)) (M 0 1)) → (pa = dot j (M 19 (9 + kk)) (M 19 7)) → (se = 0 ∨ se = 1) → (se = 0 → any0 (M 19 (9 + kk)) j) → (se = 1 → ¬ any0 (M 19 (9 + kk)) j) → wV p l e (wrm 8 240 1440) s m args below meth c G 16 Mq (50 + 60 * kk + 5 * j) (6 * (50 + 60 * kk + 5 * j)) (MQ below (wQi G (fun z M1 => z = 1 ∧ ScrEq M M1)) args s 240 1440 (wA G)) 318 [(0, vR G (28, 0)), (1, vI (N : Int)), (2, vI (P : Int)), (3, vI wd), (4, vI 1), (5, vI tb), (6, vI (kk : Int)), (7, vJ sa), (9, vI pa), (10, vI se), (11, vI (j : Int))] [] := by
                    intro fu
                    induction fu with
                    | zero => intro j sa pa se hfu; exact absurd hfu (Nat.not_lt_zero _)
                    | succ fu ih318 =>
                      intro j sa pa se hfu318 hj hsa hpa hse hz h1
                      refine r_iload (pc' := 320) X 10 dL_contained_318 rfl rfl ?_
                      refine r_iload_n (pc' := 321) X 1 dL_contained_320 rfl rfl rfl ?_
                      refine r_icmp_ge (pc' := 324) (tgt := 401) X dL_contained_321 rfl rfl (by omega) (by omega) (fun h321 => ?_) (fun h321 => ?_)
                      · have ejN : j = N := by omega
                        have hkP : kk < P := by omega
                        rw [ejN] at hsa hpa hz h1
                        have epa := hpa
                        have hqk := hQ kk hkP
                        have hdb := dot_bd (A := 99) (B := 1000000) (by decide) (by decide) (n := N) (f := M 19 (9 + kk)) (g := M 0 1) (fun i hi => hC kk i hkP hi) hTr
                        have hpb := dot_bd (A := 99) (B := 99) (by decide) (by decide) (n := N) (f := M 19 (9 + kk)) (g := M 19 7) (fun i hi => hC kk i hkP hi) hE
                        rw [← hsa] at hdb
                        rw [← hpa] at hpb
                        have hx0 := ext_bd (n := N) (f := M 19 (9 + kk)) (lo := M 0 2) (hi := M 0 3) (but := -1) (gr := 0) (A := 99) (B := 1000000) (by decide) (by decide) (fun i hi => hC kk i hkP hi) hLo hUp
                        have hx1 := ext_bd (n := N) (f := M 19 (9 + kk)) (lo := M 0 2) (hi := M 0 3) (but := -1) (gr := 1) (A := 99) (B := 1000000) (by decide) (by decide) (fun i hi => hC kk i hkP hi) hLo hUp
                        have hf0 := fdiv_small (a := ext N (M 19 (9 + kk)) (M 0 2) (M 0 3) (-1) 0) (b := M 19 12 kk) (B := 400000000) (by omega) (by omega) (by decide)
                        have hf1 := fdiv_small (a := ext N (M 19 (9 + kk)) (M 0 2) (M 0 3) (-1) 1) (b := M 19 12 kk) (B := 400000000) (by omega) (by omega) (by decide)
                        have hfr := fdiv_small (a := sa) (b := M 19 12 kk) (B := 400000000) (by omega) (by omega) (by decide)
                        have hri := read_in lo.ck.1 lo.tr hkP
                        rw [← hsa] at hri
                        refine r_lload (pc' := 403) X 7 dL_contained_401 rfl rfl ?_
                        refine r_aload_n (pc' := 404) X 0 dL_contained_403 rfl rfl rfl ?_
                        refine r_iconst (pc' := 405) X dL_contained_404 rfl ?_
                        refine r_iload (pc' := 407) X 6 dL_contained_405 rfl rfl ?_
                        refine r_iconst (pc' := 408) X dL_contained_407 rfl ?_
                        refine w_calli (pc' := 411) (st := [vJ sa]) (w_runSH X (c_L_tryNumber l G Mq hfl N P T qMq.ck (by have := qMq.t; omega) 4 (kk : Int) 0 (by first | omega | assumption | decide) (by first | omega | assumption | decide) (by first | omega | assumption | decide)) cf_L_tryNumber gw_619 rfl rfl ⟨Nat.le_of_ble_eq_true rfl, Nat.le_of_ble_eq_true rfl⟩ rfl rfl (Nat.le_of_ble_eq_true rfl) ⟨by show _ ≤ 240; omega, by show _ ≤ 1440; omega⟩ gw_618 dL_contained_408) rfl (fun z408 M8 h408 => ?_)
                        rcases h408 with h408 | h408 | h408
                        rotate_left 1
                        · exfalso
                          have hd := h408.2.1; clear h408; omega
                        · exfalso
                          exact h408.2.1.2 ⟨⟨by omega, by rw [if_pos (by decide)]; omega⟩, by omega, by unfold colsF; rw [if_neg (by decide), if_neg (by decide)]; omega⟩
                        obtain ⟨-, -, -, hv408, hm408⟩ := h408
                        obtain rfl := hm408.symm
                        simp only [e0Mq, e19Mq] at hv408
                        refine w_eqI (z' := M 19 12 kk) hv408 ?_
                        refine r_i2l (pc' := 412) X dL_contained_411 (by omega) rfl ?_
                        refine w_callj (pc' := 415) (st := []) (w_runS X (c_L_down l G Mq sa (M 19 12 kk) (by omega) (by omega)) cf_L_down gw_981 rfl rfl ⟨Nat.le_of_ble_eq_true rfl, Nat.le_of_ble_eq_true rfl⟩ rfl rfl (Nat.le_of_ble_eq_true rfl) ⟨by show _ ≤ 240; omega, by show _ ≤ 1440; omega⟩ gw_980 dL_contained_412) rfl (fun z412 M9 h412 => ?_)
                        obtain ⟨hv412, hm412⟩ := h412
                        obtain rfl := hm412.symm
                        refine w_eqJ (z' := (sa).fdiv (M 19 12 kk)) hv412 ?_
                        obtain ⟨rd, hrd0⟩ : ∃ q : Int, ((sa).fdiv (M 19 12 kk)) = q := ⟨_, rfl⟩
                        refine w_eqJ (z' := rd) hrd0 ?_
                        rw [hrd0] at hri hfr
                        have hrd : rd = (dot N (M 19 (9 + kk)) (M 0 1)).fdiv (M 19 12 kk) := by rw [← hsa]; exact hrd0.symm
                        refine r_lstore (pc' := 417) (lc' := [(0, vR G (28, 0)), (1, vI (N : Int)), (2, vI (P : Int)), (3, vI wd), (4, vI 1), (5, vI tb), (6, vI (kk : Int)), (7, vJ sa), (9, vI pa), (10, vI se), (11, vJ rd)]) X [1, 2, 3, 4, 5, 6, 7, 8, 9, 10, 0] dL_contained_415 (by decide) rfl rfl ?_
                        have J433 : ∀ (x433 : Int), (x433 = tch N (M 19) (kk + 1)) → wV p l e (wrm 8 240 1440) s m args below meth c G 16 Mq (50 + 60 * kk + 23) (6 * (50 + 60 * kk + 23)) (MQ below (wQi G (fun z M1 => z = 1 ∧ ScrEq M M1)) args s 240 1440 (wA G)) 433 [(0, vR G (28, 0)), (1, vI (N : Int)), (2, vI (P : Int)), (3, vI wd), (4, vI 1), (5, vI tb), (6, vI (kk : Int)), (7, vJ sa), (9, vI pa), (10, vI se), (11, vJ rd)] [vI x433] := by
                          intro x433 hx433
                          refine r_istore (pc' := 435) (lc' := [(0, vR G (28, 0)), (1, vI (N : Int)), (2, vI (P : Int)), (3, vI wd), (4, vI 1), (5, vI x433), (6, vI (kk : Int)), (7, vJ sa), (9, vI pa), (10, vI se), (11, vJ rd)]) X [1, 2, 3, 4, 5, 0, 6, 7, 8, 9, 10] dL_contained_433 (by decide) rfl rfl ?_
                          refine r_aload_n (pc' := 436) X 0 dL_contained_435 rfl rfl rfl ?_
                          refine r_iload (pc' := 438) X 6 dL_contained_436 rfl rfl ?_
                          refine r_iconst (pc' := 439) X dL_contained_438 rfl ?_
                          refine w_calli (pc' := 442) (st := []) (w_runSH X (c_L_tryOutput l G Mq hfl N P T qMq.ck (by have := qMq.t; omega) (kk : Int) 2 (by first | omega | assumption | decide) (by first | omega | assumption | decide)) cf_L_tryOutput gw_377 rfl rfl ⟨Nat.le_of_ble_eq_true rfl, Nat.le_of_ble_eq_true rfl⟩ rfl rfl (Nat.le_of_ble_eq_true rfl) ⟨by show _ ≤ 240; omega, by show _ ≤ 1440; omega⟩ gw_376 dL_contained_439) rfl (fun z439 M10 h439 => ?_)
                          rcases h439 with h439 | h439 | h439 | h439
                          rotate_left 1
                          · exfalso
                            have hd := h439.2.1; clear h439; omega
                          · exfalso
                            have hd := h439.2.1; clear h439; omega
                          · exfalso
                            have hd := h439.2.1; clear h439; omega
                          obtain ⟨-, -, -, hv439, hm439⟩ := h439
                          obtain rfl := hm439.symm
                          simp only [e0Mq, e19Mq] at hv439
                          refine w_eqI (z' := (ext N (M 19 (9 + kk)) (M 0 2) (M 0 3) (-1) 0).fdiv (M 19 12 kk)) hv439 ?_
                          obtain ⟨le, hle⟩ : ∃ q : Int, ((ext N (M 19 (9 + kk)) (M 0 2) (M 0 3) (-1) 0).fdiv (M 19 12 kk)) = q := ⟨_, rfl⟩
                          refine w_eqI (z' := le) hle ?_
                          rw [hle] at hri hf0
                          refine r_istore (pc' := 444) (lc' := [(0, vR G (28, 0)), (1, vI (N : Int)), (2, vI (P : Int)), (3, vI wd), (4, vI 1), (5, vI x433), (6, vI (kk : Int)), (7, vJ sa), (9, vI pa), (10, vI se), (11, vJ rd), (13, vI le)]) X [1, 2, 3, 4, 5, 6, 7, 8, 9, 10, 11, 0] dL_contained_442 (by decide) rfl rfl ?_
                          refine r_aload_n (pc' := 445) X 0 dL_contained_444 rfl rfl rfl ?_
                          refine r_iload (pc' := 447) X 6 dL_contained_445 rfl rfl ?_
                          refine r_iconst (pc' := 448) X dL_contained_447 rfl ?_
                          refine w_calli (pc' := 451) (st := []) (w_runSH X (c_L_tryOutput l G Mq hfl N P T qMq.ck (by have := qMq.t; omega) (kk : Int) 3 (by first | omega | assumption | decide) (by first | omega | assumption | decide)) cf_L_tryOutput gw_377 rfl rfl ⟨Nat.le_of_ble_eq_true rfl, Nat.le_of_ble_eq_true rfl⟩ rfl rfl (Nat.le_of_ble_eq_true rfl) ⟨by show _ ≤ 240; omega, by show _ ≤ 1440; omega⟩ gw_376 dL_contained_448) rfl (fun z448 M11 h448 => ?_)
                          rcases h448 with h448 | h448 | h448 | h448
                          rotate_left 1
                          · exfalso
                            have hd := h448.2.1; clear h448; omega
                          · exfalso
                            have hd := h448.2.1; clear h448; omega
                          · exfalso
                            have hd := h448.2.1; clear h448; omega
                          obtain ⟨-, -, -, hv448, hm448⟩ := h448
                          obtain rfl := hm448.symm
                          simp only [e0Mq, e19Mq] at hv448
                          refine w_eqI (z' := (ext N (M 19 (9 + kk)) (M 0 2) (M 0 3) (-1) 1).fdiv (M 19 12 kk)) hv448 ?_
                          obtain ⟨mo, hmo⟩ : ∃ q : Int, ((ext N (M 19 (9 + kk)) (M 0 2) (M 0 3) (-1) 1).fdiv (M 19 12 kk)) = q := ⟨_, rfl⟩
                          refine w_eqI (z' := mo) hmo ?_
                          rw [hmo] at hri hf1
                          refine r_istore (pc' := 453) (lc' := [(0, vR G (28, 0)), (1, vI (N : Int)), (2, vI (P : Int)), (3, vI wd), (4, vI 1), (5, vI x433), (6, vI (kk : Int)), (7, vJ sa), (9, vI pa), (10, vI se), (11, vJ rd), (13, vI le), (14, vI mo)]) X [1, 2, 3, 4, 5, 6, 7, 8, 9, 10, 11, 12, 0] dL_contained_451 (by decide) rfl rfl ?_
                          refine r_iload (pc' := 455) X 11 dL_contained_453 rfl rfl ?_
                          refine r_i2l (pc' := 456) X dL_contained_455 (by omega) rfl ?_
                          refine r_lload (pc' := 458) X 10 dL_contained_456 rfl rfl ?_
                          refine r_lcmp (pc' := 459) X dL_contained_458 (by omega) (by omega) rfl (fun z458 z458r z458l z458e z458g => ?_)
                          refine r_if_gt (pc' := 462) (tgt := 499) X dL_contained_459 rfl rfl (by omega) (fun h459 => by exfalso; omega) (fun h459 => ?_)
                          refine r_lload (pc' := 464) X 10 dL_contained_462 rfl rfl ?_
                          refine r_iload (pc' := 466) X 12 dL_contained_464 rfl rfl ?_
                          refine r_i2l (pc' := 467) X dL_contained_466 (by omega) rfl ?_
                          refine r_lcmp (pc' := 468) X dL_contained_467 (by omega) (by omega) rfl (fun z467 z467r z467l z467e z467g => ?_)
                          refine r_if_gt (pc' := 471) (tgt := 499) X dL_contained_468 rfl rfl (by omega) (fun h468 => by exfalso; omega) (fun h468 => ?_)
                          have J495 : ∀ (Mr : wM), (ScrEq M Mr) → wV p l e (wrm 8 240 1440) s m args below meth c G 16 Mr (50 + 60 * kk + 28) (6 * (50 + 60 * kk + 28)) (MQ below (wQi G (fun z M1 => z = 1 ∧ ScrEq M M1)) args s 240 1440 (wA G)) 495 [(0, vR G (28, 0)), (1, vI (N : Int)), (2, vI (P : Int)), (3, vI wd), (4, vI 1), (5, vI x433), (6, vI (kk : Int)), (7, vJ sa), (9, vI pa), (10, vI se), (11, vJ rd), (13, vI le), (14, vI mo)] [] := by
                            intro Mr sMr
                            have qMr := lo.scr sMr
                            have e0Mr := sMr.z0
                            have e19Mr := sMr.z19
                            refine r_iconst (pc' := 496) X dL_contained_495 rfl ?_
                            refine r_goto (tgt := 500) X dL_contained_496 rfl ?_
                            refine r_istore (pc' := 502) (lc' := [(0, vR G (28, 0)), (1, vI (N : Int)), (2, vI (P : Int)), (3, vI wd), (4, vI 1), (5, vI x433), (6, vI (kk : Int)), (7, vJ sa), (9, vI pa), (10, vI se), (11, vJ rd), (13, vI le), (14, vI mo)]) X [1, 2, 3, 4, 0, 5, 6, 7, 8, 9, 10, 11, 12] dL_contained_500 (by decide) rfl rfl ?_
                            refine r_aload_n (pc' := 503) X 0 dL_contained_502 rfl rfl rfl ?_
                            refine r_iload (pc' := 505) X 6 dL_contained_503 rfl rfl ?_
                            refine r_lload (pc' := 507) X 10 dL_contained_505 rfl rfl ?_
                            refine r_l2i (pc' := 508) X dL_contained_507 rfl ?_
                            refine w_calli (pc' := 511) (st := []) (w_runSH X (c_L_tryWidthIf l G Mr hfl N P T qMr.ck (by have := qMr.t; omega) qMr.t.1 (kk : Int) rd (by first | omega | assumption | decide) (by first | omega | assumption | decide)) cf_L_tryWidthIf gw_851 rfl rfl ⟨Nat.le_of_ble_eq_true rfl, Nat.le_of_ble_eq_true rfl⟩ rfl rfl (Nat.le_of_ble_eq_true rfl) ⟨by show _ ≤ 240; omega, by show _ ≤ 1440; omega⟩ gw_850 dL_contained_508) rfl (fun z508 M12 h508 => ?_)
                            have hb508 : ScrEq Mr M12 ∧ ((-1000000 ≤ rd ∧ rd ≤ 1000000) → 0 ≤ z508 ∧ z508 ≤ wid N (M 0 2) (M 0 3)) ∧ -2000 ≤ z508 ∧ z508 ≤ 8000000 := by
                              rcases h508 with q | q | q
                              · have hs := q.2.2
                                have q2 := q.2.1
                                simp only [e0Mr, e19Mr] at q2
                                have w := true_read lo.ck.1 lo.ck.2.2 lo.tr hkP hrd
                                rw [Int.toNat_natCast, if_neg w.1] at q2
                                exact ⟨hs, fun _ => by rw [q2]; exact w.2, by rw [q2]; have := w.2; omega, by rw [q2]; have := w.2; omega⟩
                              · exfalso; have hd := q.2.1; clear q; omega
                              · exact ⟨q.2.2, fun w => absurd w q.2.1.2, by rw [q.1]; decide, by rw [q.1]; decide⟩
                            have hs508 := hb508.1
                            have sM12 : ScrEq M M12 := sMr.trans (hs508)
                            have qM12 := lo.scr sM12
                            have e0M12 : M12 0 = M 0 := sM12.z0
                            have e19M12 : M12 19 = M 19 := sM12.z19
                            refine r_istore (pc' := 513) (lc' := [(0, vR G (28, 0)), (1, vI (N : Int)), (2, vI (P : Int)), (3, vI wd), (4, vI 1), (5, vI x433), (6, vI (kk : Int)), (7, vJ sa), (9, vI pa), (10, vI se), (11, vJ rd), (13, vI le), (14, vI mo), (15, vI z508)]) X [1, 2, 3, 4, 5, 6, 7, 8, 9, 10, 11, 12, 13, 0] dL_contained_511 (by decide) rfl rfl ?_
                            have J547 : wV p l e (wrm 8 240 1440) s m args below meth c G 16 M12 (50 + 60 * kk + 30) (6 * (50 + 60 * kk + 30)) (MQ below (wQi G (fun z M1 => z = 1 ∧ ScrEq M M1)) args s 240 1440 (wA G)) 547 [(0, vR G (28, 0)), (1, vI (N : Int)), (2, vI (P : Int)), (3, vI wd), (4, vI 1), (5, vI x433), (6, vI (kk : Int)), (7, vJ sa), (9, vI pa), (10, vI se), (11, vJ rd), (13, vI le), (14, vI mo), (15, vI z508)] [] := by
                              have J581 : ∀ (Ms : wM), (ScrEq M Ms) → wV p l e (wrm 8 240 1440) s m args below meth c G 16 Ms (50 + 60 * kk + 33) (6 * (50 + 60 * kk + 33)) (MQ below (wQi G (fun z M1 => z = 1 ∧ ScrEq M M1)) args s 240 1440 (wA G)) 581 [(0, vR G (28, 0)), (1, vI (N : Int)), (2, vI (P : Int)), (3, vI wd), (4, vI 1), (5, vI x433), (6, vI (kk : Int)), (7, vJ sa), (9, vI pa), (10, vI se), (11, vJ rd), (13, vI le), (14, vI mo), (15, vI z508)] [] := by
                                intro Ms sMs
                                have qMs := lo.scr sMs
                                have e0Ms := sMs.z0
                                have e19Ms := sMs.z19
                                have J615 : ∀ (Mt : wM), (ScrEq M Mt) → wV p l e (wrm 8 240 1440) s m args below meth c G 16 Mt (50 + 60 * kk + 36) (6 * (50 + 60 * kk + 36)) (MQ below (wQi G (fun z M1 => z = 1 ∧ ScrEq M M1)) args s 240 1440 (wA G)) 615 [(0, vR G (28, 0)), (1, vI (N : Int)), (2, vI (P : Int)), (3, vI wd), (4, vI 1), (5, vI x433), (6, vI (kk : Int)), (7, vJ sa), (9, vI pa), (10, vI se), (11, vJ rd), (13, vI le), (14, vI mo), (15, vI z508)] [] := by
                                  intro Mt sMt
                                  have qMt := lo.scr sMt
                                  have e0Mt := sMt.z0
                                  have e19Mt := sMt.z19
                                  refine r_iconst (pc' := 616) X dL_contained_615 rfl ?_
                                  refine r_goto (tgt := 620) X dL_contained_616 rfl ?_
                                  refine r_istore (pc' := 622) (lc' := [(0, vR G (28, 0)), (1, vI (N : Int)), (2, vI (P : Int)), (3, vI wd), (4, vI 1), (5, vI x433), (6, vI (kk : Int)), (7, vJ sa), (9, vI pa), (10, vI se), (11, vJ rd), (13, vI le), (14, vI mo), (15, vI z508)]) X [1, 2, 3, 4, 0, 5, 6, 7, 8, 9, 10, 11, 12, 13] dL_contained_620 (by decide) rfl rfl ?_
                                  refine r_iinc (pc' := 625) (z' := ((kk + 1 : Nat) : Int)) (lc' := [(0, vR G (28, 0)), (1, vI (N : Int)), (2, vI (P : Int)), (3, vI wd), (4, vI 1), (5, vI x433), (6, vI ((kk + 1 : Nat) : Int)), (7, vJ sa), (9, vI pa), (10, vI se), (11, vJ rd), (13, vI le), (14, vI mo), (15, vI z508)]) X 6 [1, 2, 3, 4, 5, 6, 0, 7, 8, 9, 10, 11, 12, 13] dL_contained_622 rfl (by omega) (by decide) rfl rfl ?_
                                  refine r_goto (tgt := 295) X dL_contained_625 rfl ?_
                                  refine w_sub (lc' := [(0, vR G (28, 0)), (1, vI (N : Int)), (2, vI (P : Int)), (3, vI wd), (4, vI 1), (5, vI x433), (6, vI ((kk + 1 : Nat) : Int))]) [0, 1, 2, 3, 4, 5, 6] rfl ?_
                                  refine w_widen (k' := 50 + 60 * (kk + 1)) (n' := 6 * (50 + 60 * (kk + 1))) (by omega) (by omega) ?_
                                  exact ih295 (kk + 1) x433 Mt (by omega) (by omega) hx433 sMt
                                refine r_iload (pc' := 583) X 9 dL_contained_581 rfl rfl ?_
                                refine r_if_eq (pc' := 586) (tgt := 615) X dL_contained_583 rfl rfl (by omega) (fun h583 => ?_) (fun h583 => ?_)
                                · refine w_widen (k' := 50 + 60 * kk + 36) (n' := 6 * (50 + 60 * kk + 36)) (by omega) (by omega) ?_
                                  exact J615 Ms sMs
                                · refine r_iload (pc' := 588) X 11 dL_contained_586 rfl rfl ?_
                                  refine r_ldc (pc' := 590) (z := (-999999)) X gw_987 dL_contained_588 rfl rfl ?_
                                  refine r_icmp_lt (pc' := 593) (tgt := 615) X dL_contained_590 rfl rfl (by omega) (by omega) (fun h590 => ?_) (fun h590 => ?_)
                                  · refine w_widen (k' := 50 + 60 * kk + 36) (n' := 6 * (50 + 60 * kk + 36)) (by omega) (by omega) ?_
                                    exact J615 Ms sMs
                                  · refine r_iload (pc' := 595) X 11 dL_contained_593 rfl rfl ?_
                                    refine r_ldc (pc' := 597) (z := 1000001) X gw_849 dL_contained_595 rfl rfl ?_
                                    refine r_icmp_gt (pc' := 600) (tgt := 615) X dL_contained_597 rfl rfl (by omega) (by omega) (fun h597 => ?_) (fun h597 => ?_)
                                    · refine w_widen (k' := 50 + 60 * kk + 36) (n' := 6 * (50 + 60 * kk + 36)) (by omega) (by omega) ?_
                                      exact J615 Ms sMs
                                    · have hsn := h1 (by omega)
                                      refine r_aload_n (pc' := 601) X 0 dL_contained_600 rfl rfl rfl ?_
                                      refine r_iload (pc' := 603) X 6 dL_contained_601 rfl rfl ?_
                                      refine r_iload (pc' := 605) X 11 dL_contained_603 rfl rfl ?_
                                      refine r_iconst (pc' := 606) X dL_contained_605 rfl ?_
                                      refine r_isub (pc' := 607) X dL_contained_606 rfl ?_
                                      refine w_calli (pc' := 610) (st := []) (w_runSH X (c_L_tryWidthIf l G Ms hfl N P T qMs.ck (by have := qMs.t; omega) qMs.t.1 (kk : Int) (le - 1) (by first | omega | assumption | decide) (by first | omega | assumption | decide)) cf_L_tryWidthIf gw_851 rfl rfl ⟨Nat.le_of_ble_eq_true rfl, Nat.le_of_ble_eq_true rfl⟩ rfl rfl (Nat.le_of_ble_eq_true rfl) ⟨by show _ ≤ 240; omega, by show _ ≤ 1440; omega⟩ gw_850 dL_contained_607) rfl (fun z607 M13 h607 => ?_)
                                      rcases h607 with h607 | h607 | h607
                                      rotate_left 1
                                      · exfalso
                                        have hd := h607.2.1; clear h607; omega
                                      · exfalso
                                        have hd := h607.2.1; clear h607; omega
                                      have hs607 := h607.2.2
                                      simp only [e0Ms, e19Ms] at h607
                                      have sM13 : ScrEq M M13 := sMs.trans (hs607)
                                      have qM13 := lo.scr sM13
                                      have e0M13 : M13 0 = M 0 := sM13.z0
                                      have e19M13 : M13 19 = M 19 := sM13.z19
                                      have e607 : z607 = -9 := by
                                        have q2 := h607.2.1
                                        rw [Int.toNat_natCast, if_pos (by rw [← hle]; exact least_fail (n := 99) lo.ck.1 hkP (sees_of (fun q => hsn q)))] at q2
                                        exact q2
                                      refine r_bipush (pc' := 612) X dL_contained_610 rfl rfl ?_
                                      refine r_icmp_ne (pc' := 615) (tgt := 619) X dL_contained_612 rfl rfl (by omega) (by omega) (fun h612 => by exfalso; omega) (fun h612 => ?_)
                                      refine w_widen (k' := 50 + 60 * kk + 36) (n' := 6 * (50 + 60 * kk + 36)) (by omega) (by omega) ?_
                                      exact J615 M13 sM13
                              refine r_iload (pc' := 549) X 9 dL_contained_547 rfl rfl ?_
                              refine r_if_eq (pc' := 552) (tgt := 581) X dL_contained_549 rfl rfl (by omega) (fun h549 => ?_) (fun h549 => ?_)
                              · refine w_widen (k' := 50 + 60 * kk + 33) (n' := 6 * (50 + 60 * kk + 33)) (by omega) (by omega) ?_
                                exact J581 M12 sM12
                              · refine r_iload (pc' := 554) X 12 dL_contained_552 rfl rfl ?_
                                refine r_ldc (pc' := 556) (z := 999999) X gw_985 dL_contained_554 rfl rfl ?_
                                refine r_icmp_gt (pc' := 559) (tgt := 581) X dL_contained_556 rfl rfl (by omega) (by omega) (fun h556 => ?_) (fun h556 => ?_)
                                · refine w_widen (k' := 50 + 60 * kk + 33) (n' := 6 * (50 + 60 * kk + 33)) (by omega) (by omega) ?_
                                  exact J581 M12 sM12
                                · refine r_iload (pc' := 561) X 12 dL_contained_559 rfl rfl ?_
                                  refine r_ldc (pc' := 563) (z := (-1000001)) X gw_986 dL_contained_561 rfl rfl ?_
                                  refine r_icmp_lt (pc' := 566) (tgt := 581) X dL_contained_563 rfl rfl (by omega) (by omega) (fun h563 => ?_) (fun h563 => ?_)
                                  · refine w_widen (k' := 50 + 60 * kk + 33) (n' := 6 * (50 + 60 * kk + 33)) (by omega) (by omega) ?_
                                    exact J581 M12 sM12
                                  · have hsn := h1 (by omega)
                                    refine r_aload_n (pc' := 567) X 0 dL_contained_566 rfl rfl rfl ?_
                                    refine r_iload (pc' := 569) X 6 dL_contained_567 rfl rfl ?_
                                    refine r_iload (pc' := 571) X 12 dL_contained_569 rfl rfl ?_
                                    refine r_iconst (pc' := 572) X dL_contained_571 rfl ?_
                                    refine r_iadd (pc' := 573) X dL_contained_572 rfl ?_
                                    refine w_calli (pc' := 576) (st := []) (w_runSH X (c_L_tryWidthIf l G M12 hfl N P T qM12.ck (by have := qM12.t; omega) qM12.t.1 (kk : Int) (mo + 1) (by first | omega | assumption | decide) (by first | omega | assumption | decide)) cf_L_tryWidthIf gw_851 rfl rfl ⟨Nat.le_of_ble_eq_true rfl, Nat.le_of_ble_eq_true rfl⟩ rfl rfl (Nat.le_of_ble_eq_true rfl) ⟨by show _ ≤ 240; omega, by show _ ≤ 1440; omega⟩ gw_850 dL_contained_573) rfl (fun z573 M14 h573 => ?_)
                                    rcases h573 with h573 | h573 | h573
                                    rotate_left 1
                                    · exfalso
                                      have hd := h573.2.1; clear h573; omega
                                    · exfalso
                                      have hd := h573.2.1; clear h573; omega
                                    have hs573 := h573.2.2
                                    simp only [e0M12, e19M12] at h573
                                    have sM14 : ScrEq M M14 := sM12.trans (hs573)
                                    have qM14 := lo.scr sM14
                                    have e0M14 : M14 0 = M 0 := sM14.z0
                                    have e19M14 : M14 19 = M 19 := sM14.z19
                                    have e573 : z573 = -9 := by
                                      have q2 := h573.2.1
                                      rw [Int.toNat_natCast, if_pos (by rw [← hmo]; exact most_fail (n := 99) lo.ck.1 hkP (sees_of (fun q => hsn q)))] at q2
                                      exact q2
                                    refine r_bipush (pc' := 578) X dL_contained_576 rfl rfl ?_
                                    refine r_icmp_ne (pc' := 581) (tgt := 619) X dL_contained_578 rfl rfl (by omega) (by omega) (fun h578 => by exfalso; omega) (fun h578 => ?_)
                                    refine w_widen (k' := 50 + 60 * kk + 33) (n' := 6 * (50 + 60 * kk + 33)) (by omega) (by omega) ?_
                                    exact J581 M14 sM14
                            refine r_iload (pc' := 515) X 4 dL_contained_513 rfl rfl ?_
                            refine r_if_eq (pc' := 518) (tgt := 619) X dL_contained_515 rfl rfl (by omega) (fun h515 => absurd h515 (by decide)) (fun h515 => ?_)
                            refine r_lload (pc' := 520) X 10 dL_contained_518 rfl rfl ?_
                            refine r_ldc2 (pc' := 523) (z := 1000000) X gw_983 dL_contained_520 rfl rfl ?_
                            refine r_lcmp (pc' := 524) X dL_contained_523 (by omega) (by omega) rfl (fun z523 z523r z523l z523e z523g => ?_)
                            refine r_if_gt (pc' := 527) (tgt := 547) X dL_contained_524 rfl rfl (by omega) (fun h524 => ?_) (fun h524 => ?_)
                            · refine w_widen (k' := 50 + 60 * kk + 30) (n' := 6 * (50 + 60 * kk + 30)) (by omega) (by omega) ?_
                              exact J547  
                            · refine r_lload (pc' := 529) X 10 dL_contained_527 rfl rfl ?_
                              refine r_ldc2 (pc' := 532) (z := (-1000000)) X gw_984 dL_contained_529 rfl rfl ?_
                              refine r_lcmp (pc' := 533) X dL_contained_532 (by omega) (by omega) rfl (fun z532 z532r z532l z532e z532g => ?_)
                              refine r_if_lt (pc' := 536) (tgt := 547) X dL_contained_533 rfl rfl (by omega) (fun h533 => ?_) (fun h533 => ?_)
                              · refine w_widen (k' := 50 + 60 * kk + 30) (n' := 6 * (50 + 60 * kk + 30)) (by omega) (by omega) ?_
                                exact J547  
                              · refine r_iload (pc' := 538) X 13 dL_contained_536 rfl rfl ?_
                                refine r_if_lt (pc' := 541) (tgt := 619) X dL_contained_538 rfl rfl (by omega) (fun h538 => by exfalso; have := hb508.2.1 (by omega); omega) (fun h538 => ?_)
                                refine r_iload (pc' := 543) X 13 dL_contained_541 rfl rfl ?_
                                refine r_iload_n (pc' := 544) X 3 dL_contained_543 rfl rfl rfl ?_
                                refine r_icmp_gt (pc' := 547) (tgt := 619) X dL_contained_544 rfl rfl (by omega) (by omega) (fun h544 => by exfalso; have := hb508.2.1 (by omega); omega) (fun h544 => ?_)
                                refine w_widen (k' := 50 + 60 * kk + 30) (n' := 6 * (50 + 60 * kk + 30)) (by omega) (by omega) ?_
                                exact J547  
                          refine r_aload_n (pc' := 472) X 0 dL_contained_471 rfl rfl rfl ?_
                          refine r_iload (pc' := 474) X 6 dL_contained_472 rfl rfl ?_
                          refine r_iconst (pc' := 475) X dL_contained_474 rfl ?_
                          refine w_calli (pc' := 478) (st := []) (w_runSH X (c_L_tryOutput l G Mq hfl N P T qMq.ck (by have := qMq.t; omega) (kk : Int) 1 (by first | omega | assumption | decide) (by first | omega | assumption | decide)) cf_L_tryOutput gw_377 rfl rfl ⟨Nat.le_of_ble_eq_true rfl, Nat.le_of_ble_eq_true rfl⟩ rfl rfl (Nat.le_of_ble_eq_true rfl) ⟨by show _ ≤ 240; omega, by show _ ≤ 1440; omega⟩ gw_376 dL_contained_475) rfl (fun z475 M15 h475 => ?_)
                          have hb475 : ScrEq Mq M15 ∧ ((z475 = Mq 0 11 kk ∧ Mq 0 11 kk ≠ -1) ∨ z475 = -1003) := by
                            rcases h475 with q | q | q | q
                            · obtain ⟨-, -, q3, q4, q5⟩ := q
                              rw [q5]
                              exact ⟨ScrEq.rfl, Or.inl ⟨q4, fun w => q3 ⟨by decide, w⟩⟩⟩
                            · exfalso; have hd := q.2.1; clear q; omega
                            · exfalso; have hd := q.2.1; clear q; omega
                            · exact ⟨q.2.2, Or.inr q.1⟩
                          have hs475 := hb475.1
                          have sM15 : ScrEq M M15 := sMq.trans (hs475)
                          have qM15 := lo.scr sM15
                          have e0M15 : M15 0 = M 0 := sM15.z0
                          have e19M15 : M15 19 = M 19 := sM15.z19
                          have hA11 := lo.ck.2.1.2.2.2.2.2.2.1 kk hkP
                          have hTT := lo.t
                          have e475 := hb475.2
                          simp only [e0Mq] at e475
                          refine r_if_ne (pc' := 481) (tgt := 495) X dL_contained_478 rfl rfl (by omega) (fun h478 => ?_) (fun h478 => ?_)
                          · refine w_widen (k' := 50 + 60 * kk + 28) (n' := 6 * (50 + 60 * kk + 28)) (by omega) (by omega) ?_
                            exact J495 M15 sM15
                          · have ag0 : M 0 11 kk = 0 := by rcases e475 with ⟨q, -⟩ | q <;> omega
                            have ag1 : ¬ M 0 11 kk = -1 := by omega
                            have hy0 : M 0 10 kk = rd := by rw [hrd]; exact (lo.tr.2 kk hkP ag0).symm
                            refine r_aload_n (pc' := 482) X 0 dL_contained_481 rfl rfl rfl ?_
                            refine r_iload (pc' := 484) X 6 dL_contained_482 rfl rfl ?_
                            refine r_iconst (pc' := 485) X dL_contained_484 rfl ?_
                            refine w_calli (pc' := 488) (st := []) (w_runSH X (c_L_tryOutput l G M15 hfl N P T qM15.ck (by have := qM15.t; omega) (kk : Int) 0 (by first | omega | assumption | decide) (by first | omega | assumption | decide)) cf_L_tryOutput gw_377 rfl rfl ⟨Nat.le_of_ble_eq_true rfl, Nat.le_of_ble_eq_true rfl⟩ rfl rfl (Nat.le_of_ble_eq_true rfl) ⟨by show _ ≤ 240; omega, by show _ ≤ 1440; omega⟩ gw_376 dL_contained_485) rfl (fun z485 M16 h485 => ?_)
                            rcases h485 with h485 | h485 | h485 | h485
                            rotate_left 1
                            · exfalso
                              have hd := h485.2.1; clear h485; omega
                            · exfalso
                              have hd := h485.2.1; clear h485; omega
                            · exfalso
                              have hd := h485.2.1.2.2.2; simp only [e0M15] at hd; exact ag1 hd
                            obtain ⟨-, -, -, hv485, hm485⟩ := h485
                            obtain rfl := hm485.symm
                            simp only [e0M15, e19M15] at hv485
                            refine w_eqI (z' := M 0 10 kk) hv485 ?_
                            refine r_i2l (pc' := 489) X dL_contained_488 (by omega) rfl ?_
                            refine r_lload (pc' := 491) X 10 dL_contained_489 rfl rfl ?_
                            refine r_lcmp (pc' := 492) X dL_contained_491 (by omega) (by omega) rfl (fun z491 z491r z491l z491e z491g => ?_)
                            refine r_if_ne (pc' := 495) (tgt := 499) X dL_contained_492 rfl rfl (by omega) (fun h492 => by exfalso; omega) (fun h492 => ?_)
                            refine w_widen (k' := 50 + 60 * kk + 28) (n' := 6 * (50 + 60 * kk + 28)) (by omega) (by omega) ?_
                            exact J495 M15 sM15
                        refine r_iload (pc' := 419) X 5 dL_contained_417 rfl rfl ?_
                        refine r_iload (pc' := 421) X 8 dL_contained_419 rfl rfl ?_
                        refine r_if_eq (pc' := 424) (tgt := 431) X dL_contained_421 rfl rfl (by omega) (fun h421 => ?_) (fun h421 => ?_)
                        · refine r_iconst (pc' := 432) X dL_contained_431 rfl ?_
                          refine r_ior (pc' := 433) X dL_contained_432 rfl ?_
                          refine w_widen (k' := 50 + 60 * kk + 23) (n' := 6 * (50 + 60 * kk + 23)) (by omega) (by omega) ?_
                          exact J433 (orI tb 0) (by unfold tch; rw [if_pos (by rw [← epa]; exact h421), orI_0 (by rw [htb]; exact tch_rng kk)]; exact htb)
                        · refine r_iconst (pc' := 425) X dL_contained_424 rfl ?_
                          refine r_iload (pc' := 427) X 6 dL_contained_425 rfl rfl ?_
                          refine r_ishl (pc' := 428) X dL_contained_427 rfl ?_
                          refine r_goto (tgt := 432) X dL_contained_428 rfl ?_
                          refine r_ior (pc' := 433) X dL_contained_432 rfl ?_
                          refine w_widen (k' := 50 + 60 * kk + 23) (n' := 6 * (50 + 60 * kk + 23)) (by omega) (by omega) ?_
                          exact J433 (orI tb (shlI 1 (kk : Int))) (by show _ = (if _ then _ else _); rw [if_neg (by rw [← epa]; exact h421), ← htb])
                      · have J346 : ∀ (x346 : Int), (x346 = 0 ∨ x346 = 1) → (x346 = 0 → any0 (M 19 (9 + kk)) (j + 1)) → (x346 = 1 → ¬ any0 (M 19 (9 + kk)) (j + 1)) → wV p l e (wrm 8 240 1440) s m args below meth c G 16 Mq (50 + 60 * kk + 5 * j + 1) (6 * (50 + 60 * kk + 5 * j + 1)) (MQ below (wQi G (fun z M1 => z = 1 ∧ ScrEq M M1)) args s 240 1440 (wA G)) 346 [(0, vR G (28, 0)), (1, vI (N : Int)), (2, vI (P : Int)), (3, vI wd), (4, vI 1), (5, vI tb), (6, vI (kk : Int)), (7, vJ sa), (9, vI pa), (10, vI se), (11, vI (j : Int))] [vI x346] := by
                          intro x346 hx346 hxz hx1
                          refine r_istore (pc' := 348) (lc' := [(0, vR G (28, 0)), (1, vI (N : Int)), (2, vI (P : Int)), (3, vI wd), (4, vI 1), (5, vI tb), (6, vI (kk : Int)), (7, vJ sa), (9, vI pa), (10, vI x346), (11, vI (j : Int))]) X [1, 2, 3, 4, 5, 6, 7, 8, 9, 0, 10] dL_contained_346 (by decide) rfl rfl ?_
                          have hcj := hC kk j (by omega) (by omega)
                          have hxj := hTr j (by omega)
                          have hej := hE j (by omega)
                          refine r_lload (pc' := 350) X 7 dL_contained_348 rfl rfl ?_
                          refine r_aload_n (pc' := 351) X 0 dL_contained_350 rfl rfl rfl ?_
                          refine r_iconst (pc' := 352) X dL_contained_351 rfl ?_
                          refine r_iload (pc' := 354) X 6 dL_contained_352 rfl rfl ?_
                          refine r_iload (pc' := 356) X 10 dL_contained_354 rfl rfl ?_
                          refine w_calli (pc' := 359) (st := [vJ sa]) (w_runSH X (c_L_tryNumber l G Mq hfl N P T qMq.ck (by have := qMq.t; omega) 3 (kk : Int) (j : Int) (by first | omega | assumption | decide) (by first | omega | assumption | decide) (by first | omega | assumption | decide)) cf_L_tryNumber gw_619 rfl rfl ⟨Nat.le_of_ble_eq_true rfl, Nat.le_of_ble_eq_true rfl⟩ rfl rfl (Nat.le_of_ble_eq_true rfl) ⟨by show _ ≤ 240; omega, by show _ ≤ 1440; omega⟩ gw_618 dL_contained_356) rfl (fun z356 M17 h356 => ?_)
                          rcases h356 with h356 | h356 | h356
                          rotate_left 1
                          · exfalso
                            have hd := h356.2.1; clear h356; omega
                          · exfalso
                            exact h356.2.1.2 ⟨⟨by omega, by rw [if_pos (by decide)]; omega⟩, by omega, by unfold colsF; rw [if_pos (by decide)]; omega⟩
                          obtain ⟨-, -, -, hv356, hm356⟩ := h356
                          obtain rfl := hm356.symm
                          simp only [e0Mq, e19Mq] at hv356
                          refine w_eqI (z' := M 19 (9 + kk) j) hv356 ?_
                          refine r_i2l (pc' := 360) X dL_contained_359 (by omega) rfl ?_
                          refine r_aload_n (pc' := 361) X 0 dL_contained_360 rfl rfl rfl ?_
                          refine r_iload (pc' := 363) X 10 dL_contained_361 rfl rfl ?_
                          refine r_iconst (pc' := 364) X dL_contained_363 rfl ?_
                          refine w_calli (pc' := 367) (st := [vJ (M 19 (9 + kk) j), vJ sa]) (w_runSH X (c_L_tryState l G Mq hfl N P T qMq.ck (by have := qMq.t; omega) (j : Int) 0 (by first | omega | assumption | decide) (by first | omega | assumption | decide)) cf_L_tryState gw_689 rfl rfl ⟨Nat.le_of_ble_eq_true rfl, Nat.le_of_ble_eq_true rfl⟩ rfl rfl (Nat.le_of_ble_eq_true rfl) ⟨by show _ ≤ 240; omega, by show _ ≤ 1440; omega⟩ gw_688 dL_contained_364) rfl (fun z364 M18 h364 => ?_)
                          rcases h364 with h364 | h364 | h364
                          rotate_left 1
                          · exfalso
                            have hd := h364.2.1; clear h364; omega
                          · exfalso
                            have hd := h364.2.1; clear h364; omega
                          obtain ⟨-, -, hv364, hm364⟩ := h364
                          obtain rfl := hm364.symm
                          simp only [e0Mq, e19Mq] at hv364
                          refine w_eqI (z' := M 0 1 j) hv364 ?_
                          refine r_i2l (pc' := 368) X dL_contained_367 (by omega) rfl ?_
                          refine r_lmul (pc' := 369) X dL_contained_368 rfl ?_
                          refine r_ladd (pc' := 370) X dL_contained_369 rfl ?_
                          refine r_lstore (pc' := 372) (lc' := [(0, vR G (28, 0)), (1, vI (N : Int)), (2, vI (P : Int)), (3, vI wd), (4, vI 1), (5, vI tb), (6, vI (kk : Int)), (7, vJ (sa + ((M 19 (9 + kk) j) * (M 0 1 j)))), (9, vI pa), (10, vI x346), (11, vI (j : Int))]) X [1, 2, 3, 4, 5, 6, 7, 0, 8, 9, 10] dL_contained_370 (by decide) rfl rfl ?_
                          refine r_iload (pc' := 374) X 8 dL_contained_372 rfl rfl ?_
                          refine r_aload_n (pc' := 375) X 0 dL_contained_374 rfl rfl rfl ?_
                          refine r_iconst (pc' := 376) X dL_contained_375 rfl ?_
                          refine r_iload (pc' := 378) X 6 dL_contained_376 rfl rfl ?_
                          refine r_iload (pc' := 380) X 10 dL_contained_378 rfl rfl ?_
                          refine w_calli (pc' := 383) (st := [vI pa]) (w_runSH X (c_L_tryNumber l G Mq hfl N P T qMq.ck (by have := qMq.t; omega) 3 (kk : Int) (j : Int) (by first | omega | assumption | decide) (by first | omega | assumption | decide) (by first | omega | assumption | decide)) cf_L_tryNumber gw_619 rfl rfl ⟨Nat.le_of_ble_eq_true rfl, Nat.le_of_ble_eq_true rfl⟩ rfl rfl (Nat.le_of_ble_eq_true rfl) ⟨by show _ ≤ 240; omega, by show _ ≤ 1440; omega⟩ gw_618 dL_contained_380) rfl (fun z380 M19 h380 => ?_)
                          rcases h380 with h380 | h380 | h380
                          rotate_left 1
                          · exfalso
                            have hd := h380.2.1; clear h380; omega
                          · exfalso
                            exact h380.2.1.2 ⟨⟨by omega, by rw [if_pos (by decide)]; omega⟩, by omega, by unfold colsF; rw [if_pos (by decide)]; omega⟩
                          obtain ⟨-, -, -, hv380, hm380⟩ := h380
                          obtain rfl := hm380.symm
                          simp only [e0Mq, e19Mq] at hv380
                          refine w_eqI (z' := M 19 (9 + kk) j) hv380 ?_
                          refine r_aload_n (pc' := 384) X 0 dL_contained_383 rfl rfl rfl ?_
                          refine r_iconst (pc' := 385) X dL_contained_384 rfl ?_
                          refine r_iload (pc' := 387) X 10 dL_contained_385 rfl rfl ?_
                          refine r_iconst (pc' := 388) X dL_contained_387 rfl ?_
                          refine w_calli (pc' := 391) (st := [vI (M 19 (9 + kk) j), vI pa]) (w_runSH X (c_L_tryNumber l G Mq hfl N P T qMq.ck (by have := qMq.t; omega) 2 (j : Int) 0 (by first | omega | assumption | decide) (by first | omega | assumption | decide) (by first | omega | assumption | decide)) cf_L_tryNumber gw_619 rfl rfl ⟨Nat.le_of_ble_eq_true rfl, Nat.le_of_ble_eq_true rfl⟩ rfl rfl (Nat.le_of_ble_eq_true rfl) ⟨by show _ ≤ 240; omega, by show _ ≤ 1440; omega⟩ gw_618 dL_contained_388) rfl (fun z388 M20 h388 => ?_)
                          rcases h388 with h388 | h388 | h388
                          rotate_left 1
                          · exfalso
                            have hd := h388.2.1; clear h388; omega
                          · exfalso
                            exact h388.2.1.2 ⟨⟨by omega, by rw [if_neg (by decide)]; omega⟩, by omega, by unfold colsF; rw [if_neg (by decide), if_neg (by decide)]; omega⟩
                          obtain ⟨-, -, -, hv388, hm388⟩ := h388
                          obtain rfl := hm388.symm
                          simp only [e0Mq, e19Mq] at hv388
                          refine w_eqI (z' := M 19 7 j) hv388 ?_
                          refine r_imul (pc' := 392) X dL_contained_391 rfl ?_
                          refine r_iadd (pc' := 393) X dL_contained_392 rfl ?_
                          refine r_istore (pc' := 395) (lc' := [(0, vR G (28, 0)), (1, vI (N : Int)), (2, vI (P : Int)), (3, vI wd), (4, vI 1), (5, vI tb), (6, vI (kk : Int)), (7, vJ (sa + ((M 19 (9 + kk) j) * (M 0 1 j)))), (9, vI (pa + ((M 19 (9 + kk) j) * (M 19 7 j)))), (10, vI x346), (11, vI (j : Int))]) X [1, 2, 3, 4, 5, 6, 7, 8, 0, 9, 10] dL_contained_393 (by decide) rfl rfl ?_
                          refine r_iinc (pc' := 398) (z' := ((j + 1 : Nat) : Int)) (lc' := [(0, vR G (28, 0)), (1, vI (N : Int)), (2, vI (P : Int)), (3, vI wd), (4, vI 1), (5, vI tb), (6, vI (kk : Int)), (7, vJ (sa + ((M 19 (9 + kk) j) * (M 0 1 j)))), (9, vI (pa + ((M 19 (9 + kk) j) * (M 19 7 j)))), (10, vI x346), (11, vI ((j + 1 : Nat) : Int))]) X 10 [1, 2, 3, 4, 5, 6, 7, 8, 9, 10, 0] dL_contained_395 rfl (by omega) (by decide) rfl rfl ?_
                          refine r_goto (tgt := 318) X dL_contained_398 rfl ?_
                          refine w_widen (k' := 50 + 60 * kk + 5 * (j + 1)) (n' := 6 * (50 + 60 * kk + 5 * (j + 1))) (by omega) (by omega) ?_
                          exact ih318 (j + 1) (sa + ((M 19 (9 + kk) j) * (M 0 1 j))) (pa + ((M 19 (9 + kk) j) * (M 19 7 j))) x346 (by omega) (by omega) (by rw [hsa]; rfl) (by rw [hpa]; rfl) hx346 hxz hx1
                        refine r_iload (pc' := 326) X 9 dL_contained_324 rfl rfl ?_
                        refine r_if_ne (pc' := 329) (tgt := 341) X dL_contained_326 rfl rfl (by omega) (fun h326 => ?_) (fun h326 => ?_)
                        · refine r_iconst (pc' := 342) X dL_contained_341 rfl ?_
                          refine r_goto (tgt := 346) X dL_contained_342 rfl ?_
                          refine w_widen (k' := 50 + 60 * kk + 5 * j + 1) (n' := 6 * (50 + 60 * kk + 5 * j + 1)) (by omega) (by omega) ?_
                          exact J346 1 (Or.inr rfl) (fun h => absurd h (by decide)) (fun _ => any0_up (h1 (by omega)))
                        · have hcj0 := hC kk j (by omega) (by omega)
                          refine r_aload_n (pc' := 330) X 0 dL_contained_329 rfl rfl rfl ?_
                          refine r_iconst (pc' := 331) X dL_contained_330 rfl ?_
                          refine r_iload (pc' := 333) X 6 dL_contained_331 rfl rfl ?_
                          refine r_iload (pc' := 335) X 10 dL_contained_333 rfl rfl ?_
                          refine w_calli (pc' := 338) (st := []) (w_runSH X (c_L_tryNumber l G Mq hfl N P T qMq.ck (by have := qMq.t; omega) 3 (kk : Int) (j : Int) (by first | omega | assumption | decide) (by first | omega | assumption | decide) (by first | omega | assumption | decide)) cf_L_tryNumber gw_619 rfl rfl ⟨Nat.le_of_ble_eq_true rfl, Nat.le_of_ble_eq_true rfl⟩ rfl rfl (Nat.le_of_ble_eq_true rfl) ⟨by show _ ≤ 240; omega, by show _ ≤ 1440; omega⟩ gw_618 dL_contained_335) rfl (fun z335 M21 h335 => ?_)
                          rcases h335 with h335 | h335 | h335
                          rotate_left 1
                          · exfalso
                            have hd := h335.2.1; clear h335; omega
                          · exfalso
                            exact h335.2.1.2 ⟨⟨by omega, by rw [if_pos (by decide)]; omega⟩, by omega, by unfold colsF; rw [if_pos (by decide)]; omega⟩
                          obtain ⟨-, -, -, hv335, hm335⟩ := h335
                          obtain rfl := hm335.symm
                          simp only [e0Mq, e19Mq] at hv335
                          refine w_eqI (z' := M 19 (9 + kk) j) hv335 ?_
                          refine r_if_eq (pc' := 341) (tgt := 345) X dL_contained_338 rfl rfl (by omega) (fun h338 => ?_) (fun h338 => ?_)
                          · refine r_iconst (pc' := 346) X dL_contained_345 rfl ?_
                            refine w_widen (k' := 50 + 60 * kk + 5 * j + 1) (n' := 6 * (50 + 60 * kk + 5 * j + 1)) (by omega) (by omega) ?_
                            exact J346 0 (Or.inl rfl) (fun _ => any0_s (hz (by omega)) h338) (fun h => absurd h (by decide))
                          · refine r_iconst (pc' := 342) X dL_contained_341 rfl ?_
                            refine r_goto (tgt := 346) X dL_contained_342 rfl ?_
                            refine w_widen (k' := 50 + 60 * kk + 5 * j + 1) (n' := 6 * (50 + 60 * kk + 5 * j + 1)) (by omega) (by omega) ?_
                            exact J346 1 (Or.inr rfl) (fun h => absurd h (by decide)) (fun _ q => h338 (q j (by omega)))
                  refine w_widen (k' := 50 + 60 * kk + 5 * 0) (n' := 6 * (50 + 60 * kk + 5 * 0)) (by omega) (by omega) ?_
                  exact L318 ((N - 0) + 1) 0 0 0 0 (Nat.lt_succ_self _) (by omega) rfl rfl (Or.inl rfl) (fun _ x h => absurd h (Nat.not_lt_zero x)) (fun h => absurd h (by decide))
            refine w_widen (k' := 50 + 60 * 0) (n' := 6 * (50 + 60 * 0)) (by omega) (by omega) ?_
            exact L295 ((P - 0) + 1) 0 0 M6 (Nat.lt_succ_self _) (by omega) rfl sM6
          refine r_iload_n (pc' := 260) X 1 dL_contained_259 rfl rfl rfl ?_
          refine r_iconst (pc' := 261) X dL_contained_260 rfl ?_
          refine r_icmp_le (pc' := 264) (tgt := 273) X dL_contained_261 rfl rfl (by omega) (by omega) (fun h261 => ?_) (fun h261 => ?_)
          · refine r_iconst (pc' := 274) X dL_contained_273 rfl ?_
            refine w_widen (k' := 40) (n' := 6 * (40)) (by omega) (by omega) ?_
            exact J274 0 (fun q => by first | rfl | (exfalso; omega)) (by first | (have := hTr 1 (by omega); omega) | decide)
          · refine r_aload_n (pc' := 265) X 0 dL_contained_264 rfl rfl rfl ?_
            refine r_iconst (pc' := 266) X dL_contained_265 rfl ?_
            refine r_iconst (pc' := 267) X dL_contained_266 rfl ?_
            refine w_calli (pc' := 270) (st := [vI ((M 0 3 0) + 1), vR G (28, 0)]) (w_runSH X (c_L_tryState l G M4 hfl N P T qM4.ck (by have := qM4.t; omega) 1 0 (by first | omega | assumption | decide) (by first | omega | assumption | decide)) cf_L_tryState gw_689 rfl rfl ⟨Nat.le_of_ble_eq_true rfl, Nat.le_of_ble_eq_true rfl⟩ rfl rfl (Nat.le_of_ble_eq_true rfl) ⟨by show _ ≤ 240; omega, by show _ ≤ 1440; omega⟩ gw_688 dL_contained_267) rfl (fun z267 M22 h267 => ?_)
            rcases h267 with h267 | h267 | h267
            rotate_left 1
            · exfalso
              have hd := h267.2.1; clear h267; omega
            · exfalso
              have hd := h267.2.1; clear h267; omega
            obtain ⟨-, -, hv267, hm267⟩ := h267
            obtain rfl := hm267.symm
            simp only [e0M4, e19M4] at hv267
            refine w_eqI (z' := M 0 1 1) hv267 ?_
            refine r_goto (tgt := 274) X dL_contained_270 rfl ?_
            refine w_widen (k' := 40) (n' := 6 * (40)) (by omega) (by omega) ?_
            exact J274 (M 0 1 1) (fun q => by first | rfl | (exfalso; omega)) (by first | (have := hTr 1 (by omega); omega) | decide)
        refine r_aload_n (pc' := 192) X 0 dL_contained_191 rfl rfl rfl ?_
        refine r_aload_n (pc' := 193) X 0 dL_contained_192 rfl rfl rfl ?_
        refine r_iconst (pc' := 194) X dL_contained_193 rfl ?_
        refine r_iconst (pc' := 195) X dL_contained_194 rfl ?_
        refine w_calli (pc' := 198) (st := [vR G (28, 0)]) (w_runSH X (c_L_tryState l G M hfl N P T lo.ck (by have := lo.t; omega) 0 0 (by first | omega | assumption | decide) (by first | omega | assumption | decide)) cf_L_tryState gw_689 rfl rfl ⟨Nat.le_of_ble_eq_true rfl, Nat.le_of_ble_eq_true rfl⟩ rfl rfl (Nat.le_of_ble_eq_true rfl) ⟨by show _ ≤ 240; omega, by show _ ≤ 1440; omega⟩ gw_688 dL_contained_195) rfl (fun z195 M23 h195 => ?_)
        rcases h195 with h195 | h195 | h195
        rotate_left 1
        · exfalso
          have hd := h195.2.1; clear h195; omega
        · exfalso
          have hd := h195.2.1; clear h195; omega
        obtain ⟨-, -, hv195, hm195⟩ := h195
        obtain rfl := hm195.symm
        refine w_eqI (z' := M 0 1 0) hv195 ?_
        refine r_iload_n (pc' := 199) X 1 dL_contained_198 rfl rfl rfl ?_
        refine r_iconst (pc' := 200) X dL_contained_199 rfl ?_
        refine r_icmp_le (pc' := 203) (tgt := 212) X dL_contained_200 rfl rfl (by omega) (by omega) (fun h200 => ?_) (fun h200 => ?_)
        · refine r_iconst (pc' := 213) X dL_contained_212 rfl ?_
          refine r_iload_n (pc' := 214) X 1 dL_contained_213 rfl rfl rfl ?_
          refine r_iconst (pc' := 215) X dL_contained_214 rfl ?_
          refine r_icmp_le (pc' := 218) (tgt := 227) X dL_contained_215 rfl rfl (by omega) (by omega) (fun h215 => ?_) (fun h215 => ?_)
          · refine r_iconst (pc' := 228) X dL_contained_227 rfl ?_
            refine r_iload_n (pc' := 229) X 1 dL_contained_228 rfl rfl rfl ?_
            refine r_iconst (pc' := 230) X dL_contained_229 rfl ?_
            refine r_icmp_le (pc' := 233) (tgt := 242) X dL_contained_230 rfl rfl (by omega) (by omega) (fun h230 => ?_) (fun h230 => ?_)
            · refine r_iconst (pc' := 243) X dL_contained_242 rfl ?_
              refine w_widen (k' := 30) (n' := 6 * (30)) (by omega) (by omega) ?_
              exact J243 0 0 0 ⟨fun q => by first | rfl | (exfalso; omega), fun q => by first | rfl | (exfalso; omega)⟩ ⟨fun q => by first | rfl | (exfalso; omega), fun q => by first | rfl | (exfalso; omega)⟩ ⟨fun q => by first | rfl | (exfalso; omega), fun q => by first | rfl | (exfalso; omega)⟩
            · refine r_aload_n (pc' := 234) X 0 dL_contained_233 rfl rfl rfl ?_
              refine r_iconst (pc' := 235) X dL_contained_234 rfl ?_
              refine r_iconst (pc' := 236) X dL_contained_235 rfl ?_
              refine w_calli (pc' := 239) (st := [vI 0, vI 0, vI (M 0 1 0), vR G (28, 0)]) (w_runSH X (c_L_tryState l G M hfl N P T lo.ck (by have := lo.t; omega) 3 0 (by first | omega | assumption | decide) (by first | omega | assumption | decide)) cf_L_tryState gw_689 rfl rfl ⟨Nat.le_of_ble_eq_true rfl, Nat.le_of_ble_eq_true rfl⟩ rfl rfl (Nat.le_of_ble_eq_true rfl) ⟨by show _ ≤ 240; omega, by show _ ≤ 1440; omega⟩ gw_688 dL_contained_236) rfl (fun z236 M24 h236 => ?_)
              rcases h236 with h236 | h236 | h236
              rotate_left 1
              · exfalso
                have hd := h236.2.1; clear h236; omega
              · exfalso
                have hd := h236.2.1; clear h236; omega
              obtain ⟨-, -, hv236, hm236⟩ := h236
              obtain rfl := hm236.symm
              refine w_eqI (z' := M 0 1 3) hv236 ?_
              refine r_goto (tgt := 243) X dL_contained_239 rfl ?_
              refine w_widen (k' := 30) (n' := 6 * (30)) (by omega) (by omega) ?_
              exact J243 0 0 (M 0 1 3) ⟨fun q => by first | rfl | (exfalso; omega), fun q => by first | rfl | (exfalso; omega)⟩ ⟨fun q => by first | rfl | (exfalso; omega), fun q => by first | rfl | (exfalso; omega)⟩ ⟨fun q => by first | rfl | (exfalso; omega), fun q => by first | rfl | (exfalso; omega)⟩
          · refine r_aload_n (pc' := 219) X 0 dL_contained_218 rfl rfl rfl ?_
            refine r_iconst (pc' := 220) X dL_contained_219 rfl ?_
            refine r_iconst (pc' := 221) X dL_contained_220 rfl ?_
            refine w_calli (pc' := 224) (st := [vI 0, vI (M 0 1 0), vR G (28, 0)]) (w_runSH X (c_L_tryState l G M hfl N P T lo.ck (by have := lo.t; omega) 2 0 (by first | omega | assumption | decide) (by first | omega | assumption | decide)) cf_L_tryState gw_689 rfl rfl ⟨Nat.le_of_ble_eq_true rfl, Nat.le_of_ble_eq_true rfl⟩ rfl rfl (Nat.le_of_ble_eq_true rfl) ⟨by show _ ≤ 240; omega, by show _ ≤ 1440; omega⟩ gw_688 dL_contained_221) rfl (fun z221 M25 h221 => ?_)
            rcases h221 with h221 | h221 | h221
            rotate_left 1
            · exfalso
              have hd := h221.2.1; clear h221; omega
            · exfalso
              have hd := h221.2.1; clear h221; omega
            obtain ⟨-, -, hv221, hm221⟩ := h221
            obtain rfl := hm221.symm
            refine w_eqI (z' := M 0 1 2) hv221 ?_
            refine r_goto (tgt := 228) X dL_contained_224 rfl ?_
            refine r_iload_n (pc' := 229) X 1 dL_contained_228 rfl rfl rfl ?_
            refine r_iconst (pc' := 230) X dL_contained_229 rfl ?_
            refine r_icmp_le (pc' := 233) (tgt := 242) X dL_contained_230 rfl rfl (by omega) (by omega) (fun h230 => ?_) (fun h230 => ?_)
            · refine r_iconst (pc' := 243) X dL_contained_242 rfl ?_
              refine w_widen (k' := 30) (n' := 6 * (30)) (by omega) (by omega) ?_
              exact J243 0 (M 0 1 2) 0 ⟨fun q => by first | rfl | (exfalso; omega), fun q => by first | rfl | (exfalso; omega)⟩ ⟨fun q => by first | rfl | (exfalso; omega), fun q => by first | rfl | (exfalso; omega)⟩ ⟨fun q => by first | rfl | (exfalso; omega), fun q => by first | rfl | (exfalso; omega)⟩
            · refine r_aload_n (pc' := 234) X 0 dL_contained_233 rfl rfl rfl ?_
              refine r_iconst (pc' := 235) X dL_contained_234 rfl ?_
              refine r_iconst (pc' := 236) X dL_contained_235 rfl ?_
              refine w_calli (pc' := 239) (st := [vI (M 0 1 2), vI 0, vI (M 0 1 0), vR G (28, 0)]) (w_runSH X (c_L_tryState l G M hfl N P T lo.ck (by have := lo.t; omega) 3 0 (by first | omega | assumption | decide) (by first | omega | assumption | decide)) cf_L_tryState gw_689 rfl rfl ⟨Nat.le_of_ble_eq_true rfl, Nat.le_of_ble_eq_true rfl⟩ rfl rfl (Nat.le_of_ble_eq_true rfl) ⟨by show _ ≤ 240; omega, by show _ ≤ 1440; omega⟩ gw_688 dL_contained_236) rfl (fun z236 M26 h236 => ?_)
              rcases h236 with h236 | h236 | h236
              rotate_left 1
              · exfalso
                have hd := h236.2.1; clear h236; omega
              · exfalso
                have hd := h236.2.1; clear h236; omega
              obtain ⟨-, -, hv236, hm236⟩ := h236
              obtain rfl := hm236.symm
              refine w_eqI (z' := M 0 1 3) hv236 ?_
              refine r_goto (tgt := 243) X dL_contained_239 rfl ?_
              refine w_widen (k' := 30) (n' := 6 * (30)) (by omega) (by omega) ?_
              exact J243 0 (M 0 1 2) (M 0 1 3) ⟨fun q => by first | rfl | (exfalso; omega), fun q => by first | rfl | (exfalso; omega)⟩ ⟨fun q => by first | rfl | (exfalso; omega), fun q => by first | rfl | (exfalso; omega)⟩ ⟨fun q => by first | rfl | (exfalso; omega), fun q => by first | rfl | (exfalso; omega)⟩
        · refine r_aload_n (pc' := 204) X 0 dL_contained_203 rfl rfl rfl ?_
          refine r_iconst (pc' := 205) X dL_contained_204 rfl ?_
          refine r_iconst (pc' := 206) X dL_contained_205 rfl ?_
          refine w_calli (pc' := 209) (st := [vI (M 0 1 0), vR G (28, 0)]) (w_runSH X (c_L_tryState l G M hfl N P T lo.ck (by have := lo.t; omega) 1 0 (by first | omega | assumption | decide) (by first | omega | assumption | decide)) cf_L_tryState gw_689 rfl rfl ⟨Nat.le_of_ble_eq_true rfl, Nat.le_of_ble_eq_true rfl⟩ rfl rfl (Nat.le_of_ble_eq_true rfl) ⟨by show _ ≤ 240; omega, by show _ ≤ 1440; omega⟩ gw_688 dL_contained_206) rfl (fun z206 M27 h206 => ?_)
          rcases h206 with h206 | h206 | h206
          rotate_left 1
          · exfalso
            have hd := h206.2.1; clear h206; omega
          · exfalso
            have hd := h206.2.1; clear h206; omega
          obtain ⟨-, -, hv206, hm206⟩ := h206
          obtain rfl := hm206.symm
          refine w_eqI (z' := M 0 1 1) hv206 ?_
          refine r_goto (tgt := 213) X dL_contained_209 rfl ?_
          refine r_iload_n (pc' := 214) X 1 dL_contained_213 rfl rfl rfl ?_
          refine r_iconst (pc' := 215) X dL_contained_214 rfl ?_
          refine r_icmp_le (pc' := 218) (tgt := 227) X dL_contained_215 rfl rfl (by omega) (by omega) (fun h215 => ?_) (fun h215 => ?_)
          · refine r_iconst (pc' := 228) X dL_contained_227 rfl ?_
            refine r_iload_n (pc' := 229) X 1 dL_contained_228 rfl rfl rfl ?_
            refine r_iconst (pc' := 230) X dL_contained_229 rfl ?_
            refine r_icmp_le (pc' := 233) (tgt := 242) X dL_contained_230 rfl rfl (by omega) (by omega) (fun h230 => ?_) (fun h230 => ?_)
            · refine r_iconst (pc' := 243) X dL_contained_242 rfl ?_
              refine w_widen (k' := 30) (n' := 6 * (30)) (by omega) (by omega) ?_
              exact J243 (M 0 1 1) 0 0 ⟨fun q => by first | rfl | (exfalso; omega), fun q => by first | rfl | (exfalso; omega)⟩ ⟨fun q => by first | rfl | (exfalso; omega), fun q => by first | rfl | (exfalso; omega)⟩ ⟨fun q => by first | rfl | (exfalso; omega), fun q => by first | rfl | (exfalso; omega)⟩
            · refine r_aload_n (pc' := 234) X 0 dL_contained_233 rfl rfl rfl ?_
              refine r_iconst (pc' := 235) X dL_contained_234 rfl ?_
              refine r_iconst (pc' := 236) X dL_contained_235 rfl ?_
              refine w_calli (pc' := 239) (st := [vI 0, vI (M 0 1 1), vI (M 0 1 0), vR G (28, 0)]) (w_runSH X (c_L_tryState l G M hfl N P T lo.ck (by have := lo.t; omega) 3 0 (by first | omega | assumption | decide) (by first | omega | assumption | decide)) cf_L_tryState gw_689 rfl rfl ⟨Nat.le_of_ble_eq_true rfl, Nat.le_of_ble_eq_true rfl⟩ rfl rfl (Nat.le_of_ble_eq_true rfl) ⟨by show _ ≤ 240; omega, by show _ ≤ 1440; omega⟩ gw_688 dL_contained_236) rfl (fun z236 M28 h236 => ?_)
              rcases h236 with h236 | h236 | h236
              rotate_left 1
              · exfalso
                have hd := h236.2.1; clear h236; omega
              · exfalso
                have hd := h236.2.1; clear h236; omega
              obtain ⟨-, -, hv236, hm236⟩ := h236
              obtain rfl := hm236.symm
              refine w_eqI (z' := M 0 1 3) hv236 ?_
              refine r_goto (tgt := 243) X dL_contained_239 rfl ?_
              refine w_widen (k' := 30) (n' := 6 * (30)) (by omega) (by omega) ?_
              exact J243 (M 0 1 1) 0 (M 0 1 3) ⟨fun q => by first | rfl | (exfalso; omega), fun q => by first | rfl | (exfalso; omega)⟩ ⟨fun q => by first | rfl | (exfalso; omega), fun q => by first | rfl | (exfalso; omega)⟩ ⟨fun q => by first | rfl | (exfalso; omega), fun q => by first | rfl | (exfalso; omega)⟩
          · refine r_aload_n (pc' := 219) X 0 dL_contained_218 rfl rfl rfl ?_
            refine r_iconst (pc' := 220) X dL_contained_219 rfl ?_
            refine r_iconst (pc' := 221) X dL_contained_220 rfl ?_
            refine w_calli (pc' := 224) (st := [vI (M 0 1 1), vI (M 0 1 0), vR G (28, 0)]) (w_runSH X (c_L_tryState l G M hfl N P T lo.ck (by have := lo.t; omega) 2 0 (by first | omega | assumption | decide) (by first | omega | assumption | decide)) cf_L_tryState gw_689 rfl rfl ⟨Nat.le_of_ble_eq_true rfl, Nat.le_of_ble_eq_true rfl⟩ rfl rfl (Nat.le_of_ble_eq_true rfl) ⟨by show _ ≤ 240; omega, by show _ ≤ 1440; omega⟩ gw_688 dL_contained_221) rfl (fun z221 M29 h221 => ?_)
            rcases h221 with h221 | h221 | h221
            rotate_left 1
            · exfalso
              have hd := h221.2.1; clear h221; omega
            · exfalso
              have hd := h221.2.1; clear h221; omega
            obtain ⟨-, -, hv221, hm221⟩ := h221
            obtain rfl := hm221.symm
            refine w_eqI (z' := M 0 1 2) hv221 ?_
            refine r_goto (tgt := 228) X dL_contained_224 rfl ?_
            refine r_iload_n (pc' := 229) X 1 dL_contained_228 rfl rfl rfl ?_
            refine r_iconst (pc' := 230) X dL_contained_229 rfl ?_
            refine r_icmp_le (pc' := 233) (tgt := 242) X dL_contained_230 rfl rfl (by omega) (by omega) (fun h230 => ?_) (fun h230 => ?_)
            · refine r_iconst (pc' := 243) X dL_contained_242 rfl ?_
              refine w_widen (k' := 30) (n' := 6 * (30)) (by omega) (by omega) ?_
              exact J243 (M 0 1 1) (M 0 1 2) 0 ⟨fun q => by first | rfl | (exfalso; omega), fun q => by first | rfl | (exfalso; omega)⟩ ⟨fun q => by first | rfl | (exfalso; omega), fun q => by first | rfl | (exfalso; omega)⟩ ⟨fun q => by first | rfl | (exfalso; omega), fun q => by first | rfl | (exfalso; omega)⟩
            · refine r_aload_n (pc' := 234) X 0 dL_contained_233 rfl rfl rfl ?_
              refine r_iconst (pc' := 235) X dL_contained_234 rfl ?_
              refine r_iconst (pc' := 236) X dL_contained_235 rfl ?_
              refine w_calli (pc' := 239) (st := [vI (M 0 1 2), vI (M 0 1 1), vI (M 0 1 0), vR G (28, 0)]) (w_runSH X (c_L_tryState l G M hfl N P T lo.ck (by have := lo.t; omega) 3 0 (by first | omega | assumption | decide) (by first | omega | assumption | decide)) cf_L_tryState gw_689 rfl rfl ⟨Nat.le_of_ble_eq_true rfl, Nat.le_of_ble_eq_true rfl⟩ rfl rfl (Nat.le_of_ble_eq_true rfl) ⟨by show _ ≤ 240; omega, by show _ ≤ 1440; omega⟩ gw_688 dL_contained_236) rfl (fun z236 M30 h236 => ?_)
              rcases h236 with h236 | h236 | h236
              rotate_left 1
              · exfalso
                have hd := h236.2.1; clear h236; omega
              · exfalso
                have hd := h236.2.1; clear h236; omega
              obtain ⟨-, -, hv236, hm236⟩ := h236
              obtain rfl := hm236.symm
              refine w_eqI (z' := M 0 1 3) hv236 ?_
              refine r_goto (tgt := 243) X dL_contained_239 rfl ?_
              refine w_widen (k' := 30) (n' := 6 * (30)) (by omega) (by omega) ?_
              exact J243 (M 0 1 1) (M 0 1 2) (M 0 1 3) ⟨fun q => by first | rfl | (exfalso; omega), fun q => by first | rfl | (exfalso; omega)⟩ ⟨fun q => by first | rfl | (exfalso; omega), fun q => by first | rfl | (exfalso; omega)⟩ ⟨fun q => by first | rfl | (exfalso; omega), fun q => by first | rfl | (exfalso; omega)⟩
      · refine r_iload (pc' := 28) X 4 dL_contained_26 rfl rfl ?_
        refine r_if_eq (pc' := 31) (tgt := 178) X dL_contained_28 rfl rfl (by omega) (fun h28 => absurd h28 (by decide)) (fun h28 => ?_)
        have hbi := lo.box (i := i) (by omega)
        have hii := lo.in (i := i) (by omega)
        have hsi := hSt i (by omega)
        refine r_aload_n (pc' := 32) X 0 dL_contained_31 rfl rfl rfl ?_
        refine r_iload (pc' := 34) X 5 dL_contained_32 rfl rfl ?_
        refine r_iconst (pc' := 35) X dL_contained_34 rfl ?_
        refine w_calli (pc' := 38) (st := []) (w_runSH X (c_L_tryState l G M hfl N P T lo.ck (by have := lo.t; omega) (i : Int) 0 (by first | omega | assumption | decide) (by first | omega | assumption | decide)) cf_L_tryState gw_689 rfl rfl ⟨Nat.le_of_ble_eq_true rfl, Nat.le_of_ble_eq_true rfl⟩ rfl rfl (Nat.le_of_ble_eq_true rfl) ⟨by show _ ≤ 240; omega, by show _ ≤ 1440; omega⟩ gw_688 dL_contained_35) rfl (fun z35 M31 h35 => ?_)
        rcases h35 with h35 | h35 | h35
        rotate_left 1
        · exfalso
          have hd := h35.2.1; clear h35; omega
        · exfalso
          have hd := h35.2.1; clear h35; omega
        obtain ⟨-, -, hv35, hm35⟩ := h35
        obtain rfl := hm35.symm
        refine w_eqI (z' := M 0 1 i) hv35 ?_
        refine r_istore (pc' := 40) (lc' := [(0, vR G (28, 0)), (1, vI (N : Int)), (2, vI (P : Int)), (3, vI wd), (4, vI 1), (5, vI (i : Int)), (6, vI (M 0 1 i))]) X [1, 2, 3, 4, 5, 6, 0] dL_contained_38 (by decide) rfl rfl ?_
        refine r_aload_n (pc' := 41) X 0 dL_contained_40 rfl rfl rfl ?_
        refine r_iload (pc' := 43) X 5 dL_contained_41 rfl rfl ?_
        refine r_iconst (pc' := 44) X dL_contained_43 rfl ?_
        refine w_calli (pc' := 47) (st := []) (w_runSH X (c_L_tryState l G M hfl N P T lo.ck (by have := lo.t; omega) (i : Int) 1 (by first | omega | assumption | decide) (by first | omega | assumption | decide)) cf_L_tryState gw_689 rfl rfl ⟨Nat.le_of_ble_eq_true rfl, Nat.le_of_ble_eq_true rfl⟩ rfl rfl (Nat.le_of_ble_eq_true rfl) ⟨by show _ ≤ 240; omega, by show _ ≤ 1440; omega⟩ gw_688 dL_contained_44) rfl (fun z44 M32 h44 => ?_)
        rcases h44 with h44 | h44 | h44
        rotate_left 1
        · exfalso
          have hd := h44.2.1; clear h44; omega
        · exfalso
          have hd := h44.2.1; clear h44; omega
        obtain ⟨-, -, hv44, hm44⟩ := h44
        obtain rfl := hm44.symm
        refine w_eqI (z' := M 0 2 i) hv44 ?_
        refine r_istore (pc' := 49) (lc' := [(0, vR G (28, 0)), (1, vI (N : Int)), (2, vI (P : Int)), (3, vI wd), (4, vI 1), (5, vI (i : Int)), (6, vI (M 0 1 i)), (7, vI (M 0 2 i))]) X [1, 2, 3, 4, 5, 6, 7, 0] dL_contained_47 (by decide) rfl rfl ?_
        refine r_aload_n (pc' := 50) X 0 dL_contained_49 rfl rfl rfl ?_
        refine r_iload (pc' := 52) X 5 dL_contained_50 rfl rfl ?_
        refine r_iconst (pc' := 53) X dL_contained_52 rfl ?_
        refine w_calli (pc' := 56) (st := []) (w_runSH X (c_L_tryState l G M hfl N P T lo.ck (by have := lo.t; omega) (i : Int) 2 (by first | omega | assumption | decide) (by first | omega | assumption | decide)) cf_L_tryState gw_689 rfl rfl ⟨Nat.le_of_ble_eq_true rfl, Nat.le_of_ble_eq_true rfl⟩ rfl rfl (Nat.le_of_ble_eq_true rfl) ⟨by show _ ≤ 240; omega, by show _ ≤ 1440; omega⟩ gw_688 dL_contained_53) rfl (fun z53 M33 h53 => ?_)
        rcases h53 with h53 | h53 | h53
        rotate_left 1
        · exfalso
          have hd := h53.2.1; clear h53; omega
        · exfalso
          have hd := h53.2.1; clear h53; omega
        obtain ⟨-, -, hv53, hm53⟩ := h53
        obtain rfl := hm53.symm
        refine w_eqI (z' := M 0 3 i) hv53 ?_
        refine r_istore (pc' := 58) (lc' := [(0, vR G (28, 0)), (1, vI (N : Int)), (2, vI (P : Int)), (3, vI wd), (4, vI 1), (5, vI (i : Int)), (6, vI (M 0 1 i)), (7, vI (M 0 2 i)), (8, vI (M 0 3 i))]) X [1, 2, 3, 4, 5, 6, 7, 8, 0] dL_contained_56 (by decide) rfl rfl ?_
        refine r_aload_n (pc' := 59) X 0 dL_contained_58 rfl rfl rfl ?_
        refine r_iload (pc' := 61) X 5 dL_contained_59 rfl rfl ?_
        refine r_iconst (pc' := 62) X dL_contained_61 rfl ?_
        refine w_calli (pc' := 65) (st := []) (w_runSH X (c_L_tryState l G M hfl N P T lo.ck (by have := lo.t; omega) (i : Int) 3 (by first | omega | assumption | decide) (by first | omega | assumption | decide)) cf_L_tryState gw_689 rfl rfl ⟨Nat.le_of_ble_eq_true rfl, Nat.le_of_ble_eq_true rfl⟩ rfl rfl (Nat.le_of_ble_eq_true rfl) ⟨by show _ ≤ 240; omega, by show _ ≤ 1440; omega⟩ gw_688 dL_contained_62) rfl (fun z62 M34 h62 => ?_)
        rcases h62 with h62 | h62 | h62
        rotate_left 1
        · exfalso
          have hd := h62.2.1; clear h62; omega
        · exfalso
          have hd := h62.2.1; clear h62; omega
        obtain ⟨-, -, hv62, hm62⟩ := h62
        obtain rfl := hm62.symm
        refine w_eqI (z' := M 0 4 i) hv62 ?_
        refine r_istore (pc' := 67) (lc' := [(0, vR G (28, 0)), (1, vI (N : Int)), (2, vI (P : Int)), (3, vI wd), (4, vI 1), (5, vI (i : Int)), (6, vI (M 0 1 i)), (7, vI (M 0 2 i)), (8, vI (M 0 3 i)), (9, vI (M 0 4 i))]) X [1, 2, 3, 4, 5, 6, 7, 8, 9, 0] dL_contained_65 (by decide) rfl rfl ?_
        refine r_iload_n (pc' := 68) X 3 dL_contained_67 rfl rfl rfl ?_
        refine r_iload (pc' := 70) X 8 dL_contained_68 rfl rfl ?_
        refine r_iload (pc' := 72) X 7 dL_contained_70 rfl rfl ?_
        refine r_isub (pc' := 73) X dL_contained_72 rfl ?_
        refine r_iadd (pc' := 74) X dL_contained_73 rfl ?_
        refine r_istore_n (pc' := 75) (lc' := [(0, vR G (28, 0)), (1, vI (N : Int)), (2, vI (P : Int)), (3, vI (wd + ((M 0 3 i) - (M 0 2 i)))), (4, vI 1), (5, vI (i : Int)), (6, vI (M 0 1 i)), (7, vI (M 0 2 i)), (8, vI (M 0 3 i)), (9, vI (M 0 4 i))]) X [1, 2, 3, 0, 4, 5, 6, 7, 8, 9] dL_contained_74 rfl (by decide) rfl rfl ?_
        refine r_iload (pc' := 77) X 6 dL_contained_75 rfl rfl ?_
        refine r_iload (pc' := 79) X 7 dL_contained_77 rfl rfl ?_
        refine r_icmp_lt (pc' := 82) (tgt := 169) X dL_contained_79 rfl rfl (by omega) (by omega) (fun h79 => by exfalso; omega) (fun h79 => ?_)
        refine r_iload (pc' := 84) X 6 dL_contained_82 rfl rfl ?_
        refine r_iload (pc' := 86) X 8 dL_contained_84 rfl rfl ?_
        refine r_icmp_gt (pc' := 89) (tgt := 169) X dL_contained_86 rfl rfl (by omega) (by omega) (fun h86 => by exfalso; omega) (fun h86 => ?_)
        refine r_iload (pc' := 91) X 7 dL_contained_89 rfl rfl ?_
        refine r_ldc (pc' := 93) (z := (-1000000)) X gw_976 dL_contained_91 rfl rfl ?_
        refine r_icmp_lt (pc' := 96) (tgt := 169) X dL_contained_93 rfl rfl (by omega) (by omega) (fun h93 => by exfalso; omega) (fun h93 => ?_)
        refine r_iload (pc' := 98) X 8 dL_contained_96 rfl rfl ?_
        refine r_ldc (pc' := 100) (z := 1000000) X gw_977 dL_contained_98 rfl rfl ?_
        refine r_icmp_gt (pc' := 103) (tgt := 169) X dL_contained_100 rfl rfl (by omega) (by omega) (fun h100 => by exfalso; omega) (fun h100 => ?_)
        refine r_iload (pc' := 105) X 9 dL_contained_103 rfl rfl ?_
        refine r_ldc (pc' := 107) (z := (-16000000)) X gw_978 dL_contained_105 rfl rfl ?_
        refine r_icmp_lt (pc' := 110) (tgt := 169) X dL_contained_107 rfl rfl (by omega) (by omega) (fun h107 => by exfalso; omega) (fun h107 => ?_)
        refine r_iload (pc' := 112) X 9 dL_contained_110 rfl rfl ?_
        refine r_ldc (pc' := 114) (z := 16000000) X gw_979 dL_contained_112 rfl rfl ?_
        refine r_icmp_gt (pc' := 117) (tgt := 169) X dL_contained_114 rfl rfl (by omega) (by omega) (fun h114 => by exfalso; omega) (fun h114 => ?_)
        refine r_aload_n (pc' := 118) X 0 dL_contained_117 rfl rfl rfl ?_
        refine r_iload (pc' := 120) X 5 dL_contained_118 rfl rfl ?_
        refine r_iconst (pc' := 121) X dL_contained_120 rfl ?_
        refine w_calli (pc' := 124) (st := []) (w_runSH X (c_L_tryState l G M hfl N P T lo.ck (by have := lo.t; omega) (i : Int) 4 (by first | omega | assumption | decide) (by first | omega | assumption | decide)) cf_L_tryState gw_689 rfl rfl ⟨Nat.le_of_ble_eq_true rfl, Nat.le_of_ble_eq_true rfl⟩ rfl rfl (Nat.le_of_ble_eq_true rfl) ⟨by show _ ≤ 240; omega, by show _ ≤ 1440; omega⟩ gw_688 dL_contained_121) rfl (fun z121 M35 h121 => ?_)
        rcases h121 with h121 | h121 | h121
        rotate_left 1
        · exfalso
          have hd := h121.2.1; clear h121; omega
        · exfalso
          have hd := h121.2.1; clear h121; omega
        obtain ⟨-, -, hv121, hm121⟩ := h121
        obtain rfl := hm121.symm
        have e121 : z121 = max (16 * M 0 2 i) (min (16 * M 0 3 i) (M 0 4 i)) := hv121
        have J162 : ∀ (x162 : Int), (x162 = z121) → wV p l e (wrm 8 240 1440) s m args below meth c G 16 M (7 + 5 * i) (6 * (7 + 5 * i)) (MQ below (wQi G (fun z M1 => z = 1 ∧ ScrEq M M1)) args s 240 1440 (wA G)) 162 [(0, vR G (28, 0)), (1, vI (N : Int)), (2, vI (P : Int)), (3, vI (wd + ((M 0 3 i) - (M 0 2 i)))), (4, vI 1), (5, vI (i : Int)), (6, vI (M 0 1 i)), (7, vI (M 0 2 i)), (8, vI (M 0 3 i)), (9, vI (M 0 4 i))] [vI x162, vI z121] := by
          intro x162 hx162
          refine r_icmp_ne (pc' := 165) (tgt := 169) X dL_contained_162 rfl rfl (by omega) (by omega) (fun h162 => by exfalso; omega) (fun h162 => ?_)
          refine r_iconst (pc' := 166) X dL_contained_165 rfl ?_
          refine r_goto (tgt := 170) X dL_contained_166 rfl ?_
          refine r_istore (pc' := 172) (lc' := [(0, vR G (28, 0)), (1, vI (N : Int)), (2, vI (P : Int)), (3, vI (wd + ((M 0 3 i) - (M 0 2 i)))), (4, vI 1), (5, vI (i : Int)), (6, vI (M 0 1 i)), (7, vI (M 0 2 i)), (8, vI (M 0 3 i)), (9, vI (M 0 4 i))]) X [1, 2, 3, 4, 0, 5, 6, 7, 8, 9] dL_contained_170 (by decide) rfl rfl ?_
          refine r_iinc (pc' := 175) (z' := ((i + 1 : Nat) : Int)) (lc' := [(0, vR G (28, 0)), (1, vI (N : Int)), (2, vI (P : Int)), (3, vI (wd + ((M 0 3 i) - (M 0 2 i)))), (4, vI 1), (5, vI ((i + 1 : Nat) : Int)), (6, vI (M 0 1 i)), (7, vI (M 0 2 i)), (8, vI (M 0 3 i)), (9, vI (M 0 4 i))]) X 5 [1, 2, 3, 4, 5, 0, 6, 7, 8, 9] dL_contained_172 rfl (by omega) (by decide) rfl rfl ?_
          refine r_goto (tgt := 20) X dL_contained_175 rfl ?_
          refine w_sub (lc' := [(0, vR G (28, 0)), (1, vI (N : Int)), (2, vI (P : Int)), (3, vI (wd + ((M 0 3 i) - (M 0 2 i)))), (4, vI 1), (5, vI ((i + 1 : Nat) : Int))]) [0, 1, 2, 3, 4, 5] rfl ?_
          refine w_widen (k' := 2 + 5 * (i + 1)) (n' := 6 * (2 + 5 * (i + 1))) (by omega) (by omega) ?_
          exact ih20 (i + 1) (wd + ((M 0 3 i) - (M 0 2 i))) (by omega) (by omega) (by rw [hwd]; rfl)
        refine r_iload (pc' := 126) X 9 dL_contained_124 rfl rfl ?_
        refine r_bipush (pc' := 128) X dL_contained_126 rfl rfl ?_
        refine r_iload (pc' := 130) X 7 dL_contained_128 rfl rfl ?_
        refine r_imul (pc' := 131) X dL_contained_130 rfl ?_
        refine r_icmp_ge (pc' := 134) (tgt := 142) X dL_contained_131 rfl rfl (by omega) (by omega) (fun h131 => ?_) (fun h131 => ?_)
        · refine r_iload (pc' := 144) X 9 dL_contained_142 rfl rfl ?_
          refine r_bipush (pc' := 146) X dL_contained_144 rfl rfl ?_
          refine r_iload (pc' := 148) X 8 dL_contained_146 rfl rfl ?_
          refine r_imul (pc' := 149) X dL_contained_148 rfl ?_
          refine r_icmp_le (pc' := 152) (tgt := 160) X dL_contained_149 rfl rfl (by omega) (by omega) (fun h149 => ?_) (fun h149 => ?_)
          · refine r_iload (pc' := 162) X 9 dL_contained_160 rfl rfl ?_
            refine w_widen (k' := 7 + 5 * i) (n' := 6 * (7 + 5 * i)) (by omega) (by omega) ?_
            exact J162 (M 0 4 i) (by rw [e121]; omega)
          · refine r_bipush (pc' := 154) X dL_contained_152 rfl rfl ?_
            refine r_iload (pc' := 156) X 8 dL_contained_154 rfl rfl ?_
            refine r_imul (pc' := 157) X dL_contained_156 rfl ?_
            refine r_goto (tgt := 162) X dL_contained_157 rfl ?_
            refine w_widen (k' := 7 + 5 * i) (n' := 6 * (7 + 5 * i)) (by omega) (by omega) ?_
            exact J162 (16 * (M 0 3 i)) (by rw [e121]; omega)
        · refine r_bipush (pc' := 136) X dL_contained_134 rfl rfl ?_
          refine r_iload (pc' := 138) X 7 dL_contained_136 rfl rfl ?_
          refine r_imul (pc' := 139) X dL_contained_138 rfl ?_
          refine r_goto (tgt := 162) X dL_contained_139 rfl ?_
          refine w_widen (k' := 7 + 5 * i) (n' := 6 * (7 + 5 * i)) (by omega) (by omega) ?_
          exact J162 (16 * (M 0 2 i)) (by rw [e121]; omega)
  refine w_widen (k' := 2 + 5 * 0) (n' := 6 * (2 + 5 * 0)) (by omega) (by omega) ?_
  exact L20 ((N - 0) + 1) 0 0 (Nat.lt_succ_self _) (by omega) rfl
