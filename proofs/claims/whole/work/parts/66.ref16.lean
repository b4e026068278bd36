theorem cf_X9_guessOn : wCal yX9_guessOn cX9_guessOn 9 none 2 := ⟨gw_1215, gw_10, by decide, by decide, by rfl⟩
set_option maxRecDepth 100000 in
set_option maxHeartbeats 4000000 in
theorem c_X9_guessOn (l : Launch) (G : wG) (M : wM) (N P : Nat) (pv : Nat → Nat → Int) (hp : PlOk pv N P) (hq : PEq N P pv (M 29)) (jr : Nat) (hrw : wkd 29 jr = some (.inr (0, 48, wNr))) (hj : jr = 13 ∨ jr = 14 ∨ jr = 15) (w : Nat → Nat → Int) (T : Int) (hm : MoOk w N P T) (hT6 : T ≤ 1000000) (hv : REq N P w (M 29 jr)) (u : Int) (hu : -99 ≤ u ∧ u ≤ 99) : Met l yX9_guessOn (gws yX9_guessOn cX9_guessOn 9 none) (wrm 1 0 0) (wPc G M [vR G (29, 0), vR G (29, jr), vI u]) (wQv G (fun M1 => (∀ i, i < N → M1 29 jr (12 + i) = estF N P pv w u i) ∧ ∀ a b x, ¬ (a = 29 ∧ ((b = jr ∧ 12 ≤ x ∧ x < 12 + 4) ∨ b = 19 ∨ b = 20)) → M1 a b x = M a b x)) 0 0 (wA G) := by
  refine wMet (lc := [(0, vR G (29, 0)), (1, vR G (29, jr)), (2, vI u)]) (by decide) (Nat.le_of_ble_eq_true rfl) rfl ?_
  intro p e s m args below meth c X hr
  have X : wX p s m args meth c G 9 "StateObserverModel" cX9_guessOn := X
  obtain ⟨hN, hN1, hN4, hP, hP1, hP3, hA, hB, hE, hC, hQ⟩ := id hp
  obtain ⟨qN, qP, qA, qB, qE, qC, qQ⟩ := id hq
  obtain ⟨hT, hL, hU, hS, hG, hY, hAg, hHo, hBo, hTi, hLi, hLb, hLl, hLh⟩ := id hm
  obtain ⟨v1, v2, v3, v28, v29, v30, v38, v39, v37⟩ := id hv
  refine r_iconst (pc' := 1) X dX9_guessOn_0 rfl ?_
  refine r_istore_n (pc' := 2) (lc' := [(0, vR G (29, 0)), (1, vR G (29, jr)), (2, vI u), (3, vI 0)]) X [1, 2, 3, 0] dX9_guessOn_1 rfl (by decide) rfl rfl ?_
  have L2 : ∀ (fu : Nat) (k : Nat) (Ma : wM), P - k < fu → (k ≤ P) → (∀ a b x, ¬ (a = 29 ∧ b = 20) → Ma a b x = M a b x) → (∀ x, x < k → Ma 29 20 x = devF N pv w x) → wV p l e (wrm 1 0 0) s m args below meth c G 9 Ma 0 0 (MQ below (wQv G (fun M1 => (∀ i, i < N → M1 29 jr (12 + i) = estF N P pv w u i) ∧ ∀ a b x, ¬ (a = 29 ∧ ((b = jr ∧ 12 ≤ x ∧ x < 12 + 4) ∨ b = 19 ∨ b = 20)) → M1 a b x = M a b x)) args s 0 0 (wA G)) 2 [(0, vR G (29, 0)), (1, vR G (29, jr)), (2, vI u), (3, vI (k : Int))] [] := by
    intro fu
    induction fu with
    | zero => intro k Ma hfu; exact absurd hfu (Nat.not_lt_zero _)
    | succ fu ih2 =>
      intro k Ma hfu2 hk hfr hdv
      refine r_iload_n (pc' := 3) X 3 dX9_guessOn_2 rfl rfl rfl ?_
      have hqP : Ma 29 0 6 = P := by rw [hfr 29 0 6 (by omega)]; exact qP
      refine r_aload_n (pc' := 4) X 0 dX9_guessOn_3 rfl rfl rfl ?_
      refine gf_29_outputs (pc' := 7) X gw_973 dX9_guessOn_4 rfl ?_
      refine r_icmp_ge (pc' := 10) (tgt := 102) X dX9_guessOn_7 rfl rfl (by omega) (by omega) (fun h7 => ?_) (fun h7 => ?_)
      · refine r_aload_n (pc' := 103) X 1 dX9_guessOn_102 rfl rfl rfl ?_
        refine r_bipush (pc' := 105) X dX9_guessOn_103 rfl rfl ?_
        refine r_aload_n (pc' := 106) X 0 dX9_guessOn_105 rfl rfl rfl ?_
        refine gf_29_before (pc' := 109) X gw_994 dX9_guessOn_106 rfl ?_
        refine r_iconst (pc' := 110) X dX9_guessOn_109 rfl ?_
        refine r_iconst (pc' := 111) X dX9_guessOn_110 rfl ?_
        refine w_callv (pc' := 114) (st := []) (w_runS X (c_X9_copy l G Ma 29 jr 12 29 19 0 4 48 12 hrw k29_19 (by first | assumption | omega) (by first | assumption | omega) (by first | assumption | omega) (by first | assumption | omega) (by first | assumption | omega)) cf_X9_copy gw_1138 rfl rfl ⟨Nat.le_of_ble_eq_true rfl, Nat.le_of_ble_eq_true rfl⟩ rfl rfl (Nat.le_of_ble_eq_true rfl) ⟨Nat.le_of_ble_eq_true rfl, Nat.le_of_ble_eq_true rfl⟩ gw_1137 dX9_guessOn_111) rfl (fun M1 h111 => ?_)
        refine r_iconst (pc' := 115) X dX9_guessOn_114 rfl ?_
        refine r_istore_n (pc' := 116) (lc' := [(0, vR G (29, 0)), (1, vR G (29, jr)), (2, vI u), (3, vI 0)]) X [1, 2, 3, 0] dX9_guessOn_115 rfl (by decide) rfl rfl ?_
        have L116 : ∀ (fu : Nat) (i : Nat) (Mb : wM), N - i < fu → (i ≤ N) → (∀ a b x, ¬ (a = 29 ∧ ((b = jr ∧ 12 ≤ x ∧ x < 12 + i) ∨ b = 19 ∨ b = 20)) → Mb a b x = M a b x) → (∀ x, x < N → Mb 29 19 x = w 4 x) → (∀ x, x < P → Mb 29 20 x = devF N pv w x) → (∀ x, x < i → Mb 29 jr (12 + x) = estF N P pv w u x) → wV p l e (wrm 1 0 0) s m args below meth c G 9 Mb 0 0 (MQ below (wQv G (fun M1 => (∀ i, i < N → M1 29 jr (12 + i) = estF N P pv w u i) ∧ ∀ a b x, ¬ (a = 29 ∧ ((b = jr ∧ 12 ≤ x ∧ x < 12 + 4) ∨ b = 19 ∨ b = 20)) → M1 a b x = M a b x)) args s 0 0 (wA G)) 116 [(0, vR G (29, 0)), (1, vR G (29, jr)), (2, vI u), (3, vI (i : Int))] [] := by
          intro fu
          induction fu with
          | zero => intro i Mb hfu; exact absurd hfu (Nat.not_lt_zero _)
          | succ fu ih116 =>
            intro i Mb hfu116 hi0 hfr hbe hdv hes
            refine r_iload_n (pc' := 117) X 3 dX9_guessOn_116 rfl rfl rfl ?_
            have hq3 : PEq N P pv (Mb 29) := hq.keep (fun b x q => hfr 29 b x (by omega))
            obtain ⟨sN, sP, sA, sB, sE, sC, sQ⟩ := id hq3
            refine r_aload_n (pc' := 118) X 0 dX9_guessOn_117 rfl rfl rfl ?_
            refine gf_29_states (pc' := 121) X gw_972 dX9_guessOn_118 rfl ?_
            refine r_icmp_ge (pc' := 124) (tgt := 266) X dX9_guessOn_121 rfl rfl (by omega) (by omega) (fun h121 => ?_) (fun h121 => ?_)
            · refine w_vret X hr dX9_guessOn_266 ?_
              try dsimp only
              have ei : i = N := by omega
              subst ei
              exact ⟨hes, fun a b x q => hfr a b x (by omega)⟩
            · refine r_lconst (pc' := 125) (z := 0) X dX9_guessOn_124 rfl rfl ?_
              refine r_lstore (pc' := 127) (lc' := [(0, vR G (29, 0)), (1, vR G (29, jr)), (2, vI u), (3, vI (i : Int)), (4, vJ 0)]) X [1, 2, 3, 4, 0] dX9_guessOn_125 (by decide) rfl rfl ?_
              refine r_lconst (pc' := 128) (z := 0) X dX9_guessOn_127 rfl rfl ?_
              refine r_lstore (pc' := 130) (lc' := [(0, vR G (29, 0)), (1, vR G (29, jr)), (2, vI u), (3, vI (i : Int)), (4, vJ 0), (6, vJ 0)]) X [1, 2, 3, 4, 5, 0] dX9_guessOn_128 (by decide) rfl rfl ?_
              refine r_iconst (pc' := 131) X dX9_guessOn_130 rfl ?_
              refine r_istore (pc' := 133) (lc' := [(0, vR G (29, 0)), (1, vR G (29, jr)), (2, vI u), (3, vI (i : Int)), (4, vJ 0), (6, vJ 0), (8, vI 0)]) X [1, 2, 3, 4, 5, 6, 0] dX9_guessOn_131 (by decide) rfl rfl ?_
              have L133 : ∀ (fu : Nat) (j : Nat) (t : Int), N - j < fu → (j ≤ N) → (t = dot j (pv (2 + i)) (w 4)) → wV p l e (wrm 1 0 0) s m args below meth c G 9 Mb 0 0 (MQ below (wQv G (fun M1 => (∀ i, i < N → M1 29 jr (12 + i) = estF N P pv w u i) ∧ ∀ a b x, ¬ (a = 29 ∧ ((b = jr ∧ 12 ≤ x ∧ x < 12 + 4) ∨ b = 19 ∨ b = 20)) → M1 a b x = M a b x)) args s 0 0 (wA G)) 133 [(0, vR G (29, 0)), (1, vR G (29, jr)), (2, vI u), (3, vI (i : Int)), (4, vJ t), (6, vJ 0), (8, vI (j : Int))] [] := by
                intro fu
                induction fu with
                | zero => intro j t hfu; exact absurd hfu (Nat.not_lt_zero _)
                | succ fu ih133 =>
                  intro j t hfu133 hj0 ht
                  refine r_iload (pc' := 135) X 6 dX9_guessOn_133 rfl rfl ?_
                  refine r_aload_n (pc' := 136) X 0 dX9_guessOn_135 rfl rfl rfl ?_
                  refine gf_29_states (pc' := 139) X gw_972 dX9_guessOn_136 rfl ?_
                  refine r_icmp_ge (pc' := 142) (tgt := 174) X dX9_guessOn_139 rfl rfl (by omega) (by omega) (fun h139 => ?_) (fun h139 => ?_)
                  · refine r_iconst (pc' := 175) X dX9_guessOn_174 rfl ?_
                    refine r_istore (pc' := 177) (lc' := [(0, vR G (29, 0)), (1, vR G (29, jr)), (2, vI u), (3, vI (i : Int)), (4, vJ t), (6, vJ 0), (8, vI 0)]) X [1, 2, 3, 4, 5, 6, 0] dX9_guessOn_175 (by decide) rfl rfl ?_
                    have L177 : ∀ (fu : Nat) (k : Nat) (t2 : Int), P - k < fu → (k ≤ P) → (t2 = dot k (w (6 + i)) (devF N pv w)) → wV p l e (wrm 1 0 0) s m args below meth c G 9 Mb 0 0 (MQ below (wQv G (fun M1 => (∀ i, i < N → M1 29 jr (12 + i) = estF N P pv w u i) ∧ ∀ a b x, ¬ (a = 29 ∧ ((b = jr ∧ 12 ≤ x ∧ x < 12 + 4) ∨ b = 19 ∨ b = 20)) → M1 a b x = M a b x)) args s 0 0 (wA G)) 177 [(0, vR G (29, 0)), (1, vR G (29, jr)), (2, vI u), (3, vI (i : Int)), (4, vJ t), (6, vJ t2), (8, vI (k : Int))] [] := by
                      intro fu
                      induction fu with
                      | zero => intro k t2 hfu; exact absurd hfu (Nat.not_lt_zero _)
                      | succ fu ih177 =>
                        intro k t2 hfu177 hk0 ht2
                        refine r_iload (pc' := 179) X 6 dX9_guessOn_177 rfl rfl ?_
                        refine r_aload_n (pc' := 180) X 0 dX9_guessOn_179 rfl rfl rfl ?_
                        refine gf_29_outputs (pc' := 183) X gw_973 dX9_guessOn_180 rfl ?_
                        refine r_icmp_ge (pc' := 186) (tgt := 217) X dX9_guessOn_183 rfl rfl (by omega) (by omega) (fun h183 => ?_) (fun h183 => ?_)
                        · have qBi := sB i (by omega)
                          have rBi := hB i (by omega)
                          have hd1 := dot_bd (A := 99) (B := 16000000) (by decide) (by decide) (n := N) (f := pv (2 + i)) (g := w 4) (fun x hx => hA i x (by omega) hx) hS
                          have hd2 := dot_bd (A := 99) (B := 1000000000000) (by decide) (by decide) (n := P) (f := w (6 + i)) (g := devF N pv w) (fun x hx => hG i x (by omega) hx) (fun x hx => devF_bd hp hm hx)
                          have hf1 := fdiv_small (a := dot N (pv (2 + i)) (w 4)) (b := 16) (B := 100000000000) (by omega) (by omega) (by decide)
                          have hf2 := fdiv_small (a := dot P (w (6 + i)) (devF N pv w)) (b := 16) (B := 1000000000000000) (by omega) (by omega) (by decide)
                          have hmb := mul_bd (A := 99) (B := 99) (a := pv 6 i) (b := u) (by decide) rBi hu
                          have hmb2 : 16 * pv 6 i * u = 16 * (pv 6 i * u) := Int.mul_assoc _ _ _
                          have ht' : t = dot N (pv (2 + i)) (w 4) := by rw [ht, show j = N by omega]
                          have ht2' : t2 = dot P (w (6 + i)) (devF N pv w) := by rw [ht2, show k = P by omega]
                          rw [← ht'] at hd1 hf1
                          rw [← ht2'] at hd2 hf2
                          rw [← qBi] at hmb hmb2 rBi
                          refine r_aload_n (pc' := 218) X 1 dX9_guessOn_217 rfl rfl rfl ?_
                          refine r_bipush (pc' := 220) X dX9_guessOn_218 rfl rfl ?_
                          refine r_iload_n (pc' := 221) X 3 dX9_guessOn_220 rfl rfl rfl ?_
                          refine r_iadd (pc' := 222) X dX9_guessOn_221 rfl ?_
                          refine r_lload (pc' := 224) X 4 dX9_guessOn_222 rfl rfl ?_
                          refine r_ldc2 (pc' := 227) (z := 16) X gw_1216 dX9_guessOn_224 rfl rfl ?_
                          refine w_callj (pc' := 230) (st := [vI (12 + (i : Int)), vR G (29, jr)]) (w_runS X (c_X9_down l G Mb t 16 (by first | assumption | omega) (by first | assumption | omega)) cf_X9_down gw_1172 rfl rfl ⟨Nat.le_of_ble_eq_true rfl, Nat.le_of_ble_eq_true rfl⟩ rfl rfl (Nat.le_of_ble_eq_true rfl) ⟨Nat.le_of_ble_eq_true rfl, Nat.le_of_ble_eq_true rfl⟩ gw_1171 dX9_guessOn_227) rfl (fun z227 M2 h227 => ?_)
                          obtain rfl := h227.1.symm
                          obtain rfl := h227.2.symm
                          refine r_ldc2 (pc' := 233) (z := 16) X gw_1216 dX9_guessOn_230 rfl rfl ?_
                          refine r_aload_n (pc' := 234) X 0 dX9_guessOn_233 rfl rfl rfl ?_
                          refine gf_29_drive (pc' := 237) X gw_975 dX9_guessOn_234 rfl ?_
                          refine r_iload_n (pc' := 238) X 3 dX9_guessOn_237 rfl rfl rfl ?_
                          refine r_iald (i := i) (pc' := 239) X k29_3 (by omega) (by omega) (by decide) dX9_guessOn_238 rfl ?_
                          refine r_i2l (pc' := 240) X dX9_guessOn_239 (by omega) rfl ?_
                          refine r_lmul (pc' := 241) X dX9_guessOn_240 rfl ?_
                          refine r_iload_n (pc' := 242) X 2 dX9_guessOn_241 rfl rfl rfl ?_
                          refine r_i2l (pc' := 243) X dX9_guessOn_242 (by omega) rfl ?_
                          refine r_lmul (pc' := 244) X dX9_guessOn_243 rfl ?_
                          refine r_ladd (pc' := 245) X dX9_guessOn_244 rfl ?_
                          refine r_lload (pc' := 247) X 5 dX9_guessOn_245 rfl rfl ?_
                          refine r_ldc2 (pc' := 250) (z := 16) X gw_1216 dX9_guessOn_247 rfl rfl ?_
                          refine w_callj (pc' := 253) (st := [vJ (((t.fdiv 16)) + ((16 * (Mb 29 3 i)) * u)), vI (12 + (i : Int)), vR G (29, jr)]) (w_runS X (c_X9_down l G Mb t2 16 (by first | assumption | omega) (by first | assumption | omega)) cf_X9_down gw_1172 rfl rfl ⟨Nat.le_of_ble_eq_true rfl, Nat.le_of_ble_eq_true rfl⟩ rfl rfl (Nat.le_of_ble_eq_true rfl) ⟨Nat.le_of_ble_eq_true rfl, Nat.le_of_ble_eq_true rfl⟩ gw_1171 dX9_guessOn_250) rfl (fun z250 M3 h250 => ?_)
                          obtain rfl := h250.1.symm
                          obtain rfl := h250.2.symm
                          refine r_ladd (pc' := 254) X dX9_guessOn_253 rfl ?_
                          refine r_ldc (pc' := 256) (z := 16000000) X gw_1218 dX9_guessOn_254 rfl rfl ?_
                          refine w_calli (pc' := 259) (st := [vI (12 + (i : Int)), vR G (29, jr)]) (w_runS X (c_X9_limited l G Mb ((((t.fdiv 16)) + ((16 * (Mb 29 3 i)) * u)) + ((t2.fdiv 16))) 16000000 (by first | assumption | omega) (by first | assumption | omega)) cf_X9_limited gw_1220 rfl rfl ⟨Nat.le_of_ble_eq_true rfl, Nat.le_of_ble_eq_true rfl⟩ rfl rfl (Nat.le_of_ble_eq_true rfl) ⟨Nat.le_of_ble_eq_true rfl, Nat.le_of_ble_eq_true rfl⟩ gw_1219 dX9_guessOn_256) rfl (fun z256 M4 h256 => ?_)
                          obtain rfl := h256.1.symm
                          obtain rfl := h256.2.symm
                          refine r_iast (i := (12 + i)) (pc' := 260) X hrw (by omega) (by omega) (by decide) dX9_guessOn_259 rfl (fun M5 hM5 => ?_)
                          refine r_iinc (pc' := 263) (z' := ((i + 1 : Nat) : Int)) (lc' := [(0, vR G (29, 0)), (1, vR G (29, jr)), (2, vI u), (3, vI ((i + 1 : Nat) : Int)), (4, vJ t), (6, vJ t2), (8, vI (k : Int))]) X 3 [1, 2, 3, 0, 4, 5, 6] dX9_guessOn_260 rfl (by omega) (by decide) rfl rfl ?_
                          refine r_goto (tgt := 116) X dX9_guessOn_263 rfl ?_
                          refine w_sub (lc' := [(0, vR G (29, 0)), (1, vR G (29, jr)), (2, vI u), (3, vI ((i + 1 : Nat) : Int))]) [0, 1, 2, 3] rfl ?_
                          exact ih116 (i + 1) M5 (by omega) (by omega) (fun a b x q => by rw [hM5]; unfold wu; rw [if_neg (by omega)]; exact hfr a b x (by omega)) (fun x hx => by rw [hM5, wu_ne (by omega)]; exact hbe x hx) (fun x hx => by rw [hM5, wu_ne (by omega)]; exact hdv x hx) (fun x hx => by rw [hM5]; unfold wu; by_cases q : x = i; rw [if_pos ⟨rfl, rfl, by omega⟩, q, ht, ht2, show j = N by omega, show k = P by omega, qBi]; rfl; rw [if_neg (by omega)]; exact hes x (by omega))
                        · have gk : Mb 29 jr (16 + 3 * i + k) = w (6 + i) k := by rw [hfr 29 jr _ (by omega)]; exact v2 i k (by omega) (by omega)
                          have dk := hdv k (by omega)
                          have rG := hG i k (by omega) (by omega)
                          refine r_lload (pc' := 188) X 5 dX9_guessOn_186 rfl rfl ?_
                          refine r_aload_n (pc' := 189) X 1 dX9_guessOn_188 rfl rfl rfl ?_
                          refine r_bipush (pc' := 191) X dX9_guessOn_189 rfl rfl ?_
                          refine r_iconst (pc' := 192) X dX9_guessOn_191 rfl ?_
                          refine r_iload_n (pc' := 193) X 3 dX9_guessOn_192 rfl rfl rfl ?_
                          refine r_imul (pc' := 194) X dX9_guessOn_193 rfl ?_
                          refine r_iadd (pc' := 195) X dX9_guessOn_194 rfl ?_
                          refine r_iload (pc' := 197) X 6 dX9_guessOn_195 rfl rfl ?_
                          refine r_iadd (pc' := 198) X dX9_guessOn_197 rfl ?_
                          refine r_iald (i := (16 + 3 * i + k)) (pc' := 199) X hrw (by omega) (by omega) (by decide) dX9_guessOn_198 rfl ?_
                          refine r_i2l (pc' := 200) X dX9_guessOn_199 (by omega) rfl ?_
                          refine r_aload_n (pc' := 201) X 0 dX9_guessOn_200 rfl rfl rfl ?_
                          refine gf_29_wrong (pc' := 204) X gw_995 dX9_guessOn_201 rfl ?_
                          refine r_iload (pc' := 206) X 6 dX9_guessOn_204 rfl rfl ?_
                          refine r_lald (i := k) (pc' := 207) X k29_20 (by omega) (by omega) (by decide) dX9_guessOn_206 rfl ?_
                          refine r_lmul (pc' := 208) X dX9_guessOn_207 rfl ?_
                          refine r_ladd (pc' := 209) X dX9_guessOn_208 rfl ?_
                          refine r_lstore (pc' := 211) (lc' := [(0, vR G (29, 0)), (1, vR G (29, jr)), (2, vI u), (3, vI (i : Int)), (4, vJ t), (6, vJ (t2 + ((Mb 29 jr (16 + 3 * i + k)) * (Mb 29 20 k)))), (8, vI (k : Int))]) X [1, 2, 3, 4, 5, 0, 6] dX9_guessOn_209 (by decide) rfl rfl ?_
                          refine r_iinc (pc' := 214) (z' := ((k + 1 : Nat) : Int)) (lc' := [(0, vR G (29, 0)), (1, vR G (29, jr)), (2, vI u), (3, vI (i : Int)), (4, vJ t), (6, vJ (t2 + ((Mb 29 jr (16 + 3 * i + k)) * (Mb 29 20 k)))), (8, vI ((k + 1 : Nat) : Int))]) X 6 [1, 2, 3, 4, 5, 6, 0] dX9_guessOn_211 rfl (by omega) (by decide) rfl rfl ?_
                          refine r_goto (tgt := 177) X dX9_guessOn_214 rfl ?_
                          exact ih177 (k + 1) (t2 + ((Mb 29 jr (16 + 3 * i + k)) * (Mb 29 20 k))) (by omega) (by omega) (by rw [ht2, gk, dk]; rfl)
                    exact L177 ((P - 0) + 1) 0 0 (Nat.lt_succ_self _) (by omega) rfl
                  · have qAj := sA i j (by omega) (by omega)
                    have bej := hbe j (by omega)
                    have rAj := hA i j (by omega) (by omega)
                    have rSj := hS j (by omega)
                    refine r_lload (pc' := 144) X 4 dX9_guessOn_142 rfl rfl ?_
                    refine r_aload_n (pc' := 145) X 0 dX9_guessOn_144 rfl rfl rfl ?_
                    refine gf_29_matrix (pc' := 148) X gw_974 dX9_guessOn_145 rfl ?_
                    refine r_iconst (pc' := 149) X dX9_guessOn_148 rfl ?_
                    refine r_iload_n (pc' := 150) X 3 dX9_guessOn_149 rfl rfl rfl ?_
                    refine r_imul (pc' := 151) X dX9_guessOn_150 rfl ?_
                    refine r_iload (pc' := 153) X 6 dX9_guessOn_151 rfl rfl ?_
                    refine r_iadd (pc' := 154) X dX9_guessOn_153 rfl ?_
                    refine r_iald (i := ((4 * i) + j)) (pc' := 155) X k29_2 (by omega) (by omega) (by decide) dX9_guessOn_154 rfl ?_
                    refine r_i2l (pc' := 156) X dX9_guessOn_155 (by omega) rfl ?_
                    refine r_aload_n (pc' := 157) X 0 dX9_guessOn_156 rfl rfl rfl ?_
                    refine gf_29_before (pc' := 160) X gw_994 dX9_guessOn_157 rfl ?_
                    refine r_iload (pc' := 162) X 6 dX9_guessOn_160 rfl rfl ?_
                    refine r_iald (i := j) (pc' := 163) X k29_19 (by omega) (by omega) (by decide) dX9_guessOn_162 rfl ?_
                    refine r_i2l (pc' := 164) X dX9_guessOn_163 (by omega) rfl ?_
                    refine r_lmul (pc' := 165) X dX9_guessOn_164 rfl ?_
                    refine r_ladd (pc' := 166) X dX9_guessOn_165 rfl ?_
                    refine r_lstore (pc' := 168) (lc' := [(0, vR G (29, 0)), (1, vR G (29, jr)), (2, vI u), (3, vI (i : Int)), (4, vJ (t + ((Mb 29 2 ((4 * i) + j)) * (Mb 29 19 j)))), (6, vJ 0), (8, vI (j : Int))]) X [1, 2, 3, 4, 0, 5, 6] dX9_guessOn_166 (by decide) rfl rfl ?_
                    refine r_iinc (pc' := 171) (z' := ((j + 1 : Nat) : Int)) (lc' := [(0, vR G (29, 0)), (1, vR G (29, jr)), (2, vI u), (3, vI (i : Int)), (4, vJ (t + ((Mb 29 2 ((4 * i) + j)) * (Mb 29 19 j)))), (6, vJ 0), (8, vI ((j + 1 : Nat) : Int))]) X 6 [1, 2, 3, 4, 5, 6, 0] dX9_guessOn_168 rfl (by omega) (by decide) rfl rfl ?_
                    refine r_goto (tgt := 133) X dX9_guessOn_171 rfl ?_
                    exact ih133 (j + 1) (t + ((Mb 29 2 ((4 * i) + j)) * (Mb 29 19 j))) (by omega) (by omega) (by rw [ht, qAj, bej]; rfl)
              exact L133 ((N - 0) + 1) 0 0 (Nat.lt_succ_self _) (by omega) rfl
        exact L116 ((N - 0) + 1) 0 M1 (Nat.lt_succ_self _) (by omega) (fun a b x q => by rw [h111.1 a b (by omega)]; exact hfr a b x (by omega)) (fun x hx => by have q := h111.2.1 x (by omega); rw [Nat.zero_add] at q; rw [q, hfr 29 jr _ (by omega)]; exact (v1 x hx).2.2.2.1) (fun x hx => by rw [h111.1 29 20 (by omega)]; exact hdv x (by omega)) (fun x h => absurd h (Nat.not_lt_zero x))
      · have er : Ma 29 jr = M 29 jr := funext fun x => hfr 29 jr x (by omega)
        have hq2 : PEq N P pv (Ma 29) := hq.keep (fun b x q => hfr 29 b x (by omega))
        have a1 : Ma 29 jr (34 + k) = w 11 k := by rw [er]; exact (v3 k (by omega)).2
        have a2 : Ma 29 jr (31 + k) = w 10 k := by rw [er]; exact (v3 k (by omega)).1
        have a3 : Ma 29 jr 28 = w 0 7 := by rw [er]; exact v28
        have a4 : Ma 29 6 k = pv 12 k := hq2.2.2.2.2.2.2 k (by omega)
        have r1 := hAg k (by omega)
        have r2 := hY k (by omega)
        have r4 := hQ k (by omega)
        refine r_aload_n (pc' := 11) X 1 dX9_guessOn_10 rfl rfl rfl ?_
        refine r_bipush (pc' := 13) X dX9_guessOn_11 rfl rfl ?_
        refine r_iload_n (pc' := 14) X 3 dX9_guessOn_13 rfl rfl rfl ?_
        refine r_iadd (pc' := 15) X dX9_guessOn_14 rfl ?_
        refine r_iald (i := (34 + k)) (pc' := 16) X hrw (by omega) (by omega) (by decide) dX9_guessOn_15 rfl ?_
        refine r_if_lt (pc' := 19) (tgt := 36) X dX9_guessOn_16 rfl rfl (by omega) (fun h16 => ?_) (fun h16 => ?_)
        · refine r_iconst (pc' := 37) X dX9_guessOn_36 rfl ?_
          refine r_istore (pc' := 39) (lc' := [(0, vR G (29, 0)), (1, vR G (29, jr)), (2, vI u), (3, vI (k : Int)), (4, vI 0)]) X [1, 2, 3, 4, 0] dX9_guessOn_37 (by decide) rfl rfl ?_
          refine r_aload_n (pc' := 40) X 0 dX9_guessOn_39 rfl rfl rfl ?_
          refine gf_29_wrong (pc' := 43) X gw_995 dX9_guessOn_40 rfl ?_
          refine r_iload_n (pc' := 44) X 3 dX9_guessOn_43 rfl rfl rfl ?_
          refine r_iload (pc' := 46) X 4 dX9_guessOn_44 rfl rfl ?_
          refine r_if_eq (pc' := 49) (tgt := 94) X dX9_guessOn_46 rfl rfl (by omega) (fun h46 => ?_) (fun h46 => absurd h46 (by decide))
          refine r_lconst (pc' := 95) (z := 0) X dX9_guessOn_94 rfl rfl ?_
          refine r_last (i := k) (pc' := 96) X k29_20 (by omega) (by omega) (by decide) dX9_guessOn_95 rfl (fun M6 hM6 => ?_)
          refine r_iinc (pc' := 99) (z' := ((k + 1 : Nat) : Int)) (lc' := [(0, vR G (29, 0)), (1, vR G (29, jr)), (2, vI u), (3, vI ((k + 1 : Nat) : Int)), (4, vI 0)]) X 3 [1, 2, 3, 0, 4] dX9_guessOn_96 rfl (by omega) (by decide) rfl rfl ?_
          refine r_goto (tgt := 2) X dX9_guessOn_99 rfl ?_
          refine w_sub (lc' := [(0, vR G (29, 0)), (1, vR G (29, jr)), (2, vI u), (3, vI ((k + 1 : Nat) : Int))]) [0, 1, 2, 3] rfl ?_
          exact ih2 (k + 1) M6 (by omega) (by omega) (fun a b x h => by rw [hM6, wu_ne (by omega)]; exact hfr a b x h) (fun x hx => by rw [hM6]; exact up_s hdv (by unfold devF; first | rw [if_pos (by omega)] | (rw [if_neg (by omega), ← a2, ← a4])) hx)
        · refine r_aload_n (pc' := 20) X 1 dX9_guessOn_19 rfl rfl rfl ?_
          refine r_bipush (pc' := 22) X dX9_guessOn_20 rfl rfl ?_
          refine r_iload_n (pc' := 23) X 3 dX9_guessOn_22 rfl rfl rfl ?_
          refine r_iadd (pc' := 24) X dX9_guessOn_23 rfl ?_
          refine r_iald (i := (34 + k)) (pc' := 25) X hrw (by omega) (by omega) (by decide) dX9_guessOn_24 rfl ?_
          refine r_aload_n (pc' := 26) X 1 dX9_guessOn_25 rfl rfl rfl ?_
          refine r_bipush (pc' := 28) X dX9_guessOn_26 rfl rfl ?_
          refine r_iald (i := 28) (pc' := 29) X hrw (by omega) (by omega) (by decide) dX9_guessOn_28 rfl ?_
          refine r_icmp_gt (pc' := 32) (tgt := 36) X dX9_guessOn_29 rfl rfl (by omega) (by omega) (fun h29 => ?_) (fun h29 => ?_)
          · refine r_iconst (pc' := 37) X dX9_guessOn_36 rfl ?_
            refine r_istore (pc' := 39) (lc' := [(0, vR G (29, 0)), (1, vR G (29, jr)), (2, vI u), (3, vI (k : Int)), (4, vI 0)]) X [1, 2, 3, 4, 0] dX9_guessOn_37 (by decide) rfl rfl ?_
            refine r_aload_n (pc' := 40) X 0 dX9_guessOn_39 rfl rfl rfl ?_
            refine gf_29_wrong (pc' := 43) X gw_995 dX9_guessOn_40 rfl ?_
            refine r_iload_n (pc' := 44) X 3 dX9_guessOn_43 rfl rfl rfl ?_
            refine r_iload (pc' := 46) X 4 dX9_guessOn_44 rfl rfl ?_
            refine r_if_eq (pc' := 49) (tgt := 94) X dX9_guessOn_46 rfl rfl (by omega) (fun h46 => ?_) (fun h46 => absurd h46 (by decide))
            refine r_lconst (pc' := 95) (z := 0) X dX9_guessOn_94 rfl rfl ?_
            refine r_last (i := k) (pc' := 96) X k29_20 (by omega) (by omega) (by decide) dX9_guessOn_95 rfl (fun M7 hM7 => ?_)
            refine r_iinc (pc' := 99) (z' := ((k + 1 : Nat) : Int)) (lc' := [(0, vR G (29, 0)), (1, vR G (29, jr)), (2, vI u), (3, vI ((k + 1 : Nat) : Int)), (4, vI 0)]) X 3 [1, 2, 3, 0, 4] dX9_guessOn_96 rfl (by omega) (by decide) rfl rfl ?_
            refine r_goto (tgt := 2) X dX9_guessOn_99 rfl ?_
            refine w_sub (lc' := [(0, vR G (29, 0)), (1, vR G (29, jr)), (2, vI u), (3, vI ((k + 1 : Nat) : Int))]) [0, 1, 2, 3] rfl ?_
            exact ih2 (k + 1) M7 (by omega) (by omega) (fun a b x h => by rw [hM7, wu_ne (by omega)]; exact hfr a b x h) (fun x hx => by rw [hM7]; exact up_s hdv (by unfold devF; first | rw [if_pos (by omega)] | (rw [if_neg (by omega), ← a2, ← a4])) hx)
          · refine r_iconst (pc' := 33) X dX9_guessOn_32 rfl ?_
            refine r_goto (tgt := 37) X dX9_guessOn_33 rfl ?_
            refine r_istore (pc' := 39) (lc' := [(0, vR G (29, 0)), (1, vR G (29, jr)), (2, vI u), (3, vI (k : Int)), (4, vI 1)]) X [1, 2, 3, 4, 0] dX9_guessOn_37 (by decide) rfl rfl ?_
            refine r_aload_n (pc' := 40) X 0 dX9_guessOn_39 rfl rfl rfl ?_
            refine gf_29_wrong (pc' := 43) X gw_995 dX9_guessOn_40 rfl ?_
            refine r_iload_n (pc' := 44) X 3 dX9_guessOn_43 rfl rfl rfl ?_
            refine r_iload (pc' := 46) X 4 dX9_guessOn_44 rfl rfl ?_
            refine r_if_eq (pc' := 49) (tgt := 94) X dX9_guessOn_46 rfl rfl (by omega) (fun h46 => absurd h46 (by decide)) (fun h46 => ?_)
            refine r_ldc2 (pc' := 52) (z := 16) X gw_1216 dX9_guessOn_49 rfl rfl ?_
            refine r_aload_n (pc' := 53) X 0 dX9_guessOn_52 rfl rfl rfl ?_
            refine gf_29_quantum (pc' := 56) X gw_978 dX9_guessOn_53 rfl ?_
            refine r_iload_n (pc' := 57) X 3 dX9_guessOn_56 rfl rfl rfl ?_
            refine r_iald (i := k) (pc' := 58) X k29_6 (by omega) (by omega) (by decide) dX9_guessOn_57 rfl ?_
            refine r_i2l (pc' := 59) X dX9_guessOn_58 (by omega) rfl ?_
            refine r_lmul (pc' := 60) X dX9_guessOn_59 rfl ?_
            refine r_aload_n (pc' := 61) X 1 dX9_guessOn_60 rfl rfl rfl ?_
            refine r_bipush (pc' := 63) X dX9_guessOn_61 rfl rfl ?_
            refine r_iload_n (pc' := 64) X 3 dX9_guessOn_63 rfl rfl rfl ?_
            refine r_iadd (pc' := 65) X dX9_guessOn_64 rfl ?_
            refine r_iald (i := (31 + k)) (pc' := 66) X hrw (by omega) (by omega) (by decide) dX9_guessOn_65 rfl ?_
            refine r_i2l (pc' := 67) X dX9_guessOn_66 (by omega) rfl ?_
            refine r_lmul (pc' := 68) X dX9_guessOn_67 rfl ?_
            refine r_ldc2 (pc' := 71) (z := 8) X gw_1217 dX9_guessOn_68 rfl rfl ?_
            refine r_aload_n (pc' := 72) X 0 dX9_guessOn_71 rfl rfl rfl ?_
            refine gf_29_quantum (pc' := 75) X gw_978 dX9_guessOn_72 rfl ?_
            refine r_iload_n (pc' := 76) X 3 dX9_guessOn_75 rfl rfl rfl ?_
            refine r_iald (i := k) (pc' := 77) X k29_6 (by omega) (by omega) (by decide) dX9_guessOn_76 rfl ?_
            refine r_iconst (pc' := 78) X dX9_guessOn_77 rfl ?_
            refine r_isub (pc' := 79) X dX9_guessOn_78 rfl ?_
            refine r_i2l (pc' := 80) X dX9_guessOn_79 (by omega) rfl ?_
            refine r_lmul (pc' := 81) X dX9_guessOn_80 rfl ?_
            refine r_ladd (pc' := 82) X dX9_guessOn_81 rfl ?_
            refine r_aload_n (pc' := 83) X 0 dX9_guessOn_82 rfl rfl rfl ?_
            refine r_aload_n (pc' := 84) X 1 dX9_guessOn_83 rfl rfl rfl ?_
            refine r_bipush (pc' := 86) X dX9_guessOn_84 rfl rfl ?_
            refine r_iload_n (pc' := 87) X 3 dX9_guessOn_86 rfl rfl rfl ?_
            refine w_callj (pc' := 90) (st := [vJ (((16 * (Ma 29 6 k)) * (Ma 29 jr (31 + k))) + (8 * ((Ma 29 6 k) - 1))), vI (k : Int), vR G (29, 20)]) (w_runV X (c_X9_seenBy l G Ma N P pv (by first | assumption | omega) hq2 jr 12 k hrw (by first | assumption | omega) (by first | assumption | omega) (w 4) (fun i hi => by rw [er]; exact (v1 i hi).2.2.2.1) hS) cf_X9_seenBy k29_0 rfl gw_1192 gp_40 rfl rfl ⟨Nat.le_of_ble_eq_true rfl, Nat.le_of_ble_eq_true rfl⟩ rfl rfl (Nat.le_of_ble_eq_true rfl) ⟨Nat.le_of_ble_eq_true rfl, Nat.le_of_ble_eq_true rfl⟩ gw_1190 dX9_guessOn_87) rfl (fun z87 M8 h87 => ?_)
            obtain rfl := h87.1.symm
            obtain rfl := h87.2.symm
            refine r_lsub (pc' := 91) X dX9_guessOn_90 rfl ?_
            refine r_goto (tgt := 95) X dX9_guessOn_91 rfl ?_
            refine r_last (i := k) (pc' := 96) X k29_20 (by omega) (by omega) (by decide) dX9_guessOn_95 rfl (fun M9 hM9 => ?_)
            refine r_iinc (pc' := 99) (z' := ((k + 1 : Nat) : Int)) (lc' := [(0, vR G (29, 0)), (1, vR G (29, jr)), (2, vI u), (3, vI ((k + 1 : Nat) : Int)), (4, vI 1)]) X 3 [1, 2, 3, 0, 4] dX9_guessOn_96 rfl (by omega) (by decide) rfl rfl ?_
            refine r_goto (tgt := 2) X dX9_guessOn_99 rfl ?_
            refine w_sub (lc' := [(0, vR G (29, 0)), (1, vR G (29, jr)), (2, vI u), (3, vI ((k + 1 : Nat) : Int))]) [0, 1, 2, 3] rfl ?_
            exact ih2 (k + 1) M9 (by omega) (by omega) (fun a b x h => by rw [hM9, wu_ne (by omega)]; exact hfr a b x h) (fun x hx => by rw [hM9]; exact up_s hdv (by unfold devF; first | rw [if_pos (by omega)] | (rw [if_neg (by omega), ← a2, ← a4])) hx)
  exact L2 ((P - 0) + 1) 0 M (Nat.lt_succ_self _) (by omega) (fun _ _ _ _ => rfl) (fun x h => absurd h (Nat.not_lt_zero x))
theorem cf_X9_boundsOn : wCal yX9_boundsOn cX9_boundsOn 5 none 2 := ⟨gw_1225, gw_10, by decide, by decide, by rfl⟩
set_option maxRecDepth 100000 in
set_option maxHeartbeats 4000000 in
theorem c_X9_boundsOn (l : Launch) (G : wG) (M : wM) (N P : Nat) (pv : Nat → Nat → Int) (hp : PlOk pv N P) (hq : PEq N P pv (M 29)) (jr : Nat) (hrw : wkd 29 jr = some (.inr (0, 48, wNr))) (hj : jr = 13 ∨ jr = 14 ∨ jr = 15) (lo hi : Nat → Int) (hlo : ∀ i, i < N → M 29 jr (4 + i) = lo i) (hhi : ∀ i, i < N → M 29 jr (8 + i) = hi i) (hLr : ∀ i, i < N → -1000000 ≤ lo i ∧ lo i ≤ 1000000) (hUr : ∀ i, i < N → -1000000 ≤ hi i ∧ hi i ≤ 1000000) (B : Int) (hB1 : M 29 jr 29 = B) (hBr : 0 ≤ B ∧ B ≤ 99) (u : Int) (hu : -99 ≤ u ∧ u ≤ 99) : Met l yX9_boundsOn (gws yX9_boundsOn cX9_boundsOn 5 none) (wrm 1 0 0) (wPc G M [vR G (29, 0), vR G (29, jr), vI u]) (wQv G (fun M1 => (∀ x, x < N → M1 29 jr (40 + x) = endF N pv lo hi 0 x ∧ M1 29 jr (44 + x) = endF N pv lo hi 1 x) ∧ (∀ x, x < N → M1 29 jr (4 + x) = lowF N pv u B lo hi x ∧ M1 29 jr (8 + x) = uppF N pv u B lo hi x) ∧ (M1 29 jr 37 = 1 ∧ M1 29 jr 38 = u ∧ M1 29 jr 39 = B) ∧ ∀ a b x, ¬ (a = 29 ∧ b = jr ∧ ((40 ≤ x ∧ x < 48) ∨ (4 ≤ x ∧ x < 4 + 4) ∨ (8 ≤ x ∧ x < 8 + 4) ∨ (37 ≤ x ∧ x < 40))) → M1 a b x = M a b x)) 0 0 (wA G) := by
  refine wMet (lc := [(0, vR G (29, 0)), (1, vR G (29, jr)), (2, vI u)]) (by decide) (Nat.le_of_ble_eq_true rfl) rfl ?_
  intro p e s m args below meth c X hr
  have X : wX p s m args meth c G 5 "StateObserverModel" cX9_boundsOn := X
  obtain ⟨hN, hN1, hN4, hP, hP1, hP3, hA, hB, hE, hC, hQ⟩ := id hp
  obtain ⟨qN, qP, qA, qB, qE, qC, qQ⟩ := id hq
  refine r_iconst (pc' := 1) X dX9_boundsOn_0 rfl ?_
  refine r_istore_n (pc' := 2) (lc' := [(0, vR G (29, 0)), (1, vR G (29, jr)), (2, vI u), (3, vI 0)]) X [1, 2, 3, 0] dX9_boundsOn_1 rfl (by decide) rfl rfl ?_
  have L2 : ∀ (fu : Nat) (i : Nat) (Ma : wM), N - i < fu → (i ≤ N) → (∀ a b x, ¬ (a = 29 ∧ b = jr ∧ 40 ≤ x ∧ x < 48) → Ma a b x = M a b x) → (∀ x, x < i → Ma 29 jr (40 + x) = endF N pv lo hi 0 x ∧ Ma 29 jr (44 + x) = endF N pv lo hi 1 x) → wV p l e (wrm 1 0 0) s m args below meth c G 5 Ma 0 0 (MQ below (wQv G (fun M1 => (∀ x, x < N → M1 29 jr (40 + x) = endF N pv lo hi 0 x ∧ M1 29 jr (44 + x) = endF N pv lo hi 1 x) ∧ (∀ x, x < N → M1 29 jr (4 + x) = lowF N pv u B lo hi x ∧ M1 29 jr (8 + x) = uppF N pv u B lo hi x) ∧ (M1 29 jr 37 = 1 ∧ M1 29 jr 38 = u ∧ M1 29 jr 39 = B) ∧ ∀ a b x, ¬ (a = 29 ∧ b = jr ∧ ((40 ≤ x ∧ x < 48) ∨ (4 ≤ x ∧ x < 4 + 4) ∨ (8 ≤ x ∧ x < 8 + 4) ∨ (37 ≤ x ∧ x < 40))) → M1 a b x = M a b x)) args s 0 0 (wA G)) 2 [(0, vR G (29, 0)), (1, vR G (29, jr)), (2, vI u), (3, vI (i : Int))] [] := by
    intro fu
    induction fu with
    | zero => intro i Ma hfu; exact absurd hfu (Nat.not_lt_zero _)
    | succ fu ih2 =>
      intro i Ma hfu2 hi0 hfr hev
      refine r_iload_n (pc' := 3) X 3 dX9_boundsOn_2 rfl rfl rfl ?_
      have hqN : Ma 29 0 5 = N := by rw [hfr 29 0 5 (by omega)]; exact qN
      refine r_aload_n (pc' := 4) X 0 dX9_boundsOn_3 rfl rfl rfl ?_
      refine gf_29_states (pc' := 7) X gw_972 dX9_boundsOn_4 rfl ?_
      refine r_icmp_ge (pc' := 10) (tgt := 72) X dX9_boundsOn_7 rfl rfl (by omega) (by omega) (fun h7 => ?_) (fun h7 => ?_)
      · refine r_iconst (pc' := 73) X dX9_boundsOn_72 rfl ?_
        refine r_istore_n (pc' := 74) (lc' := [(0, vR G (29, 0)), (1, vR G (29, jr)), (2, vI u), (3, vI 0)]) X [1, 2, 3, 0] dX9_boundsOn_73 rfl (by decide) rfl rfl ?_
        have L74 : ∀ (fu : Nat) (i : Nat) (Mb : wM), N - i < fu → (i ≤ N) → (∀ a b x, ¬ (a = 29 ∧ b = jr ∧ ((40 ≤ x ∧ x < 48) ∨ (4 ≤ x ∧ x < 4 + i) ∨ (8 ≤ x ∧ x < 8 + i))) → Mb a b x = M a b x) → (∀ x, x < N → Mb 29 jr (40 + x) = endF N pv lo hi 0 x ∧ Mb 29 jr (44 + x) = endF N pv lo hi 1 x) → (∀ x, x < i → Mb 29 jr (4 + x) = lowF N pv u B lo hi x ∧ Mb 29 jr (8 + x) = uppF N pv u B lo hi x) → wV p l e (wrm 1 0 0) s m args below meth c G 5 Mb 0 0 (MQ below (wQv G (fun M1 => (∀ x, x < N → M1 29 jr (40 + x) = endF N pv lo hi 0 x ∧ M1 29 jr (44 + x) = endF N pv lo hi 1 x) ∧ (∀ x, x < N → M1 29 jr (4 + x) = lowF N pv u B lo hi x ∧ M1 29 jr (8 + x) = uppF N pv u B lo hi x) ∧ (M1 29 jr 37 = 1 ∧ M1 29 jr 38 = u ∧ M1 29 jr 39 = B) ∧ ∀ a b x, ¬ (a = 29 ∧ b = jr ∧ ((40 ≤ x ∧ x < 48) ∨ (4 ≤ x ∧ x < 4 + 4) ∨ (8 ≤ x ∧ x < 8 + 4) ∨ (37 ≤ x ∧ x < 40))) → M1 a b x = M a b x)) args s 0 0 (wA G)) 74 [(0, vR G (29, 0)), (1, vR G (29, jr)), (2, vI u), (3, vI (i : Int))] [] := by
          intro fu
          induction fu with
          | zero => intro i Mb hfu; exact absurd hfu (Nat.not_lt_zero _)
          | succ fu ih74 =>
            intro i Mb hfu74 hi0 hfr hev hlu
            refine r_iload_n (pc' := 75) X 3 dX9_boundsOn_74 rfl rfl rfl ?_
            have hqN : Mb 29 0 5 = N := by rw [hfr 29 0 5 (by omega)]; exact qN
            refine r_aload_n (pc' := 76) X 0 dX9_boundsOn_75 rfl rfl rfl ?_
            refine gf_29_states (pc' := 79) X gw_972 dX9_boundsOn_76 rfl ?_
            refine r_icmp_ge (pc' := 82) (tgt := 169) X dX9_boundsOn_79 rfl rfl (by omega) (by omega) (fun h79 => ?_) (fun h79 => ?_)
            · refine r_aload_n (pc' := 170) X 1 dX9_boundsOn_169 rfl rfl rfl ?_
              refine r_bipush (pc' := 172) X dX9_boundsOn_170 rfl rfl ?_
              refine r_iconst (pc' := 173) X dX9_boundsOn_172 rfl ?_
              refine r_iast (i := 37) (pc' := 174) X hrw (by omega) (by omega) (by decide) dX9_boundsOn_173 rfl (fun M1 hM1 => ?_)
              refine r_aload_n (pc' := 175) X 1 dX9_boundsOn_174 rfl rfl rfl ?_
              refine r_bipush (pc' := 177) X dX9_boundsOn_175 rfl rfl ?_
              refine r_iload_n (pc' := 178) X 2 dX9_boundsOn_177 rfl rfl rfl ?_
              refine r_iast (i := 38) (pc' := 179) X hrw (by omega) (by omega) (by decide) dX9_boundsOn_178 rfl (fun M2 hM2 => ?_)
              refine r_aload_n (pc' := 180) X 1 dX9_boundsOn_179 rfl rfl rfl ?_
              refine r_bipush (pc' := 182) X dX9_boundsOn_180 rfl rfl ?_
              refine r_aload_n (pc' := 183) X 1 dX9_boundsOn_182 rfl rfl rfl ?_
              refine r_bipush (pc' := 185) X dX9_boundsOn_183 rfl rfl ?_
              refine r_iald (i := 29) (pc' := 186) X hrw (by omega) (by omega) (by decide) dX9_boundsOn_185 rfl ?_
              refine r_iast (i := 39) (pc' := 187) X hrw (by omega) (by omega) (by decide) dX9_boundsOn_186 rfl (fun M3 hM3 => ?_)
              refine w_vret X hr dX9_boundsOn_187 ?_
              try dsimp only
              have ei : i = N := by omega
              subst ei
              have e3 : ∀ a b x, ¬ (a = 29 ∧ b = jr ∧ 37 ≤ x ∧ x < 40) → M3 a b x = Mb a b x := fun a b x q => by
                rw [hM3]; unfold wu; rw [if_neg (by omega), hM2]; unfold wu; rw [if_neg (by omega), hM1]; unfold wu; rw [if_neg (by omega)]
              refine ⟨fun x hx => by rw [e3 29 jr _ (by omega), e3 29 jr _ (by omega)]; exact hev x hx, fun x hx => by rw [e3 29 jr _ (by omega), e3 29 jr _ (by omega)]; exact hlu x hx, ⟨?_, ?_, ?_⟩, fun a b x q => by rw [e3 a b x (by omega)]; exact hfr a b x (by omega)⟩
              · rw [hM3]; unfold wu; rw [if_neg (by omega), hM2]; unfold wu; rw [if_neg (by omega), hM1]; unfold wu; rw [if_pos ⟨rfl, rfl, rfl⟩]
              · rw [hM3]; unfold wu; rw [if_neg (by omega), hM2]; unfold wu; rw [if_pos ⟨rfl, rfl, rfl⟩]
              · rw [hM3]; unfold wu; rw [if_pos ⟨rfl, rfl, rfl⟩, hM2]; unfold wu; rw [if_neg (by omega), hM1]; unfold wu; rw [if_neg (by omega), hfr 29 jr 29 (by omega)]; exact hB1
            · have hq5 : PEq N P pv (Mb 29) := hq.keep (fun b x q => hfr 29 b x (by omega))
              have sE := hq5.2.2.2.2.1 i (by omega)
              have sB := hq5.2.2.2.1 i (by omega)
              have hev1 := hev i (by omega)
              have eB : Mb 29 jr 29 = B := by rw [hfr 29 jr 29 (by omega)]; exact hB1
              have rE := hE i (by omega)
              have rB := hB i (by omega)
              have hm1 := mul_bd (A := 99) (B := 99) (a := pv 6 i) (b := u) (by decide) rB hu
              have hm3 := mul_bd (A := 99) (B := 99) (a := ((pv 7 i).natAbs : Int)) (b := B) (by decide) (by omega) (by omega)
              have hb0 := endF_bd (gr := 0) hp hLr hUr (show i < N by omega)
              have hb1 := endF_bd (gr := 1) hp hLr hUr (show i < N by omega)
              rw [← sE, ← eB] at hm3
              rw [← sB] at hm1
              rw [← hev1.1] at hb0
              rw [← hev1.2] at hb1
              refine r_aload_n (pc' := 83) X 0 dX9_boundsOn_82 rfl rfl rfl ?_
              refine gf_29_push (pc' := 86) X gw_976 dX9_boundsOn_83 rfl ?_
              refine r_iload_n (pc' := 87) X 3 dX9_boundsOn_86 rfl rfl rfl ?_
              refine r_iald (i := i) (pc' := 88) X k29_4 (by omega) (by omega) (by decide) dX9_boundsOn_87 rfl ?_
              refine w_calli (pc' := 91) (st := []) (w_runS X (c_X9_size l G Mb (Mb 29 4 i) (by first | assumption | omega)) cf_X9_size gw_1227 rfl rfl ⟨Nat.le_of_ble_eq_true rfl, Nat.le_of_ble_eq_true rfl⟩ rfl rfl (Nat.le_of_ble_eq_true rfl) ⟨Nat.le_of_ble_eq_true rfl, Nat.le_of_ble_eq_true rfl⟩ gw_1226 dX9_boundsOn_88) rfl (fun z88 M4 h88 => ?_)
              obtain rfl := h88.1.symm
              obtain rfl := h88.2.symm
              refine r_aload_n (pc' := 92) X 1 dX9_boundsOn_91 rfl rfl rfl ?_
              refine r_bipush (pc' := 94) X dX9_boundsOn_92 rfl rfl ?_
              refine r_iald (i := 29) (pc' := 95) X hrw (by omega) (by omega) (by decide) dX9_boundsOn_94 rfl ?_
              refine r_imul (pc' := 96) X dX9_boundsOn_95 rfl ?_
              refine r_istore (pc' := 98) (lc' := [(0, vR G (29, 0)), (1, vR G (29, jr)), (2, vI u), (3, vI (i : Int)), (4, vI ((((Mb 29 4 i).natAbs : Int)) * (Mb 29 jr 29)))]) X [1, 2, 3, 4, 0] dX9_boundsOn_96 (by decide) rfl rfl ?_
              refine r_aload_n (pc' := 99) X 1 dX9_boundsOn_98 rfl rfl rfl ?_
              refine r_iconst (pc' := 100) X dX9_boundsOn_99 rfl ?_
              refine r_iload_n (pc' := 101) X 3 dX9_boundsOn_100 rfl rfl rfl ?_
              refine r_iadd (pc' := 102) X dX9_boundsOn_101 rfl ?_
              refine r_aload_n (pc' := 103) X 1 dX9_boundsOn_102 rfl rfl rfl ?_
              refine r_bipush (pc' := 105) X dX9_boundsOn_103 rfl rfl ?_
              refine r_iload_n (pc' := 106) X 3 dX9_boundsOn_105 rfl rfl rfl ?_
              refine r_iadd (pc' := 107) X dX9_boundsOn_106 rfl ?_
              refine r_iald (i := (40 + i)) (pc' := 108) X hrw (by omega) (by omega) (by decide) dX9_boundsOn_107 rfl ?_
              refine r_i2l (pc' := 109) X dX9_boundsOn_108 (by omega) rfl ?_
              refine r_aload_n (pc' := 110) X 0 dX9_boundsOn_109 rfl rfl rfl ?_
              refine gf_29_drive (pc' := 113) X gw_975 dX9_boundsOn_110 rfl ?_
              refine r_iload_n (pc' := 114) X 3 dX9_boundsOn_113 rfl rfl rfl ?_
              refine r_iald (i := i) (pc' := 115) X k29_3 (by omega) (by omega) (by decide) dX9_boundsOn_114 rfl ?_
              refine r_i2l (pc' := 116) X dX9_boundsOn_115 (by omega) rfl ?_
              refine r_iload_n (pc' := 117) X 2 dX9_boundsOn_116 rfl rfl rfl ?_
              refine r_i2l (pc' := 118) X dX9_boundsOn_117 (by omega) rfl ?_
              refine r_lmul (pc' := 119) X dX9_boundsOn_118 rfl ?_
              refine r_ladd (pc' := 120) X dX9_boundsOn_119 rfl ?_
              refine r_iload (pc' := 122) X 4 dX9_boundsOn_120 rfl rfl ?_
              refine r_i2l (pc' := 123) X dX9_boundsOn_122 (by omega) rfl ?_
              refine r_lsub (pc' := 124) X dX9_boundsOn_123 rfl ?_
              refine r_ldc (pc' := 126) (z := 1000000) X gw_1229 dX9_boundsOn_124 rfl rfl ?_
              refine w_calli (pc' := 129) (st := [vI (4 + (i : Int)), vR G (29, jr)]) (w_runS X (c_X9_limited l G Mb (((Mb 29 jr (40 + i)) + ((Mb 29 3 i) * u)) - ((((Mb 29 4 i).natAbs : Int)) * (Mb 29 jr 29))) 1000000 (by first | assumption | omega) (by first | assumption | omega)) cf_X9_limited gw_1220 rfl rfl ⟨Nat.le_of_ble_eq_true rfl, Nat.le_of_ble_eq_true rfl⟩ rfl rfl (Nat.le_of_ble_eq_true rfl) ⟨Nat.le_of_ble_eq_true rfl, Nat.le_of_ble_eq_true rfl⟩ gw_1219 dX9_boundsOn_126) rfl (fun z126 M5 h126 => ?_)
              obtain rfl := h126.1.symm
              obtain rfl := h126.2.symm
              refine r_iast (i := (4 + i)) (pc' := 130) X hrw (by omega) (by omega) (by decide) dX9_boundsOn_129 rfl (fun M6 hM6 => ?_)
              have e4 : ∀ a b x, ¬ (a = 29 ∧ b = jr ∧ x = 4 + i) → M6 a b x = Mb a b x := fun a b x q => by rw [hM6]; unfold wu; rw [if_neg q]
              have e44 := e4 29 jr (44 + i) (by omega)
              have e3i := e4 29 3 i (by omega)
              have hm1b := hm1
              rw [← e3i] at hm1b
              refine r_aload_n (pc' := 131) X 1 dX9_boundsOn_130 rfl rfl rfl ?_
              refine r_bipush (pc' := 133) X dX9_boundsOn_131 rfl rfl ?_
              refine r_iload_n (pc' := 134) X 3 dX9_boundsOn_133 rfl rfl rfl ?_
              refine r_iadd (pc' := 135) X dX9_boundsOn_134 rfl ?_
              refine r_aload_n (pc' := 136) X 1 dX9_boundsOn_135 rfl rfl rfl ?_
              refine r_bipush (pc' := 138) X dX9_boundsOn_136 rfl rfl ?_
              refine r_iload_n (pc' := 139) X 3 dX9_boundsOn_138 rfl rfl rfl ?_
              refine r_iadd (pc' := 140) X dX9_boundsOn_139 rfl ?_
              refine r_iald (i := (44 + i)) (pc' := 141) X hrw (by omega) (by omega) (by decide) dX9_boundsOn_140 rfl ?_
              refine r_i2l (pc' := 142) X dX9_boundsOn_141 (by omega) rfl ?_
              refine r_aload_n (pc' := 143) X 0 dX9_boundsOn_142 rfl rfl rfl ?_
              refine gf_29_drive (pc' := 146) X gw_975 dX9_boundsOn_143 rfl ?_
              refine r_iload_n (pc' := 147) X 3 dX9_boundsOn_146 rfl rfl rfl ?_
              refine r_iald (i := i) (pc' := 148) X k29_3 (by omega) (by omega) (by decide) dX9_boundsOn_147 rfl ?_
              refine r_i2l (pc' := 149) X dX9_boundsOn_148 (by omega) rfl ?_
              refine r_iload_n (pc' := 150) X 2 dX9_boundsOn_149 rfl rfl rfl ?_
              refine r_i2l (pc' := 151) X dX9_boundsOn_150 (by omega) rfl ?_
              refine r_lmul (pc' := 152) X dX9_boundsOn_151 rfl ?_
              refine r_ladd (pc' := 153) X dX9_boundsOn_152 rfl ?_
              refine r_iload (pc' := 155) X 4 dX9_boundsOn_153 rfl rfl ?_
              refine r_i2l (pc' := 156) X dX9_boundsOn_155 (by omega) rfl ?_
              refine r_ladd (pc' := 157) X dX9_boundsOn_156 rfl ?_
              refine r_ldc (pc' := 159) (z := 1000000) X gw_1229 dX9_boundsOn_157 rfl rfl ?_
              refine w_calli (pc' := 162) (st := [vI (8 + (i : Int)), vR G (29, jr)]) (w_runS X (c_X9_limited l G M6 (((M6 29 jr (44 + i)) + ((M6 29 3 i) * u)) + ((((Mb 29 4 i).natAbs : Int)) * (Mb 29 jr 29))) 1000000 (by first | assumption | omega) (by first | assumption | omega)) cf_X9_limited gw_1220 rfl rfl ⟨Nat.le_of_ble_eq_true rfl, Nat.le_of_ble_eq_true rfl⟩ rfl rfl (Nat.le_of_ble_eq_true rfl) ⟨Nat.le_of_ble_eq_true rfl, Nat.le_of_ble_eq_true rfl⟩ gw_1219 dX9_boundsOn_159) rfl (fun z159 M7 h159 => ?_)
              obtain rfl := h159.1.symm
              obtain rfl := h159.2.symm
              refine r_iast (i := (8 + i)) (pc' := 163) X hrw (by omega) (by omega) (by decide) dX9_boundsOn_162 rfl (fun M8 hM8 => ?_)
              have vv1 : M8 29 jr (4 + i) = lowF N pv u B lo hi i := by
                rw [hM8]; unfold wu; rw [if_neg (by omega), hM6]; unfold wu; rw [if_pos ⟨rfl, rfl, rfl⟩, hev1.1, sB, sE, eB]; rfl
              have vv2 : M8 29 jr (8 + i) = uppF N pv u B lo hi i := by
                rw [hM8]; unfold wu; rw [if_pos ⟨rfl, rfl, rfl⟩, e44, e3i, hev1.2, sB, sE, eB]; rfl
              refine r_iinc (pc' := 166) (z' := ((i + 1 : Nat) : Int)) (lc' := [(0, vR G (29, 0)), (1, vR G (29, jr)), (2, vI u), (3, vI ((i + 1 : Nat) : Int)), (4, vI ((((Mb 29 4 i).natAbs : Int)) * (Mb 29 jr 29)))]) X 3 [1, 2, 3, 0, 4] dX9_boundsOn_163 rfl (by omega) (by decide) rfl rfl ?_
              refine r_goto (tgt := 74) X dX9_boundsOn_166 rfl ?_
              refine w_sub (lc' := [(0, vR G (29, 0)), (1, vR G (29, jr)), (2, vI u), (3, vI ((i + 1 : Nat) : Int))]) [0, 1, 2, 3] rfl ?_
              exact ih74 (i + 1) M8 (by omega) (by omega) (fun a b x q => by rw [hM8]; unfold wu; rw [if_neg (by omega), hM6]; unfold wu; rw [if_neg (by omega)]; exact hfr a b x (by omega)) (fun x hx => by have := hev x hx; exact ⟨by rw [hM8]; unfold wu; rw [if_neg (by omega), hM6]; unfold wu; rw [if_neg (by omega)]; exact this.1, by rw [hM8]; unfold wu; rw [if_neg (by omega), hM6]; unfold wu; rw [if_neg (by omega)]; exact this.2⟩) (fun x hx => by by_cases q : x = i; rw [q]; exact ⟨vv1, vv2⟩; exact ⟨by rw [hM8]; unfold wu; rw [if_neg (by omega), hM6]; unfold wu; rw [if_neg (by omega)]; exact (hlu x (by omega)).1, by rw [hM8]; unfold wu; rw [if_neg (by omega), hM6]; unfold wu; rw [if_neg (by omega)]; exact (hlu x (by omega)).2⟩)
        exact L74 ((N - 0) + 1) 0 Ma (Nat.lt_succ_self _) (by omega) (fun a b x q => hfr a b x (by omega)) (fun x h => hev x (by omega)) (fun x h => absurd h (Nat.not_lt_zero x))
      · have hq2 : PEq N P pv (Ma 29) := hq.keep (fun b x q => hfr 29 b x (by omega))
        have hlo2 : ∀ x, x < N → Ma 29 jr (4 + x) = lo x := fun x hx => by rw [hfr 29 jr _ (by omega)]; exact hlo x hx
        have hhi2 : ∀ x, x < N → Ma 29 jr (8 + x) = hi x := fun x hx => by rw [hfr 29 jr _ (by omega)]; exact hhi x hx
        have hx0 := ext_bd (n := N) (f := pv (2 + i)) (lo := lo) (hi := hi) (but := -9) (gr := 0) (A := 99) (B := 1000000) (by decide) (by decide) (fun x hx => hA i x (by omega) hx) hLr hUr
        have hx1 := ext_bd (n := N) (f := pv (2 + i)) (lo := lo) (hi := hi) (but := -9) (gr := 1) (A := 99) (B := 1000000) (by decide) (by decide) (fun x hx => hA i x (by omega) hx) hLr hUr
        refine r_aload_n (pc' := 11) X 1 dX9_boundsOn_10 rfl rfl rfl ?_
        refine r_bipush (pc' := 13) X dX9_boundsOn_11 rfl rfl ?_
        refine r_iload_n (pc' := 14) X 3 dX9_boundsOn_13 rfl rfl rfl ?_
        refine r_iadd (pc' := 15) X dX9_boundsOn_14 rfl ?_
        refine r_aload_n (pc' := 16) X 0 dX9_boundsOn_15 rfl rfl rfl ?_
        refine r_aload_n (pc' := 17) X 1 dX9_boundsOn_16 rfl rfl rfl ?_
        refine r_aload_n (pc' := 18) X 0 dX9_boundsOn_17 rfl rfl rfl ?_
        refine gf_29_matrix (pc' := 21) X gw_974 dX9_boundsOn_18 rfl ?_
        refine r_iconst (pc' := 22) X dX9_boundsOn_21 rfl ?_
        refine r_iload_n (pc' := 23) X 3 dX9_boundsOn_22 rfl rfl rfl ?_
        refine r_imul (pc' := 24) X dX9_boundsOn_23 rfl ?_
        refine r_bipush (pc' := 26) X dX9_boundsOn_24 rfl rfl ?_
        refine r_iconst (pc' := 27) X dX9_boundsOn_26 rfl ?_
        refine w_callj (pc' := 30) (st := [vI (40 + (i : Int)), vR G (29, jr)]) (w_runV X (c_X9_end l G Ma N P pv (by first | assumption | omega) hq2 jr 2 (4 * i) 16 (-9) 0 (pv (2 + i)) hrw k29_2 (by first | assumption | omega) (by first | assumption | omega) (by first | assumption | omega) (by first | assumption | omega) (fun x hx => hq2.2.2.1 i x (by omega) hx) (fun x hx => hA i x (by omega) hx) lo hi hlo2 hhi2 (by first | assumption | omega) (by first | assumption | omega)) cf_X9_end k29_0 rfl gw_1169 gp_37 rfl rfl ⟨Nat.le_of_ble_eq_true rfl, Nat.le_of_ble_eq_true rfl⟩ rfl rfl (Nat.le_of_ble_eq_true rfl) ⟨Nat.le_of_ble_eq_true rfl, Nat.le_of_ble_eq_true rfl⟩ gw_1167 dX9_boundsOn_27) rfl (fun z27 M9 h27 => ?_)
        obtain rfl := h27.1.symm
        obtain rfl := h27.2.symm
        refine r_ldc2 (pc' := 33) (z := 16) X gw_1216 dX9_boundsOn_30 rfl rfl ?_
        refine w_callj (pc' := 36) (st := [vI (40 + (i : Int)), vR G (29, jr)]) (w_runS X (c_X9_down l G Ma ((ext N (pv (2 + i)) lo hi (-9) 0)) 16 (by first | assumption | omega) (by first | assumption | omega)) cf_X9_down gw_1172 rfl rfl ⟨Nat.le_of_ble_eq_true rfl, Nat.le_of_ble_eq_true rfl⟩ rfl rfl (Nat.le_of_ble_eq_true rfl) ⟨Nat.le_of_ble_eq_true rfl, Nat.le_of_ble_eq_true rfl⟩ gw_1171 dX9_boundsOn_33) rfl (fun z33 M10 h33 => ?_)
        obtain rfl := h33.1.symm
        obtain rfl := h33.2.symm
        refine r_l2i (pc' := 37) X dX9_boundsOn_36 rfl ?_
        refine r_iast (i := (40 + i)) (pc' := 38) X hrw (by omega) (by omega) (by decide) dX9_boundsOn_37 rfl (fun M11 hM11 => ?_)
        have e40 : ∀ a b x, ¬ (a = 29 ∧ b = jr ∧ x = 40 + i) → M11 a b x = Ma a b x := fun a b x q => by rw [hM11]; unfold wu; rw [if_neg q]
        have hq4 : PEq N P pv (M11 29) := hq2.keep (fun b x q => e40 29 b x (by omega))
        have hlo4 : ∀ x, x < N → M11 29 jr (4 + x) = lo x := fun x hx => by rw [e40 29 jr _ (by omega)]; exact hlo2 x hx
        have hhi4 : ∀ x, x < N → M11 29 jr (8 + x) = hi x := fun x hx => by rw [e40 29 jr _ (by omega)]; exact hhi2 x hx
        refine r_aload_n (pc' := 39) X 1 dX9_boundsOn_38 rfl rfl rfl ?_
        refine r_bipush (pc' := 41) X dX9_boundsOn_39 rfl rfl ?_
        refine r_iload_n (pc' := 42) X 3 dX9_boundsOn_41 rfl rfl rfl ?_
        refine r_iadd (pc' := 43) X dX9_boundsOn_42 rfl ?_
        refine r_aload_n (pc' := 44) X 0 dX9_boundsOn_43 rfl rfl rfl ?_
        refine r_aload_n (pc' := 45) X 1 dX9_boundsOn_44 rfl rfl rfl ?_
        refine r_aload_n (pc' := 46) X 0 dX9_boundsOn_45 rfl rfl rfl ?_
        refine gf_29_matrix (pc' := 49) X gw_974 dX9_boundsOn_46 rfl ?_
        refine r_iconst (pc' := 50) X dX9_boundsOn_49 rfl ?_
        refine r_iload_n (pc' := 51) X 3 dX9_boundsOn_50 rfl rfl rfl ?_
        refine r_imul (pc' := 52) X dX9_boundsOn_51 rfl ?_
        refine r_bipush (pc' := 54) X dX9_boundsOn_52 rfl rfl ?_
        refine r_iconst (pc' := 55) X dX9_boundsOn_54 rfl ?_
        refine w_callj (pc' := 58) (st := [vI (44 + (i : Int)), vR G (29, jr)]) (w_runV X (c_X9_end l G M11 N P pv (by first | assumption | omega) hq4 jr 2 (4 * i) 16 (-9) 1 (pv (2 + i)) hrw k29_2 (by first | assumption | omega) (by first | assumption | omega) (by first | assumption | omega) (by first | assumption | omega) (fun x hx => hq4.2.2.1 i x (by omega) hx) (fun x hx => hA i x (by omega) hx) lo hi hlo4 hhi4 (by first | assumption | omega) (by first | assumption | omega)) cf_X9_end k29_0 rfl gw_1169 gp_37 rfl rfl ⟨Nat.le_of_ble_eq_true rfl, Nat.le_of_ble_eq_true rfl⟩ rfl rfl (Nat.le_of_ble_eq_true rfl) ⟨Nat.le_of_ble_eq_true rfl, Nat.le_of_ble_eq_true rfl⟩ gw_1167 dX9_boundsOn_55) rfl (fun z55 M12 h55 => ?_)
        obtain rfl := h55.1.symm
        obtain rfl := h55.2.symm
        refine r_ldc2 (pc' := 61) (z := 16) X gw_1216 dX9_boundsOn_58 rfl rfl ?_
        refine w_callj (pc' := 64) (st := [vI (44 + (i : Int)), vR G (29, jr)]) (w_runS X (c_X9_down l G M11 ((ext N (pv (2 + i)) lo hi (-9) 1)) 16 (by first | assumption | omega) (by first | assumption | omega)) cf_X9_down gw_1172 rfl rfl ⟨Nat.le_of_ble_eq_true rfl, Nat.le_of_ble_eq_true rfl⟩ rfl rfl (Nat.le_of_ble_eq_true rfl) ⟨Nat.le_of_ble_eq_true rfl, Nat.le_of_ble_eq_true rfl⟩ gw_1171 dX9_boundsOn_61) rfl (fun z61 M13 h61 => ?_)
        obtain rfl := h61.1.symm
        obtain rfl := h61.2.symm
        refine r_l2i (pc' := 65) X dX9_boundsOn_64 rfl ?_
        refine r_iast (i := (44 + i)) (pc' := 66) X hrw (by omega) (by omega) (by decide) dX9_boundsOn_65 rfl (fun M14 hM14 => ?_)
        have vv1 : M14 29 jr (40 + i) = endF N pv lo hi 0 i := by rw [hM14]; unfold wu; rw [if_neg (by omega), hM11]; unfold wu; rw [if_pos ⟨rfl, rfl, rfl⟩]; unfold endF; rw [← ext_but9]
        have vv2 : M14 29 jr (44 + i) = endF N pv lo hi 1 i := by rw [hM14]; unfold wu; rw [if_pos ⟨rfl, rfl, rfl⟩]; unfold endF; rw [← ext_but9]
        refine r_iinc (pc' := 69) (z' := ((i + 1 : Nat) : Int)) (lc' := [(0, vR G (29, 0)), (1, vR G (29, jr)), (2, vI u), (3, vI ((i + 1 : Nat) : Int))]) X 3 [1, 2, 3, 0] dX9_boundsOn_66 rfl (by omega) (by decide) rfl rfl ?_
        refine r_goto (tgt := 2) X dX9_boundsOn_69 rfl ?_
        exact ih2 (i + 1) M14 (by omega) (by omega) (fun a b x q => by rw [hM14]; unfold wu; rw [if_neg (by omega), hM11]; unfold wu; rw [if_neg (by omega)]; exact hfr a b x q) (fun x hx => by by_cases q : x = i; rw [q]; exact ⟨vv1, vv2⟩; exact ⟨by rw [hM14]; unfold wu; rw [if_neg (by omega), hM11]; unfold wu; rw [if_neg (by omega)]; exact (hev x (by omega)).1, by rw [hM14]; unfold wu; rw [if_neg (by omega), hM11]; unfold wu; rw [if_neg (by omega)]; exact (hev x (by omega)).2⟩)
  exact L2 ((N - 0) + 1) 0 M (Nat.lt_succ_self _) (by omega) (fun _ _ _ _ => rfl) (fun x h => absurd h (Nat.not_lt_zero x))
theorem cf_X9_stepOn : wCal yX9_stepOn cX9_stepOn 8 none 3 := ⟨gw_1211, gw_10, by decide, by decide, by rfl⟩
set_option maxRecDepth 100000 in
set_option maxHeartbeats 4000000 in
theorem c_X9_stepOn (l : Launch) (G : wG) (M : wM) (N P : Nat) (pv : Nat → Nat → Int) (hp : PlOk pv N P) (hq : PEq N P pv (M 29)) (jr : Nat) (hrw : wkd 29 jr = some (.inr (0, 48, wNr))) (hj : jr = 13 ∨ jr = 14 ∨ jr = 15) (w : Nat → Nat → Int) (T : Int) (hm : MoOk w N P T) (hT6 : T ≤ 1000000) (hv : REq N P w (M 29 jr)) (hbx : BoxOk N (w 2) (w 3)) (u : Int) (hu : -99 ≤ u ∧ u ≤ 99) (d : Int) (hd : -99 ≤ d ∧ d ≤ 99) : Met l yX9_stepOn (gws yX9_stepOn cX9_stepOn 8 none) (wrm 2 0 0) (wPc G M [vR G (29, 0), vR G (29, jr), vI u, vI d]) (wQv G (fun M1 => REq N P (stepF N P pv w u d) (M1 29 jr) ∧ ∀ a b x, ¬ (a = 29 ∧ (b = jr ∨ b = 19 ∨ b = 20)) → M1 a b x = M a b x)) 0 0 (wA G) := by
  refine wMet (lc := [(0, vR G (29, 0)), (1, vR G (29, jr)), (2, vI u), (3, vI d)]) (by decide) (Nat.le_of_ble_eq_true rfl) rfl ?_
  intro p e s m args below meth c X hr
  have X : wX p s m args meth c G 8 "StateObserverModel" cX9_stepOn := X
  obtain ⟨hN, hN1, hN4, hP, hP1, hP3, hA, hB, hE, hC, hQ⟩ := id hp
  obtain ⟨qN, qP, qA, qB, qE, qC, qQ⟩ := id hq
  obtain ⟨hT, hL, hU, hS, hG, hY, hAg, hHo, hBo, hTi, hLi, hLb, hLl, hLh⟩ := id hm
  obtain ⟨v1, v2, v3, v28, v29, v30, v38, v39, v37⟩ := id hv
  refine r_aload_n (pc' := 1) X 0 dX9_stepOn_0 rfl rfl rfl ?_
  refine r_aload_n (pc' := 2) X 1 dX9_stepOn_1 rfl rfl rfl ?_
  refine r_iload_n (pc' := 3) X 2 dX9_stepOn_2 rfl rfl rfl ?_
  refine w_callv (pc' := 6) (st := []) (w_runV X (c_X9_guessOn l G M N P pv (by first | assumption | omega) (by first | assumption | omega) jr hrw (by first | assumption | omega) w T hm (by first | assumption | omega) (by first | assumption | omega) u (by first | assumption | omega)) cf_X9_guessOn k29_0 rfl gw_1214 gp_44 rfl rfl ⟨Nat.le_of_ble_eq_true rfl, Nat.le_of_ble_eq_true rfl⟩ rfl rfl (Nat.le_of_ble_eq_true rfl) ⟨Nat.le_of_ble_eq_true rfl, Nat.le_of_ble_eq_true rfl⟩ gw_1212 dX9_stepOn_3) rfl (fun M1 h3 => ?_)
  have q3 : PEq N P pv (M1 29) := hq.keep (fun b x q => h3.2 29 b x (by omega))
  have k3 : ∀ x, ¬ (12 ≤ x ∧ x < 16) → M1 29 jr x = M 29 jr x := fun x q => h3.2 29 jr x (by omega)
  refine r_aload_n (pc' := 7) X 0 dX9_stepOn_6 rfl rfl rfl ?_
  refine r_aload_n (pc' := 8) X 1 dX9_stepOn_7 rfl rfl rfl ?_
  refine r_iload_n (pc' := 9) X 2 dX9_stepOn_8 rfl rfl rfl ?_
  refine w_callv (pc' := 12) (st := []) (w_runV X (c_X9_boundsOn l G M1 N P pv (by first | assumption | omega) (by first | assumption | omega) jr hrw (by first | assumption | omega) (w 2) (w 3) (fun x hx => by rw [k3 _ (by omega)]; exact (v1 x hx).2.1) (fun x hx => by rw [k3 _ (by omega)]; exact (v1 x hx).2.2.1) hL hU (w 0 8) (by rw [k3 _ (by omega)]; exact v29) hBo u (by first | assumption | omega)) cf_X9_boundsOn k29_0 rfl gw_1224 gp_45 rfl rfl ⟨Nat.le_of_ble_eq_true rfl, Nat.le_of_ble_eq_true rfl⟩ rfl rfl (Nat.le_of_ble_eq_true rfl) ⟨Nat.le_of_ble_eq_true rfl, Nat.le_of_ble_eq_true rfl⟩ gw_1222 dX9_stepOn_9) rfl (fun M2 h9 => ?_)
  obtain ⟨b1, b2, b3, b4⟩ := h9
  have q9 : PEq N P pv (M2 29) := q3.keep (fun b x q => b4 29 b x (by omega))
  have k9 : ∀ a b x, ¬ (a = 29 ∧ ((b = jr ∧ ((40 ≤ x ∧ x < 48) ∨ (4 ≤ x ∧ x < 16) ∨ (37 ≤ x ∧ x < 40))) ∨ b = 19 ∨ b = 20)) → M2 a b x = M a b x := fun a b x q => by rw [b4 a b x (by omega), h3.2 a b x (by omega)]
  have s4 : ∀ i, i < N → M2 29 jr (12 + i) = estF N P pv w u i := fun i hi => by rw [b4 29 jr _ (by omega)]; exact h3.1 i hi
  refine r_aload_n (pc' := 13) X 1 dX9_stepOn_12 rfl rfl rfl ?_
  refine r_iconst (pc' := 14) X dX9_stepOn_13 rfl ?_
  refine r_aload_n (pc' := 15) X 0 dX9_stepOn_14 rfl rfl rfl ?_
  refine gf_29_before (pc' := 18) X gw_994 dX9_stepOn_15 rfl ?_
  refine r_iconst (pc' := 19) X dX9_stepOn_18 rfl ?_
  refine r_iconst (pc' := 20) X dX9_stepOn_19 rfl ?_
  refine w_callv (pc' := 23) (st := []) (w_runS X (c_X9_copy l G M2 29 jr 0 29 19 0 4 48 12 hrw k29_19 (by first | assumption | omega) (by first | assumption | omega) (by first | assumption | omega) (by first | assumption | omega) (by first | assumption | omega)) cf_X9_copy gw_1138 rfl rfl ⟨Nat.le_of_ble_eq_true rfl, Nat.le_of_ble_eq_true rfl⟩ rfl rfl (Nat.le_of_ble_eq_true rfl) ⟨Nat.le_of_ble_eq_true rfl, Nat.le_of_ble_eq_true rfl⟩ gw_1137 dX9_stepOn_20) rfl (fun M3 h20 => ?_)
  have t20 : ∀ x, x < N → M3 29 19 x = w 1 x := fun x hx => by
    have q := h20.2.1 x (by omega)
    rw [Nat.zero_add] at q
    rw [q, k9 29 jr _ (by omega)]
    exact (v1 x hx).1
  refine r_iconst (pc' := 24) X dX9_stepOn_23 rfl ?_
  refine r_istore (pc' := 26) (lc' := [(0, vR G (29, 0)), (1, vR G (29, jr)), (2, vI u), (3, vI d), (4, vI 0)]) X [1, 2, 3, 4, 0] dX9_stepOn_24 (by decide) rfl rfl ?_
  have L26 : ∀ (fu : Nat) (i : Nat) (Ma : wM), N - i < fu → (i ≤ N) → (∀ a b x, ¬ (a = 29 ∧ ((b = jr ∧ x < i) ∨ b = 19)) → Ma a b x = M3 a b x) → (∀ x, x < N → Ma 29 19 x = w 1 x) → (∀ x, x < i → Ma 29 jr x = truthF N pv u d (w 1) x) → wV p l e (wrm 2 0 0) s m args below meth c G 8 Ma 0 0 (MQ below (wQv G (fun M1 => REq N P (stepF N P pv w u d) (M1 29 jr) ∧ ∀ a b x, ¬ (a = 29 ∧ (b = jr ∨ b = 19 ∨ b = 20)) → M1 a b x = M a b x)) args s 0 0 (wA G)) 26 [(0, vR G (29, 0)), (1, vR G (29, jr)), (2, vI u), (3, vI d), (4, vI (i : Int))] [] := by
    intro fu
    induction fu with
    | zero => intro i Ma hfu; exact absurd hfu (Nat.not_lt_zero _)
    | succ fu ih26 =>
      intro i Ma hfu26 hi0 hfr hbe htv
      refine r_iload (pc' := 28) X 4 dX9_stepOn_26 rfl rfl ?_
      have qa : PEq N P pv (Ma 29) := q9.keep (fun b x q => by rw [hfr 29 b x (by omega)]; exact congrFun (h20.1 29 b (by omega)) x)
      obtain ⟨sN, sP, sA, sB', sE', sC, sQ⟩ := id qa
      refine r_aload_n (pc' := 29) X 0 dX9_stepOn_28 rfl rfl rfl ?_
      refine gf_29_states (pc' := 32) X gw_972 dX9_stepOn_29 rfl ?_
      refine r_icmp_ge (pc' := 35) (tgt := 132) X dX9_stepOn_32 rfl rfl (by omega) (by omega) (fun h32 => ?_) (fun h32 => ?_)
      · refine r_aload_n (pc' := 133) X 1 dX9_stepOn_132 rfl rfl rfl ?_
        refine r_bipush (pc' := 135) X dX9_stepOn_133 rfl rfl ?_
        refine r_dup2 (pc' := 136) X dX9_stepOn_135 rfl rfl rfl ?_
        refine r_iald (i := 30) (pc' := 137) X hrw (by omega) (by omega) (by decide) dX9_stepOn_136 rfl ?_
        refine r_iconst (pc' := 138) X dX9_stepOn_137 rfl ?_
        refine r_iadd (pc' := 139) X dX9_stepOn_138 rfl ?_
        refine r_iast (i := 30) (pc' := 140) X hrw (by omega) (by omega) (by decide) dX9_stepOn_139 rfl (fun M4 hM4 => ?_)
        have f140 : ∀ a b x, ¬ (a = 29 ∧ ((b = jr ∧ (x < N ∨ x = 30)) ∨ b = 19)) → M4 a b x = M2 a b x := fun a b x q => by rw [hM4]; unfold wu; rw [if_neg (by omega), hfr a b x (by omega)]; exact congrFun (h20.1 a b (by omega)) x
        have t140 : ∀ x, x < N → M4 29 jr x = truthF N pv u d (w 1) x := fun x hx => by rw [hM4]; unfold wu; rw [if_neg (by omega)]; exact htv x (by omega)
        have v140 : M4 29 jr 30 = w 0 9 + 1 := by rw [hM4]; unfold wu; rw [if_pos ⟨rfl, rfl, rfl⟩, hfr 29 jr 30 (by omega), congrFun (h20.1 29 jr (by omega)) 30, k9 29 jr 30 (by omega), v30]
        have AK : ∀ x, 31 ≤ x ∧ x < 37 → M4 29 jr x = M 29 jr x := fun x q => by rw [f140 29 jr x (by omega), k9 29 jr x (by omega)]
        have EP6 : M4 29 0 6 = P := by rw [f140 29 0 6 (by omega)]; exact q9.2.1
        refine r_iconst (pc' := 141) X dX9_stepOn_140 rfl ?_
        refine r_istore (pc' := 143) (lc' := [(0, vR G (29, 0)), (1, vR G (29, jr)), (2, vI u), (3, vI d), (4, vI 0)]) X [1, 2, 3, 4, 0] dX9_stepOn_141 (by decide) rfl rfl ?_
        have L143 : ∀ (fu : Nat) (k : Nat) (Mc : wM), P - k < fu → (k ≤ P) → (∀ a b x, ¬ (a = 29 ∧ b = jr ∧ 34 ≤ x ∧ x < 34 + k) → Mc a b x = M4 a b x) → (∀ x, x < k → Mc 29 jr (34 + x) = if w 11 x = -1 then -1 else w 11 x + 1) → wV p l e (wrm 2 0 0) s m args below meth c G 8 Mc 0 0 (MQ below (wQv G (fun M1 => REq N P (stepF N P pv w u d) (M1 29 jr) ∧ ∀ a b x, ¬ (a = 29 ∧ (b = jr ∨ b = 19 ∨ b = 20)) → M1 a b x = M a b x)) args s 0 0 (wA G)) 143 [(0, vR G (29, 0)), (1, vR G (29, jr)), (2, vI u), (3, vI d), (4, vI (k : Int))] [] := by
          intro fu
          induction fu with
          | zero => intro k Mc hfu; exact absurd hfu (Nat.not_lt_zero _)
          | succ fu ih143 =>
            intro k Mc hfu143 hk0 hfk hak
            refine r_iload (pc' := 145) X 4 dX9_stepOn_143 rfl rfl ?_
            have eP : Mc 29 0 6 = P := by rw [hfk 29 0 6 (by omega)]; exact EP6
            refine r_aload_n (pc' := 146) X 0 dX9_stepOn_145 rfl rfl rfl ?_
            refine gf_29_outputs (pc' := 149) X gw_973 dX9_stepOn_146 rfl ?_
            refine r_icmp_ge (pc' := 152) (tgt := 183) X dX9_stepOn_149 rfl rfl (by omega) (by omega) (fun h149 => ?_) (fun h149 => ?_)
            · refine w_vret X hr dX9_stepOn_183 ?_
              try dsimp only
              have ek : k = P := by omega
              have hN4' : N ≤ 4 := hN4
              have F : ∀ x, ¬ (34 ≤ x ∧ x < 34 + k) → ¬ (x < N ∨ x = 30) → Mc 29 jr x = M2 29 jr x := fun x q1 q2 => by rw [hfk 29 jr x (by omega), f140 29 jr x (by omega)]
              refine ⟨⟨fun i hi => ⟨?_, ?_, ?_, ?_, ?_, ?_⟩, fun i k' hi hk => ?_, fun k' hk => ⟨?_, ?_⟩, ?_, ?_, ?_, ?_, ?_, ?_⟩, fun a b x q => ?_⟩
              · rw [sF_1, hfk 29 jr _ (by omega)]; exact t140 i hi
              · rw [sF_2, F _ (by omega) (by omega)]; exact (b2 i hi).1
              · rw [sF_3, F _ (by omega) (by omega)]; exact (b2 i hi).2
              · rw [sF_4, F _ (by omega) (by omega)]; exact s4 i hi
              · rw [sF_12, F _ (by omega) (by omega)]; exact (b1 i hi).1
              · rw [sF_13, F _ (by omega) (by omega)]; exact (b1 i hi).2
              · rw [sF_b (by omega), F _ (by omega) (by omega), k9 29 jr _ (by omega)]; exact v2 i k' hi hk
              · rw [sF_b (by omega), F _ (by omega) (by omega), k9 29 jr _ (by omega)]; exact (v3 k' hk).1
              · rw [sF_11]; exact hak k' (by omega)
              · rw [sF_0 (by omega), F _ (by omega) (by omega), k9 29 jr _ (by omega)]; exact v28
              · rw [sF_0 (by omega), F _ (by omega) (by omega), k9 29 jr _ (by omega)]; exact v29
              · rw [sF_9, hfk 29 jr _ (by omega)]; exact v140
              · rw [sF_10, F _ (by omega) (by omega)]; exact b3.2.1
              · rw [sF_0b, F _ (by omega) (by omega)]; exact b3.2.2
              · rw [sF_9, F _ (by omega) (by omega), if_neg (by omega)]; exact b3.1
              · rw [hfk a b x (by omega), f140 a b x (by omega), k9 a b x (by omega)]
            · have akk : Mc 29 jr (34 + k) = w 11 k := by rw [hfk 29 jr _ (by omega), AK _ (by omega)]; exact (v3 k (by omega)).2
              have rk := hAg k (by omega)
              refine r_aload_n (pc' := 153) X 1 dX9_stepOn_152 rfl rfl rfl ?_
              refine r_bipush (pc' := 155) X dX9_stepOn_153 rfl rfl ?_
              refine r_iload (pc' := 157) X 4 dX9_stepOn_155 rfl rfl ?_
              refine r_iadd (pc' := 158) X dX9_stepOn_157 rfl ?_
              refine r_dup2 (pc' := 159) X dX9_stepOn_158 rfl rfl rfl ?_
              refine r_iald (i := (34 + k)) (pc' := 160) X hrw (by omega) (by omega) (by decide) dX9_stepOn_159 rfl ?_
              refine r_aload_n (pc' := 161) X 1 dX9_stepOn_160 rfl rfl rfl ?_
              refine r_bipush (pc' := 163) X dX9_stepOn_161 rfl rfl ?_
              refine r_iload (pc' := 165) X 4 dX9_stepOn_163 rfl rfl ?_
              refine r_iadd (pc' := 166) X dX9_stepOn_165 rfl ?_
              refine r_iald (i := (34 + k)) (pc' := 167) X hrw (by omega) (by omega) (by decide) dX9_stepOn_166 rfl ?_
              refine r_if_ge (pc' := 170) (tgt := 174) X dX9_stepOn_167 rfl rfl (by omega) (fun h167 => ?_) (fun h167 => ?_)
              · refine r_iconst (pc' := 175) X dX9_stepOn_174 rfl ?_
                refine r_iadd (pc' := 176) X dX9_stepOn_175 rfl ?_
                refine r_iast (i := (34 + k)) (pc' := 177) X hrw (by omega) (by omega) (by decide) dX9_stepOn_176 rfl (fun M5 hM5 => ?_)
                refine r_iinc (pc' := 180) (z' := ((k + 1 : Nat) : Int)) (lc' := [(0, vR G (29, 0)), (1, vR G (29, jr)), (2, vI u), (3, vI d), (4, vI ((k + 1 : Nat) : Int))]) X 4 [1, 2, 3, 4, 0] dX9_stepOn_177 rfl (by omega) (by decide) rfl rfl ?_
                refine r_goto (tgt := 143) X dX9_stepOn_180 rfl ?_
                exact ih143 (k + 1) M5 (by omega) (by omega) (fun a b x q => by rw [hM5]; unfold wu; rw [if_neg (by omega)]; exact hfk a b x (by omega)) (fun x hx => by rw [hM5]; unfold wu; by_cases q : x = k; rw [if_pos ⟨rfl, rfl, by omega⟩, q]; (first | (rw [if_pos (by omega)]; omega) | (rw [if_neg (by omega)]; omega)); rw [if_neg (by omega)]; exact hak x (by omega))
              · refine r_iconst (pc' := 171) X dX9_stepOn_170 rfl ?_
                refine r_goto (tgt := 175) X dX9_stepOn_171 rfl ?_
                refine r_iadd (pc' := 176) X dX9_stepOn_175 rfl ?_
                refine r_iast (i := (34 + k)) (pc' := 177) X hrw (by omega) (by omega) (by decide) dX9_stepOn_176 rfl (fun M6 hM6 => ?_)
                refine r_iinc (pc' := 180) (z' := ((k + 1 : Nat) : Int)) (lc' := [(0, vR G (29, 0)), (1, vR G (29, jr)), (2, vI u), (3, vI d), (4, vI ((k + 1 : Nat) : Int))]) X 4 [1, 2, 3, 4, 0] dX9_stepOn_177 rfl (by omega) (by decide) rfl rfl ?_
                refine r_goto (tgt := 143) X dX9_stepOn_180 rfl ?_
                exact ih143 (k + 1) M6 (by omega) (by omega) (fun a b x q => by rw [hM6]; unfold wu; rw [if_neg (by omega)]; exact hfk a b x (by omega)) (fun x hx => by rw [hM6]; unfold wu; by_cases q : x = k; rw [if_pos ⟨rfl, rfl, by omega⟩, q]; (first | (rw [if_pos (by omega)]; omega) | (rw [if_neg (by omega)]; omega)); rw [if_neg (by omega)]; exact hak x (by omega))
        exact L143 ((P - 0) + 1) 0 M4 (Nat.lt_succ_self _) (by omega) (fun a b x q => by rfl) (fun x h => absurd h (Nat.not_lt_zero x))
      · refine r_lconst (pc' := 36) (z := 0) X dX9_stepOn_35 rfl rfl ?_
        refine r_lstore (pc' := 38) (lc' := [(0, vR G (29, 0)), (1, vR G (29, jr)), (2, vI u), (3, vI d), (4, vI (i : Int)), (5, vJ 0)]) X [1, 2, 3, 4, 5, 0] dX9_stepOn_36 (by decide) rfl rfl ?_
        refine r_iconst (pc' := 39) X dX9_stepOn_38 rfl ?_
        refine r_istore (pc' := 41) (lc' := [(0, vR G (29, 0)), (1, vR G (29, jr)), (2, vI u), (3, vI d), (4, vI (i : Int)), (5, vJ 0), (7, vI 0)]) X [1, 2, 3, 4, 5, 6, 0] dX9_stepOn_39 (by decide) rfl rfl ?_
        have L41 : ∀ (fu : Nat) (j : Nat) (t : Int), N - j < fu → (j ≤ N) → (t = dot j (pv (2 + i)) (w 1)) → wV p l e (wrm 2 0 0) s m args below meth c G 8 Ma 0 0 (MQ below (wQv G (fun M1 => REq N P (stepF N P pv w u d) (M1 29 jr) ∧ ∀ a b x, ¬ (a = 29 ∧ (b = jr ∨ b = 19 ∨ b = 20)) → M1 a b x = M a b x)) args s 0 0 (wA G)) 41 [(0, vR G (29, 0)), (1, vR G (29, jr)), (2, vI u), (3, vI d), (4, vI (i : Int)), (5, vJ t), (7, vI (j : Int))] [] := by
          intro fu
          induction fu with
          | zero => intro j t hfu; exact absurd hfu (Nat.not_lt_zero _)
          | succ fu ih41 =>
            intro j t hfu41 hj0 ht
            refine r_iload (pc' := 43) X 6 dX9_stepOn_41 rfl rfl ?_
            refine r_aload_n (pc' := 44) X 0 dX9_stepOn_43 rfl rfl rfl ?_
            refine gf_29_states (pc' := 47) X gw_972 dX9_stepOn_44 rfl ?_
            refine r_icmp_ge (pc' := 50) (tgt := 83) X dX9_stepOn_47 rfl rfl (by omega) (by omega) (fun h47 => ?_) (fun h47 => ?_)
            · have sB := sB' i (by omega)
              have sE := sE' i (by omega)
              have rBi := hB i (by omega)
              have rEi := hE i (by omega)
              have hd1 := dot_bd (A := 99) (B := 1000000) (by decide) (by decide) (n := N) (f := pv (2 + i)) (g := w 1) (fun x hx => hA i x (by omega) hx) hT
              have hf1 := fdiv_small (a := dot N (pv (2 + i)) (w 1)) (b := 16) (B := 1000000000) (by omega) (by omega) (by decide)
              have hm1 := mul_bd (A := 99) (B := 99) (a := pv 6 i) (b := u) (by decide) rBi hu
              have hm2 := mul_bd (A := 99) (B := 99) (a := pv 7 i) (b := d) (by decide) rEi hd
              have ht' : t = dot N (pv (2 + i)) (w 1) := by rw [ht, show j = N by omega]
              rw [← ht'] at hd1 hf1
              rw [← sB] at hm1 rBi
              rw [← sE] at hm2 rEi
              refine r_aload_n (pc' := 84) X 1 dX9_stepOn_83 rfl rfl rfl ?_
              refine r_iconst (pc' := 85) X dX9_stepOn_84 rfl ?_
              refine r_iload (pc' := 87) X 4 dX9_stepOn_85 rfl rfl ?_
              refine r_iadd (pc' := 88) X dX9_stepOn_87 rfl ?_
              refine r_lload (pc' := 90) X 5 dX9_stepOn_88 rfl rfl ?_
              refine r_ldc2 (pc' := 93) (z := 16) X gw_1216 dX9_stepOn_90 rfl rfl ?_
              refine w_callj (pc' := 96) (st := [vI (0 + (i : Int)), vR G (29, jr)]) (w_runS X (c_X9_down l G Ma t 16 (by first | assumption | omega) (by first | assumption | omega)) cf_X9_down gw_1172 rfl rfl ⟨Nat.le_of_ble_eq_true rfl, Nat.le_of_ble_eq_true rfl⟩ rfl rfl (Nat.le_of_ble_eq_true rfl) ⟨Nat.le_of_ble_eq_true rfl, Nat.le_of_ble_eq_true rfl⟩ gw_1171 dX9_stepOn_93) rfl (fun z93 M7 h93 => ?_)
              obtain rfl := h93.1.symm
              obtain rfl := h93.2.symm
              refine r_aload_n (pc' := 97) X 0 dX9_stepOn_96 rfl rfl rfl ?_
              refine gf_29_drive (pc' := 100) X gw_975 dX9_stepOn_97 rfl ?_
              refine r_iload (pc' := 102) X 4 dX9_stepOn_100 rfl rfl ?_
              refine r_iald (i := i) (pc' := 103) X k29_3 (by omega) (by omega) (by decide) dX9_stepOn_102 rfl ?_
              refine r_i2l (pc' := 104) X dX9_stepOn_103 (by omega) rfl ?_
              refine r_iload_n (pc' := 105) X 2 dX9_stepOn_104 rfl rfl rfl ?_
              refine r_i2l (pc' := 106) X dX9_stepOn_105 (by omega) rfl ?_
              refine r_lmul (pc' := 107) X dX9_stepOn_106 rfl ?_
              refine r_ladd (pc' := 108) X dX9_stepOn_107 rfl ?_
              refine r_aload_n (pc' := 109) X 0 dX9_stepOn_108 rfl rfl rfl ?_
              refine gf_29_push (pc' := 112) X gw_976 dX9_stepOn_109 rfl ?_
              refine r_iload (pc' := 114) X 4 dX9_stepOn_112 rfl rfl ?_
              refine r_iald (i := i) (pc' := 115) X k29_4 (by omega) (by omega) (by decide) dX9_stepOn_114 rfl ?_
              refine r_i2l (pc' := 116) X dX9_stepOn_115 (by omega) rfl ?_
              refine r_iload_n (pc' := 117) X 3 dX9_stepOn_116 rfl rfl rfl ?_
              refine r_i2l (pc' := 118) X dX9_stepOn_117 (by omega) rfl ?_
              refine r_lmul (pc' := 119) X dX9_stepOn_118 rfl ?_
              refine r_ladd (pc' := 120) X dX9_stepOn_119 rfl ?_
              refine r_ldc (pc' := 122) (z := 1000000) X gw_1229 dX9_stepOn_120 rfl rfl ?_
              refine w_calli (pc' := 125) (st := [vI (0 + (i : Int)), vR G (29, jr)]) (w_runS X (c_X9_limited l G Ma ((((t.fdiv 16)) + ((Ma 29 3 i) * u)) + ((Ma 29 4 i) * d)) 1000000 (by first | assumption | omega) (by first | assumption | omega)) cf_X9_limited gw_1220 rfl rfl ⟨Nat.le_of_ble_eq_true rfl, Nat.le_of_ble_eq_true rfl⟩ rfl rfl (Nat.le_of_ble_eq_true rfl) ⟨Nat.le_of_ble_eq_true rfl, Nat.le_of_ble_eq_true rfl⟩ gw_1219 dX9_stepOn_122) rfl (fun z122 M8 h122 => ?_)
              obtain rfl := h122.1.symm
              obtain rfl := h122.2.symm
              refine r_iast (i := (0 + i)) (pc' := 126) X hrw (by omega) (by omega) (by decide) dX9_stepOn_125 rfl (fun M9 hM9 => ?_)
              refine r_iinc (pc' := 129) (z' := ((i + 1 : Nat) : Int)) (lc' := [(0, vR G (29, 0)), (1, vR G (29, jr)), (2, vI u), (3, vI d), (4, vI ((i + 1 : Nat) : Int)), (5, vJ t), (7, vI (j : Int))]) X 4 [1, 2, 3, 4, 0, 5, 6] dX9_stepOn_126 rfl (by omega) (by decide) rfl rfl ?_
              refine r_goto (tgt := 26) X dX9_stepOn_129 rfl ?_
              refine w_sub (lc' := [(0, vR G (29, 0)), (1, vR G (29, jr)), (2, vI u), (3, vI d), (4, vI ((i + 1 : Nat) : Int))]) [0, 1, 2, 3, 4] rfl ?_
              exact ih26 (i + 1) M9 (by omega) (by omega) (fun a b x q => by rw [hM9]; unfold wu; rw [if_neg (by omega)]; exact hfr a b x (by omega)) (fun x hx => by rw [hM9, wu_ne (by omega)]; exact hbe x hx) (fun x hx => by rw [hM9]; unfold wu; by_cases q : x = i; rw [if_pos ⟨rfl, rfl, by omega⟩, q, ht, show j = N by omega, sB, sE]; rfl; rw [if_neg (by omega)]; exact htv x (by omega))
            · have qAj := sA i j (by omega) (by omega)
              have bej := hbe j (by omega)
              have rAj := hA i j (by omega) (by omega)
              have rSj := hT j (by omega)
              refine r_lload (pc' := 52) X 5 dX9_stepOn_50 rfl rfl ?_
              refine r_aload_n (pc' := 53) X 0 dX9_stepOn_52 rfl rfl rfl ?_
              refine gf_29_matrix (pc' := 56) X gw_974 dX9_stepOn_53 rfl ?_
              refine r_iconst (pc' := 57) X dX9_stepOn_56 rfl ?_
              refine r_iload (pc' := 59) X 4 dX9_stepOn_57 rfl rfl ?_
              refine r_imul (pc' := 60) X dX9_stepOn_59 rfl ?_
              refine r_iload (pc' := 62) X 6 dX9_stepOn_60 rfl rfl ?_
              refine r_iadd (pc' := 63) X dX9_stepOn_62 rfl ?_
              refine r_iald (i := ((4 * i) + j)) (pc' := 64) X k29_2 (by omega) (by omega) (by decide) dX9_stepOn_63 rfl ?_
              refine r_i2l (pc' := 65) X dX9_stepOn_64 (by omega) rfl ?_
              refine r_aload_n (pc' := 66) X 0 dX9_stepOn_65 rfl rfl rfl ?_
              refine gf_29_before (pc' := 69) X gw_994 dX9_stepOn_66 rfl ?_
              refine r_iload (pc' := 71) X 6 dX9_stepOn_69 rfl rfl ?_
              refine r_iald (i := j) (pc' := 72) X k29_19 (by omega) (by omega) (by decide) dX9_stepOn_71 rfl ?_
              refine r_i2l (pc' := 73) X dX9_stepOn_72 (by omega) rfl ?_
              refine r_lmul (pc' := 74) X dX9_stepOn_73 rfl ?_
              refine r_ladd (pc' := 75) X dX9_stepOn_74 rfl ?_
              refine r_lstore (pc' := 77) (lc' := [(0, vR G (29, 0)), (1, vR G (29, jr)), (2, vI u), (3, vI d), (4, vI (i : Int)), (5, vJ (t + ((Ma 29 2 ((4 * i) + j)) * (Ma 29 19 j)))), (7, vI (j : Int))]) X [1, 2, 3, 4, 5, 0, 6] dX9_stepOn_75 (by decide) rfl rfl ?_
              refine r_iinc (pc' := 80) (z' := ((j + 1 : Nat) : Int)) (lc' := [(0, vR G (29, 0)), (1, vR G (29, jr)), (2, vI u), (3, vI d), (4, vI (i : Int)), (5, vJ (t + ((Ma 29 2 ((4 * i) + j)) * (Ma 29 19 j)))), (7, vI ((j + 1 : Nat) : Int))]) X 6 [1, 2, 3, 4, 5, 6, 0] dX9_stepOn_77 rfl (by omega) (by decide) rfl rfl ?_
              refine r_goto (tgt := 41) X dX9_stepOn_80 rfl ?_
              exact ih41 (j + 1) (t + ((Ma 29 2 ((4 * i) + j)) * (Ma 29 19 j))) (by omega) (by omega) (by rw [ht, qAj, bej]; rfl)
        exact L41 ((N - 0) + 1) 0 0 (Nat.lt_succ_self _) (by omega) rfl
  exact L26 ((N - 0) + 1) 0 M3 (Nat.lt_succ_self _) (by omega) (fun a b x q => by rfl) t20 (fun x h => absurd h (Nat.not_lt_zero x))
