/-! both alike -/
theorem cf_L_alike : wCal yL_alike cL_alike 5 (some .boolean) 2 := ⟨gw_679, gw_0, by decide, by decide, by rfl⟩
set_option maxRecDepth 100000 in
set_option maxHeartbeats 4000000 in
theorem c_L_alike (l : Launch) (G1 G2 : wG) (M W : wM) (hfl : l.stackTraces = false) (N P L nx ct LL nn cc : Nat) (T : Int) (lo1 : Lo N P L nx ct T M) (lo2 : Lo N P LL nn cc T W) (hal : Al N P M W) : Met l yL_alike (gws yL_alike cL_alike 5 (some .boolean)) (wrm 8 200 1200) (dPc G1 G2 M W [vR G1 (28, 0), vR G2 (28, 0)]) (dQi G1 G2 (fun z M1 W1 => z = 1 ∧ ScrEq M M1 ∧ ScrEq W W1)) 200 1200 (dA G1 G2) := by
  refine dMet (lc := [(0, vR G1 (28, 0)), (1, vR G2 (28, 0))]) (by decide) (Nat.le_of_ble_eq_true rfl) rfl ?_
  intro p e s m args below meth c X hL hr
  have X : wX p s m args meth c (gA G1 (dA G1 G2)) 5 "StateObserverLaw" cL_alike := X
  have X2 := X.other hL (fun q h => h)
  have ewd := al_wid hal.2
  refine e_aload_n (pc' := 1) X 0 dL_alike_0 rfl rfl rfl ?_
  refine e_call1 (pc' := 4) (st := []) hL (fun q h => h) (e_runV X (fun q h => (fun q h => h) q (Or.inl h)) hL.1 (c_X8_width l G1 M N P T lo1.ck (by have := lo1.t; omega)) cf_X8_width k28_0 rfl gw_369 gw_370 rfl rfl ⟨Nat.le_of_ble_eq_true rfl, Nat.le_of_ble_eq_true rfl⟩ rfl rfl (Nat.le_of_ble_eq_true rfl) ⟨by show _ ≤ 200; omega, by show _ ≤ 1200; omega⟩ gw_368 dL_alike_1) rfl (fun z1 M1 h1 => ?_)
  obtain ⟨hv1, hm1⟩ := h1
  obtain rfl := hm1.symm
  refine e_aload_n (pc' := 5) X 1 dL_alike_4 rfl rfl rfl ?_
  refine e_call2 (pc' := 8) (st := [vI z1]) hL (fun q h => h) (e_runV X2 (fun q h => (fun q h => h) q (Or.inr h)) hL.2.1 (c_X8_width l G2 W N P T lo2.ck (by have := lo2.t; omega)) cf_X8_width k28_0 rfl gw_369 gw_370 rfl rfl ⟨Nat.le_of_ble_eq_true rfl, Nat.le_of_ble_eq_true rfl⟩ rfl rfl (Nat.le_of_ble_eq_true rfl) ⟨by show _ ≤ 200; omega, by show _ ≤ 1200; omega⟩ gw_368 dL_alike_5) rfl (fun z5 W2 h5 => ?_)
  obtain ⟨hv5, hm5⟩ := h5
  obtain rfl := hm5.symm
  refine e_icmp_neE (pc' := 11) (tgt := 41) X dL_alike_8 rfl rfl (by omega) ?_
  refine e_aload_n (pc' := 12) X 0 dL_alike_11 rfl rfl rfl ?_
  refine e_iconst (pc' := 13) X dL_alike_12 rfl ?_
  refine e_call1 (pc' := 16) (st := []) hL (fun q h => h) (e_runSH X (fun q h => (fun q h => h) q (Or.inl h)) hL.1 (c_L_tryUnknown l G1 M hfl N P T lo1.ck (by have := lo1.t; omega) 1 (by first | omega | assumption | decide)) cf_L_tryUnknown gw_534 rfl rfl ⟨Nat.le_of_ble_eq_true rfl, Nat.le_of_ble_eq_true rfl⟩ rfl rfl (Nat.le_of_ble_eq_true rfl) ⟨by show _ ≤ 200; omega, by show _ ≤ 1200; omega⟩ gw_533 dL_alike_13) rfl (fun z13 M3 h13 => ?_)
  refine e_aload_n (pc' := 17) X 1 dL_alike_16 rfl rfl rfl ?_
  refine e_iconst (pc' := 18) X dL_alike_17 rfl ?_
  refine e_call2 (pc' := 21) (st := [vI z13]) hL (fun q h => h) (e_runSH X2 (fun q h => (fun q h => h) q (Or.inr h)) hL.2.1 (c_L_tryUnknown l G2 W hfl N P T lo2.ck (by have := lo2.t; omega) 1 (by first | omega | assumption | decide)) cf_L_tryUnknown gw_534 rfl rfl ⟨Nat.le_of_ble_eq_true rfl, Nat.le_of_ble_eq_true rfl⟩ rfl rfl (Nat.le_of_ble_eq_true rfl) ⟨by show _ ≤ 200; omega, by show _ ≤ 1200; omega⟩ gw_533 dL_alike_18) rfl (fun z18 W4 h18 => ?_)
  obtain ⟨ez18, sa18, sb18⟩ := eq_unk hal h13 h18
  have loM3 := lo1.scr sa18
  have loW4 := lo2.scr sb18
  have alM3W4 := hal.scr sa18 sb18
  have s1M3 := sa18
  have s2W4 := sb18
  refine e_icmp_neE (pc' := 24) (tgt := 41) X dL_alike_21 rfl rfl ez18 ?_
  refine e_aload_n (pc' := 25) X 0 dL_alike_24 rfl rfl rfl ?_
  refine e_iconst (pc' := 26) X dL_alike_25 rfl ?_
  refine e_call1 (pc' := 29) (st := []) hL (fun q h => h) (e_runSH X (fun q h => (fun q h => h) q (Or.inl h)) hL.1 (c_L_tryUnknown l G1 M3 hfl N P T loM3.ck (by have := loM3.t; omega) 0 (by first | omega | assumption | decide)) cf_L_tryUnknown gw_534 rfl rfl ⟨Nat.le_of_ble_eq_true rfl, Nat.le_of_ble_eq_true rfl⟩ rfl rfl (Nat.le_of_ble_eq_true rfl) ⟨by show _ ≤ 200; omega, by show _ ≤ 1200; omega⟩ gw_533 dL_alike_26) rfl (fun z26 M5 h26 => ?_)
  refine e_aload_n (pc' := 30) X 1 dL_alike_29 rfl rfl rfl ?_
  refine e_iconst (pc' := 31) X dL_alike_30 rfl ?_
  refine e_call2 (pc' := 34) (st := [vI z26]) hL (fun q h => h) (e_runSH X2 (fun q h => (fun q h => h) q (Or.inr h)) hL.2.1 (c_L_tryUnknown l G2 W4 hfl N P T loW4.ck (by have := loW4.t; omega) 0 (by first | omega | assumption | decide)) cf_L_tryUnknown gw_534 rfl rfl ⟨Nat.le_of_ble_eq_true rfl, Nat.le_of_ble_eq_true rfl⟩ rfl rfl (Nat.le_of_ble_eq_true rfl) ⟨by show _ ≤ 200; omega, by show _ ≤ 1200; omega⟩ gw_533 dL_alike_31) rfl (fun z31 W6 h31 => ?_)
  obtain ⟨ez31, sa31, sb31⟩ := eq_unk alM3W4 h26 h31
  have loM5 := loM3.scr sa31
  have loW6 := loW4.scr sb31
  have alM5W6 := alM3W4.scr sa31 sb31
  have s1M5 := s1M3.trans sa31
  have s2W6 := s2W4.trans sb31
  refine e_icmp_neE (pc' := 37) (tgt := 41) X dL_alike_34 rfl rfl ez31 ?_
  refine e_iconst (pc' := 38) X dL_alike_37 rfl ?_
  refine e_goto (tgt := 42) X dL_alike_38 rfl ?_
  refine e_istore_n (pc' := 43) (lc' := [(0, vR G1 (28, 0)), (1, vR G2 (28, 0)), (2, vI 1)]) X [1, 2, 0] dL_alike_42 rfl (by decide) rfl rfl ?_
  refine e_iconst (pc' := 44) X dL_alike_43 rfl ?_
  refine e_istore_n (pc' := 45) (lc' := [(0, vR G1 (28, 0)), (1, vR G2 (28, 0)), (2, vI 1), (3, vI 0)]) X [1, 2, 3, 0] dL_alike_44 rfl (by decide) rfl rfl ?_
  have L45 : ∀ (fu : Nat) (i : Nat) (Ma Wa : wM), 5 - i < fu → (i ≤ 5) → (ScrEq M Ma) → (ScrEq W Wa) → eV p l e (wrm 8 200 1200) s m args below meth c (dA G1 G2) (dF G1 G2 Ma Wa) 5 (10 + 12 * i) (6 * (10 + 12 * i)) (MQ below (dQi G1 G2 (fun z M1 W1 => z = 1 ∧ ScrEq M M1 ∧ ScrEq W W1)) args s 200 1200 (dA G1 G2)) 45 [(0, vR G1 (28, 0)), (1, vR G2 (28, 0)), (2, vI 1), (3, vI (i : Int))] [] := by
    intro fu
    induction fu with
    | zero => intro i Ma Wa hfu; exact absurd hfu (Nat.not_lt_zero _)
    | succ fu ih45 =>
      intro i Ma Wa hfu45 hi s1Ma s2Wa
      have loMa := lo1.scr s1Ma
      have loWa := lo2.scr s2Wa
      have alMaWa := hal.scr s1Ma s2Wa
      refine e_iload_n (pc' := 46) X 3 dL_alike_45 rfl rfl rfl ?_
      refine e_iconst (pc' := 47) X dL_alike_46 rfl ?_
      refine e_icmp_ge (pc' := 50) (tgt := 121) X dL_alike_47 rfl rfl (by omega) (by omega) (fun h47 => ?_) (fun h47 => ?_)
      · refine e_iconst (pc' := 122) X dL_alike_121 rfl ?_
        refine e_istore_n (pc' := 123) (lc' := [(0, vR G1 (28, 0)), (1, vR G2 (28, 0)), (2, vI 1), (3, vI 0)]) X [1, 2, 3, 0] dL_alike_122 rfl (by decide) rfl rfl ?_
        have L123 : ∀ (fu : Nat) (i : Nat) (Mc Wc : wM), 3 - i < fu → (i ≤ 3) → (ScrEq M Mc) → (ScrEq W Wc) → eV p l e (wrm 8 200 1200) s m args below meth c (dA G1 G2) (dF G1 G2 Mc Wc) 5 (80 + 20 * i) (6 * (80 + 20 * i)) (MQ below (dQi G1 G2 (fun z M1 W1 => z = 1 ∧ ScrEq M M1 ∧ ScrEq W W1)) args s 200 1200 (dA G1 G2)) 123 [(0, vR G1 (28, 0)), (1, vR G2 (28, 0)), (2, vI 1), (3, vI (i : Int))] [] := by
          intro fu
          induction fu with
          | zero => intro i Mc Wc hfu; exact absurd hfu (Nat.not_lt_zero _)
          | succ fu ih123 =>
            intro i Mc Wc hfu123 hi s1Mc s2Wc
            have loMc := lo1.scr s1Mc
            have loWc := lo2.scr s2Wc
            have alMcWc := hal.scr s1Mc s2Wc
            refine e_iload_n (pc' := 124) X 3 dL_alike_123 rfl rfl rfl ?_
            refine e_iconst (pc' := 125) X dL_alike_124 rfl ?_
            refine e_icmp_ge (pc' := 128) (tgt := 205) X dL_alike_125 rfl rfl (by omega) (by omega) (fun h125 => ?_) (fun h125 => ?_)
            · refine e_iload_n (pc' := 206) X 2 dL_alike_205 rfl rfl rfl ?_
              refine e_widen (k' := 200) (n' := 1200) (by omega) (by omega) ?_
              refine e_zret X hr (by decide) dL_alike_206 ?_
              try dsimp only
              exact ⟨rfl, s1Mc, s2Wc⟩
            · refine e_iconst (pc' := 129) X dL_alike_128 rfl ?_
              refine e_istore (pc' := 131) (lc' := [(0, vR G1 (28, 0)), (1, vR G2 (28, 0)), (2, vI 1), (3, vI (i : Int)), (4, vI 0)]) X [1, 2, 3, 4, 0] dL_alike_129 (by decide) rfl rfl ?_
              have L131 : ∀ (fu : Nat) (j : Nat) (Md Wd : wM), 4 - j < fu → (j ≤ 4) → (ScrEq M Md) → (ScrEq W Wd) → eV p l e (wrm 8 200 1200) s m args below meth c (dA G1 G2) (dF G1 G2 Md Wd) 5 (80 + 20 * i + 4 * j) (6 * (80 + 20 * i + 4 * j)) (MQ below (dQi G1 G2 (fun z M1 W1 => z = 1 ∧ ScrEq M M1 ∧ ScrEq W W1)) args s 200 1200 (dA G1 G2)) 131 [(0, vR G1 (28, 0)), (1, vR G2 (28, 0)), (2, vI 1), (3, vI (i : Int)), (4, vI (j : Int))] [] := by
                intro fu
                induction fu with
                | zero => intro j Md Wd hfu; exact absurd hfu (Nat.not_lt_zero _)
                | succ fu ih131 =>
                  intro j Md Wd hfu131 hj s1Md s2Wd
                  have loMd := lo1.scr s1Md
                  have loWd := lo2.scr s2Wd
                  have alMdWd := hal.scr s1Md s2Wd
                  refine e_iload (pc' := 133) X 4 dL_alike_131 rfl rfl ?_
                  refine e_iconst (pc' := 134) X dL_alike_133 rfl ?_
                  refine e_icmp_ge (pc' := 137) (tgt := 199) X dL_alike_134 rfl rfl (by omega) (by omega) (fun h134 => ?_) (fun h134 => ?_)
                  · refine e_iinc (pc' := 202) (z' := ((i + 1 : Nat) : Int)) (lc' := [(0, vR G1 (28, 0)), (1, vR G2 (28, 0)), (2, vI 1), (3, vI ((i + 1 : Nat) : Int)), (4, vI (j : Int))]) X 3 [1, 2, 3, 0, 4] dL_alike_199 rfl (by omega) (by decide) rfl rfl ?_
                    refine e_goto (tgt := 123) X dL_alike_202 rfl ?_
                    refine e_sub (lc' := [(0, vR G1 (28, 0)), (1, vR G2 (28, 0)), (2, vI 1), (3, vI ((i + 1 : Nat) : Int))]) [0, 1, 2, 3] rfl ?_
                    refine e_widen (k' := 80 + 20 * (i + 1)) (n' := 6 * (80 + 20 * (i + 1))) (by omega) (by omega) ?_
                    exact ih123 (i + 1) Md Wd (by omega) (by omega) s1Md s2Wd
                  · refine e_iload_n (pc' := 138) X 2 dL_alike_137 rfl rfl rfl ?_
                    refine e_if_eq (pc' := 141) (tgt := 162) X dL_alike_138 rfl rfl (by omega) (fun h138 => absurd h138 (by decide)) (fun h138 => ?_)
                    refine e_aload_n (pc' := 142) X 0 dL_alike_141 rfl rfl rfl ?_
                    refine e_iload_n (pc' := 143) X 3 dL_alike_142 rfl rfl rfl ?_
                    refine e_iload (pc' := 145) X 4 dL_alike_143 rfl rfl ?_
                    refine e_call1 (pc' := 148) (st := []) hL (fun q h => h) (e_runSH X (fun q h => (fun q h => h) q (Or.inl h)) hL.1 (c_L_tryOutput l G1 Md hfl N P T loMd.ck (by have := loMd.t; omega) (i : Int) (j : Int) (by first | omega | assumption | decide) (by first | omega | assumption | decide)) cf_L_tryOutput gw_377 rfl rfl ⟨Nat.le_of_ble_eq_true rfl, Nat.le_of_ble_eq_true rfl⟩ rfl rfl (Nat.le_of_ble_eq_true rfl) ⟨by show _ ≤ 200; omega, by show _ ≤ 1200; omega⟩ gw_376 dL_alike_145) rfl (fun z145 M7 h145 => ?_)
                    refine e_aload_n (pc' := 149) X 1 dL_alike_148 rfl rfl rfl ?_
                    refine e_iload_n (pc' := 150) X 3 dL_alike_149 rfl rfl rfl ?_
                    refine e_iload (pc' := 152) X 4 dL_alike_150 rfl rfl ?_
                    refine e_call2 (pc' := 155) (st := [vI z145]) hL (fun q h => h) (e_runSH X2 (fun q h => (fun q h => h) q (Or.inr h)) hL.2.1 (c_L_tryOutput l G2 Wd hfl N P T loWd.ck (by have := loWd.t; omega) (i : Int) (j : Int) (by first | omega | assumption | decide) (by first | omega | assumption | decide)) cf_L_tryOutput gw_377 rfl rfl ⟨Nat.le_of_ble_eq_true rfl, Nat.le_of_ble_eq_true rfl⟩ rfl rfl (Nat.le_of_ble_eq_true rfl) ⟨by show _ ≤ 200; omega, by show _ ≤ 1200; omega⟩ gw_376 dL_alike_152) rfl (fun z152 W8 h152 => ?_)
                    obtain ⟨ez152, sa152, sb152⟩ := eq_out alMdWd h145 h152
                    have loM7 := loMd.scr sa152
                    have loW8 := loWd.scr sb152
                    have alM7W8 := alMdWd.scr sa152 sb152
                    have s1M7 := s1Md.trans sa152
                    have s2W8 := s2Wd.trans sb152
                    refine e_icmp_neE (pc' := 158) (tgt := 162) X dL_alike_155 rfl rfl ez152 ?_
                    refine e_iconst (pc' := 159) X dL_alike_158 rfl ?_
                    refine e_goto (tgt := 163) X dL_alike_159 rfl ?_
                    refine e_istore_n (pc' := 164) (lc' := [(0, vR G1 (28, 0)), (1, vR G2 (28, 0)), (2, vI 1), (3, vI (i : Int)), (4, vI (j : Int))]) X [1, 2, 0, 3, 4] dL_alike_163 rfl (by decide) rfl rfl ?_
                    refine e_iload_n (pc' := 165) X 2 dL_alike_164 rfl rfl rfl ?_
                    refine e_if_eq (pc' := 168) (tgt := 191) X dL_alike_165 rfl rfl (by omega) (fun h165 => absurd h165 (by decide)) (fun h165 => ?_)
                    refine e_aload_n (pc' := 169) X 0 dL_alike_168 rfl rfl rfl ?_
                    refine e_iconst (pc' := 170) X dL_alike_169 rfl ?_
                    refine e_iload (pc' := 172) X 4 dL_alike_170 rfl rfl ?_
                    refine e_iload_n (pc' := 173) X 3 dL_alike_172 rfl rfl rfl ?_
                    refine e_call1 (pc' := 176) (st := []) hL (fun q h => h) (e_runSH X (fun q h => (fun q h => h) q (Or.inl h)) hL.1 (c_L_tryNumber l G1 M7 hfl N P T loM7.ck (by have := loM7.t; omega) 5 (j : Int) (i : Int) (by first | omega | assumption | decide) (by first | omega | assumption | decide) (by first | omega | assumption | decide)) cf_L_tryNumber gw_619 rfl rfl ⟨Nat.le_of_ble_eq_true rfl, Nat.le_of_ble_eq_true rfl⟩ rfl rfl (Nat.le_of_ble_eq_true rfl) ⟨by show _ ≤ 200; omega, by show _ ≤ 1200; omega⟩ gw_618 dL_alike_173) rfl (fun z173 M9 h173 => ?_)
                    refine e_aload_n (pc' := 177) X 1 dL_alike_176 rfl rfl rfl ?_
                    refine e_iconst (pc' := 178) X dL_alike_177 rfl ?_
                    refine e_iload (pc' := 180) X 4 dL_alike_178 rfl rfl ?_
                    refine e_iload_n (pc' := 181) X 3 dL_alike_180 rfl rfl rfl ?_
                    refine e_call2 (pc' := 184) (st := [vI z173]) hL (fun q h => h) (e_runSH X2 (fun q h => (fun q h => h) q (Or.inr h)) hL.2.1 (c_L_tryNumber l G2 W8 hfl N P T loW8.ck (by have := loW8.t; omega) 5 (j : Int) (i : Int) (by first | omega | assumption | decide) (by first | omega | assumption | decide) (by first | omega | assumption | decide)) cf_L_tryNumber gw_619 rfl rfl ⟨Nat.le_of_ble_eq_true rfl, Nat.le_of_ble_eq_true rfl⟩ rfl rfl (Nat.le_of_ble_eq_true rfl) ⟨by show _ ≤ 200; omega, by show _ ≤ 1200; omega⟩ gw_618 dL_alike_181) rfl (fun z181 W10 h181 => ?_)
                    obtain ⟨ez181, sa181, sb181⟩ := eq_num alM7W8 h173 h181
                    have loM9 := loM7.scr sa181
                    have loW10 := loW8.scr sb181
                    have alM9W10 := alM7W8.scr sa181 sb181
                    have s1M9 := s1M7.trans sa181
                    have s2W10 := s2W8.trans sb181
                    refine e_icmp_neE (pc' := 187) (tgt := 191) X dL_alike_184 rfl rfl ez181 ?_
                    refine e_iconst (pc' := 188) X dL_alike_187 rfl ?_
                    refine e_goto (tgt := 192) X dL_alike_188 rfl ?_
                    refine e_istore_n (pc' := 193) (lc' := [(0, vR G1 (28, 0)), (1, vR G2 (28, 0)), (2, vI 1), (3, vI (i : Int)), (4, vI (j : Int))]) X [1, 2, 0, 3, 4] dL_alike_192 rfl (by decide) rfl rfl ?_
                    refine e_iinc (pc' := 196) (z' := ((j + 1 : Nat) : Int)) (lc' := [(0, vR G1 (28, 0)), (1, vR G2 (28, 0)), (2, vI 1), (3, vI (i : Int)), (4, vI ((j + 1 : Nat) : Int))]) X 4 [1, 2, 3, 4, 0] dL_alike_193 rfl (by omega) (by decide) rfl rfl ?_
                    refine e_goto (tgt := 131) X dL_alike_196 rfl ?_
                    refine e_widen (k' := 80 + 20 * i + 4 * (j + 1)) (n' := 6 * (80 + 20 * i + 4 * (j + 1))) (by omega) (by omega) ?_
                    exact ih131 (j + 1) M9 W10 (by omega) (by omega) s1M9 s2W10
              refine e_widen (k' := 80 + 20 * i + 4 * 0) (n' := 6 * (80 + 20 * i + 4 * 0)) (by omega) (by omega) ?_
              exact L131 ((4 - 0) + 1) 0 Mc Wc (Nat.lt_succ_self _) (by omega) s1Mc s2Wc
        refine e_widen (k' := 80 + 20 * 0) (n' := 6 * (80 + 20 * 0)) (by omega) (by omega) ?_
        exact L123 ((3 - 0) + 1) 0 Ma Wa (Nat.lt_succ_self _) (by omega) s1Ma s2Wa
      · refine e_iload_n (pc' := 51) X 2 dL_alike_50 rfl rfl rfl ?_
        refine e_if_eq (pc' := 54) (tgt := 71) X dL_alike_51 rfl rfl (by omega) (fun h51 => absurd h51 (by decide)) (fun h51 => ?_)
        refine e_aload_n (pc' := 55) X 0 dL_alike_54 rfl rfl rfl ?_
        refine e_iload_n (pc' := 56) X 3 dL_alike_55 rfl rfl rfl ?_
        refine e_call1 (pc' := 59) (st := []) hL (fun q h => h) (e_runSH X (fun q h => (fun q h => h) q (Or.inl h)) hL.1 (c_L_tryAbout l G1 Ma hfl N P T loMa.ck (by have := loMa.t; omega) (i : Int) (by first | omega | assumption | decide)) cf_L_tryAbout gw_681 rfl rfl ⟨Nat.le_of_ble_eq_true rfl, Nat.le_of_ble_eq_true rfl⟩ rfl rfl (Nat.le_of_ble_eq_true rfl) ⟨by show _ ≤ 200; omega, by show _ ≤ 1200; omega⟩ gw_680 dL_alike_56) rfl (fun z56 M11 h56 => ?_)
        refine e_aload_n (pc' := 60) X 1 dL_alike_59 rfl rfl rfl ?_
        refine e_iload_n (pc' := 61) X 3 dL_alike_60 rfl rfl rfl ?_
        refine e_call2 (pc' := 64) (st := [vI z56]) hL (fun q h => h) (e_runSH X2 (fun q h => (fun q h => h) q (Or.inr h)) hL.2.1 (c_L_tryAbout l G2 Wa hfl N P T loWa.ck (by have := loWa.t; omega) (i : Int) (by first | omega | assumption | decide)) cf_L_tryAbout gw_681 rfl rfl ⟨Nat.le_of_ble_eq_true rfl, Nat.le_of_ble_eq_true rfl⟩ rfl rfl (Nat.le_of_ble_eq_true rfl) ⟨by show _ ≤ 200; omega, by show _ ≤ 1200; omega⟩ gw_680 dL_alike_61) rfl (fun z61 W12 h61 => ?_)
        obtain ⟨ez61, sa61, sb61⟩ := eq_about alMaWa h56 h61
        have loM11 := loMa.scr sa61
        have loW12 := loWa.scr sb61
        have alM11W12 := alMaWa.scr sa61 sb61
        have s1M11 := s1Ma.trans sa61
        have s2W12 := s2Wa.trans sb61
        refine e_icmp_neE (pc' := 67) (tgt := 71) X dL_alike_64 rfl rfl ez61 ?_
        refine e_iconst (pc' := 68) X dL_alike_67 rfl ?_
        refine e_goto (tgt := 72) X dL_alike_68 rfl ?_
        refine e_istore_n (pc' := 73) (lc' := [(0, vR G1 (28, 0)), (1, vR G2 (28, 0)), (2, vI 1), (3, vI (i : Int))]) X [1, 2, 0, 3] dL_alike_72 rfl (by decide) rfl rfl ?_
        refine e_iconst (pc' := 74) X dL_alike_73 rfl ?_
        refine e_istore (pc' := 76) (lc' := [(0, vR G1 (28, 0)), (1, vR G2 (28, 0)), (2, vI 1), (3, vI (i : Int)), (4, vI 0)]) X [1, 2, 3, 4, 0] dL_alike_74 (by decide) rfl rfl ?_
        have L76 : ∀ (fu : Nat) (j : Nat) (Mb Wb : wM), 4 - j < fu → (j ≤ 4) → (ScrEq M Mb) → (ScrEq W Wb) → eV p l e (wrm 8 200 1200) s m args below meth c (dA G1 G2) (dF G1 G2 Mb Wb) 5 (12 + 12 * i + 2 * j) (6 * (12 + 12 * i + 2 * j)) (MQ below (dQi G1 G2 (fun z M1 W1 => z = 1 ∧ ScrEq M M1 ∧ ScrEq W W1)) args s 200 1200 (dA G1 G2)) 76 [(0, vR G1 (28, 0)), (1, vR G2 (28, 0)), (2, vI 1), (3, vI (i : Int)), (4, vI (j : Int))] [] := by
          intro fu
          induction fu with
          | zero => intro j Mb Wb hfu; exact absurd hfu (Nat.not_lt_zero _)
          | succ fu ih76 =>
            intro j Mb Wb hfu76 hj s1Mb s2Wb
            have loMb := lo1.scr s1Mb
            have loWb := lo2.scr s2Wb
            have alMbWb := hal.scr s1Mb s2Wb
            refine e_iload (pc' := 78) X 4 dL_alike_76 rfl rfl ?_
            refine e_iconst (pc' := 79) X dL_alike_78 rfl ?_
            refine e_icmp_ge (pc' := 82) (tgt := 115) X dL_alike_79 rfl rfl (by omega) (by omega) (fun h79 => ?_) (fun h79 => ?_)
            · refine e_iinc (pc' := 118) (z' := ((i + 1 : Nat) : Int)) (lc' := [(0, vR G1 (28, 0)), (1, vR G2 (28, 0)), (2, vI 1), (3, vI ((i + 1 : Nat) : Int)), (4, vI (j : Int))]) X 3 [1, 2, 3, 0, 4] dL_alike_115 rfl (by omega) (by decide) rfl rfl ?_
              refine e_goto (tgt := 45) X dL_alike_118 rfl ?_
              refine e_sub (lc' := [(0, vR G1 (28, 0)), (1, vR G2 (28, 0)), (2, vI 1), (3, vI ((i + 1 : Nat) : Int))]) [0, 1, 2, 3] rfl ?_
              refine e_widen (k' := 10 + 12 * (i + 1)) (n' := 6 * (10 + 12 * (i + 1))) (by omega) (by omega) ?_
              exact ih45 (i + 1) Mb Wb (by omega) (by omega) s1Mb s2Wb
            · refine e_iload_n (pc' := 83) X 2 dL_alike_82 rfl rfl rfl ?_
              refine e_if_eq (pc' := 86) (tgt := 107) X dL_alike_83 rfl rfl (by omega) (fun h83 => absurd h83 (by decide)) (fun h83 => ?_)
              refine e_aload_n (pc' := 87) X 0 dL_alike_86 rfl rfl rfl ?_
              refine e_iload (pc' := 89) X 4 dL_alike_87 rfl rfl ?_
              refine e_iload_n (pc' := 90) X 3 dL_alike_89 rfl rfl rfl ?_
              refine e_call1 (pc' := 93) (st := []) hL (fun q h => h) (e_runSH X (fun q h => (fun q h => h) q (Or.inl h)) hL.1 (c_L_tryState l G1 Mb hfl N P T loMb.ck (by have := loMb.t; omega) (j : Int) (i : Int) (by first | omega | assumption | decide) (by first | omega | assumption | decide)) cf_L_tryState gw_689 rfl rfl ⟨Nat.le_of_ble_eq_true rfl, Nat.le_of_ble_eq_true rfl⟩ rfl rfl (Nat.le_of_ble_eq_true rfl) ⟨by show _ ≤ 200; omega, by show _ ≤ 1200; omega⟩ gw_688 dL_alike_90) rfl (fun z90 M13 h90 => ?_)
              refine e_aload_n (pc' := 94) X 1 dL_alike_93 rfl rfl rfl ?_
              refine e_iload (pc' := 96) X 4 dL_alike_94 rfl rfl ?_
              refine e_iload_n (pc' := 97) X 3 dL_alike_96 rfl rfl rfl ?_
              refine e_call2 (pc' := 100) (st := [vI z90]) hL (fun q h => h) (e_runSH X2 (fun q h => (fun q h => h) q (Or.inr h)) hL.2.1 (c_L_tryState l G2 Wb hfl N P T loWb.ck (by have := loWb.t; omega) (j : Int) (i : Int) (by first | omega | assumption | decide) (by first | omega | assumption | decide)) cf_L_tryState gw_689 rfl rfl ⟨Nat.le_of_ble_eq_true rfl, Nat.le_of_ble_eq_true rfl⟩ rfl rfl (Nat.le_of_ble_eq_true rfl) ⟨by show _ ≤ 200; omega, by show _ ≤ 1200; omega⟩ gw_688 dL_alike_97) rfl (fun z97 W14 h97 => ?_)
              obtain ⟨ez97, sa97, sb97⟩ := eq_state alMbWb h90 h97
              have loM13 := loMb.scr sa97
              have loW14 := loWb.scr sb97
              have alM13W14 := alMbWb.scr sa97 sb97
              have s1M13 := s1Mb.trans sa97
              have s2W14 := s2Wb.trans sb97
              refine e_icmp_neE (pc' := 103) (tgt := 107) X dL_alike_100 rfl rfl ez97 ?_
              refine e_iconst (pc' := 104) X dL_alike_103 rfl ?_
              refine e_goto (tgt := 108) X dL_alike_104 rfl ?_
              refine e_istore_n (pc' := 109) (lc' := [(0, vR G1 (28, 0)), (1, vR G2 (28, 0)), (2, vI 1), (3, vI (i : Int)), (4, vI (j : Int))]) X [1, 2, 0, 3, 4] dL_alike_108 rfl (by decide) rfl rfl ?_
              refine e_iinc (pc' := 112) (z' := ((j + 1 : Nat) : Int)) (lc' := [(0, vR G1 (28, 0)), (1, vR G2 (28, 0)), (2, vI 1), (3, vI (i : Int)), (4, vI ((j + 1 : Nat) : Int))]) X 4 [1, 2, 3, 4, 0] dL_alike_109 rfl (by omega) (by decide) rfl rfl ?_
              refine e_goto (tgt := 76) X dL_alike_112 rfl ?_
              refine e_widen (k' := 12 + 12 * i + 2 * (j + 1)) (n' := 6 * (12 + 12 * i + 2 * (j + 1))) (by omega) (by omega) ?_
              exact ih76 (j + 1) M13 W14 (by omega) (by omega) s1M13 s2W14
        refine e_widen (k' := 12 + 12 * i + 2 * 0) (n' := 6 * (12 + 12 * i + 2 * 0)) (by omega) (by omega) ?_
        exact L76 ((4 - 0) + 1) 0 M11 W12 (Nat.lt_succ_self _) (by omega) s1M11 s2W12
  refine e_widen (k' := 10 + 12 * 0) (n' := 6 * (10 + 12 * 0)) (by omega) (by omega) ?_
  exact L45 ((5 - 0) + 1) 0 M5 W6 (Nat.lt_succ_self _) (by omega) s1M5 s2W6
