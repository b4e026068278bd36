/-! scripts -/
theorem cf_L_scripts : wCal yL_scripts cL_scripts 9 (some .boolean) 2 := ⟨gw_1014, gw_0, by decide, by decide, by rfl⟩
set_option maxRecDepth 100000 in
set_option maxHeartbeats 4000000 in
theorem c_L_scripts (l : Launch) (G : wG) (M : wM) (hfl : l.stackTraces = false) (N P L nx ct : Nat) (T : Int) (lo : Lo N P L nx ct T M) (x : Int) (hx : 0 ≤ x ∧ x ≤ 2147483647) : Met l yL_scripts (gws yL_scripts cL_scripts 9 (some .boolean)) (wrm 8 40 240) (wPc G M [vR G (28, 0), vI x]) (wQi G (fun z M1 => z = 1 ∧ ScrEq M M1)) 40 240 (wA G) := by
  refine wMet (lc := [(0, vR G (28, 0)), (1, vI x)]) (by decide) (Nat.le_of_ble_eq_true rfl) rfl ?_
  intro p e s m args below meth c X hr
  have X : wX p s m args meth c G 9 "StateObserverLaw" cL_scripts := X
  have hp1 : ((10000 ^ ((1 : Int).toNat) : Nat) : Int) = 10000 := by decide +kernel
  have hp2 : ((10000 ^ ((2 : Int).toNat) : Nat) : Int) = 100000000 := by decide +kernel
  have hp3 : ((10000 ^ ((3 : Int).toNat) : Nat) : Int) = 1000000000000 := by decide +kernel
  have hn := lo.n
  have hbo := lo.bo
  have d4 : 0 ≤ x.tdiv 4 ∧ x.tdiv 4 ≤ x := by
    have h1 := q_tdiv (a := x) (b := 4) (by decide)
    have h2 := Int.tdiv_nonneg (a := x) (b := 4) hx.1 (by decide)
    omega
  have t100 := tmod_bd (a := x.tdiv 4) (b := 100) (by decide)
  have tN := tmod_bd (a := x) (b := (N : Int)) (by omega)
  have hsim : SimOk N P (M 19) (M 0) T := ⟨lo.ck.2.1, lo.ck.2.2, lo.tr⟩
  have hsf := simF_pos lo.ck.1 7 (x * 31) T (M 0) lo.t.1 hsim
  obtain ⟨S7, hS7⟩ : ∃ q : Int, simF N P (M 19) 7 (x * 31) (M 0) = q := ⟨_, rfl⟩
  rw [hS7] at hsf
  refine r_aload_n (pc' := 1) X 0 dL_scripts_0 rfl rfl rfl ?_
  refine r_iconst (pc' := 2) X dL_scripts_1 rfl ?_
  refine w_calli (pc' := 5) (st := []) (w_runSH X (c_L_tryAbout l G M hfl N P T lo.ck (by have := lo.t; omega) 0 (by first | omega | assumption | decide)) cf_L_tryAbout gw_681 rfl rfl ⟨Nat.le_of_ble_eq_true rfl, Nat.le_of_ble_eq_true rfl⟩ rfl rfl (Nat.le_of_ble_eq_true rfl) ⟨by show _ ≤ 40; omega, by show _ ≤ 240; omega⟩ gw_680 dL_scripts_2) rfl (fun z2 M1 h2 => ?_)
  rcases h2 with h2 | h2
  rotate_left 1
  · exfalso
    omega
  obtain ⟨-, hv2, hm2⟩ := h2
  obtain rfl := hm2.symm
  refine w_eqI (z' := (N : Int)) hv2 ?_
  refine r_istore_n (pc' := 6) (lc' := [(0, vR G (28, 0)), (1, vI x), (2, vI (N : Int))]) X [1, 2, 0] dL_scripts_5 rfl (by decide) rfl rfl ?_
  refine r_iload_n (pc' := 7) X 1 dL_scripts_6 rfl rfl rfl ?_
  refine r_iload_n (pc' := 8) X 2 dL_scripts_7 rfl rfl rfl ?_
  refine r_irem (pc' := 9) X dL_scripts_8 (by omega) (by omega) (by omega) rfl ?_
  obtain ⟨i, hin⟩ : ∃ n : Nat, (x.tmod (N : Int)) = (n : Int) := ⟨((x.tmod (N : Int))).toNat, by omega⟩
  refine w_eqI (z' := (i : Int)) hin ?_
  refine r_istore_n (pc' := 10) (lc' := [(0, vR G (28, 0)), (1, vI x), (2, vI (N : Int)), (3, vI (i : Int))]) X [1, 2, 3, 0] dL_scripts_9 rfl (by decide) rfl rfl ?_
  refine r_iload_n (pc' := 11) X 1 dL_scripts_10 rfl rfl rfl ?_
  refine r_iconst (pc' := 12) X dL_scripts_11 rfl ?_
  refine r_idiv (pc' := 13) X dL_scripts_12 (by omega) (by omega) (by omega) rfl ?_
  refine r_bipush (pc' := 15) X dL_scripts_13 rfl rfl ?_
  refine r_irem (pc' := 16) X dL_scripts_15 (by omega) (by omega) (by omega) rfl ?_
  obtain ⟨tw, htn⟩ : ∃ n : Nat, ((x.tdiv 4).tmod 100) = (n : Int) := ⟨(((x.tdiv 4).tmod 100)).toNat, by omega⟩
  refine w_eqI (z' := (tw : Int)) htn ?_
  refine r_istore (pc' := 18) (lc' := [(0, vR G (28, 0)), (1, vI x), (2, vI (N : Int)), (3, vI (i : Int)), (4, vI (tw : Int))]) X [1, 2, 3, 4, 0] dL_scripts_16 (by decide) rfl rfl ?_
  have hiN : i < N := by omega
  have htw : tw < 100 := by omega
  have hbi := lo.box hiN
  have hii := lo.in hiN
  refine r_aload_n (pc' := 19) X 0 dL_scripts_18 rfl rfl rfl ?_
  refine r_iload_n (pc' := 20) X 3 dL_scripts_19 rfl rfl rfl ?_
  refine r_iconst (pc' := 21) X dL_scripts_20 rfl ?_
  refine w_calli (pc' := 24) (st := []) (w_runSH X (c_L_tryState l G M hfl N P T lo.ck (by have := lo.t; omega) (i : Int) 2 (by first | omega | assumption | decide) (by first | omega | assumption | decide)) cf_L_tryState gw_689 rfl rfl ⟨Nat.le_of_ble_eq_true rfl, Nat.le_of_ble_eq_true rfl⟩ rfl rfl (Nat.le_of_ble_eq_true rfl) ⟨by show _ ≤ 40; omega, by show _ ≤ 240; omega⟩ gw_688 dL_scripts_21) rfl (fun z21 M2 h21 => ?_)
  rcases h21 with h21 | h21 | h21
  rotate_left 1
  · exfalso
    omega
  · exfalso
    omega
  obtain ⟨-, -, hv21, hm21⟩ := h21
  obtain rfl := hm21.symm
  refine w_eqI (z' := M 0 3 i) hv21 ?_
  refine r_aload_n (pc' := 25) X 0 dL_scripts_24 rfl rfl rfl ?_
  refine r_iload_n (pc' := 26) X 3 dL_scripts_25 rfl rfl rfl ?_
  refine r_iconst (pc' := 27) X dL_scripts_26 rfl ?_
  refine w_calli (pc' := 30) (st := [vI (M 0 3 i)]) (w_runSH X (c_L_tryState l G M hfl N P T lo.ck (by have := lo.t; omega) (i : Int) 1 (by first | omega | assumption | decide) (by first | omega | assumption | decide)) cf_L_tryState gw_689 rfl rfl ⟨Nat.le_of_ble_eq_true rfl, Nat.le_of_ble_eq_true rfl⟩ rfl rfl (Nat.le_of_ble_eq_true rfl) ⟨by show _ ≤ 40; omega, by show _ ≤ 240; omega⟩ gw_688 dL_scripts_27) rfl (fun z27 M3 h27 => ?_)
  rcases h27 with h27 | h27 | h27
  rotate_left 1
  · exfalso
    omega
  · exfalso
    omega
  obtain ⟨-, -, hv27, hm27⟩ := h27
  obtain rfl := hm27.symm
  refine w_eqI (z' := M 0 2 i) hv27 ?_
  refine r_isub (pc' := 31) X dL_scripts_30 rfl ?_
  refine r_istore (pc' := 33) (lc' := [(0, vR G (28, 0)), (1, vI x), (2, vI (N : Int)), (3, vI (i : Int)), (4, vI (tw : Int)), (5, vI ((M 0 3 i) - (M 0 2 i)))]) X [1, 2, 3, 4, 5, 0] dL_scripts_31 (by decide) rfl rfl ?_
  refine r_aload_n (pc' := 34) X 0 dL_scripts_33 rfl rfl rfl ?_
  refine r_iconst (pc' := 35) X dL_scripts_34 rfl ?_
  refine r_ldc2 (pc' := 38) (z := 4000) X gw_1015 dL_scripts_35 rfl rfl ?_
  refine r_bipush (pc' := 40) X dL_scripts_38 rfl rfl ?_
  refine r_iload_n (pc' := 41) X 3 dL_scripts_40 rfl rfl rfl ?_
  refine r_imul (pc' := 42) X dL_scripts_41 rfl ?_
  refine r_i2l (pc' := 43) X dL_scripts_42 (by omega) rfl ?_
  refine r_ladd (pc' := 44) X dL_scripts_43 rfl ?_
  refine r_iload (pc' := 46) X 4 dL_scripts_44 rfl rfl ?_
  refine r_i2l (pc' := 47) X dL_scripts_46 (by omega) rfl ?_
  refine r_ladd (pc' := 48) X dL_scripts_47 rfl ?_
  refine w_calli (pc' := 51) (st := []) (w_runSH X (c_L_tryScript l G M hfl N P T lo.ck (by have := lo.t; omega) lo.t.1 lo.tr 1 ((4000 + (100 * (i : Int))) + (tw : Int)) (by first | omega | assumption | decide) (by first | omega | assumption | decide)) cf_L_tryScript gw_937 rfl rfl ⟨Nat.le_of_ble_eq_true rfl, Nat.le_of_ble_eq_true rfl⟩ rfl rfl (Nat.le_of_ble_eq_true rfl) ⟨by show _ ≤ 40; omega, by show _ ≤ 240; omega⟩ gw_936 dL_scripts_48) rfl (fun z48 M4 h48 => ?_)
  rcases h48 with h48 | h48
  rotate_left 1
  · exfalso
    exact h48.2.1 ⟨⟨by decide, by decide⟩, by omega, by rw [hp1]; omega⟩
  have hs48 := h48.2.2
  have sM4 : ScrEq M M4 := hs48
  have qM4 := lo.scr sM4
  have e0M4 : M4 0 = M 0 := sM4.z0
  have e19M4 : M4 19 = M 19 := sM4.z19
  have q48 := h48.2.1
  rw [show (((4000 + (100 * (i : Int))) + (tw : Int)) : Int).toNat = 4000 + 100 * i + tw by omega] at q48
  have e48 : z48 = (if M 0 3 i - M 0 2 i ≤ (tw : Int) then -9 else 0) := q48.trans (scr4 hiN hn.2.1 htw)
  have r48 : z48 = -9 ∨ z48 = 0 := by
    rw [e48]
    split
    · exact Or.inl rfl
    · exact Or.inr rfl
  have J64 : ∀ (x64 : Int), (x64 = z48) → wV p l e (wrm 8 40 240) s m args below meth c G 9 M4 (6) (6 * (6)) (MQ below (wQi G (fun z M1 => z = 1 ∧ ScrEq M M1)) args s 40 240 (wA G)) 64 [(0, vR G (28, 0)), (1, vI x), (2, vI (N : Int)), (3, vI (i : Int)), (4, vI (tw : Int)), (5, vI ((M 0 3 i) - (M 0 2 i)))] [vI x64, vI z48] := by
    intro x64 hx64
    refine r_icmp_ne (pc' := 67) (tgt := 176) X dL_scripts_64 rfl rfl (by omega) (by omega) (fun h64 => by exfalso; omega) (fun h64 => ?_)
    refine r_aload_n (pc' := 68) X 0 dL_scripts_67 rfl rfl rfl ?_
    refine r_iconst (pc' := 69) X dL_scripts_68 rfl ?_
    refine r_ldc2 (pc' := 72) (z := 5000) X gw_1016 dL_scripts_69 rfl rfl ?_
    refine r_bipush (pc' := 74) X dL_scripts_72 rfl rfl ?_
    refine r_iload_n (pc' := 75) X 3 dL_scripts_74 rfl rfl rfl ?_
    refine r_imul (pc' := 76) X dL_scripts_75 rfl ?_
    refine r_i2l (pc' := 77) X dL_scripts_76 (by omega) rfl ?_
    refine r_ladd (pc' := 78) X dL_scripts_77 rfl ?_
    refine r_iload (pc' := 80) X 4 dL_scripts_78 rfl rfl ?_
    refine r_i2l (pc' := 81) X dL_scripts_80 (by omega) rfl ?_
    refine r_ladd (pc' := 82) X dL_scripts_81 rfl ?_
    refine w_calli (pc' := 85) (st := []) (w_runSH X (c_L_tryScript l G M4 hfl N P T qM4.ck (by have := qM4.t; omega) qM4.t.1 qM4.tr 1 ((5000 + (100 * (i : Int))) + (tw : Int)) (by first | omega | assumption | decide) (by first | omega | assumption | decide)) cf_L_tryScript gw_937 rfl rfl ⟨Nat.le_of_ble_eq_true rfl, Nat.le_of_ble_eq_true rfl⟩ rfl rfl (Nat.le_of_ble_eq_true rfl) ⟨by show _ ≤ 40; omega, by show _ ≤ 240; omega⟩ gw_936 dL_scripts_82) rfl (fun z82 M5 h82 => ?_)
    rcases h82 with h82 | h82
    rotate_left 1
    · exfalso
      exact h82.2.1 ⟨⟨by decide, by decide⟩, by omega, by rw [hp1]; omega⟩
    have hs82 := h82.2.2
    simp only [e0M4, e19M4] at h82
    have sM5 : ScrEq M M5 := sM4.trans (hs82)
    have qM5 := lo.scr sM5
    have e0M5 : M5 0 = M 0 := sM5.z0
    have e19M5 : M5 19 = M 19 := sM5.z19
    have q82 := h82.2.1
    rw [show (((5000 + (100 * (i : Int))) + (tw : Int)) : Int).toNat = 5000 + 100 * i + tw by omega] at q82
    have e82 : z82 = (if (tw : Int) ≤ M 0 2 i then -9 else 0) := q82.trans (scr5 hiN hn.2.1 htw)
    have r82 : z82 = -9 ∨ z82 = 0 := by
      rw [e82]
      split
      · exact Or.inl rfl
      · exact Or.inr rfl
    refine r_aload_n (pc' := 86) X 0 dL_scripts_85 rfl rfl rfl ?_
    refine r_iload_n (pc' := 87) X 3 dL_scripts_86 rfl rfl rfl ?_
    refine r_iconst (pc' := 88) X dL_scripts_87 rfl ?_
    refine w_calli (pc' := 91) (st := [vI z82]) (w_runSH X (c_L_tryState l G M5 hfl N P T qM5.ck (by have := qM5.t; omega) (i : Int) 1 (by first | omega | assumption | decide) (by first | omega | assumption | decide)) cf_L_tryState gw_689 rfl rfl ⟨Nat.le_of_ble_eq_true rfl, Nat.le_of_ble_eq_true rfl⟩ rfl rfl (Nat.le_of_ble_eq_true rfl) ⟨by show _ ≤ 40; omega, by show _ ≤ 240; omega⟩ gw_688 dL_scripts_88) rfl (fun z88 M6 h88 => ?_)
    rcases h88 with h88 | h88 | h88
    rotate_left 1
    · exfalso
      omega
    · exfalso
      omega
    obtain ⟨-, -, hv88, hm88⟩ := h88
    obtain rfl := hm88.symm
    simp only [e0M5, e19M5] at hv88
    refine w_eqI (z' := M 0 2 i) hv88 ?_
    have J102 : ∀ (x102 : Int), (x102 = z82) → wV p l e (wrm 8 40 240) s m args below meth c G 9 M5 (10) (6 * (10)) (MQ below (wQi G (fun z M1 => z = 1 ∧ ScrEq M M1)) args s 40 240 (wA G)) 102 [(0, vR G (28, 0)), (1, vI x), (2, vI (N : Int)), (3, vI (i : Int)), (4, vI (tw : Int)), (5, vI ((M 0 3 i) - (M 0 2 i)))] [vI x102, vI z82] := by
      intro x102 hx102
      refine r_icmp_ne (pc' := 105) (tgt := 176) X dL_scripts_102 rfl rfl (by omega) (by omega) (fun h102 => by exfalso; omega) (fun h102 => ?_)
      refine r_aload_n (pc' := 106) X 0 dL_scripts_105 rfl rfl rfl ?_
      refine r_iconst (pc' := 107) X dL_scripts_106 rfl ?_
      refine r_ldc2 (pc' := 110) (z := 7000) X gw_1017 dL_scripts_107 rfl rfl ?_
      refine r_bipush (pc' := 112) X dL_scripts_110 rfl rfl ?_
      refine r_iload_n (pc' := 113) X 3 dL_scripts_112 rfl rfl rfl ?_
      refine r_imul (pc' := 114) X dL_scripts_113 rfl ?_
      refine r_i2l (pc' := 115) X dL_scripts_114 (by omega) rfl ?_
      refine r_ladd (pc' := 116) X dL_scripts_115 rfl ?_
      refine r_iload (pc' := 118) X 4 dL_scripts_116 rfl rfl ?_
      refine r_i2l (pc' := 119) X dL_scripts_118 (by omega) rfl ?_
      refine r_ladd (pc' := 120) X dL_scripts_119 rfl ?_
      refine w_calli (pc' := 123) (st := []) (w_runSH X (c_L_tryScript l G M5 hfl N P T qM5.ck (by have := qM5.t; omega) qM5.t.1 qM5.tr 1 ((7000 + (100 * (i : Int))) + (tw : Int)) (by first | omega | assumption | decide) (by first | omega | assumption | decide)) cf_L_tryScript gw_937 rfl rfl ⟨Nat.le_of_ble_eq_true rfl, Nat.le_of_ble_eq_true rfl⟩ rfl rfl (Nat.le_of_ble_eq_true rfl) ⟨by show _ ≤ 40; omega, by show _ ≤ 240; omega⟩ gw_936 dL_scripts_120) rfl (fun z120 M7 h120 => ?_)
      rcases h120 with h120 | h120
      rotate_left 1
      · exfalso
        exact h120.2.1 ⟨⟨by decide, by decide⟩, by omega, by rw [hp1]; omega⟩
      have hs120 := h120.2.2
      simp only [e0M5, e19M5] at h120
      have sM7 : ScrEq M M7 := sM5.trans (hs120)
      have qM7 := lo.scr sM7
      have e0M7 : M7 0 = M 0 := sM7.z0
      have e19M7 : M7 19 = M 19 := sM7.z19
      have q120 := h120.2.1
      rw [show (((7000 + (100 * (i : Int))) + (tw : Int)) : Int).toNat = 7000 + 100 * i + tw by omega] at q120
      have e120 : z120 = (if M 0 1 i ≤ (tw : Int) then -9 else 0) := q120.trans (scr7 hiN hn.2.1 htw)
      have r120 : z120 = -9 ∨ z120 = 0 := by
        rw [e120]
        split
        · exact Or.inl rfl
        · exact Or.inr rfl
      refine r_aload_n (pc' := 124) X 0 dL_scripts_123 rfl rfl rfl ?_
      refine r_iload_n (pc' := 125) X 3 dL_scripts_124 rfl rfl rfl ?_
      refine r_iconst (pc' := 126) X dL_scripts_125 rfl ?_
      refine w_calli (pc' := 129) (st := [vI z120]) (w_runSH X (c_L_tryState l G M7 hfl N P T qM7.ck (by have := qM7.t; omega) (i : Int) 0 (by first | omega | assumption | decide) (by first | omega | assumption | decide)) cf_L_tryState gw_689 rfl rfl ⟨Nat.le_of_ble_eq_true rfl, Nat.le_of_ble_eq_true rfl⟩ rfl rfl (Nat.le_of_ble_eq_true rfl) ⟨by show _ ≤ 40; omega, by show _ ≤ 240; omega⟩ gw_688 dL_scripts_126) rfl (fun z126 M8 h126 => ?_)
      rcases h126 with h126 | h126 | h126
      rotate_left 1
      · exfalso
        omega
      · exfalso
        omega
      obtain ⟨-, -, hv126, hm126⟩ := h126
      obtain rfl := hm126.symm
      simp only [e0M7, e19M7] at hv126
      refine w_eqI (z' := M 0 1 i) hv126 ?_
      have J140 : ∀ (x140 : Int), (x140 = z120) → wV p l e (wrm 8 40 240) s m args below meth c G 9 M7 (14) (6 * (14)) (MQ below (wQi G (fun z M1 => z = 1 ∧ ScrEq M M1)) args s 40 240 (wA G)) 140 [(0, vR G (28, 0)), (1, vI x), (2, vI (N : Int)), (3, vI (i : Int)), (4, vI (tw : Int)), (5, vI ((M 0 3 i) - (M 0 2 i)))] [vI x140, vI z120] := by
        intro x140 hx140
        refine r_icmp_ne (pc' := 143) (tgt := 176) X dL_scripts_140 rfl rfl (by omega) (by omega) (fun h140 => by exfalso; omega) (fun h140 => ?_)
        refine r_aload_n (pc' := 144) X 0 dL_scripts_143 rfl rfl rfl ?_
        refine r_iconst (pc' := 145) X dL_scripts_144 rfl ?_
        refine r_ldc2 (pc' := 148) (z := 8000) X gw_1018 dL_scripts_145 rfl rfl ?_
        refine w_calli (pc' := 151) (st := []) (w_runSH X (c_L_tryScript l G M7 hfl N P T qM7.ck (by have := qM7.t; omega) qM7.t.1 qM7.tr 1 8000 (by first | omega | assumption | decide) (by first | omega | assumption | decide)) cf_L_tryScript gw_937 rfl rfl ⟨Nat.le_of_ble_eq_true rfl, Nat.le_of_ble_eq_true rfl⟩ rfl rfl (Nat.le_of_ble_eq_true rfl) ⟨by show _ ≤ 40; omega, by show _ ≤ 240; omega⟩ gw_936 dL_scripts_148) rfl (fun z148 M9 h148 => ?_)
        rcases h148 with h148 | h148
        rotate_left 1
        · exfalso
          exact h148.2.1 ⟨⟨by decide, by decide⟩, by omega, by rw [hp1]; omega⟩
        have hs148 := h148.2.2
        simp only [e0M7, e19M7] at h148
        have sM9 : ScrEq M M9 := sM7.trans (hs148)
        have qM9 := lo.scr sM9
        have e0M9 : M9 0 = M 0 := sM9.z0
        have e19M9 : M9 19 = M 19 := sM9.z19
        have q148 := h148.2.1
        have e148 : z148 = 0 := q148.trans (scr8)
        refine r_if_ne (pc' := 154) (tgt := 176) X dL_scripts_151 rfl rfl (by omega) (fun h151 => by exfalso; omega) (fun h151 => ?_)
        refine r_aload_n (pc' := 155) X 0 dL_scripts_154 rfl rfl rfl ?_
        refine r_iconst (pc' := 156) X dL_scripts_155 rfl ?_
        refine r_ldc2 (pc' := 159) (z := 3000) X gw_1019 dL_scripts_156 rfl rfl ?_
        refine r_aload_n (pc' := 160) X 0 dL_scripts_159 rfl rfl rfl ?_
        refine r_iconst (pc' := 161) X dL_scripts_160 rfl ?_
        refine w_calli (pc' := 164) (st := [vJ 3000, vI 1, vR G (28, 0)]) (w_runSH X (c_L_tryAbout l G M9 hfl N P T qM9.ck (by have := qM9.t; omega) 1 (by first | omega | assumption | decide)) cf_L_tryAbout gw_681 rfl rfl ⟨Nat.le_of_ble_eq_true rfl, Nat.le_of_ble_eq_true rfl⟩ rfl rfl (Nat.le_of_ble_eq_true rfl) ⟨by show _ ≤ 40; omega, by show _ ≤ 240; omega⟩ gw_680 dL_scripts_161) rfl (fun z161 M10 h161 => ?_)
        rcases h161 with h161 | h161
        rotate_left 1
        · exfalso
          omega
        obtain ⟨-, hv161, hm161⟩ := h161
        obtain rfl := hm161.symm
        simp only [e0M9, e19M9] at hv161
        refine w_eqI (z' := (P : Int)) hv161 ?_
        refine r_i2l (pc' := 165) X dL_scripts_164 (by omega) rfl ?_
        refine r_ladd (pc' := 166) X dL_scripts_165 rfl ?_
        refine w_calli (pc' := 169) (st := []) (w_runSH X (c_L_tryScript l G M9 hfl N P T qM9.ck (by have := qM9.t; omega) qM9.t.1 qM9.tr 1 (3000 + (P : Int)) (by first | omega | assumption | decide) (by first | omega | assumption | decide)) cf_L_tryScript gw_937 rfl rfl ⟨Nat.le_of_ble_eq_true rfl, Nat.le_of_ble_eq_true rfl⟩ rfl rfl (Nat.le_of_ble_eq_true rfl) ⟨by show _ ≤ 40; omega, by show _ ≤ 240; omega⟩ gw_936 dL_scripts_166) rfl (fun z166 M11 h166 => ?_)
        rcases h166 with h166 | h166
        rotate_left 1
        · exfalso
          exact h166.2.1 ⟨⟨by decide, by decide⟩, by omega, by rw [hp1]; omega⟩
        have hs166 := h166.2.2
        simp only [e0M9, e19M9] at h166
        have sM11 : ScrEq M M11 := sM9.trans (hs166)
        have qM11 := lo.scr sM11
        have e0M11 : M11 0 = M 0 := sM11.z0
        have e19M11 : M11 19 = M 19 := sM11.z19
        have q166 := h166.2.1
        rw [show ((3000 + (P : Int)) : Int).toNat = 3000 + P by omega] at q166
        have e166 : z166 = 0 := q166.trans (scr3n hn.2.2.2)
        refine r_if_ne (pc' := 172) (tgt := 176) X dL_scripts_169 rfl rfl (by omega) (fun h169 => by exfalso; omega) (fun h169 => ?_)
        refine r_iconst (pc' := 173) X dL_scripts_172 rfl ?_
        refine r_goto (tgt := 177) X dL_scripts_173 rfl ?_
        refine r_istore (pc' := 179) (lc' := [(0, vR G (28, 0)), (1, vI x), (2, vI (N : Int)), (3, vI (i : Int)), (4, vI (tw : Int)), (5, vI ((M 0 3 i) - (M 0 2 i))), (6, vI 1)]) X [1, 2, 3, 4, 5, 6, 0] dL_scripts_177 (by decide) rfl rfl ?_
        refine r_iload (pc' := 181) X 6 dL_scripts_179 rfl rfl ?_
        refine r_if_eq (pc' := 184) (tgt := 290) X dL_scripts_181 rfl rfl (by omega) (fun h181 => absurd h181 (by decide)) (fun h181 => ?_)
        refine r_aload_n (pc' := 185) X 0 dL_scripts_184 rfl rfl rfl ?_
        refine r_iconst (pc' := 186) X dL_scripts_185 rfl ?_
        refine r_ldc2 (pc' := 189) (z := 1000) X gw_1020 dL_scripts_186 rfl rfl ?_
        refine r_bipush (pc' := 191) X dL_scripts_189 rfl rfl ?_
        refine r_iload (pc' := 193) X 4 dL_scripts_191 rfl rfl ?_
        refine r_imul (pc' := 194) X dL_scripts_193 rfl ?_
        refine r_i2l (pc' := 195) X dL_scripts_194 (by omega) rfl ?_
        refine r_ladd (pc' := 196) X dL_scripts_195 rfl ?_
        refine w_calli (pc' := 199) (st := []) (w_runSH X (c_L_tryScript l G M11 hfl N P T qM11.ck (by have := qM11.t; omega) qM11.t.1 qM11.tr 1 (1000 + (10 * (tw : Int))) (by first | omega | assumption | decide) (by first | omega | assumption | decide)) cf_L_tryScript gw_937 rfl rfl ⟨Nat.le_of_ble_eq_true rfl, Nat.le_of_ble_eq_true rfl⟩ rfl rfl (Nat.le_of_ble_eq_true rfl) ⟨by show _ ≤ 40; omega, by show _ ≤ 240; omega⟩ gw_936 dL_scripts_196) rfl (fun z196 M12 h196 => ?_)
        rcases h196 with h196 | h196
        rotate_left 1
        · exfalso
          exact h196.2.1 ⟨⟨by decide, by decide⟩, by omega, by rw [hp1]; omega⟩
        have hs196 := h196.2.2
        simp only [e0M11, e19M11] at h196
        have sM12 : ScrEq M M12 := sM11.trans (hs196)
        have qM12 := lo.scr sM12
        have e0M12 : M12 0 = M 0 := sM12.z0
        have e19M12 : M12 19 = M 19 := sM12.z19
        have q196 := h196.2.1
        rw [show ((1000 + (10 * (tw : Int))) : Int).toNat = 1000 + 10 * tw by omega] at q196
        have e196 : z196 = -9 := q196.trans (scr1s htw hbo.2.1.1)
        refine r_bipush (pc' := 201) X dL_scripts_199 rfl rfl ?_
        refine r_icmp_ne (pc' := 204) (tgt := 290) X dL_scripts_201 rfl rfl (by omega) (by omega) (fun h201 => by exfalso; omega) (fun h201 => ?_)
        refine r_aload_n (pc' := 205) X 0 dL_scripts_204 rfl rfl rfl ?_
        refine r_iconst (pc' := 206) X dL_scripts_205 rfl ?_
        refine r_ldc2 (pc' := 209) (z := 10000) X gw_955 dL_scripts_206 rfl rfl ?_
        refine r_sipush (pc' := 212) X dL_scripts_209 rfl rfl ?_
        refine r_bipush (pc' := 214) X dL_scripts_212 rfl rfl ?_
        refine r_iload (pc' := 216) X 4 dL_scripts_214 rfl rfl ?_
        refine r_imul (pc' := 217) X dL_scripts_216 rfl ?_
        refine r_iadd (pc' := 218) X dL_scripts_217 rfl ?_
        refine r_i2l (pc' := 219) X dL_scripts_218 (by omega) rfl ?_
        refine r_lmul (pc' := 220) X dL_scripts_219 rfl ?_
        refine r_ldc2 (pc' := 223) (z := 5000) X gw_1016 dL_scripts_220 rfl rfl ?_
        refine r_ladd (pc' := 224) X dL_scripts_223 rfl ?_
        refine r_bipush (pc' := 226) X dL_scripts_224 rfl rfl ?_
        refine r_iload_n (pc' := 227) X 3 dL_scripts_226 rfl rfl rfl ?_
        refine r_imul (pc' := 228) X dL_scripts_227 rfl ?_
        refine r_i2l (pc' := 229) X dL_scripts_228 (by omega) rfl ?_
        refine r_ladd (pc' := 230) X dL_scripts_229 rfl ?_
        refine r_ldc2 (pc' := 233) (z := 50) X gw_1021 dL_scripts_230 rfl rfl ?_
        refine r_ladd (pc' := 234) X dL_scripts_233 rfl ?_
        refine w_calli (pc' := 237) (st := []) (w_runSH X (c_L_tryScript l G M12 hfl N P T qM12.ck (by have := qM12.t; omega) qM12.t.1 qM12.tr 2 ((((10000 * (1000 + (10 * (tw : Int)))) + 5000) + (100 * (i : Int))) + 50) (by first | omega | assumption | decide) (by first | omega | assumption | decide)) cf_L_tryScript gw_937 rfl rfl ⟨Nat.le_of_ble_eq_true rfl, Nat.le_of_ble_eq_true rfl⟩ rfl rfl (Nat.le_of_ble_eq_true rfl) ⟨by show _ ≤ 40; omega, by show _ ≤ 240; omega⟩ gw_936 dL_scripts_234) rfl (fun z234 M13 h234 => ?_)
        rcases h234 with h234 | h234
        rotate_left 1
        · exfalso
          exact h234.2.1 ⟨⟨by decide, by decide⟩, by omega, by rw [hp2]; omega⟩
        have hs234 := h234.2.2
        simp only [e0M12, e19M12] at h234
        have sM13 : ScrEq M M13 := sM12.trans (hs234)
        have qM13 := lo.scr sM13
        have e0M13 : M13 0 = M 0 := sM13.z0
        have e19M13 : M13 19 = M 19 := sM13.z19
        have q234 := h234.2.1
        rw [show (((((10000 * (1000 + (10 * (tw : Int)))) + 5000) + (100 * (i : Int))) + 50) : Int).toNat = 10000 * (1000 + 10 * tw) + (5000 + 100 * i + 50) by omega] at q234
        have e234 : z234 = (if 50 ≤ lowF N (M 19) (tw : Int) (M 0 0 8) (M 0 2) (M 0 3) i then -9 else 1) := q234.trans (scr15 hiN hn.2.1 htw hbo.2.1.1)
        have r234 : z234 = -9 ∨ z234 = 1 := by
          rw [e234]
          split
          · exact Or.inl rfl
          · exact Or.inr rfl
        refine r_aload_n (pc' := 238) X 0 dL_scripts_237 rfl rfl rfl ?_
        refine r_iconst (pc' := 239) X dL_scripts_238 rfl ?_
        refine r_iload (pc' := 241) X 4 dL_scripts_239 rfl rfl ?_
        refine r_iload_n (pc' := 242) X 3 dL_scripts_241 rfl rfl rfl ?_
        refine r_iconst (pc' := 243) X dL_scripts_242 rfl ?_
        refine w_calli (pc' := 246) (st := [vI z234]) (w_runSH X (c_L_tryAhead l G M13 hfl N P T qM13.ck (by have := qM13.t; omega) 1 (tw : Int) (i : Int) 0 (by first | omega | assumption | decide) (by first | omega | assumption | decide) (by first | omega | assumption | decide) (by first | omega | assumption | decide)) cf_L_tryAhead gw_861 rfl rfl ⟨Nat.le_of_ble_eq_true rfl, Nat.le_of_ble_eq_true rfl⟩ rfl rfl (Nat.le_of_ble_eq_true rfl) ⟨by show _ ≤ 40; omega, by show _ ≤ 240; omega⟩ gw_860 dL_scripts_243) rfl (fun z243 M14 h243 => ?_)
        rcases h243 with h243 | h243 | h243
        rotate_left 1
        · exfalso
          have hd := h243.2.1; clear h243; omega
        · exfalso
          have hd := h243.2.1; clear h243; omega
        have hs243 := h243.2.2
        simp only [e0M13, e19M13] at h243
        have sM14 : ScrEq M M14 := sM13.trans (hs243)
        have qM14 := lo.scr sM14
        have e0M14 : M14 0 = M 0 := sM14.z0
        have e19M14 : M14 19 = M 19 := sM14.z19
        have e243 : z243 = lowF N (M 19) (tw : Int) (M 0 0 8) (M 0 2) (M 0 3) i := ((ahd (k := 1) (j := i) h243.2.1 rfl rfl).1 rfl).trans itv_1.1
        have r243 : -1000000 ≤ z243 ∧ z243 ≤ 1000000 := by rw [e243]; exact lim_le (by decide)
        have J257 : ∀ (x257 : Int), (x257 = z234) → wV p l e (wrm 8 40 240) s m args below meth c G 9 M14 (24) (6 * (24)) (MQ below (wQi G (fun z M1 => z = 1 ∧ ScrEq M M1)) args s 40 240 (wA G)) 257 [(0, vR G (28, 0)), (1, vI x), (2, vI (N : Int)), (3, vI (i : Int)), (4, vI (tw : Int)), (5, vI ((M 0 3 i) - (M 0 2 i))), (6, vI 1)] [vI x257, vI z234] := by
          intro x257 hx257
          refine r_icmp_ne (pc' := 260) (tgt := 290) X dL_scripts_257 rfl rfl (by omega) (by omega) (fun h257 => by exfalso; omega) (fun h257 => ?_)
          refine r_aload_n (pc' := 261) X 0 dL_scripts_260 rfl rfl rfl ?_
          refine r_iconst (pc' := 262) X dL_scripts_261 rfl ?_
          refine r_ldc2 (pc' := 265) (z := 30006000) X gw_1022 dL_scripts_262 rfl rfl ?_
          refine w_calli (pc' := 268) (st := []) (w_runSH X (c_L_tryScript l G M14 hfl N P T qM14.ck (by have := qM14.t; omega) qM14.t.1 qM14.tr 2 30006000 (by first | omega | assumption | decide) (by first | omega | assumption | decide)) cf_L_tryScript gw_937 rfl rfl ⟨Nat.le_of_ble_eq_true rfl, Nat.le_of_ble_eq_true rfl⟩ rfl rfl (Nat.le_of_ble_eq_true rfl) ⟨by show _ ≤ 40; omega, by show _ ≤ 240; omega⟩ gw_936 dL_scripts_265) rfl (fun z265 M15 h265 => ?_)
          rcases h265 with h265 | h265
          rotate_left 1
          · exfalso
            exact h265.2.1 ⟨⟨by decide, by decide⟩, by omega, by rw [hp2]; omega⟩
          have hs265 := h265.2.2
          simp only [e0M14, e19M14] at h265
          have sM15 : ScrEq M M15 := sM14.trans (hs265)
          have qM15 := lo.scr sM15
          have e0M15 : M15 0 = M 0 := sM15.z0
          have e19M15 : M15 19 = M 19 := sM15.z19
          have q265 := h265.2.1
          have e265 : z265 = -9 := q265.trans (scr36 ⟨hn.2.2.1, hn.2.2.2⟩)
          refine r_bipush (pc' := 270) X dL_scripts_268 rfl rfl ?_
          refine r_icmp_ne (pc' := 273) (tgt := 290) X dL_scripts_270 rfl rfl (by omega) (by omega) (fun h270 => by exfalso; omega) (fun h270 => ?_)
          refine r_aload_n (pc' := 274) X 0 dL_scripts_273 rfl rfl rfl ?_
          refine r_iconst (pc' := 275) X dL_scripts_274 rfl ?_
          refine r_ldc2 (pc' := 278) (z := 300010006001) X gw_1023 dL_scripts_275 rfl rfl ?_
          refine w_calli (pc' := 281) (st := []) (w_runSH X (c_L_tryScript l G M15 hfl N P T qM15.ck (by have := qM15.t; omega) qM15.t.1 qM15.tr 3 300010006001 (by first | omega | assumption | decide) (by first | omega | assumption | decide)) cf_L_tryScript gw_937 rfl rfl ⟨Nat.le_of_ble_eq_true rfl, Nat.le_of_ble_eq_true rfl⟩ rfl rfl (Nat.le_of_ble_eq_true rfl) ⟨by show _ ≤ 40; omega, by show _ ≤ 240; omega⟩ gw_936 dL_scripts_278) rfl (fun z278 M16 h278 => ?_)
          rcases h278 with h278 | h278
          rotate_left 1
          · exfalso
            exact h278.2.1 ⟨⟨by decide, by decide⟩, by omega, by rw [hp3]; omega⟩
          have hs278 := h278.2.2
          simp only [e0M15, e19M15] at h278
          have sM16 : ScrEq M M16 := sM15.trans (hs278)
          have qM16 := lo.scr sM16
          have e0M16 : M16 0 = M 0 := sM16.z0
          have e19M16 : M16 19 = M 19 := sM16.z19
          have q278 := h278.2.1
          have e278 : z278 = -9 := q278.trans (scr316 ⟨hn.2.2.1, hn.2.2.2⟩ hbo.2.1.1)
          refine r_bipush (pc' := 283) X dL_scripts_281 rfl rfl ?_
          refine r_icmp_ne (pc' := 286) (tgt := 290) X dL_scripts_283 rfl rfl (by omega) (by omega) (fun h283 => by exfalso; omega) (fun h283 => ?_)
          refine r_iconst (pc' := 287) X dL_scripts_286 rfl ?_
          refine r_goto (tgt := 291) X dL_scripts_287 rfl ?_
          refine r_istore (pc' := 293) (lc' := [(0, vR G (28, 0)), (1, vI x), (2, vI (N : Int)), (3, vI (i : Int)), (4, vI (tw : Int)), (5, vI ((M 0 3 i) - (M 0 2 i))), (6, vI 1)]) X [1, 2, 3, 4, 5, 6, 0] dL_scripts_291 (by decide) rfl rfl ?_
          refine r_aload_n (pc' := 294) X 0 dL_scripts_293 rfl rfl rfl ?_
          refine r_iload_n (pc' := 295) X 1 dL_scripts_294 rfl rfl rfl ?_
          refine r_i2l (pc' := 296) X dL_scripts_295 (by omega) rfl ?_
          refine r_ldc2 (pc' := 299) (z := 31) X gw_1024 dL_scripts_296 rfl rfl ?_
          refine r_lmul (pc' := 300) X dL_scripts_299 rfl ?_
          refine r_bipush (pc' := 302) X dL_scripts_300 rfl rfl ?_
          refine w_callj (pc' := 305) (st := []) (w_runSH X (c_L_trySimulate l G M16 hfl N P T qM16.ck (by have := qM16.t; omega) qM16.t.1 qM16.tr (x * 31) 7 (by first | omega | assumption | decide) (by first | omega | assumption | decide)) cf_L_trySimulate gw_959 rfl rfl ⟨Nat.le_of_ble_eq_true rfl, Nat.le_of_ble_eq_true rfl⟩ rfl rfl (Nat.le_of_ble_eq_true rfl) ⟨by show _ ≤ 40; omega, by show _ ≤ 240; omega⟩ gw_958 dL_scripts_302) rfl (fun z302 M17 h302 => ?_)
          rcases h302 with h302 | h302
          rotate_left 1
          · exfalso
            have hd := h302.2.1; clear h302; omega
          have hs302 := h302.2.2
          simp only [e0M16, e19M16] at h302
          have sM17 : ScrEq M M17 := sM16.trans (hs302)
          have qM17 := lo.scr sM17
          have e0M17 : M17 0 = M 0 := sM17.z0
          have e19M17 : M17 19 = M 19 := sM17.z19
          have e302 : z302 = S7 := (show z302 = simF N P (M 19) 7 (x * 31) (M 0) from h302.2.1).trans hS7
          refine r_lstore (pc' := 307) (lc' := [(0, vR G (28, 0)), (1, vI x), (2, vI (N : Int)), (3, vI (i : Int)), (4, vI (tw : Int)), (5, vI ((M 0 3 i) - (M 0 2 i))), (6, vI 1), (7, vJ z302)]) X [1, 2, 3, 4, 5, 6, 7, 0] dL_scripts_305 (by decide) rfl rfl ?_
          refine r_iload (pc' := 309) X 6 dL_scripts_307 rfl rfl ?_
          refine r_if_eq (pc' := 312) (tgt := 341) X dL_scripts_309 rfl rfl (by omega) (fun h309 => absurd h309 (by decide)) (fun h309 => ?_)
          refine r_lload (pc' := 314) X 7 dL_scripts_312 rfl rfl ?_
          refine r_lconst (pc' := 315) (z := 0) X dL_scripts_314 rfl rfl ?_
          refine r_lcmp (pc' := 316) X dL_scripts_315 (by omega) (by omega) rfl (fun z315 z315r z315l z315e z315g => ?_)
          refine r_if_lt (pc' := 319) (tgt := 341) X dL_scripts_316 rfl rfl (by omega) (fun h316 => by exfalso; omega) (fun h316 => ?_)
          refine r_lload (pc' := 321) X 7 dL_scripts_319 rfl rfl ?_
          refine r_aload_n (pc' := 322) X 0 dL_scripts_321 rfl rfl rfl ?_
          refine r_iload_n (pc' := 323) X 1 dL_scripts_322 rfl rfl rfl ?_
          refine r_i2l (pc' := 324) X dL_scripts_323 (by omega) rfl ?_
          refine r_ldc2 (pc' := 327) (z := 31) X gw_1024 dL_scripts_324 rfl rfl ?_
          refine r_lmul (pc' := 328) X dL_scripts_327 rfl ?_
          refine r_bipush (pc' := 330) X dL_scripts_328 rfl rfl ?_
          refine w_callj (pc' := 333) (st := [vJ z302]) (w_runSH X (c_L_trySimulate l G M17 hfl N P T qM17.ck (by have := qM17.t; omega) qM17.t.1 qM17.tr (x * 31) 7 (by first | omega | assumption | decide) (by first | omega | assumption | decide)) cf_L_trySimulate gw_959 rfl rfl ⟨Nat.le_of_ble_eq_true rfl, Nat.le_of_ble_eq_true rfl⟩ rfl rfl (Nat.le_of_ble_eq_true rfl) ⟨by show _ ≤ 40; omega, by show _ ≤ 240; omega⟩ gw_958 dL_scripts_330) rfl (fun z330 M18 h330 => ?_)
          rcases h330 with h330 | h330
          rotate_left 1
          · exfalso
            have hd := h330.2.1; clear h330; omega
          have hs330 := h330.2.2
          simp only [e0M17, e19M17] at h330
          have sM18 : ScrEq M M18 := sM17.trans (hs330)
          have qM18 := lo.scr sM18
          have e0M18 : M18 0 = M 0 := sM18.z0
          have e19M18 : M18 19 = M 19 := sM18.z19
          have e330 : z330 = z302 := (show z330 = simF N P (M 19) 7 (x * 31) (M 0) from h330.2.1).trans (hS7.trans e302.symm)
          refine r_lcmp (pc' := 334) X dL_scripts_333 (by omega) (by omega) rfl (fun z333 z333r z333l z333e z333g => ?_)
          refine r_if_ne (pc' := 337) (tgt := 341) X dL_scripts_334 rfl rfl (by omega) (fun h334 => by exfalso; omega) (fun h334 => ?_)
          refine r_iconst (pc' := 338) X dL_scripts_337 rfl ?_
          refine r_goto (tgt := 342) X dL_scripts_338 rfl ?_
          refine w_widen (k' := 40) (n' := 240) (by omega) (by omega) ?_
          refine w_zret X hr (by decide) dL_scripts_342 ?_
          try dsimp only
          exact ⟨rfl, sM18⟩
        refine r_bipush (pc' := 248) X dL_scripts_246 rfl rfl ?_
        refine r_icmp_lt (pc' := 251) (tgt := 256) X dL_scripts_248 rfl rfl (by omega) (by omega) (fun h248 => ?_) (fun h248 => ?_)
        · refine r_iconst (pc' := 257) X dL_scripts_256 rfl ?_
          refine w_widen (k' := 24) (n' := 6 * (24)) (by omega) (by omega) ?_
          exact J257 1 (by rw [e234]; split <;> omega)
        · refine r_bipush (pc' := 253) X dL_scripts_251 rfl rfl ?_
          refine r_goto (tgt := 257) X dL_scripts_253 rfl ?_
          refine w_widen (k' := 24) (n' := 6 * (24)) (by omega) (by omega) ?_
          exact J257 (-9) (by rw [e234]; split <;> omega)
      refine r_iload (pc' := 131) X 4 dL_scripts_129 rfl rfl ?_
      refine r_icmp_gt (pc' := 134) (tgt := 139) X dL_scripts_131 rfl rfl (by omega) (by omega) (fun h131 => ?_) (fun h131 => ?_)
      · refine r_iconst (pc' := 140) X dL_scripts_139 rfl ?_
        refine w_widen (k' := 14) (n' := 6 * (14)) (by omega) (by omega) ?_
        exact J140 0 (by rw [e120]; split <;> omega)
      · refine r_bipush (pc' := 136) X dL_scripts_134 rfl rfl ?_
        refine r_goto (tgt := 140) X dL_scripts_136 rfl ?_
        refine w_widen (k' := 14) (n' := 6 * (14)) (by omega) (by omega) ?_
        exact J140 (-9) (by rw [e120]; split <;> omega)
    refine r_iload (pc' := 93) X 4 dL_scripts_91 rfl rfl ?_
    refine r_icmp_lt (pc' := 96) (tgt := 101) X dL_scripts_93 rfl rfl (by omega) (by omega) (fun h93 => ?_) (fun h93 => ?_)
    · refine r_iconst (pc' := 102) X dL_scripts_101 rfl ?_
      refine w_widen (k' := 10) (n' := 6 * (10)) (by omega) (by omega) ?_
      exact J102 0 (by rw [e82]; split <;> omega)
    · refine r_bipush (pc' := 98) X dL_scripts_96 rfl rfl ?_
      refine r_goto (tgt := 102) X dL_scripts_98 rfl ?_
      refine w_widen (k' := 10) (n' := 6 * (10)) (by omega) (by omega) ?_
      exact J102 (-9) (by rw [e82]; split <;> omega)
  refine r_iload (pc' := 53) X 5 dL_scripts_51 rfl rfl ?_
  refine r_iload (pc' := 55) X 4 dL_scripts_53 rfl rfl ?_
  refine r_icmp_gt (pc' := 58) (tgt := 63) X dL_scripts_55 rfl rfl (by omega) (by omega) (fun h55 => ?_) (fun h55 => ?_)
  · refine r_iconst (pc' := 64) X dL_scripts_63 rfl ?_
    refine w_widen (k' := 6) (n' := 6 * (6)) (by omega) (by omega) ?_
    exact J64 0 (by rw [e48]; split <;> omega)
  · refine r_bipush (pc' := 60) X dL_scripts_58 rfl rfl ?_
    refine r_goto (tgt := 64) X dL_scripts_60 rfl ?_
    refine w_widen (k' := 6) (n' := 6 * (6)) (by omega) (by omega) ?_
    exact J64 (-9) (by rw [e48]; split <;> omega)
