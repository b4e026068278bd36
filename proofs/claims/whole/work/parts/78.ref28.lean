theorem cf_X9_load : wCal yX9_load cX9_load 1 (some .int) 0 := ⟨gw_1136, gw_10, by decide, by decide, by rfl⟩
set_option maxRecDepth 100000 in
set_option maxHeartbeats 4000000 in
theorem c_X9_load (l : Launch) (G : wG) (M : wM) (L : Nat) (hB : RxB (M 29) L) : Met l yX9_load (gws yX9_load cX9_load 1 (some .int)) (wrm 6 0 0) (wPc G M [vR G (29, 0)]) (wQi G (fun z M1 => (M1 29 0 0 = 0 ∧ True ∧ (rdE (M 29 1) L).1.2 = 0 ∧ z = (rdN (M 29 1) L : Int) ∧ ∃ M2 : wM, (RdF (M2 29) (M 29 1) L (rdN (M 29 1) L) (rdP (M 29 1) L) ∧ RdG (M2 29 12) (rdE (M 29 1) L).2) ∧ M1 29 0 5 = (rdN (M 29 1) L : Int) ∧ M1 29 0 6 = (rdP (M 29 1) L : Int) ∧ (∀ x, x < 16 → M1 29 2 x = M2 29 7 x) ∧ (∀ x, x < 12 → M1 29 5 x = M2 29 10 x) ∧ (∀ x, x < 4 → M1 29 3 x = M2 29 8 x) ∧ (∀ x, x < 4 → M1 29 4 x = M2 29 9 x) ∧ (∀ x, x < 3 → M1 29 6 x = M2 29 11 x) ∧ (∀ x, x < 48 → M1 29 13 x = M2 29 12 x) ∧ M1 29 0 24 = 0 ∧ M1 29 18 0 = 0 ∧ M1 29 18 1 = 0 ∧ ∀ a b x, (a = 29 → (b = 0 ∧ x = 2) ∨ b = 1 ∨ b = 17) → M1 a b x = M a b x) ∨ (M1 29 0 0 = 1 ∧ RScr M M1 ∧ ¬ (rdE (M 29 1) L).1.2 = 0))) 0 0 (wA G) := by
  refine wMet (lc := [(0, vR G (29, 0))]) (by decide) (Nat.le_of_ble_eq_true rfl) rfl ?_
  intro p e s m args below meth c X hr
  have X : wX p s m args meth c G 1 "StateObserverModel" cX9_load := X
  obtain ⟨okE1, okE2⟩ := rdE_ok (ch := M 29 1) (L := L)
  refine r_aload_n (pc' := 1) X 0 dX9_load_0 rfl rfl rfl ?_
  refine r_aload_n (pc' := 2) X 0 dX9_load_1 rfl rfl rfl ?_
  refine w_calli (pc' := 5) (st := [vR G (29, 0)]) (w_runV X (c_X9_readAll l G M L hB) cf_X9_readAll k29_0 rfl gw_1099 gp_26 rfl rfl ⟨Nat.le_of_ble_eq_true rfl, Nat.le_of_ble_eq_true rfl⟩ rfl rfl (Nat.le_of_ble_eq_true rfl) ⟨Nat.le_of_ble_eq_true rfl, Nat.le_of_ble_eq_true rfl⟩ gw_1097 dX9_load_2) rfl (fun z2 M1 h2 => ?_)
  obtain ⟨k1, k2, k3, k4⟩ := h2
  refine r_if_eq (pc' := 8) (tgt := 12) X dX9_load_5 rfl rfl (by omega) (fun h5 => ?_) (fun h5 => ?_)
  · refine r_iconst (pc' := 13) X dX9_load_12 rfl ?_
    refine w_calli (pc' := 16) (st := []) (w_runV X (c_X9_refused l G M1 1 (by first | assumption | omega)) cf_X9_refused k29_0 rfl gw_1087 gp_25 rfl rfl ⟨Nat.le_of_ble_eq_true rfl, Nat.le_of_ble_eq_true rfl⟩ rfl rfl (Nat.le_of_ble_eq_true rfl) ⟨Nat.le_of_ble_eq_true rfl, Nat.le_of_ble_eq_true rfl⟩ gw_1085 dX9_load_13) rfl (fun z13 M2 h13 => ?_)
    have hz13 : z13 = 1 := by rw [h13.1]; rfl
    have ew13 : ∀ a b x, ¬ (a = 29 ∧ b = 0 ∧ x = 0) → M2 a b x = M1 a b x := fun a b x q => by rw [h13.2]; unfold wu; rw [if_neg q]
    have er13 : M2 29 0 0 = 1 := by rw [h13.2]; unfold wu; rw [if_pos ⟨rfl, rfl, rfl⟩]
    have sc13 : RScr M1 M2 := fun a b x q => ew13 a b x (by omega)
    refine r_if_eq (pc' := 19) (tgt := 21) X dX9_load_16 rfl rfl (by omega) (fun h16 => by exfalso; omega) (fun h16 => ?_)
    refine r_iconst (pc' := 20) X dX9_load_19 rfl ?_
    refine w_iret X hr dX9_load_20 ?_
    try dsimp only
    exact Or.inr ⟨er13, fun a b x q => by rw [ew13 a b x (by omega), k4 a b x (by omega)], by omega⟩
  · refine r_iconst (pc' := 9) X dX9_load_8 rfl ?_
    refine r_goto (tgt := 13) X dX9_load_9 rfl ?_
    refine w_calli (pc' := 16) (st := []) (w_runV X (c_X9_refused l G M1 0 (by first | assumption | omega)) cf_X9_refused k29_0 rfl gw_1087 gp_25 rfl rfl ⟨Nat.le_of_ble_eq_true rfl, Nat.le_of_ble_eq_true rfl⟩ rfl rfl (Nat.le_of_ble_eq_true rfl) ⟨Nat.le_of_ble_eq_true rfl, Nat.le_of_ble_eq_true rfl⟩ gw_1085 dX9_load_13) rfl (fun z13 M3 h13 => ?_)
    have hz13 : z13 = 0 := by rw [h13.1]; rfl
    have ew13 : ∀ a b x, ¬ (a = 29 ∧ b = 0 ∧ x = 0) → M3 a b x = M1 a b x := fun a b x q => by rw [h13.2]; unfold wu; rw [if_neg q]
    have er13 : M3 29 0 0 = 0 := by rw [h13.2]; unfold wu; rw [if_pos ⟨rfl, rfl, rfl⟩]
    have sc13 : RScr M1 M3 := fun a b x q => ew13 a b x (by omega)
    refine r_if_eq (pc' := 19) (tgt := 21) X dX9_load_16 rfl rfl (by omega) (fun h16 => ?_) (fun h16 => by exfalso; omega)
    refine r_aload_n (pc' := 22) X 0 dX9_load_21 rfl rfl rfl ?_
    refine r_aload_n (pc' := 23) X 0 dX9_load_22 rfl rfl rfl ?_
    refine gf_29_readStates (pc' := 26) X gw_979 dX9_load_23 rfl ?_
    refine pf_29_states (pc' := 29) X gw_972 dX9_load_26 rfl (fun M4 hM4 => ?_)
    refine r_aload_n (pc' := 30) X 0 dX9_load_29 rfl rfl rfl ?_
    refine r_aload_n (pc' := 31) X 0 dX9_load_30 rfl rfl rfl ?_
    refine gf_29_readOutputs (pc' := 34) X gw_980 dX9_load_31 rfl ?_
    refine pf_29_outputs (pc' := 37) X gw_973 dX9_load_34 rfl (fun M5 hM5 => ?_)
    refine r_aload_n (pc' := 38) X 0 dX9_load_37 rfl rfl rfl ?_
    refine gf_29_readMatrix (pc' := 41) X gw_981 dX9_load_38 rfl ?_
    refine r_iconst (pc' := 42) X dX9_load_41 rfl ?_
    refine r_aload_n (pc' := 43) X 0 dX9_load_42 rfl rfl rfl ?_
    refine gf_29_matrix (pc' := 46) X gw_974 dX9_load_43 rfl ?_
    refine r_iconst (pc' := 47) X dX9_load_46 rfl ?_
    refine r_bipush (pc' := 49) X dX9_load_47 rfl rfl ?_
    refine w_callv (pc' := 52) (st := []) (w_runS X (c_X9_copy l G M5 29 7 0 29 2 0 16 16 16 k29_7 k29_2 (by first | assumption | omega) (by first | assumption | omega) (by first | assumption | omega) (by first | assumption | omega) (by first | assumption | omega)) cf_X9_copy gw_1138 rfl rfl ⟨Nat.le_of_ble_eq_true rfl, Nat.le_of_ble_eq_true rfl⟩ rfl rfl (Nat.le_of_ble_eq_true rfl) ⟨Nat.le_of_ble_eq_true rfl, Nat.le_of_ble_eq_true rfl⟩ gw_1137 dX9_load_49) rfl (fun M6 h49 => ?_)
    have c49 : ∀ x, x < 16 → M6 29 2 x = M5 29 7 x := fun x hx => by have q := h49.2.1 x hx; rw [Nat.zero_add] at q; exact q
    have o49 : ∀ b, b ≠ 2 → M6 29 b = M5 29 b := fun b hb => h49.1 29 b (by omega)
    have a49 : ∀ a, a ≠ 29 → M6 a = M5 a := fun a ha => funext fun b => h49.1 a b (by omega)
    refine r_aload_n (pc' := 53) X 0 dX9_load_52 rfl rfl rfl ?_
    refine gf_29_readView (pc' := 56) X gw_984 dX9_load_53 rfl ?_
    refine r_iconst (pc' := 57) X dX9_load_56 rfl ?_
    refine r_aload_n (pc' := 58) X 0 dX9_load_57 rfl rfl rfl ?_
    refine gf_29_view (pc' := 61) X gw_977 dX9_load_58 rfl ?_
    refine r_iconst (pc' := 62) X dX9_load_61 rfl ?_
    refine r_bipush (pc' := 64) X dX9_load_62 rfl rfl ?_
    refine w_callv (pc' := 67) (st := []) (w_runS X (c_X9_copy l G M6 29 10 0 29 5 0 12 12 12 k29_10 k29_5 (by first | assumption | omega) (by first | assumption | omega) (by first | assumption | omega) (by first | assumption | omega) (by first | assumption | omega)) cf_X9_copy gw_1138 rfl rfl ⟨Nat.le_of_ble_eq_true rfl, Nat.le_of_ble_eq_true rfl⟩ rfl rfl (Nat.le_of_ble_eq_true rfl) ⟨Nat.le_of_ble_eq_true rfl, Nat.le_of_ble_eq_true rfl⟩ gw_1137 dX9_load_64) rfl (fun M7 h64 => ?_)
    have c64 : ∀ x, x < 12 → M7 29 5 x = M6 29 10 x := fun x hx => by have q := h64.2.1 x hx; rw [Nat.zero_add] at q; exact q
    have o64 : ∀ b, b ≠ 5 → M7 29 b = M6 29 b := fun b hb => h64.1 29 b (by omega)
    have a64 : ∀ a, a ≠ 29 → M7 a = M6 a := fun a ha => funext fun b => h64.1 a b (by omega)
    refine r_aload_n (pc' := 68) X 0 dX9_load_67 rfl rfl rfl ?_
    refine gf_29_readDrive (pc' := 71) X gw_982 dX9_load_68 rfl ?_
    refine r_iconst (pc' := 72) X dX9_load_71 rfl ?_
    refine r_aload_n (pc' := 73) X 0 dX9_load_72 rfl rfl rfl ?_
    refine gf_29_drive (pc' := 76) X gw_975 dX9_load_73 rfl ?_
    refine r_iconst (pc' := 77) X dX9_load_76 rfl ?_
    refine r_iconst (pc' := 78) X dX9_load_77 rfl ?_
    refine w_callv (pc' := 81) (st := []) (w_runS X (c_X9_copy l G M7 29 8 0 29 3 0 4 4 4 k29_8 k29_3 (by first | assumption | omega) (by first | assumption | omega) (by first | assumption | omega) (by first | assumption | omega) (by first | assumption | omega)) cf_X9_copy gw_1138 rfl rfl ⟨Nat.le_of_ble_eq_true rfl, Nat.le_of_ble_eq_true rfl⟩ rfl rfl (Nat.le_of_ble_eq_true rfl) ⟨Nat.le_of_ble_eq_true rfl, Nat.le_of_ble_eq_true rfl⟩ gw_1137 dX9_load_78) rfl (fun M8 h78 => ?_)
    have c78 : ∀ x, x < 4 → M8 29 3 x = M7 29 8 x := fun x hx => by have q := h78.2.1 x hx; rw [Nat.zero_add] at q; exact q
    have o78 : ∀ b, b ≠ 3 → M8 29 b = M7 29 b := fun b hb => h78.1 29 b (by omega)
    have a78 : ∀ a, a ≠ 29 → M8 a = M7 a := fun a ha => funext fun b => h78.1 a b (by omega)
    refine r_aload_n (pc' := 82) X 0 dX9_load_81 rfl rfl rfl ?_
    refine gf_29_readPush (pc' := 85) X gw_983 dX9_load_82 rfl ?_
    refine r_iconst (pc' := 86) X dX9_load_85 rfl ?_
    refine r_aload_n (pc' := 87) X 0 dX9_load_86 rfl rfl rfl ?_
    refine gf_29_push (pc' := 90) X gw_976 dX9_load_87 rfl ?_
    refine r_iconst (pc' := 91) X dX9_load_90 rfl ?_
    refine r_iconst (pc' := 92) X dX9_load_91 rfl ?_
    refine w_callv (pc' := 95) (st := []) (w_runS X (c_X9_copy l G M8 29 9 0 29 4 0 4 4 4 k29_9 k29_4 (by first | assumption | omega) (by first | assumption | omega) (by first | assumption | omega) (by first | assumption | omega) (by first | assumption | omega)) cf_X9_copy gw_1138 rfl rfl ⟨Nat.le_of_ble_eq_true rfl, Nat.le_of_ble_eq_true rfl⟩ rfl rfl (Nat.le_of_ble_eq_true rfl) ⟨Nat.le_of_ble_eq_true rfl, Nat.le_of_ble_eq_true rfl⟩ gw_1137 dX9_load_92) rfl (fun M9 h92 => ?_)
    have c92 : ∀ x, x < 4 → M9 29 4 x = M8 29 9 x := fun x hx => by have q := h92.2.1 x hx; rw [Nat.zero_add] at q; exact q
    have o92 : ∀ b, b ≠ 4 → M9 29 b = M8 29 b := fun b hb => h92.1 29 b (by omega)
    have a92 : ∀ a, a ≠ 29 → M9 a = M8 a := fun a ha => funext fun b => h92.1 a b (by omega)
    refine r_aload_n (pc' := 96) X 0 dX9_load_95 rfl rfl rfl ?_
    refine gf_29_readQuantum (pc' := 99) X gw_985 dX9_load_96 rfl ?_
    refine r_iconst (pc' := 100) X dX9_load_99 rfl ?_
    refine r_aload_n (pc' := 101) X 0 dX9_load_100 rfl rfl rfl ?_
    refine gf_29_quantum (pc' := 104) X gw_978 dX9_load_101 rfl ?_
    refine r_iconst (pc' := 105) X dX9_load_104 rfl ?_
    refine r_iconst (pc' := 106) X dX9_load_105 rfl ?_
    refine w_callv (pc' := 109) (st := []) (w_runS X (c_X9_copy l G M9 29 11 0 29 6 0 3 3 3 k29_11 k29_6 (by first | assumption | omega) (by first | assumption | omega) (by first | assumption | omega) (by first | assumption | omega) (by first | assumption | omega)) cf_X9_copy gw_1138 rfl rfl ⟨Nat.le_of_ble_eq_true rfl, Nat.le_of_ble_eq_true rfl⟩ rfl rfl (Nat.le_of_ble_eq_true rfl) ⟨Nat.le_of_ble_eq_true rfl, Nat.le_of_ble_eq_true rfl⟩ gw_1137 dX9_load_106) rfl (fun M10 h106 => ?_)
    have c106 : ∀ x, x < 3 → M10 29 6 x = M9 29 11 x := fun x hx => by have q := h106.2.1 x hx; rw [Nat.zero_add] at q; exact q
    have o106 : ∀ b, b ≠ 6 → M10 29 b = M9 29 b := fun b hb => h106.1 29 b (by omega)
    have a106 : ∀ a, a ≠ 29 → M10 a = M9 a := fun a ha => funext fun b => h106.1 a b (by omega)
    refine r_aload_n (pc' := 110) X 0 dX9_load_109 rfl rfl rfl ?_
    refine gf_29_readRow (pc' := 113) X gw_986 dX9_load_110 rfl ?_
    refine r_iconst (pc' := 114) X dX9_load_113 rfl ?_
    refine r_aload_n (pc' := 115) X 0 dX9_load_114 rfl rfl rfl ?_
    refine gf_29_now (pc' := 118) X gw_987 dX9_load_115 rfl ?_
    refine r_iconst (pc' := 119) X dX9_load_118 rfl ?_
    refine r_bipush (pc' := 121) X dX9_load_119 rfl rfl ?_
    refine w_callv (pc' := 124) (st := []) (w_runS X (c_X9_copy l G M10 29 12 0 29 13 0 48 48 48 k29_12 k29_13 (by first | assumption | omega) (by first | assumption | omega) (by first | assumption | omega) (by first | assumption | omega) (by first | assumption | omega)) cf_X9_copy gw_1138 rfl rfl ⟨Nat.le_of_ble_eq_true rfl, Nat.le_of_ble_eq_true rfl⟩ rfl rfl (Nat.le_of_ble_eq_true rfl) ⟨Nat.le_of_ble_eq_true rfl, Nat.le_of_ble_eq_true rfl⟩ gw_1137 dX9_load_121) rfl (fun M11 h121 => ?_)
    have c121 : ∀ x, x < 48 → M11 29 13 x = M10 29 12 x := fun x hx => by have q := h121.2.1 x hx; rw [Nat.zero_add] at q; exact q
    have o121 : ∀ b, b ≠ 13 → M11 29 b = M10 29 b := fun b hb => h121.1 29 b (by omega)
    have a121 : ∀ a, a ≠ 29 → M11 a = M10 a := fun a ha => funext fun b => h121.1 a b (by omega)
    refine r_aload_n (pc' := 125) X 0 dX9_load_124 rfl rfl rfl ?_
    refine r_iconst (pc' := 126) X dX9_load_125 rfl ?_
    refine pf_29_acts (pc' := 129) X gw_991 dX9_load_126 rfl (fun M12 hM12 => ?_)
    refine r_aload_n (pc' := 130) X 0 dX9_load_129 rfl rfl rfl ?_
    refine gf_29_isKept (pc' := 133) X gw_993 dX9_load_130 rfl ?_
    refine r_iconst (pc' := 134) X dX9_load_133 rfl ?_
    refine r_iconst (pc' := 135) X dX9_load_134 rfl ?_
    refine r_zast (i := 0) (pc' := 136) X k29_18 (by omega) (by first | omega | decide) (by decide) (by first | omega | decide) dX9_load_135 rfl (fun M13 hM13 => ?_)
    refine r_aload_n (pc' := 137) X 0 dX9_load_136 rfl rfl rfl ?_
    refine gf_29_isKept (pc' := 140) X gw_993 dX9_load_137 rfl ?_
    refine r_iconst (pc' := 141) X dX9_load_140 rfl ?_
    refine r_iconst (pc' := 142) X dX9_load_141 rfl ?_
    refine r_zast (i := 1) (pc' := 143) X k29_18 (by omega) (by first | omega | decide) (by decide) (by first | omega | decide) dX9_load_142 rfl (fun M14 hM14 => ?_)
    refine r_aload_n (pc' := 144) X 0 dX9_load_143 rfl rfl rfl ?_
    refine gf_29_states (pc' := 147) X gw_972 dX9_load_144 rfl ?_
    refine w_iret X hr dX9_load_147 ?_
    try dsimp only
    have hz0 : (rdE (M 29 1) L).1.2 = 0 := by omega
    have v := k3 hz0
    obtain ⟨f1, f2, -⟩ := id v.1
    have p1 : ∀ a b x, ¬ (a = 29 ∧ b = 0 ∧ (x = 5 ∨ x = 6)) → M5 a b x = M3 a b x := fun a b x q => by rw [hM5]; unfold wu; rw [if_neg (by omega), hM4]; unfold wu; rw [if_neg (by omega)]
    have p5 : M5 29 0 5 = (rdN (M 29 1) L : Int) := by rw [hM5]; unfold wu; rw [if_neg (by omega), hM4]; unfold wu; rw [if_pos ⟨rfl, rfl, rfl⟩, ew13 29 0 12 (by omega)]; exact f1
    have p6 : M5 29 0 6 = (rdP (M 29 1) L : Int) := by rw [hM5]; unfold wu; rw [if_pos ⟨rfl, rfl, rfl⟩, hM4]; unfold wu; rw [if_neg (by omega), ew13 29 0 13 (by omega)]; exact f2
    have pb : ∀ b x, 1 ≤ b → M5 29 b x = M1 29 b x := fun b x q => by rw [p1 29 b x (by omega), ew13 29 b x (by omega)]
    have t0 : ∀ b, b ≠ 0 → b ≠ 18 → M14 29 b = M11 29 b := fun b q1 q2 => by rw [hM14, wu_ne (by omega), hM13, wu_ne (by omega), hM12, wu_ne (by omega)]
    have z0 : ∀ x, x ≠ 24 → M14 29 0 x = M5 29 0 x := fun x q => by
      rw [hM14, wu_ne (by omega), hM13, wu_ne (by omega), hM12]
      unfold wu
      rw [if_neg (by omega), o121 0 (by omega), o106 0 (by omega), o92 0 (by omega), o78 0 (by omega), o64 0 (by omega), o49 0 (by omega)]
    refine Or.inl ⟨?_, trivial, hz0, ?_, M1, v, ?_, ?_, fun x hx => ?_, fun x hx => ?_, fun x hx => ?_, fun x hx => ?_, fun x hx => ?_, fun x hx => ?_, ?_, ?_, ?_, fun a b x q => ?_⟩
    · rw [z0 0 (by omega), p1 29 0 0 (by omega)]; exact er13
    · rw [z0 5 (by omega)]; exact p5
    · rw [z0 5 (by omega)]; exact p5
    · rw [z0 6 (by omega)]; exact p6
    · rw [t0 2 (by omega) (by omega), o121 2 (by omega), o106 2 (by omega), o92 2 (by omega), o78 2 (by omega), o64 2 (by omega), c49 x hx, pb 7 x (by omega)]
    · rw [t0 5 (by omega) (by omega), o121 5 (by omega), o106 5 (by omega), o92 5 (by omega), o78 5 (by omega), c64 x hx, o49 10 (by omega), pb 10 x (by omega)]
    · rw [t0 3 (by omega) (by omega), o121 3 (by omega), o106 3 (by omega), o92 3 (by omega), c78 x hx, o64 8 (by omega), o49 8 (by omega), pb 8 x (by omega)]
    · rw [t0 4 (by omega) (by omega), o121 4 (by omega), o106 4 (by omega), c92 x hx, o78 9 (by omega), o64 9 (by omega), o49 9 (by omega), pb 9 x (by omega)]
    · rw [t0 6 (by omega) (by omega), o121 6 (by omega), c106 x hx, o92 11 (by omega), o78 11 (by omega), o64 11 (by omega), o49 11 (by omega), pb 11 x (by omega)]
    · rw [t0 13 (by omega) (by omega), c121 x hx, o106 12 (by omega), o92 12 (by omega), o78 12 (by omega), o64 12 (by omega), o49 12 (by omega), pb 12 x (by omega)]
    · rw [hM14, wu_ne (by omega), hM13, wu_ne (by omega), hM12]; unfold wu; rw [if_pos ⟨rfl, rfl, rfl⟩]
    · rw [hM14]; unfold wu; rw [if_neg (by omega), hM13]; unfold wu; rw [if_pos ⟨rfl, rfl, rfl⟩]
    · rw [hM14]; unfold wu; rw [if_pos ⟨rfl, rfl, rfl⟩]
    · by_cases ha : a = 29
      · have q2 := q ha
        rw [ha]
        rcases q2 with q3 | q3
        · rw [q3.1, q3.2, z0 2 (by omega), p1 29 0 2 (by omega), ew13 29 0 2 (by omega), k4 29 0 2 (by omega)]
        · rw [t0 b (by omega) (by omega), o121 b (by omega), o106 b (by omega), o92 b (by omega), o78 b (by omega), o64 b (by omega), o49 b (by omega), pb b x (by omega), k4 29 b x (by omega)]
      · rw [hM14, wu_o ha, hM13, wu_o ha, hM12, wu_o ha, a121 a ha, a106 a ha, a92 a ha, a78 a ha, a64 a ha, a49 a ha, p1 a b x (by omega), ew13 a b x (by omega), k4 a b x (by omega)]
