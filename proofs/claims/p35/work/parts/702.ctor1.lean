/-! CONSTRUCTORS of the parts -/
def T_X3_init (h : Nat) : Nat → cC := (tU (tU (tU (tU (tU (tU (tU (tB (tU (tU (tU (tU (tU (tB (tU (tU (fun _ => .inl (3, [vI 0, vI 0, (.null : Value), (.null : Value), (.null : Value), (.null : Value), (.null : Value)])) 0 (.inl (3, [vI 1, vI 0, (.null : Value), (.null : Value), (.null : Value), (.null : Value), (.null : Value)]))) 0 (.inl (3, [vI 1, vI 1, (.null : Value), (.null : Value), (.null : Value), (.null : Value), (.null : Value)]))) 1 (mB 0 4 4 (h + 1) (defaultValue (wty 0)))) 0 (.inl (3, [vI 1, vI 1, (.ref (h + 1) : Value), (.null : Value), (.null : Value), (.null : Value), (.null : Value)]))) 6 (.inr (0, 4, fun _ => defaultValue (wty 0)))) 0 (.inl (3, [vI 1, vI 1, (.ref (h + 1) : Value), (.ref (h + 6) : Value), (.null : Value), (.null : Value), (.null : Value)]))) 7 (.inr (0, 4, fun _ => defaultValue (wty 0)))) 0 (.inl (3, [vI 1, vI 1, (.ref (h + 1) : Value), (.ref (h + 6) : Value), (.ref (h + 7) : Value), (.null : Value), (.null : Value)]))) 8 (mB 0 3 4 (h + 8) (defaultValue (wty 0)))) 0 (.inl (3, [vI 1, vI 1, (.ref (h + 1) : Value), (.ref (h + 6) : Value), (.ref (h + 7) : Value), (.ref (h + 8) : Value), (.null : Value)]))) 12 (.inr (0, 3, fun _ => defaultValue (wty 0)))) 0 (.inl (3, [vI 1, vI 1, (.ref (h + 1) : Value), (.ref (h + 6) : Value), (.ref (h + 7) : Value), (.ref (h + 8) : Value), (.ref (h + 12) : Value)]))) 2 (.inr (0, 4, updV (fun _ => defaultValue (wty 0)) 0 (vI 16)))) 6 (.inr (0, 4, updV (fun _ => defaultValue (wty 0)) 0 (vI 1)))) 9 (.inr (0, 4, updV (fun _ => defaultValue (wty 0)) 0 (vI 1)))) 12 (.inr (0, 3, updV (fun _ => defaultValue (wty 0)) 0 (vI 1))))
theorem cf_X3_init : wCal yX3_init cX3_init 1 none 0 := ⟨gw_30, gw_2, by decide, by decide, by rfl⟩
set_option maxRecDepth 100000 in
set_option maxHeartbeats 4000000 in
theorem c_X3_init (l : Launch) (G : wG) (h : Nat) (H0 : Heap) : Met l yX3_init (gws yX3_init cX3_init 1 none) (wrm 1 12 46) (cPc G h 1 (fun _ => .inl (3, [vI 0, vI 0, (.null : Value), (.null : Value), (.null : Value), (.null : Value), (.null : Value)])) H0 [.ref h]) (cQv G h 13 (T_X3_init h) H0) 12 46 (wA G) := by
  refine cMet (lc := [(0, .ref h)]) (by decide) (Nat.le_of_ble_eq_true rfl) rfl rfl ?_
  intro p e s m args below meth c X hN hini hb hr
  have X : wX p s m args meth c G 1 "StateObserver$Plant" cX3_init := X
  refine cr_aload_n (pc' := 1) X 0 dX3_init_0 rfl rfl rfl ?_
  refine cr_objInit (pc' := 4) X gw_31 gw_24 gw_25 dX3_init_1 rfl (Nat.le_of_ble_eq_true rfl) (Nat.le_of_ble_eq_true rfl) ?_
  refine cr_aload_n (pc' := 5) X 0 dX3_init_4 rfl rfl rfl ?_
  refine cr_iconst (pc' := 6) X dX3_init_5 rfl ?_
  refine cr_putf (i := 0) (ci := 3) (q := 0) (N := 7) (fs := [vI 0, vI 0, (.null : Value), (.null : Value), (.null : Value), (.null : Value), (.null : Value)]) (C := RX3) (Tc := TX3) (pc' := 9) X tyX3 tyX3_ok nmX3 rfl rfl (Nat.le_of_ble_eq_true rfl) hb rfl (by decide) inW3 rfl (Nat.le_of_ble_eq_true rfl) rfl rfl rfl gw_34 dX3_init_6 rfl ?_
  refine cr_aload_n (pc' := 10) X 0 dX3_init_9 rfl rfl rfl ?_
  refine cr_iconst (pc' := 11) X dX3_init_10 rfl ?_
  refine cr_putf (i := 0) (ci := 3) (q := 1) (N := 7) (fs := [vI 1, vI 0, (.null : Value), (.null : Value), (.null : Value), (.null : Value), (.null : Value)]) (C := RX3) (Tc := TX3) (pc' := 14) X tyX3 tyX3_ok nmX3 rfl rfl (Nat.le_of_ble_eq_true rfl) hb rfl (by decide) inW3 rfl (Nat.le_of_ble_eq_true rfl) rfl rfl rfl gw_39 dX3_init_11 rfl ?_
  refine cr_aload_n (pc' := 15) X 0 dX3_init_14 rfl rfl rfl ?_
  refine cr_iconst (pc' := 16) X dX3_init_15 rfl ?_
  refine cr_iconst (pc' := 17) X dX3_init_16 rfl ?_
  refine cr_mnew (t := 0) (N := 4) (M := 4) (pc' := 21) X hN (by decide) gw_32 gw_82 rfl rfl (Nat.le_of_ble_eq_true rfl) (Nat.le_of_ble_eq_true rfl) (Nat.le_of_ble_eq_true rfl) (Nat.le_of_ble_eq_true rfl) dX3_init_17 rfl ?_
  refine cr_putF (i := 0) (ci := 3) (q := 2) (N := 7) (fs := [vI 1, vI 1, (.null : Value), (.null : Value), (.null : Value), (.null : Value), (.null : Value)]) (C := RX3) (Tc := TX3) (pc' := 24) X hini tyX3 tyX3_ok nmX3 rfl rfl (Nat.le_of_ble_eq_true rfl) hb rfl (by decide) inW3 rfl rfl (Nat.le_of_ble_eq_true rfl) rfl rfl rfl gw_44 dX3_init_21 rfl ?_
  refine cr_aload_n (pc' := 25) X 0 dX3_init_24 rfl rfl rfl ?_
  refine cr_iconst (pc' := 26) X dX3_init_25 rfl ?_
  refine cr_newa (atype := .int) (t := 0) (N := 4) (pc' := 28) X hN (by decide) rfl gw_82 rfl (Nat.le_of_ble_eq_true rfl) (Nat.le_of_ble_eq_true rfl) (Nat.le_of_ble_eq_true rfl) (Nat.le_of_ble_eq_true rfl) dX3_init_26 rfl ?_
  refine cr_putF (i := 0) (ci := 3) (q := 3) (N := 7) (fs := [vI 1, vI 1, (.ref (h + 1) : Value), (.null : Value), (.null : Value), (.null : Value), (.null : Value)]) (C := RX3) (Tc := TX3) (pc' := 31) X hini tyX3 tyX3_ok nmX3 rfl rfl (Nat.le_of_ble_eq_true rfl) hb rfl (by decide) inW3 rfl rfl (Nat.le_of_ble_eq_true rfl) rfl rfl rfl gw_49 dX3_init_28 rfl ?_
  refine cr_aload_n (pc' := 32) X 0 dX3_init_31 rfl rfl rfl ?_
  refine cr_iconst (pc' := 33) X dX3_init_32 rfl ?_
  refine cr_newa (atype := .int) (t := 0) (N := 4) (pc' := 35) X hN (by decide) rfl gw_82 rfl (Nat.le_of_ble_eq_true rfl) (Nat.le_of_ble_eq_true rfl) (Nat.le_of_ble_eq_true rfl) (Nat.le_of_ble_eq_true rfl) dX3_init_33 rfl ?_
  refine cr_putF (i := 0) (ci := 3) (q := 4) (N := 7) (fs := [vI 1, vI 1, (.ref (h + 1) : Value), (.ref (h + 6) : Value), (.null : Value), (.null : Value), (.null : Value)]) (C := RX3) (Tc := TX3) (pc' := 38) X hini tyX3 tyX3_ok nmX3 rfl rfl (Nat.le_of_ble_eq_true rfl) hb rfl (by decide) inW3 rfl rfl (Nat.le_of_ble_eq_true rfl) rfl rfl rfl gw_53 dX3_init_35 rfl ?_
  refine cr_aload_n (pc' := 39) X 0 dX3_init_38 rfl rfl rfl ?_
  refine cr_iconst (pc' := 40) X dX3_init_39 rfl ?_
  refine cr_iconst (pc' := 41) X dX3_init_40 rfl ?_
  refine cr_mnew (t := 0) (N := 3) (M := 4) (pc' := 45) X hN (by decide) gw_32 gw_82 rfl rfl (Nat.le_of_ble_eq_true rfl) (Nat.le_of_ble_eq_true rfl) (Nat.le_of_ble_eq_true rfl) (Nat.le_of_ble_eq_true rfl) dX3_init_41 rfl ?_
  refine cr_putF (i := 0) (ci := 3) (q := 5) (N := 7) (fs := [vI 1, vI 1, (.ref (h + 1) : Value), (.ref (h + 6) : Value), (.ref (h + 7) : Value), (.null : Value), (.null : Value)]) (C := RX3) (Tc := TX3) (pc' := 48) X hini tyX3 tyX3_ok nmX3 rfl rfl (Nat.le_of_ble_eq_true rfl) hb rfl (by decide) inW3 rfl rfl (Nat.le_of_ble_eq_true rfl) rfl rfl rfl gw_58 dX3_init_45 rfl ?_
  refine cr_aload_n (pc' := 49) X 0 dX3_init_48 rfl rfl rfl ?_
  refine cr_iconst (pc' := 50) X dX3_init_49 rfl ?_
  refine cr_newa (atype := .int) (t := 0) (N := 3) (pc' := 52) X hN (by decide) rfl gw_82 rfl (Nat.le_of_ble_eq_true rfl) (Nat.le_of_ble_eq_true rfl) (Nat.le_of_ble_eq_true rfl) (Nat.le_of_ble_eq_true rfl) dX3_init_50 rfl ?_
  refine cr_putF (i := 0) (ci := 3) (q := 6) (N := 7) (fs := [vI 1, vI 1, (.ref (h + 1) : Value), (.ref (h + 6) : Value), (.ref (h + 7) : Value), (.ref (h + 8) : Value), (.null : Value)]) (C := RX3) (Tc := TX3) (pc' := 55) X hini tyX3 tyX3_ok nmX3 rfl rfl (Nat.le_of_ble_eq_true rfl) hb rfl (by decide) inW3 rfl rfl (Nat.le_of_ble_eq_true rfl) rfl rfl rfl gw_63 dX3_init_52 rfl ?_
  refine cr_aload_n (pc' := 56) X 0 dX3_init_55 rfl rfl rfl ?_
  refine cr_getf (i := 0) (ci := 3) (q := 2) (N := 7) (fs := [vI 1, vI 1, (.ref (h + 1) : Value), (.ref (h + 6) : Value), (.ref (h + 7) : Value), (.ref (h + 8) : Value), (.ref (h + 12) : Value)]) (C := RX3) (Tc := TX3) (v := (.ref (h + 1) : Value)) (pc' := 59) X rfl rfl (Nat.le_of_ble_eq_true rfl) rfl (by decide) inW3 rfl rfl gw_44 dX3_init_56 rfl ?_
  refine cr_iconst (pc' := 60) X dX3_init_59 rfl ?_
  refine cr_aald (i := 1) (t := 4) (N := 4) (j := 0) (f := fun i => .ref (h + 1 + 1 + i)) (pc' := 61) X rfl rfl (Nat.le_of_ble_eq_true rfl) (by decide) rfl (by decide) (by decide) dX3_init_60 rfl ?_
  show cV p l e _ s m args below meth c G _ h _ _ H0 _ _ _ 61 _ ((.ref (h + 2) : Value) :: [])
  refine cr_iconst (pc' := 62) X dX3_init_61 rfl ?_
  refine cr_bipush (pc' := 64) X dX3_init_62 rfl rfl ?_
  refine cr_iast (i := 2) (N := 4) (j := 0) (f := fun _ => defaultValue (wty 0)) (pc' := 65) X rfl rfl (Nat.le_of_ble_eq_true rfl) hb rfl (by decide) (by decide) dX3_init_64 rfl ?_
  refine cr_aload_n (pc' := 66) X 0 dX3_init_65 rfl rfl rfl ?_
  refine cr_getf (i := 0) (ci := 3) (q := 3) (N := 7) (fs := [vI 1, vI 1, (.ref (h + 1) : Value), (.ref (h + 6) : Value), (.ref (h + 7) : Value), (.ref (h + 8) : Value), (.ref (h + 12) : Value)]) (C := RX3) (Tc := TX3) (v := (.ref (h + 6) : Value)) (pc' := 69) X rfl rfl (Nat.le_of_ble_eq_true rfl) rfl (by decide) inW3 rfl rfl gw_49 dX3_init_66 rfl ?_
  refine cr_iconst (pc' := 70) X dX3_init_69 rfl ?_
  refine cr_iconst (pc' := 71) X dX3_init_70 rfl ?_
  refine cr_iast (i := 6) (N := 4) (j := 0) (f := fun _ => defaultValue (wty 0)) (pc' := 72) X rfl rfl (Nat.le_of_ble_eq_true rfl) hb rfl (by decide) (by decide) dX3_init_71 rfl ?_
  refine cr_aload_n (pc' := 73) X 0 dX3_init_72 rfl rfl rfl ?_
  refine cr_getf (i := 0) (ci := 3) (q := 5) (N := 7) (fs := [vI 1, vI 1, (.ref (h + 1) : Value), (.ref (h + 6) : Value), (.ref (h + 7) : Value), (.ref (h + 8) : Value), (.ref (h + 12) : Value)]) (C := RX3) (Tc := TX3) (v := (.ref (h + 8) : Value)) (pc' := 76) X rfl rfl (Nat.le_of_ble_eq_true rfl) rfl (by decide) inW3 rfl rfl gw_58 dX3_init_73 rfl ?_
  refine cr_iconst (pc' := 77) X dX3_init_76 rfl ?_
  refine cr_aald (i := 8) (t := 4) (N := 3) (j := 0) (f := fun i => .ref (h + 8 + 1 + i)) (pc' := 78) X rfl rfl (Nat.le_of_ble_eq_true rfl) (by decide) rfl (by decide) (by decide) dX3_init_77 rfl ?_
  show cV p l e _ s m args below meth c G _ h _ _ H0 _ _ _ 78 _ ((.ref (h + 9) : Value) :: [])
  refine cr_iconst (pc' := 79) X dX3_init_78 rfl ?_
  refine cr_iconst (pc' := 80) X dX3_init_79 rfl ?_
  refine cr_iast (i := 9) (N := 4) (j := 0) (f := fun _ => defaultValue (wty 0)) (pc' := 81) X rfl rfl (Nat.le_of_ble_eq_true rfl) hb rfl (by decide) (by decide) dX3_init_80 rfl ?_
  refine cr_aload_n (pc' := 82) X 0 dX3_init_81 rfl rfl rfl ?_
  refine cr_getf (i := 0) (ci := 3) (q := 6) (N := 7) (fs := [vI 1, vI 1, (.ref (h + 1) : Value), (.ref (h + 6) : Value), (.ref (h + 7) : Value), (.ref (h + 8) : Value), (.ref (h + 12) : Value)]) (C := RX3) (Tc := TX3) (v := (.ref (h + 12) : Value)) (pc' := 85) X rfl rfl (Nat.le_of_ble_eq_true rfl) rfl (by decide) inW3 rfl rfl gw_63 dX3_init_82 rfl ?_
  refine cr_iconst (pc' := 86) X dX3_init_85 rfl ?_
  refine cr_iconst (pc' := 87) X dX3_init_86 rfl ?_
  refine cr_iast (i := 12) (N := 3) (j := 0) (f := fun _ => defaultValue (wty 0)) (pc' := 88) X rfl rfl (Nat.le_of_ble_eq_true rfl) hb rfl (by decide) (by decide) dX3_init_87 rfl ?_
  exact cr_vret X hr dX3_init_88 (fun _ _ => rfl)
def T_X1_init (h : Nat) : Nat → cC := (tU (tU (tU (tU (tU (tU (tU (tU (tU (tU (tU (tU (tU (tU (tU (tU (tU (tU (tU (tU (tB (tU (tU (tU (tU (tU (tU (tU (tU (fun _ => .inl (1, [(.null : Value), (.null : Value), (.null : Value), (.null : Value), (.null : Value), (.null : Value), (.null : Value), vI 0, vI 0, vI 0, vI 0, vI 0, (.null : Value), (.null : Value)])) 1 (.inr (0, 4, fun _ => defaultValue (wty 0)))) 0 (.inl (1, [(.ref (h + 1) : Value), (.null : Value), (.null : Value), (.null : Value), (.null : Value), (.null : Value), (.null : Value), vI 0, vI 0, vI 0, vI 0, vI 0, (.null : Value), (.null : Value)]))) 2 (.inr (0, 4, fun _ => defaultValue (wty 0)))) 0 (.inl (1, [(.ref (h + 1) : Value), (.ref (h + 2) : Value), (.null : Value), (.null : Value), (.null : Value), (.null : Value), (.null : Value), vI 0, vI 0, vI 0, vI 0, vI 0, (.null : Value), (.null : Value)]))) 3 (.inr (0, 4, fun _ => defaultValue (wty 0)))) 0 (.inl (1, [(.ref (h + 1) : Value), (.ref (h + 2) : Value), (.ref (h + 3) : Value), (.null : Value), (.null : Value), (.null : Value), (.null : Value), vI 0, vI 0, vI 0, vI 0, vI 0, (.null : Value), (.null : Value)]))) 4 (.inr (0, 4, fun _ => defaultValue (wty 0)))) 0 (.inl (1, [(.ref (h + 1) : Value), (.ref (h + 2) : Value), (.ref (h + 3) : Value), (.ref (h + 4) : Value), (.null : Value), (.null : Value), (.null : Value), vI 0, vI 0, vI 0, vI 0, vI 0, (.null : Value), (.null : Value)]))) 5 (mB 0 4 3 (h + 5) (defaultValue (wty 0)))) 0 (.inl (1, [(.ref (h + 1) : Value), (.ref (h + 2) : Value), (.ref (h + 3) : Value), (.ref (h + 4) : Value), (.ref (h + 5) : Value), (.null : Value), (.null : Value), vI 0, vI 0, vI 0, vI 0, vI 0, (.null : Value), (.null : Value)]))) 10 (.inr (0, 3, fun _ => defaultValue (wty 0)))) 0 (.inl (1, [(.ref (h + 1) : Value), (.ref (h + 2) : Value), (.ref (h + 3) : Value), (.ref (h + 4) : Value), (.ref (h + 5) : Value), (.ref (h + 10) : Value), (.null : Value), vI 0, vI 0, vI 0, vI 0, vI 0, (.null : Value), (.null : Value)]))) 11 (.inr (0, 3, fun _ => defaultValue (wty 0)))) 0 (.inl (1, [(.ref (h + 1) : Value), (.ref (h + 2) : Value), (.ref (h + 3) : Value), (.ref (h + 4) : Value), (.ref (h + 5) : Value), (.ref (h + 10) : Value), (.ref (h + 11) : Value), vI 0, vI 0, vI 0, vI 0, vI 0, (.null : Value), (.null : Value)]))) 12 (.inr (0, 4, fun _ => defaultValue (wty 0)))) 0 (.inl (1, [(.ref (h + 1) : Value), (.ref (h + 2) : Value), (.ref (h + 3) : Value), (.ref (h + 4) : Value), (.ref (h + 5) : Value), (.ref (h + 10) : Value), (.ref (h + 11) : Value), vI 0, vI 0, vI 0, vI 0, vI 0, (.ref (h + 12) : Value), (.null : Value)]))) 13 (.inr (0, 4, fun _ => defaultValue (wty 0)))) 0 (.inl (1, [(.ref (h + 1) : Value), (.ref (h + 2) : Value), (.ref (h + 3) : Value), (.ref (h + 4) : Value), (.ref (h + 5) : Value), (.ref (h + 10) : Value), (.ref (h + 11) : Value), vI 0, vI 0, vI 0, vI 0, vI 0, (.ref (h + 12) : Value), (.ref (h + 13) : Value)]))) 2 (.inr (0, 4, updV (fun _ => defaultValue (wty 0)) 0 (vI (-1000))))) 3 (.inr (0, 4, updV (fun _ => defaultValue (wty 0)) 0 (vI 1000)))) 2 (.inr (0, 4, updV (updV (fun _ => defaultValue (wty 0)) 0 (vI (-1000))) 1 (vI (-1000))))) 3 (.inr (0, 4, updV (updV (fun _ => defaultValue (wty 0)) 0 (vI 1000)) 1 (vI 1000)))) 2 (.inr (0, 4, updV (updV (updV (fun _ => defaultValue (wty 0)) 0 (vI (-1000))) 1 (vI (-1000))) 2 (vI (-1000))))) 3 (.inr (0, 4, updV (updV (updV (fun _ => defaultValue (wty 0)) 0 (vI 1000)) 1 (vI 1000)) 2 (vI 1000)))) 2 (.inr (0, 4, updV (updV (updV (updV (fun _ => defaultValue (wty 0)) 0 (vI (-1000))) 1 (vI (-1000))) 2 (vI (-1000))) 3 (vI (-1000))))) 3 (.inr (0, 4, updV (updV (updV (updV (fun _ => defaultValue (wty 0)) 0 (vI 1000)) 1 (vI 1000)) 2 (vI 1000)) 3 (vI 1000)))) 11 (.inr (0, 3, updV (fun _ => defaultValue (wty 0)) 0 (vI (-1))))) 11 (.inr (0, 3, updV (updV (fun _ => defaultValue (wty 0)) 0 (vI (-1))) 1 (vI (-1))))) 11 (.inr (0, 3, updV (updV (updV (fun _ => defaultValue (wty 0)) 0 (vI (-1))) 1 (vI (-1))) 2 (vI (-1)))))
theorem cf_X1_init : wCal yX1_init cX1_init 2 none 0 := ⟨gw_87, gw_3, by decide, by decide, by rfl⟩
set_option maxRecDepth 100000 in
set_option maxHeartbeats 4000000 in
theorem c_X1_init (l : Launch) (G : wG) (h : Nat) (H0 : Heap) : Met l yX1_init (gws yX1_init cX1_init 2 none) (wrm 1 13 46) (cPc G h 1 (fun _ => .inl (1, [(.null : Value), (.null : Value), (.null : Value), (.null : Value), (.null : Value), (.null : Value), (.null : Value), vI 0, vI 0, vI 0, vI 0, vI 0, (.null : Value), (.null : Value)])) H0 [.ref h]) (cQv G h 14 (T_X1_init h) H0) 13 46 (wA G) := by
  refine cMet (lc := [(0, .ref h)]) (by decide) (Nat.le_of_ble_eq_true rfl) rfl rfl ?_
  intro p e s m args below meth c X hN hini hb hr
  have X : wX p s m args meth c G 2 "StateObserver$Moment" cX1_init := X
  refine cr_aload_n (pc' := 1) X 0 dX1_init_0 rfl rfl rfl ?_
  refine cr_objInit (pc' := 4) X gw_88 gw_24 gw_25 dX1_init_1 rfl (Nat.le_of_ble_eq_true rfl) (Nat.le_of_ble_eq_true rfl) ?_
  refine cr_aload_n (pc' := 5) X 0 dX1_init_4 rfl rfl rfl ?_
  refine cr_iconst (pc' := 6) X dX1_init_5 rfl ?_
  refine cr_newa (atype := .int) (t := 0) (N := 4) (pc' := 8) X hN (by decide) rfl gw_82 rfl (Nat.le_of_ble_eq_true rfl) (Nat.le_of_ble_eq_true rfl) (Nat.le_of_ble_eq_true rfl) (Nat.le_of_ble_eq_true rfl) dX1_init_6 rfl ?_
  refine cr_putF (i := 0) (ci := 1) (q := 0) (N := 14) (fs := [(.null : Value), (.null : Value), (.null : Value), (.null : Value), (.null : Value), (.null : Value), (.null : Value), vI 0, vI 0, vI 0, vI 0, vI 0, (.null : Value), (.null : Value)]) (C := RX1) (Tc := TX1) (pc' := 11) X hini tyX1 tyX1_ok nmX1 rfl rfl (Nat.le_of_ble_eq_true rfl) hb rfl (by decide) inW1 rfl rfl (Nat.le_of_ble_eq_true rfl) rfl rfl rfl gw_90 dX1_init_8 rfl ?_
  refine cr_aload_n (pc' := 12) X 0 dX1_init_11 rfl rfl rfl ?_
  refine cr_iconst (pc' := 13) X dX1_init_12 rfl ?_
  refine cr_newa (atype := .int) (t := 0) (N := 4) (pc' := 15) X hN (by decide) rfl gw_82 rfl (Nat.le_of_ble_eq_true rfl) (Nat.le_of_ble_eq_true rfl) (Nat.le_of_ble_eq_true rfl) (Nat.le_of_ble_eq_true rfl) dX1_init_13 rfl ?_
  refine cr_putF (i := 0) (ci := 1) (q := 1) (N := 14) (fs := [(.ref (h + 1) : Value), (.null : Value), (.null : Value), (.null : Value), (.null : Value), (.null : Value), (.null : Value), vI 0, vI 0, vI 0, vI 0, vI 0, (.null : Value), (.null : Value)]) (C := RX1) (Tc := TX1) (pc' := 18) X hini tyX1 tyX1_ok nmX1 rfl rfl (Nat.le_of_ble_eq_true rfl) hb rfl (by decide) inW1 rfl rfl (Nat.le_of_ble_eq_true rfl) rfl rfl rfl gw_93 dX1_init_15 rfl ?_
  refine cr_aload_n (pc' := 19) X 0 dX1_init_18 rfl rfl rfl ?_
  refine cr_iconst (pc' := 20) X dX1_init_19 rfl ?_
  refine cr_newa (atype := .int) (t := 0) (N := 4) (pc' := 22) X hN (by decide) rfl gw_82 rfl (Nat.le_of_ble_eq_true rfl) (Nat.le_of_ble_eq_true rfl) (Nat.le_of_ble_eq_true rfl) (Nat.le_of_ble_eq_true rfl) dX1_init_20 rfl ?_
  refine cr_putF (i := 0) (ci := 1) (q := 2) (N := 14) (fs := [(.ref (h + 1) : Value), (.ref (h + 2) : Value), (.null : Value), (.null : Value), (.null : Value), (.null : Value), (.null : Value), vI 0, vI 0, vI 0, vI 0, vI 0, (.null : Value), (.null : Value)]) (C := RX1) (Tc := TX1) (pc' := 25) X hini tyX1 tyX1_ok nmX1 rfl rfl (Nat.le_of_ble_eq_true rfl) hb rfl (by decide) inW1 rfl rfl (Nat.le_of_ble_eq_true rfl) rfl rfl rfl gw_97 dX1_init_22 rfl ?_
  refine cr_aload_n (pc' := 26) X 0 dX1_init_25 rfl rfl rfl ?_
  refine cr_iconst (pc' := 27) X dX1_init_26 rfl ?_
  refine cr_newa (atype := .int) (t := 0) (N := 4) (pc' := 29) X hN (by decide) rfl gw_82 rfl (Nat.le_of_ble_eq_true rfl) (Nat.le_of_ble_eq_true rfl) (Nat.le_of_ble_eq_true rfl) (Nat.le_of_ble_eq_true rfl) dX1_init_27 rfl ?_
  refine cr_putF (i := 0) (ci := 1) (q := 3) (N := 14) (fs := [(.ref (h + 1) : Value), (.ref (h + 2) : Value), (.ref (h + 3) : Value), (.null : Value), (.null : Value), (.null : Value), (.null : Value), vI 0, vI 0, vI 0, vI 0, vI 0, (.null : Value), (.null : Value)]) (C := RX1) (Tc := TX1) (pc' := 32) X hini tyX1 tyX1_ok nmX1 rfl rfl (Nat.le_of_ble_eq_true rfl) hb rfl (by decide) inW1 rfl rfl (Nat.le_of_ble_eq_true rfl) rfl rfl rfl gw_101 dX1_init_29 rfl ?_
  refine cr_aload_n (pc' := 33) X 0 dX1_init_32 rfl rfl rfl ?_
  refine cr_iconst (pc' := 34) X dX1_init_33 rfl ?_
  refine cr_iconst (pc' := 35) X dX1_init_34 rfl ?_
  refine cr_mnew (t := 0) (N := 4) (M := 3) (pc' := 39) X hN (by decide) gw_89 gw_82 rfl rfl (Nat.le_of_ble_eq_true rfl) (Nat.le_of_ble_eq_true rfl) (Nat.le_of_ble_eq_true rfl) (Nat.le_of_ble_eq_true rfl) dX1_init_35 rfl ?_
  refine cr_putF (i := 0) (ci := 1) (q := 4) (N := 14) (fs := [(.ref (h + 1) : Value), (.ref (h + 2) : Value), (.ref (h + 3) : Value), (.ref (h + 4) : Value), (.null : Value), (.null : Value), (.null : Value), vI 0, vI 0, vI 0, vI 0, vI 0, (.null : Value), (.null : Value)]) (C := RX1) (Tc := TX1) (pc' := 42) X hini tyX1 tyX1_ok nmX1 rfl rfl (Nat.le_of_ble_eq_true rfl) hb rfl (by decide) inW1 rfl rfl (Nat.le_of_ble_eq_true rfl) rfl rfl rfl gw_104 dX1_init_39 rfl ?_
  refine cr_aload_n (pc' := 43) X 0 dX1_init_42 rfl rfl rfl ?_
  refine cr_iconst (pc' := 44) X dX1_init_43 rfl ?_
  refine cr_newa (atype := .int) (t := 0) (N := 3) (pc' := 46) X hN (by decide) rfl gw_82 rfl (Nat.le_of_ble_eq_true rfl) (Nat.le_of_ble_eq_true rfl) (Nat.le_of_ble_eq_true rfl) (Nat.le_of_ble_eq_true rfl) dX1_init_44 rfl ?_
  refine cr_putF (i := 0) (ci := 1) (q := 5) (N := 14) (fs := [(.ref (h + 1) : Value), (.ref (h + 2) : Value), (.ref (h + 3) : Value), (.ref (h + 4) : Value), (.ref (h + 5) : Value), (.null : Value), (.null : Value), vI 0, vI 0, vI 0, vI 0, vI 0, (.null : Value), (.null : Value)]) (C := RX1) (Tc := TX1) (pc' := 49) X hini tyX1 tyX1_ok nmX1 rfl rfl (Nat.le_of_ble_eq_true rfl) hb rfl (by decide) inW1 rfl rfl (Nat.le_of_ble_eq_true rfl) rfl rfl rfl gw_108 dX1_init_46 rfl ?_
  refine cr_aload_n (pc' := 50) X 0 dX1_init_49 rfl rfl rfl ?_
  refine cr_iconst (pc' := 51) X dX1_init_50 rfl ?_
  refine cr_newa (atype := .int) (t := 0) (N := 3) (pc' := 53) X hN (by decide) rfl gw_82 rfl (Nat.le_of_ble_eq_true rfl) (Nat.le_of_ble_eq_true rfl) (Nat.le_of_ble_eq_true rfl) (Nat.le_of_ble_eq_true rfl) dX1_init_51 rfl ?_
  refine cr_putF (i := 0) (ci := 1) (q := 6) (N := 14) (fs := [(.ref (h + 1) : Value), (.ref (h + 2) : Value), (.ref (h + 3) : Value), (.ref (h + 4) : Value), (.ref (h + 5) : Value), (.ref (h + 10) : Value), (.null : Value), vI 0, vI 0, vI 0, vI 0, vI 0, (.null : Value), (.null : Value)]) (C := RX1) (Tc := TX1) (pc' := 56) X hini tyX1 tyX1_ok nmX1 rfl rfl (Nat.le_of_ble_eq_true rfl) hb rfl (by decide) inW1 rfl rfl (Nat.le_of_ble_eq_true rfl) rfl rfl rfl gw_112 dX1_init_53 rfl ?_
  refine cr_aload_n (pc' := 57) X 0 dX1_init_56 rfl rfl rfl ?_
  refine cr_iconst (pc' := 58) X dX1_init_57 rfl ?_
  refine cr_newa (atype := .int) (t := 0) (N := 4) (pc' := 60) X hN (by decide) rfl gw_82 rfl (Nat.le_of_ble_eq_true rfl) (Nat.le_of_ble_eq_true rfl) (Nat.le_of_ble_eq_true rfl) (Nat.le_of_ble_eq_true rfl) dX1_init_58 rfl ?_
  refine cr_putF (i := 0) (ci := 1) (q := 12) (N := 14) (fs := [(.ref (h + 1) : Value), (.ref (h + 2) : Value), (.ref (h + 3) : Value), (.ref (h + 4) : Value), (.ref (h + 5) : Value), (.ref (h + 10) : Value), (.ref (h + 11) : Value), vI 0, vI 0, vI 0, vI 0, vI 0, (.null : Value), (.null : Value)]) (C := RX1) (Tc := TX1) (pc' := 63) X hini tyX1 tyX1_ok nmX1 rfl rfl (Nat.le_of_ble_eq_true rfl) hb rfl (by decide) inW1 rfl rfl (Nat.le_of_ble_eq_true rfl) rfl rfl rfl gw_133 dX1_init_60 rfl ?_
  refine cr_aload_n (pc' := 64) X 0 dX1_init_63 rfl rfl rfl ?_
  refine cr_iconst (pc' := 65) X dX1_init_64 rfl ?_
  refine cr_newa (atype := .int) (t := 0) (N := 4) (pc' := 67) X hN (by decide) rfl gw_82 rfl (Nat.le_of_ble_eq_true rfl) (Nat.le_of_ble_eq_true rfl) (Nat.le_of_ble_eq_true rfl) (Nat.le_of_ble_eq_true rfl) dX1_init_65 rfl ?_
  refine cr_putF (i := 0) (ci := 1) (q := 13) (N := 14) (fs := [(.ref (h + 1) : Value), (.ref (h + 2) : Value), (.ref (h + 3) : Value), (.ref (h + 4) : Value), (.ref (h + 5) : Value), (.ref (h + 10) : Value), (.ref (h + 11) : Value), vI 0, vI 0, vI 0, vI 0, vI 0, (.ref (h + 12) : Value), (.null : Value)]) (C := RX1) (Tc := TX1) (pc' := 70) X hini tyX1 tyX1_ok nmX1 rfl rfl (Nat.le_of_ble_eq_true rfl) hb rfl (by decide) inW1 rfl rfl (Nat.le_of_ble_eq_true rfl) rfl rfl rfl gw_136 dX1_init_67 rfl ?_
  refine cr_iconst (pc' := 71) X dX1_init_70 rfl ?_
  refine cr_istore_n (pc' := 72) (lc' := [(0, .ref h), (1, vI 0)]) X [1, 0] dX1_init_71 rfl (by decide) rfl rfl ?_
  refine cr_iload_n (pc' := 73) X 1 dX1_init_72 rfl rfl rfl ?_
  refine cr_iconst (pc' := 74) X dX1_init_73 rfl ?_
  refine cr_icmp_ge (pc' := 77) (tgt := 101) X dX1_init_74 rfl rfl (by decide) (by decide) (fun hh => absurd hh (by decide)) (fun _ => ?_)
  refine cr_aload_n (pc' := 78) X 0 dX1_init_77 rfl rfl rfl ?_
  refine cr_getf (i := 0) (ci := 1) (q := 1) (N := 14) (fs := [(.ref (h + 1) : Value), (.ref (h + 2) : Value), (.ref (h + 3) : Value), (.ref (h + 4) : Value), (.ref (h + 5) : Value), (.ref (h + 10) : Value), (.ref (h + 11) : Value), vI 0, vI 0, vI 0, vI 0, vI 0, (.ref (h + 12) : Value), (.ref (h + 13) : Value)]) (C := RX1) (Tc := TX1) (v := (.ref (h + 2) : Value)) (pc' := 81) X rfl rfl (Nat.le_of_ble_eq_true rfl) rfl (by decide) inW1 rfl rfl gw_93 dX1_init_78 rfl ?_
  refine cr_iload_n (pc' := 82) X 1 dX1_init_81 rfl rfl rfl ?_
  refine cr_sipush (pc' := 85) X dX1_init_82 rfl rfl ?_
  refine cr_iast (i := 2) (N := 4) (j := 0) (f := fun _ => defaultValue (wty 0)) (pc' := 86) X rfl rfl (Nat.le_of_ble_eq_true rfl) hb rfl (by decide) (by decide) dX1_init_85 rfl ?_
  refine cr_aload_n (pc' := 87) X 0 dX1_init_86 rfl rfl rfl ?_
  refine cr_getf (i := 0) (ci := 1) (q := 2) (N := 14) (fs := [(.ref (h + 1) : Value), (.ref (h + 2) : Value), (.ref (h + 3) : Value), (.ref (h + 4) : Value), (.ref (h + 5) : Value), (.ref (h + 10) : Value), (.ref (h + 11) : Value), vI 0, vI 0, vI 0, vI 0, vI 0, (.ref (h + 12) : Value), (.ref (h + 13) : Value)]) (C := RX1) (Tc := TX1) (v := (.ref (h + 3) : Value)) (pc' := 90) X rfl rfl (Nat.le_of_ble_eq_true rfl) rfl (by decide) inW1 rfl rfl gw_97 dX1_init_87 rfl ?_
  refine cr_iload_n (pc' := 91) X 1 dX1_init_90 rfl rfl rfl ?_
  refine cr_sipush (pc' := 94) X dX1_init_91 rfl rfl ?_
  refine cr_iast (i := 3) (N := 4) (j := 0) (f := fun _ => defaultValue (wty 0)) (pc' := 95) X rfl rfl (Nat.le_of_ble_eq_true rfl) hb rfl (by decide) (by decide) dX1_init_94 rfl ?_
  refine cr_iinc (pc' := 98) (z' := 1) (lc' := [(0, .ref h), (1, vI 1)]) X 1 [1, 0] dX1_init_95 rfl rfl (by decide) rfl rfl ?_
  refine cr_goto (tgt := 72) X dX1_init_98 rfl ?_
  refine cr_iload_n (pc' := 73) X 1 dX1_init_72 rfl rfl rfl ?_
  refine cr_iconst (pc' := 74) X dX1_init_73 rfl ?_
  refine cr_icmp_ge (pc' := 77) (tgt := 101) X dX1_init_74 rfl rfl (by decide) (by decide) (fun hh => absurd hh (by decide)) (fun _ => ?_)
  refine cr_aload_n (pc' := 78) X 0 dX1_init_77 rfl rfl rfl ?_
  refine cr_getf (i := 0) (ci := 1) (q := 1) (N := 14) (fs := [(.ref (h + 1) : Value), (.ref (h + 2) : Value), (.ref (h + 3) : Value), (.ref (h + 4) : Value), (.ref (h + 5) : Value), (.ref (h + 10) : Value), (.ref (h + 11) : Value), vI 0, vI 0, vI 0, vI 0, vI 0, (.ref (h + 12) : Value), (.ref (h + 13) : Value)]) (C := RX1) (Tc := TX1) (v := (.ref (h + 2) : Value)) (pc' := 81) X rfl rfl (Nat.le_of_ble_eq_true rfl) rfl (by decide) inW1 rfl rfl gw_93 dX1_init_78 rfl ?_
  refine cr_iload_n (pc' := 82) X 1 dX1_init_81 rfl rfl rfl ?_
  refine cr_sipush (pc' := 85) X dX1_init_82 rfl rfl ?_
  refine cr_iast (i := 2) (N := 4) (j := 1) (f := updV (fun _ => defaultValue (wty 0)) 0 (vI (-1000))) (pc' := 86) X rfl rfl (Nat.le_of_ble_eq_true rfl) hb rfl (by decide) (by decide) dX1_init_85 rfl ?_
  refine cr_aload_n (pc' := 87) X 0 dX1_init_86 rfl rfl rfl ?_
  refine cr_getf (i := 0) (ci := 1) (q := 2) (N := 14) (fs := [(.ref (h + 1) : Value), (.ref (h + 2) : Value), (.ref (h + 3) : Value), (.ref (h + 4) : Value), (.ref (h + 5) : Value), (.ref (h + 10) : Value), (.ref (h + 11) : Value), vI 0, vI 0, vI 0, vI 0, vI 0, (.ref (h + 12) : Value), (.ref (h + 13) : Value)]) (C := RX1) (Tc := TX1) (v := (.ref (h + 3) : Value)) (pc' := 90) X rfl rfl (Nat.le_of_ble_eq_true rfl) rfl (by decide) inW1 rfl rfl gw_97 dX1_init_87 rfl ?_
  refine cr_iload_n (pc' := 91) X 1 dX1_init_90 rfl rfl rfl ?_
  refine cr_sipush (pc' := 94) X dX1_init_91 rfl rfl ?_
  refine cr_iast (i := 3) (N := 4) (j := 1) (f := updV (fun _ => defaultValue (wty 0)) 0 (vI 1000)) (pc' := 95) X rfl rfl (Nat.le_of_ble_eq_true rfl) hb rfl (by decide) (by decide) dX1_init_94 rfl ?_
  refine cr_iinc (pc' := 98) (z' := 2) (lc' := [(0, .ref h), (1, vI 2)]) X 1 [1, 0] dX1_init_95 rfl rfl (by decide) rfl rfl ?_
  refine cr_goto (tgt := 72) X dX1_init_98 rfl ?_
  refine cr_iload_n (pc' := 73) X 1 dX1_init_72 rfl rfl rfl ?_
  refine cr_iconst (pc' := 74) X dX1_init_73 rfl ?_
  refine cr_icmp_ge (pc' := 77) (tgt := 101) X dX1_init_74 rfl rfl (by decide) (by decide) (fun hh => absurd hh (by decide)) (fun _ => ?_)
  refine cr_aload_n (pc' := 78) X 0 dX1_init_77 rfl rfl rfl ?_
  refine cr_getf (i := 0) (ci := 1) (q := 1) (N := 14) (fs := [(.ref (h + 1) : Value), (.ref (h + 2) : Value), (.ref (h + 3) : Value), (.ref (h + 4) : Value), (.ref (h + 5) : Value), (.ref (h + 10) : Value), (.ref (h + 11) : Value), vI 0, vI 0, vI 0, vI 0, vI 0, (.ref (h + 12) : Value), (.ref (h + 13) : Value)]) (C := RX1) (Tc := TX1) (v := (.ref (h + 2) : Value)) (pc' := 81) X rfl rfl (Nat.le_of_ble_eq_true rfl) rfl (by decide) inW1 rfl rfl gw_93 dX1_init_78 rfl ?_
  refine cr_iload_n (pc' := 82) X 1 dX1_init_81 rfl rfl rfl ?_
  refine cr_sipush (pc' := 85) X dX1_init_82 rfl rfl ?_
  refine cr_iast (i := 2) (N := 4) (j := 2) (f := updV (updV (fun _ => defaultValue (wty 0)) 0 (vI (-1000))) 1 (vI (-1000))) (pc' := 86) X rfl rfl (Nat.le_of_ble_eq_true rfl) hb rfl (by decide) (by decide) dX1_init_85 rfl ?_
  refine cr_aload_n (pc' := 87) X 0 dX1_init_86 rfl rfl rfl ?_
  refine cr_getf (i := 0) (ci := 1) (q := 2) (N := 14) (fs := [(.ref (h + 1) : Value), (.ref (h + 2) : Value), (.ref (h + 3) : Value), (.ref (h + 4) : Value), (.ref (h + 5) : Value), (.ref (h + 10) : Value), (.ref (h + 11) : Value), vI 0, vI 0, vI 0, vI 0, vI 0, (.ref (h + 12) : Value), (.ref (h + 13) : Value)]) (C := RX1) (Tc := TX1) (v := (.ref (h + 3) : Value)) (pc' := 90) X rfl rfl (Nat.le_of_ble_eq_true rfl) rfl (by decide) inW1 rfl rfl gw_97 dX1_init_87 rfl ?_
  refine cr_iload_n (pc' := 91) X 1 dX1_init_90 rfl rfl rfl ?_
  refine cr_sipush (pc' := 94) X dX1_init_91 rfl rfl ?_
  refine cr_iast (i := 3) (N := 4) (j := 2) (f := updV (updV (fun _ => defaultValue (wty 0)) 0 (vI 1000)) 1 (vI 1000)) (pc' := 95) X rfl rfl (Nat.le_of_ble_eq_true rfl) hb rfl (by decide) (by decide) dX1_init_94 rfl ?_
  refine cr_iinc (pc' := 98) (z' := 3) (lc' := [(0, .ref h), (1, vI 3)]) X 1 [1, 0] dX1_init_95 rfl rfl (by decide) rfl rfl ?_
  refine cr_goto (tgt := 72) X dX1_init_98 rfl ?_
  refine cr_iload_n (pc' := 73) X 1 dX1_init_72 rfl rfl rfl ?_
  refine cr_iconst (pc' := 74) X dX1_init_73 rfl ?_
  refine cr_icmp_ge (pc' := 77) (tgt := 101) X dX1_init_74 rfl rfl (by decide) (by decide) (fun hh => absurd hh (by decide)) (fun _ => ?_)
  refine cr_aload_n (pc' := 78) X 0 dX1_init_77 rfl rfl rfl ?_
  refine cr_getf (i := 0) (ci := 1) (q := 1) (N := 14) (fs := [(.ref (h + 1) : Value), (.ref (h + 2) : Value), (.ref (h + 3) : Value), (.ref (h + 4) : Value), (.ref (h + 5) : Value), (.ref (h + 10) : Value), (.ref (h + 11) : Value), vI 0, vI 0, vI 0, vI 0, vI 0, (.ref (h + 12) : Value), (.ref (h + 13) : Value)]) (C := RX1) (Tc := TX1) (v := (.ref (h + 2) : Value)) (pc' := 81) X rfl rfl (Nat.le_of_ble_eq_true rfl) rfl (by decide) inW1 rfl rfl gw_93 dX1_init_78 rfl ?_
  refine cr_iload_n (pc' := 82) X 1 dX1_init_81 rfl rfl rfl ?_
  refine cr_sipush (pc' := 85) X dX1_init_82 rfl rfl ?_
  refine cr_iast (i := 2) (N := 4) (j := 3) (f := updV (updV (updV (fun _ => defaultValue (wty 0)) 0 (vI (-1000))) 1 (vI (-1000))) 2 (vI (-1000))) (pc' := 86) X rfl rfl (Nat.le_of_ble_eq_true rfl) hb rfl (by decide) (by decide) dX1_init_85 rfl ?_
  refine cr_aload_n (pc' := 87) X 0 dX1_init_86 rfl rfl rfl ?_
  refine cr_getf (i := 0) (ci := 1) (q := 2) (N := 14) (fs := [(.ref (h + 1) : Value), (.ref (h + 2) : Value), (.ref (h + 3) : Value), (.ref (h + 4) : Value), (.ref (h + 5) : Value), (.ref (h + 10) : Value), (.ref (h + 11) : Value), vI 0, vI 0, vI 0, vI 0, vI 0, (.ref (h + 12) : Value), (.ref (h + 13) : Value)]) (C := RX1) (Tc := TX1) (v := (.ref (h + 3) : Value)) (pc' := 90) X rfl rfl (Nat.le_of_ble_eq_true rfl) rfl (by decide) inW1 rfl rfl gw_97 dX1_init_87 rfl ?_
  refine cr_iload_n (pc' := 91) X 1 dX1_init_90 rfl rfl rfl ?_
  refine cr_sipush (pc' := 94) X dX1_init_91 rfl rfl ?_
  refine cr_iast (i := 3) (N := 4) (j := 3) (f := updV (updV (updV (fun _ => defaultValue (wty 0)) 0 (vI 1000)) 1 (vI 1000)) 2 (vI 1000)) (pc' := 95) X rfl rfl (Nat.le_of_ble_eq_true rfl) hb rfl (by decide) (by decide) dX1_init_94 rfl ?_
  refine cr_iinc (pc' := 98) (z' := 4) (lc' := [(0, .ref h), (1, vI 4)]) X 1 [1, 0] dX1_init_95 rfl rfl (by decide) rfl rfl ?_
  refine cr_goto (tgt := 72) X dX1_init_98 rfl ?_
  refine cr_iload_n (pc' := 73) X 1 dX1_init_72 rfl rfl rfl ?_
  refine cr_iconst (pc' := 74) X dX1_init_73 rfl ?_
  refine cr_icmp_ge (pc' := 77) (tgt := 101) X dX1_init_74 rfl rfl (by decide) (by decide) (fun _ => ?_) (fun hh => absurd hh (by decide))
  refine cr_iconst (pc' := 102) X dX1_init_101 rfl ?_
  refine cr_istore_n (pc' := 103) (lc' := [(0, .ref h), (1, vI 0)]) X [1, 0] dX1_init_102 rfl (by decide) rfl rfl ?_
  refine cr_iload_n (pc' := 104) X 1 dX1_init_103 rfl rfl rfl ?_
  refine cr_iconst (pc' := 105) X dX1_init_104 rfl ?_
  refine cr_icmp_ge (pc' := 108) (tgt := 121) X dX1_init_105 rfl rfl (by decide) (by decide) (fun hh => absurd hh (by decide)) (fun _ => ?_)
  refine cr_aload_n (pc' := 109) X 0 dX1_init_108 rfl rfl rfl ?_
  refine cr_getf (i := 0) (ci := 1) (q := 6) (N := 14) (fs := [(.ref (h + 1) : Value), (.ref (h + 2) : Value), (.ref (h + 3) : Value), (.ref (h + 4) : Value), (.ref (h + 5) : Value), (.ref (h + 10) : Value), (.ref (h + 11) : Value), vI 0, vI 0, vI 0, vI 0, vI 0, (.ref (h + 12) : Value), (.ref (h + 13) : Value)]) (C := RX1) (Tc := TX1) (v := (.ref (h + 11) : Value)) (pc' := 112) X rfl rfl (Nat.le_of_ble_eq_true rfl) rfl (by decide) inW1 rfl rfl gw_112 dX1_init_109 rfl ?_
  refine cr_iload_n (pc' := 113) X 1 dX1_init_112 rfl rfl rfl ?_
  refine cr_iconst (pc' := 114) X dX1_init_113 rfl ?_
  refine cr_iast (i := 11) (N := 3) (j := 0) (f := fun _ => defaultValue (wty 0)) (pc' := 115) X rfl rfl (Nat.le_of_ble_eq_true rfl) hb rfl (by decide) (by decide) dX1_init_114 rfl ?_
  refine cr_iinc (pc' := 118) (z' := 1) (lc' := [(0, .ref h), (1, vI 1)]) X 1 [1, 0] dX1_init_115 rfl rfl (by decide) rfl rfl ?_
  refine cr_goto (tgt := 103) X dX1_init_118 rfl ?_
  refine cr_iload_n (pc' := 104) X 1 dX1_init_103 rfl rfl rfl ?_
  refine cr_iconst (pc' := 105) X dX1_init_104 rfl ?_
  refine cr_icmp_ge (pc' := 108) (tgt := 121) X dX1_init_105 rfl rfl (by decide) (by decide) (fun hh => absurd hh (by decide)) (fun _ => ?_)
  refine cr_aload_n (pc' := 109) X 0 dX1_init_108 rfl rfl rfl ?_
  refine cr_getf (i := 0) (ci := 1) (q := 6) (N := 14) (fs := [(.ref (h + 1) : Value), (.ref (h + 2) : Value), (.ref (h + 3) : Value), (.ref (h + 4) : Value), (.ref (h + 5) : Value), (.ref (h + 10) : Value), (.ref (h + 11) : Value), vI 0, vI 0, vI 0, vI 0, vI 0, (.ref (h + 12) : Value), (.ref (h + 13) : Value)]) (C := RX1) (Tc := TX1) (v := (.ref (h + 11) : Value)) (pc' := 112) X rfl rfl (Nat.le_of_ble_eq_true rfl) rfl (by decide) inW1 rfl rfl gw_112 dX1_init_109 rfl ?_
  refine cr_iload_n (pc' := 113) X 1 dX1_init_112 rfl rfl rfl ?_
  refine cr_iconst (pc' := 114) X dX1_init_113 rfl ?_
  refine cr_iast (i := 11) (N := 3) (j := 1) (f := updV (fun _ => defaultValue (wty 0)) 0 (vI (-1))) (pc' := 115) X rfl rfl (Nat.le_of_ble_eq_true rfl) hb rfl (by decide) (by decide) dX1_init_114 rfl ?_
  refine cr_iinc (pc' := 118) (z' := 2) (lc' := [(0, .ref h), (1, vI 2)]) X 1 [1, 0] dX1_init_115 rfl rfl (by decide) rfl rfl ?_
  refine cr_goto (tgt := 103) X dX1_init_118 rfl ?_
  refine cr_iload_n (pc' := 104) X 1 dX1_init_103 rfl rfl rfl ?_
  refine cr_iconst (pc' := 105) X dX1_init_104 rfl ?_
  refine cr_icmp_ge (pc' := 108) (tgt := 121) X dX1_init_105 rfl rfl (by decide) (by decide) (fun hh => absurd hh (by decide)) (fun _ => ?_)
  refine cr_aload_n (pc' := 109) X 0 dX1_init_108 rfl rfl rfl ?_
  refine cr_getf (i := 0) (ci := 1) (q := 6) (N := 14) (fs := [(.ref (h + 1) : Value), (.ref (h + 2) : Value), (.ref (h + 3) : Value), (.ref (h + 4) : Value), (.ref (h + 5) : Value), (.ref (h + 10) : Value), (.ref (h + 11) : Value), vI 0, vI 0, vI 0, vI 0, vI 0, (.ref (h + 12) : Value), (.ref (h + 13) : Value)]) (C := RX1) (Tc := TX1) (v := (.ref (h + 11) : Value)) (pc' := 112) X rfl rfl (Nat.le_of_ble_eq_true rfl) rfl (by decide) inW1 rfl rfl gw_112 dX1_init_109 rfl ?_
  refine cr_iload_n (pc' := 113) X 1 dX1_init_112 rfl rfl rfl ?_
  refine cr_iconst (pc' := 114) X dX1_init_113 rfl ?_
  refine cr_iast (i := 11) (N := 3) (j := 2) (f := updV (updV (fun _ => defaultValue (wty 0)) 0 (vI (-1))) 1 (vI (-1))) (pc' := 115) X rfl rfl (Nat.le_of_ble_eq_true rfl) hb rfl (by decide) (by decide) dX1_init_114 rfl ?_
  refine cr_iinc (pc' := 118) (z' := 3) (lc' := [(0, .ref h), (1, vI 3)]) X 1 [1, 0] dX1_init_115 rfl rfl (by decide) rfl rfl ?_
  refine cr_goto (tgt := 103) X dX1_init_118 rfl ?_
  refine cr_iload_n (pc' := 104) X 1 dX1_init_103 rfl rfl rfl ?_
  refine cr_iconst (pc' := 105) X dX1_init_104 rfl ?_
  refine cr_icmp_ge (pc' := 108) (tgt := 121) X dX1_init_105 rfl rfl (by decide) (by decide) (fun _ => ?_) (fun hh => absurd hh (by decide))
  exact cr_vret X hr dX1_init_121 (fun _ _ => rfl)
def T_X2_init (h : Nat) : Nat → cC := (tU (tU (tU (tU (fun _ => .inl (2, [(.null : Value), (.null : Value)])) 1 (.inr (0, 4, fun _ => defaultValue (wty 0)))) 0 (.inl (2, [(.ref (h + 1) : Value), (.null : Value)]))) 2 (.inr (1, 3, fun _ => defaultValue (wty 1)))) 0 (.inl (2, [(.ref (h + 1) : Value), (.ref (h + 2) : Value)])))
theorem cf_X2_init : wCal yX2_init cX2_init 1 none 0 := ⟨gw_243, gw_7, by decide, by decide, by rfl⟩
set_option maxRecDepth 100000 in
set_option maxHeartbeats 4000000 in
theorem c_X2_init (l : Launch) (G : wG) (h : Nat) (H0 : Heap) : Met l yX2_init (gws yX2_init cX2_init 1 none) (wrm 1 2 7) (cPc G h 1 (fun _ => .inl (2, [(.null : Value), (.null : Value)])) H0 [.ref h]) (cQv G h 3 (T_X2_init h) H0) 2 7 (wA G) := by
  refine cMet (lc := [(0, .ref h)]) (by decide) (Nat.le_of_ble_eq_true rfl) rfl rfl ?_
  intro p e s m args below meth c X hN hini hb hr
  have X : wX p s m args meth c G 1 "StateObserver$Motion" cX2_init := X
  refine cr_aload_n (pc' := 1) X 0 dX2_init_0 rfl rfl rfl ?_
  refine cr_objInit (pc' := 4) X gw_244 gw_24 gw_25 dX2_init_1 rfl (Nat.le_of_ble_eq_true rfl) (Nat.le_of_ble_eq_true rfl) ?_
  refine cr_aload_n (pc' := 5) X 0 dX2_init_4 rfl rfl rfl ?_
  refine cr_iconst (pc' := 6) X dX2_init_5 rfl ?_
  refine cr_newa (atype := .int) (t := 0) (N := 4) (pc' := 8) X hN (by decide) rfl gw_82 rfl (Nat.le_of_ble_eq_true rfl) (Nat.le_of_ble_eq_true rfl) (Nat.le_of_ble_eq_true rfl) (Nat.le_of_ble_eq_true rfl) dX2_init_6 rfl ?_
  refine cr_putF (i := 0) (ci := 2) (q := 0) (N := 2) (fs := [(.null : Value), (.null : Value)]) (C := RX2) (Tc := TX2) (pc' := 11) X hini tyX2 tyX2_ok nmX2 rfl rfl (Nat.le_of_ble_eq_true rfl) hb rfl (by decide) inW2 rfl rfl (Nat.le_of_ble_eq_true rfl) rfl rfl rfl gw_245 dX2_init_8 rfl ?_
  refine cr_aload_n (pc' := 12) X 0 dX2_init_11 rfl rfl rfl ?_
  refine cr_iconst (pc' := 13) X dX2_init_12 rfl ?_
  refine cr_newa (atype := .long) (t := 1) (N := 3) (pc' := 15) X hN (by decide) rfl gw_252 rfl (Nat.le_of_ble_eq_true rfl) (Nat.le_of_ble_eq_true rfl) (Nat.le_of_ble_eq_true rfl) (Nat.le_of_ble_eq_true rfl) dX2_init_13 rfl ?_
  refine cr_putF (i := 0) (ci := 2) (q := 1) (N := 2) (fs := [(.ref (h + 1) : Value), (.null : Value)]) (C := RX2) (Tc := TX2) (pc' := 18) X hini tyX2 tyX2_ok nmX2 rfl rfl (Nat.le_of_ble_eq_true rfl) hb rfl (by decide) inW2 rfl rfl (Nat.le_of_ble_eq_true rfl) rfl rfl rfl gw_246 dX2_init_15 rfl ?_
  exact cr_vret X hr dX2_init_18 (fun _ _ => rfl)
def T_X6_init (h : Nat) : Nat → cC := (tU (tB (fun _ => .inl (6, [(.null : Value), vI 0])) 1 (mB 1 4 4 (h + 1) (defaultValue (wty 1)))) 0 (.inl (6, [(.ref (h + 1) : Value), vI 0])))
theorem cf_X6_init : wCal yX6_init cX6_init 1 none 0 := ⟨gw_263, gw_9, by decide, by decide, by rfl⟩
set_option maxRecDepth 100000 in
set_option maxHeartbeats 4000000 in
theorem c_X6_init (l : Launch) (G : wG) (h : Nat) (H0 : Heap) : Met l yX6_init (gws yX6_init cX6_init 1 none) (wrm 1 5 20) (cPc G h 1 (fun _ => .inl (6, [(.null : Value), vI 0])) H0 [.ref h]) (cQv G h 6 (T_X6_init h) H0) 5 20 (wA G) := by
  refine cMet (lc := [(0, .ref h)]) (by decide) (Nat.le_of_ble_eq_true rfl) rfl rfl ?_
  intro p e s m args below meth c X hN hini hb hr
  have X : wX p s m args meth c G 1 "StateObserver$Space" cX6_init := X
  refine cr_aload_n (pc' := 1) X 0 dX6_init_0 rfl rfl rfl ?_
  refine cr_objInit (pc' := 4) X gw_264 gw_24 gw_25 dX6_init_1 rfl (Nat.le_of_ble_eq_true rfl) (Nat.le_of_ble_eq_true rfl) ?_
  refine cr_aload_n (pc' := 5) X 0 dX6_init_4 rfl rfl rfl ?_
  refine cr_iconst (pc' := 6) X dX6_init_5 rfl ?_
  refine cr_iconst (pc' := 7) X dX6_init_6 rfl ?_
  refine cr_mnew (t := 1) (N := 4) (M := 4) (pc' := 11) X hN (by decide) gw_265 gw_252 rfl rfl (Nat.le_of_ble_eq_true rfl) (Nat.le_of_ble_eq_true rfl) (Nat.le_of_ble_eq_true rfl) (Nat.le_of_ble_eq_true rfl) dX6_init_7 rfl ?_
  refine cr_putF (i := 0) (ci := 6) (q := 0) (N := 2) (fs := [(.null : Value), vI 0]) (C := RX6) (Tc := TX6) (pc' := 14) X hini tyX6 tyX6_ok nmX6 rfl rfl (Nat.le_of_ble_eq_true rfl) hb rfl (by decide) inW6 rfl rfl (Nat.le_of_ble_eq_true rfl) rfl rfl rfl gw_267 dX6_init_11 rfl ?_
  exact cr_vret X hr dX6_init_14 (fun _ _ => rfl)
