theorem cf_X9_hiddenDimension : wCal yX9_hiddenDimension cX9_hiddenDimension 5 (some .int) 1 := ⟨gw_1334, gw_10, by decide, by decide, by rfl⟩
set_option maxRecDepth 100000 in
set_option maxHeartbeats 4000000 in
theorem c_X9_hiddenDimension (l : Launch) (G : wG) (M : wM) (N P : Nat) (pv : Nat → Nat → Int) (hp : PlOk pv N P) (hq : PEq N P pv (M 29)) (hz : ZCo N P (M 29)) (n : Int) (hn : rI n) : Met l yX9_hiddenDimension (gws yX9_hiddenDimension cX9_hiddenDimension 5 (some .int)) (wrm 3 0 0) (wPc G M [vR G (29, 0), vI n]) (wQi G (fun z M1 => (M1 29 0 0 = 0 ∧ RScr M M1 ∧ (0 ≤ n ∧ n ≤ 8) ∧ ∃ k' : Nat, z = (N : Int) - (k' : Int) ∧ k' ≤ N ∧ RankOf N (Vis N P pv n.toNat) k') ∨ (M1 29 0 0 = 1 ∧ RScr M M1 ∧ ¬ (0 ≤ n ∧ n ≤ 8)))) 0 0 (wA G) := by
  refine wMet (lc := [(0, vR G (29, 0)), (1, vI n)]) (by decide) (Nat.le_of_ble_eq_true rfl) rfl ?_
  intro p e s m args below meth c X hr
  have X : wX p s m args meth c G 5 "StateObserverModel" cX9_hiddenDimension := X
  obtain ⟨hN, hN1, hN4, hP, hP1, hP3, hA, hB, hE, hC, hQ⟩ := id hp
  obtain ⟨qN, qP, qA, qB, qE, qC, qQ⟩ := id hq
  have qC0 := hp.2.2.2.2.2.2.2.2.2.1
  refine r_aload_n (pc' := 1) X 0 dX9_hiddenDimension_0 rfl rfl rfl ?_
  refine r_iload_n (pc' := 2) X 1 dX9_hiddenDimension_1 rfl rfl rfl ?_
  refine r_i2l (pc' := 3) X dX9_hiddenDimension_2 (by omega) rfl ?_
  refine r_lconst (pc' := 4) (z := 0) X dX9_hiddenDimension_3 rfl rfl ?_
  refine r_ldc2 (pc' := 7) (z := 8) X gw_1217 dX9_hiddenDimension_4 rfl rfl ?_
  refine w_calli (pc' := 10) (st := [vR G (29, 0)]) (w_runS X (c_X9_in l G M n 0 8 (by first | assumption | omega) (by first | assumption | omega) (by first | assumption | omega)) cf_X9_in gw_1083 rfl rfl ⟨Nat.le_of_ble_eq_true rfl, Nat.le_of_ble_eq_true rfl⟩ rfl rfl (Nat.le_of_ble_eq_true rfl) ⟨Nat.le_of_ble_eq_true rfl, Nat.le_of_ble_eq_true rfl⟩ gw_1082 dX9_hiddenDimension_7) rfl (fun z7 M1 h7 => ?_)
  have hz7 := h7.1
  obtain rfl := h7.2.symm
  have hi7 : z7 = 0 ∨ z7 = 1 := by rw [hz7]; split <;> omega
  have hq7 : z7 = 1 ↔ (0 ≤ n ∧ n ≤ 8) := by rw [hz7]; split <;> omega
  refine r_if_eq (pc' := 13) (tgt := 17) X dX9_hiddenDimension_10 rfl rfl (by omega) (fun h10 => ?_) (fun h10 => ?_)
  · refine r_iconst (pc' := 18) X dX9_hiddenDimension_17 rfl ?_
    refine w_calli (pc' := 21) (st := []) (w_runV X (c_X9_refused l G M 1 (by first | assumption | omega)) cf_X9_refused k29_0 rfl gw_1087 gp_25 rfl rfl ⟨Nat.le_of_ble_eq_true rfl, Nat.le_of_ble_eq_true rfl⟩ rfl rfl (Nat.le_of_ble_eq_true rfl) ⟨Nat.le_of_ble_eq_true rfl, Nat.le_of_ble_eq_true rfl⟩ gw_1085 dX9_hiddenDimension_18) rfl (fun z18 M2 h18 => ?_)
    have hz18 : z18 = 1 := by rw [h18.1]; rfl
    have ew18 : ∀ a b x, ¬ (a = 29 ∧ b = 0 ∧ x = 0) → M2 a b x = M a b x := fun a b x q => by rw [h18.2]; unfold wu; rw [if_neg q]
    have er18 : M2 29 0 0 = 1 := by rw [h18.2]; unfold wu; rw [if_pos ⟨rfl, rfl, rfl⟩]
    have sc18 : RScr M M2 := fun a b x q => ew18 a b x (by omega)
    have qq18 : PEq N P pv (M2 29) := hq.keep (fun b x q => ew18 29 b x (by omega))
    refine r_if_eq (pc' := 24) (tgt := 26) X dX9_hiddenDimension_21 rfl rfl (by omega) (fun h21 => by exfalso; omega) (fun h21 => ?_)
    refine r_iconst (pc' := 25) X dX9_hiddenDimension_24 rfl ?_
    refine w_iret X hr dX9_hiddenDimension_25 ?_
    try dsimp only
    exact (Or.inr ⟨er18, sc18, by omega⟩)
  · refine r_iconst (pc' := 14) X dX9_hiddenDimension_13 rfl ?_
    refine r_goto (tgt := 18) X dX9_hiddenDimension_14 rfl ?_
    refine w_calli (pc' := 21) (st := []) (w_runV X (c_X9_refused l G M 0 (by first | assumption | omega)) cf_X9_refused k29_0 rfl gw_1087 gp_25 rfl rfl ⟨Nat.le_of_ble_eq_true rfl, Nat.le_of_ble_eq_true rfl⟩ rfl rfl (Nat.le_of_ble_eq_true rfl) ⟨Nat.le_of_ble_eq_true rfl, Nat.le_of_ble_eq_true rfl⟩ gw_1085 dX9_hiddenDimension_18) rfl (fun z18 M3 h18 => ?_)
    have hz18 : z18 = 0 := by rw [h18.1]; rfl
    have ew18 : ∀ a b x, ¬ (a = 29 ∧ b = 0 ∧ x = 0) → M3 a b x = M a b x := fun a b x q => by rw [h18.2]; unfold wu; rw [if_neg q]
    have er18 : M3 29 0 0 = 0 := by rw [h18.2]; unfold wu; rw [if_pos ⟨rfl, rfl, rfl⟩]
    have sc18 : RScr M M3 := fun a b x q => ew18 a b x (by omega)
    have qq18 : PEq N P pv (M3 29) := hq.keep (fun b x q => ew18 29 b x (by omega))
    refine r_if_eq (pc' := 24) (tgt := 26) X dX9_hiddenDimension_21 rfl rfl (by omega) (fun h21 => ?_) (fun h21 => by exfalso; omega)
    refine r_aload_n (pc' := 27) X 0 dX9_hiddenDimension_26 rfl rfl rfl ?_
    refine r_iconst (pc' := 28) X dX9_hiddenDimension_27 rfl ?_
    refine pf_29_many (pc' := 31) X gw_1000 dX9_hiddenDimension_28 rfl (fun M4 hM4 => ?_)
    refine r_iconst (pc' := 32) X dX9_hiddenDimension_31 rfl ?_
    refine r_istore_n (pc' := 33) (lc' := [(0, vR G (29, 0)), (1, vI n), (2, vI 0)]) X [1, 2, 0] dX9_hiddenDimension_32 rfl (by decide) rfl rfl ?_
    have L33 : ∀ (fu : Nat) (t : Nat) (mk : Nat) (Ma : wM), n.toNat - t < fu → ((t : Int) ≤ n) → (Ma 29 0 0 = 0) → (∀ a b x, ¬ (a = 29 ∧ (b = 23 ∨ b = 24 ∨ (b = 0 ∧ (x = 0 ∨ x = 33)))) → Ma a b x = M a b x) → (Ma 29 0 33 = (mk : Int)) → (mk ≤ N) → (RwOk N (Ma 29 24) mk) → (∃ l, Ech N mk (mr (Ma 29 24)) l) → (∀ u, Sp N (rws (mr (Ma 29 24)) mk) u ↔ Vis N P pv t u) → wV p l e (wrm 3 0 0) s m args below meth c G 5 Ma 0 0 (MQ below (wQi G (fun z M1 => (M1 29 0 0 = 0 ∧ RScr M M1 ∧ (0 ≤ n ∧ n ≤ 8) ∧ ∃ k' : Nat, z = (N : Int) - (k' : Int) ∧ k' ≤ N ∧ RankOf N (Vis N P pv n.toNat) k') ∨ (M1 29 0 0 = 1 ∧ RScr M M1 ∧ ¬ (0 ≤ n ∧ n ≤ 8)))) args s 0 0 (wA G)) 33 [(0, vR G (29, 0)), (1, vI n), (2, vI (t : Int))] [] := by
      intro fu
      induction fu with
      | zero => intro t mk Ma hfu; exact absurd hfu (Nat.not_lt_zero _)
      | succ fu ih33 =>
        intro t mk Ma hfu33 ht h00 hfr hmk hmN hrw hex hvis
        refine r_iload_n (pc' := 34) X 2 dX9_hiddenDimension_33 rfl rfl rfl ?_
        refine r_iload_n (pc' := 35) X 1 dX9_hiddenDimension_34 rfl rfl rfl ?_
        refine r_icmp_ge (pc' := 38) (tgt := 174) X dX9_hiddenDimension_35 rfl rfl (by omega) (by omega) (fun h35 => ?_) (fun h35 => ?_)
        · refine r_aload_n (pc' := 175) X 0 dX9_hiddenDimension_174 rfl rfl rfl ?_
          refine gf_29_states (pc' := 178) X gw_972 dX9_hiddenDimension_175 rfl ?_
          refine r_aload_n (pc' := 179) X 0 dX9_hiddenDimension_178 rfl rfl rfl ?_
          refine gf_29_many (pc' := 182) X gw_1000 dX9_hiddenDimension_179 rfl ?_
          refine r_isub (pc' := 183) X dX9_hiddenDimension_182 rfl ?_
          refine w_iret X hr dX9_hiddenDimension_183 ?_
          try dsimp only
          obtain ⟨lf, hlf⟩ := hex
          have htn : t = n.toNat := by omega
          rw [htn] at hvis
          exact Or.inl ⟨h00, fun a b x w1 => hfr a b x (by omega), by omega, mk, by rw [hfr 29 0 5 (by omega), hmk, qN], hmN, mr (Ma 29 24), lf, hlf, hvis⟩
        · refine r_aload_n (pc' := 39) X 0 dX9_hiddenDimension_38 rfl rfl rfl ?_
          refine w_callv (pc' := 42) (st := []) (w_runV X (c_X9_dropPush l G Ma N P pv (by first | assumption | omega) (hq.keep (fun b x w1 => hfr 29 b x (by omega))) mk hmk (by omega) hrw) cf_X9_dropPush k29_0 rfl gw_1337 gp_53 rfl rfl ⟨Nat.le_of_ble_eq_true rfl, Nat.le_of_ble_eq_true rfl⟩ rfl rfl (Nat.le_of_ble_eq_true rfl) ⟨Nat.le_of_ble_eq_true rfl, Nat.le_of_ble_eq_true rfl⟩ gw_1335 dX9_hiddenDimension_39) rfl (fun M5 h39 => ?_)
          obtain ⟨d1, y, d2, d3, d4, d5⟩ := h39
          obtain ⟨F, hF⟩ : ∃ F, F = M5 29 24 := ⟨_, rfl⟩
          have dfr : ∀ a b x, ¬ (a = 29 ∧ (b = 23 ∨ b = 24 ∨ (b = 0 ∧ (x = 0 ∨ x = 33)))) → M5 a b x = M a b x := fun a b x w1 => by rw [d1 a b x (by omega)]; exact hfr a b x w1
          have d00 : M5 29 0 0 = 0 := by rw [d1 29 0 0 (by omega)]; exact h00
          rw [← hF] at d4 d5
          refine r_iconst (pc' := 43) X dX9_hiddenDimension_42 rfl ?_
          refine r_istore_n (pc' := 44) (lc' := [(0, vR G (29, 0)), (1, vI n), (2, vI (t : Int)), (3, vI 0)]) X [1, 2, 3, 0] dX9_hiddenDimension_43 rfl (by decide) rfl rfl ?_
          have L44 : ∀ (fu : Nat) (r : Nat) (Mb : wM), y - r < fu → (r ≤ y) → (Mb 29 0 0 = 0) → (∀ a b x, ¬ (a = 29 ∧ (b = 23 ∨ b = 24 ∨ (b = 0 ∧ (x = 0 ∨ x = 33)))) → Mb a b x = M a b x) → (Mb 29 0 33 = (y : Int)) → (∀ x, x < r → ∀ j, j < 4 → Mb 29 24 (4 * x + j) = lyT N (mr F x) (M 29 2) j) → (∀ x, r ≤ x → ∀ j, j < 4 → Mb 29 24 (4 * x + j) = F (4 * x + j)) → wV p l e (wrm 3 0 0) s m args below meth c G 5 Mb 0 0 (MQ below (wQi G (fun z M1 => (M1 29 0 0 = 0 ∧ RScr M M1 ∧ (0 ≤ n ∧ n ≤ 8) ∧ ∃ k' : Nat, z = (N : Int) - (k' : Int) ∧ k' ≤ N ∧ RankOf N (Vis N P pv n.toNat) k') ∨ (M1 29 0 0 = 1 ∧ RScr M M1 ∧ ¬ (0 ≤ n ∧ n ≤ 8)))) args s 0 0 (wA G)) 44 [(0, vR G (29, 0)), (1, vI n), (2, vI (t : Int)), (3, vI (r : Int))] [] := by
            intro fu
            induction fu with
            | zero => intro r Mb hfu; exact absurd hfu (Nat.not_lt_zero _)
            | succ fu ih44 =>
              intro r Mb hfu44 hry b00 bfr bmk hdn hre
              have qMb : y ≤ 4 := by omega
              refine r_iload_n (pc' := 45) X 3 dX9_hiddenDimension_44 rfl rfl rfl ?_
              refine r_aload_n (pc' := 46) X 0 dX9_hiddenDimension_45 rfl rfl rfl ?_
              refine gf_29_many (pc' := 49) X gw_1000 dX9_hiddenDimension_46 rfl ?_
              refine r_icmp_ge (pc' := 52) (tgt := 107) X dX9_hiddenDimension_49 rfl rfl (by omega) (by omega) (fun h49 => ?_) (fun h49 => ?_)
              · refine r_iconst (pc' := 108) X dX9_hiddenDimension_107 rfl ?_
                refine r_istore_n (pc' := 109) (lc' := [(0, vR G (29, 0)), (1, vI n), (2, vI (t : Int)), (3, vI 0)]) X [1, 2, 3, 0] dX9_hiddenDimension_108 rfl (by decide) rfl rfl ?_
                have L109 : ∀ (fu : Nat) (x : Nat) (Me : wM), 4 * P - x < fu → (x ≤ 4 * P) → (∀ a b z, ¬ (a = 29 ∧ b = 24 ∧ 4 * y ≤ z) → Me a b z = Mb a b z) → (∀ z, z < x → Me 29 24 (4 * y + z) = M 29 5 z % 1000003) → wV p l e (wrm 3 0 0) s m args below meth c G 5 Me 0 0 (MQ below (wQi G (fun z M1 => (M1 29 0 0 = 0 ∧ RScr M M1 ∧ (0 ≤ n ∧ n ≤ 8) ∧ ∃ k' : Nat, z = (N : Int) - (k' : Int) ∧ k' ≤ N ∧ RankOf N (Vis N P pv n.toNat) k') ∨ (M1 29 0 0 = 1 ∧ RScr M M1 ∧ ¬ (0 ≤ n ∧ n ≤ 8)))) args s 0 0 (wA G)) 109 [(0, vR G (29, 0)), (1, vI n), (2, vI (t : Int)), (3, vI (x : Int))] [] := by
                  intro fu
                  induction fu with
                  | zero => intro x Me hfu; exact absurd hfu (Nat.not_lt_zero _)
                  | succ fu ih109 =>
                    intro x Me hfu109 hx hfe hle
                    have qPe : Me 29 0 6 = P := by rw [hfe 29 0 6 (by omega), bfr 29 0 6 (by omega)]; exact qP
                    have mke : Me 29 0 33 = y := by rw [hfe 29 0 33 (by omega)]; exact bmk
                    refine r_iload_n (pc' := 110) X 3 dX9_hiddenDimension_109 rfl rfl rfl ?_
                    refine r_iconst (pc' := 111) X dX9_hiddenDimension_110 rfl ?_
                    refine r_aload_n (pc' := 112) X 0 dX9_hiddenDimension_111 rfl rfl rfl ?_
                    refine gf_29_outputs (pc' := 115) X gw_973 dX9_hiddenDimension_112 rfl ?_
                    refine r_imul (pc' := 116) X dX9_hiddenDimension_115 rfl ?_
                    refine r_icmp_ge (pc' := 119) (tgt := 148) X dX9_hiddenDimension_116 rfl rfl (by omega) (by omega) (fun h116 => ?_) (fun h116 => ?_)
                    · have hry2 : r = y := by omega
                      have hx12 : x = 4 * P := by omega
                      have v1 : ∀ z, z < y → ∀ j, j < 4 → Me 29 24 (4 * z + j) = lyT N (mr F z) (M 29 2) j := fun z w1 j w2 => by rw [hfe 29 24 _ (by omega)]; exact hdn z (by omega) j w2
                      have v2 : ∀ o, o < P → ∀ j, j < 4 → Me 29 24 (4 * (y + o) + j) = M 29 5 (4 * o + j) % 1000003 := fun o w1 j w2 => by rw [show 4 * (y + o) + j = 4 * y + (4 * o + j) by omega]; exact hle _ (by omega)
                      have v3 : RwOk N (Me 29 24) (y + P) := fun z w1 j w2 => by
                        by_cases w3 : z < y
                        · rw [v1 z w3 j w2]; exact lyT_rw hz w2
                        · obtain ⟨o, rfl⟩ : ∃ o, z = y + o := ⟨z - y, by omega⟩
                          rw [v2 o (by omega) j w2]
                          refine ⟨by omega, fun w4 => ?_⟩
                          rw [hz.2 o j (by omega) w4 w2]
                          rfl
                      have v4 := hid_step (f := mr (Ma 29 24)) (F := mr F) (G := mr (Me 29 24)) hvis d5 (fun z w1 j w2 => by
                        show Z0 (Me 29 24 (4 * z + j) - _)
                        rw [v1 z w1 j (by omega), lyT_lt hq w2]
                        exact Z0.emod _) (fun o w1 j w2 => by
                        show Z0 (Me 29 24 (4 * (y + o) + j) - _)
                        rw [v2 o w1 j (by omega), qC o j w1 w2]
                        exact Z0.emod _)
                      refine r_aload_n (pc' := 149) X 0 dX9_hiddenDimension_148 rfl rfl rfl ?_
                      refine r_aload_n (pc' := 150) X 0 dX9_hiddenDimension_149 rfl rfl rfl ?_
                      refine gf_29_marks (pc' := 153) X gw_999 dX9_hiddenDimension_150 rfl ?_
                      refine r_aload_n (pc' := 154) X 0 dX9_hiddenDimension_153 rfl rfl rfl ?_
                      refine gf_29_many (pc' := 157) X gw_1000 dX9_hiddenDimension_154 rfl ?_
                      refine r_aload_n (pc' := 158) X 0 dX9_hiddenDimension_157 rfl rfl rfl ?_
                      refine gf_29_outputs (pc' := 161) X gw_973 dX9_hiddenDimension_158 rfl ?_
                      refine r_iadd (pc' := 162) X dX9_hiddenDimension_161 rfl ?_
                      refine w_eqI (z' := ((y + P : Nat) : Int)) (by omega) ?_
                      refine w_calli (pc' := 165) (st := [vR G (29, 0)]) (w_runS X (c_X9_eliminate l G Me N 24 28 (y + P) k29_24 (by first | assumption | omega) (by omega) (by first | assumption | omega) v3) cf_X9_eliminate gw_1320 rfl rfl ⟨Nat.le_of_ble_eq_true rfl, Nat.le_of_ble_eq_true rfl⟩ rfl rfl (Nat.le_of_ble_eq_true rfl) ⟨Nat.le_of_ble_eq_true rfl, Nat.le_of_ble_eq_true rfl⟩ gw_1319 dX9_hiddenDimension_162) rfl (fun z162 M6 h162 => ?_)
                      obtain ⟨k1, yy, k2, k3, k4, k5, k6⟩ := h162
                      refine pf_29_many (pc' := 168) X gw_1000 dX9_hiddenDimension_165 rfl (fun M7 hM7 => ?_)
                      have p24 : M7 29 24 = M6 29 24 := by rw [hM7, wu_ne (by decide)]
                      refine r_iinc (pc' := 171) (z' := ((t + 1 : Nat) : Int)) (lc' := [(0, vR G (29, 0)), (1, vI n), (2, vI ((t + 1 : Nat) : Int)), (3, vI (x : Int))]) X 2 [1, 2, 0, 3] dX9_hiddenDimension_168 rfl (by omega) (by decide) rfl rfl ?_
                      refine r_goto (tgt := 33) X dX9_hiddenDimension_171 rfl ?_
                      refine w_sub (lc' := [(0, vR G (29, 0)), (1, vI n), (2, vI ((t + 1 : Nat) : Int))]) [0, 1, 2] rfl ?_
                      exact ih33 (t + 1) yy M7 (by omega) (by omega) (by rw [hM7]; unfold wu; rw [if_neg (by omega), k1 29 0 (by omega), hfe 29 0 0 (by omega)]; exact b00) (fun a b x w1 => by rw [hM7]; unfold wu; rw [if_neg (by omega), k1 a b (by omega), hfe a b x (by omega)]; exact bfr a b x w1) (by rw [hM7]; unfold wu; rw [if_pos ⟨rfl, rfl, rfl⟩]; exact k2) (k5.elim fun l w1 => w1.le_n) (fun r w1 => by rw [p24]; exact k4 r (by omega)) (by rw [p24]; exact k5) (fun u => by rw [p24]; exact (k6 u).trans (v4 u))
                    · have e5 : Me 29 5 x = M 29 5 x := by rw [hfe 29 5 x (by omega)]; exact bfr 29 5 x (by omega)
                      have g5 := vw_bd qC0 hq hz (x := x) (by omega)
                      refine r_aload_n (pc' := 120) X 0 dX9_hiddenDimension_119 rfl rfl rfl ?_
                      refine gf_29_marks (pc' := 123) X gw_999 dX9_hiddenDimension_120 rfl ?_
                      refine r_iconst (pc' := 124) X dX9_hiddenDimension_123 rfl ?_
                      refine r_aload_n (pc' := 125) X 0 dX9_hiddenDimension_124 rfl rfl rfl ?_
                      refine gf_29_many (pc' := 128) X gw_1000 dX9_hiddenDimension_125 rfl ?_
                      refine r_imul (pc' := 129) X dX9_hiddenDimension_128 rfl ?_
                      refine r_iload_n (pc' := 130) X 3 dX9_hiddenDimension_129 rfl rfl rfl ?_
                      refine r_iadd (pc' := 131) X dX9_hiddenDimension_130 rfl ?_
                      refine r_aload_n (pc' := 132) X 0 dX9_hiddenDimension_131 rfl rfl rfl ?_
                      refine gf_29_view (pc' := 135) X gw_977 dX9_hiddenDimension_132 rfl ?_
                      refine r_iload_n (pc' := 136) X 3 dX9_hiddenDimension_135 rfl rfl rfl ?_
                      refine r_iald (i := x) (pc' := 137) X k29_5 (by omega) (by omega) (by decide) dX9_hiddenDimension_136 rfl ?_
                      refine r_i2l (pc' := 138) X dX9_hiddenDimension_137 (by omega) rfl ?_
                      refine w_callj (pc' := 141) (st := [vI ((4 * (Me 29 0 33)) + (x : Int)), vR G (29, 24)]) (w_runS X (c_X9_residue l G Me (Me 29 5 x) (by first | assumption | omega)) cf_X9_residue gw_1312 rfl rfl ⟨Nat.le_of_ble_eq_true rfl, Nat.le_of_ble_eq_true rfl⟩ rfl rfl (Nat.le_of_ble_eq_true rfl) ⟨Nat.le_of_ble_eq_true rfl, Nat.le_of_ble_eq_true rfl⟩ gw_1311 dX9_hiddenDimension_138) rfl (fun z138 M8 h138 => ?_)
                      obtain rfl := h138.1.symm
                      obtain rfl := h138.2.symm
                      refine r_last (i := (4 * y + x)) (pc' := 142) X k29_24 (by omega) (by omega) (by decide) dX9_hiddenDimension_141 rfl (fun M9 hM9 => ?_)
                      refine r_iinc (pc' := 145) (z' := ((x + 1 : Nat) : Int)) (lc' := [(0, vR G (29, 0)), (1, vI n), (2, vI (t : Int)), (3, vI ((x + 1 : Nat) : Int))]) X 3 [1, 2, 3, 0] dX9_hiddenDimension_142 rfl (by omega) (by decide) rfl rfl ?_
                      refine r_goto (tgt := 109) X dX9_hiddenDimension_145 rfl ?_
                      exact ih109 (x + 1) M9 (by omega) (by omega) (fun a b z w1 => by rw [hM9]; unfold wu; rw [if_neg (by omega)]; exact hfe a b z w1) (fun z hy => by rw [hM9]; unfold wu; by_cases w1 : z = x; rw [if_pos ⟨rfl, rfl, by omega⟩, w1, e5]; rw [if_neg (by omega)]; exact hle z (by omega))
                exact L109 ((4 * P - 0) + 1) 0 Mb (Nat.lt_succ_self _) (by omega) (fun _ _ _ _ => rfl) (fun y h => absurd h (Nat.not_lt_zero y))
              · refine r_aload_n (pc' := 53) X 0 dX9_hiddenDimension_52 rfl rfl rfl ?_
                refine r_aload_n (pc' := 54) X 0 dX9_hiddenDimension_53 rfl rfl rfl ?_
                refine gf_29_marks (pc' := 57) X gw_999 dX9_hiddenDimension_54 rfl ?_
                refine r_iconst (pc' := 58) X dX9_hiddenDimension_57 rfl ?_
                refine r_iload_n (pc' := 59) X 3 dX9_hiddenDimension_58 rfl rfl rfl ?_
                refine r_imul (pc' := 60) X dX9_hiddenDimension_59 rfl ?_
                refine r_aload_n (pc' := 61) X 0 dX9_hiddenDimension_60 rfl rfl rfl ?_
                refine gf_29_next (pc' := 64) X gw_998 dX9_hiddenDimension_61 rfl ?_
                refine r_iconst (pc' := 65) X dX9_hiddenDimension_64 rfl ?_
                refine w_callv (pc' := 68) (st := []) (w_runV X (c_X9_layTimes l G Mb N P pv (by first | assumption | omega) (hq.keep (fun b x w1 => bfr 29 b x (by omega))) (hz.keep (fun b x w1 => bfr 29 b x (by omega))) 24 28 (4 * r) 23 12 0 k29_24 k29_23 (by decide) (by decide) (by omega) (by omega) (by decide) (by decide) (fun x w1 => by rw [hre r (Nat.le_refl r) x w1]; exact (d4 r (by omega) x w1).1)) cf_X9_layTimes k29_0 rfl gw_1317 gp_52 rfl rfl ⟨Nat.le_of_ble_eq_true rfl, Nat.le_of_ble_eq_true rfl⟩ rfl rfl (Nat.le_of_ble_eq_true rfl) ⟨Nat.le_of_ble_eq_true rfl, Nat.le_of_ble_eq_true rfl⟩ gw_1315 dX9_hiddenDimension_65) rfl (fun M10 h65 => ?_)
                have g24 : ∀ x, x < 4 → M10 29 23 x = lyT N (mr F r) (M 29 2) x := fun x w1 => by
                  have w2 := h65.2 x w1
                  rw [Nat.zero_add] at w2
                  rw [w2]
                  exact lyT_cg (fun i w3 => hre r (Nat.le_refl r) i (by omega)) (fun z => bfr 29 2 z (by omega)) x
                have d65 : ∀ a b z, ¬ (a = 29 ∧ b = 23) → M10 a b z = Mb a b z := fun a b z w1 => h65.1 a b z (by omega)
                refine r_iconst (pc' := 69) X dX9_hiddenDimension_68 rfl ?_
                refine r_istore (pc' := 71) (lc' := [(0, vR G (29, 0)), (1, vI n), (2, vI (t : Int)), (3, vI (r : Int)), (4, vI 0)]) X [1, 2, 3, 4, 0] dX9_hiddenDimension_69 (by decide) rfl rfl ?_
                have L71 : ∀ (fu : Nat) (x : Nat) (Mc : wM), 4 - x < fu → (x ≤ 4) → (∀ a b z, ¬ (a = 29 ∧ b = 24 ∧ 4 * r ≤ z ∧ z < 4 * r + 4) → Mc a b z = M10 a b z) → (∀ z, z < x → Mc 29 24 (4 * r + z) = M10 29 23 z) → wV p l e (wrm 3 0 0) s m args below meth c G 5 Mc 0 0 (MQ below (wQi G (fun z M1 => (M1 29 0 0 = 0 ∧ RScr M M1 ∧ (0 ≤ n ∧ n ≤ 8) ∧ ∃ k' : Nat, z = (N : Int) - (k' : Int) ∧ k' ≤ N ∧ RankOf N (Vis N P pv n.toNat) k') ∨ (M1 29 0 0 = 1 ∧ RScr M M1 ∧ ¬ (0 ≤ n ∧ n ≤ 8)))) args s 0 0 (wA G)) 71 [(0, vR G (29, 0)), (1, vI n), (2, vI (t : Int)), (3, vI (r : Int)), (4, vI (x : Int))] [] := by
                  intro fu
                  induction fu with
                  | zero => intro x Mc hfu; exact absurd hfu (Nat.not_lt_zero _)
                  | succ fu ih71 =>
                    intro x Mc hfu71 hx4 hfc hlc
                    refine r_iload (pc' := 73) X 4 dX9_hiddenDimension_71 rfl rfl ?_
                    refine r_iconst (pc' := 74) X dX9_hiddenDimension_73 rfl ?_
                    refine r_icmp_ge (pc' := 77) (tgt := 101) X dX9_hiddenDimension_74 rfl rfl (by omega) (by omega) (fun h74 => ?_) (fun h74 => ?_)
                    · have hx44 : x = 4 := by omega
                      have c1 : ∀ a b z, ¬ (a = 29 ∧ (b = 23 ∨ (b = 24 ∧ 4 * r ≤ z ∧ z < 4 * r + 4))) → Mc a b z = Mb a b z := fun a b z w1 => by rw [hfc a b z (by omega), d65 a b z (by omega)]
                      refine r_iinc (pc' := 104) (z' := ((r + 1 : Nat) : Int)) (lc' := [(0, vR G (29, 0)), (1, vI n), (2, vI (t : Int)), (3, vI ((r + 1 : Nat) : Int)), (4, vI (x : Int))]) X 3 [1, 2, 3, 0, 4] dX9_hiddenDimension_101 rfl (by omega) (by decide) rfl rfl ?_
                      refine r_goto (tgt := 44) X dX9_hiddenDimension_104 rfl ?_
                      refine w_sub (lc' := [(0, vR G (29, 0)), (1, vI n), (2, vI (t : Int)), (3, vI ((r + 1 : Nat) : Int))]) [0, 1, 2, 3] rfl ?_
                      exact ih44 (r + 1) Mc (by omega) (by omega) (by rw [c1 29 0 0 (by omega)]; exact b00) (fun a b z w1 => by rw [c1 a b z (by omega)]; exact bfr a b z w1) (by rw [c1 29 0 33 (by omega)]; exact bmk) (fun z w1 j w2 => by by_cases w3 : z = r; rw [w3, hlc j (by omega)]; exact g24 j w2; rw [c1 29 24 _ (by omega)]; exact hdn z (by omega) j w2) (fun z w1 j w2 => by rw [c1 29 24 _ (by omega)]; exact hre z (by omega) j w2)
                    · refine r_aload_n (pc' := 78) X 0 dX9_hiddenDimension_77 rfl rfl rfl ?_
                      refine gf_29_marks (pc' := 81) X gw_999 dX9_hiddenDimension_78 rfl ?_
                      refine r_iconst (pc' := 82) X dX9_hiddenDimension_81 rfl ?_
                      refine r_iload_n (pc' := 83) X 3 dX9_hiddenDimension_82 rfl rfl rfl ?_
                      refine r_imul (pc' := 84) X dX9_hiddenDimension_83 rfl ?_
                      refine r_iload (pc' := 86) X 4 dX9_hiddenDimension_84 rfl rfl ?_
                      refine r_iadd (pc' := 87) X dX9_hiddenDimension_86 rfl ?_
                      refine r_aload_n (pc' := 88) X 0 dX9_hiddenDimension_87 rfl rfl rfl ?_
                      refine gf_29_next (pc' := 91) X gw_998 dX9_hiddenDimension_88 rfl ?_
                      refine r_iload (pc' := 93) X 4 dX9_hiddenDimension_91 rfl rfl ?_
                      refine r_lald (i := x) (pc' := 94) X k29_23 (by omega) (by omega) (by decide) dX9_hiddenDimension_93 rfl ?_
                      refine r_last (i := ((4 * r) + x)) (pc' := 95) X k29_24 (by omega) (by omega) (by decide) dX9_hiddenDimension_94 rfl (fun M11 hM11 => ?_)
                      refine r_iinc (pc' := 98) (z' := ((x + 1 : Nat) : Int)) (lc' := [(0, vR G (29, 0)), (1, vI n), (2, vI (t : Int)), (3, vI (r : Int)), (4, vI ((x + 1 : Nat) : Int))]) X 4 [1, 2, 3, 4, 0] dX9_hiddenDimension_95 rfl (by omega) (by decide) rfl rfl ?_
                      refine r_goto (tgt := 71) X dX9_hiddenDimension_98 rfl ?_
                      exact ih71 (x + 1) M11 (by omega) (by omega) (fun a b z w1 => by rw [hM11]; unfold wu; rw [if_neg (by omega)]; exact hfc a b z w1) (fun z hy => by rw [hM11]; unfold wu; by_cases w1 : z = x; rw [if_pos ⟨rfl, rfl, by omega⟩, w1]; exact hfc 29 23 x (by omega); rw [if_neg (by omega)]; exact hlc z (by omega))
                exact L71 ((4 - 0) + 1) 0 M10 (Nat.lt_succ_self _) (by omega) (fun _ _ _ _ => rfl) (fun y h => absurd h (Nat.not_lt_zero y))
          exact L44 ((y - 0) + 1) 0 M5 (Nat.lt_succ_self _) (by omega) d00 dfr d2 (fun x h => absurd h (Nat.not_lt_zero x)) (fun x _ j _ => by rw [hF])
    exact L33 ((n.toNat - 0) + 1) 0 0 M4 (Nat.lt_succ_self _) (by omega) (by rw [hM4]; unfold wu; rw [if_neg (by omega)]; exact er18) (fun a b x w1 => by rw [hM4]; unfold wu; rw [if_neg (by omega)]; exact ew18 a b x (by omega)) (by rw [hM4]; unfold wu; rw [if_pos ⟨rfl, rfl, rfl⟩]; rfl) (by omega) (fun r h => absurd h (Nat.not_lt_zero r)) Ech_0 Vis_0
