/-! told: two texts put alike and loaded alike -/
section CG
variable {ch ch' : Nat → Int} {L : Nat}
theorem pC_cg (h : ∀ i, i < L → ch' i = ch i) {a b : Int} {s : pS} : pC ch' L a b s = pC ch L a b s := by
  unfold pC
  by_cases c : s.1 < L
  · rw [h s.1 c]
  · rw [if_neg (fun q => c q.2.1), if_neg (fun q => c q.2.1)]
theorem pD_cg (h : ∀ i, i < L → ch' i = ch i) {a b : Int} {s : pS} : pD ch' L a b s = pD ch L a b s := by
  unfold pD
  rw [pC_cg h]
  by_cases c : (pC ch L (48 + a) (48 + b) s).2 = 0
  · have c2 : s.1 < L := by
      unfold pC at c
      by_cases d : s.2 = 0 ∧ s.1 < L ∧ 48 + a ≤ ch s.1 ∧ ch s.1 ≤ 48 + b
      · exact d.2.1
      · rw [if_neg d] at c; exact absurd c (by show ¬ (1 : Int) = 0; decide)
    rw [h s.1 c2]
  · rw [if_neg c, if_neg c]
theorem pT_cg (h : ∀ i, i < L → ch' i = ch i) {a : Int} {s : pS} : pT ch' L a s = pT ch L a s := by
  unfold pT
  rw [pD_cg h, pD_cg h]
theorem pZ_cg (h : ∀ i, i < L → ch' i = ch i) {s : pS} : pZ ch' L s = pZ ch L s := by
  unfold pZ
  by_cases c : s.1 < L
  · rw [h s.1 c]
  · rw [if_neg (fun q => c q.1), if_neg (fun q => c q.1)]
theorem pN_cg (h : ∀ i, i < L → ch' i = ch i) {s : pS} : pN ch' L s = pN ch L s := by
  unfold pN
  rw [pZ_cg h, pC_cg h, pT_cg h]
theorem pI_cg (h : ∀ i, i < L → ch' i = ch i) {s : pS} : ∀ {n : Nat}, pI ch' L n s = pI ch L n s
  | 0 => rfl
  | n + 1 => by
    show (pN ch' L (pI ch' L n s)).2 = (pN ch L (pI ch L n s)).2
    rw [pI_cg h (n := n), pN_cg h]
theorem rowF_cg (h : ∀ i, i < L → ch' i = ch i) {s : pS} {j : Nat} : rowF ch' L s j = rowF ch L s j := by
  unfold rowF
  rw [pI_cg h, pN_cg h]
theorem sS_cg (h : ∀ i, i < L → ch' i = ch i) {N : Nat} {s : pS} : ∀ {i : Nat}, sS ch' L N s i = sS ch L N s i
  | 0 => rfl
  | i + 1 => by
    show pI ch' L (N + 2) (pC ch' L 114 114 (sS ch' L N s i)) = pI ch L (N + 2) (pC ch L 114 114 (sS ch L N s i))
    rw [sS_cg h (i := i), pC_cg h, pI_cg h]
theorem sO_cg (h : ∀ i, i < L → ch' i = ch i) {N : Nat} {s : pS} : ∀ {i : Nat}, sO ch' L N s i = sO ch L N s i
  | 0 => rfl
  | i + 1 => by
    show (pT ch' L 1 (pI ch' L N (pC ch' L 111 111 (sO ch' L N s i)))).2 = (pT ch L 1 (pI ch L N (pC ch L 111 111 (sO ch L N s i)))).2
    rw [sO_cg h (i := i), pC_cg h, pI_cg h, pT_cg h]
theorem hdN_cg (h : ∀ i, i < L → ch' i = ch i) : hdN ch' L (0, 0) = hdN ch L (0, 0) := by unfold hdN; rw [pC_cg h, pD_cg h]
theorem hdP_cg (h : ∀ i, i < L → ch' i = ch i) : hdP ch' L (0, 0) = hdP ch L (0, 0) := by unfold hdP; rw [hdN_cg h, pD_cg h]
theorem hdB_cg (h : ∀ i, i < L → ch' i = ch i) : hdB ch' L (0, 0) = hdB ch L (0, 0) := by unfold hdB; rw [hdP_cg h, pT_cg h]
theorem hdH_cg (h : ∀ i, i < L → ch' i = ch i) : hdH ch' L (0, 0) = hdH ch L (0, 0) := by unfold hdH; rw [hdB_cg h, pD_cg h]
theorem rdN_cg (h : ∀ i, i < L → ch' i = ch i) : rdN ch' L = rdN ch L := by unfold rdN; rw [hdN_cg h]
theorem rdP_cg (h : ∀ i, i < L → ch' i = ch i) : rdP ch' L = rdP ch L := by unfold rdP; rw [hdP_cg h]
theorem rdS_cg (h : ∀ i, i < L → ch' i = ch i) : rdS ch' L = rdS ch L := by unfold rdS; rw [hdH_cg h]
theorem NumT.keep {i : Nat} {v : Int} (h : NumT ch i v) (hL : i + 3 ≤ L) (e : ∀ i, i < L → ch' i = ch i) : NumT ch' i v := by
  unfold NumT
  rw [e i (by omega), e (i + 1) (by omega), e (i + 2) (by omega)]
  exact h
theorem NumOk.keep {i : Nat} (h : NumOk ch i) (hL : i + 3 ≤ L) (e : ∀ i, i < L → ch' i = ch i) : NumOk ch' i := by
  obtain ⟨v, hv⟩ := h
  exact ⟨v, hv.keep hL e⟩
theorem StT.keep {N i : Nat} (h : StT ch N i) (hL : i + (3 * N + 7) ≤ L) (e : ∀ i, i < L → ch' i = ch i) : StT ch' N i := ⟨by rw [e i (by omega)]; exact h.1, fun j hj => (h.2 j hj).keep (by omega) e⟩
theorem OuT.keep {N i : Nat} (h : OuT ch N i) (hL : i + (3 * N + 3) ≤ L) (e : ∀ i, i < L → ch' i = ch i) : OuT ch' N i := by
  obtain ⟨h1, h2, h3, h4⟩ := h
  refine ⟨by rw [e i (by omega)]; exact h1, fun j hj => (h2 j hj).keep (by omega) e, ?_, ?_⟩
  · rw [e _ (by omega)]; exact h3
  · rw [e _ (by omega)]; exact h4
theorem HdT.keep {N P B H : Nat} (h : HdT ch N P B H) (hL : 6 ≤ L) (e : ∀ i, i < L → ch' i = ch i) : HdT ch' N P B H := by
  unfold HdT
  rw [e 0 (by omega), e 1 (by omega), e 2 (by omega), e 3 (by omega), e 4 (by omega), e 5 (by omega)]
  exact h
end CG
theorem qS_mono {N : Nat} : ∀ {x y : Nat}, x ≤ y → qS N x ≤ qS N y
  | x, 0, h => by rw [show x = 0 by omega]; exact Nat.le_refl _
  | x, y + 1, h => by
    by_cases c : x = y + 1
    · rw [c]; exact Nat.le_refl _
    · have := qS_mono (N := N) (x := x) (y := y) (by omega)
      have e : qS N (y + 1) = qS N y + (3 * N + 7) := rfl
      omega
theorem qO_mono {N : Nat} : ∀ {x y : Nat}, x ≤ y → qO N x ≤ qO N y
  | x, 0, h => by rw [show x = 0 by omega]; exact Nat.le_refl _
  | x, y + 1, h => by
    by_cases c : x = y + 1
    · rw [c]; exact Nat.le_refl _
    · have := qO_mono (N := N) (x := x) (y := y) (by omega)
      have e : qO N (y + 1) = qO N y + (3 * N + 3) := rfl
      omega
/-- states, outputs as far as they are put -/
def Sts (ch : Nat → Int) (N n : Nat) : Prop := ∀ x, x < n → StT ch N (qS N x)
def Ots (ch : Nat → Int) (N n : Nat) : Prop := ∀ x, x < n → OuT ch N (qO N x)
theorem Sts.keep {ch ch' : Nat → Int} {N n L : Nat} (h : Sts ch N n) (hL : qS N n ≤ L) (e : ∀ i, i < L → ch' i = ch i) : Sts ch' N n := fun x hx => (h x hx).keep (by have := qS_mono (N := N) (x := x + 1) (y := n) hx; have e : qS N (x + 1) = qS N x + (3 * N + 7) := rfl; omega) e
theorem Ots.keep {ch ch' : Nat → Int} {N n L : Nat} (h : Ots ch N n) (hL : qO N n ≤ L) (e : ∀ i, i < L → ch' i = ch i) : Ots ch' N n := fun x hx => (h x hx).keep (by have := qO_mono (N := N) (x := x + 1) (y := n) hx; have e : qO N (x + 1) = qO N x + (3 * N + 3) := rfl; omega) e
/-- the text under way -/
def Tw (M0 W0 M V : wM) (L : Nat) : Prop := TxB (M 27) L ∧ TxB (V 27) L ∧ (∀ i, i < L → V 27 1 i = M 27 1 i) ∧ (∀ a, a ≠ 2 → a ≠ 20 → a ≠ 27 → M a = M0 a) ∧ (∀ a, a ≠ 27 → V a = W0 a) ∧ FM (M 2)
section TW
variable {M0 W0 M V M1 : wM} {L : Nat} {x v : Int}
theorem ap_at : apM M L x 27 1 L = x := by
  unfold apM
  rw [wu_ne (by omega), wu_eq]
  exact if_pos rfl
theorem ap_ne {i : Nat} (h : i ≠ L) : apM M L x 27 1 i = M 27 1 i := by
  unfold apM
  rw [wu_ne (by omega), wu_eq]
  exact if_neg h
theorem ap_o {a : Nat} (h : a ≠ 27) : apM M L x a = M a := by
  unfold apM
  rw [wu_o h, wu_o h]
theorem ap3_ne {i : Nat} (h : i < L) : ap3 M L v 27 1 i = M 27 1 i := by
  unfold ap3
  rw [ap_ne (by omega), ap_ne (by omega), ap_ne (by omega)]
theorem Tw.put (h : Tw M0 W0 M V L) (hL : L < 200) (hx : 0 ≤ x ∧ x ≤ 255) : Tw M0 W0 (apM M L x) (apM V L x) (L + 1) := by
  obtain ⟨h1, h2, h3, h4, h5, h6⟩ := h
  refine ⟨apM_tx h1 hL hx, apM_tx h2 hL hx, fun i hi => ?_, fun a a1 a2 a3 => by rw [ap_o a3]; exact h4 a a1 a2 a3, fun a a1 => by rw [ap_o a1]; exact h5 a a1, by rw [ap_o (by decide)]; exact h6⟩
  by_cases c : i = L
  · rw [c, ap_at, ap_at]
  · rw [ap_ne c, ap_ne c]; exact h3 i (by omega)
theorem ap3_num (hv : -99 ≤ v ∧ v ≤ 99) : NumT (ap3 M L v 27 1) L v := by
  unfold ap3
  refine ⟨hv, ?_, ?_, ?_⟩
  · rw [ap_ne (by omega), ap_ne (by omega), ap_at]
  · rw [ap_ne (by omega), ap_at]
  · show apM _ (L + 1 + 1) _ 27 1 (L + 1 + 1) = _
    rw [ap_at]
theorem Tw.put3 (h : Tw M0 W0 M V L) (hL : L + 2 < 200) (hv : -99 ≤ v ∧ v ≤ 99) : Tw M0 W0 (ap3 M L v) (ap3 V L v) (L + 3) := by
  have hb := absI_bd hv
  have d := tdn (a := absI v) (b := 10) hb.1 (by decide)
  have m := tmn (a := absI v) (b := 10) hb.1 (by decide)
  have hs : sgc v = 45 ∨ sgc v = 43 := by
    unfold sgc
    by_cases c : v < 0
    · rw [if_pos c]; exact Or.inl rfl
    · rw [if_neg c]; exact Or.inr rfl
  exact ((h.put (x := sgc v) (by omega) (by omega)).put (x := 48 + (absI v).tdiv 10) (by omega) (by omega)).put (x := 48 + (absI v).tmod 10) (by omega) (by omega)
theorem Tw.pos (h : Tw M0 W0 M V L) {s : pS} (h1 : TxOk (M1 27) L s) (h2 : ∀ a, a ≠ 2 → a ≠ 20 → a ≠ 27 → M1 a = M a) (h3 : M1 27 1 = M 27 1) (h4 : ∀ b x, ¬ (b = 0 ∧ (x = 7 ∨ x = 8)) → ¬ (6 ≤ b ∧ b < 10) → M1 2 b x = M 2 b x) : Tw M0 W0 M1 V L :=
  ⟨⟨h1.1, h1.2.1, h1.2.2.2.2.2⟩, h.2.1, fun i hi => by rw [h3]; exact h.2.2.1 i hi, fun a a1 a2 a3 => (h2 a a1 a2 a3).trans (h.2.2.2.1 a a1 a2 a3), h.2.2.2.2.1, h.2.2.2.2.2.keep h4⟩
end TW
/-- what a load leaves -/
def LdP (L : Nat) (M M1 : wM) : Prop := ∃ M2 : wM, (TxOk (M2 27) L (rdE (M 27 1) L).1 ∧ (∀ a, a ≠ 2 → a ≠ 20 → a ≠ 27 → M2 a = M a) ∧ M2 27 1 = M 27 1 ∧ (∀ b x, ¬ (b = 0 ∧ (x = 7 ∨ x = 8)) → ¬ (6 ≤ b ∧ b < 10) → M2 2 b x = M 2 b x) ∧ TxF M M2 L (rdN (M 27 1) L) (rdP (M 27 1) L) ((hdB (M 27 1) L (0, 0)).1) ((hdH (M 27 1) L (0, 0)).1) (rdS (M 27 1) L) (rdN (M 27 1) L) (rdP (M 27 1) L) ∧ ∀ x y, x < 4 → y < 3 → M2 2 (6 + x) y = (rdE (M 27 1) L).2 x y) ∧ M1 0 = M2 2 ∧ M1 19 = M2 20 ∧ M1 26 0 2 = 0 ∧ M1 25 2 0 = 0 ∧ M1 25 2 1 = 0 ∧ (M1 26 0 1 = M 26 0 1) ∧ ∀ a, a ≠ 0 → a ≠ 19 → a ≠ 25 → a ≠ 26 → M1 a = M2 a
/-- .. an observer as it may be, at time 0 -/
theorem LdP.lo {M M1 : wM} {L nx : Nat} {T : Int} (h : LdP L M M1) (hf : FM (M 2)) (hr : (rdE (M 27 1) L).1.2 = 0) (hT : 0 ≤ T ∧ T ≤ 1000) (hnx : M 26 0 1 = (nx : Int)) (hx : nx < 14) : Lo (rdN (M 27 1) L) (rdP (M 27 1) L) L nx 0 T M1 ∧ FM (M1 2) ∧ (∀ x, x < 2 → M1 25 2 x = 0) ∧ M1 27 1 = M 27 1 := by
  obtain ⟨M2, ⟨a1, a2, a3, a4, ⟨t1, t2, t3, t4, t5, t6, t7, t8, t9⟩, a6⟩, p3, p4, p5, p6, p7, p8, p9⟩ := h
  obtain ⟨f1, f2⟩ := rdE_f hr
  obtain ⟨n1, m1⟩ := rdS_0 f1
  have n4 := (rd_n (ch := M 27 1) (L := L)).2
  have m3 := (rd_p (ch := M 27 1) (L := L)).2
  have hF : FM (M2 2) := hf.keep a4
  have hb8 : 0 ≤ M2 2 0 8 ∧ M2 2 0 8 ≤ 99 := by rw [t6]; exact pT_bd (by decide)
  have hb7 : 0 ≤ M2 2 0 7 ∧ M2 2 0 7 ≤ 9 := by rw [t7]; exact pD_bd (by decide) (by decide)
  have e27 : M1 27 = M2 27 := p9 27 (by decide) (by decide) (by decide) (by decide)
  have e2 : M1 2 = M2 2 := p9 2 (by decide) (by decide) (by decide) (by decide)
  have hg : ∀ x y, x < 4 → y < 3 → -99 ≤ M2 2 (6 + x) y ∧ M2 2 (6 + x) y ≤ 99 := fun x y hx hy => by rw [a6 x y hx hy]; exact rdE_bd x y
  have hsl : ∀ x, x < 2 → M1 25 2 x = 0 := fun x hx => by
    rcases (show x = 0 ∨ x = 1 by omega) with rfl | rfl
    · exact p6
    · exact p7
  refine ⟨⟨⟨?_, ?_, ?_⟩, ⟨?_, ?_⟩, hT, by rw [p8]; exact hnx, hx, p5, Nat.zero_le _, by rw [e27]; exact ⟨a1.1, a1.2.1, a1.2.2.2.2.2⟩, fun x hx => Or.inl (hsl x hx)⟩, by rw [e2]; exact hF, hsl, by rw [e27]; exact a3⟩
  · rw [p4]
    refine ⟨t4, n1, n4, t5, m1, m3, fun a i ha hi => by rw [(t8 a ha).1 i hi]; exact rowF_bd, fun i hi => by rw [(t8 i hi).2.1]; exact rowF_bd, fun i hi => by rw [(t8 i hi).2.2]; exact rowF_bd, fun k i hk hi => by rw [(t9 k hk).1 i hi]; exact rowF_bd, fun k hk => ?_⟩
    rw [(t9 k hk).2]
    exact ⟨pT_ge (f2 (k + 1) (by omega)), (pT_bd (by decide)).2⟩
  · rw [p3]
    obtain ⟨g1, g2, g3, g4, g5⟩ := hF
    have hT0 := hT.1
    refine ⟨fun i hi => ?_, fun i hi => ?_, fun i hi => ?_, fun i hi => ?_, fun i k hi hk => hg i k (by omega) (by omega), fun k hk => ?_, fun k hk => ?_, hb7, hb8, by omega, by omega, by omega, fun i hi => ?_, fun i hi => ?_⟩
    · have := g1 i (by omega); omega
    · have := g1 i (by omega); omega
    · have := g1 i (by omega); omega
    · have := g1 i (by omega); omega
    · have := g2 k (by omega); omega
    · have := g2 k (by omega); omega
    · have := g1 i (by omega); omega
    · have := g1 i (by omega); omega
  · rw [p3]
    intro i hi
    have := hF.1 i (by omega); omega
  · rw [p3]
    intro i hi
    have := hF.1 i (by omega); omega
  · rw [p3]
    intro k hk q
    have := hF.2.1 k (by omega); omega
/-- two loads of texts alike -/
theorem LdP.al {M M1 V V1 : wM} {L : Nat} (h : LdP L M M1) (h' : LdP L V V1) (hf : FM (M 2)) (hf' : FM (V 2)) (e : ∀ i, i < L → V 27 1 i = M 27 1 i) (eg : (rdE (V 27 1) L).2 = (rdE (M 27 1) L).2) : Al (rdN (M 27 1) L) (rdP (M 27 1) L) M1 V1 := by
  obtain ⟨M2, ⟨-, -, -, a4, ⟨-, -, -, -, -, t6, t7, t8, t9⟩, a6⟩, p3, p4, -⟩ := h
  obtain ⟨V2, ⟨-, -, -, b4, ⟨-, -, -, -, -, u6, u7, u8, u9⟩, b6⟩, r3, r4, -⟩ := h'
  have n4 := (rd_n (ch := M 27 1) (L := L)).2
  have m3 := (rd_p (ch := M 27 1) (L := L)).2
  rw [hdB_cg e] at u6
  rw [hdH_cg e] at u7
  rw [rdN_cg e] at u8 u9
  rw [rdP_cg e] at u9
  have hF : FM (M2 2) := hf.keep a4
  have hF' : FM (V2 2) := hf'.keep b4
  unfold Al
  rw [p3, p4, r3, r4]
  refine ⟨⟨fun i j hi hj => ?_, fun i hi => ⟨?_, ?_⟩, fun k j hk hj => ?_, fun k hk => ?_⟩, fun i hi => ?_, fun i k hi hk => ?_, fun k hk => ?_, ?_, ?_, ?_, ?_, ?_⟩
  · rw [(t8 i hi).1 j hj, (u8 i hi).1 j hj, rdS_cg e, sS_cg e, pC_cg e, rowF_cg e]
  · rw [(t8 i hi).2.1, (u8 i hi).2.1, rdS_cg e, sS_cg e, pC_cg e, rowF_cg e]
  · rw [(t8 i hi).2.2, (u8 i hi).2.2, rdS_cg e, sS_cg e, pC_cg e, rowF_cg e]
  · rw [(t9 k hk).1 j hj, (u9 k hk).1 j hj, rdS_cg e, sS_cg e, sO_cg e, pC_cg e, rowF_cg e]
  · rw [(t9 k hk).2, (u9 k hk).2, rdS_cg e, sS_cg e, sO_cg e, pC_cg e, pI_cg e, pT_cg e]
  · have g1 := hF.1 i (by omega)
    have g2 := hF'.1 i (by omega)
    refine ⟨?_, ?_, ?_, ?_, ?_, ?_⟩ <;> omega
  · rw [a6 i k (by omega) (by omega), b6 i k (by omega) (by omega), eg]
  · have g1 := hF.2.1 k (by omega)
    have g2 := hF'.2.1 k (by omega)
    exact ⟨by omega, by omega⟩
  · rw [t7, u7]
  · rw [t6, u6]
  · rw [hF.2.2.1, hF'.2.2.1]
  · rw [hF.2.2.2.1, hF'.2.2.2.1]
  · rw [hF.2.2.2.2, hF'.2.2.2.2]
/-- ranks of plants equal where it counts -/
theorem pw_cg {N P : Nat} {a b : Nat → Nat → Int} (h : PvE N P a b) {o : Nat} (ho : o < P) : ∀ {t i : Nat}, i < N → pw N a o t i = pw N b o t i
  | 0, i, hi => h.2.2.1 o i ho hi
  | t + 1, i, hi => dot_congr (fun x hx => pw_cg h ho (t := t) hx) (fun x hx => h.1 x i hx hi)
theorem PvE.symm {N P : Nat} {a b : Nat → Nat → Int} (h : PvE N P a b) : PvE N P b a := ⟨fun i j hi hj => (h.1 i j hi hj).symm, fun i hi => ⟨(h.2.1 i hi).1.symm, (h.2.1 i hi).2.symm⟩, fun k j hk hj => (h.2.2.1 k j hk hj).symm, fun k hk => (h.2.2.2 k hk).symm⟩
theorem gp_sub {N P : Nat} {a b : Nat → Nat → Int} (h : PvE N P a b) {k : Nat} : ∀ u, Gp N P a k u → Sp N (Gp N P b k) u := fun u hu => by
  obtain ⟨t, o, ht, ho, rfl⟩ := hu
  exact Sp.congr (Sp.of ⟨t, o, ht, ho, rfl⟩) fun i hi => by rw [pw_cg h ho hi, Int.sub_self]; exact Z0.zero
theorem rank_cg {N P : Nat} {a b : Nat → Nat → Int} (h : PvE N P a b) {k x y : Nat} (hx : RankOf N (Sp N (Gp N P a k)) x) (hy : RankOf N (Sp N (Gp N P b k)) y) : x = y := by
  obtain ⟨f, l, h1, h2⟩ := hy
  exact hx.unique ⟨f, l, h1, fun u => (h2 u).trans (Sp.eqv (gp_sub h.symm) (gp_sub h) u)⟩
/-! a method over both that has the script too -/
def dPs (G1 G2 : wG) (M V : wM) (av : List Value) (b Ls : Nat) (xs : Nat → Int32) : Array Value → State → Prop := fun v U => v = av.toArray ∧ dF G1 G2 M V U.heap ∧ wSt (gA G1 (dA G1 G2)) U ∧ dL G1 G2 ∧ va_X b Ls xs U U.heap ∧ b < U.heap.size ∧ ¬ dA G1 G2 b
theorem dPs_blind {G1 G2 : wG} {M V : wM} {av : List Value} {b Ls : Nat} {xs : Nat → Int32} : FrameBlind (dPs G1 G2 M V av b Ls xs) := fun a U g mk h => ⟨h.1, h.2.1, wSt.same (s := U) (U := U.calling g mk a) rfl rfl h.2.2.1, h.2.2.2.1, va_X.moved (u := U) (U := U.calling g mk a) (Vm.Alike.refl _) h.2.2.2.2.1, h.2.2.2.2.2⟩
section DS
variable {p : Program} {l : Launch} {e : Env} {R : Room} {s : State} {m : MethodId} {args : Array Value} {below : List Frame} {meth : Method} {c : Code} {k n : Nat} {Q : State → Prop} {A : Nat → Prop} {G1 G2 : wG} {M V : wM} {nL : Nat} {own : String} {cc : ByteArray} {pc pc' : Nat} {lc : List (Nat × Value)} {st st0 : List Value}
theorem dMetS {y : MethodName} {ret : Option FieldType} {rm : Room} {av : List Value} {b Ls : Nat} {xs : Nat → Int32} {Qc : Array Value → State → Outcome → State → Prop} {mc ms : Nat} (hy : plainName y.cls = true) (hlen : (lg_sl av).length ≤ nL) (hlc : lv_args 0 av = lc)
    (body : ∀ (p : Program) (e : Env) (s : State) (m : MethodId) (args : Array Value) (below : List Frame) (meth : Method) (c : Code), wX p s m args meth c (gA G1 (dA G1 G2)) nL y.cls cc → dL G1 G2 → meth.sig.returnType = ret → va_X b Ls xs s s.heap → b < s.heap.size → ¬ dA G1 G2 b → eV p l e rm s m args below meth c (dA G1 G2) (dF G1 G2 M V) nL 0 0 (MQ below Qc args s mc ms (dA G1 G2)) 0 lc []) :
    Met l y (gws y cc nL ret) rm (dPs G1 G2 M V av b Ls xs) Qc mc ms (dA G1 G2) := by
  refine Met.ofW (cc := cc) (maxL := nL) (ret := ret) hy rfl ?_
  intro p e s m args below meth c s₁ B hml hv
  obtain ⟨rfl, hW, hSt, hL, hX, hbs, hbA⟩ := hv
  have hts := atoms_spec (ws := gws y cc nL ret) B.pre
  have X : wX p s m av.toArray meth c (gA G1 (dA G1 G2)) nL y.cls cc := ⟨B.exec, B.bytes, hml, findClass_of_methodNamed B.named, fun w hw => hts w (List.mem_cons_of_mem _ hw), hSt, gA_lay hL.1 (fun q h => Or.inl h), trivial, B.notSynchronized⟩
  have hl := lv_entry av (n := nL) hlen
  rw [lg_entry_eq]
  generalize (lg_sl av ++ List.replicate (nL - (lg_sl av).length) Slot.unset).toArray = ls at hl ⊢
  rw [hlc] at hl
  exact body p e s m av.toArray below meth c X hL B.returns hX hbs hbA s.heap [] ls hW va_S.rf hl
theorem e_runDS (X : wX p s m args meth c (gA G1 A) nL own cc) (hL : dL G1 G2) (hN : ∀ q, dA G1 G2 q → A q) {N index maxL mc ms b Ls : Nat} {xs : Nat → Int32} (hX : va_X b Ls xs s s.heap) (hbl : b < s.heap.size) (hbA : ¬ A b) {y : MethodName} {bytes : ByteArray} {ret : Option FieldType} {rm : Room} {As : List Value} {Qc : Array Value → State → Outcome → State → Prop} (hM : Met l y (gws y bytes maxL ret) rm (dPs G1 G2 M V As b Ls xs) Qc mc ms (dA G1 G2)) (hy : wCal y bytes maxL ret N) (hstat : Cond.static y ∈ GW) (hrc : rm.cells = mc) (hrs : rm.slots = ms) (hR : rm.frames + 1 ≤ R.frames ∧ 8 + (maxL + 11) + rm.locals ≤ R.locals) (hn : As.length = N) (hst : st0 = As.reverse ++ st) (hcat : (st.map fun v => v.category).sum ≤ 8) (hf : k + mc ≤ R.cells ∧ n + ms ≤ R.slots) (hlink : Cond.methodLink own index y ∈ GW) (hd : decode cc pc = .ok (.invokestatic index, 3)) :
    ∀ (H : Heap) (locs : List Loc) (ls : Array Slot), dF G1 G2 M V H → va_S A s.heap H locs → ls.size = nL → va_Run p l e R s m args below meth c H locs k n mc ms (F0 m pc ls st0) st (Qc As.toArray) (dA G1 G2) := by
  intro H locs ls hW hS hl
  refine va_runS (As := As) (rest := st) X.fix hM ⟨X.callB hy hlink hrc hrs hR, X.w hstat⟩ ⟨dPs_blind, fun U hU hWm => ⟨rfl, by rw [hU]; exact hW, ?_, hL, ?_, by rw [hU]; exact Nat.lt_of_lt_of_le hbl hS.1, fun q => hbA (hN _ q)⟩⟩ rfl hn hl hst (lv_room hcat) hd hf
  · have h := wSt.warm (G := gA G1 A) (locs := locs) hWm (by rw [hU]; exact hS) X.sta
    exact wSt.narrow (G := gA G1 (dA G1 G2)) (A := A) h hN
  · have h1 : va_X b Ls xs s H := hX.kept (hS.2.1 b hbl hbA)
    rw [hU]
    exact h1.moved hWm.alike
end DS
theorem Tw.to {M0 W0 M V : wM} {L L' : Nat} (h : Tw M0 W0 M V L) (e : L = L') : Tw M0 W0 M V L' := e ▸ h
theorem Sts.to {ch : Nat → Int} {N i j : Nat} (h : Sts ch N i) (e : i = j) : Sts ch N j := e ▸ h
theorem Ots.to {ch : Nat → Int} {N i j : Nat} (h : Ots ch N i) (e : i = j) : Ots ch N j := e ▸ h
theorem Sts.more {ch : Nat → Int} {N i : Nat} (h : Sts ch N i) (h1 : StT ch N (qS N i)) : Sts ch N (i + 1) := fun x hx => by
  by_cases c : x = i
  · rw [c]; exact h1
  · exact h x (by omega)
theorem Ots.more {ch : Nat → Int} {N i : Nat} (h : Ots ch N i) (h1 : OuT ch N (qO N i)) : Ots ch N (i + 1) := fun x hx => by
  by_cases c : x = i
  · rw [c]; exact h1
  · exact h x (by omega)
theorem qS_s {N i : Nat} : qS N (i + 1) = qS N i + (3 * N + 7) := rfl
theorem qO_s {N i : Nat} : qO N (i + 1) = qO N i + (3 * N + 3) := rfl
theorem qSO {N o : Nat} : qS N N ≤ qO N o := qO_mono (N := N) (x := 0) (y := o) (Nat.zero_le _)
theorem Tw.start {M V : wM} {L : Nat} (h1 : TxB (M 27) L) (h2 : TxB (V 27) L) (hf : FM (M 2)) : Tw M V (wu M 27 0 1 0) (wu V 27 0 1 0) 0 := by
  have k : ∀ {M : wM} {L : Nat}, TxB (M 27) L → TxB (wu M 27 0 1 0 27) 0 := by
    intro M L h
    refine ⟨by unfold wu; rw [if_pos ⟨rfl, rfl, rfl⟩]; rfl, Nat.zero_le _, fun i hi => ?_⟩
    rw [wu_ne (by omega)]
    exact h.2.2 i hi
  exact ⟨k h1, k h2, fun i hi => absurd hi (Nat.not_lt_zero i), fun a a1 a2 a3 => wu_o a3, fun a a1 => wu_o a1, by rw [wu_o (by decide)]; exact hf⟩
theorem hd_put {M : wM} {N P B H : Nat} (h : 1 ≤ N ∧ N ≤ 4 ∧ 1 ≤ P ∧ P ≤ 3 ∧ B ≤ 9 ∧ H ≤ 9) : HdT (apM (apM (apM (apM (apM (apM M 0 78) 1 (48 + (N : Int))) 2 (48 + (P : Int))) 3 48) 4 (48 + (B : Int))) 5 (48 + (H : Int)) 27 1) N P B H := by
  refine ⟨h, ?_, ?_, ?_, ?_, ?_, ?_⟩
  · rw [ap_ne (by decide), ap_ne (by decide), ap_ne (by decide), ap_ne (by decide), ap_ne (by decide), ap_at]
  · rw [ap_ne (by decide), ap_ne (by decide), ap_ne (by decide), ap_ne (by decide), ap_at]
  · rw [ap_ne (by decide), ap_ne (by decide), ap_ne (by decide), ap_at]
  · rw [ap_ne (by decide), ap_ne (by decide), ap_at]
  · rw [ap_ne (by decide), ap_at]
  · rw [ap_at]
theorem LdP.gain {L : Nat} {M M1 : wM} (h : LdP L M M1) : M1 0 6 0 = (rdE (M 27 1) L).2 0 0 := by
  obtain ⟨M2, ⟨-, -, -, -, -, a6⟩, p3, -⟩ := h
  rw [p3]
  exact a6 0 0 (by decide) (by decide)
