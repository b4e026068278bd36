/-! THE REFERENCE'S READER: words -/
theorem RFx.rf {X : Nat → Nat → Prop} {M : wM} : RFx X M M := fun _ _ _ _ => Eq.refl _
theorem RFx_wu {X : Nat → Nat → Prop} {M : wM} {b i : Nat} {v : Int} (h : X b i) : RFx X M (wu M 29 b i v) := fun a b' i' q => by
  unfold wu
  rw [if_neg (fun w => q ⟨w.1, Or.inr (by rw [w.2.1, w.2.2]; exact h)⟩)]
theorem RFx.mono {X Y : Nat → Nat → Prop} {M M1 : wM} (h : RFx X M M1) (hXY : ∀ b i, X b i → (b = 0 ∧ (i = 3 ∨ i = 4)) ∨ Y b i) : RFx Y M M1 := fun a b i q => h a b i (fun w => q ⟨w.1, w.2.elim Or.inl (fun z => hXY b i z)⟩)
theorem RxOk_wu {M : wM} {L ps b i : Nat} {v : Int} (h : RxOk (M 29) L ps) (h1 : ¬ (b = 0 ∧ (i = 2 ∨ i = 3))) (h2 : b ≠ 1) : RxOk (wu M 29 b i v 29) L ps := by
  obtain ⟨a1, a2, a3, a4, a5⟩ := h
  refine ⟨?_, a2, ?_, a4, fun x hx => ?_⟩
  · unfold wu; rw [if_neg (by omega)]; exact a1
  · unfold wu; rw [if_neg (by omega)]; exact a3
  · unfold wu; rw [if_neg (by omega)]; exact a5 x hx
theorem RFx.ok {X : Nat → Nat → Prop} {M M1 : wM} {L ps ps' : Nat} (h : RFx X M M1) (hx : RxOk (M 29) L ps) (h3 : M1 29 0 3 = ps') (hp : ps' ≤ L) (hX2 : ¬ X 0 2) (hX1 : ∀ i, ¬ X 1 i) : RxOk (M1 29) L ps' := by
  obtain ⟨a, b, c, d, e⟩ := hx
  refine ⟨?_, b, h3, hp, fun i hi => ?_⟩
  · rw [h 29 0 2 (fun q => by rcases q.2 with z | z; omega; exact hX2 z)]; exact a
  · rw [h 29 1 i (fun q => by rcases q.2 with z | z; omega; exact hX1 i z)]; exact e i hi
theorem hdP_w {ch : Nat → Int} {L : Nat} {s : pS} (h : (hdN ch L s).2.2 = 1) : hdP ch L s = (0, (hdN ch L s).2) := pD_1 h
theorem hdB_w {ch : Nat → Int} {L : Nat} {s : pS} (h : (hdP ch L s).2.2 = 1) : hdB ch L s = (0, (hdP ch L s).2) := pT_1 h
theorem hdH_w {ch : Nat → Int} {L : Nat} {s : pS} (h : (hdB ch L s).2.2 = 1) : hdH ch L s = (0, (hdB ch L s).2) := pD_1 h
theorem rdS_w4 {ch : Nat → Int} {L : Nat} (h : (hdB ch L (0, 0)).2.2 = 1) : rdS ch L = (hdB ch L (0, 0)).2 := by unfold rdS; rw [hdH_w h]
theorem rdS_w3 {ch : Nat → Int} {L : Nat} (h : (hdP ch L (0, 0)).2.2 = 1) : rdS ch L = (hdP ch L (0, 0)).2 := by
  have e := hdB_w h
  rw [rdS_w4 (by rw [e]; exact h), e]
theorem rdS_w2 {ch : Nat → Int} {L : Nat} (h : (hdN ch L (0, 0)).2.2 = 1) : rdS ch L = (hdN ch L (0, 0)).2 := by
  have e := hdP_w h
  rw [rdS_w3 (by rw [e]; exact h), e]
theorem rdS_w1 {ch : Nat → Int} {L : Nat} (h : (pC ch L 78 78 (0, 0)).2 = 1) : rdS ch L = pC ch L 78 78 (0, 0) := by
  have e : hdN ch L (0, 0) = (0, pC ch L 78 78 (0, 0)) := pD_1 h
  rw [rdS_w2 (by rw [e]; exact h), e]
theorem pD_adv {ch : Nat → Int} {L : Nat} {a b : Int} {s : pS} (h : (pD ch L a b s).2.2 = 0) : (pD ch L a b s).2.1 = s.1 + 1 := (pC_0 h).2.2.2
theorem pT_adv {ch : Nat → Int} {L : Nat} {a : Int} {s : pS} (h : (pT ch L a s).2.2 = 0) : (pT ch L a s).2.1 = s.1 + 2 := by
  have h1 := pD_adv (show (pD ch L (if (pD ch L 0 9 s).1 = 0 then a else 0) 9 (pD ch L 0 9 s).2).2.2 = 0 from h)
  have h2 := pD_adv (show (pD ch L 0 9 s).2.2 = 0 from pD_0 h)
  show (pD ch L (if (pD ch L 0 9 s).1 = 0 then a else 0) 9 (pD ch L 0 9 s).2).2.1 = _
  omega
theorem pN_adv {ch : Nat → Int} {L : Nat} {s : pS} (h : (pN ch L s).2.2 = 0) : (pN ch L s).2.1 = s.1 + 3 := by
  have h1 := pT_adv (show (pT ch L 0 (pC ch L (pZ ch L s) (pZ ch L s) s)).2.2 = 0 from h)
  have h2 := pC_0 (pT_0 (show (pT ch L 0 (pC ch L (pZ ch L s) (pZ ch L s) s)).2.2 = 0 from h))
  show (pT ch L 0 (pC ch L (pZ ch L s) (pZ ch L s) s)).2.1 = _
  omega
theorem pN_0 {ch : Nat → Int} {L : Nat} {s : pS} (h : (pN ch L s).2.2 = 0) : s.2 = 0 := (pC_0 (pT_0 (show (pT ch L 0 (pC ch L (pZ ch L s) (pZ ch L s) s)).2.2 = 0 from h))).1
theorem gV_adv {ch : Nat → Int} {L N P : Nat} {s : pS} (h : (gV ch L N P s).2.2 = 0) : (gV ch L N P s).2.1 = s.1 + 6 := by
  have h1 := pN_adv h
  have h2 := pN_0 h
  have h3 := pD_adv (show (pD ch L 0 ((P : Int) - 1) (gI ch L N s).2).2.2 = 0 from h2)
  have h4 := pD_0 (show (pD ch L 0 ((P : Int) - 1) (gI ch L N s).2).2.2 = 0 from h2)
  have h5 := pD_adv (show (pD ch L 0 ((N : Int) - 1) (pC ch L 103 103 s)).2.2 = 0 from h4)
  have h6 := pC_0 (pD_0 (show (pD ch L 0 ((N : Int) - 1) (pC ch L 103 103 s)).2.2 = 0 from h4))
  have e1 : (gK ch L N P s).2.1 = (pD ch L 0 ((P : Int) - 1) (gI ch L N s).2).2.1 := rfl
  have e2 : (gI ch L N s).2.1 = (pD ch L 0 ((N : Int) - 1) (pC ch L 103 103 s)).2.1 := rfl
  have e3 : (gV ch L N P s).2.1 = (pN ch L (gK ch L N P s).2).2.1 := rfl
  omega
theorem gI_w {ch : Nat → Int} {L N : Nat} {s : pS} (h : (pC ch L 103 103 s).2 = 1) : gI ch L N s = (0, pC ch L 103 103 s) := pD_1 h
theorem gK_w {ch : Nat → Int} {L N P : Nat} {s : pS} (h : (gI ch L N s).2.2 = 1) : gK ch L N P s = (0, (gI ch L N s).2) := pD_1 h
theorem gV_w {ch : Nat → Int} {L N P : Nat} {s : pS} (h : (gK ch L N P s).2.2 = 1) : gV ch L N P s = (0, (gK ch L N P s).2) := pN_1 h
theorem gV_w2 {ch : Nat → Int} {L N P : Nat} {s : pS} (h : (gI ch L N s).2.2 = 1) : (gV ch L N P s).2 = (gI ch L N s).2 := by
  have e := gK_w (P := P) h
  rw [gV_w (by rw [e]; exact h), e]
theorem gV_w1 {ch : Nat → Int} {L N P : Nat} {s : pS} (h : (pC ch L 103 103 s).2 = 1) : (gV ch L N P s).2 = pC ch L 103 103 s := by
  have e := gI_w (N := N) h
  rw [gV_w2 (by rw [e]; exact h), e]
/-- a text read right: what the reference's reader holds then, behind i states and k outputs -/
def RdF (v : Nat → Nat → Int) (ch : Nat → Int) (L : Nat) (i k : Nat) : Prop :=
  v 0 12 = rdN ch L ∧ v 0 13 = rdP ch L ∧ v 12 29 = (hdB ch L (0, 0)).1 ∧ v 12 28 = (hdH ch L (0, 0)).1 ∧
  (∀ x, x < i → (∀ j, j < rdN ch L → v 7 (4 * x + j) = rowF ch L (pC ch L 114 114 (sS ch L (rdN ch L) (rdS ch L) x)) j) ∧ v 8 x = rowF ch L (pC ch L 114 114 (sS ch L (rdN ch L) (rdS ch L) x)) (rdN ch L) ∧ v 9 x = rowF ch L (pC ch L 114 114 (sS ch L (rdN ch L) (rdS ch L) x)) (rdN ch L + 1)) ∧
  (∀ x, x < k → (∀ j, j < rdN ch L → v 10 (4 * x + j) = rowF ch L (pC ch L 111 111 (sO ch L (rdN ch L) (sS ch L (rdN ch L) (rdS ch L) (rdN ch L)) x)) j) ∧ v 11 x = (pT ch L 1 (pI ch L (rdN ch L) (pC ch L 111 111 (sO ch L (rdN ch L) (sS ch L (rdN ch L) (rdS ch L) (rdN ch L)) x)))).1) ∧
  (∀ x j, x < 4 → rdN ch L ≤ j → j < 4 → v 7 (4 * x + j) = 0) ∧ (∀ x j, x < 3 → rdN ch L ≤ j → j < 4 → v 10 (4 * x + j) = 0)
/-- .. and the row: gains g, the rest as at first -/
def RdG (r : Nat → Int) (g : Nat → Nat → Int) : Prop := (∀ x y, x < 4 → y < 3 → r (16 + 3 * x + y) = g x y) ∧ ∀ i, i < 48 → ¬ (16 ≤ i ∧ i < 30) → r i = layF i
