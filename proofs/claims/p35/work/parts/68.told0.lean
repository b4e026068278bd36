/-! THE TEXT of a system by lot: how it is read -/
theorem rdE_wo {ch : Nat → Int} {L k : Nat} (hk : k ≤ rdP ch L) (h : (sO ch L (rdN ch L) (sS ch L (rdN ch L) (rdS ch L) (rdN ch L)) k).2 = 1) : (rdE ch L).1 = sO ch L (rdN ch L) (sS ch L (rdN ch L) (rdS ch L) (rdN ch L)) k := by
  have e : rdO ch L = sO ch L (rdN ch L) (sS ch L (rdN ch L) (rdS ch L) (rdN ch L)) k := by
    have := sO_1 h (rdP ch L - k)
    rw [show k + (rdP ch L - k) = rdP ch L by omega] at this
    exact this
  unfold rdE
  rw [e, gG_stop (by rw [h]; omega)]
theorem rdE_ws {ch : Nat → Int} {L i : Nat} (hi : i ≤ rdN ch L) (h : (sS ch L (rdN ch L) (rdS ch L) i).2 = 1) : (rdE ch L).1 = sS ch L (rdN ch L) (rdS ch L) i := by
  have e : sS ch L (rdN ch L) (rdS ch L) (rdN ch L) = sS ch L (rdN ch L) (rdS ch L) i := by
    have := sS_1 h (rdN ch L - i)
    rw [show i + (rdN ch L - i) = rdN ch L by omega] at this
    exact this
  have := rdE_wo (ch := ch) (L := L) (k := 0) (Nat.zero_le _) (by show (sS ch L (rdN ch L) (rdS ch L) (rdN ch L)).2 = 1; rw [e]; exact h)
  rw [this]
  exact e
theorem pT_ge {ch : Nat → Int} {L : Nat} {s : pS} (h : (pT ch L 1 s).2.2 = 0) : 1 ≤ (pT ch L 1 s).1 := by
  unfold pT at h ⊢
  dsimp only at h ⊢
  have h1 := pD_bd (ch := ch) (L := L) (a := 0) (b := 9) (s := s) (by decide) (by decide)
  obtain ⟨lo, hlo⟩ : ∃ lo : Int, lo = if (pD ch L 0 9 s).1 = 0 then 1 else 0 := ⟨_, rfl⟩
  rw [← hlo] at h ⊢
  have h2 := (pD_rng (ch := ch) (L := L) (a := lo) (b := 9) (s := (pD ch L 0 9 s).2)).1 h
  have h3 : (pD ch L 0 9 s).1 = 0 → lo = 1 := fun q => by rw [hlo, if_pos q]
  have h4 : (pD ch L 0 9 s).1 ≠ 0 → lo = 0 := fun q => by rw [hlo, if_neg q]
  by_cases c : (pD ch L 0 9 s).1 = 0
  · have := h3 c; omega
  · have := h4 c; omega
theorem gG_bd {ch : Nat → Int} {L N P : Nat} : ∀ (n : Nat) (s : pS) (g : Nat → Nat → Int), (∀ x y, -99 ≤ g x y ∧ g x y ≤ 99) → ∀ x y, -99 ≤ (gG ch L N P n s g).2 x y ∧ (gG ch L N P n s g).2 x y ≤ 99
  | 0, _, _, h => h
  | n + 1, s, g, h => by
    unfold gG
    split
    · refine gG_bd n _ _ fun x y => ?_
      unfold gUp
      split
      · exact pN_bd
      · exact h x y
    · exact h
theorem rdE_bd {ch : Nat → Int} {L : Nat} (x y : Nat) : -99 ≤ (rdE ch L).2 x y ∧ (rdE ch L).2 x y ≤ 99 := gG_bd 200 _ _ (fun _ _ => by decide) x y
theorem rdE_f {ch : Nat → Int} {L : Nat} (h : (rdE ch L).1.2 = 0) : (rdS ch L).2 = 0 ∧ ∀ k, k ≤ rdP ch L → (sO ch L (rdN ch L) (sS ch L (rdN ch L) (rdS ch L) (rdN ch L)) k).2 = 0 := by
  constructor
  · rcases (rdS_ok (ch := ch) (L := L)).2 with q | q
    · exact q
    · have := rdE_ws (ch := ch) (L := L) (i := 0) (Nat.zero_le _) q
      rw [this] at h
      exact h
  · intro k hk
    rcases (sO_ok (N := rdN ch L) (sS_ok (N := rdN ch L) (rdS_ok (ch := ch) (L := L)) (rdN ch L)) k).2 with q | q
    · exact q
    · have := rdE_wo hk q
      rw [this] at h
      exact h
def FM (v : Nat → Nat → Int) : Prop := (∀ i, i < 4 → v 1 i = 0 ∧ v 2 i = -1000 ∧ v 3 i = 1000 ∧ v 4 i = 0 ∧ v 12 i = 0 ∧ v 13 i = 0) ∧ (∀ k, k < 3 → v 10 k = 0 ∧ v 11 k = -1) ∧ v 0 9 = 0 ∧ v 0 10 = 0 ∧ v 0 11 = 0
theorem FM.keep {v v' : Nat → Nat → Int} (h : FM v) (e : ∀ b x, ¬ (b = 0 ∧ (x = 7 ∨ x = 8)) → ¬ (6 ≤ b ∧ b < 10) → v' b x = v b x) : FM v' := by
  obtain ⟨f1, f2, f3, f4, f5⟩ := h
  refine ⟨fun i hi => ?_, fun k hk => ?_, by rw [e 0 9 (by omega) (by omega)]; exact f3, by rw [e 0 10 (by omega) (by omega)]; exact f4, by rw [e 0 11 (by omega) (by omega)]; exact f5⟩
  · rw [e 1 i (by omega) (by omega), e 2 i (by omega) (by omega), e 3 i (by omega) (by omega), e 4 i (by omega) (by omega), e 12 i (by omega) (by omega), e 13 i (by omega) (by omega)]
    exact f1 i hi
  · rw [e 10 k (by omega) (by omega), e 11 k (by omega) (by omega)]
    exact f2 k hk
/-- a number put at place i -/
def NumT (ch : Nat → Int) (i : Nat) (v : Int) : Prop := (-99 ≤ v ∧ v ≤ 99) ∧ ch i = sgc v ∧ ch (i + 1) = 48 + (absI v).tdiv 10 ∧ ch (i + 2) = 48 + (absI v).tmod 10
theorem absI_bd {v : Int} (h : -99 ≤ v ∧ v ≤ 99) : 0 ≤ absI v ∧ absI v ≤ 99 := by unfold absI; split <;> omega
theorem pC_is {ch : Nat → Int} {L i : Nat} {a b : Int} (hi : i < L) (h : a ≤ ch i ∧ ch i ≤ b) : pC ch L a b (i, 0) = (i + 1, 0) := if_pos ⟨rfl, hi, h.1, h.2⟩
theorem pD_is {ch : Nat → Int} {L i : Nat} {a b : Int} (hi : i < L) (h : 48 + a ≤ ch i ∧ ch i ≤ 48 + b) : pD ch L a b (i, 0) = (ch i - 48, (i + 1, 0)) := by
  unfold pD
  rw [pC_is hi h, if_pos rfl]
theorem pT_is {ch : Nat → Int} {L i : Nat} {a : Int} (hi : i + 1 < L) (h1 : 48 ≤ ch i ∧ ch i ≤ 57) (h2 : 48 ≤ ch (i + 1) ∧ ch (i + 1) ≤ 57) (ha : ch i = 48 → 48 + a ≤ ch (i + 1)) : pT ch L a (i, 0) = (10 * (ch i - 48) + (ch (i + 1) - 48), (i + 2, 0)) := by
  unfold pT
  rw [pD_is (a := 0) (b := 9) (by omega) (by omega)]
  dsimp only
  have hl : 48 + (if ch i - 48 = 0 then a else 0) ≤ ch (i + 1) := by
    by_cases c : ch i - 48 = 0
    · rw [if_pos c]; exact ha (by omega)
    · rw [if_neg c]; omega
  rw [pD_is (by omega) ⟨hl, by omega⟩]
theorem pN_is {ch : Nat → Int} {L i : Nat} {v : Int} (hi : i + 2 < L) (h : NumT ch i v) : pN ch L (i, 0) = (v, (i + 3, 0)) := by
  obtain ⟨hv, h1, h2, h3⟩ := h
  have hb := absI_bd hv
  have d := tdn (a := absI v) (b := 10) hb.1 (by decide)
  have m := tmn (a := absI v) (b := 10) hb.1 (by decide)
  have e := Int.tmod_add_tdiv_mul (absI v) 10
  have hz : pZ ch L (i, 0) = sgc v := by
    unfold pZ
    by_cases c : v < 0
    · rw [if_pos ⟨by show i < L; omega, by show ch i = 45; rw [h1]; exact if_pos c⟩]
      exact (if_pos c).symm
    · rw [if_neg (fun q => by have q2 : ch i = 45 := q.2; rw [h1] at q2; unfold sgc at q2; rw [if_neg c] at q2; exact absurd q2 (by decide))]
      exact (if_neg c).symm
  unfold pN
  rw [hz, pC_is (by omega) ⟨Int.le_of_eq h1.symm, Int.le_of_eq h1⟩, pT_is (by omega) (by omega) (by show 48 ≤ ch (i + 2) ∧ ch (i + 2) ≤ 57; omega) (fun _ => by show 48 + 0 ≤ ch (i + 2); omega)]
  dsimp only
  have e2 : 10 * (ch (i + 1) - 48) + (ch (i + 2) - 48) = absI v := by omega
  show ((if sgc v = 45 then -(10 * (ch (i + 1) - 48) + (ch (i + 2) - 48)) else 10 * (ch (i + 1) - 48) + (ch (i + 2) - 48)), (i + 1 + 2, (0 : Int))) = _
  rw [e2]
  unfold sgc absI
  by_cases c : v < 0
  · rw [if_pos c, if_pos c, if_pos rfl, Int.neg_neg]
  · rw [if_neg c, if_neg c, if_neg (by decide)]
def NumOk (ch : Nat → Int) (i : Nat) : Prop := ∃ v, NumT ch i v
theorem pI_is {ch : Nat → Int} {L i : Nat} : ∀ {n : Nat}, i + 3 * n ≤ L → (∀ j, j < n → NumOk ch (i + 3 * j)) → pI ch L n (i, 0) = (i + 3 * n, 0)
  | 0, _, _ => rfl
  | n + 1, hL, h => by
    show (pN ch L (pI ch L n (i, 0))).2 = _
    rw [pI_is (n := n) (by omega) (fun j hj => h j (by omega))]
    obtain ⟨v, hv⟩ := h n (Nat.lt_succ_self n)
    rw [pN_is (by omega) hv]
    rfl
theorem rowF_is {ch : Nat → Int} {L i j : Nat} {v : Int} (hL : i + 3 * j + 2 < L) (h : ∀ x, x < j → NumOk ch (i + 3 * x)) (hv : NumT ch (i + 3 * j) v) : rowF ch L (i, 0) j = v := by
  unfold rowF
  rw [pI_is (by omega) h, pN_is hL hv]
/-- a state's row, an output's, the head -/
def StT (ch : Nat → Int) (N i : Nat) : Prop := ch i = 114 ∧ ∀ j, j < N + 2 → NumOk ch (i + 1 + 3 * j)
def OuT (ch : Nat → Int) (N i : Nat) : Prop := ch i = 111 ∧ (∀ j, j < N → NumOk ch (i + 1 + 3 * j)) ∧ (ch (i + 1 + 3 * N) = 48 ∨ ch (i + 1 + 3 * N) = 49) ∧ 49 ≤ ch (i + 2 + 3 * N) ∧ ch (i + 2 + 3 * N) ≤ 57
def HdT (ch : Nat → Int) (N P B H : Nat) : Prop := (1 ≤ N ∧ N ≤ 4 ∧ 1 ≤ P ∧ P ≤ 3 ∧ B ≤ 9 ∧ H ≤ 9) ∧ ch 0 = 78 ∧ ch 1 = 48 + (N : Int) ∧ ch 2 = 48 + (P : Int) ∧ ch 3 = 48 ∧ ch 4 = 48 + (B : Int) ∧ ch 5 = 48 + (H : Int)
def qS (N : Nat) : Nat → Nat
  | 0 => 6
  | x + 1 => qS N x + (3 * N + 7)
def qO (N : Nat) : Nat → Nat
  | 0 => qS N N
  | x + 1 => qO N x + (3 * N + 3)
theorem qS_bd {N : Nat} (hN : N ≤ 4) : ∀ {x : Nat}, x ≤ 4 → 6 ≤ qS N x ∧ qS N x ≤ 6 + 19 * x
  | 0, _ => by show 6 ≤ 6 ∧ 6 ≤ 6 + 19 * 0; omega
  | x + 1, h => by
    have := qS_bd hN (x := x) (by omega)
    unfold qS
    omega
theorem qO_bd {N : Nat} (hN : N ≤ 4) : ∀ {x : Nat}, x ≤ 3 → 6 ≤ qO N x ∧ qO N x ≤ 82 + 15 * x
  | 0, _ => by
    have := qS_bd hN (x := N) hN
    show 6 ≤ qS N N ∧ qS N N ≤ 82 + 15 * 0
    omega
  | x + 1, h => by
    have := qO_bd hN (x := x) (by omega)
    unfold qO
    omega
theorem hd_is {ch : Nat → Int} {L N P B H : Nat} (h : HdT ch N P B H) (hL : 6 ≤ L) : hdN ch L (0, 0) = ((N : Int), (2, 0)) ∧ hdP ch L (0, 0) = ((P : Int), (3, 0)) ∧ hdB ch L (0, 0) = ((B : Int), (5, 0)) ∧ hdH ch L (0, 0) = ((H : Int), (6, 0)) := by
  obtain ⟨h0, c0, c1, c2, c3, c4, c5⟩ := h
  have e1 : hdN ch L (0, 0) = ((N : Int), (2, 0)) := by
    unfold hdN
    rw [pC_is (by omega) (by omega), pD_is (by omega) (by show 48 + 1 ≤ ch 1 ∧ ch 1 ≤ 48 + 4; omega)]
    show (ch 1 - 48, _) = _
    rw [show ch 1 - 48 = (N : Int) by omega]
  have e2 : hdP ch L (0, 0) = ((P : Int), (3, 0)) := by
    unfold hdP
    rw [e1]
    dsimp only
    rw [pD_is (by omega) (by omega), show ch 2 - 48 = (P : Int) by omega]
  have e3 : hdB ch L (0, 0) = ((B : Int), (5, 0)) := by
    unfold hdB
    rw [e2]
    dsimp only
    rw [pT_is (by omega) (by omega) (by show 48 ≤ ch 4 ∧ ch 4 ≤ 57; omega) (fun _ => by show 48 + 0 ≤ ch 4; omega)]
    show (10 * (ch 3 - 48) + (ch 4 - 48), _) = _
    rw [show 10 * (ch 3 - 48) + (ch 4 - 48) = (B : Int) by omega]
  refine ⟨e1, e2, e3, ?_⟩
  unfold hdH
  rw [e3]
  dsimp only
  rw [pD_is (by omega) (by omega), show ch 5 - 48 = (H : Int) by omega]
theorem rd_is {ch : Nat → Int} {L N P B H : Nat} (h : HdT ch N P B H) (hL : 6 ≤ L) : rdN ch L = N ∧ rdP ch L = P ∧ rdS ch L = (6, 0) := by
  obtain ⟨e1, e2, e3, e4⟩ := hd_is h hL
  unfold rdN rdP rdS
  rw [e1, e2, e4]
  exact ⟨rfl, rfl, rfl⟩
theorem sS_is {ch : Nat → Int} {L N : Nat} : ∀ {i : Nat}, qS N i ≤ L → (∀ x, x < i → StT ch N (qS N x)) → sS ch L N (6, 0) i = (qS N i, 0)
  | 0, _, _ => rfl
  | i + 1, hL, h => by
    have hL2 : qS N i + (3 * N + 7) ≤ L := hL
    show pI ch L (N + 2) (pC ch L 114 114 (sS ch L N (6, 0) i)) = _
    obtain ⟨h1, h2⟩ := h i (Nat.lt_succ_self i)
    rw [sS_is (i := i) (by omega) (fun x hx => h x (by omega)), pC_is (by omega) (by omega), pI_is (by omega) h2]
    show (qS N i + 1 + 3 * (N + 2), (0 : Int)) = (qS N i + (3 * N + 7), 0)
    rw [show qS N i + 1 + 3 * (N + 2) = qS N i + (3 * N + 7) by omega]
theorem sO_is {ch : Nat → Int} {L N : Nat} : ∀ {i : Nat}, qO N i ≤ L → (∀ x, x < i → OuT ch N (qO N x)) → sO ch L N (qS N N, 0) i = (qO N i, 0)
  | 0, _, _ => rfl
  | i + 1, hL, h => by
    have hL2 : qO N i + (3 * N + 3) ≤ L := hL
    show (pT ch L 1 (pI ch L N (pC ch L 111 111 (sO ch L N (qS N N, 0) i)))).2 = _
    obtain ⟨h1, h2, h3, h4⟩ := h i (Nat.lt_succ_self i)
    have e : qO N i + 1 + 3 * N + 1 = qO N i + 2 + 3 * N := by omega
    rw [sO_is (i := i) (by omega) (fun x hx => h x (by omega)), pC_is (by omega) (by omega), pI_is (by omega) h2, pT_is (by omega) (by omega) (by rw [e]; omega) (fun _ => by rw [e]; omega)]
    show (qO N i + 1 + 3 * N + 2, (0 : Int)) = (qO N i + (3 * N + 3), 0)
    rw [show qO N i + 1 + 3 * N + 2 = qO N i + (3 * N + 3) by omega]
/-- a text that ends behind some of its states is wrong at its end -/
theorem rd_part {ch : Nat → Int} {L N P B H i : Nat} (h : HdT ch N P B H) (hi : i < N) (hL : L = qS N i) (hs : ∀ x, x < i → StT ch N (qS N x)) : (rdE ch L).1 = (L, 1) := by
  have hb := qS_bd (N := N) h.1.2.1 (x := i) (by have := h.1.2.1; omega)
  obtain ⟨e1, e2, e3⟩ := rd_is h (L := L) (by omega)
  have e : sS ch L N (6, 0) (i + 1) = (L, 1) := by
    show pI ch L (N + 2) (pC ch L 114 114 (sS ch L N (6, 0) i)) = _
    rw [sS_is (by omega) hs, ← hL, show pC ch L 114 114 (L, 0) = (L, 1) from if_neg (fun q => absurd q.2.1 (Nat.lt_irrefl L)), pI_1 rfl]
  have := rdE_ws (ch := ch) (L := L) (i := i + 1) (by rw [e1]; omega) (by rw [e1, e3, e])
  rw [this, e1, e3, e]
theorem rdO_is {ch : Nat → Int} {L N P B H : Nat} (h : HdT ch N P B H) (hL : qO N P ≤ L) (hs : ∀ x, x < N → StT ch N (qS N x)) (ho : ∀ x, x < P → OuT ch N (qO N x)) : rdO ch L = (qO N P, 0) := by
  have hb := qO_bd (N := N) h.1.2.1 (x := P) h.1.2.2.2.1
  obtain ⟨e1, e2, e3⟩ := rd_is h (L := L) (by omega)
  have hle : ∀ P : Nat, qS N N ≤ qO N P := by
    intro P
    induction P with
    | zero => exact Nat.le_refl _
    | succ n ih => unfold qO; omega
  have := hle P
  unfold rdO
  rw [e1, e2, e3, sS_is (by omega) hs, sO_is hL ho]
/-- a whole text without gains -/
theorem rd_all {ch : Nat → Int} {L N P B H : Nat} (h : HdT ch N P B H) (hL : L = qO N P) (hs : ∀ x, x < N → StT ch N (qS N x)) (ho : ∀ x, x < P → OuT ch N (qO N x)) : (rdE ch L).1 = (L, 0) := by
  unfold rdE
  rw [rdO_is h (by omega) hs ho, gG_stop (fun q => by have := q.2; dsimp only at this; omega), hL]
/-- .. and with one gain -/
theorem rd_gain {ch : Nat → Int} {L N P B H : Nat} {v : Int} (h : HdT ch N P B H) (hL : L = qO N P + 6) (hs : ∀ x, x < N → StT ch N (qS N x)) (ho : ∀ x, x < P → OuT ch N (qO N x)) (g0 : ch (qO N P) = 103) (g1 : ch (qO N P + 1) = 48) (g2 : ch (qO N P + 2) = 48) (g3 : NumT ch (qO N P + 3) v) : (rdE ch L).1 = (L, 0) ∧ (rdE ch L).2 = fun a b => if a = 0 ∧ b = 0 then v else 0 := by
  have hb := qO_bd (N := N) h.1.2.1 (x := P) h.1.2.2.2.1
  obtain ⟨e1, e2, e3⟩ := rd_is h (L := L) (by omega)
  have a1 : gI ch L N (qO N P, 0) = (0, (qO N P + 2, 0)) := by
    unfold gI
    rw [pC_is (by omega) (by omega), pD_is (by omega) (by have := h.1.1; omega), g1]
    rfl
  have a2 : gK ch L N P (qO N P, 0) = (0, (qO N P + 3, 0)) := by
    unfold gK
    rw [a1]
    dsimp only
    rw [pD_is (by omega) (by have := h.1.2.2.1; omega), g2]
    rfl
  have a3 : gV ch L N P (qO N P, 0) = (v, (qO N P + 6, 0)) := by
    unfold gV
    rw [a2]
    dsimp only
    rw [pN_is (by omega) g3]
  have a4 : gG ch L N P 200 (qO N P, 0) (fun _ _ => 0) = ((L, 0), fun a b => if a = 0 ∧ b = 0 then v else 0) := by
    rw [gG_s (n := 199) ⟨rfl, by show qO N P < L; omega⟩, a3, gG_stop (fun q => by have := q.2; dsimp only at this; omega)]
    refine Prod.ext (by show (qO N P + 6, (0 : Int)) = (L, 0); rw [hL]) ?_
    show gUp ch L N P (qO N P, 0) (fun _ _ => 0) = _
    unfold gUp
    rw [a1, a2, a3]
    rfl
  unfold rdE
  rw [e1, e2, rdO_is h (by omega) hs ho, a4]
  exact ⟨rfl, rfl⟩
