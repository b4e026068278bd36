/-! SOUNDNESS: the true values stay within -/
/-- a combination without the state 'but' -/
def dx : Nat → (Nat → Int) → (Nat → Int) → Int → Int
  | 0, _, _, _ => 0
  | n + 1, f, x, but => dx n f x but + if (n : Int) = but then 0 else f n * x n
theorem dx_no {f x : Nat → Int} {but : Int} : ∀ {n : Nat}, (∀ i : Nat, i < n → (i : Int) ≠ but) → dx n f x but = dot n f x
  | 0, _ => rfl
  | n + 1, h => by
    unfold dx dot
    rw [dx_no (fun i hi => h i (by omega)), if_neg (h n (by omega))]
theorem dx_at {f x : Nat → Int} {j : Nat} : ∀ {n : Nat}, j < n → dot n f x = dx n f x j + f j * x j
  | 0, h => absurd h (Nat.not_lt_zero j)
  | n + 1, h => by
    unfold dx dot
    by_cases e : n = j
    · subst e
      rw [if_pos rfl, dx_no (fun i hi => by omega)]
      omega
    · rw [if_neg (by omega), dx_at (f := f) (x := x) (show j < n by omega)]
      omega
theorem mul_in {f a b x : Int} (h : a ≤ x ∧ x ≤ b) : (0 < f → f * a ≤ f * x ∧ f * x ≤ f * b) ∧ (¬ 0 < f → f * b ≤ f * x ∧ f * x ≤ f * a) := by
  constructor
  · intro hf
    exact ⟨Int.mul_le_mul_of_nonneg_left h.1 (by omega), Int.mul_le_mul_of_nonneg_left h.2 (by omega)⟩
  · intro hf
    have h1 := Int.mul_le_mul_of_nonneg_left h.1 (show (0 : Int) ≤ -f by omega)
    have h2 := Int.mul_le_mul_of_nonneg_left h.2 (show (0 : Int) ≤ -f by omega)
    rw [Int.neg_mul, Int.neg_mul] at h1 h2
    omega
theorem ext_in {f lo hi x : Nat → Int} {but : Int} : ∀ {n : Nat}, (∀ i, i < n → lo i ≤ x i ∧ x i ≤ hi i) → ext n f lo hi but 0 ≤ dx n f x but ∧ dx n f x but ≤ ext n f lo hi but 1
  | 0, _ => ⟨Int.le_refl 0, Int.le_refl 0⟩
  | n + 1, h => by
    have h1 := ext_in (but := but) (f := f) (n := n) (fun i hi => h i (by omega))
    have h2 := mul_in (f := f n) (h n (by omega))
    unfold ext dx
    by_cases e : (n : Int) = but
    · rw [if_pos e, if_pos e, if_pos e]
      omega
    · rw [if_neg e, if_neg e, if_neg e]
      by_cases c : 0 < f n
      · rw [if_neg (show ¬ (0 < f n ↔ (0 : Int) = 1) by omega), if_pos (show (0 < f n ↔ (1 : Int) = 1) by omega)]
        have := h2.1 c
        omega
      · rw [if_pos (show (0 < f n ↔ (0 : Int) = 1) by omega), if_neg (show ¬ (0 < f n ↔ (1 : Int) = 1) by omega)]
        have := h2.2 c
        omega
theorem fdiv_mono {a b c : Int} (hc : 0 < c) (h : a ≤ b) : a.fdiv c ≤ b.fdiv c := by
  rw [Int.fdiv_eq_ediv_of_nonneg _ (by omega), Int.fdiv_eq_ediv_of_nonneg _ (by omega)]
  exact Int.ediv_le_ediv hc h
theorem le_fdiv {x a c : Int} (hc : 0 < c) : x ≤ a.fdiv c ↔ x * c ≤ a := by
  rw [Int.fdiv_eq_ediv_of_nonneg _ (by omega)]
  exact Int.le_ediv_iff_mul_le hc
theorem le_fdiv_neg {x a c : Int} (hc : c < 0) : x ≤ a.fdiv c ↔ a ≤ x * c := by
  rw [← Int.neg_fdiv_neg, le_fdiv (by omega), Int.mul_neg]
  omega
/-- what a fresh output says of a combination -/
def says (N : Nat) (f : Nat → Int) (q y : Int) (x : Nat → Int) : Prop := q * y ≤ dot N f x ∧ dot N f x ≤ q * y + q - 1
theorem says_of {N : Nat} {f x : Nat → Int} {q y : Int} (hq : 0 < q) (h : (dot N f x).fdiv q = y) : says N f q y x := by
  rw [Int.fdiv_eq_ediv_of_nonneg _ (by omega)] at h
  have h1 := Int.emod_nonneg (dot N f x) (show q ≠ 0 by omega)
  have h2 := Int.emod_lt_of_pos (dot N f x) hq
  have h3 := Int.emod_add_mul_ediv (dot N f x) q
  rw [h] at h3
  exact ⟨by omega, by omega⟩
theorem cut_in {c first last x : Int} (hc : c ≠ 0) (h : first ≤ c * x ∧ c * x ≤ last) : cutLo c first last ≤ x ∧ x ≤ cutHi c first last := by
  unfold cutLo cutHi
  by_cases p : 0 < c
  · rw [if_pos p, if_pos p]
    have h1 : -x ≤ (-first).fdiv c := (le_fdiv p).mpr (by rw [Int.neg_mul, Int.mul_comm x c]; omega)
    have h2 : x ≤ last.fdiv c := (le_fdiv p).mpr (by rw [Int.mul_comm x c]; omega)
    omega
  · rw [if_neg p, if_neg p]
    have hn : c < 0 := by omega
    have h1 : -x ≤ (-last).fdiv c := (le_fdiv_neg hn).mpr (by rw [Int.neg_mul, Int.mul_comm x c]; omega)
    have h2 : x ≤ first.fdiv c := (le_fdiv_neg hn).mpr (by rw [Int.mul_comm x c]; omega)
    omega
def Inn (N : Nat) (lo hi x : Nat → Int) : Prop := ∀ i, i < N → lo i ≤ x i ∧ x i ≤ hi i
theorem cut1_in {N : Nat} {f x : Nat → Int} {q y : Int} {j : Nat} {s : tS} (hj : j < N) (hs : says N f q y x) (h2 : s.1 ≠ 2) (h : Inn N s.2.1 s.2.2 x) : (cut1 N f q y j s).1 ≠ 2 ∧ Inn N (cut1 N f q y j s).2.1 (cut1 N f q y j s).2.2 x := by
  unfold cut1
  rw [if_neg h2]
  by_cases c0 : f j = 0
  · rw [if_pos c0]
    exact ⟨h2, h⟩
  · rw [if_neg c0]
    have e := ext_in (f := f) (but := (j : Int)) h
    have d := dx_at (f := f) (x := x) hj
    have hx := h j hj
    have hc := cut_in (c := f j) (x := x j) (first := q * y - ext N f s.2.1 s.2.2 j 1) (last := q * y + q - 1 - ext N f s.2.1 s.2.2 j 0) c0 (by obtain ⟨a, b⟩ := hs; omega)
    have hA : cutA N f q y j s.2.1 s.2.2 ≤ x j := by unfold cutA; omega
    have hB : x j ≤ cutB N f q y j s.2.1 s.2.2 := by unfold cutB; omega
    rw [if_neg (by omega)]
    by_cases c4 : cutA N f q y j s.2.1 s.2.2 = s.2.1 j ∧ cutB N f q y j s.2.1 s.2.2 = s.2.2 j
    · rw [if_pos c4]
      exact ⟨h2, h⟩
    · rw [if_neg c4]
      refine ⟨show (1 : Int) ≠ 2 by decide, fun i hi => ?_⟩
      show up1 _ _ _ i ≤ x i ∧ x i ≤ up1 _ _ _ i
      unfold up1
      by_cases e : i = j
      · subst e
        rw [if_pos rfl, if_pos rfl]
        exact ⟨hA, hB⟩
      · rw [if_neg e, if_neg e]
        exact h i hi
theorem passRow_in {N : Nat} {f x : Nat → Int} {q y : Int} (hs : says N f q y x) : ∀ {j : Nat} {s : tS}, j ≤ N → s.1 ≠ 2 → Inn N s.2.1 s.2.2 x → (passRow N f q y j s).1 ≠ 2 ∧ Inn N (passRow N f q y j s).2.1 (passRow N f q y j s).2.2 x
  | 0, _, _, h2, h => ⟨h2, h⟩
  | j + 1, s, hj, h2, h => by
    have := passRow_in hs (j := j) (s := s) (by omega) h2 h
    exact cut1_in (by omega) hs this.1 this.2
def saysAll (N P : Nat) (pv : Nat → Nat → Int) (y age x : Nat → Int) : Prop := ∀ k, k < P → age k = 0 → says N (pv (9 + k)) (pv 12 k) (y k) x
theorem passK_in {N P : Nat} {pv : Nat → Nat → Int} {y age x : Nat → Int} (hs : saysAll N P pv y age x) : ∀ {k : Nat} {s : tS}, k ≤ P → s.1 ≠ 2 → Inn N s.2.1 s.2.2 x → (passK N pv y age k s).1 ≠ 2 ∧ Inn N (passK N pv y age k s).2.1 (passK N pv y age k s).2.2 x
  | 0, _, _, h2, h => ⟨h2, h⟩
  | k + 1, s, hk, h2, h => by
    have h1 := passK_in hs (k := k) (s := s) (by omega) h2 h
    unfold passK
    by_cases c : age k = 0
    · rw [if_pos c]
      exact passRow_in (hs k (by omega) c) (Nat.le_refl N) h1.1 h1.2
    · rw [if_neg c]
      exact h1
theorem tight_in {N P : Nat} {pv : Nat → Nat → Int} {y age x : Nat → Int} (hs : saysAll N P pv y age x) : ∀ {n : Nat} {lo hi : Nat → Int}, Inn N lo hi x → (tight N P pv y age n lo hi).1 ≠ 2 ∧ Inn N (tight N P pv y age n lo hi).2.1 (tight N P pv y age n lo hi).2.2 x
  | 0, _, _, h => ⟨show (1 : Int) ≠ 2 by decide, h⟩
  | n + 1, lo, hi, h => by
    have h1 := passK_in hs (s := (0, lo, hi)) (Nat.le_refl P) (show (0 : Int) ≠ 2 by decide) h
    unfold tight
    by_cases c : (passK N pv y age P (0, lo, hi)).1 = 1
    · rw [if_pos c]
      exact tight_in hs h1.2
    · rw [if_neg c]
      exact h1
/-- the true values of a moment within what is known -/
def TrOk (v : Nat → Nat → Int) (N P : Nat) (pv : Nat → Nat → Int) : Prop := Inn N (v 2) (v 3) (v 1) ∧ meets N P pv (v 1) (v 10) (v 11)
theorem TrOk.says {v : Nat → Nat → Int} {N P : Nat} {pv : Nat → Nat → Int} (hp : PlOk pv N P) (h : TrOk v N P pv) : saysAll N P pv (v 10) (v 11) (v 1) := by
  obtain ⟨hN, hN1, hN4, hP, hP1, hP3, hA, hB, hE, hC, hQ⟩ := hp
  intro k hk ha
  have := hQ k hk
  exact says_of (by omega) (h.2 k hk ha)
theorem lim_mono {a b m : Int} (hm : 0 ≤ m) (h : a ≤ b) : lim a m ≤ lim b m := by
  unfold lim
  split <;> split <;> (try split) <;> (try split) <;> omega
theorem lim_le {a m : Int} (hm : 0 ≤ m) : -m ≤ lim a m ∧ lim a m ≤ m := lim_bd hm
theorem end_in {N : Nat} {pv : Nat → Nat → Int} {lo hi x : Nat → Int} (h : Inn N lo hi x) (i : Nat) : endF N pv lo hi 0 i ≤ (dot N (pv (2 + i)) x).fdiv 16 ∧ (dot N (pv (2 + i)) x).fdiv 16 ≤ endF N pv lo hi 1 i := by
  have h1 := ext_in (f := pv (2 + i)) (but := -1) h
  rw [dx_no (fun i _ => by omega)] at h1
  exact ⟨fdiv_mono (by decide) h1.1, fdiv_mono (by decide) h1.2⟩
theorem abs_mul {e d B : Int} (h : -B ≤ d ∧ d ≤ B) : -((e.natAbs : Int) * B) ≤ e * d ∧ e * d ≤ (e.natAbs : Int) * B := mul_bd (by omega) (by omega) h
theorem step_in {N : Nat} {pv : Nat → Nat → Int} {lo hi x : Nat → Int} {u d B : Int} (h : Inn N lo hi x) (hd : -B ≤ d ∧ d ≤ B) (i : Nat) : lowF N pv u B lo hi i ≤ truthF N pv u d x i ∧ truthF N pv u d x i ≤ uppF N pv u B lo hi i := by
  have h1 := end_in (pv := pv) h i
  have h2 := abs_mul (e := pv 7 i) hd
  exact ⟨lim_mono (by decide) (by omega), lim_mono (by decide) (by omega)⟩
theorem step_box {N : Nat} {pv : Nat → Nat → Int} {lo hi : Nat → Int} {u B : Int} (h : ∀ i, i < N → lo i ≤ hi i) (hB : 0 ≤ B) (i : Nat) : -1000000 ≤ lowF N pv u B lo hi i ∧ lowF N pv u B lo hi i ≤ uppF N pv u B lo hi i ∧ uppF N pv u B lo hi i ≤ 1000000 := by
  have h1 := step_in (pv := pv) (u := u) (d := 0) (B := B) (lo := lo) (hi := hi) (x := lo) (fun i hi => ⟨Int.le_refl _, h i hi⟩) (by omega) i
  have h2 : -1000000 ≤ lowF N pv u B lo hi i := (lim_le (by decide)).1
  have h3 : uppF N pv u B lo hi i ≤ 1000000 := (lim_le (by decide)).2
  omega
theorem endF_bd {N P : Nat} {pv : Nat → Nat → Int} {lo hi : Nat → Int} {gr : Int} (hp : PlOk pv N P) (h1 : ∀ i, i < N → -1000000 ≤ lo i ∧ lo i ≤ 1000000) (h2 : ∀ i, i < N → -1000000 ≤ hi i ∧ hi i ≤ 1000000) {i : Nat} (hi' : i < N) : -30000000 ≤ endF N pv lo hi gr i ∧ endF N pv lo hi gr i ≤ 30000000 := by
  obtain ⟨hN, hN1, hN4, hP, hP1, hP3, hA, hB, hE, hC, hQ⟩ := hp
  have h := ext_bd (n := N) (f := pv (2 + i)) (lo := lo) (hi := hi) (but := -1) (gr := gr) (A := 99) (B := 1000000) (by decide) (by decide) (fun j hj => hA i j hi' hj) h1 h2
  unfold endF
  rw [Int.fdiv_eq_ediv_of_nonneg _ (by decide)]
  omega
/-- a step keeps a moment's numbers as they may be -/
theorem StepV.ok {N P : Nat} {pv v w : Nat → Nat → Int} {u d T : Int} (hp : PlOk pv N P) (hm : MoOk v N P T) (hb : BoxOk N (v 2) (v 3)) (h : StepV N P pv v w u d) (hu : -99 ≤ u ∧ u ≤ 99) : MoOk w N P (T + 1) ∧ BoxOk N (w 2) (w 3) := by
  obtain ⟨hT, hL, hU, hS, hG, hY, hAg, hHo, hBo, hTi, hLi, hLb, hLl, hLh⟩ := hm
  obtain ⟨s1, s2, s4, s11, sg, s10, s7, s8, s9, s0, s0b⟩ := h
  have hbx : BoxOk N (w 2) (w 3) := fun i hi => by
    have a := s2 i hi
    rw [a.2.2.1, a.2.2.2]
    exact step_box (fun i hi => (hb i hi).2.1) hBo.1 i
  refine ⟨⟨fun i hi => by rw [s1 i hi]; exact lim_le (by decide), fun i hi => by have := hbx i hi; omega, fun i hi => by have := hbx i hi; omega, fun i hi => by rw [s4 i hi]; exact lim_le (by decide), fun i k hi hk => by rw [sg i k hi hk]; exact hG i k hi hk, fun k hk => by rw [s10 k hk]; exact hY k hk, fun k hk => ?_, by rw [s7]; exact hHo, by rw [s8]; exact hBo, by rw [s9]; omega, by rw [s0]; omega, by rw [s0b]; exact hBo, fun i hi => ?_, fun i hi => ?_⟩, hbx⟩
  · rw [s11 k hk]
    have := hAg k hk
    split <;> omega
  · rw [(s2 i hi).1]
    exact endF_bd hp hL hU hi
  · rw [(s2 i hi).2.1]
    exact endF_bd hp hL hU hi
theorem StepV.tr {N P : Nat} {pv v w : Nat → Nat → Int} {u d T : Int} (hm : MoOk v N P T) (ht : TrOk v N P pv) (h : StepV N P pv v w u d) (hd : -(v 0 8) ≤ d ∧ d ≤ v 0 8) : TrOk w N P pv := by
  obtain ⟨hT, hL, hU, hS, hG, hY, hAg, hHo, hBo, hTi, hLi, hLb, hLl, hLh⟩ := hm
  obtain ⟨s1, s2, s4, s11, sg, s10, s7, s8, s9, s0, s0b⟩ := h
  refine ⟨fun i hi => ?_, fun k hk ha => ?_⟩
  · have a := s2 i hi
    rw [a.2.2.1, a.2.2.2, s1 i hi]
    exact step_in ht.1 hd i
  · rw [s11 k hk] at ha
    have := hAg k hk
    split at ha <;> omega
theorem dot_congr2 {n : Nat} {f x x' : Nat → Int} (h : ∀ i, i < n → x i = x' i) : dot n f x = dot n f x' := dot_congr (fun _ _ => rfl) h
/-- a reading keeps them -/
theorem obs_ok {N P K : Nat} {pv v : Nat → Nat → Int} {T : Int} (hp : PlOk pv N P) (hm : MoOk v N P T) (hT0 : 0 ≤ T) (hb : BoxOk N (v 2) (v 3)) (ht : TrOk v N P pv) (hK : K < P) : MoOk (obsV N P pv v K) N P T ∧ BoxOk N (obsV N P pv v K 2) (obsV N P pv v K 3) ∧ TrOk (obsV N P pv v K) N P pv := by
  obtain ⟨hN, hN1, hN4, hP, hP1, hP3, hA, hB, hE, hC, hQ⟩ := id hp
  obtain ⟨hT, hL, hU, hS, hG, hY, hAg, hHo, hBo, hTi, hLi, hLb, hLl, hLh⟩ := id hm
  have hsay : saysAll N P pv (obsY N pv v K) (obsA v K) (v 1) := by
    intro k hk ha
    have hq := hQ k hk
    unfold obsY up1
    by_cases e : k = K
    · rw [if_pos e, ← e]
      exact says_of (by omega) rfl
    · rw [if_neg e]
      unfold obsA up1 at ha
      rw [if_neg e] at ha
      exact ht.says hp k hk ha
  have hin := tight_in hsay (n := 100) ht.1
  have hbx := (tight_ok (P := P) (pv := pv) (y := obsY N pv v K) (age := obsA v K) (n := 100) hb).2
  have e1 : obsV N P pv v K 1 = v 1 := rfl
  have hbx2 : BoxOk N (obsV N P pv v K 2) (obsV N P pv v K 3) := hbx
  have hdb := dot_bd (A := 99) (B := 1000000) (by decide) (by decide) (n := N) (f := pv (9 + K)) (g := v 1) (fun j hj => hC K j hK hj) hT
  have hqK := hQ K hK
  have hfd := fdiv_small (a := dot N (pv (9 + K)) (v 1)) (b := pv 12 K) (B := 400000000) (by omega) (by omega) (by decide)
  refine ⟨⟨hT, fun i hi => by have := hbx2 i hi; omega, fun i hi => by have := hbx2 i hi; omega, hS, fun i k hi hk => ?_, fun k hk => ?_, fun k hk => ?_, hHo, hBo, hTi, hLi, hLb, hLl, hLh⟩, hbx2, hin.2, fun k hk ha => ?_⟩
  · show -99 ≤ obsV N P pv v K (6 + i) k ∧ obsV N P pv v K (6 + i) k ≤ 99
    unfold obsV
    rw [if_neg (by omega), if_neg (by omega), if_neg (by omega), if_neg (by omega)]
    exact hG i k hi hk
  · show -400000000 ≤ up1 _ _ _ k ∧ up1 _ _ _ k ≤ 400000000
    unfold up1
    split
    · exact hfd
    · exact hY k hk
  · show -1 ≤ up1 _ _ _ k ∧ up1 _ _ _ k ≤ T
    unfold up1
    split
    · omega
    · exact hAg k hk
  · show (dot N (pv (9 + k)) (v 1)).fdiv (pv 12 k) = up1 _ _ _ k
    have ha : up1 (v 11) K 0 k = 0 := ha
    unfold up1 at ha ⊢
    by_cases e : k = K
    · rw [if_pos e, e]
    · rw [if_neg e]
      rw [if_neg e] at ha
      exact ht.2 k hk ha
