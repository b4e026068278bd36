/-! NUMBERS that the law asks about -/
/-- a box within another -/
def Sub (N : Nat) (lo hi lo' hi' : Nat → Int) : Prop := ∀ i, i < N → lo i ≤ lo' i ∧ hi' i ≤ hi i
theorem Sub.self {N : Nat} {lo hi : Nat → Int} : Sub N lo hi lo hi := fun _ _ => ⟨Int.le_refl _, Int.le_refl _⟩
theorem Sub.trans {N : Nat} {a b a1 b1 a2 b2 : Nat → Int} (h : Sub N a b a1 b1) (h' : Sub N a1 b1 a2 b2) : Sub N a b a2 b2 := fun i hi => ⟨Int.le_trans (h i hi).1 (h' i hi).1, Int.le_trans (h' i hi).2 (h i hi).2⟩
theorem cut1_sub {N : Nat} {f : Nat → Int} {q y : Int} {j : Nat} {s : tS} : Sub N s.2.1 s.2.2 (cut1 N f q y j s).2.1 (cut1 N f q y j s).2.2 := by
  unfold cut1
  by_cases c1 : s.1 = 2
  · rw [if_pos c1]; exact Sub.self
  · rw [if_neg c1]
    by_cases c2 : f j = 0
    · rw [if_pos c2]; exact Sub.self
    · rw [if_neg c2]
      by_cases c3 : cutB N f q y j s.2.1 s.2.2 < cutA N f q y j s.2.1 s.2.2
      · rw [if_pos c3]; exact Sub.self
      · rw [if_neg c3]
        by_cases c4 : cutA N f q y j s.2.1 s.2.2 = s.2.1 j ∧ cutB N f q y j s.2.1 s.2.2 = s.2.2 j
        · rw [if_pos c4]; exact Sub.self
        · rw [if_neg c4]
          intro i hi
          show s.2.1 i ≤ up1 _ _ _ i ∧ up1 _ _ _ i ≤ s.2.2 i
          unfold up1
          by_cases e : i = j
          · subst e
            rw [if_pos rfl, if_pos rfl]
            exact ⟨by unfold cutA; omega, by unfold cutB; omega⟩
          · rw [if_neg e, if_neg e]
            exact ⟨Int.le_refl _, Int.le_refl _⟩
theorem passRow_sub {N : Nat} {f : Nat → Int} {q y : Int} : ∀ {j : Nat} {s : tS}, Sub N s.2.1 s.2.2 (passRow N f q y j s).2.1 (passRow N f q y j s).2.2
  | 0, _ => Sub.self
  | j + 1, _ => (passRow_sub (j := j)).trans cut1_sub
theorem passK_sub {N : Nat} {pv : Nat → Nat → Int} {y age : Nat → Int} : ∀ {k : Nat} {s : tS}, Sub N s.2.1 s.2.2 (passK N pv y age k s).2.1 (passK N pv y age k s).2.2
  | 0, _ => Sub.self
  | k + 1, s => by
    have h := passK_sub (N := N) (pv := pv) (y := y) (age := age) (k := k) (s := s)
    unfold passK
    split
    · exact h.trans passRow_sub
    · exact h
theorem tight_sub {N P : Nat} {pv : Nat → Nat → Int} {y age : Nat → Int} : ∀ {n : Nat} {lo hi : Nat → Int}, Sub N lo hi (tight N P pv y age n lo hi).2.1 (tight N P pv y age n lo hi).2.2
  | 0, _, _ => Sub.self
  | n + 1, lo, hi => by
    have h := passK_sub (N := N) (pv := pv) (y := y) (age := age) (k := P) (s := (0, lo, hi))
    unfold tight
    split
    · exact h.trans (tight_sub (n := n))
    · exact h
theorem wid_sub {lo hi lo' hi' : Nat → Int} : ∀ {n : Nat}, Sub n lo hi lo' hi' → wid n lo' hi' ≤ wid n lo hi
  | 0, _ => Int.le_refl 0
  | n + 1, h => by
    have h1 := wid_sub (n := n) (fun i hi => h i (by omega))
    have h2 := h n (by omega)
    unfold wid
    omega
theorem ext_sub {f lo hi lo' hi' : Nat → Int} {but : Int} : ∀ {n : Nat}, Sub n lo hi lo' hi' → ext n f lo' hi' but 1 ≤ ext n f lo hi but 1 ∧ ext n f lo hi but 0 ≤ ext n f lo' hi' but 0
  | 0, _ => ⟨Int.le_refl 0, Int.le_refl 0⟩
  | n + 1, h => by
    have h1 := ext_sub (f := f) (but := but) (n := n) (fun i hi => h i (by omega))
    have h2 := h n (by omega)
    unfold ext
    by_cases e : (n : Int) = but
    · rw [if_pos e, if_pos e, if_pos e, if_pos e]
      omega
    · rw [if_neg e, if_neg e, if_neg e, if_neg e]
      by_cases c : 0 < f n
      · rw [if_pos (show (0 < f n ↔ (1 : Int) = 1) by omega), if_pos (show (0 < f n ↔ (1 : Int) = 1) by omega), if_neg (show ¬ (0 < f n ↔ (0 : Int) = 1) by omega), if_neg (show ¬ (0 < f n ↔ (0 : Int) = 1) by omega)]
        have h3 := Int.mul_le_mul_of_nonneg_left h2.1 (show 0 ≤ f n by omega)
        have h4 := Int.mul_le_mul_of_nonneg_left h2.2 (show 0 ≤ f n by omega)
        omega
      · rw [if_neg (show ¬ (0 < f n ↔ (1 : Int) = 1) by omega), if_neg (show ¬ (0 < f n ↔ (1 : Int) = 1) by omega), if_pos (show (0 < f n ↔ (0 : Int) = 1) by omega), if_pos (show (0 < f n ↔ (0 : Int) = 1) by omega)]
        have h3 := Int.mul_le_mul_of_nonneg_left h2.1 (show 0 ≤ -f n by omega)
        have h4 := Int.mul_le_mul_of_nonneg_left h2.2 (show 0 ≤ -f n by omega)
        rw [Int.neg_mul, Int.neg_mul] at h3 h4
        omega
theorem ext_at {f lo hi : Nat → Int} {gr : Int} {j : Nat} : ∀ {n : Nat}, (n ≤ j → ext n f lo hi (-1) gr = ext n f lo hi j gr) ∧ (j < n → ext n f lo hi (-1) gr = ext n f lo hi j gr + f j * (if 0 < f j ↔ gr = 1 then hi j else lo j))
  | 0 => ⟨fun _ => rfl, fun h => absurd h (Nat.not_lt_zero j)⟩
  | n + 1 => by
    have h := ext_at (f := f) (lo := lo) (hi := hi) (gr := gr) (j := j) (n := n)
    unfold ext
    rw [if_neg (show ¬ ((n : Int) = -1) by omega)]
    constructor
    · intro q
      rw [if_neg (show ¬ ((n : Int) = (j : Int)) by omega), h.1 (by omega)]
    · intro q
      by_cases e : n = j
      · subst e
        rw [if_pos rfl, h.1 (Nat.le_refl n)]
        omega
      · rw [if_neg (show ¬ ((n : Int) = (j : Int)) by omega), h.2 (by omega)]
        omega
/-- a reading above all that can be, or below: the first state that the output sees is left without a value -/
theorem cut_high {N : Nat} {f lo hi : Nat → Int} {q y : Int} {j : Nat} (hj : j < N) (h0 : f j ≠ 0) (h : ext N f lo hi (-1) 1 < q * y) : cutB N f q y j lo hi < cutA N f q y j lo hi := by
  rw [ext_at.2 hj] at h
  unfold cutA cutB
  rcases Int.lt_or_gt_of_ne h0 with c | c
  · rw [if_neg (show ¬ (0 < f j ↔ (1 : Int) = 1) by omega)] at h
    have h1 : ¬ lo j ≤ cutHi (f j) (q * y - ext N f lo hi j 1) (q * y + q - 1 - ext N f lo hi j 0) := by
      unfold cutHi
      rw [if_neg (show ¬ 0 < f j by omega), le_fdiv_neg c, Int.mul_comm (lo j) (f j)]
      omega
    omega
  · rw [if_pos (show (0 < f j ↔ (1 : Int) = 1) by omega)] at h
    have h1 : ¬ cutLo (f j) (q * y - ext N f lo hi j 1) (q * y + q - 1 - ext N f lo hi j 0) ≤ hi j := by
      unfold cutLo
      rw [if_pos c]
      have h2 : ¬ -hi j ≤ (-(q * y - ext N f lo hi j 1)).fdiv (f j) := by
        rw [le_fdiv c, Int.neg_mul, Int.mul_comm (hi j) (f j)]
        omega
      omega
    omega
theorem cut_low {N : Nat} {f lo hi : Nat → Int} {q y : Int} {j : Nat} (hj : j < N) (h0 : f j ≠ 0) (h : q * y + q - 1 < ext N f lo hi (-1) 0) : cutB N f q y j lo hi < cutA N f q y j lo hi := by
  rw [ext_at.2 hj] at h
  unfold cutA cutB
  rcases Int.lt_or_gt_of_ne h0 with c | c
  · rw [if_pos (show (0 < f j ↔ (0 : Int) = 1) by omega)] at h
    have h1 : ¬ cutLo (f j) (q * y - ext N f lo hi j 1) (q * y + q - 1 - ext N f lo hi j 0) ≤ hi j := by
      unfold cutLo
      rw [if_neg (show ¬ 0 < f j by omega)]
      have h2 : ¬ -hi j ≤ (-(q * y + q - 1 - ext N f lo hi j 0)).fdiv (f j) := by
        rw [le_fdiv_neg c, Int.neg_mul, Int.mul_comm (hi j) (f j)]
        omega
      omega
    omega
  · rw [if_neg (show ¬ (0 < f j ↔ (0 : Int) = 1) by omega)] at h
    have h1 : ¬ lo j ≤ cutHi (f j) (q * y - ext N f lo hi j 1) (q * y + q - 1 - ext N f lo hi j 0) := by
      unfold cutHi
      rw [if_pos c, le_fdiv c, Int.mul_comm (lo j) (f j)]
      omega
    omega
/-- whether an output sees a state -/
def sees (N : Nat) (f : Nat → Int) : Prop := ∃ j, j < N ∧ f j ≠ 0
theorem sees.first {N : Nat} {f : Nat → Int} (h : sees N f) : ∃ j, j < N ∧ f j ≠ 0 ∧ ∀ i, i < j → f i = 0 := by
  obtain ⟨j, hj, h0⟩ := h
  rcases firstE_bd f N 0 with ⟨-, q⟩ | ⟨x, -, -, a, b, c⟩
  · exact absurd (q j (Nat.zero_le j) (by omega)) h0
  · exact ⟨x, by omega, b, fun i hi => c i (Nat.zero_le i) hi⟩
theorem passRow_zero {N : Nat} {f : Nat → Int} {q y : Int} {s : tS} : ∀ {j : Nat}, (∀ i, i < j → f i = 0) → passRow N f q y j s = s
  | 0, _ => rfl
  | j + 1, h => by
    show cut1 N f q y j (passRow N f q y j s) = s
    rw [passRow_zero (j := j) (fun i hi => h i (by omega))]
    obtain ⟨a, lo, hi⟩ := s
    exact cut1_zero (h j (Nat.lt_succ_self j))
theorem passRow_fail {N : Nat} {f : Nat → Int} {q y : Int} {s : tS} (hs : sees N f) (h : ext N f s.2.1 s.2.2 (-1) 1 < q * y ∨ q * y + q - 1 < ext N f s.2.1 s.2.2 (-1) 0) : (passRow N f q y N s).1 = 2 := by
  obtain ⟨j, hj, h0, hz⟩ := hs.first
  have e : (passRow N f q y (j + 1) s).1 = 2 := by
    show (cut1 N f q y j (passRow N f q y j s)).1 = 2
    rw [passRow_zero hz]
    unfold cut1
    by_cases c : s.1 = 2
    · rw [if_pos c]; exact c
    · rw [if_neg c, if_neg h0, if_pos (h.elim (cut_high hj h0) (cut_low hj h0))]
  have := passRow_stay e (N - (j + 1))
  rw [show j + 1 + (N - (j + 1)) = N by omega] at this
  rw [this]; exact e
theorem tight_fail {N P K n : Nat} {pv : Nat → Nat → Int} {y age lo hi : Nat → Int} (hK : K < P) (ha : age K = 0) (hs : sees N (pv (9 + K))) (h : ext N (pv (9 + K)) lo hi (-1) 1 < pv 12 K * y K ∨ pv 12 K * y K + pv 12 K - 1 < ext N (pv (9 + K)) lo hi (-1) 0) : (tight N P pv y age (n + 1) lo hi).1 = 2 := by
  have hsub := passK_sub (N := N) (pv := pv) (y := y) (age := age) (k := K) (s := (0, lo, hi))
  have hex := ext_sub (f := pv (9 + K)) (but := -1) hsub
  have e : (passK N pv y age (K + 1) (0, lo, hi)).1 = 2 := by
    show (if age K = 0 then passRow N (pv (9 + K)) (pv 12 K) (y K) N (passK N pv y age K (0, lo, hi)) else _).1 = 2
    rw [if_pos ha]
    exact passRow_fail hs (by have h1 := hex.1; have h2 := hex.2; dsimp only at h1 h2; omega)
  have h2 := passK_stay (k := K + 1) (N := N) (pv := pv) (y := y) (age := age) (s := (0, lo, hi)) e (P - (K + 1))
  rw [show K + 1 + (P - (K + 1)) = P by omega] at h2
  unfold tight
  rw [h2, if_neg (by rw [e]; decide)]
  exact e
theorem fdiv_lt {a q : Int} (hq : 0 < q) : a < q * (a.fdiv q + 1) ∧ q * a.fdiv q ≤ a := by
  have h1 : a.fdiv q ≤ a.fdiv q := Int.le_refl _
  rw [le_fdiv hq] at h1
  have h2 : ¬ a.fdiv q + 1 ≤ a.fdiv q := by omega
  rw [le_fdiv hq] at h2
  rw [Int.mul_comm] at h1
  rw [Int.mul_comm] at h2
  omega
/-- a reading just beyond the possible ones -/
theorem most_fail {N P K n : Nat} {pv v : Nat → Nat → Int} (hp : PlOk pv N P) (hK : K < P) (hs : sees N (pv (9 + K))) : (tight N P pv (up1 (v 10) K ((ext N (pv (9 + K)) (v 2) (v 3) (-1) 1).fdiv (pv 12 K) + 1)) (up1 (v 11) K 0) (n + 1) (v 2) (v 3)).1 = 2 := by
  have hq := hp.2.2.2.2.2.2.2.2.2.2 K hK
  refine tight_fail hK (if_pos rfl) hs (Or.inl ?_)
  show _ < pv 12 K * up1 _ K _ K
  rw [show up1 (v 10) K ((ext N (pv (9 + K)) (v 2) (v 3) (-1) 1).fdiv (pv 12 K) + 1) K = (ext N (pv (9 + K)) (v 2) (v 3) (-1) 1).fdiv (pv 12 K) + 1 from if_pos rfl]
  exact (fdiv_lt (by omega)).1
theorem least_fail {N P K n : Nat} {pv v : Nat → Nat → Int} (hp : PlOk pv N P) (hK : K < P) (hs : sees N (pv (9 + K))) : (tight N P pv (up1 (v 10) K ((ext N (pv (9 + K)) (v 2) (v 3) (-1) 0).fdiv (pv 12 K) - 1)) (up1 (v 11) K 0) (n + 1) (v 2) (v 3)).1 = 2 := by
  have hq := hp.2.2.2.2.2.2.2.2.2.2 K hK
  refine tight_fail hK (if_pos rfl) hs (Or.inr ?_)
  rw [show up1 (v 10) K ((ext N (pv (9 + K)) (v 2) (v 3) (-1) 0).fdiv (pv 12 K) - 1) K = (ext N (pv (9 + K)) (v 2) (v 3) (-1) 0).fdiv (pv 12 K) - 1 from if_pos rfl]
  have := (fdiv_lt (a := ext N (pv (9 + K)) (v 2) (v 3) (-1) 0) (q := pv 12 K) (by omega)).2
  rw [Int.mul_sub, Int.mul_one]
  omega
/-- the true reading: possible, and it only tightens -/
theorem true_read {N P K : Nat} {pv v : Nat → Nat → Int} (hp : PlOk pv N P) (hb : BoxOk N (v 2) (v 3)) (ht : TrOk v N P pv) (hK : K < P) {y : Int} (hy : y = (dot N (pv (9 + K)) (v 1)).fdiv (pv 12 K)) : (tight N P pv (up1 (v 10) K y) (up1 (v 11) K 0) 100 (v 2) (v 3)).1 ≠ 2 ∧ 0 ≤ wid N (tight N P pv (up1 (v 10) K y) (up1 (v 11) K 0) 100 (v 2) (v 3)).2.1 (tight N P pv (up1 (v 10) K y) (up1 (v 11) K 0) 100 (v 2) (v 3)).2.2 ∧ wid N (tight N P pv (up1 (v 10) K y) (up1 (v 11) K 0) 100 (v 2) (v 3)).2.1 (tight N P pv (up1 (v 10) K y) (up1 (v 11) K 0) 100 (v 2) (v 3)).2.2 ≤ wid N (v 2) (v 3) := by
  have hsay : saysAll N P pv (up1 (v 10) K y) (up1 (v 11) K 0) (v 1) := by
    intro k hk ha
    have hq := hp.2.2.2.2.2.2.2.2.2.2 k hk
    unfold up1
    by_cases e : k = K
    · rw [if_pos e, e]
      rw [e] at hq
      exact says_of (by omega) hy.symm
    · rw [if_neg e]
      unfold up1 at ha
      rw [if_neg e] at ha
      exact ht.says hp k hk ha
  exact ⟨(tight_in hsay (n := 100) ht.1).1, (wid_bd (tight_ok hb).2).1, wid_sub tight_sub⟩
theorem read_in {N P K : Nat} {pv v : Nat → Nat → Int} (hp : PlOk pv N P) (ht : TrOk v N P pv) (hK : K < P) : (ext N (pv (9 + K)) (v 2) (v 3) (-1) 0).fdiv (pv 12 K) ≤ (dot N (pv (9 + K)) (v 1)).fdiv (pv 12 K) ∧ (dot N (pv (9 + K)) (v 1)).fdiv (pv 12 K) ≤ (ext N (pv (9 + K)) (v 2) (v 3) (-1) 1).fdiv (pv 12 K) := by
  have hq := hp.2.2.2.2.2.2.2.2.2.2 K hK
  have h1 := ext_in (f := pv (9 + K)) (but := -1) ht.1
  rw [dx_no (fun i _ => by omega)] at h1
  exact ⟨fdiv_mono (by omega) h1.1, fdiv_mono (by omega) h1.2⟩
theorem comb_in {N : Nat} {f : Nat → Int} {v : Nat → Nat → Int} (h : Inn N (v 2) (v 3) (v 1)) : ext N f (v 2) (v 3) (-1) 0 ≤ dot N f (v 1) ∧ dot N f (v 1) ≤ ext N f (v 2) (v 3) (-1) 1 := by
  have h1 := ext_in (f := f) (but := -1) h
  rw [dx_no (fun i _ => by omega)] at h1
  exact h1
/-- bounds ahead -/
theorem itv_box {N : Nat} {pv : Nat → Nat → Int} {u B : Int} {lo hi : Nat → Int} (h : ∀ i, i < N → lo i ≤ hi i) (hB : 0 ≤ B) : ∀ (t : Nat) (i : Nat), i < N → (itv N pv u B lo hi t).1 i ≤ (itv N pv u B lo hi t).2 i
  | 0, i, hi => h i hi
  | t + 1, i, _ => (step_box (itv_box h hB t) hB i).2.1
theorem itv_next {N : Nat} {pv : Nat → Nat → Int} {u B : Int} {lo hi lo' hi' : Nat → Int} (h : ∀ i, i < N → lo' i = lowF N pv u B lo hi i ∧ hi' i = uppF N pv u B lo hi i) : ∀ (t : Nat) (i : Nat), i < N → (itv N pv u B lo' hi' t).1 i = (itv N pv u B lo hi (t + 1)).1 i ∧ (itv N pv u B lo' hi' t).2 i = (itv N pv u B lo hi (t + 1)).2 i
  | 0, i, hi => h i hi
  | t + 1, i, _ => by
    have h1 := low_congr (pv := pv) (u := u) (B := B) (fun j hj => (itv_next h t j hj).1) (fun j hj => (itv_next h t j hj).2) i
    exact h1
/-- widths and values shaved off -/
theorem wid_lo {lo hi : Nat → Int} {i : Nat} {x : Int} : ∀ {n : Nat}, wid n (up1 lo i x) hi = if i < n then wid n lo hi + lo i - x else wid n lo hi
  | 0 => rfl
  | n + 1 => by
    have h := wid_lo (lo := lo) (hi := hi) (i := i) (x := x) (n := n)
    unfold wid
    rw [h]
    by_cases e : i = n
    · subst e
      rw [if_neg (Nat.lt_irrefl i), if_pos (Nat.lt_succ_self i), show up1 lo i x i = x from if_pos rfl]
      omega
    · rw [show up1 lo i x n = lo n from if_neg (fun q => e q.symm)]
      by_cases c : i < n
      · rw [if_pos c, if_pos (by omega)]; omega
      · rw [if_neg c, if_neg (by omega)]
theorem wid_hi {lo hi : Nat → Int} {i : Nat} {x : Int} : ∀ {n : Nat}, wid n lo (up1 hi i x) = if i < n then wid n lo hi - hi i + x else wid n lo hi
  | 0 => rfl
  | n + 1 => by
    have h := wid_hi (lo := lo) (hi := hi) (i := i) (x := x) (n := n)
    unfold wid
    rw [h]
    by_cases e : i = n
    · subst e
      rw [if_neg (Nat.lt_irrefl i), if_pos (Nat.lt_succ_self i), show up1 hi i x i = x from if_pos rfl]
      omega
    · rw [show up1 hi i x n = hi n from if_neg (fun q => e q.symm)]
      by_cases c : i < n
      · rw [if_pos c, if_pos (by omega)]; omega
      · rw [if_neg c, if_neg (by omega)]
theorem shv_wid {N P : Nat} {pv : Nat → Nat → Int} {i j : Nat} {d : Int} (hi : i < N) (hj : (j = 2 ∧ d = 1) ∨ (j = 3 ∧ d = -1)) : ∀ (m : Nat) (v : Nat → Nat → Int), wid N ((shv N P pv i j d m v).2 2) ((shv N P pv i j d m v).2 3) = wid N (v 2) (v 3) - ((shv N P pv i j d m v).1 : Int) ∧ ∀ b, b ≠ 2 → b ≠ 3 → (shv N P pv i j d m v).2 b = v b
  | 0, v => ⟨by show wid N (v 2) (v 3) = wid N (v 2) (v 3) - ((0 : Nat) : Int); omega, fun _ _ _ => rfl⟩
  | m + 1, v => by
    have ih := shv_wid (N := N) (P := P) (pv := pv) hi hj m (setV v j i (v j i + d))
    by_cases c : (tight N P pv (v 10) (v 11) 100 (up1 (v 2) i (v j i)) (up1 (v 3) i (v j i))).1 = 2
    · rw [shv_s c]
      dsimp only
      refine ⟨?_, fun b h2 h3 => (ih.2 b h2 h3).trans (if_neg (by omega))⟩
      rw [ih.1]
      rcases hj with ⟨rfl, rfl⟩ | ⟨rfl, rfl⟩
      · rw [show setV v 2 i (v 2 i + 1) 2 = up1 (v 2) i (v 2 i + 1) from if_pos rfl, show setV v 2 i (v 2 i + 1) 3 = v 3 from if_neg (by decide), wid_lo, if_pos hi]
        omega
      · rw [show setV v 3 i (v 3 i + -1) 2 = v 2 from if_neg (by decide), show setV v 3 i (v 3 i + -1) 3 = up1 (v 3) i (v 3 i + -1) from if_pos rfl, wid_hi, if_pos hi]
        omega
    · rw [shv_n (Or.inr c)]
      exact ⟨by show wid N (v 2) (v 3) = wid N (v 2) (v 3) - ((0 : Nat) : Int); omega, fun _ _ _ => rfl⟩
/-- the unknown input d of the last step, as far as the numbers remember it -/
def Told (N : Nat) (pv v : Nat → Nat → Int) (d : Int) : Prop := v 0 9 ≠ 0 ∧ (-(v 0 11) ≤ d ∧ d ≤ v 0 11) ∧ ∀ i, i < N → ∃ fl : Int, v 12 i ≤ fl ∧ fl ≤ v 13 i ∧ v 1 i = lim (fl + pv 6 i * v 0 10 + pv 7 i * d) 1000000
theorem Told.expl {N : Nat} {pv v : Nat → Nat → Int} {d : Int} (h : Told N pv v d) (hi : Inn N (v 2) (v 3) (v 1)) : expl N pv v d := by
  intro i hi' _
  obtain ⟨fl, h1, h2, h3⟩ := h.2.2 i hi'
  have h4 := hi i hi'
  rw [h3] at h4
  generalize pv 6 i * v 0 10 = a at h4 ⊢
  generalize pv 7 i * d = b at h4 ⊢
  constructor
  · rintro ⟨q1, q2⟩
    have h5 := h4.1
    unfold lim at h5
    split at h5
    · omega
    · split at h5 <;> omega
  · rintro ⟨q1, q2⟩
    have h5 := h4.2
    unfold lim at h5
    split at h5
    · omega
    · split at h5 <;> omega
theorem StepV.told {N P : Nat} {pv v w : Nat → Nat → Int} {u d T : Int} (hm : MoOk v N P T) (ht : TrOk v N P pv) (h : StepV N P pv v w u d) (hd : -(v 0 8) ≤ d ∧ d ≤ v 0 8) : Told N pv w d := by
  obtain ⟨s1, s2, s4, s11, sg, s10, s7, s8, s9, s0, s0b⟩ := h
  have h9 := hm.2.2.2.2.2.2.2.2.2.1
  refine ⟨by rw [s9]; omega, by rw [s0b]; exact hd, fun i hi => ⟨(dot N (pv (2 + i)) (v 1)).fdiv 16, ?_, ?_, ?_⟩⟩
  · rw [(s2 i hi).1]; exact (end_in ht.1 i).1
  · rw [(s2 i hi).2.1]; exact (end_in ht.1 i).2
  · rw [s1 i hi, s0]; rfl
theorem Told.same {N : Nat} {pv v w : Nat → Nat → Int} {d : Int} (h : Told N pv v d) (e : ∀ b, (b = 0 ∨ b = 1 ∨ b = 12 ∨ b = 13) → w b = v b) : Told N pv w d := by
  unfold Told
  rw [e 0 (by omega), e 1 (by omega), e 12 (by omega), e 13 (by omega)]
  exact h
/-- an estimate without readings -/
theorem dot_zr {f g : Nat → Int} : ∀ {n : Nat}, (∀ k, k < n → g k = 0) → dot n f g = 0
  | 0, _ => rfl
  | n + 1, h => by
    unfold dot
    rw [dot_zr (n := n) (fun k hk => h k (by omega)), h n (by omega), Int.mul_zero]
    rfl
theorem est_silent {N P : Nat} {pv v : Nat → Nat → Int} {u : Int} {i : Nat} (h : ∀ k, k < P → v 11 k = -1 ∨ v 0 7 < v 11 k) : estF N P pv v u i = lim ((dot N (pv (2 + i)) (v 4)).fdiv 16 + 16 * pv 6 i * u) 16000000 := by
  unfold estF
  rw [dot_zr (n := P) (fun k hk => by unfold devF; rw [if_pos (h k hk)])]
  rw [show (0 : Int).fdiv 16 = 0 by decide, Int.add_zero]
theorem lim_in {a m : Int} (h : -m ≤ a ∧ a ≤ m) : lim a m = a := by
  unfold lim
  rw [if_neg (by omega), if_neg (by omega)]
/-! ranks -/
theorem RankOf.le {n k k' : Nat} {V V' : Vc → Prop} (h : RankOf n V k) (h' : RankOf n V' k') (hs : ∀ u, V u → V' u) : k ≤ k' := by
  obtain ⟨f, l, h1, h2⟩ := h
  obtain ⟨f', l', h3, h4⟩ := h'
  exact Ech.le h1 h3 fun u hu => (h4 u).mpr (hs u ((h2 u).mp hu))
theorem Gp_mono {N P k k' : Nat} {pv : Nat → Nat → Int} (h : k ≤ k') (u : Vc) (hu : Sp N (Gp N P pv k) u) : Sp N (Gp N P pv k') u := Sp.mono (fun x q => by
  obtain ⟨t, o, h1, h2, h3⟩ := q
  exact Sp.of ⟨t, o, by omega, h2, h3⟩) hu
theorem Vis_z {N P t : Nat} {pv : Nat → Nat → Int} {u : Vc} (h : ∀ i, i < N → Z0 (u i)) : Vis N P pv t u := by
  cases t with
  | zero => exact Sp.z h
  | succ t => exact Sp.z h
theorem Vis_0 {N P : Nat} {pv : Nat → Nat → Int} {u : Vc} (h : Vis N P pv 0 u) : ∀ i, i < N → Z0 (u i) := by
  obtain ⟨m, hm⟩ := h
  cases m with
  | zero => exact hm
  | succ m => obtain ⟨v, w, c, h1, h2, h3⟩ := hm; exact h2.elim
theorem Vis_mono {N P : Nat} {pv : Nat → Nat → Int} : ∀ (t : Nat) (u : Vc), Vis N P pv t u → Vis N P pv (t + 1) u
  | 0, u, h => Vis_z (Vis_0 h)
  | t + 1, u, h => by
    refine Sp.mono (fun x q => ?_) h
    rcases q with q | ⟨w, ⟨q1, q2⟩, q3⟩
    · exact Sp.of (Or.inl q)
    · exact Sp.of (Or.inr ⟨w, ⟨Vis_mono t w q1, q2⟩, q3⟩)
theorem Vis_sub {N P : Nat} {pv : Nat → Nat → Int} : ∀ (t : Nat) (u : Vc), Vis N P pv t u → Sp N (Gp N P pv t) u
  | 0, u, h => Sp.z (Vis_0 h)
  | t + 1, u, h => by
    refine Sp.mono (fun x q => ?_) h
    rcases q with ⟨o, q1, q2⟩ | ⟨w, ⟨q1, q2⟩, q3⟩
    · exact Sp.of ⟨0, o, by omega, q1, q2⟩
    · rw [q3]
      refine Sp.times (S := Gp N P pv t) (fun x hx => ?_) (Vis_sub t w q1)
      obtain ⟨t', o, h1, h2, h3⟩ := hx
      exact Sp.of ⟨t' + 1, o, by omega, h2, by rw [h3]; rfl⟩
theorem Vis_all {N P : Nat} {pv : Nat → Nat → Int} (he : ∀ i, i < N → pv 7 i = 0) : ∀ (t : Nat) (u : Vc), Sp N (Gp N P pv t) u → Vis N P pv t u := by
  have hd : ∀ w : Vc, Z0 (dot N w (pv 7)) := fun w => by rw [dot_zr he]; exact Z0.zero
  have key : ∀ t t' o, t' < t → o < P → Vis N P pv t (pw N pv o t') := by
    intro t
    induction t with
    | zero => intro t' o h _; exact absurd h (Nat.not_lt_zero t')
    | succ t ih =>
      intro t' o h ho
      cases t' with
      | zero => exact Sp.of (Or.inl ⟨o, ho, rfl⟩)
      | succ t' => exact Sp.of (Or.inr ⟨_, ⟨ih t' o (by omega) ho, hd _⟩, rfl⟩)
  intro t u hu
  cases t with
  | zero => exact Sp.mono (fun x q => by obtain ⟨t', o, h, -⟩ := q; exact absurd h (Nat.not_lt_zero t')) hu
  | succ t =>
    have h2 : ∀ x, Gp N P pv (t + 1) x → Vis N P pv (t + 1) x := fun x q => by
      obtain ⟨t', o, h1, h2, h3⟩ := q
      rw [h3]; exact key (t + 1) t' o h1 h2
    exact Sp.mono (fun x q => h2 x q) hu
theorem Vis_rank0 {N P k : Nat} {pv : Nat → Nat → Int} (h : RankOf N (Vis N P pv 0) k) : k = 0 := by
  refine RankOf.unique h (k' := 0) ⟨fun _ _ => 0, fun _ => 0, fun r hr => absurd hr (Nat.not_lt_zero r), fun u => ?_⟩
  exact rws_0 (S := fun _ => False) (fun _ q => q) u
/-- a rank reached by a power less, by the powers -/
theorem combs_bd {e : Nat → Int} {N q : Nat} (h : (q : Int) < combs e N) : if firstE e N 0 = -1 then q < N else q + 1 < N := by
  unfold combs at h
  split at h
  · rename_i c; rw [if_pos c]; omega
  · rename_i c; rw [if_neg c]; omega
theorem itv_rng {N : Nat} {pv : Nat → Nat → Int} {u B : Int} {lo hi : Nat → Int} (h : ∀ i, i < N → -1000000 ≤ lo i ∧ lo i ≤ hi i ∧ hi i ≤ 1000000) (_ : 0 ≤ B) : ∀ (t : Nat) (i : Nat), i < N → (-1000000 ≤ (itv N pv u B lo hi t).1 i ∧ (itv N pv u B lo hi t).1 i ≤ 1000000) ∧ -1000000 ≤ (itv N pv u B lo hi t).2 i ∧ (itv N pv u B lo hi t).2 i ≤ 1000000
  | 0, i, hn => by
    have := h i hn
    show (-1000000 ≤ lo i ∧ lo i ≤ 1000000) ∧ -1000000 ≤ hi i ∧ hi i ≤ 1000000
    omega
  | t + 1, i, hi => ⟨lim_le (by decide), lim_le (by decide)⟩
theorem itv_1 {N : Nat} {pv : Nat → Nat → Int} {u B : Int} {lo hi : Nat → Int} {i : Nat} : (itv N pv u B lo hi 1).1 i = lowF N pv u B lo hi i ∧ (itv N pv u B lo hi 1).2 i = uppF N pv u B lo hi i := ⟨rfl, rfl⟩
/-- a bound ahead, of the kind asked for -/
theorem ahd {N : Nat} {pv : Nat → Nat → Int} {u B z b : Int} {lo hi : Nat → Int} {n i : Int} (h : z = (if b = 1 then (itv N pv u B lo hi n.toNat).2 i.toNat else (itv N pv u B lo hi n.toNat).1 i.toNat)) {k j : Nat} (hn : n = (k : Int)) (hj : i = (j : Int)) : (b = 0 → z = (itv N pv u B lo hi k).1 j) ∧ (b = 1 → z = (itv N pv u B lo hi k).2 j) := by
  subst hn hj
  rw [Int.toNat_natCast, Int.toNat_natCast] at h
  constructor
  · rintro rfl; rw [if_neg (by decide)] at h; exact h
  · rintro rfl; rw [if_pos rfl] at h; exact h
