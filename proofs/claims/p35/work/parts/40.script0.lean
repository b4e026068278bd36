/-! STEPS as functions; views that are equal where it counts; commands -/
def VEq (N P : Nat) (v w : Nat → Nat → Int) : Prop := (∀ i, i < N → v 1 i = w 1 i ∧ v 2 i = w 2 i ∧ v 3 i = w 3 i ∧ v 4 i = w 4 i ∧ v 12 i = w 12 i ∧ v 13 i = w 13 i) ∧ (∀ i k, i < N → k < P → v (6 + i) k = w (6 + i) k) ∧ (∀ k, k < P → v 10 k = w 10 k ∧ v 11 k = w 11 k) ∧ v 0 7 = w 0 7 ∧ v 0 8 = w 0 8 ∧ v 0 9 = w 0 9 ∧ v 0 10 = w 0 10 ∧ v 0 11 = w 0 11
theorem VEq.self {N P : Nat} {v : Nat → Nat → Int} : VEq N P v v := ⟨fun _ _ => ⟨Eq.refl _, Eq.refl _, Eq.refl _, Eq.refl _, Eq.refl _, Eq.refl _⟩, fun _ _ _ _ => Eq.refl _, fun _ _ => ⟨Eq.refl _, Eq.refl _⟩, Eq.refl _, Eq.refl _, Eq.refl _, Eq.refl _, Eq.refl _⟩
theorem VEq.symm {N P : Nat} {v w : Nat → Nat → Int} (h : VEq N P v w) : VEq N P w v := by
  obtain ⟨a, b, c, d7, d8, d9, d10, d11⟩ := h
  exact ⟨fun i hi => ⟨(a i hi).1.symm, (a i hi).2.1.symm, (a i hi).2.2.1.symm, (a i hi).2.2.2.1.symm, (a i hi).2.2.2.2.1.symm, (a i hi).2.2.2.2.2.symm⟩, fun i k hi hk => (b i k hi hk).symm, fun k hk => ⟨(c k hk).1.symm, (c k hk).2.symm⟩, d7.symm, d8.symm, d9.symm, d10.symm, d11.symm⟩
theorem VEq.trans {N P : Nat} {u v w : Nat → Nat → Int} (h : VEq N P u v) (h' : VEq N P v w) : VEq N P u w := by
  obtain ⟨a, b, c, d7, d8, d9, d10, d11⟩ := h
  obtain ⟨a', b', c', e7, e8, e9, e10, e11⟩ := h'
  exact ⟨fun i hi => ⟨(a i hi).1.trans (a' i hi).1, (a i hi).2.1.trans (a' i hi).2.1, (a i hi).2.2.1.trans (a' i hi).2.2.1, (a i hi).2.2.2.1.trans (a' i hi).2.2.2.1, (a i hi).2.2.2.2.1.trans (a' i hi).2.2.2.2.1, (a i hi).2.2.2.2.2.trans (a' i hi).2.2.2.2.2⟩, fun i k hi hk => (b i k hi hk).trans (b' i k hi hk), fun k hk => ⟨(c k hk).1.trans (c' k hk).1, (c k hk).2.trans (c' k hk).2⟩, d7.trans e7, d8.trans e8, d9.trans e9, d10.trans e10, d11.trans e11⟩
/-- a step as a function -/
def stepF (N P : Nat) (pv v : Nat → Nat → Int) (u d : Int) : Nat → Nat → Int := fun b i =>
  if b = 0 then (if i = 9 then v 0 9 + 1 else if i = 10 then u else if i = 11 then v 0 8 else v 0 i) else
  if b = 1 then truthF N pv u d (v 1) i else if b = 2 then lowF N pv u (v 0 8) (v 2) (v 3) i else if b = 3 then uppF N pv u (v 0 8) (v 2) (v 3) i else
  if b = 4 then estF N P pv v u i else if b = 11 then (if v 11 i = -1 then -1 else v 11 i + 1) else if b = 12 then endF N pv (v 2) (v 3) 0 i else if b = 13 then endF N pv (v 2) (v 3) 1 i else v b i
theorem sF_1 {N P : Nat} {pv v : Nat → Nat → Int} {u d : Int} {i : Nat} : stepF N P pv v u d 1 i = truthF N pv u d (v 1) i := by
  unfold stepF; rw [if_neg (by decide), if_pos rfl]
theorem sF_2 {N P : Nat} {pv v : Nat → Nat → Int} {u d : Int} {i : Nat} : stepF N P pv v u d 2 i = lowF N pv u (v 0 8) (v 2) (v 3) i := by
  unfold stepF; rw [if_neg (by decide), if_neg (by decide), if_pos rfl]
theorem sF_3 {N P : Nat} {pv v : Nat → Nat → Int} {u d : Int} {i : Nat} : stepF N P pv v u d 3 i = uppF N pv u (v 0 8) (v 2) (v 3) i := by
  unfold stepF; rw [if_neg (by decide), if_neg (by decide), if_neg (by decide), if_pos rfl]
theorem sF_4 {N P : Nat} {pv v : Nat → Nat → Int} {u d : Int} {i : Nat} : stepF N P pv v u d 4 i = estF N P pv v u i := by
  unfold stepF; rw [if_neg (by decide), if_neg (by decide), if_neg (by decide), if_neg (by decide), if_pos rfl]
theorem sF_11 {N P : Nat} {pv v : Nat → Nat → Int} {u d : Int} {i : Nat} : stepF N P pv v u d 11 i = (if v 11 i = -1 then -1 else v 11 i + 1) := by
  unfold stepF; rw [if_neg (by decide), if_neg (by decide), if_neg (by decide), if_neg (by decide), if_neg (by decide), if_pos rfl]
theorem sF_12 {N P : Nat} {pv v : Nat → Nat → Int} {u d : Int} {i : Nat} : stepF N P pv v u d 12 i = endF N pv (v 2) (v 3) 0 i := by
  unfold stepF; rw [if_neg (by decide), if_neg (by decide), if_neg (by decide), if_neg (by decide), if_neg (by decide), if_neg (by decide), if_pos rfl]
theorem sF_13 {N P : Nat} {pv v : Nat → Nat → Int} {u d : Int} {i : Nat} : stepF N P pv v u d 13 i = endF N pv (v 2) (v 3) 1 i := by
  unfold stepF; rw [if_neg (by decide), if_neg (by decide), if_neg (by decide), if_neg (by decide), if_neg (by decide), if_neg (by decide), if_neg (by decide), if_pos rfl]
theorem sF_b {N P : Nat} {pv v : Nat → Nat → Int} {u d : Int} {b i : Nat} (h : 5 ≤ b ∧ b ≤ 10) : stepF N P pv v u d b i = v b i := by
  unfold stepF; rw [if_neg (by omega), if_neg (by omega), if_neg (by omega), if_neg (by omega), if_neg (by omega), if_neg (by omega), if_neg (by omega), if_neg (by omega)]
theorem sF_9 {N P : Nat} {pv v : Nat → Nat → Int} {u d : Int} : stepF N P pv v u d 0 9 = v 0 9 + 1 := by
  unfold stepF; rw [if_pos rfl, if_pos rfl]
theorem sF_10 {N P : Nat} {pv v : Nat → Nat → Int} {u d : Int} : stepF N P pv v u d 0 10 = u := by
  unfold stepF; rw [if_pos rfl, if_neg (by decide), if_pos rfl]
theorem sF_0b {N P : Nat} {pv v : Nat → Nat → Int} {u d : Int} : stepF N P pv v u d 0 11 = v 0 8 := by
  unfold stepF; rw [if_pos rfl, if_neg (by decide), if_neg (by decide), if_pos rfl]
theorem sF_0 {N P : Nat} {pv v : Nat → Nat → Int} {u d : Int} {i : Nat} (h : i ≤ 8) : stepF N P pv v u d 0 i = v 0 i := by
  unfold stepF; rw [if_pos rfl, if_neg (by omega), if_neg (by omega), if_neg (by omega)]
theorem StepV.eqF {N P : Nat} {pv v w : Nat → Nat → Int} {u d : Int} (hN : N ≤ 4) (h : StepV N P pv v w u d) : VEq N P w (stepF N P pv v u d) := by
  obtain ⟨s1, s2, s4, s11, sg, s10, s7, s8, s9, s0, s0b⟩ := h
  exact ⟨fun i hi => ⟨by rw [sF_1]; exact s1 i hi, by rw [sF_2]; exact (s2 i hi).2.2.1, by rw [sF_3]; exact (s2 i hi).2.2.2, by rw [sF_4]; exact s4 i hi, by rw [sF_12]; exact (s2 i hi).1, by rw [sF_13]; exact (s2 i hi).2.1⟩, fun i k hi hk => by rw [sF_b (by omega)]; exact sg i k hi hk, fun k hk => ⟨by rw [sF_b (by omega)]; exact s10 k hk, by rw [sF_11]; exact s11 k hk⟩, by rw [sF_0 (by omega)]; exact s7, by rw [sF_0 (by omega)]; exact s8, by rw [sF_9]; exact s9, by rw [sF_10]; exact s0, by rw [sF_0b]; exact s0b⟩
theorem VEq.stepFF {N P : Nat} {pv v v' : Nat → Nat → Int} {u d : Int} (hN : N ≤ 4) (h : VEq N P v v') : VEq N P (stepF N P pv v u d) (stepF N P pv v' u d) := by
  obtain ⟨a, b, c, d7, d8, d9, d10, d11⟩ := h
  have hlu := fun j => low_congr (pv := pv) (u := u) (B := v 0 8) (fun i hi => (a i hi).2.1) (fun i hi => (a i hi).2.2.1) j
  have he : ∀ (gr : Int) (j : Nat), endF N pv (v 2) (v 3) gr j = endF N pv (v' 2) (v' 3) gr j := fun gr j => by
    unfold endF
    rw [ext_congr (fun _ _ => Eq.refl _) (fun i hi => (a i hi).2.1) (fun i hi => (a i hi).2.2.1)]
  refine ⟨fun i hi => ⟨?_, ?_, ?_, ?_, ?_, ?_⟩, fun i k hi hk => ?_, fun k hk => ⟨?_, ?_⟩, ?_, ?_, ?_, ?_, ?_⟩
  · rw [sF_1, sF_1]
    unfold truthF
    rw [dot_congr2 (fun j hj => (a j hj).1)]
  · rw [sF_2, sF_2, (hlu i).1, d8]
  · rw [sF_3, sF_3, (hlu i).2, d8]
  · rw [sF_4, sF_4]
    unfold estF
    rw [dot_congr2 (n := N) (fun j hj => (a j hj).2.2.2.1), dot_congr (n := P) (f' := v' (6 + i)) (g' := devF N pv v') (fun k hk => b i k hi hk) (fun k hk => by
      unfold devF
      rw [(c k hk).1, (c k hk).2, d7, dot_congr2 (n := N) (fun j hj => (a j hj).2.2.2.1)])]
  · rw [sF_12, sF_12]; exact he 0 i
  · rw [sF_13, sF_13]; exact he 1 i
  · rw [sF_b (by omega), sF_b (by omega)]; exact b i k hi hk
  · rw [sF_b (by omega), sF_b (by omega)]; exact (c k hk).1
  · rw [sF_11, sF_11, (c k hk).2]
  · rw [sF_0 (by omega), sF_0 (by omega)]; exact d7
  · rw [sF_0 (by omega), sF_0 (by omega)]; exact d8
  · rw [sF_9, sF_9, d9]
  · rw [sF_10, sF_10]
  · rw [sF_0b, sF_0b]; exact d8
theorem VEq.step {N P : Nat} {pv v v' w : Nat → Nat → Int} {u d : Int} (hN : N ≤ 4) (h : VEq N P v v') (hs : StepV N P pv v w u d) : VEq N P w (stepF N P pv v' u d) := (hs.eqF hN).trans (h.stepFF hN)
theorem wid_congr {lo lo' hi hi' : Nat → Int} : ∀ {n : Nat}, (∀ i, i < n → lo i = lo' i) → (∀ i, i < n → hi i = hi' i) → wid n lo hi = wid n lo' hi'
  | 0, _, _ => rfl
  | n + 1, h1, h2 => by
    unfold wid
    rw [wid_congr (fun i hi => h1 i (by omega)) (fun i hi => h2 i (by omega)), h1 n (by omega), h2 n (by omega)]
/-- tightening looks at what counts alone -/
def tEq (N : Nat) (s t : tS) : Prop := s.1 = t.1 ∧ ∀ i, i < N → s.2.1 i = t.2.1 i ∧ s.2.2 i = t.2.2 i
theorem cut1_congr {N : Nat} {f : Nat → Int} {q y : Int} {j : Nat} {s t : tS} (hj : j < N) (h : tEq N s t) : tEq N (cut1 N f q y j s) (cut1 N f q y j t) := by
  obtain ⟨h1, h2⟩ := h
  have ea : cutA N f q y j s.2.1 s.2.2 = cutA N f q y j t.2.1 t.2.2 := by
    unfold cutA
    rw [ext_congr (gr := 1) (fun _ _ => rfl) (fun i hi => (h2 i hi).1) (fun i hi => (h2 i hi).2), ext_congr (gr := 0) (fun _ _ => rfl) (fun i hi => (h2 i hi).1) (fun i hi => (h2 i hi).2), (h2 j hj).1]
  have eb : cutB N f q y j s.2.1 s.2.2 = cutB N f q y j t.2.1 t.2.2 := by
    unfold cutB
    rw [ext_congr (gr := 1) (fun _ _ => rfl) (fun i hi => (h2 i hi).1) (fun i hi => (h2 i hi).2), ext_congr (gr := 0) (fun _ _ => rfl) (fun i hi => (h2 i hi).1) (fun i hi => (h2 i hi).2), (h2 j hj).2]
  unfold cut1
  rw [h1, ea, eb, (h2 j hj).1, (h2 j hj).2]
  split
  · exact ⟨h1, h2⟩
  · split
    · exact ⟨h1, h2⟩
    · split
      · exact ⟨rfl, h2⟩
      · split
        · exact ⟨h1, h2⟩
        · refine ⟨rfl, fun i hi => ?_⟩
          show up1 _ _ _ i = up1 _ _ _ i ∧ up1 _ _ _ i = up1 _ _ _ i
          unfold up1
          split
          · exact ⟨rfl, rfl⟩
          · exact h2 i hi
theorem passRow_congr {N : Nat} {f : Nat → Int} {q y : Int} : ∀ {j : Nat} {s t : tS}, j ≤ N → tEq N s t → tEq N (passRow N f q y j s) (passRow N f q y j t)
  | 0, _, _, _, h => h
  | j + 1, _, _, hj, h => cut1_congr (by omega) (passRow_congr (j := j) (by omega) h)
theorem passK_congr {N P : Nat} {pv : Nat → Nat → Int} {y age y' age' : Nat → Int} (hy : ∀ k, k < P → y k = y' k ∧ age k = age' k) : ∀ {k : Nat} {s t : tS}, k ≤ P → tEq N s t → tEq N (passK N pv y age k s) (passK N pv y' age' k t)
  | 0, _, _, _, h => h
  | k + 1, s, t, hk, h => by
    have h1 := passK_congr (pv := pv) hy (k := k) (s := s) (t := t) (by omega) h
    have h2 := hy k (by omega)
    unfold passK
    rw [h2.1, h2.2]
    split
    · exact passRow_congr (Nat.le_refl N) h1
    · exact h1
theorem tight_congr {N P : Nat} {pv : Nat → Nat → Int} {y age y' age' : Nat → Int} (hy : ∀ k, k < P → y k = y' k ∧ age k = age' k) : ∀ {n : Nat} {lo hi lo' hi' : Nat → Int}, (∀ i, i < N → lo i = lo' i ∧ hi i = hi' i) → tEq N (tight N P pv y age n lo hi) (tight N P pv y' age' n lo' hi')
  | 0, _, _, _, _, h => ⟨rfl, h⟩
  | n + 1, lo, hi, lo', hi', h => by
    have h1 := passK_congr (N := N) (pv := pv) hy (s := (0, lo, hi)) (t := (0, lo', hi')) (Nat.le_refl P) ⟨rfl, h⟩
    unfold tight
    rw [h1.1]
    split
    · exact tight_congr hy h1.2
    · exact h1
theorem VEq.obs {N P K : Nat} {pv v v' : Nat → Nat → Int} (hN : N ≤ 4) (h : VEq N P v v') (hK : K < P) : VEq N P (obsV N P pv v K) (obsV N P pv v' K) := by
  obtain ⟨a, b, c, d7, d8, d9, d10, d11⟩ := h
  have hya : ∀ k, k < P → obsY N pv v K k = obsY N pv v' K k ∧ obsA v K k = obsA v' K k := fun k hk => by
    unfold obsY obsA up1
    rw [(c k hk).1, (c k hk).2, dot_congr2 (n := N) (fun j hj => (a j hj).1)]
    exact ⟨Eq.refl _, Eq.refl _⟩
  have ht := tight_congr (N := N) (pv := pv) hya (n := 100) (lo := v 2) (hi := v 3) (lo' := v' 2) (hi' := v' 3) (fun i hi => ⟨(a i hi).2.1, (a i hi).2.2.1⟩)
  have e : ∀ (w : Nat → Nat → Int) (b : Nat), b ≠ 2 → b ≠ 3 → b ≠ 10 → b ≠ 11 → obsV N P pv w K b = w b := fun w b h1 h2 h3 h4 => by
    unfold obsV
    rw [if_neg h2, if_neg h1, if_neg h4, if_neg h3]
  refine ⟨fun i hi => ⟨(a i hi).1, (ht.2 i hi).1, (ht.2 i hi).2, (a i hi).2.2.2.1, (a i hi).2.2.2.2.1, (a i hi).2.2.2.2.2⟩, fun i k hi hk => ?_, fun k hk => ⟨(hya k hk).1, (hya k hk).2⟩, d7, d8, d9, d10, d11⟩
  rw [e v (6 + i) (by omega) (by omega) (by omega) (by omega), e v' (6 + i) (by omega) (by omega) (by omega) (by omega)]
  exact b i k hi hk
/-- a command: what it makes of a view, if it does not fail -/
def cmdF (N P : Nat) (pv v : Nat → Nat → Int) (c : Nat) : Option (Nat → Nat → Int) :=
  if c / 1000 = 1 then (if v 0 8 < ((c % 10 : Nat) : Int) then none else some (stepF N P pv v ((c / 10 % 100 : Nat) : Int) ((c % 10 : Nat) : Int)))
  else if c / 1000 = 2 then (if v 0 8 < ((c % 10 : Nat) : Int) then none else some (stepF N P pv v (-((c / 10 % 100 : Nat) : Int)) (-((c % 10 : Nat) : Int))))
  else if c / 1000 = 3 then (if c / 100 % 10 = 0 ∧ c % 100 < P then some (obsV N P pv v (c % 100)) else none)
  else if c / 1000 = 4 then (if c / 100 % 10 < N ∧ v 3 (c / 100 % 10) - v 2 (c / 100 % 10) ≤ ((c % 100 : Nat) : Int) then some v else none)
  else if c / 1000 = 5 then (if c / 100 % 10 < N ∧ ((c % 100 : Nat) : Int) ≤ v 2 (c / 100 % 10) then some v else none)
  else if c / 1000 = 6 then (if c % 100 < 10 ∧ c / 100 % 10 < P ∧ v 11 (c / 100 % 10) = ((c % 100 : Nat) : Int) then some v else none)
  else if c / 1000 = 7 then (if c / 100 % 10 < N ∧ v 1 (c / 100 % 10) ≤ ((c % 100 : Nat) : Int) then some v else none)
  else none
/-- the copy's numbers, as they may be -/
def CCk (M : wM) (N P : Nat) (T : Int) : Prop := PlOk (M 19) N P ∧ MoOk (M 1) N P T ∧ BoxOk N (M 1 2) (M 1 3) ∧ TrOk (M 1) N P (M 19)
theorem MoOk.mono {v : Nat → Nat → Int} {N P : Nat} {T T' : Int} (h : MoOk v N P T) (hT : T ≤ T') : MoOk v N P T' := by
  obtain ⟨a1, a2, a3, a4, a5, a6, a7, a8, a9, a10, a11, a12, a13, a14⟩ := h
  exact ⟨a1, a2, a3, a4, a5, a6, fun k hk => by have := a7 k hk; omega, a8, a9, by omega, a11, a12, a13, a14⟩
