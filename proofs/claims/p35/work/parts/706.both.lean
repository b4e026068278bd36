/-! BOTH ALIKE, behind each action -/
theorem setV_ne {v : Nat → Nat → Int} {j i b : Nat} {x : Int} (h : b ≠ j) : setV v j i x b = v b := if_neg h
theorem setV_eq {v : Nat → Nat → Int} {j i : Nat} {x : Int} : setV v j i x j = up1 (v j) i x := if_pos rfl
theorem up1_hit {f : Nat → Int} {i : Nat} {x : Int} : up1 f i x i = x := if_pos rfl
theorem up1_mis {f : Nat → Int} {i k : Nat} {x : Int} (h : k ≠ i) : up1 f i x k = f k := if_neg h
theorem up1_any {f : Nat → Int} {i k : Nat} {x : Int} {A : Int → Prop} (h1 : A (f k)) (h2 : A x) : A (up1 f i x k) := by
  by_cases q : k = i
  · rw [q, up1_hit]; exact h2
  · rw [up1_mis q]; exact h1
theorem MoOk.set1 {v : Nat → Nat → Int} {N P i : Nat} {T x : Int} (h : MoOk v N P T) (hx : -1000000 ≤ x ∧ x ≤ 1000000) : MoOk (setV v 1 i x) N P T := by
  obtain ⟨h1, h2, h3, h4, h5, h6, h7, h8, h9, h10, h11, h12, h13, h14⟩ := h
  refine ⟨fun k hk => ?_, by rw [setV_ne (by decide)]; exact h2, by rw [setV_ne (by decide)]; exact h3, by rw [setV_ne (by decide)]; exact h4, fun a k ha hk => ?_, by rw [setV_ne (by decide)]; exact h6, by rw [setV_ne (by decide)]; exact h7, ?_, ?_, ?_, ?_, ?_, by rw [setV_ne (by decide)]; exact h13, by rw [setV_ne (by decide)]; exact h14⟩
  · rw [setV_eq]; exact up1_any (A := fun y => -1000000 ≤ y ∧ y ≤ 1000000) (h1 k hk) hx
  · rw [setV_ne (by omega)]; exact h5 a k ha hk
  all_goals rw [setV_ne (by decide)]; assumption
theorem MoOk.setG {v : Nat → Nat → Int} {N P i k0 : Nat} {T x : Int} (h : MoOk v N P T) (hi : i < 4) (hx : -99 ≤ x ∧ x ≤ 99) : MoOk (setV v (6 + i) k0 x) N P T := by
  obtain ⟨h1, h2, h3, h4, h5, h6, h7, h8, h9, h10, h11, h12, h13, h14⟩ := h
  refine ⟨by rw [setV_ne (by omega)]; exact h1, by rw [setV_ne (by omega)]; exact h2, by rw [setV_ne (by omega)]; exact h3, by rw [setV_ne (by omega)]; exact h4, fun a k ha hk => ?_, by rw [setV_ne (by omega)]; exact h6, by rw [setV_ne (by omega)]; exact h7, ?_, ?_, ?_, ?_, ?_, by rw [setV_ne (by omega)]; exact h13, by rw [setV_ne (by omega)]; exact h14⟩
  · by_cases q : a = i
    · rw [q, setV_eq]; exact up1_any (A := fun y => -99 ≤ y ∧ y ≤ 99) (by rw [← q]; exact h5 a k ha hk) hx
    · rw [setV_ne (by omega)]; exact h5 a k ha hk
  all_goals rw [setV_ne (by omega)]; assumption
theorem MoOk.set0 {v : Nat → Nat → Int} {N P i : Nat} {T x : Int} (h : MoOk v N P T) (hx : (i = 7 ∧ 0 ≤ x ∧ x ≤ 9) ∨ (i = 8 ∧ 0 ≤ x ∧ x ≤ 99)) : MoOk (setV v 0 i x) N P T := by
  obtain ⟨h1, h2, h3, h4, h5, h6, h7, h8, h9, h10, h11, h12, h13, h14⟩ := h
  refine ⟨by rw [setV_ne (by decide)]; exact h1, by rw [setV_ne (by decide)]; exact h2, by rw [setV_ne (by decide)]; exact h3, by rw [setV_ne (by decide)]; exact h4, fun a k ha hk => by rw [setV_ne (by omega)]; exact h5 a k ha hk, by rw [setV_ne (by decide)]; exact h6, by rw [setV_ne (by decide)]; exact h7, ?_, ?_, ?_, ?_, ?_, by rw [setV_ne (by decide)]; exact h13, by rw [setV_ne (by decide)]; exact h14⟩
  · rw [setV_eq]
    by_cases q : 7 = i
    · rw [← q, up1_hit]; omega
    · rw [up1_mis q]; exact h8
  · rw [setV_eq]
    by_cases q : 8 = i
    · rw [← q, up1_hit]; omega
    · rw [up1_mis q]; exact h9
  all_goals rw [setV_eq, up1_mis (by omega)]; assumption
/-- what a change of other rows leaves -/
theorem TrOk.same {v w : Nat → Nat → Int} {N P : Nat} {pv : Nat → Nat → Int} (h : TrOk v N P pv) (e1 : w 1 = v 1) (e2 : w 2 = v 2) (e3 : w 3 = v 3) (e4 : w 10 = v 10) (e5 : w 11 = v 11) : TrOk w N P pv := by
  unfold TrOk
  rw [e1, e2, e3, e4, e5]
  exact h
theorem BoxOk.same {v w : Nat → Nat → Int} {N : Nat} (h : BoxOk N (v 2) (v 3)) (e2 : w 2 = v 2) (e3 : w 3 = v 3) : BoxOk N (w 2) (w 3) := by rw [e2, e3]; exact h
section PV
variable {N P : Nat} {a b v w : Nat → Nat → Int}
theorem pv_step (hN : N ≤ 4) (h : PvE N P a b) {u d : Int} : VEq N P (stepF N P a v u d) (stepF N P b v u d) := by
  obtain ⟨hA, hBE, hC, hQ⟩ := h
  have he : ∀ (gr : Int) (j : Nat), j < N → endF N a (v 2) (v 3) gr j = endF N b (v 2) (v 3) gr j := fun gr j hj => by
    unfold endF
    rw [ext_congr (f' := b (2 + j)) (fun i hi => hA j i hj hi) (fun _ _ => rfl) (fun _ _ => rfl)]
  refine ⟨fun i hi => ⟨?_, ?_, ?_, ?_, ?_, ?_⟩, fun i k hi hk => ?_, fun k hk => ⟨?_, ?_⟩, ?_, ?_, ?_, ?_, ?_⟩
  · rw [sF_1, sF_1]
    unfold truthF
    rw [dot_congr (f' := b (2 + i)) (g' := v 1) (fun j hj => hA i j hi hj) (fun _ _ => rfl), (hBE i hi).1, (hBE i hi).2]
  · rw [sF_2, sF_2]
    unfold lowF
    rw [he 0 i hi, (hBE i hi).1, (hBE i hi).2]
  · rw [sF_3, sF_3]
    unfold uppF
    rw [he 1 i hi, (hBE i hi).1, (hBE i hi).2]
  · rw [sF_4, sF_4]
    unfold estF
    rw [dot_congr (f' := b (2 + i)) (g' := v 4) (fun j hj => hA i j hi hj) (fun _ _ => rfl), (hBE i hi).1, dot_congr (n := P) (f' := v (6 + i)) (g' := devF N b v) (fun _ _ => rfl) (fun k hk => by
      unfold devF
      rw [hQ k hk, dot_congr (f' := b (9 + k)) (g' := v 4) (fun j hj => hC k j hk hj) (fun _ _ => rfl)])]
  · rw [sF_12, sF_12]; exact he 0 i hi
  · rw [sF_13, sF_13]; exact he 1 i hi
  · rw [sF_b (by omega), sF_b (by omega)]
  · rw [sF_b (by omega), sF_b (by omega)]
  · rw [sF_11, sF_11]
  · rw [sF_0 (by omega), sF_0 (by omega)]
  · rw [sF_0 (by omega), sF_0 (by omega)]
  · rw [sF_9, sF_9]
  · rw [sF_10, sF_10]
  · rw [sF_0b, sF_0b]
theorem cut1_pv {f f' : Nat → Int} {q y : Int} {j : Nat} {s : tS} (h : ∀ i, i < N → f i = f' i) (hj : j < N) : cut1 N f q y j s = cut1 N f' q y j s := by
  have e : ∀ gr : Int, ext N f s.2.1 s.2.2 j gr = ext N f' s.2.1 s.2.2 j gr := fun gr => ext_congr h (fun _ _ => rfl) (fun _ _ => rfl)
  unfold cut1 cutA cutB
  rw [h j hj, e 0, e 1]
theorem passRow_pv {f f' : Nat → Int} {q y : Int} (h : ∀ i, i < N → f i = f' i) : ∀ {j : Nat} {s : tS}, j ≤ N → passRow N f q y j s = passRow N f' q y j s
  | 0, _, _ => rfl
  | j + 1, s, hj => by
    show cut1 N f q y j (passRow N f q y j s) = cut1 N f' q y j (passRow N f' q y j s)
    rw [passRow_pv h (j := j) (by omega), cut1_pv h (by omega)]
theorem passK_pv (h : PvE N P a b) {y age : Nat → Int} : ∀ {k : Nat} {s : tS}, k ≤ P → passK N a y age k s = passK N b y age k s
  | 0, _, _ => rfl
  | k + 1, s, hk => by
    unfold passK
    rw [passK_pv h (k := k) (by omega), h.2.2.2 k (by omega), passRow_pv (f := a (9 + k)) (f' := b (9 + k)) (fun i hi => h.2.2.1 k i (by omega) hi) (Nat.le_refl N)]
theorem tight_pv (h : PvE N P a b) {y age : Nat → Int} : ∀ (n : Nat) (lo hi : Nat → Int), tight N P a y age n lo hi = tight N P b y age n lo hi
  | 0, _, _ => rfl
  | n + 1, lo, hi => by
    unfold tight
    rw [passK_pv h (Nat.le_refl P)]
    split
    · exact tight_pv h n _ _
    · rfl
theorem obsY_pv (h : PvE N P a b) {K : Nat} (hK : K < P) : obsY N a v K = obsY N b v K := by
  unfold obsY
  rw [dot_congr (f' := b (9 + K)) (g' := v 1) (fun j hj => h.2.2.1 K j hK hj) (fun _ _ => rfl), h.2.2.2 K hK]
theorem obsV_pv (h : PvE N P a b) {K : Nat} (hK : K < P) : obsV N P a v K = obsV N P b v K := by
  unfold obsV
  rw [obsY_pv h hK, tight_pv h]
theorem shv_pv (h : PvE N P a b) {i j : Nat} {d : Int} : ∀ (n : Nat) (v : Nat → Nat → Int), shv N P a i j d n v = shv N P b i j d n v
  | 0, _ => rfl
  | m + 1, v => by
    by_cases c : (tight N P b (v 10) (v 11) 100 (up1 (v 2) i (v j i)) (up1 (v 3) i (v j i))).1 = 2
    · have c' : (tight N P a (v 10) (v 11) 100 (up1 (v 2) i (v j i)) (up1 (v 3) i (v j i))).1 = 2 := by rw [tight_pv h]; exact c
      rw [shv_s c, shv_s c', shv_pv h m]
    · have c' : ¬ (tight N P a (v 10) (v 11) 100 (up1 (v 2) i (v j i)) (up1 (v 3) i (v j i))).1 = 2 := by rw [tight_pv h]; exact c
      rw [shv_n (Or.inr c), shv_n (Or.inr c')]
theorem set_at {j i c y : Nat} {x : Int} (e : v c y = w c y) : setV v j i x c y = setV w j i x c y := by
  by_cases q : c = j
  · rw [q, setV_eq, setV_eq]
    rw [q] at e
    by_cases r : y = i
    · rw [r, up1_hit, up1_hit]
    · rw [up1_mis r, up1_mis r]; exact e
  · rw [setV_ne q, setV_ne q]; exact e
theorem set_cg (h : VEq N P v w) {j i : Nat} {x : Int} : VEq N P (setV v j i x) (setV w j i x) := by
  obtain ⟨h1, h2, h3, d7, d8, d9, d10, d11⟩ := h
  exact ⟨fun k hk => ⟨set_at (h1 k hk).1, set_at (h1 k hk).2.1, set_at (h1 k hk).2.2.1, set_at (h1 k hk).2.2.2.1, set_at (h1 k hk).2.2.2.2.1, set_at (h1 k hk).2.2.2.2.2⟩, fun k m hk hm => set_at (h2 k m hk hm), fun k hk => ⟨set_at (h3 k hk).1, set_at (h3 k hk).2⟩, set_at d7, set_at d8, set_at d9, set_at d10, set_at d11⟩
theorem shv_cg {pv : Nat → Nat → Int} {i j : Nat} {d : Int} (hi : i < N) (hj : j = 2 ∨ j = 3) : ∀ (n : Nat) (v w : Nat → Nat → Int), VEq N P v w → (shv N P pv i j d n v).1 = (shv N P pv i j d n w).1 ∧ VEq N P (shv N P pv i j d n v).2 (shv N P pv i j d n w).2
  | 0, v, w, h => ⟨rfl, h⟩
  | m + 1, v, w, h => by
    have e : v j i = w j i := by
      rcases hj with rfl | rfl
      · exact (h.1 i hi).2.1
      · exact (h.1 i hi).2.2.1
    have ht := tight_congr (N := N) (pv := pv) (y := v 10) (age := v 11) (y' := w 10) (age' := w 11) (fun k hk => h.2.2.1 k hk) (n := 100) (lo := up1 (v 2) i (v j i)) (hi := up1 (v 3) i (v j i)) (lo' := up1 (w 2) i (w j i)) (hi' := up1 (w 3) i (w j i)) (fun x hx => by
      rw [e]
      by_cases r : x = i
      · rw [r, up1_hit, up1_hit, up1_hit, up1_hit]; exact ⟨rfl, rfl⟩
      · rw [up1_mis r, up1_mis r, up1_mis r, up1_mis r]; exact ⟨(h.1 x hx).2.1, (h.1 x hx).2.2.1⟩)
    have hs : VEq N P (setV v j i (v j i + d)) (setV w j i (w j i + d)) := by
      rw [e]
      exact set_cg h
    have ih := shv_cg (pv := pv) (d := d) hi hj m _ _ hs
    by_cases c : (tight N P pv (w 10) (w 11) 100 (up1 (w 2) i (w j i)) (up1 (w 3) i (w j i))).1 = 2
    · rw [shv_s c, shv_s (ht.1.trans c)]
      exact ⟨congrArg (· + 1) ih.1, ih.2⟩
    · rw [shv_n (Or.inr c), shv_n (Or.inr (fun q => c (ht.1.symm.trans q)))]
      exact ⟨rfl, h⟩
theorem meets_cg (hp : PvE N P a b) (h : VEq N P v w) {i : Nat} {x : Int} (q : meets N P a (up1 (v 1) i x) (v 10) (v 11)) : meets N P b (up1 (w 1) i x) (w 10) (w 11) := by
  intro k hk ha
  have q2 := q k hk ((h.2.2.1 k hk).2.trans ha)
  rw [← hp.2.2.2 k hk, ← (h.2.2.1 k hk).1, ← q2, dot_congr (f := b (9 + k)) (f' := a (9 + k)) (g' := up1 (v 1) i x) (fun j hj => (hp.2.2.1 k j hk hj).symm) (fun j hj => by
    by_cases r : j = i
    · rw [r, up1_hit, up1_hit]
    · rw [up1_mis r, up1_mis r]; exact (h.1 j hj).1.symm)]
end PV
/-- a moment of one -/
def MoP (N P : Nat) (T : Int) (pv v : Nat → Nat → Int) : Prop := MoOk v N P T ∧ BoxOk N (v 2) (v 3) ∧ TrOk v N P pv
/-- a moment of both -/
def MPr (N P : Nat) (T : Int) (M W : wM) (i j : Nat) : Prop := MoP N P T (M 19) (M i) ∧ MoP N P T (W 19) (W j) ∧ VEq N P (M i) (W j)
/-- both, with what they remember and keep -/
def Bo (N P L LL nx nn ct : Nat) (T : Int) (M W : wM) : Prop := Lo N P L nx ct T M ∧ Lo N P LL nn ct T W ∧ Al N P M W ∧ (∀ t, t < ct → MPr N P T M W (5 + (nx + 13 - t) % 14) (5 + (nn + 13 - t) % 14)) ∧ (∀ x, x < 2 → M 25 2 x = W 25 2 x ∧ (M 25 2 x = 1 → MPr N P T M W (3 + x) (3 + x))) ∧ FM (M 2) ∧ FM (W 2)
section BO
variable {N P L LL nx nn ct : Nat} {T T' : Int} {M W M1 W1 : wM}
theorem MPr.up {i j : Nat} (h : MPr N P T M W i j) (hT : T ≤ T') : MPr N P T' M W i j := ⟨⟨h.1.1.mono hT, h.1.2⟩, ⟨h.2.1.1.mono hT, h.2.1.2⟩, h.2.2⟩
theorem MPr.to {i j i' j' : Nat} (h : MPr N P T M W i j) (e1 : M1 19 = M 19) (e2 : W1 19 = W 19) (e3 : M1 i' = M i) (e4 : W1 j' = W j) : MPr N P T M1 W1 i' j' := by
  unfold MPr
  rw [e1, e2, e3, e4]
  exact h
theorem Bo.up (h : Bo N P L LL nx nn ct T M W) (hT : T ≤ T') (h2 : T' ≤ 1000) : Bo N P L LL nx nn ct T' M W := ⟨h.1.up hT h2, h.2.1.up hT h2, h.2.2.1, fun t ht => (h.2.2.2.1 t ht).up hT, fun x hx => ⟨(h.2.2.2.2.1 x hx).1, fun q => ((h.2.2.2.2.1 x hx).2 q).up hT⟩, h.2.2.2.2.2⟩
theorem Bo.scr (h : Bo N P L LL nx nn ct T M W) (s1 : ScrEq M M1) (s2 : ScrEq W W1) : Bo N P L LL nx nn ct T M1 W1 := by
  have e : ∀ x, x ≠ 1 → x < 20 → M1 x = M x ∧ W1 x = W x := fun x h1 h2 => ⟨s1 x h1 (by omega) (by omega) (by omega) (by omega) (by omega), s2 x h1 (by omega) (by omega) (by omega) (by omega) (by omega)⟩
  have e5 : M1 25 = M 25 ∧ W1 25 = W 25 := ⟨s1 25 (by decide) (by decide) (by decide) (by decide) (by decide) (by decide), s2 25 (by decide) (by decide) (by decide) (by decide) (by decide) (by decide)⟩
  have e9 := e 19 (by decide) (by decide)
  refine ⟨h.1.scr s1, h.2.1.scr s2, h.2.2.1.scr s1 s2, fun t ht => (h.2.2.2.1 t ht).to e9.1 e9.2 (e _ (by omega) (by omega)).1 (e _ (by omega) (by omega)).2, fun x hx => ?_, by rw [(e 2 (by decide) (by decide)).1]; exact h.2.2.2.2.2.1, by rw [(e 2 (by decide) (by decide)).2]; exact h.2.2.2.2.2.2⟩
  rw [e5.1, e5.2]
  exact ⟨(h.2.2.2.2.1 x hx).1, fun q => ((h.2.2.2.2.1 x hx).2 q).to e9.1 e9.2 (e _ (by omega) (by omega)).1 (e _ (by omega) (by omega)).2⟩
theorem Bo.noted (h : Bo N P L LL nx nn ct T M W) (n1 : Noted M M1 nx ct) (n2 : Noted W W1 nn ct) (m1 : MoP N P T' (M 19) (M1 0)) (m2 : MoP N P T' (W 19) (W1 0)) (hv : VEq N P (M1 0) (W1 0)) (hT : T ≤ T') (hT2 : T' ≤ 1000) : Bo N P L LL ((nx + 1) % 14) ((nn + 1) % 14) (min (ct + 1) 14) T' M1 W1 := by
  have hx := h.1.nx14
  have hn := h.2.1.nx14
  have ht0 := h.1.t
  have e1 : ∀ x, x ≠ 0 → x ≠ 1 → x ≠ 5 + nx → (x < 20 ∨ x = 25) → M1 x = M x := fun x a b c d => n1.2.2.2 x a (by omega) c b (by omega) (by omega) (by omega) (by omega) (by omega)
  have e2 : ∀ x, x ≠ 0 → x ≠ 1 → x ≠ 5 + nn → (x < 20 ∨ x = 25) → W1 x = W x := fun x a b c d => n2.2.2.2 x a (by omega) c b (by omega) (by omega) (by omega) (by omega) (by omega)
  have a9 := e1 19 (by omega) (by omega) (by omega) (by omega)
  have b9 := e2 19 (by omega) (by omega) (by omega) (by omega)
  refine ⟨h.1.noted n1 m1.1 m1.2.1 m1.2.2 (by omega), h.2.1.noted n2 m2.1 m2.2.1 m2.2.2 (by omega), ⟨by rw [a9, b9]; exact h.2.2.1.1, hv⟩, fun t ht => ?_, fun x hx => ?_, by rw [e1 2 (by omega) (by omega) (by omega) (by omega)]; exact h.2.2.2.2.2.1, by rw [e2 2 (by omega) (by omega) (by omega) (by omega)]; exact h.2.2.2.2.2.2⟩
  · by_cases t0 : t = 0
    · have f1 : M1 (5 + ((nx + 1) % 14 + 13 - t) % 14) = M 0 := by rw [show 5 + ((nx + 1) % 14 + 13 - t) % 14 = 5 + nx by omega]; exact n1.1
      have f2 : W1 (5 + ((nn + 1) % 14 + 13 - t) % 14) = W 0 := by rw [show 5 + ((nn + 1) % 14 + 13 - t) % 14 = 5 + nn by omega]; exact n2.1
      have h0 : MPr N P T M W 0 0 := ⟨⟨h.1.ck.2.1, h.1.ck.2.2, h.1.tr⟩, ⟨h.2.1.ck.2.1, h.2.1.ck.2.2, h.2.1.tr⟩, h.2.2.1.2⟩
      exact (h0.to a9 b9 f1 f2).up hT
    · have f1 : M1 (5 + ((nx + 1) % 14 + 13 - t) % 14) = M (5 + (nx + 13 - (t - 1)) % 14) := by rw [show 5 + ((nx + 1) % 14 + 13 - t) % 14 = 5 + (nx + 13 - (t - 1)) % 14 by omega]; exact e1 _ (by omega) (by omega) (by omega) (by omega)
      have f2 : W1 (5 + ((nn + 1) % 14 + 13 - t) % 14) = W (5 + (nn + 13 - (t - 1)) % 14) := by rw [show 5 + ((nn + 1) % 14 + 13 - t) % 14 = 5 + (nn + 13 - (t - 1)) % 14 by omega]; exact e2 _ (by omega) (by omega) (by omega) (by omega)
      exact ((h.2.2.2.1 (t - 1) (by omega)).to a9 b9 f1 f2).up hT
  · rw [e1 25 (by omega) (by omega) (by omega) (by omega), e2 25 (by omega) (by omega) (by omega) (by omega)]
    exact ⟨(h.2.2.2.2.1 x hx).1, fun q => (((h.2.2.2.2.1 x hx).2 q).to a9 b9 (e1 _ (by omega) (by omega) (by omega) (by omega)) (e2 _ (by omega) (by omega) (by omega) (by omega))).up hT⟩
/-- the moments that are not touched -/
theorem Bo.undo {z z' : Int} (h : Bo N P L LL nx nn ct T M W) (h1 : UndoP nx ct M M1 z) (h2 : UndoP nn ct W W1 z') : z = z' ∧ ∃ nx' nn' ct' : Nat, Bo N P L LL nx' nn' ct' T M1 W1 := by
  have hx := h.1.nx14
  have hn := h.2.1.nx14
  have hc := h.1.ct14
  rcases h1 with ⟨a1, a2, a3, a4, a5, a6⟩ | ⟨a1, a2, a3⟩ <;> rcases h2 with ⟨b1, b2, b3, b4, b5, b6⟩ | ⟨b1, b2, b3⟩
  · have a9 := a6 19 (by decide) (by decide)
    have b9 := b6 19 (by decide) (by decide)
    have h0 := h.2.2.2.1 0 (by omega)
    rw [show nx + 13 - 0 = nx + 13 by omega, show nn + 13 - 0 = nn + 13 by omega] at h0
    have h0' : MPr N P T M1 W1 0 0 := h0.to a9 b9 a3 b3
    have p1 : PlOk (M1 19) N P := by rw [a9]; exact h.1.ck.1
    have p2 : PlOk (W1 19) N P := by rw [b9]; exact h.2.1.ck.1
    refine ⟨by omega, (nx + 13) % 14, (nn + 13) % 14, ct - 1, ⟨⟨p1, h0'.1.1, h0'.1.2.1⟩, h0'.1.2.2, h.1.t, a4, by omega, by rw [a5]; omega, by omega, by rw [a6 27 (by decide) (by decide)]; exact h.1.tx, by rw [a6 25 (by decide) (by decide)]; exact h.1.sl⟩, ⟨⟨p2, h0'.2.1.1, h0'.2.1.2.1⟩, h0'.2.1.2.2, h.2.1.t, b4, by omega, by rw [b5]; omega, by omega, by rw [b6 27 (by decide) (by decide)]; exact h.2.1.tx, by rw [b6 25 (by decide) (by decide)]; exact h.2.1.sl⟩, ⟨by rw [a9, b9]; exact h.2.2.1.1, h0'.2.2⟩, fun t ht => ?_, fun x hx => ?_, by rw [a6 2 (by decide) (by decide)]; exact h.2.2.2.2.2.1, by rw [b6 2 (by decide) (by decide)]; exact h.2.2.2.2.2.2⟩
    · rw [show ((nx + 13) % 14 + 13 - t) % 14 = (nx + 13 - (t + 1)) % 14 by omega, show ((nn + 13) % 14 + 13 - t) % 14 = (nn + 13 - (t + 1)) % 14 by omega]
      exact (h.2.2.2.1 (t + 1) (by omega)).to a9 b9 (a6 _ (by omega) (by omega)) (b6 _ (by omega) (by omega))
    · rw [a6 25 (by decide) (by decide), b6 25 (by decide) (by decide)]
      exact ⟨(h.2.2.2.2.1 x hx).1, fun q => ((h.2.2.2.2.1 x hx).2 q).to a9 b9 (a6 _ (by omega) (by omega)) (b6 _ (by omega) (by omega))⟩
  · exfalso; omega
  · exfalso; omega
  · exact ⟨by omega, nx, nn, ct, h.scr a3 b3⟩
theorem Bo.save {z z' : Int} {x : Nat} (hx2 : x < 2) (h : Bo N P L LL nx nn ct T M W) (h1 : SaveP M M1 x z) (h2 : SaveP W W1 x z') : z = z' ∧ Bo N P L LL nx nn ct T M1 W1 ∧ M1 25 2 x = 1 := by
  obtain ⟨a1, a2, a3, a4, a5⟩ := h1
  obtain ⟨b1, b2, b3, b4, b5⟩ := h2
  have a9 := a5 19 (by omega) (by decide)
  have b9 := b5 19 (by omega) (by decide)
  have f0 := a5 0 (by omega) (by decide)
  have g0 := b5 0 (by omega) (by decide)
  have h0 : MPr N P T M W 0 0 := ⟨⟨h.1.ck.2.1, h.1.ck.2.2, h.1.tr⟩, ⟨h.2.1.ck.2.1, h.2.1.ck.2.2, h.2.1.tr⟩, h.2.2.1.2⟩
  have h0' : MPr N P T M1 W1 0 0 := h0.to a9 b9 f0 g0
  have p1 : PlOk (M1 19) N P := by rw [a9]; exact h.1.ck.1
  have p2 : PlOk (W1 19) N P := by rw [b9]; exact h.2.1.ck.1
  have s1 : ∀ y, y < 2 → M1 25 2 y = 0 ∨ M1 25 2 y = 1 := fun y hy => by
    by_cases q : y = x
    · rw [q, a3]; exact Or.inr rfl
    · rw [a4 y q]; exact h.1.sl y hy
  have s2 : ∀ y, y < 2 → W1 25 2 y = 0 ∨ W1 25 2 y = 1 := fun y hy => by
    by_cases q : y = x
    · rw [q, b3]; exact Or.inr rfl
    · rw [b4 y q]; exact h.2.1.sl y hy
  refine ⟨by rw [a1, b1]; exact h.2.2.1.2.2.2.2.2.2.1, ⟨⟨⟨p1, h0'.1.1, h0'.1.2.1⟩, h0'.1.2.2, h.1.t, by rw [a5 26 (by omega) (by decide)]; exact h.1.nxe, h.1.nx14, by rw [a5 26 (by omega) (by decide)]; exact h.1.cte, h.1.ct14, by rw [a5 27 (by omega) (by decide)]; exact h.1.tx, s1⟩, ⟨⟨p2, h0'.2.1.1, h0'.2.1.2.1⟩, h0'.2.1.2.2, h.2.1.t, by rw [b5 26 (by omega) (by decide)]; exact h.2.1.nxe, h.2.1.nx14, by rw [b5 26 (by omega) (by decide)]; exact h.2.1.cte, h.2.1.ct14, by rw [b5 27 (by omega) (by decide)]; exact h.2.1.tx, s2⟩, ⟨by rw [a9, b9]; exact h.2.2.1.1, h0'.2.2⟩, fun t ht => (h.2.2.2.1 t ht).to a9 b9 (a5 _ (by omega) (by omega)) (b5 _ (by omega) (by omega)), fun y hy => ?_, by rw [a5 2 (by omega) (by decide)]; exact h.2.2.2.2.2.1, by rw [b5 2 (by omega) (by decide)]; exact h.2.2.2.2.2.2⟩, a3⟩
  by_cases q : y = x
  · rw [q, a3, b3]
    exact ⟨rfl, fun _ => h0.to a9 b9 a2 b2⟩
  · rw [a4 y q, b4 y q]
    exact ⟨(h.2.2.2.2.1 y hy).1, fun r => ((h.2.2.2.2.1 y hy).2 r).to a9 b9 (a5 _ (by omega) (by omega)) (b5 _ (by omega) (by omega))⟩
theorem Bo.rest {z z' : Int} {x : Nat} (hx2 : x < 2) (h : Bo N P L LL nx nn ct T M W) (h1 : RestP M M1 x z) (h2 : RestP W W1 x z') : z = z' ∧ ∃ ct' : Nat, Bo N P L LL nx nn ct' T M1 W1 ∧ (M 25 2 x = 1 → ct' = 0 ∧ z = M (3 + x) 0 9) := by
  have hs := h.2.2.2.2.1 x hx2
  rcases h1 with ⟨a1, a2, a3, a4, a5, a6⟩ | ⟨a1, a2, a3⟩ <;> rcases h2 with ⟨b1, b2, b3, b4, b5, b6⟩ | ⟨b1, b2, b3⟩
  · have a9 := a6 19 (by decide) (by decide)
    have b9 := b6 19 (by decide) (by decide)
    have h0' : MPr N P T M1 W1 0 0 := (hs.2 a1).to a9 b9 a3 b3
    have p1 : PlOk (M1 19) N P := by rw [a9]; exact h.1.ck.1
    have p2 : PlOk (W1 19) N P := by rw [b9]; exact h.2.1.ck.1
    refine ⟨by rw [a2, b2]; exact (hs.2 a1).2.2.2.2.2.2.2.1, 0, ⟨⟨⟨p1, h0'.1.1, h0'.1.2.1⟩, h0'.1.2.2, h.1.t, by rw [a5]; exact h.1.nxe, h.1.nx14, a4, by omega, by rw [a6 27 (by decide) (by decide)]; exact h.1.tx, by rw [a6 25 (by decide) (by decide)]; exact h.1.sl⟩, ⟨⟨p2, h0'.2.1.1, h0'.2.1.2.1⟩, h0'.2.1.2.2, h.2.1.t, by rw [b5]; exact h.2.1.nxe, h.2.1.nx14, b4, by omega, by rw [b6 27 (by decide) (by decide)]; exact h.2.1.tx, by rw [b6 25 (by decide) (by decide)]; exact h.2.1.sl⟩, ⟨by rw [a9, b9]; exact h.2.2.1.1, h0'.2.2⟩, fun t ht => absurd ht (Nat.not_lt_zero t), fun y hy => ?_, by rw [a6 2 (by decide) (by decide)]; exact h.2.2.2.2.2.1, by rw [b6 2 (by decide) (by decide)]; exact h.2.2.2.2.2.2⟩, fun _ => ⟨rfl, a2⟩⟩
    rw [a6 25 (by decide) (by decide), b6 25 (by decide) (by decide)]
    exact ⟨(h.2.2.2.2.1 y hy).1, fun q => ((h.2.2.2.2.1 y hy).2 q).to a9 b9 (a6 _ (by omega) (by omega)) (b6 _ (by omega) (by omega))⟩
  · exfalso; have := hs.1; omega
  · exfalso; have := hs.1; omega
  · exact ⟨by omega, ct, h.scr a3 b3, fun q => by omega⟩
theorem MoP_scr (lo : Lo N P L nx ct T M) (s : ScrEq M M1) : MoP N P (T + 1) (M 19) (M1 0) := by
  rw [s.z0]
  exact ⟨lo.ck.2.1.mono (by omega), lo.ck.2.2, lo.tr⟩
/-- one's moment behind an action that is remembered -/
theorem act_one {x y z : Int} (lo : Lo N P L nx ct T M) (h : ActP N P nx ct T M M1 x y z) (hx : 0 ≤ x) (hy : 0 ≤ y) : x.tmod 10 ≤ 7 → (Noted M M1 nx ct ∧ MoP N P (T + 1) (M 19) (M1 0)) ∨ (x.tmod 10 = 5 ∧ ScrEq M M1) := by
  intro h7
  have x10 := tmn (a := x) (b := 10) hx (by decide)
  have hn := lo.n
  have hT := lo.t
  have hbo := lo.bo
  have d3 := tdn (a := y) (b := 3) hy (by decide)
  have d4 := tdn (a := y) (b := 4) hy (by decide)
  have d12 := tdn (a := y) (b := 12) hy (by decide)
  have d32 := tdn (a := y) (b := 32) hy (by decide)
  have d64 := tdn (a := y) (b := 64) hy (by decide)
  obtain ⟨a0, a3, a5, a60, a61, a62, a7, -, -, -⟩ := h
  rcases (show x.tmod 10 ≤ 2 ∨ (x.tmod 10 = 3 ∨ x.tmod 10 = 4) ∨ x.tmod 10 = 5 ∨ x.tmod 10 = 6 ∨ x.tmod 10 = 7 by omega) with q | q | q | q | q
  · obtain ⟨-, hs, hnt⟩ := a0 q
    have y21 := tmn (a := y) (b := 21) hy (by decide)
    have yB := tmn (a := y.tdiv 32) (b := 2 * M 0 0 8 + 1) (by omega) (by omega)
    have ok := StepV.ok lo.ck.1 lo.ck.2.1 lo.ck.2.2 hs (by omega)
    exact Or.inl ⟨hnt, ok.1, ok.2, StepV.tr lo.ck.2.1 lo.tr hs (by omega)⟩
  · obtain ⟨-, ho, hnt⟩ := a3 q
    have yP := tmn (a := y) (b := (P : Int)) hy (by omega)
    have ok := obs_ok lo.ck.1 lo.ck.2.1 hT.1 lo.ck.2.2 lo.tr (K := (y.tmod P).toNat) (by omega)
    rw [← ho] at ok
    exact Or.inl ⟨hnt, ok.1.mono (by omega), ok.2⟩
  · rcases a5 q with ⟨b1, -, b3, b4⟩ | ⟨-, -, b3⟩
    · have yN := tmn (a := y) (b := (N : Int)) hy (by omega)
      have hb := lo.box (i := (y.tmod N).toNat) (by omega)
      have yW := tmn (a := y.tdiv 4) (b := 1 + M 0 3 (y.tmod N).toNat - M 0 2 (y.tmod N).toNat) (by omega) (by omega)
      refine Or.inl ⟨b4, ?_⟩
      rw [b3]
      refine ⟨(lo.ck.2.1.set1 (by omega)).mono (by omega), lo.ck.2.2.same (setV_ne (by omega)) (setV_ne (by omega)), ?_, ?_⟩
      · rw [setV_eq, setV_ne (by decide), setV_ne (by decide)]
        intro k hk
        by_cases e : k = (y.tmod N).toNat
        · rw [e, up1_hit]; omega
        · rw [up1_mis e]; exact lo.tr.1 k hk
      · rw [setV_eq, setV_ne (by decide), setV_ne (by decide)]
        exact b1
    · exact Or.inr ⟨q, b3⟩
  · have y3 := tmn (a := y) (b := 3) hy (by decide)
    have g1 := tmn (a := y.tdiv 3) (b := (N : Int)) (by omega) (by omega)
    have g2 := tmn (a := y.tdiv 12) (b := (P : Int)) (by omega) (by omega)
    have g3 := tmn (a := y.tdiv 64) (b := 61) (by omega) (by decide)
    have g4 := tmn (a := y.tdiv 3) (b := 10) (by omega) (by decide)
    have g5 := tmn (a := y.tdiv 3) (b := 12) (by omega) (by decide)
    rcases (show y.tmod 3 = 0 ∨ y.tmod 3 = 1 ∨ y.tmod 3 = 2 by omega) with r | r | r
    · obtain ⟨b1, -, b3⟩ := a60 q r
      refine Or.inl ⟨b3, ?_⟩
      rw [b1]
      exact ⟨(lo.ck.2.1.setG (by omega) (by omega)).mono (by omega), lo.ck.2.2.same (setV_ne (by omega)) (setV_ne (by omega)), lo.tr.same (setV_ne (by omega)) (setV_ne (by omega)) (setV_ne (by omega)) (setV_ne (by omega)) (setV_ne (by omega))⟩
    · obtain ⟨b1, -, b3⟩ := a61 q r
      refine Or.inl ⟨b3, ?_⟩
      rw [b1]
      exact ⟨(lo.ck.2.1.set0 (Or.inl ⟨rfl, by omega⟩)).mono (by omega), lo.ck.2.2.same (setV_ne (by omega)) (setV_ne (by omega)), lo.tr.same (setV_ne (by omega)) (setV_ne (by omega)) (setV_ne (by omega)) (setV_ne (by omega)) (setV_ne (by omega))⟩
    · obtain ⟨b1, -, b3⟩ := a62 q r
      refine Or.inl ⟨b3, ?_⟩
      rw [b1]
      exact ⟨(lo.ck.2.1.set0 (Or.inr ⟨rfl, by omega⟩)).mono (by omega), lo.ck.2.2.same (setV_ne (by omega)) (setV_ne (by omega)), lo.tr.same (setV_ne (by omega)) (setV_ne (by omega)) (setV_ne (by omega)) (setV_ne (by omega)) (setV_ne (by omega))⟩
  · obtain ⟨-, -, b3, b4, b5, b6⟩ := a7 q
    exact Or.inl ⟨b6, b3.mono (by omega), b4, b5⟩
/-- what both answer to the same action, and the moments behind it -/
theorem act_two {x y z z' : Int} (h : Bo N P L LL nx nn ct T M W) (h1 : ActP N P nx ct T M M1 x y z) (h2 : ActP N P nn ct T W W1 x y z') (hx : 0 ≤ x) (hy : 0 ≤ y) : x.tmod 10 ≤ 7 → z = z' ∧ ((Noted M M1 nx ct → Noted W W1 nn ct → VEq N P (M1 0) (W1 0)) ∧ (x.tmod 10 = 5 → (ScrEq M M1 ∧ ScrEq W W1) ∨ (Noted M M1 nx ct ∧ Noted W W1 nn ct))) := by
  intro h7
  have x10 := tmn (a := x) (b := 10) hx (by decide)
  have hn := h.1.n
  have hbo := h.1.bo
  have d3 := tdn (a := y) (b := 3) hy (by decide)
  have d4 := tdn (a := y) (b := 4) hy (by decide)
  have d12 := tdn (a := y) (b := 12) hy (by decide)
  have d32 := tdn (a := y) (b := 32) hy (by decide)
  have hp := h.2.2.1.1
  have hv := h.2.2.1.2
  have yN := tmn (a := y) (b := (N : Int)) hy (by omega)
  have yP := tmn (a := y) (b := (P : Int)) hy (by omega)
  have e8 : W 0 0 8 = M 0 0 8 := hv.2.2.2.2.1.symm
  have e9 : W 0 0 9 = M 0 0 9 := hv.2.2.2.2.2.1.symm
  obtain ⟨a0, a3, a5, a60, a61, a62, a7, -, -, -⟩ := h1
  obtain ⟨b0, b3, b5, b60, b61, b62, b7, -, -, -⟩ := h2
  rcases (show x.tmod 10 ≤ 2 ∨ (x.tmod 10 = 3 ∨ x.tmod 10 = 4) ∨ x.tmod 10 = 5 ∨ x.tmod 10 = 6 ∨ x.tmod 10 = 7 by omega) with q | q | q | q | q
  · obtain ⟨c1, c2, -⟩ := a0 q
    obtain ⟨f1, f2, -⟩ := b0 q
    rw [e9] at f1
    rw [e8] at f2
    exact ⟨by omega, fun _ _ => ((c2.eqF hn.2.1).trans (hv.stepFF hn.2.1)).trans ((pv_step hn.2.1 hp).trans (f2.eqF hn.2.1).symm), fun r => by omega⟩
  · obtain ⟨c1, c2, -⟩ := a3 q
    obtain ⟨f1, f2, -⟩ := b3 q
    have hK : (y.tmod P).toNat < P := by omega
    have eV := hv.obs (pv := M 19) hn.2.1 hK
    rw [obsV_pv (v := W 0) hp hK, ← c2, ← f2] at eV
    have e10 : obsY N (M 19) (M 0) (y.tmod P).toNat (y.tmod P).toNat = obsY N (W 19) (W 0) (y.tmod P).toNat (y.tmod P).toNat := by
      rw [← obsY_pv (v := W 0) hp hK]
      unfold obsY
      rw [up1_hit, up1_hit, dot_congr2 (n := N) (fun j hj => (hv.1 j hj).1)]
    exact ⟨by rw [c1, f1, e10], fun _ _ => eV, fun r => by omega⟩
  · have c := a5 q
    have f := b5 q
    have hi : (y.tmod N).toNat < N := by omega
    have e2 : W 0 2 (y.tmod N).toNat = M 0 2 (y.tmod N).toNat := (hv.1 _ hi).2.1.symm
    have e3 : W 0 3 (y.tmod N).toNat = M 0 3 (y.tmod N).toNat := (hv.1 _ hi).2.2.1.symm
    rw [e2, e3] at f
    rcases c with ⟨c1, c2, c3, c4⟩ | ⟨c1, c2, c3⟩ <;> rcases f with ⟨f1, f2, f3, f4⟩ | ⟨f1, f2, f3⟩
    · refine ⟨by rw [c2, f2]; exact (hv.1 _ hi).1, fun _ _ => ?_, fun _ => Or.inr ⟨c4, f4⟩⟩
      rw [c3, f3]
      exact set_cg hv
    · exact absurd (meets_cg hp hv c1) f1
    · exact absurd (meets_cg hp.symm hv.symm f1) c1
    · refine ⟨by omega, fun n1 n2 => ?_, fun _ => Or.inl ⟨c3, f3⟩⟩
      rw [c3.z0, f3.z0]
      exact hv
  · have y3 := tmn (a := y) (b := 3) hy (by decide)
    have g1 := tmn (a := y.tdiv 3) (b := (N : Int)) (by omega) (by omega)
    have g2 := tmn (a := y.tdiv 12) (b := (P : Int)) (by omega) (by omega)
    rcases (show y.tmod 3 = 0 ∨ y.tmod 3 = 1 ∨ y.tmod 3 = 2 by omega) with r | r | r
    · obtain ⟨c1, c2, -⟩ := a60 q r
      obtain ⟨f1, f2, -⟩ := b60 q r
      refine ⟨by rw [c2, f2]; exact hv.2.1 _ _ (by omega) (by omega), fun _ _ => ?_, fun r => by omega⟩
      rw [c1, f1]
      exact set_cg hv
    · obtain ⟨c1, c2, -⟩ := a61 q r
      obtain ⟨f1, f2, -⟩ := b61 q r
      refine ⟨by rw [c2, f2]; exact hv.2.2.2.1, fun _ _ => ?_, fun r => by omega⟩
      rw [c1, f1]
      exact set_cg hv
    · obtain ⟨c1, c2, -⟩ := a62 q r
      obtain ⟨f1, f2, -⟩ := b62 q r
      refine ⟨by rw [c2, f2]; exact hv.2.2.2.2.1, fun _ _ => ?_, fun r => by omega⟩
      rw [c1, f1]
      exact set_cg hv
  · obtain ⟨c1, c2, -⟩ := a7 q
    obtain ⟨f1, f2, -⟩ := b7 q
    have hi : (y.tmod N).toNat < N := by omega
    have s1 := shv_cg (pv := M 19) (P := P) (d := 1) hi (Or.inl (rfl : (2 : Nat) = 2)) (1 + (y.tdiv 4).tmod 9).toNat _ _ hv
    rw [shv_pv hp _ (W 0)] at s1
    have s2 := shv_cg (pv := M 19) (P := P) (d := -1) hi (Or.inr (rfl : (3 : Nat) = 3)) (1 + (y.tdiv 4).tmod 9).toNat _ _ s1.2
    rw [shv_pv hp _ (shv N P (W 19) (y.tmod N).toNat 2 1 (1 + (y.tdiv 4).tmod 9).toNat (W 0)).2] at s2
    refine ⟨by rw [c1, f1, s1.1, s2.1], fun _ _ => ?_, fun r => by omega⟩
    rw [c2, f2]
    exact s2.2
/-- both behind the same action -/
theorem Bo.act {x y z z' : Int} (h : Bo N P L LL nx nn ct T M W) (hT : T + 1 ≤ 1000) (h1 : ActP N P nx ct T M M1 x y z) (h2 : ActP N P nn ct T W W1 x y z') (hx : 0 ≤ x) (hy : 0 ≤ y) : z = z' ∧ ∃ nx' nn' ct' : Nat, Bo N P L LL nx' nn' ct' (T + 1) M1 W1 := by
  have x10 := tmn (a := x) (b := 10) hx (by decide)
  rcases (show x.tmod 10 ≤ 7 ∨ x.tmod 10 = 8 ∨ x.tmod 10 = 9 by omega) with q | q | q
  · obtain ⟨e, hv, h5⟩ := act_two h h1 h2 hx hy q
    refine ⟨e, ?_⟩
    rcases act_one h.1 h1 hx hy q with ⟨n1, m1⟩ | ⟨q5, s1⟩ <;> rcases act_one h.2.1 h2 hx hy q with ⟨n2, m2⟩ | ⟨q5', s2⟩
    · exact ⟨_, _, _, h.noted n1 n2 m1 m2 (hv n1 n2) (by omega) hT⟩
    · rcases h5 q5' with ⟨t1, t2⟩ | ⟨t1, t2⟩
      · exact ⟨_, _, _, (h.scr t1 t2).up (by omega) hT⟩
      · exact ⟨_, _, _, h.noted t1 t2 m1 (MoP_scr h.2.1 s2) (hv t1 t2) (by omega) hT⟩
    · rcases h5 q5 with ⟨t1, t2⟩ | ⟨t1, t2⟩
      · exact ⟨_, _, _, (h.scr t1 t2).up (by omega) hT⟩
      · exact ⟨_, _, _, h.noted t1 t2 (MoP_scr h.1 s1) m2 (hv t1 t2) (by omega) hT⟩
    · exact ⟨_, _, _, (h.scr s1 s2).up (by omega) hT⟩
  · have hu := h.undo (h1.2.2.2.2.2.2.2.1 q) (h2.2.2.2.2.2.2.2.1 q)
    obtain ⟨e, n1, n2, c, hb⟩ := hu
    exact ⟨e, n1, n2, c, hb.up (by omega) hT⟩
  · have y2 := tmn (a := y) (b := 2) hy (by decide)
    rcases (show y.tmod 2 = 0 ∨ y.tmod 2 = 1 by omega) with r | r
    · have hs := h.save (by decide) (h1.2.2.2.2.2.2.2.2.1 q r) (h2.2.2.2.2.2.2.2.2.1 q r)
      exact ⟨hs.1, nx, nn, ct, hs.2.1.up (by omega) hT⟩
    · obtain ⟨e, c, hb, -⟩ := h.rest (by decide) (h1.2.2.2.2.2.2.2.2.2 q r) (h2.2.2.2.2.2.2.2.2.2 q r)
      exact ⟨e, nx, nn, c, hb.up (by omega) hT⟩
end BO
