/-! ROWS of cells, calls and ends -/
theorem q_mul_lt {a : Int} {i : Nat} (h : a = (i : Int)) : a.toNat = i := by omega
section WH
variable {p : Program} {l : Launch} {e : Env} {R : Room} {s : State} {m : MethodId} {args : Array Value} {below : List Frame} {meth : Method} {c : Code} {k n : Nat} {Q : State → Prop} {G : wG} {M : wM} {nL : Nat} {own : String} {cc : ByteArray} {pc pc' tgt : Nat} {lc lc' : List (Nat × Value)} {st st0 : List Value}
theorem wX.sta (X : wX p s m args meth c G nL own cc) : wSt G s := X.2.2.2.2.2.1
theorem wX.lay (X : wX p s m args meth c G nL own cc) : wLay G := X.2.2.2.2.2.2.1
theorem wX.low (X : wX p s m args meth c G nL own cc) : True := trivial
theorem wX.locks (X : wX p s m args meth c G nL own cc) : meth.locks = false := X.2.2.2.2.2.2.2.2
theorem wX.w (X : wX p s m args meth c G nL own cc) {w : Cond} (h : w ∈ GW) : w.before args s = true := X.2.2.2.2.1 w h
theorem wX.ownC (X : wX p s m args meth c G nL own cc) : s.vm.findClass own = some m.cls := X.2.2.2.1
theorem wX.arr (X : wX p s m args meth c G nL own cc) {t : Nat} (ht : t < 7) (N : Nat) (z : Nat → Value) : s.isArrayOf (arrV (G.1 t) N z) (wty t) := X.sta.2.1 t ht N z
theorem w_one {G : wG} {M : wM} {H : Heap} {o j ci : Nat} {fs : List (Option (Nat × Nat))} (hW : wW G M H) (hk : wkd o j = some (.inl (ci, fs))) : va_P G.2.1 vwCl [(G.2.2.1 o j, .inr (ci, wFs G (M o j) fs 0))] H := by
  intro i q hq
  have h0 : i < 1 := (List.getElem?_eq_some_iff.mp hq).1
  rw [show i = 0 by omega] at hq
  cases hq
  exact hW o j _ hk
theorem r_getf (X : wX p s m args meth c G nL own cc) {o j ci q index N : Nat} {fs : List (Option (Nat × Nat))} {C : String} {T : u_T} {v : Value} (hk : wkd o j = some (.inl (ci, fs))) (hc : vwCl[ci]? = some (C, T, N)) (hq : q < N) (hin : ∀ w ∈ u_ws C T N, w ∈ GW) (hown : (T q).1 = C) (hv : (wFs G (M o j) fs 0)[q]? = some v) (hlink : Cond.fieldLink own index C (T q).2.1 (T q).2.2.1 ∈ GW) (hd : decode cc pc = .ok (.getfield index, 3)) (hp : pc + 3 = pc')
    (kk : wV p l e R s m args below meth c G nL M k n Q pc' lc (v :: st)) : wV p l e R s m args below meth c G nL M k n Q pc lc (vR G (o, j) :: st) := by
  subst hp; intro H locs ls hW hS hl
  exact va_get X.1 X.2.1 X.2.2.2.2.1 hin X.ownC X.sta.1 (w_one hW hk) 0 rfl hc q hq (X.w hlink) (fun x h => by rw [← hown]; exact h) hv hd (kk H locs ls hW hS hl)
theorem wFs_len (G : wG) (g : Nat → Int) : ∀ (fs : List (Option (Nat × Nat))) (k : Nat), (wFs G g fs k).length = fs.length
  | [], _ => rfl
  | some q :: r, k => by show (wFs G g r (k + 1)).length + 1 = r.length + 1; rw [wFs_len G g r (k + 1)]
  | none :: r, k => by show (wFs G g r (k + 1)).length + 1 = r.length + 1; rw [wFs_len G g r (k + 1)]
theorem wFs_up (G : wG) (g : Nat → Int) (z : Int) : ∀ (fs : List (Option (Nat × Nat))) (k q : Nat), q < k → wFs G (fun i => if i = q then z else g i) fs k = wFs G g fs k
  | [], _, _, _ => rfl
  | some a :: r, k, q, h => by
    show vR G a :: _ = vR G a :: _
    rw [wFs_up G g z r (k + 1) q (by omega)]
  | none :: r, k, q, h => by
    show vI (if k = q then z else g k) :: _ = vI (g k) :: _
    rw [if_neg (by omega), wFs_up G g z r (k + 1) q (by omega)]
theorem wFs_set (G : wG) (g : Nat → Int) (z : Int) : ∀ (fs : List (Option (Nat × Nat))) (k q : Nat), fs[q]? = some none → (wFs G g fs k).set q (vI z) = wFs G (fun i => if i = k + q then z else g i) fs k
  | [], _, _, h => by simp at h
  | some a :: r, k, 0, h => by simp at h
  | none :: r, k, 0, _ => by
    show vI z :: wFs G g r (k + 1) = vI (if k = k then z else g k) :: wFs G (fun i => if i = k then z else g i) r (k + 1)
    rw [if_pos rfl, wFs_up G g z r (k + 1) k (by omega)]
  | some a :: r, k, q + 1, h => by
    show vR G a :: (wFs G g r (k + 1)).set q (vI z) = vR G a :: wFs G (fun i => if i = k + (q + 1) then z else g i) r (k + 1)
    rw [wFs_set G g z r (k + 1) q (by simpa using h), show k + 1 + q = k + (q + 1) by omega]
  | none :: r, k, q + 1, h => by
    show vI (g k) :: (wFs G g r (k + 1)).set q (vI z) = vI (if k = k + (q + 1) then z else g k) :: wFs G (fun i => if i = k + (q + 1) then z else g i) r (k + 1)
    rw [wFs_set G g z r (k + 1) q (by simpa using h), show k + 1 + q = k + (q + 1) by omega, if_neg (by omega)]
theorem w_S1 {A : Nat → Prop} {H0 H H1 : Heap} {locs : List Loc} {a i : Nat} (hS : va_S A H0 H locs) (hz : H1.size = H.size) (oq : ∀ q : Nat, q ≠ a → H1[q]? = H[q]?) (ha : A a) : va_S A H0 H1 (locs ++ [⟨a, i⟩]) := hS.put hz oq ha
theorem r_putf (X : wX p s m args meth c G nL own cc) {o j ci q index N : Nat} {fs : List (Option (Nat × Nat))} {C : String} {T : u_T} {z : Int} (ty0 : Nat → FieldType) (hty : ∀ i, i < N → parseFieldDescriptor (T i).2.2.1 = some (ty0 i)) (hnm : ∀ a, a < N → ∀ b, b < N → a ≠ b → (T a).2.1 ≠ (T b).2.1) (hk : wkd o j = some (.inl (ci, fs))) (hc : vwCl[ci]? = some (C, T, N)) (hq : q < N) (hin : ∀ w ∈ u_ws C T N, w ∈ GW) (hown : (T q).1 = C) (hf : fs[q]? = some none) (hfin : (T q).2.2.2 = false) (hn : narrow (ty0 q) (vI z) = vI z) (hfit : fits (ty0 q) (vI z) = true) (hlink : Cond.fieldLink own index C (T q).2.1 (T q).2.2.1 ∈ GW) (hd : decode cc pc = .ok (.putfield index, 3)) (hp : pc + 3 = pc')
    (kk : ∀ M1 : wM, M1 = wu M o j q z → wV p l e R s m args below meth c G nL M1 k n Q pc' lc st) : wV p l e R s m args below meth c G nL M k n Q pc lc (vI z :: vR G (o, j) :: st) := by
  subst hp; intro H locs ls hW hS hl
  have hap := va_apart (own := own) (args := args) X.2.2.2.2.1 hin ty0 hty hnm X.sta.1 hc
  obtain ⟨r, h1, cell, q1, q2, q3, q4⟩ := hW o j _ hk
  have hr : r = (C, T, N) := Option.some.inj (h1.symm.trans hc)
  subst hr
  obtain ⟨hS1, hfc, kC, hkC, hkind⟩ := X.sta.1.1 ci _ hc
  obtain ⟨cf, kf, fi, f, hi, hsl⟩ := hS1 q hq
  have hlay := X.w (hin _ (u_in_lay hq))
  unfold u_lay at hlay
  rw [if_neg (by rw [hfin]; decide)] at hlay
  have hst := (u_facts hfc hkC (u_lays X.2.2.2.2.1 hin hq) hi).1
  have h6 := u_store hfc hkC hkind hlay hi (hty q hq) hn hfit
  refine W.putK X.1 X.2.1 (f := f) ⟨X.ownC, X.w hlink, ⟨_, _, _, by rw [← hown]; exact hi⟩, hst⟩ (by rw [q2]; exact h6) q1 q3 (by rw [hsl]; exact k2_hasslot (q4 q hq)) rfl rfl hd fun H' e1 e2 e3 => ?_
  rw [hsl] at e1 ⊢
  have hlen : q < (wFs G (M o j) fs 0).length := by
    rw [wFs_len]
    exact (List.getElem?_eq_some_iff.mp hf).1
  refine kk _ rfl H' _ ls (hW.set X.lay hk ?_ e3 (fun a b h => wu_ne h)) (w_S1 hS e2 e3 (X.lay.2 o j (by rw [hk]; rfl))) hl
  refine ⟨(C, T, N), hc, ?_⟩
  refine t_OB.to (V := updV (vp_V (wFs G (M o j) fs 0)) q (vI z)) ⟨_, e1, q2, q3, t_set q4 hap hq (vI z)⟩ (fun i _ => ?_)
  rw [vp_updV_set hlen, wFs_set G (M o j) z fs 0 q hf, wu_eq]
  simp only [Nat.zero_add]
theorem wAr_0 {G : wG} {g : Nat → Int} {rf : Nat → Nat × Nat} {i : Nat} : wAr G g 0 rf i = vI (g i) := rfl
theorem wAr_1 {G : wG} {g : Nat → Int} {rf : Nat → Nat × Nat} {i : Nat} : wAr G g 1 rf i = vJ (g i) := rfl
theorem wAr_2 {G : wG} {g : Nat → Int} {rf : Nat → Nat × Nat} {i : Nat} : wAr G g 2 rf i = vI (g i) := rfl
theorem wAr_3 {G : wG} {g : Nat → Int} {rf : Nat → Nat × Nat} {i : Nat} : wAr G g 3 rf i = vI (g i) := rfl
theorem wAr_up (G : wG) (g : Nat → Int) (t : Nat) (rf : Nat → Nat × Nat) (i : Nat) (z : Int) (v : Value) (ht : t < 4) (hv : v = if t = 1 then vJ z else vI z) : updV (wAr G g t rf) i v = wAr G (fun q => if q = i then z else g q) t rf := by
  funext q
  unfold updV wAr
  by_cases h : q = i
  · rw [if_pos h, hv]
    by_cases h1 : t = 1
    · rw [if_pos h1, if_pos h1]; exact congrArg vJ (if_pos h).symm
    · rw [if_neg h1, if_neg h1, if_pos ht]; exact congrArg vI (if_pos h).symm
  · rw [if_neg h]
    by_cases h1 : t = 1
    · rw [if_pos h1, if_pos h1]; exact congrArg vJ (if_neg h).symm
    · rw [if_neg h1, if_neg h1, if_pos ht, if_pos ht]; exact congrArg vI (if_neg h).symm
theorem r_iald (X : wX p s m args meth c G nL own cc) {o j N i : Nat} {rf : Nat → Nat × Nat} {z : Int} (hk : wkd o j = some (.inr (0, N, rf))) (hz : z = (i : Int)) (hi : i < N) (hN : N ≤ 100000) (hd : decode cc pc = .ok (.iaload, 1)) (hp : pc + 1 = pc')
    (kk : wV p l e R s m args below meth c G nL M k n Q pc' lc (vI (M o j i) :: st)) : wV p l e R s m args below meth c G nL M k n Q pc lc (vI z :: vR G (o, j) :: st) := by
  subst hp; intro H locs ls hW hS hl
  obtain ⟨h1, h2⟩ := q_in hz hi hN
  exact W.iald (v := vI (M o j i)) X.1 X.2.1 (hW o j _ hk) (X.arr (t := 0) (by decide) N _) (fun q => by cases q) (by rw [arrV_size]; exact h1) (by rw [h2, arrV_read _ _ hi]; rfl) rfl rfl hd (kk H locs ls hW hS hl)
theorem r_lald (X : wX p s m args meth c G nL own cc) {o j N i : Nat} {rf : Nat → Nat × Nat} {z : Int} (hk : wkd o j = some (.inr (1, N, rf))) (hz : z = (i : Int)) (hi : i < N) (hN : N ≤ 100000) (hd : decode cc pc = .ok (.laload, 1)) (hp : pc + 1 = pc')
    (kk : wV p l e R s m args below meth c G nL M k n Q pc' lc (vJ (M o j i) :: st)) : wV p l e R s m args below meth c G nL M k n Q pc lc (vI z :: vR G (o, j) :: st) := by
  subst hp; intro H locs ls hW hS hl
  obtain ⟨h1, h2⟩ := q_in hz hi hN
  exact W.lald (v := vJ (M o j i)) X.1 X.2.1 (hW o j _ hk) (X.arr (t := 1) (by decide) N _) (fun q => by cases q) (by rw [arrV_size]; exact h1) (by rw [h2, arrV_read _ _ hi]; rfl) rfl rfl hd (kk H locs ls hW hS hl)
theorem r_zald (X : wX p s m args meth c G nL own cc) {o j N i : Nat} {rf : Nat → Nat × Nat} {z : Int} (hk : wkd o j = some (.inr (2, N, rf))) (hz : z = (i : Int)) (hi : i < N) (hN : N ≤ 100000) (hd : decode cc pc = .ok (.baload, 1)) (hp : pc + 1 = pc')
    (kk : wV p l e R s m args below meth c G nL M k n Q pc' lc (vI (M o j i) :: st)) : wV p l e R s m args below meth c G nL M k n Q pc lc (vI z :: vR G (o, j) :: st) := by
  subst hp; intro H locs ls hW hS hl
  obtain ⟨h1, h2⟩ := q_in hz hi hN
  exact W.zald (v := vI (M o j i)) X.1 X.2.1 (hW o j _ hk) (X.arr (t := 2) (by decide) N _) (fun q => by cases q) (by rw [arrV_size]; exact h1) (by rw [h2, arrV_read _ _ hi]; rfl) rfl rfl hd (kk H locs ls hW hS hl)
theorem r_cald (X : wX p s m args meth c G nL own cc) {o j N i : Nat} {rf : Nat → Nat × Nat} {z : Int} (hk : wkd o j = some (.inr (3, N, rf))) (hz : z = (i : Int)) (hi : i < N) (hN : N ≤ 100000) (hd : decode cc pc = .ok (.caload, 1)) (hp : pc + 1 = pc')
    (kk : wV p l e R s m args below meth c G nL M k n Q pc' lc (vI (M o j i) :: st)) : wV p l e R s m args below meth c G nL M k n Q pc lc (vI z :: vR G (o, j) :: st) := by
  subst hp; intro H locs ls hW hS hl
  obtain ⟨h1, h2⟩ := q_in hz hi hN
  exact W.cald (v := vI (M o j i)) X.1 X.2.1 (hW o j _ hk) (X.arr (t := 3) (by decide) N _) (fun q => by cases q) (by rw [arrV_size]; exact h1) (by rw [h2, arrV_read _ _ hi]; rfl) rfl rfl hd (kk H locs ls hW hS hl)
theorem r_aald (X : wX p s m args meth c G nL own cc) {o j N i t : Nat} {rf : Nat → Nat × Nat} {z : Int} {x : Nat × Nat} (hk : wkd o j = some (.inr (t, N, rf))) (ht : 4 ≤ t ∧ t < 7) (hz : z = (i : Int)) (hi : i < N) (hN : N ≤ 100000) (hx : rf i = x) (hd : decode cc pc = .ok (.aaload, 1)) (hp : pc + 1 = pc')
    (kk : wV p l e R s m args below meth c G nL M k n Q pc' lc (vR G x :: st)) : wV p l e R s m args below meth c G nL M k n Q pc lc (vI z :: vR G (o, j) :: st) := by
  subst hp; subst hx; intro H locs ls hW hS hl
  obtain ⟨h1, h2⟩ := q_in hz hi hN
  have e1 : wAr G (M o j) t rf i = vR G (rf i) := by unfold wAr; rw [if_neg (by omega), if_neg (by omega)]
  have e2 : (wty t).isReference = true := by
    rcases (show t = 4 ∨ t = 5 ∨ t = 6 by omega) with rfl | rfl | rfl <;> rfl
  exact W.aald (v := vR G (rf i)) X.1 X.2.1 (hW o j _ hk) (X.arr ht.2 N _) e2 (fun q => by cases q) (by rw [arrV_size]; exact h1) (by rw [h2, arrV_read _ _ hi, e1]) rfl rfl hd (kk H locs ls hW hS hl)
theorem r_alen (X : wX p s m args meth c G nL own cc) {o j N t : Nat} {rf : Nat → Nat × Nat} (hk : wkd o j = some (.inr (t, N, rf))) (ht : t < 7) (hd : decode cc pc = .ok (.arraylength, 1)) (hp : pc + 1 = pc')
    (kk : wV p l e R s m args below meth c G nL M k n Q pc' lc (vI (N : Int) :: st)) : wV p l e R s m args below meth c G nL M k n Q pc lc (vR G (o, j) :: st) := by
  subst hp; intro H locs ls hW hS hl
  exact W.alen (n := Int32.ofInt (N : Int)) X.1 X.2.1 (hW o j _ hk) (X.arr ht N _) (by rw [arrV_size]; rfl) rfl rfl hd (kk H locs ls hW hS hl)
/-- the world behind a store into an array -/
theorem w_store {G : wG} {M : wM} {H H1 : Heap} {o j N i t : Nat} {rf : Nat → Nat × Nat} {z : Int} {v : Value} (hL : wLay G) (hW : wW G M H) (hk : wkd o j = some (.inr (t, N, rf))) (ht : t < 4) (hv : v = if t = 1 then vJ z else vI z) (e1 : H1[G.2.2.1 o j]? = some ((arrV (G.1 t) N (wAr G (M o j) t rf)).setSlot i v)) (oq : ∀ q : Nat, q ≠ G.2.2.1 o j → H1[q]? = H[q]?) : wW G (wu M o j i z) H1 := by
  refine hW.set hL hk ?_ oq (fun a b h => wu_ne h)
  show H1[_]? = some (arrV (G.1 t) N (wAr G (wu M o j i z o j) t rf))
  rw [e1, arrV_store, wAr_up G (M o j) t rf i z v ht hv, wu_eq]
theorem r_iast (X : wX p s m args meth c G nL own cc) {o j N i : Nat} {rf : Nat → Nat × Nat} {z x : Int} (hk : wkd o j = some (.inr (0, N, rf))) (hz : z = (i : Int)) (hi : i < N) (hN : N ≤ 100000) (hd : decode cc pc = .ok (.iastore, 1)) (hp : pc + 1 = pc')
    (kk : ∀ M1 : wM, M1 = wu M o j i x → wV p l e R s m args below meth c G nL M1 k n Q pc' lc st) : wV p l e R s m args below meth c G nL M k n Q pc lc (vI x :: vI z :: vR G (o, j) :: st) := by
  subst hp; intro H locs ls hW hS hl
  obtain ⟨h1, h2⟩ := q_in hz hi hN
  refine W.iast X.1 X.2.1 (hW o j _ hk) (X.arr (t := 0) (by decide) N _) (fun q => by cases q) (by rw [arrV_size]; exact h1) rfl rfl hd fun H' e1 e2 e3 => ?_
  rw [h2] at e1 ⊢
  exact kk _ rfl H' _ ls (w_store (v := vI x) X.lay hW hk (by decide) rfl e1 e3) (w_S1 hS e2 e3 (X.lay.2 o j (by rw [hk]; rfl))) hl
theorem r_last (X : wX p s m args meth c G nL own cc) {o j N i : Nat} {rf : Nat → Nat × Nat} {z x : Int} (hk : wkd o j = some (.inr (1, N, rf))) (hz : z = (i : Int)) (hi : i < N) (hN : N ≤ 100000) (hd : decode cc pc = .ok (.lastore, 1)) (hp : pc + 1 = pc')
    (kk : ∀ M1 : wM, M1 = wu M o j i x → wV p l e R s m args below meth c G nL M1 k n Q pc' lc st) : wV p l e R s m args below meth c G nL M k n Q pc lc (vJ x :: vI z :: vR G (o, j) :: st) := by
  subst hp; intro H locs ls hW hS hl
  obtain ⟨h1, h2⟩ := q_in hz hi hN
  refine W.last X.1 X.2.1 (hW o j _ hk) (X.arr (t := 1) (by decide) N _) (fun q => by cases q) (by rw [arrV_size]; exact h1) rfl rfl hd fun H' e1 e2 e3 => ?_
  rw [h2] at e1 ⊢
  exact kk _ rfl H' _ ls (w_store (v := vJ x) X.lay hW hk (by decide) rfl e1 e3) (w_S1 hS e2 e3 (X.lay.2 o j (by rw [hk]; rfl))) hl
theorem r_zast (X : wX p s m args meth c G nL own cc) {o j N i : Nat} {rf : Nat → Nat × Nat} {z x : Int} (hk : wkd o j = some (.inr (2, N, rf))) (hz : z = (i : Int)) (hi : i < N) (hN : N ≤ 100000) (hx : x = 0 ∨ x = 1) (hd : decode cc pc = .ok (.bastore, 1)) (hp : pc + 1 = pc')
    (kk : ∀ M1 : wM, M1 = wu M o j i x → wV p l e R s m args below meth c G nL M1 k n Q pc' lc st) : wV p l e R s m args below meth c G nL M k n Q pc lc (vI x :: vI z :: vR G (o, j) :: st) := by
  subst hp; intro H locs ls hW hS hl
  obtain ⟨h1, h2⟩ := q_in hz hi hN
  refine W.zast X.1 X.2.1 (hW o j _ hk) (X.arr (t := 2) (by decide) N _) (fun q => by cases q) (by rw [arrV_size]; exact h1) rfl rfl hd fun H' e1 e2 e3 => ?_
  have e4 : narrow .boolean (.int (Int32.ofInt x)) = vI x := by rcases hx with rfl | rfl <;> rfl
  rw [h2, e4] at e1
  rw [h2]
  exact kk _ rfl H' _ ls (w_store (v := vI x) X.lay hW hk (by decide) rfl e1 e3) (w_S1 hS e2 e3 (X.lay.2 o j (by rw [hk]; rfl))) hl
theorem r_cast (X : wX p s m args meth c G nL own cc) {o j N i : Nat} {rf : Nat → Nat × Nat} {z x : Int} (hk : wkd o j = some (.inr (3, N, rf))) (hz : z = (i : Int)) (hi : i < N) (hN : N ≤ 100000) (hx : narrow .char (vI x) = vI x) (hd : decode cc pc = .ok (.castore, 1)) (hp : pc + 1 = pc')
    (kk : ∀ M1 : wM, M1 = wu M o j i x → wV p l e R s m args below meth c G nL M1 k n Q pc' lc st) : wV p l e R s m args below meth c G nL M k n Q pc lc (vI x :: vI z :: vR G (o, j) :: st) := by
  subst hp; intro H locs ls hW hS hl
  obtain ⟨h1, h2⟩ := q_in hz hi hN
  refine W.cast X.1 X.2.1 (hW o j _ hk) (X.arr (t := 3) (by decide) N _) (fun q => by cases q) (by rw [arrV_size]; exact h1) rfl rfl hd fun H' e1 e2 e3 => ?_
  have e4 : narrow .char (.int (Int32.ofInt x)) = vI x := hx
  rw [h2, e4] at e1
  rw [h2]
  exact kk _ rfl H' _ ls (w_store (v := vI x) X.lay hW hk (by decide) rfl e1 e3) (w_S1 hS e2 e3 (X.lay.2 o j (by rw [hk]; rfl))) hl
/-- what the tables say of a callee -/
def wCal (y : MethodName) (bytes : ByteArray) (maxL : Nat) (ret : Option FieldType) (N : Nat) : Prop := Cond.code y bytes maxL ret ∈ GW ∧ Cond.initialized y.cls ∈ GW ∧ (y.cls ≠ "java/lang/invoke/MethodHandle" ∧ y.cls ≠ "java/lang/invoke/VarHandle" ∧ (parseMethodDescriptor y.desc).map (fun d => d.parameters.length) = some N)
theorem wX.fix (X : wX p s m args meth c G nL own cc) : CallFix p m c cc nL s args GW own := ⟨X.1, X.2.1, X.2.2.1, X.ownC, X.2.2.2.2.1⟩
theorem wX.callB (X : wX p s m args meth c G nL own cc) {y : MethodName} {bytes : ByteArray} {maxL N index mc ms : Nat} {ret : Option FieldType} {rm : Room} (hy : wCal y bytes maxL ret N) (hlink : Cond.methodLink own index y ∈ GW) (hrc : rm.cells = mc) (hrs : rm.slots = ms) (hR : rm.frames + 1 ≤ R.frames ∧ 8 + (maxL + 11) + rm.locals ≤ R.locals) : CallB R s args own index y bytes maxL ret (gws y bytes maxL ret) rm mc ms N :=
  callB_of N X.2.2.2.2.1 (gws_in hy.1) rfl hrc hrs (X.w hy.2.1) (X.w hlink) hy.2.2 hR
theorem wX.pre (X : wX p s m args meth c G nL own cc) {H : Heap} {locs : List Loc} (hW : wW G M H) (hS : va_S (wA G) s.heap H locs) (av : List Value) : ∀ U : State, U.heap = H → s.WarmedH U.vm → wPc G M av av.toArray U := fun U hU hWm => ⟨rfl, by rw [hU]; exact hW, wSt.warm (locs := locs) hWm (by rw [hU]; exact hS) X.sta, X.lay, trivial⟩
theorem wX.recv (X : wX p s m args meth c G nL own cc) {H : Heap} {o j ci N : Nat} {fs : List (Option (Nat × Nat))} {C : String} {T : u_T} (hW : wW G M H) (hk : wkd o j = some (.inl (ci, fs))) (hc : vwCl[ci]? = some (C, T, N)) : ∃ cellB : Cell, H[G.2.2.1 o j]? = some cellB ∧ cellB.vm.isStatics = false ∧ s.vm.findClass C = some cellB.cls :=
  va_recv (ci := ci) (q0 := 0) X.sta.1 (w_one hW hk) hc rfl
/-- a call that has run: what it answers -/
theorem w_calli {mc ms : Nat} {P : Int → wM → Prop} {a : Array Value} (hr : ∀ (H : Heap) (locs : List Loc) (ls : Array Slot), wW G M H → va_S (wA G) s.heap H locs → ls.size = nL → va_Run p l e R s m args below meth c H locs k n mc ms (F0 m pc ls st0) st (wQi G P a) (wA G)) (hp : pc + 3 = pc')
    (kk : ∀ (z : Int) (M1 : wM), P z M1 → wV p l e R s m args below meth c G nL M1 (k + mc) (n + ms) Q pc' lc (vI z :: st)) : wV p l e R s m args below meth c G nL M k n Q pc lc st0 := by
  subst hp; intro H locs ls hW hS hl
  refine va_calli (hr H locs ls hW hS hl.1) hS (fun q _ h => h) (fun q h => h) (fun r u t H1 locs1 ht hvm hpo hB hz hk hS1 => ?_)
  obtain ⟨z, M1⟩ := u
  obtain ⟨rfl, hP⟩ := hpo
  rw [ht] at hB
  exact kk z M1 hP H1 locs1 ls hB hS1 hl
theorem w_callj {mc ms : Nat} {P : Int → wM → Prop} {a : Array Value} (hr : ∀ (H : Heap) (locs : List Loc) (ls : Array Slot), wW G M H → va_S (wA G) s.heap H locs → ls.size = nL → va_Run p l e R s m args below meth c H locs k n mc ms (F0 m pc ls st0) st (wQj G P a) (wA G)) (hp : pc + 3 = pc')
    (kk : ∀ (z : Int) (M1 : wM), P z M1 → wV p l e R s m args below meth c G nL M1 (k + mc) (n + ms) Q pc' lc (vJ z :: st)) : wV p l e R s m args below meth c G nL M k n Q pc lc st0 := by
  subst hp; intro H locs ls hW hS hl
  refine va_calll (hr H locs ls hW hS hl.1) hS (fun q _ h => h) (fun q h => h) (fun r u t H1 locs1 ht hvm hpo hB hz hk hS1 => ?_)
  obtain ⟨z, M1⟩ := u
  obtain ⟨rfl, hP⟩ := hpo
  rw [ht] at hB
  exact kk z M1 hP H1 locs1 ls hB hS1 hl
theorem w_callv {mc ms : Nat} {P : wM → Prop} {a : Array Value} (hr : ∀ (H : Heap) (locs : List Loc) (ls : Array Slot), wW G M H → va_S (wA G) s.heap H locs → ls.size = nL → va_Run p l e R s m args below meth c H locs k n mc ms (F0 m pc ls st0) st (wQv G P a) (wA G)) (hp : pc + 3 = pc')
    (kk : ∀ (M1 : wM), P M1 → wV p l e R s m args below meth c G nL M1 (k + mc) (n + ms) Q pc' lc st) : wV p l e R s m args below meth c G nL M k n Q pc lc st0 := by
  subst hp; intro H locs ls hW hS hl
  refine va_callv (hr H locs ls hW hS hl.1) hS (fun q _ h => h) (fun q h => h) (fun u t H1 locs1 ht hvm hpo hB hz hk hS1 => ?_)
  rw [ht] at hB
  exact kk u hpo H1 locs1 ls hB hS1 hl
/-- a method of an object -/
theorem w_runV (X : wX p s m args meth c G nL own cc) {o j ci Nf N index maxL mc ms : Nat} {fs : List (Option (Nat × Nat))} {C : String} {T : u_T} {y : MethodName} {bytes : ByteArray} {ret : Option FieldType} {rm : Room} {As : List Value} {Qc : Array Value → State → Outcome → State → Prop} (hM : Met l y (gws y bytes maxL ret) rm (wPc G M (vR G (o, j) :: As)) Qc mc ms (wA G)) (hy : wCal y bytes maxL ret N) (hk : wkd o j = some (.inl (ci, fs))) (hc : vwCl[ci]? = some (C, T, Nf)) (hinst : Cond.instanceMethod y ∈ GW) (hsel : Cond.selects C y y ∈ GW) (hrc : rm.cells = mc) (hrs : rm.slots = ms) (hR : rm.frames + 1 ≤ R.frames ∧ 8 + (maxL + 11) + rm.locals ≤ R.locals) (hn : As.length = N) (hst : st0 = As.reverse ++ vR G (o, j) :: st) (hcat : (st.map fun v => v.category).sum ≤ 8) (hf : k + mc ≤ R.cells ∧ n + ms ≤ R.slots) (hlink : Cond.methodLink own index y ∈ GW) (hd : decode cc pc = .ok (.invokevirtual index, 3)) :
    ∀ (H : Heap) (locs : List Loc) (ls : Array Slot), wW G M H → va_S (wA G) s.heap H locs → ls.size = nL → va_Run p l e R s m args below meth c H locs k n mc ms (F0 m pc ls st0) st (Qc (vR G (o, j) :: As).toArray) (wA G) := by
  intro H locs ls hW hS hl
  exact va_runV (As := As) (rest := st) X.fix hM ⟨X.callB hy hlink hrc hrs hR, X.w hinst, X.w hsel⟩ ⟨wPc_blind, X.recv hW hk hc, X.pre hW hS _⟩ rfl hn hl hst (lv_room hcat) hd hf
/-- a static method -/
theorem w_runS (X : wX p s m args meth c G nL own cc) {N index maxL mc ms : Nat} {y : MethodName} {bytes : ByteArray} {ret : Option FieldType} {rm : Room} {As : List Value} {Qc : Array Value → State → Outcome → State → Prop} (hM : Met l y (gws y bytes maxL ret) rm (wPc G M As) Qc mc ms (wA G)) (hy : wCal y bytes maxL ret N) (hstat : Cond.static y ∈ GW) (hrc : rm.cells = mc) (hrs : rm.slots = ms) (hR : rm.frames + 1 ≤ R.frames ∧ 8 + (maxL + 11) + rm.locals ≤ R.locals) (hn : As.length = N) (hst : st0 = As.reverse ++ st) (hcat : (st.map fun v => v.category).sum ≤ 8) (hf : k + mc ≤ R.cells ∧ n + ms ≤ R.slots) (hlink : Cond.methodLink own index y ∈ GW) (hd : decode cc pc = .ok (.invokestatic index, 3)) :
    ∀ (H : Heap) (locs : List Loc) (ls : Array Slot), wW G M H → va_S (wA G) s.heap H locs → ls.size = nL → va_Run p l e R s m args below meth c H locs k n mc ms (F0 m pc ls st0) st (Qc As.toArray) (wA G) := by
  intro H locs ls hW hS hl
  exact va_runS (As := As) (rest := st) X.fix hM ⟨X.callB hy hlink hrc hrs hR, X.w hstat⟩ ⟨wPc_blind, X.pre hW hS _⟩ rfl hn hl hst (lv_room hcat) hd hf
/-- a private static method of a nest mate -/
theorem w_runSN (X : wX p s m args meth c G nL own cc) {N index maxL mc ms : Nat} {host : String} {y : MethodName} {bytes : ByteArray} {ret : Option FieldType} {rm : Room} {As : List Value} {Qc : Array Value → State → Outcome → State → Prop} (hM : Met l y (gws y bytes maxL ret) rm (wPc G M As) Qc mc ms (wA G)) (hy : wCal y bytes maxL ret N) (hstat : Cond.static y ∈ GW) (hrc : rm.cells = mc) (hrs : rm.slots = ms) (hR : rm.frames + 1 ≤ R.frames ∧ 8 + (maxL + 11) + rm.locals ≤ R.locals) (hn : As.length = N) (hst : st0 = As.reverse ++ st) (hcat : (st.map fun v => v.category).sum ≤ 8) (hf : k + mc ≤ R.cells ∧ n + ms ≤ R.slots) (hlink : Cond.methodLinkNest own index y host ∈ tables_1) (hd : decode cc pc = .ok (.invokestatic index, 3)) :
    ∀ (H : Heap) (locs : List Loc) (ls : Array Slot), wW G M H → va_S (wA G) s.heap H locs → ls.size = nL → va_Run p l e R s m args below meth c H locs k n mc ms (F0 m pc ls st0) st (Qc As.toArray) (wA G) := by
  intro H locs ls hW hS hl
  exact va_runSN (As := As) (rest := st) X.fix hM ⟨va_cnB N X.2.2.2.2.1 (gws_in hy.1) rfl hrc hrs (X.sta.2.2.2.2.2.1 _ _ _ _ hlink) (X.w hy.2.1) hy.2.2 hR, X.w hstat, trivial⟩ ⟨wPc_blind, X.pre hW hS _⟩ rfl hn hl hst (lv_room hcat) hd hf
/-! ends -/
theorem w_iret (X : wX p s m args meth c G nL own cc) {P : Int → wM → Prop} {z : Int} (hr : meth.sig.returnType = some .int) (hd : decode cc pc = .ok (.ireturn, 1)) (h : P z M) : wV p l e R s m args below meth c G nL M k n (MQ below (wQi G P) args s k n (wA G)) pc lc [vI z] := by
  intro H locs ls hW hS hl
  exact W.iret X.1 X.2.1 hr (fun t ht hWm => ⟨⟨Int32.ofInt z, (z, M), rfl, ⟨rfl, h⟩, by show wW G M t.heap; rw [ht]; exact hW⟩, hS.F ht⟩) hS.2.2 hd X.locks
theorem w_zret (X : wX p s m args meth c G nL own cc) {P : Int → wM → Prop} {z : Int} (hr : meth.sig.returnType = some .boolean) (hz : z = 0 ∨ z = 1) (hd : decode cc pc = .ok (.ireturn, 1)) (h : P z M) : wV p l e R s m args below meth c G nL M k n (MQ below (wQi G P) args s k n (wA G)) pc lc [vI z] := by
  intro H locs ls hW hS hl
  exact W.zret X.1 X.2.1 hr (by rcases hz with rfl | rfl <;> rfl) (fun t ht hWm => ⟨⟨Int32.ofInt z, (z, M), rfl, ⟨rfl, h⟩, by show wW G M t.heap; rw [ht]; exact hW⟩, hS.F ht⟩) hS.2.2 hd X.locks
theorem w_lret (X : wX p s m args meth c G nL own cc) {P : Int → wM → Prop} {z : Int} (hr : meth.sig.returnType = some .long) (hd : decode cc pc = .ok (.lreturn, 1)) (h : P z M) : wV p l e R s m args below meth c G nL M k n (MQ below (wQj G P) args s k n (wA G)) pc lc [vJ z] := by
  intro H locs ls hW hS hl
  exact W.lret X.1 X.2.1 hr (fun t ht hWm => ⟨⟨Int64.ofInt z, (z, M), rfl, ⟨rfl, h⟩, by show wW G M t.heap; rw [ht]; exact hW⟩, hS.F ht⟩) hS.2.2 hd X.locks
theorem w_vret (X : wX p s m args meth c G nL own cc) {P : wM → Prop} (hr : meth.sig.returnType = none) (hd : decode cc pc = .ok (.return_, 1)) (h : P M) : wV p l e R s m args below meth c G nL M k n (MQ below (wQv G P) args s k n (wA G)) pc lc [] := by
  intro H locs ls hW hS hl
  exact W.vret X.1 X.2.1 hr (fun t ht hWm => ⟨⟨M, rfl, h, by show wW G M t.heap; rw [ht]; exact hW⟩, hS.F ht⟩) hS.2.2 hd X.locks
/-- the same, where the method may throw elsewhere -/
theorem w_x {Qc : Array Value → State → Outcome → State → Prop} {XC : String → State → State → Prop} {mc ms : Nat} (h1 : k ≤ mc) (h2 : n ≤ ms) (kk : wV p l e R s m args below meth c G nL M mc ms (MQ below Qc args s mc ms (wA G)) pc lc st) : wV p l e R s m args below meth c G nL M k n (vx_MQ below Qc XC args s mc ms (wA G)) pc lc st := fun H locs ls hW hS hl => W.widen (k := mc) (n := ms) h1 h2 (vx_ret (kk H locs ls hW hS hl))
end WH
