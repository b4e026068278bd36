/-! A METHOD OF ONE WORLD that makes arrays of its own -/
def sA (G : wG) (B : Nat) : Nat → Prop := fun q => wA G q ∨ B ≤ q
def Ar (s : State) (a : Nat) (f : Nat → Int) (H : Heap) : Prop := ∃ cA, H[a]? = some (arrV cA 4 fun j => vI (f j)) ∧ ArrOfT s cA .int
def aF (G : wG) (s : State) (as : List (Nat × (Nat → Int))) (M : wM) : Heap → Prop := fun H => wW G M H ∧ ∀ x, x ∈ as → Ar s x.1 x.2 H
def sPc (G : wG) (B : Nat) (M : wM) (av : List Value) : Array Value → State → Prop := fun v U => v = av.toArray ∧ wW G M U.heap ∧ wSt (gA G (sA G B)) U ∧ wLay G ∧ B ≤ U.heap.size
theorem sPc_blind {G : wG} {B : Nat} {M : wM} {av : List Value} : FrameBlind (sPc G B M av) := fun a U g mk h => ⟨h.1, h.2.1, wSt.same (s := U) (U := U.calling g mk a) rfl rfl h.2.2.1, h.2.2.2⟩
def sQi (G : wG) (B : Nat) (P : Int → wM → Prop) : Array Value → State → Outcome → State → Prop := va_Qi (S := Int × wM) (fun r u => r = Int32.ofInt u.1 ∧ P u.1 u.2) (fun u t => wW G u.2 t.heap) (sA G B)
theorem Ar.lt {s : State} {a : Nat} {f : Nat → Int} {H : Heap} (h : Ar s a f H) : a < H.size := by
  obtain ⟨cA, h1, -⟩ := h
  exact (Array.getElem?_eq_some_iff.mp h1).1
theorem Ar.kept {s : State} {a : Nat} {f : Nat → Int} {H H' : Heap} (h : Ar s a f H) (e : H'[a]? = H[a]?) : Ar s a f H' := by
  obtain ⟨cA, h1, h2⟩ := h
  exact ⟨cA, e.trans h1, h2⟩
theorem as0 {B : Nat} : ∀ x : Nat × (Nat → Int), x ∈ ([] : List (Nat × (Nat → Int))) → B ≤ x.1 := fun x h => by cases h
theorem as3 {B a b d : Nat} {f g h : Nat → Int} (ha : B ≤ a) (hb : B ≤ b) (hd : B ≤ d) : ∀ x : Nat × (Nat → Int), x ∈ [(d, h), (b, g), (a, f)] → B ≤ x.1 := fun x q => by
  simp only [List.mem_cons, List.not_mem_nil, or_false] at q
  rcases q with rfl | rfl | rfl
  · exact hd
  · exact hb
  · exact ha
section SR
variable {p : Program} {l : Launch} {e : Env} {R : Room} {s : State} {m : MethodId} {args : Array Value} {below : List Frame} {meth : Method} {c : Code} {k n : Nat} {Q : State → Prop} {G : wG} {B : Nat} {M : wM} {nL : Nat} {own : String} {cc : ByteArray} {pc pc' : Nat} {lc : List (Nat × Value)} {st st0 : List Value} {as : List (Nat × (Nat → Int))}
theorem sMet {y : MethodName} {ret : Option FieldType} {rm : Room} {av : List Value} {Qc : Array Value → State → Outcome → State → Prop} {mc ms : Nat} (hy : plainName y.cls = true) (hlen : (lg_sl av).length ≤ nL) (hlc : lv_args 0 av = lc)
    (body : ∀ (p : Program) (e : Env) (s : State) (m : MethodId) (args : Array Value) (below : List Frame) (meth : Method) (c : Code), wX p s m args meth c (gA G (sA G B)) nL y.cls cc → wLay G → B ≤ s.heap.size → meth.sig.returnType = ret → eV p l e rm s m args below meth c (sA G B) (aF G s [] M) nL 0 0 (MQ below Qc args s mc ms (sA G B)) 0 lc []) :
    Met l y (gws y cc nL ret) rm (sPc G B M av) Qc mc ms (sA G B) := by
  refine Met.ofW (cc := cc) (maxL := nL) (ret := ret) hy rfl ?_
  intro p e s m args below meth c s₁ Bx hml hv
  obtain ⟨rfl, hW, hSt, hL, hBs⟩ := hv
  have hts := atoms_spec (ws := gws y cc nL ret) Bx.pre
  have X : wX p s m av.toArray meth c (gA G (sA G B)) nL y.cls cc := ⟨Bx.exec, Bx.bytes, hml, findClass_of_methodNamed Bx.named, fun w hw => hts w (List.mem_cons_of_mem _ hw), hSt, gA_lay hL (fun q h => Or.inl h), trivial, Bx.notSynchronized⟩
  have hl := lv_entry av (n := nL) hlen
  rw [lg_entry_eq]
  generalize (lg_sl av ++ List.replicate (nL - (lg_sl av).length) Slot.unset).toArray = ls at hl ⊢
  rw [hlc] at hl
  exact body p e s m av.toArray below meth c X hL hBs Bx.returns s.heap [] ls ⟨hW, fun x h => by cases h⟩ va_S.rf hl
theorem s_zret (X : wX p s m args meth c (gA G (sA G B)) nL own cc) {P : Int → wM → Prop} {z : Int} (hr : meth.sig.returnType = some .boolean) (hz : z = 0 ∨ z = 1) (hd : decode cc pc = .ok (.ireturn, 1)) (h : P z M) : eV p l e R s m args below meth c (sA G B) (aF G s as M) nL k n (MQ below (sQi G B P) args s k n (sA G B)) pc lc [vI z] := by
  intro H locs ls hW hS hl
  exact W.zret X.1 X.2.1 hr (by rcases hz with rfl | rfl <;> rfl) (fun t ht hWm => ⟨⟨Int32.ofInt z, (z, M), rfl, ⟨rfl, h⟩, by show wW G M t.heap; rw [ht]; exact hW.1⟩, hS.F ht⟩) hS.2.2 hd X.locks
theorem aF.aside (hAs : ∀ x, x ∈ as → B ≤ x.1) (hGB : ∀ q, wA G q → q < B) {H H' : Heap} {M' : wM} (h : aF G s as M H) (w : wW G M' H') (hk : ∀ q, q < H.size → ¬ wA G q → H'[q]? = H[q]?) : aF G s as M' H' := ⟨w, fun x hx => (h.2 x hx).kept (hk _ (h.2 x hx).lt (fun q => absurd (hGB _ q) (by have := hAs x hx; omega)))⟩
theorem s_calli {mc ms : Nat} {P : Int → wM → Prop} {a : Array Value} (hAs : ∀ x, x ∈ as → B ≤ x.1) (hGB : ∀ q, wA G q → q < B) (hr : ∀ (H : Heap) (locs : List Loc) (ls : Array Slot), wW G M H → va_S (sA G B) s.heap H locs → ls.size = nL → va_Run p l e R s m args below meth c H locs k n mc ms (F0 m pc ls st0) st (wQi G P a) (wA G)) (hp : pc + 3 = pc')
    (kk : ∀ (z : Int) (M' : wM), P z M' → eV p l e R s m args below meth c (sA G B) (aF G s as M') nL (k + mc) (n + ms) Q pc' lc (vI z :: st)) : eV p l e R s m args below meth c (sA G B) (aF G s as M) nL k n Q pc lc st0 :=
  e_calli hr (fun q h => Or.inl h) (fun _ h => h.1) (fun M' => aF G s as M') (fun _ _ _ h w _ hk => h.aside hAs hGB w hk) hp kk
theorem s_callj {mc ms : Nat} {P : Int → wM → Prop} {a : Array Value} (hAs : ∀ x, x ∈ as → B ≤ x.1) (hGB : ∀ q, wA G q → q < B) (hr : ∀ (H : Heap) (locs : List Loc) (ls : Array Slot), wW G M H → va_S (sA G B) s.heap H locs → ls.size = nL → va_Run p l e R s m args below meth c H locs k n mc ms (F0 m pc ls st0) st (wQj G P a) (wA G)) (hp : pc + 3 = pc')
    (kk : ∀ (z : Int) (M' : wM), P z M' → eV p l e R s m args below meth c (sA G B) (aF G s as M') nL (k + mc) (n + ms) Q pc' lc (vJ z :: st)) : eV p l e R s m args below meth c (sA G B) (aF G s as M) nL k n Q pc lc st0 :=
  e_callj hr (fun q h => Or.inl h) (fun _ h => h.1) (fun M' => aF G s as M') (fun _ _ _ h w _ hk => h.aside hAs hGB w hk) hp kk
theorem s_newa (X : wX p s m args meth c (gA G (sA G B)) nL own cc) (hBs : B ≤ s.heap.size) (hGB : ∀ q, wA G q → q < B) (hcl : Cond.arrayClass FieldType.int ∈ GW) (hcells : k + 1 ≤ R.cells ∧ n + 4 ≤ R.slots) (hd : decode cc pc = .ok (.newarray .int, 2)) (hp : pc + 2 = pc')
    (kk : ∀ a, B ≤ a → (∀ x, x ∈ as → x.1 ≠ a) → eV p l e R s m args below meth c (sA G B) (aF G s ((a, fun _ => 0) :: as) M) nL (k + 1) (n + 4) Q pc' lc (.ref a :: st)) : eV p l e R s m args below meth c (sA G B) (aF G s as M) nL k n Q pc lc (vI 4 :: st) := by
  subst hp; intro H locs ls hW hS hl
  by_cases hne : ∀ x, x ∈ as → x.1 ≠ H.size
  · have hq := q_in (a := 4) (i := 4) (N := 5) rfl (by decide) (by decide)
    refine va_newaK (atype := .int) (N := 4) X.1 X.2.1 (X.w hcl) rfl hd rfl (fun w => hq.1 (Or.inl w)) hq.2 (by decide) hcells.1 hcells.2 rfl fun H1 cA e1 z1 o1 hA _ => ?_
    refine kk H.size (Nat.le_trans hBs hS.1) hne H1 locs ls ⟨fun o j kd hkd => (hW.1 o j kd hkd).kept (o1 _ (hW.1.lt hkd)), fun x hx => ?_⟩ ⟨by have := hS.1; omega, fun x h1 h2 => (o1 x (Nat.lt_of_lt_of_le h1 hS.1)).trans (hS.2.1 x h1 h2), hS.2.2⟩ hl
    rcases List.mem_cons.mp hx with rfl | hx
    · exact ⟨cA, e1, hA⟩
    · exact (hW.2 x hx).kept (o1 _ (hW.2 x hx).lt)
  · exact absurd (fun x hx q => by have := (hW.2 x hx).lt; omega) hne
theorem s_ald (X : wX p s m args meth c (gA G (sA G B)) nL own cc) {a i : Nat} {f : Nat → Int} {z : Int} (ha : (a, f) ∈ as) (hz : z = (i : Int)) (hi : i < 4) (hd : decode cc pc = .ok (.iaload, 1)) (hp : pc + 1 = pc') (kk : eV p l e R s m args below meth c (sA G B) (aF G s as M) nL k n Q pc' lc (vI (f i) :: st)) : eV p l e R s m args below meth c (sA G B) (aF G s as M) nL k n Q pc lc (vI z :: .ref a :: st) := by
  subst hp; intro H locs ls hW hS hl
  obtain ⟨h1, h2⟩ := q_in hz hi (by decide)
  obtain ⟨cA, e1, hA⟩ := hW.2 _ ha
  exact W.iald (v := vI (f i)) X.1 X.2.1 e1 (hA 4 _) (fun q => by cases q) (by rw [arrV_size]; exact h1) (by rw [h2, arrV_read _ _ hi]) rfl rfl hd (kk H locs ls hW hS hl)
theorem s_ast (X : wX p s m args meth c (gA G (sA G B)) nL own cc) (hGB : ∀ q, wA G q → q < B) (hL : wLay G) {a i : Nat} {f : Nat → Int} {z x : Int} {as' : List (Nat × (Nat → Int))} (ha : (a, f) ∈ as) (hB : B ≤ a) (hz : z = (i : Int)) (hi : i < 4) (has : ∀ y, y ∈ as' → y = (a, up1 f i x) ∨ (y ∈ as ∧ y.1 ≠ a)) (hd : decode cc pc = .ok (.iastore, 1)) (hp : pc + 1 = pc') (kk : eV p l e R s m args below meth c (sA G B) (aF G s as' M) nL k n Q pc' lc st) : eV p l e R s m args below meth c (sA G B) (aF G s as M) nL k n Q pc lc (vI x :: vI z :: .ref a :: st) := by
  subst hp; intro H locs ls hW hS hl
  obtain ⟨h1, h2⟩ := q_in hz hi (by decide)
  obtain ⟨cA, e0, hA⟩ := hW.2 _ ha
  refine W.iast X.1 X.2.1 e0 (hA 4 _) (fun q => by cases q) (by rw [arrV_size]; exact h1) rfl rfl hd fun H' e1 e2 e3 => ?_
  rw [h2, arrV_store] at e1
  rw [h2]
  refine kk H' _ ls ⟨fun o j kd hkd => (hW.1 o j kd hkd).kept (e3 _ (fun q => ?_)), fun y hy => ?_⟩ (hS.put e2 e3 (Or.inr hB)) hl
  · have h9 : G.2.2.1 o j < B := hGB _ (hL.2 o j (by rw [hkd]; rfl))
    have q2 : G.2.2.1 o j = a := q
    omega
  · rcases has y hy with rfl | ⟨h3, h4⟩
    · refine ⟨cA, e1.trans (congrArg some (q_arr_ext fun j hj => ?_)), hA⟩
      show updV (fun j => vI (f j)) i (vI x) j = vI (up1 f i x j)
      by_cases q : j = i
      · rw [q, show up1 f i x i = x from if_pos rfl]
        exact if_pos rfl
      · rw [show up1 f i x j = f j from if_neg q]
        exact if_neg q
    · exact (hW.2 y h3).kept (e3 _ h4)
end SR
section ST3
variable {a b d : Nat} {f g h f' : Nat → Int}
theorem st_a (h1 : a ≠ b) (h2 : a ≠ d) : ∀ y : Nat × (Nat → Int), y ∈ [(d, h), (b, g), (a, f')] → y = (a, f') ∨ (y ∈ [(d, h), (b, g), (a, f)] ∧ y.1 ≠ a) := fun y q => by
  simp only [List.mem_cons, List.not_mem_nil, or_false] at q ⊢
  rcases q with rfl | rfl | rfl
  · exact Or.inr ⟨Or.inl rfl, fun w => h2 w.symm⟩
  · exact Or.inr ⟨Or.inr (Or.inl rfl), fun w => h1 w.symm⟩
  · exact Or.inl rfl
theorem st_b (h1 : a ≠ b) (h2 : b ≠ d) : ∀ y : Nat × (Nat → Int), y ∈ [(d, h), (b, f'), (a, f)] → y = (b, f') ∨ (y ∈ [(d, h), (b, g), (a, f)] ∧ y.1 ≠ b) := fun y q => by
  simp only [List.mem_cons, List.not_mem_nil, or_false] at q ⊢
  rcases q with rfl | rfl | rfl
  · exact Or.inr ⟨Or.inl rfl, fun w => h2 w.symm⟩
  · exact Or.inl rfl
  · exact Or.inr ⟨Or.inr (Or.inr rfl), h1⟩
theorem st_d (h1 : a ≠ d) (h2 : b ≠ d) : ∀ y : Nat × (Nat → Int), y ∈ [(d, f'), (b, g), (a, f)] → y = (d, f') ∨ (y ∈ [(d, h), (b, g), (a, f)] ∧ y.1 ≠ d) := fun y q => by
  simp only [List.mem_cons, List.not_mem_nil, or_false] at q ⊢
  rcases q with rfl | rfl | rfl
  · exact Or.inl rfl
  · exact Or.inr ⟨Or.inr (Or.inl rfl), h2⟩
  · exact Or.inr ⟨Or.inr (Or.inr rfl), h1⟩
theorem mem_a : (a, f) ∈ [(d, h), (b, g), (a, f)] := List.Mem.tail _ (List.Mem.tail _ (List.Mem.head _))
theorem mem_b : (b, g) ∈ [(d, h), (b, g), (a, f)] := List.Mem.tail _ (List.Mem.head _)
theorem mem_d : (d, h) ∈ [(d, h), (b, g), (a, f)] := List.Mem.head _
end ST3
/-! a step as it was told ahead -/
theorem up_all {f F : Nat → Int} {i : Nat} {z : Int} (h : ∀ y, y < i → f y = F y) (hz : z = F i) : ∀ y, y < i + 1 → up1 f i z y = F y := fun y hy => by
  unfold up1
  by_cases q : y = i
  · rw [if_pos q, q]; exact hz
  · rw [if_neg q]; exact h y (by omega)
def gsF (N : Nat) (pv v : Nat → Nat → Int) (u : Int) (i : Nat) : Int := (dot N (pv (2 + i)) (v 4)).fdiv 16 + 16 * pv 6 i * u
theorem gsF_bd {N P : Nat} {pv v : Nat → Nat → Int} {u T : Int} (hp : PlOk pv N P) (hm : MoOk v N P T) (hu : -99 ≤ u ∧ u ≤ 99) {i : Nat} (hi : i < N) : -500000000 ≤ gsF N pv v u i ∧ gsF N pv v u i ≤ 500000000 := by
  obtain ⟨-, h1, h2, -, -, -, hA, hB, -, -, -⟩ := hp
  obtain ⟨-, -, -, hE, -⟩ := hm
  have hd := dot_bd (A := 99) (B := 16000000) (by decide) (by decide) (n := N) (f := pv (2 + i)) (g := v 4) (fun j hj => hA i j hi hj) hE
  have hf := fdiv_small (a := dot N (pv (2 + i)) (v 4)) (b := 16) (B := 6336000000) (by omega) (by omega) (by decide)
  have hq := (fdiv_lt (a := dot N (pv (2 + i)) (v 4)) (q := 16) (by decide))
  have hb := hB i hi
  have hm := mul_bd (a := pv 6 i) (b := u) (A := 99) (B := 99) (by omega) (by omega)
  unfold gsF
  rw [Int.mul_assoc]
  omega
/-- what stays beside the moment, its history and what is laid down by the way -/
def Fr (M M1 : wM) : Prop := ∀ a, a ≠ 0 → a ≠ 26 → ¬ (5 ≤ a ∧ a < 19) → a ≠ 1 → a ≠ 21 → a ≠ 22 → a ≠ 23 → a ≠ 24 → a ≠ 28 → M1 a = M a
theorem Fr.scr {M M1 M2 : wM} (h : Fr M M1) (h' : ScrEq M1 M2) : Fr M M2 := fun a a0 a1 a2 a3 a4 a5 a6 a7 a8 => (h' a a3 a4 a5 a6 a7 a8).trans (h a a0 a1 a2 a3 a4 a5 a6 a7 a8)
theorem Fr.of {M M1 : wM} (h' : ScrEq M M1) : Fr M M1 := fun a _ _ _ a3 a4 a5 a6 a7 a8 => h' a a3 a4 a5 a6 a7 a8
theorem Fr.noted {M M1 M2 : wM} {nx ct : Nat} (h : Fr M M1) (h' : Noted M1 M2 nx ct) (hn : nx < 14) : Fr M M2 := fun a a0 a1 a2 a3 a4 a5 a6 a7 a8 => (h'.2.2.2 a a0 a1 (by omega) a3 a4 a5 a6 a7 a8).trans (h a a0 a1 a2 a3 a4 a5 a6 a7 a8)
theorem Fr.undo {M M1 M2 : wM} (h : Fr M M1) (h' : ∀ a, a ≠ 0 → a ≠ 26 → M2 a = M1 a) : Fr M M2 := fun a a0 a1 a2 a3 a4 a5 a6 a7 a8 => (h' a a0 a1).trans (h a a0 a1 a2 a3 a4 a5 a6 a7 a8)
theorem Noted.at {M M1 : wM} {nx ct a : Nat} (h : Noted M M1 nx ct) (ha : 5 ≤ a ∧ a < 19) (hn : a ≠ 5 + nx) : M1 a = M a := h.2.2.2 a (by omega) (by omega) hn (by omega) (by omega) (by omega) (by omega) (by omega) (by omega)
theorem ScrEq.at {M M1 : wM} {a : Nat} (h : ScrEq M M1) (ha : 5 ≤ a ∧ a < 19) : M1 a = M a := h a (by omega) (by omega) (by omega) (by omega) (by omega) (by omega)
theorem Lo.noted {N P L nx ct : Nat} {T T' : Int} {M M1 : wM} (lo : Lo N P L nx ct T M) (h : Noted M M1 nx ct) (hm : MoOk (M1 0) N P T') (hb : BoxOk N (M1 0 2) (M1 0 3)) (ht : TrOk (M1 0) N P (M 19)) (hT : 0 ≤ T' ∧ T' ≤ 1000) : Lo N P L ((nx + 1) % 14) (min (ct + 1) 14) T' M1 := by
  have hn := lo.nx14
  have e : ∀ a, (a = 19 ∨ a = 25 ∨ a = 27) → M1 a = M a := fun a ha => h.2.2.2 a (by omega) (by omega) (by omega) (by omega) (by omega) (by omega) (by omega) (by omega) (by omega)
  refine ⟨⟨by rw [e 19 (by omega)]; exact lo.ck.1, hm, hb⟩, by rw [e 19 (by omega)]; exact ht, hT, h.2.1, Nat.mod_lt _ (by decide), h.2.2.1, Nat.min_le_right _ _, by rw [e 27 (by omega)]; exact lo.tx, by rw [e 25 (by omega)]; exact lo.sl⟩
theorem Lo.undo {N P L nx ct L' nx' ct' nq cq : Nat} {T : Int} {M M' M1 : wM} (lo : Lo N P L nx ct T M) (lo' : Lo N P L' nx' ct' T M') (h0 : M1 0 = M' 0) (h19 : M' 19 = M 19) (e1 : M1 26 0 1 = (nq : Int)) (hq : nq < 14) (e2 : M1 26 0 2 = (cq : Int)) (hc : cq ≤ 14) (e : ∀ a, a ≠ 0 → a ≠ 26 → M1 a = M a) : Lo N P L nq cq T M1 := by
  have e19 := e 19 (by decide) (by decide)
  have k1 := lo'.ck
  have k2 := lo'.tr
  unfold COk at k1
  rw [h19] at k1 k2
  refine ⟨⟨by rw [e19]; exact lo.ck.1, by rw [h0]; exact k1.2.1, by rw [h0]; exact k1.2.2⟩, by rw [h0, e19]; exact k2, lo.t, e1, hq, e2, hc, by rw [e 27 (by decide) (by decide)]; exact lo.tx, by rw [e 25 (by decide) (by decide)]; exact lo.sl⟩
theorem Lo.up {N P L nx ct : Nat} {T T' : Int} {M : wM} (lo : Lo N P L nx ct T M) (h : T ≤ T') (h2 : T' ≤ 1000) : Lo N P L nx ct T' M := ⟨⟨lo.ck.1, lo.ck.2.1.mono h, lo.ck.2.2⟩, lo.tr, ⟨by have := lo.t; omega, h2⟩, lo.nxe, lo.nx14, lo.cte, lo.ct14, lo.tx, lo.sl⟩
/-- behind the step, before each reading -/
def StI (N P L n1 nx : Nat) (T : Int) (M Ms Mk : wM) (cc : Nat) : Prop := Lo N P L n1 cc T Mk ∧ Mk 0 = Ms 0 ∧ Mk (5 + nx) = M 0 ∧ 1 ≤ cc ∧ Fr M Mk
/-- what an undo finds -/
theorem undo_at {nx ct n1 : Nat} {M M1 : wM} {z : Int} (h : 1 ≤ ct ∧ z = (ct : Int) - 1 ∧ M1 0 = M (5 + (nx + 13) % 14) ∧ M1 26 0 1 = ((((nx + 13) % 14) : Nat) : Int) ∧ M1 26 0 2 = (ct : Int) - 1 ∧ ∀ a, a ≠ 0 → a ≠ 26 → M1 a = M a) (hn : nx = (n1 + 1) % 14) (h1 : n1 < 14) : z = (ct : Int) - 1 ∧ M1 0 = M (5 + n1) ∧ M1 26 0 1 = (n1 : Int) ∧ M1 26 0 2 = ((ct - 1 : Nat) : Int) ∧ ∀ a, a ≠ 0 → a ≠ 26 → M1 a = M a := by
  have e : (nx + 13) % 14 = n1 := by omega
  rw [e] at h
  exact ⟨h.2.1, h.2.2.1, h.2.2.2.1, by rw [h.2.2.2.2.1]; omega, h.2.2.2.2.2⟩
/-- .. behind a reading it gives back what was before -/
theorem StI.back {N P L n1 nx cc : Nat} {T : Int} {M Ms Mk Mr M1 : wM} {z : Int} (h : StI N P L n1 nx T M Ms Mk cc) (hn : n1 = (nx + 1) % 14) (hnx : nx < 14) (hnt : Noted Mk Mr n1 cc) (hu : 1 ≤ min (cc + 1) 14 ∧ z = ((min (cc + 1) 14 : Nat) : Int) - 1 ∧ M1 0 = Mr (5 + ((n1 + 1) % 14 + 13) % 14) ∧ M1 26 0 1 = (((((n1 + 1) % 14 + 13) % 14) : Nat) : Int) ∧ M1 26 0 2 = ((min (cc + 1) 14 : Nat) : Int) - 1 ∧ ∀ a, a ≠ 0 → a ≠ 26 → M1 a = Mr a) : StI N P L n1 nx T M Ms M1 (min (cc + 1) 14 - 1) ∧ 0 ≤ z ∧ M1 0 = Mk 0 := by
  obtain ⟨lo, h0, hh, hc, hf⟩ := h
  have h14 := lo.nx14
  obtain ⟨hz, u0, u1, u2, u3⟩ := undo_at hu rfl h14
  have e0 : M1 0 = Mk 0 := u0.trans hnt.1
  have e : ∀ a, (a = 19 ∨ a = 25 ∨ a = 27) → M1 a = Mk a := fun a ha => (u3 a (by omega) (by omega)).trans (hnt.2.2.2 a (by omega) (by omega) (by omega) (by omega) (by omega) (by omega) (by omega) (by omega) (by omega))
  refine ⟨⟨⟨⟨by rw [e 19 (by omega)]; exact lo.ck.1, by rw [e0]; exact lo.ck.2.1, by rw [e0]; exact lo.ck.2.2⟩, by rw [e0, e 19 (by omega)]; exact lo.tr, lo.t, u1, h14, u2, by omega, by rw [e 27 (by omega)]; exact lo.tx, by rw [e 25 (by omega)]; exact lo.sl⟩, e0.trans h0, ?_, by omega, (hf.noted hnt h14).undo u3⟩, by omega, e0⟩
  rw [u3 _ (by omega) (by omega), hnt.at (by omega) (by omega)]
  exact hh
/-- reading K as it was told -/
theorem obs_read {N P K : Nat} {pv v w : Nat → Nat → Int} {T : Int} (hp : PlOk pv N P) (hm : MoOk w N P T) (ht : TrOk w N P pv) (hK : K < P) (hw : w = obsV N P pv v K) {z : Int} (hz : z = obsY N pv v K K) : (ext N (pv (9 + K)) (w 2) (w 3) (-1) 0).fdiv (pv 12 K) ≤ z ∧ (-400000000 ≤ z ∧ z ≤ 400000000) ∧ w 11 K = 0 ∧ w 10 K = z ∧ wid N (w 2) (w 3) ≤ wid N (v 2) (v 3) ∧ (∀ b, (b = 0 ∨ b = 1 ∨ b = 12 ∨ b = 13) → w b = v b) ∧ (-400000000 ≤ (ext N (pv (9 + K)) (w 2) (w 3) (-1) 0).fdiv (pv 12 K) ∧ (ext N (pv (9 + K)) (w 2) (w 3) (-1) 0).fdiv (pv 12 K) ≤ 400000000) := by
  have e10 : w 10 K = z := by rw [hw, hz]; rfl
  have e1 : w 1 = v 1 := by rw [hw]; rfl
  have hy : z = (dot N (pv (9 + K)) (w 1)).fdiv (pv 12 K) := by rw [hz, e1]; exact if_pos rfl
  have hr := read_in hp ht hK
  have hb := hm.2.2.2.2.2.1 K hK
  have hn := hp.2.2.1
  have hq := hp.2.2.2.2.2.2.2.2.2.2 K hK
  have hx := ext_bd (n := N) (f := pv (9 + K)) (lo := w 2) (hi := w 3) (but := -1) (gr := 0) (A := 99) (B := 1000000) (by decide) (by decide) (fun i hi => hp.2.2.2.2.2.2.2.2.2.1 K i hK hi) hm.2.1 hm.2.2.1
  have hf := fdiv_small (a := ext N (pv (9 + K)) (w 2) (w 3) (-1) 0) (b := pv 12 K) (B := 400000000) (by omega) (by omega) (by decide)
  refine ⟨by rw [hy]; exact hr.1, by rw [← e10]; exact hb, by rw [hw]; exact if_pos rfl, e10, ?_, fun b hb => ?_, hf⟩
  · rw [hw]; exact wid_sub tight_sub
  · rw [hw]
    rcases hb with rfl | rfl | rfl | rfl <;> rfl
/-- both ways of a shave -/
theorem shv2 {N P : Nat} {pv v w : Nat → Nat → Int} {i n : Nat} {z : Int} (hi : i < N) (hz : z = (((shv N P pv i 2 1 n v).1 : Int) + ((shv N P pv i 3 (-1) n (shv N P pv i 2 1 n v).2).1 : Int))) (hw : w = (shv N P pv i 3 (-1) n (shv N P pv i 2 1 n v).2).2) : wid N (w 2) (w 3) = wid N (v 2) (v 3) - z ∧ 0 ≤ z ∧ ∀ b, b ≠ 2 → b ≠ 3 → w b = v b := by
  have h1 := shv_wid (P := P) (pv := pv) (j := 2) (d := 1) hi (Or.inl ⟨rfl, rfl⟩) n v
  have h2 := shv_wid (P := P) (pv := pv) (j := 3) (d := -1) hi (Or.inr ⟨rfl, rfl⟩) n (shv N P pv i 2 1 n v).2
  rw [hw]
  exact ⟨by rw [h2.1, h1.1, hz]; omega, by omega, fun b b2 b3 => (h2.2 b b2 b3).trans (h1.2 b b2 b3)⟩
