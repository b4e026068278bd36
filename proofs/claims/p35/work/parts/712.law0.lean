/-! THE LAW: calls from it; its start's numbers -/
section LZ
variable {p : Program} {l : Launch} {e : Env} {R : Room} {s : State} {m : MethodId} {args : Array Value} {below : List Frame} {meth : Method} {c : Code} {k n : Nat} {Q : State → Prop} {A : Nat → Prop} {G1 G2 : wG} {M V : wM} {nL : Nat} {own : String} {cc : ByteArray} {pc pc' : Nat} {lc : List (Nat × Value)} {st st0 : List Value} {B : Nat}
/-- a method of the first world that makes arrays of its own -/
theorem e_runP (X : wX p s m args meth c (gA G1 A) nL own cc) (hL : dL G1 G2) (hN : ∀ q, sA G1 B q → A q) (hBs : ∀ (M V : wM) (H : Heap), dF G1 G2 M V H → B ≤ H.size) {N index maxL mc ms : Nat} {y : MethodName} {bytes : ByteArray} {ret : Option FieldType} {rm : Room} {As : List Value} {Qc : Array Value → State → Outcome → State → Prop} (hM : Met l y (gws y bytes maxL ret) rm (sPc G1 B M As) Qc mc ms (sA G1 B)) (hy : wCal y bytes maxL ret N) (hstat : Cond.static y ∈ GW) (hrc : rm.cells = mc) (hrs : rm.slots = ms) (hR : rm.frames + 1 ≤ R.frames ∧ 8 + (maxL + 11) + rm.locals ≤ R.locals) (hn : As.length = N) (hst : st0 = As.reverse ++ st) (hcat : (st.map fun v => v.category).sum ≤ 8) (hf : k + mc ≤ R.cells ∧ n + ms ≤ R.slots) (hlink : Cond.methodLink own index y ∈ GW) (hd : decode cc pc = .ok (.invokestatic index, 3)) :
    ∀ (H : Heap) (locs : List Loc) (ls : Array Slot), dF G1 G2 M V H → va_S A s.heap H locs → ls.size = nL → va_Run p l e R s m args below meth c H locs k n mc ms (F0 m pc ls st0) st (Qc As.toArray) (sA G1 B) := by
  intro H locs ls hW hS hl
  refine va_runS (As := As) (rest := st) X.fix hM ⟨X.callB hy hlink hrc hrs hR, X.w hstat⟩ ⟨sPc_blind, fun U hU hWm => ⟨rfl, by rw [hU]; exact hW.1, ?_, hL.1, by rw [hU]; exact hBs _ _ _ hW⟩⟩ rfl hn hl hst (lv_room hcat) hd hf
  have h := wSt.warm (G := gA G1 A) (locs := locs) hWm (by rw [hU]; exact hS) X.sta
  exact wSt.narrow (G := gA G1 (sA G1 B)) (A := A) h hN
theorem e_callP {mc ms : Nat} {P : Int → wM → Prop} {a : Array Value} (hL : dL G1 G2) (hN : ∀ q, sA G1 B q → A q) (hD : ∀ q, wA G2 q → q < B) (hr : ∀ (H : Heap) (locs : List Loc) (ls : Array Slot), dF G1 G2 M V H → va_S A s.heap H locs → ls.size = nL → va_Run p l e R s m args below meth c H locs k n mc ms (F0 m pc ls st0) st (sQi G1 B P a) (sA G1 B)) (hp : pc + 3 = pc')
    (kk : ∀ (z : Int) (M' : wM), P z M' → eV p l e R s m args below meth c A (dF G1 G2 M' V) nL (k + mc) (n + ms) Q pc' lc (vI z :: st)) : eV p l e R s m args below meth c A (dF G1 G2 M V) nL k n Q pc lc st0 := by
  subst hp; intro H locs ls hW hS hl
  refine va_calli (hr H locs ls hW hS hl.1) hS (fun q _ h => hN q h) (fun q h => hN q h) (fun r u t H1 locs1 ht hvm hpo hB hz hk hS1 => ?_)
  obtain ⟨z, M'⟩ := u
  obtain ⟨rfl, hP⟩ := hpo
  rw [ht] at hB
  refine kk z M' hP H1 locs1 ls ⟨hB, ?_⟩ hS1 hl
  refine wW.aside (G1 := gA G1 (sA G1 B)) hW.2 hL.2.1 (fun q h1 h2 => ?_) hk
  rcases h1 with h1 | h1
  · exact hL.2.2.1 q h1 h2
  · have := hD q h2
    omega
end LZ
theorem M0_fm : FM (M0 2) := ⟨fun i _ => ⟨rfl, rfl, rfl, rfl, rfl, rfl⟩, fun k _ => ⟨rfl, rfl⟩, rfl, rfl, rfl⟩
theorem M0_fm0 : FM (M0 0) := ⟨fun i _ => ⟨rfl, rfl, rfl, rfl, rfl, rfl⟩, fun k _ => ⟨rfl, rfl⟩, rfl, rfl, rfl⟩
theorem M0_pl : PlOk (M0 19) 1 1 := by
  refine ⟨rfl, by decide, by decide, rfl, by decide, by decide, fun a i ha hi => ?_, fun i hi => ?_, fun i hi => ?_, fun k i hk hi => ?_, fun k hk => ?_⟩
  · rw [show a = 0 by omega, show i = 0 by omega]; decide
  · rw [show i = 0 by omega]; decide
  · rw [show i = 0 by omega]; decide
  · rw [show k = 0 by omega, show i = 0 by omega]; decide
  · rw [show k = 0 by omega]; decide
theorem M0_lo : Lo 1 1 0 0 0 0 M0 := by
  obtain ⟨g1, g2, g3, g4, g5⟩ := M0_fm0
  refine ⟨⟨M0_pl, ?_, ?_⟩, ⟨?_, ?_⟩, by decide, rfl, by decide, rfl, by decide, ⟨rfl, by decide, fun i _ => (show (0 : Int) ≤ 0 ∧ (0 : Int) ≤ 65535 by decide)⟩, fun x _ => Or.inl rfl⟩
  · refine ⟨fun i hi => ?_, fun i hi => ?_, fun i hi => ?_, fun i hi => ?_, fun i k hi hk => ?_, fun k hk => ?_, fun k hk => ?_, (show (0 : Int) ≤ 0 ∧ (0 : Int) ≤ 9 by decide), (show (0 : Int) ≤ 0 ∧ (0 : Int) ≤ 99 by decide), by omega, by omega, by omega, fun i hi => ?_, fun i hi => ?_⟩
    · have := g1 i (by omega); omega
    · have := g1 i (by omega); omega
    · have := g1 i (by omega); omega
    · have := g1 i (by omega); omega
    · rw [show i = 0 by omega]; exact (show (-99 : Int) ≤ 0 ∧ (0 : Int) ≤ 99 by decide)
    · have := g2 k (by omega); omega
    · have := g2 k (by omega); omega
    · have := g1 i (by omega); omega
    · have := g1 i (by omega); omega
  · intro i hi
    have := g1 i (by omega); omega
  · intro i hi
    have := g1 i (by omega); omega
  · intro k hk q
    have := g2 k (by omega); omega
/-- a text that is empty is wrong at its start -/
theorem M0_pos : (if (rdE (M0 27 1) 0).1.2 = 0 then (-9 : Int) else ((rdE (M0 27 1) 0).1.1 : Int)) = 0 := by decide +kernel
theorem M0_err {M1 : wM} {s : pS} (f1 : TxOk (M1 27) 0 s) (f2 : ∀ a, a ≠ 2 → a ≠ 20 → a ≠ 27 → M1 a = M0 a) (f4 : ∀ b x, ¬ (b = 0 ∧ (x = 7 ∨ x = 8)) → ¬ (6 ≤ b ∧ b < 10) → M1 2 b x = M0 2 b x) : Bo 1 1 0 0 0 0 0 0 M1 M0 := by
  have e0 := f2 0 (by decide) (by decide) (by decide)
  have e19 := f2 19 (by decide) (by decide) (by decide)
  have e25 := f2 25 (by decide) (by decide) (by decide)
  have e26 := f2 26 (by decide) (by decide) (by decide)
  refine ⟨?_, M0_lo, ⟨by rw [e19]; exact PvE.self, by rw [e0]; exact VEq.self⟩, fun t ht => absurd ht (Nat.not_lt_zero t), fun x _ => ⟨by rw [e25], fun q => ?_⟩, M0_fm.keep f4, M0_fm⟩
  · unfold Lo COk
    rw [e0, e19, e25, e26]
    exact ⟨M0_lo.ck, M0_lo.tr, M0_lo.t, M0_lo.nxe, M0_lo.nx14, M0_lo.cte, M0_lo.ct14, ⟨f1.1, f1.2.1, f1.2.2.2.2.2⟩, M0_lo.sl⟩
  · rw [e25] at q
    exact absurd q (show ¬ (0 : Int) = 1 by decide)
section BB
variable {N P L LL nx nn ct nq cq : Nat} {T T' : Int} {M W M2 M3 W3 : wM}
theorem Bo.told (a : Lo N P L nx 0 T M) (b : Lo N P L nn 0 T W) (h : Al N P M W) (f : FM (M 2)) (g : FM (W 2)) (hs : ∀ x, x < 2 → M 25 2 x = 0 ∧ W 25 2 x = 0) : Bo N P L L nx nn 0 T M W := ⟨a, b, h, fun t ht => absurd ht (Nat.not_lt_zero t), fun x hx => ⟨by rw [(hs x hx).1, (hs x hx).2], fun q => by rw [(hs x hx).1] at q; exact absurd q (by decide)⟩, f, g⟩
theorem Bo.rz {z : Int} (h : Bo N P L LL nx nn ct T M W) (hs : M 25 2 0 = 1) (hf : Fr M M2) (r1 : RestP M2 M3 0 z) : 0 ≤ z ∧ z ≤ 1000 := by
  have hT := h.1.t
  have f25 : M2 25 = M 25 := hf 25 (by decide) (by decide) (by omega) (by decide) (by decide) (by decide) (by decide) (by decide) (by decide)
  have f3 : M2 3 = M 3 := hf 3 (by decide) (by decide) (by omega) (by decide) (by decide) (by decide) (by decide) (by decide) (by decide)
  obtain ⟨-, -, -, -, -, -, -, -, -, h9, -⟩ := ((h.2.2.2.2.1 0 (by decide)).2 hs).1.1
  rcases r1 with ⟨-, a2, -⟩ | ⟨a1, -, -⟩
  · have e : M2 (3 + 0) 0 9 = M (3 + 0) 0 9 := congrFun (congrFun f3 0) 9
    omega
  · rw [f25] at a1
    omega
/-- both restored, the one behind calls of its own -/
theorem Bo.back {z z' : Int} (h : Bo N P L LL nx nn ct T M W) (hs : M 25 2 0 = 1) (lo2 : Lo N P L nq cq T' M2) (hf : Fr M M2) (r1 : RestP M2 M3 0 z) (r2 : RestP W W3 0 z') (hT : T ≤ T') (hT2 : T' ≤ 1000) : (0 ≤ z' ∧ z' ≤ 1000) ∧ Bo N P L LL nq nn 0 T' M3 W3 := by
  have fr : ∀ x, (x = 2 ∨ x = 3 ∨ x = 4 ∨ x = 19 ∨ x = 25 ∨ x = 27) → M2 x = M x := fun x hx => hf x (by omega) (by omega) (by omega) (by omega) (by omega) (by omega) (by omega) (by omega) (by omega)
  have h0 := (h.2.2.2.2.1 0 (by decide)).2 hs
  have hsW : W 25 2 0 = 1 := by rw [← (h.2.2.2.2.1 0 (by decide)).1]; exact hs
  rcases r1 with ⟨a1, a2, a3, a4, a5, a6⟩ | ⟨a1, -, -⟩
  · rcases r2 with ⟨b1, b2, b3, b4, b5, b6⟩ | ⟨b1, -, -⟩
    · have a9 : M3 19 = M 19 := (a6 19 (by decide) (by decide)).trans (fr 19 (by omega))
      have b9 : W3 19 = W 19 := b6 19 (by decide) (by decide)
      have a25 : M3 25 = M 25 := (a6 25 (by decide) (by decide)).trans (fr 25 (by omega))
      have b25 : W3 25 = W 25 := b6 25 (by decide) (by decide)
      have h0' : MPr N P T' M3 W3 0 0 := (h0.to a9 b9 (a3.trans (fr (3 + 0) (by omega))) b3).up hT
      have p1 : PlOk (M3 19) N P := by rw [a9]; exact h.1.ck.1
      have p2 : PlOk (W3 19) N P := by rw [b9]; exact h.2.1.ck.1
      have hz : 0 ≤ z' ∧ z' ≤ 1000 := by
        have hT := h.1.t
        obtain ⟨-, -, -, -, -, -, -, -, -, h9, -⟩ := h0.2.1.1
        omega
      refine ⟨hz, ⟨⟨p1, h0'.1.1, h0'.1.2.1⟩, h0'.1.2.2, lo2.t, by rw [a5]; exact lo2.nxe, lo2.nx14, a4, by omega, by rw [a6 27 (by decide) (by decide)]; exact lo2.tx, by rw [a6 25 (by decide) (by decide)]; exact lo2.sl⟩, ⟨⟨p2, h0'.2.1.1, h0'.2.1.2.1⟩, h0'.2.1.2.2, lo2.t, by rw [b5]; exact h.2.1.nxe, h.2.1.nx14, b4, by omega, by rw [b6 27 (by decide) (by decide)]; exact h.2.1.tx, by rw [b25]; exact h.2.1.sl⟩, ⟨by rw [a9, b9]; exact h.2.2.1.1, h0'.2.2⟩, fun t ht => absurd ht (Nat.not_lt_zero t), fun y hy => ?_, by rw [a6 2 (by decide) (by decide), fr 2 (by omega)]; exact h.2.2.2.2.2.1, by rw [b6 2 (by decide) (by decide)]; exact h.2.2.2.2.2.2⟩
      rw [a25, b25]
      exact ⟨(h.2.2.2.2.1 y hy).1, fun q => (((h.2.2.2.2.1 y hy).2 q).to a9 b9 ((a6 _ (by omega) (by omega)).trans (fr _ (by omega))) (b6 _ (by omega) (by omega))).up hT⟩
    · exfalso; omega
  · exfalso
    rw [fr 25 (by omega)] at a1
    omega
end BB
theorem t_one {T0 B C : Nat → cC} {x : cC} {i : Nat} (hi : i < 324) : tB (tU (tB T0 0 B) (0 + 324) x) (0 + 324) C i = B i := by
  unfold tB tU
  rw [if_neg (by omega), if_neg (by omega)]
  exact if_pos (Nat.zero_le _)
theorem t_two {T0 C : Nat → cC} {i : Nat} : tB T0 (0 + 324) C (324 + i) = C i := by
  unfold tB
  rw [if_pos (by omega), show 324 + i - (0 + 324) = i by omega]
