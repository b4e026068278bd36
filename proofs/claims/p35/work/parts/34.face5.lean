section WR5
variable {p : Program} {l : Launch} {e : Env} {R : Room} {s : State} {m : MethodId} {args : Array Value} {below : List Frame} {meth : Method} {c : Code} {k n : Nat} {Q : State → Prop} {G : wG} {M : wM} {nL : Nat} {own : String} {cc : ByteArray} {pc pc' tgt : Nat} {lc : List (Nat × Value)} {st : List Value}
def shlI (a b : Int) : Int := (Int32.ofInt a <<< (Int32.ofInt b &&& 31)).toInt
def orI (a b : Int) : Int := (Int32.ofInt a ||| Int32.ofInt b).toInt
theorem r_ishl (X : wX p s m args meth c G nL own cc) {a b : Int} (hd : decode cc pc = .ok (.ishl, 1)) (hp : pc + 1 = pc') (kk : wV p l e R s m args below meth c G nL M k n Q pc' lc (vI (shlI a b) :: st)) : wV p l e R s m args below meth c G nL M k n Q pc lc (vI b :: vI a :: st) := by
  subst hp; intro H locs ls hW hS hl
  have h := kk H locs ls hW hS hl
  unfold shlI vI at h
  rw [Int32.ofInt_toInt] at h
  exact lv_ishl X.1 X.2.1 hd h
theorem r_ior (X : wX p s m args meth c G nL own cc) {a b : Int} (hd : decode cc pc = .ok (.ior, 1)) (hp : pc + 1 = pc') (kk : wV p l e R s m args below meth c G nL M k n Q pc' lc (vI (orI a b) :: st)) : wV p l e R s m args below meth c G nL M k n Q pc lc (vI b :: vI a :: st) := by
  subst hp; intro H locs ls hW hS hl
  have h := kk H locs ls hW hS hl
  unfold orI vI at h
  rw [Int32.ofInt_toInt] at h
  exact lv_ior X.1 X.2.1 hd h
end WR5
/-- the outputs that the unknown input touches -/
def tch (N : Nat) (pv : Nat → Nat → Int) : Nat → Int
  | 0 => 0
  | k + 1 => if dot N (pv (9 + k)) (pv 7) = 0 then tch N pv k else orI (tch N pv k) (shlI 1 k)
/-- bounds after t steps -/
def itv (N : Nat) (pv : Nat → Nat → Int) (u B : Int) (lo hi : Nat → Int) : Nat → (Nat → Int) × (Nat → Int)
  | 0 => (lo, hi)
  | t + 1 => (lowF N pv u B (itv N pv u B lo hi t).1 (itv N pv u B lo hi t).2, uppF N pv u B (itv N pv u B lo hi t).1 (itv N pv u B lo hi t).2)
theorem low_congr {N : Nat} {pv : Nat → Nat → Int} {u B : Int} {lo hi lo' hi' : Nat → Int} (h1 : ∀ i, i < N → lo i = lo' i) (h2 : ∀ i, i < N → hi i = hi' i) (j : Nat) : lowF N pv u B lo hi j = lowF N pv u B lo' hi' j ∧ uppF N pv u B lo hi j = uppF N pv u B lo' hi' j := by
  unfold lowF uppF endF
  rw [ext_congr (fun _ _ => rfl) h1 h2, ext_congr (gr := 1) (fun _ _ => rfl) h1 h2]
  exact ⟨rfl, rfl⟩
/-- whether a state can't have a value -/
def outB (N P : Nat) (pv v : Nat → Nat → Int) (i : Nat) (x : Int) : Prop := (tight N P pv (v 10) (v 11) 100 (up1 (v 2) i x) (up1 (v 3) i x)).1 = 2
def row4 (r : Nat → Int) (a b c d : Int) : Nat → Int := up1 (up1 (up1 (up1 r 0 a) 1 b) 2 c) 3 d
def combs (e : Nat → Int) (N : Nat) : Int := if firstE e N 0 = -1 then (N : Int) else N - 1
theorem tdiv_le {a g : Int} : -(a.natAbs : Int) ≤ a.tdiv g ∧ a.tdiv g ≤ a.natAbs := by
  have h1 : (a.tdiv g).natAbs ≤ a.natAbs := by
    rw [Int.natAbs_tdiv]
    exact Nat.div_le_self _ _
  omega
theorem combF_bd {e : Nat → Int} {N q i : Nat} (hN : N ≤ 4) (he : ∀ i, i < N → -99 ≤ e i ∧ e i ≤ 99) (hq : if firstE e N 0 = -1 then q < N else q + 1 < N) (hi : i < N) : -99 ≤ combF e N q i ∧ combF e N q i ≤ 99 := by
  have hr := firstE_rng e N
  unfold combF
  by_cases c : firstE e N 0 = -1
  · rw [if_pos c]
    split <;> omega
  · rw [if_neg c]
    rw [if_neg c] at hq
    have hs : (if (q : Int) < firstE e N 0 then q else q + 1) < N := by split <;> omega
    obtain ⟨s, es⟩ : ∃ s, s = (if (q : Int) < firstE e N 0 then q else q + 1) := ⟨_, rfl⟩
    rw [← es] at hs ⊢
    have h1 := he s hs
    have h2 := he (firstE e N 0).toNat (by omega)
    have h3 := he i hi
    by_cases d : (i : Int) = firstE e N 0
    · rw [if_pos d]
      have := @tdiv_le (if 0 < e i then -e s else e s) (Int.gcd (e s) (e i))
      have h4 : (if 0 < e i then -e s else e s).natAbs ≤ 99 := by split <;> omega
      omega
    · rw [if_neg d]
      by_cases f : i = s
      · rw [if_pos f]
        have := @tdiv_le ((e (firstE e N 0).toNat).natAbs : Int) (Int.gcd (e i) (e (firstE e N 0).toNat))
        omega
      · rw [if_neg f]
        omega
/-- values shaved off a bound j, by d each -/
def shv (N P : Nat) (pv : Nat → Nat → Int) (i j : Nat) (d : Int) : Nat → (Nat → Nat → Int) → Nat × (Nat → Nat → Int)
  | 0, v => (0, v)
  | m + 1, v => if (tight N P pv (v 10) (v 11) 100 (up1 (v 2) i (v j i)) (up1 (v 3) i (v j i))).1 = 2 then ((shv N P pv i j d m (setV v j i (v j i + d))).1 + 1, (shv N P pv i j d m (setV v j i (v j i + d))).2) else (0, v)
theorem MoOk.set23 {v : Nat → Nat → Int} {N P j i : Nat} {T x : Int} (h : MoOk v N P T) (hj : j = 2 ∨ j = 3) (hx : -1000000 ≤ x ∧ x ≤ 1000000) : MoOk (setV v j i x) N P T := by
  obtain ⟨hT, hL, hU, hS, hG, hY, hAg, hHo, hBo, hTi, hLi, hLb, hLl, hLh⟩ := h
  have e : ∀ b, b ≠ j → setV v j i x b = v b := fun b hb => if_neg hb
  have eb : ∀ (b : Nat) (k : Nat), (b = 2 ∨ b = 3) → k < N → -1000000 ≤ setV v j i x b k ∧ setV v j i x b k ≤ 1000000 := fun b k hb hk => by
    have hv : -1000000 ≤ v b k ∧ v b k ≤ 1000000 := by rcases hb with rfl | rfl; exact hL k hk; exact hU k hk
    unfold setV up1
    by_cases c : b = j
    · rw [if_pos c, ← c]
      show -1000000 ≤ (if k = i then x else v b k) ∧ (if k = i then x else v b k) ≤ 1000000
      split
      · exact hx
      · exact hv
    · rw [if_neg c]; exact hv
  exact ⟨by rw [e 1 (by omega)]; exact hT, fun k hk => eb 2 k (Or.inl rfl) hk, fun k hk => eb 3 k (Or.inr rfl) hk, by rw [e 4 (by omega)]; exact hS, fun a k ha hk => by
    rw [e (6 + a) (by omega)]; exact hG a k ha hk, by rw [e 10 (by omega)]; exact hY, by rw [e 11 (by omega)]; exact hAg, by rw [e 0 (by omega)]; exact hHo, by rw [e 0 (by omega)]; exact hBo, by rw [e 0 (by omega)]; exact hTi, by rw [e 0 (by omega)]; exact hLi, by rw [e 0 (by omega)]; exact hLb, by rw [e 12 (by omega)]; exact hLl, by rw [e 13 (by omega)]; exact hLh⟩
