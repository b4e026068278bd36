/-! what an action by lot does -/
def PlaceP (N P nx ct : Nat) (M M1 : wM) (i : Nat) (v z : Int) : Prop := (meets N P (M 19) (up1 (M 0 1) i v) (M 0 10) (M 0 11) ∧ z = M 0 1 i ∧ M1 0 = setV (M 0) 1 i v ∧ Noted M M1 nx ct) ∨ (¬ meets N P (M 19) (up1 (M 0 1) i v) (M 0 10) (M 0 11) ∧ z = -1003 ∧ ScrEq M M1)
def UndoP (nx ct : Nat) (M M1 : wM) (z : Int) : Prop := (1 ≤ ct ∧ z = (ct : Int) - 1 ∧ M1 0 = M (5 + (nx + 13) % 14) ∧ M1 26 0 1 = ((((nx + 13) % 14) : Nat) : Int) ∧ M1 26 0 2 = (ct : Int) - 1 ∧ ∀ a, a ≠ 0 → a ≠ 26 → M1 a = M a) ∨ (ct = 0 ∧ z = -1003 ∧ ScrEq M M1)
def SaveP (M M1 : wM) (s : Nat) (z : Int) : Prop := z = M 0 0 9 ∧ M1 (3 + s) = M 0 ∧ M1 25 2 s = 1 ∧ (∀ x, x ≠ s → M1 25 2 x = M 25 2 x) ∧ ∀ a, a ≠ 3 + s → a ≠ 25 → M1 a = M a
def RestP (M M1 : wM) (s : Nat) (z : Int) : Prop := (M 25 2 s = 1 ∧ z = M (3 + s) 0 9 ∧ M1 0 = M (3 + s) ∧ M1 26 0 2 = 0 ∧ M1 26 0 1 = M 26 0 1 ∧ ∀ a, a ≠ 0 → a ≠ 26 → M1 a = M a) ∨ (M 25 2 s = 0 ∧ z = -1003 ∧ ScrEq M M1)
def GainP (nx ct : Nat) (M M1 : wM) (j k : Nat) (v z : Int) : Prop := M1 0 = setV (M 0) j k v ∧ z = M 0 j k ∧ Noted M M1 nx ct
def ShaveP (N P nx ct : Nat) (T : Int) (M M1 : wM) (i n : Nat) (z : Int) : Prop := z = (((shv N P (M 19) i 2 1 n (M 0)).1 : Int) + ((shv N P (M 19) i 3 (-1) n (shv N P (M 19) i 2 1 n (M 0)).2).1 : Int)) ∧ M1 0 = (shv N P (M 19) i 3 (-1) n (shv N P (M 19) i 2 1 n (M 0)).2).2 ∧ MoOk (M1 0) N P T ∧ BoxOk N (M1 0 2) (M1 0 3) ∧ TrOk (M1 0) N P (M 19) ∧ Noted M M1 nx ct
def ActP (N P nx ct : Nat) (T : Int) (M M1 : wM) (x y z : Int) : Prop :=
  (x.tmod 10 ≤ 2 → z = M 0 0 9 + 1 ∧ StepV N P (M 19) (M 0) (M1 0) (y.tmod 21 - 10) ((y.tdiv 32).tmod (2 * M 0 0 8 + 1) - M 0 0 8) ∧ Noted M M1 nx ct) ∧
  (x.tmod 10 = 3 ∨ x.tmod 10 = 4 → z = obsY N (M 19) (M 0) (y.tmod P).toNat (y.tmod P).toNat ∧ M1 0 = obsV N P (M 19) (M 0) (y.tmod P).toNat ∧ Noted M M1 nx ct) ∧
  (x.tmod 10 = 5 → PlaceP N P nx ct M M1 (y.tmod N).toNat (M 0 2 (y.tmod N).toNat + (y.tdiv 4).tmod (1 + M 0 3 (y.tmod N).toNat - M 0 2 (y.tmod N).toNat)) z) ∧
  (x.tmod 10 = 6 → y.tmod 3 = 0 → GainP nx ct M M1 (6 + ((y.tdiv 3).tmod N).toNat) ((y.tdiv 12).tmod P).toNat ((y.tdiv 64).tmod 61 - 30) z) ∧
  (x.tmod 10 = 6 → y.tmod 3 = 1 → GainP nx ct M M1 0 7 ((y.tdiv 3).tmod 10) z) ∧
  (x.tmod 10 = 6 → y.tmod 3 = 2 → GainP nx ct M M1 0 8 ((y.tdiv 3).tmod 12) z) ∧
  (x.tmod 10 = 7 → ShaveP N P nx ct T M M1 (y.tmod N).toNat (1 + (y.tdiv 4).tmod 9).toNat z) ∧
  (x.tmod 10 = 8 → UndoP nx ct M M1 z) ∧
  (x.tmod 10 = 9 → y.tmod 2 = 0 → SaveP M M1 1 z) ∧
  (x.tmod 10 = 9 → y.tmod 2 = 1 → RestP M M1 1 z)
theorem tmn {a b : Int} (ha : 0 ≤ a) (hb : 0 < b) : 0 ≤ a.tmod b ∧ a.tmod b < b := ⟨(tmod_bd hb).2.2 ha, (tmod_bd hb).1.2⟩
