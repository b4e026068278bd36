/-! THE START: the cells that the constructors made are the world, with these numbers -/
def off (o j : Nat) : Nat := if o = 28 then (if j = 0 then 0 else 323) else if o = 19 then 1 + j else if o = 0 then 14 + j else if o = 1 then 28 + j else if o = 26 then 42 + j else if o = 25 then 240 + j else if o = 3 then 243 + j else if o = 4 then 257 + j else if o = 27 then 271 + j else if o = 20 then 273 + j else if o = 2 then 286 + j else if o = 21 then 300 + j else if o = 22 then (if j = 0 then 303 else 315 + j) else if o = 23 then 304 + j else if o = 24 then 310 + j else 44 + 14 * (o - 5) + j
def oG (cl : Nat → ClassId) (va : va_G) (h : Nat) (A : Nat → Prop) : wG := (cl, va, fun o j => h + off o j, A)
def mPla (j i : Nat) : Int := match j with
  | 0 => if i < 2 then 1 else 0
  | 2 => if i = 0 then 16 else 0
  | 6 => if i = 0 then 1 else 0
  | 9 => if i = 0 then 1 else 0
  | 12 => if i = 0 then 1 else 0
  | _ => 0
def mMom (j : Nat) : Int := match j with
  | 2 => -1000
  | 3 => 1000
  | 11 => -1
  | _ => 0
def M0 : wM := fun o j i => if o < 19 then mMom j else if o < 21 then mPla j i else 0
def kMatch (G : wG) (g : Nat → Int) : cC → wKd → Prop
  | .inl q, .inl r => q.1 = r.1 ∧ q.2 = wFs G g r.2 0
  | .inr q, .inr r => q.1 = r.1 ∧ q.2.1 = r.2.1 ∧ ∀ j, j < q.2.1 → q.2.2 j = wAr G g r.1 r.2.2 j
  | _, _ => False
theorem kMatch.to {G : wG} {g : Nat → Int} {a : Nat} {H : Heap} {x : cC} {k : wKd} (hx : kCell G a H x) (hm : kMatch G g x k) : wCell G g a H k := by
  cases x with
  | inl q =>
    cases k with
    | inl r =>
      obtain ⟨e1, e2⟩ := hm
      obtain ⟨c, h1, h2⟩ := hx
      rw [e1] at h1 h2
      rw [e2] at h2
      exact ⟨c, h1, h2⟩
    | inr r => exact hm.elim
  | inr q =>
    cases k with
    | inl r => exact hm.elim
    | inr r =>
      obtain ⟨e1, e2, e3⟩ := hm
      show H[a]? = some (arrV (G.1 r.1) r.2.1 (wAr G g r.1 r.2.2))
      rw [← e1, ← e2, ← arr_below (cl := G.1 q.1) (N := q.2.1) (f := q.2.2) (by rw [← e1] at e3; exact e3)]
      exact hx
/-- the cell o, j: what the constructors laid there -/
def zCell (cl : Nat → ClassId) (va : va_G) (h : Nat) (A : Nat → Prop) (q : Nat × Nat) : Prop := ∀ k, wkd q.1 q.2 = some k → kMatch (oG cl va h A) (M0 q.1 q.2) (T_X8_init h (off q.1 q.2)) k
theorem zC {cl : Nat → ClassId} {va : va_G} {h o j : Nat} {A : Nat → Prop} {k0 : wKd} {x : cC} (hk : wkd o j = some k0) (hx : T_X8_init h (off o j) = x) (hm : kMatch (oG cl va h A) (M0 o j) x k0) : zCell cl va h A (o, j) := fun k hk2 => by
  obtain rfl := Option.some.inj (hk2.symm.trans hk)
  show kMatch _ _ (T_X8_init h (off o j)) _
  rw [hx]
  exact hm
theorem z_0_0 (cl : Nat → ClassId) (va : va_G) (h : Nat) (A : Nat → Prop) : zCell cl va h A (0, 0) := zC (k0 := .inl (1, [some (0, 1), some (0, 2), some (0, 3), some (0, 4), some (0, 5), some (0, 10), some (0, 11), none, none, none, none, none, some (0, 12), some (0, 13)])) rfl rfl ⟨rfl, rfl⟩
theorem z_0_1 (cl : Nat → ClassId) (va : va_G) (h : Nat) (A : Nat → Prop) : zCell cl va h A (0, 1) := zC (k0 := .inr (0, 4, wNr)) rfl rfl ⟨rfl, rfl, fun _ _ => rfl⟩
theorem z_0_2 (cl : Nat → ClassId) (va : va_G) (h : Nat) (A : Nat → Prop) : zCell cl va h A (0, 2) := zC (k0 := .inr (0, 4, wNr)) rfl rfl ⟨rfl, rfl, fun i hi => by
    have hi : i < 4 := hi
    rcases (show i = 0 ∨ i = 1 ∨ i = 2 ∨ i = 3 by omega) with rfl | rfl | rfl | rfl <;> rfl⟩
theorem z_0_3 (cl : Nat → ClassId) (va : va_G) (h : Nat) (A : Nat → Prop) : zCell cl va h A (0, 3) := zC (k0 := .inr (0, 4, wNr)) rfl rfl ⟨rfl, rfl, fun i hi => by
    have hi : i < 4 := hi
    rcases (show i = 0 ∨ i = 1 ∨ i = 2 ∨ i = 3 by omega) with rfl | rfl | rfl | rfl <;> rfl⟩
theorem z_0_4 (cl : Nat → ClassId) (va : va_G) (h : Nat) (A : Nat → Prop) : zCell cl va h A (0, 4) := zC (k0 := .inr (0, 4, wNr)) rfl rfl ⟨rfl, rfl, fun _ _ => rfl⟩
theorem z_0_5 (cl : Nat → ClassId) (va : va_G) (h : Nat) (A : Nat → Prop) : zCell cl va h A (0, 5) := zC (k0 := .inr (4, 4, fun i => (0, 6 + i))) rfl rfl ⟨rfl, rfl, fun i hi => by
    have hi : i < 4 := hi
    rcases (show i = 0 ∨ i = 1 ∨ i = 2 ∨ i = 3 by omega) with rfl | rfl | rfl | rfl <;> rfl⟩
theorem z_0_6 (cl : Nat → ClassId) (va : va_G) (h : Nat) (A : Nat → Prop) : zCell cl va h A (0, 6) := zC (k0 := .inr (0, 3, wNr)) rfl rfl ⟨rfl, rfl, fun _ _ => rfl⟩
theorem z_0_7 (cl : Nat → ClassId) (va : va_G) (h : Nat) (A : Nat → Prop) : zCell cl va h A (0, 7) := zC (k0 := .inr (0, 3, wNr)) rfl rfl ⟨rfl, rfl, fun _ _ => rfl⟩
theorem z_0_8 (cl : Nat → ClassId) (va : va_G) (h : Nat) (A : Nat → Prop) : zCell cl va h A (0, 8) := zC (k0 := .inr (0, 3, wNr)) rfl rfl ⟨rfl, rfl, fun _ _ => rfl⟩
theorem z_0_9 (cl : Nat → ClassId) (va : va_G) (h : Nat) (A : Nat → Prop) : zCell cl va h A (0, 9) := zC (k0 := .inr (0, 3, wNr)) rfl rfl ⟨rfl, rfl, fun _ _ => rfl⟩
theorem z_0_10 (cl : Nat → ClassId) (va : va_G) (h : Nat) (A : Nat → Prop) : zCell cl va h A (0, 10) := zC (k0 := .inr (0, 3, wNr)) rfl rfl ⟨rfl, rfl, fun _ _ => rfl⟩
theorem z_0_11 (cl : Nat → ClassId) (va : va_G) (h : Nat) (A : Nat → Prop) : zCell cl va h A (0, 11) := zC (k0 := .inr (0, 3, wNr)) rfl rfl ⟨rfl, rfl, fun i hi => by
    have hi : i < 3 := hi
    rcases (show i = 0 ∨ i = 1 ∨ i = 2 by omega) with rfl | rfl | rfl <;> rfl⟩
theorem z_0_12 (cl : Nat → ClassId) (va : va_G) (h : Nat) (A : Nat → Prop) : zCell cl va h A (0, 12) := zC (k0 := .inr (0, 4, wNr)) rfl rfl ⟨rfl, rfl, fun _ _ => rfl⟩
theorem z_0_13 (cl : Nat → ClassId) (va : va_G) (h : Nat) (A : Nat → Prop) : zCell cl va h A (0, 13) := zC (k0 := .inr (0, 4, wNr)) rfl rfl ⟨rfl, rfl, fun _ _ => rfl⟩
def zl_0 : List (Nat × Nat) := [(0, 0), (0, 1), (0, 2), (0, 3), (0, 4), (0, 5), (0, 6), (0, 7), (0, 8), (0, 9), (0, 10), (0, 11), (0, 12), (0, 13)]
theorem za_0 (cl : Nat → ClassId) (va : va_G) (h : Nat) (A : Nat → Prop) : ∀ q ∈ zl_0, zCell cl va h A q := List.forall_mem_cons.mpr ⟨z_0_0 cl va h A, List.forall_mem_cons.mpr ⟨z_0_1 cl va h A, List.forall_mem_cons.mpr ⟨z_0_2 cl va h A, List.forall_mem_cons.mpr ⟨z_0_3 cl va h A, List.forall_mem_cons.mpr ⟨z_0_4 cl va h A, List.forall_mem_cons.mpr ⟨z_0_5 cl va h A, List.forall_mem_cons.mpr ⟨z_0_6 cl va h A, List.forall_mem_cons.mpr ⟨z_0_7 cl va h A, List.forall_mem_cons.mpr ⟨z_0_8 cl va h A, List.forall_mem_cons.mpr ⟨z_0_9 cl va h A, List.forall_mem_cons.mpr ⟨z_0_10 cl va h A, List.forall_mem_cons.mpr ⟨z_0_11 cl va h A, List.forall_mem_cons.mpr ⟨z_0_12 cl va h A, List.forall_mem_cons.mpr ⟨z_0_13 cl va h A, fun _ w => absurd w List.not_mem_nil⟩⟩⟩⟩⟩⟩⟩⟩⟩⟩⟩⟩⟩⟩
theorem z_1_0 (cl : Nat → ClassId) (va : va_G) (h : Nat) (A : Nat → Prop) : zCell cl va h A (1, 0) := zC (k0 := .inl (1, [some (1, 1), some (1, 2), some (1, 3), some (1, 4), some (1, 5), some (1, 10), some (1, 11), none, none, none, none, none, some (1, 12), some (1, 13)])) rfl rfl ⟨rfl, rfl⟩
theorem z_1_1 (cl : Nat → ClassId) (va : va_G) (h : Nat) (A : Nat → Prop) : zCell cl va h A (1, 1) := zC (k0 := .inr (0, 4, wNr)) rfl rfl ⟨rfl, rfl, fun _ _ => rfl⟩
theorem z_1_2 (cl : Nat → ClassId) (va : va_G) (h : Nat) (A : Nat → Prop) : zCell cl va h A (1, 2) := zC (k0 := .inr (0, 4, wNr)) rfl rfl ⟨rfl, rfl, fun i hi => by
    have hi : i < 4 := hi
    rcases (show i = 0 ∨ i = 1 ∨ i = 2 ∨ i = 3 by omega) with rfl | rfl | rfl | rfl <;> rfl⟩
theorem z_1_3 (cl : Nat → ClassId) (va : va_G) (h : Nat) (A : Nat → Prop) : zCell cl va h A (1, 3) := zC (k0 := .inr (0, 4, wNr)) rfl rfl ⟨rfl, rfl, fun i hi => by
    have hi : i < 4 := hi
    rcases (show i = 0 ∨ i = 1 ∨ i = 2 ∨ i = 3 by omega) with rfl | rfl | rfl | rfl <;> rfl⟩
theorem z_1_4 (cl : Nat → ClassId) (va : va_G) (h : Nat) (A : Nat → Prop) : zCell cl va h A (1, 4) := zC (k0 := .inr (0, 4, wNr)) rfl rfl ⟨rfl, rfl, fun _ _ => rfl⟩
theorem z_1_5 (cl : Nat → ClassId) (va : va_G) (h : Nat) (A : Nat → Prop) : zCell cl va h A (1, 5) := zC (k0 := .inr (4, 4, fun i => (1, 6 + i))) rfl rfl ⟨rfl, rfl, fun i hi => by
    have hi : i < 4 := hi
    rcases (show i = 0 ∨ i = 1 ∨ i = 2 ∨ i = 3 by omega) with rfl | rfl | rfl | rfl <;> rfl⟩
theorem z_1_6 (cl : Nat → ClassId) (va : va_G) (h : Nat) (A : Nat → Prop) : zCell cl va h A (1, 6) := zC (k0 := .inr (0, 3, wNr)) rfl rfl ⟨rfl, rfl, fun _ _ => rfl⟩
theorem z_1_7 (cl : Nat → ClassId) (va : va_G) (h : Nat) (A : Nat → Prop) : zCell cl va h A (1, 7) := zC (k0 := .inr (0, 3, wNr)) rfl rfl ⟨rfl, rfl, fun _ _ => rfl⟩
theorem z_1_8 (cl : Nat → ClassId) (va : va_G) (h : Nat) (A : Nat → Prop) : zCell cl va h A (1, 8) := zC (k0 := .inr (0, 3, wNr)) rfl rfl ⟨rfl, rfl, fun _ _ => rfl⟩
theorem z_1_9 (cl : Nat → ClassId) (va : va_G) (h : Nat) (A : Nat → Prop) : zCell cl va h A (1, 9) := zC (k0 := .inr (0, 3, wNr)) rfl rfl ⟨rfl, rfl, fun _ _ => rfl⟩
theorem z_1_10 (cl : Nat → ClassId) (va : va_G) (h : Nat) (A : Nat → Prop) : zCell cl va h A (1, 10) := zC (k0 := .inr (0, 3, wNr)) rfl rfl ⟨rfl, rfl, fun _ _ => rfl⟩
theorem z_1_11 (cl : Nat → ClassId) (va : va_G) (h : Nat) (A : Nat → Prop) : zCell cl va h A (1, 11) := zC (k0 := .inr (0, 3, wNr)) rfl rfl ⟨rfl, rfl, fun i hi => by
    have hi : i < 3 := hi
    rcases (show i = 0 ∨ i = 1 ∨ i = 2 by omega) with rfl | rfl | rfl <;> rfl⟩
theorem z_1_12 (cl : Nat → ClassId) (va : va_G) (h : Nat) (A : Nat → Prop) : zCell cl va h A (1, 12) := zC (k0 := .inr (0, 4, wNr)) rfl rfl ⟨rfl, rfl, fun _ _ => rfl⟩
theorem z_1_13 (cl : Nat → ClassId) (va : va_G) (h : Nat) (A : Nat → Prop) : zCell cl va h A (1, 13) := zC (k0 := .inr (0, 4, wNr)) rfl rfl ⟨rfl, rfl, fun _ _ => rfl⟩
def zl_1 : List (Nat × Nat) := [(1, 0), (1, 1), (1, 2), (1, 3), (1, 4), (1, 5), (1, 6), (1, 7), (1, 8), (1, 9), (1, 10), (1, 11), (1, 12), (1, 13)]
theorem za_1 (cl : Nat → ClassId) (va : va_G) (h : Nat) (A : Nat → Prop) : ∀ q ∈ zl_1, zCell cl va h A q := List.forall_mem_cons.mpr ⟨z_1_0 cl va h A, List.forall_mem_cons.mpr ⟨z_1_1 cl va h A, List.forall_mem_cons.mpr ⟨z_1_2 cl va h A, List.forall_mem_cons.mpr ⟨z_1_3 cl va h A, List.forall_mem_cons.mpr ⟨z_1_4 cl va h A, List.forall_mem_cons.mpr ⟨z_1_5 cl va h A, List.forall_mem_cons.mpr ⟨z_1_6 cl va h A, List.forall_mem_cons.mpr ⟨z_1_7 cl va h A, List.forall_mem_cons.mpr ⟨z_1_8 cl va h A, List.forall_mem_cons.mpr ⟨z_1_9 cl va h A, List.forall_mem_cons.mpr ⟨z_1_10 cl va h A, List.forall_mem_cons.mpr ⟨z_1_11 cl va h A, List.forall_mem_cons.mpr ⟨z_1_12 cl va h A, List.forall_mem_cons.mpr ⟨z_1_13 cl va h A, fun _ w => absurd w List.not_mem_nil⟩⟩⟩⟩⟩⟩⟩⟩⟩⟩⟩⟩⟩⟩
theorem z_2_0 (cl : Nat → ClassId) (va : va_G) (h : Nat) (A : Nat → Prop) : zCell cl va h A (2, 0) := zC (k0 := .inl (1, [some (2, 1), some (2, 2), some (2, 3), some (2, 4), some (2, 5), some (2, 10), some (2, 11), none, none, none, none, none, some (2, 12), some (2, 13)])) rfl rfl ⟨rfl, rfl⟩
theorem z_2_1 (cl : Nat → ClassId) (va : va_G) (h : Nat) (A : Nat → Prop) : zCell cl va h A (2, 1) := zC (k0 := .inr (0, 4, wNr)) rfl rfl ⟨rfl, rfl, fun _ _ => rfl⟩
theorem z_2_2 (cl : Nat → ClassId) (va : va_G) (h : Nat) (A : Nat → Prop) : zCell cl va h A (2, 2) := zC (k0 := .inr (0, 4, wNr)) rfl rfl ⟨rfl, rfl, fun i hi => by
    have hi : i < 4 := hi
    rcases (show i = 0 ∨ i = 1 ∨ i = 2 ∨ i = 3 by omega) with rfl | rfl | rfl | rfl <;> rfl⟩
theorem z_2_3 (cl : Nat → ClassId) (va : va_G) (h : Nat) (A : Nat → Prop) : zCell cl va h A (2, 3) := zC (k0 := .inr (0, 4, wNr)) rfl rfl ⟨rfl, rfl, fun i hi => by
    have hi : i < 4 := hi
    rcases (show i = 0 ∨ i = 1 ∨ i = 2 ∨ i = 3 by omega) with rfl | rfl | rfl | rfl <;> rfl⟩
theorem z_2_4 (cl : Nat → ClassId) (va : va_G) (h : Nat) (A : Nat → Prop) : zCell cl va h A (2, 4) := zC (k0 := .inr (0, 4, wNr)) rfl rfl ⟨rfl, rfl, fun _ _ => rfl⟩
theorem z_2_5 (cl : Nat → ClassId) (va : va_G) (h : Nat) (A : Nat → Prop) : zCell cl va h A (2, 5) := zC (k0 := .inr (4, 4, fun i => (2, 6 + i))) rfl rfl ⟨rfl, rfl, fun i hi => by
    have hi : i < 4 := hi
    rcases (show i = 0 ∨ i = 1 ∨ i = 2 ∨ i = 3 by omega) with rfl | rfl | rfl | rfl <;> rfl⟩
theorem z_2_6 (cl : Nat → ClassId) (va : va_G) (h : Nat) (A : Nat → Prop) : zCell cl va h A (2, 6) := zC (k0 := .inr (0, 3, wNr)) rfl rfl ⟨rfl, rfl, fun _ _ => rfl⟩
theorem z_2_7 (cl : Nat → ClassId) (va : va_G) (h : Nat) (A : Nat → Prop) : zCell cl va h A (2, 7) := zC (k0 := .inr (0, 3, wNr)) rfl rfl ⟨rfl, rfl, fun _ _ => rfl⟩
theorem z_2_8 (cl : Nat → ClassId) (va : va_G) (h : Nat) (A : Nat → Prop) : zCell cl va h A (2, 8) := zC (k0 := .inr (0, 3, wNr)) rfl rfl ⟨rfl, rfl, fun _ _ => rfl⟩
theorem z_2_9 (cl : Nat → ClassId) (va : va_G) (h : Nat) (A : Nat → Prop) : zCell cl va h A (2, 9) := zC (k0 := .inr (0, 3, wNr)) rfl rfl ⟨rfl, rfl, fun _ _ => rfl⟩
theorem z_2_10 (cl : Nat → ClassId) (va : va_G) (h : Nat) (A : Nat → Prop) : zCell cl va h A (2, 10) := zC (k0 := .inr (0, 3, wNr)) rfl rfl ⟨rfl, rfl, fun _ _ => rfl⟩
theorem z_2_11 (cl : Nat → ClassId) (va : va_G) (h : Nat) (A : Nat → Prop) : zCell cl va h A (2, 11) := zC (k0 := .inr (0, 3, wNr)) rfl rfl ⟨rfl, rfl, fun i hi => by
    have hi : i < 3 := hi
    rcases (show i = 0 ∨ i = 1 ∨ i = 2 by omega) with rfl | rfl | rfl <;> rfl⟩
theorem z_2_12 (cl : Nat → ClassId) (va : va_G) (h : Nat) (A : Nat → Prop) : zCell cl va h A (2, 12) := zC (k0 := .inr (0, 4, wNr)) rfl rfl ⟨rfl, rfl, fun _ _ => rfl⟩
theorem z_2_13 (cl : Nat → ClassId) (va : va_G) (h : Nat) (A : Nat → Prop) : zCell cl va h A (2, 13) := zC (k0 := .inr (0, 4, wNr)) rfl rfl ⟨rfl, rfl, fun _ _ => rfl⟩
def zl_2 : List (Nat × Nat) := [(2, 0), (2, 1), (2, 2), (2, 3), (2, 4), (2, 5), (2, 6), (2, 7), (2, 8), (2, 9), (2, 10), (2, 11), (2, 12), (2, 13)]
theorem za_2 (cl : Nat → ClassId) (va : va_G) (h : Nat) (A : Nat → Prop) : ∀ q ∈ zl_2, zCell cl va h A q := List.forall_mem_cons.mpr ⟨z_2_0 cl va h A, List.forall_mem_cons.mpr ⟨z_2_1 cl va h A, List.forall_mem_cons.mpr ⟨z_2_2 cl va h A, List.forall_mem_cons.mpr ⟨z_2_3 cl va h A, List.forall_mem_cons.mpr ⟨z_2_4 cl va h A, List.forall_mem_cons.mpr ⟨z_2_5 cl va h A, List.forall_mem_cons.mpr ⟨z_2_6 cl va h A, List.forall_mem_cons.mpr ⟨z_2_7 cl va h A, List.forall_mem_cons.mpr ⟨z_2_8 cl va h A, List.forall_mem_cons.mpr ⟨z_2_9 cl va h A, List.forall_mem_cons.mpr ⟨z_2_10 cl va h A, List.forall_mem_cons.mpr ⟨z_2_11 cl va h A, List.forall_mem_cons.mpr ⟨z_2_12 cl va h A, List.forall_mem_cons.mpr ⟨z_2_13 cl va h A, fun _ w => absurd w List.not_mem_nil⟩⟩⟩⟩⟩⟩⟩⟩⟩⟩⟩⟩⟩⟩
theorem z_3_0 (cl : Nat → ClassId) (va : va_G) (h : Nat) (A : Nat → Prop) : zCell cl va h A (3, 0) := zC (k0 := .inl (1, [some (3, 1), some (3, 2), some (3, 3), some (3, 4), some (3, 5), some (3, 10), some (3, 11), none, none, none, none, none, some (3, 12), some (3, 13)])) rfl rfl ⟨rfl, rfl⟩
theorem z_3_1 (cl : Nat → ClassId) (va : va_G) (h : Nat) (A : Nat → Prop) : zCell cl va h A (3, 1) := zC (k0 := .inr (0, 4, wNr)) rfl rfl ⟨rfl, rfl, fun _ _ => rfl⟩
theorem z_3_2 (cl : Nat → ClassId) (va : va_G) (h : Nat) (A : Nat → Prop) : zCell cl va h A (3, 2) := zC (k0 := .inr (0, 4, wNr)) rfl rfl ⟨rfl, rfl, fun i hi => by
    have hi : i < 4 := hi
    rcases (show i = 0 ∨ i = 1 ∨ i = 2 ∨ i = 3 by omega) with rfl | rfl | rfl | rfl <;> rfl⟩
theorem z_3_3 (cl : Nat → ClassId) (va : va_G) (h : Nat) (A : Nat → Prop) : zCell cl va h A (3, 3) := zC (k0 := .inr (0, 4, wNr)) rfl rfl ⟨rfl, rfl, fun i hi => by
    have hi : i < 4 := hi
    rcases (show i = 0 ∨ i = 1 ∨ i = 2 ∨ i = 3 by omega) with rfl | rfl | rfl | rfl <;> rfl⟩
theorem z_3_4 (cl : Nat → ClassId) (va : va_G) (h : Nat) (A : Nat → Prop) : zCell cl va h A (3, 4) := zC (k0 := .inr (0, 4, wNr)) rfl rfl ⟨rfl, rfl, fun _ _ => rfl⟩
theorem z_3_5 (cl : Nat → ClassId) (va : va_G) (h : Nat) (A : Nat → Prop) : zCell cl va h A (3, 5) := zC (k0 := .inr (4, 4, fun i => (3, 6 + i))) rfl rfl ⟨rfl, rfl, fun i hi => by
    have hi : i < 4 := hi
    rcases (show i = 0 ∨ i = 1 ∨ i = 2 ∨ i = 3 by omega) with rfl | rfl | rfl | rfl <;> rfl⟩
theorem z_3_6 (cl : Nat → ClassId) (va : va_G) (h : Nat) (A : Nat → Prop) : zCell cl va h A (3, 6) := zC (k0 := .inr (0, 3, wNr)) rfl rfl ⟨rfl, rfl, fun _ _ => rfl⟩
theorem z_3_7 (cl : Nat → ClassId) (va : va_G) (h : Nat) (A : Nat → Prop) : zCell cl va h A (3, 7) := zC (k0 := .inr (0, 3, wNr)) rfl rfl ⟨rfl, rfl, fun _ _ => rfl⟩
theorem z_3_8 (cl : Nat → ClassId) (va : va_G) (h : Nat) (A : Nat → Prop) : zCell cl va h A (3, 8) := zC (k0 := .inr (0, 3, wNr)) rfl rfl ⟨rfl, rfl, fun _ _ => rfl⟩
theorem z_3_9 (cl : Nat → ClassId) (va : va_G) (h : Nat) (A : Nat → Prop) : zCell cl va h A (3, 9) := zC (k0 := .inr (0, 3, wNr)) rfl rfl ⟨rfl, rfl, fun _ _ => rfl⟩
theorem z_3_10 (cl : Nat → ClassId) (va : va_G) (h : Nat) (A : Nat → Prop) : zCell cl va h A (3, 10) := zC (k0 := .inr (0, 3, wNr)) rfl rfl ⟨rfl, rfl, fun _ _ => rfl⟩
theorem z_3_11 (cl : Nat → ClassId) (va : va_G) (h : Nat) (A : Nat → Prop) : zCell cl va h A (3, 11) := zC (k0 := .inr (0, 3, wNr)) rfl rfl ⟨rfl, rfl, fun i hi => by
    have hi : i < 3 := hi
    rcases (show i = 0 ∨ i = 1 ∨ i = 2 by omega) with rfl | rfl | rfl <;> rfl⟩
theorem z_3_12 (cl : Nat → ClassId) (va : va_G) (h : Nat) (A : Nat → Prop) : zCell cl va h A (3, 12) := zC (k0 := .inr (0, 4, wNr)) rfl rfl ⟨rfl, rfl, fun _ _ => rfl⟩
theorem z_3_13 (cl : Nat → ClassId) (va : va_G) (h : Nat) (A : Nat → Prop) : zCell cl va h A (3, 13) := zC (k0 := .inr (0, 4, wNr)) rfl rfl ⟨rfl, rfl, fun _ _ => rfl⟩
def zl_3 : List (Nat × Nat) := [(3, 0), (3, 1), (3, 2), (3, 3), (3, 4), (3, 5), (3, 6), (3, 7), (3, 8), (3, 9), (3, 10), (3, 11), (3, 12), (3, 13)]
theorem za_3 (cl : Nat → ClassId) (va : va_G) (h : Nat) (A : Nat → Prop) : ∀ q ∈ zl_3, zCell cl va h A q := List.forall_mem_cons.mpr ⟨z_3_0 cl va h A, List.forall_mem_cons.mpr ⟨z_3_1 cl va h A, List.forall_mem_cons.mpr ⟨z_3_2 cl va h A, List.forall_mem_cons.mpr ⟨z_3_3 cl va h A, List.forall_mem_cons.mpr ⟨z_3_4 cl va h A, List.forall_mem_cons.mpr ⟨z_3_5 cl va h A, List.forall_mem_cons.mpr ⟨z_3_6 cl va h A, List.forall_mem_cons.mpr ⟨z_3_7 cl va h A, List.forall_mem_cons.mpr ⟨z_3_8 cl va h A, List.forall_mem_cons.mpr ⟨z_3_9 cl va h A, List.forall_mem_cons.mpr ⟨z_3_10 cl va h A, List.forall_mem_cons.mpr ⟨z_3_11 cl va h A, List.forall_mem_cons.mpr ⟨z_3_12 cl va h A, List.forall_mem_cons.mpr ⟨z_3_13 cl va h A, fun _ w => absurd w List.not_mem_nil⟩⟩⟩⟩⟩⟩⟩⟩⟩⟩⟩⟩⟩⟩
theorem z_4_0 (cl : Nat → ClassId) (va : va_G) (h : Nat) (A : Nat → Prop) : zCell cl va h A (4, 0) := zC (k0 := .inl (1, [some (4, 1), some (4, 2), some (4, 3), some (4, 4), some (4, 5), some (4, 10), some (4, 11), none, none, none, none, none, some (4, 12), some (4, 13)])) rfl rfl ⟨rfl, rfl⟩
theorem z_4_1 (cl : Nat → ClassId) (va : va_G) (h : Nat) (A : Nat → Prop) : zCell cl va h A (4, 1) := zC (k0 := .inr (0, 4, wNr)) rfl rfl ⟨rfl, rfl, fun _ _ => rfl⟩
theorem z_4_2 (cl : Nat → ClassId) (va : va_G) (h : Nat) (A : Nat → Prop) : zCell cl va h A (4, 2) := zC (k0 := .inr (0, 4, wNr)) rfl rfl ⟨rfl, rfl, fun i hi => by
    have hi : i < 4 := hi
    rcases (show i = 0 ∨ i = 1 ∨ i = 2 ∨ i = 3 by omega) with rfl | rfl | rfl | rfl <;> rfl⟩
theorem z_4_3 (cl : Nat → ClassId) (va : va_G) (h : Nat) (A : Nat → Prop) : zCell cl va h A (4, 3) := zC (k0 := .inr (0, 4, wNr)) rfl rfl ⟨rfl, rfl, fun i hi => by
    have hi : i < 4 := hi
    rcases (show i = 0 ∨ i = 1 ∨ i = 2 ∨ i = 3 by omega) with rfl | rfl | rfl | rfl <;> rfl⟩
theorem z_4_4 (cl : Nat → ClassId) (va : va_G) (h : Nat) (A : Nat → Prop) : zCell cl va h A (4, 4) := zC (k0 := .inr (0, 4, wNr)) rfl rfl ⟨rfl, rfl, fun _ _ => rfl⟩
theorem z_4_5 (cl : Nat → ClassId) (va : va_G) (h : Nat) (A : Nat → Prop) : zCell cl va h A (4, 5) := zC (k0 := .inr (4, 4, fun i => (4, 6 + i))) rfl rfl ⟨rfl, rfl, fun i hi => by
    have hi : i < 4 := hi
    rcases (show i = 0 ∨ i = 1 ∨ i = 2 ∨ i = 3 by omega) with rfl | rfl | rfl | rfl <;> rfl⟩
theorem z_4_6 (cl : Nat → ClassId) (va : va_G) (h : Nat) (A : Nat → Prop) : zCell cl va h A (4, 6) := zC (k0 := .inr (0, 3, wNr)) rfl rfl ⟨rfl, rfl, fun _ _ => rfl⟩
theorem z_4_7 (cl : Nat → ClassId) (va : va_G) (h : Nat) (A : Nat → Prop) : zCell cl va h A (4, 7) := zC (k0 := .inr (0, 3, wNr)) rfl rfl ⟨rfl, rfl, fun _ _ => rfl⟩
theorem z_4_8 (cl : Nat → ClassId) (va : va_G) (h : Nat) (A : Nat → Prop) : zCell cl va h A (4, 8) := zC (k0 := .inr (0, 3, wNr)) rfl rfl ⟨rfl, rfl, fun _ _ => rfl⟩
theorem z_4_9 (cl : Nat → ClassId) (va : va_G) (h : Nat) (A : Nat → Prop) : zCell cl va h A (4, 9) := zC (k0 := .inr (0, 3, wNr)) rfl rfl ⟨rfl, rfl, fun _ _ => rfl⟩
theorem z_4_10 (cl : Nat → ClassId) (va : va_G) (h : Nat) (A : Nat → Prop) : zCell cl va h A (4, 10) := zC (k0 := .inr (0, 3, wNr)) rfl rfl ⟨rfl, rfl, fun _ _ => rfl⟩
theorem z_4_11 (cl : Nat → ClassId) (va : va_G) (h : Nat) (A : Nat → Prop) : zCell cl va h A (4, 11) := zC (k0 := .inr (0, 3, wNr)) rfl rfl ⟨rfl, rfl, fun i hi => by
    have hi : i < 3 := hi
    rcases (show i = 0 ∨ i = 1 ∨ i = 2 by omega) with rfl | rfl | rfl <;> rfl⟩
theorem z_4_12 (cl : Nat → ClassId) (va : va_G) (h : Nat) (A : Nat → Prop) : zCell cl va h A (4, 12) := zC (k0 := .inr (0, 4, wNr)) rfl rfl ⟨rfl, rfl, fun _ _ => rfl⟩
theorem z_4_13 (cl : Nat → ClassId) (va : va_G) (h : Nat) (A : Nat → Prop) : zCell cl va h A (4, 13) := zC (k0 := .inr (0, 4, wNr)) rfl rfl ⟨rfl, rfl, fun _ _ => rfl⟩
def zl_4 : List (Nat × Nat) := [(4, 0), (4, 1), (4, 2), (4, 3), (4, 4), (4, 5), (4, 6), (4, 7), (4, 8), (4, 9), (4, 10), (4, 11), (4, 12), (4, 13)]
theorem za_4 (cl : Nat → ClassId) (va : va_G) (h : Nat) (A : Nat → Prop) : ∀ q ∈ zl_4, zCell cl va h A q := List.forall_mem_cons.mpr ⟨z_4_0 cl va h A, List.forall_mem_cons.mpr ⟨z_4_1 cl va h A, List.forall_mem_cons.mpr ⟨z_4_2 cl va h A, List.forall_mem_cons.mpr ⟨z_4_3 cl va h A, List.forall_mem_cons.mpr ⟨z_4_4 cl va h A, List.forall_mem_cons.mpr ⟨z_4_5 cl va h A, List.forall_mem_cons.mpr ⟨z_4_6 cl va h A, List.forall_mem_cons.mpr ⟨z_4_7 cl va h A, List.forall_mem_cons.mpr ⟨z_4_8 cl va h A, List.forall_mem_cons.mpr ⟨z_4_9 cl va h A, List.forall_mem_cons.mpr ⟨z_4_10 cl va h A, List.forall_mem_cons.mpr ⟨z_4_11 cl va h A, List.forall_mem_cons.mpr ⟨z_4_12 cl va h A, List.forall_mem_cons.mpr ⟨z_4_13 cl va h A, fun _ w => absurd w List.not_mem_nil⟩⟩⟩⟩⟩⟩⟩⟩⟩⟩⟩⟩⟩⟩
theorem z_5_0 (cl : Nat → ClassId) (va : va_G) (h : Nat) (A : Nat → Prop) : zCell cl va h A (5, 0) := zC (k0 := .inl (1, [some (5, 1), some (5, 2), some (5, 3), some (5, 4), some (5, 5), some (5, 10), some (5, 11), none, none, none, none, none, some (5, 12), some (5, 13)])) rfl rfl ⟨rfl, rfl⟩
theorem z_5_1 (cl : Nat → ClassId) (va : va_G) (h : Nat) (A : Nat → Prop) : zCell cl va h A (5, 1) := zC (k0 := .inr (0, 4, wNr)) rfl rfl ⟨rfl, rfl, fun _ _ => rfl⟩
theorem z_5_2 (cl : Nat → ClassId) (va : va_G) (h : Nat) (A : Nat → Prop) : zCell cl va h A (5, 2) := zC (k0 := .inr (0, 4, wNr)) rfl rfl ⟨rfl, rfl, fun i hi => by
    have hi : i < 4 := hi
    rcases (show i = 0 ∨ i = 1 ∨ i = 2 ∨ i = 3 by omega) with rfl | rfl | rfl | rfl <;> rfl⟩
theorem z_5_3 (cl : Nat → ClassId) (va : va_G) (h : Nat) (A : Nat → Prop) : zCell cl va h A (5, 3) := zC (k0 := .inr (0, 4, wNr)) rfl rfl ⟨rfl, rfl, fun i hi => by
    have hi : i < 4 := hi
    rcases (show i = 0 ∨ i = 1 ∨ i = 2 ∨ i = 3 by omega) with rfl | rfl | rfl | rfl <;> rfl⟩
theorem z_5_4 (cl : Nat → ClassId) (va : va_G) (h : Nat) (A : Nat → Prop) : zCell cl va h A (5, 4) := zC (k0 := .inr (0, 4, wNr)) rfl rfl ⟨rfl, rfl, fun _ _ => rfl⟩
theorem z_5_5 (cl : Nat → ClassId) (va : va_G) (h : Nat) (A : Nat → Prop) : zCell cl va h A (5, 5) := zC (k0 := .inr (4, 4, fun i => (5, 6 + i))) rfl rfl ⟨rfl, rfl, fun i hi => by
    have hi : i < 4 := hi
    rcases (show i = 0 ∨ i = 1 ∨ i = 2 ∨ i = 3 by omega) with rfl | rfl | rfl | rfl <;> rfl⟩
theorem z_5_6 (cl : Nat → ClassId) (va : va_G) (h : Nat) (A : Nat → Prop) : zCell cl va h A (5, 6) := zC (k0 := .inr (0, 3, wNr)) rfl rfl ⟨rfl, rfl, fun _ _ => rfl⟩
theorem z_5_7 (cl : Nat → ClassId) (va : va_G) (h : Nat) (A : Nat → Prop) : zCell cl va h A (5, 7) := zC (k0 := .inr (0, 3, wNr)) rfl rfl ⟨rfl, rfl, fun _ _ => rfl⟩
theorem z_5_8 (cl : Nat → ClassId) (va : va_G) (h : Nat) (A : Nat → Prop) : zCell cl va h A (5, 8) := zC (k0 := .inr (0, 3, wNr)) rfl rfl ⟨rfl, rfl, fun _ _ => rfl⟩
theorem z_5_9 (cl : Nat → ClassId) (va : va_G) (h : Nat) (A : Nat → Prop) : zCell cl va h A (5, 9) := zC (k0 := .inr (0, 3, wNr)) rfl rfl ⟨rfl, rfl, fun _ _ => rfl⟩
theorem z_5_10 (cl : Nat → ClassId) (va : va_G) (h : Nat) (A : Nat → Prop) : zCell cl va h A (5, 10) := zC (k0 := .inr (0, 3, wNr)) rfl rfl ⟨rfl, rfl, fun _ _ => rfl⟩
theorem z_5_11 (cl : Nat → ClassId) (va : va_G) (h : Nat) (A : Nat → Prop) : zCell cl va h A (5, 11) := zC (k0 := .inr (0, 3, wNr)) rfl rfl ⟨rfl, rfl, fun i hi => by
    have hi : i < 3 := hi
    rcases (show i = 0 ∨ i = 1 ∨ i = 2 by omega) with rfl | rfl | rfl <;> rfl⟩
theorem z_5_12 (cl : Nat → ClassId) (va : va_G) (h : Nat) (A : Nat → Prop) : zCell cl va h A (5, 12) := zC (k0 := .inr (0, 4, wNr)) rfl rfl ⟨rfl, rfl, fun _ _ => rfl⟩
theorem z_5_13 (cl : Nat → ClassId) (va : va_G) (h : Nat) (A : Nat → Prop) : zCell cl va h A (5, 13) := zC (k0 := .inr (0, 4, wNr)) rfl rfl ⟨rfl, rfl, fun _ _ => rfl⟩
def zl_5 : List (Nat × Nat) := [(5, 0), (5, 1), (5, 2), (5, 3), (5, 4), (5, 5), (5, 6), (5, 7), (5, 8), (5, 9), (5, 10), (5, 11), (5, 12), (5, 13)]
theorem za_5 (cl : Nat → ClassId) (va : va_G) (h : Nat) (A : Nat → Prop) : ∀ q ∈ zl_5, zCell cl va h A q := List.forall_mem_cons.mpr ⟨z_5_0 cl va h A, List.forall_mem_cons.mpr ⟨z_5_1 cl va h A, List.forall_mem_cons.mpr ⟨z_5_2 cl va h A, List.forall_mem_cons.mpr ⟨z_5_3 cl va h A, List.forall_mem_cons.mpr ⟨z_5_4 cl va h A, List.forall_mem_cons.mpr ⟨z_5_5 cl va h A, List.forall_mem_cons.mpr ⟨z_5_6 cl va h A, List.forall_mem_cons.mpr ⟨z_5_7 cl va h A, List.forall_mem_cons.mpr ⟨z_5_8 cl va h A, List.forall_mem_cons.mpr ⟨z_5_9 cl va h A, List.forall_mem_cons.mpr ⟨z_5_10 cl va h A, List.forall_mem_cons.mpr ⟨z_5_11 cl va h A, List.forall_mem_cons.mpr ⟨z_5_12 cl va h A, List.forall_mem_cons.mpr ⟨z_5_13 cl va h A, fun _ w => absurd w List.not_mem_nil⟩⟩⟩⟩⟩⟩⟩⟩⟩⟩⟩⟩⟩⟩
theorem z_6_0 (cl : Nat → ClassId) (va : va_G) (h : Nat) (A : Nat → Prop) : zCell cl va h A (6, 0) := zC (k0 := .inl (1, [some (6, 1), some (6, 2), some (6, 3), some (6, 4), some (6, 5), some (6, 10), some (6, 11), none, none, none, none, none, some (6, 12), some (6, 13)])) rfl rfl ⟨rfl, rfl⟩
theorem z_6_1 (cl : Nat → ClassId) (va : va_G) (h : Nat) (A : Nat → Prop) : zCell cl va h A (6, 1) := zC (k0 := .inr (0, 4, wNr)) rfl rfl ⟨rfl, rfl, fun _ _ => rfl⟩
theorem z_6_2 (cl : Nat → ClassId) (va : va_G) (h : Nat) (A : Nat → Prop) : zCell cl va h A (6, 2) := zC (k0 := .inr (0, 4, wNr)) rfl rfl ⟨rfl, rfl, fun i hi => by
    have hi : i < 4 := hi
    rcases (show i = 0 ∨ i = 1 ∨ i = 2 ∨ i = 3 by omega) with rfl | rfl | rfl | rfl <;> rfl⟩
theorem z_6_3 (cl : Nat → ClassId) (va : va_G) (h : Nat) (A : Nat → Prop) : zCell cl va h A (6, 3) := zC (k0 := .inr (0, 4, wNr)) rfl rfl ⟨rfl, rfl, fun i hi => by
    have hi : i < 4 := hi
    rcases (show i = 0 ∨ i = 1 ∨ i = 2 ∨ i = 3 by omega) with rfl | rfl | rfl | rfl <;> rfl⟩
theorem z_6_4 (cl : Nat → ClassId) (va : va_G) (h : Nat) (A : Nat → Prop) : zCell cl va h A (6, 4) := zC (k0 := .inr (0, 4, wNr)) rfl rfl ⟨rfl, rfl, fun _ _ => rfl⟩
theorem z_6_5 (cl : Nat → ClassId) (va : va_G) (h : Nat) (A : Nat → Prop) : zCell cl va h A (6, 5) := zC (k0 := .inr (4, 4, fun i => (6, 6 + i))) rfl rfl ⟨rfl, rfl, fun i hi => by
    have hi : i < 4 := hi
    rcases (show i = 0 ∨ i = 1 ∨ i = 2 ∨ i = 3 by omega) with rfl | rfl | rfl | rfl <;> rfl⟩
theorem z_6_6 (cl : Nat → ClassId) (va : va_G) (h : Nat) (A : Nat → Prop) : zCell cl va h A (6, 6) := zC (k0 := .inr (0, 3, wNr)) rfl rfl ⟨rfl, rfl, fun _ _ => rfl⟩
theorem z_6_7 (cl : Nat → ClassId) (va : va_G) (h : Nat) (A : Nat → Prop) : zCell cl va h A (6, 7) := zC (k0 := .inr (0, 3, wNr)) rfl rfl ⟨rfl, rfl, fun _ _ => rfl⟩
theorem z_6_8 (cl : Nat → ClassId) (va : va_G) (h : Nat) (A : Nat → Prop) : zCell cl va h A (6, 8) := zC (k0 := .inr (0, 3, wNr)) rfl rfl ⟨rfl, rfl, fun _ _ => rfl⟩
theorem z_6_9 (cl : Nat → ClassId) (va : va_G) (h : Nat) (A : Nat → Prop) : zCell cl va h A (6, 9) := zC (k0 := .inr (0, 3, wNr)) rfl rfl ⟨rfl, rfl, fun _ _ => rfl⟩
theorem z_6_10 (cl : Nat → ClassId) (va : va_G) (h : Nat) (A : Nat → Prop) : zCell cl va h A (6, 10) := zC (k0 := .inr (0, 3, wNr)) rfl rfl ⟨rfl, rfl, fun _ _ => rfl⟩
theorem z_6_11 (cl : Nat → ClassId) (va : va_G) (h : Nat) (A : Nat → Prop) : zCell cl va h A (6, 11) := zC (k0 := .inr (0, 3, wNr)) rfl rfl ⟨rfl, rfl, fun i hi => by
    have hi : i < 3 := hi
    rcases (show i = 0 ∨ i = 1 ∨ i = 2 by omega) with rfl | rfl | rfl <;> rfl⟩
theorem z_6_12 (cl : Nat → ClassId) (va : va_G) (h : Nat) (A : Nat → Prop) : zCell cl va h A (6, 12) := zC (k0 := .inr (0, 4, wNr)) rfl rfl ⟨rfl, rfl, fun _ _ => rfl⟩
theorem z_6_13 (cl : Nat → ClassId) (va : va_G) (h : Nat) (A : Nat → Prop) : zCell cl va h A (6, 13) := zC (k0 := .inr (0, 4, wNr)) rfl rfl ⟨rfl, rfl, fun _ _ => rfl⟩
def zl_6 : List (Nat × Nat) := [(6, 0), (6, 1), (6, 2), (6, 3), (6, 4), (6, 5), (6, 6), (6, 7), (6, 8), (6, 9), (6, 10), (6, 11), (6, 12), (6, 13)]
theorem za_6 (cl : Nat → ClassId) (va : va_G) (h : Nat) (A : Nat → Prop) : ∀ q ∈ zl_6, zCell cl va h A q := List.forall_mem_cons.mpr ⟨z_6_0 cl va h A, List.forall_mem_cons.mpr ⟨z_6_1 cl va h A, List.forall_mem_cons.mpr ⟨z_6_2 cl va h A, List.forall_mem_cons.mpr ⟨z_6_3 cl va h A, List.forall_mem_cons.mpr ⟨z_6_4 cl va h A, List.forall_mem_cons.mpr ⟨z_6_5 cl va h A, List.forall_mem_cons.mpr ⟨z_6_6 cl va h A, List.forall_mem_cons.mpr ⟨z_6_7 cl va h A, List.forall_mem_cons.mpr ⟨z_6_8 cl va h A, List.forall_mem_cons.mpr ⟨z_6_9 cl va h A, List.forall_mem_cons.mpr ⟨z_6_10 cl va h A, List.forall_mem_cons.mpr ⟨z_6_11 cl va h A, List.forall_mem_cons.mpr ⟨z_6_12 cl va h A, List.forall_mem_cons.mpr ⟨z_6_13 cl va h A, fun _ w => absurd w List.not_mem_nil⟩⟩⟩⟩⟩⟩⟩⟩⟩⟩⟩⟩⟩⟩
theorem z_7_0 (cl : Nat → ClassId) (va : va_G) (h : Nat) (A : Nat → Prop) : zCell cl va h A (7, 0) := zC (k0 := .inl (1, [some (7, 1), some (7, 2), some (7, 3), some (7, 4), some (7, 5), some (7, 10), some (7, 11), none, none, none, none, none, some (7, 12), some (7, 13)])) rfl rfl ⟨rfl, rfl⟩
theorem z_7_1 (cl : Nat → ClassId) (va : va_G) (h : Nat) (A : Nat → Prop) : zCell cl va h A (7, 1) := zC (k0 := .inr (0, 4, wNr)) rfl rfl ⟨rfl, rfl, fun _ _ => rfl⟩
theorem z_7_2 (cl : Nat → ClassId) (va : va_G) (h : Nat) (A : Nat → Prop) : zCell cl va h A (7, 2) := zC (k0 := .inr (0, 4, wNr)) rfl rfl ⟨rfl, rfl, fun i hi => by
    have hi : i < 4 := hi
    rcases (show i = 0 ∨ i = 1 ∨ i = 2 ∨ i = 3 by omega) with rfl | rfl | rfl | rfl <;> rfl⟩
theorem z_7_3 (cl : Nat → ClassId) (va : va_G) (h : Nat) (A : Nat → Prop) : zCell cl va h A (7, 3) := zC (k0 := .inr (0, 4, wNr)) rfl rfl ⟨rfl, rfl, fun i hi => by
    have hi : i < 4 := hi
    rcases (show i = 0 ∨ i = 1 ∨ i = 2 ∨ i = 3 by omega) with rfl | rfl | rfl | rfl <;> rfl⟩
theorem z_7_4 (cl : Nat → ClassId) (va : va_G) (h : Nat) (A : Nat → Prop) : zCell cl va h A (7, 4) := zC (k0 := .inr (0, 4, wNr)) rfl rfl ⟨rfl, rfl, fun _ _ => rfl⟩
theorem z_7_5 (cl : Nat → ClassId) (va : va_G) (h : Nat) (A : Nat → Prop) : zCell cl va h A (7, 5) := zC (k0 := .inr (4, 4, fun i => (7, 6 + i))) rfl rfl ⟨rfl, rfl, fun i hi => by
    have hi : i < 4 := hi
    rcases (show i = 0 ∨ i = 1 ∨ i = 2 ∨ i = 3 by omega) with rfl | rfl | rfl | rfl <;> rfl⟩
theorem z_7_6 (cl : Nat → ClassId) (va : va_G) (h : Nat) (A : Nat → Prop) : zCell cl va h A (7, 6) := zC (k0 := .inr (0, 3, wNr)) rfl rfl ⟨rfl, rfl, fun _ _ => rfl⟩
theorem z_7_7 (cl : Nat → ClassId) (va : va_G) (h : Nat) (A : Nat → Prop) : zCell cl va h A (7, 7) := zC (k0 := .inr (0, 3, wNr)) rfl rfl ⟨rfl, rfl, fun _ _ => rfl⟩
theorem z_7_8 (cl : Nat → ClassId) (va : va_G) (h : Nat) (A : Nat → Prop) : zCell cl va h A (7, 8) := zC (k0 := .inr (0, 3, wNr)) rfl rfl ⟨rfl, rfl, fun _ _ => rfl⟩
theorem z_7_9 (cl : Nat → ClassId) (va : va_G) (h : Nat) (A : Nat → Prop) : zCell cl va h A (7, 9) := zC (k0 := .inr (0, 3, wNr)) rfl rfl ⟨rfl, rfl, fun _ _ => rfl⟩
theorem z_7_10 (cl : Nat → ClassId) (va : va_G) (h : Nat) (A : Nat → Prop) : zCell cl va h A (7, 10) := zC (k0 := .inr (0, 3, wNr)) rfl rfl ⟨rfl, rfl, fun _ _ => rfl⟩
theorem z_7_11 (cl : Nat → ClassId) (va : va_G) (h : Nat) (A : Nat → Prop) : zCell cl va h A (7, 11) := zC (k0 := .inr (0, 3, wNr)) rfl rfl ⟨rfl, rfl, fun i hi => by
    have hi : i < 3 := hi
    rcases (show i = 0 ∨ i = 1 ∨ i = 2 by omega) with rfl | rfl | rfl <;> rfl⟩
theorem z_7_12 (cl : Nat → ClassId) (va : va_G) (h : Nat) (A : Nat → Prop) : zCell cl va h A (7, 12) := zC (k0 := .inr (0, 4, wNr)) rfl rfl ⟨rfl, rfl, fun _ _ => rfl⟩
theorem z_7_13 (cl : Nat → ClassId) (va : va_G) (h : Nat) (A : Nat → Prop) : zCell cl va h A (7, 13) := zC (k0 := .inr (0, 4, wNr)) rfl rfl ⟨rfl, rfl, fun _ _ => rfl⟩
def zl_7 : List (Nat × Nat) := [(7, 0), (7, 1), (7, 2), (7, 3), (7, 4), (7, 5), (7, 6), (7, 7), (7, 8), (7, 9), (7, 10), (7, 11), (7, 12), (7, 13)]
theorem za_7 (cl : Nat → ClassId) (va : va_G) (h : Nat) (A : Nat → Prop) : ∀ q ∈ zl_7, zCell cl va h A q := List.forall_mem_cons.mpr ⟨z_7_0 cl va h A, List.forall_mem_cons.mpr ⟨z_7_1 cl va h A, List.forall_mem_cons.mpr ⟨z_7_2 cl va h A, List.forall_mem_cons.mpr ⟨z_7_3 cl va h A, List.forall_mem_cons.mpr ⟨z_7_4 cl va h A, List.forall_mem_cons.mpr ⟨z_7_5 cl va h A, List.forall_mem_cons.mpr ⟨z_7_6 cl va h A, List.forall_mem_cons.mpr ⟨z_7_7 cl va h A, List.forall_mem_cons.mpr ⟨z_7_8 cl va h A, List.forall_mem_cons.mpr ⟨z_7_9 cl va h A, List.forall_mem_cons.mpr ⟨z_7_10 cl va h A, List.forall_mem_cons.mpr ⟨z_7_11 cl va h A, List.forall_mem_cons.mpr ⟨z_7_12 cl va h A, List.forall_mem_cons.mpr ⟨z_7_13 cl va h A, fun _ w => absurd w List.not_mem_nil⟩⟩⟩⟩⟩⟩⟩⟩⟩⟩⟩⟩⟩⟩
theorem z_8_0 (cl : Nat → ClassId) (va : va_G) (h : Nat) (A : Nat → Prop) : zCell cl va h A (8, 0) := zC (k0 := .inl (1, [some (8, 1), some (8, 2), some (8, 3), some (8, 4), some (8, 5), some (8, 10), some (8, 11), none, none, none, none, none, some (8, 12), some (8, 13)])) rfl rfl ⟨rfl, rfl⟩
theorem z_8_1 (cl : Nat → ClassId) (va : va_G) (h : Nat) (A : Nat → Prop) : zCell cl va h A (8, 1) := zC (k0 := .inr (0, 4, wNr)) rfl rfl ⟨rfl, rfl, fun _ _ => rfl⟩
theorem z_8_2 (cl : Nat → ClassId) (va : va_G) (h : Nat) (A : Nat → Prop) : zCell cl va h A (8, 2) := zC (k0 := .inr (0, 4, wNr)) rfl rfl ⟨rfl, rfl, fun i hi => by
    have hi : i < 4 := hi
    rcases (show i = 0 ∨ i = 1 ∨ i = 2 ∨ i = 3 by omega) with rfl | rfl | rfl | rfl <;> rfl⟩
theorem z_8_3 (cl : Nat → ClassId) (va : va_G) (h : Nat) (A : Nat → Prop) : zCell cl va h A (8, 3) := zC (k0 := .inr (0, 4, wNr)) rfl rfl ⟨rfl, rfl, fun i hi => by
    have hi : i < 4 := hi
    rcases (show i = 0 ∨ i = 1 ∨ i = 2 ∨ i = 3 by omega) with rfl | rfl | rfl | rfl <;> rfl⟩
theorem z_8_4 (cl : Nat → ClassId) (va : va_G) (h : Nat) (A : Nat → Prop) : zCell cl va h A (8, 4) := zC (k0 := .inr (0, 4, wNr)) rfl rfl ⟨rfl, rfl, fun _ _ => rfl⟩
theorem z_8_5 (cl : Nat → ClassId) (va : va_G) (h : Nat) (A : Nat → Prop) : zCell cl va h A (8, 5) := zC (k0 := .inr (4, 4, fun i => (8, 6 + i))) rfl rfl ⟨rfl, rfl, fun i hi => by
    have hi : i < 4 := hi
    rcases (show i = 0 ∨ i = 1 ∨ i = 2 ∨ i = 3 by omega) with rfl | rfl | rfl | rfl <;> rfl⟩
theorem z_8_6 (cl : Nat → ClassId) (va : va_G) (h : Nat) (A : Nat → Prop) : zCell cl va h A (8, 6) := zC (k0 := .inr (0, 3, wNr)) rfl rfl ⟨rfl, rfl, fun _ _ => rfl⟩
theorem z_8_7 (cl : Nat → ClassId) (va : va_G) (h : Nat) (A : Nat → Prop) : zCell cl va h A (8, 7) := zC (k0 := .inr (0, 3, wNr)) rfl rfl ⟨rfl, rfl, fun _ _ => rfl⟩
theorem z_8_8 (cl : Nat → ClassId) (va : va_G) (h : Nat) (A : Nat → Prop) : zCell cl va h A (8, 8) := zC (k0 := .inr (0, 3, wNr)) rfl rfl ⟨rfl, rfl, fun _ _ => rfl⟩
theorem z_8_9 (cl : Nat → ClassId) (va : va_G) (h : Nat) (A : Nat → Prop) : zCell cl va h A (8, 9) := zC (k0 := .inr (0, 3, wNr)) rfl rfl ⟨rfl, rfl, fun _ _ => rfl⟩
theorem z_8_10 (cl : Nat → ClassId) (va : va_G) (h : Nat) (A : Nat → Prop) : zCell cl va h A (8, 10) := zC (k0 := .inr (0, 3, wNr)) rfl rfl ⟨rfl, rfl, fun _ _ => rfl⟩
theorem z_8_11 (cl : Nat → ClassId) (va : va_G) (h : Nat) (A : Nat → Prop) : zCell cl va h A (8, 11) := zC (k0 := .inr (0, 3, wNr)) rfl rfl ⟨rfl, rfl, fun i hi => by
    have hi : i < 3 := hi
    rcases (show i = 0 ∨ i = 1 ∨ i = 2 by omega) with rfl | rfl | rfl <;> rfl⟩
theorem z_8_12 (cl : Nat → ClassId) (va : va_G) (h : Nat) (A : Nat → Prop) : zCell cl va h A (8, 12) := zC (k0 := .inr (0, 4, wNr)) rfl rfl ⟨rfl, rfl, fun _ _ => rfl⟩
theorem z_8_13 (cl : Nat → ClassId) (va : va_G) (h : Nat) (A : Nat → Prop) : zCell cl va h A (8, 13) := zC (k0 := .inr (0, 4, wNr)) rfl rfl ⟨rfl, rfl, fun _ _ => rfl⟩
def zl_8 : List (Nat × Nat) := [(8, 0), (8, 1), (8, 2), (8, 3), (8, 4), (8, 5), (8, 6), (8, 7), (8, 8), (8, 9), (8, 10), (8, 11), (8, 12), (8, 13)]
theorem za_8 (cl : Nat → ClassId) (va : va_G) (h : Nat) (A : Nat → Prop) : ∀ q ∈ zl_8, zCell cl va h A q := List.forall_mem_cons.mpr ⟨z_8_0 cl va h A, List.forall_mem_cons.mpr ⟨z_8_1 cl va h A, List.forall_mem_cons.mpr ⟨z_8_2 cl va h A, List.forall_mem_cons.mpr ⟨z_8_3 cl va h A, List.forall_mem_cons.mpr ⟨z_8_4 cl va h A, List.forall_mem_cons.mpr ⟨z_8_5 cl va h A, List.forall_mem_cons.mpr ⟨z_8_6 cl va h A, List.forall_mem_cons.mpr ⟨z_8_7 cl va h A, List.forall_mem_cons.mpr ⟨z_8_8 cl va h A, List.forall_mem_cons.mpr ⟨z_8_9 cl va h A, List.forall_mem_cons.mpr ⟨z_8_10 cl va h A, List.forall_mem_cons.mpr ⟨z_8_11 cl va h A, List.forall_mem_cons.mpr ⟨z_8_12 cl va h A, List.forall_mem_cons.mpr ⟨z_8_13 cl va h A, fun _ w => absurd w List.not_mem_nil⟩⟩⟩⟩⟩⟩⟩⟩⟩⟩⟩⟩⟩⟩
theorem z_9_0 (cl : Nat → ClassId) (va : va_G) (h : Nat) (A : Nat → Prop) : zCell cl va h A (9, 0) := zC (k0 := .inl (1, [some (9, 1), some (9, 2), some (9, 3), some (9, 4), some (9, 5), some (9, 10), some (9, 11), none, none, none, none, none, some (9, 12), some (9, 13)])) rfl rfl ⟨rfl, rfl⟩
theorem z_9_1 (cl : Nat → ClassId) (va : va_G) (h : Nat) (A : Nat → Prop) : zCell cl va h A (9, 1) := zC (k0 := .inr (0, 4, wNr)) rfl rfl ⟨rfl, rfl, fun _ _ => rfl⟩
theorem z_9_2 (cl : Nat → ClassId) (va : va_G) (h : Nat) (A : Nat → Prop) : zCell cl va h A (9, 2) := zC (k0 := .inr (0, 4, wNr)) rfl rfl ⟨rfl, rfl, fun i hi => by
    have hi : i < 4 := hi
    rcases (show i = 0 ∨ i = 1 ∨ i = 2 ∨ i = 3 by omega) with rfl | rfl | rfl | rfl <;> rfl⟩
theorem z_9_3 (cl : Nat → ClassId) (va : va_G) (h : Nat) (A : Nat → Prop) : zCell cl va h A (9, 3) := zC (k0 := .inr (0, 4, wNr)) rfl rfl ⟨rfl, rfl, fun i hi => by
    have hi : i < 4 := hi
    rcases (show i = 0 ∨ i = 1 ∨ i = 2 ∨ i = 3 by omega) with rfl | rfl | rfl | rfl <;> rfl⟩
theorem z_9_4 (cl : Nat → ClassId) (va : va_G) (h : Nat) (A : Nat → Prop) : zCell cl va h A (9, 4) := zC (k0 := .inr (0, 4, wNr)) rfl rfl ⟨rfl, rfl, fun _ _ => rfl⟩
theorem z_9_5 (cl : Nat → ClassId) (va : va_G) (h : Nat) (A : Nat → Prop) : zCell cl va h A (9, 5) := zC (k0 := .inr (4, 4, fun i => (9, 6 + i))) rfl rfl ⟨rfl, rfl, fun i hi => by
    have hi : i < 4 := hi
    rcases (show i = 0 ∨ i = 1 ∨ i = 2 ∨ i = 3 by omega) with rfl | rfl | rfl | rfl <;> rfl⟩
theorem z_9_6 (cl : Nat → ClassId) (va : va_G) (h : Nat) (A : Nat → Prop) : zCell cl va h A (9, 6) := zC (k0 := .inr (0, 3, wNr)) rfl rfl ⟨rfl, rfl, fun _ _ => rfl⟩
theorem z_9_7 (cl : Nat → ClassId) (va : va_G) (h : Nat) (A : Nat → Prop) : zCell cl va h A (9, 7) := zC (k0 := .inr (0, 3, wNr)) rfl rfl ⟨rfl, rfl, fun _ _ => rfl⟩
theorem z_9_8 (cl : Nat → ClassId) (va : va_G) (h : Nat) (A : Nat → Prop) : zCell cl va h A (9, 8) := zC (k0 := .inr (0, 3, wNr)) rfl rfl ⟨rfl, rfl, fun _ _ => rfl⟩
theorem z_9_9 (cl : Nat → ClassId) (va : va_G) (h : Nat) (A : Nat → Prop) : zCell cl va h A (9, 9) := zC (k0 := .inr (0, 3, wNr)) rfl rfl ⟨rfl, rfl, fun _ _ => rfl⟩
theorem z_9_10 (cl : Nat → ClassId) (va : va_G) (h : Nat) (A : Nat → Prop) : zCell cl va h A (9, 10) := zC (k0 := .inr (0, 3, wNr)) rfl rfl ⟨rfl, rfl, fun _ _ => rfl⟩
theorem z_9_11 (cl : Nat → ClassId) (va : va_G) (h : Nat) (A : Nat → Prop) : zCell cl va h A (9, 11) := zC (k0 := .inr (0, 3, wNr)) rfl rfl ⟨rfl, rfl, fun i hi => by
    have hi : i < 3 := hi
    rcases (show i = 0 ∨ i = 1 ∨ i = 2 by omega) with rfl | rfl | rfl <;> rfl⟩
theorem z_9_12 (cl : Nat → ClassId) (va : va_G) (h : Nat) (A : Nat → Prop) : zCell cl va h A (9, 12) := zC (k0 := .inr (0, 4, wNr)) rfl rfl ⟨rfl, rfl, fun _ _ => rfl⟩
theorem z_9_13 (cl : Nat → ClassId) (va : va_G) (h : Nat) (A : Nat → Prop) : zCell cl va h A (9, 13) := zC (k0 := .inr (0, 4, wNr)) rfl rfl ⟨rfl, rfl, fun _ _ => rfl⟩
def zl_9 : List (Nat × Nat) := [(9, 0), (9, 1), (9, 2), (9, 3), (9, 4), (9, 5), (9, 6), (9, 7), (9, 8), (9, 9), (9, 10), (9, 11), (9, 12), (9, 13)]
theorem za_9 (cl : Nat → ClassId) (va : va_G) (h : Nat) (A : Nat → Prop) : ∀ q ∈ zl_9, zCell cl va h A q := List.forall_mem_cons.mpr ⟨z_9_0 cl va h A, List.forall_mem_cons.mpr ⟨z_9_1 cl va h A, List.forall_mem_cons.mpr ⟨z_9_2 cl va h A, List.forall_mem_cons.mpr ⟨z_9_3 cl va h A, List.forall_mem_cons.mpr ⟨z_9_4 cl va h A, List.forall_mem_cons.mpr ⟨z_9_5 cl va h A, List.forall_mem_cons.mpr ⟨z_9_6 cl va h A, List.forall_mem_cons.mpr ⟨z_9_7 cl va h A, List.forall_mem_cons.mpr ⟨z_9_8 cl va h A, List.forall_mem_cons.mpr ⟨z_9_9 cl va h A, List.forall_mem_cons.mpr ⟨z_9_10 cl va h A, List.forall_mem_cons.mpr ⟨z_9_11 cl va h A, List.forall_mem_cons.mpr ⟨z_9_12 cl va h A, List.forall_mem_cons.mpr ⟨z_9_13 cl va h A, fun _ w => absurd w List.not_mem_nil⟩⟩⟩⟩⟩⟩⟩⟩⟩⟩⟩⟩⟩⟩
theorem z_10_0 (cl : Nat → ClassId) (va : va_G) (h : Nat) (A : Nat → Prop) : zCell cl va h A (10, 0) := zC (k0 := .inl (1, [some (10, 1), some (10, 2), some (10, 3), some (10, 4), some (10, 5), some (10, 10), some (10, 11), none, none, none, none, none, some (10, 12), some (10, 13)])) rfl rfl ⟨rfl, rfl⟩
theorem z_10_1 (cl : Nat → ClassId) (va : va_G) (h : Nat) (A : Nat → Prop) : zCell cl va h A (10, 1) := zC (k0 := .inr (0, 4, wNr)) rfl rfl ⟨rfl, rfl, fun _ _ => rfl⟩
theorem z_10_2 (cl : Nat → ClassId) (va : va_G) (h : Nat) (A : Nat → Prop) : zCell cl va h A (10, 2) := zC (k0 := .inr (0, 4, wNr)) rfl rfl ⟨rfl, rfl, fun i hi => by
    have hi : i < 4 := hi
    rcases (show i = 0 ∨ i = 1 ∨ i = 2 ∨ i = 3 by omega) with rfl | rfl | rfl | rfl <;> rfl⟩
theorem z_10_3 (cl : Nat → ClassId) (va : va_G) (h : Nat) (A : Nat → Prop) : zCell cl va h A (10, 3) := zC (k0 := .inr (0, 4, wNr)) rfl rfl ⟨rfl, rfl, fun i hi => by
    have hi : i < 4 := hi
    rcases (show i = 0 ∨ i = 1 ∨ i = 2 ∨ i = 3 by omega) with rfl | rfl | rfl | rfl <;> rfl⟩
theorem z_10_4 (cl : Nat → ClassId) (va : va_G) (h : Nat) (A : Nat → Prop) : zCell cl va h A (10, 4) := zC (k0 := .inr (0, 4, wNr)) rfl rfl ⟨rfl, rfl, fun _ _ => rfl⟩
theorem z_10_5 (cl : Nat → ClassId) (va : va_G) (h : Nat) (A : Nat → Prop) : zCell cl va h A (10, 5) := zC (k0 := .inr (4, 4, fun i => (10, 6 + i))) rfl rfl ⟨rfl, rfl, fun i hi => by
    have hi : i < 4 := hi
    rcases (show i = 0 ∨ i = 1 ∨ i = 2 ∨ i = 3 by omega) with rfl | rfl | rfl | rfl <;> rfl⟩
theorem z_10_6 (cl : Nat → ClassId) (va : va_G) (h : Nat) (A : Nat → Prop) : zCell cl va h A (10, 6) := zC (k0 := .inr (0, 3, wNr)) rfl rfl ⟨rfl, rfl, fun _ _ => rfl⟩
theorem z_10_7 (cl : Nat → ClassId) (va : va_G) (h : Nat) (A : Nat → Prop) : zCell cl va h A (10, 7) := zC (k0 := .inr (0, 3, wNr)) rfl rfl ⟨rfl, rfl, fun _ _ => rfl⟩
theorem z_10_8 (cl : Nat → ClassId) (va : va_G) (h : Nat) (A : Nat → Prop) : zCell cl va h A (10, 8) := zC (k0 := .inr (0, 3, wNr)) rfl rfl ⟨rfl, rfl, fun _ _ => rfl⟩
theorem z_10_9 (cl : Nat → ClassId) (va : va_G) (h : Nat) (A : Nat → Prop) : zCell cl va h A (10, 9) := zC (k0 := .inr (0, 3, wNr)) rfl rfl ⟨rfl, rfl, fun _ _ => rfl⟩
theorem z_10_10 (cl : Nat → ClassId) (va : va_G) (h : Nat) (A : Nat → Prop) : zCell cl va h A (10, 10) := zC (k0 := .inr (0, 3, wNr)) rfl rfl ⟨rfl, rfl, fun _ _ => rfl⟩
theorem z_10_11 (cl : Nat → ClassId) (va : va_G) (h : Nat) (A : Nat → Prop) : zCell cl va h A (10, 11) := zC (k0 := .inr (0, 3, wNr)) rfl rfl ⟨rfl, rfl, fun i hi => by
    have hi : i < 3 := hi
    rcases (show i = 0 ∨ i = 1 ∨ i = 2 by omega) with rfl | rfl | rfl <;> rfl⟩
theorem z_10_12 (cl : Nat → ClassId) (va : va_G) (h : Nat) (A : Nat → Prop) : zCell cl va h A (10, 12) := zC (k0 := .inr (0, 4, wNr)) rfl rfl ⟨rfl, rfl, fun _ _ => rfl⟩
theorem z_10_13 (cl : Nat → ClassId) (va : va_G) (h : Nat) (A : Nat → Prop) : zCell cl va h A (10, 13) := zC (k0 := .inr (0, 4, wNr)) rfl rfl ⟨rfl, rfl, fun _ _ => rfl⟩
def zl_10 : List (Nat × Nat) := [(10, 0), (10, 1), (10, 2), (10, 3), (10, 4), (10, 5), (10, 6), (10, 7), (10, 8), (10, 9), (10, 10), (10, 11), (10, 12), (10, 13)]
theorem za_10 (cl : Nat → ClassId) (va : va_G) (h : Nat) (A : Nat → Prop) : ∀ q ∈ zl_10, zCell cl va h A q := List.forall_mem_cons.mpr ⟨z_10_0 cl va h A, List.forall_mem_cons.mpr ⟨z_10_1 cl va h A, List.forall_mem_cons.mpr ⟨z_10_2 cl va h A, List.forall_mem_cons.mpr ⟨z_10_3 cl va h A, List.forall_mem_cons.mpr ⟨z_10_4 cl va h A, List.forall_mem_cons.mpr ⟨z_10_5 cl va h A, List.forall_mem_cons.mpr ⟨z_10_6 cl va h A, List.forall_mem_cons.mpr ⟨z_10_7 cl va h A, List.forall_mem_cons.mpr ⟨z_10_8 cl va h A, List.forall_mem_cons.mpr ⟨z_10_9 cl va h A, List.forall_mem_cons.mpr ⟨z_10_10 cl va h A, List.forall_mem_cons.mpr ⟨z_10_11 cl va h A, List.forall_mem_cons.mpr ⟨z_10_12 cl va h A, List.forall_mem_cons.mpr ⟨z_10_13 cl va h A, fun _ w => absurd w List.not_mem_nil⟩⟩⟩⟩⟩⟩⟩⟩⟩⟩⟩⟩⟩⟩
theorem z_11_0 (cl : Nat → ClassId) (va : va_G) (h : Nat) (A : Nat → Prop) : zCell cl va h A (11, 0) := zC (k0 := .inl (1, [some (11, 1), some (11, 2), some (11, 3), some (11, 4), some (11, 5), some (11, 10), some (11, 11), none, none, none, none, none, some (11, 12), some (11, 13)])) rfl rfl ⟨rfl, rfl⟩
theorem z_11_1 (cl : Nat → ClassId) (va : va_G) (h : Nat) (A : Nat → Prop) : zCell cl va h A (11, 1) := zC (k0 := .inr (0, 4, wNr)) rfl rfl ⟨rfl, rfl, fun _ _ => rfl⟩
theorem z_11_2 (cl : Nat → ClassId) (va : va_G) (h : Nat) (A : Nat → Prop) : zCell cl va h A (11, 2) := zC (k0 := .inr (0, 4, wNr)) rfl rfl ⟨rfl, rfl, fun i hi => by
    have hi : i < 4 := hi
    rcases (show i = 0 ∨ i = 1 ∨ i = 2 ∨ i = 3 by omega) with rfl | rfl | rfl | rfl <;> rfl⟩
theorem z_11_3 (cl : Nat → ClassId) (va : va_G) (h : Nat) (A : Nat → Prop) : zCell cl va h A (11, 3) := zC (k0 := .inr (0, 4, wNr)) rfl rfl ⟨rfl, rfl, fun i hi => by
    have hi : i < 4 := hi
    rcases (show i = 0 ∨ i = 1 ∨ i = 2 ∨ i = 3 by omega) with rfl | rfl | rfl | rfl <;> rfl⟩
theorem z_11_4 (cl : Nat → ClassId) (va : va_G) (h : Nat) (A : Nat → Prop) : zCell cl va h A (11, 4) := zC (k0 := .inr (0, 4, wNr)) rfl rfl ⟨rfl, rfl, fun _ _ => rfl⟩
theorem z_11_5 (cl : Nat → ClassId) (va : va_G) (h : Nat) (A : Nat → Prop) : zCell cl va h A (11, 5) := zC (k0 := .inr (4, 4, fun i => (11, 6 + i))) rfl rfl ⟨rfl, rfl, fun i hi => by
    have hi : i < 4 := hi
    rcases (show i = 0 ∨ i = 1 ∨ i = 2 ∨ i = 3 by omega) with rfl | rfl | rfl | rfl <;> rfl⟩
theorem z_11_6 (cl : Nat → ClassId) (va : va_G) (h : Nat) (A : Nat → Prop) : zCell cl va h A (11, 6) := zC (k0 := .inr (0, 3, wNr)) rfl rfl ⟨rfl, rfl, fun _ _ => rfl⟩
theorem z_11_7 (cl : Nat → ClassId) (va : va_G) (h : Nat) (A : Nat → Prop) : zCell cl va h A (11, 7) := zC (k0 := .inr (0, 3, wNr)) rfl rfl ⟨rfl, rfl, fun _ _ => rfl⟩
theorem z_11_8 (cl : Nat → ClassId) (va : va_G) (h : Nat) (A : Nat → Prop) : zCell cl va h A (11, 8) := zC (k0 := .inr (0, 3, wNr)) rfl rfl ⟨rfl, rfl, fun _ _ => rfl⟩
theorem z_11_9 (cl : Nat → ClassId) (va : va_G) (h : Nat) (A : Nat → Prop) : zCell cl va h A (11, 9) := zC (k0 := .inr (0, 3, wNr)) rfl rfl ⟨rfl, rfl, fun _ _ => rfl⟩
theorem z_11_10 (cl : Nat → ClassId) (va : va_G) (h : Nat) (A : Nat → Prop) : zCell cl va h A (11, 10) := zC (k0 := .inr (0, 3, wNr)) rfl rfl ⟨rfl, rfl, fun _ _ => rfl⟩
theorem z_11_11 (cl : Nat → ClassId) (va : va_G) (h : Nat) (A : Nat → Prop) : zCell cl va h A (11, 11) := zC (k0 := .inr (0, 3, wNr)) rfl rfl ⟨rfl, rfl, fun i hi => by
    have hi : i < 3 := hi
    rcases (show i = 0 ∨ i = 1 ∨ i = 2 by omega) with rfl | rfl | rfl <;> rfl⟩
theorem z_11_12 (cl : Nat → ClassId) (va : va_G) (h : Nat) (A : Nat → Prop) : zCell cl va h A (11, 12) := zC (k0 := .inr (0, 4, wNr)) rfl rfl ⟨rfl, rfl, fun _ _ => rfl⟩
theorem z_11_13 (cl : Nat → ClassId) (va : va_G) (h : Nat) (A : Nat → Prop) : zCell cl va h A (11, 13) := zC (k0 := .inr (0, 4, wNr)) rfl rfl ⟨rfl, rfl, fun _ _ => rfl⟩
def zl_11 : List (Nat × Nat) := [(11, 0), (11, 1), (11, 2), (11, 3), (11, 4), (11, 5), (11, 6), (11, 7), (11, 8), (11, 9), (11, 10), (11, 11), (11, 12), (11, 13)]
theorem za_11 (cl : Nat → ClassId) (va : va_G) (h : Nat) (A : Nat → Prop) : ∀ q ∈ zl_11, zCell cl va h A q := List.forall_mem_cons.mpr ⟨z_11_0 cl va h A, List.forall_mem_cons.mpr ⟨z_11_1 cl va h A, List.forall_mem_cons.mpr ⟨z_11_2 cl va h A, List.forall_mem_cons.mpr ⟨z_11_3 cl va h A, List.forall_mem_cons.mpr ⟨z_11_4 cl va h A, List.forall_mem_cons.mpr ⟨z_11_5 cl va h A, List.forall_mem_cons.mpr ⟨z_11_6 cl va h A, List.forall_mem_cons.mpr ⟨z_11_7 cl va h A, List.forall_mem_cons.mpr ⟨z_11_8 cl va h A, List.forall_mem_cons.mpr ⟨z_11_9 cl va h A, List.forall_mem_cons.mpr ⟨z_11_10 cl va h A, List.forall_mem_cons.mpr ⟨z_11_11 cl va h A, List.forall_mem_cons.mpr ⟨z_11_12 cl va h A, List.forall_mem_cons.mpr ⟨z_11_13 cl va h A, fun _ w => absurd w List.not_mem_nil⟩⟩⟩⟩⟩⟩⟩⟩⟩⟩⟩⟩⟩⟩
theorem z_12_0 (cl : Nat → ClassId) (va : va_G) (h : Nat) (A : Nat → Prop) : zCell cl va h A (12, 0) := zC (k0 := .inl (1, [some (12, 1), some (12, 2), some (12, 3), some (12, 4), some (12, 5), some (12, 10), some (12, 11), none, none, none, none, none, some (12, 12), some (12, 13)])) rfl rfl ⟨rfl, rfl⟩
theorem z_12_1 (cl : Nat → ClassId) (va : va_G) (h : Nat) (A : Nat → Prop) : zCell cl va h A (12, 1) := zC (k0 := .inr (0, 4, wNr)) rfl rfl ⟨rfl, rfl, fun _ _ => rfl⟩
theorem z_12_2 (cl : Nat → ClassId) (va : va_G) (h : Nat) (A : Nat → Prop) : zCell cl va h A (12, 2) := zC (k0 := .inr (0, 4, wNr)) rfl rfl ⟨rfl, rfl, fun i hi => by
    have hi : i < 4 := hi
    rcases (show i = 0 ∨ i = 1 ∨ i = 2 ∨ i = 3 by omega) with rfl | rfl | rfl | rfl <;> rfl⟩
theorem z_12_3 (cl : Nat → ClassId) (va : va_G) (h : Nat) (A : Nat → Prop) : zCell cl va h A (12, 3) := zC (k0 := .inr (0, 4, wNr)) rfl rfl ⟨rfl, rfl, fun i hi => by
    have hi : i < 4 := hi
    rcases (show i = 0 ∨ i = 1 ∨ i = 2 ∨ i = 3 by omega) with rfl | rfl | rfl | rfl <;> rfl⟩
theorem z_12_4 (cl : Nat → ClassId) (va : va_G) (h : Nat) (A : Nat → Prop) : zCell cl va h A (12, 4) := zC (k0 := .inr (0, 4, wNr)) rfl rfl ⟨rfl, rfl, fun _ _ => rfl⟩
theorem z_12_5 (cl : Nat → ClassId) (va : va_G) (h : Nat) (A : Nat → Prop) : zCell cl va h A (12, 5) := zC (k0 := .inr (4, 4, fun i => (12, 6 + i))) rfl rfl ⟨rfl, rfl, fun i hi => by
    have hi : i < 4 := hi
    rcases (show i = 0 ∨ i = 1 ∨ i = 2 ∨ i = 3 by omega) with rfl | rfl | rfl | rfl <;> rfl⟩
theorem z_12_6 (cl : Nat → ClassId) (va : va_G) (h : Nat) (A : Nat → Prop) : zCell cl va h A (12, 6) := zC (k0 := .inr (0, 3, wNr)) rfl rfl ⟨rfl, rfl, fun _ _ => rfl⟩
theorem z_12_7 (cl : Nat → ClassId) (va : va_G) (h : Nat) (A : Nat → Prop) : zCell cl va h A (12, 7) := zC (k0 := .inr (0, 3, wNr)) rfl rfl ⟨rfl, rfl, fun _ _ => rfl⟩
theorem z_12_8 (cl : Nat → ClassId) (va : va_G) (h : Nat) (A : Nat → Prop) : zCell cl va h A (12, 8) := zC (k0 := .inr (0, 3, wNr)) rfl rfl ⟨rfl, rfl, fun _ _ => rfl⟩
theorem z_12_9 (cl : Nat → ClassId) (va : va_G) (h : Nat) (A : Nat → Prop) : zCell cl va h A (12, 9) := zC (k0 := .inr (0, 3, wNr)) rfl rfl ⟨rfl, rfl, fun _ _ => rfl⟩
theorem z_12_10 (cl : Nat → ClassId) (va : va_G) (h : Nat) (A : Nat → Prop) : zCell cl va h A (12, 10) := zC (k0 := .inr (0, 3, wNr)) rfl rfl ⟨rfl, rfl, fun _ _ => rfl⟩
theorem z_12_11 (cl : Nat → ClassId) (va : va_G) (h : Nat) (A : Nat → Prop) : zCell cl va h A (12, 11) := zC (k0 := .inr (0, 3, wNr)) rfl rfl ⟨rfl, rfl, fun i hi => by
    have hi : i < 3 := hi
    rcases (show i = 0 ∨ i = 1 ∨ i = 2 by omega) with rfl | rfl | rfl <;> rfl⟩
theorem z_12_12 (cl : Nat → ClassId) (va : va_G) (h : Nat) (A : Nat → Prop) : zCell cl va h A (12, 12) := zC (k0 := .inr (0, 4, wNr)) rfl rfl ⟨rfl, rfl, fun _ _ => rfl⟩
theorem z_12_13 (cl : Nat → ClassId) (va : va_G) (h : Nat) (A : Nat → Prop) : zCell cl va h A (12, 13) := zC (k0 := .inr (0, 4, wNr)) rfl rfl ⟨rfl, rfl, fun _ _ => rfl⟩
def zl_12 : List (Nat × Nat) := [(12, 0), (12, 1), (12, 2), (12, 3), (12, 4), (12, 5), (12, 6), (12, 7), (12, 8), (12, 9), (12, 10), (12, 11), (12, 12), (12, 13)]
theorem za_12 (cl : Nat → ClassId) (va : va_G) (h : Nat) (A : Nat → Prop) : ∀ q ∈ zl_12, zCell cl va h A q := List.forall_mem_cons.mpr ⟨z_12_0 cl va h A, List.forall_mem_cons.mpr ⟨z_12_1 cl va h A, List.forall_mem_cons.mpr ⟨z_12_2 cl va h A, List.forall_mem_cons.mpr ⟨z_12_3 cl va h A, List.forall_mem_cons.mpr ⟨z_12_4 cl va h A, List.forall_mem_cons.mpr ⟨z_12_5 cl va h A, List.forall_mem_cons.mpr ⟨z_12_6 cl va h A, List.forall_mem_cons.mpr ⟨z_12_7 cl va h A, List.forall_mem_cons.mpr ⟨z_12_8 cl va h A, List.forall_mem_cons.mpr ⟨z_12_9 cl va h A, List.forall_mem_cons.mpr ⟨z_12_10 cl va h A, List.forall_mem_cons.mpr ⟨z_12_11 cl va h A, List.forall_mem_cons.mpr ⟨z_12_12 cl va h A, List.forall_mem_cons.mpr ⟨z_12_13 cl va h A, fun _ w => absurd w List.not_mem_nil⟩⟩⟩⟩⟩⟩⟩⟩⟩⟩⟩⟩⟩⟩
theorem z_13_0 (cl : Nat → ClassId) (va : va_G) (h : Nat) (A : Nat → Prop) : zCell cl va h A (13, 0) := zC (k0 := .inl (1, [some (13, 1), some (13, 2), some (13, 3), some (13, 4), some (13, 5), some (13, 10), some (13, 11), none, none, none, none, none, some (13, 12), some (13, 13)])) rfl rfl ⟨rfl, rfl⟩
theorem z_13_1 (cl : Nat → ClassId) (va : va_G) (h : Nat) (A : Nat → Prop) : zCell cl va h A (13, 1) := zC (k0 := .inr (0, 4, wNr)) rfl rfl ⟨rfl, rfl, fun _ _ => rfl⟩
theorem z_13_2 (cl : Nat → ClassId) (va : va_G) (h : Nat) (A : Nat → Prop) : zCell cl va h A (13, 2) := zC (k0 := .inr (0, 4, wNr)) rfl rfl ⟨rfl, rfl, fun i hi => by
    have hi : i < 4 := hi
    rcases (show i = 0 ∨ i = 1 ∨ i = 2 ∨ i = 3 by omega) with rfl | rfl | rfl | rfl <;> rfl⟩
theorem z_13_3 (cl : Nat → ClassId) (va : va_G) (h : Nat) (A : Nat → Prop) : zCell cl va h A (13, 3) := zC (k0 := .inr (0, 4, wNr)) rfl rfl ⟨rfl, rfl, fun i hi => by
    have hi : i < 4 := hi
    rcases (show i = 0 ∨ i = 1 ∨ i = 2 ∨ i = 3 by omega) with rfl | rfl | rfl | rfl <;> rfl⟩
theorem z_13_4 (cl : Nat → ClassId) (va : va_G) (h : Nat) (A : Nat → Prop) : zCell cl va h A (13, 4) := zC (k0 := .inr (0, 4, wNr)) rfl rfl ⟨rfl, rfl, fun _ _ => rfl⟩
theorem z_13_5 (cl : Nat → ClassId) (va : va_G) (h : Nat) (A : Nat → Prop) : zCell cl va h A (13, 5) := zC (k0 := .inr (4, 4, fun i => (13, 6 + i))) rfl rfl ⟨rfl, rfl, fun i hi => by
    have hi : i < 4 := hi
    rcases (show i = 0 ∨ i = 1 ∨ i = 2 ∨ i = 3 by omega) with rfl | rfl | rfl | rfl <;> rfl⟩
theorem z_13_6 (cl : Nat → ClassId) (va : va_G) (h : Nat) (A : Nat → Prop) : zCell cl va h A (13, 6) := zC (k0 := .inr (0, 3, wNr)) rfl rfl ⟨rfl, rfl, fun _ _ => rfl⟩
theorem z_13_7 (cl : Nat → ClassId) (va : va_G) (h : Nat) (A : Nat → Prop) : zCell cl va h A (13, 7) := zC (k0 := .inr (0, 3, wNr)) rfl rfl ⟨rfl, rfl, fun _ _ => rfl⟩
theorem z_13_8 (cl : Nat → ClassId) (va : va_G) (h : Nat) (A : Nat → Prop) : zCell cl va h A (13, 8) := zC (k0 := .inr (0, 3, wNr)) rfl rfl ⟨rfl, rfl, fun _ _ => rfl⟩
theorem z_13_9 (cl : Nat → ClassId) (va : va_G) (h : Nat) (A : Nat → Prop) : zCell cl va h A (13, 9) := zC (k0 := .inr (0, 3, wNr)) rfl rfl ⟨rfl, rfl, fun _ _ => rfl⟩
theorem z_13_10 (cl : Nat → ClassId) (va : va_G) (h : Nat) (A : Nat → Prop) : zCell cl va h A (13, 10) := zC (k0 := .inr (0, 3, wNr)) rfl rfl ⟨rfl, rfl, fun _ _ => rfl⟩
theorem z_13_11 (cl : Nat → ClassId) (va : va_G) (h : Nat) (A : Nat → Prop) : zCell cl va h A (13, 11) := zC (k0 := .inr (0, 3, wNr)) rfl rfl ⟨rfl, rfl, fun i hi => by
    have hi : i < 3 := hi
    rcases (show i = 0 ∨ i = 1 ∨ i = 2 by omega) with rfl | rfl | rfl <;> rfl⟩
theorem z_13_12 (cl : Nat → ClassId) (va : va_G) (h : Nat) (A : Nat → Prop) : zCell cl va h A (13, 12) := zC (k0 := .inr (0, 4, wNr)) rfl rfl ⟨rfl, rfl, fun _ _ => rfl⟩
theorem z_13_13 (cl : Nat → ClassId) (va : va_G) (h : Nat) (A : Nat → Prop) : zCell cl va h A (13, 13) := zC (k0 := .inr (0, 4, wNr)) rfl rfl ⟨rfl, rfl, fun _ _ => rfl⟩
def zl_13 : List (Nat × Nat) := [(13, 0), (13, 1), (13, 2), (13, 3), (13, 4), (13, 5), (13, 6), (13, 7), (13, 8), (13, 9), (13, 10), (13, 11), (13, 12), (13, 13)]
theorem za_13 (cl : Nat → ClassId) (va : va_G) (h : Nat) (A : Nat → Prop) : ∀ q ∈ zl_13, zCell cl va h A q := List.forall_mem_cons.mpr ⟨z_13_0 cl va h A, List.forall_mem_cons.mpr ⟨z_13_1 cl va h A, List.forall_mem_cons.mpr ⟨z_13_2 cl va h A, List.forall_mem_cons.mpr ⟨z_13_3 cl va h A, List.forall_mem_cons.mpr ⟨z_13_4 cl va h A, List.forall_mem_cons.mpr ⟨z_13_5 cl va h A, List.forall_mem_cons.mpr ⟨z_13_6 cl va h A, List.forall_mem_cons.mpr ⟨z_13_7 cl va h A, List.forall_mem_cons.mpr ⟨z_13_8 cl va h A, List.forall_mem_cons.mpr ⟨z_13_9 cl va h A, List.forall_mem_cons.mpr ⟨z_13_10 cl va h A, List.forall_mem_cons.mpr ⟨z_13_11 cl va h A, List.forall_mem_cons.mpr ⟨z_13_12 cl va h A, List.forall_mem_cons.mpr ⟨z_13_13 cl va h A, fun _ w => absurd w List.not_mem_nil⟩⟩⟩⟩⟩⟩⟩⟩⟩⟩⟩⟩⟩⟩
theorem z_14_0 (cl : Nat → ClassId) (va : va_G) (h : Nat) (A : Nat → Prop) : zCell cl va h A (14, 0) := zC (k0 := .inl (1, [some (14, 1), some (14, 2), some (14, 3), some (14, 4), some (14, 5), some (14, 10), some (14, 11), none, none, none, none, none, some (14, 12), some (14, 13)])) rfl rfl ⟨rfl, rfl⟩
theorem z_14_1 (cl : Nat → ClassId) (va : va_G) (h : Nat) (A : Nat → Prop) : zCell cl va h A (14, 1) := zC (k0 := .inr (0, 4, wNr)) rfl rfl ⟨rfl, rfl, fun _ _ => rfl⟩
theorem z_14_2 (cl : Nat → ClassId) (va : va_G) (h : Nat) (A : Nat → Prop) : zCell cl va h A (14, 2) := zC (k0 := .inr (0, 4, wNr)) rfl rfl ⟨rfl, rfl, fun i hi => by
    have hi : i < 4 := hi
    rcases (show i = 0 ∨ i = 1 ∨ i = 2 ∨ i = 3 by omega) with rfl | rfl | rfl | rfl <;> rfl⟩
theorem z_14_3 (cl : Nat → ClassId) (va : va_G) (h : Nat) (A : Nat → Prop) : zCell cl va h A (14, 3) := zC (k0 := .inr (0, 4, wNr)) rfl rfl ⟨rfl, rfl, fun i hi => by
    have hi : i < 4 := hi
    rcases (show i = 0 ∨ i = 1 ∨ i = 2 ∨ i = 3 by omega) with rfl | rfl | rfl | rfl <;> rfl⟩
theorem z_14_4 (cl : Nat → ClassId) (va : va_G) (h : Nat) (A : Nat → Prop) : zCell cl va h A (14, 4) := zC (k0 := .inr (0, 4, wNr)) rfl rfl ⟨rfl, rfl, fun _ _ => rfl⟩
theorem z_14_5 (cl : Nat → ClassId) (va : va_G) (h : Nat) (A : Nat → Prop) : zCell cl va h A (14, 5) := zC (k0 := .inr (4, 4, fun i => (14, 6 + i))) rfl rfl ⟨rfl, rfl, fun i hi => by
    have hi : i < 4 := hi
    rcases (show i = 0 ∨ i = 1 ∨ i = 2 ∨ i = 3 by omega) with rfl | rfl | rfl | rfl <;> rfl⟩
theorem z_14_6 (cl : Nat → ClassId) (va : va_G) (h : Nat) (A : Nat → Prop) : zCell cl va h A (14, 6) := zC (k0 := .inr (0, 3, wNr)) rfl rfl ⟨rfl, rfl, fun _ _ => rfl⟩
theorem z_14_7 (cl : Nat → ClassId) (va : va_G) (h : Nat) (A : Nat → Prop) : zCell cl va h A (14, 7) := zC (k0 := .inr (0, 3, wNr)) rfl rfl ⟨rfl, rfl, fun _ _ => rfl⟩
theorem z_14_8 (cl : Nat → ClassId) (va : va_G) (h : Nat) (A : Nat → Prop) : zCell cl va h A (14, 8) := zC (k0 := .inr (0, 3, wNr)) rfl rfl ⟨rfl, rfl, fun _ _ => rfl⟩
theorem z_14_9 (cl : Nat → ClassId) (va : va_G) (h : Nat) (A : Nat → Prop) : zCell cl va h A (14, 9) := zC (k0 := .inr (0, 3, wNr)) rfl rfl ⟨rfl, rfl, fun _ _ => rfl⟩
theorem z_14_10 (cl : Nat → ClassId) (va : va_G) (h : Nat) (A : Nat → Prop) : zCell cl va h A (14, 10) := zC (k0 := .inr (0, 3, wNr)) rfl rfl ⟨rfl, rfl, fun _ _ => rfl⟩
theorem z_14_11 (cl : Nat → ClassId) (va : va_G) (h : Nat) (A : Nat → Prop) : zCell cl va h A (14, 11) := zC (k0 := .inr (0, 3, wNr)) rfl rfl ⟨rfl, rfl, fun i hi => by
    have hi : i < 3 := hi
    rcases (show i = 0 ∨ i = 1 ∨ i = 2 by omega) with rfl | rfl | rfl <;> rfl⟩
theorem z_14_12 (cl : Nat → ClassId) (va : va_G) (h : Nat) (A : Nat → Prop) : zCell cl va h A (14, 12) := zC (k0 := .inr (0, 4, wNr)) rfl rfl ⟨rfl, rfl, fun _ _ => rfl⟩
theorem z_14_13 (cl : Nat → ClassId) (va : va_G) (h : Nat) (A : Nat → Prop) : zCell cl va h A (14, 13) := zC (k0 := .inr (0, 4, wNr)) rfl rfl ⟨rfl, rfl, fun _ _ => rfl⟩
def zl_14 : List (Nat × Nat) := [(14, 0), (14, 1), (14, 2), (14, 3), (14, 4), (14, 5), (14, 6), (14, 7), (14, 8), (14, 9), (14, 10), (14, 11), (14, 12), (14, 13)]
theorem za_14 (cl : Nat → ClassId) (va : va_G) (h : Nat) (A : Nat → Prop) : ∀ q ∈ zl_14, zCell cl va h A q := List.forall_mem_cons.mpr ⟨z_14_0 cl va h A, List.forall_mem_cons.mpr ⟨z_14_1 cl va h A, List.forall_mem_cons.mpr ⟨z_14_2 cl va h A, List.forall_mem_cons.mpr ⟨z_14_3 cl va h A, List.forall_mem_cons.mpr ⟨z_14_4 cl va h A, List.forall_mem_cons.mpr ⟨z_14_5 cl va h A, List.forall_mem_cons.mpr ⟨z_14_6 cl va h A, List.forall_mem_cons.mpr ⟨z_14_7 cl va h A, List.forall_mem_cons.mpr ⟨z_14_8 cl va h A, List.forall_mem_cons.mpr ⟨z_14_9 cl va h A, List.forall_mem_cons.mpr ⟨z_14_10 cl va h A, List.forall_mem_cons.mpr ⟨z_14_11 cl va h A, List.forall_mem_cons.mpr ⟨z_14_12 cl va h A, List.forall_mem_cons.mpr ⟨z_14_13 cl va h A, fun _ w => absurd w List.not_mem_nil⟩⟩⟩⟩⟩⟩⟩⟩⟩⟩⟩⟩⟩⟩
theorem z_15_0 (cl : Nat → ClassId) (va : va_G) (h : Nat) (A : Nat → Prop) : zCell cl va h A (15, 0) := zC (k0 := .inl (1, [some (15, 1), some (15, 2), some (15, 3), some (15, 4), some (15, 5), some (15, 10), some (15, 11), none, none, none, none, none, some (15, 12), some (15, 13)])) rfl rfl ⟨rfl, rfl⟩
theorem z_15_1 (cl : Nat → ClassId) (va : va_G) (h : Nat) (A : Nat → Prop) : zCell cl va h A (15, 1) := zC (k0 := .inr (0, 4, wNr)) rfl rfl ⟨rfl, rfl, fun _ _ => rfl⟩
theorem z_15_2 (cl : Nat → ClassId) (va : va_G) (h : Nat) (A : Nat → Prop) : zCell cl va h A (15, 2) := zC (k0 := .inr (0, 4, wNr)) rfl rfl ⟨rfl, rfl, fun i hi => by
    have hi : i < 4 := hi
    rcases (show i = 0 ∨ i = 1 ∨ i = 2 ∨ i = 3 by omega) with rfl | rfl | rfl | rfl <;> rfl⟩
theorem z_15_3 (cl : Nat → ClassId) (va : va_G) (h : Nat) (A : Nat → Prop) : zCell cl va h A (15, 3) := zC (k0 := .inr (0, 4, wNr)) rfl rfl ⟨rfl, rfl, fun i hi => by
    have hi : i < 4 := hi
    rcases (show i = 0 ∨ i = 1 ∨ i = 2 ∨ i = 3 by omega) with rfl | rfl | rfl | rfl <;> rfl⟩
theorem z_15_4 (cl : Nat → ClassId) (va : va_G) (h : Nat) (A : Nat → Prop) : zCell cl va h A (15, 4) := zC (k0 := .inr (0, 4, wNr)) rfl rfl ⟨rfl, rfl, fun _ _ => rfl⟩
theorem z_15_5 (cl : Nat → ClassId) (va : va_G) (h : Nat) (A : Nat → Prop) : zCell cl va h A (15, 5) := zC (k0 := .inr (4, 4, fun i => (15, 6 + i))) rfl rfl ⟨rfl, rfl, fun i hi => by
    have hi : i < 4 := hi
    rcases (show i = 0 ∨ i = 1 ∨ i = 2 ∨ i = 3 by omega) with rfl | rfl | rfl | rfl <;> rfl⟩
theorem z_15_6 (cl : Nat → ClassId) (va : va_G) (h : Nat) (A : Nat → Prop) : zCell cl va h A (15, 6) := zC (k0 := .inr (0, 3, wNr)) rfl rfl ⟨rfl, rfl, fun _ _ => rfl⟩
theorem z_15_7 (cl : Nat → ClassId) (va : va_G) (h : Nat) (A : Nat → Prop) : zCell cl va h A (15, 7) := zC (k0 := .inr (0, 3, wNr)) rfl rfl ⟨rfl, rfl, fun _ _ => rfl⟩
theorem z_15_8 (cl : Nat → ClassId) (va : va_G) (h : Nat) (A : Nat → Prop) : zCell cl va h A (15, 8) := zC (k0 := .inr (0, 3, wNr)) rfl rfl ⟨rfl, rfl, fun _ _ => rfl⟩
theorem z_15_9 (cl : Nat → ClassId) (va : va_G) (h : Nat) (A : Nat → Prop) : zCell cl va h A (15, 9) := zC (k0 := .inr (0, 3, wNr)) rfl rfl ⟨rfl, rfl, fun _ _ => rfl⟩
theorem z_15_10 (cl : Nat → ClassId) (va : va_G) (h : Nat) (A : Nat → Prop) : zCell cl va h A (15, 10) := zC (k0 := .inr (0, 3, wNr)) rfl rfl ⟨rfl, rfl, fun _ _ => rfl⟩
theorem z_15_11 (cl : Nat → ClassId) (va : va_G) (h : Nat) (A : Nat → Prop) : zCell cl va h A (15, 11) := zC (k0 := .inr (0, 3, wNr)) rfl rfl ⟨rfl, rfl, fun i hi => by
    have hi : i < 3 := hi
    rcases (show i = 0 ∨ i = 1 ∨ i = 2 by omega) with rfl | rfl | rfl <;> rfl⟩
theorem z_15_12 (cl : Nat → ClassId) (va : va_G) (h : Nat) (A : Nat → Prop) : zCell cl va h A (15, 12) := zC (k0 := .inr (0, 4, wNr)) rfl rfl ⟨rfl, rfl, fun _ _ => rfl⟩
theorem z_15_13 (cl : Nat → ClassId) (va : va_G) (h : Nat) (A : Nat → Prop) : zCell cl va h A (15, 13) := zC (k0 := .inr (0, 4, wNr)) rfl rfl ⟨rfl, rfl, fun _ _ => rfl⟩
def zl_15 : List (Nat × Nat) := [(15, 0), (15, 1), (15, 2), (15, 3), (15, 4), (15, 5), (15, 6), (15, 7), (15, 8), (15, 9), (15, 10), (15, 11), (15, 12), (15, 13)]
theorem za_15 (cl : Nat → ClassId) (va : va_G) (h : Nat) (A : Nat → Prop) : ∀ q ∈ zl_15, zCell cl va h A q := List.forall_mem_cons.mpr ⟨z_15_0 cl va h A, List.forall_mem_cons.mpr ⟨z_15_1 cl va h A, List.forall_mem_cons.mpr ⟨z_15_2 cl va h A, List.forall_mem_cons.mpr ⟨z_15_3 cl va h A, List.forall_mem_cons.mpr ⟨z_15_4 cl va h A, List.forall_mem_cons.mpr ⟨z_15_5 cl va h A, List.forall_mem_cons.mpr ⟨z_15_6 cl va h A, List.forall_mem_cons.mpr ⟨z_15_7 cl va h A, List.forall_mem_cons.mpr ⟨z_15_8 cl va h A, List.forall_mem_cons.mpr ⟨z_15_9 cl va h A, List.forall_mem_cons.mpr ⟨z_15_10 cl va h A, List.forall_mem_cons.mpr ⟨z_15_11 cl va h A, List.forall_mem_cons.mpr ⟨z_15_12 cl va h A, List.forall_mem_cons.mpr ⟨z_15_13 cl va h A, fun _ w => absurd w List.not_mem_nil⟩⟩⟩⟩⟩⟩⟩⟩⟩⟩⟩⟩⟩⟩
theorem z_16_0 (cl : Nat → ClassId) (va : va_G) (h : Nat) (A : Nat → Prop) : zCell cl va h A (16, 0) := zC (k0 := .inl (1, [some (16, 1), some (16, 2), some (16, 3), some (16, 4), some (16, 5), some (16, 10), some (16, 11), none, none, none, none, none, some (16, 12), some (16, 13)])) rfl rfl ⟨rfl, rfl⟩
theorem z_16_1 (cl : Nat → ClassId) (va : va_G) (h : Nat) (A : Nat → Prop) : zCell cl va h A (16, 1) := zC (k0 := .inr (0, 4, wNr)) rfl rfl ⟨rfl, rfl, fun _ _ => rfl⟩
theorem z_16_2 (cl : Nat → ClassId) (va : va_G) (h : Nat) (A : Nat → Prop) : zCell cl va h A (16, 2) := zC (k0 := .inr (0, 4, wNr)) rfl rfl ⟨rfl, rfl, fun i hi => by
    have hi : i < 4 := hi
    rcases (show i = 0 ∨ i = 1 ∨ i = 2 ∨ i = 3 by omega) with rfl | rfl | rfl | rfl <;> rfl⟩
theorem z_16_3 (cl : Nat → ClassId) (va : va_G) (h : Nat) (A : Nat → Prop) : zCell cl va h A (16, 3) := zC (k0 := .inr (0, 4, wNr)) rfl rfl ⟨rfl, rfl, fun i hi => by
    have hi : i < 4 := hi
    rcases (show i = 0 ∨ i = 1 ∨ i = 2 ∨ i = 3 by omega) with rfl | rfl | rfl | rfl <;> rfl⟩
theorem z_16_4 (cl : Nat → ClassId) (va : va_G) (h : Nat) (A : Nat → Prop) : zCell cl va h A (16, 4) := zC (k0 := .inr (0, 4, wNr)) rfl rfl ⟨rfl, rfl, fun _ _ => rfl⟩
theorem z_16_5 (cl : Nat → ClassId) (va : va_G) (h : Nat) (A : Nat → Prop) : zCell cl va h A (16, 5) := zC (k0 := .inr (4, 4, fun i => (16, 6 + i))) rfl rfl ⟨rfl, rfl, fun i hi => by
    have hi : i < 4 := hi
    rcases (show i = 0 ∨ i = 1 ∨ i = 2 ∨ i = 3 by omega) with rfl | rfl | rfl | rfl <;> rfl⟩
theorem z_16_6 (cl : Nat → ClassId) (va : va_G) (h : Nat) (A : Nat → Prop) : zCell cl va h A (16, 6) := zC (k0 := .inr (0, 3, wNr)) rfl rfl ⟨rfl, rfl, fun _ _ => rfl⟩
theorem z_16_7 (cl : Nat → ClassId) (va : va_G) (h : Nat) (A : Nat → Prop) : zCell cl va h A (16, 7) := zC (k0 := .inr (0, 3, wNr)) rfl rfl ⟨rfl, rfl, fun _ _ => rfl⟩
theorem z_16_8 (cl : Nat → ClassId) (va : va_G) (h : Nat) (A : Nat → Prop) : zCell cl va h A (16, 8) := zC (k0 := .inr (0, 3, wNr)) rfl rfl ⟨rfl, rfl, fun _ _ => rfl⟩
theorem z_16_9 (cl : Nat → ClassId) (va : va_G) (h : Nat) (A : Nat → Prop) : zCell cl va h A (16, 9) := zC (k0 := .inr (0, 3, wNr)) rfl rfl ⟨rfl, rfl, fun _ _ => rfl⟩
theorem z_16_10 (cl : Nat → ClassId) (va : va_G) (h : Nat) (A : Nat → Prop) : zCell cl va h A (16, 10) := zC (k0 := .inr (0, 3, wNr)) rfl rfl ⟨rfl, rfl, fun _ _ => rfl⟩
theorem z_16_11 (cl : Nat → ClassId) (va : va_G) (h : Nat) (A : Nat → Prop) : zCell cl va h A (16, 11) := zC (k0 := .inr (0, 3, wNr)) rfl rfl ⟨rfl, rfl, fun i hi => by
    have hi : i < 3 := hi
    rcases (show i = 0 ∨ i = 1 ∨ i = 2 by omega) with rfl | rfl | rfl <;> rfl⟩
theorem z_16_12 (cl : Nat → ClassId) (va : va_G) (h : Nat) (A : Nat → Prop) : zCell cl va h A (16, 12) := zC (k0 := .inr (0, 4, wNr)) rfl rfl ⟨rfl, rfl, fun _ _ => rfl⟩
theorem z_16_13 (cl : Nat → ClassId) (va : va_G) (h : Nat) (A : Nat → Prop) : zCell cl va h A (16, 13) := zC (k0 := .inr (0, 4, wNr)) rfl rfl ⟨rfl, rfl, fun _ _ => rfl⟩
def zl_16 : List (Nat × Nat) := [(16, 0), (16, 1), (16, 2), (16, 3), (16, 4), (16, 5), (16, 6), (16, 7), (16, 8), (16, 9), (16, 10), (16, 11), (16, 12), (16, 13)]
theorem za_16 (cl : Nat → ClassId) (va : va_G) (h : Nat) (A : Nat → Prop) : ∀ q ∈ zl_16, zCell cl va h A q := List.forall_mem_cons.mpr ⟨z_16_0 cl va h A, List.forall_mem_cons.mpr ⟨z_16_1 cl va h A, List.forall_mem_cons.mpr ⟨z_16_2 cl va h A, List.forall_mem_cons.mpr ⟨z_16_3 cl va h A, List.forall_mem_cons.mpr ⟨z_16_4 cl va h A, List.forall_mem_cons.mpr ⟨z_16_5 cl va h A, List.forall_mem_cons.mpr ⟨z_16_6 cl va h A, List.forall_mem_cons.mpr ⟨z_16_7 cl va h A, List.forall_mem_cons.mpr ⟨z_16_8 cl va h A, List.forall_mem_cons.mpr ⟨z_16_9 cl va h A, List.forall_mem_cons.mpr ⟨z_16_10 cl va h A, List.forall_mem_cons.mpr ⟨z_16_11 cl va h A, List.forall_mem_cons.mpr ⟨z_16_12 cl va h A, List.forall_mem_cons.mpr ⟨z_16_13 cl va h A, fun _ w => absurd w List.not_mem_nil⟩⟩⟩⟩⟩⟩⟩⟩⟩⟩⟩⟩⟩⟩
theorem z_17_0 (cl : Nat → ClassId) (va : va_G) (h : Nat) (A : Nat → Prop) : zCell cl va h A (17, 0) := zC (k0 := .inl (1, [some (17, 1), some (17, 2), some (17, 3), some (17, 4), some (17, 5), some (17, 10), some (17, 11), none, none, none, none, none, some (17, 12), some (17, 13)])) rfl rfl ⟨rfl, rfl⟩
theorem z_17_1 (cl : Nat → ClassId) (va : va_G) (h : Nat) (A : Nat → Prop) : zCell cl va h A (17, 1) := zC (k0 := .inr (0, 4, wNr)) rfl rfl ⟨rfl, rfl, fun _ _ => rfl⟩
theorem z_17_2 (cl : Nat → ClassId) (va : va_G) (h : Nat) (A : Nat → Prop) : zCell cl va h A (17, 2) := zC (k0 := .inr (0, 4, wNr)) rfl rfl ⟨rfl, rfl, fun i hi => by
    have hi : i < 4 := hi
    rcases (show i = 0 ∨ i = 1 ∨ i = 2 ∨ i = 3 by omega) with rfl | rfl | rfl | rfl <;> rfl⟩
theorem z_17_3 (cl : Nat → ClassId) (va : va_G) (h : Nat) (A : Nat → Prop) : zCell cl va h A (17, 3) := zC (k0 := .inr (0, 4, wNr)) rfl rfl ⟨rfl, rfl, fun i hi => by
    have hi : i < 4 := hi
    rcases (show i = 0 ∨ i = 1 ∨ i = 2 ∨ i = 3 by omega) with rfl | rfl | rfl | rfl <;> rfl⟩
theorem z_17_4 (cl : Nat → ClassId) (va : va_G) (h : Nat) (A : Nat → Prop) : zCell cl va h A (17, 4) := zC (k0 := .inr (0, 4, wNr)) rfl rfl ⟨rfl, rfl, fun _ _ => rfl⟩
theorem z_17_5 (cl : Nat → ClassId) (va : va_G) (h : Nat) (A : Nat → Prop) : zCell cl va h A (17, 5) := zC (k0 := .inr (4, 4, fun i => (17, 6 + i))) rfl rfl ⟨rfl, rfl, fun i hi => by
    have hi : i < 4 := hi
    rcases (show i = 0 ∨ i = 1 ∨ i = 2 ∨ i = 3 by omega) with rfl | rfl | rfl | rfl <;> rfl⟩
theorem z_17_6 (cl : Nat → ClassId) (va : va_G) (h : Nat) (A : Nat → Prop) : zCell cl va h A (17, 6) := zC (k0 := .inr (0, 3, wNr)) rfl rfl ⟨rfl, rfl, fun _ _ => rfl⟩
theorem z_17_7 (cl : Nat → ClassId) (va : va_G) (h : Nat) (A : Nat → Prop) : zCell cl va h A (17, 7) := zC (k0 := .inr (0, 3, wNr)) rfl rfl ⟨rfl, rfl, fun _ _ => rfl⟩
theorem z_17_8 (cl : Nat → ClassId) (va : va_G) (h : Nat) (A : Nat → Prop) : zCell cl va h A (17, 8) := zC (k0 := .inr (0, 3, wNr)) rfl rfl ⟨rfl, rfl, fun _ _ => rfl⟩
theorem z_17_9 (cl : Nat → ClassId) (va : va_G) (h : Nat) (A : Nat → Prop) : zCell cl va h A (17, 9) := zC (k0 := .inr (0, 3, wNr)) rfl rfl ⟨rfl, rfl, fun _ _ => rfl⟩
theorem z_17_10 (cl : Nat → ClassId) (va : va_G) (h : Nat) (A : Nat → Prop) : zCell cl va h A (17, 10) := zC (k0 := .inr (0, 3, wNr)) rfl rfl ⟨rfl, rfl, fun _ _ => rfl⟩
theorem z_17_11 (cl : Nat → ClassId) (va : va_G) (h : Nat) (A : Nat → Prop) : zCell cl va h A (17, 11) := zC (k0 := .inr (0, 3, wNr)) rfl rfl ⟨rfl, rfl, fun i hi => by
    have hi : i < 3 := hi
    rcases (show i = 0 ∨ i = 1 ∨ i = 2 by omega) with rfl | rfl | rfl <;> rfl⟩
theorem z_17_12 (cl : Nat → ClassId) (va : va_G) (h : Nat) (A : Nat → Prop) : zCell cl va h A (17, 12) := zC (k0 := .inr (0, 4, wNr)) rfl rfl ⟨rfl, rfl, fun _ _ => rfl⟩
theorem z_17_13 (cl : Nat → ClassId) (va : va_G) (h : Nat) (A : Nat → Prop) : zCell cl va h A (17, 13) := zC (k0 := .inr (0, 4, wNr)) rfl rfl ⟨rfl, rfl, fun _ _ => rfl⟩
def zl_17 : List (Nat × Nat) := [(17, 0), (17, 1), (17, 2), (17, 3), (17, 4), (17, 5), (17, 6), (17, 7), (17, 8), (17, 9), (17, 10), (17, 11), (17, 12), (17, 13)]
theorem za_17 (cl : Nat → ClassId) (va : va_G) (h : Nat) (A : Nat → Prop) : ∀ q ∈ zl_17, zCell cl va h A q := List.forall_mem_cons.mpr ⟨z_17_0 cl va h A, List.forall_mem_cons.mpr ⟨z_17_1 cl va h A, List.forall_mem_cons.mpr ⟨z_17_2 cl va h A, List.forall_mem_cons.mpr ⟨z_17_3 cl va h A, List.forall_mem_cons.mpr ⟨z_17_4 cl va h A, List.forall_mem_cons.mpr ⟨z_17_5 cl va h A, List.forall_mem_cons.mpr ⟨z_17_6 cl va h A, List.forall_mem_cons.mpr ⟨z_17_7 cl va h A, List.forall_mem_cons.mpr ⟨z_17_8 cl va h A, List.forall_mem_cons.mpr ⟨z_17_9 cl va h A, List.forall_mem_cons.mpr ⟨z_17_10 cl va h A, List.forall_mem_cons.mpr ⟨z_17_11 cl va h A, List.forall_mem_cons.mpr ⟨z_17_12 cl va h A, List.forall_mem_cons.mpr ⟨z_17_13 cl va h A, fun _ w => absurd w List.not_mem_nil⟩⟩⟩⟩⟩⟩⟩⟩⟩⟩⟩⟩⟩⟩
theorem z_18_0 (cl : Nat → ClassId) (va : va_G) (h : Nat) (A : Nat → Prop) : zCell cl va h A (18, 0) := zC (k0 := .inl (1, [some (18, 1), some (18, 2), some (18, 3), some (18, 4), some (18, 5), some (18, 10), some (18, 11), none, none, none, none, none, some (18, 12), some (18, 13)])) rfl rfl ⟨rfl, rfl⟩
theorem z_18_1 (cl : Nat → ClassId) (va : va_G) (h : Nat) (A : Nat → Prop) : zCell cl va h A (18, 1) := zC (k0 := .inr (0, 4, wNr)) rfl rfl ⟨rfl, rfl, fun _ _ => rfl⟩
theorem z_18_2 (cl : Nat → ClassId) (va : va_G) (h : Nat) (A : Nat → Prop) : zCell cl va h A (18, 2) := zC (k0 := .inr (0, 4, wNr)) rfl rfl ⟨rfl, rfl, fun i hi => by
    have hi : i < 4 := hi
    rcases (show i = 0 ∨ i = 1 ∨ i = 2 ∨ i = 3 by omega) with rfl | rfl | rfl | rfl <;> rfl⟩
theorem z_18_3 (cl : Nat → ClassId) (va : va_G) (h : Nat) (A : Nat → Prop) : zCell cl va h A (18, 3) := zC (k0 := .inr (0, 4, wNr)) rfl rfl ⟨rfl, rfl, fun i hi => by
    have hi : i < 4 := hi
    rcases (show i = 0 ∨ i = 1 ∨ i = 2 ∨ i = 3 by omega) with rfl | rfl | rfl | rfl <;> rfl⟩
theorem z_18_4 (cl : Nat → ClassId) (va : va_G) (h : Nat) (A : Nat → Prop) : zCell cl va h A (18, 4) := zC (k0 := .inr (0, 4, wNr)) rfl rfl ⟨rfl, rfl, fun _ _ => rfl⟩
theorem z_18_5 (cl : Nat → ClassId) (va : va_G) (h : Nat) (A : Nat → Prop) : zCell cl va h A (18, 5) := zC (k0 := .inr (4, 4, fun i => (18, 6 + i))) rfl rfl ⟨rfl, rfl, fun i hi => by
    have hi : i < 4 := hi
    rcases (show i = 0 ∨ i = 1 ∨ i = 2 ∨ i = 3 by omega) with rfl | rfl | rfl | rfl <;> rfl⟩
theorem z_18_6 (cl : Nat → ClassId) (va : va_G) (h : Nat) (A : Nat → Prop) : zCell cl va h A (18, 6) := zC (k0 := .inr (0, 3, wNr)) rfl rfl ⟨rfl, rfl, fun _ _ => rfl⟩
theorem z_18_7 (cl : Nat → ClassId) (va : va_G) (h : Nat) (A : Nat → Prop) : zCell cl va h A (18, 7) := zC (k0 := .inr (0, 3, wNr)) rfl rfl ⟨rfl, rfl, fun _ _ => rfl⟩
theorem z_18_8 (cl : Nat → ClassId) (va : va_G) (h : Nat) (A : Nat → Prop) : zCell cl va h A (18, 8) := zC (k0 := .inr (0, 3, wNr)) rfl rfl ⟨rfl, rfl, fun _ _ => rfl⟩
theorem z_18_9 (cl : Nat → ClassId) (va : va_G) (h : Nat) (A : Nat → Prop) : zCell cl va h A (18, 9) := zC (k0 := .inr (0, 3, wNr)) rfl rfl ⟨rfl, rfl, fun _ _ => rfl⟩
theorem z_18_10 (cl : Nat → ClassId) (va : va_G) (h : Nat) (A : Nat → Prop) : zCell cl va h A (18, 10) := zC (k0 := .inr (0, 3, wNr)) rfl rfl ⟨rfl, rfl, fun _ _ => rfl⟩
theorem z_18_11 (cl : Nat → ClassId) (va : va_G) (h : Nat) (A : Nat → Prop) : zCell cl va h A (18, 11) := zC (k0 := .inr (0, 3, wNr)) rfl rfl ⟨rfl, rfl, fun i hi => by
    have hi : i < 3 := hi
    rcases (show i = 0 ∨ i = 1 ∨ i = 2 by omega) with rfl | rfl | rfl <;> rfl⟩
theorem z_18_12 (cl : Nat → ClassId) (va : va_G) (h : Nat) (A : Nat → Prop) : zCell cl va h A (18, 12) := zC (k0 := .inr (0, 4, wNr)) rfl rfl ⟨rfl, rfl, fun _ _ => rfl⟩
theorem z_18_13 (cl : Nat → ClassId) (va : va_G) (h : Nat) (A : Nat → Prop) : zCell cl va h A (18, 13) := zC (k0 := .inr (0, 4, wNr)) rfl rfl ⟨rfl, rfl, fun _ _ => rfl⟩
def zl_18 : List (Nat × Nat) := [(18, 0), (18, 1), (18, 2), (18, 3), (18, 4), (18, 5), (18, 6), (18, 7), (18, 8), (18, 9), (18, 10), (18, 11), (18, 12), (18, 13)]
theorem za_18 (cl : Nat → ClassId) (va : va_G) (h : Nat) (A : Nat → Prop) : ∀ q ∈ zl_18, zCell cl va h A q := List.forall_mem_cons.mpr ⟨z_18_0 cl va h A, List.forall_mem_cons.mpr ⟨z_18_1 cl va h A, List.forall_mem_cons.mpr ⟨z_18_2 cl va h A, List.forall_mem_cons.mpr ⟨z_18_3 cl va h A, List.forall_mem_cons.mpr ⟨z_18_4 cl va h A, List.forall_mem_cons.mpr ⟨z_18_5 cl va h A, List.forall_mem_cons.mpr ⟨z_18_6 cl va h A, List.forall_mem_cons.mpr ⟨z_18_7 cl va h A, List.forall_mem_cons.mpr ⟨z_18_8 cl va h A, List.forall_mem_cons.mpr ⟨z_18_9 cl va h A, List.forall_mem_cons.mpr ⟨z_18_10 cl va h A, List.forall_mem_cons.mpr ⟨z_18_11 cl va h A, List.forall_mem_cons.mpr ⟨z_18_12 cl va h A, List.forall_mem_cons.mpr ⟨z_18_13 cl va h A, fun _ w => absurd w List.not_mem_nil⟩⟩⟩⟩⟩⟩⟩⟩⟩⟩⟩⟩⟩⟩
theorem z_19_0 (cl : Nat → ClassId) (va : va_G) (h : Nat) (A : Nat → Prop) : zCell cl va h A (19, 0) := zC (k0 := .inl (3, [none, none, some (19, 1), some (19, 6), some (19, 7), some (19, 8), some (19, 12)])) rfl rfl ⟨rfl, rfl⟩
theorem z_19_1 (cl : Nat → ClassId) (va : va_G) (h : Nat) (A : Nat → Prop) : zCell cl va h A (19, 1) := zC (k0 := .inr (4, 4, fun i => (19, 2 + i))) rfl rfl ⟨rfl, rfl, fun i hi => by
    have hi : i < 4 := hi
    rcases (show i = 0 ∨ i = 1 ∨ i = 2 ∨ i = 3 by omega) with rfl | rfl | rfl | rfl <;> rfl⟩
theorem z_19_2 (cl : Nat → ClassId) (va : va_G) (h : Nat) (A : Nat → Prop) : zCell cl va h A (19, 2) := zC (k0 := .inr (0, 4, wNr)) rfl rfl ⟨rfl, rfl, fun i hi => by
    by_cases q : i = 0
    · subst q; rfl
    · show (if i = 0 then _ else _) = vI (if i = 0 then _ else _)
      rw [if_neg q, if_neg q]; rfl⟩
theorem z_19_3 (cl : Nat → ClassId) (va : va_G) (h : Nat) (A : Nat → Prop) : zCell cl va h A (19, 3) := zC (k0 := .inr (0, 4, wNr)) rfl rfl ⟨rfl, rfl, fun _ _ => rfl⟩
theorem z_19_4 (cl : Nat → ClassId) (va : va_G) (h : Nat) (A : Nat → Prop) : zCell cl va h A (19, 4) := zC (k0 := .inr (0, 4, wNr)) rfl rfl ⟨rfl, rfl, fun _ _ => rfl⟩
theorem z_19_5 (cl : Nat → ClassId) (va : va_G) (h : Nat) (A : Nat → Prop) : zCell cl va h A (19, 5) := zC (k0 := .inr (0, 4, wNr)) rfl rfl ⟨rfl, rfl, fun _ _ => rfl⟩
theorem z_19_6 (cl : Nat → ClassId) (va : va_G) (h : Nat) (A : Nat → Prop) : zCell cl va h A (19, 6) := zC (k0 := .inr (0, 4, wNr)) rfl rfl ⟨rfl, rfl, fun i hi => by
    by_cases q : i = 0
    · subst q; rfl
    · show (if i = 0 then _ else _) = vI (if i = 0 then _ else _)
      rw [if_neg q, if_neg q]; rfl⟩
theorem z_19_7 (cl : Nat → ClassId) (va : va_G) (h : Nat) (A : Nat → Prop) : zCell cl va h A (19, 7) := zC (k0 := .inr (0, 4, wNr)) rfl rfl ⟨rfl, rfl, fun _ _ => rfl⟩
theorem z_19_8 (cl : Nat → ClassId) (va : va_G) (h : Nat) (A : Nat → Prop) : zCell cl va h A (19, 8) := zC (k0 := .inr (4, 3, fun i => (19, 9 + i))) rfl rfl ⟨rfl, rfl, fun i hi => by
    have hi : i < 3 := hi
    rcases (show i = 0 ∨ i = 1 ∨ i = 2 by omega) with rfl | rfl | rfl <;> rfl⟩
theorem z_19_9 (cl : Nat → ClassId) (va : va_G) (h : Nat) (A : Nat → Prop) : zCell cl va h A (19, 9) := zC (k0 := .inr (0, 4, wNr)) rfl rfl ⟨rfl, rfl, fun i hi => by
    by_cases q : i = 0
    · subst q; rfl
    · show (if i = 0 then _ else _) = vI (if i = 0 then _ else _)
      rw [if_neg q, if_neg q]; rfl⟩
theorem z_19_10 (cl : Nat → ClassId) (va : va_G) (h : Nat) (A : Nat → Prop) : zCell cl va h A (19, 10) := zC (k0 := .inr (0, 4, wNr)) rfl rfl ⟨rfl, rfl, fun _ _ => rfl⟩
theorem z_19_11 (cl : Nat → ClassId) (va : va_G) (h : Nat) (A : Nat → Prop) : zCell cl va h A (19, 11) := zC (k0 := .inr (0, 4, wNr)) rfl rfl ⟨rfl, rfl, fun _ _ => rfl⟩
theorem z_19_12 (cl : Nat → ClassId) (va : va_G) (h : Nat) (A : Nat → Prop) : zCell cl va h A (19, 12) := zC (k0 := .inr (0, 3, wNr)) rfl rfl ⟨rfl, rfl, fun i hi => by
    by_cases q : i = 0
    · subst q; rfl
    · show (if i = 0 then _ else _) = vI (if i = 0 then _ else _)
      rw [if_neg q, if_neg q]; rfl⟩
def zl_19 : List (Nat × Nat) := [(19, 0), (19, 1), (19, 2), (19, 3), (19, 4), (19, 5), (19, 6), (19, 7), (19, 8), (19, 9), (19, 10), (19, 11), (19, 12)]
theorem za_19 (cl : Nat → ClassId) (va : va_G) (h : Nat) (A : Nat → Prop) : ∀ q ∈ zl_19, zCell cl va h A q := List.forall_mem_cons.mpr ⟨z_19_0 cl va h A, List.forall_mem_cons.mpr ⟨z_19_1 cl va h A, List.forall_mem_cons.mpr ⟨z_19_2 cl va h A, List.forall_mem_cons.mpr ⟨z_19_3 cl va h A, List.forall_mem_cons.mpr ⟨z_19_4 cl va h A, List.forall_mem_cons.mpr ⟨z_19_5 cl va h A, List.forall_mem_cons.mpr ⟨z_19_6 cl va h A, List.forall_mem_cons.mpr ⟨z_19_7 cl va h A, List.forall_mem_cons.mpr ⟨z_19_8 cl va h A, List.forall_mem_cons.mpr ⟨z_19_9 cl va h A, List.forall_mem_cons.mpr ⟨z_19_10 cl va h A, List.forall_mem_cons.mpr ⟨z_19_11 cl va h A, List.forall_mem_cons.mpr ⟨z_19_12 cl va h A, fun _ w => absurd w List.not_mem_nil⟩⟩⟩⟩⟩⟩⟩⟩⟩⟩⟩⟩⟩
theorem z_20_0 (cl : Nat → ClassId) (va : va_G) (h : Nat) (A : Nat → Prop) : zCell cl va h A (20, 0) := zC (k0 := .inl (3, [none, none, some (20, 1), some (20, 6), some (20, 7), some (20, 8), some (20, 12)])) rfl rfl ⟨rfl, rfl⟩
theorem z_20_1 (cl : Nat → ClassId) (va : va_G) (h : Nat) (A : Nat → Prop) : zCell cl va h A (20, 1) := zC (k0 := .inr (4, 4, fun i => (20, 2 + i))) rfl rfl ⟨rfl, rfl, fun i hi => by
    have hi : i < 4 := hi
    rcases (show i = 0 ∨ i = 1 ∨ i = 2 ∨ i = 3 by omega) with rfl | rfl | rfl | rfl <;> rfl⟩
theorem z_20_2 (cl : Nat → ClassId) (va : va_G) (h : Nat) (A : Nat → Prop) : zCell cl va h A (20, 2) := zC (k0 := .inr (0, 4, wNr)) rfl rfl ⟨rfl, rfl, fun i hi => by
    by_cases q : i = 0
    · subst q; rfl
    · show (if i = 0 then _ else _) = vI (if i = 0 then _ else _)
      rw [if_neg q, if_neg q]; rfl⟩
theorem z_20_3 (cl : Nat → ClassId) (va : va_G) (h : Nat) (A : Nat → Prop) : zCell cl va h A (20, 3) := zC (k0 := .inr (0, 4, wNr)) rfl rfl ⟨rfl, rfl, fun _ _ => rfl⟩
theorem z_20_4 (cl : Nat → ClassId) (va : va_G) (h : Nat) (A : Nat → Prop) : zCell cl va h A (20, 4) := zC (k0 := .inr (0, 4, wNr)) rfl rfl ⟨rfl, rfl, fun _ _ => rfl⟩
theorem z_20_5 (cl : Nat → ClassId) (va : va_G) (h : Nat) (A : Nat → Prop) : zCell cl va h A (20, 5) := zC (k0 := .inr (0, 4, wNr)) rfl rfl ⟨rfl, rfl, fun _ _ => rfl⟩
theorem z_20_6 (cl : Nat → ClassId) (va : va_G) (h : Nat) (A : Nat → Prop) : zCell cl va h A (20, 6) := zC (k0 := .inr (0, 4, wNr)) rfl rfl ⟨rfl, rfl, fun i hi => by
    by_cases q : i = 0
    · subst q; rfl
    · show (if i = 0 then _ else _) = vI (if i = 0 then _ else _)
      rw [if_neg q, if_neg q]; rfl⟩
theorem z_20_7 (cl : Nat → ClassId) (va : va_G) (h : Nat) (A : Nat → Prop) : zCell cl va h A (20, 7) := zC (k0 := .inr (0, 4, wNr)) rfl rfl ⟨rfl, rfl, fun _ _ => rfl⟩
theorem z_20_8 (cl : Nat → ClassId) (va : va_G) (h : Nat) (A : Nat → Prop) : zCell cl va h A (20, 8) := zC (k0 := .inr (4, 3, fun i => (20, 9 + i))) rfl rfl ⟨rfl, rfl, fun i hi => by
    have hi : i < 3 := hi
    rcases (show i = 0 ∨ i = 1 ∨ i = 2 by omega) with rfl | rfl | rfl <;> rfl⟩
theorem z_20_9 (cl : Nat → ClassId) (va : va_G) (h : Nat) (A : Nat → Prop) : zCell cl va h A (20, 9) := zC (k0 := .inr (0, 4, wNr)) rfl rfl ⟨rfl, rfl, fun i hi => by
    by_cases q : i = 0
    · subst q; rfl
    · show (if i = 0 then _ else _) = vI (if i = 0 then _ else _)
      rw [if_neg q, if_neg q]; rfl⟩
theorem z_20_10 (cl : Nat → ClassId) (va : va_G) (h : Nat) (A : Nat → Prop) : zCell cl va h A (20, 10) := zC (k0 := .inr (0, 4, wNr)) rfl rfl ⟨rfl, rfl, fun _ _ => rfl⟩
theorem z_20_11 (cl : Nat → ClassId) (va : va_G) (h : Nat) (A : Nat → Prop) : zCell cl va h A (20, 11) := zC (k0 := .inr (0, 4, wNr)) rfl rfl ⟨rfl, rfl, fun _ _ => rfl⟩
theorem z_20_12 (cl : Nat → ClassId) (va : va_G) (h : Nat) (A : Nat → Prop) : zCell cl va h A (20, 12) := zC (k0 := .inr (0, 3, wNr)) rfl rfl ⟨rfl, rfl, fun i hi => by
    by_cases q : i = 0
    · subst q; rfl
    · show (if i = 0 then _ else _) = vI (if i = 0 then _ else _)
      rw [if_neg q, if_neg q]; rfl⟩
def zl_20 : List (Nat × Nat) := [(20, 0), (20, 1), (20, 2), (20, 3), (20, 4), (20, 5), (20, 6), (20, 7), (20, 8), (20, 9), (20, 10), (20, 11), (20, 12)]
theorem za_20 (cl : Nat → ClassId) (va : va_G) (h : Nat) (A : Nat → Prop) : ∀ q ∈ zl_20, zCell cl va h A q := List.forall_mem_cons.mpr ⟨z_20_0 cl va h A, List.forall_mem_cons.mpr ⟨z_20_1 cl va h A, List.forall_mem_cons.mpr ⟨z_20_2 cl va h A, List.forall_mem_cons.mpr ⟨z_20_3 cl va h A, List.forall_mem_cons.mpr ⟨z_20_4 cl va h A, List.forall_mem_cons.mpr ⟨z_20_5 cl va h A, List.forall_mem_cons.mpr ⟨z_20_6 cl va h A, List.forall_mem_cons.mpr ⟨z_20_7 cl va h A, List.forall_mem_cons.mpr ⟨z_20_8 cl va h A, List.forall_mem_cons.mpr ⟨z_20_9 cl va h A, List.forall_mem_cons.mpr ⟨z_20_10 cl va h A, List.forall_mem_cons.mpr ⟨z_20_11 cl va h A, List.forall_mem_cons.mpr ⟨z_20_12 cl va h A, fun _ w => absurd w List.not_mem_nil⟩⟩⟩⟩⟩⟩⟩⟩⟩⟩⟩⟩⟩
theorem z_21_0 (cl : Nat → ClassId) (va : va_G) (h : Nat) (A : Nat → Prop) : zCell cl va h A (21, 0) := zC (k0 := .inl (2, [some (21, 1), some (21, 2)])) rfl rfl ⟨rfl, rfl⟩
theorem z_21_1 (cl : Nat → ClassId) (va : va_G) (h : Nat) (A : Nat → Prop) : zCell cl va h A (21, 1) := zC (k0 := .inr (0, 4, wNr)) rfl rfl ⟨rfl, rfl, fun _ _ => rfl⟩
theorem z_21_2 (cl : Nat → ClassId) (va : va_G) (h : Nat) (A : Nat → Prop) : zCell cl va h A (21, 2) := zC (k0 := .inr (1, 3, wNr)) rfl rfl ⟨rfl, rfl, fun _ _ => rfl⟩
def zl_21 : List (Nat × Nat) := [(21, 0), (21, 1), (21, 2)]
theorem za_21 (cl : Nat → ClassId) (va : va_G) (h : Nat) (A : Nat → Prop) : ∀ q ∈ zl_21, zCell cl va h A q := List.forall_mem_cons.mpr ⟨z_21_0 cl va h A, List.forall_mem_cons.mpr ⟨z_21_1 cl va h A, List.forall_mem_cons.mpr ⟨z_21_2 cl va h A, fun _ w => absurd w List.not_mem_nil⟩⟩⟩
theorem z_22_0 (cl : Nat → ClassId) (va : va_G) (h : Nat) (A : Nat → Prop) : zCell cl va h A (22, 0) := zC (k0 := .inl (4, [some (23, 0), some (24, 0), some (22, 1), some (22, 5), some (22, 6), some (22, 7)])) rfl rfl ⟨rfl, rfl⟩
theorem z_22_1 (cl : Nat → ClassId) (va : va_G) (h : Nat) (A : Nat → Prop) : zCell cl va h A (22, 1) := zC (k0 := .inr (5, 3, fun i => (22, 2 + i))) rfl rfl ⟨rfl, rfl, fun i hi => by
    have hi : i < 3 := hi
    rcases (show i = 0 ∨ i = 1 ∨ i = 2 by omega) with rfl | rfl | rfl <;> rfl⟩
theorem z_22_2 (cl : Nat → ClassId) (va : va_G) (h : Nat) (A : Nat → Prop) : zCell cl va h A (22, 2) := zC (k0 := .inr (1, 4, wNr)) rfl rfl ⟨rfl, rfl, fun _ _ => rfl⟩
theorem z_22_3 (cl : Nat → ClassId) (va : va_G) (h : Nat) (A : Nat → Prop) : zCell cl va h A (22, 3) := zC (k0 := .inr (1, 4, wNr)) rfl rfl ⟨rfl, rfl, fun _ _ => rfl⟩
theorem z_22_4 (cl : Nat → ClassId) (va : va_G) (h : Nat) (A : Nat → Prop) : zCell cl va h A (22, 4) := zC (k0 := .inr (1, 4, wNr)) rfl rfl ⟨rfl, rfl, fun _ _ => rfl⟩
theorem z_22_5 (cl : Nat → ClassId) (va : va_G) (h : Nat) (A : Nat → Prop) : zCell cl va h A (22, 5) := zC (k0 := .inr (1, 4, wNr)) rfl rfl ⟨rfl, rfl, fun _ _ => rfl⟩
theorem z_22_6 (cl : Nat → ClassId) (va : va_G) (h : Nat) (A : Nat → Prop) : zCell cl va h A (22, 6) := zC (k0 := .inr (1, 4, wNr)) rfl rfl ⟨rfl, rfl, fun _ _ => rfl⟩
theorem z_22_7 (cl : Nat → ClassId) (va : va_G) (h : Nat) (A : Nat → Prop) : zCell cl va h A (22, 7) := zC (k0 := .inr (1, 4, wNr)) rfl rfl ⟨rfl, rfl, fun _ _ => rfl⟩
def zl_22 : List (Nat × Nat) := [(22, 0), (22, 1), (22, 2), (22, 3), (22, 4), (22, 5), (22, 6), (22, 7)]
theorem za_22 (cl : Nat → ClassId) (va : va_G) (h : Nat) (A : Nat → Prop) : ∀ q ∈ zl_22, zCell cl va h A q := List.forall_mem_cons.mpr ⟨z_22_0 cl va h A, List.forall_mem_cons.mpr ⟨z_22_1 cl va h A, List.forall_mem_cons.mpr ⟨z_22_2 cl va h A, List.forall_mem_cons.mpr ⟨z_22_3 cl va h A, List.forall_mem_cons.mpr ⟨z_22_4 cl va h A, List.forall_mem_cons.mpr ⟨z_22_5 cl va h A, List.forall_mem_cons.mpr ⟨z_22_6 cl va h A, List.forall_mem_cons.mpr ⟨z_22_7 cl va h A, fun _ w => absurd w List.not_mem_nil⟩⟩⟩⟩⟩⟩⟩⟩
theorem z_23_0 (cl : Nat → ClassId) (va : va_G) (h : Nat) (A : Nat → Prop) : zCell cl va h A (23, 0) := zC (k0 := .inl (6, [some (23, 1), none])) rfl rfl ⟨rfl, rfl⟩
theorem z_23_1 (cl : Nat → ClassId) (va : va_G) (h : Nat) (A : Nat → Prop) : zCell cl va h A (23, 1) := zC (k0 := .inr (5, 4, fun i => (23, 2 + i))) rfl rfl ⟨rfl, rfl, fun i hi => by
    have hi : i < 4 := hi
    rcases (show i = 0 ∨ i = 1 ∨ i = 2 ∨ i = 3 by omega) with rfl | rfl | rfl | rfl <;> rfl⟩
theorem z_23_2 (cl : Nat → ClassId) (va : va_G) (h : Nat) (A : Nat → Prop) : zCell cl va h A (23, 2) := zC (k0 := .inr (1, 4, wNr)) rfl rfl ⟨rfl, rfl, fun _ _ => rfl⟩
theorem z_23_3 (cl : Nat → ClassId) (va : va_G) (h : Nat) (A : Nat → Prop) : zCell cl va h A (23, 3) := zC (k0 := .inr (1, 4, wNr)) rfl rfl ⟨rfl, rfl, fun _ _ => rfl⟩
theorem z_23_4 (cl : Nat → ClassId) (va : va_G) (h : Nat) (A : Nat → Prop) : zCell cl va h A (23, 4) := zC (k0 := .inr (1, 4, wNr)) rfl rfl ⟨rfl, rfl, fun _ _ => rfl⟩
theorem z_23_5 (cl : Nat → ClassId) (va : va_G) (h : Nat) (A : Nat → Prop) : zCell cl va h A (23, 5) := zC (k0 := .inr (1, 4, wNr)) rfl rfl ⟨rfl, rfl, fun _ _ => rfl⟩
def zl_23 : List (Nat × Nat) := [(23, 0), (23, 1), (23, 2), (23, 3), (23, 4), (23, 5)]
theorem za_23 (cl : Nat → ClassId) (va : va_G) (h : Nat) (A : Nat → Prop) : ∀ q ∈ zl_23, zCell cl va h A q := List.forall_mem_cons.mpr ⟨z_23_0 cl va h A, List.forall_mem_cons.mpr ⟨z_23_1 cl va h A, List.forall_mem_cons.mpr ⟨z_23_2 cl va h A, List.forall_mem_cons.mpr ⟨z_23_3 cl va h A, List.forall_mem_cons.mpr ⟨z_23_4 cl va h A, List.forall_mem_cons.mpr ⟨z_23_5 cl va h A, fun _ w => absurd w List.not_mem_nil⟩⟩⟩⟩⟩⟩
theorem z_24_0 (cl : Nat → ClassId) (va : va_G) (h : Nat) (A : Nat → Prop) : zCell cl va h A (24, 0) := zC (k0 := .inl (6, [some (24, 1), none])) rfl rfl ⟨rfl, rfl⟩
theorem z_24_1 (cl : Nat → ClassId) (va : va_G) (h : Nat) (A : Nat → Prop) : zCell cl va h A (24, 1) := zC (k0 := .inr (5, 4, fun i => (24, 2 + i))) rfl rfl ⟨rfl, rfl, fun i hi => by
    have hi : i < 4 := hi
    rcases (show i = 0 ∨ i = 1 ∨ i = 2 ∨ i = 3 by omega) with rfl | rfl | rfl | rfl <;> rfl⟩
theorem z_24_2 (cl : Nat → ClassId) (va : va_G) (h : Nat) (A : Nat → Prop) : zCell cl va h A (24, 2) := zC (k0 := .inr (1, 4, wNr)) rfl rfl ⟨rfl, rfl, fun _ _ => rfl⟩
theorem z_24_3 (cl : Nat → ClassId) (va : va_G) (h : Nat) (A : Nat → Prop) : zCell cl va h A (24, 3) := zC (k0 := .inr (1, 4, wNr)) rfl rfl ⟨rfl, rfl, fun _ _ => rfl⟩
theorem z_24_4 (cl : Nat → ClassId) (va : va_G) (h : Nat) (A : Nat → Prop) : zCell cl va h A (24, 4) := zC (k0 := .inr (1, 4, wNr)) rfl rfl ⟨rfl, rfl, fun _ _ => rfl⟩
theorem z_24_5 (cl : Nat → ClassId) (va : va_G) (h : Nat) (A : Nat → Prop) : zCell cl va h A (24, 5) := zC (k0 := .inr (1, 4, wNr)) rfl rfl ⟨rfl, rfl, fun _ _ => rfl⟩
def zl_24 : List (Nat × Nat) := [(24, 0), (24, 1), (24, 2), (24, 3), (24, 4), (24, 5)]
theorem za_24 (cl : Nat → ClassId) (va : va_G) (h : Nat) (A : Nat → Prop) : ∀ q ∈ zl_24, zCell cl va h A q := List.forall_mem_cons.mpr ⟨z_24_0 cl va h A, List.forall_mem_cons.mpr ⟨z_24_1 cl va h A, List.forall_mem_cons.mpr ⟨z_24_2 cl va h A, List.forall_mem_cons.mpr ⟨z_24_3 cl va h A, List.forall_mem_cons.mpr ⟨z_24_4 cl va h A, List.forall_mem_cons.mpr ⟨z_24_5 cl va h A, fun _ w => absurd w List.not_mem_nil⟩⟩⟩⟩⟩⟩
theorem z_25_0 (cl : Nat → ClassId) (va : va_G) (h : Nat) (A : Nat → Prop) : zCell cl va h A (25, 0) := zC (k0 := .inl (5, [some (25, 1), some (25, 2)])) rfl rfl ⟨rfl, rfl⟩
theorem z_25_1 (cl : Nat → ClassId) (va : va_G) (h : Nat) (A : Nat → Prop) : zCell cl va h A (25, 1) := zC (k0 := .inr (6, 2, fun i => (3 + i, 0))) rfl rfl ⟨rfl, rfl, fun i hi => by
    have hi : i < 2 := hi
    rcases (show i = 0 ∨ i = 1 by omega) with rfl | rfl <;> rfl⟩
theorem z_25_2 (cl : Nat → ClassId) (va : va_G) (h : Nat) (A : Nat → Prop) : zCell cl va h A (25, 2) := zC (k0 := .inr (2, 2, wNr)) rfl rfl ⟨rfl, rfl, fun _ _ => rfl⟩
def zl_25 : List (Nat × Nat) := [(25, 0), (25, 1), (25, 2)]
theorem za_25 (cl : Nat → ClassId) (va : va_G) (h : Nat) (A : Nat → Prop) : ∀ q ∈ zl_25, zCell cl va h A q := List.forall_mem_cons.mpr ⟨z_25_0 cl va h A, List.forall_mem_cons.mpr ⟨z_25_1 cl va h A, List.forall_mem_cons.mpr ⟨z_25_2 cl va h A, fun _ w => absurd w List.not_mem_nil⟩⟩⟩
theorem z_26_0 (cl : Nat → ClassId) (va : va_G) (h : Nat) (A : Nat → Prop) : zCell cl va h A (26, 0) := zC (k0 := .inl (0, [some (26, 1), none, none])) rfl rfl ⟨rfl, rfl⟩
theorem z_26_1 (cl : Nat → ClassId) (va : va_G) (h : Nat) (A : Nat → Prop) : zCell cl va h A (26, 1) := zC (k0 := .inr (6, 14, fun i => (5 + i, 0))) rfl rfl ⟨rfl, rfl, fun i hi => by
    have hi : i < 14 := hi
    rcases (show i = 0 ∨ i = 1 ∨ i = 2 ∨ i = 3 ∨ i = 4 ∨ i = 5 ∨ i = 6 ∨ i = 7 ∨ i = 8 ∨ i = 9 ∨ i = 10 ∨ i = 11 ∨ i = 12 ∨ i = 13 by omega) with rfl | rfl | rfl | rfl | rfl | rfl | rfl | rfl | rfl | rfl | rfl | rfl | rfl | rfl <;> rfl⟩
def zl_26 : List (Nat × Nat) := [(26, 0), (26, 1)]
theorem za_26 (cl : Nat → ClassId) (va : va_G) (h : Nat) (A : Nat → Prop) : ∀ q ∈ zl_26, zCell cl va h A q := List.forall_mem_cons.mpr ⟨z_26_0 cl va h A, List.forall_mem_cons.mpr ⟨z_26_1 cl va h A, fun _ w => absurd w List.not_mem_nil⟩⟩
theorem z_27_0 (cl : Nat → ClassId) (va : va_G) (h : Nat) (A : Nat → Prop) : zCell cl va h A (27, 0) := zC (k0 := .inl (7, [some (27, 1), none, some (20, 0), some (2, 0), none, none])) rfl rfl ⟨rfl, rfl⟩
theorem z_27_1 (cl : Nat → ClassId) (va : va_G) (h : Nat) (A : Nat → Prop) : zCell cl va h A (27, 1) := zC (k0 := .inr (3, 200, wNr)) rfl rfl ⟨rfl, rfl, fun _ _ => rfl⟩
def zl_27 : List (Nat × Nat) := [(27, 0), (27, 1)]
theorem za_27 (cl : Nat → ClassId) (va : va_G) (h : Nat) (A : Nat → Prop) : ∀ q ∈ zl_27, zCell cl va h A q := List.forall_mem_cons.mpr ⟨z_27_0 cl va h A, List.forall_mem_cons.mpr ⟨z_27_1 cl va h A, fun _ w => absurd w List.not_mem_nil⟩⟩
theorem z_28_0 (cl : Nat → ClassId) (va : va_G) (h : Nat) (A : Nat → Prop) : zCell cl va h A (28, 0) := zC (k0 := .inl (8, [some (19, 0), some (0, 0), some (1, 0), some (26, 0), some (25, 0), some (27, 0), some (21, 0), some (22, 0), some (28, 1)])) rfl rfl ⟨rfl, rfl⟩
theorem z_28_1 (cl : Nat → ClassId) (va : va_G) (h : Nat) (A : Nat → Prop) : zCell cl va h A (28, 1) := zC (k0 := .inr (0, 4, wNr)) rfl rfl ⟨rfl, rfl, fun _ _ => rfl⟩
def zl_28 : List (Nat × Nat) := [(28, 0), (28, 1)]
theorem za_28 (cl : Nat → ClassId) (va : va_G) (h : Nat) (A : Nat → Prop) : ∀ q ∈ zl_28, zCell cl va h A q := List.forall_mem_cons.mpr ⟨z_28_0 cl va h A, List.forall_mem_cons.mpr ⟨z_28_1 cl va h A, fun _ w => absurd w List.not_mem_nil⟩⟩
def zl : List (Nat × Nat) := zl_0 ++ (zl_1 ++ (zl_2 ++ (zl_3 ++ (zl_4 ++ (zl_5 ++ (zl_6 ++ (zl_7 ++ (zl_8 ++ (zl_9 ++ (zl_10 ++ (zl_11 ++ (zl_12 ++ (zl_13 ++ (zl_14 ++ (zl_15 ++ (zl_16 ++ (zl_17 ++ (zl_18 ++ (zl_19 ++ (zl_20 ++ (zl_21 ++ (zl_22 ++ (zl_23 ++ (zl_24 ++ (zl_25 ++ (zl_26 ++ (zl_27 ++ (zl_28))))))))))))))))))))))))))))
theorem za (cl : Nat → ClassId) (va : va_G) (h : Nat) (A : Nat → Prop) : ∀ q ∈ zl, zCell cl va h A q := List.forall_mem_append.mpr ⟨za_0 cl va h A, List.forall_mem_append.mpr ⟨za_1 cl va h A, List.forall_mem_append.mpr ⟨za_2 cl va h A, List.forall_mem_append.mpr ⟨za_3 cl va h A, List.forall_mem_append.mpr ⟨za_4 cl va h A, List.forall_mem_append.mpr ⟨za_5 cl va h A, List.forall_mem_append.mpr ⟨za_6 cl va h A, List.forall_mem_append.mpr ⟨za_7 cl va h A, List.forall_mem_append.mpr ⟨za_8 cl va h A, List.forall_mem_append.mpr ⟨za_9 cl va h A, List.forall_mem_append.mpr ⟨za_10 cl va h A, List.forall_mem_append.mpr ⟨za_11 cl va h A, List.forall_mem_append.mpr ⟨za_12 cl va h A, List.forall_mem_append.mpr ⟨za_13 cl va h A, List.forall_mem_append.mpr ⟨za_14 cl va h A, List.forall_mem_append.mpr ⟨za_15 cl va h A, List.forall_mem_append.mpr ⟨za_16 cl va h A, List.forall_mem_append.mpr ⟨za_17 cl va h A, List.forall_mem_append.mpr ⟨za_18 cl va h A, List.forall_mem_append.mpr ⟨za_19 cl va h A, List.forall_mem_append.mpr ⟨za_20 cl va h A, List.forall_mem_append.mpr ⟨za_21 cl va h A, List.forall_mem_append.mpr ⟨za_22 cl va h A, List.forall_mem_append.mpr ⟨za_23 cl va h A, List.forall_mem_append.mpr ⟨za_24 cl va h A, List.forall_mem_append.mpr ⟨za_25 cl va h A, List.forall_mem_append.mpr ⟨za_26 cl va h A, List.forall_mem_append.mpr ⟨za_27 cl va h A, za_28 cl va h A⟩⟩⟩⟩⟩⟩⟩⟩⟩⟩⟩⟩⟩⟩⟩⟩⟩⟩⟩⟩⟩⟩⟩⟩⟩⟩⟩⟩
theorem z_mem0 : ((List.range 29).all fun o => (List.range 26).all fun j => !(wkd o j).isSome || decide ((o, j) ∈ zl)) = true := by decide +kernel
theorem z_mem (o : Nat) (ho : o < 29) (j : Nat) (hj : j < 26) (h : (wkd o j).isSome = true) : (o, j) ∈ zl := by
  have h1 := List.all_eq_true.mp z_mem0 o (List.mem_range.mpr ho)
  have h2 := List.all_eq_true.mp h1 j (List.mem_range.mpr hj)
  rw [h] at h2
  exact of_decide_eq_true h2
theorem z_off : ∀ q ∈ zl, off q.1 q.2 < 324 := by decide +kernel
theorem z_inj : ∀ q ∈ zl, ∀ r ∈ zl, off q.1 q.2 = off r.1 r.2 → q = r := by decide +kernel
theorem z_bd {o j : Nat} (h : (wkd o j).isSome = true) : o < 29 ∧ j < 26 := by
  unfold wkd at h
  split at h
  · refine ⟨by omega, ?_⟩
    rcases Nat.lt_or_ge j 14 with q | q
    · omega
    · obtain ⟨j', rfl⟩ : ∃ x, j = x + 14 := ⟨j - 14, by omega⟩
      exact absurd h (show ¬ (none : Option wKd).isSome = true by decide)
  · split at h
    · refine ⟨by omega, ?_⟩
      rcases Nat.lt_or_ge j 13 with q | q
      · omega
      · obtain ⟨j', rfl⟩ : ∃ x, j = x + 13 := ⟨j - 13, by omega⟩
        exact absurd h (show ¬ (none : Option wKd).isSome = true by decide)
    · split at h
      · refine ⟨by omega, ?_⟩
        rcases Nat.lt_or_ge j 7 with q | q
        · omega
        · obtain ⟨j', rfl⟩ : ∃ x, j = x + 7 := ⟨j - 7, by omega⟩
          exact absurd h (show ¬ (none : Option wKd).isSome = true by decide)
      · rcases Nat.lt_or_ge o 29 with q | q
        · refine ⟨q, ?_⟩
          rcases Nat.lt_or_ge j 26 with r | r
          · exact r
          · obtain ⟨j', rfl⟩ : ∃ x, j = x + 26 := ⟨j - 26, by omega⟩
            rcases (show o = 19 ∨ o = 20 ∨ o = 21 ∨ o = 22 ∨ o = 23 ∨ o = 24 ∨ o = 25 ∨ o = 26 ∨ o = 27 ∨ o = 28 by omega) with rfl | rfl | rfl | rfl | rfl | rfl | rfl | rfl | rfl | rfl <;> exact absurd h (show ¬ (none : Option wKd).isSome = true by decide)
        · obtain ⟨o', rfl⟩ : ∃ x, o = x + 29 := ⟨o - 29, by omega⟩
          exact absurd h (show ¬ (none : Option wKd).isSome = true by decide)
theorem oG_lay (cl : Nat → ClassId) (va : va_G) (h : Nat) (A : Nat → Prop) (hA : ∀ q, h ≤ q → q < h + 324 → A q) : wLay (oG cl va h A) := by
  refine ⟨fun o j o' j' h1 h2 h3 => ?_, fun o j h1 => hA _ (Nat.le_add_right h _) ?_⟩
  · have h3 : h + off o j = h + off o' j' := h3
    have b1 := z_bd h1
    have b2 := z_bd h2
    have := z_inj (o, j) (z_mem o b1.1 j b1.2 h1) (o', j') (z_mem o' b2.1 j' b2.2 h2) (by show off o j = off o' j'; omega)
    exact ⟨congrArg Prod.fst this, congrArg Prod.snd this⟩
  · have b1 := z_bd h1
    have := z_off (o, j) (z_mem o b1.1 j b1.2 h1)
    show h + off o j < h + 324
    have : off o j < 324 := this
    omega
theorem kCell.move {G G' : wG} {a : Nat} {H : Heap} {x : cC} (h : kCell G a H x) (e1 : G.1 = G'.1) (e2 : G.2.1 = G'.2.1) : kCell G' a H x := by
  cases x with
  | inl q =>
    obtain ⟨r, h1, h2⟩ := h
    rw [e2] at h2
    exact ⟨r, h1, h2⟩
  | inr q =>
    have h : H[a]? = some (arrV (G.1 q.1) q.2.1 q.2.2) := h
    rw [e1] at h
    exact h
theorem w_start {cl : Nat → ClassId} {va : va_G} {h : Nat} {A : Nat → Prop} {H : Heap} (hc : ∀ i, i < 324 → kCell (oG cl va h A) (h + i) H (T_X8_init h i)) : wW (oG cl va h A) M0 H := by
  intro o j k hk
  have hs : (wkd o j).isSome = true := by rw [hk]; rfl
  have b := z_bd hs
  have hm := z_mem o b.1 j b.2 hs
  exact (za cl va h A (o, j) hm k hk).to (hc (off o j) (z_off (o, j) hm))
