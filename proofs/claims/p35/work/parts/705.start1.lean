/-! what doesn't change, out of the tables' words and what is given of the start -/
theorem arr_kind {U : State} {c comp : ClassId} {k : Class} {ty : FieldType} (h1 : U.vm.classes[c]? = some k) (h2 : k.kind = .array comp ty) : ArrOfT U c ty := fun _ _ => ⟨fun _ q => (by cases q), k, h1, comp, h2⟩
theorem arr_class {A : Array Value} {U : State} {ty : FieldType} (h : (Cond.arrayClass ty).before A U = true) : ∃ c, U.vm.findClass ("[" ++ ty.toString) = some c ∧ ArrOfT U c ty := by
  obtain ⟨c, k, comp, h1, h2, h3⟩ := Cond.arrayClass_spec h
  exact ⟨c, h1, arr_kind h2 h3⟩
theorem arr_overA {A : Array Value} {U : State} {ty : FieldType} (h : (Cond.arrayOver (.array ty)).before A U = true) : ∃ c, U.vm.findClass ("[" ++ (FieldType.array ty).toString) = some c ∧ ArrOfT U c (.array ty) := by
  obtain ⟨comp, c, k, h1, h2, h3, h4⟩ := Cond.arrayOver_specA h
  exact ⟨c, h4, arr_kind h2 h3⟩
theorem arr_overO {A : Array Value} {U : State} {n : String} (h : (Cond.arrayOver (.object n)).before A U = true) : ∃ c, U.vm.findClass ("[" ++ (FieldType.object n).toString) = some c ∧ ArrOfT U c (.object n) := by
  obtain ⟨comp, c, k, h1, h2, h3, h4, h5⟩ := Cond.arrayOver_spec h
  exact ⟨c, h5, arr_kind h3 h4⟩
theorem arr_args {A A' : Array Value} {U : State} {ty : FieldType} (h : (Cond.arrayOver ty).before A U = true) : (Cond.arrayOver ty).before A' U = true := by
  simp only [Cond.before, Cond.holds, Cond.value] at h ⊢
  exact h
theorem str_ok {A : Array Value} {U : State} {own tx : String} {i : Nat} (h : (Cond.stringRef own i tx).before A U = true) : ∃ a : Nat, vk_R own i tx a U := by
  have h1 : (Cond.stringRef own i tx).before #[] U = true := by
    simp only [Cond.before, Cond.holds, Cond.value] at h ⊢
    exact h
  have hcur : ∃ cur, U.vm.findClass own = some cur := by
    have h2 := h1
    simp only [Cond.before, Cond.holds, Cond.value] at h2
    cases hc : U.vm.findClass own with
    | none => simp [hc] at h2
    | some cur => exact ⟨cur, rfl⟩
  obtain ⟨cur, hcur⟩ := hcur
  obtain ⟨k, cf, j, a, -, -, -, -, -, hev⟩ := Cond.stringRef_spec hcur h1
  exact ⟨a, h1, hev⟩
theorem seven {P : Nat → Prop} (h0 : P 0) (h1 : P 1) (h2 : P 2) (h3 : P 3) (h4 : P 4) (h5 : P 5) (h6 : P 6) : ∀ t, t < 7 → P t := fun t ht => by
  rcases (show t = 0 ∨ t = 1 ∨ t = 2 ∨ t = 3 ∨ t = 4 ∨ t = 5 ∨ t = 6 by omega) with rfl | rfl | rfl | rfl | rfl | rfl | rfl <;> assumption
theorem w_begin {s : State} {b : Nat} (hts : ∀ w ∈ lw_tbl, w.before #[Value.ref b] s = true) (hgv : (Jvm.Cond.and given_1 narrow_1).before #[Value.ref b] s = true) : ∃ (cl : Nat → ClassId) (va : va_G), (wSt (oG cl va s.heap.size (fun q => s.heap.size ≤ q)) s ∧ cN (oG cl va s.heap.size (fun q => s.heap.size ≤ q)) s) := by
  have hg : ∀ w ∈ GW, w.before #[Value.ref b] s = true := fun w hw => hts w (List.mem_filter.mp hw).1
  have ht1 : ∀ w ∈ tables_1, w.before #[Value.ref b] s = true := fun w hw => hts w (List.mem_append_right _ hw)
  have hf := flat_of_before _ hgv
  obtain ⟨c0, i0, k0⟩ := u_known (C := RX0) (T := TX0) (N := 3) (n := 3) hg inW0 (hg _ gw_169)
  obtain ⟨c1, i1, k1⟩ := u_known (C := RX1) (T := TX1) (N := 14) (n := 14) hg inW1 (hg _ gw_84)
  obtain ⟨c2, i2, k2⟩ := u_known (C := RX2) (T := TX2) (N := 2) (n := 2) hg inW2 (hg _ gw_240)
  obtain ⟨c3, i3, k3⟩ := u_known (C := RX3) (T := TX3) (N := 7) (n := 7) hg inW3 (hg _ gw_27)
  obtain ⟨c4, i4, k4⟩ := u_known (C := RX4) (T := TX4) (N := 6) (n := 6) hg inW4 (hg _ gw_254)
  obtain ⟨c5, i5, k5⟩ := u_known (C := RX5) (T := TX5) (N := 2) (n := 2) hg inW5 (hg _ gw_189)
  obtain ⟨c6, i6, k6⟩ := u_known (C := RX6) (T := TX6) (N := 2) (n := 2) hg inW6 (hg _ gw_260)
  obtain ⟨c7, i7, k7⟩ := u_known (C := RX7) (T := TX7) (N := 6) (n := 6) hg inW7 (hg _ gw_207)
  obtain ⟨c8, i8, k8⟩ := u_known (C := RX8) (T := TX8) (N := 9) (n := 9) hg inW8 (hg _ gw_19)
  obtain ⟨va, hva⟩ : ∃ va : va_G, ∀ (c : Nat) (q : vw_C), vwCl[c]? = some q → u_Kn s q.1 q.2.1 q.2.2 (va.1 c) (va.2 c) := by
    refine ⟨(fun k => match k with | 0 => c0 | 1 => c1 | 2 => c2 | 3 => c3 | 4 => c4 | 5 => c5 | 6 => c6 | 7 => c7 | _ => c8, fun k => match k with | 0 => i0 | 1 => i1 | 2 => i2 | 3 => i3 | 4 => i4 | 5 => i5 | 6 => i6 | 7 => i7 | _ => i8), ?_⟩
    intro k q hq
    match k, hq with
    | 0, hq => cases hq; exact k0
    | 1, hq => cases hq; exact k1
    | 2, hq => cases hq; exact k2
    | 3, hq => cases hq; exact k3
    | 4, hq => cases hq; exact k4
    | 5, hq => cases hq; exact k5
    | 6, hq => cases hq; exact k6
    | 7, hq => cases hq; exact k7
    | 8, hq => cases hq; exact k8
    | k + 9, hq => cases hq
  obtain ⟨a0, n0, q0⟩ := arr_class (ht1 (Cond.arrayClass FieldType.int) (by decide +kernel))
  obtain ⟨a1, n1, q1⟩ := arr_class (ht1 (Cond.arrayClass FieldType.long) (by decide +kernel))
  obtain ⟨a2, n2, q2⟩ := arr_class (ht1 (Cond.arrayClass FieldType.boolean) (by decide +kernel))
  obtain ⟨a3, n3, q3⟩ := arr_class (ht1 (Cond.arrayClass FieldType.char) (by decide +kernel))
  have o4 := ht1 (Cond.arrayOver (.array .int)) (by decide +kernel)
  have o5 := ht1 (Cond.arrayOver (.array .long)) (by decide +kernel)
  have o6 := ht1 (Cond.arrayOver (.object "StateObserver$Moment")) (by decide +kernel)
  obtain ⟨a4, n4, q4⟩ := arr_overA o4
  obtain ⟨a5, n5, q5⟩ := arr_overA o5
  obtain ⟨a6, n6, q6⟩ := arr_overO o6
  obtain ⟨cl, e0, e1, e2, e3, e4, e5, e6⟩ : ∃ cl : Nat → ClassId, cl 0 = a0 ∧ cl 1 = a1 ∧ cl 2 = a2 ∧ cl 3 = a3 ∧ cl 4 = a4 ∧ cl 5 = a5 ∧ cl 6 = a6 := ⟨fun k => match k with | 0 => a0 | 1 => a1 | 2 => a2 | 3 => a3 | 4 => a4 | 5 => a5 | _ => a6, rfl, rfl, rfl, rfl, rfl, rfl, rfl⟩
  have hA : ∀ a : Nat, a < s.heap.size → ¬ wA (oG cl va s.heap.size (fun q => s.heap.size ≤ q)) a := fun a ha hq => Nat.not_le.mpr ha hq
  refine ⟨cl, va, ⟨⟨hva, fun k q h => by simp at h⟩, ?_, ?_, ?_, ?_⟩, ?_, ?_, ?_⟩
  · show ∀ t, t < 7 → ArrOfT s (cl t) (wty t)
    exact seven (by rw [e0]; exact q0) (by rw [e1]; exact q1) (by rw [e2]; exact q2) (by rw [e3]; exact q3) (by rw [e4]; exact q4) (by rw [e5]; exact q5) (by rw [e6]; exact q6)
  · exact vx_Zqof (ht1 _ (by decide +kernel)) (ht1 (Cond.initialized Bundle.tN) (by decide +kernel)) (hf _ (by decide +kernel)) hA
  · exact vx_Zqof (ht1 _ (by decide +kernel)) (ht1 (Cond.initialized Bundle.tN) (by decide +kernel)) (hf _ (by decide +kernel)) hA
  · refine ⟨fun i tx hm => str_ok (ht1 _ hm), fun a i x h hm => va_Nw.of rfl (ht1 _ hm), fun C T hm => va_Nw.of rfl (ht1 _ hm), fun x hm => va_Nw.of rfl (ht1 _ hm), fun q hq => va_Nc.of (args := #[Value.ref b]) (hf (Cond.not (.castable q.1 q.2)) ?_)⟩
    revert q
    decide +kernel
  · show ∀ t, t < 7 → s.vm.findClass ("[" ++ (wty t).toString) = some (cl t)
    exact seven (by rw [e0]; exact n0) (by rw [e1]; exact n1) (by rw [e2]; exact n2) (by rw [e3]; exact n3) (by rw [e4]; exact n4) (by rw [e5]; exact n5) (by rw [e6]; exact n6)
  · exact va_AO.of o6
  · intro t ht
    rcases (show t = 0 ∨ t = 1 by omega) with rfl | rfl
    · exact arr_args o4
    · exact arr_args o5
