/-! kinds by their places; fields: by program (wip/whole/gen/world.py) -/
theorem kM_0 {o : Nat} (h : o < 19) : wkd o 0 = some (.inl (1, [some (o, 1), some (o, 2), some (o, 3), some (o, 4), some (o, 5), some (o, 10), some (o, 11), none, none, none, none, none, some (o, 12), some (o, 13)])) := by rw [wkd_m h]; rfl
theorem kM_1 {o : Nat} (h : o < 19) : wkd o 1 = some (.inr (0, 4, wNr)) := by rw [wkd_m h]; rfl
theorem kM_2 {o : Nat} (h : o < 19) : wkd o 2 = some (.inr (0, 4, wNr)) := by rw [wkd_m h]; rfl
theorem kM_3 {o : Nat} (h : o < 19) : wkd o 3 = some (.inr (0, 4, wNr)) := by rw [wkd_m h]; rfl
theorem kM_4 {o : Nat} (h : o < 19) : wkd o 4 = some (.inr (0, 4, wNr)) := by rw [wkd_m h]; rfl
theorem kM_5 {o : Nat} (h : o < 19) : wkd o 5 = some (.inr (4, 4, fun i => (o, 6 + i))) := by rw [wkd_m h]; rfl
theorem kM_6 {o : Nat} (h : o < 19) : wkd o 6 = some (.inr (0, 3, wNr)) := by rw [wkd_m h]; rfl
theorem kM_7 {o : Nat} (h : o < 19) : wkd o 7 = some (.inr (0, 3, wNr)) := by rw [wkd_m h]; rfl
theorem kM_8 {o : Nat} (h : o < 19) : wkd o 8 = some (.inr (0, 3, wNr)) := by rw [wkd_m h]; rfl
theorem kM_9 {o : Nat} (h : o < 19) : wkd o 9 = some (.inr (0, 3, wNr)) := by rw [wkd_m h]; rfl
theorem kM_10 {o : Nat} (h : o < 19) : wkd o 10 = some (.inr (0, 3, wNr)) := by rw [wkd_m h]; rfl
theorem kM_11 {o : Nat} (h : o < 19) : wkd o 11 = some (.inr (0, 3, wNr)) := by rw [wkd_m h]; rfl
theorem kM_12 {o : Nat} (h : o < 19) : wkd o 12 = some (.inr (0, 4, wNr)) := by rw [wkd_m h]; rfl
theorem kM_13 {o : Nat} (h : o < 19) : wkd o 13 = some (.inr (0, 4, wNr)) := by rw [wkd_m h]; rfl
theorem kP_0 {o : Nat} (h : o = 19 ∨ o = 20) : wkd o 0 = some (.inl (3, [none, none, some (o, 1), some (o, 6), some (o, 7), some (o, 8), some (o, 12)])) := by rw [wkd_p h]; rfl
theorem kP_1 {o : Nat} (h : o = 19 ∨ o = 20) : wkd o 1 = some (.inr (4, 4, fun i => (o, 2 + i))) := by rw [wkd_p h]; rfl
theorem kP_2 {o : Nat} (h : o = 19 ∨ o = 20) : wkd o 2 = some (.inr (0, 4, wNr)) := by rw [wkd_p h]; rfl
theorem kP_3 {o : Nat} (h : o = 19 ∨ o = 20) : wkd o 3 = some (.inr (0, 4, wNr)) := by rw [wkd_p h]; rfl
theorem kP_4 {o : Nat} (h : o = 19 ∨ o = 20) : wkd o 4 = some (.inr (0, 4, wNr)) := by rw [wkd_p h]; rfl
theorem kP_5 {o : Nat} (h : o = 19 ∨ o = 20) : wkd o 5 = some (.inr (0, 4, wNr)) := by rw [wkd_p h]; rfl
theorem kP_6 {o : Nat} (h : o = 19 ∨ o = 20) : wkd o 6 = some (.inr (0, 4, wNr)) := by rw [wkd_p h]; rfl
theorem kP_7 {o : Nat} (h : o = 19 ∨ o = 20) : wkd o 7 = some (.inr (0, 4, wNr)) := by rw [wkd_p h]; rfl
theorem kP_8 {o : Nat} (h : o = 19 ∨ o = 20) : wkd o 8 = some (.inr (4, 3, fun i => (o, 9 + i))) := by rw [wkd_p h]; rfl
theorem kP_9 {o : Nat} (h : o = 19 ∨ o = 20) : wkd o 9 = some (.inr (0, 4, wNr)) := by rw [wkd_p h]; rfl
theorem kP_10 {o : Nat} (h : o = 19 ∨ o = 20) : wkd o 10 = some (.inr (0, 4, wNr)) := by rw [wkd_p h]; rfl
theorem kP_11 {o : Nat} (h : o = 19 ∨ o = 20) : wkd o 11 = some (.inr (0, 4, wNr)) := by rw [wkd_p h]; rfl
theorem kP_12 {o : Nat} (h : o = 19 ∨ o = 20) : wkd o 12 = some (.inr (0, 3, wNr)) := by rw [wkd_p h]; rfl
theorem kS_0 {o : Nat} (h : o = 23 ∨ o = 24) : wkd o 0 = some (.inl (6, [some (o, 1), none])) := by rw [wkd_s h]; rfl
theorem kS_1 {o : Nat} (h : o = 23 ∨ o = 24) : wkd o 1 = some (.inr (5, 4, fun i => (o, 2 + i))) := by rw [wkd_s h]; rfl
theorem kS_2 {o : Nat} (h : o = 23 ∨ o = 24) : wkd o 2 = some (.inr (1, 4, wNr)) := by rw [wkd_s h]; rfl
theorem kS_3 {o : Nat} (h : o = 23 ∨ o = 24) : wkd o 3 = some (.inr (1, 4, wNr)) := by rw [wkd_s h]; rfl
theorem kS_4 {o : Nat} (h : o = 23 ∨ o = 24) : wkd o 4 = some (.inr (1, 4, wNr)) := by rw [wkd_s h]; rfl
theorem kS_5 {o : Nat} (h : o = 23 ∨ o = 24) : wkd o 5 = some (.inr (1, 4, wNr)) := by rw [wkd_s h]; rfl
theorem kM_g {o i : Nat} (h : o < 19) (hi : i < 4) : wkd o (6 + i) = some (.inr (0, 3, wNr)) := by
  rw [wkd_m h]
  rcases (show i = 0 ∨ i = 1 ∨ i = 2 ∨ i = 3 by omega) with rfl | rfl | rfl | rfl <;> rfl
theorem kP_a {o i : Nat} (h : o = 19 ∨ o = 20) (hi : i < 4) : wkd o (2 + i) = some (.inr (0, 4, wNr)) := by
  rw [wkd_p h]
  rcases (show i = 0 ∨ i = 1 ∨ i = 2 ∨ i = 3 by omega) with rfl | rfl | rfl | rfl <;> rfl
theorem kP_c {o i : Nat} (h : o = 19 ∨ o = 20) (hi : i < 3) : wkd o (9 + i) = some (.inr (0, 4, wNr)) := by
  rw [wkd_p h]
  rcases (show i = 0 ∨ i = 1 ∨ i = 2 by omega) with rfl | rfl | rfl <;> rfl
theorem kS_r {o i : Nat} (h : o = 23 ∨ o = 24) (hi : i < 4) : wkd o (2 + i) = some (.inr (1, 4, wNr)) := by
  rw [wkd_s h]
  rcases (show i = 0 ∨ i = 1 ∨ i = 2 ∨ i = 3 by omega) with rfl | rfl | rfl | rfl <;> rfl
theorem k22_b {i : Nat} (hi : i < 3) : wkd 22 (2 + i) = some (.inr (1, 4, wNr)) := by
  rcases (show i = 0 ∨ i = 1 ∨ i = 2 by omega) with rfl | rfl | rfl <;> rfl
theorem k21_0 : wkd 21 0 = some (.inl (2, [some (21, 1), some (21, 2)])) := rfl
theorem k21_1 : wkd 21 1 = some (.inr (0, 4, wNr)) := rfl
theorem k21_2 : wkd 21 2 = some (.inr (1, 3, wNr)) := rfl
theorem k22_0 : wkd 22 0 = some (.inl (4, [some (23, 0), some (24, 0), some (22, 1), some (22, 5), some (22, 6), some (22, 7)])) := rfl
theorem k22_1 : wkd 22 1 = some (.inr (5, 3, fun i => (22, 2 + i))) := rfl
theorem k22_2 : wkd 22 2 = some (.inr (1, 4, wNr)) := rfl
theorem k22_3 : wkd 22 3 = some (.inr (1, 4, wNr)) := rfl
theorem k22_4 : wkd 22 4 = some (.inr (1, 4, wNr)) := rfl
theorem k22_5 : wkd 22 5 = some (.inr (1, 4, wNr)) := rfl
theorem k22_6 : wkd 22 6 = some (.inr (1, 4, wNr)) := rfl
theorem k22_7 : wkd 22 7 = some (.inr (1, 4, wNr)) := rfl
theorem k25_0 : wkd 25 0 = some (.inl (5, [some (25, 1), some (25, 2)])) := rfl
theorem k25_1 : wkd 25 1 = some (.inr (6, 2, fun i => (3 + i, 0))) := rfl
theorem k25_2 : wkd 25 2 = some (.inr (2, 2, wNr)) := rfl
theorem k26_0 : wkd 26 0 = some (.inl (0, [some (26, 1), none, none])) := rfl
theorem k26_1 : wkd 26 1 = some (.inr (6, 14, fun i => (5 + i, 0))) := rfl
theorem k27_0 : wkd 27 0 = some (.inl (7, [some (27, 1), none, some (20, 0), some (2, 0), none, none])) := rfl
theorem k27_1 : wkd 27 1 = some (.inr (3, 200, wNr)) := rfl
theorem k28_0 : wkd 28 0 = some (.inl (8, [some (19, 0), some (0, 0), some (1, 0), some (26, 0), some (25, 0), some (27, 0), some (21, 0), some (22, 0), some (28, 1)])) := rfl
theorem k28_1 : wkd 28 1 = some (.inr (0, 4, wNr)) := rfl
theorem inW0 : ∀ w ∈ u_ws RX0 TX0 3, w ∈ GW := by
  intro w hw
  obtain ⟨i, hi, rfl⟩ := List.mem_map.mp hw
  have h := List.mem_range.mp hi
  rcases (show i = 0 ∨ i = 1 ∨ i = 2 by omega) with rfl | rfl | rfl
  · exact gw_181
  · exact gw_183
  · exact gw_185
theorem inW1 : ∀ w ∈ u_ws RX1 TX1 14, w ∈ GW := by
  intro w hw
  obtain ⟨i, hi, rfl⟩ := List.mem_map.mp hw
  have h := List.mem_range.mp hi
  rcases (show i = 0 ∨ i = 1 ∨ i = 2 ∨ i = 3 ∨ i = 4 ∨ i = 5 ∨ i = 6 ∨ i = 7 ∨ i = 8 ∨ i = 9 ∨ i = 10 ∨ i = 11 ∨ i = 12 ∨ i = 13 by omega) with rfl | rfl | rfl | rfl | rfl | rfl | rfl | rfl | rfl | rfl | rfl | rfl | rfl | rfl
  · exact gw_139
  · exact gw_141
  · exact gw_143
  · exact gw_145
  · exact gw_147
  · exact gw_149
  · exact gw_151
  · exact gw_153
  · exact gw_155
  · exact gw_157
  · exact gw_159
  · exact gw_161
  · exact gw_163
  · exact gw_165
theorem inW2 : ∀ w ∈ u_ws RX2 TX2 2, w ∈ GW := by
  intro w hw
  obtain ⟨i, hi, rfl⟩ := List.mem_map.mp hw
  have h := List.mem_range.mp hi
  rcases (show i = 0 ∨ i = 1 by omega) with rfl | rfl
  · exact gw_247
  · exact gw_249
theorem inW3 : ∀ w ∈ u_ws RX3 TX3 7, w ∈ GW := by
  intro w hw
  obtain ⟨i, hi, rfl⟩ := List.mem_map.mp hw
  have h := List.mem_range.mp hi
  rcases (show i = 0 ∨ i = 1 ∨ i = 2 ∨ i = 3 ∨ i = 4 ∨ i = 5 ∨ i = 6 by omega) with rfl | rfl | rfl | rfl | rfl | rfl | rfl
  · exact gw_67
  · exact gw_69
  · exact gw_71
  · exact gw_73
  · exact gw_75
  · exact gw_77
  · exact gw_79
theorem inW4 : ∀ w ∈ u_ws RX4 TX4 6, w ∈ GW := by
  intro w hw
  obtain ⟨i, hi, rfl⟩ := List.mem_map.mp hw
  have h := List.mem_range.mp hi
  rcases (show i = 0 ∨ i = 1 ∨ i = 2 ∨ i = 3 ∨ i = 4 ∨ i = 5 by omega) with rfl | rfl | rfl | rfl | rfl | rfl
  · exact gw_283
  · exact gw_285
  · exact gw_287
  · exact gw_289
  · exact gw_291
  · exact gw_293
theorem inW5 : ∀ w ∈ u_ws RX5 TX5 2, w ∈ GW := by
  intro w hw
  obtain ⟨i, hi, rfl⟩ := List.mem_map.mp hw
  have h := List.mem_range.mp hi
  rcases (show i = 0 ∨ i = 1 by omega) with rfl | rfl
  · exact gw_200
  · exact gw_202
theorem inW6 : ∀ w ∈ u_ws RX6 TX6 2, w ∈ GW := by
  intro w hw
  obtain ⟨i, hi, rfl⟩ := List.mem_map.mp hw
  have h := List.mem_range.mp hi
  rcases (show i = 0 ∨ i = 1 by omega) with rfl | rfl
  · exact gw_271
  · exact gw_273
theorem inW7 : ∀ w ∈ u_ws RX7 TX7 6, w ∈ GW := by
  intro w hw
  obtain ⟨i, hi, rfl⟩ := List.mem_map.mp hw
  have h := List.mem_range.mp hi
  rcases (show i = 0 ∨ i = 1 ∨ i = 2 ∨ i = 3 ∨ i = 4 ∨ i = 5 by omega) with rfl | rfl | rfl | rfl | rfl | rfl
  · exact gw_225
  · exact gw_227
  · exact gw_229
  · exact gw_231
  · exact gw_233
  · exact gw_235
theorem inW8 : ∀ w ∈ u_ws RX8 TX8 9, w ∈ GW := by
  intro w hw
  obtain ⟨i, hi, rfl⟩ := List.mem_map.mp hw
  have h := List.mem_range.mp hi
  rcases (show i = 0 ∨ i = 1 ∨ i = 2 ∨ i = 3 ∨ i = 4 ∨ i = 5 ∨ i = 6 ∨ i = 7 ∨ i = 8 by omega) with rfl | rfl | rfl | rfl | rfl | rfl | rfl | rfl | rfl
  · exact gw_305
  · exact gw_307
  · exact gw_309
  · exact gw_311
  · exact gw_313
  · exact gw_315
  · exact gw_317
  · exact gw_319
  · exact gw_321
section WF
variable {p : Program} {l : Launch} {e : Env} {R : Room} {s : State} {m : MethodId} {args : Array Value} {below : List Frame} {meth : Method} {c : Code} {k n : Nat} {Q : State → Prop} {G : wG} {M : wM} {nL : Nat} {own : String} {cc : ByteArray} {pc pc' : Nat} {lc : List (Nat × Value)} {st : List Value}
theorem gf_M_truth (X : wX p s m args meth c G nL own cc) {o index : Nat} (ho : o < 19) (hlink : Cond.fieldLink own index "StateObserver$Moment" "truth" "[I" ∈ GW) (hd : decode cc pc = .ok (.getfield index, 3)) (hp : pc + 3 = pc') (kk : wV p l e R s m args below meth c G nL M k n Q pc' lc (vR G (o, 1) :: st)) : wV p l e R s m args below meth c G nL M k n Q pc lc (vR G (o, 0) :: st) := r_getf (C := RX1) (T := TX1) (N := 14) (q := 0) (v := vR G (o, 1)) X (kM_0 ho) rfl (by decide) inW1 rfl rfl hlink hd hp kk
theorem gf_M_lower (X : wX p s m args meth c G nL own cc) {o index : Nat} (ho : o < 19) (hlink : Cond.fieldLink own index "StateObserver$Moment" "lower" "[I" ∈ GW) (hd : decode cc pc = .ok (.getfield index, 3)) (hp : pc + 3 = pc') (kk : wV p l e R s m args below meth c G nL M k n Q pc' lc (vR G (o, 2) :: st)) : wV p l e R s m args below meth c G nL M k n Q pc lc (vR G (o, 0) :: st) := r_getf (C := RX1) (T := TX1) (N := 14) (q := 1) (v := vR G (o, 2)) X (kM_0 ho) rfl (by decide) inW1 rfl rfl hlink hd hp kk
theorem gf_M_upper (X : wX p s m args meth c G nL own cc) {o index : Nat} (ho : o < 19) (hlink : Cond.fieldLink own index "StateObserver$Moment" "upper" "[I" ∈ GW) (hd : decode cc pc = .ok (.getfield index, 3)) (hp : pc + 3 = pc') (kk : wV p l e R s m args below meth c G nL M k n Q pc' lc (vR G (o, 3) :: st)) : wV p l e R s m args below meth c G nL M k n Q pc lc (vR G (o, 0) :: st) := r_getf (C := RX1) (T := TX1) (N := 14) (q := 2) (v := vR G (o, 3)) X (kM_0 ho) rfl (by decide) inW1 rfl rfl hlink hd hp kk
theorem gf_M_estimate (X : wX p s m args meth c G nL own cc) {o index : Nat} (ho : o < 19) (hlink : Cond.fieldLink own index "StateObserver$Moment" "estimate" "[I" ∈ GW) (hd : decode cc pc = .ok (.getfield index, 3)) (hp : pc + 3 = pc') (kk : wV p l e R s m args below meth c G nL M k n Q pc' lc (vR G (o, 4) :: st)) : wV p l e R s m args below meth c G nL M k n Q pc lc (vR G (o, 0) :: st) := r_getf (C := RX1) (T := TX1) (N := 14) (q := 3) (v := vR G (o, 4)) X (kM_0 ho) rfl (by decide) inW1 rfl rfl hlink hd hp kk
theorem gf_M_gain (X : wX p s m args meth c G nL own cc) {o index : Nat} (ho : o < 19) (hlink : Cond.fieldLink own index "StateObserver$Moment" "gain" "[[I" ∈ GW) (hd : decode cc pc = .ok (.getfield index, 3)) (hp : pc + 3 = pc') (kk : wV p l e R s m args below meth c G nL M k n Q pc' lc (vR G (o, 5) :: st)) : wV p l e R s m args below meth c G nL M k n Q pc lc (vR G (o, 0) :: st) := r_getf (C := RX1) (T := TX1) (N := 14) (q := 4) (v := vR G (o, 5)) X (kM_0 ho) rfl (by decide) inW1 rfl rfl hlink hd hp kk
theorem gf_M_reading (X : wX p s m args meth c G nL own cc) {o index : Nat} (ho : o < 19) (hlink : Cond.fieldLink own index "StateObserver$Moment" "reading" "[I" ∈ GW) (hd : decode cc pc = .ok (.getfield index, 3)) (hp : pc + 3 = pc') (kk : wV p l e R s m args below meth c G nL M k n Q pc' lc (vR G (o, 10) :: st)) : wV p l e R s m args below meth c G nL M k n Q pc lc (vR G (o, 0) :: st) := r_getf (C := RX1) (T := TX1) (N := 14) (q := 5) (v := vR G (o, 10)) X (kM_0 ho) rfl (by decide) inW1 rfl rfl hlink hd hp kk
theorem gf_M_age (X : wX p s m args meth c G nL own cc) {o index : Nat} (ho : o < 19) (hlink : Cond.fieldLink own index "StateObserver$Moment" "age" "[I" ∈ GW) (hd : decode cc pc = .ok (.getfield index, 3)) (hp : pc + 3 = pc') (kk : wV p l e R s m args below meth c G nL M k n Q pc' lc (vR G (o, 11) :: st)) : wV p l e R s m args below meth c G nL M k n Q pc lc (vR G (o, 0) :: st) := r_getf (C := RX1) (T := TX1) (N := 14) (q := 6) (v := vR G (o, 11)) X (kM_0 ho) rfl (by decide) inW1 rfl rfl hlink hd hp kk
theorem gf_M_hold (X : wX p s m args meth c G nL own cc) {o index : Nat} (ho : o < 19) (hlink : Cond.fieldLink own index "StateObserver$Moment" "hold" "I" ∈ GW) (hd : decode cc pc = .ok (.getfield index, 3)) (hp : pc + 3 = pc') (kk : wV p l e R s m args below meth c G nL M k n Q pc' lc (vI (M o 0 7) :: st)) : wV p l e R s m args below meth c G nL M k n Q pc lc (vR G (o, 0) :: st) := r_getf (C := RX1) (T := TX1) (N := 14) (q := 7) (v := vI (M o 0 7)) X (kM_0 ho) rfl (by decide) inW1 rfl rfl hlink hd hp kk
theorem pf_M_hold (X : wX p s m args meth c G nL own cc) {o index : Nat} {z : Int} (ho : o < 19) (hlink : Cond.fieldLink own index "StateObserver$Moment" "hold" "I" ∈ GW) (hd : decode cc pc = .ok (.putfield index, 3)) (hp : pc + 3 = pc') (kk : ∀ M1 : wM, M1 = wu M o 0 7 z → wV p l e R s m args below meth c G nL M1 k n Q pc' lc (st)) : wV p l e R s m args below meth c G nL M k n Q pc lc (vI z :: vR G (o, 0) :: st) := r_putf (C := RX1) (T := TX1) (N := 14) (q := 7) X tyX1 tyX1_ok nmX1 (kM_0 ho) rfl (by decide) inW1 rfl rfl rfl rfl rfl hlink hd hp kk
theorem gf_M_bound (X : wX p s m args meth c G nL own cc) {o index : Nat} (ho : o < 19) (hlink : Cond.fieldLink own index "StateObserver$Moment" "bound" "I" ∈ GW) (hd : decode cc pc = .ok (.getfield index, 3)) (hp : pc + 3 = pc') (kk : wV p l e R s m args below meth c G nL M k n Q pc' lc (vI (M o 0 8) :: st)) : wV p l e R s m args below meth c G nL M k n Q pc lc (vR G (o, 0) :: st) := r_getf (C := RX1) (T := TX1) (N := 14) (q := 8) (v := vI (M o 0 8)) X (kM_0 ho) rfl (by decide) inW1 rfl rfl hlink hd hp kk
theorem pf_M_bound (X : wX p s m args meth c G nL own cc) {o index : Nat} {z : Int} (ho : o < 19) (hlink : Cond.fieldLink own index "StateObserver$Moment" "bound" "I" ∈ GW) (hd : decode cc pc = .ok (.putfield index, 3)) (hp : pc + 3 = pc') (kk : ∀ M1 : wM, M1 = wu M o 0 8 z → wV p l e R s m args below meth c G nL M1 k n Q pc' lc (st)) : wV p l e R s m args below meth c G nL M k n Q pc lc (vI z :: vR G (o, 0) :: st) := r_putf (C := RX1) (T := TX1) (N := 14) (q := 8) X tyX1 tyX1_ok nmX1 (kM_0 ho) rfl (by decide) inW1 rfl rfl rfl rfl rfl hlink hd hp kk
theorem gf_M_time (X : wX p s m args meth c G nL own cc) {o index : Nat} (ho : o < 19) (hlink : Cond.fieldLink own index "StateObserver$Moment" "time" "I" ∈ GW) (hd : decode cc pc = .ok (.getfield index, 3)) (hp : pc + 3 = pc') (kk : wV p l e R s m args below meth c G nL M k n Q pc' lc (vI (M o 0 9) :: st)) : wV p l e R s m args below meth c G nL M k n Q pc lc (vR G (o, 0) :: st) := r_getf (C := RX1) (T := TX1) (N := 14) (q := 9) (v := vI (M o 0 9)) X (kM_0 ho) rfl (by decide) inW1 rfl rfl hlink hd hp kk
theorem pf_M_time (X : wX p s m args meth c G nL own cc) {o index : Nat} {z : Int} (ho : o < 19) (hlink : Cond.fieldLink own index "StateObserver$Moment" "time" "I" ∈ GW) (hd : decode cc pc = .ok (.putfield index, 3)) (hp : pc + 3 = pc') (kk : ∀ M1 : wM, M1 = wu M o 0 9 z → wV p l e R s m args below meth c G nL M1 k n Q pc' lc (st)) : wV p l e R s m args below meth c G nL M k n Q pc lc (vI z :: vR G (o, 0) :: st) := r_putf (C := RX1) (T := TX1) (N := 14) (q := 9) X tyX1 tyX1_ok nmX1 (kM_0 ho) rfl (by decide) inW1 rfl rfl rfl rfl rfl hlink hd hp kk
theorem gf_M_lastInput (X : wX p s m args meth c G nL own cc) {o index : Nat} (ho : o < 19) (hlink : Cond.fieldLink own index "StateObserver$Moment" "lastInput" "I" ∈ GW) (hd : decode cc pc = .ok (.getfield index, 3)) (hp : pc + 3 = pc') (kk : wV p l e R s m args below meth c G nL M k n Q pc' lc (vI (M o 0 10) :: st)) : wV p l e R s m args below meth c G nL M k n Q pc lc (vR G (o, 0) :: st) := r_getf (C := RX1) (T := TX1) (N := 14) (q := 10) (v := vI (M o 0 10)) X (kM_0 ho) rfl (by decide) inW1 rfl rfl hlink hd hp kk
theorem pf_M_lastInput (X : wX p s m args meth c G nL own cc) {o index : Nat} {z : Int} (ho : o < 19) (hlink : Cond.fieldLink own index "StateObserver$Moment" "lastInput" "I" ∈ GW) (hd : decode cc pc = .ok (.putfield index, 3)) (hp : pc + 3 = pc') (kk : ∀ M1 : wM, M1 = wu M o 0 10 z → wV p l e R s m args below meth c G nL M1 k n Q pc' lc (st)) : wV p l e R s m args below meth c G nL M k n Q pc lc (vI z :: vR G (o, 0) :: st) := r_putf (C := RX1) (T := TX1) (N := 14) (q := 10) X tyX1 tyX1_ok nmX1 (kM_0 ho) rfl (by decide) inW1 rfl rfl rfl rfl rfl hlink hd hp kk
theorem gf_M_lastBound (X : wX p s m args meth c G nL own cc) {o index : Nat} (ho : o < 19) (hlink : Cond.fieldLink own index "StateObserver$Moment" "lastBound" "I" ∈ GW) (hd : decode cc pc = .ok (.getfield index, 3)) (hp : pc + 3 = pc') (kk : wV p l e R s m args below meth c G nL M k n Q pc' lc (vI (M o 0 11) :: st)) : wV p l e R s m args below meth c G nL M k n Q pc lc (vR G (o, 0) :: st) := r_getf (C := RX1) (T := TX1) (N := 14) (q := 11) (v := vI (M o 0 11)) X (kM_0 ho) rfl (by decide) inW1 rfl rfl hlink hd hp kk
theorem pf_M_lastBound (X : wX p s m args meth c G nL own cc) {o index : Nat} {z : Int} (ho : o < 19) (hlink : Cond.fieldLink own index "StateObserver$Moment" "lastBound" "I" ∈ GW) (hd : decode cc pc = .ok (.putfield index, 3)) (hp : pc + 3 = pc') (kk : ∀ M1 : wM, M1 = wu M o 0 11 z → wV p l e R s m args below meth c G nL M1 k n Q pc' lc (st)) : wV p l e R s m args below meth c G nL M k n Q pc lc (vI z :: vR G (o, 0) :: st) := r_putf (C := RX1) (T := TX1) (N := 14) (q := 11) X tyX1 tyX1_ok nmX1 (kM_0 ho) rfl (by decide) inW1 rfl rfl rfl rfl rfl hlink hd hp kk
theorem gf_M_lastLow (X : wX p s m args meth c G nL own cc) {o index : Nat} (ho : o < 19) (hlink : Cond.fieldLink own index "StateObserver$Moment" "lastLow" "[I" ∈ GW) (hd : decode cc pc = .ok (.getfield index, 3)) (hp : pc + 3 = pc') (kk : wV p l e R s m args below meth c G nL M k n Q pc' lc (vR G (o, 12) :: st)) : wV p l e R s m args below meth c G nL M k n Q pc lc (vR G (o, 0) :: st) := r_getf (C := RX1) (T := TX1) (N := 14) (q := 12) (v := vR G (o, 12)) X (kM_0 ho) rfl (by decide) inW1 rfl rfl hlink hd hp kk
theorem gf_M_lastHigh (X : wX p s m args meth c G nL own cc) {o index : Nat} (ho : o < 19) (hlink : Cond.fieldLink own index "StateObserver$Moment" "lastHigh" "[I" ∈ GW) (hd : decode cc pc = .ok (.getfield index, 3)) (hp : pc + 3 = pc') (kk : wV p l e R s m args below meth c G nL M k n Q pc' lc (vR G (o, 13) :: st)) : wV p l e R s m args below meth c G nL M k n Q pc lc (vR G (o, 0) :: st) := r_getf (C := RX1) (T := TX1) (N := 14) (q := 13) (v := vR G (o, 13)) X (kM_0 ho) rfl (by decide) inW1 rfl rfl hlink hd hp kk
theorem gf_P_n (X : wX p s m args meth c G nL own cc) {o index : Nat} (ho : o = 19 ∨ o = 20) (hlink : Cond.fieldLink own index "StateObserver$Plant" "n" "I" ∈ GW) (hd : decode cc pc = .ok (.getfield index, 3)) (hp : pc + 3 = pc') (kk : wV p l e R s m args below meth c G nL M k n Q pc' lc (vI (M o 0 0) :: st)) : wV p l e R s m args below meth c G nL M k n Q pc lc (vR G (o, 0) :: st) := r_getf (C := RX3) (T := TX3) (N := 7) (q := 0) (v := vI (M o 0 0)) X (kP_0 ho) rfl (by decide) inW3 rfl rfl hlink hd hp kk
theorem pf_P_n (X : wX p s m args meth c G nL own cc) {o index : Nat} {z : Int} (ho : o = 19 ∨ o = 20) (hlink : Cond.fieldLink own index "StateObserver$Plant" "n" "I" ∈ GW) (hd : decode cc pc = .ok (.putfield index, 3)) (hp : pc + 3 = pc') (kk : ∀ M1 : wM, M1 = wu M o 0 0 z → wV p l e R s m args below meth c G nL M1 k n Q pc' lc (st)) : wV p l e R s m args below meth c G nL M k n Q pc lc (vI z :: vR G (o, 0) :: st) := r_putf (C := RX3) (T := TX3) (N := 7) (q := 0) X tyX3 tyX3_ok nmX3 (kP_0 ho) rfl (by decide) inW3 rfl rfl rfl rfl rfl hlink hd hp kk
theorem gf_P_p (X : wX p s m args meth c G nL own cc) {o index : Nat} (ho : o = 19 ∨ o = 20) (hlink : Cond.fieldLink own index "StateObserver$Plant" "p" "I" ∈ GW) (hd : decode cc pc = .ok (.getfield index, 3)) (hp : pc + 3 = pc') (kk : wV p l e R s m args below meth c G nL M k n Q pc' lc (vI (M o 0 1) :: st)) : wV p l e R s m args below meth c G nL M k n Q pc lc (vR G (o, 0) :: st) := r_getf (C := RX3) (T := TX3) (N := 7) (q := 1) (v := vI (M o 0 1)) X (kP_0 ho) rfl (by decide) inW3 rfl rfl hlink hd hp kk
theorem pf_P_p (X : wX p s m args meth c G nL own cc) {o index : Nat} {z : Int} (ho : o = 19 ∨ o = 20) (hlink : Cond.fieldLink own index "StateObserver$Plant" "p" "I" ∈ GW) (hd : decode cc pc = .ok (.putfield index, 3)) (hp : pc + 3 = pc') (kk : ∀ M1 : wM, M1 = wu M o 0 1 z → wV p l e R s m args below meth c G nL M1 k n Q pc' lc (st)) : wV p l e R s m args below meth c G nL M k n Q pc lc (vI z :: vR G (o, 0) :: st) := r_putf (C := RX3) (T := TX3) (N := 7) (q := 1) X tyX3 tyX3_ok nmX3 (kP_0 ho) rfl (by decide) inW3 rfl rfl rfl rfl rfl hlink hd hp kk
theorem gf_P_a (X : wX p s m args meth c G nL own cc) {o index : Nat} (ho : o = 19 ∨ o = 20) (hlink : Cond.fieldLink own index "StateObserver$Plant" "a" "[[I" ∈ GW) (hd : decode cc pc = .ok (.getfield index, 3)) (hp : pc + 3 = pc') (kk : wV p l e R s m args below meth c G nL M k n Q pc' lc (vR G (o, 1) :: st)) : wV p l e R s m args below meth c G nL M k n Q pc lc (vR G (o, 0) :: st) := r_getf (C := RX3) (T := TX3) (N := 7) (q := 2) (v := vR G (o, 1)) X (kP_0 ho) rfl (by decide) inW3 rfl rfl hlink hd hp kk
theorem gf_P_b (X : wX p s m args meth c G nL own cc) {o index : Nat} (ho : o = 19 ∨ o = 20) (hlink : Cond.fieldLink own index "StateObserver$Plant" "b" "[I" ∈ GW) (hd : decode cc pc = .ok (.getfield index, 3)) (hp : pc + 3 = pc') (kk : wV p l e R s m args below meth c G nL M k n Q pc' lc (vR G (o, 6) :: st)) : wV p l e R s m args below meth c G nL M k n Q pc lc (vR G (o, 0) :: st) := r_getf (C := RX3) (T := TX3) (N := 7) (q := 3) (v := vR G (o, 6)) X (kP_0 ho) rfl (by decide) inW3 rfl rfl hlink hd hp kk
theorem gf_P_e (X : wX p s m args meth c G nL own cc) {o index : Nat} (ho : o = 19 ∨ o = 20) (hlink : Cond.fieldLink own index "StateObserver$Plant" "e" "[I" ∈ GW) (hd : decode cc pc = .ok (.getfield index, 3)) (hp : pc + 3 = pc') (kk : wV p l e R s m args below meth c G nL M k n Q pc' lc (vR G (o, 7) :: st)) : wV p l e R s m args below meth c G nL M k n Q pc lc (vR G (o, 0) :: st) := r_getf (C := RX3) (T := TX3) (N := 7) (q := 4) (v := vR G (o, 7)) X (kP_0 ho) rfl (by decide) inW3 rfl rfl hlink hd hp kk
theorem gf_P_c (X : wX p s m args meth c G nL own cc) {o index : Nat} (ho : o = 19 ∨ o = 20) (hlink : Cond.fieldLink own index "StateObserver$Plant" "c" "[[I" ∈ GW) (hd : decode cc pc = .ok (.getfield index, 3)) (hp : pc + 3 = pc') (kk : wV p l e R s m args below meth c G nL M k n Q pc' lc (vR G (o, 8) :: st)) : wV p l e R s m args below meth c G nL M k n Q pc lc (vR G (o, 0) :: st) := r_getf (C := RX3) (T := TX3) (N := 7) (q := 5) (v := vR G (o, 8)) X (kP_0 ho) rfl (by decide) inW3 rfl rfl hlink hd hp kk
theorem gf_P_quantum (X : wX p s m args meth c G nL own cc) {o index : Nat} (ho : o = 19 ∨ o = 20) (hlink : Cond.fieldLink own index "StateObserver$Plant" "quantum" "[I" ∈ GW) (hd : decode cc pc = .ok (.getfield index, 3)) (hp : pc + 3 = pc') (kk : wV p l e R s m args below meth c G nL M k n Q pc' lc (vR G (o, 12) :: st)) : wV p l e R s m args below meth c G nL M k n Q pc lc (vR G (o, 0) :: st) := r_getf (C := RX3) (T := TX3) (N := 7) (q := 6) (v := vR G (o, 12)) X (kP_0 ho) rfl (by decide) inW3 rfl rfl hlink hd hp kk
theorem gf_S_rows (X : wX p s m args meth c G nL own cc) {o index : Nat} (ho : o = 23 ∨ o = 24) (hlink : Cond.fieldLink own index "StateObserver$Space" "rows" "[[J" ∈ GW) (hd : decode cc pc = .ok (.getfield index, 3)) (hp : pc + 3 = pc') (kk : wV p l e R s m args below meth c G nL M k n Q pc' lc (vR G (o, 1) :: st)) : wV p l e R s m args below meth c G nL M k n Q pc lc (vR G (o, 0) :: st) := r_getf (C := RX6) (T := TX6) (N := 2) (q := 0) (v := vR G (o, 1)) X (kS_0 ho) rfl (by decide) inW6 rfl rfl hlink hd hp kk
theorem gf_S_rank (X : wX p s m args meth c G nL own cc) {o index : Nat} (ho : o = 23 ∨ o = 24) (hlink : Cond.fieldLink own index "StateObserver$Space" "rank" "I" ∈ GW) (hd : decode cc pc = .ok (.getfield index, 3)) (hp : pc + 3 = pc') (kk : wV p l e R s m args below meth c G nL M k n Q pc' lc (vI (M o 0 1) :: st)) : wV p l e R s m args below meth c G nL M k n Q pc lc (vR G (o, 0) :: st) := r_getf (C := RX6) (T := TX6) (N := 2) (q := 1) (v := vI (M o 0 1)) X (kS_0 ho) rfl (by decide) inW6 rfl rfl hlink hd hp kk
theorem pf_S_rank (X : wX p s m args meth c G nL own cc) {o index : Nat} {z : Int} (ho : o = 23 ∨ o = 24) (hlink : Cond.fieldLink own index "StateObserver$Space" "rank" "I" ∈ GW) (hd : decode cc pc = .ok (.putfield index, 3)) (hp : pc + 3 = pc') (kk : ∀ M1 : wM, M1 = wu M o 0 1 z → wV p l e R s m args below meth c G nL M1 k n Q pc' lc (st)) : wV p l e R s m args below meth c G nL M k n Q pc lc (vI z :: vR G (o, 0) :: st) := r_putf (C := RX6) (T := TX6) (N := 2) (q := 1) X tyX6 tyX6_ok nmX6 (kS_0 ho) rfl (by decide) inW6 rfl rfl rfl rfl rfl hlink hd hp kk
theorem gf_21_nextValue (X : wX p s m args meth c G nL own cc) {index : Nat} (hlink : Cond.fieldLink own index "StateObserver$Motion" "nextValue" "[I" ∈ GW) (hd : decode cc pc = .ok (.getfield index, 3)) (hp : pc + 3 = pc') (kk : wV p l e R s m args below meth c G nL M k n Q pc' lc (vR G (21, 1) :: st)) : wV p l e R s m args below meth c G nL M k n Q pc lc (vR G (21, 0) :: st) := r_getf (C := RX2) (T := TX2) (N := 2) (q := 0) (v := vR G (21, 1)) X k21_0 rfl (by decide) inW2 rfl rfl hlink hd hp kk
theorem gf_21_deviation (X : wX p s m args meth c G nL own cc) {index : Nat} (hlink : Cond.fieldLink own index "StateObserver$Motion" "deviation" "[J" ∈ GW) (hd : decode cc pc = .ok (.getfield index, 3)) (hp : pc + 3 = pc') (kk : wV p l e R s m args below meth c G nL M k n Q pc' lc (vR G (21, 2) :: st)) : wV p l e R s m args below meth c G nL M k n Q pc lc (vR G (21, 0) :: st) := r_getf (C := RX2) (T := TX2) (N := 2) (q := 1) (v := vR G (21, 2)) X k21_0 rfl (by decide) inW2 rfl rfl hlink hd hp kk
theorem gf_22_space (X : wX p s m args meth c G nL own cc) {index : Nat} (hlink : Cond.fieldLink own index "StateObserver$Ranks" "space" "LStateObserver$Space;" ∈ GW) (hd : decode cc pc = .ok (.getfield index, 3)) (hp : pc + 3 = pc') (kk : wV p l e R s m args below meth c G nL M k n Q pc' lc (vR G (23, 0) :: st)) : wV p l e R s m args below meth c G nL M k n Q pc lc (vR G (22, 0) :: st) := r_getf (C := RX4) (T := TX4) (N := 6) (q := 0) (v := vR G (23, 0)) X k22_0 rfl (by decide) inW4 rfl rfl hlink hd hp kk
theorem gf_22_nextSpace (X : wX p s m args meth c G nL own cc) {index : Nat} (hlink : Cond.fieldLink own index "StateObserver$Ranks" "nextSpace" "LStateObserver$Space;" ∈ GW) (hd : decode cc pc = .ok (.getfield index, 3)) (hp : pc + 3 = pc') (kk : wV p l e R s m args below meth c G nL M k n Q pc' lc (vR G (24, 0) :: st)) : wV p l e R s m args below meth c G nL M k n Q pc lc (vR G (22, 0) :: st) := r_getf (C := RX4) (T := TX4) (N := 6) (q := 1) (v := vR G (24, 0)) X k22_0 rfl (by decide) inW4 rfl rfl hlink hd hp kk
theorem gf_22_block (X : wX p s m args meth c G nL own cc) {index : Nat} (hlink : Cond.fieldLink own index "StateObserver$Ranks" "block" "[[J" ∈ GW) (hd : decode cc pc = .ok (.getfield index, 3)) (hp : pc + 3 = pc') (kk : wV p l e R s m args below meth c G nL M k n Q pc' lc (vR G (22, 1) :: st)) : wV p l e R s m args below meth c G nL M k n Q pc lc (vR G (22, 0) :: st) := r_getf (C := RX4) (T := TX4) (N := 6) (q := 2) (v := vR G (22, 1)) X k22_0 rfl (by decide) inW4 rfl rfl hlink hd hp kk
theorem gf_22_vector (X : wX p s m args meth c G nL own cc) {index : Nat} (hlink : Cond.fieldLink own index "StateObserver$Ranks" "vector" "[J" ∈ GW) (hd : decode cc pc = .ok (.getfield index, 3)) (hp : pc + 3 = pc') (kk : wV p l e R s m args below meth c G nL M k n Q pc' lc (vR G (22, 5) :: st)) : wV p l e R s m args below meth c G nL M k n Q pc lc (vR G (22, 0) :: st) := r_getf (C := RX4) (T := TX4) (N := 6) (q := 3) (v := vR G (22, 5)) X k22_0 rfl (by decide) inW4 rfl rfl hlink hd hp kk
theorem gf_22_product (X : wX p s m args meth c G nL own cc) {index : Nat} (hlink : Cond.fieldLink own index "StateObserver$Ranks" "product" "[J" ∈ GW) (hd : decode cc pc = .ok (.getfield index, 3)) (hp : pc + 3 = pc') (kk : wV p l e R s m args below meth c G nL M k n Q pc' lc (vR G (22, 6) :: st)) : wV p l e R s m args below meth c G nL M k n Q pc lc (vR G (22, 0) :: st) := r_getf (C := RX4) (T := TX4) (N := 6) (q := 4) (v := vR G (22, 6)) X k22_0 rfl (by decide) inW4 rfl rfl hlink hd hp kk
theorem gf_22_effect (X : wX p s m args meth c G nL own cc) {index : Nat} (hlink : Cond.fieldLink own index "StateObserver$Ranks" "effect" "[J" ∈ GW) (hd : decode cc pc = .ok (.getfield index, 3)) (hp : pc + 3 = pc') (kk : wV p l e R s m args below meth c G nL M k n Q pc' lc (vR G (22, 7) :: st)) : wV p l e R s m args below meth c G nL M k n Q pc lc (vR G (22, 0) :: st) := r_getf (C := RX4) (T := TX4) (N := 6) (q := 5) (v := vR G (22, 7)) X k22_0 rfl (by decide) inW4 rfl rfl hlink hd hp kk
theorem gf_25_moments (X : wX p s m args meth c G nL own cc) {index : Nat} (hlink : Cond.fieldLink own index "StateObserver$Slots" "moments" "[LStateObserver$Moment;" ∈ GW) (hd : decode cc pc = .ok (.getfield index, 3)) (hp : pc + 3 = pc') (kk : wV p l e R s m args below meth c G nL M k n Q pc' lc (vR G (25, 1) :: st)) : wV p l e R s m args below meth c G nL M k n Q pc lc (vR G (25, 0) :: st) := r_getf (C := RX5) (T := TX5) (N := 2) (q := 0) (v := vR G (25, 1)) X k25_0 rfl (by decide) inW5 rfl rfl hlink hd hp kk
theorem gf_25_filled (X : wX p s m args meth c G nL own cc) {index : Nat} (hlink : Cond.fieldLink own index "StateObserver$Slots" "filled" "[Z" ∈ GW) (hd : decode cc pc = .ok (.getfield index, 3)) (hp : pc + 3 = pc') (kk : wV p l e R s m args below meth c G nL M k n Q pc' lc (vR G (25, 2) :: st)) : wV p l e R s m args below meth c G nL M k n Q pc lc (vR G (25, 0) :: st) := r_getf (C := RX5) (T := TX5) (N := 2) (q := 1) (v := vR G (25, 2)) X k25_0 rfl (by decide) inW5 rfl rfl hlink hd hp kk
theorem gf_26_moments (X : wX p s m args meth c G nL own cc) {index : Nat} (hlink : Cond.fieldLink own index "StateObserver$History" "moments" "[LStateObserver$Moment;" ∈ GW) (hd : decode cc pc = .ok (.getfield index, 3)) (hp : pc + 3 = pc') (kk : wV p l e R s m args below meth c G nL M k n Q pc' lc (vR G (26, 1) :: st)) : wV p l e R s m args below meth c G nL M k n Q pc lc (vR G (26, 0) :: st) := r_getf (C := RX0) (T := TX0) (N := 3) (q := 0) (v := vR G (26, 1)) X k26_0 rfl (by decide) inW0 rfl rfl hlink hd hp kk
theorem gf_26_next (X : wX p s m args meth c G nL own cc) {index : Nat} (hlink : Cond.fieldLink own index "StateObserver$History" "next" "I" ∈ GW) (hd : decode cc pc = .ok (.getfield index, 3)) (hp : pc + 3 = pc') (kk : wV p l e R s m args below meth c G nL M k n Q pc' lc (vI (M 26 0 1) :: st)) : wV p l e R s m args below meth c G nL M k n Q pc lc (vR G (26, 0) :: st) := r_getf (C := RX0) (T := TX0) (N := 3) (q := 1) (v := vI (M 26 0 1)) X k26_0 rfl (by decide) inW0 rfl rfl hlink hd hp kk
theorem pf_26_next (X : wX p s m args meth c G nL own cc) {index : Nat} {z : Int} (hlink : Cond.fieldLink own index "StateObserver$History" "next" "I" ∈ GW) (hd : decode cc pc = .ok (.putfield index, 3)) (hp : pc + 3 = pc') (kk : ∀ M1 : wM, M1 = wu M 26 0 1 z → wV p l e R s m args below meth c G nL M1 k n Q pc' lc (st)) : wV p l e R s m args below meth c G nL M k n Q pc lc (vI z :: vR G (26, 0) :: st) := r_putf (C := RX0) (T := TX0) (N := 3) (q := 1) X tyX0 tyX0_ok nmX0 k26_0 rfl (by decide) inW0 rfl rfl rfl rfl rfl hlink hd hp kk
theorem gf_26_count (X : wX p s m args meth c G nL own cc) {index : Nat} (hlink : Cond.fieldLink own index "StateObserver$History" "count" "I" ∈ GW) (hd : decode cc pc = .ok (.getfield index, 3)) (hp : pc + 3 = pc') (kk : wV p l e R s m args below meth c G nL M k n Q pc' lc (vI (M 26 0 2) :: st)) : wV p l e R s m args below meth c G nL M k n Q pc lc (vR G (26, 0) :: st) := r_getf (C := RX0) (T := TX0) (N := 3) (q := 2) (v := vI (M 26 0 2)) X k26_0 rfl (by decide) inW0 rfl rfl hlink hd hp kk
theorem pf_26_count (X : wX p s m args meth c G nL own cc) {index : Nat} {z : Int} (hlink : Cond.fieldLink own index "StateObserver$History" "count" "I" ∈ GW) (hd : decode cc pc = .ok (.putfield index, 3)) (hp : pc + 3 = pc') (kk : ∀ M1 : wM, M1 = wu M 26 0 2 z → wV p l e R s m args below meth c G nL M1 k n Q pc' lc (st)) : wV p l e R s m args below meth c G nL M k n Q pc lc (vI z :: vR G (26, 0) :: st) := r_putf (C := RX0) (T := TX0) (N := 3) (q := 2) X tyX0 tyX0_ok nmX0 k26_0 rfl (by decide) inW0 rfl rfl rfl rfl rfl hlink hd hp kk
theorem gf_27_characters (X : wX p s m args meth c G nL own cc) {index : Nat} (hlink : Cond.fieldLink own index "StateObserver$SystemText" "characters" "[C" ∈ GW) (hd : decode cc pc = .ok (.getfield index, 3)) (hp : pc + 3 = pc') (kk : wV p l e R s m args below meth c G nL M k n Q pc' lc (vR G (27, 1) :: st)) : wV p l e R s m args below meth c G nL M k n Q pc lc (vR G (27, 0) :: st) := r_getf (C := RX7) (T := TX7) (N := 6) (q := 0) (v := vR G (27, 1)) X k27_0 rfl (by decide) inW7 rfl rfl hlink hd hp kk
theorem gf_27_length (X : wX p s m args meth c G nL own cc) {index : Nat} (hlink : Cond.fieldLink own index "StateObserver$SystemText" "length" "I" ∈ GW) (hd : decode cc pc = .ok (.getfield index, 3)) (hp : pc + 3 = pc') (kk : wV p l e R s m args below meth c G nL M k n Q pc' lc (vI (M 27 0 1) :: st)) : wV p l e R s m args below meth c G nL M k n Q pc lc (vR G (27, 0) :: st) := r_getf (C := RX7) (T := TX7) (N := 6) (q := 1) (v := vI (M 27 0 1)) X k27_0 rfl (by decide) inW7 rfl rfl hlink hd hp kk
theorem pf_27_length (X : wX p s m args meth c G nL own cc) {index : Nat} {z : Int} (hlink : Cond.fieldLink own index "StateObserver$SystemText" "length" "I" ∈ GW) (hd : decode cc pc = .ok (.putfield index, 3)) (hp : pc + 3 = pc') (kk : ∀ M1 : wM, M1 = wu M 27 0 1 z → wV p l e R s m args below meth c G nL M1 k n Q pc' lc (st)) : wV p l e R s m args below meth c G nL M k n Q pc lc (vI z :: vR G (27, 0) :: st) := r_putf (C := RX7) (T := TX7) (N := 6) (q := 1) X tyX7 tyX7_ok nmX7 k27_0 rfl (by decide) inW7 rfl rfl rfl rfl rfl hlink hd hp kk
theorem gf_27_plant (X : wX p s m args meth c G nL own cc) {index : Nat} (hlink : Cond.fieldLink own index "StateObserver$SystemText" "plant" "LStateObserver$Plant;" ∈ GW) (hd : decode cc pc = .ok (.getfield index, 3)) (hp : pc + 3 = pc') (kk : wV p l e R s m args below meth c G nL M k n Q pc' lc (vR G (20, 0) :: st)) : wV p l e R s m args below meth c G nL M k n Q pc lc (vR G (27, 0) :: st) := r_getf (C := RX7) (T := TX7) (N := 6) (q := 2) (v := vR G (20, 0)) X k27_0 rfl (by decide) inW7 rfl rfl hlink hd hp kk
theorem gf_27_start (X : wX p s m args meth c G nL own cc) {index : Nat} (hlink : Cond.fieldLink own index "StateObserver$SystemText" "start" "LStateObserver$Moment;" ∈ GW) (hd : decode cc pc = .ok (.getfield index, 3)) (hp : pc + 3 = pc') (kk : wV p l e R s m args below meth c G nL M k n Q pc' lc (vR G (2, 0) :: st)) : wV p l e R s m args below meth c G nL M k n Q pc lc (vR G (27, 0) :: st) := r_getf (C := RX7) (T := TX7) (N := 6) (q := 3) (v := vR G (2, 0)) X k27_0 rfl (by decide) inW7 rfl rfl hlink hd hp kk
theorem gf_27_position (X : wX p s m args meth c G nL own cc) {index : Nat} (hlink : Cond.fieldLink own index "StateObserver$SystemText" "position" "I" ∈ GW) (hd : decode cc pc = .ok (.getfield index, 3)) (hp : pc + 3 = pc') (kk : wV p l e R s m args below meth c G nL M k n Q pc' lc (vI (M 27 0 4) :: st)) : wV p l e R s m args below meth c G nL M k n Q pc lc (vR G (27, 0) :: st) := r_getf (C := RX7) (T := TX7) (N := 6) (q := 4) (v := vI (M 27 0 4)) X k27_0 rfl (by decide) inW7 rfl rfl hlink hd hp kk
theorem pf_27_position (X : wX p s m args meth c G nL own cc) {index : Nat} {z : Int} (hlink : Cond.fieldLink own index "StateObserver$SystemText" "position" "I" ∈ GW) (hd : decode cc pc = .ok (.putfield index, 3)) (hp : pc + 3 = pc') (kk : ∀ M1 : wM, M1 = wu M 27 0 4 z → wV p l e R s m args below meth c G nL M1 k n Q pc' lc (st)) : wV p l e R s m args below meth c G nL M k n Q pc lc (vI z :: vR G (27, 0) :: st) := r_putf (C := RX7) (T := TX7) (N := 6) (q := 4) X tyX7 tyX7_ok nmX7 k27_0 rfl (by decide) inW7 rfl rfl rfl rfl rfl hlink hd hp kk
theorem gf_27_wrong (X : wX p s m args meth c G nL own cc) {index : Nat} (hlink : Cond.fieldLink own index "StateObserver$SystemText" "wrong" "Z" ∈ GW) (hd : decode cc pc = .ok (.getfield index, 3)) (hp : pc + 3 = pc') (kk : wV p l e R s m args below meth c G nL M k n Q pc' lc (vI (M 27 0 5) :: st)) : wV p l e R s m args below meth c G nL M k n Q pc lc (vR G (27, 0) :: st) := r_getf (C := RX7) (T := TX7) (N := 6) (q := 5) (v := vI (M 27 0 5)) X k27_0 rfl (by decide) inW7 rfl rfl hlink hd hp kk
theorem pf_27_wrong (X : wX p s m args meth c G nL own cc) {index : Nat} {z : Int} (hz : z = 0 ∨ z = 1) (hlink : Cond.fieldLink own index "StateObserver$SystemText" "wrong" "Z" ∈ GW) (hd : decode cc pc = .ok (.putfield index, 3)) (hp : pc + 3 = pc') (kk : ∀ M1 : wM, M1 = wu M 27 0 5 z → wV p l e R s m args below meth c G nL M1 k n Q pc' lc (st)) : wV p l e R s m args below meth c G nL M k n Q pc lc (vI z :: vR G (27, 0) :: st) := r_putf (C := RX7) (T := TX7) (N := 6) (q := 5) X tyX7 tyX7_ok nmX7 k27_0 rfl (by decide) inW7 rfl rfl rfl (by rcases hz with rfl | rfl <;> rfl) (by rcases hz with rfl | rfl <;> rfl) hlink hd hp kk
theorem gf_28_plant (X : wX p s m args meth c G nL own cc) {index : Nat} (hlink : Cond.fieldLink own index "StateObserver" "plant" "LStateObserver$Plant;" ∈ GW) (hd : decode cc pc = .ok (.getfield index, 3)) (hp : pc + 3 = pc') (kk : wV p l e R s m args below meth c G nL M k n Q pc' lc (vR G (19, 0) :: st)) : wV p l e R s m args below meth c G nL M k n Q pc lc (vR G (28, 0) :: st) := r_getf (C := RX8) (T := TX8) (N := 9) (q := 0) (v := vR G (19, 0)) X k28_0 rfl (by decide) inW8 rfl rfl hlink hd hp kk
theorem gf_28_now (X : wX p s m args meth c G nL own cc) {index : Nat} (hlink : Cond.fieldLink own index "StateObserver" "now" "LStateObserver$Moment;" ∈ GW) (hd : decode cc pc = .ok (.getfield index, 3)) (hp : pc + 3 = pc') (kk : wV p l e R s m args below meth c G nL M k n Q pc' lc (vR G (0, 0) :: st)) : wV p l e R s m args below meth c G nL M k n Q pc lc (vR G (28, 0) :: st) := r_getf (C := RX8) (T := TX8) (N := 9) (q := 1) (v := vR G (0, 0)) X k28_0 rfl (by decide) inW8 rfl rfl hlink hd hp kk
theorem gf_28_copy (X : wX p s m args meth c G nL own cc) {index : Nat} (hlink : Cond.fieldLink own index "StateObserver" "copy" "LStateObserver$Moment;" ∈ GW) (hd : decode cc pc = .ok (.getfield index, 3)) (hp : pc + 3 = pc') (kk : wV p l e R s m args below meth c G nL M k n Q pc' lc (vR G (1, 0) :: st)) : wV p l e R s m args below meth c G nL M k n Q pc lc (vR G (28, 0) :: st) := r_getf (C := RX8) (T := TX8) (N := 9) (q := 2) (v := vR G (1, 0)) X k28_0 rfl (by decide) inW8 rfl rfl hlink hd hp kk
theorem gf_28_history (X : wX p s m args meth c G nL own cc) {index : Nat} (hlink : Cond.fieldLink own index "StateObserver" "history" "LStateObserver$History;" ∈ GW) (hd : decode cc pc = .ok (.getfield index, 3)) (hp : pc + 3 = pc') (kk : wV p l e R s m args below meth c G nL M k n Q pc' lc (vR G (26, 0) :: st)) : wV p l e R s m args below meth c G nL M k n Q pc lc (vR G (28, 0) :: st) := r_getf (C := RX8) (T := TX8) (N := 9) (q := 3) (v := vR G (26, 0)) X k28_0 rfl (by decide) inW8 rfl rfl hlink hd hp kk
theorem gf_28_slots (X : wX p s m args meth c G nL own cc) {index : Nat} (hlink : Cond.fieldLink own index "StateObserver" "slots" "LStateObserver$Slots;" ∈ GW) (hd : decode cc pc = .ok (.getfield index, 3)) (hp : pc + 3 = pc') (kk : wV p l e R s m args below meth c G nL M k n Q pc' lc (vR G (25, 0) :: st)) : wV p l e R s m args below meth c G nL M k n Q pc lc (vR G (28, 0) :: st) := r_getf (C := RX8) (T := TX8) (N := 9) (q := 4) (v := vR G (25, 0)) X k28_0 rfl (by decide) inW8 rfl rfl hlink hd hp kk
theorem gf_28_text (X : wX p s m args meth c G nL own cc) {index : Nat} (hlink : Cond.fieldLink own index "StateObserver" "text" "LStateObserver$SystemText;" ∈ GW) (hd : decode cc pc = .ok (.getfield index, 3)) (hp : pc + 3 = pc') (kk : wV p l e R s m args below meth c G nL M k n Q pc' lc (vR G (27, 0) :: st)) : wV p l e R s m args below meth c G nL M k n Q pc lc (vR G (28, 0) :: st) := r_getf (C := RX8) (T := TX8) (N := 9) (q := 5) (v := vR G (27, 0)) X k28_0 rfl (by decide) inW8 rfl rfl hlink hd hp kk
theorem gf_28_motion (X : wX p s m args meth c G nL own cc) {index : Nat} (hlink : Cond.fieldLink own index "StateObserver" "motion" "LStateObserver$Motion;" ∈ GW) (hd : decode cc pc = .ok (.getfield index, 3)) (hp : pc + 3 = pc') (kk : wV p l e R s m args below meth c G nL M k n Q pc' lc (vR G (21, 0) :: st)) : wV p l e R s m args below meth c G nL M k n Q pc lc (vR G (28, 0) :: st) := r_getf (C := RX8) (T := TX8) (N := 9) (q := 6) (v := vR G (21, 0)) X k28_0 rfl (by decide) inW8 rfl rfl hlink hd hp kk
theorem gf_28_ranks (X : wX p s m args meth c G nL own cc) {index : Nat} (hlink : Cond.fieldLink own index "StateObserver" "ranks" "LStateObserver$Ranks;" ∈ GW) (hd : decode cc pc = .ok (.getfield index, 3)) (hp : pc + 3 = pc') (kk : wV p l e R s m args below meth c G nL M k n Q pc' lc (vR G (22, 0) :: st)) : wV p l e R s m args below meth c G nL M k n Q pc lc (vR G (28, 0) :: st) := r_getf (C := RX8) (T := TX8) (N := 9) (q := 7) (v := vR G (22, 0)) X k28_0 rfl (by decide) inW8 rfl rfl hlink hd hp kk
theorem gf_28_row (X : wX p s m args meth c G nL own cc) {index : Nat} (hlink : Cond.fieldLink own index "StateObserver" "row" "[I" ∈ GW) (hd : decode cc pc = .ok (.getfield index, 3)) (hp : pc + 3 = pc') (kk : wV p l e R s m args below meth c G nL M k n Q pc' lc (vR G (28, 1) :: st)) : wV p l e R s m args below meth c G nL M k n Q pc lc (vR G (28, 0) :: st) := r_getf (C := RX8) (T := TX8) (N := 9) (q := 8) (v := vR G (28, 1)) X k28_0 rfl (by decide) inW8 rfl rfl hlink hd hp kk
end WF
