/-! the law's cases -/
set_option maxRecDepth 100000 in
set_option maxHeartbeats 4000000 in
theorem lc_0 {p : Program} {l : Launch} {e : Env} {R : Room} {s : State} {m : MethodId} {args : Array Value} {below : List Frame} {meth : Method} {c : Code} {k n : Nat} {Q : State → Prop} {G : wG} {M : wM} {b Ls i t : Nat} {xs : Nat → Int32} (X : wX p s m args meth c G 8 "StateObserverLaw" cL_law) (hfl : l.stackTraces = false) (hX : va_X b Ls xs s s.heap) (hbl : b < s.heap.size) (hbA : ¬ wA G b) (hLs : Ls ≤ 2560) (hi : i + 5 ≤ Ls) (ht : t ≤ 600) (hLR : LR (t : Int) M) (hRf : 10 ≤ R.frames) (hRl : 430 ≤ R.locals) (hRc : k + 1 ≤ R.cells) (hRs : n + 6 ≤ R.slots) (next : ∀ M1, LR ((t : Int) + 1) M1 → wV p l e R s m args below meth c G 8 M1 (k + 1) (n + 6) Q 2143 [(0, .ref b), (1, vR G (28, 0)), (2, vR G (29, 0)), (3, vR G (30, 0)), (4, vI (i : Int))] []) : wV p l e R s m args below meth c G 8 M k n Q 180 [(0, .ref b), (1, vR G (28, 0)), (2, vR G (29, 0)), (3, vR G (30, 0)), (4, vI (i : Int))] [] := by
  obtain ⟨N, P, L0, nx, ct, h⟩ := hLR
  obtain ⟨c1, c2, c3, c4, c5, c6, c7, c8, c9, c10, c11, c12, c13, c14, c15⟩ := id h
  have hN4 : N ≤ 4 := c1.2.2.1
  have hP3 : P ≤ 3 := c1.2.2.2.2.2.1
  have hck : COk M N P (t : Int) := ⟨c1, c4.1, c4.2.1⟩
  refine r_aload_n (pc' := 181) X 1 dL_law_180 rfl rfl rfl ?_
  refine r_aloadB_n (pc' := 182) X 0 dL_law_181 rfl rfl rfl ?_
  refine r_iload (pc' := 184) X 4 dL_law_182 rfl rfl ?_
  refine r_iconst (pc' := 185) X dL_law_184 rfl ?_
  refine r_iadd (pc' := 186) X dL_law_185 rfl ?_
  refine r_sld (i := i + 1) (pc' := 187) X hX hbl hbA (by omega) (by omega) (by omega) dL_law_186 rfl ?_
  refine r_aload_n (pc' := 188) X 3 dL_law_187 rfl rfl rfl ?_
  refine w_calli (pc' := 191) (st := []) (w_runSH X (c_L_append l G M hfl L0 (sc xs (i + 1)) c5 (by first | exact sc_rng _ _ | exact i64_rng _ | exact Or.inl rfl | exact Or.inr rfl)) cf_L_append gw_433 rfl rfl (rmR hRf hRl (by decide) (by decide)) rfl rfl (Nat.le_of_ble_eq_true rfl) ⟨hRc, hRs⟩ gw_432 dL_law_188) rfl (fun zc M2 hP => ?_)
  obtain ⟨e29, hzc⟩ := pr_append (T := (t : Int)) (L := L0) (P := P) (N := N) (ct := ct) c9 hP
  refine r_istore (pc' := 193) (lc' := [(0, .ref b), (1, vR G (28, 0)), (2, vR G (29, 0)), (3, vR G (30, 0)), (4, vI (i : Int)), (5, vI zc)]) X [1, 2, 3, 4, 5, 0] dL_law_191 (by decide) rfl rfl ?_
  refine r_aload_n (pc' := 194) X 2 dL_law_193 rfl rfl rfl ?_
  refine r_aloadB_n (pc' := 195) X 0 dL_law_194 rfl rfl rfl ?_
  refine r_iload (pc' := 197) X 4 dL_law_195 rfl rfl ?_
  refine r_iconst (pc' := 198) X dL_law_197 rfl ?_
  refine r_iadd (pc' := 199) X dL_law_198 rfl ?_
  refine r_sld (i := i + 1) (pc' := 200) X hX hbl hbA (by omega) (by omega) (by omega) dL_law_199 rfl ?_
  refine w_calli (pc' := 203) (st := []) (w_runV X (c_X9_append l G M2 L0 (by rw [e29]; exact ⟨c6, c5.2.1, by rw [c7]; exact c5.2.2⟩) (sc xs (i + 1)) (by first | exact sc_rng _ _ | exact i64_rng _ | exact Or.inl rfl | exact Or.inr rfl)) cf_X9_append k29_0 rfl gw_1078 gw_1079 rfl rfl (rmR hRf hRl (by decide) (by decide)) rfl rfl (Nat.le_of_ble_eq_true rfl) ⟨by show _ + 0 ≤ _; omega, by show _ + 0 ≤ _; omega⟩ gw_1077 dL_law_200) rfl (fun rb M3 hR => ?_)
  obtain ⟨g1, g2, hgo⟩ := ag_append h hP hR
  refine r_istore (pc' := 205) (lc' := [(0, .ref b), (1, vR G (28, 0)), (2, vR G (29, 0)), (3, vR G (30, 0)), (4, vI (i : Int)), (5, vI zc), (6, vI rb)]) X [1, 2, 3, 4, 5, 6, 0] dL_law_203 (by decide) rfl rfl ?_
  refine r_aload_n (pc' := 206) X 2 dL_law_205 rfl rfl rfl ?_
  refine w_calli (pc' := 209) (st := []) (w_runV X (c_X9_thrown l G M3 ) cf_X9_thrown k29_0 rfl gw_1074 gw_1075 rfl rfl (rmR hRf hRl (by decide) (by decide)) rfl rfl (Nat.le_of_ble_eq_true rfl) ⟨by show _ + 0 ≤ _; omega, by show _ + 0 ≤ _; omega⟩ gw_1073 dL_law_206) rfl (fun z9 M4 h9 => ?_)
  obtain rfl := h9.1.symm
  obtain rfl := h9.2.symm
  refine r_iload (pc' := 211) X 5 dL_law_209 rfl rfl ?_
  refine r_icmp_eqE (tgt := 216) X (g1) dL_law_211 rfl ?_
  refine r_iload (pc' := 218) X 5 dL_law_216 rfl rfl ?_
  refine r_if_ne (pc' := 221) (tgt := 233) X dL_law_218 rfl rfl (by omega) (fun hz0 => ?_) (fun hz0 => ?_)
  · clear hz0
    refine r_goto (tgt := 2143) X dL_law_233 rfl ?_
    refine w_sub (lc' := [(0, .ref b), (1, vR G (28, 0)), (2, vR G (29, 0)), (3, vR G (30, 0)), (4, vI (i : Int))]) [0, 1, 2, 3, 4] rfl ?_
    exact next M3 hgo
  · have hz0 : zc = 0 := by omega
    refine r_aload_n (pc' := 222) X 3 dL_law_221 rfl rfl rfl ?_
    refine r_iconst (pc' := 223) X dL_law_222 rfl ?_
    refine r_lald (i := 0) (pc' := 224) X k30_0 (by omega) (by omega) (by decide) dL_law_223 rfl ?_
    refine r_iload (pc' := 226) X 6 dL_law_224 rfl rfl ?_
    refine r_i2lw (pc' := 227) X dL_law_226 rfl ?_
    refine r_lcmpE (pc' := 228) X (g2 hz0) dL_law_227 rfl ?_
    refine r_if_eq (pc' := 231) (tgt := 233) X dL_law_228 rfl rfl (by omega) (fun _ => ?_) (fun q => absurd rfl q)
    refine r_goto (tgt := 2143) X dL_law_233 rfl ?_
    refine w_sub (lc' := [(0, .ref b), (1, vR G (28, 0)), (2, vR G (29, 0)), (3, vR G (30, 0)), (4, vI (i : Int))]) [0, 1, 2, 3, 4] rfl ?_
    exact next M3 hgo
set_option maxRecDepth 100000 in
set_option maxHeartbeats 4000000 in
theorem lc_1 {p : Program} {l : Launch} {e : Env} {R : Room} {s : State} {m : MethodId} {args : Array Value} {below : List Frame} {meth : Method} {c : Code} {k n : Nat} {Q : State → Prop} {G : wG} {M : wM} {b Ls i t : Nat} {xs : Nat → Int32} (X : wX p s m args meth c G 8 "StateObserverLaw" cL_law) (hfl : l.stackTraces = false) (hX : va_X b Ls xs s s.heap) (hbl : b < s.heap.size) (hbA : ¬ wA G b) (hLs : Ls ≤ 2560) (hi : i + 5 ≤ Ls) (ht : t ≤ 600) (hLR : LR (t : Int) M) (hRf : 10 ≤ R.frames) (hRl : 430 ≤ R.locals) (hRc : k + 1 ≤ R.cells) (hRs : n + 6 ≤ R.slots) (next : ∀ M1, LR ((t : Int) + 1) M1 → wV p l e R s m args below meth c G 8 M1 (k + 1) (n + 6) Q 2143 [(0, .ref b), (1, vR G (28, 0)), (2, vR G (29, 0)), (3, vR G (30, 0)), (4, vI (i : Int))] []) : wV p l e R s m args below meth c G 8 M k n Q 236 [(0, .ref b), (1, vR G (28, 0)), (2, vR G (29, 0)), (3, vR G (30, 0)), (4, vI (i : Int))] [] := by
  obtain ⟨N, P, L0, nx, ct, h⟩ := hLR
  obtain ⟨c1, c2, c3, c4, c5, c6, c7, c8, c9, c10, c11, c12, c13, c14, c15⟩ := id h
  have hN4 : N ≤ 4 := c1.2.2.1
  have hP3 : P ≤ 3 := c1.2.2.2.2.2.1
  have hck : COk M N P (t : Int) := ⟨c1, c4.1, c4.2.1⟩
  refine r_aload_n (pc' := 237) X 1 dL_law_236 rfl rfl rfl ?_
  refine w_calli (pc' := 240) (st := []) (w_runV X (c_X8_clearText l G M L0 c5) cf_X8_clearText k28_0 rfl gw_326 gw_327 rfl rfl (rmR hRf hRl (by decide) (by decide)) rfl rfl (Nat.le_of_ble_eq_true rfl) ⟨by show _ + 0 ≤ _; omega, by show _ + 0 ≤ _; omega⟩ gw_325 dL_law_237) rfl (fun zc M2 hP => ?_)
  have e29 := pr_clearText (P := P) (L := L0) (N := N) hP
  refine r_aload_n (pc' := 241) X 2 dL_law_240 rfl rfl rfl ?_
  refine w_calli (pc' := 244) (st := [vI zc]) (w_runV X (c_X9_clearText l G M2 L0 (by rw [e29]; exact ⟨c6, c5.2.1, by rw [c7]; exact c5.2.2⟩)) cf_X9_clearText k29_0 rfl gw_1090 gw_1091 rfl rfl (rmR hRf hRl (by decide) (by decide)) rfl rfl (Nat.le_of_ble_eq_true rfl) ⟨by show _ + 0 ≤ _; omega, by show _ + 0 ≤ _; omega⟩ gw_1089 dL_law_241) rfl (fun rb M3 hR => ?_)
  obtain ⟨hveq, hgo⟩ := ag_clearText h hP hR
  refine r_icmp_eqE (tgt := 2143) X (hveq) dL_law_244 rfl ?_
  refine w_wid (k' := k + 1) (n' := n + 6) (by omega) (by omega) ?_
  exact next M3 hgo
set_option maxRecDepth 100000 in
set_option maxHeartbeats 4000000 in
theorem lc_2 {p : Program} {l : Launch} {e : Env} {R : Room} {s : State} {m : MethodId} {args : Array Value} {below : List Frame} {meth : Method} {c : Code} {k n : Nat} {Q : State → Prop} {G : wG} {M : wM} {b Ls i t : Nat} {xs : Nat → Int32} (X : wX p s m args meth c G 8 "StateObserverLaw" cL_law) (hfl : l.stackTraces = false) (hX : va_X b Ls xs s s.heap) (hbl : b < s.heap.size) (hbA : ¬ wA G b) (hLs : Ls ≤ 2560) (hi : i + 5 ≤ Ls) (ht : t ≤ 600) (hLR : LR (t : Int) M) (hRf : 10 ≤ R.frames) (hRl : 430 ≤ R.locals) (hRc : k + 1 ≤ R.cells) (hRs : n + 6 ≤ R.slots) (next : ∀ M1, LR ((t : Int) + 1) M1 → wV p l e R s m args below meth c G 8 M1 (k + 1) (n + 6) Q 2143 [(0, .ref b), (1, vR G (28, 0)), (2, vR G (29, 0)), (3, vR G (30, 0)), (4, vI (i : Int))] []) : wV p l e R s m args below meth c G 8 M k n Q 249 [(0, .ref b), (1, vR G (28, 0)), (2, vR G (29, 0)), (3, vR G (30, 0)), (4, vI (i : Int))] [] := by
  obtain ⟨N, P, L0, nx, ct, h⟩ := hLR
  obtain ⟨c1, c2, c3, c4, c5, c6, c7, c8, c9, c10, c11, c12, c13, c14, c15⟩ := id h
  have hN4 : N ≤ 4 := c1.2.2.1
  have hP3 : P ≤ 3 := c1.2.2.2.2.2.1
  have hck : COk M N P (t : Int) := ⟨c1, c4.1, c4.2.1⟩
  refine r_aload_n (pc' := 250) X 1 dL_law_249 rfl rfl rfl ?_
  refine w_calli (pc' := 253) (st := []) (w_runV X (c_X8_errorPosition l G M L0 c5) cf_X8_errorPosition k28_0 rfl gw_330 gw_331 rfl rfl (rmR hRf hRl (by decide) (by decide)) rfl rfl (Nat.le_of_ble_eq_true rfl) ⟨by show _ + 0 ≤ _; omega, by show _ + 0 ≤ _; omega⟩ gw_329 dL_law_250) rfl (fun zc M2 hP => ?_)
  have e29 := pr_errorPosition (P := P) (L := L0) (N := N) hP
  refine r_aload_n (pc' := 254) X 2 dL_law_253 rfl rfl rfl ?_
  refine w_calli (pc' := 257) (st := [vI zc]) (w_runV X (c_X9_errorPosition l G M2 L0 (by rw [e29]; exact ⟨c6, c5.2.1, by rw [c7]; exact c5.2.2⟩)) cf_X9_errorPosition k29_0 rfl gw_1094 gw_1095 rfl rfl (rmR hRf hRl (by decide) (by decide)) rfl rfl (Nat.le_of_ble_eq_true rfl) ⟨by show _ + 0 ≤ _; omega, by show _ + 0 ≤ _; omega⟩ gw_1093 dL_law_254) rfl (fun rb M3 hR => ?_)
  obtain ⟨hveq, hgo⟩ := ag_errorPosition h hP hR
  refine r_icmp_eqE (tgt := 2143) X (hveq) dL_law_257 rfl ?_
  refine w_wid (k' := k + 1) (n' := n + 6) (by omega) (by omega) ?_
  exact next M3 hgo
set_option maxRecDepth 100000 in
set_option maxHeartbeats 4000000 in
theorem lc_3 {p : Program} {l : Launch} {e : Env} {R : Room} {s : State} {m : MethodId} {args : Array Value} {below : List Frame} {meth : Method} {c : Code} {k n : Nat} {Q : State → Prop} {G : wG} {M : wM} {b Ls i t : Nat} {xs : Nat → Int32} (X : wX p s m args meth c G 8 "StateObserverLaw" cL_law) (hfl : l.stackTraces = false) (hX : va_X b Ls xs s s.heap) (hbl : b < s.heap.size) (hbA : ¬ wA G b) (hLs : Ls ≤ 2560) (hi : i + 5 ≤ Ls) (ht : t ≤ 600) (hLR : LR (t : Int) M) (hRf : 10 ≤ R.frames) (hRl : 430 ≤ R.locals) (hRc : k + 1 ≤ R.cells) (hRs : n + 6 ≤ R.slots) (next : ∀ M1, LR ((t : Int) + 1) M1 → wV p l e R s m args below meth c G 8 M1 (k + 1) (n + 6) Q 2143 [(0, .ref b), (1, vR G (28, 0)), (2, vR G (29, 0)), (3, vR G (30, 0)), (4, vI (i : Int))] []) : wV p l e R s m args below meth c G 8 M k n Q 262 [(0, .ref b), (1, vR G (28, 0)), (2, vR G (29, 0)), (3, vR G (30, 0)), (4, vI (i : Int))] [] := by
  obtain ⟨N, P, L0, nx, ct, h⟩ := hLR
  obtain ⟨c1, c2, c3, c4, c5, c6, c7, c8, c9, c10, c11, c12, c13, c14, c15⟩ := id h
  have hN4 : N ≤ 4 := c1.2.2.1
  have hP3 : P ≤ 3 := c1.2.2.2.2.2.1
  have hck : COk M N P (t : Int) := ⟨c1, c4.1, c4.2.1⟩
  refine r_aload_n (pc' := 263) X 1 dL_law_262 rfl rfl rfl ?_
  refine r_aload_n (pc' := 264) X 3 dL_law_263 rfl rfl rfl ?_
  refine w_calli (pc' := 267) (st := []) (w_runSH X (c_L_load l G M hfl L0 c5) cf_L_load gw_530 rfl rfl (rmR hRf hRl (by decide) (by decide)) rfl rfl (Nat.le_of_ble_eq_true rfl) ⟨hRc, hRs⟩ gw_529 dL_law_264) rfl (fun zc M2 hP => ?_)
  obtain ⟨e29, hzc⟩ := pr_load (T := (t : Int)) (L := L0) (P := P) (N := N) (ct := ct) c9 hP
  refine r_istore (pc' := 269) (lc' := [(0, .ref b), (1, vR G (28, 0)), (2, vR G (29, 0)), (3, vR G (30, 0)), (4, vI (i : Int)), (5, vI zc)]) X [1, 2, 3, 4, 5, 0] dL_law_267 (by decide) rfl rfl ?_
  refine r_aload_n (pc' := 270) X 2 dL_law_269 rfl rfl rfl ?_
  refine w_calli (pc' := 273) (st := []) (w_runV X (c_X9_load l G M2 L0 (by rw [e29]; exact ⟨c6, c5.2.1, by rw [c7]; exact c5.2.2⟩)) cf_X9_load k29_0 rfl gw_1134 gw_1135 rfl rfl (rmR hRf hRl (by decide) (by decide)) rfl rfl (Nat.le_of_ble_eq_true rfl) ⟨by show _ + 0 ≤ _; omega, by show _ + 0 ≤ _; omega⟩ gw_1133 dL_law_270) rfl (fun rb M3 hR => ?_)
  obtain ⟨g1, g2, hgo⟩ := ag_load h (by omega) hP hR
  refine r_istore (pc' := 275) (lc' := [(0, .ref b), (1, vR G (28, 0)), (2, vR G (29, 0)), (3, vR G (30, 0)), (4, vI (i : Int)), (5, vI zc), (6, vI rb)]) X [1, 2, 3, 4, 5, 6, 0] dL_law_273 (by decide) rfl rfl ?_
  refine r_aload_n (pc' := 276) X 2 dL_law_275 rfl rfl rfl ?_
  refine w_calli (pc' := 279) (st := []) (w_runV X (c_X9_thrown l G M3 ) cf_X9_thrown k29_0 rfl gw_1074 gw_1075 rfl rfl (rmR hRf hRl (by decide) (by decide)) rfl rfl (Nat.le_of_ble_eq_true rfl) ⟨by show _ + 0 ≤ _; omega, by show _ + 0 ≤ _; omega⟩ gw_1073 dL_law_276) rfl (fun z9 M4 h9 => ?_)
  obtain rfl := h9.1.symm
  obtain rfl := h9.2.symm
  refine r_iload (pc' := 281) X 5 dL_law_279 rfl rfl ?_
  refine r_icmp_eqE (tgt := 286) X (g1) dL_law_281 rfl ?_
  refine r_iload (pc' := 288) X 5 dL_law_286 rfl rfl ?_
  refine r_if_ne (pc' := 291) (tgt := 303) X dL_law_288 rfl rfl (by omega) (fun hz0 => ?_) (fun hz0 => ?_)
  · clear hz0
    refine r_goto (tgt := 2143) X dL_law_303 rfl ?_
    refine w_sub (lc' := [(0, .ref b), (1, vR G (28, 0)), (2, vR G (29, 0)), (3, vR G (30, 0)), (4, vI (i : Int))]) [0, 1, 2, 3, 4] rfl ?_
    exact next M3 hgo
  · have hz0 : zc = 0 := by omega
    refine r_aload_n (pc' := 292) X 3 dL_law_291 rfl rfl rfl ?_
    refine r_iconst (pc' := 293) X dL_law_292 rfl ?_
    refine r_lald (i := 0) (pc' := 294) X k30_0 (by omega) (by omega) (by decide) dL_law_293 rfl ?_
    refine r_iload (pc' := 296) X 6 dL_law_294 rfl rfl ?_
    refine r_i2lw (pc' := 297) X dL_law_296 rfl ?_
    refine r_lcmpE (pc' := 298) X (g2 hz0) dL_law_297 rfl ?_
    refine r_if_eq (pc' := 301) (tgt := 303) X dL_law_298 rfl rfl (by omega) (fun _ => ?_) (fun q => absurd rfl q)
    refine r_goto (tgt := 2143) X dL_law_303 rfl ?_
    refine w_sub (lc' := [(0, .ref b), (1, vR G (28, 0)), (2, vR G (29, 0)), (3, vR G (30, 0)), (4, vI (i : Int))]) [0, 1, 2, 3, 4] rfl ?_
    exact next M3 hgo
set_option maxRecDepth 100000 in
set_option maxHeartbeats 4000000 in
theorem lc_4 {p : Program} {l : Launch} {e : Env} {R : Room} {s : State} {m : MethodId} {args : Array Value} {below : List Frame} {meth : Method} {c : Code} {k n : Nat} {Q : State → Prop} {G : wG} {M : wM} {b Ls i t : Nat} {xs : Nat → Int32} (X : wX p s m args meth c G 8 "StateObserverLaw" cL_law) (hfl : l.stackTraces = false) (hX : va_X b Ls xs s s.heap) (hbl : b < s.heap.size) (hbA : ¬ wA G b) (hLs : Ls ≤ 2560) (hi : i + 5 ≤ Ls) (ht : t ≤ 600) (hLR : LR (t : Int) M) (hRf : 10 ≤ R.frames) (hRl : 430 ≤ R.locals) (hRc : k + 1 ≤ R.cells) (hRs : n + 6 ≤ R.slots) (next : ∀ M1, LR ((t : Int) + 1) M1 → wV p l e R s m args below meth c G 8 M1 (k + 1) (n + 6) Q 2143 [(0, .ref b), (1, vR G (28, 0)), (2, vR G (29, 0)), (3, vR G (30, 0)), (4, vI (i : Int))] []) : wV p l e R s m args below meth c G 8 M k n Q 306 [(0, .ref b), (1, vR G (28, 0)), (2, vR G (29, 0)), (3, vR G (30, 0)), (4, vI (i : Int))] [] := by
  obtain ⟨N, P, L0, nx, ct, h⟩ := hLR
  obtain ⟨c1, c2, c3, c4, c5, c6, c7, c8, c9, c10, c11, c12, c13, c14, c15⟩ := id h
  have hN4 : N ≤ 4 := c1.2.2.1
  have hP3 : P ≤ 3 := c1.2.2.2.2.2.1
  have hck : COk M N P (t : Int) := ⟨c1, c4.1, c4.2.1⟩
  refine r_aload_n (pc' := 307) X 1 dL_law_306 rfl rfl rfl ?_
  refine r_aloadB_n (pc' := 308) X 0 dL_law_307 rfl rfl rfl ?_
  refine r_iload (pc' := 310) X 4 dL_law_308 rfl rfl ?_
  refine r_iconst (pc' := 311) X dL_law_310 rfl ?_
  refine r_iadd (pc' := 312) X dL_law_311 rfl ?_
  refine r_sld (i := i + 1) (pc' := 313) X hX hbl hbA (by omega) (by omega) (by omega) dL_law_312 rfl ?_
  refine r_aload_n (pc' := 314) X 3 dL_law_313 rfl rfl rfl ?_
  refine w_calli (pc' := 317) (st := []) (w_runSH X (c_L_about l G M hfl N P (t : Int) hck (by omega) (sc xs (i + 1)) (by first | exact sc_rng _ _ | exact i64_rng _ | exact Or.inl rfl | exact Or.inr rfl)) cf_L_about gw_563 rfl rfl (rmR hRf hRl (by decide) (by decide)) rfl rfl (Nat.le_of_ble_eq_true rfl) ⟨hRc, hRs⟩ gw_562 dL_law_314) rfl (fun zc M2 hP => ?_)
  obtain ⟨e29, hzc⟩ := pr_about (T := (t : Int)) (L := L0) (P := P) (N := N) (ct := ct) c9 hP
  refine r_istore (pc' := 319) (lc' := [(0, .ref b), (1, vR G (28, 0)), (2, vR G (29, 0)), (3, vR G (30, 0)), (4, vI (i : Int)), (5, vI zc)]) X [1, 2, 3, 4, 5, 0] dL_law_317 (by decide) rfl rfl ?_
  refine r_aload_n (pc' := 320) X 2 dL_law_319 rfl rfl rfl ?_
  refine r_aloadB_n (pc' := 321) X 0 dL_law_320 rfl rfl rfl ?_
  refine r_iload (pc' := 323) X 4 dL_law_321 rfl rfl ?_
  refine r_iconst (pc' := 324) X dL_law_323 rfl ?_
  refine r_iadd (pc' := 325) X dL_law_324 rfl ?_
  refine r_sld (i := i + 1) (pc' := 326) X hX hbl hbA (by omega) (by omega) (by omega) dL_law_325 rfl ?_
  refine w_calli (pc' := 329) (st := []) (w_runV X (c_X9_about l G M2 N P (M 19) c1 (by rw [e29]; exact c2) (M 0) (t : Int) c4.1 (by omega) (by rw [e29]; exact c4.2.2.2) (sc xs (i + 1)) (by first | exact sc_rng _ _ | exact i64_rng _ | exact Or.inl rfl | exact Or.inr rfl)) cf_X9_about k29_0 rfl gw_1141 gw_1142 rfl rfl (rmR hRf hRl (by decide) (by decide)) rfl rfl (Nat.le_of_ble_eq_true rfl) ⟨by show _ + 0 ≤ _; omega, by show _ + 0 ≤ _; omega⟩ gw_1140 dL_law_326) rfl (fun rb M3 hR => ?_)
  obtain ⟨g1, g2, hgo⟩ := ag_about h hP hR
  refine r_istore (pc' := 331) (lc' := [(0, .ref b), (1, vR G (28, 0)), (2, vR G (29, 0)), (3, vR G (30, 0)), (4, vI (i : Int)), (5, vI zc), (6, vI rb)]) X [1, 2, 3, 4, 5, 6, 0] dL_law_329 (by decide) rfl rfl ?_
  refine r_aload_n (pc' := 332) X 2 dL_law_331 rfl rfl rfl ?_
  refine w_calli (pc' := 335) (st := []) (w_runV X (c_X9_thrown l G M3 ) cf_X9_thrown k29_0 rfl gw_1074 gw_1075 rfl rfl (rmR hRf hRl (by decide) (by decide)) rfl rfl (Nat.le_of_ble_eq_true rfl) ⟨by show _ + 0 ≤ _; omega, by show _ + 0 ≤ _; omega⟩ gw_1073 dL_law_332) rfl (fun z9 M4 h9 => ?_)
  obtain rfl := h9.1.symm
  obtain rfl := h9.2.symm
  refine r_iload (pc' := 337) X 5 dL_law_335 rfl rfl ?_
  refine r_icmp_eqE (tgt := 342) X (g1) dL_law_337 rfl ?_
  refine r_iload (pc' := 344) X 5 dL_law_342 rfl rfl ?_
  refine r_if_ne (pc' := 347) (tgt := 359) X dL_law_344 rfl rfl (by omega) (fun hz0 => ?_) (fun hz0 => ?_)
  · clear hz0
    refine r_goto (tgt := 2143) X dL_law_359 rfl ?_
    refine w_sub (lc' := [(0, .ref b), (1, vR G (28, 0)), (2, vR G (29, 0)), (3, vR G (30, 0)), (4, vI (i : Int))]) [0, 1, 2, 3, 4] rfl ?_
    exact next M3 hgo
  · have hz0 : zc = 0 := by omega
    refine r_aload_n (pc' := 348) X 3 dL_law_347 rfl rfl rfl ?_
    refine r_iconst (pc' := 349) X dL_law_348 rfl ?_
    refine r_lald (i := 0) (pc' := 350) X k30_0 (by omega) (by omega) (by decide) dL_law_349 rfl ?_
    refine r_iload (pc' := 352) X 6 dL_law_350 rfl rfl ?_
    refine r_i2lw (pc' := 353) X dL_law_352 rfl ?_
    refine r_lcmpE (pc' := 354) X (g2 hz0) dL_law_353 rfl ?_
    refine r_if_eq (pc' := 357) (tgt := 359) X dL_law_354 rfl rfl (by omega) (fun _ => ?_) (fun q => absurd rfl q)
    refine r_goto (tgt := 2143) X dL_law_359 rfl ?_
    refine w_sub (lc' := [(0, .ref b), (1, vR G (28, 0)), (2, vR G (29, 0)), (3, vR G (30, 0)), (4, vI (i : Int))]) [0, 1, 2, 3, 4] rfl ?_
    exact next M3 hgo
set_option maxRecDepth 100000 in
set_option maxHeartbeats 4000000 in
theorem lc_5 {p : Program} {l : Launch} {e : Env} {R : Room} {s : State} {m : MethodId} {args : Array Value} {below : List Frame} {meth : Method} {c : Code} {k n : Nat} {Q : State → Prop} {G : wG} {M : wM} {b Ls i t : Nat} {xs : Nat → Int32} (X : wX p s m args meth c G 8 "StateObserverLaw" cL_law) (hfl : l.stackTraces = false) (hX : va_X b Ls xs s s.heap) (hbl : b < s.heap.size) (hbA : ¬ wA G b) (hLs : Ls ≤ 2560) (hi : i + 5 ≤ Ls) (ht : t ≤ 600) (hLR : LR (t : Int) M) (hRf : 10 ≤ R.frames) (hRl : 430 ≤ R.locals) (hRc : k + 1 ≤ R.cells) (hRs : n + 6 ≤ R.slots) (next : ∀ M1, LR ((t : Int) + 1) M1 → wV p l e R s m args below meth c G 8 M1 (k + 1) (n + 6) Q 2143 [(0, .ref b), (1, vR G (28, 0)), (2, vR G (29, 0)), (3, vR G (30, 0)), (4, vI (i : Int))] []) : wV p l e R s m args below meth c G 8 M k n Q 362 [(0, .ref b), (1, vR G (28, 0)), (2, vR G (29, 0)), (3, vR G (30, 0)), (4, vI (i : Int))] [] := by
  obtain ⟨N, P, L0, nx, ct, h⟩ := hLR
  obtain ⟨c1, c2, c3, c4, c5, c6, c7, c8, c9, c10, c11, c12, c13, c14, c15⟩ := id h
  have hN4 : N ≤ 4 := c1.2.2.1
  have hP3 : P ≤ 3 := c1.2.2.2.2.2.1
  have hck : COk M N P (t : Int) := ⟨c1, c4.1, c4.2.1⟩
  refine r_aload_n (pc' := 363) X 1 dL_law_362 rfl rfl rfl ?_
  refine r_aloadB_n (pc' := 364) X 0 dL_law_363 rfl rfl rfl ?_
  refine r_iload (pc' := 366) X 4 dL_law_364 rfl rfl ?_
  refine r_iconst (pc' := 367) X dL_law_366 rfl ?_
  refine r_iadd (pc' := 368) X dL_law_367 rfl ?_
  refine r_sld (i := i + 1) (pc' := 369) X hX hbl hbA (by omega) (by omega) (by omega) dL_law_368 rfl ?_
  refine r_aloadB_n (pc' := 370) X 0 dL_law_369 rfl rfl rfl ?_
  refine r_iload (pc' := 372) X 4 dL_law_370 rfl rfl ?_
  refine r_iconst (pc' := 373) X dL_law_372 rfl ?_
  refine r_iadd (pc' := 374) X dL_law_373 rfl ?_
  refine r_sld (i := i + 2) (pc' := 375) X hX hbl hbA (by omega) (by omega) (by omega) dL_law_374 rfl ?_
  refine r_aloadB_n (pc' := 376) X 0 dL_law_375 rfl rfl rfl ?_
  refine r_iload (pc' := 378) X 4 dL_law_376 rfl rfl ?_
  refine r_iconst (pc' := 379) X dL_law_378 rfl ?_
  refine r_iadd (pc' := 380) X dL_law_379 rfl ?_
  refine r_sld (i := i + 3) (pc' := 381) X hX hbl hbA (by omega) (by omega) (by omega) dL_law_380 rfl ?_
  refine r_aload_n (pc' := 382) X 3 dL_law_381 rfl rfl rfl ?_
  refine w_calli (pc' := 385) (st := []) (w_runSH X (c_L_coefficient l G M hfl N P (t : Int) hck (by omega) (sc xs (i + 1)) (sc xs (i + 2)) (sc xs (i + 3)) (by first | exact sc_rng _ _ | exact i64_rng _ | exact Or.inl rfl | exact Or.inr rfl) (by first | exact sc_rng _ _ | exact i64_rng _ | exact Or.inl rfl | exact Or.inr rfl) (by first | exact sc_rng _ _ | exact i64_rng _ | exact Or.inl rfl | exact Or.inr rfl)) cf_L_coefficient gw_571 rfl rfl (rmR hRf hRl (by decide) (by decide)) rfl rfl (Nat.le_of_ble_eq_true rfl) ⟨hRc, hRs⟩ gw_570 dL_law_382) rfl (fun zc M2 hP => ?_)
  obtain ⟨e29, hzc⟩ := pr_coefficient (T := (t : Int)) (L := L0) (P := P) (N := N) (ct := ct) c9 hP
  refine r_istore (pc' := 387) (lc' := [(0, .ref b), (1, vR G (28, 0)), (2, vR G (29, 0)), (3, vR G (30, 0)), (4, vI (i : Int)), (5, vI zc)]) X [1, 2, 3, 4, 5, 0] dL_law_385 (by decide) rfl rfl ?_
  refine r_aload_n (pc' := 388) X 2 dL_law_387 rfl rfl rfl ?_
  refine r_aloadB_n (pc' := 389) X 0 dL_law_388 rfl rfl rfl ?_
  refine r_iload (pc' := 391) X 4 dL_law_389 rfl rfl ?_
  refine r_iconst (pc' := 392) X dL_law_391 rfl ?_
  refine r_iadd (pc' := 393) X dL_law_392 rfl ?_
  refine r_sld (i := i + 1) (pc' := 394) X hX hbl hbA (by omega) (by omega) (by omega) dL_law_393 rfl ?_
  refine r_aloadB_n (pc' := 395) X 0 dL_law_394 rfl rfl rfl ?_
  refine r_iload (pc' := 397) X 4 dL_law_395 rfl rfl ?_
  refine r_iconst (pc' := 398) X dL_law_397 rfl ?_
  refine r_iadd (pc' := 399) X dL_law_398 rfl ?_
  refine r_sld (i := i + 2) (pc' := 400) X hX hbl hbA (by omega) (by omega) (by omega) dL_law_399 rfl ?_
  refine r_aloadB_n (pc' := 401) X 0 dL_law_400 rfl rfl rfl ?_
  refine r_iload (pc' := 403) X 4 dL_law_401 rfl rfl ?_
  refine r_iconst (pc' := 404) X dL_law_403 rfl ?_
  refine r_iadd (pc' := 405) X dL_law_404 rfl ?_
  refine r_sld (i := i + 3) (pc' := 406) X hX hbl hbA (by omega) (by omega) (by omega) dL_law_405 rfl ?_
  refine w_calli (pc' := 409) (st := []) (w_runV X (c_X9_coefficient l G M2 N P (M 19) c1 (by rw [e29]; exact c2) (M 0) (t : Int) c4.1 (by omega) (by rw [e29]; exact c4.2.2.2) (sc xs (i + 1)) (sc xs (i + 2)) (sc xs (i + 3)) (by first | exact sc_rng _ _ | exact i64_rng _ | exact Or.inl rfl | exact Or.inr rfl) (by first | exact sc_rng _ _ | exact i64_rng _ | exact Or.inl rfl | exact Or.inr rfl) (by first | exact sc_rng _ _ | exact i64_rng _ | exact Or.inl rfl | exact Or.inr rfl)) cf_X9_coefficient k29_0 rfl gw_1146 gw_1147 rfl rfl (rmR hRf hRl (by decide) (by decide)) rfl rfl (Nat.le_of_ble_eq_true rfl) ⟨by show _ + 0 ≤ _; omega, by show _ + 0 ≤ _; omega⟩ gw_1145 dL_law_406) rfl (fun rb M3 hR => ?_)
  obtain ⟨g1, g2, hgo⟩ := ag_coefficient h hP hR
  refine r_istore (pc' := 411) (lc' := [(0, .ref b), (1, vR G (28, 0)), (2, vR G (29, 0)), (3, vR G (30, 0)), (4, vI (i : Int)), (5, vI zc), (6, vI rb)]) X [1, 2, 3, 4, 5, 6, 0] dL_law_409 (by decide) rfl rfl ?_
  refine r_aload_n (pc' := 412) X 2 dL_law_411 rfl rfl rfl ?_
  refine w_calli (pc' := 415) (st := []) (w_runV X (c_X9_thrown l G M3 ) cf_X9_thrown k29_0 rfl gw_1074 gw_1075 rfl rfl (rmR hRf hRl (by decide) (by decide)) rfl rfl (Nat.le_of_ble_eq_true rfl) ⟨by show _ + 0 ≤ _; omega, by show _ + 0 ≤ _; omega⟩ gw_1073 dL_law_412) rfl (fun z9 M4 h9 => ?_)
  obtain rfl := h9.1.symm
  obtain rfl := h9.2.symm
  refine r_iload (pc' := 417) X 5 dL_law_415 rfl rfl ?_
  refine r_icmp_eqE (tgt := 422) X (g1) dL_law_417 rfl ?_
  refine r_iload (pc' := 424) X 5 dL_law_422 rfl rfl ?_
  refine r_if_ne (pc' := 427) (tgt := 439) X dL_law_424 rfl rfl (by omega) (fun hz0 => ?_) (fun hz0 => ?_)
  · clear hz0
    refine r_goto (tgt := 2143) X dL_law_439 rfl ?_
    refine w_sub (lc' := [(0, .ref b), (1, vR G (28, 0)), (2, vR G (29, 0)), (3, vR G (30, 0)), (4, vI (i : Int))]) [0, 1, 2, 3, 4] rfl ?_
    exact next M3 hgo
  · have hz0 : zc = 0 := by omega
    refine r_aload_n (pc' := 428) X 3 dL_law_427 rfl rfl rfl ?_
    refine r_iconst (pc' := 429) X dL_law_428 rfl ?_
    refine r_lald (i := 0) (pc' := 430) X k30_0 (by omega) (by omega) (by decide) dL_law_429 rfl ?_
    refine r_iload (pc' := 432) X 6 dL_law_430 rfl rfl ?_
    refine r_i2lw (pc' := 433) X dL_law_432 rfl ?_
    refine r_lcmpE (pc' := 434) X (g2 hz0) dL_law_433 rfl ?_
    refine r_if_eq (pc' := 437) (tgt := 439) X dL_law_434 rfl rfl (by omega) (fun _ => ?_) (fun q => absurd rfl q)
    refine r_goto (tgt := 2143) X dL_law_439 rfl ?_
    refine w_sub (lc' := [(0, .ref b), (1, vR G (28, 0)), (2, vR G (29, 0)), (3, vR G (30, 0)), (4, vI (i : Int))]) [0, 1, 2, 3, 4] rfl ?_
    exact next M3 hgo
set_option maxRecDepth 100000 in
set_option maxHeartbeats 4000000 in
theorem lc_6 {p : Program} {l : Launch} {e : Env} {R : Room} {s : State} {m : MethodId} {args : Array Value} {below : List Frame} {meth : Method} {c : Code} {k n : Nat} {Q : State → Prop} {G : wG} {M : wM} {b Ls i t : Nat} {xs : Nat → Int32} (X : wX p s m args meth c G 8 "StateObserverLaw" cL_law) (hfl : l.stackTraces = false) (hX : va_X b Ls xs s s.heap) (hbl : b < s.heap.size) (hbA : ¬ wA G b) (hLs : Ls ≤ 2560) (hi : i + 5 ≤ Ls) (ht : t ≤ 600) (hLR : LR (t : Int) M) (hRf : 10 ≤ R.frames) (hRl : 430 ≤ R.locals) (hRc : k + 1 ≤ R.cells) (hRs : n + 6 ≤ R.slots) (next : ∀ M1, LR ((t : Int) + 1) M1 → wV p l e R s m args below meth c G 8 M1 (k + 1) (n + 6) Q 2143 [(0, .ref b), (1, vR G (28, 0)), (2, vR G (29, 0)), (3, vR G (30, 0)), (4, vI (i : Int))] []) : wV p l e R s m args below meth c G 8 M k n Q 442 [(0, .ref b), (1, vR G (28, 0)), (2, vR G (29, 0)), (3, vR G (30, 0)), (4, vI (i : Int))] [] := by
  obtain ⟨N, P, L0, nx, ct, h⟩ := hLR
  obtain ⟨c1, c2, c3, c4, c5, c6, c7, c8, c9, c10, c11, c12, c13, c14, c15⟩ := id h
  have hN4 : N ≤ 4 := c1.2.2.1
  have hP3 : P ≤ 3 := c1.2.2.2.2.2.1
  have hck : COk M N P (t : Int) := ⟨c1, c4.1, c4.2.1⟩
  refine r_aload_n (pc' := 443) X 1 dL_law_442 rfl rfl rfl ?_
  refine r_aloadB_n (pc' := 444) X 0 dL_law_443 rfl rfl rfl ?_
  refine r_iload (pc' := 446) X 4 dL_law_444 rfl rfl ?_
  refine r_iconst (pc' := 447) X dL_law_446 rfl ?_
  refine r_iadd (pc' := 448) X dL_law_447 rfl ?_
  refine r_sld (i := i + 1) (pc' := 449) X hX hbl hbA (by omega) (by omega) (by omega) dL_law_448 rfl ?_
  refine r_aloadB_n (pc' := 450) X 0 dL_law_449 rfl rfl rfl ?_
  refine r_iload (pc' := 452) X 4 dL_law_450 rfl rfl ?_
  refine r_iconst (pc' := 453) X dL_law_452 rfl ?_
  refine r_iadd (pc' := 454) X dL_law_453 rfl ?_
  refine r_sld (i := i + 2) (pc' := 455) X hX hbl hbA (by omega) (by omega) (by omega) dL_law_454 rfl ?_
  refine r_aload_n (pc' := 456) X 3 dL_law_455 rfl rfl rfl ?_
  refine w_calli (pc' := 459) (st := []) (w_runSH X (c_L_state l G M hfl N P (t : Int) hck (by omega) (sc xs (i + 1)) (sc xs (i + 2)) (by first | exact sc_rng _ _ | exact i64_rng _ | exact Or.inl rfl | exact Or.inr rfl) (by first | exact sc_rng _ _ | exact i64_rng _ | exact Or.inl rfl | exact Or.inr rfl)) cf_L_state gw_609 rfl rfl (rmR hRf hRl (by decide) (by decide)) rfl rfl (Nat.le_of_ble_eq_true rfl) ⟨hRc, hRs⟩ gw_608 dL_law_456) rfl (fun zc M2 hP => ?_)
  obtain ⟨e29, hzc⟩ := pr_state (T := (t : Int)) (L := L0) (P := P) (N := N) (ct := ct) c9 hP
  refine r_istore (pc' := 461) (lc' := [(0, .ref b), (1, vR G (28, 0)), (2, vR G (29, 0)), (3, vR G (30, 0)), (4, vI (i : Int)), (5, vI zc)]) X [1, 2, 3, 4, 5, 0] dL_law_459 (by decide) rfl rfl ?_
  refine r_aload_n (pc' := 462) X 2 dL_law_461 rfl rfl rfl ?_
  refine r_aloadB_n (pc' := 463) X 0 dL_law_462 rfl rfl rfl ?_
  refine r_iload (pc' := 465) X 4 dL_law_463 rfl rfl ?_
  refine r_iconst (pc' := 466) X dL_law_465 rfl ?_
  refine r_iadd (pc' := 467) X dL_law_466 rfl ?_
  refine r_sld (i := i + 1) (pc' := 468) X hX hbl hbA (by omega) (by omega) (by omega) dL_law_467 rfl ?_
  refine r_aloadB_n (pc' := 469) X 0 dL_law_468 rfl rfl rfl ?_
  refine r_iload (pc' := 471) X 4 dL_law_469 rfl rfl ?_
  refine r_iconst (pc' := 472) X dL_law_471 rfl ?_
  refine r_iadd (pc' := 473) X dL_law_472 rfl ?_
  refine r_sld (i := i + 2) (pc' := 474) X hX hbl hbA (by omega) (by omega) (by omega) dL_law_473 rfl ?_
  refine w_calli (pc' := 477) (st := []) (w_runV X (c_X9_state l G M2 N P (M 19) c1 (by rw [e29]; exact c2) (M 0) (t : Int) c4.1 (by omega) (by rw [e29]; exact c4.2.2.2) c4.2.1 (sc xs (i + 1)) (sc xs (i + 2)) (by first | exact sc_rng _ _ | exact i64_rng _ | exact Or.inl rfl | exact Or.inr rfl) (by first | exact sc_rng _ _ | exact i64_rng _ | exact Or.inl rfl | exact Or.inr rfl)) cf_X9_state k29_0 rfl gw_1159 gw_1160 rfl rfl (rmR hRf hRl (by decide) (by decide)) rfl rfl (Nat.le_of_ble_eq_true rfl) ⟨by show _ + 0 ≤ _; omega, by show _ + 0 ≤ _; omega⟩ gw_1158 dL_law_474) rfl (fun rb M3 hR => ?_)
  obtain ⟨g1, g2, hgo⟩ := ag_state h hP hR
  refine r_istore (pc' := 479) (lc' := [(0, .ref b), (1, vR G (28, 0)), (2, vR G (29, 0)), (3, vR G (30, 0)), (4, vI (i : Int)), (5, vI zc), (6, vI rb)]) X [1, 2, 3, 4, 5, 6, 0] dL_law_477 (by decide) rfl rfl ?_
  refine r_aload_n (pc' := 480) X 2 dL_law_479 rfl rfl rfl ?_
  refine w_calli (pc' := 483) (st := []) (w_runV X (c_X9_thrown l G M3 ) cf_X9_thrown k29_0 rfl gw_1074 gw_1075 rfl rfl (rmR hRf hRl (by decide) (by decide)) rfl rfl (Nat.le_of_ble_eq_true rfl) ⟨by show _ + 0 ≤ _; omega, by show _ + 0 ≤ _; omega⟩ gw_1073 dL_law_480) rfl (fun z9 M4 h9 => ?_)
  obtain rfl := h9.1.symm
  obtain rfl := h9.2.symm
  refine r_iload (pc' := 485) X 5 dL_law_483 rfl rfl ?_
  refine r_icmp_eqE (tgt := 490) X (g1) dL_law_485 rfl ?_
  refine r_iload (pc' := 492) X 5 dL_law_490 rfl rfl ?_
  refine r_if_ne (pc' := 495) (tgt := 507) X dL_law_492 rfl rfl (by omega) (fun hz0 => ?_) (fun hz0 => ?_)
  · clear hz0
    refine r_goto (tgt := 2143) X dL_law_507 rfl ?_
    refine w_sub (lc' := [(0, .ref b), (1, vR G (28, 0)), (2, vR G (29, 0)), (3, vR G (30, 0)), (4, vI (i : Int))]) [0, 1, 2, 3, 4] rfl ?_
    exact next M3 hgo
  · have hz0 : zc = 0 := by omega
    refine r_aload_n (pc' := 496) X 3 dL_law_495 rfl rfl rfl ?_
    refine r_iconst (pc' := 497) X dL_law_496 rfl ?_
    refine r_lald (i := 0) (pc' := 498) X k30_0 (by omega) (by omega) (by decide) dL_law_497 rfl ?_
    refine r_iload (pc' := 500) X 6 dL_law_498 rfl rfl ?_
    refine r_i2lw (pc' := 501) X dL_law_500 rfl ?_
    refine r_lcmpE (pc' := 502) X (g2 hz0) dL_law_501 rfl ?_
    refine r_if_eq (pc' := 505) (tgt := 507) X dL_law_502 rfl rfl (by omega) (fun _ => ?_) (fun q => absurd rfl q)
    refine r_goto (tgt := 2143) X dL_law_507 rfl ?_
    refine w_sub (lc' := [(0, .ref b), (1, vR G (28, 0)), (2, vR G (29, 0)), (3, vR G (30, 0)), (4, vI (i : Int))]) [0, 1, 2, 3, 4] rfl ?_
    exact next M3 hgo
set_option maxRecDepth 100000 in
set_option maxHeartbeats 4000000 in
theorem lc_7 {p : Program} {l : Launch} {e : Env} {R : Room} {s : State} {m : MethodId} {args : Array Value} {below : List Frame} {meth : Method} {c : Code} {k n : Nat} {Q : State → Prop} {G : wG} {M : wM} {b Ls i t : Nat} {xs : Nat → Int32} (X : wX p s m args meth c G 8 "StateObserverLaw" cL_law) (hfl : l.stackTraces = false) (hX : va_X b Ls xs s s.heap) (hbl : b < s.heap.size) (hbA : ¬ wA G b) (hLs : Ls ≤ 2560) (hi : i + 5 ≤ Ls) (ht : t ≤ 600) (hLR : LR (t : Int) M) (hRf : 10 ≤ R.frames) (hRl : 430 ≤ R.locals) (hRc : k + 1 ≤ R.cells) (hRs : n + 6 ≤ R.slots) (next : ∀ M1, LR ((t : Int) + 1) M1 → wV p l e R s m args below meth c G 8 M1 (k + 1) (n + 6) Q 2143 [(0, .ref b), (1, vR G (28, 0)), (2, vR G (29, 0)), (3, vR G (30, 0)), (4, vI (i : Int))] []) : wV p l e R s m args below meth c G 8 M k n Q 510 [(0, .ref b), (1, vR G (28, 0)), (2, vR G (29, 0)), (3, vR G (30, 0)), (4, vI (i : Int))] [] := by
  obtain ⟨N, P, L0, nx, ct, h⟩ := hLR
  obtain ⟨c1, c2, c3, c4, c5, c6, c7, c8, c9, c10, c11, c12, c13, c14, c15⟩ := id h
  have hN4 : N ≤ 4 := c1.2.2.1
  have hP3 : P ≤ 3 := c1.2.2.2.2.2.1
  have hck : COk M N P (t : Int) := ⟨c1, c4.1, c4.2.1⟩
  refine r_aload_n (pc' := 511) X 1 dL_law_510 rfl rfl rfl ?_
  refine r_aloadB_n (pc' := 512) X 0 dL_law_511 rfl rfl rfl ?_
  refine r_iload (pc' := 514) X 4 dL_law_512 rfl rfl ?_
  refine r_iconst (pc' := 515) X dL_law_514 rfl ?_
  refine r_iadd (pc' := 516) X dL_law_515 rfl ?_
  refine r_sld (i := i + 1) (pc' := 517) X hX hbl hbA (by omega) (by omega) (by omega) dL_law_516 rfl ?_
  refine r_aloadB_n (pc' := 518) X 0 dL_law_517 rfl rfl rfl ?_
  refine r_iload (pc' := 520) X 4 dL_law_518 rfl rfl ?_
  refine r_iconst (pc' := 521) X dL_law_520 rfl ?_
  refine r_iadd (pc' := 522) X dL_law_521 rfl ?_
  refine r_sld (i := i + 2) (pc' := 523) X hX hbl hbA (by omega) (by omega) (by omega) dL_law_522 rfl ?_
  refine r_aload_n (pc' := 524) X 3 dL_law_523 rfl rfl rfl ?_
  refine w_calli (pc' := 527) (st := []) (w_runSH X (c_L_output l G M hfl N P (t : Int) hck (by omega) (sc xs (i + 1)) (sc xs (i + 2)) (by first | exact sc_rng _ _ | exact i64_rng _ | exact Or.inl rfl | exact Or.inr rfl) (by first | exact sc_rng _ _ | exact i64_rng _ | exact Or.inl rfl | exact Or.inr rfl)) cf_L_output gw_621 rfl rfl (rmR hRf hRl (by decide) (by decide)) rfl rfl (Nat.le_of_ble_eq_true rfl) ⟨hRc, hRs⟩ gw_620 dL_law_524) rfl (fun zc M2 hP => ?_)
  obtain ⟨e29, hzc⟩ := pr_output (T := (t : Int)) (L := L0) (P := P) (N := N) (ct := ct) c9 hP
  refine r_istore (pc' := 529) (lc' := [(0, .ref b), (1, vR G (28, 0)), (2, vR G (29, 0)), (3, vR G (30, 0)), (4, vI (i : Int)), (5, vI zc)]) X [1, 2, 3, 4, 5, 0] dL_law_527 (by decide) rfl rfl ?_
  refine r_aload_n (pc' := 530) X 2 dL_law_529 rfl rfl rfl ?_
  refine r_aloadB_n (pc' := 531) X 0 dL_law_530 rfl rfl rfl ?_
  refine r_iload (pc' := 533) X 4 dL_law_531 rfl rfl ?_
  refine r_iconst (pc' := 534) X dL_law_533 rfl ?_
  refine r_iadd (pc' := 535) X dL_law_534 rfl ?_
  refine r_sld (i := i + 1) (pc' := 536) X hX hbl hbA (by omega) (by omega) (by omega) dL_law_535 rfl ?_
  refine r_aloadB_n (pc' := 537) X 0 dL_law_536 rfl rfl rfl ?_
  refine r_iload (pc' := 539) X 4 dL_law_537 rfl rfl ?_
  refine r_iconst (pc' := 540) X dL_law_539 rfl ?_
  refine r_iadd (pc' := 541) X dL_law_540 rfl ?_
  refine r_sld (i := i + 2) (pc' := 542) X hX hbl hbA (by omega) (by omega) (by omega) dL_law_541 rfl ?_
  refine w_calli (pc' := 545) (st := []) (w_runV X (c_X9_output l G M2 N P (M 19) c1 (by rw [e29]; exact c2) (M 0) (t : Int) c4.1 (by omega) (by rw [e29]; exact c4.2.2.2) (sc xs (i + 1)) (sc xs (i + 2)) (by first | exact sc_rng _ _ | exact i64_rng _ | exact Or.inl rfl | exact Or.inr rfl) (by first | exact sc_rng _ _ | exact i64_rng _ | exact Or.inl rfl | exact Or.inr rfl)) cf_X9_output k29_0 rfl gw_1163 gw_1164 rfl rfl (rmR hRf hRl (by decide) (by decide)) rfl rfl (Nat.le_of_ble_eq_true rfl) ⟨by show _ + 0 ≤ _; omega, by show _ + 0 ≤ _; omega⟩ gw_1162 dL_law_542) rfl (fun rb M3 hR => ?_)
  obtain ⟨g1, g2, hgo⟩ := ag_output h hP hR
  refine r_istore (pc' := 547) (lc' := [(0, .ref b), (1, vR G (28, 0)), (2, vR G (29, 0)), (3, vR G (30, 0)), (4, vI (i : Int)), (5, vI zc), (6, vI rb)]) X [1, 2, 3, 4, 5, 6, 0] dL_law_545 (by decide) rfl rfl ?_
  refine r_aload_n (pc' := 548) X 2 dL_law_547 rfl rfl rfl ?_
  refine w_calli (pc' := 551) (st := []) (w_runV X (c_X9_thrown l G M3 ) cf_X9_thrown k29_0 rfl gw_1074 gw_1075 rfl rfl (rmR hRf hRl (by decide) (by decide)) rfl rfl (Nat.le_of_ble_eq_true rfl) ⟨by show _ + 0 ≤ _; omega, by show _ + 0 ≤ _; omega⟩ gw_1073 dL_law_548) rfl (fun z9 M4 h9 => ?_)
  obtain rfl := h9.1.symm
  obtain rfl := h9.2.symm
  refine r_iload (pc' := 553) X 5 dL_law_551 rfl rfl ?_
  refine r_icmp_eqE (tgt := 558) X (g1) dL_law_553 rfl ?_
  refine r_iload (pc' := 560) X 5 dL_law_558 rfl rfl ?_
  refine r_if_ne (pc' := 563) (tgt := 575) X dL_law_560 rfl rfl (by omega) (fun hz0 => ?_) (fun hz0 => ?_)
  · clear hz0
    refine r_goto (tgt := 2143) X dL_law_575 rfl ?_
    refine w_sub (lc' := [(0, .ref b), (1, vR G (28, 0)), (2, vR G (29, 0)), (3, vR G (30, 0)), (4, vI (i : Int))]) [0, 1, 2, 3, 4] rfl ?_
    exact next M3 hgo
  · have hz0 : zc = 0 := by omega
    refine r_aload_n (pc' := 564) X 3 dL_law_563 rfl rfl rfl ?_
    refine r_iconst (pc' := 565) X dL_law_564 rfl ?_
    refine r_lald (i := 0) (pc' := 566) X k30_0 (by omega) (by omega) (by decide) dL_law_565 rfl ?_
    refine r_iload (pc' := 568) X 6 dL_law_566 rfl rfl ?_
    refine r_i2lw (pc' := 569) X dL_law_568 rfl ?_
    refine r_lcmpE (pc' := 570) X (g2 hz0) dL_law_569 rfl ?_
    refine r_if_eq (pc' := 573) (tgt := 575) X dL_law_570 rfl rfl (by omega) (fun _ => ?_) (fun q => absurd rfl q)
    refine r_goto (tgt := 2143) X dL_law_575 rfl ?_
    refine w_sub (lc' := [(0, .ref b), (1, vR G (28, 0)), (2, vR G (29, 0)), (3, vR G (30, 0)), (4, vI (i : Int))]) [0, 1, 2, 3, 4] rfl ?_
    exact next M3 hgo
set_option maxRecDepth 100000 in
set_option maxHeartbeats 4000000 in
theorem lc_8 {p : Program} {l : Launch} {e : Env} {R : Room} {s : State} {m : MethodId} {args : Array Value} {below : List Frame} {meth : Method} {c : Code} {k n : Nat} {Q : State → Prop} {G : wG} {M : wM} {b Ls i t : Nat} {xs : Nat → Int32} (X : wX p s m args meth c G 8 "StateObserverLaw" cL_law) (hfl : l.stackTraces = false) (hX : va_X b Ls xs s s.heap) (hbl : b < s.heap.size) (hbA : ¬ wA G b) (hLs : Ls ≤ 2560) (hi : i + 5 ≤ Ls) (ht : t ≤ 600) (hLR : LR (t : Int) M) (hRf : 10 ≤ R.frames) (hRl : 430 ≤ R.locals) (hRc : k + 1 ≤ R.cells) (hRs : n + 6 ≤ R.slots) (next : ∀ M1, LR ((t : Int) + 1) M1 → wV p l e R s m args below meth c G 8 M1 (k + 1) (n + 6) Q 2143 [(0, .ref b), (1, vR G (28, 0)), (2, vR G (29, 0)), (3, vR G (30, 0)), (4, vI (i : Int))] []) : wV p l e R s m args below meth c G 8 M k n Q 578 [(0, .ref b), (1, vR G (28, 0)), (2, vR G (29, 0)), (3, vR G (30, 0)), (4, vI (i : Int))] [] := by
  obtain ⟨N, P, L0, nx, ct, h⟩ := hLR
  obtain ⟨c1, c2, c3, c4, c5, c6, c7, c8, c9, c10, c11, c12, c13, c14, c15⟩ := id h
  have hN4 : N ≤ 4 := c1.2.2.1
  have hP3 : P ≤ 3 := c1.2.2.2.2.2.1
  have hck : COk M N P (t : Int) := ⟨c1, c4.1, c4.2.1⟩
  refine r_aload_n (pc' := 579) X 1 dL_law_578 rfl rfl rfl ?_
  refine w_calli (pc' := 582) (st := []) (w_runV X (c_X8_width l G M N P (t : Int) hck (by omega)) cf_X8_width k28_0 rfl gw_374 gw_375 rfl rfl (rmR hRf hRl (by decide) (by decide)) rfl rfl (Nat.le_of_ble_eq_true rfl) ⟨by show _ + 0 ≤ _; omega, by show _ + 0 ≤ _; omega⟩ gw_373 dL_law_579) rfl (fun zc M2 hP => ?_)
  have e29 := pr_width (P := P) (L := L0) (N := N) hP
  refine r_aload_n (pc' := 583) X 2 dL_law_582 rfl rfl rfl ?_
  refine w_calli (pc' := 586) (st := [vI zc]) (w_runV X (c_X9_width l G M2 N P (M 19) c1 (by rw [e29]; exact c2) (M 0) (t : Int) c4.1 (by omega) (by rw [e29]; exact c4.2.2.2)) cf_X9_width k29_0 rfl gw_1175 gw_1176 rfl rfl (rmR hRf hRl (by decide) (by decide)) rfl rfl (Nat.le_of_ble_eq_true rfl) ⟨by show _ + 0 ≤ _; omega, by show _ + 0 ≤ _; omega⟩ gw_1174 dL_law_583) rfl (fun rb M3 hR => ?_)
  obtain ⟨hveq, hgo⟩ := ag_width h hP hR
  refine r_icmp_eqE (tgt := 2143) X (hveq) dL_law_586 rfl ?_
  refine w_wid (k' := k + 1) (n' := n + 6) (by omega) (by omega) ?_
  exact next M3 hgo
set_option maxRecDepth 100000 in
set_option maxHeartbeats 4000000 in
theorem lc_9 {p : Program} {l : Launch} {e : Env} {R : Room} {s : State} {m : MethodId} {args : Array Value} {below : List Frame} {meth : Method} {c : Code} {k n : Nat} {Q : State → Prop} {G : wG} {M : wM} {b Ls i t : Nat} {xs : Nat → Int32} (X : wX p s m args meth c G 8 "StateObserverLaw" cL_law) (hfl : l.stackTraces = false) (hX : va_X b Ls xs s s.heap) (hbl : b < s.heap.size) (hbA : ¬ wA G b) (hLs : Ls ≤ 2560) (hi : i + 5 ≤ Ls) (ht : t ≤ 600) (hLR : LR (t : Int) M) (hRf : 10 ≤ R.frames) (hRl : 430 ≤ R.locals) (hRc : k + 1 ≤ R.cells) (hRs : n + 6 ≤ R.slots) (next : ∀ M1, LR ((t : Int) + 1) M1 → wV p l e R s m args below meth c G 8 M1 (k + 1) (n + 6) Q 2143 [(0, .ref b), (1, vR G (28, 0)), (2, vR G (29, 0)), (3, vR G (30, 0)), (4, vI (i : Int))] []) : wV p l e R s m args below meth c G 8 M k n Q 591 [(0, .ref b), (1, vR G (28, 0)), (2, vR G (29, 0)), (3, vR G (30, 0)), (4, vI (i : Int))] [] := by
  obtain ⟨N, P, L0, nx, ct, h⟩ := hLR
  obtain ⟨c1, c2, c3, c4, c5, c6, c7, c8, c9, c10, c11, c12, c13, c14, c15⟩ := id h
  have hN4 : N ≤ 4 := c1.2.2.1
  have hP3 : P ≤ 3 := c1.2.2.2.2.2.1
  have hck : COk M N P (t : Int) := ⟨c1, c4.1, c4.2.1⟩
  refine r_aload_n (pc' := 592) X 1 dL_law_591 rfl rfl rfl ?_
  refine r_aloadB_n (pc' := 593) X 0 dL_law_592 rfl rfl rfl ?_
  refine r_iload (pc' := 595) X 4 dL_law_593 rfl rfl ?_
  refine r_iconst (pc' := 596) X dL_law_595 rfl ?_
  refine r_iadd (pc' := 597) X dL_law_596 rfl ?_
  refine r_sld (i := i + 1) (pc' := 598) X hX hbl hbA (by omega) (by omega) (by omega) dL_law_597 rfl ?_
  refine r_aloadB_n (pc' := 599) X 0 dL_law_598 rfl rfl rfl ?_
  refine r_iload (pc' := 601) X 4 dL_law_599 rfl rfl ?_
  refine r_iconst (pc' := 602) X dL_law_601 rfl ?_
  refine r_iadd (pc' := 603) X dL_law_602 rfl ?_
  refine r_sld (i := i + 2) (pc' := 604) X hX hbl hbA (by omega) (by omega) (by omega) dL_law_603 rfl ?_
  refine r_aload_n (pc' := 605) X 3 dL_law_604 rfl rfl rfl ?_
  refine w_calli (pc' := 608) (st := []) (w_runSH X (c_L_place l G M hfl N P (t : Int) hck (by omega) nx ct c8 c9 c10 c12 (sc xs (i + 1)) (sc xs (i + 2)) (by first | exact sc_rng _ _ | exact i64_rng _ | exact Or.inl rfl | exact Or.inr rfl) (by first | exact sc_rng _ _ | exact i64_rng _ | exact Or.inl rfl | exact Or.inr rfl)) cf_L_place gw_645 rfl rfl (rmR hRf hRl (by decide) (by decide)) rfl rfl (Nat.le_of_ble_eq_true rfl) ⟨hRc, hRs⟩ gw_644 dL_law_605) rfl (fun zc M2 hP => ?_)
  obtain ⟨e29, hzc⟩ := pr_place (T := (t : Int)) (L := L0) (P := P) (N := N) (ct := ct) c9 hP
  refine r_istore (pc' := 610) (lc' := [(0, .ref b), (1, vR G (28, 0)), (2, vR G (29, 0)), (3, vR G (30, 0)), (4, vI (i : Int)), (5, vI zc)]) X [1, 2, 3, 4, 5, 0] dL_law_608 (by decide) rfl rfl ?_
  refine r_aload_n (pc' := 611) X 2 dL_law_610 rfl rfl rfl ?_
  refine r_aloadB_n (pc' := 612) X 0 dL_law_611 rfl rfl rfl ?_
  refine r_iload (pc' := 614) X 4 dL_law_612 rfl rfl ?_
  refine r_iconst (pc' := 615) X dL_law_614 rfl ?_
  refine r_iadd (pc' := 616) X dL_law_615 rfl ?_
  refine r_sld (i := i + 1) (pc' := 617) X hX hbl hbA (by omega) (by omega) (by omega) dL_law_616 rfl ?_
  refine r_aloadB_n (pc' := 618) X 0 dL_law_617 rfl rfl rfl ?_
  refine r_iload (pc' := 620) X 4 dL_law_618 rfl rfl ?_
  refine r_iconst (pc' := 621) X dL_law_620 rfl ?_
  refine r_iadd (pc' := 622) X dL_law_621 rfl ?_
  refine r_sld (i := i + 2) (pc' := 623) X hX hbl hbA (by omega) (by omega) (by omega) dL_law_622 rfl ?_
  refine w_calli (pc' := 626) (st := []) (w_runV X (c_X9_place l G M2 N P (M 19) c1 (by rw [e29]; exact c2) (M 0) (t : Int) c4.1 (by omega) (by rw [e29]; exact c4.2.2.2) c4.2.2.1 ct (by rw [e29]; exact c11) c12 (sc xs (i + 1)) (sc xs (i + 2)) (by first | exact sc_rng _ _ | exact i64_rng _ | exact Or.inl rfl | exact Or.inr rfl) (by first | exact sc_rng _ _ | exact i64_rng _ | exact Or.inl rfl | exact Or.inr rfl)) cf_X9_place k29_0 rfl gw_1183 gw_1184 rfl rfl (rmR hRf hRl (by decide) (by decide)) rfl rfl (Nat.le_of_ble_eq_true rfl) ⟨by show _ + 0 ≤ _; omega, by show _ + 0 ≤ _; omega⟩ gw_1182 dL_law_623) rfl (fun rb M3 hR => ?_)
  obtain ⟨g1, g2, hgo⟩ := ag_place h hP hR
  refine r_istore (pc' := 628) (lc' := [(0, .ref b), (1, vR G (28, 0)), (2, vR G (29, 0)), (3, vR G (30, 0)), (4, vI (i : Int)), (5, vI zc), (6, vI rb)]) X [1, 2, 3, 4, 5, 6, 0] dL_law_626 (by decide) rfl rfl ?_
  refine r_aload_n (pc' := 629) X 2 dL_law_628 rfl rfl rfl ?_
  refine w_calli (pc' := 632) (st := []) (w_runV X (c_X9_thrown l G M3 ) cf_X9_thrown k29_0 rfl gw_1074 gw_1075 rfl rfl (rmR hRf hRl (by decide) (by decide)) rfl rfl (Nat.le_of_ble_eq_true rfl) ⟨by show _ + 0 ≤ _; omega, by show _ + 0 ≤ _; omega⟩ gw_1073 dL_law_629) rfl (fun z9 M4 h9 => ?_)
  obtain rfl := h9.1.symm
  obtain rfl := h9.2.symm
  refine r_iload (pc' := 634) X 5 dL_law_632 rfl rfl ?_
  refine r_icmp_eqE (tgt := 639) X (g1) dL_law_634 rfl ?_
  refine r_iload (pc' := 641) X 5 dL_law_639 rfl rfl ?_
  refine r_if_ne (pc' := 644) (tgt := 656) X dL_law_641 rfl rfl (by omega) (fun hz0 => ?_) (fun hz0 => ?_)
  · clear hz0
    refine r_goto (tgt := 2143) X dL_law_656 rfl ?_
    refine w_sub (lc' := [(0, .ref b), (1, vR G (28, 0)), (2, vR G (29, 0)), (3, vR G (30, 0)), (4, vI (i : Int))]) [0, 1, 2, 3, 4] rfl ?_
    exact next M3 hgo
  · have hz0 : zc = 0 := by omega
    refine r_aload_n (pc' := 645) X 3 dL_law_644 rfl rfl rfl ?_
    refine r_iconst (pc' := 646) X dL_law_645 rfl ?_
    refine r_lald (i := 0) (pc' := 647) X k30_0 (by omega) (by omega) (by decide) dL_law_646 rfl ?_
    refine r_iload (pc' := 649) X 6 dL_law_647 rfl rfl ?_
    refine r_i2lw (pc' := 650) X dL_law_649 rfl ?_
    refine r_lcmpE (pc' := 651) X (g2 hz0) dL_law_650 rfl ?_
    refine r_if_eq (pc' := 654) (tgt := 656) X dL_law_651 rfl rfl (by omega) (fun _ => ?_) (fun q => absurd rfl q)
    refine r_goto (tgt := 2143) X dL_law_656 rfl ?_
    refine w_sub (lc' := [(0, .ref b), (1, vR G (28, 0)), (2, vR G (29, 0)), (3, vR G (30, 0)), (4, vI (i : Int))]) [0, 1, 2, 3, 4] rfl ?_
    exact next M3 hgo
set_option maxRecDepth 100000 in
set_option maxHeartbeats 4000000 in
theorem lc_10 {p : Program} {l : Launch} {e : Env} {R : Room} {s : State} {m : MethodId} {args : Array Value} {below : List Frame} {meth : Method} {c : Code} {k n : Nat} {Q : State → Prop} {G : wG} {M : wM} {b Ls i t : Nat} {xs : Nat → Int32} (X : wX p s m args meth c G 8 "StateObserverLaw" cL_law) (hfl : l.stackTraces = false) (hX : va_X b Ls xs s s.heap) (hbl : b < s.heap.size) (hbA : ¬ wA G b) (hLs : Ls ≤ 2560) (hi : i + 5 ≤ Ls) (ht : t ≤ 600) (hLR : LR (t : Int) M) (hRf : 10 ≤ R.frames) (hRl : 430 ≤ R.locals) (hRc : k + 1 ≤ R.cells) (hRs : n + 6 ≤ R.slots) (next : ∀ M1, LR ((t : Int) + 1) M1 → wV p l e R s m args below meth c G 8 M1 (k + 1) (n + 6) Q 2143 [(0, .ref b), (1, vR G (28, 0)), (2, vR G (29, 0)), (3, vR G (30, 0)), (4, vI (i : Int))] []) : wV p l e R s m args below meth c G 8 M k n Q 659 [(0, .ref b), (1, vR G (28, 0)), (2, vR G (29, 0)), (3, vR G (30, 0)), (4, vI (i : Int))] [] := by
  obtain ⟨N, P, L0, nx, ct, h⟩ := hLR
  obtain ⟨c1, c2, c3, c4, c5, c6, c7, c8, c9, c10, c11, c12, c13, c14, c15⟩ := id h
  have hN4 : N ≤ 4 := c1.2.2.1
  have hP3 : P ≤ 3 := c1.2.2.2.2.2.1
  have hck : COk M N P (t : Int) := ⟨c1, c4.1, c4.2.1⟩
  refine r_aload_n (pc' := 660) X 1 dL_law_659 rfl rfl rfl ?_
  refine r_aloadB_n (pc' := 661) X 0 dL_law_660 rfl rfl rfl ?_
  refine r_iload (pc' := 663) X 4 dL_law_661 rfl rfl ?_
  refine r_iconst (pc' := 664) X dL_law_663 rfl ?_
  refine r_iadd (pc' := 665) X dL_law_664 rfl ?_
  refine r_sld (i := i + 1) (pc' := 666) X hX hbl hbA (by omega) (by omega) (by omega) dL_law_665 rfl ?_
  refine r_aloadB_n (pc' := 667) X 0 dL_law_666 rfl rfl rfl ?_
  refine r_iload (pc' := 669) X 4 dL_law_667 rfl rfl ?_
  refine r_iconst (pc' := 670) X dL_law_669 rfl ?_
  refine r_iadd (pc' := 671) X dL_law_670 rfl ?_
  refine r_sld (i := i + 2) (pc' := 672) X hX hbl hbA (by omega) (by omega) (by omega) dL_law_671 rfl ?_
  refine r_aload_n (pc' := 673) X 3 dL_law_672 rfl rfl rfl ?_
  refine w_calli (pc' := 676) (st := []) (w_runSH X (c_L_step l G M hfl N P (t : Int) hck (by omega) nx ct c8 c9 c10 c12 (sc xs (i + 1)) (sc xs (i + 2)) (by first | exact sc_rng _ _ | exact i64_rng _ | exact Or.inl rfl | exact Or.inr rfl) (by first | exact sc_rng _ _ | exact i64_rng _ | exact Or.inl rfl | exact Or.inr rfl)) cf_L_step gw_664 rfl rfl (rmR hRf hRl (by decide) (by decide)) rfl rfl (Nat.le_of_ble_eq_true rfl) ⟨hRc, hRs⟩ gw_663 dL_law_673) rfl (fun zc M2 hP => ?_)
  obtain ⟨e29, hzc⟩ := pr_step (T := (t : Int)) (L := L0) (P := P) (N := N) (ct := ct) c9 hP
  refine r_istore (pc' := 678) (lc' := [(0, .ref b), (1, vR G (28, 0)), (2, vR G (29, 0)), (3, vR G (30, 0)), (4, vI (i : Int)), (5, vI zc)]) X [1, 2, 3, 4, 5, 0] dL_law_676 (by decide) rfl rfl ?_
  refine r_aload_n (pc' := 679) X 2 dL_law_678 rfl rfl rfl ?_
  refine r_aloadB_n (pc' := 680) X 0 dL_law_679 rfl rfl rfl ?_
  refine r_iload (pc' := 682) X 4 dL_law_680 rfl rfl ?_
  refine r_iconst (pc' := 683) X dL_law_682 rfl ?_
  refine r_iadd (pc' := 684) X dL_law_683 rfl ?_
  refine r_sld (i := i + 1) (pc' := 685) X hX hbl hbA (by omega) (by omega) (by omega) dL_law_684 rfl ?_
  refine r_aloadB_n (pc' := 686) X 0 dL_law_685 rfl rfl rfl ?_
  refine r_iload (pc' := 688) X 4 dL_law_686 rfl rfl ?_
  refine r_iconst (pc' := 689) X dL_law_688 rfl ?_
  refine r_iadd (pc' := 690) X dL_law_689 rfl ?_
  refine r_sld (i := i + 2) (pc' := 691) X hX hbl hbA (by omega) (by omega) (by omega) dL_law_690 rfl ?_
  refine w_calli (pc' := 694) (st := []) (w_runV X (c_X9_step l G M2 N P (M 19) c1 (by rw [e29]; exact c2) (M 0) (t : Int) c4.1 (by omega) (by rw [e29]; exact c4.2.2.2) c4.2.1 ct (by rw [e29]; exact c11) c12 (sc xs (i + 1)) (sc xs (i + 2)) (by first | exact sc_rng _ _ | exact i64_rng _ | exact Or.inl rfl | exact Or.inr rfl) (by first | exact sc_rng _ _ | exact i64_rng _ | exact Or.inl rfl | exact Or.inr rfl)) cf_X9_step k29_0 rfl gw_1203 gw_1204 rfl rfl (rmR hRf hRl (by decide) (by decide)) rfl rfl (Nat.le_of_ble_eq_true rfl) ⟨by show _ + 0 ≤ _; omega, by show _ + 0 ≤ _; omega⟩ gw_1202 dL_law_691) rfl (fun rb M3 hR => ?_)
  obtain ⟨g1, g2, hgo⟩ := ag_step h hP hR
  refine r_istore (pc' := 696) (lc' := [(0, .ref b), (1, vR G (28, 0)), (2, vR G (29, 0)), (3, vR G (30, 0)), (4, vI (i : Int)), (5, vI zc), (6, vI rb)]) X [1, 2, 3, 4, 5, 6, 0] dL_law_694 (by decide) rfl rfl ?_
  refine r_aload_n (pc' := 697) X 2 dL_law_696 rfl rfl rfl ?_
  refine w_calli (pc' := 700) (st := []) (w_runV X (c_X9_thrown l G M3 ) cf_X9_thrown k29_0 rfl gw_1074 gw_1075 rfl rfl (rmR hRf hRl (by decide) (by decide)) rfl rfl (Nat.le_of_ble_eq_true rfl) ⟨by show _ + 0 ≤ _; omega, by show _ + 0 ≤ _; omega⟩ gw_1073 dL_law_697) rfl (fun z9 M4 h9 => ?_)
  obtain rfl := h9.1.symm
  obtain rfl := h9.2.symm
  refine r_iload (pc' := 702) X 5 dL_law_700 rfl rfl ?_
  refine r_icmp_eqE (tgt := 707) X (g1) dL_law_702 rfl ?_
  refine r_iload (pc' := 709) X 5 dL_law_707 rfl rfl ?_
  refine r_if_ne (pc' := 712) (tgt := 724) X dL_law_709 rfl rfl (by omega) (fun hz0 => ?_) (fun hz0 => ?_)
  · clear hz0
    refine r_goto (tgt := 2143) X dL_law_724 rfl ?_
    refine w_sub (lc' := [(0, .ref b), (1, vR G (28, 0)), (2, vR G (29, 0)), (3, vR G (30, 0)), (4, vI (i : Int))]) [0, 1, 2, 3, 4] rfl ?_
    exact next M3 hgo
  · have hz0 : zc = 0 := by omega
    refine r_aload_n (pc' := 713) X 3 dL_law_712 rfl rfl rfl ?_
    refine r_iconst (pc' := 714) X dL_law_713 rfl ?_
    refine r_lald (i := 0) (pc' := 715) X k30_0 (by omega) (by omega) (by decide) dL_law_714 rfl ?_
    refine r_iload (pc' := 717) X 6 dL_law_715 rfl rfl ?_
    refine r_i2lw (pc' := 718) X dL_law_717 rfl ?_
    refine r_lcmpE (pc' := 719) X (g2 hz0) dL_law_718 rfl ?_
    refine r_if_eq (pc' := 722) (tgt := 724) X dL_law_719 rfl rfl (by omega) (fun _ => ?_) (fun q => absurd rfl q)
    refine r_goto (tgt := 2143) X dL_law_724 rfl ?_
    refine w_sub (lc' := [(0, .ref b), (1, vR G (28, 0)), (2, vR G (29, 0)), (3, vR G (30, 0)), (4, vI (i : Int))]) [0, 1, 2, 3, 4] rfl ?_
    exact next M3 hgo
set_option maxRecDepth 100000 in
set_option maxHeartbeats 4000000 in
theorem lc_11 {p : Program} {l : Launch} {e : Env} {R : Room} {s : State} {m : MethodId} {args : Array Value} {below : List Frame} {meth : Method} {c : Code} {k n : Nat} {Q : State → Prop} {G : wG} {M : wM} {b Ls i t : Nat} {xs : Nat → Int32} (X : wX p s m args meth c G 8 "StateObserverLaw" cL_law) (hfl : l.stackTraces = false) (hX : va_X b Ls xs s s.heap) (hbl : b < s.heap.size) (hbA : ¬ wA G b) (hLs : Ls ≤ 2560) (hi : i + 5 ≤ Ls) (ht : t ≤ 600) (hLR : LR (t : Int) M) (hRf : 10 ≤ R.frames) (hRl : 430 ≤ R.locals) (hRc : k + 1 ≤ R.cells) (hRs : n + 6 ≤ R.slots) (next : ∀ M1, LR ((t : Int) + 1) M1 → wV p l e R s m args below meth c G 8 M1 (k + 1) (n + 6) Q 2143 [(0, .ref b), (1, vR G (28, 0)), (2, vR G (29, 0)), (3, vR G (30, 0)), (4, vI (i : Int))] []) : wV p l e R s m args below meth c G 8 M k n Q 727 [(0, .ref b), (1, vR G (28, 0)), (2, vR G (29, 0)), (3, vR G (30, 0)), (4, vI (i : Int))] [] := by
  obtain ⟨N, P, L0, nx, ct, h⟩ := hLR
  obtain ⟨c1, c2, c3, c4, c5, c6, c7, c8, c9, c10, c11, c12, c13, c14, c15⟩ := id h
  have hN4 : N ≤ 4 := c1.2.2.1
  have hP3 : P ≤ 3 := c1.2.2.2.2.2.1
  have hck : COk M N P (t : Int) := ⟨c1, c4.1, c4.2.1⟩
  refine r_aload_n (pc' := 728) X 1 dL_law_727 rfl rfl rfl ?_
  refine r_aloadB_n (pc' := 729) X 0 dL_law_728 rfl rfl rfl ?_
  refine r_iload (pc' := 731) X 4 dL_law_729 rfl rfl ?_
  refine r_iconst (pc' := 732) X dL_law_731 rfl ?_
  refine r_iadd (pc' := 733) X dL_law_732 rfl ?_
  refine r_sld (i := i + 1) (pc' := 734) X hX hbl hbA (by omega) (by omega) (by omega) dL_law_733 rfl ?_
  refine r_aload_n (pc' := 735) X 3 dL_law_734 rfl rfl rfl ?_
  refine w_calli (pc' := 738) (st := []) (w_runSH X (c_L_read l G M hfl N P (t : Int) hck (by omega) nx ct c8 c9 c10 c12 (by omega) (sc xs (i + 1)) (by first | exact sc_rng _ _ | exact i64_rng _ | exact Or.inl rfl | exact Or.inr rfl)) cf_L_read gw_715 rfl rfl (rmR hRf hRl (by decide) (by decide)) rfl rfl (Nat.le_of_ble_eq_true rfl) ⟨hRc, hRs⟩ gw_714 dL_law_735) rfl (fun zc M2 hP => ?_)
  obtain ⟨e29, hzc⟩ := pr_read (T := (t : Int)) (L := L0) (P := P) (N := N) (ct := ct) c9 hP
  refine r_istore (pc' := 740) (lc' := [(0, .ref b), (1, vR G (28, 0)), (2, vR G (29, 0)), (3, vR G (30, 0)), (4, vI (i : Int)), (5, vI zc)]) X [1, 2, 3, 4, 5, 0] dL_law_738 (by decide) rfl rfl ?_
  refine r_aload_n (pc' := 741) X 2 dL_law_740 rfl rfl rfl ?_
  refine r_aloadB_n (pc' := 742) X 0 dL_law_741 rfl rfl rfl ?_
  refine r_iload (pc' := 744) X 4 dL_law_742 rfl rfl ?_
  refine r_iconst (pc' := 745) X dL_law_744 rfl ?_
  refine r_iadd (pc' := 746) X dL_law_745 rfl ?_
  refine r_sld (i := i + 1) (pc' := 747) X hX hbl hbA (by omega) (by omega) (by omega) dL_law_746 rfl ?_
  refine w_calli (pc' := 750) (st := []) (w_runV X (c_X9_read l G M2 N P (M 19) c1 (by rw [e29]; exact c2) (M 0) (t : Int) c4.1 (by omega) (by rw [e29]; exact c4.2.2.2) c4.2.1 ct (by rw [e29]; exact c11) c12 (sc xs (i + 1)) (by first | exact sc_rng _ _ | exact i64_rng _ | exact Or.inl rfl | exact Or.inr rfl)) cf_X9_read k29_0 rfl gw_1231 gw_1232 rfl rfl (rmR hRf hRl (by decide) (by decide)) rfl rfl (Nat.le_of_ble_eq_true rfl) ⟨by show _ + 0 ≤ _; omega, by show _ + 0 ≤ _; omega⟩ gw_1230 dL_law_747) rfl (fun rb M3 hR => ?_)
  obtain ⟨g1, g2, hgo⟩ := ag_read h (by omega) hP hR
  refine r_istore (pc' := 752) (lc' := [(0, .ref b), (1, vR G (28, 0)), (2, vR G (29, 0)), (3, vR G (30, 0)), (4, vI (i : Int)), (5, vI zc), (6, vI rb)]) X [1, 2, 3, 4, 5, 6, 0] dL_law_750 (by decide) rfl rfl ?_
  refine r_aload_n (pc' := 753) X 2 dL_law_752 rfl rfl rfl ?_
  refine w_calli (pc' := 756) (st := []) (w_runV X (c_X9_thrown l G M3 ) cf_X9_thrown k29_0 rfl gw_1074 gw_1075 rfl rfl (rmR hRf hRl (by decide) (by decide)) rfl rfl (Nat.le_of_ble_eq_true rfl) ⟨by show _ + 0 ≤ _; omega, by show _ + 0 ≤ _; omega⟩ gw_1073 dL_law_753) rfl (fun z9 M4 h9 => ?_)
  obtain rfl := h9.1.symm
  obtain rfl := h9.2.symm
  refine r_iload (pc' := 758) X 5 dL_law_756 rfl rfl ?_
  refine r_icmp_eqE (tgt := 763) X (g1) dL_law_758 rfl ?_
  refine r_iload (pc' := 765) X 5 dL_law_763 rfl rfl ?_
  refine r_if_ne (pc' := 768) (tgt := 780) X dL_law_765 rfl rfl (by omega) (fun hz0 => ?_) (fun hz0 => ?_)
  · clear hz0
    refine r_goto (tgt := 2143) X dL_law_780 rfl ?_
    refine w_sub (lc' := [(0, .ref b), (1, vR G (28, 0)), (2, vR G (29, 0)), (3, vR G (30, 0)), (4, vI (i : Int))]) [0, 1, 2, 3, 4] rfl ?_
    exact next M3 hgo
  · have hz0 : zc = 0 := by omega
    refine r_aload_n (pc' := 769) X 3 dL_law_768 rfl rfl rfl ?_
    refine r_iconst (pc' := 770) X dL_law_769 rfl ?_
    refine r_lald (i := 0) (pc' := 771) X k30_0 (by omega) (by omega) (by decide) dL_law_770 rfl ?_
    refine r_iload (pc' := 773) X 6 dL_law_771 rfl rfl ?_
    refine r_i2lw (pc' := 774) X dL_law_773 rfl ?_
    refine r_lcmpE (pc' := 775) X (g2 hz0) dL_law_774 rfl ?_
    refine r_if_eq (pc' := 778) (tgt := 780) X dL_law_775 rfl rfl (by omega) (fun _ => ?_) (fun q => absurd rfl q)
    refine r_goto (tgt := 2143) X dL_law_780 rfl ?_
    refine w_sub (lc' := [(0, .ref b), (1, vR G (28, 0)), (2, vR G (29, 0)), (3, vR G (30, 0)), (4, vI (i : Int))]) [0, 1, 2, 3, 4] rfl ?_
    exact next M3 hgo
set_option maxRecDepth 100000 in
set_option maxHeartbeats 4000000 in
theorem lc_12 {p : Program} {l : Launch} {e : Env} {R : Room} {s : State} {m : MethodId} {args : Array Value} {below : List Frame} {meth : Method} {c : Code} {k n : Nat} {Q : State → Prop} {G : wG} {M : wM} {b Ls i t : Nat} {xs : Nat → Int32} (X : wX p s m args meth c G 8 "StateObserverLaw" cL_law) (hfl : l.stackTraces = false) (hX : va_X b Ls xs s s.heap) (hbl : b < s.heap.size) (hbA : ¬ wA G b) (hLs : Ls ≤ 2560) (hi : i + 5 ≤ Ls) (ht : t ≤ 600) (hLR : LR (t : Int) M) (hRf : 10 ≤ R.frames) (hRl : 430 ≤ R.locals) (hRc : k + 1 ≤ R.cells) (hRs : n + 6 ≤ R.slots) (next : ∀ M1, LR ((t : Int) + 1) M1 → wV p l e R s m args below meth c G 8 M1 (k + 1) (n + 6) Q 2143 [(0, .ref b), (1, vR G (28, 0)), (2, vR G (29, 0)), (3, vR G (30, 0)), (4, vI (i : Int))] []) : wV p l e R s m args below meth c G 8 M k n Q 783 [(0, .ref b), (1, vR G (28, 0)), (2, vR G (29, 0)), (3, vR G (30, 0)), (4, vI (i : Int))] [] := by
  obtain ⟨N, P, L0, nx, ct, h⟩ := hLR
  obtain ⟨c1, c2, c3, c4, c5, c6, c7, c8, c9, c10, c11, c12, c13, c14, c15⟩ := id h
  have hN4 : N ≤ 4 := c1.2.2.1
  have hP3 : P ≤ 3 := c1.2.2.2.2.2.1
  have hck : COk M N P (t : Int) := ⟨c1, c4.1, c4.2.1⟩
  refine r_aload_n (pc' := 784) X 1 dL_law_783 rfl rfl rfl ?_
  refine r_aloadB_n (pc' := 785) X 0 dL_law_784 rfl rfl rfl ?_
  refine r_iload (pc' := 787) X 4 dL_law_785 rfl rfl ?_
  refine r_iconst (pc' := 788) X dL_law_787 rfl ?_
  refine r_iadd (pc' := 789) X dL_law_788 rfl ?_
  refine r_sld (i := i + 1) (pc' := 790) X hX hbl hbA (by omega) (by omega) (by omega) dL_law_789 rfl ?_
  refine r_aloadB_n (pc' := 791) X 0 dL_law_790 rfl rfl rfl ?_
  refine r_iload (pc' := 793) X 4 dL_law_791 rfl rfl ?_
  refine r_iconst (pc' := 794) X dL_law_793 rfl ?_
  refine r_iadd (pc' := 795) X dL_law_794 rfl ?_
  refine r_sld (i := i + 2) (pc' := 796) X hX hbl hbA (by omega) (by omega) (by omega) dL_law_795 rfl ?_
  refine r_aload_n (pc' := 797) X 3 dL_law_796 rfl rfl rfl ?_
  refine w_calli (pc' := 800) (st := []) (w_runSH X (c_L_shave l G M hfl N P (t : Int) hck (by omega) nx ct c8 c9 c10 c12 c4.2.2.1 (sc xs (i + 1)) (sc xs (i + 2)) (by first | exact sc_rng _ _ | exact i64_rng _ | exact Or.inl rfl | exact Or.inr rfl) (by first | exact sc_rng _ _ | exact i64_rng _ | exact Or.inl rfl | exact Or.inr rfl)) cf_L_shave gw_743 rfl rfl (rmR hRf hRl (by decide) (by decide)) rfl rfl (Nat.le_of_ble_eq_true rfl) ⟨hRc, hRs⟩ gw_742 dL_law_797) rfl (fun zc M2 hP => ?_)
  obtain ⟨e29, hzc⟩ := pr_shave (T := (t : Int)) (L := L0) (P := P) (N := N) (ct := ct) c9 hP
  refine r_istore (pc' := 802) (lc' := [(0, .ref b), (1, vR G (28, 0)), (2, vR G (29, 0)), (3, vR G (30, 0)), (4, vI (i : Int)), (5, vI zc)]) X [1, 2, 3, 4, 5, 0] dL_law_800 (by decide) rfl rfl ?_
  refine r_aload_n (pc' := 803) X 2 dL_law_802 rfl rfl rfl ?_
  refine r_aloadB_n (pc' := 804) X 0 dL_law_803 rfl rfl rfl ?_
  refine r_iload (pc' := 806) X 4 dL_law_804 rfl rfl ?_
  refine r_iconst (pc' := 807) X dL_law_806 rfl ?_
  refine r_iadd (pc' := 808) X dL_law_807 rfl ?_
  refine r_sld (i := i + 1) (pc' := 809) X hX hbl hbA (by omega) (by omega) (by omega) dL_law_808 rfl ?_
  refine r_aloadB_n (pc' := 810) X 0 dL_law_809 rfl rfl rfl ?_
  refine r_iload (pc' := 812) X 4 dL_law_810 rfl rfl ?_
  refine r_iconst (pc' := 813) X dL_law_812 rfl ?_
  refine r_iadd (pc' := 814) X dL_law_813 rfl ?_
  refine r_sld (i := i + 2) (pc' := 815) X hX hbl hbA (by omega) (by omega) (by omega) dL_law_814 rfl ?_
  refine w_calli (pc' := 818) (st := []) (w_runV X (c_X9_shave l G M2 N P (M 19) c1 (by rw [e29]; exact c2) (M 0) (t : Int) c4.1 (by omega) (by rw [e29]; exact c4.2.2.2) c4.2.1 c4.2.2.1 ct (by rw [e29]; exact c11) c12 (sc xs (i + 1)) (sc xs (i + 2)) (by first | exact sc_rng _ _ | exact i64_rng _ | exact Or.inl rfl | exact Or.inr rfl) (by first | exact sc_rng _ _ | exact i64_rng _ | exact Or.inl rfl | exact Or.inr rfl)) cf_X9_shave k29_0 rfl gw_1250 gw_1251 rfl rfl (rmR hRf hRl (by decide) (by decide)) rfl rfl (Nat.le_of_ble_eq_true rfl) ⟨by show _ + 0 ≤ _; omega, by show _ + 0 ≤ _; omega⟩ gw_1249 dL_law_815) rfl (fun rb M3 hR => ?_)
  obtain ⟨g1, g2, hgo⟩ := ag_shave h hP hR
  refine r_istore (pc' := 820) (lc' := [(0, .ref b), (1, vR G (28, 0)), (2, vR G (29, 0)), (3, vR G (30, 0)), (4, vI (i : Int)), (5, vI zc), (6, vI rb)]) X [1, 2, 3, 4, 5, 6, 0] dL_law_818 (by decide) rfl rfl ?_
  refine r_aload_n (pc' := 821) X 2 dL_law_820 rfl rfl rfl ?_
  refine w_calli (pc' := 824) (st := []) (w_runV X (c_X9_thrown l G M3 ) cf_X9_thrown k29_0 rfl gw_1074 gw_1075 rfl rfl (rmR hRf hRl (by decide) (by decide)) rfl rfl (Nat.le_of_ble_eq_true rfl) ⟨by show _ + 0 ≤ _; omega, by show _ + 0 ≤ _; omega⟩ gw_1073 dL_law_821) rfl (fun z9 M4 h9 => ?_)
  obtain rfl := h9.1.symm
  obtain rfl := h9.2.symm
  refine r_iload (pc' := 826) X 5 dL_law_824 rfl rfl ?_
  refine r_icmp_eqE (tgt := 831) X (g1) dL_law_826 rfl ?_
  refine r_iload (pc' := 833) X 5 dL_law_831 rfl rfl ?_
  refine r_if_ne (pc' := 836) (tgt := 848) X dL_law_833 rfl rfl (by omega) (fun hz0 => ?_) (fun hz0 => ?_)
  · clear hz0
    refine r_goto (tgt := 2143) X dL_law_848 rfl ?_
    refine w_sub (lc' := [(0, .ref b), (1, vR G (28, 0)), (2, vR G (29, 0)), (3, vR G (30, 0)), (4, vI (i : Int))]) [0, 1, 2, 3, 4] rfl ?_
    exact next M3 hgo
  · have hz0 : zc = 0 := by omega
    refine r_aload_n (pc' := 837) X 3 dL_law_836 rfl rfl rfl ?_
    refine r_iconst (pc' := 838) X dL_law_837 rfl ?_
    refine r_lald (i := 0) (pc' := 839) X k30_0 (by omega) (by omega) (by decide) dL_law_838 rfl ?_
    refine r_iload (pc' := 841) X 6 dL_law_839 rfl rfl ?_
    refine r_i2lw (pc' := 842) X dL_law_841 rfl ?_
    refine r_lcmpE (pc' := 843) X (g2 hz0) dL_law_842 rfl ?_
    refine r_if_eq (pc' := 846) (tgt := 848) X dL_law_843 rfl rfl (by omega) (fun _ => ?_) (fun q => absurd rfl q)
    refine r_goto (tgt := 2143) X dL_law_848 rfl ?_
    refine w_sub (lc' := [(0, .ref b), (1, vR G (28, 0)), (2, vR G (29, 0)), (3, vR G (30, 0)), (4, vI (i : Int))]) [0, 1, 2, 3, 4] rfl ?_
    exact next M3 hgo
set_option maxRecDepth 100000 in
set_option maxHeartbeats 4000000 in
theorem lc_13 {p : Program} {l : Launch} {e : Env} {R : Room} {s : State} {m : MethodId} {args : Array Value} {below : List Frame} {meth : Method} {c : Code} {k n : Nat} {Q : State → Prop} {G : wG} {M : wM} {b Ls i t : Nat} {xs : Nat → Int32} (X : wX p s m args meth c G 8 "StateObserverLaw" cL_law) (hfl : l.stackTraces = false) (hX : va_X b Ls xs s s.heap) (hbl : b < s.heap.size) (hbA : ¬ wA G b) (hLs : Ls ≤ 2560) (hi : i + 5 ≤ Ls) (ht : t ≤ 600) (hLR : LR (t : Int) M) (hRf : 10 ≤ R.frames) (hRl : 430 ≤ R.locals) (hRc : k + 1 ≤ R.cells) (hRs : n + 6 ≤ R.slots) (next : ∀ M1, LR ((t : Int) + 1) M1 → wV p l e R s m args below meth c G 8 M1 (k + 1) (n + 6) Q 2143 [(0, .ref b), (1, vR G (28, 0)), (2, vR G (29, 0)), (3, vR G (30, 0)), (4, vI (i : Int))] []) : wV p l e R s m args below meth c G 8 M k n Q 851 [(0, .ref b), (1, vR G (28, 0)), (2, vR G (29, 0)), (3, vR G (30, 0)), (4, vI (i : Int))] [] := by
  obtain ⟨N, P, L0, nx, ct, h⟩ := hLR
  obtain ⟨c1, c2, c3, c4, c5, c6, c7, c8, c9, c10, c11, c12, c13, c14, c15⟩ := id h
  have hN4 : N ≤ 4 := c1.2.2.1
  have hP3 : P ≤ 3 := c1.2.2.2.2.2.1
  have hck : COk M N P (t : Int) := ⟨c1, c4.1, c4.2.1⟩
  refine r_aload_n (pc' := 852) X 1 dL_law_851 rfl rfl rfl ?_
  refine r_aloadB_n (pc' := 853) X 0 dL_law_852 rfl rfl rfl ?_
  refine r_iload (pc' := 855) X 4 dL_law_853 rfl rfl ?_
  refine r_iconst (pc' := 856) X dL_law_855 rfl ?_
  refine r_iadd (pc' := 857) X dL_law_856 rfl ?_
  refine r_sld (i := i + 1) (pc' := 858) X hX hbl hbA (by omega) (by omega) (by omega) dL_law_857 rfl ?_
  refine r_aloadB_n (pc' := 859) X 0 dL_law_858 rfl rfl rfl ?_
  refine r_iload (pc' := 861) X 4 dL_law_859 rfl rfl ?_
  refine r_iconst (pc' := 862) X dL_law_861 rfl ?_
  refine r_iadd (pc' := 863) X dL_law_862 rfl ?_
  refine r_sld (i := i + 2) (pc' := 864) X hX hbl hbA (by omega) (by omega) (by omega) dL_law_863 rfl ?_
  refine r_aloadB_n (pc' := 865) X 0 dL_law_864 rfl rfl rfl ?_
  refine r_iload (pc' := 867) X 4 dL_law_865 rfl rfl ?_
  refine r_iconst (pc' := 868) X dL_law_867 rfl ?_
  refine r_iadd (pc' := 869) X dL_law_868 rfl ?_
  refine r_sld (i := i + 3) (pc' := 870) X hX hbl hbA (by omega) (by omega) (by omega) dL_law_869 rfl ?_
  refine r_aload_n (pc' := 871) X 3 dL_law_870 rfl rfl rfl ?_
  refine w_calli (pc' := 874) (st := []) (w_runSH X (c_L_setGain l G M hfl N P (t : Int) hck (by omega) nx ct c8 c9 c10 c12 (sc xs (i + 1)) (sc xs (i + 2)) (sc xs (i + 3)) (by first | exact sc_rng _ _ | exact i64_rng _ | exact Or.inl rfl | exact Or.inr rfl) (by first | exact sc_rng _ _ | exact i64_rng _ | exact Or.inl rfl | exact Or.inr rfl) (by first | exact sc_rng _ _ | exact i64_rng _ | exact Or.inl rfl | exact Or.inr rfl)) cf_L_setGain gw_756 rfl rfl (rmR hRf hRl (by decide) (by decide)) rfl rfl (Nat.le_of_ble_eq_true rfl) ⟨hRc, hRs⟩ gw_755 dL_law_871) rfl (fun zc M2 hP => ?_)
  obtain ⟨e29, hzc⟩ := pr_setGain (T := (t : Int)) (L := L0) (P := P) (N := N) (ct := ct) c9 hP
  refine r_istore (pc' := 876) (lc' := [(0, .ref b), (1, vR G (28, 0)), (2, vR G (29, 0)), (3, vR G (30, 0)), (4, vI (i : Int)), (5, vI zc)]) X [1, 2, 3, 4, 5, 0] dL_law_874 (by decide) rfl rfl ?_
  refine r_aload_n (pc' := 877) X 2 dL_law_876 rfl rfl rfl ?_
  refine r_aloadB_n (pc' := 878) X 0 dL_law_877 rfl rfl rfl ?_
  refine r_iload (pc' := 880) X 4 dL_law_878 rfl rfl ?_
  refine r_iconst (pc' := 881) X dL_law_880 rfl ?_
  refine r_iadd (pc' := 882) X dL_law_881 rfl ?_
  refine r_sld (i := i + 1) (pc' := 883) X hX hbl hbA (by omega) (by omega) (by omega) dL_law_882 rfl ?_
  refine r_aloadB_n (pc' := 884) X 0 dL_law_883 rfl rfl rfl ?_
  refine r_iload (pc' := 886) X 4 dL_law_884 rfl rfl ?_
  refine r_iconst (pc' := 887) X dL_law_886 rfl ?_
  refine r_iadd (pc' := 888) X dL_law_887 rfl ?_
  refine r_sld (i := i + 2) (pc' := 889) X hX hbl hbA (by omega) (by omega) (by omega) dL_law_888 rfl ?_
  refine r_aloadB_n (pc' := 890) X 0 dL_law_889 rfl rfl rfl ?_
  refine r_iload (pc' := 892) X 4 dL_law_890 rfl rfl ?_
  refine r_iconst (pc' := 893) X dL_law_892 rfl ?_
  refine r_iadd (pc' := 894) X dL_law_893 rfl ?_
  refine r_sld (i := i + 3) (pc' := 895) X hX hbl hbA (by omega) (by omega) (by omega) dL_law_894 rfl ?_
  refine w_calli (pc' := 898) (st := []) (w_runV X (c_X9_setGain l G M2 N P (M 19) c1 (by rw [e29]; exact c2) (M 0) (t : Int) c4.1 (by omega) (by rw [e29]; exact c4.2.2.2) ct (by rw [e29]; exact c11) c12 (sc xs (i + 1)) (sc xs (i + 2)) (sc xs (i + 3)) (by first | exact sc_rng _ _ | exact i64_rng _ | exact Or.inl rfl | exact Or.inr rfl) (by first | exact sc_rng _ _ | exact i64_rng _ | exact Or.inl rfl | exact Or.inr rfl) (by first | exact sc_rng _ _ | exact i64_rng _ | exact Or.inl rfl | exact Or.inr rfl)) cf_X9_setGain k29_0 rfl gw_1259 gw_1260 rfl rfl (rmR hRf hRl (by decide) (by decide)) rfl rfl (Nat.le_of_ble_eq_true rfl) ⟨by show _ + 0 ≤ _; omega, by show _ + 0 ≤ _; omega⟩ gw_1258 dL_law_895) rfl (fun rb M3 hR => ?_)
  obtain ⟨g1, g2, hgo⟩ := ag_setGain h hP hR
  refine r_istore (pc' := 900) (lc' := [(0, .ref b), (1, vR G (28, 0)), (2, vR G (29, 0)), (3, vR G (30, 0)), (4, vI (i : Int)), (5, vI zc), (6, vI rb)]) X [1, 2, 3, 4, 5, 6, 0] dL_law_898 (by decide) rfl rfl ?_
  refine r_aload_n (pc' := 901) X 2 dL_law_900 rfl rfl rfl ?_
  refine w_calli (pc' := 904) (st := []) (w_runV X (c_X9_thrown l G M3 ) cf_X9_thrown k29_0 rfl gw_1074 gw_1075 rfl rfl (rmR hRf hRl (by decide) (by decide)) rfl rfl (Nat.le_of_ble_eq_true rfl) ⟨by show _ + 0 ≤ _; omega, by show _ + 0 ≤ _; omega⟩ gw_1073 dL_law_901) rfl (fun z9 M4 h9 => ?_)
  obtain rfl := h9.1.symm
  obtain rfl := h9.2.symm
  refine r_iload (pc' := 906) X 5 dL_law_904 rfl rfl ?_
  refine r_icmp_eqE (tgt := 911) X (g1) dL_law_906 rfl ?_
  refine r_iload (pc' := 913) X 5 dL_law_911 rfl rfl ?_
  refine r_if_ne (pc' := 916) (tgt := 928) X dL_law_913 rfl rfl (by omega) (fun hz0 => ?_) (fun hz0 => ?_)
  · clear hz0
    refine r_goto (tgt := 2143) X dL_law_928 rfl ?_
    refine w_sub (lc' := [(0, .ref b), (1, vR G (28, 0)), (2, vR G (29, 0)), (3, vR G (30, 0)), (4, vI (i : Int))]) [0, 1, 2, 3, 4] rfl ?_
    exact next M3 hgo
  · have hz0 : zc = 0 := by omega
    refine r_aload_n (pc' := 917) X 3 dL_law_916 rfl rfl rfl ?_
    refine r_iconst (pc' := 918) X dL_law_917 rfl ?_
    refine r_lald (i := 0) (pc' := 919) X k30_0 (by omega) (by omega) (by decide) dL_law_918 rfl ?_
    refine r_iload (pc' := 921) X 6 dL_law_919 rfl rfl ?_
    refine r_i2lw (pc' := 922) X dL_law_921 rfl ?_
    refine r_lcmpE (pc' := 923) X (g2 hz0) dL_law_922 rfl ?_
    refine r_if_eq (pc' := 926) (tgt := 928) X dL_law_923 rfl rfl (by omega) (fun _ => ?_) (fun q => absurd rfl q)
    refine r_goto (tgt := 2143) X dL_law_928 rfl ?_
    refine w_sub (lc' := [(0, .ref b), (1, vR G (28, 0)), (2, vR G (29, 0)), (3, vR G (30, 0)), (4, vI (i : Int))]) [0, 1, 2, 3, 4] rfl ?_
    exact next M3 hgo
set_option maxRecDepth 100000 in
set_option maxHeartbeats 4000000 in
theorem lc_14 {p : Program} {l : Launch} {e : Env} {R : Room} {s : State} {m : MethodId} {args : Array Value} {below : List Frame} {meth : Method} {c : Code} {k n : Nat} {Q : State → Prop} {G : wG} {M : wM} {b Ls i t : Nat} {xs : Nat → Int32} (X : wX p s m args meth c G 8 "StateObserverLaw" cL_law) (hfl : l.stackTraces = false) (hX : va_X b Ls xs s s.heap) (hbl : b < s.heap.size) (hbA : ¬ wA G b) (hLs : Ls ≤ 2560) (hi : i + 5 ≤ Ls) (ht : t ≤ 600) (hLR : LR (t : Int) M) (hRf : 10 ≤ R.frames) (hRl : 430 ≤ R.locals) (hRc : k + 1 ≤ R.cells) (hRs : n + 6 ≤ R.slots) (next : ∀ M1, LR ((t : Int) + 1) M1 → wV p l e R s m args below meth c G 8 M1 (k + 1) (n + 6) Q 2143 [(0, .ref b), (1, vR G (28, 0)), (2, vR G (29, 0)), (3, vR G (30, 0)), (4, vI (i : Int))] []) : wV p l e R s m args below meth c G 8 M k n Q 931 [(0, .ref b), (1, vR G (28, 0)), (2, vR G (29, 0)), (3, vR G (30, 0)), (4, vI (i : Int))] [] := by
  obtain ⟨N, P, L0, nx, ct, h⟩ := hLR
  obtain ⟨c1, c2, c3, c4, c5, c6, c7, c8, c9, c10, c11, c12, c13, c14, c15⟩ := id h
  have hN4 : N ≤ 4 := c1.2.2.1
  have hP3 : P ≤ 3 := c1.2.2.2.2.2.1
  have hck : COk M N P (t : Int) := ⟨c1, c4.1, c4.2.1⟩
  refine r_aload_n (pc' := 932) X 1 dL_law_931 rfl rfl rfl ?_
  refine r_aloadB_n (pc' := 933) X 0 dL_law_932 rfl rfl rfl ?_
  refine r_iload (pc' := 935) X 4 dL_law_933 rfl rfl ?_
  refine r_iconst (pc' := 936) X dL_law_935 rfl ?_
  refine r_iadd (pc' := 937) X dL_law_936 rfl ?_
  refine r_sld (i := i + 1) (pc' := 938) X hX hbl hbA (by omega) (by omega) (by omega) dL_law_937 rfl ?_
  refine r_aload_n (pc' := 939) X 3 dL_law_938 rfl rfl rfl ?_
  refine w_calli (pc' := 942) (st := []) (w_runSH X (c_L_setHold l G M hfl N P (t : Int) hck (by omega) nx ct c8 c9 c10 c12 (sc xs (i + 1)) (by first | exact sc_rng _ _ | exact i64_rng _ | exact Or.inl rfl | exact Or.inr rfl)) cf_L_setHold gw_765 rfl rfl (rmR hRf hRl (by decide) (by decide)) rfl rfl (Nat.le_of_ble_eq_true rfl) ⟨hRc, hRs⟩ gw_764 dL_law_939) rfl (fun zc M2 hP => ?_)
  obtain ⟨e29, hzc⟩ := pr_setHold (T := (t : Int)) (L := L0) (P := P) (N := N) (ct := ct) c9 hP
  refine r_istore (pc' := 944) (lc' := [(0, .ref b), (1, vR G (28, 0)), (2, vR G (29, 0)), (3, vR G (30, 0)), (4, vI (i : Int)), (5, vI zc)]) X [1, 2, 3, 4, 5, 0] dL_law_942 (by decide) rfl rfl ?_
  refine r_aload_n (pc' := 945) X 2 dL_law_944 rfl rfl rfl ?_
  refine r_aloadB_n (pc' := 946) X 0 dL_law_945 rfl rfl rfl ?_
  refine r_iload (pc' := 948) X 4 dL_law_946 rfl rfl ?_
  refine r_iconst (pc' := 949) X dL_law_948 rfl ?_
  refine r_iadd (pc' := 950) X dL_law_949 rfl ?_
  refine r_sld (i := i + 1) (pc' := 951) X hX hbl hbA (by omega) (by omega) (by omega) dL_law_950 rfl ?_
  refine w_calli (pc' := 954) (st := []) (w_runV X (c_X9_setHold l G M2 N P (M 19) c1 (by rw [e29]; exact c2) (M 0) (t : Int) c4.1 (by omega) (by rw [e29]; exact c4.2.2.2) ct (by rw [e29]; exact c11) c12 (sc xs (i + 1)) (by first | exact sc_rng _ _ | exact i64_rng _ | exact Or.inl rfl | exact Or.inr rfl)) cf_X9_setHold k29_0 rfl gw_1263 gw_1264 rfl rfl (rmR hRf hRl (by decide) (by decide)) rfl rfl (Nat.le_of_ble_eq_true rfl) ⟨by show _ + 0 ≤ _; omega, by show _ + 0 ≤ _; omega⟩ gw_1262 dL_law_951) rfl (fun rb M3 hR => ?_)
  obtain ⟨g1, g2, hgo⟩ := ag_setHold h hP hR
  refine r_istore (pc' := 956) (lc' := [(0, .ref b), (1, vR G (28, 0)), (2, vR G (29, 0)), (3, vR G (30, 0)), (4, vI (i : Int)), (5, vI zc), (6, vI rb)]) X [1, 2, 3, 4, 5, 6, 0] dL_law_954 (by decide) rfl rfl ?_
  refine r_aload_n (pc' := 957) X 2 dL_law_956 rfl rfl rfl ?_
  refine w_calli (pc' := 960) (st := []) (w_runV X (c_X9_thrown l G M3 ) cf_X9_thrown k29_0 rfl gw_1074 gw_1075 rfl rfl (rmR hRf hRl (by decide) (by decide)) rfl rfl (Nat.le_of_ble_eq_true rfl) ⟨by show _ + 0 ≤ _; omega, by show _ + 0 ≤ _; omega⟩ gw_1073 dL_law_957) rfl (fun z9 M4 h9 => ?_)
  obtain rfl := h9.1.symm
  obtain rfl := h9.2.symm
  refine r_iload (pc' := 962) X 5 dL_law_960 rfl rfl ?_
  refine r_icmp_eqE (tgt := 967) X (g1) dL_law_962 rfl ?_
  refine r_iload (pc' := 969) X 5 dL_law_967 rfl rfl ?_
  refine r_if_ne (pc' := 972) (tgt := 984) X dL_law_969 rfl rfl (by omega) (fun hz0 => ?_) (fun hz0 => ?_)
  · clear hz0
    refine r_goto (tgt := 2143) X dL_law_984 rfl ?_
    refine w_sub (lc' := [(0, .ref b), (1, vR G (28, 0)), (2, vR G (29, 0)), (3, vR G (30, 0)), (4, vI (i : Int))]) [0, 1, 2, 3, 4] rfl ?_
    exact next M3 hgo
  · have hz0 : zc = 0 := by omega
    refine r_aload_n (pc' := 973) X 3 dL_law_972 rfl rfl rfl ?_
    refine r_iconst (pc' := 974) X dL_law_973 rfl ?_
    refine r_lald (i := 0) (pc' := 975) X k30_0 (by omega) (by omega) (by decide) dL_law_974 rfl ?_
    refine r_iload (pc' := 977) X 6 dL_law_975 rfl rfl ?_
    refine r_i2lw (pc' := 978) X dL_law_977 rfl ?_
    refine r_lcmpE (pc' := 979) X (g2 hz0) dL_law_978 rfl ?_
    refine r_if_eq (pc' := 982) (tgt := 984) X dL_law_979 rfl rfl (by omega) (fun _ => ?_) (fun q => absurd rfl q)
    refine r_goto (tgt := 2143) X dL_law_984 rfl ?_
    refine w_sub (lc' := [(0, .ref b), (1, vR G (28, 0)), (2, vR G (29, 0)), (3, vR G (30, 0)), (4, vI (i : Int))]) [0, 1, 2, 3, 4] rfl ?_
    exact next M3 hgo
set_option maxRecDepth 100000 in
set_option maxHeartbeats 4000000 in
theorem lc_15 {p : Program} {l : Launch} {e : Env} {R : Room} {s : State} {m : MethodId} {args : Array Value} {below : List Frame} {meth : Method} {c : Code} {k n : Nat} {Q : State → Prop} {G : wG} {M : wM} {b Ls i t : Nat} {xs : Nat → Int32} (X : wX p s m args meth c G 8 "StateObserverLaw" cL_law) (hfl : l.stackTraces = false) (hX : va_X b Ls xs s s.heap) (hbl : b < s.heap.size) (hbA : ¬ wA G b) (hLs : Ls ≤ 2560) (hi : i + 5 ≤ Ls) (ht : t ≤ 600) (hLR : LR (t : Int) M) (hRf : 10 ≤ R.frames) (hRl : 430 ≤ R.locals) (hRc : k + 1 ≤ R.cells) (hRs : n + 6 ≤ R.slots) (next : ∀ M1, LR ((t : Int) + 1) M1 → wV p l e R s m args below meth c G 8 M1 (k + 1) (n + 6) Q 2143 [(0, .ref b), (1, vR G (28, 0)), (2, vR G (29, 0)), (3, vR G (30, 0)), (4, vI (i : Int))] []) : wV p l e R s m args below meth c G 8 M k n Q 987 [(0, .ref b), (1, vR G (28, 0)), (2, vR G (29, 0)), (3, vR G (30, 0)), (4, vI (i : Int))] [] := by
  obtain ⟨N, P, L0, nx, ct, h⟩ := hLR
  obtain ⟨c1, c2, c3, c4, c5, c6, c7, c8, c9, c10, c11, c12, c13, c14, c15⟩ := id h
  have hN4 : N ≤ 4 := c1.2.2.1
  have hP3 : P ≤ 3 := c1.2.2.2.2.2.1
  have hck : COk M N P (t : Int) := ⟨c1, c4.1, c4.2.1⟩
  refine r_aload_n (pc' := 988) X 1 dL_law_987 rfl rfl rfl ?_
  refine r_aloadB_n (pc' := 989) X 0 dL_law_988 rfl rfl rfl ?_
  refine r_iload (pc' := 991) X 4 dL_law_989 rfl rfl ?_
  refine r_iconst (pc' := 992) X dL_law_991 rfl ?_
  refine r_iadd (pc' := 993) X dL_law_992 rfl ?_
  refine r_sld (i := i + 1) (pc' := 994) X hX hbl hbA (by omega) (by omega) (by omega) dL_law_993 rfl ?_
  refine r_aload_n (pc' := 995) X 3 dL_law_994 rfl rfl rfl ?_
  refine w_calli (pc' := 998) (st := []) (w_runSH X (c_L_setBound l G M hfl N P (t : Int) hck (by omega) nx ct c8 c9 c10 c12 (sc xs (i + 1)) (by first | exact sc_rng _ _ | exact i64_rng _ | exact Or.inl rfl | exact Or.inr rfl)) cf_L_setBound gw_773 rfl rfl (rmR hRf hRl (by decide) (by decide)) rfl rfl (Nat.le_of_ble_eq_true rfl) ⟨hRc, hRs⟩ gw_772 dL_law_995) rfl (fun zc M2 hP => ?_)
  obtain ⟨e29, hzc⟩ := pr_setBound (T := (t : Int)) (L := L0) (P := P) (N := N) (ct := ct) c9 hP
  refine r_istore (pc' := 1000) (lc' := [(0, .ref b), (1, vR G (28, 0)), (2, vR G (29, 0)), (3, vR G (30, 0)), (4, vI (i : Int)), (5, vI zc)]) X [1, 2, 3, 4, 5, 0] dL_law_998 (by decide) rfl rfl ?_
  refine r_aload_n (pc' := 1001) X 2 dL_law_1000 rfl rfl rfl ?_
  refine r_aloadB_n (pc' := 1002) X 0 dL_law_1001 rfl rfl rfl ?_
  refine r_iload (pc' := 1004) X 4 dL_law_1002 rfl rfl ?_
  refine r_iconst (pc' := 1005) X dL_law_1004 rfl ?_
  refine r_iadd (pc' := 1006) X dL_law_1005 rfl ?_
  refine r_sld (i := i + 1) (pc' := 1007) X hX hbl hbA (by omega) (by omega) (by omega) dL_law_1006 rfl ?_
  refine w_calli (pc' := 1010) (st := []) (w_runV X (c_X9_setBound l G M2 N P (M 19) c1 (by rw [e29]; exact c2) (M 0) (t : Int) c4.1 (by omega) (by rw [e29]; exact c4.2.2.2) ct (by rw [e29]; exact c11) c12 (sc xs (i + 1)) (by first | exact sc_rng _ _ | exact i64_rng _ | exact Or.inl rfl | exact Or.inr rfl)) cf_X9_setBound k29_0 rfl gw_1268 gw_1269 rfl rfl (rmR hRf hRl (by decide) (by decide)) rfl rfl (Nat.le_of_ble_eq_true rfl) ⟨by show _ + 0 ≤ _; omega, by show _ + 0 ≤ _; omega⟩ gw_1267 dL_law_1007) rfl (fun rb M3 hR => ?_)
  obtain ⟨g1, g2, hgo⟩ := ag_setBound h hP hR
  refine r_istore (pc' := 1012) (lc' := [(0, .ref b), (1, vR G (28, 0)), (2, vR G (29, 0)), (3, vR G (30, 0)), (4, vI (i : Int)), (5, vI zc), (6, vI rb)]) X [1, 2, 3, 4, 5, 6, 0] dL_law_1010 (by decide) rfl rfl ?_
  refine r_aload_n (pc' := 1013) X 2 dL_law_1012 rfl rfl rfl ?_
  refine w_calli (pc' := 1016) (st := []) (w_runV X (c_X9_thrown l G M3 ) cf_X9_thrown k29_0 rfl gw_1074 gw_1075 rfl rfl (rmR hRf hRl (by decide) (by decide)) rfl rfl (Nat.le_of_ble_eq_true rfl) ⟨by show _ + 0 ≤ _; omega, by show _ + 0 ≤ _; omega⟩ gw_1073 dL_law_1013) rfl (fun z9 M4 h9 => ?_)
  obtain rfl := h9.1.symm
  obtain rfl := h9.2.symm
  refine r_iload (pc' := 1018) X 5 dL_law_1016 rfl rfl ?_
  refine r_icmp_eqE (tgt := 1023) X (g1) dL_law_1018 rfl ?_
  refine r_iload (pc' := 1025) X 5 dL_law_1023 rfl rfl ?_
  refine r_if_ne (pc' := 1028) (tgt := 1040) X dL_law_1025 rfl rfl (by omega) (fun hz0 => ?_) (fun hz0 => ?_)
  · clear hz0
    refine r_goto (tgt := 2143) X dL_law_1040 rfl ?_
    refine w_sub (lc' := [(0, .ref b), (1, vR G (28, 0)), (2, vR G (29, 0)), (3, vR G (30, 0)), (4, vI (i : Int))]) [0, 1, 2, 3, 4] rfl ?_
    exact next M3 hgo
  · have hz0 : zc = 0 := by omega
    refine r_aload_n (pc' := 1029) X 3 dL_law_1028 rfl rfl rfl ?_
    refine r_iconst (pc' := 1030) X dL_law_1029 rfl ?_
    refine r_lald (i := 0) (pc' := 1031) X k30_0 (by omega) (by omega) (by decide) dL_law_1030 rfl ?_
    refine r_iload (pc' := 1033) X 6 dL_law_1031 rfl rfl ?_
    refine r_i2lw (pc' := 1034) X dL_law_1033 rfl ?_
    refine r_lcmpE (pc' := 1035) X (g2 hz0) dL_law_1034 rfl ?_
    refine r_if_eq (pc' := 1038) (tgt := 1040) X dL_law_1035 rfl rfl (by omega) (fun _ => ?_) (fun q => absurd rfl q)
    refine r_goto (tgt := 2143) X dL_law_1040 rfl ?_
    refine w_sub (lc' := [(0, .ref b), (1, vR G (28, 0)), (2, vR G (29, 0)), (3, vR G (30, 0)), (4, vI (i : Int))]) [0, 1, 2, 3, 4] rfl ?_
    exact next M3 hgo
set_option maxRecDepth 100000 in
set_option maxHeartbeats 4000000 in
theorem lc_16 {p : Program} {l : Launch} {e : Env} {R : Room} {s : State} {m : MethodId} {args : Array Value} {below : List Frame} {meth : Method} {c : Code} {k n : Nat} {Q : State → Prop} {G : wG} {M : wM} {b Ls i t : Nat} {xs : Nat → Int32} (X : wX p s m args meth c G 8 "StateObserverLaw" cL_law) (hfl : l.stackTraces = false) (hX : va_X b Ls xs s s.heap) (hbl : b < s.heap.size) (hbA : ¬ wA G b) (hLs : Ls ≤ 2560) (hi : i + 5 ≤ Ls) (ht : t ≤ 600) (hLR : LR (t : Int) M) (hRf : 10 ≤ R.frames) (hRl : 430 ≤ R.locals) (hRc : k + 1 ≤ R.cells) (hRs : n + 6 ≤ R.slots) (next : ∀ M1, LR ((t : Int) + 1) M1 → wV p l e R s m args below meth c G 8 M1 (k + 1) (n + 6) Q 2143 [(0, .ref b), (1, vR G (28, 0)), (2, vR G (29, 0)), (3, vR G (30, 0)), (4, vI (i : Int))] []) : wV p l e R s m args below meth c G 8 M k n Q 1043 [(0, .ref b), (1, vR G (28, 0)), (2, vR G (29, 0)), (3, vR G (30, 0)), (4, vI (i : Int))] [] := by
  obtain ⟨N, P, L0, nx, ct, h⟩ := hLR
  obtain ⟨c1, c2, c3, c4, c5, c6, c7, c8, c9, c10, c11, c12, c13, c14, c15⟩ := id h
  have hN4 : N ≤ 4 := c1.2.2.1
  have hP3 : P ≤ 3 := c1.2.2.2.2.2.1
  have hck : COk M N P (t : Int) := ⟨c1, c4.1, c4.2.1⟩
  refine r_aload_n (pc' := 1044) X 1 dL_law_1043 rfl rfl rfl ?_
  refine r_aload_n (pc' := 1045) X 3 dL_law_1044 rfl rfl rfl ?_
  refine w_calli (pc' := 1048) (st := []) (w_runSH X (c_L_undo l G M hfl N P (t : Int) hck (by omega) nx ct c8 c9 c10 c12) cf_L_undo gw_781 rfl rfl (rmR hRf hRl (by decide) (by decide)) rfl rfl (Nat.le_of_ble_eq_true rfl) ⟨hRc, hRs⟩ gw_780 dL_law_1045) rfl (fun zc M2 hP => ?_)
  obtain ⟨e29, hzc⟩ := pr_undo (T := (t : Int)) (L := L0) (P := P) (N := N) (ct := ct) c9 hP
  refine r_istore (pc' := 1050) (lc' := [(0, .ref b), (1, vR G (28, 0)), (2, vR G (29, 0)), (3, vR G (30, 0)), (4, vI (i : Int)), (5, vI zc)]) X [1, 2, 3, 4, 5, 0] dL_law_1048 (by decide) rfl rfl ?_
  refine r_aload_n (pc' := 1051) X 2 dL_law_1050 rfl rfl rfl ?_
  refine w_calli (pc' := 1054) (st := []) (w_runV X (c_X9_undo l G M2 ct (by rw [e29]; exact c11) c12) cf_X9_undo k29_0 rfl gw_1272 gw_1273 rfl rfl (rmR hRf hRl (by decide) (by decide)) rfl rfl (Nat.le_of_ble_eq_true rfl) ⟨by show _ + 0 ≤ _; omega, by show _ + 0 ≤ _; omega⟩ gw_1271 dL_law_1051) rfl (fun rb M3 hR => ?_)
  obtain ⟨g1, g2, hgo⟩ := ag_undo h hP hR
  refine r_istore (pc' := 1056) (lc' := [(0, .ref b), (1, vR G (28, 0)), (2, vR G (29, 0)), (3, vR G (30, 0)), (4, vI (i : Int)), (5, vI zc), (6, vI rb)]) X [1, 2, 3, 4, 5, 6, 0] dL_law_1054 (by decide) rfl rfl ?_
  refine r_aload_n (pc' := 1057) X 2 dL_law_1056 rfl rfl rfl ?_
  refine w_calli (pc' := 1060) (st := []) (w_runV X (c_X9_thrown l G M3 ) cf_X9_thrown k29_0 rfl gw_1074 gw_1075 rfl rfl (rmR hRf hRl (by decide) (by decide)) rfl rfl (Nat.le_of_ble_eq_true rfl) ⟨by show _ + 0 ≤ _; omega, by show _ + 0 ≤ _; omega⟩ gw_1073 dL_law_1057) rfl (fun z9 M4 h9 => ?_)
  obtain rfl := h9.1.symm
  obtain rfl := h9.2.symm
  refine r_iload (pc' := 1062) X 5 dL_law_1060 rfl rfl ?_
  refine r_icmp_eqE (tgt := 1067) X (g1) dL_law_1062 rfl ?_
  refine r_iload (pc' := 1069) X 5 dL_law_1067 rfl rfl ?_
  refine r_if_ne (pc' := 1072) (tgt := 1084) X dL_law_1069 rfl rfl (by omega) (fun hz0 => ?_) (fun hz0 => ?_)
  · clear hz0
    refine r_goto (tgt := 2143) X dL_law_1084 rfl ?_
    refine w_sub (lc' := [(0, .ref b), (1, vR G (28, 0)), (2, vR G (29, 0)), (3, vR G (30, 0)), (4, vI (i : Int))]) [0, 1, 2, 3, 4] rfl ?_
    exact next M3 hgo
  · have hz0 : zc = 0 := by omega
    refine r_aload_n (pc' := 1073) X 3 dL_law_1072 rfl rfl rfl ?_
    refine r_iconst (pc' := 1074) X dL_law_1073 rfl ?_
    refine r_lald (i := 0) (pc' := 1075) X k30_0 (by omega) (by omega) (by decide) dL_law_1074 rfl ?_
    refine r_iload (pc' := 1077) X 6 dL_law_1075 rfl rfl ?_
    refine r_i2lw (pc' := 1078) X dL_law_1077 rfl ?_
    refine r_lcmpE (pc' := 1079) X (g2 hz0) dL_law_1078 rfl ?_
    refine r_if_eq (pc' := 1082) (tgt := 1084) X dL_law_1079 rfl rfl (by omega) (fun _ => ?_) (fun q => absurd rfl q)
    refine r_goto (tgt := 2143) X dL_law_1084 rfl ?_
    refine w_sub (lc' := [(0, .ref b), (1, vR G (28, 0)), (2, vR G (29, 0)), (3, vR G (30, 0)), (4, vI (i : Int))]) [0, 1, 2, 3, 4] rfl ?_
    exact next M3 hgo
set_option maxRecDepth 100000 in
set_option maxHeartbeats 4000000 in
theorem lc_17 {p : Program} {l : Launch} {e : Env} {R : Room} {s : State} {m : MethodId} {args : Array Value} {below : List Frame} {meth : Method} {c : Code} {k n : Nat} {Q : State → Prop} {G : wG} {M : wM} {b Ls i t : Nat} {xs : Nat → Int32} (X : wX p s m args meth c G 8 "StateObserverLaw" cL_law) (hfl : l.stackTraces = false) (hX : va_X b Ls xs s s.heap) (hbl : b < s.heap.size) (hbA : ¬ wA G b) (hLs : Ls ≤ 2560) (hi : i + 5 ≤ Ls) (ht : t ≤ 600) (hLR : LR (t : Int) M) (hRf : 10 ≤ R.frames) (hRl : 430 ≤ R.locals) (hRc : k + 1 ≤ R.cells) (hRs : n + 6 ≤ R.slots) (next : ∀ M1, LR ((t : Int) + 1) M1 → wV p l e R s m args below meth c G 8 M1 (k + 1) (n + 6) Q 2143 [(0, .ref b), (1, vR G (28, 0)), (2, vR G (29, 0)), (3, vR G (30, 0)), (4, vI (i : Int))] []) : wV p l e R s m args below meth c G 8 M k n Q 1087 [(0, .ref b), (1, vR G (28, 0)), (2, vR G (29, 0)), (3, vR G (30, 0)), (4, vI (i : Int))] [] := by
  obtain ⟨N, P, L0, nx, ct, h⟩ := hLR
  obtain ⟨c1, c2, c3, c4, c5, c6, c7, c8, c9, c10, c11, c12, c13, c14, c15⟩ := id h
  have hN4 : N ≤ 4 := c1.2.2.1
  have hP3 : P ≤ 3 := c1.2.2.2.2.2.1
  have hck : COk M N P (t : Int) := ⟨c1, c4.1, c4.2.1⟩
  refine r_aload_n (pc' := 1088) X 1 dL_law_1087 rfl rfl rfl ?_
  refine r_aloadB_n (pc' := 1089) X 0 dL_law_1088 rfl rfl rfl ?_
  refine r_iload (pc' := 1091) X 4 dL_law_1089 rfl rfl ?_
  refine r_iconst (pc' := 1092) X dL_law_1091 rfl ?_
  refine r_iadd (pc' := 1093) X dL_law_1092 rfl ?_
  refine r_sld (i := i + 1) (pc' := 1094) X hX hbl hbA (by omega) (by omega) (by omega) dL_law_1093 rfl ?_
  refine r_aloadB_n (pc' := 1095) X 0 dL_law_1094 rfl rfl rfl ?_
  refine r_iload (pc' := 1097) X 4 dL_law_1095 rfl rfl ?_
  refine r_iconst (pc' := 1098) X dL_law_1097 rfl ?_
  refine r_iadd (pc' := 1099) X dL_law_1098 rfl ?_
  refine r_sld (i := i + 2) (pc' := 1100) X hX hbl hbA (by omega) (by omega) (by omega) dL_law_1099 rfl ?_
  refine r_aloadB_n (pc' := 1101) X 0 dL_law_1100 rfl rfl rfl ?_
  refine r_iload (pc' := 1103) X 4 dL_law_1101 rfl rfl ?_
  refine r_iconst (pc' := 1104) X dL_law_1103 rfl ?_
  refine r_iadd (pc' := 1105) X dL_law_1104 rfl ?_
  refine r_sld (i := i + 3) (pc' := 1106) X hX hbl hbA (by omega) (by omega) (by omega) dL_law_1105 rfl ?_
  refine r_aloadB_n (pc' := 1107) X 0 dL_law_1106 rfl rfl rfl ?_
  refine r_iload (pc' := 1109) X 4 dL_law_1107 rfl rfl ?_
  refine r_iconst (pc' := 1110) X dL_law_1109 rfl ?_
  refine r_iadd (pc' := 1111) X dL_law_1110 rfl ?_
  refine r_sld (i := i + 4) (pc' := 1112) X hX hbl hbA (by omega) (by omega) (by omega) dL_law_1111 rfl ?_
  refine r_aload_n (pc' := 1113) X 3 dL_law_1112 rfl rfl rfl ?_
  refine w_calli (pc' := 1116) (st := []) (w_runSH X (c_L_canBe l G M hfl N P (t : Int) hck (by omega) (sc xs (i + 1)) (sc xs (i + 2)) (sc xs (i + 3)) (sc xs (i + 4)) (by first | exact sc_rng _ _ | exact i64_rng _ | exact Or.inl rfl | exact Or.inr rfl) (by first | exact sc_rng _ _ | exact i64_rng _ | exact Or.inl rfl | exact Or.inr rfl) (by first | exact sc_rng _ _ | exact i64_rng _ | exact Or.inl rfl | exact Or.inr rfl) (by first | exact sc_rng _ _ | exact i64_rng _ | exact Or.inl rfl | exact Or.inr rfl)) cf_L_canBe gw_793 rfl rfl (rmR hRf hRl (by decide) (by decide)) rfl rfl (Nat.le_of_ble_eq_true rfl) ⟨hRc, hRs⟩ gw_792 dL_law_1113) rfl (fun zc M2 hP => ?_)
  obtain ⟨e29, hzc⟩ := pr_canBe (T := (t : Int)) (L := L0) (P := P) (N := N) (ct := ct) c9 hP
  refine r_istore (pc' := 1118) (lc' := [(0, .ref b), (1, vR G (28, 0)), (2, vR G (29, 0)), (3, vR G (30, 0)), (4, vI (i : Int)), (5, vI zc)]) X [1, 2, 3, 4, 5, 0] dL_law_1116 (by decide) rfl rfl ?_
  refine r_aload_n (pc' := 1119) X 2 dL_law_1118 rfl rfl rfl ?_
  refine r_aloadB_n (pc' := 1120) X 0 dL_law_1119 rfl rfl rfl ?_
  refine r_iload (pc' := 1122) X 4 dL_law_1120 rfl rfl ?_
  refine r_iconst (pc' := 1123) X dL_law_1122 rfl ?_
  refine r_iadd (pc' := 1124) X dL_law_1123 rfl ?_
  refine r_sld (i := i + 1) (pc' := 1125) X hX hbl hbA (by omega) (by omega) (by omega) dL_law_1124 rfl ?_
  refine r_aloadB_n (pc' := 1126) X 0 dL_law_1125 rfl rfl rfl ?_
  refine r_iload (pc' := 1128) X 4 dL_law_1126 rfl rfl ?_
  refine r_iconst (pc' := 1129) X dL_law_1128 rfl ?_
  refine r_iadd (pc' := 1130) X dL_law_1129 rfl ?_
  refine r_sld (i := i + 2) (pc' := 1131) X hX hbl hbA (by omega) (by omega) (by omega) dL_law_1130 rfl ?_
  refine r_aloadB_n (pc' := 1132) X 0 dL_law_1131 rfl rfl rfl ?_
  refine r_iload (pc' := 1134) X 4 dL_law_1132 rfl rfl ?_
  refine r_iconst (pc' := 1135) X dL_law_1134 rfl ?_
  refine r_iadd (pc' := 1136) X dL_law_1135 rfl ?_
  refine r_sld (i := i + 3) (pc' := 1137) X hX hbl hbA (by omega) (by omega) (by omega) dL_law_1136 rfl ?_
  refine r_aloadB_n (pc' := 1138) X 0 dL_law_1137 rfl rfl rfl ?_
  refine r_iload (pc' := 1140) X 4 dL_law_1138 rfl rfl ?_
  refine r_iconst (pc' := 1141) X dL_law_1140 rfl ?_
  refine r_iadd (pc' := 1142) X dL_law_1141 rfl ?_
  refine r_sld (i := i + 4) (pc' := 1143) X hX hbl hbA (by omega) (by omega) (by omega) dL_law_1142 rfl ?_
  refine w_calli (pc' := 1146) (st := []) (w_runV X (c_X9_canBe l G M2 N P (M 19) c1 (by rw [e29]; exact c2) (M 0) (t : Int) c4.1 (by omega) (by rw [e29]; exact c4.2.2.2) (sc xs (i + 1)) (sc xs (i + 2)) (sc xs (i + 3)) (sc xs (i + 4)) (by first | exact sc_rng _ _ | exact i64_rng _ | exact Or.inl rfl | exact Or.inr rfl) (by first | exact sc_rng _ _ | exact i64_rng _ | exact Or.inl rfl | exact Or.inr rfl) (by first | exact sc_rng _ _ | exact i64_rng _ | exact Or.inl rfl | exact Or.inr rfl) (by first | exact sc_rng _ _ | exact i64_rng _ | exact Or.inl rfl | exact Or.inr rfl) (row4 (M 28 1) (sc xs (i + 1)) (sc xs (i + 2)) (sc xs (i + 3)) (sc xs (i + 4))) rfl rfl rfl rfl) cf_X9_canBe k29_0 rfl gw_1276 gw_1277 rfl rfl (rmR hRf hRl (by decide) (by decide)) rfl rfl (Nat.le_of_ble_eq_true rfl) ⟨by show _ + 0 ≤ _; omega, by show _ + 0 ≤ _; omega⟩ gw_1275 dL_law_1143) rfl (fun rb M3 hR => ?_)
  obtain ⟨g1, g2, hgo⟩ := ag_canBe h hP hR
  refine r_istore (pc' := 1148) (lc' := [(0, .ref b), (1, vR G (28, 0)), (2, vR G (29, 0)), (3, vR G (30, 0)), (4, vI (i : Int)), (5, vI zc), (6, vI rb)]) X [1, 2, 3, 4, 5, 6, 0] dL_law_1146 (by decide) rfl rfl ?_
  refine r_aload_n (pc' := 1149) X 2 dL_law_1148 rfl rfl rfl ?_
  refine w_calli (pc' := 1152) (st := []) (w_runV X (c_X9_thrown l G M3 ) cf_X9_thrown k29_0 rfl gw_1074 gw_1075 rfl rfl (rmR hRf hRl (by decide) (by decide)) rfl rfl (Nat.le_of_ble_eq_true rfl) ⟨by show _ + 0 ≤ _; omega, by show _ + 0 ≤ _; omega⟩ gw_1073 dL_law_1149) rfl (fun z9 M4 h9 => ?_)
  obtain rfl := h9.1.symm
  obtain rfl := h9.2.symm
  refine r_iload (pc' := 1154) X 5 dL_law_1152 rfl rfl ?_
  refine r_icmp_eqE (tgt := 1159) X (g1) dL_law_1154 rfl ?_
  refine r_iload (pc' := 1161) X 5 dL_law_1159 rfl rfl ?_
  refine r_if_ne (pc' := 1164) (tgt := 1183) X dL_law_1161 rfl rfl (by omega) (fun hz0 => ?_) (fun hz0 => ?_)
  · clear hz0
    refine r_goto (tgt := 2143) X dL_law_1183 rfl ?_
    refine w_sub (lc' := [(0, .ref b), (1, vR G (28, 0)), (2, vR G (29, 0)), (3, vR G (30, 0)), (4, vI (i : Int))]) [0, 1, 2, 3, 4] rfl ?_
    exact next M3 hgo
  · have hz0 : zc = 0 := by omega
    refine r_aload_n (pc' := 1165) X 3 dL_law_1164 rfl rfl rfl ?_
    refine r_iconst (pc' := 1166) X dL_law_1165 rfl ?_
    refine r_lald (i := 0) (pc' := 1167) X k30_0 (by omega) (by omega) (by decide) dL_law_1166 rfl ?_
    refine r_iload (pc' := 1169) X 6 dL_law_1167 rfl rfl ?_
    have hrb : rb = 0 ∨ rb = 1 := rb01 hz0 hP hR
    refine r_if_eq (pc' := 1172) (tgt := 1176) X dL_law_1169 rfl rfl (by omega) (fun hb_rb => ?_) (fun hb_rb => ?_)
    · refine r_lconst (pc' := 1177) (z := 0) X dL_law_1176 rfl rfl ?_
      refine r_lcmpE (pc' := 1178) X (by rw [g2 hz0]; omega) dL_law_1177 rfl ?_
      refine r_if_eq (pc' := 1181) (tgt := 1183) X dL_law_1178 rfl rfl (by omega) (fun _ => ?_) (fun q => absurd rfl q)
      refine r_goto (tgt := 2143) X dL_law_1183 rfl ?_
      refine w_sub (lc' := [(0, .ref b), (1, vR G (28, 0)), (2, vR G (29, 0)), (3, vR G (30, 0)), (4, vI (i : Int))]) [0, 1, 2, 3, 4] rfl ?_
      exact next M3 hgo
    · refine r_lconst (pc' := 1173) (z := 1) X dL_law_1172 rfl rfl ?_
      refine r_goto (tgt := 1177) X dL_law_1173 rfl ?_
      refine r_lcmpE (pc' := 1178) X (by rw [g2 hz0]; omega) dL_law_1177 rfl ?_
      refine r_if_eq (pc' := 1181) (tgt := 1183) X dL_law_1178 rfl rfl (by omega) (fun _ => ?_) (fun q => absurd rfl q)
      refine r_goto (tgt := 2143) X dL_law_1183 rfl ?_
      refine w_sub (lc' := [(0, .ref b), (1, vR G (28, 0)), (2, vR G (29, 0)), (3, vR G (30, 0)), (4, vI (i : Int))]) [0, 1, 2, 3, 4] rfl ?_
      exact next M3 hgo
set_option maxRecDepth 100000 in
set_option maxHeartbeats 4000000 in
theorem lc_18 {p : Program} {l : Launch} {e : Env} {R : Room} {s : State} {m : MethodId} {args : Array Value} {below : List Frame} {meth : Method} {c : Code} {k n : Nat} {Q : State → Prop} {G : wG} {M : wM} {b Ls i t : Nat} {xs : Nat → Int32} (X : wX p s m args meth c G 8 "StateObserverLaw" cL_law) (hfl : l.stackTraces = false) (hX : va_X b Ls xs s s.heap) (hbl : b < s.heap.size) (hbA : ¬ wA G b) (hLs : Ls ≤ 2560) (hi : i + 5 ≤ Ls) (ht : t ≤ 600) (hLR : LR (t : Int) M) (hRf : 10 ≤ R.frames) (hRl : 430 ≤ R.locals) (hRc : k + 1 ≤ R.cells) (hRs : n + 6 ≤ R.slots) (next : ∀ M1, LR ((t : Int) + 1) M1 → wV p l e R s m args below meth c G 8 M1 (k + 1) (n + 6) Q 2143 [(0, .ref b), (1, vR G (28, 0)), (2, vR G (29, 0)), (3, vR G (30, 0)), (4, vI (i : Int))] []) : wV p l e R s m args below meth c G 8 M k n Q 1186 [(0, .ref b), (1, vR G (28, 0)), (2, vR G (29, 0)), (3, vR G (30, 0)), (4, vI (i : Int))] [] := by
  obtain ⟨N, P, L0, nx, ct, h⟩ := hLR
  obtain ⟨c1, c2, c3, c4, c5, c6, c7, c8, c9, c10, c11, c12, c13, c14, c15⟩ := id h
  have hN4 : N ≤ 4 := c1.2.2.1
  have hP3 : P ≤ 3 := c1.2.2.2.2.2.1
  have hck : COk M N P (t : Int) := ⟨c1, c4.1, c4.2.1⟩
  refine r_aload_n (pc' := 1187) X 1 dL_law_1186 rfl rfl rfl ?_
  refine r_aloadB_n (pc' := 1188) X 0 dL_law_1187 rfl rfl rfl ?_
  refine r_iload (pc' := 1190) X 4 dL_law_1188 rfl rfl ?_
  refine r_iconst (pc' := 1191) X dL_law_1190 rfl ?_
  refine r_iadd (pc' := 1192) X dL_law_1191 rfl ?_
  refine r_sld (i := i + 1) (pc' := 1193) X hX hbl hbA (by omega) (by omega) (by omega) dL_law_1192 rfl ?_
  refine r_aloadB_n (pc' := 1194) X 0 dL_law_1193 rfl rfl rfl ?_
  refine r_iload (pc' := 1196) X 4 dL_law_1194 rfl rfl ?_
  refine r_iconst (pc' := 1197) X dL_law_1196 rfl ?_
  refine r_iadd (pc' := 1198) X dL_law_1197 rfl ?_
  refine r_sld (i := i + 2) (pc' := 1199) X hX hbl hbA (by omega) (by omega) (by omega) dL_law_1198 rfl ?_
  refine r_aload_n (pc' := 1200) X 3 dL_law_1199 rfl rfl rfl ?_
  refine w_calli (pc' := 1203) (st := []) (w_runSH X (c_L_widthIf l G M hfl N P (t : Int) hck (by omega) (by omega) (sc xs (i + 1)) (sc xs (i + 2)) (by first | exact sc_rng _ _ | exact i64_rng _ | exact Or.inl rfl | exact Or.inr rfl) (by first | exact sc_rng _ _ | exact i64_rng _ | exact Or.inl rfl | exact Or.inr rfl)) cf_L_widthIf gw_801 rfl rfl (rmR hRf hRl (by decide) (by decide)) rfl rfl (Nat.le_of_ble_eq_true rfl) ⟨hRc, hRs⟩ gw_800 dL_law_1200) rfl (fun zc M2 hP => ?_)
  obtain ⟨e29, hzc⟩ := pr_widthIf (T := (t : Int)) (L := L0) (P := P) (N := N) (ct := ct) c9 hP
  refine r_istore (pc' := 1205) (lc' := [(0, .ref b), (1, vR G (28, 0)), (2, vR G (29, 0)), (3, vR G (30, 0)), (4, vI (i : Int)), (5, vI zc)]) X [1, 2, 3, 4, 5, 0] dL_law_1203 (by decide) rfl rfl ?_
  refine r_aload_n (pc' := 1206) X 2 dL_law_1205 rfl rfl rfl ?_
  refine r_aloadB_n (pc' := 1207) X 0 dL_law_1206 rfl rfl rfl ?_
  refine r_iload (pc' := 1209) X 4 dL_law_1207 rfl rfl ?_
  refine r_iconst (pc' := 1210) X dL_law_1209 rfl ?_
  refine r_iadd (pc' := 1211) X dL_law_1210 rfl ?_
  refine r_sld (i := i + 1) (pc' := 1212) X hX hbl hbA (by omega) (by omega) (by omega) dL_law_1211 rfl ?_
  refine r_aloadB_n (pc' := 1213) X 0 dL_law_1212 rfl rfl rfl ?_
  refine r_iload (pc' := 1215) X 4 dL_law_1213 rfl rfl ?_
  refine r_iconst (pc' := 1216) X dL_law_1215 rfl ?_
  refine r_iadd (pc' := 1217) X dL_law_1216 rfl ?_
  refine r_sld (i := i + 2) (pc' := 1218) X hX hbl hbA (by omega) (by omega) (by omega) dL_law_1217 rfl ?_
  refine w_calli (pc' := 1221) (st := []) (w_runV X (c_X9_widthIf l G M2 N P (M 19) c1 (by rw [e29]; exact c2) (M 0) (t : Int) c4.1 (by omega) (by rw [e29]; exact c4.2.2.2) c4.2.1 (sc xs (i + 1)) (sc xs (i + 2)) (by first | exact sc_rng _ _ | exact i64_rng _ | exact Or.inl rfl | exact Or.inr rfl) (by first | exact sc_rng _ _ | exact i64_rng _ | exact Or.inl rfl | exact Or.inr rfl)) cf_X9_widthIf k29_0 rfl gw_1280 gw_1281 rfl rfl (rmR hRf hRl (by decide) (by decide)) rfl rfl (Nat.le_of_ble_eq_true rfl) ⟨by show _ + 0 ≤ _; omega, by show _ + 0 ≤ _; omega⟩ gw_1279 dL_law_1218) rfl (fun rb M3 hR => ?_)
  obtain ⟨g1, g2, hgo⟩ := ag_widthIf h hP hR
  refine r_istore (pc' := 1223) (lc' := [(0, .ref b), (1, vR G (28, 0)), (2, vR G (29, 0)), (3, vR G (30, 0)), (4, vI (i : Int)), (5, vI zc), (6, vI rb)]) X [1, 2, 3, 4, 5, 6, 0] dL_law_1221 (by decide) rfl rfl ?_
  refine r_aload_n (pc' := 1224) X 2 dL_law_1223 rfl rfl rfl ?_
  refine w_calli (pc' := 1227) (st := []) (w_runV X (c_X9_thrown l G M3 ) cf_X9_thrown k29_0 rfl gw_1074 gw_1075 rfl rfl (rmR hRf hRl (by decide) (by decide)) rfl rfl (Nat.le_of_ble_eq_true rfl) ⟨by show _ + 0 ≤ _; omega, by show _ + 0 ≤ _; omega⟩ gw_1073 dL_law_1224) rfl (fun z9 M4 h9 => ?_)
  obtain rfl := h9.1.symm
  obtain rfl := h9.2.symm
  refine r_iload (pc' := 1229) X 5 dL_law_1227 rfl rfl ?_
  refine r_icmp_eqE (tgt := 1234) X (g1) dL_law_1229 rfl ?_
  refine r_iload (pc' := 1236) X 5 dL_law_1234 rfl rfl ?_
  refine r_if_ne (pc' := 1239) (tgt := 1251) X dL_law_1236 rfl rfl (by omega) (fun hz0 => ?_) (fun hz0 => ?_)
  · clear hz0
    refine r_goto (tgt := 2143) X dL_law_1251 rfl ?_
    refine w_sub (lc' := [(0, .ref b), (1, vR G (28, 0)), (2, vR G (29, 0)), (3, vR G (30, 0)), (4, vI (i : Int))]) [0, 1, 2, 3, 4] rfl ?_
    exact next M3 hgo
  · have hz0 : zc = 0 := by omega
    refine r_aload_n (pc' := 1240) X 3 dL_law_1239 rfl rfl rfl ?_
    refine r_iconst (pc' := 1241) X dL_law_1240 rfl ?_
    refine r_lald (i := 0) (pc' := 1242) X k30_0 (by omega) (by omega) (by decide) dL_law_1241 rfl ?_
    refine r_iload (pc' := 1244) X 6 dL_law_1242 rfl rfl ?_
    refine r_i2lw (pc' := 1245) X dL_law_1244 rfl ?_
    refine r_lcmpE (pc' := 1246) X (g2 hz0) dL_law_1245 rfl ?_
    refine r_if_eq (pc' := 1249) (tgt := 1251) X dL_law_1246 rfl rfl (by omega) (fun _ => ?_) (fun q => absurd rfl q)
    refine r_goto (tgt := 2143) X dL_law_1251 rfl ?_
    refine w_sub (lc' := [(0, .ref b), (1, vR G (28, 0)), (2, vR G (29, 0)), (3, vR G (30, 0)), (4, vI (i : Int))]) [0, 1, 2, 3, 4] rfl ?_
    exact next M3 hgo
set_option maxRecDepth 100000 in
set_option maxHeartbeats 4000000 in
theorem lc_19 {p : Program} {l : Launch} {e : Env} {R : Room} {s : State} {m : MethodId} {args : Array Value} {below : List Frame} {meth : Method} {c : Code} {k n : Nat} {Q : State → Prop} {G : wG} {M : wM} {b Ls i t : Nat} {xs : Nat → Int32} (X : wX p s m args meth c G 8 "StateObserverLaw" cL_law) (hfl : l.stackTraces = false) (hX : va_X b Ls xs s s.heap) (hbl : b < s.heap.size) (hbA : ¬ wA G b) (hLs : Ls ≤ 2560) (hi : i + 5 ≤ Ls) (ht : t ≤ 600) (hLR : LR (t : Int) M) (hRf : 10 ≤ R.frames) (hRl : 430 ≤ R.locals) (hRc : k + 1 ≤ R.cells) (hRs : n + 6 ≤ R.slots) (next : ∀ M1, LR ((t : Int) + 1) M1 → wV p l e R s m args below meth c G 8 M1 (k + 1) (n + 6) Q 2143 [(0, .ref b), (1, vR G (28, 0)), (2, vR G (29, 0)), (3, vR G (30, 0)), (4, vI (i : Int))] []) : wV p l e R s m args below meth c G 8 M k n Q 1254 [(0, .ref b), (1, vR G (28, 0)), (2, vR G (29, 0)), (3, vR G (30, 0)), (4, vI (i : Int))] [] := by
  obtain ⟨N, P, L0, nx, ct, h⟩ := hLR
  obtain ⟨c1, c2, c3, c4, c5, c6, c7, c8, c9, c10, c11, c12, c13, c14, c15⟩ := id h
  have hN4 : N ≤ 4 := c1.2.2.1
  have hP3 : P ≤ 3 := c1.2.2.2.2.2.1
  have hck : COk M N P (t : Int) := ⟨c1, c4.1, c4.2.1⟩
  refine r_aload_n (pc' := 1255) X 1 dL_law_1254 rfl rfl rfl ?_
  refine r_aloadB_n (pc' := 1256) X 0 dL_law_1255 rfl rfl rfl ?_
  refine r_iload (pc' := 1258) X 4 dL_law_1256 rfl rfl ?_
  refine r_iconst (pc' := 1259) X dL_law_1258 rfl ?_
  refine r_iadd (pc' := 1260) X dL_law_1259 rfl ?_
  refine r_sld (i := i + 1) (pc' := 1261) X hX hbl hbA (by omega) (by omega) (by omega) dL_law_1260 rfl ?_
  refine r_aloadB_n (pc' := 1262) X 0 dL_law_1261 rfl rfl rfl ?_
  refine r_iload (pc' := 1264) X 4 dL_law_1262 rfl rfl ?_
  refine r_iconst (pc' := 1265) X dL_law_1264 rfl ?_
  refine r_iadd (pc' := 1266) X dL_law_1265 rfl ?_
  refine r_sld (i := i + 2) (pc' := 1267) X hX hbl hbA (by omega) (by omega) (by omega) dL_law_1266 rfl ?_
  refine r_aloadB_n (pc' := 1268) X 0 dL_law_1267 rfl rfl rfl ?_
  refine r_iload (pc' := 1270) X 4 dL_law_1268 rfl rfl ?_
  refine r_iconst (pc' := 1271) X dL_law_1270 rfl ?_
  refine r_iadd (pc' := 1272) X dL_law_1271 rfl ?_
  refine r_sld (i := i + 3) (pc' := 1273) X hX hbl hbA (by omega) (by omega) (by omega) dL_law_1272 rfl ?_
  refine r_aloadB_n (pc' := 1274) X 0 dL_law_1273 rfl rfl rfl ?_
  refine r_iload (pc' := 1276) X 4 dL_law_1274 rfl rfl ?_
  refine r_iconst (pc' := 1277) X dL_law_1276 rfl ?_
  refine r_iadd (pc' := 1278) X dL_law_1277 rfl ?_
  refine r_sld (i := i + 4) (pc' := 1279) X hX hbl hbA (by omega) (by omega) (by omega) dL_law_1278 rfl ?_
  refine r_if_eq (pc' := 1282) (tgt := 1286) X dL_law_1279 rfl rfl (sc_rng _ _) (fun hb_scxsi4 => ?_) (fun hb_scxsi4 => ?_)
  · refine r_iconst (pc' := 1287) X dL_law_1286 rfl ?_
    refine r_aload_n (pc' := 1288) X 3 dL_law_1287 rfl rfl rfl ?_
    refine w_calli (pc' := 1291) (st := []) (w_runSH X (c_L_ahead l G M hfl N P (t : Int) hck (by omega) (sc xs (i + 1)) (sc xs (i + 2)) (sc xs (i + 3)) 0 (by first | exact sc_rng _ _ | exact i64_rng _ | exact Or.inl rfl | exact Or.inr rfl) (by first | exact sc_rng _ _ | exact i64_rng _ | exact Or.inl rfl | exact Or.inr rfl) (by first | exact sc_rng _ _ | exact i64_rng _ | exact Or.inl rfl | exact Or.inr rfl) (by first | exact sc_rng _ _ | exact i64_rng _ | exact Or.inl rfl | exact Or.inr rfl)) cf_L_ahead gw_811 rfl rfl (rmR hRf hRl (by decide) (by decide)) rfl rfl (Nat.le_of_ble_eq_true rfl) ⟨hRc, hRs⟩ gw_810 dL_law_1288) rfl (fun zc M2 hP => ?_)
    obtain ⟨e29, hzc⟩ := pr_ahead (T := (t : Int)) (L := L0) (P := P) (N := N) (ct := ct) c9 hP
    refine r_istore (pc' := 1293) (lc' := [(0, .ref b), (1, vR G (28, 0)), (2, vR G (29, 0)), (3, vR G (30, 0)), (4, vI (i : Int)), (5, vI zc)]) X [1, 2, 3, 4, 5, 0] dL_law_1291 (by decide) rfl rfl ?_
    refine r_aload_n (pc' := 1294) X 2 dL_law_1293 rfl rfl rfl ?_
    refine r_aloadB_n (pc' := 1295) X 0 dL_law_1294 rfl rfl rfl ?_
    refine r_iload (pc' := 1297) X 4 dL_law_1295 rfl rfl ?_
    refine r_iconst (pc' := 1298) X dL_law_1297 rfl ?_
    refine r_iadd (pc' := 1299) X dL_law_1298 rfl ?_
    refine r_sld (i := i + 1) (pc' := 1300) X hX hbl hbA (by omega) (by omega) (by omega) dL_law_1299 rfl ?_
    refine r_aloadB_n (pc' := 1301) X 0 dL_law_1300 rfl rfl rfl ?_
    refine r_iload (pc' := 1303) X 4 dL_law_1301 rfl rfl ?_
    refine r_iconst (pc' := 1304) X dL_law_1303 rfl ?_
    refine r_iadd (pc' := 1305) X dL_law_1304 rfl ?_
    refine r_sld (i := i + 2) (pc' := 1306) X hX hbl hbA (by omega) (by omega) (by omega) dL_law_1305 rfl ?_
    refine r_aloadB_n (pc' := 1307) X 0 dL_law_1306 rfl rfl rfl ?_
    refine r_iload (pc' := 1309) X 4 dL_law_1307 rfl rfl ?_
    refine r_iconst (pc' := 1310) X dL_law_1309 rfl ?_
    refine r_iadd (pc' := 1311) X dL_law_1310 rfl ?_
    refine r_sld (i := i + 3) (pc' := 1312) X hX hbl hbA (by omega) (by omega) (by omega) dL_law_1311 rfl ?_
    refine r_aloadB_n (pc' := 1313) X 0 dL_law_1312 rfl rfl rfl ?_
    refine r_iload (pc' := 1315) X 4 dL_law_1313 rfl rfl ?_
    refine r_iconst (pc' := 1316) X dL_law_1315 rfl ?_
    refine r_iadd (pc' := 1317) X dL_law_1316 rfl ?_
    refine r_sld (i := i + 4) (pc' := 1318) X hX hbl hbA (by omega) (by omega) (by omega) dL_law_1317 rfl ?_
    refine r_if_eq (pc' := 1321) (tgt := 1325) X dL_law_1318 rfl rfl (sc_rng _ _) (fun _ => ?_) (fun q => absurd hb_scxsi4 q)
    refine r_iconst (pc' := 1326) X dL_law_1325 rfl ?_
    refine w_calli (pc' := 1329) (st := []) (w_runV X (c_X9_ahead l G M2 N P (M 19) c1 (by rw [e29]; exact c2) (M 0) (t : Int) c4.1 (by omega) (by rw [e29]; exact c4.2.2.2) c4.2.1 (sc xs (i + 1)) (sc xs (i + 2)) (sc xs (i + 3)) 0 (by first | exact sc_rng _ _ | exact i64_rng _ | exact Or.inl rfl | exact Or.inr rfl) (by first | exact sc_rng _ _ | exact i64_rng _ | exact Or.inl rfl | exact Or.inr rfl) (by first | exact sc_rng _ _ | exact i64_rng _ | exact Or.inl rfl | exact Or.inr rfl) (by first | exact sc_rng _ _ | exact i64_rng _ | exact Or.inl rfl | exact Or.inr rfl)) cf_X9_ahead k29_0 rfl gw_1286 gw_1287 rfl rfl (rmR hRf hRl (by decide) (by decide)) rfl rfl (Nat.le_of_ble_eq_true rfl) ⟨by show _ + 0 ≤ _; omega, by show _ + 0 ≤ _; omega⟩ gw_1285 dL_law_1326) rfl (fun rb M3 hR => ?_)
    obtain ⟨g1, g2, hgo⟩ := ag_ahead h hP hR
    refine r_istore (pc' := 1331) (lc' := [(0, .ref b), (1, vR G (28, 0)), (2, vR G (29, 0)), (3, vR G (30, 0)), (4, vI (i : Int)), (5, vI zc), (6, vI rb)]) X [1, 2, 3, 4, 5, 6, 0] dL_law_1329 (by decide) rfl rfl ?_
    refine r_aload_n (pc' := 1332) X 2 dL_law_1331 rfl rfl rfl ?_
    refine w_calli (pc' := 1335) (st := []) (w_runV X (c_X9_thrown l G M3 ) cf_X9_thrown k29_0 rfl gw_1074 gw_1075 rfl rfl (rmR hRf hRl (by decide) (by decide)) rfl rfl (Nat.le_of_ble_eq_true rfl) ⟨by show _ + 0 ≤ _; omega, by show _ + 0 ≤ _; omega⟩ gw_1073 dL_law_1332) rfl (fun z9 M4 h9 => ?_)
    obtain rfl := h9.1.symm
    obtain rfl := h9.2.symm
    refine r_iload (pc' := 1337) X 5 dL_law_1335 rfl rfl ?_
    refine r_icmp_eqE (tgt := 1342) X (g1) dL_law_1337 rfl ?_
    refine r_iload (pc' := 1344) X 5 dL_law_1342 rfl rfl ?_
    refine r_if_ne (pc' := 1347) (tgt := 1359) X dL_law_1344 rfl rfl (by omega) (fun hz0 => ?_) (fun hz0 => ?_)
    · clear hz0
      refine r_goto (tgt := 2143) X dL_law_1359 rfl ?_
      refine w_sub (lc' := [(0, .ref b), (1, vR G (28, 0)), (2, vR G (29, 0)), (3, vR G (30, 0)), (4, vI (i : Int))]) [0, 1, 2, 3, 4] rfl ?_
      exact next M3 hgo
    · have hz0 : zc = 0 := by omega
      refine r_aload_n (pc' := 1348) X 3 dL_law_1347 rfl rfl rfl ?_
      refine r_iconst (pc' := 1349) X dL_law_1348 rfl ?_
      refine r_lald (i := 0) (pc' := 1350) X k30_0 (by omega) (by omega) (by decide) dL_law_1349 rfl ?_
      refine r_iload (pc' := 1352) X 6 dL_law_1350 rfl rfl ?_
      refine r_i2lw (pc' := 1353) X dL_law_1352 rfl ?_
      refine r_lcmpE (pc' := 1354) X (g2 hz0) dL_law_1353 rfl ?_
      refine r_if_eq (pc' := 1357) (tgt := 1359) X dL_law_1354 rfl rfl (by omega) (fun _ => ?_) (fun q => absurd rfl q)
      refine r_goto (tgt := 2143) X dL_law_1359 rfl ?_
      refine w_sub (lc' := [(0, .ref b), (1, vR G (28, 0)), (2, vR G (29, 0)), (3, vR G (30, 0)), (4, vI (i : Int))]) [0, 1, 2, 3, 4] rfl ?_
      exact next M3 hgo
  · refine r_iconst (pc' := 1283) X dL_law_1282 rfl ?_
    refine r_goto (tgt := 1287) X dL_law_1283 rfl ?_
    refine r_aload_n (pc' := 1288) X 3 dL_law_1287 rfl rfl rfl ?_
    refine w_calli (pc' := 1291) (st := []) (w_runSH X (c_L_ahead l G M hfl N P (t : Int) hck (by omega) (sc xs (i + 1)) (sc xs (i + 2)) (sc xs (i + 3)) 1 (by first | exact sc_rng _ _ | exact i64_rng _ | exact Or.inl rfl | exact Or.inr rfl) (by first | exact sc_rng _ _ | exact i64_rng _ | exact Or.inl rfl | exact Or.inr rfl) (by first | exact sc_rng _ _ | exact i64_rng _ | exact Or.inl rfl | exact Or.inr rfl) (by first | exact sc_rng _ _ | exact i64_rng _ | exact Or.inl rfl | exact Or.inr rfl)) cf_L_ahead gw_811 rfl rfl (rmR hRf hRl (by decide) (by decide)) rfl rfl (Nat.le_of_ble_eq_true rfl) ⟨hRc, hRs⟩ gw_810 dL_law_1288) rfl (fun zc M2 hP => ?_)
    obtain ⟨e29, hzc⟩ := pr_ahead (T := (t : Int)) (L := L0) (P := P) (N := N) (ct := ct) c9 hP
    refine r_istore (pc' := 1293) (lc' := [(0, .ref b), (1, vR G (28, 0)), (2, vR G (29, 0)), (3, vR G (30, 0)), (4, vI (i : Int)), (5, vI zc)]) X [1, 2, 3, 4, 5, 0] dL_law_1291 (by decide) rfl rfl ?_
    refine r_aload_n (pc' := 1294) X 2 dL_law_1293 rfl rfl rfl ?_
    refine r_aloadB_n (pc' := 1295) X 0 dL_law_1294 rfl rfl rfl ?_
    refine r_iload (pc' := 1297) X 4 dL_law_1295 rfl rfl ?_
    refine r_iconst (pc' := 1298) X dL_law_1297 rfl ?_
    refine r_iadd (pc' := 1299) X dL_law_1298 rfl ?_
    refine r_sld (i := i + 1) (pc' := 1300) X hX hbl hbA (by omega) (by omega) (by omega) dL_law_1299 rfl ?_
    refine r_aloadB_n (pc' := 1301) X 0 dL_law_1300 rfl rfl rfl ?_
    refine r_iload (pc' := 1303) X 4 dL_law_1301 rfl rfl ?_
    refine r_iconst (pc' := 1304) X dL_law_1303 rfl ?_
    refine r_iadd (pc' := 1305) X dL_law_1304 rfl ?_
    refine r_sld (i := i + 2) (pc' := 1306) X hX hbl hbA (by omega) (by omega) (by omega) dL_law_1305 rfl ?_
    refine r_aloadB_n (pc' := 1307) X 0 dL_law_1306 rfl rfl rfl ?_
    refine r_iload (pc' := 1309) X 4 dL_law_1307 rfl rfl ?_
    refine r_iconst (pc' := 1310) X dL_law_1309 rfl ?_
    refine r_iadd (pc' := 1311) X dL_law_1310 rfl ?_
    refine r_sld (i := i + 3) (pc' := 1312) X hX hbl hbA (by omega) (by omega) (by omega) dL_law_1311 rfl ?_
    refine r_aloadB_n (pc' := 1313) X 0 dL_law_1312 rfl rfl rfl ?_
    refine r_iload (pc' := 1315) X 4 dL_law_1313 rfl rfl ?_
    refine r_iconst (pc' := 1316) X dL_law_1315 rfl ?_
    refine r_iadd (pc' := 1317) X dL_law_1316 rfl ?_
    refine r_sld (i := i + 4) (pc' := 1318) X hX hbl hbA (by omega) (by omega) (by omega) dL_law_1317 rfl ?_
    refine r_if_eq (pc' := 1321) (tgt := 1325) X dL_law_1318 rfl rfl (sc_rng _ _) (fun q => absurd q hb_scxsi4) (fun _ => ?_)
    refine r_iconst (pc' := 1322) X dL_law_1321 rfl ?_
    refine r_goto (tgt := 1326) X dL_law_1322 rfl ?_
    refine w_calli (pc' := 1329) (st := []) (w_runV X (c_X9_ahead l G M2 N P (M 19) c1 (by rw [e29]; exact c2) (M 0) (t : Int) c4.1 (by omega) (by rw [e29]; exact c4.2.2.2) c4.2.1 (sc xs (i + 1)) (sc xs (i + 2)) (sc xs (i + 3)) 1 (by first | exact sc_rng _ _ | exact i64_rng _ | exact Or.inl rfl | exact Or.inr rfl) (by first | exact sc_rng _ _ | exact i64_rng _ | exact Or.inl rfl | exact Or.inr rfl) (by first | exact sc_rng _ _ | exact i64_rng _ | exact Or.inl rfl | exact Or.inr rfl) (by first | exact sc_rng _ _ | exact i64_rng _ | exact Or.inl rfl | exact Or.inr rfl)) cf_X9_ahead k29_0 rfl gw_1286 gw_1287 rfl rfl (rmR hRf hRl (by decide) (by decide)) rfl rfl (Nat.le_of_ble_eq_true rfl) ⟨by show _ + 0 ≤ _; omega, by show _ + 0 ≤ _; omega⟩ gw_1285 dL_law_1326) rfl (fun rb M3 hR => ?_)
    obtain ⟨g1, g2, hgo⟩ := ag_ahead h hP hR
    refine r_istore (pc' := 1331) (lc' := [(0, .ref b), (1, vR G (28, 0)), (2, vR G (29, 0)), (3, vR G (30, 0)), (4, vI (i : Int)), (5, vI zc), (6, vI rb)]) X [1, 2, 3, 4, 5, 6, 0] dL_law_1329 (by decide) rfl rfl ?_
    refine r_aload_n (pc' := 1332) X 2 dL_law_1331 rfl rfl rfl ?_
    refine w_calli (pc' := 1335) (st := []) (w_runV X (c_X9_thrown l G M3 ) cf_X9_thrown k29_0 rfl gw_1074 gw_1075 rfl rfl (rmR hRf hRl (by decide) (by decide)) rfl rfl (Nat.le_of_ble_eq_true rfl) ⟨by show _ + 0 ≤ _; omega, by show _ + 0 ≤ _; omega⟩ gw_1073 dL_law_1332) rfl (fun z9 M4 h9 => ?_)
    obtain rfl := h9.1.symm
    obtain rfl := h9.2.symm
    refine r_iload (pc' := 1337) X 5 dL_law_1335 rfl rfl ?_
    refine r_icmp_eqE (tgt := 1342) X (g1) dL_law_1337 rfl ?_
    refine r_iload (pc' := 1344) X 5 dL_law_1342 rfl rfl ?_
    refine r_if_ne (pc' := 1347) (tgt := 1359) X dL_law_1344 rfl rfl (by omega) (fun hz0 => ?_) (fun hz0 => ?_)
    · clear hz0
      refine r_goto (tgt := 2143) X dL_law_1359 rfl ?_
      refine w_sub (lc' := [(0, .ref b), (1, vR G (28, 0)), (2, vR G (29, 0)), (3, vR G (30, 0)), (4, vI (i : Int))]) [0, 1, 2, 3, 4] rfl ?_
      exact next M3 hgo
    · have hz0 : zc = 0 := by omega
      refine r_aload_n (pc' := 1348) X 3 dL_law_1347 rfl rfl rfl ?_
      refine r_iconst (pc' := 1349) X dL_law_1348 rfl ?_
      refine r_lald (i := 0) (pc' := 1350) X k30_0 (by omega) (by omega) (by decide) dL_law_1349 rfl ?_
      refine r_iload (pc' := 1352) X 6 dL_law_1350 rfl rfl ?_
      refine r_i2lw (pc' := 1353) X dL_law_1352 rfl ?_
      refine r_lcmpE (pc' := 1354) X (g2 hz0) dL_law_1353 rfl ?_
      refine r_if_eq (pc' := 1357) (tgt := 1359) X dL_law_1354 rfl rfl (by omega) (fun _ => ?_) (fun q => absurd rfl q)
      refine r_goto (tgt := 2143) X dL_law_1359 rfl ?_
      refine w_sub (lc' := [(0, .ref b), (1, vR G (28, 0)), (2, vR G (29, 0)), (3, vR G (30, 0)), (4, vI (i : Int))]) [0, 1, 2, 3, 4] rfl ?_
      exact next M3 hgo
set_option maxRecDepth 100000 in
set_option maxHeartbeats 4000000 in
theorem lc_20 {p : Program} {l : Launch} {e : Env} {R : Room} {s : State} {m : MethodId} {args : Array Value} {below : List Frame} {meth : Method} {c : Code} {k n : Nat} {Q : State → Prop} {G : wG} {M : wM} {b Ls i t : Nat} {xs : Nat → Int32} (X : wX p s m args meth c G 8 "StateObserverLaw" cL_law) (hfl : l.stackTraces = false) (hX : va_X b Ls xs s s.heap) (hbl : b < s.heap.size) (hbA : ¬ wA G b) (hLs : Ls ≤ 2560) (hi : i + 5 ≤ Ls) (ht : t ≤ 600) (hLR : LR (t : Int) M) (hRf : 10 ≤ R.frames) (hRl : 430 ≤ R.locals) (hRc : k + 1 ≤ R.cells) (hRs : n + 6 ≤ R.slots) (next : ∀ M1, LR ((t : Int) + 1) M1 → wV p l e R s m args below meth c G 8 M1 (k + 1) (n + 6) Q 2143 [(0, .ref b), (1, vR G (28, 0)), (2, vR G (29, 0)), (3, vR G (30, 0)), (4, vI (i : Int))] []) : wV p l e R s m args below meth c G 8 M k n Q 1362 [(0, .ref b), (1, vR G (28, 0)), (2, vR G (29, 0)), (3, vR G (30, 0)), (4, vI (i : Int))] [] := by
  obtain ⟨N, P, L0, nx, ct, h⟩ := hLR
  obtain ⟨c1, c2, c3, c4, c5, c6, c7, c8, c9, c10, c11, c12, c13, c14, c15⟩ := id h
  have hN4 : N ≤ 4 := c1.2.2.1
  have hP3 : P ≤ 3 := c1.2.2.2.2.2.1
  have hck : COk M N P (t : Int) := ⟨c1, c4.1, c4.2.1⟩
  refine r_aload_n (pc' := 1363) X 1 dL_law_1362 rfl rfl rfl ?_
  refine r_aloadB_n (pc' := 1364) X 0 dL_law_1363 rfl rfl rfl ?_
  refine r_iload (pc' := 1366) X 4 dL_law_1364 rfl rfl ?_
  refine r_iconst (pc' := 1367) X dL_law_1366 rfl ?_
  refine r_iadd (pc' := 1368) X dL_law_1367 rfl ?_
  refine r_sld (i := i + 1) (pc' := 1369) X hX hbl hbA (by omega) (by omega) (by omega) dL_law_1368 rfl ?_
  refine r_aloadB_n (pc' := 1370) X 0 dL_law_1369 rfl rfl rfl ?_
  refine r_iload (pc' := 1372) X 4 dL_law_1370 rfl rfl ?_
  refine r_iconst (pc' := 1373) X dL_law_1372 rfl ?_
  refine r_iadd (pc' := 1374) X dL_law_1373 rfl ?_
  refine r_sld (i := i + 2) (pc' := 1375) X hX hbl hbA (by omega) (by omega) (by omega) dL_law_1374 rfl ?_
  refine r_aloadB_n (pc' := 1376) X 0 dL_law_1375 rfl rfl rfl ?_
  refine r_iload (pc' := 1378) X 4 dL_law_1376 rfl rfl ?_
  refine r_iconst (pc' := 1379) X dL_law_1378 rfl ?_
  refine r_iadd (pc' := 1380) X dL_law_1379 rfl ?_
  refine r_sld (i := i + 3) (pc' := 1381) X hX hbl hbA (by omega) (by omega) (by omega) dL_law_1380 rfl ?_
  refine r_aloadB_n (pc' := 1382) X 0 dL_law_1381 rfl rfl rfl ?_
  refine r_iload (pc' := 1384) X 4 dL_law_1382 rfl rfl ?_
  refine r_iconst (pc' := 1385) X dL_law_1384 rfl ?_
  refine r_iadd (pc' := 1386) X dL_law_1385 rfl ?_
  refine r_sld (i := i + 4) (pc' := 1387) X hX hbl hbA (by omega) (by omega) (by omega) dL_law_1386 rfl ?_
  refine r_if_eq (pc' := 1390) (tgt := 1394) X dL_law_1387 rfl rfl (sc_rng _ _) (fun hb_scxsi4 => ?_) (fun hb_scxsi4 => ?_)
  · refine r_iconst (pc' := 1395) X dL_law_1394 rfl ?_
    refine r_aload_n (pc' := 1396) X 3 dL_law_1395 rfl rfl rfl ?_
    refine w_calli (pc' := 1399) (st := []) (w_runSH X (c_L_earliest l G M hfl N P (t : Int) hck (by omega) (sc xs (i + 1)) (sc xs (i + 2)) (sc xs (i + 3)) 0 (by first | exact sc_rng _ _ | exact i64_rng _ | exact Or.inl rfl | exact Or.inr rfl) (by first | exact sc_rng _ _ | exact i64_rng _ | exact Or.inl rfl | exact Or.inr rfl) (by first | exact sc_rng _ _ | exact i64_rng _ | exact Or.inl rfl | exact Or.inr rfl) (by first | exact sc_rng _ _ | exact i64_rng _ | exact Or.inl rfl | exact Or.inr rfl)) cf_L_earliest gw_819 rfl rfl (rmR hRf hRl (by decide) (by decide)) rfl rfl (Nat.le_of_ble_eq_true rfl) ⟨hRc, hRs⟩ gw_818 dL_law_1396) rfl (fun zc M2 hP => ?_)
    obtain ⟨e29, hzc⟩ := pr_earliest (T := (t : Int)) (L := L0) (P := P) (N := N) (ct := ct) c9 hP
    refine r_istore (pc' := 1401) (lc' := [(0, .ref b), (1, vR G (28, 0)), (2, vR G (29, 0)), (3, vR G (30, 0)), (4, vI (i : Int)), (5, vI zc)]) X [1, 2, 3, 4, 5, 0] dL_law_1399 (by decide) rfl rfl ?_
    refine r_aload_n (pc' := 1402) X 2 dL_law_1401 rfl rfl rfl ?_
    refine r_aloadB_n (pc' := 1403) X 0 dL_law_1402 rfl rfl rfl ?_
    refine r_iload (pc' := 1405) X 4 dL_law_1403 rfl rfl ?_
    refine r_iconst (pc' := 1406) X dL_law_1405 rfl ?_
    refine r_iadd (pc' := 1407) X dL_law_1406 rfl ?_
    refine r_sld (i := i + 1) (pc' := 1408) X hX hbl hbA (by omega) (by omega) (by omega) dL_law_1407 rfl ?_
    refine r_aloadB_n (pc' := 1409) X 0 dL_law_1408 rfl rfl rfl ?_
    refine r_iload (pc' := 1411) X 4 dL_law_1409 rfl rfl ?_
    refine r_iconst (pc' := 1412) X dL_law_1411 rfl ?_
    refine r_iadd (pc' := 1413) X dL_law_1412 rfl ?_
    refine r_sld (i := i + 2) (pc' := 1414) X hX hbl hbA (by omega) (by omega) (by omega) dL_law_1413 rfl ?_
    refine r_aloadB_n (pc' := 1415) X 0 dL_law_1414 rfl rfl rfl ?_
    refine r_iload (pc' := 1417) X 4 dL_law_1415 rfl rfl ?_
    refine r_iconst (pc' := 1418) X dL_law_1417 rfl ?_
    refine r_iadd (pc' := 1419) X dL_law_1418 rfl ?_
    refine r_sld (i := i + 3) (pc' := 1420) X hX hbl hbA (by omega) (by omega) (by omega) dL_law_1419 rfl ?_
    refine r_aloadB_n (pc' := 1421) X 0 dL_law_1420 rfl rfl rfl ?_
    refine r_iload (pc' := 1423) X 4 dL_law_1421 rfl rfl ?_
    refine r_iconst (pc' := 1424) X dL_law_1423 rfl ?_
    refine r_iadd (pc' := 1425) X dL_law_1424 rfl ?_
    refine r_sld (i := i + 4) (pc' := 1426) X hX hbl hbA (by omega) (by omega) (by omega) dL_law_1425 rfl ?_
    refine r_if_eq (pc' := 1429) (tgt := 1433) X dL_law_1426 rfl rfl (sc_rng _ _) (fun _ => ?_) (fun q => absurd hb_scxsi4 q)
    refine r_iconst (pc' := 1434) X dL_law_1433 rfl ?_
    refine w_calli (pc' := 1437) (st := []) (w_runV X (c_X9_earliest l G M2 N P (M 19) c1 (by rw [e29]; exact c2) (M 0) (t : Int) c4.1 (by omega) (by rw [e29]; exact c4.2.2.2) c4.2.1 (sc xs (i + 1)) (sc xs (i + 2)) (sc xs (i + 3)) 0 (by first | exact sc_rng _ _ | exact i64_rng _ | exact Or.inl rfl | exact Or.inr rfl) (by first | exact sc_rng _ _ | exact i64_rng _ | exact Or.inl rfl | exact Or.inr rfl) (by first | exact sc_rng _ _ | exact i64_rng _ | exact Or.inl rfl | exact Or.inr rfl) (by first | exact sc_rng _ _ | exact i64_rng _ | exact Or.inl rfl | exact Or.inr rfl)) cf_X9_earliest k29_0 rfl gw_1291 gw_1292 rfl rfl (rmR hRf hRl (by decide) (by decide)) rfl rfl (Nat.le_of_ble_eq_true rfl) ⟨by show _ + 0 ≤ _; omega, by show _ + 0 ≤ _; omega⟩ gw_1290 dL_law_1434) rfl (fun rb M3 hR => ?_)
    obtain ⟨g1, g2, hgo⟩ := ag_earliest h hP hR
    refine r_istore (pc' := 1439) (lc' := [(0, .ref b), (1, vR G (28, 0)), (2, vR G (29, 0)), (3, vR G (30, 0)), (4, vI (i : Int)), (5, vI zc), (6, vI rb)]) X [1, 2, 3, 4, 5, 6, 0] dL_law_1437 (by decide) rfl rfl ?_
    refine r_aload_n (pc' := 1440) X 2 dL_law_1439 rfl rfl rfl ?_
    refine w_calli (pc' := 1443) (st := []) (w_runV X (c_X9_thrown l G M3 ) cf_X9_thrown k29_0 rfl gw_1074 gw_1075 rfl rfl (rmR hRf hRl (by decide) (by decide)) rfl rfl (Nat.le_of_ble_eq_true rfl) ⟨by show _ + 0 ≤ _; omega, by show _ + 0 ≤ _; omega⟩ gw_1073 dL_law_1440) rfl (fun z9 M4 h9 => ?_)
    obtain rfl := h9.1.symm
    obtain rfl := h9.2.symm
    refine r_iload (pc' := 1445) X 5 dL_law_1443 rfl rfl ?_
    refine r_icmp_eqE (tgt := 1450) X (g1) dL_law_1445 rfl ?_
    refine r_iload (pc' := 1452) X 5 dL_law_1450 rfl rfl ?_
    refine r_if_ne (pc' := 1455) (tgt := 1467) X dL_law_1452 rfl rfl (by omega) (fun hz0 => ?_) (fun hz0 => ?_)
    · clear hz0
      refine r_goto (tgt := 2143) X dL_law_1467 rfl ?_
      refine w_sub (lc' := [(0, .ref b), (1, vR G (28, 0)), (2, vR G (29, 0)), (3, vR G (30, 0)), (4, vI (i : Int))]) [0, 1, 2, 3, 4] rfl ?_
      exact next M3 hgo
    · have hz0 : zc = 0 := by omega
      refine r_aload_n (pc' := 1456) X 3 dL_law_1455 rfl rfl rfl ?_
      refine r_iconst (pc' := 1457) X dL_law_1456 rfl ?_
      refine r_lald (i := 0) (pc' := 1458) X k30_0 (by omega) (by omega) (by decide) dL_law_1457 rfl ?_
      refine r_iload (pc' := 1460) X 6 dL_law_1458 rfl rfl ?_
      refine r_i2lw (pc' := 1461) X dL_law_1460 rfl ?_
      refine r_lcmpE (pc' := 1462) X (g2 hz0) dL_law_1461 rfl ?_
      refine r_if_eq (pc' := 1465) (tgt := 1467) X dL_law_1462 rfl rfl (by omega) (fun _ => ?_) (fun q => absurd rfl q)
      refine r_goto (tgt := 2143) X dL_law_1467 rfl ?_
      refine w_sub (lc' := [(0, .ref b), (1, vR G (28, 0)), (2, vR G (29, 0)), (3, vR G (30, 0)), (4, vI (i : Int))]) [0, 1, 2, 3, 4] rfl ?_
      exact next M3 hgo
  · refine r_iconst (pc' := 1391) X dL_law_1390 rfl ?_
    refine r_goto (tgt := 1395) X dL_law_1391 rfl ?_
    refine r_aload_n (pc' := 1396) X 3 dL_law_1395 rfl rfl rfl ?_
    refine w_calli (pc' := 1399) (st := []) (w_runSH X (c_L_earliest l G M hfl N P (t : Int) hck (by omega) (sc xs (i + 1)) (sc xs (i + 2)) (sc xs (i + 3)) 1 (by first | exact sc_rng _ _ | exact i64_rng _ | exact Or.inl rfl | exact Or.inr rfl) (by first | exact sc_rng _ _ | exact i64_rng _ | exact Or.inl rfl | exact Or.inr rfl) (by first | exact sc_rng _ _ | exact i64_rng _ | exact Or.inl rfl | exact Or.inr rfl) (by first | exact sc_rng _ _ | exact i64_rng _ | exact Or.inl rfl | exact Or.inr rfl)) cf_L_earliest gw_819 rfl rfl (rmR hRf hRl (by decide) (by decide)) rfl rfl (Nat.le_of_ble_eq_true rfl) ⟨hRc, hRs⟩ gw_818 dL_law_1396) rfl (fun zc M2 hP => ?_)
    obtain ⟨e29, hzc⟩ := pr_earliest (T := (t : Int)) (L := L0) (P := P) (N := N) (ct := ct) c9 hP
    refine r_istore (pc' := 1401) (lc' := [(0, .ref b), (1, vR G (28, 0)), (2, vR G (29, 0)), (3, vR G (30, 0)), (4, vI (i : Int)), (5, vI zc)]) X [1, 2, 3, 4, 5, 0] dL_law_1399 (by decide) rfl rfl ?_
    refine r_aload_n (pc' := 1402) X 2 dL_law_1401 rfl rfl rfl ?_
    refine r_aloadB_n (pc' := 1403) X 0 dL_law_1402 rfl rfl rfl ?_
    refine r_iload (pc' := 1405) X 4 dL_law_1403 rfl rfl ?_
    refine r_iconst (pc' := 1406) X dL_law_1405 rfl ?_
    refine r_iadd (pc' := 1407) X dL_law_1406 rfl ?_
    refine r_sld (i := i + 1) (pc' := 1408) X hX hbl hbA (by omega) (by omega) (by omega) dL_law_1407 rfl ?_
    refine r_aloadB_n (pc' := 1409) X 0 dL_law_1408 rfl rfl rfl ?_
    refine r_iload (pc' := 1411) X 4 dL_law_1409 rfl rfl ?_
    refine r_iconst (pc' := 1412) X dL_law_1411 rfl ?_
    refine r_iadd (pc' := 1413) X dL_law_1412 rfl ?_
    refine r_sld (i := i + 2) (pc' := 1414) X hX hbl hbA (by omega) (by omega) (by omega) dL_law_1413 rfl ?_
    refine r_aloadB_n (pc' := 1415) X 0 dL_law_1414 rfl rfl rfl ?_
    refine r_iload (pc' := 1417) X 4 dL_law_1415 rfl rfl ?_
    refine r_iconst (pc' := 1418) X dL_law_1417 rfl ?_
    refine r_iadd (pc' := 1419) X dL_law_1418 rfl ?_
    refine r_sld (i := i + 3) (pc' := 1420) X hX hbl hbA (by omega) (by omega) (by omega) dL_law_1419 rfl ?_
    refine r_aloadB_n (pc' := 1421) X 0 dL_law_1420 rfl rfl rfl ?_
    refine r_iload (pc' := 1423) X 4 dL_law_1421 rfl rfl ?_
    refine r_iconst (pc' := 1424) X dL_law_1423 rfl ?_
    refine r_iadd (pc' := 1425) X dL_law_1424 rfl ?_
    refine r_sld (i := i + 4) (pc' := 1426) X hX hbl hbA (by omega) (by omega) (by omega) dL_law_1425 rfl ?_
    refine r_if_eq (pc' := 1429) (tgt := 1433) X dL_law_1426 rfl rfl (sc_rng _ _) (fun q => absurd q hb_scxsi4) (fun _ => ?_)
    refine r_iconst (pc' := 1430) X dL_law_1429 rfl ?_
    refine r_goto (tgt := 1434) X dL_law_1430 rfl ?_
    refine w_calli (pc' := 1437) (st := []) (w_runV X (c_X9_earliest l G M2 N P (M 19) c1 (by rw [e29]; exact c2) (M 0) (t : Int) c4.1 (by omega) (by rw [e29]; exact c4.2.2.2) c4.2.1 (sc xs (i + 1)) (sc xs (i + 2)) (sc xs (i + 3)) 1 (by first | exact sc_rng _ _ | exact i64_rng _ | exact Or.inl rfl | exact Or.inr rfl) (by first | exact sc_rng _ _ | exact i64_rng _ | exact Or.inl rfl | exact Or.inr rfl) (by first | exact sc_rng _ _ | exact i64_rng _ | exact Or.inl rfl | exact Or.inr rfl) (by first | exact sc_rng _ _ | exact i64_rng _ | exact Or.inl rfl | exact Or.inr rfl)) cf_X9_earliest k29_0 rfl gw_1291 gw_1292 rfl rfl (rmR hRf hRl (by decide) (by decide)) rfl rfl (Nat.le_of_ble_eq_true rfl) ⟨by show _ + 0 ≤ _; omega, by show _ + 0 ≤ _; omega⟩ gw_1290 dL_law_1434) rfl (fun rb M3 hR => ?_)
    obtain ⟨g1, g2, hgo⟩ := ag_earliest h hP hR
    refine r_istore (pc' := 1439) (lc' := [(0, .ref b), (1, vR G (28, 0)), (2, vR G (29, 0)), (3, vR G (30, 0)), (4, vI (i : Int)), (5, vI zc), (6, vI rb)]) X [1, 2, 3, 4, 5, 6, 0] dL_law_1437 (by decide) rfl rfl ?_
    refine r_aload_n (pc' := 1440) X 2 dL_law_1439 rfl rfl rfl ?_
    refine w_calli (pc' := 1443) (st := []) (w_runV X (c_X9_thrown l G M3 ) cf_X9_thrown k29_0 rfl gw_1074 gw_1075 rfl rfl (rmR hRf hRl (by decide) (by decide)) rfl rfl (Nat.le_of_ble_eq_true rfl) ⟨by show _ + 0 ≤ _; omega, by show _ + 0 ≤ _; omega⟩ gw_1073 dL_law_1440) rfl (fun z9 M4 h9 => ?_)
    obtain rfl := h9.1.symm
    obtain rfl := h9.2.symm
    refine r_iload (pc' := 1445) X 5 dL_law_1443 rfl rfl ?_
    refine r_icmp_eqE (tgt := 1450) X (g1) dL_law_1445 rfl ?_
    refine r_iload (pc' := 1452) X 5 dL_law_1450 rfl rfl ?_
    refine r_if_ne (pc' := 1455) (tgt := 1467) X dL_law_1452 rfl rfl (by omega) (fun hz0 => ?_) (fun hz0 => ?_)
    · clear hz0
      refine r_goto (tgt := 2143) X dL_law_1467 rfl ?_
      refine w_sub (lc' := [(0, .ref b), (1, vR G (28, 0)), (2, vR G (29, 0)), (3, vR G (30, 0)), (4, vI (i : Int))]) [0, 1, 2, 3, 4] rfl ?_
      exact next M3 hgo
    · have hz0 : zc = 0 := by omega
      refine r_aload_n (pc' := 1456) X 3 dL_law_1455 rfl rfl rfl ?_
      refine r_iconst (pc' := 1457) X dL_law_1456 rfl ?_
      refine r_lald (i := 0) (pc' := 1458) X k30_0 (by omega) (by omega) (by decide) dL_law_1457 rfl ?_
      refine r_iload (pc' := 1460) X 6 dL_law_1458 rfl rfl ?_
      refine r_i2lw (pc' := 1461) X dL_law_1460 rfl ?_
      refine r_lcmpE (pc' := 1462) X (g2 hz0) dL_law_1461 rfl ?_
      refine r_if_eq (pc' := 1465) (tgt := 1467) X dL_law_1462 rfl rfl (by omega) (fun _ => ?_) (fun q => absurd rfl q)
      refine r_goto (tgt := 2143) X dL_law_1467 rfl ?_
      refine w_sub (lc' := [(0, .ref b), (1, vR G (28, 0)), (2, vR G (29, 0)), (3, vR G (30, 0)), (4, vI (i : Int))]) [0, 1, 2, 3, 4] rfl ?_
      exact next M3 hgo
set_option maxRecDepth 100000 in
set_option maxHeartbeats 4000000 in
theorem lc_21 {p : Program} {l : Launch} {e : Env} {R : Room} {s : State} {m : MethodId} {args : Array Value} {below : List Frame} {meth : Method} {c : Code} {k n : Nat} {Q : State → Prop} {G : wG} {M : wM} {b Ls i t : Nat} {xs : Nat → Int32} (X : wX p s m args meth c G 8 "StateObserverLaw" cL_law) (hfl : l.stackTraces = false) (hX : va_X b Ls xs s s.heap) (hbl : b < s.heap.size) (hbA : ¬ wA G b) (hLs : Ls ≤ 2560) (hi : i + 5 ≤ Ls) (ht : t ≤ 600) (hLR : LR (t : Int) M) (hRf : 10 ≤ R.frames) (hRl : 430 ≤ R.locals) (hRc : k + 1 ≤ R.cells) (hRs : n + 6 ≤ R.slots) (next : ∀ M1, LR ((t : Int) + 1) M1 → wV p l e R s m args below meth c G 8 M1 (k + 1) (n + 6) Q 2143 [(0, .ref b), (1, vR G (28, 0)), (2, vR G (29, 0)), (3, vR G (30, 0)), (4, vI (i : Int))] []) : wV p l e R s m args below meth c G 8 M k n Q 1470 [(0, .ref b), (1, vR G (28, 0)), (2, vR G (29, 0)), (3, vR G (30, 0)), (4, vI (i : Int))] [] := by
  obtain ⟨N, P, L0, nx, ct, h⟩ := hLR
  obtain ⟨c1, c2, c3, c4, c5, c6, c7, c8, c9, c10, c11, c12, c13, c14, c15⟩ := id h
  have hN4 : N ≤ 4 := c1.2.2.1
  have hP3 : P ≤ 3 := c1.2.2.2.2.2.1
  have hck : COk M N P (t : Int) := ⟨c1, c4.1, c4.2.1⟩
  refine r_aload_n (pc' := 1471) X 1 dL_law_1470 rfl rfl rfl ?_
  refine r_aloadB_n (pc' := 1472) X 0 dL_law_1471 rfl rfl rfl ?_
  refine r_iload (pc' := 1474) X 4 dL_law_1472 rfl rfl ?_
  refine r_iconst (pc' := 1475) X dL_law_1474 rfl ?_
  refine r_iadd (pc' := 1476) X dL_law_1475 rfl ?_
  refine r_sld (i := i + 1) (pc' := 1477) X hX hbl hbA (by omega) (by omega) (by omega) dL_law_1476 rfl ?_
  refine r_if_eq (pc' := 1480) (tgt := 1484) X dL_law_1477 rfl rfl (sc_rng _ _) (fun hb_scxsi1 => ?_) (fun hb_scxsi1 => ?_)
  · refine r_iconst (pc' := 1485) X dL_law_1484 rfl ?_
    refine r_aload_n (pc' := 1486) X 3 dL_law_1485 rfl rfl rfl ?_
    refine w_calli (pc' := 1489) (st := []) (w_runSH X (c_L_unknown l G M hfl N P (t : Int) hck (by omega) 0 (by first | exact sc_rng _ _ | exact i64_rng _ | exact Or.inl rfl | exact Or.inr rfl)) cf_L_unknown gw_827 rfl rfl (rmR hRf hRl (by decide) (by decide)) rfl rfl (Nat.le_of_ble_eq_true rfl) ⟨hRc, hRs⟩ gw_826 dL_law_1486) rfl (fun zc M2 hP => ?_)
    obtain ⟨e29, hzc⟩ := pr_unknown (T := (t : Int)) (L := L0) (P := P) (N := N) (ct := ct) c9 hP
    refine r_istore (pc' := 1491) (lc' := [(0, .ref b), (1, vR G (28, 0)), (2, vR G (29, 0)), (3, vR G (30, 0)), (4, vI (i : Int)), (5, vI zc)]) X [1, 2, 3, 4, 5, 0] dL_law_1489 (by decide) rfl rfl ?_
    refine r_aload_n (pc' := 1492) X 2 dL_law_1491 rfl rfl rfl ?_
    refine r_aloadB_n (pc' := 1493) X 0 dL_law_1492 rfl rfl rfl ?_
    refine r_iload (pc' := 1495) X 4 dL_law_1493 rfl rfl ?_
    refine r_iconst (pc' := 1496) X dL_law_1495 rfl ?_
    refine r_iadd (pc' := 1497) X dL_law_1496 rfl ?_
    refine r_sld (i := i + 1) (pc' := 1498) X hX hbl hbA (by omega) (by omega) (by omega) dL_law_1497 rfl ?_
    refine r_if_eq (pc' := 1501) (tgt := 1505) X dL_law_1498 rfl rfl (sc_rng _ _) (fun _ => ?_) (fun q => absurd hb_scxsi1 q)
    refine r_iconst (pc' := 1506) X dL_law_1505 rfl ?_
    refine w_calli (pc' := 1509) (st := []) (w_runV X (c_X9_unknown l G M2 N P (M 19) c1 (by rw [e29]; exact c2) (M 0) (t : Int) c4.1 (by omega) (by rw [e29]; exact c4.2.2.2) 0 (by first | exact sc_rng _ _ | exact i64_rng _ | exact Or.inl rfl | exact Or.inr rfl)) cf_X9_unknown k29_0 rfl gw_1295 gw_1296 rfl rfl (rmR hRf hRl (by decide) (by decide)) rfl rfl (Nat.le_of_ble_eq_true rfl) ⟨by show _ + 0 ≤ _; omega, by show _ + 0 ≤ _; omega⟩ gw_1294 dL_law_1506) rfl (fun rb M3 hR => ?_)
    obtain ⟨g1, g2, hgo⟩ := ag_unknown h hP hR
    refine r_istore (pc' := 1511) (lc' := [(0, .ref b), (1, vR G (28, 0)), (2, vR G (29, 0)), (3, vR G (30, 0)), (4, vI (i : Int)), (5, vI zc), (6, vI rb)]) X [1, 2, 3, 4, 5, 6, 0] dL_law_1509 (by decide) rfl rfl ?_
    refine r_aload_n (pc' := 1512) X 2 dL_law_1511 rfl rfl rfl ?_
    refine w_calli (pc' := 1515) (st := []) (w_runV X (c_X9_thrown l G M3 ) cf_X9_thrown k29_0 rfl gw_1074 gw_1075 rfl rfl (rmR hRf hRl (by decide) (by decide)) rfl rfl (Nat.le_of_ble_eq_true rfl) ⟨by show _ + 0 ≤ _; omega, by show _ + 0 ≤ _; omega⟩ gw_1073 dL_law_1512) rfl (fun z9 M4 h9 => ?_)
    obtain rfl := h9.1.symm
    obtain rfl := h9.2.symm
    refine r_iload (pc' := 1517) X 5 dL_law_1515 rfl rfl ?_
    refine r_icmp_eqE (tgt := 1522) X (g1) dL_law_1517 rfl ?_
    refine r_iload (pc' := 1524) X 5 dL_law_1522 rfl rfl ?_
    refine r_if_ne (pc' := 1527) (tgt := 1539) X dL_law_1524 rfl rfl (by omega) (fun hz0 => ?_) (fun hz0 => ?_)
    · clear hz0
      refine r_goto (tgt := 2143) X dL_law_1539 rfl ?_
      refine w_sub (lc' := [(0, .ref b), (1, vR G (28, 0)), (2, vR G (29, 0)), (3, vR G (30, 0)), (4, vI (i : Int))]) [0, 1, 2, 3, 4] rfl ?_
      exact next M3 hgo
    · have hz0 : zc = 0 := by omega
      refine r_aload_n (pc' := 1528) X 3 dL_law_1527 rfl rfl rfl ?_
      refine r_iconst (pc' := 1529) X dL_law_1528 rfl ?_
      refine r_lald (i := 0) (pc' := 1530) X k30_0 (by omega) (by omega) (by decide) dL_law_1529 rfl ?_
      refine r_iload (pc' := 1532) X 6 dL_law_1530 rfl rfl ?_
      refine r_i2lw (pc' := 1533) X dL_law_1532 rfl ?_
      refine r_lcmpE (pc' := 1534) X (g2 hz0) dL_law_1533 rfl ?_
      refine r_if_eq (pc' := 1537) (tgt := 1539) X dL_law_1534 rfl rfl (by omega) (fun _ => ?_) (fun q => absurd rfl q)
      refine r_goto (tgt := 2143) X dL_law_1539 rfl ?_
      refine w_sub (lc' := [(0, .ref b), (1, vR G (28, 0)), (2, vR G (29, 0)), (3, vR G (30, 0)), (4, vI (i : Int))]) [0, 1, 2, 3, 4] rfl ?_
      exact next M3 hgo
  · refine r_iconst (pc' := 1481) X dL_law_1480 rfl ?_
    refine r_goto (tgt := 1485) X dL_law_1481 rfl ?_
    refine r_aload_n (pc' := 1486) X 3 dL_law_1485 rfl rfl rfl ?_
    refine w_calli (pc' := 1489) (st := []) (w_runSH X (c_L_unknown l G M hfl N P (t : Int) hck (by omega) 1 (by first | exact sc_rng _ _ | exact i64_rng _ | exact Or.inl rfl | exact Or.inr rfl)) cf_L_unknown gw_827 rfl rfl (rmR hRf hRl (by decide) (by decide)) rfl rfl (Nat.le_of_ble_eq_true rfl) ⟨hRc, hRs⟩ gw_826 dL_law_1486) rfl (fun zc M2 hP => ?_)
    obtain ⟨e29, hzc⟩ := pr_unknown (T := (t : Int)) (L := L0) (P := P) (N := N) (ct := ct) c9 hP
    refine r_istore (pc' := 1491) (lc' := [(0, .ref b), (1, vR G (28, 0)), (2, vR G (29, 0)), (3, vR G (30, 0)), (4, vI (i : Int)), (5, vI zc)]) X [1, 2, 3, 4, 5, 0] dL_law_1489 (by decide) rfl rfl ?_
    refine r_aload_n (pc' := 1492) X 2 dL_law_1491 rfl rfl rfl ?_
    refine r_aloadB_n (pc' := 1493) X 0 dL_law_1492 rfl rfl rfl ?_
    refine r_iload (pc' := 1495) X 4 dL_law_1493 rfl rfl ?_
    refine r_iconst (pc' := 1496) X dL_law_1495 rfl ?_
    refine r_iadd (pc' := 1497) X dL_law_1496 rfl ?_
    refine r_sld (i := i + 1) (pc' := 1498) X hX hbl hbA (by omega) (by omega) (by omega) dL_law_1497 rfl ?_
    refine r_if_eq (pc' := 1501) (tgt := 1505) X dL_law_1498 rfl rfl (sc_rng _ _) (fun q => absurd q hb_scxsi1) (fun _ => ?_)
    refine r_iconst (pc' := 1502) X dL_law_1501 rfl ?_
    refine r_goto (tgt := 1506) X dL_law_1502 rfl ?_
    refine w_calli (pc' := 1509) (st := []) (w_runV X (c_X9_unknown l G M2 N P (M 19) c1 (by rw [e29]; exact c2) (M 0) (t : Int) c4.1 (by omega) (by rw [e29]; exact c4.2.2.2) 1 (by first | exact sc_rng _ _ | exact i64_rng _ | exact Or.inl rfl | exact Or.inr rfl)) cf_X9_unknown k29_0 rfl gw_1295 gw_1296 rfl rfl (rmR hRf hRl (by decide) (by decide)) rfl rfl (Nat.le_of_ble_eq_true rfl) ⟨by show _ + 0 ≤ _; omega, by show _ + 0 ≤ _; omega⟩ gw_1294 dL_law_1506) rfl (fun rb M3 hR => ?_)
    obtain ⟨g1, g2, hgo⟩ := ag_unknown h hP hR
    refine r_istore (pc' := 1511) (lc' := [(0, .ref b), (1, vR G (28, 0)), (2, vR G (29, 0)), (3, vR G (30, 0)), (4, vI (i : Int)), (5, vI zc), (6, vI rb)]) X [1, 2, 3, 4, 5, 6, 0] dL_law_1509 (by decide) rfl rfl ?_
    refine r_aload_n (pc' := 1512) X 2 dL_law_1511 rfl rfl rfl ?_
    refine w_calli (pc' := 1515) (st := []) (w_runV X (c_X9_thrown l G M3 ) cf_X9_thrown k29_0 rfl gw_1074 gw_1075 rfl rfl (rmR hRf hRl (by decide) (by decide)) rfl rfl (Nat.le_of_ble_eq_true rfl) ⟨by show _ + 0 ≤ _; omega, by show _ + 0 ≤ _; omega⟩ gw_1073 dL_law_1512) rfl (fun z9 M4 h9 => ?_)
    obtain rfl := h9.1.symm
    obtain rfl := h9.2.symm
    refine r_iload (pc' := 1517) X 5 dL_law_1515 rfl rfl ?_
    refine r_icmp_eqE (tgt := 1522) X (g1) dL_law_1517 rfl ?_
    refine r_iload (pc' := 1524) X 5 dL_law_1522 rfl rfl ?_
    refine r_if_ne (pc' := 1527) (tgt := 1539) X dL_law_1524 rfl rfl (by omega) (fun hz0 => ?_) (fun hz0 => ?_)
    · clear hz0
      refine r_goto (tgt := 2143) X dL_law_1539 rfl ?_
      refine w_sub (lc' := [(0, .ref b), (1, vR G (28, 0)), (2, vR G (29, 0)), (3, vR G (30, 0)), (4, vI (i : Int))]) [0, 1, 2, 3, 4] rfl ?_
      exact next M3 hgo
    · have hz0 : zc = 0 := by omega
      refine r_aload_n (pc' := 1528) X 3 dL_law_1527 rfl rfl rfl ?_
      refine r_iconst (pc' := 1529) X dL_law_1528 rfl ?_
      refine r_lald (i := 0) (pc' := 1530) X k30_0 (by omega) (by omega) (by decide) dL_law_1529 rfl ?_
      refine r_iload (pc' := 1532) X 6 dL_law_1530 rfl rfl ?_
      refine r_i2lw (pc' := 1533) X dL_law_1532 rfl ?_
      refine r_lcmpE (pc' := 1534) X (g2 hz0) dL_law_1533 rfl ?_
      refine r_if_eq (pc' := 1537) (tgt := 1539) X dL_law_1534 rfl rfl (by omega) (fun _ => ?_) (fun q => absurd rfl q)
      refine r_goto (tgt := 2143) X dL_law_1539 rfl ?_
      refine w_sub (lc' := [(0, .ref b), (1, vR G (28, 0)), (2, vR G (29, 0)), (3, vR G (30, 0)), (4, vI (i : Int))]) [0, 1, 2, 3, 4] rfl ?_
      exact next M3 hgo
set_option maxRecDepth 100000 in
set_option maxHeartbeats 4000000 in
theorem lc_22 {p : Program} {l : Launch} {e : Env} {R : Room} {s : State} {m : MethodId} {args : Array Value} {below : List Frame} {meth : Method} {c : Code} {k n : Nat} {Q : State → Prop} {G : wG} {M : wM} {b Ls i t : Nat} {xs : Nat → Int32} (X : wX p s m args meth c G 8 "StateObserverLaw" cL_law) (hfl : l.stackTraces = false) (hX : va_X b Ls xs s s.heap) (hbl : b < s.heap.size) (hbA : ¬ wA G b) (hLs : Ls ≤ 2560) (hi : i + 5 ≤ Ls) (ht : t ≤ 600) (hLR : LR (t : Int) M) (hRf : 10 ≤ R.frames) (hRl : 430 ≤ R.locals) (hRc : k + 1 ≤ R.cells) (hRs : n + 6 ≤ R.slots) (next : ∀ M1, LR ((t : Int) + 1) M1 → wV p l e R s m args below meth c G 8 M1 (k + 1) (n + 6) Q 2143 [(0, .ref b), (1, vR G (28, 0)), (2, vR G (29, 0)), (3, vR G (30, 0)), (4, vI (i : Int))] []) : wV p l e R s m args below meth c G 8 M k n Q 1542 [(0, .ref b), (1, vR G (28, 0)), (2, vR G (29, 0)), (3, vR G (30, 0)), (4, vI (i : Int))] [] := by
  obtain ⟨N, P, L0, nx, ct, h⟩ := hLR
  obtain ⟨c1, c2, c3, c4, c5, c6, c7, c8, c9, c10, c11, c12, c13, c14, c15⟩ := id h
  have hN4 : N ≤ 4 := c1.2.2.1
  have hP3 : P ≤ 3 := c1.2.2.2.2.2.1
  have hck : COk M N P (t : Int) := ⟨c1, c4.1, c4.2.1⟩
  refine r_aload_n (pc' := 1543) X 1 dL_law_1542 rfl rfl rfl ?_
  refine r_aloadB_n (pc' := 1544) X 0 dL_law_1543 rfl rfl rfl ?_
  refine r_iload (pc' := 1546) X 4 dL_law_1544 rfl rfl ?_
  refine r_iconst (pc' := 1547) X dL_law_1546 rfl ?_
  refine r_iadd (pc' := 1548) X dL_law_1547 rfl ?_
  refine r_sld (i := i + 1) (pc' := 1549) X hX hbl hbA (by omega) (by omega) (by omega) dL_law_1548 rfl ?_
  refine r_aload_n (pc' := 1550) X 3 dL_law_1549 rfl rfl rfl ?_
  refine w_calli (pc' := 1553) (st := []) (w_runSH X (c_L_rankAfter l G M hfl N P (t : Int) hck (by omega) (sc xs (i + 1)) (by first | exact sc_rng _ _ | exact i64_rng _ | exact Or.inl rfl | exact Or.inr rfl)) cf_L_rankAfter gw_842 rfl rfl (rmR hRf hRl (by decide) (by decide)) rfl rfl (Nat.le_of_ble_eq_true rfl) ⟨hRc, hRs⟩ gw_841 dL_law_1550) rfl (fun zc M2 hP => ?_)
  obtain ⟨e29, hzc⟩ := pr_rankAfter (T := (t : Int)) (L := L0) (P := P) (N := N) (ct := ct) c9 hP
  refine r_istore (pc' := 1555) (lc' := [(0, .ref b), (1, vR G (28, 0)), (2, vR G (29, 0)), (3, vR G (30, 0)), (4, vI (i : Int)), (5, vI zc)]) X [1, 2, 3, 4, 5, 0] dL_law_1553 (by decide) rfl rfl ?_
  refine r_aload_n (pc' := 1556) X 2 dL_law_1555 rfl rfl rfl ?_
  refine r_aloadB_n (pc' := 1557) X 0 dL_law_1556 rfl rfl rfl ?_
  refine r_iload (pc' := 1559) X 4 dL_law_1557 rfl rfl ?_
  refine r_iconst (pc' := 1560) X dL_law_1559 rfl ?_
  refine r_iadd (pc' := 1561) X dL_law_1560 rfl ?_
  refine r_sld (i := i + 1) (pc' := 1562) X hX hbl hbA (by omega) (by omega) (by omega) dL_law_1561 rfl ?_
  refine w_calli (pc' := 1565) (st := []) (w_runV X (c_X9_rankAfter l G M2 N P (M 19) c1 (by rw [e29]; exact c2) (by rw [e29]; exact c3) (sc xs (i + 1)) (by first | exact sc_rng _ _ | exact i64_rng _ | exact Or.inl rfl | exact Or.inr rfl)) cf_X9_rankAfter k29_0 rfl gw_1304 gw_1305 rfl rfl (rmR hRf hRl (by decide) (by decide)) rfl rfl (Nat.le_of_ble_eq_true rfl) ⟨by show _ + 0 ≤ _; omega, by show _ + 0 ≤ _; omega⟩ gw_1303 dL_law_1562) rfl (fun rb M3 hR => ?_)
  obtain ⟨g1, g2, hgo⟩ := ag_rankAfter h hP hR
  refine r_istore (pc' := 1567) (lc' := [(0, .ref b), (1, vR G (28, 0)), (2, vR G (29, 0)), (3, vR G (30, 0)), (4, vI (i : Int)), (5, vI zc), (6, vI rb)]) X [1, 2, 3, 4, 5, 6, 0] dL_law_1565 (by decide) rfl rfl ?_
  refine r_aload_n (pc' := 1568) X 2 dL_law_1567 rfl rfl rfl ?_
  refine w_calli (pc' := 1571) (st := []) (w_runV X (c_X9_thrown l G M3 ) cf_X9_thrown k29_0 rfl gw_1074 gw_1075 rfl rfl (rmR hRf hRl (by decide) (by decide)) rfl rfl (Nat.le_of_ble_eq_true rfl) ⟨by show _ + 0 ≤ _; omega, by show _ + 0 ≤ _; omega⟩ gw_1073 dL_law_1568) rfl (fun z9 M4 h9 => ?_)
  obtain rfl := h9.1.symm
  obtain rfl := h9.2.symm
  refine r_iload (pc' := 1573) X 5 dL_law_1571 rfl rfl ?_
  refine r_icmp_eqE (tgt := 1578) X (g1) dL_law_1573 rfl ?_
  refine r_iload (pc' := 1580) X 5 dL_law_1578 rfl rfl ?_
  refine r_if_ne (pc' := 1583) (tgt := 1595) X dL_law_1580 rfl rfl (by omega) (fun hz0 => ?_) (fun hz0 => ?_)
  · clear hz0
    refine r_goto (tgt := 2143) X dL_law_1595 rfl ?_
    refine w_sub (lc' := [(0, .ref b), (1, vR G (28, 0)), (2, vR G (29, 0)), (3, vR G (30, 0)), (4, vI (i : Int))]) [0, 1, 2, 3, 4] rfl ?_
    exact next M3 hgo
  · have hz0 : zc = 0 := by omega
    refine r_aload_n (pc' := 1584) X 3 dL_law_1583 rfl rfl rfl ?_
    refine r_iconst (pc' := 1585) X dL_law_1584 rfl ?_
    refine r_lald (i := 0) (pc' := 1586) X k30_0 (by omega) (by omega) (by decide) dL_law_1585 rfl ?_
    refine r_iload (pc' := 1588) X 6 dL_law_1586 rfl rfl ?_
    refine r_i2lw (pc' := 1589) X dL_law_1588 rfl ?_
    refine r_lcmpE (pc' := 1590) X (g2 hz0) dL_law_1589 rfl ?_
    refine r_if_eq (pc' := 1593) (tgt := 1595) X dL_law_1590 rfl rfl (by omega) (fun _ => ?_) (fun q => absurd rfl q)
    refine r_goto (tgt := 2143) X dL_law_1595 rfl ?_
    refine w_sub (lc' := [(0, .ref b), (1, vR G (28, 0)), (2, vR G (29, 0)), (3, vR G (30, 0)), (4, vI (i : Int))]) [0, 1, 2, 3, 4] rfl ?_
    exact next M3 hgo
set_option maxRecDepth 100000 in
set_option maxHeartbeats 4000000 in
theorem lc_23 {p : Program} {l : Launch} {e : Env} {R : Room} {s : State} {m : MethodId} {args : Array Value} {below : List Frame} {meth : Method} {c : Code} {k n : Nat} {Q : State → Prop} {G : wG} {M : wM} {b Ls i t : Nat} {xs : Nat → Int32} (X : wX p s m args meth c G 8 "StateObserverLaw" cL_law) (hfl : l.stackTraces = false) (hX : va_X b Ls xs s s.heap) (hbl : b < s.heap.size) (hbA : ¬ wA G b) (hLs : Ls ≤ 2560) (hi : i + 5 ≤ Ls) (ht : t ≤ 600) (hLR : LR (t : Int) M) (hRf : 10 ≤ R.frames) (hRl : 430 ≤ R.locals) (hRc : k + 1 ≤ R.cells) (hRs : n + 6 ≤ R.slots) (next : ∀ M1, LR ((t : Int) + 1) M1 → wV p l e R s m args below meth c G 8 M1 (k + 1) (n + 6) Q 2143 [(0, .ref b), (1, vR G (28, 0)), (2, vR G (29, 0)), (3, vR G (30, 0)), (4, vI (i : Int))] []) : wV p l e R s m args below meth c G 8 M k n Q 1598 [(0, .ref b), (1, vR G (28, 0)), (2, vR G (29, 0)), (3, vR G (30, 0)), (4, vI (i : Int))] [] := by
  obtain ⟨N, P, L0, nx, ct, h⟩ := hLR
  obtain ⟨c1, c2, c3, c4, c5, c6, c7, c8, c9, c10, c11, c12, c13, c14, c15⟩ := id h
  have hN4 : N ≤ 4 := c1.2.2.1
  have hP3 : P ≤ 3 := c1.2.2.2.2.2.1
  have hck : COk M N P (t : Int) := ⟨c1, c4.1, c4.2.1⟩
  refine r_aload_n (pc' := 1599) X 1 dL_law_1598 rfl rfl rfl ?_
  refine w_calli (pc' := 1602) (st := []) (w_runV X (c_X8_observabilityIndex l G M N P (t : Int) hck (by omega)) cf_X8_observabilityIndex k28_0 rfl gw_382 gw_383 rfl rfl (rmR hRf hRl (by decide) (by decide)) rfl rfl (Nat.le_of_ble_eq_true rfl) ⟨by show _ + 0 ≤ _; omega, by show _ + 0 ≤ _; omega⟩ gw_381 dL_law_1599) rfl (fun zc M2 hP => ?_)
  have e29 := pr_observabilityIndex (P := P) (L := L0) (N := N) hP
  refine r_aload_n (pc' := 1603) X 2 dL_law_1602 rfl rfl rfl ?_
  refine w_calli (pc' := 1606) (st := [vI zc]) (w_runV X (c_X9_observabilityIndex l G M2 N P (M 19) c1 (by rw [e29]; exact c2) (by rw [e29]; exact c3)) cf_X9_observabilityIndex k29_0 rfl gw_1328 gw_1329 rfl rfl (rmR hRf hRl (by decide) (by decide)) rfl rfl (Nat.le_of_ble_eq_true rfl) ⟨by show _ + 0 ≤ _; omega, by show _ + 0 ≤ _; omega⟩ gw_1327 dL_law_1603) rfl (fun rb M3 hR => ?_)
  obtain ⟨hveq, hgo⟩ := ag_observabilityIndex h hP hR
  refine r_icmp_eqE (tgt := 2143) X (hveq) dL_law_1606 rfl ?_
  refine w_wid (k' := k + 1) (n' := n + 6) (by omega) (by omega) ?_
  exact next M3 hgo
set_option maxRecDepth 100000 in
set_option maxHeartbeats 4000000 in
theorem lc_24 {p : Program} {l : Launch} {e : Env} {R : Room} {s : State} {m : MethodId} {args : Array Value} {below : List Frame} {meth : Method} {c : Code} {k n : Nat} {Q : State → Prop} {G : wG} {M : wM} {b Ls i t : Nat} {xs : Nat → Int32} (X : wX p s m args meth c G 8 "StateObserverLaw" cL_law) (hfl : l.stackTraces = false) (hX : va_X b Ls xs s s.heap) (hbl : b < s.heap.size) (hbA : ¬ wA G b) (hLs : Ls ≤ 2560) (hi : i + 5 ≤ Ls) (ht : t ≤ 600) (hLR : LR (t : Int) M) (hRf : 10 ≤ R.frames) (hRl : 430 ≤ R.locals) (hRc : k + 1 ≤ R.cells) (hRs : n + 6 ≤ R.slots) (next : ∀ M1, LR ((t : Int) + 1) M1 → wV p l e R s m args below meth c G 8 M1 (k + 1) (n + 6) Q 2143 [(0, .ref b), (1, vR G (28, 0)), (2, vR G (29, 0)), (3, vR G (30, 0)), (4, vI (i : Int))] []) : wV p l e R s m args below meth c G 8 M k n Q 1611 [(0, .ref b), (1, vR G (28, 0)), (2, vR G (29, 0)), (3, vR G (30, 0)), (4, vI (i : Int))] [] := by
  obtain ⟨N, P, L0, nx, ct, h⟩ := hLR
  obtain ⟨c1, c2, c3, c4, c5, c6, c7, c8, c9, c10, c11, c12, c13, c14, c15⟩ := id h
  have hN4 : N ≤ 4 := c1.2.2.1
  have hP3 : P ≤ 3 := c1.2.2.2.2.2.1
  have hck : COk M N P (t : Int) := ⟨c1, c4.1, c4.2.1⟩
  refine r_aload_n (pc' := 1612) X 1 dL_law_1611 rfl rfl rfl ?_
  refine r_aloadB_n (pc' := 1613) X 0 dL_law_1612 rfl rfl rfl ?_
  refine r_iload (pc' := 1615) X 4 dL_law_1613 rfl rfl ?_
  refine r_iconst (pc' := 1616) X dL_law_1615 rfl ?_
  refine r_iadd (pc' := 1617) X dL_law_1616 rfl ?_
  refine r_sld (i := i + 1) (pc' := 1618) X hX hbl hbA (by omega) (by omega) (by omega) dL_law_1617 rfl ?_
  refine r_aload_n (pc' := 1619) X 3 dL_law_1618 rfl rfl rfl ?_
  refine w_calli (pc' := 1622) (st := []) (w_runSH X (c_L_hiddenDimension l G M hfl N P (t : Int) hck (by omega) (sc xs (i + 1)) (by first | exact sc_rng _ _ | exact i64_rng _ | exact Or.inl rfl | exact Or.inr rfl)) cf_L_hiddenDimension gw_850 rfl rfl (rmR hRf hRl (by decide) (by decide)) rfl rfl (Nat.le_of_ble_eq_true rfl) ⟨hRc, hRs⟩ gw_849 dL_law_1619) rfl (fun zc M2 hP => ?_)
  obtain ⟨e29, hzc⟩ := pr_hiddenDimension (T := (t : Int)) (L := L0) (P := P) (N := N) (ct := ct) c9 hP
  refine r_istore (pc' := 1624) (lc' := [(0, .ref b), (1, vR G (28, 0)), (2, vR G (29, 0)), (3, vR G (30, 0)), (4, vI (i : Int)), (5, vI zc)]) X [1, 2, 3, 4, 5, 0] dL_law_1622 (by decide) rfl rfl ?_
  refine r_aload_n (pc' := 1625) X 2 dL_law_1624 rfl rfl rfl ?_
  refine r_aloadB_n (pc' := 1626) X 0 dL_law_1625 rfl rfl rfl ?_
  refine r_iload (pc' := 1628) X 4 dL_law_1626 rfl rfl ?_
  refine r_iconst (pc' := 1629) X dL_law_1628 rfl ?_
  refine r_iadd (pc' := 1630) X dL_law_1629 rfl ?_
  refine r_sld (i := i + 1) (pc' := 1631) X hX hbl hbA (by omega) (by omega) (by omega) dL_law_1630 rfl ?_
  refine w_calli (pc' := 1634) (st := []) (w_runV X (c_X9_hiddenDimension l G M2 N P (M 19) c1 (by rw [e29]; exact c2) (by rw [e29]; exact c3) (sc xs (i + 1)) (by first | exact sc_rng _ _ | exact i64_rng _ | exact Or.inl rfl | exact Or.inr rfl)) cf_X9_hiddenDimension k29_0 rfl gw_1332 gw_1333 rfl rfl (rmR hRf hRl (by decide) (by decide)) rfl rfl (Nat.le_of_ble_eq_true rfl) ⟨by show _ + 0 ≤ _; omega, by show _ + 0 ≤ _; omega⟩ gw_1331 dL_law_1631) rfl (fun rb M3 hR => ?_)
  obtain ⟨g1, g2, hgo⟩ := ag_hiddenDimension h hP hR
  refine r_istore (pc' := 1636) (lc' := [(0, .ref b), (1, vR G (28, 0)), (2, vR G (29, 0)), (3, vR G (30, 0)), (4, vI (i : Int)), (5, vI zc), (6, vI rb)]) X [1, 2, 3, 4, 5, 6, 0] dL_law_1634 (by decide) rfl rfl ?_
  refine r_aload_n (pc' := 1637) X 2 dL_law_1636 rfl rfl rfl ?_
  refine w_calli (pc' := 1640) (st := []) (w_runV X (c_X9_thrown l G M3 ) cf_X9_thrown k29_0 rfl gw_1074 gw_1075 rfl rfl (rmR hRf hRl (by decide) (by decide)) rfl rfl (Nat.le_of_ble_eq_true rfl) ⟨by show _ + 0 ≤ _; omega, by show _ + 0 ≤ _; omega⟩ gw_1073 dL_law_1637) rfl (fun z9 M4 h9 => ?_)
  obtain rfl := h9.1.symm
  obtain rfl := h9.2.symm
  refine r_iload (pc' := 1642) X 5 dL_law_1640 rfl rfl ?_
  refine r_icmp_eqE (tgt := 1647) X (g1) dL_law_1642 rfl ?_
  refine r_iload (pc' := 1649) X 5 dL_law_1647 rfl rfl ?_
  refine r_if_ne (pc' := 1652) (tgt := 1664) X dL_law_1649 rfl rfl (by omega) (fun hz0 => ?_) (fun hz0 => ?_)
  · clear hz0
    refine r_goto (tgt := 2143) X dL_law_1664 rfl ?_
    refine w_sub (lc' := [(0, .ref b), (1, vR G (28, 0)), (2, vR G (29, 0)), (3, vR G (30, 0)), (4, vI (i : Int))]) [0, 1, 2, 3, 4] rfl ?_
    exact next M3 hgo
  · have hz0 : zc = 0 := by omega
    refine r_aload_n (pc' := 1653) X 3 dL_law_1652 rfl rfl rfl ?_
    refine r_iconst (pc' := 1654) X dL_law_1653 rfl ?_
    refine r_lald (i := 0) (pc' := 1655) X k30_0 (by omega) (by omega) (by decide) dL_law_1654 rfl ?_
    refine r_iload (pc' := 1657) X 6 dL_law_1655 rfl rfl ?_
    refine r_i2lw (pc' := 1658) X dL_law_1657 rfl ?_
    refine r_lcmpE (pc' := 1659) X (g2 hz0) dL_law_1658 rfl ?_
    refine r_if_eq (pc' := 1662) (tgt := 1664) X dL_law_1659 rfl rfl (by omega) (fun _ => ?_) (fun q => absurd rfl q)
    refine r_goto (tgt := 2143) X dL_law_1664 rfl ?_
    refine w_sub (lc' := [(0, .ref b), (1, vR G (28, 0)), (2, vR G (29, 0)), (3, vR G (30, 0)), (4, vI (i : Int))]) [0, 1, 2, 3, 4] rfl ?_
    exact next M3 hgo
set_option maxRecDepth 100000 in
set_option maxHeartbeats 4000000 in
theorem lc_25 {p : Program} {l : Launch} {e : Env} {R : Room} {s : State} {m : MethodId} {args : Array Value} {below : List Frame} {meth : Method} {c : Code} {k n : Nat} {Q : State → Prop} {G : wG} {M : wM} {b Ls i t : Nat} {xs : Nat → Int32} (X : wX p s m args meth c G 8 "StateObserverLaw" cL_law) (hfl : l.stackTraces = false) (hX : va_X b Ls xs s s.heap) (hbl : b < s.heap.size) (hbA : ¬ wA G b) (hLs : Ls ≤ 2560) (hi : i + 5 ≤ Ls) (ht : t ≤ 600) (hLR : LR (t : Int) M) (hRf : 10 ≤ R.frames) (hRl : 430 ≤ R.locals) (hRc : k + 1 ≤ R.cells) (hRs : n + 6 ≤ R.slots) (next : ∀ M1, LR ((t : Int) + 1) M1 → wV p l e R s m args below meth c G 8 M1 (k + 1) (n + 6) Q 2143 [(0, .ref b), (1, vR G (28, 0)), (2, vR G (29, 0)), (3, vR G (30, 0)), (4, vI (i : Int))] []) : wV p l e R s m args below meth c G 8 M k n Q 1667 [(0, .ref b), (1, vR G (28, 0)), (2, vR G (29, 0)), (3, vR G (30, 0)), (4, vI (i : Int))] [] := by
  obtain ⟨N, P, L0, nx, ct, h⟩ := hLR
  obtain ⟨c1, c2, c3, c4, c5, c6, c7, c8, c9, c10, c11, c12, c13, c14, c15⟩ := id h
  have hN4 : N ≤ 4 := c1.2.2.1
  have hP3 : P ≤ 3 := c1.2.2.2.2.2.1
  have hck : COk M N P (t : Int) := ⟨c1, c4.1, c4.2.1⟩
  refine r_aload_n (pc' := 1668) X 1 dL_law_1667 rfl rfl rfl ?_
  refine w_calli (pc' := 1671) (st := []) (w_runV X (c_X8_touched l G M N P (t : Int) hck (by omega)) cf_X8_touched k28_0 rfl gw_425 gw_426 rfl rfl (rmR hRf hRl (by decide) (by decide)) rfl rfl (Nat.le_of_ble_eq_true rfl) ⟨by show _ + 0 ≤ _; omega, by show _ + 0 ≤ _; omega⟩ gw_424 dL_law_1668) rfl (fun zc M2 hP => ?_)
  have e29 := pr_touched (P := P) (L := L0) (N := N) hP
  refine r_aload_n (pc' := 1672) X 2 dL_law_1671 rfl rfl rfl ?_
  refine w_calli (pc' := 1675) (st := [vI zc]) (w_runV X (c_X9_touched l G M2 N P (M 19) c1 (by rw [e29]; exact c2)) cf_X9_touched k29_0 rfl gw_1344 gw_1345 rfl rfl (rmR hRf hRl (by decide) (by decide)) rfl rfl (Nat.le_of_ble_eq_true rfl) ⟨by show _ + 0 ≤ _; omega, by show _ + 0 ≤ _; omega⟩ gw_1343 dL_law_1672) rfl (fun rb M3 hR => ?_)
  obtain ⟨hveq, hgo⟩ := ag_touched h hP hR
  refine r_icmp_eqE (tgt := 2143) X (hveq) dL_law_1675 rfl ?_
  refine w_wid (k' := k + 1) (n' := n + 6) (by omega) (by omega) ?_
  exact next M3 hgo
set_option maxRecDepth 100000 in
set_option maxHeartbeats 4000000 in
theorem lc_26 {p : Program} {l : Launch} {e : Env} {R : Room} {s : State} {m : MethodId} {args : Array Value} {below : List Frame} {meth : Method} {c : Code} {k n : Nat} {Q : State → Prop} {G : wG} {M : wM} {b Ls i t : Nat} {xs : Nat → Int32} (X : wX p s m args meth c G 8 "StateObserverLaw" cL_law) (hfl : l.stackTraces = false) (hX : va_X b Ls xs s s.heap) (hbl : b < s.heap.size) (hbA : ¬ wA G b) (hLs : Ls ≤ 2560) (hi : i + 5 ≤ Ls) (ht : t ≤ 600) (hLR : LR (t : Int) M) (hRf : 10 ≤ R.frames) (hRl : 430 ≤ R.locals) (hRc : k + 1 ≤ R.cells) (hRs : n + 6 ≤ R.slots) (next : ∀ M1, LR ((t : Int) + 1) M1 → wV p l e R s m args below meth c G 8 M1 (k + 1) (n + 6) Q 2143 [(0, .ref b), (1, vR G (28, 0)), (2, vR G (29, 0)), (3, vR G (30, 0)), (4, vI (i : Int))] []) : wV p l e R s m args below meth c G 8 M k n Q 1680 [(0, .ref b), (1, vR G (28, 0)), (2, vR G (29, 0)), (3, vR G (30, 0)), (4, vI (i : Int))] [] := by
  obtain ⟨N, P, L0, nx, ct, h⟩ := hLR
  obtain ⟨c1, c2, c3, c4, c5, c6, c7, c8, c9, c10, c11, c12, c13, c14, c15⟩ := id h
  have hN4 : N ≤ 4 := c1.2.2.1
  have hP3 : P ≤ 3 := c1.2.2.2.2.2.1
  have hck : COk M N P (t : Int) := ⟨c1, c4.1, c4.2.1⟩
  refine r_aload_n (pc' := 1681) X 1 dL_law_1680 rfl rfl rfl ?_
  refine r_aloadB_n (pc' := 1682) X 0 dL_law_1681 rfl rfl rfl ?_
  refine r_iload (pc' := 1684) X 4 dL_law_1682 rfl rfl ?_
  refine r_iconst (pc' := 1685) X dL_law_1684 rfl ?_
  refine r_iadd (pc' := 1686) X dL_law_1685 rfl ?_
  refine r_sld (i := i + 1) (pc' := 1687) X hX hbl hbA (by omega) (by omega) (by omega) dL_law_1686 rfl ?_
  refine r_aloadB_n (pc' := 1688) X 0 dL_law_1687 rfl rfl rfl ?_
  refine r_iload (pc' := 1690) X 4 dL_law_1688 rfl rfl ?_
  refine r_iconst (pc' := 1691) X dL_law_1690 rfl ?_
  refine r_iadd (pc' := 1692) X dL_law_1691 rfl ?_
  refine r_sld (i := i + 2) (pc' := 1693) X hX hbl hbA (by omega) (by omega) (by omega) dL_law_1692 rfl ?_
  refine r_aload_n (pc' := 1694) X 3 dL_law_1693 rfl rfl rfl ?_
  refine w_calli (pc' := 1697) (st := []) (w_runSH X (c_L_free l G M hfl N P (t : Int) hck (by omega) (sc xs (i + 1)) (sc xs (i + 2)) (by first | exact sc_rng _ _ | exact i64_rng _ | exact Or.inl rfl | exact Or.inr rfl) (by first | exact sc_rng _ _ | exact i64_rng _ | exact Or.inl rfl | exact Or.inr rfl)) cf_L_free gw_875 rfl rfl (rmR hRf hRl (by decide) (by decide)) rfl rfl (Nat.le_of_ble_eq_true rfl) ⟨hRc, hRs⟩ gw_874 dL_law_1694) rfl (fun zc M2 hP => ?_)
  obtain ⟨e29, hzc⟩ := pr_free (T := (t : Int)) (L := L0) (P := P) (N := N) (ct := ct) c9 hP
  refine r_istore (pc' := 1699) (lc' := [(0, .ref b), (1, vR G (28, 0)), (2, vR G (29, 0)), (3, vR G (30, 0)), (4, vI (i : Int)), (5, vI zc)]) X [1, 2, 3, 4, 5, 0] dL_law_1697 (by decide) rfl rfl ?_
  refine r_aload_n (pc' := 1700) X 2 dL_law_1699 rfl rfl rfl ?_
  refine r_aloadB_n (pc' := 1701) X 0 dL_law_1700 rfl rfl rfl ?_
  refine r_iload (pc' := 1703) X 4 dL_law_1701 rfl rfl ?_
  refine r_iconst (pc' := 1704) X dL_law_1703 rfl ?_
  refine r_iadd (pc' := 1705) X dL_law_1704 rfl ?_
  refine r_sld (i := i + 1) (pc' := 1706) X hX hbl hbA (by omega) (by omega) (by omega) dL_law_1705 rfl ?_
  refine r_aloadB_n (pc' := 1707) X 0 dL_law_1706 rfl rfl rfl ?_
  refine r_iload (pc' := 1709) X 4 dL_law_1707 rfl rfl ?_
  refine r_iconst (pc' := 1710) X dL_law_1709 rfl ?_
  refine r_iadd (pc' := 1711) X dL_law_1710 rfl ?_
  refine r_sld (i := i + 2) (pc' := 1712) X hX hbl hbA (by omega) (by omega) (by omega) dL_law_1711 rfl ?_
  refine w_calli (pc' := 1715) (st := []) (w_runV X (c_X9_free l G M2 N P (M 19) c1 (by rw [e29]; exact c2) (sc xs (i + 1)) (sc xs (i + 2)) (by first | exact sc_rng _ _ | exact i64_rng _ | exact Or.inl rfl | exact Or.inr rfl) (by first | exact sc_rng _ _ | exact i64_rng _ | exact Or.inl rfl | exact Or.inr rfl)) cf_X9_free k29_0 rfl gw_1348 gw_1349 rfl rfl (rmR hRf hRl (by decide) (by decide)) rfl rfl (Nat.le_of_ble_eq_true rfl) ⟨by show _ + 0 ≤ _; omega, by show _ + 0 ≤ _; omega⟩ gw_1347 dL_law_1712) rfl (fun rb M3 hR => ?_)
  obtain ⟨g1, g2, hgo⟩ := ag_free h hP hR
  refine r_istore (pc' := 1717) (lc' := [(0, .ref b), (1, vR G (28, 0)), (2, vR G (29, 0)), (3, vR G (30, 0)), (4, vI (i : Int)), (5, vI zc), (6, vI rb)]) X [1, 2, 3, 4, 5, 6, 0] dL_law_1715 (by decide) rfl rfl ?_
  refine r_aload_n (pc' := 1718) X 2 dL_law_1717 rfl rfl rfl ?_
  refine w_calli (pc' := 1721) (st := []) (w_runV X (c_X9_thrown l G M3 ) cf_X9_thrown k29_0 rfl gw_1074 gw_1075 rfl rfl (rmR hRf hRl (by decide) (by decide)) rfl rfl (Nat.le_of_ble_eq_true rfl) ⟨by show _ + 0 ≤ _; omega, by show _ + 0 ≤ _; omega⟩ gw_1073 dL_law_1718) rfl (fun z9 M4 h9 => ?_)
  obtain rfl := h9.1.symm
  obtain rfl := h9.2.symm
  refine r_iload (pc' := 1723) X 5 dL_law_1721 rfl rfl ?_
  refine r_icmp_eqE (tgt := 1728) X (g1) dL_law_1723 rfl ?_
  refine r_iload (pc' := 1730) X 5 dL_law_1728 rfl rfl ?_
  refine r_if_ne (pc' := 1733) (tgt := 1745) X dL_law_1730 rfl rfl (by omega) (fun hz0 => ?_) (fun hz0 => ?_)
  · clear hz0
    refine r_goto (tgt := 2143) X dL_law_1745 rfl ?_
    refine w_sub (lc' := [(0, .ref b), (1, vR G (28, 0)), (2, vR G (29, 0)), (3, vR G (30, 0)), (4, vI (i : Int))]) [0, 1, 2, 3, 4] rfl ?_
    exact next M3 hgo
  · have hz0 : zc = 0 := by omega
    refine r_aload_n (pc' := 1734) X 3 dL_law_1733 rfl rfl rfl ?_
    refine r_iconst (pc' := 1735) X dL_law_1734 rfl ?_
    refine r_lald (i := 0) (pc' := 1736) X k30_0 (by omega) (by omega) (by decide) dL_law_1735 rfl ?_
    refine r_iload (pc' := 1738) X 6 dL_law_1736 rfl rfl ?_
    refine r_i2lw (pc' := 1739) X dL_law_1738 rfl ?_
    refine r_lcmpE (pc' := 1740) X (g2 hz0) dL_law_1739 rfl ?_
    refine r_if_eq (pc' := 1743) (tgt := 1745) X dL_law_1740 rfl rfl (by omega) (fun _ => ?_) (fun q => absurd rfl q)
    refine r_goto (tgt := 2143) X dL_law_1745 rfl ?_
    refine w_sub (lc' := [(0, .ref b), (1, vR G (28, 0)), (2, vR G (29, 0)), (3, vR G (30, 0)), (4, vI (i : Int))]) [0, 1, 2, 3, 4] rfl ?_
    exact next M3 hgo
set_option maxRecDepth 100000 in
set_option maxHeartbeats 4000000 in
theorem lc_27 {p : Program} {l : Launch} {e : Env} {R : Room} {s : State} {m : MethodId} {args : Array Value} {below : List Frame} {meth : Method} {c : Code} {k n : Nat} {Q : State → Prop} {G : wG} {M : wM} {b Ls i t : Nat} {xs : Nat → Int32} (X : wX p s m args meth c G 8 "StateObserverLaw" cL_law) (hfl : l.stackTraces = false) (hX : va_X b Ls xs s s.heap) (hbl : b < s.heap.size) (hbA : ¬ wA G b) (hLs : Ls ≤ 2560) (hi : i + 5 ≤ Ls) (ht : t ≤ 600) (hLR : LR (t : Int) M) (hRf : 10 ≤ R.frames) (hRl : 430 ≤ R.locals) (hRc : k + 1 ≤ R.cells) (hRs : n + 6 ≤ R.slots) (next : ∀ M1, LR ((t : Int) + 1) M1 → wV p l e R s m args below meth c G 8 M1 (k + 1) (n + 6) Q 2143 [(0, .ref b), (1, vR G (28, 0)), (2, vR G (29, 0)), (3, vR G (30, 0)), (4, vI (i : Int))] []) : wV p l e R s m args below meth c G 8 M k n Q 1748 [(0, .ref b), (1, vR G (28, 0)), (2, vR G (29, 0)), (3, vR G (30, 0)), (4, vI (i : Int))] [] := by
  obtain ⟨N, P, L0, nx, ct, h⟩ := hLR
  obtain ⟨c1, c2, c3, c4, c5, c6, c7, c8, c9, c10, c11, c12, c13, c14, c15⟩ := id h
  have hN4 : N ≤ 4 := c1.2.2.1
  have hP3 : P ≤ 3 := c1.2.2.2.2.2.1
  have hck : COk M N P (t : Int) := ⟨c1, c4.1, c4.2.1⟩
  refine r_aload_n (pc' := 1749) X 1 dL_law_1748 rfl rfl rfl ?_
  refine r_aloadB_n (pc' := 1750) X 0 dL_law_1749 rfl rfl rfl ?_
  refine r_iload (pc' := 1752) X 4 dL_law_1750 rfl rfl ?_
  refine r_iconst (pc' := 1753) X dL_law_1752 rfl ?_
  refine r_iadd (pc' := 1754) X dL_law_1753 rfl ?_
  refine r_sld (i := i + 1) (pc' := 1755) X hX hbl hbA (by omega) (by omega) (by omega) dL_law_1754 rfl ?_
  refine r_aloadB_n (pc' := 1756) X 0 dL_law_1755 rfl rfl rfl ?_
  refine r_iload (pc' := 1758) X 4 dL_law_1756 rfl rfl ?_
  refine r_iconst (pc' := 1759) X dL_law_1758 rfl ?_
  refine r_iadd (pc' := 1760) X dL_law_1759 rfl ?_
  refine r_sld (i := i + 2) (pc' := 1761) X hX hbl hbA (by omega) (by omega) (by omega) dL_law_1760 rfl ?_
  refine r_if_eq (pc' := 1764) (tgt := 1768) X dL_law_1761 rfl rfl (sc_rng _ _) (fun hb_scxsi2 => ?_) (fun hb_scxsi2 => ?_)
  · refine r_iconst (pc' := 1769) X dL_law_1768 rfl ?_
    refine r_aload_n (pc' := 1770) X 3 dL_law_1769 rfl rfl rfl ?_
    refine w_calli (pc' := 1773) (st := []) (w_runSH X (c_L_freeRange l G M hfl N P (t : Int) hck (by omega) (sc xs (i + 1)) 0 (by first | exact sc_rng _ _ | exact i64_rng _ | exact Or.inl rfl | exact Or.inr rfl) (by first | exact sc_rng _ _ | exact i64_rng _ | exact Or.inl rfl | exact Or.inr rfl)) cf_L_freeRange gw_902 rfl rfl (rmR hRf hRl (by decide) (by decide)) rfl rfl (Nat.le_of_ble_eq_true rfl) ⟨hRc, hRs⟩ gw_901 dL_law_1770) rfl (fun zc M2 hP => ?_)
    obtain ⟨e29, hzc⟩ := pr_freeRange (T := (t : Int)) (L := L0) (P := P) (N := N) (ct := ct) c9 hP
    refine r_istore (pc' := 1775) (lc' := [(0, .ref b), (1, vR G (28, 0)), (2, vR G (29, 0)), (3, vR G (30, 0)), (4, vI (i : Int)), (5, vI zc)]) X [1, 2, 3, 4, 5, 0] dL_law_1773 (by decide) rfl rfl ?_
    refine r_aload_n (pc' := 1776) X 2 dL_law_1775 rfl rfl rfl ?_
    refine r_aloadB_n (pc' := 1777) X 0 dL_law_1776 rfl rfl rfl ?_
    refine r_iload (pc' := 1779) X 4 dL_law_1777 rfl rfl ?_
    refine r_iconst (pc' := 1780) X dL_law_1779 rfl ?_
    refine r_iadd (pc' := 1781) X dL_law_1780 rfl ?_
    refine r_sld (i := i + 1) (pc' := 1782) X hX hbl hbA (by omega) (by omega) (by omega) dL_law_1781 rfl ?_
    refine r_aloadB_n (pc' := 1783) X 0 dL_law_1782 rfl rfl rfl ?_
    refine r_iload (pc' := 1785) X 4 dL_law_1783 rfl rfl ?_
    refine r_iconst (pc' := 1786) X dL_law_1785 rfl ?_
    refine r_iadd (pc' := 1787) X dL_law_1786 rfl ?_
    refine r_sld (i := i + 2) (pc' := 1788) X hX hbl hbA (by omega) (by omega) (by omega) dL_law_1787 rfl ?_
    refine r_if_eq (pc' := 1791) (tgt := 1795) X dL_law_1788 rfl rfl (sc_rng _ _) (fun _ => ?_) (fun q => absurd hb_scxsi2 q)
    refine r_iconst (pc' := 1796) X dL_law_1795 rfl ?_
    refine w_calli (pc' := 1799) (st := []) (w_runV X (c_X9_freeRange l G M2 N P (M 19) c1 (by rw [e29]; exact c2) (M 0) (t : Int) c4.1 (by omega) (by rw [e29]; exact c4.2.2.2) (sc xs (i + 1)) 0 (by first | exact sc_rng _ _ | exact i64_rng _ | exact Or.inl rfl | exact Or.inr rfl) (by first | exact sc_rng _ _ | exact i64_rng _ | exact Or.inl rfl | exact Or.inr rfl)) cf_X9_freeRange k29_0 rfl gw_1359 gw_1360 rfl rfl (rmR hRf hRl (by decide) (by decide)) rfl rfl (Nat.le_of_ble_eq_true rfl) ⟨by show _ + 0 ≤ _; omega, by show _ + 0 ≤ _; omega⟩ gw_1358 dL_law_1796) rfl (fun rb M3 hR => ?_)
    obtain ⟨g1, g2, hgo⟩ := ag_freeRange h hP hR
    refine r_istore (pc' := 1801) (lc' := [(0, .ref b), (1, vR G (28, 0)), (2, vR G (29, 0)), (3, vR G (30, 0)), (4, vI (i : Int)), (5, vI zc), (6, vI rb)]) X [1, 2, 3, 4, 5, 6, 0] dL_law_1799 (by decide) rfl rfl ?_
    refine r_aload_n (pc' := 1802) X 2 dL_law_1801 rfl rfl rfl ?_
    refine w_calli (pc' := 1805) (st := []) (w_runV X (c_X9_thrown l G M3 ) cf_X9_thrown k29_0 rfl gw_1074 gw_1075 rfl rfl (rmR hRf hRl (by decide) (by decide)) rfl rfl (Nat.le_of_ble_eq_true rfl) ⟨by show _ + 0 ≤ _; omega, by show _ + 0 ≤ _; omega⟩ gw_1073 dL_law_1802) rfl (fun z9 M4 h9 => ?_)
    obtain rfl := h9.1.symm
    obtain rfl := h9.2.symm
    refine r_iload (pc' := 1807) X 5 dL_law_1805 rfl rfl ?_
    refine r_icmp_eqE (tgt := 1812) X (g1) dL_law_1807 rfl ?_
    refine r_iload (pc' := 1814) X 5 dL_law_1812 rfl rfl ?_
    refine r_if_ne (pc' := 1817) (tgt := 1829) X dL_law_1814 rfl rfl (by omega) (fun hz0 => ?_) (fun hz0 => ?_)
    · clear hz0
      refine r_goto (tgt := 2143) X dL_law_1829 rfl ?_
      refine w_sub (lc' := [(0, .ref b), (1, vR G (28, 0)), (2, vR G (29, 0)), (3, vR G (30, 0)), (4, vI (i : Int))]) [0, 1, 2, 3, 4] rfl ?_
      exact next M3 hgo
    · have hz0 : zc = 0 := by omega
      refine r_aload_n (pc' := 1818) X 3 dL_law_1817 rfl rfl rfl ?_
      refine r_iconst (pc' := 1819) X dL_law_1818 rfl ?_
      refine r_lald (i := 0) (pc' := 1820) X k30_0 (by omega) (by omega) (by decide) dL_law_1819 rfl ?_
      refine r_iload (pc' := 1822) X 6 dL_law_1820 rfl rfl ?_
      refine r_i2lw (pc' := 1823) X dL_law_1822 rfl ?_
      refine r_lcmpE (pc' := 1824) X (g2 hz0) dL_law_1823 rfl ?_
      refine r_if_eq (pc' := 1827) (tgt := 1829) X dL_law_1824 rfl rfl (by omega) (fun _ => ?_) (fun q => absurd rfl q)
      refine r_goto (tgt := 2143) X dL_law_1829 rfl ?_
      refine w_sub (lc' := [(0, .ref b), (1, vR G (28, 0)), (2, vR G (29, 0)), (3, vR G (30, 0)), (4, vI (i : Int))]) [0, 1, 2, 3, 4] rfl ?_
      exact next M3 hgo
  · refine r_iconst (pc' := 1765) X dL_law_1764 rfl ?_
    refine r_goto (tgt := 1769) X dL_law_1765 rfl ?_
    refine r_aload_n (pc' := 1770) X 3 dL_law_1769 rfl rfl rfl ?_
    refine w_calli (pc' := 1773) (st := []) (w_runSH X (c_L_freeRange l G M hfl N P (t : Int) hck (by omega) (sc xs (i + 1)) 1 (by first | exact sc_rng _ _ | exact i64_rng _ | exact Or.inl rfl | exact Or.inr rfl) (by first | exact sc_rng _ _ | exact i64_rng _ | exact Or.inl rfl | exact Or.inr rfl)) cf_L_freeRange gw_902 rfl rfl (rmR hRf hRl (by decide) (by decide)) rfl rfl (Nat.le_of_ble_eq_true rfl) ⟨hRc, hRs⟩ gw_901 dL_law_1770) rfl (fun zc M2 hP => ?_)
    obtain ⟨e29, hzc⟩ := pr_freeRange (T := (t : Int)) (L := L0) (P := P) (N := N) (ct := ct) c9 hP
    refine r_istore (pc' := 1775) (lc' := [(0, .ref b), (1, vR G (28, 0)), (2, vR G (29, 0)), (3, vR G (30, 0)), (4, vI (i : Int)), (5, vI zc)]) X [1, 2, 3, 4, 5, 0] dL_law_1773 (by decide) rfl rfl ?_
    refine r_aload_n (pc' := 1776) X 2 dL_law_1775 rfl rfl rfl ?_
    refine r_aloadB_n (pc' := 1777) X 0 dL_law_1776 rfl rfl rfl ?_
    refine r_iload (pc' := 1779) X 4 dL_law_1777 rfl rfl ?_
    refine r_iconst (pc' := 1780) X dL_law_1779 rfl ?_
    refine r_iadd (pc' := 1781) X dL_law_1780 rfl ?_
    refine r_sld (i := i + 1) (pc' := 1782) X hX hbl hbA (by omega) (by omega) (by omega) dL_law_1781 rfl ?_
    refine r_aloadB_n (pc' := 1783) X 0 dL_law_1782 rfl rfl rfl ?_
    refine r_iload (pc' := 1785) X 4 dL_law_1783 rfl rfl ?_
    refine r_iconst (pc' := 1786) X dL_law_1785 rfl ?_
    refine r_iadd (pc' := 1787) X dL_law_1786 rfl ?_
    refine r_sld (i := i + 2) (pc' := 1788) X hX hbl hbA (by omega) (by omega) (by omega) dL_law_1787 rfl ?_
    refine r_if_eq (pc' := 1791) (tgt := 1795) X dL_law_1788 rfl rfl (sc_rng _ _) (fun q => absurd q hb_scxsi2) (fun _ => ?_)
    refine r_iconst (pc' := 1792) X dL_law_1791 rfl ?_
    refine r_goto (tgt := 1796) X dL_law_1792 rfl ?_
    refine w_calli (pc' := 1799) (st := []) (w_runV X (c_X9_freeRange l G M2 N P (M 19) c1 (by rw [e29]; exact c2) (M 0) (t : Int) c4.1 (by omega) (by rw [e29]; exact c4.2.2.2) (sc xs (i + 1)) 1 (by first | exact sc_rng _ _ | exact i64_rng _ | exact Or.inl rfl | exact Or.inr rfl) (by first | exact sc_rng _ _ | exact i64_rng _ | exact Or.inl rfl | exact Or.inr rfl)) cf_X9_freeRange k29_0 rfl gw_1359 gw_1360 rfl rfl (rmR hRf hRl (by decide) (by decide)) rfl rfl (Nat.le_of_ble_eq_true rfl) ⟨by show _ + 0 ≤ _; omega, by show _ + 0 ≤ _; omega⟩ gw_1358 dL_law_1796) rfl (fun rb M3 hR => ?_)
    obtain ⟨g1, g2, hgo⟩ := ag_freeRange h hP hR
    refine r_istore (pc' := 1801) (lc' := [(0, .ref b), (1, vR G (28, 0)), (2, vR G (29, 0)), (3, vR G (30, 0)), (4, vI (i : Int)), (5, vI zc), (6, vI rb)]) X [1, 2, 3, 4, 5, 6, 0] dL_law_1799 (by decide) rfl rfl ?_
    refine r_aload_n (pc' := 1802) X 2 dL_law_1801 rfl rfl rfl ?_
    refine w_calli (pc' := 1805) (st := []) (w_runV X (c_X9_thrown l G M3 ) cf_X9_thrown k29_0 rfl gw_1074 gw_1075 rfl rfl (rmR hRf hRl (by decide) (by decide)) rfl rfl (Nat.le_of_ble_eq_true rfl) ⟨by show _ + 0 ≤ _; omega, by show _ + 0 ≤ _; omega⟩ gw_1073 dL_law_1802) rfl (fun z9 M4 h9 => ?_)
    obtain rfl := h9.1.symm
    obtain rfl := h9.2.symm
    refine r_iload (pc' := 1807) X 5 dL_law_1805 rfl rfl ?_
    refine r_icmp_eqE (tgt := 1812) X (g1) dL_law_1807 rfl ?_
    refine r_iload (pc' := 1814) X 5 dL_law_1812 rfl rfl ?_
    refine r_if_ne (pc' := 1817) (tgt := 1829) X dL_law_1814 rfl rfl (by omega) (fun hz0 => ?_) (fun hz0 => ?_)
    · clear hz0
      refine r_goto (tgt := 2143) X dL_law_1829 rfl ?_
      refine w_sub (lc' := [(0, .ref b), (1, vR G (28, 0)), (2, vR G (29, 0)), (3, vR G (30, 0)), (4, vI (i : Int))]) [0, 1, 2, 3, 4] rfl ?_
      exact next M3 hgo
    · have hz0 : zc = 0 := by omega
      refine r_aload_n (pc' := 1818) X 3 dL_law_1817 rfl rfl rfl ?_
      refine r_iconst (pc' := 1819) X dL_law_1818 rfl ?_
      refine r_lald (i := 0) (pc' := 1820) X k30_0 (by omega) (by omega) (by decide) dL_law_1819 rfl ?_
      refine r_iload (pc' := 1822) X 6 dL_law_1820 rfl rfl ?_
      refine r_i2lw (pc' := 1823) X dL_law_1822 rfl ?_
      refine r_lcmpE (pc' := 1824) X (g2 hz0) dL_law_1823 rfl ?_
      refine r_if_eq (pc' := 1827) (tgt := 1829) X dL_law_1824 rfl rfl (by omega) (fun _ => ?_) (fun q => absurd rfl q)
      refine r_goto (tgt := 2143) X dL_law_1829 rfl ?_
      refine w_sub (lc' := [(0, .ref b), (1, vR G (28, 0)), (2, vR G (29, 0)), (3, vR G (30, 0)), (4, vI (i : Int))]) [0, 1, 2, 3, 4] rfl ?_
      exact next M3 hgo
set_option maxRecDepth 100000 in
set_option maxHeartbeats 4000000 in
theorem lc_28 {p : Program} {l : Launch} {e : Env} {R : Room} {s : State} {m : MethodId} {args : Array Value} {below : List Frame} {meth : Method} {c : Code} {k n : Nat} {Q : State → Prop} {G : wG} {M : wM} {b Ls i t : Nat} {xs : Nat → Int32} (X : wX p s m args meth c G 8 "StateObserverLaw" cL_law) (hfl : l.stackTraces = false) (hX : va_X b Ls xs s s.heap) (hbl : b < s.heap.size) (hbA : ¬ wA G b) (hLs : Ls ≤ 2560) (hi : i + 5 ≤ Ls) (ht : t ≤ 600) (hLR : LR (t : Int) M) (hRf : 10 ≤ R.frames) (hRl : 430 ≤ R.locals) (hRc : k + 1 ≤ R.cells) (hRs : n + 6 ≤ R.slots) (next : ∀ M1, LR ((t : Int) + 1) M1 → wV p l e R s m args below meth c G 8 M1 (k + 1) (n + 6) Q 2143 [(0, .ref b), (1, vR G (28, 0)), (2, vR G (29, 0)), (3, vR G (30, 0)), (4, vI (i : Int))] []) : wV p l e R s m args below meth c G 8 M k n Q 1832 [(0, .ref b), (1, vR G (28, 0)), (2, vR G (29, 0)), (3, vR G (30, 0)), (4, vI (i : Int))] [] := by
  obtain ⟨N, P, L0, nx, ct, h⟩ := hLR
  obtain ⟨c1, c2, c3, c4, c5, c6, c7, c8, c9, c10, c11, c12, c13, c14, c15⟩ := id h
  have hN4 : N ≤ 4 := c1.2.2.1
  have hP3 : P ≤ 3 := c1.2.2.2.2.2.1
  have hck : COk M N P (t : Int) := ⟨c1, c4.1, c4.2.1⟩
  refine r_aload_n (pc' := 1833) X 1 dL_law_1832 rfl rfl rfl ?_
  refine r_aloadB_n (pc' := 1834) X 0 dL_law_1833 rfl rfl rfl ?_
  refine r_iload (pc' := 1836) X 4 dL_law_1834 rfl rfl ?_
  refine r_iconst (pc' := 1837) X dL_law_1836 rfl ?_
  refine r_iadd (pc' := 1838) X dL_law_1837 rfl ?_
  refine r_sld (i := i + 1) (pc' := 1839) X hX hbl hbA (by omega) (by omega) (by omega) dL_law_1838 rfl ?_
  refine r_aloadB_n (pc' := 1840) X 0 dL_law_1839 rfl rfl rfl ?_
  refine r_iload (pc' := 1842) X 4 dL_law_1840 rfl rfl ?_
  refine r_iconst (pc' := 1843) X dL_law_1842 rfl ?_
  refine r_iadd (pc' := 1844) X dL_law_1843 rfl ?_
  refine r_sld (i := i + 2) (pc' := 1845) X hX hbl hbA (by omega) (by omega) (by omega) dL_law_1844 rfl ?_
  refine r_i2l (pc' := 1846) X dL_law_1845 (sc_rng _ _) rfl ?_
  refine r_bipush (pc' := 1848) X dL_law_1846 rfl rfl ?_
  refine r_lshl (pc' := 1849) X dL_law_1848 rfl ?_
  refine r_aloadB_n (pc' := 1850) X 0 dL_law_1849 rfl rfl rfl ?_
  refine r_iload (pc' := 1852) X 4 dL_law_1850 rfl rfl ?_
  refine r_iconst (pc' := 1853) X dL_law_1852 rfl ?_
  refine r_iadd (pc' := 1854) X dL_law_1853 rfl ?_
  refine r_sld (i := i + 3) (pc' := 1855) X hX hbl hbA (by omega) (by omega) (by omega) dL_law_1854 rfl ?_
  refine r_i2l (pc' := 1856) X dL_law_1855 (sc_rng _ _) rfl ?_
  refine r_ldc2 (pc' := 1859) (z := 4294967295) X gw_1390 dL_law_1856 rfl rfl ?_
  refine r_land (pc' := 1860) X dL_law_1859 rfl ?_
  refine r_lor (pc' := 1861) X dL_law_1860 rfl ?_
  refine r_aload_n (pc' := 1862) X 3 dL_law_1861 rfl rfl rfl ?_
  refine w_calli (pc' := 1865) (st := []) (w_runSH X (c_L_runScript l G M hfl N P (t : Int) hck (by omega) (by omega) c4.2.2.1 (sc xs (i + 1)) (orJ (shlJ (sc xs (i + 2)) 32) (andJ (sc xs (i + 3)) 4294967295)) (by first | exact sc_rng _ _ | exact i64_rng _ | exact Or.inl rfl | exact Or.inr rfl) (by first | exact sc_rng _ _ | exact i64_rng _ | exact Or.inl rfl | exact Or.inr rfl)) cf_L_runScript gw_910 rfl rfl (rmR hRf hRl (by decide) (by decide)) rfl rfl (Nat.le_of_ble_eq_true rfl) ⟨hRc, hRs⟩ gw_909 dL_law_1862) rfl (fun zc M2 hP => ?_)
  obtain ⟨e29, hzc⟩ := pr_runScript (T := (t : Int)) (L := L0) (P := P) (N := N) (ct := ct) c9 hP
  refine r_istore (pc' := 1867) (lc' := [(0, .ref b), (1, vR G (28, 0)), (2, vR G (29, 0)), (3, vR G (30, 0)), (4, vI (i : Int)), (5, vI zc)]) X [1, 2, 3, 4, 5, 0] dL_law_1865 (by decide) rfl rfl ?_
  refine r_aload_n (pc' := 1868) X 2 dL_law_1867 rfl rfl rfl ?_
  refine r_aloadB_n (pc' := 1869) X 0 dL_law_1868 rfl rfl rfl ?_
  refine r_iload (pc' := 1871) X 4 dL_law_1869 rfl rfl ?_
  refine r_iconst (pc' := 1872) X dL_law_1871 rfl ?_
  refine r_iadd (pc' := 1873) X dL_law_1872 rfl ?_
  refine r_sld (i := i + 1) (pc' := 1874) X hX hbl hbA (by omega) (by omega) (by omega) dL_law_1873 rfl ?_
  refine r_aloadB_n (pc' := 1875) X 0 dL_law_1874 rfl rfl rfl ?_
  refine r_iload (pc' := 1877) X 4 dL_law_1875 rfl rfl ?_
  refine r_iconst (pc' := 1878) X dL_law_1877 rfl ?_
  refine r_iadd (pc' := 1879) X dL_law_1878 rfl ?_
  refine r_sld (i := i + 2) (pc' := 1880) X hX hbl hbA (by omega) (by omega) (by omega) dL_law_1879 rfl ?_
  refine r_i2l (pc' := 1881) X dL_law_1880 (sc_rng _ _) rfl ?_
  refine r_bipush (pc' := 1883) X dL_law_1881 rfl rfl ?_
  refine r_lshl (pc' := 1884) X dL_law_1883 rfl ?_
  refine r_aloadB_n (pc' := 1885) X 0 dL_law_1884 rfl rfl rfl ?_
  refine r_iload (pc' := 1887) X 4 dL_law_1885 rfl rfl ?_
  refine r_iconst (pc' := 1888) X dL_law_1887 rfl ?_
  refine r_iadd (pc' := 1889) X dL_law_1888 rfl ?_
  refine r_sld (i := i + 3) (pc' := 1890) X hX hbl hbA (by omega) (by omega) (by omega) dL_law_1889 rfl ?_
  refine r_i2l (pc' := 1891) X dL_law_1890 (sc_rng _ _) rfl ?_
  refine r_ldc2 (pc' := 1894) (z := 4294967295) X gw_1390 dL_law_1891 rfl rfl ?_
  refine r_land (pc' := 1895) X dL_law_1894 rfl ?_
  refine r_lor (pc' := 1896) X dL_law_1895 rfl ?_
  refine w_calli (pc' := 1899) (st := []) (w_runV X (c_X9_runScript l G M2 N P (M 19) c1 (by rw [e29]; exact c2) (M 0) (t : Int) c4.1 (by omega) (by rw [e29]; exact c4.2.2.2) c4.2.1 c4.2.2.1 (by omega) (by omega) (sc xs (i + 1)) (orJ (shlJ (sc xs (i + 2)) 32) (andJ (sc xs (i + 3)) 4294967295)) (by first | exact sc_rng _ _ | exact i64_rng _ | exact Or.inl rfl | exact Or.inr rfl) (by first | exact sc_rng _ _ | exact i64_rng _ | exact Or.inl rfl | exact Or.inr rfl)) cf_X9_runScript k29_0 rfl gw_1363 gw_1364 rfl rfl (rmR hRf hRl (by decide) (by decide)) rfl rfl (Nat.le_of_ble_eq_true rfl) ⟨by show _ + 0 ≤ _; omega, by show _ + 0 ≤ _; omega⟩ gw_1362 dL_law_1896) rfl (fun rb M3 hR => ?_)
  obtain ⟨g1, g2, hgo⟩ := ag_runScript h hP hR
  refine r_istore (pc' := 1901) (lc' := [(0, .ref b), (1, vR G (28, 0)), (2, vR G (29, 0)), (3, vR G (30, 0)), (4, vI (i : Int)), (5, vI zc), (6, vI rb)]) X [1, 2, 3, 4, 5, 6, 0] dL_law_1899 (by decide) rfl rfl ?_
  refine r_aload_n (pc' := 1902) X 2 dL_law_1901 rfl rfl rfl ?_
  refine w_calli (pc' := 1905) (st := []) (w_runV X (c_X9_thrown l G M3 ) cf_X9_thrown k29_0 rfl gw_1074 gw_1075 rfl rfl (rmR hRf hRl (by decide) (by decide)) rfl rfl (Nat.le_of_ble_eq_true rfl) ⟨by show _ + 0 ≤ _; omega, by show _ + 0 ≤ _; omega⟩ gw_1073 dL_law_1902) rfl (fun z9 M4 h9 => ?_)
  obtain rfl := h9.1.symm
  obtain rfl := h9.2.symm
  refine r_iload (pc' := 1907) X 5 dL_law_1905 rfl rfl ?_
  refine r_icmp_eqE (tgt := 1912) X (g1) dL_law_1907 rfl ?_
  refine r_iload (pc' := 1914) X 5 dL_law_1912 rfl rfl ?_
  refine r_if_ne (pc' := 1917) (tgt := 1929) X dL_law_1914 rfl rfl (by omega) (fun hz0 => ?_) (fun hz0 => ?_)
  · clear hz0
    refine r_goto (tgt := 2143) X dL_law_1929 rfl ?_
    refine w_sub (lc' := [(0, .ref b), (1, vR G (28, 0)), (2, vR G (29, 0)), (3, vR G (30, 0)), (4, vI (i : Int))]) [0, 1, 2, 3, 4] rfl ?_
    exact next M3 hgo
  · have hz0 : zc = 0 := by omega
    refine r_aload_n (pc' := 1918) X 3 dL_law_1917 rfl rfl rfl ?_
    refine r_iconst (pc' := 1919) X dL_law_1918 rfl ?_
    refine r_lald (i := 0) (pc' := 1920) X k30_0 (by omega) (by omega) (by decide) dL_law_1919 rfl ?_
    refine r_iload (pc' := 1922) X 6 dL_law_1920 rfl rfl ?_
    refine r_i2lw (pc' := 1923) X dL_law_1922 rfl ?_
    refine r_lcmpE (pc' := 1924) X (g2 hz0) dL_law_1923 rfl ?_
    refine r_if_eq (pc' := 1927) (tgt := 1929) X dL_law_1924 rfl rfl (by omega) (fun _ => ?_) (fun q => absurd rfl q)
    refine r_goto (tgt := 2143) X dL_law_1929 rfl ?_
    refine w_sub (lc' := [(0, .ref b), (1, vR G (28, 0)), (2, vR G (29, 0)), (3, vR G (30, 0)), (4, vI (i : Int))]) [0, 1, 2, 3, 4] rfl ?_
    exact next M3 hgo
set_option maxRecDepth 100000 in
set_option maxHeartbeats 4000000 in
theorem lc_29 {p : Program} {l : Launch} {e : Env} {R : Room} {s : State} {m : MethodId} {args : Array Value} {below : List Frame} {meth : Method} {c : Code} {k n : Nat} {Q : State → Prop} {G : wG} {M : wM} {b Ls i t : Nat} {xs : Nat → Int32} (X : wX p s m args meth c G 8 "StateObserverLaw" cL_law) (hfl : l.stackTraces = false) (hX : va_X b Ls xs s s.heap) (hbl : b < s.heap.size) (hbA : ¬ wA G b) (hLs : Ls ≤ 2560) (hi : i + 5 ≤ Ls) (ht : t ≤ 600) (hLR : LR (t : Int) M) (hRf : 10 ≤ R.frames) (hRl : 430 ≤ R.locals) (hRc : k + 1 ≤ R.cells) (hRs : n + 6 ≤ R.slots) (next : ∀ M1, LR ((t : Int) + 1) M1 → wV p l e R s m args below meth c G 8 M1 (k + 1) (n + 6) Q 2143 [(0, .ref b), (1, vR G (28, 0)), (2, vR G (29, 0)), (3, vR G (30, 0)), (4, vI (i : Int))] []) : wV p l e R s m args below meth c G 8 M k n Q 1932 [(0, .ref b), (1, vR G (28, 0)), (2, vR G (29, 0)), (3, vR G (30, 0)), (4, vI (i : Int))] [] := by
  obtain ⟨N, P, L0, nx, ct, h⟩ := hLR
  obtain ⟨c1, c2, c3, c4, c5, c6, c7, c8, c9, c10, c11, c12, c13, c14, c15⟩ := id h
  have hN4 : N ≤ 4 := c1.2.2.1
  have hP3 : P ≤ 3 := c1.2.2.2.2.2.1
  have hck : COk M N P (t : Int) := ⟨c1, c4.1, c4.2.1⟩
  refine r_aload_n (pc' := 1933) X 1 dL_law_1932 rfl rfl rfl ?_
  refine r_aloadB_n (pc' := 1934) X 0 dL_law_1933 rfl rfl rfl ?_
  refine r_iload (pc' := 1936) X 4 dL_law_1934 rfl rfl ?_
  refine r_iconst (pc' := 1937) X dL_law_1936 rfl ?_
  refine r_iadd (pc' := 1938) X dL_law_1937 rfl ?_
  refine r_sld (i := i + 1) (pc' := 1939) X hX hbl hbA (by omega) (by omega) (by omega) dL_law_1938 rfl ?_
  refine r_i2l (pc' := 1940) X dL_law_1939 (sc_rng _ _) rfl ?_
  refine r_bipush (pc' := 1942) X dL_law_1940 rfl rfl ?_
  refine r_lshl (pc' := 1943) X dL_law_1942 rfl ?_
  refine r_aloadB_n (pc' := 1944) X 0 dL_law_1943 rfl rfl rfl ?_
  refine r_iload (pc' := 1946) X 4 dL_law_1944 rfl rfl ?_
  refine r_iconst (pc' := 1947) X dL_law_1946 rfl ?_
  refine r_iadd (pc' := 1948) X dL_law_1947 rfl ?_
  refine r_sld (i := i + 2) (pc' := 1949) X hX hbl hbA (by omega) (by omega) (by omega) dL_law_1948 rfl ?_
  refine r_i2l (pc' := 1950) X dL_law_1949 (sc_rng _ _) rfl ?_
  refine r_ldc2 (pc' := 1953) (z := 4294967295) X gw_1390 dL_law_1950 rfl rfl ?_
  refine r_land (pc' := 1954) X dL_law_1953 rfl ?_
  refine r_lor (pc' := 1955) X dL_law_1954 rfl ?_
  refine r_aloadB_n (pc' := 1956) X 0 dL_law_1955 rfl rfl rfl ?_
  refine r_iload (pc' := 1958) X 4 dL_law_1956 rfl rfl ?_
  refine r_iconst (pc' := 1959) X dL_law_1958 rfl ?_
  refine r_iadd (pc' := 1960) X dL_law_1959 rfl ?_
  refine r_sld (i := i + 3) (pc' := 1961) X hX hbl hbA (by omega) (by omega) (by omega) dL_law_1960 rfl ?_
  refine r_aload_n (pc' := 1962) X 3 dL_law_1961 rfl rfl rfl ?_
  refine w_calli (pc' := 1965) (st := []) (w_runSH X (c_L_simulate l G M hfl N P (t : Int) hck (by omega) (by omega) c4.2.2.1 (orJ (shlJ (sc xs (i + 1)) 32) (andJ (sc xs (i + 2)) 4294967295)) (sc xs (i + 3)) (by first | exact sc_rng _ _ | exact i64_rng _ | exact Or.inl rfl | exact Or.inr rfl) (by first | exact sc_rng _ _ | exact i64_rng _ | exact Or.inl rfl | exact Or.inr rfl)) cf_L_simulate gw_929 rfl rfl (rmR hRf hRl (by decide) (by decide)) rfl rfl (Nat.le_of_ble_eq_true rfl) ⟨hRc, hRs⟩ gw_928 dL_law_1962) rfl (fun zc M2 hP => ?_)
  obtain ⟨e29, hzc⟩ := pr_simulate (T := (t : Int)) (L := L0) (P := P) (N := N) (ct := ct) c9 hP
  refine r_istore (pc' := 1967) (lc' := [(0, .ref b), (1, vR G (28, 0)), (2, vR G (29, 0)), (3, vR G (30, 0)), (4, vI (i : Int)), (5, vI zc)]) X [1, 2, 3, 4, 5, 0] dL_law_1965 (by decide) rfl rfl ?_
  refine r_aload_n (pc' := 1968) X 2 dL_law_1967 rfl rfl rfl ?_
  refine r_aloadB_n (pc' := 1969) X 0 dL_law_1968 rfl rfl rfl ?_
  refine r_iload (pc' := 1971) X 4 dL_law_1969 rfl rfl ?_
  refine r_iconst (pc' := 1972) X dL_law_1971 rfl ?_
  refine r_iadd (pc' := 1973) X dL_law_1972 rfl ?_
  refine r_sld (i := i + 1) (pc' := 1974) X hX hbl hbA (by omega) (by omega) (by omega) dL_law_1973 rfl ?_
  refine r_i2l (pc' := 1975) X dL_law_1974 (sc_rng _ _) rfl ?_
  refine r_bipush (pc' := 1977) X dL_law_1975 rfl rfl ?_
  refine r_lshl (pc' := 1978) X dL_law_1977 rfl ?_
  refine r_aloadB_n (pc' := 1979) X 0 dL_law_1978 rfl rfl rfl ?_
  refine r_iload (pc' := 1981) X 4 dL_law_1979 rfl rfl ?_
  refine r_iconst (pc' := 1982) X dL_law_1981 rfl ?_
  refine r_iadd (pc' := 1983) X dL_law_1982 rfl ?_
  refine r_sld (i := i + 2) (pc' := 1984) X hX hbl hbA (by omega) (by omega) (by omega) dL_law_1983 rfl ?_
  refine r_i2l (pc' := 1985) X dL_law_1984 (sc_rng _ _) rfl ?_
  refine r_ldc2 (pc' := 1988) (z := 4294967295) X gw_1390 dL_law_1985 rfl rfl ?_
  refine r_land (pc' := 1989) X dL_law_1988 rfl ?_
  refine r_lor (pc' := 1990) X dL_law_1989 rfl ?_
  refine r_aloadB_n (pc' := 1991) X 0 dL_law_1990 rfl rfl rfl ?_
  refine r_iload (pc' := 1993) X 4 dL_law_1991 rfl rfl ?_
  refine r_iconst (pc' := 1994) X dL_law_1993 rfl ?_
  refine r_iadd (pc' := 1995) X dL_law_1994 rfl ?_
  refine r_sld (i := i + 3) (pc' := 1996) X hX hbl hbA (by omega) (by omega) (by omega) dL_law_1995 rfl ?_
  refine w_callj (pc' := 1999) (st := []) (w_runV X (c_X9_simulate l G M2 N P (M 19) c1 (by rw [e29]; exact c2) (M 0) (t : Int) c4.1 (by omega) (by rw [e29]; exact c4.2.2.2) c4.2.1 c4.2.2.1 (by omega) (by omega) (orJ (shlJ (sc xs (i + 1)) 32) (andJ (sc xs (i + 2)) 4294967295)) (sc xs (i + 3)) (by first | exact sc_rng _ _ | exact i64_rng _ | exact Or.inl rfl | exact Or.inr rfl) (by first | exact sc_rng _ _ | exact i64_rng _ | exact Or.inl rfl | exact Or.inr rfl)) cf_X9_simulate k29_0 rfl gw_1376 gw_1377 rfl rfl (rmR hRf hRl (by decide) (by decide)) rfl rfl (Nat.le_of_ble_eq_true rfl) ⟨by show _ + 0 ≤ _; omega, by show _ + 0 ≤ _; omega⟩ gw_1375 dL_law_1996) rfl (fun rb M3 hR => ?_)
  obtain ⟨g1, g2, hgo⟩ := ag_simulate h hP hR
  refine r_lstore (pc' := 2001) (lc' := [(0, .ref b), (1, vR G (28, 0)), (2, vR G (29, 0)), (3, vR G (30, 0)), (4, vI (i : Int)), (5, vI zc), (6, vJ rb)]) X [1, 2, 3, 4, 5, 6, 0] dL_law_1999 (by decide) rfl rfl ?_
  refine r_aload_n (pc' := 2002) X 2 dL_law_2001 rfl rfl rfl ?_
  refine w_calli (pc' := 2005) (st := []) (w_runV X (c_X9_thrown l G M3 ) cf_X9_thrown k29_0 rfl gw_1074 gw_1075 rfl rfl (rmR hRf hRl (by decide) (by decide)) rfl rfl (Nat.le_of_ble_eq_true rfl) ⟨by show _ + 0 ≤ _; omega, by show _ + 0 ≤ _; omega⟩ gw_1073 dL_law_2002) rfl (fun z9 M4 h9 => ?_)
  obtain rfl := h9.1.symm
  obtain rfl := h9.2.symm
  refine r_iload (pc' := 2007) X 5 dL_law_2005 rfl rfl ?_
  refine r_icmp_eqE (tgt := 2012) X (g1) dL_law_2007 rfl ?_
  refine r_iload (pc' := 2014) X 5 dL_law_2012 rfl rfl ?_
  refine r_if_ne (pc' := 2017) (tgt := 2028) X dL_law_2014 rfl rfl (by omega) (fun hz0 => ?_) (fun hz0 => ?_)
  · clear hz0
    refine r_goto (tgt := 2143) X dL_law_2028 rfl ?_
    refine w_sub (lc' := [(0, .ref b), (1, vR G (28, 0)), (2, vR G (29, 0)), (3, vR G (30, 0)), (4, vI (i : Int))]) [0, 1, 2, 3, 4] rfl ?_
    exact next M3 hgo
  · have hz0 : zc = 0 := by omega
    refine r_aload_n (pc' := 2018) X 3 dL_law_2017 rfl rfl rfl ?_
    refine r_iconst (pc' := 2019) X dL_law_2018 rfl ?_
    refine r_lald (i := 0) (pc' := 2020) X k30_0 (by omega) (by omega) (by decide) dL_law_2019 rfl ?_
    refine r_lload (pc' := 2022) X 6 dL_law_2020 rfl rfl ?_
    refine r_lcmpE (pc' := 2023) X (g2 hz0) dL_law_2022 rfl ?_
    refine r_if_eq (pc' := 2026) (tgt := 2028) X dL_law_2023 rfl rfl (by omega) (fun _ => ?_) (fun q => absurd rfl q)
    refine r_goto (tgt := 2143) X dL_law_2028 rfl ?_
    refine w_sub (lc' := [(0, .ref b), (1, vR G (28, 0)), (2, vR G (29, 0)), (3, vR G (30, 0)), (4, vI (i : Int))]) [0, 1, 2, 3, 4] rfl ?_
    exact next M3 hgo
set_option maxRecDepth 100000 in
set_option maxHeartbeats 4000000 in
theorem lc_30 {p : Program} {l : Launch} {e : Env} {R : Room} {s : State} {m : MethodId} {args : Array Value} {below : List Frame} {meth : Method} {c : Code} {k n : Nat} {Q : State → Prop} {G : wG} {M : wM} {b Ls i t : Nat} {xs : Nat → Int32} (X : wX p s m args meth c G 8 "StateObserverLaw" cL_law) (hfl : l.stackTraces = false) (hX : va_X b Ls xs s s.heap) (hbl : b < s.heap.size) (hbA : ¬ wA G b) (hLs : Ls ≤ 2560) (hi : i + 5 ≤ Ls) (ht : t ≤ 600) (hLR : LR (t : Int) M) (hRf : 10 ≤ R.frames) (hRl : 430 ≤ R.locals) (hRc : k + 1 ≤ R.cells) (hRs : n + 6 ≤ R.slots) (next : ∀ M1, LR ((t : Int) + 1) M1 → wV p l e R s m args below meth c G 8 M1 (k + 1) (n + 6) Q 2143 [(0, .ref b), (1, vR G (28, 0)), (2, vR G (29, 0)), (3, vR G (30, 0)), (4, vI (i : Int))] []) : wV p l e R s m args below meth c G 8 M k n Q 2031 [(0, .ref b), (1, vR G (28, 0)), (2, vR G (29, 0)), (3, vR G (30, 0)), (4, vI (i : Int))] [] := by
  obtain ⟨N, P, L0, nx, ct, h⟩ := hLR
  obtain ⟨c1, c2, c3, c4, c5, c6, c7, c8, c9, c10, c11, c12, c13, c14, c15⟩ := id h
  have hN4 : N ≤ 4 := c1.2.2.1
  have hP3 : P ≤ 3 := c1.2.2.2.2.2.1
  have hck : COk M N P (t : Int) := ⟨c1, c4.1, c4.2.1⟩
  refine r_aload_n (pc' := 2032) X 1 dL_law_2031 rfl rfl rfl ?_
  refine r_aloadB_n (pc' := 2033) X 0 dL_law_2032 rfl rfl rfl ?_
  refine r_iload (pc' := 2035) X 4 dL_law_2033 rfl rfl ?_
  refine r_iconst (pc' := 2036) X dL_law_2035 rfl ?_
  refine r_iadd (pc' := 2037) X dL_law_2036 rfl ?_
  refine r_sld (i := i + 1) (pc' := 2038) X hX hbl hbA (by omega) (by omega) (by omega) dL_law_2037 rfl ?_
  refine r_aload_n (pc' := 2039) X 3 dL_law_2038 rfl rfl rfl ?_
  refine w_calli (pc' := 2042) (st := []) (w_runSH X (c_L_save l G M hfl (sc xs (i + 1)) (by first | exact sc_rng _ _ | exact i64_rng _ | exact Or.inl rfl | exact Or.inr rfl)) cf_L_save gw_943 rfl rfl (rmR hRf hRl (by decide) (by decide)) rfl rfl (Nat.le_of_ble_eq_true rfl) ⟨hRc, hRs⟩ gw_942 dL_law_2039) rfl (fun zc M2 hP => ?_)
  obtain ⟨e29, hzc⟩ := pr_save (T := (t : Int)) (L := L0) (P := P) (N := N) (ct := ct) c9 hP
  refine r_istore (pc' := 2044) (lc' := [(0, .ref b), (1, vR G (28, 0)), (2, vR G (29, 0)), (3, vR G (30, 0)), (4, vI (i : Int)), (5, vI zc)]) X [1, 2, 3, 4, 5, 0] dL_law_2042 (by decide) rfl rfl ?_
  refine r_aload_n (pc' := 2045) X 2 dL_law_2044 rfl rfl rfl ?_
  refine r_aloadB_n (pc' := 2046) X 0 dL_law_2045 rfl rfl rfl ?_
  refine r_iload (pc' := 2048) X 4 dL_law_2046 rfl rfl ?_
  refine r_iconst (pc' := 2049) X dL_law_2048 rfl ?_
  refine r_iadd (pc' := 2050) X dL_law_2049 rfl ?_
  refine r_sld (i := i + 1) (pc' := 2051) X hX hbl hbA (by omega) (by omega) (by omega) dL_law_2050 rfl ?_
  refine w_calli (pc' := 2054) (st := []) (w_runV X (c_X9_save l G M2 (sc xs (i + 1)) (by first | exact sc_rng _ _ | exact i64_rng _ | exact Or.inl rfl | exact Or.inr rfl)) cf_X9_save k29_0 rfl gw_1383 gw_1384 rfl rfl (rmR hRf hRl (by decide) (by decide)) rfl rfl (Nat.le_of_ble_eq_true rfl) ⟨by show _ + 0 ≤ _; omega, by show _ + 0 ≤ _; omega⟩ gw_1382 dL_law_2051) rfl (fun rb M3 hR => ?_)
  obtain ⟨g1, g2, hgo⟩ := ag_save h hP hR
  refine r_istore (pc' := 2056) (lc' := [(0, .ref b), (1, vR G (28, 0)), (2, vR G (29, 0)), (3, vR G (30, 0)), (4, vI (i : Int)), (5, vI zc), (6, vI rb)]) X [1, 2, 3, 4, 5, 6, 0] dL_law_2054 (by decide) rfl rfl ?_
  refine r_aload_n (pc' := 2057) X 2 dL_law_2056 rfl rfl rfl ?_
  refine w_calli (pc' := 2060) (st := []) (w_runV X (c_X9_thrown l G M3 ) cf_X9_thrown k29_0 rfl gw_1074 gw_1075 rfl rfl (rmR hRf hRl (by decide) (by decide)) rfl rfl (Nat.le_of_ble_eq_true rfl) ⟨by show _ + 0 ≤ _; omega, by show _ + 0 ≤ _; omega⟩ gw_1073 dL_law_2057) rfl (fun z9 M4 h9 => ?_)
  obtain rfl := h9.1.symm
  obtain rfl := h9.2.symm
  refine r_iload (pc' := 2062) X 5 dL_law_2060 rfl rfl ?_
  refine r_icmp_eqE (tgt := 2067) X (g1) dL_law_2062 rfl ?_
  refine r_iload (pc' := 2069) X 5 dL_law_2067 rfl rfl ?_
  refine r_if_ne (pc' := 2072) (tgt := 2084) X dL_law_2069 rfl rfl (by omega) (fun hz0 => ?_) (fun hz0 => ?_)
  · clear hz0
    refine r_goto (tgt := 2143) X dL_law_2084 rfl ?_
    refine w_sub (lc' := [(0, .ref b), (1, vR G (28, 0)), (2, vR G (29, 0)), (3, vR G (30, 0)), (4, vI (i : Int))]) [0, 1, 2, 3, 4] rfl ?_
    exact next M3 hgo
  · have hz0 : zc = 0 := by omega
    refine r_aload_n (pc' := 2073) X 3 dL_law_2072 rfl rfl rfl ?_
    refine r_iconst (pc' := 2074) X dL_law_2073 rfl ?_
    refine r_lald (i := 0) (pc' := 2075) X k30_0 (by omega) (by omega) (by decide) dL_law_2074 rfl ?_
    refine r_iload (pc' := 2077) X 6 dL_law_2075 rfl rfl ?_
    refine r_i2lw (pc' := 2078) X dL_law_2077 rfl ?_
    refine r_lcmpE (pc' := 2079) X (g2 hz0) dL_law_2078 rfl ?_
    refine r_if_eq (pc' := 2082) (tgt := 2084) X dL_law_2079 rfl rfl (by omega) (fun _ => ?_) (fun q => absurd rfl q)
    refine r_goto (tgt := 2143) X dL_law_2084 rfl ?_
    refine w_sub (lc' := [(0, .ref b), (1, vR G (28, 0)), (2, vR G (29, 0)), (3, vR G (30, 0)), (4, vI (i : Int))]) [0, 1, 2, 3, 4] rfl ?_
    exact next M3 hgo
set_option maxRecDepth 100000 in
set_option maxHeartbeats 4000000 in
theorem lc_31 {p : Program} {l : Launch} {e : Env} {R : Room} {s : State} {m : MethodId} {args : Array Value} {below : List Frame} {meth : Method} {c : Code} {k n : Nat} {Q : State → Prop} {G : wG} {M : wM} {b Ls i t : Nat} {xs : Nat → Int32} (X : wX p s m args meth c G 8 "StateObserverLaw" cL_law) (hfl : l.stackTraces = false) (hX : va_X b Ls xs s s.heap) (hbl : b < s.heap.size) (hbA : ¬ wA G b) (hLs : Ls ≤ 2560) (hi : i + 5 ≤ Ls) (ht : t ≤ 600) (hLR : LR (t : Int) M) (hRf : 10 ≤ R.frames) (hRl : 430 ≤ R.locals) (hRc : k + 1 ≤ R.cells) (hRs : n + 6 ≤ R.slots) (next : ∀ M1, LR ((t : Int) + 1) M1 → wV p l e R s m args below meth c G 8 M1 (k + 1) (n + 6) Q 2143 [(0, .ref b), (1, vR G (28, 0)), (2, vR G (29, 0)), (3, vR G (30, 0)), (4, vI (i : Int))] []) : wV p l e R s m args below meth c G 8 M k n Q 2087 [(0, .ref b), (1, vR G (28, 0)), (2, vR G (29, 0)), (3, vR G (30, 0)), (4, vI (i : Int))] [] := by
  obtain ⟨N, P, L0, nx, ct, h⟩ := hLR
  obtain ⟨c1, c2, c3, c4, c5, c6, c7, c8, c9, c10, c11, c12, c13, c14, c15⟩ := id h
  have hN4 : N ≤ 4 := c1.2.2.1
  have hP3 : P ≤ 3 := c1.2.2.2.2.2.1
  have hck : COk M N P (t : Int) := ⟨c1, c4.1, c4.2.1⟩
  refine r_aload_n (pc' := 2088) X 1 dL_law_2087 rfl rfl rfl ?_
  refine r_aloadB_n (pc' := 2089) X 0 dL_law_2088 rfl rfl rfl ?_
  refine r_iload (pc' := 2091) X 4 dL_law_2089 rfl rfl ?_
  refine r_iconst (pc' := 2092) X dL_law_2091 rfl ?_
  refine r_iadd (pc' := 2093) X dL_law_2092 rfl ?_
  refine r_sld (i := i + 1) (pc' := 2094) X hX hbl hbA (by omega) (by omega) (by omega) dL_law_2093 rfl ?_
  refine r_aload_n (pc' := 2095) X 3 dL_law_2094 rfl rfl rfl ?_
  refine w_calli (pc' := 2098) (st := []) (w_runSH X (c_L_restore l G M hfl (sc xs (i + 1)) (by first | exact sc_rng _ _ | exact i64_rng _ | exact Or.inl rfl | exact Or.inr rfl) (fun x hx => (c14 x hx).1)) cf_L_restore gw_951 rfl rfl (rmR hRf hRl (by decide) (by decide)) rfl rfl (Nat.le_of_ble_eq_true rfl) ⟨hRc, hRs⟩ gw_950 dL_law_2095) rfl (fun zc M2 hP => ?_)
  obtain ⟨e29, hzc⟩ := pr_restore (T := (t : Int)) (L := L0) (P := P) (N := N) (ct := ct) c9 hP
  refine r_istore (pc' := 2100) (lc' := [(0, .ref b), (1, vR G (28, 0)), (2, vR G (29, 0)), (3, vR G (30, 0)), (4, vI (i : Int)), (5, vI zc)]) X [1, 2, 3, 4, 5, 0] dL_law_2098 (by decide) rfl rfl ?_
  refine r_aload_n (pc' := 2101) X 2 dL_law_2100 rfl rfl rfl ?_
  refine r_aloadB_n (pc' := 2102) X 0 dL_law_2101 rfl rfl rfl ?_
  refine r_iload (pc' := 2104) X 4 dL_law_2102 rfl rfl ?_
  refine r_iconst (pc' := 2105) X dL_law_2104 rfl ?_
  refine r_iadd (pc' := 2106) X dL_law_2105 rfl ?_
  refine r_sld (i := i + 1) (pc' := 2107) X hX hbl hbA (by omega) (by omega) (by omega) dL_law_2106 rfl ?_
  refine w_calli (pc' := 2110) (st := []) (w_runV X (c_X9_restore l G M2 (sc xs (i + 1)) (by first | exact sc_rng _ _ | exact i64_rng _ | exact Or.inl rfl | exact Or.inr rfl) (fun x hx => by rw [e29, (c14 x hx).2.1]; exact (c14 x hx).1)) cf_X9_restore k29_0 rfl gw_1387 gw_1388 rfl rfl (rmR hRf hRl (by decide) (by decide)) rfl rfl (Nat.le_of_ble_eq_true rfl) ⟨by show _ + 0 ≤ _; omega, by show _ + 0 ≤ _; omega⟩ gw_1386 dL_law_2107) rfl (fun rb M3 hR => ?_)
  obtain ⟨g1, g2, hgo⟩ := ag_restore h hP hR
  refine r_istore (pc' := 2112) (lc' := [(0, .ref b), (1, vR G (28, 0)), (2, vR G (29, 0)), (3, vR G (30, 0)), (4, vI (i : Int)), (5, vI zc), (6, vI rb)]) X [1, 2, 3, 4, 5, 6, 0] dL_law_2110 (by decide) rfl rfl ?_
  refine r_aload_n (pc' := 2113) X 2 dL_law_2112 rfl rfl rfl ?_
  refine w_calli (pc' := 2116) (st := []) (w_runV X (c_X9_thrown l G M3 ) cf_X9_thrown k29_0 rfl gw_1074 gw_1075 rfl rfl (rmR hRf hRl (by decide) (by decide)) rfl rfl (Nat.le_of_ble_eq_true rfl) ⟨by show _ + 0 ≤ _; omega, by show _ + 0 ≤ _; omega⟩ gw_1073 dL_law_2113) rfl (fun z9 M4 h9 => ?_)
  obtain rfl := h9.1.symm
  obtain rfl := h9.2.symm
  refine r_iload (pc' := 2118) X 5 dL_law_2116 rfl rfl ?_
  refine r_icmp_eqE (tgt := 2123) X (g1) dL_law_2118 rfl ?_
  refine r_iload (pc' := 2125) X 5 dL_law_2123 rfl rfl ?_
  refine r_if_ne (pc' := 2128) (tgt := 2140) X dL_law_2125 rfl rfl (by omega) (fun hz0 => ?_) (fun hz0 => ?_)
  · clear hz0
    refine r_goto (tgt := 2143) X dL_law_2140 rfl ?_
    refine w_sub (lc' := [(0, .ref b), (1, vR G (28, 0)), (2, vR G (29, 0)), (3, vR G (30, 0)), (4, vI (i : Int))]) [0, 1, 2, 3, 4] rfl ?_
    exact next M3 hgo
  · have hz0 : zc = 0 := by omega
    refine r_aload_n (pc' := 2129) X 3 dL_law_2128 rfl rfl rfl ?_
    refine r_iconst (pc' := 2130) X dL_law_2129 rfl ?_
    refine r_lald (i := 0) (pc' := 2131) X k30_0 (by omega) (by omega) (by decide) dL_law_2130 rfl ?_
    refine r_iload (pc' := 2133) X 6 dL_law_2131 rfl rfl ?_
    refine r_i2lw (pc' := 2134) X dL_law_2133 rfl ?_
    refine r_lcmpE (pc' := 2135) X (g2 hz0) dL_law_2134 rfl ?_
    refine r_if_eq (pc' := 2138) (tgt := 2140) X dL_law_2135 rfl rfl (by omega) (fun _ => ?_) (fun q => absurd rfl q)
    refine r_goto (tgt := 2143) X dL_law_2140 rfl ?_
    refine w_sub (lc' := [(0, .ref b), (1, vR G (28, 0)), (2, vR G (29, 0)), (3, vR G (30, 0)), (4, vI (i : Int))]) [0, 1, 2, 3, 4] rfl ?_
    exact next M3 hgo
