/-! THE LAW'S LOOP -/
section LAWL
variable {h : Hp} {c c1 : Nat → Nat → Int} {B : Nat → Nat} {s im : Nat → Int} {hi : Int} {L : List Int} {N : Nat} {xs : Nat → Int} {i : Int} {Q : Option AV → Hp → Prop}
theorem LawI.cls (hI : LawI h c B s im hi L) (f : EqP FrC c c1) : Mc c1 ∧ c1 44 = s ∧ TrR L c1 ∧ c1 43 4 = hi ∧ (∀ k, k < 943 → c1 45 k = im k) := by
  obtain ⟨hL, hM, hs, hA, hR, hT, hl, h01, h4, h45, hAi⟩ := hI
  have m := FrC.m f
  exact ⟨hM.fc f, (m 44 (by omega) (by omega)).trans hs, hT.of (by rw [m 43 (by omega) (by omega)]) (m 54 (by omega) (by omega)), by rw [m 43 (by omega) (by omega)]; exact h4, fun k hk => by rw [m 45 (by omega) (by omega)]; exact h45 k hk⟩
/-- where the loop goes on, four places further -/
def LawK (N : Nat) (xs : Nat → Int) (h : Hp) (i : Int) (Q : Option AV → Hp → Prop) : Prop := ∀ h' c' B' s' im' hi' L', LawI h' c' B' s' im' hi' L' → mN h' ≤ mN h + 8 → mS h' ≤ mS h + 46 → Ex 200 (some (N, xs)) t_L_law 3 18 [(1, -5), (1, ((0 : Nat) : Int)), (1, ((43 : Nat) : Int)), (0, i + 4)] [] (wC h' c') Q
theorem w_end {st : List AV} (hst : st = []) (k : Ex 200 (some (N, xs)) t_L_law 3 18 [(1, -5), (1, ((0 : Nat) : Int)), (1, ((43 : Nat) : Int)), (0, i + 4)] [] h Q) : Ex 200 (some (N, xs)) t_L_law 3 1299 [(1, -5), (1, ((0 : Nat) : Int)), (1, ((43 : Nat) : Int)), (0, i)] st h Q := by
  subst hst
  refine E_iinc lr_1299 rfl rfl ?_
  exact E_goto lr_1302 k
theorem inR0 : inR 0 := by unfold inR; omega
set_option maxHeartbeats 4000000 in
set_option maxRecDepth 100000 in
theorem w_feed (hI : LawI h c B s im hi L) (hx : ∀ k, inR (xs k)) (h0 : 0 ≤ i) (h3 : i + 3 < (N : Int)) (hN : N ≤ 2048) (k : LawK N xs h i Q) : Ex 200 (some (N, xs)) t_L_law 3 196 [(1, -5), (1, ((0 : Nat) : Int)), (1, ((43 : Nat) : Int)), (0, i)] [] (wC h c) Q := by
  have hI0 := hI
  obtain ⟨hL, hM, hs, hA, hR, hT, hl, h01, h4, h45, hAi⟩ := hI
  refine E_load lr_196 rfl rfl ?_
  refine E_load lr_197 rfl rfl ?_
  refine E_load lr_198 rfl rfl ?_
  refine E_const lr_199 ?_
  refine E_add lr_200 ?_
  refine E_sal lr_201 (by omega) (by omega) (by omega) ?_
  refine E_V1 (q := 0) (c := 11) (y := 74) lr_202 rfl (hL.lt 0 rfl) (hL.k 0 rfl) rfl rfl rfl rfl (C_feed hL hR hA (hx _)) (fun r h2 hq => ?_)
  obtain ⟨rfl, c1, hh, hR1, hf⟩ := hq
  subst hh
  obtain ⟨hM1, hs1, hT1, h41, h451⟩ := hI0.cls hf
  show Ex 200 _ _ _ _ _ [(0, _)] _ _
  refine E_load lr_205 rfl rfl ?_
  refine E_load lr_206 rfl rfl ?_
  refine E_load lr_207 rfl rfl ?_
  refine E_const lr_208 ?_
  refine E_add lr_209 ?_
  refine E_sal lr_210 (by omega) (by omega) (by omega) ?_
  refine E_V1 (q := 43) (c := 12) (y := 149) lr_211 rfl (hL.lt 43 rfl) (hL.k 43 rfl) rfl rfl rfl rfl (n_feed hL hM1 hs1 hA (hx _)) (fun r h2 hq => ?_)
  obtain ⟨rfl, c2, hh, hs2, he⟩ := hq
  subst hh
  show Ex 200 _ _ _ _ _ [(0, _), (0, _)] _ _
  refine E_same lr_214 ?_
  refine w_end rfl ?_
  exact k _ _ _ _ _ _ _ (hI0.mu Hx.refl (I_feed hA) hR1 hf hs2 he) (Nat.le_add_right _ _) (Nat.le_add_right _ _)
set_option maxHeartbeats 4000000 in
set_option maxRecDepth 100000 in
theorem w_cellar (hI : LawI h c B s im hi L) (hx : ∀ k, inR (xs k)) (h0 : 0 ≤ i) (h3 : i + 3 < (N : Int)) (hN : N ≤ 2048) (k : LawK N xs h i Q) : Ex 200 (some (N, xs)) t_L_law 3 219 [(1, -5), (1, ((0 : Nat) : Int)), (1, ((43 : Nat) : Int)), (0, i)] [] (wC h c) Q := by
  have hI0 := hI
  obtain ⟨hL, hM, hs, hA, hR, hT, hl, h01, h4, h45, hAi⟩ := hI
  refine E_load lr_219 rfl rfl ?_
  refine E_V0 (q := 0) (c := 11) (y := 75) lr_220 rfl (hL.lt 0 rfl) (hL.k 0 rfl) rfl rfl rfl rfl (C_cellarA hI0) (fun r h2 hq => ?_)
  obtain ⟨v, rfl, c1, hh, hf, hV⟩ := hq
  subst hh
  obtain ⟨hM1, hs1, hT1, h41, h451⟩ := hI0.cls hf
  show Ex 200 _ _ _ _ _ [(0, _)] _ _
  refine E_load lr_223 rfl rfl ?_
  refine E_V0 (q := 43) (c := 12) (y := 163) lr_224 rfl (hL.lt 43 rfl) (hL.k 43 rfl) rfl rfl rfl rfl (n_cellar hL hM1 hs1 hA) (fun r h2 hq => ?_)
  obtain ⟨v2, rfl, c2, s2, hh, hs2, hC, he⟩ := hq
  subst hh
  obtain ⟨ev, hR1⟩ := hV _ _ hC
  subst ev
  show Ex 200 _ _ _ _ _ [(0, _), (0, _)] _ _
  refine E_same lr_227 ?_
  refine w_end rfl ?_
  exact k _ _ _ _ _ _ _ (hI0.mu Hx.refl (I_cellar hA hC) hR1 hf hs2 he) (Nat.le_add_right _ _) (Nat.le_add_right _ _)
set_option maxHeartbeats 4000000 in
set_option maxRecDepth 100000 in
theorem w_bottle (hI : LawI h c B s im hi L) (hx : ∀ k, inR (xs k)) (h0 : 0 ≤ i) (h3 : i + 3 < (N : Int)) (hN : N ≤ 2048) (k : LawK N xs h i Q) : Ex 200 (some (N, xs)) t_L_law 3 232 [(1, -5), (1, ((0 : Nat) : Int)), (1, ((43 : Nat) : Int)), (0, i)] [] (wC h c) Q := by
  have hI0 := hI
  obtain ⟨hL, hM, hs, hA, hR, hT, hl, h01, h4, h45, hAi⟩ := hI
  refine E_load lr_232 rfl rfl ?_
  refine E_load lr_233 rfl rfl ?_
  refine E_load lr_234 rfl rfl ?_
  refine E_const lr_235 ?_
  refine E_add lr_236 ?_
  refine E_sal lr_237 (by omega) (by omega) (by omega) ?_
  refine E_load lr_238 rfl rfl ?_
  refine E_load lr_239 rfl rfl ?_
  refine E_const lr_240 ?_
  refine E_add lr_241 ?_
  refine E_sal lr_242 (by omega) (by omega) (by omega) ?_
  refine E_load lr_243 rfl rfl ?_
  refine E_load lr_244 rfl rfl ?_
  refine E_const lr_245 ?_
  refine E_add lr_246 ?_
  refine E_sal lr_247 (by omega) (by omega) (by omega) ?_
  refine E_V3 (q := 0) (c := 11) (y := 76) lr_248 rfl (hL.lt 0 rfl) (hL.k 0 rfl) rfl rfl rfl rfl (C_bottle hL hR hA (hx _) (hx _) (hx _)) (fun r h2 hq => ?_)
  obtain ⟨rfl, h1, c1, B1, hh, hX, ⟨hn1, hn2⟩, hR1, hf⟩ := hq
  subst hh
  obtain ⟨hM1, hs1, hT1, h41, h451⟩ := hI0.cls hf
  show Ex 200 _ _ _ _ _ [(0, _)] _ _
  refine E_load lr_251 rfl rfl ?_
  refine E_load lr_252 rfl rfl ?_
  refine E_load lr_253 rfl rfl ?_
  refine E_const lr_254 ?_
  refine E_add lr_255 ?_
  refine E_sal lr_256 (by omega) (by omega) (by omega) ?_
  refine E_load lr_257 rfl rfl ?_
  refine E_load lr_258 rfl rfl ?_
  refine E_const lr_259 ?_
  refine E_add lr_260 ?_
  refine E_sal lr_261 (by omega) (by omega) (by omega) ?_
  refine E_load lr_262 rfl rfl ?_
  refine E_load lr_263 rfl rfl ?_
  refine E_const lr_264 ?_
  refine E_add lr_265 ?_
  refine E_sal lr_266 (by omega) (by omega) (by omega) ?_
  refine E_V3 (q := 43) (c := 12) (y := 168) lr_267 rfl ((hL.x hX).lt 43 rfl) ((hL.x hX).k 43 rfl) rfl rfl rfl rfl (n_bottle (hL.x hX) hM1 hs1 hA (hx _) (hx _) (hx _)) (fun r h2 hq => ?_)
  obtain ⟨rfl, c2, hh, hs2, he⟩ := hq
  subst hh
  show Ex 200 _ _ _ _ _ [(0, _), (0, _)] _ _
  refine E_same lr_270 ?_
  refine w_end rfl ?_
  exact k _ _ _ _ _ _ _ (hI0.mu hX (I_bottle hA) hR1 hf hs2 he) hn1 hn2
set_option maxHeartbeats 4000000 in
set_option maxRecDepth 100000 in
theorem w_guest (hI : LawI h c B s im hi L) (hx : ∀ k, inR (xs k)) (h0 : 0 ≤ i) (h3 : i + 3 < (N : Int)) (hN : N ≤ 2048) (k : LawK N xs h i Q) : Ex 200 (some (N, xs)) t_L_law 3 275 [(1, -5), (1, ((0 : Nat) : Int)), (1, ((43 : Nat) : Int)), (0, i)] [] (wC h c) Q := by
  have hI0 := hI
  obtain ⟨hL, hM, hs, hA, hR, hT, hl, h01, h4, h45, hAi⟩ := hI
  refine E_load lr_275 rfl rfl ?_
  refine E_load lr_276 rfl rfl ?_
  refine E_load lr_277 rfl rfl ?_
  refine E_const lr_278 ?_
  refine E_add lr_279 ?_
  refine E_sal lr_280 (by omega) (by omega) (by omega) ?_
  refine E_V1 (q := 0) (c := 11) (y := 77) lr_281 rfl (hL.lt 0 rfl) (hL.k 0 rfl) rfl rfl rfl rfl (C_guest hL hR hA (hx _)) (fun r h2 hq => ?_)
  obtain ⟨rfl, c1, hh, hR1, hf⟩ := hq
  subst hh
  obtain ⟨hM1, hs1, hT1, h41, h451⟩ := hI0.cls hf
  show Ex 200 _ _ _ _ _ [(0, _)] _ _
  refine E_load lr_284 rfl rfl ?_
  refine E_load lr_285 rfl rfl ?_
  refine E_load lr_286 rfl rfl ?_
  refine E_const lr_287 ?_
  refine E_add lr_288 ?_
  refine E_sal lr_289 (by omega) (by omega) (by omega) ?_
  refine E_V1 (q := 43) (c := 12) (y := 169) lr_290 rfl (hL.lt 43 rfl) (hL.k 43 rfl) rfl rfl rfl rfl (n_guest hL hM1 hs1 hA (hx _)) (fun r h2 hq => ?_)
  obtain ⟨rfl, c2, hh, hs2, he⟩ := hq
  subst hh
  show Ex 200 _ _ _ _ _ [(0, _), (0, _)] _ _
  refine E_same lr_293 ?_
  refine w_end rfl ?_
  exact k _ _ _ _ _ _ _ (hI0.mu Hx.refl (I_guest hA) hR1 hf hs2 he) (Nat.le_add_right _ _) (Nat.le_add_right _ _)
set_option maxHeartbeats 4000000 in
set_option maxRecDepth 100000 in
theorem w_of (hI : LawI h c B s im hi L) (hx : ∀ k, inR (xs k)) (h0 : 0 ≤ i) (h3 : i + 3 < (N : Int)) (hN : N ≤ 2048) (k : LawK N xs h i Q) : Ex 200 (some (N, xs)) t_L_law 3 298 [(1, -5), (1, ((0 : Nat) : Int)), (1, ((43 : Nat) : Int)), (0, i)] [] (wC h c) Q := by
  have hI0 := hI
  obtain ⟨hL, hM, hs, hA, hR, hT, hl, h01, h4, h45, hAi⟩ := hI
  refine E_load lr_298 rfl rfl ?_
  refine E_load lr_299 rfl rfl ?_
  refine E_load lr_300 rfl rfl ?_
  refine E_const lr_301 ?_
  refine E_add lr_302 ?_
  refine E_sal lr_303 (by omega) (by omega) (by omega) ?_
  refine E_load lr_304 rfl rfl ?_
  refine E_load lr_305 rfl rfl ?_
  refine E_const lr_306 ?_
  refine E_add lr_307 ?_
  refine E_sal lr_308 (by omega) (by omega) (by omega) ?_
  refine E_V2 (q := 0) (c := 11) (y := 78) lr_309 rfl (hL.lt 0 rfl) (hL.k 0 rfl) rfl rfl rfl rfl (C_of hL hR hA (hx _) (hx _)) (fun r h2 hq => ?_)
  obtain ⟨rfl, c1, hh, hf0⟩ := hq
  subst hh
  have hR1 := hR.scr hf0
  have hf := scr_fc hR hf0
  obtain ⟨hM1, hs1, hT1, h41, h451⟩ := hI0.cls hf
  show Ex 200 _ _ _ _ _ [(0, _)] _ _
  refine E_load lr_312 rfl rfl ?_
  refine E_load lr_313 rfl rfl ?_
  refine E_load lr_314 rfl rfl ?_
  refine E_const lr_315 ?_
  refine E_add lr_316 ?_
  refine E_sal lr_317 (by omega) (by omega) (by omega) ?_
  refine E_load lr_318 rfl rfl ?_
  refine E_load lr_319 rfl rfl ?_
  refine E_const lr_320 ?_
  refine E_add lr_321 ?_
  refine E_sal lr_322 (by omega) (by omega) (by omega) ?_
  refine E_V2 (q := 43) (c := 12) (y := 170) lr_323 rfl (hL.lt 43 rfl) (hL.k 43 rfl) rfl rfl rfl rfl (n_of hL hM1 hs1 hA (hx _) (hx _)) (fun r h2 hq => ?_)
  obtain ⟨rfl, c2, hh, he⟩ := hq
  subst hh
  show Ex 200 _ _ _ _ _ [(0, _), (0, _)] _ _
  refine E_same lr_326 ?_
  refine w_end rfl ?_
  exact k _ _ _ _ _ _ _ (hI0.q hR1 hf he) (Nat.le_add_right _ _) (Nat.le_add_right _ _)
set_option maxHeartbeats 4000000 in
set_option maxRecDepth 100000 in
theorem w_row (hI : LawI h c B s im hi L) (hx : ∀ k, inR (xs k)) (h0 : 0 ≤ i) (h3 : i + 3 < (N : Int)) (hN : N ≤ 2048) (k : LawK N xs h i Q) : Ex 200 (some (N, xs)) t_L_law 3 331 [(1, -5), (1, ((0 : Nat) : Int)), (1, ((43 : Nat) : Int)), (0, i)] [] (wC h c) Q := by
  have hI0 := hI
  obtain ⟨hL, hM, hs, hA, hR, hT, hl, h01, h4, h45, hAi⟩ := hI
  refine E_load lr_331 rfl rfl ?_
  refine E_load lr_332 rfl rfl ?_
  refine E_load lr_333 rfl rfl ?_
  refine E_const lr_334 ?_
  refine E_add lr_335 ?_
  refine E_sal lr_336 (by omega) (by omega) (by omega) ?_
  refine E_load lr_337 rfl rfl ?_
  refine E_load lr_338 rfl rfl ?_
  refine E_const lr_339 ?_
  refine E_add lr_340 ?_
  refine E_sal lr_341 (by omega) (by omega) (by omega) ?_
  refine E_load lr_342 rfl rfl ?_
  refine E_load lr_343 rfl rfl ?_
  refine E_const lr_344 ?_
  refine E_add lr_345 ?_
  refine E_sal lr_346 (by omega) (by omega) (by omega) ?_
  refine E_V3 (q := 0) (c := 11) (y := 79) lr_347 rfl (hL.lt 0 rfl) (hL.k 0 rfl) rfl rfl rfl rfl (C_row hL hR hA (hx _) (hx _) (hx _)) (fun r h2 hq => ?_)
  obtain ⟨rfl, c1, hh, hR1, hf⟩ := hq
  subst hh
  obtain ⟨hM1, hs1, hT1, h41, h451⟩ := hI0.cls hf
  show Ex 200 _ _ _ _ _ [(0, _)] _ _
  refine E_load lr_350 rfl rfl ?_
  refine E_load lr_351 rfl rfl ?_
  refine E_load lr_352 rfl rfl ?_
  refine E_const lr_353 ?_
  refine E_add lr_354 ?_
  refine E_sal lr_355 (by omega) (by omega) (by omega) ?_
  refine E_load lr_356 rfl rfl ?_
  refine E_load lr_357 rfl rfl ?_
  refine E_const lr_358 ?_
  refine E_add lr_359 ?_
  refine E_sal lr_360 (by omega) (by omega) (by omega) ?_
  refine E_load lr_361 rfl rfl ?_
  refine E_load lr_362 rfl rfl ?_
  refine E_const lr_363 ?_
  refine E_add lr_364 ?_
  refine E_sal lr_365 (by omega) (by omega) (by omega) ?_
  refine E_V3 (q := 43) (c := 12) (y := 171) lr_366 rfl (hL.lt 43 rfl) (hL.k 43 rfl) rfl rfl rfl rfl (n_row hL hM1 hs1 hA (hx _) (hx _) (hx _)) (fun r h2 hq => ?_)
  obtain ⟨rfl, c2, hh, hs2, he⟩ := hq
  subst hh
  show Ex 200 _ _ _ _ _ [(0, _), (0, _)] _ _
  refine E_same lr_369 ?_
  refine w_end rfl ?_
  exact k _ _ _ _ _ _ _ (hI0.mu Hx.refl (I_row hA) hR1 hf hs2 he) (Nat.le_add_right _ _) (Nat.le_add_right _ _)
set_option maxHeartbeats 4000000 in
set_option maxRecDepth 100000 in
theorem w_set (hI : LawI h c B s im hi L) (hx : ∀ k, inR (xs k)) (h0 : 0 ≤ i) (h3 : i + 3 < (N : Int)) (hN : N ≤ 2048) (k : LawK N xs h i Q) : Ex 200 (some (N, xs)) t_L_law 3 374 [(1, -5), (1, ((0 : Nat) : Int)), (1, ((43 : Nat) : Int)), (0, i)] [] (wC h c) Q := by
  have hI0 := hI
  obtain ⟨hL, hM, hs, hA, hR, hT, hl, h01, h4, h45, hAi⟩ := hI
  refine E_load lr_374 rfl rfl ?_
  refine E_load lr_375 rfl rfl ?_
  refine E_load lr_376 rfl rfl ?_
  refine E_const lr_377 ?_
  refine E_add lr_378 ?_
  refine E_sal lr_379 (by omega) (by omega) (by omega) ?_
  refine E_load lr_380 rfl rfl ?_
  refine E_load lr_381 rfl rfl ?_
  refine E_const lr_382 ?_
  refine E_add lr_383 ?_
  refine E_sal lr_384 (by omega) (by omega) (by omega) ?_
  refine E_load lr_385 rfl rfl ?_
  refine E_load lr_386 rfl rfl ?_
  refine E_const lr_387 ?_
  refine E_add lr_388 ?_
  refine E_sal lr_389 (by omega) (by omega) (by omega) ?_
  refine E_V3 (q := 0) (c := 11) (y := 80) lr_390 rfl (hL.lt 0 rfl) (hL.k 0 rfl) rfl rfl rfl rfl (C_set hL hR hA (hx _) (hx _) (hx _)) (fun r h2 hq => ?_)
  obtain ⟨rfl, c1, hh, hR1, hf⟩ := hq
  subst hh
  obtain ⟨hM1, hs1, hT1, h41, h451⟩ := hI0.cls hf
  show Ex 200 _ _ _ _ _ [(0, _)] _ _
  refine E_load lr_393 rfl rfl ?_
  refine E_load lr_394 rfl rfl ?_
  refine E_load lr_395 rfl rfl ?_
  refine E_const lr_396 ?_
  refine E_add lr_397 ?_
  refine E_sal lr_398 (by omega) (by omega) (by omega) ?_
  refine E_load lr_399 rfl rfl ?_
  refine E_load lr_400 rfl rfl ?_
  refine E_const lr_401 ?_
  refine E_add lr_402 ?_
  refine E_sal lr_403 (by omega) (by omega) (by omega) ?_
  refine E_load lr_404 rfl rfl ?_
  refine E_load lr_405 rfl rfl ?_
  refine E_const lr_406 ?_
  refine E_add lr_407 ?_
  refine E_sal lr_408 (by omega) (by omega) (by omega) ?_
  refine E_V3 (q := 43) (c := 12) (y := 172) lr_409 rfl (hL.lt 43 rfl) (hL.k 43 rfl) rfl rfl rfl rfl (n_set hL hM1 hs1 hA (hx _) (hx _) (hx _)) (fun r h2 hq => ?_)
  obtain ⟨rfl, c2, hh, hs2, he⟩ := hq
  subst hh
  show Ex 200 _ _ _ _ _ [(0, _), (0, _)] _ _
  refine E_same lr_412 ?_
  refine w_end rfl ?_
  exact k _ _ _ _ _ _ _ (hI0.mu Hx.refl (I_set hA) hR1 hf hs2 he) (Nat.le_add_right _ _) (Nat.le_add_right _ _)
set_option maxHeartbeats 4000000 in
set_option maxRecDepth 100000 in
theorem w_mood (hI : LawI h c B s im hi L) (hx : ∀ k, inR (xs k)) (h0 : 0 ≤ i) (h3 : i + 3 < (N : Int)) (hN : N ≤ 2048) (k : LawK N xs h i Q) : Ex 200 (some (N, xs)) t_L_law 3 417 [(1, -5), (1, ((0 : Nat) : Int)), (1, ((43 : Nat) : Int)), (0, i)] [] (wC h c) Q := by
  have hI0 := hI
  obtain ⟨hL, hM, hs, hA, hR, hT, hl, h01, h4, h45, hAi⟩ := hI
  refine E_load lr_417 rfl rfl ?_
  refine E_load lr_418 rfl rfl ?_
  refine E_load lr_419 rfl rfl ?_
  refine E_const lr_420 ?_
  refine E_add lr_421 ?_
  refine E_sal lr_422 (by omega) (by omega) (by omega) ?_
  refine E_V1 (q := 0) (c := 11) (y := 81) lr_423 rfl (hL.lt 0 rfl) (hL.k 0 rfl) rfl rfl rfl rfl (C_mood hL hR hA (hx _)) (fun r h2 hq => ?_)
  obtain ⟨rfl, c1, hh, hf0⟩ := hq
  subst hh
  have hR1 := hR.scr hf0
  have hf := scr_fc hR hf0
  obtain ⟨hM1, hs1, hT1, h41, h451⟩ := hI0.cls hf
  show Ex 200 _ _ _ _ _ [(0, _)] _ _
  refine E_load lr_426 rfl rfl ?_
  refine E_load lr_427 rfl rfl ?_
  refine E_load lr_428 rfl rfl ?_
  refine E_const lr_429 ?_
  refine E_add lr_430 ?_
  refine E_sal lr_431 (by omega) (by omega) (by omega) ?_
  refine E_V1 (q := 43) (c := 12) (y := 173) lr_432 rfl (hL.lt 43 rfl) (hL.k 43 rfl) rfl rfl rfl rfl (n_mood hL hM1 hs1 hA (hx _)) (fun r h2 hq => ?_)
  obtain ⟨rfl, c2, hh, he⟩ := hq
  subst hh
  show Ex 200 _ _ _ _ _ [(0, _), (0, _)] _ _
  refine E_same lr_435 ?_
  refine w_end rfl ?_
  exact k _ _ _ _ _ _ _ (hI0.q hR1 hf he) (Nat.le_add_right _ _) (Nat.le_add_right _ _)
set_option maxHeartbeats 4000000 in
set_option maxRecDepth 100000 in
theorem w_told (hI : LawI h c B s im hi L) (hx : ∀ k, inR (xs k)) (h0 : 0 ≤ i) (h3 : i + 3 < (N : Int)) (hN : N ≤ 2048) (k : LawK N xs h i Q) : Ex 200 (some (N, xs)) t_L_law 3 440 [(1, -5), (1, ((0 : Nat) : Int)), (1, ((43 : Nat) : Int)), (0, i)] [] (wC h c) Q := by
  have hI0 := hI
  obtain ⟨hL, hM, hs, hA, hR, hT, hl, h01, h4, h45, hAi⟩ := hI
  refine E_load lr_440 rfl rfl ?_
  refine E_load lr_441 rfl rfl ?_
  refine E_load lr_442 rfl rfl ?_
  refine E_const lr_443 ?_
  refine E_add lr_444 ?_
  refine E_sal lr_445 (by omega) (by omega) (by omega) ?_
  refine E_V1 (q := 0) (c := 11) (y := 82) lr_446 rfl (hL.lt 0 rfl) (hL.k 0 rfl) rfl rfl rfl rfl (C_told hL hR hA (hx _)) (fun r h2 hq => ?_)
  obtain ⟨rfl, c1, hh, hf0⟩ := hq
  subst hh
  have hR1 := hR.scr hf0
  have hf := scr_fc hR hf0
  obtain ⟨hM1, hs1, hT1, h41, h451⟩ := hI0.cls hf
  show Ex 200 _ _ _ _ _ [(0, _)] _ _
  refine E_load lr_449 rfl rfl ?_
  refine E_load lr_450 rfl rfl ?_
  refine E_load lr_451 rfl rfl ?_
  refine E_const lr_452 ?_
  refine E_add lr_453 ?_
  refine E_sal lr_454 (by omega) (by omega) (by omega) ?_
  refine E_V1 (q := 43) (c := 12) (y := 177) lr_455 rfl (hL.lt 43 rfl) (hL.k 43 rfl) rfl rfl rfl rfl (n_told hL hM1 hs1 hA (hx _)) (fun r h2 hq => ?_)
  obtain ⟨rfl, c2, hh, he⟩ := hq
  subst hh
  show Ex 200 _ _ _ _ _ [(0, _), (0, _)] _ _
  refine E_same lr_458 ?_
  refine w_end rfl ?_
  exact k _ _ _ _ _ _ _ (hI0.q hR1 hf he) (Nat.le_add_right _ _) (Nat.le_add_right _ _)
set_option maxHeartbeats 4000000 in
set_option maxRecDepth 100000 in
theorem w_pour (hI : LawI h c B s im hi L) (hx : ∀ k, inR (xs k)) (h0 : 0 ≤ i) (h3 : i + 3 < (N : Int)) (hN : N ≤ 2048) (k : LawK N xs h i Q) : Ex 200 (some (N, xs)) t_L_law 3 463 [(1, -5), (1, ((0 : Nat) : Int)), (1, ((43 : Nat) : Int)), (0, i)] [] (wC h c) Q := by
  have hI0 := hI
  obtain ⟨hL, hM, hs, hA, hR, hT, hl, h01, h4, h45, hAi⟩ := hI
  refine E_load lr_463 rfl rfl ?_
  refine E_load lr_464 rfl rfl ?_
  refine E_load lr_465 rfl rfl ?_
  refine E_const lr_466 ?_
  refine E_add lr_467 ?_
  refine E_sal lr_468 (by omega) (by omega) (by omega) ?_
  refine E_load lr_469 rfl rfl ?_
  refine E_load lr_470 rfl rfl ?_
  refine E_const lr_471 ?_
  refine E_add lr_472 ?_
  refine E_sal lr_473 (by omega) (by omega) (by omega) ?_
  refine E_V2 (q := 0) (c := 11) (y := 83) lr_474 rfl (hL.lt 0 rfl) (hL.k 0 rfl) rfl rfl rfl rfl (C_pour hL hR hA (hx _) (hx _)) (fun r h2 hq => ?_)
  obtain ⟨rfl, c1, hh, hR1, hf⟩ := hq
  subst hh
  obtain ⟨hM1, hs1, hT1, h41, h451⟩ := hI0.cls hf
  show Ex 200 _ _ _ _ _ [(0, _)] _ _
  refine E_load lr_477 rfl rfl ?_
  refine E_load lr_478 rfl rfl ?_
  refine E_load lr_479 rfl rfl ?_
  refine E_const lr_480 ?_
  refine E_add lr_481 ?_
  refine E_sal lr_482 (by omega) (by omega) (by omega) ?_
  refine E_load lr_483 rfl rfl ?_
  refine E_load lr_484 rfl rfl ?_
  refine E_const lr_485 ?_
  refine E_add lr_486 ?_
  refine E_sal lr_487 (by omega) (by omega) (by omega) ?_
  refine E_V2 (q := 43) (c := 12) (y := 180) lr_488 rfl (hL.lt 43 rfl) (hL.k 43 rfl) rfl rfl rfl rfl (n_pour hL hM1 hs1 hA (hx _) (hx _)) (fun r h2 hq => ?_)
  obtain ⟨rfl, c2, hh, hs2, he⟩ := hq
  subst hh
  show Ex 200 _ _ _ _ _ [(0, _), (0, _)] _ _
  refine E_same lr_491 ?_
  refine w_end rfl ?_
  exact k _ _ _ _ _ _ _ (hI0.mu Hx.refl (I_pour hA) hR1 hf hs2 he) (Nat.le_add_right _ _) (Nat.le_add_right _ _)
set_option maxHeartbeats 4000000 in
set_option maxRecDepth 100000 in
theorem w_both (hI : LawI h c B s im hi L) (hx : ∀ k, inR (xs k)) (h0 : 0 ≤ i) (h3 : i + 3 < (N : Int)) (hN : N ≤ 2048) (k : LawK N xs h i Q) : Ex 200 (some (N, xs)) t_L_law 3 496 [(1, -5), (1, ((0 : Nat) : Int)), (1, ((43 : Nat) : Int)), (0, i)] [] (wC h c) Q := by
  have hI0 := hI
  obtain ⟨hL, hM, hs, hA, hR, hT, hl, h01, h4, h45, hAi⟩ := hI
  refine E_load lr_496 rfl rfl ?_
  refine E_load lr_497 rfl rfl ?_
  refine E_load lr_498 rfl rfl ?_
  refine E_const lr_499 ?_
  refine E_add lr_500 ?_
  refine E_sal lr_501 (by omega) (by omega) (by omega) ?_
  refine E_load lr_502 rfl rfl ?_
  refine E_load lr_503 rfl rfl ?_
  refine E_const lr_504 ?_
  refine E_add lr_505 ?_
  refine E_sal lr_506 (by omega) (by omega) (by omega) ?_
  refine E_load lr_507 rfl rfl ?_
  refine E_load lr_508 rfl rfl ?_
  refine E_const lr_509 ?_
  refine E_add lr_510 ?_
  refine E_sal lr_511 (by omega) (by omega) (by omega) ?_
  refine E_V3 (q := 0) (c := 11) (y := 84) lr_512 rfl (hL.lt 0 rfl) (hL.k 0 rfl) rfl rfl rfl rfl (C_both hL hR hA (hx _) (hx _) (hx _)) (fun r h2 hq => ?_)
  obtain ⟨rfl, c1, hh, hR1, hf⟩ := hq
  subst hh
  obtain ⟨hM1, hs1, hT1, h41, h451⟩ := hI0.cls hf
  show Ex 200 _ _ _ _ _ [(0, _)] _ _
  refine E_load lr_515 rfl rfl ?_
  refine E_load lr_516 rfl rfl ?_
  refine E_load lr_517 rfl rfl ?_
  refine E_const lr_518 ?_
  refine E_add lr_519 ?_
  refine E_sal lr_520 (by omega) (by omega) (by omega) ?_
  refine E_load lr_521 rfl rfl ?_
  refine E_load lr_522 rfl rfl ?_
  refine E_const lr_523 ?_
  refine E_add lr_524 ?_
  refine E_sal lr_525 (by omega) (by omega) (by omega) ?_
  refine E_load lr_526 rfl rfl ?_
  refine E_load lr_527 rfl rfl ?_
  refine E_const lr_528 ?_
  refine E_add lr_529 ?_
  refine E_sal lr_530 (by omega) (by omega) (by omega) ?_
  refine E_V3 (q := 43) (c := 12) (y := 181) lr_531 rfl (hL.lt 43 rfl) (hL.k 43 rfl) rfl rfl rfl rfl (n_both hL hM1 hs1 hA (hx _) (hx _) (hx _)) (fun r h2 hq => ?_)
  obtain ⟨rfl, c2, hh, hs2, he⟩ := hq
  subst hh
  show Ex 200 _ _ _ _ _ [(0, _), (0, _)] _ _
  refine E_same lr_534 ?_
  refine w_end rfl ?_
  exact k _ _ _ _ _ _ _ (hI0.mu Hx.refl (I_both hA) hR1 hf hs2 he) (Nat.le_add_right _ _) (Nat.le_add_right _ _)
set_option maxHeartbeats 4000000 in
set_option maxRecDepth 100000 in
theorem w_pass (hI : LawI h c B s im hi L) (hx : ∀ k, inR (xs k)) (h0 : 0 ≤ i) (h3 : i + 3 < (N : Int)) (hN : N ≤ 2048) (k : LawK N xs h i Q) : Ex 200 (some (N, xs)) t_L_law 3 539 [(1, -5), (1, ((0 : Nat) : Int)), (1, ((43 : Nat) : Int)), (0, i)] [] (wC h c) Q := by
  have hI0 := hI
  obtain ⟨hL, hM, hs, hA, hR, hT, hl, h01, h4, h45, hAi⟩ := hI
  refine E_load lr_539 rfl rfl ?_
  refine E_load lr_540 rfl rfl ?_
  refine E_load lr_541 rfl rfl ?_
  refine E_const lr_542 ?_
  refine E_add lr_543 ?_
  refine E_sal lr_544 (by omega) (by omega) (by omega) ?_
  refine E_V1 (q := 0) (c := 11) (y := 85) lr_545 rfl (hL.lt 0 rfl) (hL.k 0 rfl) rfl rfl rfl rfl (C_pass hL hR hA (hx _)) (fun r h2 hq => ?_)
  obtain ⟨rfl, c1, hh, hR1, hf⟩ := hq
  subst hh
  obtain ⟨hM1, hs1, hT1, h41, h451⟩ := hI0.cls hf
  show Ex 200 _ _ _ _ _ [(0, _)] _ _
  refine E_load lr_548 rfl rfl ?_
  refine E_load lr_549 rfl rfl ?_
  refine E_load lr_550 rfl rfl ?_
  refine E_const lr_551 ?_
  refine E_add lr_552 ?_
  refine E_sal lr_553 (by omega) (by omega) (by omega) ?_
  refine E_V1 (q := 43) (c := 12) (y := 184) lr_554 rfl (hL.lt 43 rfl) (hL.k 43 rfl) rfl rfl rfl rfl (n_pass hL hM1 hs1 hA (hx _)) (fun r h2 hq => ?_)
  obtain ⟨rfl, c2, hh, hs2, he⟩ := hq
  subst hh
  show Ex 200 _ _ _ _ _ [(0, _), (0, _)] _ _
  refine E_same lr_557 ?_
  refine w_end rfl ?_
  exact k _ _ _ _ _ _ _ (hI0.mu Hx.refl (I_pass hA) hR1 hf hs2 he) (Nat.le_add_right _ _) (Nat.le_add_right _ _)
set_option maxHeartbeats 4000000 in
set_option maxRecDepth 100000 in
theorem w_on (hI : LawI h c B s im hi L) (hx : ∀ k, inR (xs k)) (h0 : 0 ≤ i) (h3 : i + 3 < (N : Int)) (hN : N ≤ 2048) (k : LawK N xs h i Q) : Ex 200 (some (N, xs)) t_L_law 3 562 [(1, -5), (1, ((0 : Nat) : Int)), (1, ((43 : Nat) : Int)), (0, i)] [] (wC h c) Q := by
  have hI0 := hI
  obtain ⟨hL, hM, hs, hA, hR, hT, hl, h01, h4, h45, hAi⟩ := hI
  refine E_load lr_562 rfl rfl ?_
  refine E_load lr_563 rfl rfl ?_
  refine E_load lr_564 rfl rfl ?_
  refine E_const lr_565 ?_
  refine E_add lr_566 ?_
  refine E_sal lr_567 (by omega) (by omega) (by omega) ?_
  refine E_load lr_568 rfl rfl ?_
  refine E_load lr_569 rfl rfl ?_
  refine E_const lr_570 ?_
  refine E_add lr_571 ?_
  refine E_sal lr_572 (by omega) (by omega) (by omega) ?_
  refine E_V2 (q := 0) (c := 11) (y := 86) lr_573 rfl (hL.lt 0 rfl) (hL.k 0 rfl) rfl rfl rfl rfl (C_on hL hR hA (hx _) (hx _)) (fun r h2 hq => ?_)
  obtain ⟨rfl, c1, hh, hf0⟩ := hq
  subst hh
  have hR1 := hR.scr hf0
  have hf := scr_fc hR hf0
  obtain ⟨hM1, hs1, hT1, h41, h451⟩ := hI0.cls hf
  show Ex 200 _ _ _ _ _ [(0, _)] _ _
  refine E_load lr_576 rfl rfl ?_
  refine E_load lr_577 rfl rfl ?_
  refine E_load lr_578 rfl rfl ?_
  refine E_const lr_579 ?_
  refine E_add lr_580 ?_
  refine E_sal lr_581 (by omega) (by omega) (by omega) ?_
  refine E_load lr_582 rfl rfl ?_
  refine E_load lr_583 rfl rfl ?_
  refine E_const lr_584 ?_
  refine E_add lr_585 ?_
  refine E_sal lr_586 (by omega) (by omega) (by omega) ?_
  refine E_V2 (q := 43) (c := 12) (y := 185) lr_587 rfl (hL.lt 43 rfl) (hL.k 43 rfl) rfl rfl rfl rfl (n_on hL hM1 hs1 hA (hx _) (hx _)) (fun r h2 hq => ?_)
  obtain ⟨rfl, c2, hh, he⟩ := hq
  subst hh
  show Ex 200 _ _ _ _ _ [(0, _), (0, _)] _ _
  refine E_same lr_590 ?_
  refine w_end rfl ?_
  exact k _ _ _ _ _ _ _ (hI0.q hR1 hf he) (Nat.le_add_right _ _) (Nat.le_add_right _ _)
set_option maxHeartbeats 4000000 in
set_option maxRecDepth 100000 in
theorem w_when (hI : LawI h c B s im hi L) (hx : ∀ k, inR (xs k)) (h0 : 0 ≤ i) (h3 : i + 3 < (N : Int)) (hN : N ≤ 2048) (k : LawK N xs h i Q) : Ex 200 (some (N, xs)) t_L_law 3 595 [(1, -5), (1, ((0 : Nat) : Int)), (1, ((43 : Nat) : Int)), (0, i)] [] (wC h c) Q := by
  have hI0 := hI
  obtain ⟨hL, hM, hs, hA, hR, hT, hl, h01, h4, h45, hAi⟩ := hI
  refine E_load lr_595 rfl rfl ?_
  refine E_load lr_596 rfl rfl ?_
  refine E_load lr_597 rfl rfl ?_
  refine E_const lr_598 ?_
  refine E_add lr_599 ?_
  refine E_sal lr_600 (by omega) (by omega) (by omega) ?_
  refine E_load lr_601 rfl rfl ?_
  refine E_load lr_602 rfl rfl ?_
  refine E_const lr_603 ?_
  refine E_add lr_604 ?_
  refine E_sal lr_605 (by omega) (by omega) (by omega) ?_
  refine E_V2 (q := 0) (c := 11) (y := 87) lr_606 rfl (hL.lt 0 rfl) (hL.k 0 rfl) rfl rfl rfl rfl (C_when hL hR hA (hx _) (hx _)) (fun r h2 hq => ?_)
  obtain ⟨rfl, c1, hh, hf0⟩ := hq
  subst hh
  have hR1 := hR.scr hf0
  have hf := scr_fc hR hf0
  obtain ⟨hM1, hs1, hT1, h41, h451⟩ := hI0.cls hf
  show Ex 200 _ _ _ _ _ [(0, _)] _ _
  refine E_load lr_609 rfl rfl ?_
  refine E_load lr_610 rfl rfl ?_
  refine E_load lr_611 rfl rfl ?_
  refine E_const lr_612 ?_
  refine E_add lr_613 ?_
  refine E_sal lr_614 (by omega) (by omega) (by omega) ?_
  refine E_load lr_615 rfl rfl ?_
  refine E_load lr_616 rfl rfl ?_
  refine E_const lr_617 ?_
  refine E_add lr_618 ?_
  refine E_sal lr_619 (by omega) (by omega) (by omega) ?_
  refine E_V2 (q := 43) (c := 12) (y := 186) lr_620 rfl (hL.lt 43 rfl) (hL.k 43 rfl) rfl rfl rfl rfl (n_when hL hM1 hs1 hA (hx _) (hx _)) (fun r h2 hq => ?_)
  obtain ⟨rfl, c2, hh, he⟩ := hq
  subst hh
  show Ex 200 _ _ _ _ _ [(0, _), (0, _)] _ _
  refine E_same lr_623 ?_
  refine w_end rfl ?_
  exact k _ _ _ _ _ _ _ (hI0.q hR1 hf he) (Nat.le_add_right _ _) (Nat.le_add_right _ _)
set_option maxHeartbeats 4000000 in
set_option maxRecDepth 100000 in
theorem w_ripe (hI : LawI h c B s im hi L) (hx : ∀ k, inR (xs k)) (h0 : 0 ≤ i) (h3 : i + 3 < (N : Int)) (hN : N ≤ 2048) (k : LawK N xs h i Q) : Ex 200 (some (N, xs)) t_L_law 3 628 [(1, -5), (1, ((0 : Nat) : Int)), (1, ((43 : Nat) : Int)), (0, i)] [] (wC h c) Q := by
  have hI0 := hI
  obtain ⟨hL, hM, hs, hA, hR, hT, hl, h01, h4, h45, hAi⟩ := hI
  refine E_load lr_628 rfl rfl ?_
  refine E_load lr_629 rfl rfl ?_
  refine E_load lr_630 rfl rfl ?_
  refine E_const lr_631 ?_
  refine E_add lr_632 ?_
  refine E_sal lr_633 (by omega) (by omega) (by omega) ?_
  refine E_V1 (q := 0) (c := 11) (y := 88) lr_634 rfl (hL.lt 0 rfl) (hL.k 0 rfl) rfl rfl rfl rfl (C_ripe hL hR hA (hx _)) (fun r h2 hq => ?_)
  obtain ⟨rfl, c1, hh, hf0⟩ := hq
  subst hh
  have hR1 := hR.scr hf0
  have hf := scr_fc hR hf0
  obtain ⟨hM1, hs1, hT1, h41, h451⟩ := hI0.cls hf
  show Ex 200 _ _ _ _ _ [(0, _)] _ _
  refine E_load lr_637 rfl rfl ?_
  refine E_load lr_638 rfl rfl ?_
  refine E_load lr_639 rfl rfl ?_
  refine E_const lr_640 ?_
  refine E_add lr_641 ?_
  refine E_sal lr_642 (by omega) (by omega) (by omega) ?_
  refine E_V1 (q := 43) (c := 12) (y := 187) lr_643 rfl (hL.lt 43 rfl) (hL.k 43 rfl) rfl rfl rfl rfl (n_ripe hL hM1 hs1 hA (hx _)) (fun r h2 hq => ?_)
  obtain ⟨rfl, c2, hh, he⟩ := hq
  subst hh
  show Ex 200 _ _ _ _ _ [(0, _), (0, _)] _ _
  refine E_same lr_646 ?_
  refine w_end rfl ?_
  exact k _ _ _ _ _ _ _ (hI0.q hR1 hf he) (Nat.le_add_right _ _) (Nat.le_add_right _ _)
set_option maxHeartbeats 4000000 in
set_option maxRecDepth 100000 in
theorem w_lies (hI : LawI h c B s im hi L) (hx : ∀ k, inR (xs k)) (h0 : 0 ≤ i) (h3 : i + 3 < (N : Int)) (hN : N ≤ 2048) (k : LawK N xs h i Q) : Ex 200 (some (N, xs)) t_L_law 3 651 [(1, -5), (1, ((0 : Nat) : Int)), (1, ((43 : Nat) : Int)), (0, i)] [] (wC h c) Q := by
  have hI0 := hI
  obtain ⟨hL, hM, hs, hA, hR, hT, hl, h01, h4, h45, hAi⟩ := hI
  refine E_load lr_651 rfl rfl ?_
  refine E_load lr_652 rfl rfl ?_
  refine E_load lr_653 rfl rfl ?_
  refine E_const lr_654 ?_
  refine E_add lr_655 ?_
  refine E_sal lr_656 (by omega) (by omega) (by omega) ?_
  refine E_V1 (q := 0) (c := 11) (y := 89) lr_657 rfl (hL.lt 0 rfl) (hL.k 0 rfl) rfl rfl rfl rfl (C_lies hL hR hA (hx _)) (fun r h2 hq => ?_)
  obtain ⟨rfl, c1, hh, hf0⟩ := hq
  subst hh
  have hR1 := hR.scr hf0
  have hf := scr_fc hR hf0
  obtain ⟨hM1, hs1, hT1, h41, h451⟩ := hI0.cls hf
  show Ex 200 _ _ _ _ _ [(0, _)] _ _
  refine E_load lr_660 rfl rfl ?_
  refine E_load lr_661 rfl rfl ?_
  refine E_load lr_662 rfl rfl ?_
  refine E_const lr_663 ?_
  refine E_add lr_664 ?_
  refine E_sal lr_665 (by omega) (by omega) (by omega) ?_
  refine E_V1 (q := 43) (c := 12) (y := 188) lr_666 rfl (hL.lt 43 rfl) (hL.k 43 rfl) rfl rfl rfl rfl (n_lies hL hM1 hs1 hA (hx _)) (fun r h2 hq => ?_)
  obtain ⟨rfl, c2, hh, he⟩ := hq
  subst hh
  show Ex 200 _ _ _ _ _ [(0, _), (0, _)] _ _
  refine E_same lr_669 ?_
  refine w_end rfl ?_
  exact k _ _ _ _ _ _ _ (hI0.q hR1 hf he) (Nat.le_add_right _ _) (Nat.le_add_right _ _)
set_option maxHeartbeats 4000000 in
set_option maxRecDepth 100000 in
theorem w_choose (hI : LawI h c B s im hi L) (hx : ∀ k, inR (xs k)) (h0 : 0 ≤ i) (h3 : i + 3 < (N : Int)) (hN : N ≤ 2048) (k : LawK N xs h i Q) : Ex 200 (some (N, xs)) t_L_law 3 674 [(1, -5), (1, ((0 : Nat) : Int)), (1, ((43 : Nat) : Int)), (0, i)] [] (wC h c) Q := by
  have hI0 := hI
  obtain ⟨hL, hM, hs, hA, hR, hT, hl, h01, h4, h45, hAi⟩ := hI
  refine E_load lr_674 rfl rfl ?_
  refine E_load lr_675 rfl rfl ?_
  refine E_load lr_676 rfl rfl ?_
  refine E_const lr_677 ?_
  refine E_add lr_678 ?_
  refine E_sal lr_679 (by omega) (by omega) (by omega) ?_
  refine E_load lr_680 rfl rfl ?_
  refine E_load lr_681 rfl rfl ?_
  refine E_const lr_682 ?_
  refine E_add lr_683 ?_
  refine E_sal lr_684 (by omega) (by omega) (by omega) ?_
  refine E_V2 (q := 0) (c := 11) (y := 90) lr_685 rfl (hL.lt 0 rfl) (hL.k 0 rfl) rfl rfl rfl rfl (C_choose hL hR hA (hx _) (hx _)) (fun r h2 hq => ?_)
  obtain ⟨rfl, c1, hh, hf0⟩ := hq
  subst hh
  have hR1 := hR.scr hf0
  have hf := scr_fc hR hf0
  obtain ⟨hM1, hs1, hT1, h41, h451⟩ := hI0.cls hf
  show Ex 200 _ _ _ _ _ [(0, _)] _ _
  refine E_load lr_688 rfl rfl ?_
  refine E_load lr_689 rfl rfl ?_
  refine E_load lr_690 rfl rfl ?_
  refine E_const lr_691 ?_
  refine E_add lr_692 ?_
  refine E_sal lr_693 (by omega) (by omega) (by omega) ?_
  refine E_load lr_694 rfl rfl ?_
  refine E_load lr_695 rfl rfl ?_
  refine E_const lr_696 ?_
  refine E_add lr_697 ?_
  refine E_sal lr_698 (by omega) (by omega) (by omega) ?_
  refine E_V2 (q := 43) (c := 12) (y := 192) lr_699 rfl (hL.lt 43 rfl) (hL.k 43 rfl) rfl rfl rfl rfl (n_choose hL hM1 hs1 hA (hx _) (hx _)) (fun r h2 hq => ?_)
  obtain ⟨rfl, c2, hh, he⟩ := hq
  subst hh
  show Ex 200 _ _ _ _ _ [(0, _), (0, _)] _ _
  refine E_same lr_702 ?_
  refine w_end rfl ?_
  exact k _ _ _ _ _ _ _ (hI0.q hR1 hf he) (Nat.le_add_right _ _) (Nat.le_add_right _ _)
set_option maxHeartbeats 4000000 in
set_option maxRecDepth 100000 in
theorem w_line (hI : LawI h c B s im hi L) (hx : ∀ k, inR (xs k)) (h0 : 0 ≤ i) (h3 : i + 3 < (N : Int)) (hN : N ≤ 2048) (k : LawK N xs h i Q) : Ex 200 (some (N, xs)) t_L_law 3 707 [(1, -5), (1, ((0 : Nat) : Int)), (1, ((43 : Nat) : Int)), (0, i)] [] (wC h c) Q := by
  have hI0 := hI
  obtain ⟨hL, hM, hs, hA, hR, hT, hl, h01, h4, h45, hAi⟩ := hI
  refine E_load lr_707 rfl rfl ?_
  refine E_load lr_708 rfl rfl ?_
  refine E_load lr_709 rfl rfl ?_
  refine E_const lr_710 ?_
  refine E_add lr_711 ?_
  refine E_sal lr_712 (by omega) (by omega) (by omega) ?_
  refine E_load lr_713 rfl rfl ?_
  refine E_load lr_714 rfl rfl ?_
  refine E_const lr_715 ?_
  refine E_add lr_716 ?_
  refine E_sal lr_717 (by omega) (by omega) (by omega) ?_
  refine E_V2 (q := 0) (c := 11) (y := 91) lr_718 rfl (hL.lt 0 rfl) (hL.k 0 rfl) rfl rfl rfl rfl (C_line hL hR hA (hx _) (hx _)) (fun r h2 hq => ?_)
  obtain ⟨rfl, c1, hh, hf0⟩ := hq
  subst hh
  have hR1 := hR.scr hf0
  have hf := scr_fc hR hf0
  obtain ⟨hM1, hs1, hT1, h41, h451⟩ := hI0.cls hf
  show Ex 200 _ _ _ _ _ [(0, _)] _ _
  refine E_load lr_721 rfl rfl ?_
  refine E_load lr_722 rfl rfl ?_
  refine E_load lr_723 rfl rfl ?_
  refine E_const lr_724 ?_
  refine E_add lr_725 ?_
  refine E_sal lr_726 (by omega) (by omega) (by omega) ?_
  refine E_load lr_727 rfl rfl ?_
  refine E_load lr_728 rfl rfl ?_
  refine E_const lr_729 ?_
  refine E_add lr_730 ?_
  refine E_sal lr_731 (by omega) (by omega) (by omega) ?_
  refine E_V2 (q := 43) (c := 12) (y := 194) lr_732 rfl (hL.lt 43 rfl) (hL.k 43 rfl) rfl rfl rfl rfl (n_line hL hM1 hs1 hA (hx _) (hx _)) (fun r h2 hq => ?_)
  obtain ⟨rfl, c2, hh, he⟩ := hq
  subst hh
  show Ex 200 _ _ _ _ _ [(0, _), (0, _)] _ _
  refine E_same lr_735 ?_
  refine w_end rfl ?_
  exact k _ _ _ _ _ _ _ (hI0.q hR1 hf he) (Nat.le_add_right _ _) (Nat.le_add_right _ _)
set_option maxHeartbeats 4000000 in
set_option maxRecDepth 100000 in
theorem w_pair (hI : LawI h c B s im hi L) (hx : ∀ k, inR (xs k)) (h0 : 0 ≤ i) (h3 : i + 3 < (N : Int)) (hN : N ≤ 2048) (k : LawK N xs h i Q) : Ex 200 (some (N, xs)) t_L_law 3 740 [(1, -5), (1, ((0 : Nat) : Int)), (1, ((43 : Nat) : Int)), (0, i)] [] (wC h c) Q := by
  have hI0 := hI
  obtain ⟨hL, hM, hs, hA, hR, hT, hl, h01, h4, h45, hAi⟩ := hI
  refine E_load lr_740 rfl rfl ?_
  refine E_V0 (q := 0) (c := 11) (y := 92) lr_741 rfl (hL.lt 0 rfl) (hL.k 0 rfl) rfl rfl rfl rfl (C_pair hL hR hA) (fun r h2 hq => ?_)
  obtain ⟨rfl, c1, hh, hf0⟩ := hq
  subst hh
  have hR1 := hR.scr hf0
  have hf := scr_fc hR hf0
  obtain ⟨hM1, hs1, hT1, h41, h451⟩ := hI0.cls hf
  show Ex 200 _ _ _ _ _ [(0, _)] _ _
  refine E_load lr_744 rfl rfl ?_
  refine E_V0 (q := 43) (c := 12) (y := 195) lr_745 rfl (hL.lt 43 rfl) (hL.k 43 rfl) rfl rfl rfl rfl (n_pair hL hM1 hs1 hA) (fun r h2 hq => ?_)
  obtain ⟨rfl, c2, hh, he⟩ := hq
  subst hh
  show Ex 200 _ _ _ _ _ [(0, _), (0, _)] _ _
  refine E_same lr_748 ?_
  refine w_end rfl ?_
  exact k _ _ _ _ _ _ _ (hI0.q hR1 hf he) (Nat.le_add_right _ _) (Nat.le_add_right _ _)
set_option maxHeartbeats 4000000 in
set_option maxRecDepth 100000 in
theorem w_match (hI : LawI h c B s im hi L) (hx : ∀ k, inR (xs k)) (h0 : 0 ≤ i) (h3 : i + 3 < (N : Int)) (hN : N ≤ 2048) (k : LawK N xs h i Q) : Ex 200 (some (N, xs)) t_L_law 3 753 [(1, -5), (1, ((0 : Nat) : Int)), (1, ((43 : Nat) : Int)), (0, i)] [] (wC h c) Q := by
  have hI0 := hI
  obtain ⟨hL, hM, hs, hA, hR, hT, hl, h01, h4, h45, hAi⟩ := hI
  refine E_load lr_753 rfl rfl ?_
  refine E_load lr_754 rfl rfl ?_
  refine E_load lr_755 rfl rfl ?_
  refine E_const lr_756 ?_
  refine E_add lr_757 ?_
  refine E_sal lr_758 (by omega) (by omega) (by omega) ?_
  refine E_V1 (q := 0) (c := 11) (y := 93) lr_759 rfl (hL.lt 0 rfl) (hL.k 0 rfl) rfl rfl rfl rfl (C_match hL hR hA (hx _)) (fun r h2 hq => ?_)
  obtain ⟨rfl, c1, hh, hf0⟩ := hq
  subst hh
  have hR1 := hR.scr hf0
  have hf := scr_fc hR hf0
  obtain ⟨hM1, hs1, hT1, h41, h451⟩ := hI0.cls hf
  show Ex 200 _ _ _ _ _ [(0, _)] _ _
  refine E_load lr_762 rfl rfl ?_
  refine E_load lr_763 rfl rfl ?_
  refine E_load lr_764 rfl rfl ?_
  refine E_const lr_765 ?_
  refine E_add lr_766 ?_
  refine E_sal lr_767 (by omega) (by omega) (by omega) ?_
  refine E_V1 (q := 43) (c := 12) (y := 197) lr_768 rfl (hL.lt 43 rfl) (hL.k 43 rfl) rfl rfl rfl rfl (n_match hL hM1 hs1 hA (hx _)) (fun r h2 hq => ?_)
  obtain ⟨rfl, c2, hh, he⟩ := hq
  subst hh
  show Ex 200 _ _ _ _ _ [(0, _), (0, _)] _ _
  refine E_same lr_771 ?_
  refine w_end rfl ?_
  exact k _ _ _ _ _ _ _ (hI0.q hR1 hf he) (Nat.le_add_right _ _) (Nat.le_add_right _ _)
set_option maxHeartbeats 4000000 in
set_option maxRecDepth 100000 in
theorem w_words (hI : LawI h c B s im hi L) (hx : ∀ k, inR (xs k)) (h0 : 0 ≤ i) (h3 : i + 3 < (N : Int)) (hN : N ≤ 2048) (k : LawK N xs h i Q) : Ex 200 (some (N, xs)) t_L_law 3 776 [(1, -5), (1, ((0 : Nat) : Int)), (1, ((43 : Nat) : Int)), (0, i)] [] (wC h c) Q := by
  have hI0 := hI
  obtain ⟨hL, hM, hs, hA, hR, hT, hl, h01, h4, h45, hAi⟩ := hI
  refine E_load lr_776 rfl rfl ?_
  refine E_load lr_777 rfl rfl ?_
  refine E_load lr_778 rfl rfl ?_
  refine E_const lr_779 ?_
  refine E_add lr_780 ?_
  refine E_sal lr_781 (by omega) (by omega) (by omega) ?_
  refine E_load lr_782 rfl rfl ?_
  refine E_load lr_783 rfl rfl ?_
  refine E_const lr_784 ?_
  refine E_add lr_785 ?_
  refine E_sal lr_786 (by omega) (by omega) (by omega) ?_
  refine E_load lr_787 rfl rfl ?_
  refine E_load lr_788 rfl rfl ?_
  refine E_const lr_789 ?_
  refine E_add lr_790 ?_
  refine E_sal lr_791 (by omega) (by omega) (by omega) ?_
  refine E_V3 (q := 0) (c := 11) (y := 94) lr_792 rfl (hL.lt 0 rfl) (hL.k 0 rfl) rfl rfl rfl rfl (C_words hL hR hA (hx _) (hx _) (hx _)) (fun r h2 hq => ?_)
  obtain ⟨rfl, c1, hh, hf0⟩ := hq
  subst hh
  have hR1 := hR.scr hf0
  have hf := scr_fc hR hf0
  obtain ⟨hM1, hs1, hT1, h41, h451⟩ := hI0.cls hf
  show Ex 200 _ _ _ _ _ [(0, _)] _ _
  refine E_load lr_795 rfl rfl ?_
  refine E_load lr_796 rfl rfl ?_
  refine E_load lr_797 rfl rfl ?_
  refine E_const lr_798 ?_
  refine E_add lr_799 ?_
  refine E_sal lr_800 (by omega) (by omega) (by omega) ?_
  refine E_load lr_801 rfl rfl ?_
  refine E_load lr_802 rfl rfl ?_
  refine E_const lr_803 ?_
  refine E_add lr_804 ?_
  refine E_sal lr_805 (by omega) (by omega) (by omega) ?_
  refine E_load lr_806 rfl rfl ?_
  refine E_load lr_807 rfl rfl ?_
  refine E_const lr_808 ?_
  refine E_add lr_809 ?_
  refine E_sal lr_810 (by omega) (by omega) (by omega) ?_
  refine E_V3 (q := 43) (c := 12) (y := 198) lr_811 rfl (hL.lt 43 rfl) (hL.k 43 rfl) rfl rfl rfl rfl (n_words hL hM1 hs1 hA (hx _) (hx _) (hx _)) (fun r h2 hq => ?_)
  obtain ⟨rfl, c2, hh, he⟩ := hq
  subst hh
  show Ex 200 _ _ _ _ _ [(0, _), (0, _)] _ _
  refine E_same lr_814 ?_
  refine w_end rfl ?_
  exact k _ _ _ _ _ _ _ (hI0.q hR1 hf he) (Nat.le_add_right _ _) (Nat.le_add_right _ _)
set_option maxHeartbeats 4000000 in
set_option maxRecDepth 100000 in
theorem w_see (hI : LawI h c B s im hi L) (hx : ∀ k, inR (xs k)) (h0 : 0 ≤ i) (h3 : i + 3 < (N : Int)) (hN : N ≤ 2048) (k : LawK N xs h i Q) : Ex 200 (some (N, xs)) t_L_law 3 819 [(1, -5), (1, ((0 : Nat) : Int)), (1, ((43 : Nat) : Int)), (0, i)] [] (wC h c) Q := by
  have hI0 := hI
  obtain ⟨hL, hM, hs, hA, hR, hT, hl, h01, h4, h45, hAi⟩ := hI
  refine E_load lr_819 rfl rfl ?_
  refine E_load lr_820 rfl rfl ?_
  refine E_load lr_821 rfl rfl ?_
  refine E_const lr_822 ?_
  refine E_add lr_823 ?_
  refine E_sal lr_824 (by omega) (by omega) (by omega) ?_
  refine E_load lr_825 rfl rfl ?_
  refine E_load lr_826 rfl rfl ?_
  refine E_const lr_827 ?_
  refine E_add lr_828 ?_
  refine E_sal lr_829 (by omega) (by omega) (by omega) ?_
  refine E_load lr_830 rfl rfl ?_
  refine E_load lr_831 rfl rfl ?_
  refine E_const lr_832 ?_
  refine E_add lr_833 ?_
  refine E_sal lr_834 (by omega) (by omega) (by omega) ?_
  refine E_V3 (q := 0) (c := 11) (y := 95) lr_835 rfl (hL.lt 0 rfl) (hL.k 0 rfl) rfl rfl rfl rfl (C_see hL hR hA (hx _) (hx _) (hx _)) (fun r h2 hq => ?_)
  obtain ⟨rfl, c1, hh, hR1, hf⟩ := hq
  subst hh
  obtain ⟨hM1, hs1, hT1, h41, h451⟩ := hI0.cls hf
  show Ex 200 _ _ _ _ _ [(0, _)] _ _
  refine E_load lr_838 rfl rfl ?_
  refine E_load lr_839 rfl rfl ?_
  refine E_load lr_840 rfl rfl ?_
  refine E_const lr_841 ?_
  refine E_add lr_842 ?_
  refine E_sal lr_843 (by omega) (by omega) (by omega) ?_
  refine E_load lr_844 rfl rfl ?_
  refine E_load lr_845 rfl rfl ?_
  refine E_const lr_846 ?_
  refine E_add lr_847 ?_
  refine E_sal lr_848 (by omega) (by omega) (by omega) ?_
  refine E_load lr_849 rfl rfl ?_
  refine E_load lr_850 rfl rfl ?_
  refine E_const lr_851 ?_
  refine E_add lr_852 ?_
  refine E_sal lr_853 (by omega) (by omega) (by omega) ?_
  refine E_V3 (q := 43) (c := 12) (y := 199) lr_854 rfl (hL.lt 43 rfl) (hL.k 43 rfl) rfl rfl rfl rfl (n_see hL hM1 hs1 hA (hx _) (hx _) (hx _)) (fun r h2 hq => ?_)
  obtain ⟨rfl, c2, hh, hs2, he⟩ := hq
  subst hh
  show Ex 200 _ _ _ _ _ [(0, _), (0, _)] _ _
  refine E_same lr_857 ?_
  refine w_end rfl ?_
  exact k _ _ _ _ _ _ _ (hI0.mu Hx.refl (I_see hA) hR1 hf hs2 he) (Nat.le_add_right _ _) (Nat.le_add_right _ _)
set_option maxHeartbeats 4000000 in
set_option maxRecDepth 100000 in
theorem w_old (hI : LawI h c B s im hi L) (hx : ∀ k, inR (xs k)) (h0 : 0 ≤ i) (h3 : i + 3 < (N : Int)) (hN : N ≤ 2048) (k : LawK N xs h i Q) : Ex 200 (some (N, xs)) t_L_law 3 862 [(1, -5), (1, ((0 : Nat) : Int)), (1, ((43 : Nat) : Int)), (0, i)] [] (wC h c) Q := by
  have hI0 := hI
  obtain ⟨hL, hM, hs, hA, hR, hT, hl, h01, h4, h45, hAi⟩ := hI
  refine E_load lr_862 rfl rfl ?_
  refine E_load lr_863 rfl rfl ?_
  refine E_load lr_864 rfl rfl ?_
  refine E_const lr_865 ?_
  refine E_add lr_866 ?_
  refine E_sal lr_867 (by omega) (by omega) (by omega) ?_
  refine E_load lr_868 rfl rfl ?_
  refine E_load lr_869 rfl rfl ?_
  refine E_const lr_870 ?_
  refine E_add lr_871 ?_
  refine E_sal lr_872 (by omega) (by omega) (by omega) ?_
  refine E_V2 (q := 0) (c := 11) (y := 96) lr_873 rfl (hL.lt 0 rfl) (hL.k 0 rfl) rfl rfl rfl rfl (C_old hL hR hA (hx _) (hx _)) (fun r h2 hq => ?_)
  obtain ⟨rfl, c1, hh, hf0⟩ := hq
  subst hh
  have hR1 := hR.scr hf0
  have hf := scr_fc hR hf0
  obtain ⟨hM1, hs1, hT1, h41, h451⟩ := hI0.cls hf
  show Ex 200 _ _ _ _ _ [(0, _)] _ _
  refine E_load lr_876 rfl rfl ?_
  refine E_load lr_877 rfl rfl ?_
  refine E_load lr_878 rfl rfl ?_
  refine E_const lr_879 ?_
  refine E_add lr_880 ?_
  refine E_sal lr_881 (by omega) (by omega) (by omega) ?_
  refine E_load lr_882 rfl rfl ?_
  refine E_load lr_883 rfl rfl ?_
  refine E_const lr_884 ?_
  refine E_add lr_885 ?_
  refine E_sal lr_886 (by omega) (by omega) (by omega) ?_
  refine E_V2 (q := 43) (c := 12) (y := 202) lr_887 rfl (hL.lt 43 rfl) (hL.k 43 rfl) rfl rfl rfl rfl (n_old hL hM1 hs1 hA (hx _) (hx _)) (fun r h2 hq => ?_)
  obtain ⟨rfl, c2, hh, he⟩ := hq
  subst hh
  show Ex 200 _ _ _ _ _ [(0, _), (0, _)] _ _
  refine E_same lr_890 ?_
  refine w_end rfl ?_
  exact k _ _ _ _ _ _ _ (hI0.q hR1 hf he) (Nat.le_add_right _ _) (Nat.le_add_right _ _)
set_option maxHeartbeats 4000000 in
set_option maxRecDepth 100000 in
theorem w_firm (hI : LawI h c B s im hi L) (hx : ∀ k, inR (xs k)) (h0 : 0 ≤ i) (h3 : i + 3 < (N : Int)) (hN : N ≤ 2048) (k : LawK N xs h i Q) : Ex 200 (some (N, xs)) t_L_law 3 895 [(1, -5), (1, ((0 : Nat) : Int)), (1, ((43 : Nat) : Int)), (0, i)] [] (wC h c) Q := by
  have hI0 := hI
  obtain ⟨hL, hM, hs, hA, hR, hT, hl, h01, h4, h45, hAi⟩ := hI
  refine E_load lr_895 rfl rfl ?_
  refine E_load lr_896 rfl rfl ?_
  refine E_load lr_897 rfl rfl ?_
  refine E_const lr_898 ?_
  refine E_add lr_899 ?_
  refine E_sal lr_900 (by omega) (by omega) (by omega) ?_
  refine E_load lr_901 rfl rfl ?_
  refine E_load lr_902 rfl rfl ?_
  refine E_const lr_903 ?_
  refine E_add lr_904 ?_
  refine E_sal lr_905 (by omega) (by omega) (by omega) ?_
  refine E_V2 (q := 0) (c := 11) (y := 97) lr_906 rfl (hL.lt 0 rfl) (hL.k 0 rfl) rfl rfl rfl rfl (C_firm hL hR hA (hx _) (hx _)) (fun r h2 hq => ?_)
  obtain ⟨rfl, c1, hh, hf0⟩ := hq
  subst hh
  have hR1 := hR.scr hf0
  have hf := scr_fc hR hf0
  obtain ⟨hM1, hs1, hT1, h41, h451⟩ := hI0.cls hf
  show Ex 200 _ _ _ _ _ [(0, _)] _ _
  refine E_load lr_909 rfl rfl ?_
  refine E_load lr_910 rfl rfl ?_
  refine E_load lr_911 rfl rfl ?_
  refine E_const lr_912 ?_
  refine E_add lr_913 ?_
  refine E_sal lr_914 (by omega) (by omega) (by omega) ?_
  refine E_load lr_915 rfl rfl ?_
  refine E_load lr_916 rfl rfl ?_
  refine E_const lr_917 ?_
  refine E_add lr_918 ?_
  refine E_sal lr_919 (by omega) (by omega) (by omega) ?_
  refine E_V2 (q := 43) (c := 12) (y := 203) lr_920 rfl (hL.lt 43 rfl) (hL.k 43 rfl) rfl rfl rfl rfl (n_firm hL hM1 hs1 hA (hx _) (hx _)) (fun r h2 hq => ?_)
  obtain ⟨rfl, c2, hh, he⟩ := hq
  subst hh
  show Ex 200 _ _ _ _ _ [(0, _), (0, _)] _ _
  refine E_same lr_923 ?_
  refine w_end rfl ?_
  exact k _ _ _ _ _ _ _ (hI0.q hR1 hf he) (Nat.le_add_right _ _) (Nat.le_add_right _ _)
set_option maxHeartbeats 4000000 in
set_option maxRecDepth 100000 in
theorem w_whose (hI : LawI h c B s im hi L) (hx : ∀ k, inR (xs k)) (h0 : 0 ≤ i) (h3 : i + 3 < (N : Int)) (hN : N ≤ 2048) (k : LawK N xs h i Q) : Ex 200 (some (N, xs)) t_L_law 3 928 [(1, -5), (1, ((0 : Nat) : Int)), (1, ((43 : Nat) : Int)), (0, i)] [] (wC h c) Q := by
  have hI0 := hI
  obtain ⟨hL, hM, hs, hA, hR, hT, hl, h01, h4, h45, hAi⟩ := hI
  refine E_load lr_928 rfl rfl ?_
  refine E_load lr_929 rfl rfl ?_
  refine E_load lr_930 rfl rfl ?_
  refine E_const lr_931 ?_
  refine E_add lr_932 ?_
  refine E_sal lr_933 (by omega) (by omega) (by omega) ?_
  refine E_load lr_934 rfl rfl ?_
  refine E_load lr_935 rfl rfl ?_
  refine E_const lr_936 ?_
  refine E_add lr_937 ?_
  refine E_sal lr_938 (by omega) (by omega) (by omega) ?_
  refine E_V2 (q := 0) (c := 11) (y := 98) lr_939 rfl (hL.lt 0 rfl) (hL.k 0 rfl) rfl rfl rfl rfl (C_whose hL hR hA (hx _) (hx _)) (fun r h2 hq => ?_)
  obtain ⟨rfl, c1, hh, hf0⟩ := hq
  subst hh
  have hR1 := hR.scr hf0
  have hf := scr_fc hR hf0
  obtain ⟨hM1, hs1, hT1, h41, h451⟩ := hI0.cls hf
  show Ex 200 _ _ _ _ _ [(0, _)] _ _
  refine E_load lr_942 rfl rfl ?_
  refine E_load lr_943 rfl rfl ?_
  refine E_load lr_944 rfl rfl ?_
  refine E_const lr_945 ?_
  refine E_add lr_946 ?_
  refine E_sal lr_947 (by omega) (by omega) (by omega) ?_
  refine E_load lr_948 rfl rfl ?_
  refine E_load lr_949 rfl rfl ?_
  refine E_const lr_950 ?_
  refine E_add lr_951 ?_
  refine E_sal lr_952 (by omega) (by omega) (by omega) ?_
  refine E_V2 (q := 43) (c := 12) (y := 204) lr_953 rfl (hL.lt 43 rfl) (hL.k 43 rfl) rfl rfl rfl rfl (n_whose hL hM1 hs1 hA (hx _) (hx _)) (fun r h2 hq => ?_)
  obtain ⟨rfl, c2, hh, he⟩ := hq
  subst hh
  show Ex 200 _ _ _ _ _ [(0, _), (0, _)] _ _
  refine E_same lr_956 ?_
  refine w_end rfl ?_
  exact k _ _ _ _ _ _ _ (hI0.q hR1 hf he) (Nat.le_add_right _ _) (Nat.le_add_right _ _)
set_option maxHeartbeats 4000000 in
set_option maxRecDepth 100000 in
theorem w_odds (hI : LawI h c B s im hi L) (hx : ∀ k, inR (xs k)) (h0 : 0 ≤ i) (h3 : i + 3 < (N : Int)) (hN : N ≤ 2048) (k : LawK N xs h i Q) : Ex 200 (some (N, xs)) t_L_law 3 961 [(1, -5), (1, ((0 : Nat) : Int)), (1, ((43 : Nat) : Int)), (0, i)] [] (wC h c) Q := by
  have hI0 := hI
  obtain ⟨hL, hM, hs, hA, hR, hT, hl, h01, h4, h45, hAi⟩ := hI
  refine E_load lr_961 rfl rfl ?_
  refine E_load lr_962 rfl rfl ?_
  refine E_load lr_963 rfl rfl ?_
  refine E_const lr_964 ?_
  refine E_add lr_965 ?_
  refine E_sal lr_966 (by omega) (by omega) (by omega) ?_
  refine E_load lr_967 rfl rfl ?_
  refine E_load lr_968 rfl rfl ?_
  refine E_const lr_969 ?_
  refine E_add lr_970 ?_
  refine E_sal lr_971 (by omega) (by omega) (by omega) ?_
  refine E_load lr_972 rfl rfl ?_
  refine E_load lr_973 rfl rfl ?_
  refine E_const lr_974 ?_
  refine E_add lr_975 ?_
  refine E_sal lr_976 (by omega) (by omega) (by omega) ?_
  refine E_V3 (q := 0) (c := 11) (y := 99) lr_977 rfl (hL.lt 0 rfl) (hL.k 0 rfl) rfl rfl rfl rfl (C_odds hL hR hA (hx _) (hx _) (hx _)) (fun r h2 hq => ?_)
  obtain ⟨rfl, c1, hh, hf0⟩ := hq
  subst hh
  have hR1 := hR.scr hf0
  have hf := scr_fc hR hf0
  obtain ⟨hM1, hs1, hT1, h41, h451⟩ := hI0.cls hf
  show Ex 200 _ _ _ _ _ [(2, _)] _ _
  refine E_load lr_980 rfl rfl ?_
  refine E_load lr_981 rfl rfl ?_
  refine E_load lr_982 rfl rfl ?_
  refine E_const lr_983 ?_
  refine E_add lr_984 ?_
  refine E_sal lr_985 (by omega) (by omega) (by omega) ?_
  refine E_load lr_986 rfl rfl ?_
  refine E_load lr_987 rfl rfl ?_
  refine E_const lr_988 ?_
  refine E_add lr_989 ?_
  refine E_sal lr_990 (by omega) (by omega) (by omega) ?_
  refine E_load lr_991 rfl rfl ?_
  refine E_load lr_992 rfl rfl ?_
  refine E_const lr_993 ?_
  refine E_add lr_994 ?_
  refine E_sal lr_995 (by omega) (by omega) (by omega) ?_
  refine E_V3 (q := 43) (c := 12) (y := 206) lr_996 rfl (hL.lt 43 rfl) (hL.k 43 rfl) rfl rfl rfl rfl (n_odds hL hM1 hs1 hA (hx _) (hx _) (hx _)) (fun r h2 hq => ?_)
  obtain ⟨rfl, c2, hh, he⟩ := hq
  subst hh
  show Ex 200 _ _ _ _ _ [(2, _), (2, _)] _ _
  refine E_lcmpe lr_999 rfl ?_
  refine E_if0 lr_1000 inR0 (fun _ => ?_) (fun e => absurd rfl e)
  refine w_end rfl ?_
  exact k _ _ _ _ _ _ _ (hI0.q hR1 hf he) (Nat.le_add_right _ _) (Nat.le_add_right _ _)
set_option maxHeartbeats 4000000 in
set_option maxRecDepth 100000 in
theorem w_mean (hI : LawI h c B s im hi L) (hx : ∀ k, inR (xs k)) (h0 : 0 ≤ i) (h3 : i + 3 < (N : Int)) (hN : N ≤ 2048) (k : LawK N xs h i Q) : Ex 200 (some (N, xs)) t_L_law 3 1005 [(1, -5), (1, ((0 : Nat) : Int)), (1, ((43 : Nat) : Int)), (0, i)] [] (wC h c) Q := by
  have hI0 := hI
  obtain ⟨hL, hM, hs, hA, hR, hT, hl, h01, h4, h45, hAi⟩ := hI
  refine E_load lr_1005 rfl rfl ?_
  refine E_load lr_1006 rfl rfl ?_
  refine E_load lr_1007 rfl rfl ?_
  refine E_const lr_1008 ?_
  refine E_add lr_1009 ?_
  refine E_sal lr_1010 (by omega) (by omega) (by omega) ?_
  refine E_load lr_1011 rfl rfl ?_
  refine E_load lr_1012 rfl rfl ?_
  refine E_const lr_1013 ?_
  refine E_add lr_1014 ?_
  refine E_sal lr_1015 (by omega) (by omega) (by omega) ?_
  refine E_V2 (q := 0) (c := 11) (y := 100) lr_1016 rfl (hL.lt 0 rfl) (hL.k 0 rfl) rfl rfl rfl rfl (C_mean hL hR hA (hx _) (hx _)) (fun r h2 hq => ?_)
  obtain ⟨rfl, c1, hh, hf0⟩ := hq
  subst hh
  have hR1 := hR.scr hf0
  have hf := scr_fc hR hf0
  obtain ⟨hM1, hs1, hT1, h41, h451⟩ := hI0.cls hf
  show Ex 200 _ _ _ _ _ [(2, _)] _ _
  refine E_load lr_1019 rfl rfl ?_
  refine E_load lr_1020 rfl rfl ?_
  refine E_load lr_1021 rfl rfl ?_
  refine E_const lr_1022 ?_
  refine E_add lr_1023 ?_
  refine E_sal lr_1024 (by omega) (by omega) (by omega) ?_
  refine E_load lr_1025 rfl rfl ?_
  refine E_load lr_1026 rfl rfl ?_
  refine E_const lr_1027 ?_
  refine E_add lr_1028 ?_
  refine E_sal lr_1029 (by omega) (by omega) (by omega) ?_
  refine E_V2 (q := 43) (c := 12) (y := 207) lr_1030 rfl (hL.lt 43 rfl) (hL.k 43 rfl) rfl rfl rfl rfl (n_mean hL hM1 hs1 hA (hx _) (hx _)) (fun r h2 hq => ?_)
  obtain ⟨rfl, c2, hh, he⟩ := hq
  subst hh
  show Ex 200 _ _ _ _ _ [(2, _), (2, _)] _ _
  refine E_lcmpe lr_1033 rfl ?_
  refine E_if0 lr_1034 inR0 (fun _ => ?_) (fun e => absurd rfl e)
  refine w_end rfl ?_
  exact k _ _ _ _ _ _ _ (hI0.q hR1 hf he) (Nat.le_add_right _ _) (Nat.le_add_right _ _)
set_option maxHeartbeats 4000000 in
set_option maxRecDepth 100000 in
theorem w_evening (hI : LawI h c B s im hi L) (hx : ∀ k, inR (xs k)) (h0 : 0 ≤ i) (h3 : i + 3 < (N : Int)) (hN : N ≤ 2048) (k : LawK N xs h i Q) : Ex 200 (some (N, xs)) t_L_law 3 1039 [(1, -5), (1, ((0 : Nat) : Int)), (1, ((43 : Nat) : Int)), (0, i)] [] (wC h c) Q := by
  have hI0 := hI
  obtain ⟨hL, hM, hs, hA, hR, hT, hl, h01, h4, h45, hAi⟩ := hI
  refine E_load lr_1039 rfl rfl ?_
  refine E_load lr_1040 rfl rfl ?_
  refine E_load lr_1041 rfl rfl ?_
  refine E_const lr_1042 ?_
  refine E_add lr_1043 ?_
  refine E_sal lr_1044 (by omega) (by omega) (by omega) ?_
  refine E_load lr_1045 rfl rfl ?_
  refine E_load lr_1046 rfl rfl ?_
  refine E_const lr_1047 ?_
  refine E_add lr_1048 ?_
  refine E_sal lr_1049 (by omega) (by omega) (by omega) ?_
  refine E_load lr_1050 rfl rfl ?_
  refine E_load lr_1051 rfl rfl ?_
  refine E_const lr_1052 ?_
  refine E_add lr_1053 ?_
  refine E_sal lr_1054 (by omega) (by omega) (by omega) ?_
  refine E_V3 (q := 0) (c := 11) (y := 101) lr_1055 rfl (hL.lt 0 rfl) (hL.k 0 rfl) rfl rfl rfl rfl (C_evening hL hR hA (hx _) (hx _) (hx _)) (fun r h2 hq => ?_)
  obtain ⟨rfl, c1, hh, hR1, hf⟩ := hq
  subst hh
  obtain ⟨hM1, hs1, hT1, h41, h451⟩ := hI0.cls hf
  show Ex 200 _ _ _ _ _ [(0, _)] _ _
  refine E_load lr_1058 rfl rfl ?_
  refine E_load lr_1059 rfl rfl ?_
  refine E_load lr_1060 rfl rfl ?_
  refine E_const lr_1061 ?_
  refine E_add lr_1062 ?_
  refine E_sal lr_1063 (by omega) (by omega) (by omega) ?_
  refine E_load lr_1064 rfl rfl ?_
  refine E_load lr_1065 rfl rfl ?_
  refine E_const lr_1066 ?_
  refine E_add lr_1067 ?_
  refine E_sal lr_1068 (by omega) (by omega) (by omega) ?_
  refine E_load lr_1069 rfl rfl ?_
  refine E_load lr_1070 rfl rfl ?_
  refine E_const lr_1071 ?_
  refine E_add lr_1072 ?_
  refine E_sal lr_1073 (by omega) (by omega) (by omega) ?_
  refine E_V3 (q := 43) (c := 12) (y := 208) lr_1074 rfl (hL.lt 43 rfl) (hL.k 43 rfl) rfl rfl rfl rfl (n_evening hL hM1 hs1 hA (hx _) (hx _) (hx _)) (fun r h2 hq => ?_)
  obtain ⟨rfl, c2, hh, hs2, he⟩ := hq
  subst hh
  show Ex 200 _ _ _ _ _ [(0, _), (0, _)] _ _
  refine E_same lr_1077 ?_
  refine w_end rfl ?_
  exact k _ _ _ _ _ _ _ (hI0.mu Hx.refl (I_evening hA (hx _)) hR1 hf hs2 he) (Nat.le_add_right _ _) (Nat.le_add_right _ _)
set_option maxHeartbeats 4000000 in
set_option maxRecDepth 100000 in
theorem w_done (hI : LawI h c B s im hi L) (hx : ∀ k, inR (xs k)) (h0 : 0 ≤ i) (h3 : i + 3 < (N : Int)) (hN : N ≤ 2048) (k : LawK N xs h i Q) : Ex 200 (some (N, xs)) t_L_law 3 1082 [(1, -5), (1, ((0 : Nat) : Int)), (1, ((43 : Nat) : Int)), (0, i)] [] (wC h c) Q := by
  have hI0 := hI
  obtain ⟨hL, hM, hs, hA, hR, hT, hl, h01, h4, h45, hAi⟩ := hI
  refine E_load lr_1082 rfl rfl ?_
  refine E_load lr_1083 rfl rfl ?_
  refine E_load lr_1084 rfl rfl ?_
  refine E_const lr_1085 ?_
  refine E_add lr_1086 ?_
  refine E_sal lr_1087 (by omega) (by omega) (by omega) ?_
  refine E_V1 (q := 0) (c := 11) (y := 102) lr_1088 rfl (hL.lt 0 rfl) (hL.k 0 rfl) rfl rfl rfl rfl (C_done hL hR hA (hx _)) (fun r h2 hq => ?_)
  obtain ⟨rfl, c1, hh, hf0⟩ := hq
  subst hh
  have hR1 := hR.scr hf0
  have hf := scr_fc hR hf0
  obtain ⟨hM1, hs1, hT1, h41, h451⟩ := hI0.cls hf
  show Ex 200 _ _ _ _ _ [(0, _)] _ _
  refine E_load lr_1091 rfl rfl ?_
  refine E_load lr_1092 rfl rfl ?_
  refine E_load lr_1093 rfl rfl ?_
  refine E_const lr_1094 ?_
  refine E_add lr_1095 ?_
  refine E_sal lr_1096 (by omega) (by omega) (by omega) ?_
  refine E_V1 (q := 43) (c := 12) (y := 210) lr_1097 rfl (hL.lt 43 rfl) (hL.k 43 rfl) rfl rfl rfl rfl (n_done hL hM1 hs1 hA (hx _)) (fun r h2 hq => ?_)
  obtain ⟨rfl, c2, hh, he⟩ := hq
  subst hh
  show Ex 200 _ _ _ _ _ [(0, _), (0, _)] _ _
  refine E_same lr_1100 ?_
  refine w_end rfl ?_
  exact k _ _ _ _ _ _ _ (hI0.q hR1 hf he) (Nat.le_add_right _ _) (Nat.le_add_right _ _)
set_option maxHeartbeats 4000000 in
set_option maxRecDepth 100000 in
theorem w_book (hI : LawI h c B s im hi L) (hx : ∀ k, inR (xs k)) (h0 : 0 ≤ i) (h3 : i + 3 < (N : Int)) (hN : N ≤ 2048) (k : LawK N xs h i Q) : Ex 200 (some (N, xs)) t_L_law 3 1105 [(1, -5), (1, ((0 : Nat) : Int)), (1, ((43 : Nat) : Int)), (0, i)] [] (wC h c) Q := by
  have hI0 := hI
  obtain ⟨hL, hM, hs, hA, hR, hT, hl, h01, h4, h45, hAi⟩ := hI
  refine E_load lr_1105 rfl rfl ?_
  refine E_load lr_1106 rfl rfl ?_
  refine E_load lr_1107 rfl rfl ?_
  refine E_const lr_1108 ?_
  refine E_add lr_1109 ?_
  refine E_sal lr_1110 (by omega) (by omega) (by omega) ?_
  refine E_load lr_1111 rfl rfl ?_
  refine E_load lr_1112 rfl rfl ?_
  refine E_const lr_1113 ?_
  refine E_add lr_1114 ?_
  refine E_sal lr_1115 (by omega) (by omega) (by omega) ?_
  refine E_V2 (q := 0) (c := 11) (y := 103) lr_1116 rfl (hL.lt 0 rfl) (hL.k 0 rfl) rfl rfl rfl rfl (C_book hL hR hA (hx _) (hx _)) (fun r h2 hq => ?_)
  obtain ⟨rfl, c1, hh, hR1, hf⟩ := hq
  subst hh
  obtain ⟨hM1, hs1, hT1, h41, h451⟩ := hI0.cls hf
  show Ex 200 _ _ _ _ _ [(0, _)] _ _
  refine E_load lr_1119 rfl rfl ?_
  refine E_load lr_1120 rfl rfl ?_
  refine E_load lr_1121 rfl rfl ?_
  refine E_const lr_1122 ?_
  refine E_add lr_1123 ?_
  refine E_sal lr_1124 (by omega) (by omega) (by omega) ?_
  refine E_load lr_1125 rfl rfl ?_
  refine E_load lr_1126 rfl rfl ?_
  refine E_const lr_1127 ?_
  refine E_add lr_1128 ?_
  refine E_sal lr_1129 (by omega) (by omega) (by omega) ?_
  refine E_V2 (q := 43) (c := 12) (y := 211) lr_1130 rfl (hL.lt 43 rfl) (hL.k 43 rfl) rfl rfl rfl rfl (n_book hL hM1 hs1 hA (hx _) (hx _)) (fun r h2 hq => ?_)
  obtain ⟨rfl, c2, hh, hs2, he⟩ := hq
  subst hh
  show Ex 200 _ _ _ _ _ [(0, _), (0, _)] _ _
  refine E_same lr_1133 ?_
  refine w_end rfl ?_
  exact k _ _ _ _ _ _ _ (hI0.mu Hx.refl (I_book hA) hR1 hf hs2 he) (Nat.le_add_right _ _) (Nat.le_add_right _ _)
set_option maxHeartbeats 4000000 in
set_option maxRecDepth 100000 in
theorem w_looked (hI : LawI h c B s im hi L) (hx : ∀ k, inR (xs k)) (h0 : 0 ≤ i) (h3 : i + 3 < (N : Int)) (hN : N ≤ 2048) (k : LawK N xs h i Q) : Ex 200 (some (N, xs)) t_L_law 3 1138 [(1, -5), (1, ((0 : Nat) : Int)), (1, ((43 : Nat) : Int)), (0, i)] [] (wC h c) Q := by
  have hI0 := hI
  obtain ⟨hL, hM, hs, hA, hR, hT, hl, h01, h4, h45, hAi⟩ := hI
  refine E_load lr_1138 rfl rfl ?_
  refine E_V0 (q := 0) (c := 11) (y := 104) lr_1139 rfl (hL.lt 0 rfl) (hL.k 0 rfl) rfl rfl rfl rfl (C_looked hL hR hA) (fun r h2 hq => ?_)
  obtain ⟨rfl, c1, hh, hf0⟩ := hq
  subst hh
  have hR1 := hR.scr hf0
  have hf := scr_fc hR hf0
  obtain ⟨hM1, hs1, hT1, h41, h451⟩ := hI0.cls hf
  show Ex 200 _ _ _ _ _ [(0, _)] _ _
  refine E_load lr_1142 rfl rfl ?_
  refine E_V0 (q := 43) (c := 12) (y := 212) lr_1143 rfl (hL.lt 43 rfl) (hL.k 43 rfl) rfl rfl rfl rfl (n_looked hL hM1 hs1 hA) (fun r h2 hq => ?_)
  obtain ⟨rfl, c2, hh, he⟩ := hq
  subst hh
  show Ex 200 _ _ _ _ _ [(0, _), (0, _)] _ _
  refine E_same lr_1146 ?_
  refine w_end rfl ?_
  exact k _ _ _ _ _ _ _ (hI0.q hR1 hf he) (Nat.le_add_right _ _) (Nat.le_add_right _ _)
set_option maxHeartbeats 4000000 in
set_option maxRecDepth 100000 in
theorem w_act (hI : LawI h c B s im hi L) (hx : ∀ k, inR (xs k)) (h0 : 0 ≤ i) (h3 : i + 3 < (N : Int)) (hN : N ≤ 2048) (k : LawK N xs h i Q) : Ex 200 (some (N, xs)) t_L_law 3 1151 [(1, -5), (1, ((0 : Nat) : Int)), (1, ((43 : Nat) : Int)), (0, i)] [] (wC h c) Q := by
  have hI0 := hI
  obtain ⟨hL, hM, hs, hA, hR, hT, hl, h01, h4, h45, hAi⟩ := hI
  refine E_load lr_1151 rfl rfl ?_
  refine E_load lr_1152 rfl rfl ?_
  refine E_load lr_1153 rfl rfl ?_
  refine E_const lr_1154 ?_
  refine E_add lr_1155 ?_
  refine E_sal lr_1156 (by omega) (by omega) (by omega) ?_
  refine E_load lr_1157 rfl rfl ?_
  refine E_load lr_1158 rfl rfl ?_
  refine E_const lr_1159 ?_
  refine E_add lr_1160 ?_
  refine E_sal lr_1161 (by omega) (by omega) (by omega) ?_
  refine E_load lr_1162 rfl rfl ?_
  refine E_load lr_1163 rfl rfl ?_
  refine E_const lr_1164 ?_
  refine E_add lr_1165 ?_
  refine E_sal lr_1166 (by omega) (by omega) (by omega) ?_
  refine E_V3 (q := 0) (c := 11) (y := 105) lr_1167 rfl (hL.lt 0 rfl) (hL.k 0 rfl) rfl rfl rfl rfl (C_act hL hR hA (hx _) (hx _)) (fun r h2 hq => ?_)
  obtain ⟨rfl, c1, hh, hR1, hf⟩ := hq
  subst hh
  obtain ⟨hM1, hs1, hT1, h41, h451⟩ := hI0.cls hf
  show Ex 200 _ _ _ _ _ [(0, _)] _ _
  refine E_load lr_1170 rfl rfl ?_
  refine E_load lr_1171 rfl rfl ?_
  refine E_load lr_1172 rfl rfl ?_
  refine E_const lr_1173 ?_
  refine E_add lr_1174 ?_
  refine E_sal lr_1175 (by omega) (by omega) (by omega) ?_
  refine E_load lr_1176 rfl rfl ?_
  refine E_load lr_1177 rfl rfl ?_
  refine E_const lr_1178 ?_
  refine E_add lr_1179 ?_
  refine E_sal lr_1180 (by omega) (by omega) (by omega) ?_
  refine E_load lr_1181 rfl rfl ?_
  refine E_load lr_1182 rfl rfl ?_
  refine E_const lr_1183 ?_
  refine E_add lr_1184 ?_
  refine E_sal lr_1185 (by omega) (by omega) (by omega) ?_
  refine E_V3 (q := 43) (c := 12) (y := 221) lr_1186 rfl (hL.lt 43 rfl) (hL.k 43 rfl) rfl rfl rfl rfl (n_act hL hM1 hs1 hA (hx _) (hx _)) (fun r h2 hq => ?_)
  obtain ⟨rfl, c2, hh, hT2, he⟩ := hq
  subst hh
  show Ex 200 _ _ _ _ _ [(0, _), (0, _)] _ _
  refine E_same lr_1189 ?_
  refine w_end rfl ?_
  exact k _ _ _ _ _ _ _ (hI0.ac hR1 hf hT2 act_len he) (Nat.le_add_right _ _) (Nat.le_add_right _ _)
set_option maxHeartbeats 4000000 in
set_option maxRecDepth 100000 in
theorem w_trace (hI : LawI h c B s im hi L) (hx : ∀ k, inR (xs k)) (h0 : 0 ≤ i) (h3 : i + 3 < (N : Int)) (hN : N ≤ 2048) (k : LawK N xs h i Q) : Ex 200 (some (N, xs)) t_L_law 3 1194 [(1, -5), (1, ((0 : Nat) : Int)), (1, ((43 : Nat) : Int)), (0, i)] [] (wC h c) Q := by
  have hI0 := hI
  obtain ⟨hL, hM, hs, hA, hR, hT, hl, h01, h4, h45, hAi⟩ := hI
  refine E_load lr_1194 rfl rfl ?_
  refine E_load lr_1195 rfl rfl ?_
  refine E_load lr_1196 rfl rfl ?_
  refine E_const lr_1197 ?_
  refine E_add lr_1198 ?_
  refine E_sal lr_1199 (by omega) (by omega) (by omega) ?_
  refine E_V1 (q := 0) (c := 11) (y := 106) lr_1200 rfl (hL.lt 0 rfl) (hL.k 0 rfl) rfl rfl rfl rfl (C_trace hl hL hR hA (hx _)) (fun r h2 hq => ?_)
  obtain ⟨rfl, c1, hh, hf0⟩ := hq
  subst hh
  have hR1 := hR.scr hf0
  have hf := scr_fc hR hf0
  obtain ⟨hM1, hs1, hT1, h41, h451⟩ := hI0.cls hf
  show Ex 200 _ _ _ _ _ [(0, _)] _ _
  refine E_load lr_1203 rfl rfl ?_
  refine E_load lr_1204 rfl rfl ?_
  refine E_load lr_1205 rfl rfl ?_
  refine E_const lr_1206 ?_
  refine E_add lr_1207 ?_
  refine E_sal lr_1208 (by omega) (by omega) (by omega) ?_
  refine E_V1 (q := 43) (c := 12) (y := 222) lr_1209 rfl (hL.lt 43 rfl) (hL.k 43 rfl) rfl rfl rfl rfl (n_trace hL hM1 hs1 hA hT1 hl (hx _)) (fun r h2 hq => ?_)
  obtain ⟨rfl, c2, hh, he⟩ := hq
  subst hh
  show Ex 200 _ _ _ _ _ [(0, _), (0, _)] _ _
  refine E_same lr_1212 ?_
  refine w_end rfl ?_
  exact k _ _ _ _ _ _ _ (hI0.q hR1 hf he) (Nat.le_add_right _ _) (Nat.le_add_right _ _)
set_option maxHeartbeats 4000000 in
set_option maxRecDepth 100000 in
theorem w_as (hI : LawI h c B s im hi L) (hx : ∀ k, inR (xs k)) (h0 : 0 ≤ i) (h3 : i + 3 < (N : Int)) (hN : N ≤ 2048) (k : LawK N xs h i Q) : Ex 200 (some (N, xs)) t_L_law 3 1217 [(1, -5), (1, ((0 : Nat) : Int)), (1, ((43 : Nat) : Int)), (0, i)] [] (wC h c) Q := by
  have hI0 := hI
  obtain ⟨hL, hM, hs, hA, hR, hT, hl, h01, h4, h45, hAi⟩ := hI
  refine E_load lr_1217 rfl rfl ?_
  refine E_load lr_1218 rfl rfl ?_
  refine E_load lr_1219 rfl rfl ?_
  refine E_const lr_1220 ?_
  refine E_add lr_1221 ?_
  refine E_sal lr_1222 (by omega) (by omega) (by omega) ?_
  refine E_load lr_1223 rfl rfl ?_
  refine E_load lr_1224 rfl rfl ?_
  refine E_const lr_1225 ?_
  refine E_add lr_1226 ?_
  refine E_sal lr_1227 (by omega) (by omega) (by omega) ?_
  refine E_V2 (q := 0) (c := 11) (y := 107) lr_1228 rfl (hL.lt 0 rfl) (hL.k 0 rfl) rfl rfl rfl rfl (C_as hL hR hA (hx _) (hx _)) (fun r h2 hq => ?_)
  obtain ⟨rfl, c1, hh, hf0⟩ := hq
  subst hh
  have hR1 := hR.scr hf0
  have hf := scr_fc hR hf0
  obtain ⟨hM1, hs1, hT1, h41, h451⟩ := hI0.cls hf
  show Ex 200 _ _ _ _ _ [(0, _)] _ _
  refine E_load lr_1231 rfl rfl ?_
  refine E_load lr_1232 rfl rfl ?_
  refine E_load lr_1233 rfl rfl ?_
  refine E_const lr_1234 ?_
  refine E_add lr_1235 ?_
  refine E_sal lr_1236 (by omega) (by omega) (by omega) ?_
  refine E_load lr_1237 rfl rfl ?_
  refine E_load lr_1238 rfl rfl ?_
  refine E_const lr_1239 ?_
  refine E_add lr_1240 ?_
  refine E_sal lr_1241 (by omega) (by omega) (by omega) ?_
  refine E_V2 (q := 43) (c := 12) (y := 223) lr_1242 rfl (hL.lt 43 rfl) (hL.k 43 rfl) rfl rfl rfl rfl (n_as hL hM1 hs1 hA (hx _) (hx _)) (fun r h2 hq => ?_)
  obtain ⟨rfl, c2, hh, he⟩ := hq
  subst hh
  show Ex 200 _ _ _ _ _ [(0, _), (0, _)] _ _
  refine E_same lr_1245 ?_
  refine w_end rfl ?_
  exact k _ _ _ _ _ _ _ (hI0.q hR1 hf he) (Nat.le_add_right _ _) (Nat.le_add_right _ _)
set_option maxHeartbeats 4000000 in
set_option maxRecDepth 100000 in
theorem w_image (hI : LawI h c B s im hi L) (hx : ∀ k, inR (xs k)) (h0 : 0 ≤ i) (h3 : i + 3 < (N : Int)) (hN : N ≤ 2048) (k : LawK N xs h i Q) : Ex 200 (some (N, xs)) t_L_law 3 1250 [(1, -5), (1, ((0 : Nat) : Int)), (1, ((43 : Nat) : Int)), (0, i)] [] (wC h c) Q := by
  have hI0 := hI
  obtain ⟨hL, hM, hs, hA, hR, hT, hl, h01, h4, h45, hAi⟩ := hI
  refine E_load lr_1250 rfl rfl ?_
  refine E_V0 (q := 0) (c := 11) (y := 108) lr_1251 rfl (hL.lt 0 rfl) (hL.k 0 rfl) rfl rfl rfl rfl (C_image hL hR hA) (fun r h2 hq => ?_)
  obtain ⟨rfl, c1, hh, hR1, hf⟩ := hq
  subst hh
  obtain ⟨hM1, hs1, hT1, h41, h451⟩ := hI0.cls hf
  show Ex 200 _ _ _ _ _ [(0, _)] _ _
  refine E_load lr_1254 rfl rfl ?_
  refine E_V0 (q := 43) (c := 12) (y := 224) lr_1255 rfl (hL.lt 43 rfl) (hL.k 43 rfl) rfl rfl rfl rfl (n_image hL hM1 hs1 hA) (fun r h2 hq => ?_)
  obtain ⟨rfl, c2, hh, h45b, h4b, he⟩ := hq
  subst hh
  show Ex 200 _ _ _ _ _ [(0, _), (0, _)] _ _
  refine E_same lr_1258 ?_
  refine w_end rfl ?_
  exact k _ _ _ _ _ _ _ (hI0.ima hR1 hf h45b h4b he) (Nat.le_add_right _ _) (Nat.le_add_right _ _)
set_option maxHeartbeats 4000000 in
set_option maxRecDepth 100000 in
theorem w_undo (hI : LawI h c B s im hi L) (hx : ∀ k, inR (xs k)) (h0 : 0 ≤ i) (h3 : i + 3 < (N : Int)) (hN : N ≤ 2048) (k : LawK N xs h i Q) : Ex 200 (some (N, xs)) t_L_law 3 1263 [(1, -5), (1, ((0 : Nat) : Int)), (1, ((43 : Nat) : Int)), (0, i)] [] (wC h c) Q := by
  have hI0 := hI
  obtain ⟨hL, hM, hs, hA, hR, hT, hl, h01, h4, h45, hAi⟩ := hI
  refine E_load lr_1263 rfl rfl ?_
  refine E_V0 (q := 0) (c := 11) (y := 109) lr_1264 rfl (hL.lt 0 rfl) (hL.k 0 rfl) rfl rfl rfl rfl (C_undo hL hR hA h01 hAi) (fun r h2 hq => ?_)
  obtain ⟨rfl, c1, hh, hR1, hf⟩ := hq
  subst hh
  obtain ⟨hM1, hs1, hT1, h41, h451⟩ := hI0.cls hf
  show Ex 200 _ _ _ _ _ [(0, _)] _ _
  refine E_load lr_1267 rfl rfl ?_
  refine E_V0 (q := 43) (c := 12) (y := 225) lr_1268 rfl (hL.lt 43 rfl) (hL.k 43 rfl) rfl rfl rfl rfl (n_undo hL hM1 hs1 h451 h41 h01) (fun r h2 hq => ?_)
  obtain ⟨rfl, c2, hh, hs2, he⟩ := hq
  subst hh
  show Ex 200 _ _ _ _ _ [(0, _), (0, _)] _ _
  refine E_same lr_1271 ?_
  refine w_end rfl ?_
  have hAu : Inv (if hi = 0 then s else unS s im) := by
    rcases h01 with e | e
    · rw [if_pos e]; exact hA
    · rw [if_neg (by omega)]; exact I_undo (hAi e)
  exact k _ _ _ _ _ _ _ (hI0.un hAu hR1 hf hs2 he) (Nat.le_add_right _ _) (Nat.le_add_right _ _)
set_option maxHeartbeats 4000000 in
set_option maxRecDepth 100000 in
theorem w_count (hI : LawI h c B s im hi L) (hx : ∀ k, inR (xs k)) (h0 : 0 ≤ i) (h3 : i + 3 < (N : Int)) (hN : N ≤ 2048) (k : LawK N xs h i Q) : Ex 200 (some (N, xs)) t_L_law 3 1276 [(1, -5), (1, ((0 : Nat) : Int)), (1, ((43 : Nat) : Int)), (0, i)] [] (wC h c) Q := by
  have hI0 := hI
  obtain ⟨hL, hM, hs, hA, hR, hT, hl, h01, h4, h45, hAi⟩ := hI
  refine E_load lr_1276 rfl rfl ?_
  refine E_load lr_1277 rfl rfl ?_
  refine E_load lr_1278 rfl rfl ?_
  refine E_const lr_1279 ?_
  refine E_add lr_1280 ?_
  refine E_sal lr_1281 (by omega) (by omega) (by omega) ?_
  refine E_V1 (q := 0) (c := 11) (y := 110) lr_1282 rfl (hL.lt 0 rfl) (hL.k 0 rfl) rfl rfl rfl rfl (C_count hL hR hA (hx _)) (fun r h2 hq => ?_)
  obtain ⟨rfl, c1, hh, hf0⟩ := hq
  subst hh
  have hR1 := hR.scr hf0
  have hf := scr_fc hR hf0
  obtain ⟨hM1, hs1, hT1, h41, h451⟩ := hI0.cls hf
  show Ex 200 _ _ _ _ _ [(0, _)] _ _
  refine E_load lr_1285 rfl rfl ?_
  refine E_load lr_1286 rfl rfl ?_
  refine E_load lr_1287 rfl rfl ?_
  refine E_const lr_1288 ?_
  refine E_add lr_1289 ?_
  refine E_sal lr_1290 (by omega) (by omega) (by omega) ?_
  refine E_V1 (q := 43) (c := 12) (y := 226) lr_1291 rfl (hL.lt 43 rfl) (hL.k 43 rfl) rfl rfl rfl rfl (n_count hL hM1 hs1 hA hT1 hl (hx _)) (fun r h2 hq => ?_)
  obtain ⟨rfl, c2, hh, he⟩ := hq
  subst hh
  show Ex 200 _ _ _ _ _ [(0, _), (0, _)] _ _
  refine E_same lr_1294 ?_
  refine w_end rfl ?_
  exact k _ _ _ _ _ _ _ (hI0.q hR1 hf he) (Nat.le_add_right _ _) (Nat.le_add_right _ _)
end LAWL
