/-! ===== the law, call by call: 1 ===== -/
section LAWC
variable {p : Program} {l : Launch} {e : Env} {s : State} {m : MethodId} {args : Array Value} {below : List Frame} {meth : Method} {c : Code} {D : va_G} {cy : Nat → ClassId} {ad : Ads} {nc ns : Nat} {Q : State → Prop} {x : Mem} {b L : Nat} {xs : Nat → Int32}
theorem law_make (h : LW p s m args meth c D cy ad l b L xs) {B t : Nat} (hi : INV x x B) (hB : 3 * B < 2 ^ 20) (ht : 4 * t + 4 ≤ L) (hnc : nc + 1 ≤ room_1.cells ∧ ns + 6 ≤ room_1.slots) (kk : ∀ x' : Mem, INV x' x' (B + 60) → RM p l e room_1 s m args below meth c 9 (AA ad s.heap.size) (GG D cy ad x') (nc + 1) (ns + 6) Q 1637 (l5 ad b t) []) : RM p l e room_1 s m args below meth c 9 (AA ad s.heap.size) (GG D cy ad x) nc ns Q 156 (l5 ad b t) [] := by
  have h' := h
  obtain ⟨hc, hX, hfl, hsc, hbl, hbA, hL⟩ := h'
  have hI : IJ ad := hc.2.2.2.2.1
  obtain ⟨P1, hw, hm⟩ := pr_make (l := l) (D := D) (cy := cy) hI hfl hi hB (xs (4 * t + 1)) (xs (4 * t + 2)) (xs (4 * t + 3))
  refine rm_aload_n hc dL_law_156 rfl rfl ?_
  refine law_arg h (j := 1) dL_law_157 dL_law_158 dL_law_160 dL_law_161 dL_law_162 (by decide) rfl rfl (by omega) ht ?_
  refine law_arg h (j := 2) dL_law_163 dL_law_164 dL_law_166 dL_law_167 dL_law_168 (by decide) rfl rfl (by omega) ht ?_
  refine law_arg h (j := 3) dL_law_169 dL_law_170 dL_law_172 dL_law_173 dL_law_174 (by decide) rfl rfl (by omega) ht ?_
  refine rm_aload_n hc dL_law_175 rfl rfl ?_
  refine rm_callW (As := [.ref (ad 8 9 0), .int (xs (4 * t + 1)), .int (xs (4 * t + 2)), .int (xs (4 * t + 3)), .ref (ad 16 19 0)]) (rest := []) hc hX dL_law_176 hw mw_L_89 rfl rfl (Nat.le_of_ble_eq_true rfl) ⟨⟨rfl, rfl⟩, Nat.le_of_ble_eq_true rfl, Nat.le_of_ble_eq_true rfl⟩ hnc (fun k y1 hk => ?_)
  obtain ⟨P2, hm1, hm2⟩ := hm k y1 hk
  refine rm_istore (ls' := l6 ad b t k) hc dL_law_179 (by omega) rfl ?_
  refine rm_aload_n hc dL_law_181 rfl rfl ?_
  refine law_arg h (j := 1) dL_law_182 dL_law_183 dL_law_185 dL_law_186 dL_law_187 (by decide) rfl rfl (by omega) ht ?_
  refine law_arg h (j := 2) dL_law_188 dL_law_189 dL_law_191 dL_law_192 dL_law_193 (by decide) rfl rfl (by omega) ht ?_
  refine law_arg h (j := 3) dL_law_194 dL_law_195 dL_law_197 dL_law_198 dL_law_199 (by decide) rfl rfl (by omega) ht ?_
  refine rm_calliV (As := [.int (xs (4 * t + 1)), .int (xs (4 * t + 2)), .int (xs (4 * t + 3))]) (rest := []) hc dL_law_200 hm1 mv_L_94 dm_14 rfl rfl (hn := rfl) (hst := rfl) (hw := Nat.le_of_ble_eq_true rfl) (hR := ⟨⟨rfl, rfl⟩, Nat.le_of_ble_eq_true rfl, Nat.le_of_ble_eq_true rfl⟩) (hnc := hnc) (fun bb y2 hb => ?_)
  obtain ⟨h1, h2, h3⟩ := hm2 bb y2 hb
  exact law_tail h h1 h2 dL_law_203 dL_law_205 dL_law_206 dL_law_209 dL_law_211 dL_law_216 dL_law_218 dL_law_221 dL_law_222 dL_law_223 dL_law_224 dL_law_226 dL_law_227 dL_law_228 dL_law_233 (by decide) hnc (kk y2 h3)
theorem law_battery (h : LW p s m args meth c D cy ad l b L xs) {B t : Nat} (hi : INV x x B) (hB : 3 * B < 2 ^ 20) (ht : 4 * t + 4 ≤ L) (hnc : nc + 1 ≤ room_1.cells ∧ ns + 6 ≤ room_1.slots) (kk : ∀ x' : Mem, INV x' x' (B + 60) → RM p l e room_1 s m args below meth c 9 (AA ad s.heap.size) (GG D cy ad x') (nc + 1) (ns + 6) Q 1637 (l5 ad b t) []) : RM p l e room_1 s m args below meth c 9 (AA ad s.heap.size) (GG D cy ad x) nc ns Q 236 (l5 ad b t) [] := by
  have h' := h
  obtain ⟨hc, hX, hfl, hsc, hbl, hbA, hL⟩ := h'
  have hI : IJ ad := hc.2.2.2.2.1
  obtain ⟨P1, hw, hm⟩ := pr_battery (l := l) (D := D) (cy := cy) hI hfl hi hB (xs (4 * t + 1)) (xs (4 * t + 2))
  refine rm_aload_n hc dL_law_236 rfl rfl ?_
  refine law_arg h (j := 1) dL_law_237 dL_law_238 dL_law_240 dL_law_241 dL_law_242 (by decide) rfl rfl (by omega) ht ?_
  refine law_arg h (j := 2) dL_law_243 dL_law_244 dL_law_246 dL_law_247 dL_law_248 (by decide) rfl rfl (by omega) ht ?_
  refine rm_aload_n hc dL_law_249 rfl rfl ?_
  refine rm_callW (As := [.ref (ad 8 9 0), .int (xs (4 * t + 1)), .int (xs (4 * t + 2)), .ref (ad 16 19 0)]) (rest := []) hc hX dL_law_250 hw mw_L_98 rfl rfl (Nat.le_of_ble_eq_true rfl) ⟨⟨rfl, rfl⟩, Nat.le_of_ble_eq_true rfl, Nat.le_of_ble_eq_true rfl⟩ hnc (fun k y1 hk => ?_)
  obtain ⟨P2, hm1, hm2⟩ := hm k y1 hk
  refine rm_istore (ls' := l6 ad b t k) hc dL_law_253 (by omega) rfl ?_
  refine rm_aload_n hc dL_law_255 rfl rfl ?_
  refine law_arg h (j := 1) dL_law_256 dL_law_257 dL_law_259 dL_law_260 dL_law_261 (by decide) rfl rfl (by omega) ht ?_
  refine law_arg h (j := 2) dL_law_262 dL_law_263 dL_law_265 dL_law_266 dL_law_267 (by decide) rfl rfl (by omega) ht ?_
  refine rm_calliV (As := [.int (xs (4 * t + 1)), .int (xs (4 * t + 2))]) (rest := []) hc dL_law_268 hm1 mv_L_101 dm_14 rfl rfl (hn := rfl) (hst := rfl) (hw := Nat.le_of_ble_eq_true rfl) (hR := ⟨⟨rfl, rfl⟩, Nat.le_of_ble_eq_true rfl, Nat.le_of_ble_eq_true rfl⟩) (hnc := hnc) (fun bb y2 hb => ?_)
  obtain ⟨h1, h2, h3⟩ := hm2 bb y2 hb
  exact law_tail h h1 h2 dL_law_271 dL_law_273 dL_law_274 dL_law_277 dL_law_279 dL_law_284 dL_law_286 dL_law_289 dL_law_290 dL_law_291 dL_law_292 dL_law_294 dL_law_295 dL_law_296 dL_law_301 (by decide) hnc (kk y2 h3)
theorem law_press (h : LW p s m args meth c D cy ad l b L xs) {B t : Nat} (hi : INV x x B) (hB : 3 * B < 2 ^ 20) (ht : 4 * t + 4 ≤ L) (hnc : nc + 1 ≤ room_1.cells ∧ ns + 6 ≤ room_1.slots) (kk : ∀ x' : Mem, INV x' x' (B + 60) → RM p l e room_1 s m args below meth c 9 (AA ad s.heap.size) (GG D cy ad x') (nc + 1) (ns + 6) Q 1637 (l5 ad b t) []) : RM p l e room_1 s m args below meth c 9 (AA ad s.heap.size) (GG D cy ad x) nc ns Q 304 (l5 ad b t) [] := by
  have h' := h
  obtain ⟨hc, hX, hfl, hsc, hbl, hbA, hL⟩ := h'
  have hI : IJ ad := hc.2.2.2.2.1
  obtain ⟨P1, hw, hm⟩ := pr_press (l := l) (D := D) (cy := cy) hI hfl hi hB (xs (4 * t + 1)) (xs (4 * t + 2))
  refine rm_aload_n hc dL_law_304 rfl rfl ?_
  refine law_arg h (j := 1) dL_law_305 dL_law_306 dL_law_308 dL_law_309 dL_law_310 (by decide) rfl rfl (by omega) ht ?_
  refine law_arg h (j := 2) dL_law_311 dL_law_312 dL_law_314 dL_law_315 dL_law_316 (by decide) rfl rfl (by omega) ht ?_
  refine rm_aload_n hc dL_law_317 rfl rfl ?_
  refine rm_callW (As := [.ref (ad 8 9 0), .int (xs (4 * t + 1)), .int (xs (4 * t + 2)), .ref (ad 16 19 0)]) (rest := []) hc hX dL_law_318 hw mw_L_102 rfl rfl (Nat.le_of_ble_eq_true rfl) ⟨⟨rfl, rfl⟩, Nat.le_of_ble_eq_true rfl, Nat.le_of_ble_eq_true rfl⟩ hnc (fun k y1 hk => ?_)
  obtain ⟨P2, hm1, hm2⟩ := hm k y1 hk
  refine rm_istore (ls' := l6 ad b t k) hc dL_law_321 (by omega) rfl ?_
  refine rm_aload_n hc dL_law_323 rfl rfl ?_
  refine law_arg h (j := 1) dL_law_324 dL_law_325 dL_law_327 dL_law_328 dL_law_329 (by decide) rfl rfl (by omega) ht ?_
  refine law_arg h (j := 2) dL_law_330 dL_law_331 dL_law_333 dL_law_334 dL_law_335 (by decide) rfl rfl (by omega) ht ?_
  refine rm_calliV (As := [.int (xs (4 * t + 1)), .int (xs (4 * t + 2))]) (rest := []) hc dL_law_336 hm1 mv_L_104 dm_14 rfl rfl (hn := rfl) (hst := rfl) (hw := Nat.le_of_ble_eq_true rfl) (hR := ⟨⟨rfl, rfl⟩, Nat.le_of_ble_eq_true rfl, Nat.le_of_ble_eq_true rfl⟩) (hnc := hnc) (fun bb y2 hb => ?_)
  obtain ⟨h1, h2, h3⟩ := hm2 bb y2 hb
  exact law_tail h h1 h2 dL_law_339 dL_law_341 dL_law_342 dL_law_345 dL_law_347 dL_law_352 dL_law_354 dL_law_357 dL_law_358 dL_law_359 dL_law_360 dL_law_362 dL_law_363 dL_law_364 dL_law_369 (by decide) hnc (kk y2 h3)
theorem law_again (h : LW p s m args meth c D cy ad l b L xs) {B t : Nat} (hi : INV x x B) (hB : 3 * B < 2 ^ 20) (ht : 4 * t + 4 ≤ L) (hnc : nc + 1 ≤ room_1.cells ∧ ns + 6 ≤ room_1.slots) (kk : ∀ x' : Mem, INV x' x' (B + 60) → RM p l e room_1 s m args below meth c 9 (AA ad s.heap.size) (GG D cy ad x') (nc + 1) (ns + 6) Q 1637 (l5 ad b t) []) : RM p l e room_1 s m args below meth c 9 (AA ad s.heap.size) (GG D cy ad x) nc ns Q 372 (l5 ad b t) [] := by
  have h' := h
  obtain ⟨hc, hX, hfl, hsc, hbl, hbA, hL⟩ := h'
  have hI : IJ ad := hc.2.2.2.2.1
  obtain ⟨P1, hw, hm⟩ := pr_again (l := l) (D := D) (cy := cy) hI hfl hi hB (xs (4 * t + 1)) (xs (4 * t + 2))
  refine rm_aload_n hc dL_law_372 rfl rfl ?_
  refine law_arg h (j := 1) dL_law_373 dL_law_374 dL_law_376 dL_law_377 dL_law_378 (by decide) rfl rfl (by omega) ht ?_
  refine law_arg h (j := 2) dL_law_379 dL_law_380 dL_law_382 dL_law_383 dL_law_384 (by decide) rfl rfl (by omega) ht ?_
  refine rm_aload_n hc dL_law_385 rfl rfl ?_
  refine rm_callW (As := [.ref (ad 8 9 0), .int (xs (4 * t + 1)), .int (xs (4 * t + 2)), .ref (ad 16 19 0)]) (rest := []) hc hX dL_law_386 hw mw_L_105 rfl rfl (Nat.le_of_ble_eq_true rfl) ⟨⟨rfl, rfl⟩, Nat.le_of_ble_eq_true rfl, Nat.le_of_ble_eq_true rfl⟩ hnc (fun k y1 hk => ?_)
  obtain ⟨P2, hm1, hm2⟩ := hm k y1 hk
  refine rm_istore (ls' := l6 ad b t k) hc dL_law_389 (by omega) rfl ?_
  refine rm_aload_n hc dL_law_391 rfl rfl ?_
  refine law_arg h (j := 1) dL_law_392 dL_law_393 dL_law_395 dL_law_396 dL_law_397 (by decide) rfl rfl (by omega) ht ?_
  refine law_arg h (j := 2) dL_law_398 dL_law_399 dL_law_401 dL_law_402 dL_law_403 (by decide) rfl rfl (by omega) ht ?_
  refine rm_calliV (As := [.int (xs (4 * t + 1)), .int (xs (4 * t + 2))]) (rest := []) hc dL_law_404 hm1 mv_L_107 dm_14 rfl rfl (hn := rfl) (hst := rfl) (hw := Nat.le_of_ble_eq_true rfl) (hR := ⟨⟨rfl, rfl⟩, Nat.le_of_ble_eq_true rfl, Nat.le_of_ble_eq_true rfl⟩) (hnc := hnc) (fun bb y2 hb => ?_)
  obtain ⟨h1, h2, h3⟩ := hm2 bb y2 hb
  exact law_tail h h1 h2 dL_law_407 dL_law_409 dL_law_410 dL_law_413 dL_law_415 dL_law_420 dL_law_422 dL_law_425 dL_law_426 dL_law_427 dL_law_428 dL_law_430 dL_law_431 dL_law_432 dL_law_437 (by decide) hnc (kk y2 h3)
theorem law_learn (h : LW p s m args meth c D cy ad l b L xs) {B t : Nat} (hi : INV x x B) (hB : 3 * B < 2 ^ 20) (ht : 4 * t + 4 ≤ L) (hnc : nc + 1 ≤ room_1.cells ∧ ns + 6 ≤ room_1.slots) (kk : ∀ x' : Mem, INV x' x' (B + 60) → RM p l e room_1 s m args below meth c 9 (AA ad s.heap.size) (GG D cy ad x') (nc + 1) (ns + 6) Q 1637 (l5 ad b t) []) : RM p l e room_1 s m args below meth c 9 (AA ad s.heap.size) (GG D cy ad x) nc ns Q 440 (l5 ad b t) [] := by
  have h' := h
  obtain ⟨hc, hX, hfl, hsc, hbl, hbA, hL⟩ := h'
  have hI : IJ ad := hc.2.2.2.2.1
  obtain ⟨P1, hw, hm⟩ := pr_learn (l := l) (D := D) (cy := cy) hI hfl hi hB (xs (4 * t + 1)) (xs (4 * t + 2)) (xs (4 * t + 3))
  refine rm_aload_n hc dL_law_440 rfl rfl ?_
  refine law_arg h (j := 1) dL_law_441 dL_law_442 dL_law_444 dL_law_445 dL_law_446 (by decide) rfl rfl (by omega) ht ?_
  refine law_arg h (j := 2) dL_law_447 dL_law_448 dL_law_450 dL_law_451 dL_law_452 (by decide) rfl rfl (by omega) ht ?_
  refine law_arg h (j := 3) dL_law_453 dL_law_454 dL_law_456 dL_law_457 dL_law_458 (by decide) rfl rfl (by omega) ht ?_
  refine rm_aload_n hc dL_law_459 rfl rfl ?_
  refine rm_callW (As := [.ref (ad 8 9 0), .int (xs (4 * t + 1)), .int (xs (4 * t + 2)), .int (xs (4 * t + 3)), .ref (ad 16 19 0)]) (rest := []) hc hX dL_law_460 hw mw_L_108 rfl rfl (Nat.le_of_ble_eq_true rfl) ⟨⟨rfl, rfl⟩, Nat.le_of_ble_eq_true rfl, Nat.le_of_ble_eq_true rfl⟩ hnc (fun k y1 hk => ?_)
  obtain ⟨P2, hm1, hm2⟩ := hm k y1 hk
  refine rm_istore (ls' := l6 ad b t k) hc dL_law_463 (by omega) rfl ?_
  refine rm_aload_n hc dL_law_465 rfl rfl ?_
  refine law_arg h (j := 1) dL_law_466 dL_law_467 dL_law_469 dL_law_470 dL_law_471 (by decide) rfl rfl (by omega) ht ?_
  refine law_arg h (j := 2) dL_law_472 dL_law_473 dL_law_475 dL_law_476 dL_law_477 (by decide) rfl rfl (by omega) ht ?_
  refine law_arg h (j := 3) dL_law_478 dL_law_479 dL_law_481 dL_law_482 dL_law_483 (by decide) rfl rfl (by omega) ht ?_
  refine rm_calliV (As := [.int (xs (4 * t + 1)), .int (xs (4 * t + 2)), .int (xs (4 * t + 3))]) (rest := []) hc dL_law_484 hm1 mv_L_110 dm_14 rfl rfl (hn := rfl) (hst := rfl) (hw := Nat.le_of_ble_eq_true rfl) (hR := ⟨⟨rfl, rfl⟩, Nat.le_of_ble_eq_true rfl, Nat.le_of_ble_eq_true rfl⟩) (hnc := hnc) (fun bb y2 hb => ?_)
  obtain ⟨h1, h2, h3⟩ := hm2 bb y2 hb
  exact law_tail h h1 h2 dL_law_487 dL_law_489 dL_law_490 dL_law_493 dL_law_495 dL_law_500 dL_law_502 dL_law_505 dL_law_506 dL_law_507 dL_law_508 dL_law_510 dL_law_511 dL_law_512 dL_law_517 (by decide) hnc (kk y2 h3)
theorem law_forget (h : LW p s m args meth c D cy ad l b L xs) {B t : Nat} (hi : INV x x B) (hB : 3 * B < 2 ^ 20) (ht : 4 * t + 4 ≤ L) (hnc : nc + 1 ≤ room_1.cells ∧ ns + 6 ≤ room_1.slots) (kk : ∀ x' : Mem, INV x' x' (B + 60) → RM p l e room_1 s m args below meth c 9 (AA ad s.heap.size) (GG D cy ad x') (nc + 1) (ns + 6) Q 1637 (l5 ad b t) []) : RM p l e room_1 s m args below meth c 9 (AA ad s.heap.size) (GG D cy ad x) nc ns Q 520 (l5 ad b t) [] := by
  have h' := h
  obtain ⟨hc, hX, hfl, hsc, hbl, hbA, hL⟩ := h'
  have hI : IJ ad := hc.2.2.2.2.1
  obtain ⟨P1, hw, hm⟩ := pr_forget (l := l) (D := D) (cy := cy) hI hfl hi hB (xs (4 * t + 1)) (xs (4 * t + 2))
  refine rm_aload_n hc dL_law_520 rfl rfl ?_
  refine law_arg h (j := 1) dL_law_521 dL_law_522 dL_law_524 dL_law_525 dL_law_526 (by decide) rfl rfl (by omega) ht ?_
  refine law_arg h (j := 2) dL_law_527 dL_law_528 dL_law_530 dL_law_531 dL_law_532 (by decide) rfl rfl (by omega) ht ?_
  refine rm_aload_n hc dL_law_533 rfl rfl ?_
  refine rm_callW (As := [.ref (ad 8 9 0), .int (xs (4 * t + 1)), .int (xs (4 * t + 2)), .ref (ad 16 19 0)]) (rest := []) hc hX dL_law_534 hw mw_L_111 rfl rfl (Nat.le_of_ble_eq_true rfl) ⟨⟨rfl, rfl⟩, Nat.le_of_ble_eq_true rfl, Nat.le_of_ble_eq_true rfl⟩ hnc (fun k y1 hk => ?_)
  obtain ⟨P2, hm1, hm2⟩ := hm k y1 hk
  refine rm_istore (ls' := l6 ad b t k) hc dL_law_537 (by omega) rfl ?_
  refine rm_aload_n hc dL_law_539 rfl rfl ?_
  refine law_arg h (j := 1) dL_law_540 dL_law_541 dL_law_543 dL_law_544 dL_law_545 (by decide) rfl rfl (by omega) ht ?_
  refine law_arg h (j := 2) dL_law_546 dL_law_547 dL_law_549 dL_law_550 dL_law_551 (by decide) rfl rfl (by omega) ht ?_
  refine rm_calliV (As := [.int (xs (4 * t + 1)), .int (xs (4 * t + 2))]) (rest := []) hc dL_law_552 hm1 mv_L_113 dm_14 rfl rfl (hn := rfl) (hst := rfl) (hw := Nat.le_of_ble_eq_true rfl) (hR := ⟨⟨rfl, rfl⟩, Nat.le_of_ble_eq_true rfl, Nat.le_of_ble_eq_true rfl⟩) (hnc := hnc) (fun bb y2 hb => ?_)
  obtain ⟨h1, h2, h3⟩ := hm2 bb y2 hb
  exact law_tail h h1 h2 dL_law_555 dL_law_557 dL_law_558 dL_law_561 dL_law_563 dL_law_568 dL_law_570 dL_law_573 dL_law_574 dL_law_575 dL_law_576 dL_law_578 dL_law_579 dL_law_580 dL_law_585 (by decide) hnc (kk y2 h3)
theorem law_shut (h : LW p s m args meth c D cy ad l b L xs) {B t : Nat} (hi : INV x x B) (hB : 3 * B < 2 ^ 20) (ht : 4 * t + 4 ≤ L) (hnc : nc + 1 ≤ room_1.cells ∧ ns + 6 ≤ room_1.slots) (kk : ∀ x' : Mem, INV x' x' (B + 60) → RM p l e room_1 s m args below meth c 9 (AA ad s.heap.size) (GG D cy ad x') (nc + 1) (ns + 6) Q 1637 (l5 ad b t) []) : RM p l e room_1 s m args below meth c 9 (AA ad s.heap.size) (GG D cy ad x) nc ns Q 588 (l5 ad b t) [] := by
  have h' := h
  obtain ⟨hc, hX, hfl, hsc, hbl, hbA, hL⟩ := h'
  have hI : IJ ad := hc.2.2.2.2.1
  obtain ⟨P1, hw, hm⟩ := pr_shut (l := l) (D := D) (cy := cy) hI hfl hi hB (xs (4 * t + 1))
  refine rm_aload_n hc dL_law_588 rfl rfl ?_
  refine law_arg h (j := 1) dL_law_589 dL_law_590 dL_law_592 dL_law_593 dL_law_594 (by decide) rfl rfl (by omega) ht ?_
  refine rm_aload_n hc dL_law_595 rfl rfl ?_
  refine rm_callW (As := [.ref (ad 8 9 0), .int (xs (4 * t + 1)), .ref (ad 16 19 0)]) (rest := []) hc hX dL_law_596 hw mw_L_114 rfl rfl (Nat.le_of_ble_eq_true rfl) ⟨⟨rfl, rfl⟩, Nat.le_of_ble_eq_true rfl, Nat.le_of_ble_eq_true rfl⟩ hnc (fun k y1 hk => ?_)
  obtain ⟨P2, hm1, hm2⟩ := hm k y1 hk
  refine rm_istore (ls' := l6 ad b t k) hc dL_law_599 (by omega) rfl ?_
  refine rm_aload_n hc dL_law_601 rfl rfl ?_
  refine law_arg h (j := 1) dL_law_602 dL_law_603 dL_law_605 dL_law_606 dL_law_607 (by decide) rfl rfl (by omega) ht ?_
  refine rm_calliV (As := [.int (xs (4 * t + 1))]) (rest := []) hc dL_law_608 hm1 mv_L_117 dm_14 rfl rfl (hn := rfl) (hst := rfl) (hw := Nat.le_of_ble_eq_true rfl) (hR := ⟨⟨rfl, rfl⟩, Nat.le_of_ble_eq_true rfl, Nat.le_of_ble_eq_true rfl⟩) (hnc := hnc) (fun bb y2 hb => ?_)
  obtain ⟨h1, h2, h3⟩ := hm2 bb y2 hb
  exact law_tail h h1 h2 dL_law_611 dL_law_613 dL_law_614 dL_law_617 dL_law_619 dL_law_624 dL_law_626 dL_law_629 dL_law_630 dL_law_631 dL_law_632 dL_law_634 dL_law_635 dL_law_636 dL_law_641 (by decide) hnc (kk y2 h3)
theorem law_unlock (h : LW p s m args meth c D cy ad l b L xs) {B t : Nat} (hi : INV x x B) (hB : 3 * B < 2 ^ 20) (ht : 4 * t + 4 ≤ L) (hnc : nc + 1 ≤ room_1.cells ∧ ns + 6 ≤ room_1.slots) (kk : ∀ x' : Mem, INV x' x' (B + 60) → RM p l e room_1 s m args below meth c 9 (AA ad s.heap.size) (GG D cy ad x') (nc + 1) (ns + 6) Q 1637 (l5 ad b t) []) : RM p l e room_1 s m args below meth c 9 (AA ad s.heap.size) (GG D cy ad x) nc ns Q 644 (l5 ad b t) [] := by
  have h' := h
  obtain ⟨hc, hX, hfl, hsc, hbl, hbA, hL⟩ := h'
  have hI : IJ ad := hc.2.2.2.2.1
  obtain ⟨P1, hw, hm⟩ := pr_unlock (l := l) (D := D) (cy := cy) hI hfl hi hB (xs (4 * t + 1))
  refine rm_aload_n hc dL_law_644 rfl rfl ?_
  refine law_arg h (j := 1) dL_law_645 dL_law_646 dL_law_648 dL_law_649 dL_law_650 (by decide) rfl rfl (by omega) ht ?_
  refine rm_aload_n hc dL_law_651 rfl rfl ?_
  refine rm_callW (As := [.ref (ad 8 9 0), .int (xs (4 * t + 1)), .ref (ad 16 19 0)]) (rest := []) hc hX dL_law_652 hw mw_L_118 rfl rfl (Nat.le_of_ble_eq_true rfl) ⟨⟨rfl, rfl⟩, Nat.le_of_ble_eq_true rfl, Nat.le_of_ble_eq_true rfl⟩ hnc (fun k y1 hk => ?_)
  obtain ⟨P2, hm1, hm2⟩ := hm k y1 hk
  refine rm_istore (ls' := l6 ad b t k) hc dL_law_655 (by omega) rfl ?_
  refine rm_aload_n hc dL_law_657 rfl rfl ?_
  refine law_arg h (j := 1) dL_law_658 dL_law_659 dL_law_661 dL_law_662 dL_law_663 (by decide) rfl rfl (by omega) ht ?_
  refine rm_calliV (As := [.int (xs (4 * t + 1))]) (rest := []) hc dL_law_664 hm1 mv_L_120 dm_14 rfl rfl (hn := rfl) (hst := rfl) (hw := Nat.le_of_ble_eq_true rfl) (hR := ⟨⟨rfl, rfl⟩, Nat.le_of_ble_eq_true rfl, Nat.le_of_ble_eq_true rfl⟩) (hnc := hnc) (fun bb y2 hb => ?_)
  obtain ⟨h1, h2, h3⟩ := hm2 bb y2 hb
  exact law_tail h h1 h2 dL_law_667 dL_law_669 dL_law_670 dL_law_673 dL_law_675 dL_law_680 dL_law_682 dL_law_685 dL_law_686 dL_law_687 dL_law_688 dL_law_690 dL_law_691 dL_law_692 dL_law_697 (by decide) hnc (kk y2 h3)
theorem law_set (h : LW p s m args meth c D cy ad l b L xs) {B t : Nat} (hi : INV x x B) (hB : 3 * B < 2 ^ 20) (ht : 4 * t + 4 ≤ L) (hnc : nc + 1 ≤ room_1.cells ∧ ns + 6 ≤ room_1.slots) (kk : ∀ x' : Mem, INV x' x' (B + 60) → RM p l e room_1 s m args below meth c 9 (AA ad s.heap.size) (GG D cy ad x') (nc + 1) (ns + 6) Q 1637 (l5 ad b t) []) : RM p l e room_1 s m args below meth c 9 (AA ad s.heap.size) (GG D cy ad x) nc ns Q 700 (l5 ad b t) [] := by
  have h' := h
  obtain ⟨hc, hX, hfl, hsc, hbl, hbA, hL⟩ := h'
  have hI : IJ ad := hc.2.2.2.2.1
  obtain ⟨P1, hw, hm⟩ := pr_set (l := l) (D := D) (cy := cy) hI hfl hi hB (xs (4 * t + 1)) (xs (4 * t + 2))
  refine rm_aload_n hc dL_law_700 rfl rfl ?_
  refine law_arg h (j := 1) dL_law_701 dL_law_702 dL_law_704 dL_law_705 dL_law_706 (by decide) rfl rfl (by omega) ht ?_
  refine law_arg h (j := 2) dL_law_707 dL_law_708 dL_law_710 dL_law_711 dL_law_712 (by decide) rfl rfl (by omega) ht ?_
  refine rm_aload_n hc dL_law_713 rfl rfl ?_
  refine rm_callW (As := [.ref (ad 8 9 0), .int (xs (4 * t + 1)), .int (xs (4 * t + 2)), .ref (ad 16 19 0)]) (rest := []) hc hX dL_law_714 hw mw_L_121 rfl rfl (Nat.le_of_ble_eq_true rfl) ⟨⟨rfl, rfl⟩, Nat.le_of_ble_eq_true rfl, Nat.le_of_ble_eq_true rfl⟩ hnc (fun k y1 hk => ?_)
  obtain ⟨P2, hm1, hm2⟩ := hm k y1 hk
  refine rm_istore (ls' := l6 ad b t k) hc dL_law_717 (by omega) rfl ?_
  refine rm_aload_n hc dL_law_719 rfl rfl ?_
  refine law_arg h (j := 1) dL_law_720 dL_law_721 dL_law_723 dL_law_724 dL_law_725 (by decide) rfl rfl (by omega) ht ?_
  refine law_arg h (j := 2) dL_law_726 dL_law_727 dL_law_729 dL_law_730 dL_law_731 (by decide) rfl rfl (by omega) ht ?_
  refine rm_calliV (As := [.int (xs (4 * t + 1)), .int (xs (4 * t + 2))]) (rest := []) hc dL_law_732 hm1 mv_L_123 dm_14 rfl rfl (hn := rfl) (hst := rfl) (hw := Nat.le_of_ble_eq_true rfl) (hR := ⟨⟨rfl, rfl⟩, Nat.le_of_ble_eq_true rfl, Nat.le_of_ble_eq_true rfl⟩) (hnc := hnc) (fun bb y2 hb => ?_)
  obtain ⟨h1, h2, h3⟩ := hm2 bb y2 hb
  exact law_tail h h1 h2 dL_law_735 dL_law_737 dL_law_738 dL_law_741 dL_law_743 dL_law_748 dL_law_750 dL_law_753 dL_law_754 dL_law_755 dL_law_756 dL_law_758 dL_law_759 dL_law_760 dL_law_765 (by decide) hnc (kk y2 h3)
end LAWC
