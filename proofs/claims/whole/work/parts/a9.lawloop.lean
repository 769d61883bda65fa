/-! ===== the law's cases and its loop ===== -/
def lwJ (a b : Int32) : Int64 := (a.toInt64 <<< ((nI 32).toInt64 &&& 63)) ||| (b.toInt64 &&& 4294967295)
theorem lg_self (v : Int64) : lg_cmp v v = 0 := by
  unfold lg_cmp
  simp
theorem law_0 {L i : Nat} {xs : Nat → Int32} {S : xS} {X : LM} (hi : i + 6 ≤ L) (hL : L ≤ 3072) (w : wf X) (hc : RC S X) (hm : RM S X) (k : ∀ S X, wf X → RC S X → RM S X → lwP L xs i 1214 [] S) : lwP L xs i 164 [] S := by
  obtain ⟨v, X', w', hC, hM⟩ := b_corner w (lwJ (xs (i + 1)) (xs (i + 2))) (lwJ (xs (i + 3)) (xs (i + 4)))
  refine l_aload1 eL_164 ?_
  refine l_scr (d := 1) eL_165 eL_166 eL_167 eL_168 eL_169 (by decide) (by omega) hL ?_
  refine l_i2l eL_170 (l_bipush (v := nI 32) eL_171 (by decide) (l_lshl eL_173 ?_))
  refine l_scr (d := 2) eL_174 eL_175 eL_176 eL_177 eL_178 (by decide) (by omega) hL ?_
  refine l_i2l eL_179 (l_ldc2 eL_180 cL_13 (l_land eL_183 (l_lor eL_184 ?_)))
  refine l_scr (d := 3) eL_185 eL_186 eL_187 eL_188 eL_189 (by decide) (by omega) hL ?_
  refine l_i2l eL_190 (l_bipush (v := nI 32) eL_191 (by decide) (l_lshl eL_193 ?_))
  refine l_scr (d := 4) eL_194 eL_195 eL_196 eL_197 eL_198 (by decide) (by omega) hL ?_
  refine l_i2l eL_199 (l_ldc2 eL_200 cL_13 (l_land eL_203 (l_lor eL_204 ?_)))
  refine l_call (As := [.long (lwJ (xs (i + 1)) (xs (i + 2))), .long (lwJ (xs (i + 3)) (xs (i + 4)))]) (rest := []) eL_205 kL_15 ⟨by decide, by decide⟩ rfl (by decide) (by decide) rfl rfl (Nat.le_of_ble_eq_true rfl) (Nat.le_of_ble_eq_true rfl) (hC S hc) (fun r S1 h hR => ?_)
  obtain ⟨rfl, hc1, f1⟩ := h
  obtain ⟨y, rfl⟩ := int_of rfl hR
  have hm1 := hm.fr f1
  show lwP _ _ _ _ [.int y] _
  refine l_aload2 eL_208 ?_
  refine l_scr (d := 1) eL_209 eL_210 eL_211 eL_212 eL_213 (by decide) (by omega) hL ?_
  refine l_i2l eL_214 (l_bipush (v := nI 32) eL_215 (by decide) (l_lshl eL_217 ?_))
  refine l_scr (d := 2) eL_218 eL_219 eL_220 eL_221 eL_222 (by decide) (by omega) hL ?_
  refine l_i2l eL_223 (l_ldc2 eL_224 cL_13 (l_land eL_227 (l_lor eL_228 ?_)))
  refine l_scr (d := 3) eL_229 eL_230 eL_231 eL_232 eL_233 (by decide) (by omega) hL ?_
  refine l_i2l eL_234 (l_bipush (v := nI 32) eL_235 (by decide) (l_lshl eL_237 ?_))
  refine l_scr (d := 4) eL_238 eL_239 eL_240 eL_241 eL_242 (by decide) (by omega) hL ?_
  refine l_i2l eL_243 (l_ldc2 eL_244 cL_13 (l_land eL_247 (l_lor eL_248 ?_)))
  refine l_call (As := [.long (lwJ (xs (i + 1)) (xs (i + 2))), .long (lwJ (xs (i + 3)) (xs (i + 4)))]) (rest := [.int y]) eL_249 kL_19 ⟨by decide, by decide⟩ rfl (by decide) (by decide) rfl rfl (Nat.le_of_ble_eq_true rfl) (Nat.le_of_ble_eq_true rfl) (hM S1 hm1) (fun r S2 h hR => ?_)
  obtain ⟨rfl, hm2, f2⟩ := h
  have hc2 := hc1.fr f2
  show lwP _ _ _ _ [.int y, .int y] _
  exact l_icmp_eq eL_252 (k S2 X' w' hc2 hm2)
theorem law_1 {L i : Nat} {xs : Nat → Int32} {S : xS} {X : LM} (hi : i + 6 ≤ L) (hL : L ≤ 3072) (w : wf X) (hc : RC S X) (hm : RM S X) (k : ∀ S X, wf X → RC S X → RM S X → lwP L xs i 1214 [] S) : lwP L xs i 257 [] S := by
  obtain ⟨v, X', w', hC, hM⟩ := bj_at w (xs (i + 1)) (xs (i + 2))
  refine l_aload1 eL_257 ?_
  refine l_scr (d := 1) eL_258 eL_259 eL_260 eL_261 eL_262 (by decide) (by omega) hL ?_
  refine l_scr (d := 2) eL_263 eL_264 eL_265 eL_266 eL_267 (by decide) (by omega) hL ?_
  refine l_call (As := [.int (xs (i + 1)), .int (xs (i + 2))]) (rest := []) eL_268 kL_20 ⟨by decide, by decide⟩ rfl (by decide) (by decide) rfl rfl (Nat.le_of_ble_eq_true rfl) (Nat.le_of_ble_eq_true rfl) (hC S hc) (fun r S1 h hR => ?_)
  obtain ⟨rfl, hc1, f1⟩ := h
  have hm1 := hm.fr f1
  show lwP _ _ _ _ [.long v] _
  refine l_aload2 eL_271 ?_
  refine l_scr (d := 1) eL_272 eL_273 eL_274 eL_275 eL_276 (by decide) (by omega) hL ?_
  refine l_scr (d := 2) eL_277 eL_278 eL_279 eL_280 eL_281 (by decide) (by omega) hL ?_
  refine l_call (As := [.int (xs (i + 1)), .int (xs (i + 2))]) (rest := [.long v]) eL_282 kL_24 ⟨by decide, by decide⟩ rfl (by decide) (by decide) rfl rfl (Nat.le_of_ble_eq_true rfl) (Nat.le_of_ble_eq_true rfl) (hM S1 hm1) (fun r S2 h hR => ?_)
  obtain ⟨rfl, hm2, f2⟩ := h
  have hc2 := hc1.fr f2
  show lwP _ _ _ _ [.long v, .long v] _
  exact l_lcmp eL_285 (l_if_eq eL_286 (lg_self v) (k S2 X' w' hc2 hm2))
theorem law_2 {L i : Nat} {xs : Nat → Int32} {S : xS} {X : LM} (hi : i + 6 ≤ L) (hL : L ≤ 3072) (w : wf X) (hc : RC S X) (hm : RM S X) (k : ∀ S X, wf X → RC S X → RM S X → lwP L xs i 1214 [] S) : lwP L xs i 291 [] S := by
  obtain ⟨v, X', w', hC, hM⟩ := b_side w (xs (i + 1)) (xs (i + 2)) (xs (i + 3))
  refine l_aload1 eL_291 ?_
  refine l_scr (d := 1) eL_292 eL_293 eL_294 eL_295 eL_296 (by decide) (by omega) hL ?_
  refine l_scr (d := 2) eL_297 eL_298 eL_299 eL_300 eL_301 (by decide) (by omega) hL ?_
  refine l_scr (d := 3) eL_302 eL_303 eL_304 eL_305 eL_306 (by decide) (by omega) hL ?_
  refine l_call (As := [.int (xs (i + 1)), .int (xs (i + 2)), .int (xs (i + 3))]) (rest := []) eL_307 kL_25 ⟨by decide, by decide⟩ rfl (by decide) (by decide) rfl rfl (Nat.le_of_ble_eq_true rfl) (Nat.le_of_ble_eq_true rfl) (hC S hc) (fun r S1 h hR => ?_)
  obtain ⟨rfl, hc1, f1⟩ := h
  obtain ⟨y, rfl⟩ := int_of rfl hR
  have hm1 := hm.fr f1
  show lwP _ _ _ _ [.int y] _
  refine l_aload2 eL_310 ?_
  refine l_scr (d := 1) eL_311 eL_312 eL_313 eL_314 eL_315 (by decide) (by omega) hL ?_
  refine l_scr (d := 2) eL_316 eL_317 eL_318 eL_319 eL_320 (by decide) (by omega) hL ?_
  refine l_scr (d := 3) eL_321 eL_322 eL_323 eL_324 eL_325 (by decide) (by omega) hL ?_
  refine l_call (As := [.int (xs (i + 1)), .int (xs (i + 2)), .int (xs (i + 3))]) (rest := [.int y]) eL_326 kL_29 ⟨by decide, by decide⟩ rfl (by decide) (by decide) rfl rfl (Nat.le_of_ble_eq_true rfl) (Nat.le_of_ble_eq_true rfl) (hM S1 hm1) (fun r S2 h hR => ?_)
  obtain ⟨rfl, hm2, f2⟩ := h
  have hc2 := hc1.fr f2
  show lwP _ _ _ _ [.int y, .int y] _
  exact l_icmp_eq eL_329 (k S2 X' w' hc2 hm2)
theorem law_3 {L i : Nat} {xs : Nat → Int32} {S : xS} {X : LM} (hi : i + 6 ≤ L) (hL : L ≤ 3072) (w : wf X) (hc : RC S X) (hm : RM S X) (k : ∀ S X, wf X → RC S X → RM S X → lwP L xs i 1214 [] S) : lwP L xs i 334 [] S := by
  obtain ⟨v, X', w', hC, hM⟩ := b_sure w 
  refine l_aload1 eL_334 ?_
  refine l_call (As := []) (rest := []) eL_335 kL_30 ⟨by decide, by decide⟩ rfl (by decide) (by decide) rfl rfl (Nat.le_of_ble_eq_true rfl) (Nat.le_of_ble_eq_true rfl) (hC S hc) (fun r S1 h hR => ?_)
  obtain ⟨rfl, hc1, f1⟩ := h
  obtain ⟨y, rfl⟩ := int_of rfl hR
  have hm1 := hm.fr f1
  show lwP _ _ _ _ [.int y] _
  refine l_aload2 eL_338 ?_
  refine l_call (As := []) (rest := [.int y]) eL_339 kL_34 ⟨by decide, by decide⟩ rfl (by decide) (by decide) rfl rfl (Nat.le_of_ble_eq_true rfl) (Nat.le_of_ble_eq_true rfl) (hM S1 hm1) (fun r S2 h hR => ?_)
  obtain ⟨rfl, hm2, f2⟩ := h
  have hc2 := hc1.fr f2
  show lwP _ _ _ _ [.int y, .int y] _
  exact l_icmp_eq eL_342 (k S2 X' w' hc2 hm2)
theorem law_4 {L i : Nat} {xs : Nat → Int32} {S : xS} {X : LM} (hi : i + 6 ≤ L) (hL : L ≤ 3072) (w : wf X) (hc : RC S X) (hm : RM S X) (k : ∀ S X, wf X → RC S X → RM S X → lwP L xs i 1214 [] S) : lwP L xs i 347 [] S := by
  obtain ⟨v, X', w', hC, hM⟩ := b_cross w (xs (i + 1)) (xs (i + 2)) (xs (i + 3)) (xs (i + 4))
  refine l_aload1 eL_347 ?_
  refine l_scr (d := 1) eL_348 eL_349 eL_350 eL_351 eL_352 (by decide) (by omega) hL ?_
  refine l_scr (d := 2) eL_353 eL_354 eL_355 eL_356 eL_357 (by decide) (by omega) hL ?_
  refine l_scr (d := 3) eL_358 eL_359 eL_360 eL_361 eL_362 (by decide) (by omega) hL ?_
  refine l_scr (d := 4) eL_363 eL_364 eL_365 eL_366 eL_367 (by decide) (by omega) hL ?_
  refine l_call (As := [.int (xs (i + 1)), .int (xs (i + 2)), .int (xs (i + 3)), .int (xs (i + 4))]) (rest := []) eL_368 kL_35 ⟨by decide, by decide⟩ rfl (by decide) (by decide) rfl rfl (Nat.le_of_ble_eq_true rfl) (Nat.le_of_ble_eq_true rfl) (hC S hc) (fun r S1 h hR => ?_)
  obtain ⟨rfl, hc1, f1⟩ := h
  obtain ⟨y, rfl⟩ := int_of rfl hR
  have hm1 := hm.fr f1
  show lwP _ _ _ _ [.int y] _
  refine l_aload2 eL_371 ?_
  refine l_scr (d := 1) eL_372 eL_373 eL_374 eL_375 eL_376 (by decide) (by omega) hL ?_
  refine l_scr (d := 2) eL_377 eL_378 eL_379 eL_380 eL_381 (by decide) (by omega) hL ?_
  refine l_scr (d := 3) eL_382 eL_383 eL_384 eL_385 eL_386 (by decide) (by omega) hL ?_
  refine l_scr (d := 4) eL_387 eL_388 eL_389 eL_390 eL_391 (by decide) (by omega) hL ?_
  refine l_call (As := [.int (xs (i + 1)), .int (xs (i + 2)), .int (xs (i + 3)), .int (xs (i + 4))]) (rest := [.int y]) eL_392 kL_39 ⟨by decide, by decide⟩ rfl (by decide) (by decide) rfl rfl (Nat.le_of_ble_eq_true rfl) (Nat.le_of_ble_eq_true rfl) (hM S1 hm1) (fun r S2 h hR => ?_)
  obtain ⟨rfl, hm2, f2⟩ := h
  have hc2 := hc1.fr f2
  show lwP _ _ _ _ [.int y, .int y] _
  exact l_icmp_eq eL_395 (k S2 X' w' hc2 hm2)
theorem law_5 {L i : Nat} {xs : Nat → Int32} {S : xS} {X : LM} (hi : i + 6 ≤ L) (hL : L ≤ 3072) (w : wf X) (hc : RC S X) (hm : RM S X) (k : ∀ S X, wf X → RC S X → RM S X → lwP L xs i 1214 [] S) : lwP L xs i 400 [] S := by
  obtain ⟨v, X', w', hC, hM⟩ := b_nearest w (lwJ (xs (i + 1)) (xs (i + 2))) (lwJ (xs (i + 3)) (xs (i + 4)))
  refine l_aload1 eL_400 ?_
  refine l_scr (d := 1) eL_401 eL_402 eL_403 eL_404 eL_405 (by decide) (by omega) hL ?_
  refine l_i2l eL_406 (l_bipush (v := nI 32) eL_407 (by decide) (l_lshl eL_409 ?_))
  refine l_scr (d := 2) eL_410 eL_411 eL_412 eL_413 eL_414 (by decide) (by omega) hL ?_
  refine l_i2l eL_415 (l_ldc2 eL_416 cL_13 (l_land eL_419 (l_lor eL_420 ?_)))
  refine l_scr (d := 3) eL_421 eL_422 eL_423 eL_424 eL_425 (by decide) (by omega) hL ?_
  refine l_i2l eL_426 (l_bipush (v := nI 32) eL_427 (by decide) (l_lshl eL_429 ?_))
  refine l_scr (d := 4) eL_430 eL_431 eL_432 eL_433 eL_434 (by decide) (by omega) hL ?_
  refine l_i2l eL_435 (l_ldc2 eL_436 cL_13 (l_land eL_439 (l_lor eL_440 ?_)))
  refine l_call (As := [.long (lwJ (xs (i + 1)) (xs (i + 2))), .long (lwJ (xs (i + 3)) (xs (i + 4)))]) (rest := []) eL_441 kL_40 ⟨by decide, by decide⟩ rfl (by decide) (by decide) rfl rfl (Nat.le_of_ble_eq_true rfl) (Nat.le_of_ble_eq_true rfl) (hC S hc) (fun r S1 h hR => ?_)
  obtain ⟨rfl, hc1, f1⟩ := h
  obtain ⟨y, rfl⟩ := int_of rfl hR
  have hm1 := hm.fr f1
  show lwP _ _ _ _ [.int y] _
  refine l_aload2 eL_444 ?_
  refine l_scr (d := 1) eL_445 eL_446 eL_447 eL_448 eL_449 (by decide) (by omega) hL ?_
  refine l_i2l eL_450 (l_bipush (v := nI 32) eL_451 (by decide) (l_lshl eL_453 ?_))
  refine l_scr (d := 2) eL_454 eL_455 eL_456 eL_457 eL_458 (by decide) (by omega) hL ?_
  refine l_i2l eL_459 (l_ldc2 eL_460 cL_13 (l_land eL_463 (l_lor eL_464 ?_)))
  refine l_scr (d := 3) eL_465 eL_466 eL_467 eL_468 eL_469 (by decide) (by omega) hL ?_
  refine l_i2l eL_470 (l_bipush (v := nI 32) eL_471 (by decide) (l_lshl eL_473 ?_))
  refine l_scr (d := 4) eL_474 eL_475 eL_476 eL_477 eL_478 (by decide) (by omega) hL ?_
  refine l_i2l eL_479 (l_ldc2 eL_480 cL_13 (l_land eL_483 (l_lor eL_484 ?_)))
  refine l_call (As := [.long (lwJ (xs (i + 1)) (xs (i + 2))), .long (lwJ (xs (i + 3)) (xs (i + 4)))]) (rest := [.int y]) eL_485 kL_43 ⟨by decide, by decide⟩ rfl (by decide) (by decide) rfl rfl (Nat.le_of_ble_eq_true rfl) (Nat.le_of_ble_eq_true rfl) (hM S1 hm1) (fun r S2 h hR => ?_)
  obtain ⟨rfl, hm2, f2⟩ := h
  have hc2 := hc1.fr f2
  show lwP _ _ _ _ [.int y, .int y] _
  exact l_icmp_eq eL_488 (k S2 X' w' hc2 hm2)
theorem law_6 {L i : Nat} {xs : Nat → Int32} {S : xS} {X : LM} (hi : i + 6 ≤ L) (hL : L ≤ 3072) (w : wf X) (hc : RC S X) (hm : RM S X) (k : ∀ S X, wf X → RC S X → RM S X → lwP L xs i 1214 [] S) : lwP L xs i 493 [] S := by
  obtain ⟨v, X', w', hC, hM⟩ := b_draw w 
  refine l_aload1 eL_493 ?_
  refine l_call (As := []) (rest := []) eL_494 kL_44 ⟨by decide, by decide⟩ rfl (by decide) (by decide) rfl rfl (Nat.le_of_ble_eq_true rfl) (Nat.le_of_ble_eq_true rfl) (hC S hc) (fun r S1 h hR => ?_)
  obtain ⟨rfl, hc1, f1⟩ := h
  obtain ⟨y, rfl⟩ := int_of rfl hR
  have hm1 := hm.fr f1
  show lwP _ _ _ _ [.int y] _
  refine l_aload2 eL_497 ?_
  refine l_call (As := []) (rest := [.int y]) eL_498 kL_47 ⟨by decide, by decide⟩ rfl (by decide) (by decide) rfl rfl (Nat.le_of_ble_eq_true rfl) (Nat.le_of_ble_eq_true rfl) (hM S1 hm1) (fun r S2 h hR => ?_)
  obtain ⟨rfl, hm2, f2⟩ := h
  have hc2 := hc1.fr f2
  show lwP _ _ _ _ [.int y, .int y] _
  exact l_icmp_eq eL_501 (k S2 X' w' hc2 hm2)
theorem law_7 {L i : Nat} {xs : Nat → Int32} {S : xS} {X : LM} (hi : i + 6 ≤ L) (hL : L ≤ 3072) (w : wf X) (hc : RC S X) (hm : RM S X) (k : ∀ S X, wf X → RC S X → RM S X → lwP L xs i 1214 [] S) : lwP L xs i 506 [] S := by
  obtain ⟨v, X', w', hC, hM⟩ := b_add w (xs (i + 1))
  refine l_aload1 eL_506 ?_
  refine l_scr (d := 1) eL_507 eL_508 eL_509 eL_510 eL_511 (by decide) (by omega) hL ?_
  refine l_call (As := [.int (xs (i + 1))]) (rest := []) eL_512 kL_48 ⟨by decide, by decide⟩ rfl (by decide) (by decide) rfl rfl (Nat.le_of_ble_eq_true rfl) (Nat.le_of_ble_eq_true rfl) (hC S hc) (fun r S1 h hR => ?_)
  obtain ⟨rfl, hc1, f1⟩ := h
  obtain ⟨y, rfl⟩ := int_of rfl hR
  have hm1 := hm.fr f1
  show lwP _ _ _ _ [.int y] _
  refine l_aload2 eL_515 ?_
  refine l_scr (d := 1) eL_516 eL_517 eL_518 eL_519 eL_520 (by decide) (by omega) hL ?_
  refine l_call (As := [.int (xs (i + 1))]) (rest := [.int y]) eL_521 kL_52 ⟨by decide, by decide⟩ rfl (by decide) (by decide) rfl rfl (Nat.le_of_ble_eq_true rfl) (Nat.le_of_ble_eq_true rfl) (hM S1 hm1) (fun r S2 h hR => ?_)
  obtain ⟨rfl, hm2, f2⟩ := h
  have hc2 := hc1.fr f2
  show lwP _ _ _ _ [.int y, .int y] _
  exact l_icmp_eq eL_524 (k S2 X' w' hc2 hm2)
theorem law_8 {L i : Nat} {xs : Nat → Int32} {S : xS} {X : LM} (hi : i + 6 ≤ L) (hL : L ≤ 3072) (w : wf X) (hc : RC S X) (hm : RM S X) (k : ∀ S X, wf X → RC S X → RM S X → lwP L xs i 1214 [] S) : lwP L xs i 529 [] S := by
  obtain ⟨v, X', w', hC, hM⟩ := b_close w (xs (i + 1)) (xs (i + 2))
  refine l_aload1 eL_529 ?_
  refine l_scr (d := 1) eL_530 eL_531 eL_532 eL_533 eL_534 (by decide) (by omega) hL ?_
  refine l_scr (d := 2) eL_535 eL_536 eL_537 eL_538 eL_539 (by decide) (by omega) hL ?_
  refine l_call (As := [.int (xs (i + 1)), .int (xs (i + 2))]) (rest := []) eL_540 kL_53 ⟨by decide, by decide⟩ rfl (by decide) (by decide) rfl rfl (Nat.le_of_ble_eq_true rfl) (Nat.le_of_ble_eq_true rfl) (hC S hc) (fun r S1 h hR => ?_)
  obtain ⟨rfl, hc1, f1⟩ := h
  obtain ⟨y, rfl⟩ := int_of rfl hR
  have hm1 := hm.fr f1
  show lwP _ _ _ _ [.int y] _
  refine l_aload2 eL_543 ?_
  refine l_scr (d := 1) eL_544 eL_545 eL_546 eL_547 eL_548 (by decide) (by omega) hL ?_
  refine l_scr (d := 2) eL_549 eL_550 eL_551 eL_552 eL_553 (by decide) (by omega) hL ?_
  refine l_call (As := [.int (xs (i + 1)), .int (xs (i + 2))]) (rest := [.int y]) eL_554 kL_57 ⟨by decide, by decide⟩ rfl (by decide) (by decide) rfl rfl (Nat.le_of_ble_eq_true rfl) (Nat.le_of_ble_eq_true rfl) (hM S1 hm1) (fun r S2 h hR => ?_)
  obtain ⟨rfl, hm2, f2⟩ := h
  have hc2 := hc1.fr f2
  show lwP _ _ _ _ [.int y, .int y] _
  exact l_icmp_eq eL_557 (k S2 X' w' hc2 hm2)
theorem law_9 {L i : Nat} {xs : Nat → Int32} {S : xS} {X : LM} (hi : i + 6 ≤ L) (hL : L ≤ 3072) (w : wf X) (hc : RC S X) (hm : RM S X) (k : ∀ S X, wf X → RC S X → RM S X → lwP L xs i 1214 [] S) : lwP L xs i 562 [] S := by
  obtain ⟨v, X', w', hC, hM⟩ := b_where w 
  refine l_aload1 eL_562 ?_
  refine l_call (As := []) (rest := []) eL_563 kL_58 ⟨by decide, by decide⟩ rfl (by decide) (by decide) rfl rfl (Nat.le_of_ble_eq_true rfl) (Nat.le_of_ble_eq_true rfl) (hC S hc) (fun r S1 h hR => ?_)
  obtain ⟨rfl, hc1, f1⟩ := h
  obtain ⟨y, rfl⟩ := int_of rfl hR
  have hm1 := hm.fr f1
  show lwP _ _ _ _ [.int y] _
  refine l_aload2 eL_566 ?_
  refine l_call (As := []) (rest := [.int y]) eL_567 kL_61 ⟨by decide, by decide⟩ rfl (by decide) (by decide) rfl rfl (Nat.le_of_ble_eq_true rfl) (Nat.le_of_ble_eq_true rfl) (hM S1 hm1) (fun r S2 h hR => ?_)
  obtain ⟨rfl, hm2, f2⟩ := h
  have hc2 := hc1.fr f2
  show lwP _ _ _ _ [.int y, .int y] _
  exact l_icmp_eq eL_570 (k S2 X' w' hc2 hm2)
theorem law_10 {L i : Nat} {xs : Nat → Int32} {S : xS} {X : LM} (hi : i + 6 ≤ L) (hL : L ≤ 3072) (w : wf X) (hc : RC S X) (hm : RM S X) (k : ∀ S X, wf X → RC S X → RM S X → lwP L xs i 1214 [] S) : lwP L xs i 575 [] S := by
  obtain ⟨v, X', w', hC, hM⟩ := b_told w (xs (i + 1)) (xs (i + 2))
  refine l_aload1 eL_575 ?_
  refine l_scr (d := 1) eL_576 eL_577 eL_578 eL_579 eL_580 (by decide) (by omega) hL ?_
  refine l_scr (d := 2) eL_581 eL_582 eL_583 eL_584 eL_585 (by decide) (by omega) hL ?_
  refine l_call (As := [.int (xs (i + 1)), .int (xs (i + 2))]) (rest := []) eL_586 kL_62 ⟨by decide, by decide⟩ rfl (by decide) (by decide) rfl rfl (Nat.le_of_ble_eq_true rfl) (Nat.le_of_ble_eq_true rfl) (hC S hc) (fun r S1 h hR => ?_)
  obtain ⟨rfl, hc1, f1⟩ := h
  obtain ⟨y, rfl⟩ := int_of rfl hR
  have hm1 := hm.fr f1
  show lwP _ _ _ _ [.int y] _
  refine l_aload2 eL_589 ?_
  refine l_scr (d := 1) eL_590 eL_591 eL_592 eL_593 eL_594 (by decide) (by omega) hL ?_
  refine l_scr (d := 2) eL_595 eL_596 eL_597 eL_598 eL_599 (by decide) (by omega) hL ?_
  refine l_call (As := [.int (xs (i + 1)), .int (xs (i + 2))]) (rest := [.int y]) eL_600 kL_65 ⟨by decide, by decide⟩ rfl (by decide) (by decide) rfl rfl (Nat.le_of_ble_eq_true rfl) (Nat.le_of_ble_eq_true rfl) (hM S1 hm1) (fun r S2 h hR => ?_)
  obtain ⟨rfl, hm2, f2⟩ := h
  have hc2 := hc1.fr f2
  show lwP _ _ _ _ [.int y, .int y] _
  exact l_icmp_eq eL_603 (k S2 X' w' hc2 hm2)
theorem law_11 {L i : Nat} {xs : Nat → Int32} {S : xS} {X : LM} (hi : i + 6 ≤ L) (hL : L ≤ 3072) (w : wf X) (hc : RC S X) (hm : RM S X) (k : ∀ S X, wf X → RC S X → RM S X → lwP L xs i 1214 [] S) : lwP L xs i 608 [] S := by
  obtain ⟨v, X', w', hC, hM⟩ := b_give w (xs (i + 1)) (xs (i + 2))
  refine l_aload1 eL_608 ?_
  refine l_scr (d := 1) eL_609 eL_610 eL_611 eL_612 eL_613 (by decide) (by omega) hL ?_
  refine l_scr (d := 2) eL_614 eL_615 eL_616 eL_617 eL_618 (by decide) (by omega) hL ?_
  refine l_call (As := [.int (xs (i + 1)), .int (xs (i + 2))]) (rest := []) eL_619 kL_66 ⟨by decide, by decide⟩ rfl (by decide) (by decide) rfl rfl (Nat.le_of_ble_eq_true rfl) (Nat.le_of_ble_eq_true rfl) (hC S hc) (fun r S1 h hR => ?_)
  obtain ⟨rfl, hc1, f1⟩ := h
  obtain ⟨y, rfl⟩ := int_of rfl hR
  have hm1 := hm.fr f1
  show lwP _ _ _ _ [.int y] _
  refine l_aload2 eL_622 ?_
  refine l_scr (d := 1) eL_623 eL_624 eL_625 eL_626 eL_627 (by decide) (by omega) hL ?_
  refine l_scr (d := 2) eL_628 eL_629 eL_630 eL_631 eL_632 (by decide) (by omega) hL ?_
  refine l_call (As := [.int (xs (i + 1)), .int (xs (i + 2))]) (rest := [.int y]) eL_633 kL_69 ⟨by decide, by decide⟩ rfl (by decide) (by decide) rfl rfl (Nat.le_of_ble_eq_true rfl) (Nat.le_of_ble_eq_true rfl) (hM S1 hm1) (fun r S2 h hR => ?_)
  obtain ⟨rfl, hm2, f2⟩ := h
  have hc2 := hc1.fr f2
  show lwP _ _ _ _ [.int y, .int y] _
  exact l_icmp_eq eL_636 (k S2 X' w' hc2 hm2)
theorem law_12 {L i : Nat} {xs : Nat → Int32} {S : xS} {X : LM} (hi : i + 6 ≤ L) (hL : L ≤ 3072) (w : wf X) (hc : RC S X) (hm : RM S X) (k : ∀ S X, wf X → RC S X → RM S X → lwP L xs i 1214 [] S) : lwP L xs i 641 [] S := by
  obtain ⟨v, X', w', hC, hM⟩ := b_drop w (xs (i + 1))
  refine l_aload1 eL_641 ?_
  refine l_scr (d := 1) eL_642 eL_643 eL_644 eL_645 eL_646 (by decide) (by omega) hL ?_
  refine l_call (As := [.int (xs (i + 1))]) (rest := []) eL_647 kL_70 ⟨by decide, by decide⟩ rfl (by decide) (by decide) rfl rfl (Nat.le_of_ble_eq_true rfl) (Nat.le_of_ble_eq_true rfl) (hC S hc) (fun r S1 h hR => ?_)
  obtain ⟨rfl, hc1, f1⟩ := h
  obtain ⟨y, rfl⟩ := int_of rfl hR
  have hm1 := hm.fr f1
  show lwP _ _ _ _ [.int y] _
  refine l_aload2 eL_650 ?_
  refine l_scr (d := 1) eL_651 eL_652 eL_653 eL_654 eL_655 (by decide) (by omega) hL ?_
  refine l_call (As := [.int (xs (i + 1))]) (rest := [.int y]) eL_656 kL_73 ⟨by decide, by decide⟩ rfl (by decide) (by decide) rfl rfl (Nat.le_of_ble_eq_true rfl) (Nat.le_of_ble_eq_true rfl) (hM S1 hm1) (fun r S2 h hR => ?_)
  obtain ⟨rfl, hm2, f2⟩ := h
  have hc2 := hc1.fr f2
  show lwP _ _ _ _ [.int y, .int y] _
  exact l_icmp_eq eL_659 (k S2 X' w' hc2 hm2)
theorem law_13 {L i : Nat} {xs : Nat → Int32} {S : xS} {X : LM} (hi : i + 6 ≤ L) (hL : L ≤ 3072) (w : wf X) (hc : RC S X) (hm : RM S X) (k : ∀ S X, wf X → RC S X → RM S X → lwP L xs i 1214 [] S) : lwP L xs i 664 [] S := by
  obtain ⟨v, X', w', hC, hM⟩ := b_split w (xs (i + 1)) (xs (i + 2)) (xs (i + 3)) (xs (i + 4))
  refine l_aload1 eL_664 ?_
  refine l_scr (d := 1) eL_665 eL_666 eL_667 eL_668 eL_669 (by decide) (by omega) hL ?_
  refine l_scr (d := 2) eL_670 eL_671 eL_672 eL_673 eL_674 (by decide) (by omega) hL ?_
  refine l_scr (d := 3) eL_675 eL_676 eL_677 eL_678 eL_679 (by decide) (by omega) hL ?_
  refine l_scr (d := 4) eL_680 eL_681 eL_682 eL_683 eL_684 (by decide) (by omega) hL ?_
  refine l_call (As := [.int (xs (i + 1)), .int (xs (i + 2)), .int (xs (i + 3)), .int (xs (i + 4))]) (rest := []) eL_685 kL_74 ⟨by decide, by decide⟩ rfl (by decide) (by decide) rfl rfl (Nat.le_of_ble_eq_true rfl) (Nat.le_of_ble_eq_true rfl) (hC S hc) (fun r S1 h hR => ?_)
  obtain ⟨rfl, hc1, f1⟩ := h
  obtain ⟨y, rfl⟩ := int_of rfl hR
  have hm1 := hm.fr f1
  show lwP _ _ _ _ [.int y] _
  refine l_aload2 eL_688 ?_
  refine l_scr (d := 1) eL_689 eL_690 eL_691 eL_692 eL_693 (by decide) (by omega) hL ?_
  refine l_scr (d := 2) eL_694 eL_695 eL_696 eL_697 eL_698 (by decide) (by omega) hL ?_
  refine l_scr (d := 3) eL_699 eL_700 eL_701 eL_702 eL_703 (by decide) (by omega) hL ?_
  refine l_scr (d := 4) eL_704 eL_705 eL_706 eL_707 eL_708 (by decide) (by omega) hL ?_
  refine l_call (As := [.int (xs (i + 1)), .int (xs (i + 2)), .int (xs (i + 3)), .int (xs (i + 4))]) (rest := [.int y]) eL_709 kL_77 ⟨by decide, by decide⟩ rfl (by decide) (by decide) rfl rfl (Nat.le_of_ble_eq_true rfl) (Nat.le_of_ble_eq_true rfl) (hM S1 hm1) (fun r S2 h hR => ?_)
  obtain ⟨rfl, hm2, f2⟩ := h
  have hc2 := hc1.fr f2
  show lwP _ _ _ _ [.int y, .int y] _
  exact l_icmp_eq eL_712 (k S2 X' w' hc2 hm2)
theorem law_14 {L i : Nat} {xs : Nat → Int32} {S : xS} {X : LM} (hi : i + 6 ≤ L) (hL : L ≤ 3072) (w : wf X) (hc : RC S X) (hm : RM S X) (k : ∀ S X, wf X → RC S X → RM S X → lwP L xs i 1214 [] S) : lwP L xs i 717 [] S := by
  obtain ⟨v, X', w', hC, hM⟩ := b_join w (xs (i + 1)) (xs (i + 2))
  refine l_aload1 eL_717 ?_
  refine l_scr (d := 1) eL_718 eL_719 eL_720 eL_721 eL_722 (by decide) (by omega) hL ?_
  refine l_scr (d := 2) eL_723 eL_724 eL_725 eL_726 eL_727 (by decide) (by omega) hL ?_
  refine l_call (As := [.int (xs (i + 1)), .int (xs (i + 2))]) (rest := []) eL_728 kL_78 ⟨by decide, by decide⟩ rfl (by decide) (by decide) rfl rfl (Nat.le_of_ble_eq_true rfl) (Nat.le_of_ble_eq_true rfl) (hC S hc) (fun r S1 h hR => ?_)
  obtain ⟨rfl, hc1, f1⟩ := h
  obtain ⟨y, rfl⟩ := int_of rfl hR
  have hm1 := hm.fr f1
  show lwP _ _ _ _ [.int y] _
  refine l_aload2 eL_731 ?_
  refine l_scr (d := 1) eL_732 eL_733 eL_734 eL_735 eL_736 (by decide) (by omega) hL ?_
  refine l_scr (d := 2) eL_737 eL_738 eL_739 eL_740 eL_741 (by decide) (by omega) hL ?_
  refine l_call (As := [.int (xs (i + 1)), .int (xs (i + 2))]) (rest := [.int y]) eL_742 kL_81 ⟨by decide, by decide⟩ rfl (by decide) (by decide) rfl rfl (Nat.le_of_ble_eq_true rfl) (Nat.le_of_ble_eq_true rfl) (hM S1 hm1) (fun r S2 h hR => ?_)
  obtain ⟨rfl, hm2, f2⟩ := h
  have hc2 := hc1.fr f2
  show lwP _ _ _ _ [.int y, .int y] _
  exact l_icmp_eq eL_745 (k S2 X' w' hc2 hm2)
theorem law_15 {L i : Nat} {xs : Nat → Int32} {S : xS} {X : LM} (hi : i + 6 ≤ L) (hL : L ≤ 3072) (w : wf X) (hc : RC S X) (hm : RM S X) (k : ∀ S X, wf X → RC S X → RM S X → lwP L xs i 1214 [] S) : lwP L xs i 750 [] S := by
  obtain ⟨v, X', w', hC, hM⟩ := b_move w (xs (i + 1)) (xs (i + 2)) (xs (i + 3))
  refine l_aload1 eL_750 ?_
  refine l_scr (d := 1) eL_751 eL_752 eL_753 eL_754 eL_755 (by decide) (by omega) hL ?_
  refine l_scr (d := 2) eL_756 eL_757 eL_758 eL_759 eL_760 (by decide) (by omega) hL ?_
  refine l_scr (d := 3) eL_761 eL_762 eL_763 eL_764 eL_765 (by decide) (by omega) hL ?_
  refine l_call (As := [.int (xs (i + 1)), .int (xs (i + 2)), .int (xs (i + 3))]) (rest := []) eL_766 kL_82 ⟨by decide, by decide⟩ rfl (by decide) (by decide) rfl rfl (Nat.le_of_ble_eq_true rfl) (Nat.le_of_ble_eq_true rfl) (hC S hc) (fun r S1 h hR => ?_)
  obtain ⟨rfl, hc1, f1⟩ := h
  obtain ⟨y, rfl⟩ := int_of rfl hR
  have hm1 := hm.fr f1
  show lwP _ _ _ _ [.int y] _
  refine l_aload2 eL_769 ?_
  refine l_scr (d := 1) eL_770 eL_771 eL_772 eL_773 eL_774 (by decide) (by omega) hL ?_
  refine l_scr (d := 2) eL_775 eL_776 eL_777 eL_778 eL_779 (by decide) (by omega) hL ?_
  refine l_scr (d := 3) eL_780 eL_781 eL_782 eL_783 eL_784 (by decide) (by omega) hL ?_
  refine l_call (As := [.int (xs (i + 1)), .int (xs (i + 2)), .int (xs (i + 3))]) (rest := [.int y]) eL_785 kL_85 ⟨by decide, by decide⟩ rfl (by decide) (by decide) rfl rfl (Nat.le_of_ble_eq_true rfl) (Nat.le_of_ble_eq_true rfl) (hM S1 hm1) (fun r S2 h hR => ?_)
  obtain ⟨rfl, hm2, f2⟩ := h
  have hc2 := hc1.fr f2
  show lwP _ _ _ _ [.int y, .int y] _
  exact l_icmp_eq eL_788 (k S2 X' w' hc2 hm2)
theorem law_16 {L i : Nat} {xs : Nat → Int32} {S : xS} {X : LM} (hi : i + 6 ≤ L) (hL : L ≤ 3072) (w : wf X) (hc : RC S X) (hm : RM S X) (k : ∀ S X, wf X → RC S X → RM S X → lwP L xs i 1214 [] S) : lwP L xs i 793 [] S := by
  obtain ⟨v, X', w', hC, hM⟩ := b_border w (xs (i + 1)) (xs (i + 2))
  refine l_aload1 eL_793 ?_
  refine l_scr (d := 1) eL_794 eL_795 eL_796 eL_797 eL_798 (by decide) (by omega) hL ?_
  refine l_scr (d := 2) eL_799 eL_800 eL_801 eL_802 eL_803 (by decide) (by omega) hL ?_
  refine l_call (As := [.int (xs (i + 1)), .int (xs (i + 2))]) (rest := []) eL_804 kL_86 ⟨by decide, by decide⟩ rfl (by decide) (by decide) rfl rfl (Nat.le_of_ble_eq_true rfl) (Nat.le_of_ble_eq_true rfl) (hC S hc) (fun r S1 h hR => ?_)
  obtain ⟨rfl, hc1, f1⟩ := h
  obtain ⟨y, rfl⟩ := int_of rfl hR
  have hm1 := hm.fr f1
  show lwP _ _ _ _ [.int y] _
  refine l_aload2 eL_807 ?_
  refine l_scr (d := 1) eL_808 eL_809 eL_810 eL_811 eL_812 (by decide) (by omega) hL ?_
  refine l_scr (d := 2) eL_813 eL_814 eL_815 eL_816 eL_817 (by decide) (by omega) hL ?_
  refine l_call (As := [.int (xs (i + 1)), .int (xs (i + 2))]) (rest := [.int y]) eL_818 kL_89 ⟨by decide, by decide⟩ rfl (by decide) (by decide) rfl rfl (Nat.le_of_ble_eq_true rfl) (Nat.le_of_ble_eq_true rfl) (hM S1 hm1) (fun r S2 h hR => ?_)
  obtain ⟨rfl, hm2, f2⟩ := h
  have hc2 := hc1.fr f2
  show lwP _ _ _ _ [.int y, .int y] _
  exact l_icmp_eq eL_821 (k S2 X' w' hc2 hm2)
theorem law_17 {L i : Nat} {xs : Nat → Int32} {S : xS} {X : LM} (hi : i + 6 ≤ L) (hL : L ≤ 3072) (w : wf X) (hc : RC S X) (hm : RM S X) (k : ∀ S X, wf X → RC S X → RM S X → lwP L xs i 1214 [] S) : lwP L xs i 826 [] S := by
  obtain ⟨v, X', w', hC, hM⟩ := b_neighbour w (xs (i + 1)) (xs (i + 2))
  refine l_aload1 eL_826 ?_
  refine l_scr (d := 1) eL_827 eL_828 eL_829 eL_830 eL_831 (by decide) (by omega) hL ?_
  refine l_scr (d := 2) eL_832 eL_833 eL_834 eL_835 eL_836 (by decide) (by omega) hL ?_
  refine l_call (As := [.int (xs (i + 1)), .int (xs (i + 2))]) (rest := []) eL_837 kL_90 ⟨by decide, by decide⟩ rfl (by decide) (by decide) rfl rfl (Nat.le_of_ble_eq_true rfl) (Nat.le_of_ble_eq_true rfl) (hC S hc) (fun r S1 h hR => ?_)
  obtain ⟨rfl, hc1, f1⟩ := h
  obtain ⟨y, rfl⟩ := int_of rfl hR
  have hm1 := hm.fr f1
  show lwP _ _ _ _ [.int y] _
  refine l_aload2 eL_840 ?_
  refine l_scr (d := 1) eL_841 eL_842 eL_843 eL_844 eL_845 (by decide) (by omega) hL ?_
  refine l_scr (d := 2) eL_846 eL_847 eL_848 eL_849 eL_850 (by decide) (by omega) hL ?_
  refine l_call (As := [.int (xs (i + 1)), .int (xs (i + 2))]) (rest := [.int y]) eL_851 kL_93 ⟨by decide, by decide⟩ rfl (by decide) (by decide) rfl rfl (Nat.le_of_ble_eq_true rfl) (Nat.le_of_ble_eq_true rfl) (hM S1 hm1) (fun r S2 h hR => ?_)
  obtain ⟨rfl, hm2, f2⟩ := h
  have hc2 := hc1.fr f2
  show lwP _ _ _ _ [.int y, .int y] _
  exact l_icmp_eq eL_854 (k S2 X' w' hc2 hm2)
theorem law_18 {L i : Nat} {xs : Nat → Int32} {S : xS} {X : LM} (hi : i + 6 ≤ L) (hL : L ≤ 3072) (w : wf X) (hc : RC S X) (hm : RM S X) (k : ∀ S X, wf X → RC S X → RM S X → lwP L xs i 1214 [] S) : lwP L xs i 859 [] S := by
  obtain ⟨v, X', w', hC, hM⟩ := b_locate w (xs (i + 1)) (lwJ (xs (i + 2)) (xs (i + 3))) (lwJ (xs (i + 4)) (xs (i + 5)))
  refine l_aload1 eL_859 ?_
  refine l_scr (d := 1) eL_860 eL_861 eL_862 eL_863 eL_864 (by decide) (by omega) hL ?_
  refine l_scr (d := 2) eL_865 eL_866 eL_867 eL_868 eL_869 (by decide) (by omega) hL ?_
  refine l_i2l eL_870 (l_bipush (v := nI 32) eL_871 (by decide) (l_lshl eL_873 ?_))
  refine l_scr (d := 3) eL_874 eL_875 eL_876 eL_877 eL_878 (by decide) (by omega) hL ?_
  refine l_i2l eL_879 (l_ldc2 eL_880 cL_13 (l_land eL_883 (l_lor eL_884 ?_)))
  refine l_scr (d := 4) eL_885 eL_886 eL_887 eL_888 eL_889 (by decide) (by omega) hL ?_
  refine l_i2l eL_890 (l_bipush (v := nI 32) eL_891 (by decide) (l_lshl eL_893 ?_))
  refine l_scr (d := 5) eL_894 eL_895 eL_896 eL_897 eL_898 (by decide) (by omega) hL ?_
  refine l_i2l eL_899 (l_ldc2 eL_900 cL_13 (l_land eL_903 (l_lor eL_904 ?_)))
  refine l_call (As := [.int (xs (i + 1)), .long (lwJ (xs (i + 2)) (xs (i + 3))), .long (lwJ (xs (i + 4)) (xs (i + 5)))]) (rest := []) eL_905 kL_94 ⟨by decide, by decide⟩ rfl (by decide) (by decide) rfl rfl (Nat.le_of_ble_eq_true rfl) (Nat.le_of_ble_eq_true rfl) (hC S hc) (fun r S1 h hR => ?_)
  obtain ⟨rfl, hc1, f1⟩ := h
  obtain ⟨y, rfl⟩ := int_of rfl hR
  have hm1 := hm.fr f1
  show lwP _ _ _ _ [.int y] _
  refine l_aload2 eL_908 ?_
  refine l_scr (d := 1) eL_909 eL_910 eL_911 eL_912 eL_913 (by decide) (by omega) hL ?_
  refine l_scr (d := 2) eL_914 eL_915 eL_916 eL_917 eL_918 (by decide) (by omega) hL ?_
  refine l_i2l eL_919 (l_bipush (v := nI 32) eL_920 (by decide) (l_lshl eL_922 ?_))
  refine l_scr (d := 3) eL_923 eL_924 eL_925 eL_926 eL_927 (by decide) (by omega) hL ?_
  refine l_i2l eL_928 (l_ldc2 eL_929 cL_13 (l_land eL_932 (l_lor eL_933 ?_)))
  refine l_scr (d := 4) eL_934 eL_935 eL_936 eL_937 eL_938 (by decide) (by omega) hL ?_
  refine l_i2l eL_939 (l_bipush (v := nI 32) eL_940 (by decide) (l_lshl eL_942 ?_))
  refine l_scr (d := 5) eL_943 eL_944 eL_945 eL_946 eL_947 (by decide) (by omega) hL ?_
  refine l_i2l eL_948 (l_ldc2 eL_949 cL_13 (l_land eL_952 (l_lor eL_953 ?_)))
  refine l_call (As := [.int (xs (i + 1)), .long (lwJ (xs (i + 2)) (xs (i + 3))), .long (lwJ (xs (i + 4)) (xs (i + 5)))]) (rest := [.int y]) eL_954 kL_98 ⟨by decide, by decide⟩ rfl (by decide) (by decide) rfl rfl (Nat.le_of_ble_eq_true rfl) (Nat.le_of_ble_eq_true rfl) (hM S1 hm1) (fun r S2 h hR => ?_)
  obtain ⟨rfl, hm2, f2⟩ := h
  have hc2 := hc1.fr f2
  show lwP _ _ _ _ [.int y, .int y] _
  exact l_icmp_eq eL_957 (k S2 X' w' hc2 hm2)
theorem law_19 {L i : Nat} {xs : Nat → Int32} {S : xS} {X : LM} (hi : i + 6 ≤ L) (hL : L ≤ 3072) (w : wf X) (hc : RC S X) (hm : RM S X) (k : ∀ S X, wf X → RC S X → RM S X → lwP L xs i 1214 [] S) : lwP L xs i 962 [] S := by
  obtain ⟨v, X', w', hC, hM⟩ := b_edge w 
  refine l_aload1 eL_962 ?_
  refine l_call (As := []) (rest := []) eL_963 kL_99 ⟨by decide, by decide⟩ rfl (by decide) (by decide) rfl rfl (Nat.le_of_ble_eq_true rfl) (Nat.le_of_ble_eq_true rfl) (hC S hc) (fun r S1 h hR => ?_)
  obtain ⟨rfl, hc1, f1⟩ := h
  obtain ⟨y, rfl⟩ := int_of rfl hR
  have hm1 := hm.fr f1
  show lwP _ _ _ _ [.int y] _
  refine l_aload2 eL_966 ?_
  refine l_call (As := []) (rest := [.int y]) eL_967 kL_102 ⟨by decide, by decide⟩ rfl (by decide) (by decide) rfl rfl (Nat.le_of_ble_eq_true rfl) (Nat.le_of_ble_eq_true rfl) (hM S1 hm1) (fun r S2 h hR => ?_)
  obtain ⟨rfl, hm2, f2⟩ := h
  have hc2 := hc1.fr f2
  show lwP _ _ _ _ [.int y, .int y] _
  exact l_icmp_eq eL_970 (k S2 X' w' hc2 hm2)
theorem law_20 {L i : Nat} {xs : Nat → Int32} {S : xS} {X : LM} (hi : i + 6 ≤ L) (hL : L ≤ 3072) (w : wf X) (hc : RC S X) (hm : RM S X) (k : ∀ S X, wf X → RC S X → RM S X → lwP L xs i 1214 [] S) : lwP L xs i 975 [] S := by
  obtain ⟨v, X', w', hC, hM⟩ := b_walk w (xs (i + 1)) (xs (i + 2)) (xs (i + 3)) (xs (i + 4))
  refine l_aload1 eL_975 ?_
  refine l_scr (d := 1) eL_976 eL_977 eL_978 eL_979 eL_980 (by decide) (by omega) hL ?_
  refine l_scr (d := 2) eL_981 eL_982 eL_983 eL_984 eL_985 (by decide) (by omega) hL ?_
  refine l_scr (d := 3) eL_986 eL_987 eL_988 eL_989 eL_990 (by decide) (by omega) hL ?_
  refine l_scr (d := 4) eL_991 eL_992 eL_993 eL_994 eL_995 (by decide) (by omega) hL ?_
  refine l_call (As := [.int (xs (i + 1)), .int (xs (i + 2)), .int (xs (i + 3)), .int (xs (i + 4))]) (rest := []) eL_996 kL_103 ⟨by decide, by decide⟩ rfl (by decide) (by decide) rfl rfl (Nat.le_of_ble_eq_true rfl) (Nat.le_of_ble_eq_true rfl) (hC S hc) (fun r S1 h hR => ?_)
  obtain ⟨rfl, hc1, f1⟩ := h
  obtain ⟨y, rfl⟩ := int_of rfl hR
  have hm1 := hm.fr f1
  show lwP _ _ _ _ [.int y] _
  refine l_aload2 eL_999 ?_
  refine l_scr (d := 1) eL_1000 eL_1001 eL_1002 eL_1003 eL_1004 (by decide) (by omega) hL ?_
  refine l_scr (d := 2) eL_1005 eL_1006 eL_1007 eL_1008 eL_1009 (by decide) (by omega) hL ?_
  refine l_scr (d := 3) eL_1010 eL_1011 eL_1012 eL_1013 eL_1014 (by decide) (by omega) hL ?_
  refine l_scr (d := 4) eL_1015 eL_1016 eL_1017 eL_1018 eL_1019 (by decide) (by omega) hL ?_
  refine l_call (As := [.int (xs (i + 1)), .int (xs (i + 2)), .int (xs (i + 3)), .int (xs (i + 4))]) (rest := [.int y]) eL_1020 kL_106 ⟨by decide, by decide⟩ rfl (by decide) (by decide) rfl rfl (Nat.le_of_ble_eq_true rfl) (Nat.le_of_ble_eq_true rfl) (hM S1 hm1) (fun r S2 h hR => ?_)
  obtain ⟨rfl, hm2, f2⟩ := h
  have hc2 := hc1.fr f2
  show lwP _ _ _ _ [.int y, .int y] _
  exact l_icmp_eq eL_1023 (k S2 X' w' hc2 hm2)
theorem law_21 {L i : Nat} {xs : Nat → Int32} {S : xS} {X : LM} (hi : i + 6 ≤ L) (hL : L ≤ 3072) (w : wf X) (hc : RC S X) (hm : RM S X) (k : ∀ S X, wf X → RC S X → RM S X → lwP L xs i 1214 [] S) : lwP L xs i 1028 [] S := by
  obtain ⟨v, X', w', hC, hM⟩ := b_hull w (xs (i + 1))
  refine l_aload1 eL_1028 ?_
  refine l_scr (d := 1) eL_1029 eL_1030 eL_1031 eL_1032 eL_1033 (by decide) (by omega) hL ?_
  refine l_call (As := [.int (xs (i + 1))]) (rest := []) eL_1034 kL_107 ⟨by decide, by decide⟩ rfl (by decide) (by decide) rfl rfl (Nat.le_of_ble_eq_true rfl) (Nat.le_of_ble_eq_true rfl) (hC S hc) (fun r S1 h hR => ?_)
  obtain ⟨rfl, hc1, f1⟩ := h
  obtain ⟨y, rfl⟩ := int_of rfl hR
  have hm1 := hm.fr f1
  show lwP _ _ _ _ [.int y] _
  refine l_aload2 eL_1037 ?_
  refine l_scr (d := 1) eL_1038 eL_1039 eL_1040 eL_1041 eL_1042 (by decide) (by omega) hL ?_
  refine l_call (As := [.int (xs (i + 1))]) (rest := [.int y]) eL_1043 kL_110 ⟨by decide, by decide⟩ rfl (by decide) (by decide) rfl rfl (Nat.le_of_ble_eq_true rfl) (Nat.le_of_ble_eq_true rfl) (hM S1 hm1) (fun r S2 h hR => ?_)
  obtain ⟨rfl, hm2, f2⟩ := h
  have hc2 := hc1.fr f2
  show lwP _ _ _ _ [.int y, .int y] _
  exact l_icmp_eq eL_1046 (k S2 X' w' hc2 hm2)
theorem law_22 {L i : Nat} {xs : Nat → Int32} {S : xS} {X : LM} (hi : i + 6 ≤ L) (hL : L ≤ 3072) (w : wf X) (hc : RC S X) (hm : RM S X) (k : ∀ S X, wf X → RC S X → RM S X → lwP L xs i 1214 [] S) : lwP L xs i 1051 [] S := by
  obtain ⟨v, X', w', hC, hM⟩ := b_hullAt w (xs (i + 1))
  refine l_aload1 eL_1051 ?_
  refine l_scr (d := 1) eL_1052 eL_1053 eL_1054 eL_1055 eL_1056 (by decide) (by omega) hL ?_
  refine l_call (As := [.int (xs (i + 1))]) (rest := []) eL_1057 kL_111 ⟨by decide, by decide⟩ rfl (by decide) (by decide) rfl rfl (Nat.le_of_ble_eq_true rfl) (Nat.le_of_ble_eq_true rfl) (hC S hc) (fun r S1 h hR => ?_)
  obtain ⟨rfl, hc1, f1⟩ := h
  obtain ⟨y, rfl⟩ := int_of rfl hR
  have hm1 := hm.fr f1
  show lwP _ _ _ _ [.int y] _
  refine l_aload2 eL_1060 ?_
  refine l_scr (d := 1) eL_1061 eL_1062 eL_1063 eL_1064 eL_1065 (by decide) (by omega) hL ?_
  refine l_call (As := [.int (xs (i + 1))]) (rest := [.int y]) eL_1066 kL_114 ⟨by decide, by decide⟩ rfl (by decide) (by decide) rfl rfl (Nat.le_of_ble_eq_true rfl) (Nat.le_of_ble_eq_true rfl) (hM S1 hm1) (fun r S2 h hR => ?_)
  obtain ⟨rfl, hm2, f2⟩ := h
  have hc2 := hc1.fr f2
  show lwP _ _ _ _ [.int y, .int y] _
  exact l_icmp_eq eL_1069 (k S2 X' w' hc2 hm2)
theorem law_23 {L i : Nat} {xs : Nat → Int32} {S : xS} {X : LM} (hi : i + 6 ≤ L) (hL : L ≤ 3072) (w : wf X) (hc : RC S X) (hm : RM S X) (k : ∀ S X, wf X → RC S X → RM S X → lwP L xs i 1214 [] S) : lwP L xs i 1074 [] S := by
  obtain ⟨v, X', w', hC, hM⟩ := bj_twice w (xs (i + 1))
  refine l_aload1 eL_1074 ?_
  refine l_scr (d := 1) eL_1075 eL_1076 eL_1077 eL_1078 eL_1079 (by decide) (by omega) hL ?_
  refine l_call (As := [.int (xs (i + 1))]) (rest := []) eL_1080 kL_115 ⟨by decide, by decide⟩ rfl (by decide) (by decide) rfl rfl (Nat.le_of_ble_eq_true rfl) (Nat.le_of_ble_eq_true rfl) (hC S hc) (fun r S1 h hR => ?_)
  obtain ⟨rfl, hc1, f1⟩ := h
  have hm1 := hm.fr f1
  show lwP _ _ _ _ [.long v] _
  refine l_aload2 eL_1083 ?_
  refine l_scr (d := 1) eL_1084 eL_1085 eL_1086 eL_1087 eL_1088 (by decide) (by omega) hL ?_
  refine l_call (As := [.int (xs (i + 1))]) (rest := [.long v]) eL_1089 kL_119 ⟨by decide, by decide⟩ rfl (by decide) (by decide) rfl rfl (Nat.le_of_ble_eq_true rfl) (Nat.le_of_ble_eq_true rfl) (hM S1 hm1) (fun r S2 h hR => ?_)
  obtain ⟨rfl, hm2, f2⟩ := h
  have hc2 := hc1.fr f2
  show lwP _ _ _ _ [.long v, .long v] _
  exact l_lcmp eL_1092 (l_if_eq eL_1093 (lg_self v) (k S2 X' w' hc2 hm2))
theorem law_24 {L i : Nat} {xs : Nat → Int32} {S : xS} {X : LM} (hi : i + 6 ≤ L) (hL : L ≤ 3072) (w : wf X) (hc : RC S X) (hm : RM S X) (k : ∀ S X, wf X → RC S X → RM S X → lwP L xs i 1214 [] S) : lwP L xs i 1098 [] S := by
  obtain ⟨v, X', w', hC, hM⟩ := b_compare w (xs (i + 1)) (xs (i + 2))
  refine l_aload1 eL_1098 ?_
  refine l_scr (d := 1) eL_1099 eL_1100 eL_1101 eL_1102 eL_1103 (by decide) (by omega) hL ?_
  refine l_scr (d := 2) eL_1104 eL_1105 eL_1106 eL_1107 eL_1108 (by decide) (by omega) hL ?_
  refine l_call (As := [.int (xs (i + 1)), .int (xs (i + 2))]) (rest := []) eL_1109 kL_120 ⟨by decide, by decide⟩ rfl (by decide) (by decide) rfl rfl (Nat.le_of_ble_eq_true rfl) (Nat.le_of_ble_eq_true rfl) (hC S hc) (fun r S1 h hR => ?_)
  obtain ⟨rfl, hc1, f1⟩ := h
  obtain ⟨y, rfl⟩ := int_of rfl hR
  have hm1 := hm.fr f1
  show lwP _ _ _ _ [.int y] _
  refine l_aload2 eL_1112 ?_
  refine l_scr (d := 1) eL_1113 eL_1114 eL_1115 eL_1116 eL_1117 (by decide) (by omega) hL ?_
  refine l_scr (d := 2) eL_1118 eL_1119 eL_1120 eL_1121 eL_1122 (by decide) (by omega) hL ?_
  refine l_call (As := [.int (xs (i + 1)), .int (xs (i + 2))]) (rest := [.int y]) eL_1123 kL_123 ⟨by decide, by decide⟩ rfl (by decide) (by decide) rfl rfl (Nat.le_of_ble_eq_true rfl) (Nat.le_of_ble_eq_true rfl) (hM S1 hm1) (fun r S2 h hR => ?_)
  obtain ⟨rfl, hm2, f2⟩ := h
  have hc2 := hc1.fr f2
  show lwP _ _ _ _ [.int y, .int y] _
  exact l_icmp_eq eL_1126 (k S2 X' w' hc2 hm2)
theorem law_25 {L i : Nat} {xs : Nat → Int32} {S : xS} {X : LM} (hi : i + 6 ≤ L) (hL : L ≤ 3072) (w : wf X) (hc : RC S X) (hm : RM S X) (k : ∀ S X, wf X → RC S X → RM S X → lwP L xs i 1214 [] S) : lwP L xs i 1131 [] S := by
  obtain ⟨v, X', w', hC, hM⟩ := b_quota w (xs (i + 1)) (xs (i + 2))
  refine l_aload1 eL_1131 ?_
  refine l_scr (d := 1) eL_1132 eL_1133 eL_1134 eL_1135 eL_1136 (by decide) (by omega) hL ?_
  refine l_scr (d := 2) eL_1137 eL_1138 eL_1139 eL_1140 eL_1141 (by decide) (by omega) hL ?_
  refine l_call (As := [.int (xs (i + 1)), .int (xs (i + 2))]) (rest := []) eL_1142 kL_124 ⟨by decide, by decide⟩ rfl (by decide) (by decide) rfl rfl (Nat.le_of_ble_eq_true rfl) (Nat.le_of_ble_eq_true rfl) (hC S hc) (fun r S1 h hR => ?_)
  obtain ⟨rfl, hc1, f1⟩ := h
  obtain ⟨y, rfl⟩ := int_of rfl hR
  have hm1 := hm.fr f1
  show lwP _ _ _ _ [.int y] _
  refine l_aload2 eL_1145 ?_
  refine l_scr (d := 1) eL_1146 eL_1147 eL_1148 eL_1149 eL_1150 (by decide) (by omega) hL ?_
  refine l_scr (d := 2) eL_1151 eL_1152 eL_1153 eL_1154 eL_1155 (by decide) (by omega) hL ?_
  refine l_call (As := [.int (xs (i + 1)), .int (xs (i + 2))]) (rest := [.int y]) eL_1156 kL_127 ⟨by decide, by decide⟩ rfl (by decide) (by decide) rfl rfl (Nat.le_of_ble_eq_true rfl) (Nat.le_of_ble_eq_true rfl) (hM S1 hm1) (fun r S2 h hR => ?_)
  obtain ⟨rfl, hm2, f2⟩ := h
  have hc2 := hc1.fr f2
  show lwP _ _ _ _ [.int y, .int y] _
  exact l_icmp_eq eL_1159 (k S2 X' w' hc2 hm2)
theorem law_26 {L i : Nat} {xs : Nat → Int32} {S : xS} {X : LM} (hi : i + 6 ≤ L) (hL : L ≤ 3072) (w : wf X) (hc : RC S X) (hm : RM S X) (k : ∀ S X, wf X → RC S X → RM S X → lwP L xs i 1214 [] S) : lwP L xs i 1164 [] S := by
  obtain ⟨v, X', w', hC, hM⟩ := b_undo w 
  refine l_aload1 eL_1164 ?_
  refine l_call (As := []) (rest := []) eL_1165 kL_128 ⟨by decide, by decide⟩ rfl (by decide) (by decide) rfl rfl (Nat.le_of_ble_eq_true rfl) (Nat.le_of_ble_eq_true rfl) (hC S hc) (fun r S1 h hR => ?_)
  obtain ⟨rfl, hc1, f1⟩ := h
  obtain ⟨y, rfl⟩ := int_of rfl hR
  have hm1 := hm.fr f1
  show lwP _ _ _ _ [.int y] _
  refine l_aload2 eL_1168 ?_
  refine l_call (As := []) (rest := [.int y]) eL_1169 kL_131 ⟨by decide, by decide⟩ rfl (by decide) (by decide) rfl rfl (Nat.le_of_ble_eq_true rfl) (Nat.le_of_ble_eq_true rfl) (hM S1 hm1) (fun r S2 h hR => ?_)
  obtain ⟨rfl, hm2, f2⟩ := h
  have hc2 := hc1.fr f2
  show lwP _ _ _ _ [.int y, .int y] _
  exact l_icmp_eq eL_1172 (k S2 X' w' hc2 hm2)
theorem law_27 {L i : Nat} {xs : Nat → Int32} {S : xS} {X : LM} (hi : i + 6 ≤ L) (hL : L ≤ 3072) (w : wf X) (hc : RC S X) (hm : RM S X) (k : ∀ S X, wf X → RC S X → RM S X → lwP L xs i 1214 [] S) : lwP L xs i 1177 [] S := by
  obtain ⟨v, X', w', hC, hM⟩ := b_count w (xs (i + 1))
  refine l_aload1 eL_1177 ?_
  refine l_scr (d := 1) eL_1178 eL_1179 eL_1180 eL_1181 eL_1182 (by decide) (by omega) hL ?_
  refine l_call (As := [.int (xs (i + 1))]) (rest := []) eL_1183 kL_132 ⟨by decide, by decide⟩ rfl (by decide) (by decide) rfl rfl (Nat.le_of_ble_eq_true rfl) (Nat.le_of_ble_eq_true rfl) (hC S hc) (fun r S1 h hR => ?_)
  obtain ⟨rfl, hc1, f1⟩ := h
  obtain ⟨y, rfl⟩ := int_of rfl hR
  have hm1 := hm.fr f1
  show lwP _ _ _ _ [.int y] _
  refine l_aload2 eL_1186 ?_
  refine l_scr (d := 1) eL_1187 eL_1188 eL_1189 eL_1190 eL_1191 (by decide) (by omega) hL ?_
  refine l_call (As := [.int (xs (i + 1))]) (rest := [.int y]) eL_1192 kL_135 ⟨by decide, by decide⟩ rfl (by decide) (by decide) rfl rfl (Nat.le_of_ble_eq_true rfl) (Nat.le_of_ble_eq_true rfl) (hM S1 hm1) (fun r S2 h hR => ?_)
  obtain ⟨rfl, hm2, f2⟩ := h
  have hc2 := hc1.fr f2
  show lwP _ _ _ _ [.int y, .int y] _
  exact l_icmp_eq eL_1195 (k S2 X' w' hc2 hm2)
theorem law_28 {L i : Nat} {xs : Nat → Int32} {S : xS} {X : LM} (hi : i + 6 ≤ L) (hL : L ≤ 3072) (w : wf X) (hc : RC S X) (hm : RM S X) (k : ∀ S X, wf X → RC S X → RM S X → lwP L xs i 1214 [] S) : lwP L xs i 1200 [] S := by
  obtain ⟨v, X', w', hC, hM⟩ := bj_digest w 
  refine l_aload1 eL_1200 ?_
  refine l_call (As := []) (rest := []) eL_1201 kL_136 ⟨by decide, by decide⟩ rfl (by decide) (by decide) rfl rfl (Nat.le_of_ble_eq_true rfl) (Nat.le_of_ble_eq_true rfl) (hC S hc) (fun r S1 h hR => ?_)
  obtain ⟨rfl, hc1, f1⟩ := h
  have hm1 := hm.fr f1
  show lwP _ _ _ _ [.long v] _
  refine l_aload2 eL_1204 ?_
  refine l_call (As := []) (rest := [.long v]) eL_1205 kL_140 ⟨by decide, by decide⟩ rfl (by decide) (by decide) rfl rfl (Nat.le_of_ble_eq_true rfl) (Nat.le_of_ble_eq_true rfl) (hM S1 hm1) (fun r S2 h hR => ?_)
  obtain ⟨rfl, hm2, f2⟩ := h
  have hc2 := hc1.fr f2
  show lwP _ _ _ _ [.long v, .long v] _
  exact l_lcmp eL_1208 (l_if_eq eL_1209 (lg_self v) (k S2 X' w' hc2 hm2))
theorem law_head {L i : Nat} (hL : L ≤ 3072) (hi : i ≤ L) (h : ¬ nI L - nI 6 < nI i) : i + 6 ≤ L := by
  by_cases z : L < 6
  · exact absurd (low_head L z i (by omega)) h
  · rw [pk_sub (by omega)] at h
    by_cases q : L - 6 < i
    · exact absurd ((nI_ltI (by omega) (by omega)).mpr q) h
    · omega
theorem law_loop {L : Nat} {xs : Nat → Int32} (hL : L ≤ 3072) : ∀ μ i (S : xS) (X : LM), L + 6 ≤ i + μ → i ≤ L → wf X → RC S X → RM S X → lwP L xs i 18 [] S := by
  intro μ
  induction μ with
  | zero =>
    intro i S X h1 h2
    omega
  | succ μ ih =>
    intro i S X h1 h2 w hc hm
    refine l_iload eL_18 (l_aload0 eL_19 (l_slen eL_20 (l_bipush (v := nI 6) eL_21 (by decide) (l_isub eL_23 ?_))))
    refine l_icmp_gt eL_24 (fun _ => l_ret eL_1220 eL_1221.1) (fun h => ?_)
    have h6 := law_head hL h2 h
    refine l_aload0 eL_27 (l_iload eL_28 (l_sld eL_29 (by omega) hL (l_bipush (v := nI 31) eL_30 (by decide) (l_iand eL_32 ?_))))
    have nxt : ∀ S X, wf X → RC S X → RM S X → lwP L xs i 1214 [] S := fun S X a b c => l_iinc eL_1214 (l_goto eL_1217 (ih (i + 6) S X (by omega) (by omega) a b c))
    obtain ⟨k, hk, ek⟩ := and31 (xs i)
    rw [ek]
    have hk : k = 0 ∨ k = 1 ∨ k = 2 ∨ k = 3 ∨ k = 4 ∨ k = 5 ∨ k = 6 ∨ k = 7 ∨ k = 8 ∨ k = 9 ∨ k = 10 ∨ k = 11 ∨ k = 12 ∨ k = 13 ∨ k = 14 ∨ k = 15 ∨ k = 16 ∨ k = 17 ∨ k = 18 ∨ k = 19 ∨ k = 20 ∨ k = 21 ∨ k = 22 ∨ k = 23 ∨ k = 24 ∨ k = 25 ∨ k = 26 ∨ k = 27 ∨ k = 28 ∨ k = 29 ∨ k = 30 ∨ k = 31 := by omega
    rcases hk with rfl | rfl | rfl | rfl | rfl | rfl | rfl | rfl | rfl | rfl | rfl | rfl | rfl | rfl | rfl | rfl | rfl | rfl | rfl | rfl | rfl | rfl | rfl | rfl | rfl | rfl | rfl | rfl | rfl | rfl | rfl | rfl
    · exact l_tableIn (off := 131) eL_33 (by decide) (by decide) (by decide) (by decide) (law_0 h6 hL w hc hm nxt)
    · exact l_tableIn (off := 224) eL_33 (by decide) (by decide) (by decide) (by decide) (law_1 h6 hL w hc hm nxt)
    · exact l_tableIn (off := 258) eL_33 (by decide) (by decide) (by decide) (by decide) (law_2 h6 hL w hc hm nxt)
    · exact l_tableIn (off := 301) eL_33 (by decide) (by decide) (by decide) (by decide) (law_3 h6 hL w hc hm nxt)
    · exact l_tableIn (off := 314) eL_33 (by decide) (by decide) (by decide) (by decide) (law_4 h6 hL w hc hm nxt)
    · exact l_tableIn (off := 367) eL_33 (by decide) (by decide) (by decide) (by decide) (law_5 h6 hL w hc hm nxt)
    · exact l_tableIn (off := 460) eL_33 (by decide) (by decide) (by decide) (by decide) (law_6 h6 hL w hc hm nxt)
    · exact l_tableIn (off := 473) eL_33 (by decide) (by decide) (by decide) (by decide) (law_7 h6 hL w hc hm nxt)
    · exact l_tableIn (off := 496) eL_33 (by decide) (by decide) (by decide) (by decide) (law_8 h6 hL w hc hm nxt)
    · exact l_tableIn (off := 529) eL_33 (by decide) (by decide) (by decide) (by decide) (law_9 h6 hL w hc hm nxt)
    · exact l_tableIn (off := 542) eL_33 (by decide) (by decide) (by decide) (by decide) (law_10 h6 hL w hc hm nxt)
    · exact l_tableIn (off := 575) eL_33 (by decide) (by decide) (by decide) (by decide) (law_11 h6 hL w hc hm nxt)
    · exact l_tableIn (off := 608) eL_33 (by decide) (by decide) (by decide) (by decide) (law_12 h6 hL w hc hm nxt)
    · exact l_tableIn (off := 631) eL_33 (by decide) (by decide) (by decide) (by decide) (law_13 h6 hL w hc hm nxt)
    · exact l_tableIn (off := 684) eL_33 (by decide) (by decide) (by decide) (by decide) (law_14 h6 hL w hc hm nxt)
    · exact l_tableIn (off := 717) eL_33 (by decide) (by decide) (by decide) (by decide) (law_15 h6 hL w hc hm nxt)
    · exact l_tableIn (off := 760) eL_33 (by decide) (by decide) (by decide) (by decide) (law_16 h6 hL w hc hm nxt)
    · exact l_tableIn (off := 793) eL_33 (by decide) (by decide) (by decide) (by decide) (law_17 h6 hL w hc hm nxt)
    · exact l_tableIn (off := 826) eL_33 (by decide) (by decide) (by decide) (by decide) (law_18 h6 hL w hc hm nxt)
    · exact l_tableIn (off := 929) eL_33 (by decide) (by decide) (by decide) (by decide) (law_19 h6 hL w hc hm nxt)
    · exact l_tableIn (off := 942) eL_33 (by decide) (by decide) (by decide) (by decide) (law_20 h6 hL w hc hm nxt)
    · exact l_tableIn (off := 995) eL_33 (by decide) (by decide) (by decide) (by decide) (law_21 h6 hL w hc hm nxt)
    · exact l_tableIn (off := 1018) eL_33 (by decide) (by decide) (by decide) (by decide) (law_22 h6 hL w hc hm nxt)
    · exact l_tableIn (off := 1041) eL_33 (by decide) (by decide) (by decide) (by decide) (law_23 h6 hL w hc hm nxt)
    · exact l_tableIn (off := 1065) eL_33 (by decide) (by decide) (by decide) (by decide) (law_24 h6 hL w hc hm nxt)
    · exact l_tableIn (off := 1098) eL_33 (by decide) (by decide) (by decide) (by decide) (law_25 h6 hL w hc hm nxt)
    · exact l_tableIn (off := 1131) eL_33 (by decide) (by decide) (by decide) (by decide) (law_26 h6 hL w hc hm nxt)
    · exact l_tableIn (off := 1144) eL_33 (by decide) (by decide) (by decide) (by decide) (law_27 h6 hL w hc hm nxt)
    · exact l_tableIn (off := 1167) eL_33 (by decide) (by decide) (by decide) (by decide) (law_28 h6 hL w hc hm nxt)
    · exact l_tableOut eL_33 (by decide) (by decide) (nxt S X w hc hm)
    · exact l_tableOut eL_33 (by decide) (by decide) (nxt S X w hc hm)
    · exact l_tableOut eL_33 (by decide) (by decide) (nxt S X w hc hm)
