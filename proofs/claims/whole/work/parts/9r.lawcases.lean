/-! the law: a row for each of its calls -/
section LC
variable {X : KX} {L : Nat} {xs : Nat → Int32} {n i : Int} {m0 : Mem}
/-- feed -/
theorem lc_0 (F : Fx shp X code 4 RL 40) (G : LX X L xs) (h : CR n m0) (hn0 : 0 ≤ n) (hn : n ≤ 600) (hi : 0 ≤ i ∧ i + 6 ≤ L) (K : ∀ mv, CRx (n + 1) mv → Ok shp X 4 1348 [(3, pI i), (2, pR 0), (1, pR 20), (0, pR 9999)] [] mv) : Ok shp X 4 212 [(3, pI i), (2, pR 0), (1, pR 20), (0, pR 9999)] [] m0 := by
  refine ok_aload_n F dL_212 2 rfl ?_
  refine law_arg F G hi (j := 1) (by decide) dL_213 dL_214 dL_215 dL_216 dL_217 ?_
  refine law_arg F G hi (j := 2) (by decide) dL_218 dL_219 dL_220 dL_221 dL_222 ?_
  refine law_arg F G hi (j := 3) (by decide) dL_223 dL_224 dL_225 dL_226 dL_227 ?_
  refine law_arg F G hi (j := 4) (by decide) dL_228 dL_229 dL_230 dL_231 dL_232 ?_
  refine law_arg F G hi (j := 5) (by decide) dL_233 dL_234 dL_235 dL_236 dL_237 ?_
  refine ok_callv F [pI (sc xs (i + 1)), pI (sc xs (i + 2)), pI (sc xs (i + 3)), pI (sc xs (i + 4)), pI (sc xs (i + 5))] dL_238 kM_X7_feed kI_X7_feed kV_X7_feed kL_L_13 (ci := 7) rfl sh_20 rfl (by decide) (Nat.le_of_ble_eq_true rfl) rfl (t_feed _ h) ?_
  rintro _ m1 ⟨z, rfl, h8⟩
  refine ok_aload_n F dL_241 1 rfl ?_
  refine law_arg F G hi (j := 1) (by decide) dL_242 dL_243 dL_244 dL_245 dL_246 ?_
  refine law_arg F G hi (j := 2) (by decide) dL_247 dL_248 dL_249 dL_250 dL_251 ?_
  refine law_arg F G hi (j := 3) (by decide) dL_252 dL_253 dL_254 dL_255 dL_256 ?_
  refine law_arg F G hi (j := 4) (by decide) dL_257 dL_258 dL_259 dL_260 dL_261 ?_
  refine law_arg F G hi (j := 5) (by decide) dL_262 dL_263 dL_264 dL_265 dL_266 ?_
  refine ok_callv F [pI (sc xs (i + 1)), pI (sc xs (i + 2)), pI (sc xs (i + 3)), pI (sc xs (i + 4)), pI (sc xs (i + 5))] dL_267 kM_X8_feed kI_X8_feed kV_X8_feed kL_L_17 (ci := 8) rfl sh_0 rfl (by decide) (Nat.le_of_ble_eq_true rfl) rfl h8 ?_
  rintro _ mv ⟨rfl, hx⟩
  exact ok_isame F 1348 dL_270 (by decide) (K mv hx)
/-- end -/
theorem lc_1 (F : Fx shp X code 4 RL 40) (G : LX X L xs) (h : CR n m0) (hn0 : 0 ≤ n) (hn : n ≤ 600) (hi : 0 ≤ i ∧ i + 6 ≤ L) (K : ∀ mv, CRx (n + 1) mv → Ok shp X 4 1348 [(3, pI i), (2, pR 0), (1, pR 20), (0, pR 9999)] [] mv) : Ok shp X 4 275 [(3, pI i), (2, pR 0), (1, pR 20), (0, pR 9999)] [] m0 := by
  refine ok_aload_n F dL_275 2 rfl ?_
  refine law_arg F G hi (j := 1) (by decide) dL_276 dL_277 dL_278 dL_279 dL_280 ?_
  refine ok_callv F [pI (sc xs (i + 1))] dL_281 kM_X7_end kI_X7_end kV_X7_end kL_L_18 (ci := 7) rfl sh_20 rfl (by decide) (Nat.le_of_ble_eq_true rfl) rfl (t_end _ h (sc_i _ _)) ?_
  rintro _ m1 ⟨z, rfl, h8⟩
  refine ok_aload_n F dL_284 1 rfl ?_
  refine law_arg F G hi (j := 1) (by decide) dL_285 dL_286 dL_287 dL_288 dL_289 ?_
  refine ok_callv F [pI (sc xs (i + 1))] dL_290 kM_X8_end kI_X8_end kV_X8_end kL_L_22 (ci := 8) rfl sh_0 rfl (by decide) (Nat.le_of_ble_eq_true rfl) rfl h8 ?_
  rintro _ mv ⟨rfl, hx⟩
  exact ok_isame F 1348 dL_293 (by decide) (K mv hx)
/-- tell -/
theorem lc_2 (F : Fx shp X code 4 RL 40) (G : LX X L xs) (h : CR n m0) (hn0 : 0 ≤ n) (hn : n ≤ 600) (hi : 0 ≤ i ∧ i + 6 ≤ L) (K : ∀ mv, CRx (n + 1) mv → Ok shp X 4 1348 [(3, pI i), (2, pR 0), (1, pR 20), (0, pR 9999)] [] mv) : Ok shp X 4 298 [(3, pI i), (2, pR 0), (1, pR 20), (0, pR 9999)] [] m0 := by
  refine ok_aload_n F dL_298 2 rfl ?_
  refine ok_callv F [] dL_299 kM_X7_tell kI_X7_tell kV_X7_tell kL_L_23 (ci := 7) rfl sh_20 rfl (by decide) (Nat.le_of_ble_eq_true rfl) rfl (t_tell _ h hn0) ?_
  rintro _ m1 ⟨z, rfl, h8⟩
  refine ok_aload_n F dL_302 1 rfl ?_
  refine ok_callv F [] dL_303 kM_X8_tell kI_X8_tell kV_X8_tell kL_L_27 (ci := 8) rfl sh_0 rfl (by decide) (Nat.le_of_ble_eq_true rfl) rfl h8 ?_
  rintro _ mv ⟨rfl, hx⟩
  exact ok_isame F 1348 dL_306 (by decide) (K mv hx)
/-- put -/
theorem lc_3 (F : Fx shp X code 4 RL 40) (G : LX X L xs) (h : CR n m0) (hn0 : 0 ≤ n) (hn : n ≤ 600) (hi : 0 ≤ i ∧ i + 6 ≤ L) (K : ∀ mv, CRx (n + 1) mv → Ok shp X 4 1348 [(3, pI i), (2, pR 0), (1, pR 20), (0, pR 9999)] [] mv) : Ok shp X 4 311 [(3, pI i), (2, pR 0), (1, pR 20), (0, pR 9999)] [] m0 := by
  refine ok_aload_n F dL_311 2 rfl ?_
  refine law_arg F G hi (j := 1) (by decide) dL_312 dL_313 dL_314 dL_315 dL_316 ?_
  refine law_arg F G hi (j := 2) (by decide) dL_317 dL_318 dL_319 dL_320 dL_321 ?_
  refine law_arg F G hi (j := 3) (by decide) dL_322 dL_323 dL_324 dL_325 dL_326 ?_
  refine ok_callv F [pI (sc xs (i + 1)), pI (sc xs (i + 2)), pI (sc xs (i + 3))] dL_327 kM_X7_put kI_X7_put kV_X7_put kL_L_28 (ci := 7) rfl sh_20 rfl (by decide) (Nat.le_of_ble_eq_true rfl) rfl (t_put _ h hn (sc_i _ _) (sc_i _ _) (sc_i _ _)) ?_
  rintro _ m1 ⟨z, rfl, h8⟩
  refine ok_aload_n F dL_330 1 rfl ?_
  refine law_arg F G hi (j := 1) (by decide) dL_331 dL_332 dL_333 dL_334 dL_335 ?_
  refine law_arg F G hi (j := 2) (by decide) dL_336 dL_337 dL_338 dL_339 dL_340 ?_
  refine law_arg F G hi (j := 3) (by decide) dL_341 dL_342 dL_343 dL_344 dL_345 ?_
  refine ok_callv F [pI (sc xs (i + 1)), pI (sc xs (i + 2)), pI (sc xs (i + 3))] dL_346 kM_X8_put kI_X8_put kV_X8_put kL_L_32 (ci := 8) rfl sh_0 rfl (by decide) (Nat.le_of_ble_eq_true rfl) rfl h8 ?_
  rintro _ mv ⟨rfl, hx⟩
  exact ok_isame F 1348 dL_349 (by decide) (K mv hx)
/-- hand -/
theorem lc_4 (F : Fx shp X code 4 RL 40) (G : LX X L xs) (h : CR n m0) (hn0 : 0 ≤ n) (hn : n ≤ 600) (hi : 0 ≤ i ∧ i + 6 ≤ L) (K : ∀ mv, CRx (n + 1) mv → Ok shp X 4 1348 [(3, pI i), (2, pR 0), (1, pR 20), (0, pR 9999)] [] mv) : Ok shp X 4 354 [(3, pI i), (2, pR 0), (1, pR 20), (0, pR 9999)] [] m0 := by
  refine ok_aload_n F dL_354 2 rfl ?_
  refine law_arg F G hi (j := 1) (by decide) dL_355 dL_356 dL_357 dL_358 dL_359 ?_
  refine ok_callv F [pI (sc xs (i + 1))] dL_360 kM_X7_hand kI_X7_hand kV_X7_hand kL_L_33 (ci := 7) rfl sh_20 rfl (by decide) (Nat.le_of_ble_eq_true rfl) rfl (t_hand _ h hn (sc_i _ _)) ?_
  rintro _ m1 ⟨z, rfl, h8⟩
  refine ok_aload_n F dL_363 1 rfl ?_
  refine law_arg F G hi (j := 1) (by decide) dL_364 dL_365 dL_366 dL_367 dL_368 ?_
  refine ok_callv F [pI (sc xs (i + 1))] dL_369 kM_X8_hand kI_X8_hand kV_X8_hand kL_L_36 (ci := 8) rfl sh_0 rfl (by decide) (Nat.le_of_ble_eq_true rfl) rfl h8 ?_
  rintro _ mv ⟨rfl, hx⟩
  exact ok_isame F 1348 dL_372 (by decide) (K mv hx)
/-- pay -/
theorem lc_5 (F : Fx shp X code 4 RL 40) (G : LX X L xs) (h : CR n m0) (hn0 : 0 ≤ n) (hn : n ≤ 600) (hi : 0 ≤ i ∧ i + 6 ≤ L) (K : ∀ mv, CRx (n + 1) mv → Ok shp X 4 1348 [(3, pI i), (2, pR 0), (1, pR 20), (0, pR 9999)] [] mv) : Ok shp X 4 377 [(3, pI i), (2, pR 0), (1, pR 20), (0, pR 9999)] [] m0 := by
  refine ok_aload_n F dL_377 2 rfl ?_
  refine law_arg F G hi (j := 1) (by decide) dL_378 dL_379 dL_380 dL_381 dL_382 ?_
  refine ok_callv F [pI (sc xs (i + 1))] dL_383 kM_X7_pay kI_X7_pay kV_X7_pay kL_L_37 (ci := 7) rfl sh_20 rfl (by decide) (Nat.le_of_ble_eq_true rfl) rfl (t_pay _ h (sc_i _ _)) ?_
  rintro _ m1 ⟨z, rfl, h8⟩
  refine ok_aload_n F dL_386 1 rfl ?_
  refine law_arg F G hi (j := 1) (by decide) dL_387 dL_388 dL_389 dL_390 dL_391 ?_
  refine ok_callv F [pI (sc xs (i + 1))] dL_392 kM_X8_pay kI_X8_pay kV_X8_pay kL_L_40 (ci := 8) rfl sh_0 rfl (by decide) (Nat.le_of_ble_eq_true rfl) rfl h8 ?_
  rintro _ mv ⟨rfl, hx⟩
  exact ok_isame F 1348 dL_395 (by decide) (K mv hx)
/-- sell -/
theorem lc_6 (F : Fx shp X code 4 RL 40) (G : LX X L xs) (h : CR n m0) (hn0 : 0 ≤ n) (hn : n ≤ 600) (hi : 0 ≤ i ∧ i + 6 ≤ L) (K : ∀ mv, CRx (n + 1) mv → Ok shp X 4 1348 [(3, pI i), (2, pR 0), (1, pR 20), (0, pR 9999)] [] mv) : Ok shp X 4 400 [(3, pI i), (2, pR 0), (1, pR 20), (0, pR 9999)] [] m0 := by
  refine ok_aload_n F dL_400 2 rfl ?_
  refine law_arg F G hi (j := 1) (by decide) dL_401 dL_402 dL_403 dL_404 dL_405 ?_
  refine ok_callv F [pI (sc xs (i + 1))] dL_406 kM_X7_sell kI_X7_sell kV_X7_sell kL_L_41 (ci := 7) rfl sh_20 rfl (by decide) (Nat.le_of_ble_eq_true rfl) rfl (t_sell _ h (sc_i _ _)) ?_
  rintro _ m1 ⟨z, rfl, h8⟩
  refine ok_aload_n F dL_409 1 rfl ?_
  refine law_arg F G hi (j := 1) (by decide) dL_410 dL_411 dL_412 dL_413 dL_414 ?_
  refine ok_callv F [pI (sc xs (i + 1))] dL_415 kM_X8_sell kI_X8_sell kV_X8_sell kL_L_44 (ci := 8) rfl sh_0 rfl (by decide) (Nat.le_of_ble_eq_true rfl) rfl h8 ?_
  rintro _ mv ⟨rfl, hx⟩
  exact ok_isame F 1348 dL_418 (by decide) (K mv hx)
/-- live -/
theorem lc_7 (F : Fx shp X code 4 RL 40) (G : LX X L xs) (h : CR n m0) (hn0 : 0 ≤ n) (hn : n ≤ 600) (hi : 0 ≤ i ∧ i + 6 ≤ L) (K : ∀ mv, CRx (n + 1) mv → Ok shp X 4 1348 [(3, pI i), (2, pR 0), (1, pR 20), (0, pR 9999)] [] mv) : Ok shp X 4 423 [(3, pI i), (2, pR 0), (1, pR 20), (0, pR 9999)] [] m0 := by
  refine ok_aload_n F dL_423 2 rfl ?_
  refine law_arg F G hi (j := 1) (by decide) dL_424 dL_425 dL_426 dL_427 dL_428 ?_
  refine ok_callv F [pI (sc xs (i + 1))] dL_429 kM_X7_live kI_X7_live kV_X7_live kL_L_45 (ci := 7) rfl sh_20 rfl (by decide) (Nat.le_of_ble_eq_true rfl) rfl (t_live _ h hn (sc_i _ _)) ?_
  rintro _ m1 ⟨z, rfl, h8⟩
  refine ok_aload_n F dL_432 1 rfl ?_
  refine law_arg F G hi (j := 1) (by decide) dL_433 dL_434 dL_435 dL_436 dL_437 ?_
  refine ok_callv F [pI (sc xs (i + 1))] dL_438 kM_X8_live kI_X8_live kV_X8_live kL_L_48 (ci := 8) rfl sh_0 rfl (by decide) (Nat.le_of_ble_eq_true rfl) rfl h8 ?_
  rintro _ mv ⟨rfl, hx⟩
  exact ok_isame F 1348 dL_441 (by decide) (K mv hx)
/-- bank -/
theorem lc_8 (F : Fx shp X code 4 RL 40) (G : LX X L xs) (h : CR n m0) (hn0 : 0 ≤ n) (hn : n ≤ 600) (hi : 0 ≤ i ∧ i + 6 ≤ L) (K : ∀ mv, CRx (n + 1) mv → Ok shp X 4 1348 [(3, pI i), (2, pR 0), (1, pR 20), (0, pR 9999)] [] mv) : Ok shp X 4 446 [(3, pI i), (2, pR 0), (1, pR 20), (0, pR 9999)] [] m0 := by
  refine ok_aload_n F dL_446 2 rfl ?_
  refine ok_callv F [] dL_447 kM_X7_bank kI_X7_bank kV_X7_bank kL_L_49 (ci := 7) rfl sh_20 rfl (by decide) (Nat.le_of_ble_eq_true rfl) rfl (t_bank _ h) ?_
  rintro _ m1 ⟨z, rfl, h8⟩
  refine ok_aload_n F dL_450 1 rfl ?_
  refine ok_callv F [] dL_451 kM_X8_bank kI_X8_bank kV_X8_bank kL_L_52 (ci := 8) rfl sh_0 rfl (by decide) (Nat.le_of_ble_eq_true rfl) rfl h8 ?_
  rintro _ mv ⟨rfl, hx⟩
  exact ok_isame F 1348 dL_454 (by decide) (K mv hx)
/-- order -/
theorem lc_9 (F : Fx shp X code 4 RL 40) (G : LX X L xs) (h : CR n m0) (hn0 : 0 ≤ n) (hn : n ≤ 600) (hi : 0 ≤ i ∧ i + 6 ≤ L) (K : ∀ mv, CRx (n + 1) mv → Ok shp X 4 1348 [(3, pI i), (2, pR 0), (1, pR 20), (0, pR 9999)] [] mv) : Ok shp X 4 459 [(3, pI i), (2, pR 0), (1, pR 20), (0, pR 9999)] [] m0 := by
  refine ok_aload_n F dL_459 2 rfl ?_
  refine law_arg F G hi (j := 1) (by decide) dL_460 dL_461 dL_462 dL_463 dL_464 ?_
  refine law_arg F G hi (j := 2) (by decide) dL_465 dL_466 dL_467 dL_468 dL_469 ?_
  refine ok_callv F [pI (sc xs (i + 1)), pI (sc xs (i + 2))] dL_470 kM_X7_order kI_X7_order kV_X7_order kL_L_53 (ci := 7) rfl sh_20 rfl (by decide) (Nat.le_of_ble_eq_true rfl) rfl (t_order _ h (sc_i _ _) (sc_i _ _)) ?_
  rintro _ m1 ⟨z, rfl, h8⟩
  refine ok_aload_n F dL_473 1 rfl ?_
  refine law_arg F G hi (j := 1) (by decide) dL_474 dL_475 dL_476 dL_477 dL_478 ?_
  refine law_arg F G hi (j := 2) (by decide) dL_479 dL_480 dL_481 dL_482 dL_483 ?_
  refine ok_callv F [pI (sc xs (i + 1)), pI (sc xs (i + 2))] dL_484 kM_X8_order kI_X8_order kV_X8_order kL_L_57 (ci := 8) rfl sh_0 rfl (by decide) (Nat.le_of_ble_eq_true rfl) rfl h8 ?_
  rintro _ mv ⟨rfl, hx⟩
  exact ok_isame F 1348 dL_487 (by decide) (K mv hx)
/-- drawn -/
theorem lc_10 (F : Fx shp X code 4 RL 40) (G : LX X L xs) (h : CR n m0) (hn0 : 0 ≤ n) (hn : n ≤ 600) (hi : 0 ≤ i ∧ i + 6 ≤ L) (K : ∀ mv, CRx (n + 1) mv → Ok shp X 4 1348 [(3, pI i), (2, pR 0), (1, pR 20), (0, pR 9999)] [] mv) : Ok shp X 4 492 [(3, pI i), (2, pR 0), (1, pR 20), (0, pR 9999)] [] m0 := by
  refine ok_aload_n F dL_492 2 rfl ?_
  refine law_arg F G hi (j := 1) (by decide) dL_493 dL_494 dL_495 dL_496 dL_497 ?_
  refine law_arg F G hi (j := 2) (by decide) dL_498 dL_499 dL_500 dL_501 dL_502 ?_
  refine ok_callv F [pI (sc xs (i + 1)), pI (sc xs (i + 2))] dL_503 kM_X7_drawn kI_X7_drawn kV_X7_drawn kL_L_58 (ci := 7) rfl sh_20 rfl (by decide) (Nat.le_of_ble_eq_true rfl) rfl (t_drawn _ h (sc_i _ _) (sc_i _ _)) ?_
  rintro _ m1 ⟨z, rfl, h8⟩
  refine ok_aload_n F dL_506 1 rfl ?_
  refine law_arg F G hi (j := 1) (by decide) dL_507 dL_508 dL_509 dL_510 dL_511 ?_
  refine law_arg F G hi (j := 2) (by decide) dL_512 dL_513 dL_514 dL_515 dL_516 ?_
  refine ok_callv F [pI (sc xs (i + 1)), pI (sc xs (i + 2))] dL_517 kM_X8_drawn kI_X8_drawn kV_X8_drawn kL_L_61 (ci := 8) rfl sh_0 rfl (by decide) (Nat.le_of_ble_eq_true rfl) rfl h8 ?_
  rintro _ mv ⟨rfl, hx⟩
  exact ok_isame F 1348 dL_520 (by decide) (K mv hx)
/-- undo -/
theorem lc_11 (F : Fx shp X code 4 RL 40) (G : LX X L xs) (h : CR n m0) (hn0 : 0 ≤ n) (hn : n ≤ 600) (hi : 0 ≤ i ∧ i + 6 ≤ L) (K : ∀ mv, CRx (n + 1) mv → Ok shp X 4 1348 [(3, pI i), (2, pR 0), (1, pR 20), (0, pR 9999)] [] mv) : Ok shp X 4 525 [(3, pI i), (2, pR 0), (1, pR 20), (0, pR 9999)] [] m0 := by
  refine ok_aload_n F dL_525 2 rfl ?_
  refine ok_callv F [] dL_526 kM_X7_undo kI_X7_undo kV_X7_undo kL_L_62 (ci := 7) rfl sh_20 rfl (by decide) (Nat.le_of_ble_eq_true rfl) rfl (t_undo _ h) ?_
  rintro _ m1 ⟨z, rfl, h8⟩
  refine ok_aload_n F dL_529 1 rfl ?_
  refine ok_callv F [] dL_530 kM_X8_undo kI_X8_undo kV_X8_undo kL_L_65 (ci := 8) rfl sh_0 rfl (by decide) (Nat.le_of_ble_eq_true rfl) rfl h8 ?_
  rintro _ mv ⟨rfl, hx⟩
  exact ok_isame F 1348 dL_533 (by decide) (K mv hx)
/-- keep -/
theorem lc_12 (F : Fx shp X code 4 RL 40) (G : LX X L xs) (h : CR n m0) (hn0 : 0 ≤ n) (hn : n ≤ 600) (hi : 0 ≤ i ∧ i + 6 ≤ L) (K : ∀ mv, CRx (n + 1) mv → Ok shp X 4 1348 [(3, pI i), (2, pR 0), (1, pR 20), (0, pR 9999)] [] mv) : Ok shp X 4 538 [(3, pI i), (2, pR 0), (1, pR 20), (0, pR 9999)] [] m0 := by
  refine ok_aload_n F dL_538 2 rfl ?_
  refine law_arg F G hi (j := 1) (by decide) dL_539 dL_540 dL_541 dL_542 dL_543 ?_
  refine ok_callv F [pI (sc xs (i + 1))] dL_544 kM_X7_keep kI_X7_keep kV_X7_keep kL_L_66 (ci := 7) rfl sh_20 rfl (by decide) (Nat.le_of_ble_eq_true rfl) rfl (t_keep _ h (sc_i _ _)) ?_
  rintro _ m1 ⟨z, rfl, h8⟩
  refine ok_aload_n F dL_547 1 rfl ?_
  refine law_arg F G hi (j := 1) (by decide) dL_548 dL_549 dL_550 dL_551 dL_552 ?_
  refine ok_callv F [pI (sc xs (i + 1))] dL_553 kM_X8_keep kI_X8_keep kV_X8_keep kL_L_69 (ci := 8) rfl sh_0 rfl (by decide) (Nat.le_of_ble_eq_true rfl) rfl h8 ?_
  rintro _ mv ⟨rfl, hx⟩
  exact ok_isame F 1348 dL_556 (by decide) (K mv hx)
/-- back -/
theorem lc_13 (F : Fx shp X code 4 RL 40) (G : LX X L xs) (h : CR n m0) (hn0 : 0 ≤ n) (hn : n ≤ 600) (hi : 0 ≤ i ∧ i + 6 ≤ L) (K : ∀ mv, CRx (n + 1) mv → Ok shp X 4 1348 [(3, pI i), (2, pR 0), (1, pR 20), (0, pR 9999)] [] mv) : Ok shp X 4 561 [(3, pI i), (2, pR 0), (1, pR 20), (0, pR 9999)] [] m0 := by
  refine ok_aload_n F dL_561 2 rfl ?_
  refine law_arg F G hi (j := 1) (by decide) dL_562 dL_563 dL_564 dL_565 dL_566 ?_
  refine ok_callv F [pI (sc xs (i + 1))] dL_567 kM_X7_back kI_X7_back kV_X7_back kL_L_70 (ci := 7) rfl sh_20 rfl (by decide) (Nat.le_of_ble_eq_true rfl) rfl (t_back _ h (sc_i _ _)) ?_
  rintro _ m1 ⟨z, rfl, h8⟩
  refine ok_aload_n F dL_570 1 rfl ?_
  refine law_arg F G hi (j := 1) (by decide) dL_571 dL_572 dL_573 dL_574 dL_575 ?_
  refine ok_callv F [pI (sc xs (i + 1))] dL_576 kM_X8_back kI_X8_back kV_X8_back kL_L_73 (ci := 8) rfl sh_0 rfl (by decide) (Nat.le_of_ble_eq_true rfl) rfl h8 ?_
  rintro _ mv ⟨rfl, hx⟩
  exact ok_isame F 1348 dL_579 (by decide) (K mv hx)
/-- kind -/
theorem lc_14 (F : Fx shp X code 4 RL 40) (G : LX X L xs) (h : CR n m0) (hn0 : 0 ≤ n) (hn : n ≤ 600) (hi : 0 ≤ i ∧ i + 6 ≤ L) (K : ∀ mv, CRx (n + 1) mv → Ok shp X 4 1348 [(3, pI i), (2, pR 0), (1, pR 20), (0, pR 9999)] [] mv) : Ok shp X 4 584 [(3, pI i), (2, pR 0), (1, pR 20), (0, pR 9999)] [] m0 := by
  refine ok_aload_n F dL_584 2 rfl ?_
  refine law_arg F G hi (j := 1) (by decide) dL_585 dL_586 dL_587 dL_588 dL_589 ?_
  refine law_arg F G hi (j := 2) (by decide) dL_590 dL_591 dL_592 dL_593 dL_594 ?_
  refine ok_callv F [pI (sc xs (i + 1)), pI (sc xs (i + 2))] dL_595 kM_X7_kind kI_X7_kind kV_X7_kind kL_L_74 (ci := 7) rfl sh_20 rfl (by decide) (Nat.le_of_ble_eq_true rfl) rfl (t_kind _ h (sc_i _ _) (sc_i _ _)) ?_
  rintro _ m1 ⟨z, rfl, h8⟩
  refine ok_aload_n F dL_598 1 rfl ?_
  refine law_arg F G hi (j := 1) (by decide) dL_599 dL_600 dL_601 dL_602 dL_603 ?_
  refine law_arg F G hi (j := 2) (by decide) dL_604 dL_605 dL_606 dL_607 dL_608 ?_
  refine ok_callv F [pI (sc xs (i + 1)), pI (sc xs (i + 2))] dL_609 kM_X8_kind kI_X8_kind kV_X8_kind kL_L_77 (ci := 8) rfl sh_0 rfl (by decide) (Nat.le_of_ble_eq_true rfl) rfl h8 ?_
  rintro _ mv ⟨rfl, hx⟩
  exact ok_isame F 1348 dL_612 (by decide) (K mv hx)
/-- change -/
theorem lc_15 (F : Fx shp X code 4 RL 40) (G : LX X L xs) (h : CR n m0) (hn0 : 0 ≤ n) (hn : n ≤ 600) (hi : 0 ≤ i ∧ i + 6 ≤ L) (K : ∀ mv, CRx (n + 1) mv → Ok shp X 4 1348 [(3, pI i), (2, pR 0), (1, pR 20), (0, pR 9999)] [] mv) : Ok shp X 4 617 [(3, pI i), (2, pR 0), (1, pR 20), (0, pR 9999)] [] m0 := by
  refine ok_aload_n F dL_617 2 rfl ?_
  refine law_arg F G hi (j := 1) (by decide) dL_618 dL_619 dL_620 dL_621 dL_622 ?_
  refine ok_callv F [pI (sc xs (i + 1))] dL_623 kM_X7_change kI_X7_change kV_X7_change kL_L_78 (ci := 7) rfl sh_20 rfl (by decide) (Nat.le_of_ble_eq_true rfl) rfl (t_change _ h (sc_i _ _)) ?_
  rintro _ m1 ⟨z, rfl, h8⟩
  refine ok_aload_n F dL_626 1 rfl ?_
  refine law_arg F G hi (j := 1) (by decide) dL_627 dL_628 dL_629 dL_630 dL_631 ?_
  refine ok_callv F [pI (sc xs (i + 1))] dL_632 kM_X8_change kI_X8_change kV_X8_change kL_L_81 (ci := 8) rfl sh_0 rfl (by decide) (Nat.le_of_ble_eq_true rfl) rfl h8 ?_
  rintro _ mv ⟨rfl, hx⟩
  exact ok_isame F 1348 dL_635 (by decide) (K mv hx)
/-- piece -/
theorem lc_16 (F : Fx shp X code 4 RL 40) (G : LX X L xs) (h : CR n m0) (hn0 : 0 ≤ n) (hn : n ≤ 600) (hi : 0 ≤ i ∧ i + 6 ≤ L) (K : ∀ mv, CRx (n + 1) mv → Ok shp X 4 1348 [(3, pI i), (2, pR 0), (1, pR 20), (0, pR 9999)] [] mv) : Ok shp X 4 640 [(3, pI i), (2, pR 0), (1, pR 20), (0, pR 9999)] [] m0 := by
  refine ok_aload_n F dL_640 2 rfl ?_
  refine law_arg F G hi (j := 1) (by decide) dL_641 dL_642 dL_643 dL_644 dL_645 ?_
  refine law_arg F G hi (j := 2) (by decide) dL_646 dL_647 dL_648 dL_649 dL_650 ?_
  refine ok_callv F [pI (sc xs (i + 1)), pI (sc xs (i + 2))] dL_651 kM_X7_piece kI_X7_piece kV_X7_piece kL_L_82 (ci := 7) rfl sh_20 rfl (by decide) (Nat.le_of_ble_eq_true rfl) rfl (t_piece _ h (sc_i _ _) (sc_i _ _)) ?_
  rintro _ m1 ⟨z, rfl, h8⟩
  refine ok_aload_n F dL_654 1 rfl ?_
  refine law_arg F G hi (j := 1) (by decide) dL_655 dL_656 dL_657 dL_658 dL_659 ?_
  refine law_arg F G hi (j := 2) (by decide) dL_660 dL_661 dL_662 dL_663 dL_664 ?_
  refine ok_callv F [pI (sc xs (i + 1)), pI (sc xs (i + 2))] dL_665 kM_X8_piece kI_X8_piece kV_X8_piece kL_L_85 (ci := 8) rfl sh_0 rfl (by decide) (Nat.le_of_ble_eq_true rfl) rfl h8 ?_
  rintro _ mv ⟨rfl, hx⟩
  exact ok_isame F 1348 dL_668 (by decide) (K mv hx)
/-- settle -/
theorem lc_17 (F : Fx shp X code 4 RL 40) (G : LX X L xs) (h : CR n m0) (hn0 : 0 ≤ n) (hn : n ≤ 600) (hi : 0 ≤ i ∧ i + 6 ≤ L) (K : ∀ mv, CRx (n + 1) mv → Ok shp X 4 1348 [(3, pI i), (2, pR 0), (1, pR 20), (0, pR 9999)] [] mv) : Ok shp X 4 673 [(3, pI i), (2, pR 0), (1, pR 20), (0, pR 9999)] [] m0 := by
  refine ok_aload_n F dL_673 2 rfl ?_
  refine law_arg F G hi (j := 1) (by decide) dL_674 dL_675 dL_676 dL_677 dL_678 ?_
  refine law_arg F G hi (j := 2) (by decide) dL_679 dL_680 dL_681 dL_682 dL_683 ?_
  refine ok_callv F [pI (sc xs (i + 1)), pI (sc xs (i + 2))] dL_684 kM_X7_settle kI_X7_settle kV_X7_settle kL_L_86 (ci := 7) rfl sh_20 rfl (by decide) (Nat.le_of_ble_eq_true rfl) rfl (t_settle _ h (sc_i _ _) (sc_i _ _)) ?_
  rintro _ m1 ⟨z, rfl, h8⟩
  refine ok_aload_n F dL_687 1 rfl ?_
  refine law_arg F G hi (j := 1) (by decide) dL_688 dL_689 dL_690 dL_691 dL_692 ?_
  refine law_arg F G hi (j := 2) (by decide) dL_693 dL_694 dL_695 dL_696 dL_697 ?_
  refine ok_callv F [pI (sc xs (i + 1)), pI (sc xs (i + 2))] dL_698 kM_X8_settle kI_X8_settle kV_X8_settle kL_L_89 (ci := 8) rfl sh_0 rfl (by decide) (Nat.le_of_ble_eq_true rfl) rfl h8 ?_
  rintro _ mv ⟨rfl, hx⟩
  exact ok_isame F 1348 dL_701 (by decide) (K mv hx)
/-- ways -/
theorem lc_18 (F : Fx shp X code 4 RL 40) (G : LX X L xs) (h : CR n m0) (hn0 : 0 ≤ n) (hn : n ≤ 600) (hi : 0 ≤ i ∧ i + 6 ≤ L) (K : ∀ mv, CRx (n + 1) mv → Ok shp X 4 1348 [(3, pI i), (2, pR 0), (1, pR 20), (0, pR 9999)] [] mv) : Ok shp X 4 706 [(3, pI i), (2, pR 0), (1, pR 20), (0, pR 9999)] [] m0 := by
  refine ok_aload_n F dL_706 2 rfl ?_
  refine law_arg F G hi (j := 1) (by decide) dL_707 dL_708 dL_709 dL_710 dL_711 ?_
  refine ok_callv F [pI (sc xs (i + 1))] dL_712 kM_X7_ways kI_X7_ways kV_X7_ways kL_L_90 (ci := 7) rfl sh_20 rfl (by decide) (Nat.le_of_ble_eq_true rfl) rfl (t_ways _ h (sc_i _ _)) ?_
  rintro _ m1 ⟨z, rfl, h8⟩
  refine ok_aload_n F dL_715 1 rfl ?_
  refine law_arg F G hi (j := 1) (by decide) dL_716 dL_717 dL_718 dL_719 dL_720 ?_
  refine ok_callv F [pI (sc xs (i + 1))] dL_721 kM_X8_ways kI_X8_ways kV_X8_ways kL_L_94 (ci := 8) rfl sh_0 rfl (by decide) (Nat.le_of_ble_eq_true rfl) rfl h8 ?_
  rintro _ mv ⟨rfl, hx⟩
  exact ok_lsame F 1348 dL_724 dL_725 (by decide) (K mv hx)
/-- gap -/
theorem lc_19 (F : Fx shp X code 4 RL 40) (G : LX X L xs) (h : CR n m0) (hn0 : 0 ≤ n) (hn : n ≤ 600) (hi : 0 ≤ i ∧ i + 6 ≤ L) (K : ∀ mv, CRx (n + 1) mv → Ok shp X 4 1348 [(3, pI i), (2, pR 0), (1, pR 20), (0, pR 9999)] [] mv) : Ok shp X 4 730 [(3, pI i), (2, pR 0), (1, pR 20), (0, pR 9999)] [] m0 := by
  refine ok_aload_n F dL_730 2 rfl ?_
  refine law_arg F G hi (j := 1) (by decide) dL_731 dL_732 dL_733 dL_734 dL_735 ?_
  refine ok_callv F [pI (sc xs (i + 1))] dL_736 kM_X7_gap kI_X7_gap kV_X7_gap kL_L_95 (ci := 7) rfl sh_20 rfl (by decide) (Nat.le_of_ble_eq_true rfl) rfl (t_gap _ h (sc_i _ _)) ?_
  rintro _ m1 ⟨z, rfl, h8⟩
  refine ok_aload_n F dL_739 1 rfl ?_
  refine law_arg F G hi (j := 1) (by decide) dL_740 dL_741 dL_742 dL_743 dL_744 ?_
  refine ok_callv F [pI (sc xs (i + 1))] dL_745 kM_X8_gap kI_X8_gap kV_X8_gap kL_L_98 (ci := 8) rfl sh_0 rfl (by decide) (Nat.le_of_ble_eq_true rfl) rfl h8 ?_
  rintro _ mv ⟨rfl, hx⟩
  exact ok_isame F 1348 dL_748 (by decide) (K mv hx)
/-- scarce -/
theorem lc_20 (F : Fx shp X code 4 RL 40) (G : LX X L xs) (h : CR n m0) (hn0 : 0 ≤ n) (hn : n ≤ 600) (hi : 0 ≤ i ∧ i + 6 ≤ L) (K : ∀ mv, CRx (n + 1) mv → Ok shp X 4 1348 [(3, pI i), (2, pR 0), (1, pR 20), (0, pR 9999)] [] mv) : Ok shp X 4 753 [(3, pI i), (2, pR 0), (1, pR 20), (0, pR 9999)] [] m0 := by
  refine ok_aload_n F dL_753 2 rfl ?_
  refine law_arg F G hi (j := 1) (by decide) dL_754 dL_755 dL_756 dL_757 dL_758 ?_
  refine ok_callv F [pI (sc xs (i + 1))] dL_759 kM_X7_scarce kI_X7_scarce kV_X7_scarce kL_L_99 (ci := 7) rfl sh_20 rfl (by decide) (Nat.le_of_ble_eq_true rfl) rfl (t_scarce _ h (sc_i _ _)) ?_
  rintro _ m1 ⟨z, rfl, h8⟩
  refine ok_aload_n F dL_762 1 rfl ?_
  refine law_arg F G hi (j := 1) (by decide) dL_763 dL_764 dL_765 dL_766 dL_767 ?_
  refine ok_callv F [pI (sc xs (i + 1))] dL_768 kM_X8_scarce kI_X8_scarce kV_X8_scarce kL_L_102 (ci := 8) rfl sh_0 rfl (by decide) (Nat.le_of_ble_eq_true rfl) rfl h8 ?_
  rintro _ mv ⟨rfl, hx⟩
  exact ok_isame F 1348 dL_771 (by decide) (K mv hx)
/-- day -/
theorem lc_21 (F : Fx shp X code 4 RL 40) (G : LX X L xs) (h : CR n m0) (hn0 : 0 ≤ n) (hn : n ≤ 600) (hi : 0 ≤ i ∧ i + 6 ≤ L) (K : ∀ mv, CRx (n + 1) mv → Ok shp X 4 1348 [(3, pI i), (2, pR 0), (1, pR 20), (0, pR 9999)] [] mv) : Ok shp X 4 776 [(3, pI i), (2, pR 0), (1, pR 20), (0, pR 9999)] [] m0 := by
  refine ok_aload_n F dL_776 2 rfl ?_
  refine law_arg F G hi (j := 1) (by decide) dL_777 dL_778 dL_779 dL_780 dL_781 ?_
  refine law_arg F G hi (j := 2) (by decide) dL_782 dL_783 dL_784 dL_785 dL_786 ?_
  refine ok_callv F [pI (sc xs (i + 1)), pI (sc xs (i + 2))] dL_787 kM_X7_day kI_X7_day kV_X7_day kL_L_103 (ci := 7) rfl sh_20 rfl (by decide) (Nat.le_of_ble_eq_true rfl) rfl (t_day _ h hn (sc_i _ _) (sc_i _ _)) ?_
  rintro _ m1 ⟨z, rfl, h8⟩
  refine ok_aload_n F dL_790 1 rfl ?_
  refine law_arg F G hi (j := 1) (by decide) dL_791 dL_792 dL_793 dL_794 dL_795 ?_
  refine law_arg F G hi (j := 2) (by decide) dL_796 dL_797 dL_798 dL_799 dL_800 ?_
  refine ok_callv F [pI (sc xs (i + 1)), pI (sc xs (i + 2))] dL_801 kM_X8_day kI_X8_day kV_X8_day kL_L_106 (ci := 8) rfl sh_0 rfl (by decide) (Nat.le_of_ble_eq_true rfl) rfl h8 ?_
  rintro _ mv ⟨rfl, hx⟩
  exact ok_isame F 1348 dL_804 (by decide) (K mv hx)
/-- sale -/
theorem lc_22 (F : Fx shp X code 4 RL 40) (G : LX X L xs) (h : CR n m0) (hn0 : 0 ≤ n) (hn : n ≤ 600) (hi : 0 ≤ i ∧ i + 6 ≤ L) (K : ∀ mv, CRx (n + 1) mv → Ok shp X 4 1348 [(3, pI i), (2, pR 0), (1, pR 20), (0, pR 9999)] [] mv) : Ok shp X 4 809 [(3, pI i), (2, pR 0), (1, pR 20), (0, pR 9999)] [] m0 := by
  refine ok_aload_n F dL_809 2 rfl ?_
  refine law_arg F G hi (j := 1) (by decide) dL_810 dL_811 dL_812 dL_813 dL_814 ?_
  refine law_arg F G hi (j := 2) (by decide) dL_815 dL_816 dL_817 dL_818 dL_819 ?_
  refine law_arg F G hi (j := 3) (by decide) dL_820 dL_821 dL_822 dL_823 dL_824 ?_
  refine ok_callv F [pI (sc xs (i + 1)), pI (sc xs (i + 2)), pI (sc xs (i + 3))] dL_825 kM_X7_sale kI_X7_sale kV_X7_sale kL_L_107 (ci := 7) rfl sh_20 rfl (by decide) (Nat.le_of_ble_eq_true rfl) rfl (t_sale _ h hn (sc_i _ _) (sc_i _ _) (sc_i _ _)) ?_
  rintro _ m1 ⟨z, rfl, h8⟩
  refine ok_aload_n F dL_828 1 rfl ?_
  refine law_arg F G hi (j := 1) (by decide) dL_829 dL_830 dL_831 dL_832 dL_833 ?_
  refine law_arg F G hi (j := 2) (by decide) dL_834 dL_835 dL_836 dL_837 dL_838 ?_
  refine law_arg F G hi (j := 3) (by decide) dL_839 dL_840 dL_841 dL_842 dL_843 ?_
  refine ok_callv F [pI (sc xs (i + 1)), pI (sc xs (i + 2)), pI (sc xs (i + 3))] dL_844 kM_X8_sale kI_X8_sale kV_X8_sale kL_L_110 (ci := 8) rfl sh_0 rfl (by decide) (Nat.le_of_ble_eq_true rfl) rfl h8 ?_
  rintro _ mv ⟨rfl, hx⟩
  exact ok_isame F 1348 dL_847 (by decide) (K mv hx)
/-- behind -/
theorem lc_23 (F : Fx shp X code 4 RL 40) (G : LX X L xs) (h : CR n m0) (hn0 : 0 ≤ n) (hn : n ≤ 600) (hi : 0 ≤ i ∧ i + 6 ≤ L) (K : ∀ mv, CRx (n + 1) mv → Ok shp X 4 1348 [(3, pI i), (2, pR 0), (1, pR 20), (0, pR 9999)] [] mv) : Ok shp X 4 852 [(3, pI i), (2, pR 0), (1, pR 20), (0, pR 9999)] [] m0 := by
  refine ok_aload_n F dL_852 2 rfl ?_
  refine law_arg F G hi (j := 1) (by decide) dL_853 dL_854 dL_855 dL_856 dL_857 ?_
  refine law_arg F G hi (j := 2) (by decide) dL_858 dL_859 dL_860 dL_861 dL_862 ?_
  refine law_arg F G hi (j := 3) (by decide) dL_863 dL_864 dL_865 dL_866 dL_867 ?_
  refine ok_callv F [pI (sc xs (i + 1)), pI (sc xs (i + 2)), pI (sc xs (i + 3))] dL_868 kM_X7_behind kI_X7_behind kV_X7_behind kL_L_111 (ci := 7) rfl sh_20 rfl (by decide) (Nat.le_of_ble_eq_true rfl) rfl (t_behind _ h hn (sc_i _ _) (sc_i _ _) (sc_i _ _)) ?_
  rintro _ m1 ⟨z, rfl, h8⟩
  refine ok_aload_n F dL_871 1 rfl ?_
  refine law_arg F G hi (j := 1) (by decide) dL_872 dL_873 dL_874 dL_875 dL_876 ?_
  refine law_arg F G hi (j := 2) (by decide) dL_877 dL_878 dL_879 dL_880 dL_881 ?_
  refine law_arg F G hi (j := 3) (by decide) dL_882 dL_883 dL_884 dL_885 dL_886 ?_
  refine ok_callv F [pI (sc xs (i + 1)), pI (sc xs (i + 2)), pI (sc xs (i + 3))] dL_887 kM_X8_behind kI_X8_behind kV_X8_behind kL_L_114 (ci := 8) rfl sh_0 rfl (by decide) (Nat.le_of_ble_eq_true rfl) rfl h8 ?_
  rintro _ mv ⟨rfl, hx⟩
  exact ok_isame F 1348 dL_890 (by decide) (K mv hx)
/-- lasts -/
theorem lc_24 (F : Fx shp X code 4 RL 40) (G : LX X L xs) (h : CR n m0) (hn0 : 0 ≤ n) (hn : n ≤ 600) (hi : 0 ≤ i ∧ i + 6 ≤ L) (K : ∀ mv, CRx (n + 1) mv → Ok shp X 4 1348 [(3, pI i), (2, pR 0), (1, pR 20), (0, pR 9999)] [] mv) : Ok shp X 4 895 [(3, pI i), (2, pR 0), (1, pR 20), (0, pR 9999)] [] m0 := by
  refine ok_aload_n F dL_895 2 rfl ?_
  refine law_arg F G hi (j := 1) (by decide) dL_896 dL_897 dL_898 dL_899 dL_900 ?_
  refine ok_callv F [pI (sc xs (i + 1))] dL_901 kM_X7_lasts kI_X7_lasts kV_X7_lasts kL_L_115 (ci := 7) rfl sh_20 rfl (by decide) (Nat.le_of_ble_eq_true rfl) rfl (t_lasts _ h hn (sc_i _ _)) ?_
  rintro _ m1 ⟨z, rfl, h8⟩
  refine ok_aload_n F dL_904 1 rfl ?_
  refine law_arg F G hi (j := 1) (by decide) dL_905 dL_906 dL_907 dL_908 dL_909 ?_
  refine ok_callv F [pI (sc xs (i + 1))] dL_910 kM_X8_lasts kI_X8_lasts kV_X8_lasts kL_L_118 (ci := 8) rfl sh_0 rfl (by decide) (Nat.le_of_ble_eq_true rfl) rfl h8 ?_
  rintro _ mv ⟨rfl, hx⟩
  exact ok_isame F 1348 dL_913 (by decide) (K mv hx)
/-- trim -/
theorem lc_25 (F : Fx shp X code 4 RL 40) (G : LX X L xs) (h : CR n m0) (hn0 : 0 ≤ n) (hn : n ≤ 600) (hi : 0 ≤ i ∧ i + 6 ≤ L) (K : ∀ mv, CRx (n + 1) mv → Ok shp X 4 1348 [(3, pI i), (2, pR 0), (1, pR 20), (0, pR 9999)] [] mv) : Ok shp X 4 918 [(3, pI i), (2, pR 0), (1, pR 20), (0, pR 9999)] [] m0 := by
  refine ok_aload_n F dL_918 2 rfl ?_
  refine law_arg F G hi (j := 1) (by decide) dL_919 dL_920 dL_921 dL_922 dL_923 ?_
  refine law_arg F G hi (j := 2) (by decide) dL_924 dL_925 dL_926 dL_927 dL_928 ?_
  refine ok_callv F [pI (sc xs (i + 1)), pI (sc xs (i + 2))] dL_929 kM_X7_trim kI_X7_trim kV_X7_trim kL_L_119 (ci := 7) rfl sh_20 rfl (by decide) (Nat.le_of_ble_eq_true rfl) rfl (t_trim _ h hn (sc_i _ _) (sc_i _ _)) ?_
  rintro _ m1 ⟨z, rfl, h8⟩
  refine ok_aload_n F dL_932 1 rfl ?_
  refine law_arg F G hi (j := 1) (by decide) dL_933 dL_934 dL_935 dL_936 dL_937 ?_
  refine law_arg F G hi (j := 2) (by decide) dL_938 dL_939 dL_940 dL_941 dL_942 ?_
  refine ok_callv F [pI (sc xs (i + 1)), pI (sc xs (i + 2))] dL_943 kM_X8_trim kI_X8_trim kV_X8_trim kL_L_122 (ci := 8) rfl sh_0 rfl (by decide) (Nat.le_of_ble_eq_true rfl) rfl h8 ?_
  rintro _ mv ⟨rfl, hx⟩
  exact ok_isame F 1348 dL_946 (by decide) (K mv hx)
/-- worst -/
theorem lc_26 (F : Fx shp X code 4 RL 40) (G : LX X L xs) (h : CR n m0) (hn0 : 0 ≤ n) (hn : n ≤ 600) (hi : 0 ≤ i ∧ i + 6 ≤ L) (K : ∀ mv, CRx (n + 1) mv → Ok shp X 4 1348 [(3, pI i), (2, pR 0), (1, pR 20), (0, pR 9999)] [] mv) : Ok shp X 4 951 [(3, pI i), (2, pR 0), (1, pR 20), (0, pR 9999)] [] m0 := by
  refine ok_aload_n F dL_951 2 rfl ?_
  refine law_arg F G hi (j := 1) (by decide) dL_952 dL_953 dL_954 dL_955 dL_956 ?_
  refine ok_callv F [pI (sc xs (i + 1))] dL_957 kM_X7_worst kI_X7_worst kV_X7_worst kL_L_123 (ci := 7) rfl sh_20 rfl (by decide) (Nat.le_of_ble_eq_true rfl) rfl (t_worst _ h hn (sc_i _ _)) ?_
  rintro _ m1 ⟨z, rfl, h8⟩
  refine ok_aload_n F dL_960 1 rfl ?_
  refine law_arg F G hi (j := 1) (by decide) dL_961 dL_962 dL_963 dL_964 dL_965 ?_
  refine ok_callv F [pI (sc xs (i + 1))] dL_966 kM_X8_worst kI_X8_worst kV_X8_worst kL_L_126 (ci := 8) rfl sh_0 rfl (by decide) (Nat.le_of_ble_eq_true rfl) rfl h8 ?_
  rintro _ mv ⟨rfl, hx⟩
  exact ok_isame F 1348 dL_969 (by decide) (K mv hx)
/-- bags -/
theorem lc_27 (F : Fx shp X code 4 RL 40) (G : LX X L xs) (h : CR n m0) (hn0 : 0 ≤ n) (hn : n ≤ 600) (hi : 0 ≤ i ∧ i + 6 ≤ L) (K : ∀ mv, CRx (n + 1) mv → Ok shp X 4 1348 [(3, pI i), (2, pR 0), (1, pR 20), (0, pR 9999)] [] mv) : Ok shp X 4 974 [(3, pI i), (2, pR 0), (1, pR 20), (0, pR 9999)] [] m0 := by
  refine ok_aload_n F dL_974 2 rfl ?_
  refine law_arg F G hi (j := 1) (by decide) dL_975 dL_976 dL_977 dL_978 dL_979 ?_
  refine ok_callv F [pI (sc xs (i + 1))] dL_980 kM_X7_bags kI_X7_bags kV_X7_bags kL_L_127 (ci := 7) rfl sh_20 rfl (by decide) (Nat.le_of_ble_eq_true rfl) rfl (t_bags _ h (sc_i _ _)) ?_
  rintro _ m1 ⟨z, rfl, h8⟩
  refine ok_aload_n F dL_983 1 rfl ?_
  refine law_arg F G hi (j := 1) (by decide) dL_984 dL_985 dL_986 dL_987 dL_988 ?_
  refine ok_callv F [pI (sc xs (i + 1))] dL_989 kM_X8_bags kI_X8_bags kV_X8_bags kL_L_130 (ci := 8) rfl sh_0 rfl (by decide) (Nat.le_of_ble_eq_true rfl) rfl h8 ?_
  rintro _ mv ⟨rfl, hx⟩
  exact ok_isame F 1348 dL_992 (by decide) (K mv hx)
/-- mean -/
theorem lc_28 (F : Fx shp X code 4 RL 40) (G : LX X L xs) (h : CR n m0) (hn0 : 0 ≤ n) (hn : n ≤ 600) (hi : 0 ≤ i ∧ i + 6 ≤ L) (K : ∀ mv, CRx (n + 1) mv → Ok shp X 4 1348 [(3, pI i), (2, pR 0), (1, pR 20), (0, pR 9999)] [] mv) : Ok shp X 4 997 [(3, pI i), (2, pR 0), (1, pR 20), (0, pR 9999)] [] m0 := by
  refine ok_aload_n F dL_997 2 rfl ?_
  refine law_arg F G hi (j := 1) (by decide) dL_998 dL_999 dL_1000 dL_1001 dL_1002 ?_
  refine ok_callv F [pI (sc xs (i + 1))] dL_1003 kM_X7_mean kI_X7_mean kV_X7_mean kL_L_131 (ci := 7) rfl sh_20 rfl (by decide) (Nat.le_of_ble_eq_true rfl) rfl (t_mean _ h hn (sc_i _ _)) ?_
  rintro _ m1 ⟨z, rfl, h8⟩
  refine ok_aload_n F dL_1006 1 rfl ?_
  refine law_arg F G hi (j := 1) (by decide) dL_1007 dL_1008 dL_1009 dL_1010 dL_1011 ?_
  refine ok_callv F [pI (sc xs (i + 1))] dL_1012 kM_X8_mean kI_X8_mean kV_X8_mean kL_L_134 (ci := 8) rfl sh_0 rfl (by decide) (Nat.le_of_ble_eq_true rfl) rfl h8 ?_
  rintro _ mv ⟨rfl, hx⟩
  exact ok_lsame F 1348 dL_1015 dL_1016 (by decide) (K mv hx)
/-- pays -/
theorem lc_29 (F : Fx shp X code 4 RL 40) (G : LX X L xs) (h : CR n m0) (hn0 : 0 ≤ n) (hn : n ≤ 600) (hi : 0 ≤ i ∧ i + 6 ≤ L) (K : ∀ mv, CRx (n + 1) mv → Ok shp X 4 1348 [(3, pI i), (2, pR 0), (1, pR 20), (0, pR 9999)] [] mv) : Ok shp X 4 1021 [(3, pI i), (2, pR 0), (1, pR 20), (0, pR 9999)] [] m0 := by
  refine ok_aload_n F dL_1021 2 rfl ?_
  refine law_arg F G hi (j := 1) (by decide) dL_1022 dL_1023 dL_1024 dL_1025 dL_1026 ?_
  refine law_arg F G hi (j := 2) (by decide) dL_1027 dL_1028 dL_1029 dL_1030 dL_1031 ?_
  refine ok_callv F [pI (sc xs (i + 1)), pI (sc xs (i + 2))] dL_1032 kM_X7_pays kI_X7_pays kV_X7_pays kL_L_135 (ci := 7) rfl sh_20 rfl (by decide) (Nat.le_of_ble_eq_true rfl) rfl (t_pays _ h (sc_i _ _) (sc_i _ _)) ?_
  rintro _ m1 ⟨z, rfl, h8⟩
  refine ok_aload_n F dL_1035 1 rfl ?_
  refine law_arg F G hi (j := 1) (by decide) dL_1036 dL_1037 dL_1038 dL_1039 dL_1040 ?_
  refine law_arg F G hi (j := 2) (by decide) dL_1041 dL_1042 dL_1043 dL_1044 dL_1045 ?_
  refine ok_callv F [pI (sc xs (i + 1)), pI (sc xs (i + 2))] dL_1046 kM_X8_pays kI_X8_pays kV_X8_pays kL_L_138 (ci := 8) rfl sh_0 rfl (by decide) (Nat.le_of_ble_eq_true rfl) rfl h8 ?_
  rintro _ mv ⟨rfl, hx⟩
  exact ok_isame F 1348 dL_1049 (by decide) (K mv hx)
/-- swap -/
theorem lc_30 (F : Fx shp X code 4 RL 40) (G : LX X L xs) (h : CR n m0) (hn0 : 0 ≤ n) (hn : n ≤ 600) (hi : 0 ≤ i ∧ i + 6 ≤ L) (K : ∀ mv, CRx (n + 1) mv → Ok shp X 4 1348 [(3, pI i), (2, pR 0), (1, pR 20), (0, pR 9999)] [] mv) : Ok shp X 4 1054 [(3, pI i), (2, pR 0), (1, pR 20), (0, pR 9999)] [] m0 := by
  refine ok_aload_n F dL_1054 2 rfl ?_
  refine law_arg F G hi (j := 1) (by decide) dL_1055 dL_1056 dL_1057 dL_1058 dL_1059 ?_
  refine law_arg F G hi (j := 2) (by decide) dL_1060 dL_1061 dL_1062 dL_1063 dL_1064 ?_
  refine ok_callv F [pI (sc xs (i + 1)), pI (sc xs (i + 2))] dL_1065 kM_X7_swap kI_X7_swap kV_X7_swap kL_L_139 (ci := 7) rfl sh_20 rfl (by decide) (Nat.le_of_ble_eq_true rfl) rfl (t_swap _ h (sc_i _ _) (sc_i _ _)) ?_
  rintro _ m1 ⟨z, rfl, h8⟩
  refine ok_aload_n F dL_1068 1 rfl ?_
  refine law_arg F G hi (j := 1) (by decide) dL_1069 dL_1070 dL_1071 dL_1072 dL_1073 ?_
  refine law_arg F G hi (j := 2) (by decide) dL_1074 dL_1075 dL_1076 dL_1077 dL_1078 ?_
  refine ok_callv F [pI (sc xs (i + 1)), pI (sc xs (i + 2))] dL_1079 kM_X8_swap kI_X8_swap kV_X8_swap kL_L_142 (ci := 8) rfl sh_0 rfl (by decide) (Nat.le_of_ble_eq_true rfl) rfl h8 ?_
  rintro _ mv ⟨rfl, hx⟩
  exact ok_isame F 1348 dL_1082 (by decide) (K mv hx)
/-- needs -/
theorem lc_31 (F : Fx shp X code 4 RL 40) (G : LX X L xs) (h : CR n m0) (hn0 : 0 ≤ n) (hn : n ≤ 600) (hi : 0 ≤ i ∧ i + 6 ≤ L) (K : ∀ mv, CRx (n + 1) mv → Ok shp X 4 1348 [(3, pI i), (2, pR 0), (1, pR 20), (0, pR 9999)] [] mv) : Ok shp X 4 1087 [(3, pI i), (2, pR 0), (1, pR 20), (0, pR 9999)] [] m0 := by
  refine ok_aload_n F dL_1087 2 rfl ?_
  refine law_arg F G hi (j := 1) (by decide) dL_1088 dL_1089 dL_1090 dL_1091 dL_1092 ?_
  refine law_arg F G hi (j := 2) (by decide) dL_1093 dL_1094 dL_1095 dL_1096 dL_1097 ?_
  refine ok_callv F [pI (sc xs (i + 1)), pI (sc xs (i + 2))] dL_1098 kM_X7_needs kI_X7_needs kV_X7_needs kL_L_143 (ci := 7) rfl sh_20 rfl (by decide) (Nat.le_of_ble_eq_true rfl) rfl (t_needs _ h hn (sc_i _ _) (sc_i _ _)) ?_
  rintro _ m1 ⟨z, rfl, h8⟩
  refine ok_aload_n F dL_1101 1 rfl ?_
  refine law_arg F G hi (j := 1) (by decide) dL_1102 dL_1103 dL_1104 dL_1105 dL_1106 ?_
  refine law_arg F G hi (j := 2) (by decide) dL_1107 dL_1108 dL_1109 dL_1110 dL_1111 ?_
  refine ok_callv F [pI (sc xs (i + 1)), pI (sc xs (i + 2))] dL_1112 kM_X8_needs kI_X8_needs kV_X8_needs kL_L_146 (ci := 8) rfl sh_0 rfl (by decide) (Nat.le_of_ble_eq_true rfl) rfl h8 ?_
  rintro _ mv ⟨rfl, hx⟩
  exact ok_isame F 1348 dL_1115 (by decide) (K mv hx)
/-- dearest -/
theorem lc_32 (F : Fx shp X code 4 RL 40) (G : LX X L xs) (h : CR n m0) (hn0 : 0 ≤ n) (hn : n ≤ 600) (hi : 0 ≤ i ∧ i + 6 ≤ L) (K : ∀ mv, CRx (n + 1) mv → Ok shp X 4 1348 [(3, pI i), (2, pR 0), (1, pR 20), (0, pR 9999)] [] mv) : Ok shp X 4 1120 [(3, pI i), (2, pR 0), (1, pR 20), (0, pR 9999)] [] m0 := by
  refine ok_aload_n F dL_1120 2 rfl ?_
  refine law_arg F G hi (j := 1) (by decide) dL_1121 dL_1122 dL_1123 dL_1124 dL_1125 ?_
  refine ok_callv F [pI (sc xs (i + 1))] dL_1126 kM_X7_dearest kI_X7_dearest kV_X7_dearest kL_L_147 (ci := 7) rfl sh_20 rfl (by decide) (Nat.le_of_ble_eq_true rfl) rfl (t_dearest _ h (sc_i _ _)) ?_
  rintro _ m1 ⟨z, rfl, h8⟩
  refine ok_aload_n F dL_1129 1 rfl ?_
  refine law_arg F G hi (j := 1) (by decide) dL_1130 dL_1131 dL_1132 dL_1133 dL_1134 ?_
  refine ok_callv F [pI (sc xs (i + 1))] dL_1135 kM_X8_dearest kI_X8_dearest kV_X8_dearest kL_L_150 (ci := 8) rfl sh_0 rfl (by decide) (Nat.le_of_ble_eq_true rfl) rfl h8 ?_
  rintro _ mv ⟨rfl, hx⟩
  exact ok_isame F 1348 dL_1138 (by decide) (K mv hx)
/-- share -/
theorem lc_33 (F : Fx shp X code 4 RL 40) (G : LX X L xs) (h : CR n m0) (hn0 : 0 ≤ n) (hn : n ≤ 600) (hi : 0 ≤ i ∧ i + 6 ≤ L) (K : ∀ mv, CRx (n + 1) mv → Ok shp X 4 1348 [(3, pI i), (2, pR 0), (1, pR 20), (0, pR 9999)] [] mv) : Ok shp X 4 1143 [(3, pI i), (2, pR 0), (1, pR 20), (0, pR 9999)] [] m0 := by
  refine ok_aload_n F dL_1143 2 rfl ?_
  refine ok_callv F [] dL_1144 kM_X7_share kI_X7_share kV_X7_share kL_L_151 (ci := 7) rfl sh_20 rfl (by decide) (Nat.le_of_ble_eq_true rfl) rfl (t_share _ h) ?_
  rintro _ m1 ⟨z, rfl, h8⟩
  refine ok_aload_n F dL_1147 1 rfl ?_
  refine ok_callv F [] dL_1148 kM_X8_share kI_X8_share kV_X8_share kL_L_155 (ci := 8) rfl sh_0 rfl (by decide) (Nat.le_of_ble_eq_true rfl) rfl h8 ?_
  rintro _ mv ⟨rfl, hx⟩
  exact ok_lsame F 1348 dL_1151 dL_1152 (by decide) (K mv hx)
/-- greedy -/
theorem lc_34 (F : Fx shp X code 4 RL 40) (G : LX X L xs) (h : CR n m0) (hn0 : 0 ≤ n) (hn : n ≤ 600) (hi : 0 ≤ i ∧ i + 6 ≤ L) (K : ∀ mv, CRx (n + 1) mv → Ok shp X 4 1348 [(3, pI i), (2, pR 0), (1, pR 20), (0, pR 9999)] [] mv) : Ok shp X 4 1157 [(3, pI i), (2, pR 0), (1, pR 20), (0, pR 9999)] [] m0 := by
  refine ok_aload_n F dL_1157 2 rfl ?_
  refine law_arg F G hi (j := 1) (by decide) dL_1158 dL_1159 dL_1160 dL_1161 dL_1162 ?_
  refine ok_callv F [pI (sc xs (i + 1))] dL_1163 kM_X7_greedy kI_X7_greedy kV_X7_greedy kL_L_156 (ci := 7) rfl sh_20 rfl (by decide) (Nat.le_of_ble_eq_true rfl) rfl (t_greedy _ h (sc_i _ _)) ?_
  rintro _ m1 ⟨z, rfl, h8⟩
  refine ok_aload_n F dL_1166 1 rfl ?_
  refine law_arg F G hi (j := 1) (by decide) dL_1167 dL_1168 dL_1169 dL_1170 dL_1171 ?_
  refine ok_callv F [pI (sc xs (i + 1))] dL_1172 kM_X8_greedy kI_X8_greedy kV_X8_greedy kL_L_159 (ci := 8) rfl sh_0 rfl (by decide) (Nat.le_of_ble_eq_true rfl) rfl h8 ?_
  rintro _ mv ⟨rfl, hx⟩
  exact ok_isame F 1348 dL_1175 (by decide) (K mv hx)
/-- letter -/
theorem lc_35 (F : Fx shp X code 4 RL 40) (G : LX X L xs) (h : CR n m0) (hn0 : 0 ≤ n) (hn : n ≤ 600) (hi : 0 ≤ i ∧ i + 6 ≤ L) (K : ∀ mv, CRx (n + 1) mv → Ok shp X 4 1348 [(3, pI i), (2, pR 0), (1, pR 20), (0, pR 9999)] [] mv) : Ok shp X 4 1180 [(3, pI i), (2, pR 0), (1, pR 20), (0, pR 9999)] [] m0 := by
  refine ok_aload_n F dL_1180 2 rfl ?_
  refine law_arg F G hi (j := 1) (by decide) dL_1181 dL_1182 dL_1183 dL_1184 dL_1185 ?_
  refine ok_callv F [pI (sc xs (i + 1))] dL_1186 kM_X7_letter kI_X7_letter kV_X7_letter kL_L_160 (ci := 7) rfl sh_20 rfl (by decide) (Nat.le_of_ble_eq_true rfl) rfl (t_letter _ h (sc_i _ _)) ?_
  rintro _ m1 ⟨z, rfl, h8⟩
  refine ok_aload_n F dL_1189 1 rfl ?_
  refine law_arg F G hi (j := 1) (by decide) dL_1190 dL_1191 dL_1192 dL_1193 dL_1194 ?_
  refine ok_callv F [pI (sc xs (i + 1))] dL_1195 kM_X8_letter kI_X8_letter kV_X8_letter kL_L_163 (ci := 8) rfl sh_0 rfl (by decide) (Nat.le_of_ble_eq_true rfl) rfl h8 ?_
  rintro _ mv ⟨rfl, hx⟩
  exact ok_isame F 1348 dL_1198 (by decide) (K mv hx)
/-- flow -/
theorem lc_36 (F : Fx shp X code 4 RL 40) (G : LX X L xs) (h : CR n m0) (hn0 : 0 ≤ n) (hn : n ≤ 600) (hi : 0 ≤ i ∧ i + 6 ≤ L) (K : ∀ mv, CRx (n + 1) mv → Ok shp X 4 1348 [(3, pI i), (2, pR 0), (1, pR 20), (0, pR 9999)] [] mv) : Ok shp X 4 1203 [(3, pI i), (2, pR 0), (1, pR 20), (0, pR 9999)] [] m0 := by
  refine ok_aload_n F dL_1203 2 rfl ?_
  refine law_arg F G hi (j := 1) (by decide) dL_1204 dL_1205 dL_1206 dL_1207 dL_1208 ?_
  refine law_arg F G hi (j := 2) (by decide) dL_1209 dL_1210 dL_1211 dL_1212 dL_1213 ?_
  refine ok_callv F [pI (sc xs (i + 1)), pI (sc xs (i + 2))] dL_1214 kM_X7_flow kI_X7_flow kV_X7_flow kL_L_164 (ci := 7) rfl sh_20 rfl (by decide) (Nat.le_of_ble_eq_true rfl) rfl (t_flow _ h hn (sc_i _ _) (sc_i _ _)) ?_
  rintro _ m1 ⟨z, rfl, h8⟩
  refine ok_aload_n F dL_1217 1 rfl ?_
  refine law_arg F G hi (j := 1) (by decide) dL_1218 dL_1219 dL_1220 dL_1221 dL_1222 ?_
  refine law_arg F G hi (j := 2) (by decide) dL_1223 dL_1224 dL_1225 dL_1226 dL_1227 ?_
  refine ok_callv F [pI (sc xs (i + 1)), pI (sc xs (i + 2))] dL_1228 kM_X8_flow kI_X8_flow kV_X8_flow kL_L_167 (ci := 8) rfl sh_0 rfl (by decide) (Nat.le_of_ble_eq_true rfl) rfl h8 ?_
  rintro _ mv ⟨rfl, hx⟩
  exact ok_isame F 1348 dL_1231 (by decide) (K mv hx)
/-- gone -/
theorem lc_37 (F : Fx shp X code 4 RL 40) (G : LX X L xs) (h : CR n m0) (hn0 : 0 ≤ n) (hn : n ≤ 600) (hi : 0 ≤ i ∧ i + 6 ≤ L) (K : ∀ mv, CRx (n + 1) mv → Ok shp X 4 1348 [(3, pI i), (2, pR 0), (1, pR 20), (0, pR 9999)] [] mv) : Ok shp X 4 1236 [(3, pI i), (2, pR 0), (1, pR 20), (0, pR 9999)] [] m0 := by
  refine ok_aload_n F dL_1236 2 rfl ?_
  refine law_arg F G hi (j := 1) (by decide) dL_1237 dL_1238 dL_1239 dL_1240 dL_1241 ?_
  refine law_arg F G hi (j := 2) (by decide) dL_1242 dL_1243 dL_1244 dL_1245 dL_1246 ?_
  refine ok_callv F [pI (sc xs (i + 1)), pI (sc xs (i + 2))] dL_1247 kM_X7_gone kI_X7_gone kV_X7_gone kL_L_168 (ci := 7) rfl sh_20 rfl (by decide) (Nat.le_of_ble_eq_true rfl) rfl (t_gone _ h hn (sc_i _ _) (sc_i _ _)) ?_
  rintro _ m1 ⟨z, rfl, h8⟩
  refine ok_aload_n F dL_1250 1 rfl ?_
  refine law_arg F G hi (j := 1) (by decide) dL_1251 dL_1252 dL_1253 dL_1254 dL_1255 ?_
  refine law_arg F G hi (j := 2) (by decide) dL_1256 dL_1257 dL_1258 dL_1259 dL_1260 ?_
  refine ok_callv F [pI (sc xs (i + 1)), pI (sc xs (i + 2))] dL_1261 kM_X8_gone kI_X8_gone kV_X8_gone kL_L_171 (ci := 8) rfl sh_0 rfl (by decide) (Nat.le_of_ble_eq_true rfl) rfl h8 ?_
  rintro _ mv ⟨rfl, hx⟩
  exact ok_isame F 1348 dL_1264 (by decide) (K mv hx)
/-- even -/
theorem lc_38 (F : Fx shp X code 4 RL 40) (G : LX X L xs) (h : CR n m0) (hn0 : 0 ≤ n) (hn : n ≤ 600) (hi : 0 ≤ i ∧ i + 6 ≤ L) (K : ∀ mv, CRx (n + 1) mv → Ok shp X 4 1348 [(3, pI i), (2, pR 0), (1, pR 20), (0, pR 9999)] [] mv) : Ok shp X 4 1269 [(3, pI i), (2, pR 0), (1, pR 20), (0, pR 9999)] [] m0 := by
  refine ok_aload_n F dL_1269 2 rfl ?_
  refine law_arg F G hi (j := 1) (by decide) dL_1270 dL_1271 dL_1272 dL_1273 dL_1274 ?_
  refine law_arg F G hi (j := 2) (by decide) dL_1275 dL_1276 dL_1277 dL_1278 dL_1279 ?_
  refine ok_callv F [pI (sc xs (i + 1)), pI (sc xs (i + 2))] dL_1280 kM_X7_even kI_X7_even kV_X7_even kL_L_172 (ci := 7) rfl sh_20 rfl (by decide) (Nat.le_of_ble_eq_true rfl) rfl (t_even _ h (sc_i _ _) (sc_i _ _)) ?_
  rintro _ m1 ⟨z, rfl, h8⟩
  refine ok_aload_n F dL_1283 1 rfl ?_
  refine law_arg F G hi (j := 1) (by decide) dL_1284 dL_1285 dL_1286 dL_1287 dL_1288 ?_
  refine law_arg F G hi (j := 2) (by decide) dL_1289 dL_1290 dL_1291 dL_1292 dL_1293 ?_
  refine ok_callv F [pI (sc xs (i + 1)), pI (sc xs (i + 2))] dL_1294 kM_X8_even kI_X8_even kV_X8_even kL_L_175 (ci := 8) rfl sh_0 rfl (by decide) (Nat.le_of_ble_eq_true rfl) rfl h8 ?_
  rintro _ mv ⟨rfl, hx⟩
  exact ok_isame F 1348 dL_1297 (by decide) (K mv hx)
/-- total -/
theorem lc_39 (F : Fx shp X code 4 RL 40) (G : LX X L xs) (h : CR n m0) (hn0 : 0 ≤ n) (hn : n ≤ 600) (hi : 0 ≤ i ∧ i + 6 ≤ L) (K : ∀ mv, CRx (n + 1) mv → Ok shp X 4 1348 [(3, pI i), (2, pR 0), (1, pR 20), (0, pR 9999)] [] mv) : Ok shp X 4 1302 [(3, pI i), (2, pR 0), (1, pR 20), (0, pR 9999)] [] m0 := by
  refine ok_aload_n F dL_1302 2 rfl ?_
  refine law_arg F G hi (j := 1) (by decide) dL_1303 dL_1304 dL_1305 dL_1306 dL_1307 ?_
  refine ok_callv F [pI (sc xs (i + 1))] dL_1308 kM_X7_total kI_X7_total kV_X7_total kL_L_176 (ci := 7) rfl sh_20 rfl (by decide) (Nat.le_of_ble_eq_true rfl) rfl (t_total _ h (sc_i _ _)) ?_
  rintro _ m1 ⟨z, rfl, h8⟩
  refine ok_aload_n F dL_1311 1 rfl ?_
  refine law_arg F G hi (j := 1) (by decide) dL_1312 dL_1313 dL_1314 dL_1315 dL_1316 ?_
  refine ok_callv F [pI (sc xs (i + 1))] dL_1317 kM_X8_total kI_X8_total kV_X8_total kL_L_179 (ci := 8) rfl sh_0 rfl (by decide) (Nat.le_of_ble_eq_true rfl) rfl h8 ?_
  rintro _ mv ⟨rfl, hx⟩
  exact ok_isame F 1348 dL_1320 (by decide) (K mv hx)
/-- count -/
theorem lc_40 (F : Fx shp X code 4 RL 40) (G : LX X L xs) (h : CR n m0) (hn0 : 0 ≤ n) (hn : n ≤ 600) (hi : 0 ≤ i ∧ i + 6 ≤ L) (K : ∀ mv, CRx (n + 1) mv → Ok shp X 4 1348 [(3, pI i), (2, pR 0), (1, pR 20), (0, pR 9999)] [] mv) : Ok shp X 4 1325 [(3, pI i), (2, pR 0), (1, pR 20), (0, pR 9999)] [] m0 := by
  refine ok_aload_n F dL_1325 2 rfl ?_
  refine law_arg F G hi (j := 1) (by decide) dL_1326 dL_1327 dL_1328 dL_1329 dL_1330 ?_
  refine ok_callv F [pI (sc xs (i + 1))] dL_1331 kM_X7_count kI_X7_count kV_X7_count kL_L_180 (ci := 7) rfl sh_20 rfl (by decide) (Nat.le_of_ble_eq_true rfl) rfl (t_count _ h (sc_i _ _)) ?_
  rintro _ m1 ⟨z, rfl, h8⟩
  refine ok_aload_n F dL_1334 1 rfl ?_
  refine law_arg F G hi (j := 1) (by decide) dL_1335 dL_1336 dL_1337 dL_1338 dL_1339 ?_
  refine ok_callv F [pI (sc xs (i + 1))] dL_1340 kM_X8_count kI_X8_count kV_X8_count kL_L_183 (ci := 8) rfl sh_0 rfl (by decide) (Nat.le_of_ble_eq_true rfl) rfl h8 ?_
  rintro _ mv ⟨rfl, hx⟩
  exact ok_isame F 1348 dL_1343 (by decide) (K mv hx)
end LC
/-- where the table leads -/
theorem law_table {X : KX} {L : Nat} {xs : Nat → Int32} {n i v : Int} {m0 : Mem} (F : Fx shp X code 4 RL 40) (G : LX X L xs) (h : CR n m0) (hn0 : 0 ≤ n) (hn : n ≤ 600) (hi : 0 ≤ i ∧ i + 6 ≤ L) (hv : 0 ≤ v ∧ v ≤ 63) (K : ∀ mv, CRx (n + 1) mv → Ok shp X 4 1348 [(3, pI i), (2, pR 0), (1, pR 20), (0, pR 9999)] [] mv) : Ok shp X 4 33 [(3, pI i), (2, pR 0), (1, pR 20), (0, pR 9999)] [pI v] m0 := by
  by_cases g : 40 < v
  · exact ok_tabOut F 1348 dL_33 ⟨by omega, by omega⟩ (Or.inr g) (by decide) (K m0 (h.mono (by omega)).x)
  have hk : v = 0 ∨ v = 1 ∨ v = 2 ∨ v = 3 ∨ v = 4 ∨ v = 5 ∨ v = 6 ∨ v = 7 ∨ v = 8 ∨ v = 9 ∨ v = 10 ∨ v = 11 ∨ v = 12 ∨ v = 13 ∨ v = 14 ∨ v = 15 ∨ v = 16 ∨ v = 17 ∨ v = 18 ∨ v = 19 ∨ v = 20 ∨ v = 21 ∨ v = 22 ∨ v = 23 ∨ v = 24 ∨ v = 25 ∨ v = 26 ∨ v = 27 ∨ v = 28 ∨ v = 29 ∨ v = 30 ∨ v = 31 ∨ v = 32 ∨ v = 33 ∨ v = 34 ∨ v = 35 ∨ v = 36 ∨ v = 37 ∨ v = 38 ∨ v = 39 ∨ v = 40 := by omega
  rcases hk with rfl | rfl | rfl | rfl | rfl | rfl | rfl | rfl | rfl | rfl | rfl | rfl | rfl | rfl | rfl | rfl | rfl | rfl | rfl | rfl | rfl | rfl | rfl | rfl | rfl | rfl | rfl | rfl | rfl | rfl | rfl | rfl | rfl | rfl | rfl | rfl | rfl | rfl | rfl | rfl | rfl
  · exact ok_tabIn F 212 dL_33 ⟨by decide, by decide⟩ (by decide) (by decide) (by first | rfl | decide) (by decide) (lc_0 F G h hn0 hn hi K)
  · exact ok_tabIn F 275 dL_33 ⟨by decide, by decide⟩ (by decide) (by decide) (by first | rfl | decide) (by decide) (lc_1 F G h hn0 hn hi K)
  · exact ok_tabIn F 298 dL_33 ⟨by decide, by decide⟩ (by decide) (by decide) (by first | rfl | decide) (by decide) (lc_2 F G h hn0 hn hi K)
  · exact ok_tabIn F 311 dL_33 ⟨by decide, by decide⟩ (by decide) (by decide) (by first | rfl | decide) (by decide) (lc_3 F G h hn0 hn hi K)
  · exact ok_tabIn F 354 dL_33 ⟨by decide, by decide⟩ (by decide) (by decide) (by first | rfl | decide) (by decide) (lc_4 F G h hn0 hn hi K)
  · exact ok_tabIn F 377 dL_33 ⟨by decide, by decide⟩ (by decide) (by decide) (by first | rfl | decide) (by decide) (lc_5 F G h hn0 hn hi K)
  · exact ok_tabIn F 400 dL_33 ⟨by decide, by decide⟩ (by decide) (by decide) (by first | rfl | decide) (by decide) (lc_6 F G h hn0 hn hi K)
  · exact ok_tabIn F 423 dL_33 ⟨by decide, by decide⟩ (by decide) (by decide) (by first | rfl | decide) (by decide) (lc_7 F G h hn0 hn hi K)
  · exact ok_tabIn F 446 dL_33 ⟨by decide, by decide⟩ (by decide) (by decide) (by first | rfl | decide) (by decide) (lc_8 F G h hn0 hn hi K)
  · exact ok_tabIn F 459 dL_33 ⟨by decide, by decide⟩ (by decide) (by decide) (by first | rfl | decide) (by decide) (lc_9 F G h hn0 hn hi K)
  · exact ok_tabIn F 492 dL_33 ⟨by decide, by decide⟩ (by decide) (by decide) (by first | rfl | decide) (by decide) (lc_10 F G h hn0 hn hi K)
  · exact ok_tabIn F 525 dL_33 ⟨by decide, by decide⟩ (by decide) (by decide) (by first | rfl | decide) (by decide) (lc_11 F G h hn0 hn hi K)
  · exact ok_tabIn F 538 dL_33 ⟨by decide, by decide⟩ (by decide) (by decide) (by first | rfl | decide) (by decide) (lc_12 F G h hn0 hn hi K)
  · exact ok_tabIn F 561 dL_33 ⟨by decide, by decide⟩ (by decide) (by decide) (by first | rfl | decide) (by decide) (lc_13 F G h hn0 hn hi K)
  · exact ok_tabIn F 584 dL_33 ⟨by decide, by decide⟩ (by decide) (by decide) (by first | rfl | decide) (by decide) (lc_14 F G h hn0 hn hi K)
  · exact ok_tabIn F 617 dL_33 ⟨by decide, by decide⟩ (by decide) (by decide) (by first | rfl | decide) (by decide) (lc_15 F G h hn0 hn hi K)
  · exact ok_tabIn F 640 dL_33 ⟨by decide, by decide⟩ (by decide) (by decide) (by first | rfl | decide) (by decide) (lc_16 F G h hn0 hn hi K)
  · exact ok_tabIn F 673 dL_33 ⟨by decide, by decide⟩ (by decide) (by decide) (by first | rfl | decide) (by decide) (lc_17 F G h hn0 hn hi K)
  · exact ok_tabIn F 706 dL_33 ⟨by decide, by decide⟩ (by decide) (by decide) (by first | rfl | decide) (by decide) (lc_18 F G h hn0 hn hi K)
  · exact ok_tabIn F 730 dL_33 ⟨by decide, by decide⟩ (by decide) (by decide) (by first | rfl | decide) (by decide) (lc_19 F G h hn0 hn hi K)
  · exact ok_tabIn F 753 dL_33 ⟨by decide, by decide⟩ (by decide) (by decide) (by first | rfl | decide) (by decide) (lc_20 F G h hn0 hn hi K)
  · exact ok_tabIn F 776 dL_33 ⟨by decide, by decide⟩ (by decide) (by decide) (by first | rfl | decide) (by decide) (lc_21 F G h hn0 hn hi K)
  · exact ok_tabIn F 809 dL_33 ⟨by decide, by decide⟩ (by decide) (by decide) (by first | rfl | decide) (by decide) (lc_22 F G h hn0 hn hi K)
  · exact ok_tabIn F 852 dL_33 ⟨by decide, by decide⟩ (by decide) (by decide) (by first | rfl | decide) (by decide) (lc_23 F G h hn0 hn hi K)
  · exact ok_tabIn F 895 dL_33 ⟨by decide, by decide⟩ (by decide) (by decide) (by first | rfl | decide) (by decide) (lc_24 F G h hn0 hn hi K)
  · exact ok_tabIn F 918 dL_33 ⟨by decide, by decide⟩ (by decide) (by decide) (by first | rfl | decide) (by decide) (lc_25 F G h hn0 hn hi K)
  · exact ok_tabIn F 951 dL_33 ⟨by decide, by decide⟩ (by decide) (by decide) (by first | rfl | decide) (by decide) (lc_26 F G h hn0 hn hi K)
  · exact ok_tabIn F 974 dL_33 ⟨by decide, by decide⟩ (by decide) (by decide) (by first | rfl | decide) (by decide) (lc_27 F G h hn0 hn hi K)
  · exact ok_tabIn F 997 dL_33 ⟨by decide, by decide⟩ (by decide) (by decide) (by first | rfl | decide) (by decide) (lc_28 F G h hn0 hn hi K)
  · exact ok_tabIn F 1021 dL_33 ⟨by decide, by decide⟩ (by decide) (by decide) (by first | rfl | decide) (by decide) (lc_29 F G h hn0 hn hi K)
  · exact ok_tabIn F 1054 dL_33 ⟨by decide, by decide⟩ (by decide) (by decide) (by first | rfl | decide) (by decide) (lc_30 F G h hn0 hn hi K)
  · exact ok_tabIn F 1087 dL_33 ⟨by decide, by decide⟩ (by decide) (by decide) (by first | rfl | decide) (by decide) (lc_31 F G h hn0 hn hi K)
  · exact ok_tabIn F 1120 dL_33 ⟨by decide, by decide⟩ (by decide) (by decide) (by first | rfl | decide) (by decide) (lc_32 F G h hn0 hn hi K)
  · exact ok_tabIn F 1143 dL_33 ⟨by decide, by decide⟩ (by decide) (by decide) (by first | rfl | decide) (by decide) (lc_33 F G h hn0 hn hi K)
  · exact ok_tabIn F 1157 dL_33 ⟨by decide, by decide⟩ (by decide) (by decide) (by first | rfl | decide) (by decide) (lc_34 F G h hn0 hn hi K)
  · exact ok_tabIn F 1180 dL_33 ⟨by decide, by decide⟩ (by decide) (by decide) (by first | rfl | decide) (by decide) (lc_35 F G h hn0 hn hi K)
  · exact ok_tabIn F 1203 dL_33 ⟨by decide, by decide⟩ (by decide) (by decide) (by first | rfl | decide) (by decide) (lc_36 F G h hn0 hn hi K)
  · exact ok_tabIn F 1236 dL_33 ⟨by decide, by decide⟩ (by decide) (by decide) (by first | rfl | decide) (by decide) (lc_37 F G h hn0 hn hi K)
  · exact ok_tabIn F 1269 dL_33 ⟨by decide, by decide⟩ (by decide) (by decide) (by first | rfl | decide) (by decide) (lc_38 F G h hn0 hn hi K)
  · exact ok_tabIn F 1302 dL_33 ⟨by decide, by decide⟩ (by decide) (by decide) (by first | rfl | decide) (by decide) (lc_39 F G h hn0 hn hi K)
  · exact ok_tabIn F 1325 dL_33 ⟨by decide, by decide⟩ (by decide) (by decide) (by first | rfl | decide) (by decide) (lc_40 F G h hn0 hn hi K)
