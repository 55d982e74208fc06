theorem kw_566 : Cond.instanceMethod yX1_open ∈ jj_W := jj_Wof 566 (by decide +kernel) rfl
theorem kw_567 : Cond.selects RX1 yX1_open yX1_open ∈ jj_W := jj_Wof 567 (by decide +kernel) rfl
theorem kM_X5_194 : jj_MV RX5 194 yX1_open cX1_open 7 none 6 := ⟨kw_850, kw_566, kw_567, kw_16, kw_568, by decide +kernel, by decide +kernel, by decide +kernel⟩
theorem kw_176 : Cond.fieldLink RX5 200 (TX1 6).1 (TX1 6).2.1 (TX1 6).2.2.1 ∈ jj_W := jj_Wof 176 (by decide +kernel) rfl
theorem kF_X5_200 : jj_F RX5 200 1 6 0 := ⟨RX1, TX1, 7, tyX1, rfl, rfl, by decide, by decide, ku_1, kw_176, fun _ => rfl, tyX1_ok, nmX1, fun _ => rfl, fun h => absurd h (by decide), fun h => absurd h (by decide)⟩
theorem kw_167 : Cond.fieldLink RX5 205 (TX1 3).1 (TX1 3).2.1 (TX1 3).2.2.1 ∈ jj_W := jj_Wof 167 (by decide +kernel) rfl
theorem kF_X5_205 : jj_F RX5 205 1 3 0 := ⟨RX1, TX1, 7, tyX1, rfl, rfl, by decide, by decide, ku_1, kw_167, fun _ => rfl, tyX1_ok, nmX1, fun _ => rfl, fun h => absurd h (by decide), fun h => absurd h (by decide)⟩
theorem kw_161 : Cond.fieldLink RX5 208 (TX1 1).1 (TX1 1).2.1 (TX1 1).2.2.1 ∈ jj_W := jj_Wof 161 (by decide +kernel) rfl
theorem kF_X5_208 : jj_F RX5 208 1 1 0 := ⟨RX1, TX1, 7, tyX1, rfl, rfl, by decide, by decide, ku_1, kw_161, fun _ => rfl, tyX1_ok, nmX1, fun _ => rfl, fun h => absurd h (by decide), fun h => absurd h (by decide)⟩
theorem kw_170 : Cond.fieldLink RX5 211 (TX1 4).1 (TX1 4).2.1 (TX1 4).2.2.1 ∈ jj_W := jj_Wof 170 (by decide +kernel) rfl
theorem kF_X5_211 : jj_F RX5 211 1 4 0 := ⟨RX1, TX1, 7, tyX1, rfl, rfl, by decide, by decide, ku_1, kw_170, fun _ => rfl, tyX1_ok, nmX1, fun _ => rfl, fun h => absurd h (by decide), fun h => absurd h (by decide)⟩
theorem kw_158 : Cond.fieldLink RX5 214 (TX1 0).1 (TX1 0).2.1 (TX1 0).2.2.1 ∈ jj_W := jj_Wof 158 (by decide +kernel) rfl
theorem kF_X5_214 : jj_F RX5 214 1 0 0 := ⟨RX1, TX1, 7, tyX1, rfl, rfl, by decide, by decide, ku_1, kw_158, fun _ => rfl, tyX1_ok, nmX1, fun _ => rfl, fun h => absurd h (by decide), fun h => absurd h (by decide)⟩
theorem kw_413 : Cond.methodLink RX5 217 yX5_debtFact ∈ jj_W := jj_Wof 413 (by decide +kernel) rfl
theorem kw_415 : Cond.code yX5_debtFact cX5_debtFact 2 (some .int) ∈ jj_W := jj_Wof 415 (by decide +kernel) rfl
theorem kw_414 : Cond.static yX5_debtFact ∈ jj_W := jj_Wof 414 (by decide +kernel) rfl
theorem kM_X5_217 : jj_MS RX5 217 yX5_debtFact cX5_debtFact 2 (some .int) 2 := ⟨kw_413, kw_414, kw_11, kw_415, by decide +kernel, by decide +kernel, by decide +kernel⟩
theorem kw_439 : Cond.methodLink RX5 221 yX4_boatsIn ∈ jj_W := jj_Wof 439 (by decide +kernel) rfl
theorem kw_442 : Cond.code yX4_boatsIn cX4_boatsIn 4 (some .int) ∈ jj_W := jj_Wof 442 (by decide +kernel) rfl
theorem kw_440 : Cond.instanceMethod yX4_boatsIn ∈ jj_W := jj_Wof 440 (by decide +kernel) rfl
theorem kw_441 : Cond.selects RX4 yX4_boatsIn yX4_boatsIn ∈ jj_W := jj_Wof 441 (by decide +kernel) rfl
theorem kM_X5_221 : jj_MV RX5 221 yX4_boatsIn cX4_boatsIn 4 (some .int) 1 := ⟨kw_439, kw_440, kw_441, kw_12, kw_442, by decide +kernel, by decide +kernel, by decide +kernel⟩
theorem kw_443 : Cond.methodLink RX5 224 yX4_passDay ∈ jj_W := jj_Wof 443 (by decide +kernel) rfl
theorem kw_446 : Cond.code yX4_passDay cX4_passDay 2 none ∈ jj_W := jj_Wof 446 (by decide +kernel) rfl
theorem kw_444 : Cond.instanceMethod yX4_passDay ∈ jj_W := jj_Wof 444 (by decide +kernel) rfl
theorem kw_445 : Cond.selects RX4 yX4_passDay yX4_passDay ∈ jj_W := jj_Wof 445 (by decide +kernel) rfl
theorem kM_X5_224 : jj_MV RX5 224 yX4_passDay cX4_passDay 2 none 0 := ⟨kw_443, kw_444, kw_445, kw_12, kw_446, by decide +kernel, by decide +kernel, by decide +kernel⟩
theorem kw_509 : Cond.methodLink RX5 227 yX5_countFact ∈ jj_W := jj_Wof 509 (by decide +kernel) rfl
theorem kw_512 : Cond.code yX5_countFact cX5_countFact 2 (some .int) ∈ jj_W := jj_Wof 512 (by decide +kernel) rfl
theorem kw_511 : Cond.instanceMethod yX5_countFact ∈ jj_W := jj_Wof 511 (by decide +kernel) rfl
theorem kw_8 : Cond.selects RX5 yX5_countFact yX5_countFact ∈ jj_W := jj_Wof 8 (by decide +kernel) rfl
theorem kM_X5_227 : jj_MV RX5 227 yX5_countFact cX5_countFact 2 (some .int) 1 := ⟨kw_509, kw_511, kw_8, kw_11, kw_512, by decide +kernel, by decide +kernel, by decide +kernel⟩
theorem kw_59 : Cond.fieldLink RX5 230 (TX3 4).1 (TX3 4).2.1 (TX3 4).2.2.1 ∈ jj_W := jj_Wof 59 (by decide +kernel) rfl
theorem kF_X5_230 : jj_F RX5 230 3 4 2 := ⟨RX3, TX3, 7, tyX3, rfl, rfl, by decide, by decide, ku_3, kw_59, fun h => absurd h (by decide), tyX3_ok, nmX3, fun h => absurd h (by decide), fun _ => Or.inr ⟨_, rfl⟩, fun h => absurd h (by decide)⟩
theorem kw_531 : Cond.methodLink RX5 233 yX3_warmOn ∈ jj_W := jj_Wof 531 (by decide +kernel) rfl
theorem kw_454 : Cond.code yX3_warmOn cX3_warmOn 2 (some .int) ∈ jj_W := jj_Wof 454 (by decide +kernel) rfl
theorem kw_452 : Cond.instanceMethod yX3_warmOn ∈ jj_W := jj_Wof 452 (by decide +kernel) rfl
theorem kw_453 : Cond.selects RX3 yX3_warmOn yX3_warmOn ∈ jj_W := jj_Wof 453 (by decide +kernel) rfl
theorem kM_X5_233 : jj_MV RX5 233 yX3_warmOn cX3_warmOn 2 (some .int) 1 := ⟨kw_531, kw_452, kw_453, kw_13, kw_454, by decide +kernel, by decide +kernel, by decide +kernel⟩
theorem kw_532 : Cond.methodLink RX5 236 yX5_iceBehind ∈ jj_W := jj_Wof 532 (by decide +kernel) rfl
theorem kw_460 : Cond.code yX5_iceBehind cX5_iceBehind 3 (some .int) ∈ jj_W := jj_Wof 460 (by decide +kernel) rfl
theorem kw_459 : Cond.static yX5_iceBehind ∈ jj_W := jj_Wof 459 (by decide +kernel) rfl
theorem kM_X5_236 : jj_MS RX5 236 yX5_iceBehind cX5_iceBehind 3 (some .int) 2 := ⟨kw_532, kw_459, kw_11, kw_460, by decide +kernel, by decide +kernel, by decide +kernel⟩
theorem kw_537 : Cond.methodLink RX5 239 yX4_copyFrom ∈ jj_W := jj_Wof 537 (by decide +kernel) rfl
theorem kw_540 : Cond.code yX4_copyFrom cX4_copyFrom 3 none ∈ jj_W := jj_Wof 540 (by decide +kernel) rfl
theorem kw_538 : Cond.instanceMethod yX4_copyFrom ∈ jj_W := jj_Wof 538 (by decide +kernel) rfl
theorem kw_539 : Cond.selects RX4 yX4_copyFrom yX4_copyFrom ∈ jj_W := jj_Wof 539 (by decide +kernel) rfl
theorem kM_X5_239 : jj_MV RX5 239 yX4_copyFrom cX4_copyFrom 3 none 1 := ⟨kw_537, kw_538, kw_539, kw_12, kw_540, by decide +kernel, by decide +kernel, by decide +kernel⟩
theorem kw_569 : Cond.methodLink RX5 243 yX0_isAtGoal ∈ jj_W := jj_Wof 569 (by decide +kernel) rfl
theorem kw_572 : Cond.code yX0_isAtGoal cX0_isAtGoal 1 (some .boolean) ∈ jj_W := jj_Wof 572 (by decide +kernel) rfl
theorem kw_570 : Cond.instanceMethod yX0_isAtGoal ∈ jj_W := jj_Wof 570 (by decide +kernel) rfl
theorem kw_571 : Cond.selects RX0 yX0_isAtGoal yX0_isAtGoal ∈ jj_W := jj_Wof 571 (by decide +kernel) rfl
theorem kM_X5_243 : jj_MV RX5 243 yX0_isAtGoal cX0_isAtGoal 1 (some .boolean) 0 := ⟨kw_569, kw_570, kw_571, kw_15, kw_572, by decide +kernel, by decide +kernel, by decide +kernel⟩
theorem kw_805 : Cond.methodLink RX5 293 yX0_isInHarbour ∈ jj_W := jj_Wof 805 (by decide +kernel) rfl
theorem kw_474 : Cond.code yX0_isInHarbour cX0_isInHarbour 1 (some .boolean) ∈ jj_W := jj_Wof 474 (by decide +kernel) rfl
theorem kw_472 : Cond.instanceMethod yX0_isInHarbour ∈ jj_W := jj_Wof 472 (by decide +kernel) rfl
theorem kw_473 : Cond.selects RX0 yX0_isInHarbour yX0_isInHarbour ∈ jj_W := jj_Wof 473 (by decide +kernel) rfl
theorem kM_X5_293 : jj_MV RX5 293 yX0_isInHarbour cX0_isInHarbour 1 (some .boolean) 0 := ⟨kw_805, kw_472, kw_473, kw_15, kw_474, by decide +kernel, by decide +kernel, by decide +kernel⟩
theorem kw_348 : Cond.methodLink RX5 298 yX3_legs ∈ jj_W := jj_Wof 348 (by decide +kernel) rfl
theorem kw_330 : Cond.code yX3_legs cX3_legs 1 (some .int) ∈ jj_W := jj_Wof 330 (by decide +kernel) rfl
theorem kw_328 : Cond.instanceMethod yX3_legs ∈ jj_W := jj_Wof 328 (by decide +kernel) rfl
theorem kw_329 : Cond.selects RX3 yX3_legs yX3_legs ∈ jj_W := jj_Wof 329 (by decide +kernel) rfl
theorem kM_X5_298 : jj_MV RX5 298 yX3_legs cX3_legs 1 (some .int) 0 := ⟨kw_348, kw_328, kw_329, kw_13, kw_330, by decide +kernel, by decide +kernel, by decide +kernel⟩
theorem kw_513 : Cond.methodLink RX5 301 yX4_openDebts ∈ jj_W := jj_Wof 513 (by decide +kernel) rfl
theorem kw_516 : Cond.code yX4_openDebts cX4_openDebts 3 (some .int) ∈ jj_W := jj_Wof 516 (by decide +kernel) rfl
theorem kw_514 : Cond.instanceMethod yX4_openDebts ∈ jj_W := jj_Wof 514 (by decide +kernel) rfl
theorem kw_515 : Cond.selects RX4 yX4_openDebts yX4_openDebts ∈ jj_W := jj_Wof 515 (by decide +kernel) rfl
theorem kM_X5_301 : jj_MV RX5 301 yX4_openDebts cX4_openDebts 3 (some .int) 0 := ⟨kw_513, kw_514, kw_515, kw_12, kw_516, by decide +kernel, by decide +kernel, by decide +kernel⟩
theorem kw_518 : Cond.methodLink RX5 304 yX4_allCoins ∈ jj_W := jj_Wof 518 (by decide +kernel) rfl
theorem kw_521 : Cond.code yX4_allCoins cX4_allCoins 3 (some .int) ∈ jj_W := jj_Wof 521 (by decide +kernel) rfl
theorem kw_519 : Cond.instanceMethod yX4_allCoins ∈ jj_W := jj_Wof 519 (by decide +kernel) rfl
theorem kw_520 : Cond.selects RX4 yX4_allCoins yX4_allCoins ∈ jj_W := jj_Wof 520 (by decide +kernel) rfl
theorem kM_X5_304 : jj_MV RX5 304 yX4_allCoins cX4_allCoins 3 (some .int) 0 := ⟨kw_518, kw_519, kw_520, kw_12, kw_521, by decide +kernel, by decide +kernel, by decide +kernel⟩
theorem kw_522 : Cond.methodLink RX5 307 yX3_openLegs ∈ jj_W := jj_Wof 522 (by decide +kernel) rfl
theorem kw_525 : Cond.code yX3_openLegs cX3_openLegs 3 (some .int) ∈ jj_W := jj_Wof 525 (by decide +kernel) rfl
theorem kw_523 : Cond.instanceMethod yX3_openLegs ∈ jj_W := jj_Wof 523 (by decide +kernel) rfl
theorem kw_524 : Cond.selects RX3 yX3_openLegs yX3_openLegs ∈ jj_W := jj_Wof 524 (by decide +kernel) rfl
theorem kM_X5_307 : jj_MV RX5 307 yX3_openLegs cX3_openLegs 3 (some .int) 0 := ⟨kw_522, kw_523, kw_524, kw_13, kw_525, by decide +kernel, by decide +kernel, by decide +kernel⟩
theorem kw_62 : Cond.fieldLink RX5 310 (TX3 5).1 (TX3 5).2.1 (TX3 5).2.2.1 ∈ jj_W := jj_Wof 62 (by decide +kernel) rfl
theorem kF_X5_310 : jj_F RX5 310 3 5 2 := ⟨RX3, TX3, 7, tyX3, rfl, rfl, by decide, by decide, ku_3, kw_62, fun h => absurd h (by decide), tyX3_ok, nmX3, fun h => absurd h (by decide), fun _ => Or.inr ⟨_, rfl⟩, fun h => absurd h (by decide)⟩
theorem kw_319 : Cond.methodLink RX5 313 yX4_boatsLying ∈ jj_W := jj_Wof 319 (by decide +kernel) rfl
theorem kw_322 : Cond.code yX4_boatsLying cX4_boatsLying 5 (some .int) ∈ jj_W := jj_Wof 322 (by decide +kernel) rfl
theorem kw_320 : Cond.instanceMethod yX4_boatsLying ∈ jj_W := jj_Wof 320 (by decide +kernel) rfl
theorem kw_321 : Cond.selects RX4 yX4_boatsLying yX4_boatsLying ∈ jj_W := jj_Wof 321 (by decide +kernel) rfl
theorem kM_X5_313 : jj_MV RX5 313 yX4_boatsLying cX4_boatsLying 5 (some .int) 2 := ⟨kw_319, kw_320, kw_321, kw_12, kw_322, by decide +kernel, by decide +kernel, by decide +kernel⟩
theorem kw_323 : Cond.methodLink RX5 316 yX3_iceAtHarbour ∈ jj_W := jj_Wof 323 (by decide +kernel) rfl
theorem kw_326 : Cond.code yX3_iceAtHarbour cX3_iceAtHarbour 3 (some .int) ∈ jj_W := jj_Wof 326 (by decide +kernel) rfl
theorem kw_324 : Cond.instanceMethod yX3_iceAtHarbour ∈ jj_W := jj_Wof 324 (by decide +kernel) rfl
theorem kw_325 : Cond.selects RX3 yX3_iceAtHarbour yX3_iceAtHarbour ∈ jj_W := jj_Wof 325 (by decide +kernel) rfl
theorem kM_X5_316 : jj_MV RX5 316 yX3_iceAtHarbour cX3_iceAtHarbour 3 (some .int) 1 := ⟨kw_323, kw_324, kw_325, kw_13, kw_326, by decide +kernel, by decide +kernel, by decide +kernel⟩
theorem kw_56 : Cond.fieldLink RX5 319 (TX3 3).1 (TX3 3).2.1 (TX3 3).2.2.1 ∈ jj_W := jj_Wof 56 (by decide +kernel) rfl
theorem kF_X5_319 : jj_F RX5 319 3 3 2 := ⟨RX3, TX3, 7, tyX3, rfl, rfl, by decide, by decide, ku_3, kw_56, fun h => absurd h (by decide), tyX3_ok, nmX3, fun h => absurd h (by decide), fun _ => Or.inr ⟨_, rfl⟩, fun h => absurd h (by decide)⟩
theorem kw_353 : Cond.methodLink RX5 322 yX3_isOpen ∈ jj_W := jj_Wof 353 (by decide +kernel) rfl
theorem kw_356 : Cond.code yX3_isOpen cX3_isOpen 2 (some .boolean) ∈ jj_W := jj_Wof 356 (by decide +kernel) rfl
theorem kw_354 : Cond.instanceMethod yX3_isOpen ∈ jj_W := jj_Wof 354 (by decide +kernel) rfl
theorem kw_355 : Cond.selects RX3 yX3_isOpen yX3_isOpen ∈ jj_W := jj_Wof 355 (by decide +kernel) rfl
theorem kM_X5_322 : jj_MV RX5 322 yX3_isOpen cX3_isOpen 2 (some .boolean) 1 := ⟨kw_353, kw_354, kw_355, kw_13, kw_356, by decide +kernel, by decide +kernel, by decide +kernel⟩
theorem kw_357 : Cond.methodLink RX5 326 yX4_boatsOnLeg ∈ jj_W := jj_Wof 357 (by decide +kernel) rfl
theorem kw_360 : Cond.code yX4_boatsOnLeg cX4_boatsOnLeg 4 (some .int) ∈ jj_W := jj_Wof 360 (by decide +kernel) rfl
theorem kw_358 : Cond.instanceMethod yX4_boatsOnLeg ∈ jj_W := jj_Wof 358 (by decide +kernel) rfl
theorem kw_359 : Cond.selects RX4 yX4_boatsOnLeg yX4_boatsOnLeg ∈ jj_W := jj_Wof 359 (by decide +kernel) rfl
theorem kM_X5_326 : jj_MV RX5 326 yX4_boatsOnLeg cX4_boatsOnLeg 4 (some .int) 1 := ⟨kw_357, kw_358, kw_359, kw_12, kw_360, by decide +kernel, by decide +kernel, by decide +kernel⟩
theorem kw_377 : Cond.methodLink RX5 329 yX4_boatsAfloatOf ∈ jj_W := jj_Wof 377 (by decide +kernel) rfl
theorem kw_380 : Cond.code yX4_boatsAfloatOf cX4_boatsAfloatOf 4 (some .int) ∈ jj_W := jj_Wof 380 (by decide +kernel) rfl
theorem kw_378 : Cond.instanceMethod yX4_boatsAfloatOf ∈ jj_W := jj_Wof 378 (by decide +kernel) rfl
theorem kw_379 : Cond.selects RX4 yX4_boatsAfloatOf yX4_boatsAfloatOf ∈ jj_W := jj_Wof 379 (by decide +kernel) rfl
theorem kM_X5_329 : jj_MV RX5 329 yX4_boatsAfloatOf cX4_boatsAfloatOf 4 (some .int) 1 := ⟨kw_377, kw_378, kw_379, kw_12, kw_380, by decide +kernel, by decide +kernel, by decide +kernel⟩
theorem kw_381 : Cond.methodLink RX5 332 yX4_debtsOf ∈ jj_W := jj_Wof 381 (by decide +kernel) rfl
theorem kw_384 : Cond.code yX4_debtsOf cX4_debtsOf 5 (some .int) ∈ jj_W := jj_Wof 384 (by decide +kernel) rfl
theorem kw_382 : Cond.instanceMethod yX4_debtsOf ∈ jj_W := jj_Wof 382 (by decide +kernel) rfl
theorem kw_383 : Cond.selects RX4 yX4_debtsOf yX4_debtsOf ∈ jj_W := jj_Wof 383 (by decide +kernel) rfl
theorem kM_X5_332 : jj_MV RX5 332 yX4_debtsOf cX4_debtsOf 5 (some .int) 2 := ⟨kw_381, kw_382, kw_383, kw_12, kw_384, by decide +kernel, by decide +kernel, by decide +kernel⟩
theorem kw_385 : Cond.methodLink RX5 335 yX5_sum ∈ jj_W := jj_Wof 385 (by decide +kernel) rfl
theorem kw_387 : Cond.code yX5_sum cX5_sum 3 (some .int) ∈ jj_W := jj_Wof 387 (by decide +kernel) rfl
theorem kw_386 : Cond.static yX5_sum ∈ jj_W := jj_Wof 386 (by decide +kernel) rfl
theorem kM_X5_335 : jj_MS RX5 335 yX5_sum cX5_sum 3 (some .int) 1 := ⟨kw_385, kw_386, kw_11, kw_387, by decide +kernel, by decide +kernel, by decide +kernel⟩
theorem kw_388 : Cond.methodLink RX5 339 yX4_cargoOf ∈ jj_W := jj_Wof 388 (by decide +kernel) rfl
theorem kw_391 : Cond.code yX4_cargoOf cX4_cargoOf 4 (some .int) ∈ jj_W := jj_Wof 391 (by decide +kernel) rfl
theorem kw_389 : Cond.instanceMethod yX4_cargoOf ∈ jj_W := jj_Wof 389 (by decide +kernel) rfl
theorem kw_390 : Cond.selects RX4 yX4_cargoOf yX4_cargoOf ∈ jj_W := jj_Wof 390 (by decide +kernel) rfl
theorem kM_X5_339 : jj_MV RX5 339 yX4_cargoOf cX4_cargoOf 4 (some .int) 1 := ⟨kw_388, kw_389, kw_390, kw_12, kw_391, by decide +kernel, by decide +kernel, by decide +kernel⟩
theorem kw_164 : Cond.fieldLink RX5 342 (TX1 2).1 (TX1 2).2.1 (TX1 2).2.2.1 ∈ jj_W := jj_Wof 164 (by decide +kernel) rfl
theorem kF_X5_342 : jj_F RX5 342 1 2 0 := ⟨RX1, TX1, 7, tyX1, rfl, rfl, by decide, by decide, ku_1, kw_164, fun _ => rfl, tyX1_ok, nmX1, fun _ => rfl, fun h => absurd h (by decide), fun h => absurd h (by decide)⟩
theorem kw_173 : Cond.fieldLink RX5 343 (TX1 5).1 (TX1 5).2.1 (TX1 5).2.2.1 ∈ jj_W := jj_Wof 173 (by decide +kernel) rfl
theorem kF_X5_343 : jj_F RX5 343 1 5 0 := ⟨RX1, TX1, 7, tyX1, rfl, rfl, by decide, by decide, ku_1, kw_173, fun _ => rfl, tyX1_ok, nmX1, fun _ => rfl, fun h => absurd h (by decide), fun h => absurd h (by decide)⟩
theorem kw_462 : Cond.methodLink RX5 355 Lib.Math.max.name ∈ jj_W := jj_Wof 462 (by decide +kernel) rfl
theorem kw_332 : Cond.static Lib.Math.max.name ∈ jj_W := jj_Wof 332 (by decide +kernel) rfl
theorem kw_333 : Cond.code Lib.Math.max.name Lib.Math.max.code 2 (some .int) ∈ jj_W := jj_Wof 333 (by decide +kernel) rfl
theorem kM_X5_355 : jj_MM RX5 355 Lib.Math.max.name Lib.Math.max.code 2 := ⟨kw_462, kw_332, kw_25, kw_333⟩
theorem kw_548 : Cond.methodLink RX5 358 arraycopyName ∈ jj_W := jj_Wof 548 (by decide +kernel) rfl
theorem kw_550 : Cond.native arraycopyName ∈ jj_W := jj_Wof 550 (by decide +kernel) rfl
theorem kw_549 : Cond.static arraycopyName ∈ jj_W := jj_Wof 549 (by decide +kernel) rfl
theorem kw_26 : Cond.initialized "java/lang/System" ∈ jj_W := jj_Wof 26 (by decide +kernel) rfl
theorem kM_X5_358 : jj_CP RX5 358 := ⟨kw_548, kw_550, kw_549, kw_26⟩
theorem kw_108 : Cond.methodLink RX0 3 Lib.objectInit ∈ jj_W := jj_Wof 108 (by decide +kernel) rfl
theorem kM_X0_3 : Cond.methodLink RX0 3 Lib.objectInit ∈ jj_W ∧ Cond.instanceMethod Lib.objectInit ∈ jj_W ∧ Cond.code Lib.objectInit ⟨#[0xb1]⟩ 1 none ∈ jj_W := ⟨kw_108, kw_34, kw_35⟩
theorem kw_130 : Cond.fieldLink RX0 9 (TX0 8).1 (TX0 8).2.1 (TX0 8).2.2.1 ∈ jj_W := jj_Wof 130 (by decide +kernel) rfl
theorem kF_X0_9 : jj_F RX0 9 0 8 1 := ⟨RX0, TX0, 9, tyX0, rfl, rfl, by decide, by decide, ku_0, kw_130, fun h => absurd h (by decide), tyX0_ok, nmX0, fun h => absurd h (by decide), fun _ => Or.inr ⟨_, rfl⟩, fun _ => ⟨rfl, rfl⟩⟩
theorem kw_109 : Cond.fieldLink RX0 15 (TX0 0).1 (TX0 0).2.1 (TX0 0).2.2.1 ∈ jj_W := jj_Wof 109 (by decide +kernel) rfl
theorem kF_X0_15 : jj_F RX0 15 0 0 0 := ⟨RX0, TX0, 9, tyX0, rfl, rfl, by decide, by decide, ku_0, kw_109, fun _ => rfl, tyX0_ok, nmX0, fun _ => rfl, fun h => absurd h (by decide), fun h => absurd h (by decide)⟩
theorem kw_112 : Cond.fieldLink RX0 19 (TX0 1).1 (TX0 1).2.1 (TX0 1).2.2.1 ∈ jj_W := jj_Wof 112 (by decide +kernel) rfl
theorem kF_X0_19 : jj_F RX0 19 0 1 0 := ⟨RX0, TX0, 9, tyX0, rfl, rfl, by decide, by decide, ku_0, kw_112, fun _ => rfl, tyX0_ok, nmX0, fun _ => rfl, fun h => absurd h (by decide), fun h => absurd h (by decide)⟩
theorem kw_114 : Cond.fieldLink RX0 22 (TX0 2).1 (TX0 2).2.1 (TX0 2).2.2.1 ∈ jj_W := jj_Wof 114 (by decide +kernel) rfl
theorem kF_X0_22 : jj_F RX0 22 0 2 0 := ⟨RX0, TX0, 9, tyX0, rfl, rfl, by decide, by decide, ku_0, kw_114, fun _ => rfl, tyX0_ok, nmX0, fun _ => rfl, fun h => absurd h (by decide), fun h => absurd h (by decide)⟩
theorem kw_116 : Cond.fieldLink RX0 25 (TX0 3).1 (TX0 3).2.1 (TX0 3).2.2.1 ∈ jj_W := jj_Wof 116 (by decide +kernel) rfl
theorem kF_X0_25 : jj_F RX0 25 0 3 0 := ⟨RX0, TX0, 9, tyX0, rfl, rfl, by decide, by decide, ku_0, kw_116, fun _ => rfl, tyX0_ok, nmX0, fun _ => rfl, fun h => absurd h (by decide), fun h => absurd h (by decide)⟩
theorem kw_119 : Cond.fieldLink RX0 28 (TX0 4).1 (TX0 4).2.1 (TX0 4).2.2.1 ∈ jj_W := jj_Wof 119 (by decide +kernel) rfl
theorem kF_X0_28 : jj_F RX0 28 0 4 0 := ⟨RX0, TX0, 9, tyX0, rfl, rfl, by decide, by decide, ku_0, kw_119, fun _ => rfl, tyX0_ok, nmX0, fun _ => rfl, fun h => absurd h (by decide), fun h => absurd h (by decide)⟩
theorem kw_124 : Cond.fieldLink RX0 31 (TX0 6).1 (TX0 6).2.1 (TX0 6).2.2.1 ∈ jj_W := jj_Wof 124 (by decide +kernel) rfl
theorem kF_X0_31 : jj_F RX0 31 0 6 0 := ⟨RX0, TX0, 9, tyX0, rfl, rfl, by decide, by decide, ku_0, kw_124, fun _ => rfl, tyX0_ok, nmX0, fun _ => rfl, fun h => absurd h (by decide), fun h => absurd h (by decide)⟩
theorem kw_122 : Cond.fieldLink RX0 34 (TX0 5).1 (TX0 5).2.1 (TX0 5).2.2.1 ∈ jj_W := jj_Wof 122 (by decide +kernel) rfl
theorem kF_X0_34 : jj_F RX0 34 0 5 0 := ⟨RX0, TX0, 9, tyX0, rfl, rfl, by decide, by decide, ku_0, kw_122, fun _ => rfl, tyX0_ok, nmX0, fun _ => rfl, fun h => absurd h (by decide), fun h => absurd h (by decide)⟩
theorem kw_127 : Cond.fieldLink RX0 37 (TX0 7).1 (TX0 7).2.1 (TX0 7).2.2.1 ∈ jj_W := jj_Wof 127 (by decide +kernel) rfl
theorem kF_X0_37 : jj_F RX0 37 0 7 0 := ⟨RX0, TX0, 9, tyX0, rfl, rfl, by decide, by decide, ku_0, kw_127, fun _ => rfl, tyX0_ok, nmX0, fun _ => rfl, fun h => absurd h (by decide), fun h => absurd h (by decide)⟩
theorem kw_547 : Cond.code yX5_copyRow cX5_copyRow 2 none ∈ jj_W := jj_Wof 547 (by decide +kernel) rfl
theorem kw_546 : Cond.static yX5_copyRow ∈ jj_W := jj_Wof 546 (by decide +kernel) rfl
theorem kM_X0_40 : jj_MSN RX0 40 yX5_copyRow cX5_copyRow 2 none 2 := ⟨(by simp [jj_trav]), kw_546, kw_11, kw_547, by decide +kernel, by decide +kernel, by decide +kernel⟩
theorem kw_573 : Cond.methodLink RX0 44 yX0_isInHarbour ∈ jj_W := jj_Wof 573 (by decide +kernel) rfl
theorem kM_X0_44 : jj_MV RX0 44 yX0_isInHarbour cX0_isInHarbour 1 (some .boolean) 0 := ⟨kw_573, kw_472, kw_473, kw_15, kw_474, by decide +kernel, by decide +kernel, by decide +kernel⟩
theorem kM_X0_48 : jj_MSN RX0 48 yX5_sum cX5_sum 3 (some .int) 1 := ⟨(by simp [jj_trav]), kw_386, kw_11, kw_387, by decide +kernel, by decide +kernel, by decide +kernel⟩
theorem kw_492 : Cond.methodLink RX0 52 yJ7_fill_53178 ∈ jj_W := jj_Wof 492 (by decide +kernel) rfl
theorem kw_27 : Cond.initialized RJ7 ∈ jj_W := jj_Wof 27 (by decide +kernel) rfl
theorem kw_494 : Cond.code yJ7_fill_53178 cJ7_fill_53178 4 none ∈ jj_W := jj_Wof 494 (by decide +kernel) rfl
theorem kw_493 : Cond.static yJ7_fill_53178 ∈ jj_W := jj_Wof 493 (by decide +kernel) rfl
theorem kM_X0_52 : jj_MS RX0 52 yJ7_fill_53178 cJ7_fill_53178 4 none 2 := ⟨kw_492, kw_493, kw_27, kw_494, by decide +kernel, by decide +kernel, by decide +kernel⟩
theorem kw_155 : Cond.methodLink RX1 3 Lib.objectInit ∈ jj_W := jj_Wof 155 (by decide +kernel) rfl
theorem kM_X1_3 : Cond.methodLink RX1 3 Lib.objectInit ∈ jj_W ∧ Cond.instanceMethod Lib.objectInit ∈ jj_W ∧ Cond.code Lib.objectInit ⟨#[0xb1]⟩ 1 none ∈ jj_W := ⟨kw_155, kw_34, kw_35⟩
theorem kw_156 : Cond.fieldLink RX1 9 (TX1 0).1 (TX1 0).2.1 (TX1 0).2.2.1 ∈ jj_W := jj_Wof 156 (by decide +kernel) rfl
theorem kF_X1_9 : jj_F RX1 9 1 0 0 := ⟨RX1, TX1, 7, tyX1, rfl, rfl, by decide, by decide, ku_1, kw_156, fun _ => rfl, tyX1_ok, nmX1, fun _ => rfl, fun h => absurd h (by decide), fun h => absurd h (by decide)⟩
theorem kw_159 : Cond.fieldLink RX1 15 (TX1 1).1 (TX1 1).2.1 (TX1 1).2.2.1 ∈ jj_W := jj_Wof 159 (by decide +kernel) rfl
theorem kF_X1_15 : jj_F RX1 15 1 1 0 := ⟨RX1, TX1, 7, tyX1, rfl, rfl, by decide, by decide, ku_1, kw_159, fun _ => rfl, tyX1_ok, nmX1, fun _ => rfl, fun h => absurd h (by decide), fun h => absurd h (by decide)⟩
theorem kw_162 : Cond.fieldLink RX1 18 (TX1 2).1 (TX1 2).2.1 (TX1 2).2.2.1 ∈ jj_W := jj_Wof 162 (by decide +kernel) rfl
theorem kF_X1_18 : jj_F RX1 18 1 2 0 := ⟨RX1, TX1, 7, tyX1, rfl, rfl, by decide, by decide, ku_1, kw_162, fun _ => rfl, tyX1_ok, nmX1, fun _ => rfl, fun h => absurd h (by decide), fun h => absurd h (by decide)⟩
theorem kw_165 : Cond.fieldLink RX1 21 (TX1 3).1 (TX1 3).2.1 (TX1 3).2.2.1 ∈ jj_W := jj_Wof 165 (by decide +kernel) rfl
theorem kF_X1_21 : jj_F RX1 21 1 3 0 := ⟨RX1, TX1, 7, tyX1, rfl, rfl, by decide, by decide, ku_1, kw_165, fun _ => rfl, tyX1_ok, nmX1, fun _ => rfl, fun h => absurd h (by decide), fun h => absurd h (by decide)⟩
theorem kw_168 : Cond.fieldLink RX1 24 (TX1 4).1 (TX1 4).2.1 (TX1 4).2.2.1 ∈ jj_W := jj_Wof 168 (by decide +kernel) rfl
theorem kF_X1_24 : jj_F RX1 24 1 4 0 := ⟨RX1, TX1, 7, tyX1, rfl, rfl, by decide, by decide, ku_1, kw_168, fun _ => rfl, tyX1_ok, nmX1, fun _ => rfl, fun h => absurd h (by decide), fun h => absurd h (by decide)⟩
theorem kw_171 : Cond.fieldLink RX1 27 (TX1 5).1 (TX1 5).2.1 (TX1 5).2.2.1 ∈ jj_W := jj_Wof 171 (by decide +kernel) rfl
theorem kF_X1_27 : jj_F RX1 27 1 5 0 := ⟨RX1, TX1, 7, tyX1, rfl, rfl, by decide, by decide, ku_1, kw_171, fun _ => rfl, tyX1_ok, nmX1, fun _ => rfl, fun h => absurd h (by decide), fun h => absurd h (by decide)⟩
theorem kw_174 : Cond.fieldLink RX1 30 (TX1 6).1 (TX1 6).2.1 (TX1 6).2.2.1 ∈ jj_W := jj_Wof 174 (by decide +kernel) rfl
theorem kF_X1_30 : jj_F RX1 30 1 6 0 := ⟨RX1, TX1, 7, tyX1, rfl, rfl, by decide, by decide, ku_1, kw_174, fun _ => rfl, tyX1_ok, nmX1, fun _ => rfl, fun h => absurd h (by decide), fun h => absurd h (by decide)⟩
theorem kw_565 : Cond.methodLink RX1 33 yX1_open ∈ jj_W := jj_Wof 565 (by decide +kernel) rfl
theorem kM_X1_33 : jj_MV RX1 33 yX1_open cX1_open 7 none 6 := ⟨kw_565, kw_566, kw_567, kw_16, kw_568, by decide +kernel, by decide +kernel, by decide +kernel⟩
theorem kw_92 : Cond.methodLink RX2 3 Lib.objectInit ∈ jj_W := jj_Wof 92 (by decide +kernel) rfl
theorem kM_X2_3 : Cond.methodLink RX2 3 Lib.objectInit ∈ jj_W ∧ Cond.instanceMethod Lib.objectInit ∈ jj_W ∧ Cond.code Lib.objectInit ⟨#[0xb1]⟩ 1 none ∈ jj_W := ⟨kw_92, kw_34, kw_35⟩
