/-! what the pool entries link to -/
theorem ku_0 : ∀ w ∈ u_ws RX0 TX0 9, w ∈ jj_W := fun w hw => List.mem_filter.mpr (((by decide +kernel : ∀ w ∈ u_ws RX0 TX0 9, w ∈ lw_tbl ∧ goodWord w = true) w hw))
theorem ku_1 : ∀ w ∈ u_ws RX1 TX1 7, w ∈ jj_W := fun w hw => List.mem_filter.mpr (((by decide +kernel : ∀ w ∈ u_ws RX1 TX1 7, w ∈ lw_tbl ∧ goodWord w = true) w hw))
theorem ku_2 : ∀ w ∈ u_ws RX2 TX2 2, w ∈ jj_W := fun w hw => List.mem_filter.mpr (((by decide +kernel : ∀ w ∈ u_ws RX2 TX2 2, w ∈ lw_tbl ∧ goodWord w = true) w hw))
theorem ku_3 : ∀ w ∈ u_ws RX3 TX3 7, w ∈ jj_W := fun w hw => List.mem_filter.mpr (((by decide +kernel : ∀ w ∈ u_ws RX3 TX3 7, w ∈ lw_tbl ∧ goodWord w = true) w hw))
theorem ku_4 : ∀ w ∈ u_ws RX4 TX4 7, w ∈ jj_W := fun w hw => List.mem_filter.mpr (((by decide +kernel : ∀ w ∈ u_ws RX4 TX4 7, w ∈ lw_tbl ∧ goodWord w = true) w hw))
theorem ku_5 : ∀ w ∈ u_ws RX5 TX5 4, w ∈ jj_W := fun w hw => List.mem_filter.mpr (((by decide +kernel : ∀ w ∈ u_ws RX5 TX5 4, w ∈ lw_tbl ∧ goodWord w = true) w hw))
theorem ku_6 : ∀ w ∈ u_ws RX6 TX6 9, w ∈ jj_W := fun w hw => List.mem_filter.mpr (((by decide +kernel : ∀ w ∈ u_ws RX6 TX6 9, w ∈ lw_tbl ∧ goodWord w = true) w hw))
theorem ku_7 : ∀ w ∈ u_ws RX7 TX7 9, w ∈ jj_W := fun w hw => List.mem_filter.mpr (((by decide +kernel : ∀ w ∈ u_ws RX7 TX7 9, w ∈ lw_tbl ∧ goodWord w = true) w hw))
theorem kw_33 : Cond.methodLink RX5 3 Lib.objectInit ∈ jj_W := jj_Wof 33 (by decide +kernel) rfl
theorem kw_34 : Cond.instanceMethod Lib.objectInit ∈ jj_W := jj_Wof 34 (by decide +kernel) rfl
theorem kw_35 : Cond.code Lib.objectInit ⟨#[0xb1]⟩ 1 none ∈ jj_W := jj_Wof 35 (by decide +kernel) rfl
theorem kM_X5_3 : Cond.methodLink RX5 3 Lib.objectInit ∈ jj_W ∧ Cond.instanceMethod Lib.objectInit ∈ jj_W ∧ Cond.code Lib.objectInit ⟨#[0xb1]⟩ 1 none ∈ jj_W := ⟨kw_33, kw_34, kw_35⟩
theorem kw_36 : Cond.classLink RX5 9 RX4 ∈ jj_W := jj_Wof 36 (by decide +kernel) rfl
theorem kw_37 : Cond.instantiable RX4 7 ∈ jj_W := jj_Wof 37 (by decide +kernel) rfl
theorem kw_12 : Cond.initialized RX4 ∈ jj_W := jj_Wof 12 (by decide +kernel) rfl
theorem kN_X5_9 : jj_NW RX5 9 4 := ⟨RX4, TX4, 7, tyX4, rfl, rfl, by decide, ku_4, tyX4_ok, kw_36, kw_37, kw_12, by decide +kernel⟩
theorem kw_38 : Cond.methodLink RX5 11 yX4_init ∈ jj_W := jj_Wof 38 (by decide +kernel) rfl
theorem kw_40 : Cond.code yX4_init cX4_init 2 none ∈ jj_W := jj_Wof 40 (by decide +kernel) rfl
theorem kw_39 : Cond.instanceMethod yX4_init ∈ jj_W := jj_Wof 39 (by decide +kernel) rfl
theorem kM_X5_11 : jj_MI RX5 11 yX4_init cX4_init 2 0 := ⟨kw_38, kw_39, rfl, kw_12, kw_40, by decide +kernel, by decide +kernel, by decide +kernel⟩
theorem kw_223 : Cond.fieldLink RX5 12 (TX5 0).1 (TX5 0).2.1 (TX5 0).2.2.1 ∈ jj_W := jj_Wof 223 (by decide +kernel) rfl
theorem kF_X5_12 : jj_F RX5 12 5 0 1 := ⟨RX5, TX5, 4, tyX5, rfl, rfl, by decide, by decide, ku_5, kw_223, fun h => absurd h (by decide), tyX5_ok, nmX5, fun h => absurd h (by decide), fun _ => Or.inl ⟨_, rfl⟩, fun _ => ⟨rfl, rfl⟩⟩
theorem kw_193 : Cond.fieldLink RX5 16 (TX4 0).1 (TX4 0).2.1 (TX4 0).2.2.1 ∈ jj_W := jj_Wof 193 (by decide +kernel) rfl
theorem kF_X5_16 : jj_F RX5 16 4 0 2 := ⟨RX4, TX4, 7, tyX4, rfl, rfl, by decide, by decide, ku_4, kw_193, fun h => absurd h (by decide), tyX4_ok, nmX4, fun h => absurd h (by decide), fun _ => Or.inl ⟨_, rfl⟩, fun h => absurd h (by decide)⟩
theorem kw_224 : Cond.fieldLink RX5 20 (TX5 1).1 (TX5 1).2.1 (TX5 1).2.2.1 ∈ jj_W := jj_Wof 224 (by decide +kernel) rfl
theorem kF_X5_20 : jj_F RX5 20 5 1 1 := ⟨RX5, TX5, 4, tyX5, rfl, rfl, by decide, by decide, ku_5, kw_224, fun h => absurd h (by decide), tyX5_ok, nmX5, fun h => absurd h (by decide), fun _ => Or.inl ⟨_, rfl⟩, fun _ => ⟨rfl, rfl⟩⟩
theorem kw_225 : Cond.fieldLink RX5 21 (TX5 2).1 (TX5 2).2.1 (TX5 2).2.2.1 ∈ jj_W := jj_Wof 225 (by decide +kernel) rfl
theorem kF_X5_21 : jj_F RX5 21 5 2 1 := ⟨RX5, TX5, 4, tyX5, rfl, rfl, by decide, by decide, ku_5, kw_225, fun h => absurd h (by decide), tyX5_ok, nmX5, fun h => absurd h (by decide), fun _ => Or.inl ⟨_, rfl⟩, fun _ => ⟨rfl, rfl⟩⟩
theorem kw_221 : Cond.classLink RX5 24 "[[I" ∈ jj_W := jj_Wof 221 (by decide +kernel) rfl
theorem kC_X5_24 : Cond.classLink RX5 24 "[[I" ∈ jj_W := kw_221
theorem kw_226 : Cond.fieldLink RX5 26 (TX5 3).1 (TX5 3).2.1 (TX5 3).2.2.1 ∈ jj_W := jj_Wof 226 (by decide +kernel) rfl
theorem kF_X5_26 : jj_F RX5 26 5 3 1 := ⟨RX5, TX5, 4, tyX5, rfl, rfl, by decide, by decide, ku_5, kw_226, fun h => absurd h (by decide), tyX5_ok, nmX5, fun h => absurd h (by decide), fun _ => Or.inr ⟨_, rfl⟩, fun _ => ⟨rfl, rfl⟩⟩
theorem kw_244 : Cond.methodLink RX5 29 yX5_needIndex ∈ jj_W := jj_Wof 244 (by decide +kernel) rfl
theorem kw_11 : Cond.initialized RX5 ∈ jj_W := jj_Wof 11 (by decide +kernel) rfl
theorem kw_246 : Cond.code yX5_needIndex cX5_needIndex 2 none ∈ jj_W := jj_Wof 246 (by decide +kernel) rfl
theorem kw_245 : Cond.static yX5_needIndex ∈ jj_W := jj_Wof 245 (by decide +kernel) rfl
theorem kM_X5_29 : jj_MS RX5 29 yX5_needIndex cX5_needIndex 2 none 2 := ⟨kw_244, kw_245, kw_11, kw_246, by decide +kernel, by decide +kernel, by decide +kernel⟩
theorem kw_420 : Cond.methodLink RX5 33 yX5_needNumber ∈ jj_W := jj_Wof 420 (by decide +kernel) rfl
theorem kw_422 : Cond.code yX5_needNumber cX5_needNumber 3 none ∈ jj_W := jj_Wof 422 (by decide +kernel) rfl
theorem kw_421 : Cond.static yX5_needNumber ∈ jj_W := jj_Wof 421 (by decide +kernel) rfl
theorem kM_X5_33 : jj_MS RX5 33 yX5_needNumber cX5_needNumber 3 none 3 := ⟨kw_420, kw_421, kw_11, kw_422, by decide +kernel, by decide +kernel, by decide +kernel⟩
theorem kw_54 : Cond.fieldLink RX5 37 (TX3 2).1 (TX3 2).2.1 (TX3 2).2.2.1 ∈ jj_W := jj_Wof 54 (by decide +kernel) rfl
theorem kF_X5_37 : jj_F RX5 37 3 2 2 := ⟨RX3, TX3, 7, tyX3, rfl, rfl, by decide, by decide, ku_3, kw_54, fun h => absurd h (by decide), tyX3_ok, nmX3, fun h => absurd h (by decide), fun _ => Or.inr ⟨_, rfl⟩, fun h => absurd h (by decide)⟩
theorem kw_52 : Cond.fieldLink RX5 43 (TX3 1).1 (TX3 1).2.1 (TX3 1).2.2.1 ∈ jj_W := jj_Wof 52 (by decide +kernel) rfl
theorem kF_X5_43 : jj_F RX5 43 3 1 0 := ⟨RX3, TX3, 7, tyX3, rfl, rfl, by decide, by decide, ku_3, kw_52, fun _ => rfl, tyX3_ok, nmX3, fun _ => rfl, fun h => absurd h (by decide), fun h => absurd h (by decide)⟩
theorem kw_687 : Cond.methodLink RX5 47 yX5_needRoomForOneMore ∈ jj_W := jj_Wof 687 (by decide +kernel) rfl
theorem kw_689 : Cond.code yX5_needRoomForOneMore cX5_needRoomForOneMore 2 none ∈ jj_W := jj_Wof 689 (by decide +kernel) rfl
theorem kw_688 : Cond.static yX5_needRoomForOneMore ∈ jj_W := jj_Wof 688 (by decide +kernel) rfl
theorem kM_X5_47 : jj_MS RX5 47 yX5_needRoomForOneMore cX5_needRoomForOneMore 2 none 2 := ⟨kw_687, kw_688, kw_11, kw_689, by decide +kernel, by decide +kernel, by decide +kernel⟩
theorem kw_706 : Cond.methodLink RX5 50 yX3_grow ∈ jj_W := jj_Wof 706 (by decide +kernel) rfl
theorem kw_13 : Cond.initialized RX3 ∈ jj_W := jj_Wof 13 (by decide +kernel) rfl
theorem kw_709 : Cond.code yX3_grow cX3_grow 4 (some .int) ∈ jj_W := jj_Wof 709 (by decide +kernel) rfl
theorem kw_707 : Cond.instanceMethod yX3_grow ∈ jj_W := jj_Wof 707 (by decide +kernel) rfl
theorem kw_708 : Cond.selects RX3 yX3_grow yX3_grow ∈ jj_W := jj_Wof 708 (by decide +kernel) rfl
theorem kM_X5_50 : jj_MV RX5 50 yX3_grow cX3_grow 4 (some .int) 2 := ⟨kw_706, kw_707, kw_708, kw_13, kw_709, by decide +kernel, by decide +kernel, by decide +kernel⟩
theorem kw_240 : Cond.methodLink RX5 54 yX5_needHarbour ∈ jj_W := jj_Wof 240 (by decide +kernel) rfl
theorem kw_243 : Cond.code yX5_needHarbour cX5_needHarbour 2 none ∈ jj_W := jj_Wof 243 (by decide +kernel) rfl
theorem kw_242 : Cond.instanceMethod yX5_needHarbour ∈ jj_W := jj_Wof 242 (by decide +kernel) rfl
theorem kw_0 : Cond.selects RX5 yX5_needHarbour yX5_needHarbour ∈ jj_W := jj_Wof 0 (by decide +kernel) rfl
theorem kM_X5_54 : jj_MV RX5 54 yX5_needHarbour cX5_needHarbour 2 none 1 := ⟨kw_240, kw_242, kw_0, kw_11, kw_243, by decide +kernel, by decide +kernel, by decide +kernel⟩
theorem kw_64 : Cond.fieldLink RX5 58 (TX3 6).1 (TX3 6).2.1 (TX3 6).2.2.1 ∈ jj_W := jj_Wof 64 (by decide +kernel) rfl
theorem kF_X5_58 : jj_F RX5 58 3 6 2 := ⟨RX3, TX3, 7, tyX3, rfl, rfl, by decide, by decide, ku_3, kw_64, fun h => absurd h (by decide), tyX3_ok, nmX3, fun h => absurd h (by decide), fun _ => Or.inr ⟨_, rfl⟩, fun h => absurd h (by decide)⟩
theorem kw_337 : Cond.methodLink RX5 61 yX5_cellOf ∈ jj_W := jj_Wof 337 (by decide +kernel) rfl
theorem kw_339 : Cond.code yX5_cellOf cX5_cellOf 2 (some .int) ∈ jj_W := jj_Wof 339 (by decide +kernel) rfl
theorem kw_338 : Cond.static yX5_cellOf ∈ jj_W := jj_Wof 338 (by decide +kernel) rfl
theorem kM_X5_61 : jj_MS RX5 61 yX5_cellOf cX5_cellOf 2 (some .int) 2 := ⟨kw_337, kw_338, kw_11, kw_339, by decide +kernel, by decide +kernel, by decide +kernel⟩
theorem kw_315 : Cond.methodLink RX5 64 yX5_harbourFact ∈ jj_W := jj_Wof 315 (by decide +kernel) rfl
theorem kw_318 : Cond.code yX5_harbourFact cX5_harbourFact 3 (some .int) ∈ jj_W := jj_Wof 318 (by decide +kernel) rfl
theorem kw_317 : Cond.instanceMethod yX5_harbourFact ∈ jj_W := jj_Wof 317 (by decide +kernel) rfl
theorem kw_2 : Cond.selects RX5 yX5_harbourFact yX5_harbourFact ∈ jj_W := jj_Wof 2 (by decide +kernel) rfl
theorem kM_X5_64 : jj_MV RX5 64 yX5_harbourFact cX5_harbourFact 3 (some .int) 2 := ⟨kw_315, kw_317, kw_2, kw_11, kw_318, by decide +kernel, by decide +kernel, by decide +kernel⟩
theorem kw_344 : Cond.methodLink RX5 67 yX5_needLeg ∈ jj_W := jj_Wof 344 (by decide +kernel) rfl
theorem kw_347 : Cond.code yX5_needLeg cX5_needLeg 2 none ∈ jj_W := jj_Wof 347 (by decide +kernel) rfl
theorem kw_346 : Cond.instanceMethod yX5_needLeg ∈ jj_W := jj_Wof 346 (by decide +kernel) rfl
theorem kw_3 : Cond.selects RX5 yX5_needLeg yX5_needLeg ∈ jj_W := jj_Wof 3 (by decide +kernel) rfl
theorem kM_X5_67 : jj_MV RX5 67 yX5_needLeg cX5_needLeg 2 none 1 := ⟨kw_344, kw_346, kw_3, kw_11, kw_347, by decide +kernel, by decide +kernel, by decide +kernel⟩
theorem kw_349 : Cond.methodLink RX5 70 yX5_legFact ∈ jj_W := jj_Wof 349 (by decide +kernel) rfl
theorem kw_352 : Cond.code yX5_legFact cX5_legFact 3 (some .int) ∈ jj_W := jj_Wof 352 (by decide +kernel) rfl
theorem kw_351 : Cond.instanceMethod yX5_legFact ∈ jj_W := jj_Wof 351 (by decide +kernel) rfl
theorem kw_4 : Cond.selects RX5 yX5_legFact yX5_legFact ∈ jj_W := jj_Wof 4 (by decide +kernel) rfl
theorem kM_X5_70 : jj_MV RX5 70 yX5_legFact cX5_legFact 3 (some .int) 2 := ⟨kw_349, kw_351, kw_4, kw_11, kw_352, by decide +kernel, by decide +kernel, by decide +kernel⟩
theorem kw_195 : Cond.fieldLink RX5 73 (TX4 1).1 (TX4 1).2.1 (TX4 1).2.2.1 ∈ jj_W := jj_Wof 195 (by decide +kernel) rfl
theorem kF_X5_73 : jj_F RX5 73 4 1 0 := ⟨RX4, TX4, 7, tyX4, rfl, rfl, by decide, by decide, ku_4, kw_195, fun _ => rfl, tyX4_ok, nmX4, fun _ => rfl, fun h => absurd h (by decide), fun h => absurd h (by decide)⟩
theorem kw_201 : Cond.fieldLink RX5 76 (TX4 4).1 (TX4 4).2.1 (TX4 4).2.2.1 ∈ jj_W := jj_Wof 201 (by decide +kernel) rfl
theorem kF_X5_76 : jj_F RX5 76 4 4 2 := ⟨RX4, TX4, 7, tyX4, rfl, rfl, by decide, by decide, ku_4, kw_201, fun h => absurd h (by decide), tyX4_ok, nmX4, fun h => absurd h (by decide), fun _ => Or.inr ⟨_, rfl⟩, fun h => absurd h (by decide)⟩
theorem kw_94 : Cond.fieldLink RX5 80 (TX2 0).1 (TX2 0).2.1 (TX2 0).2.2.1 ∈ jj_W := jj_Wof 94 (by decide +kernel) rfl
theorem kF_X5_80 : jj_F RX5 80 2 0 0 := ⟨RX2, TX2, 2, tyX2, rfl, rfl, by decide, by decide, ku_2, kw_94, fun _ => rfl, tyX2_ok, nmX2, fun _ => rfl, fun h => absurd h (by decide), fun h => absurd h (by decide)⟩
theorem kw_365 : Cond.methodLink RX5 85 yX5_needMerchant ∈ jj_W := jj_Wof 365 (by decide +kernel) rfl
theorem kw_368 : Cond.code yX5_needMerchant cX5_needMerchant 2 none ∈ jj_W := jj_Wof 368 (by decide +kernel) rfl
theorem kw_367 : Cond.instanceMethod yX5_needMerchant ∈ jj_W := jj_Wof 367 (by decide +kernel) rfl
theorem kw_5 : Cond.selects RX5 yX5_needMerchant yX5_needMerchant ∈ jj_W := jj_Wof 5 (by decide +kernel) rfl
theorem kM_X5_85 : jj_MV RX5 85 yX5_needMerchant cX5_needMerchant 2 none 1 := ⟨kw_365, kw_367, kw_5, kw_11, kw_368, by decide +kernel, by decide +kernel, by decide +kernel⟩
theorem kw_97 : Cond.fieldLink RX5 88 (TX2 1).1 (TX2 1).2.1 (TX2 1).2.2.1 ∈ jj_W := jj_Wof 97 (by decide +kernel) rfl
theorem kF_X5_88 : jj_F RX5 88 2 1 2 := ⟨RX2, TX2, 2, tyX2, rfl, rfl, by decide, by decide, ku_2, kw_97, fun h => absurd h (by decide), tyX2_ok, nmX2, fun h => absurd h (by decide), fun _ => Or.inr ⟨_, rfl⟩, fun h => absurd h (by decide)⟩
theorem kw_787 : Cond.methodLink RX5 91 yX5_needAtLeast ∈ jj_W := jj_Wof 787 (by decide +kernel) rfl
theorem kw_789 : Cond.code yX5_needAtLeast cX5_needAtLeast 2 none ∈ jj_W := jj_Wof 789 (by decide +kernel) rfl
theorem kw_788 : Cond.static yX5_needAtLeast ∈ jj_W := jj_Wof 788 (by decide +kernel) rfl
theorem kM_X5_91 : jj_MS RX5 91 yX5_needAtLeast cX5_needAtLeast 2 none 2 := ⟨kw_787, kw_788, kw_11, kw_789, by decide +kernel, by decide +kernel, by decide +kernel⟩
theorem kw_791 : Cond.methodLink RX5 94 yX5_needEnough ∈ jj_W := jj_Wof 791 (by decide +kernel) rfl
theorem kw_793 : Cond.code yX5_needEnough cX5_needEnough 2 none ∈ jj_W := jj_Wof 793 (by decide +kernel) rfl
theorem kw_792 : Cond.static yX5_needEnough ∈ jj_W := jj_Wof 792 (by decide +kernel) rfl
theorem kM_X5_94 : jj_MS RX5 94 yX5_needEnough cX5_needEnough 2 none 2 := ⟨kw_791, kw_792, kw_11, kw_793, by decide +kernel, by decide +kernel, by decide +kernel⟩
theorem kw_373 : Cond.methodLink RX5 97 yX5_merchantFact ∈ jj_W := jj_Wof 373 (by decide +kernel) rfl
theorem kw_376 : Cond.code yX5_merchantFact cX5_merchantFact 3 (some .int) ∈ jj_W := jj_Wof 376 (by decide +kernel) rfl
theorem kw_375 : Cond.instanceMethod yX5_merchantFact ∈ jj_W := jj_Wof 375 (by decide +kernel) rfl
theorem kw_6 : Cond.selects RX5 yX5_merchantFact yX5_merchantFact ∈ jj_W := jj_Wof 6 (by decide +kernel) rfl
theorem kM_X5_97 : jj_MV RX5 97 yX5_merchantFact cX5_merchantFact 3 (some .int) 2 := ⟨kw_373, kw_375, kw_6, kw_11, kw_376, by decide +kernel, by decide +kernel, by decide +kernel⟩
theorem kw_197 : Cond.fieldLink RX5 100 (TX4 2).1 (TX4 2).2.1 (TX4 2).2.2.1 ∈ jj_W := jj_Wof 197 (by decide +kernel) rfl
theorem kF_X5_100 : jj_F RX5 100 4 2 0 := ⟨RX4, TX4, 7, tyX4, rfl, rfl, by decide, by decide, ku_4, kw_197, fun _ => rfl, tyX4_ok, nmX4, fun _ => rfl, fun h => absurd h (by decide), fun h => absurd h (by decide)⟩
theorem kw_203 : Cond.fieldLink RX5 103 (TX4 5).1 (TX4 5).2.1 (TX4 5).2.2.1 ∈ jj_W := jj_Wof 203 (by decide +kernel) rfl
theorem kF_X5_103 : jj_F RX5 103 4 5 2 := ⟨RX4, TX4, 7, tyX4, rfl, rfl, by decide, by decide, ku_4, kw_203, fun h => absurd h (by decide), tyX4_ok, nmX4, fun h => absurd h (by decide), fun _ => Or.inr ⟨_, rfl⟩, fun h => absurd h (by decide)⟩
theorem kw_725 : Cond.methodLink RX5 107 yX0_launch ∈ jj_W := jj_Wof 725 (by decide +kernel) rfl
theorem kw_15 : Cond.initialized RX0 ∈ jj_W := jj_Wof 15 (by decide +kernel) rfl
theorem kw_728 : Cond.code yX0_launch cX0_launch 4 none ∈ jj_W := jj_Wof 728 (by decide +kernel) rfl
theorem kw_726 : Cond.instanceMethod yX0_launch ∈ jj_W := jj_Wof 726 (by decide +kernel) rfl
theorem kw_727 : Cond.selects RX0 yX0_launch yX0_launch ∈ jj_W := jj_Wof 727 (by decide +kernel) rfl
theorem kM_X5_107 : jj_MV RX5 107 yX0_launch cX0_launch 4 none 3 := ⟨kw_725, kw_726, kw_727, kw_15, kw_728, by decide +kernel, by decide +kernel, by decide +kernel⟩
theorem kw_401 : Cond.methodLink RX5 112 yX5_needBoat ∈ jj_W := jj_Wof 401 (by decide +kernel) rfl
theorem kw_404 : Cond.code yX5_needBoat cX5_needBoat 2 none ∈ jj_W := jj_Wof 404 (by decide +kernel) rfl
theorem kw_403 : Cond.instanceMethod yX5_needBoat ∈ jj_W := jj_Wof 403 (by decide +kernel) rfl
theorem kw_7 : Cond.selects RX5 yX5_needBoat yX5_needBoat ∈ jj_W := jj_Wof 7 (by decide +kernel) rfl
theorem kM_X5_112 : jj_MV RX5 112 yX5_needBoat cX5_needBoat 2 none 1 := ⟨kw_401, kw_403, kw_7, kw_11, kw_404, by decide +kernel, by decide +kernel, by decide +kernel⟩
theorem kw_802 : Cond.methodLink RX5 122 yX5_needInHarbour ∈ jj_W := jj_Wof 802 (by decide +kernel) rfl
theorem kw_804 : Cond.code yX5_needInHarbour cX5_needInHarbour 1 none ∈ jj_W := jj_Wof 804 (by decide +kernel) rfl
theorem kw_803 : Cond.static yX5_needInHarbour ∈ jj_W := jj_Wof 803 (by decide +kernel) rfl
theorem kM_X5_122 : jj_MS RX5 122 yX5_needInHarbour cX5_needInHarbour 1 none 1 := ⟨kw_802, kw_803, kw_11, kw_804, by decide +kernel, by decide +kernel, by decide +kernel⟩
theorem kw_111 : Cond.fieldLink RX5 126 (TX0 0).1 (TX0 0).2.1 (TX0 0).2.2.1 ∈ jj_W := jj_Wof 111 (by decide +kernel) rfl
theorem kF_X5_126 : jj_F RX5 126 0 0 0 := ⟨RX0, TX0, 9, tyX0, rfl, rfl, by decide, by decide, ku_0, kw_111, fun _ => rfl, tyX0_ok, nmX0, fun _ => rfl, fun h => absurd h (by decide), fun h => absurd h (by decide)⟩
theorem kw_121 : Cond.fieldLink RX5 129 (TX0 4).1 (TX0 4).2.1 (TX0 4).2.2.1 ∈ jj_W := jj_Wof 121 (by decide +kernel) rfl
theorem kF_X5_129 : jj_F RX5 129 0 4 0 := ⟨RX0, TX0, 9, tyX0, rfl, rfl, by decide, by decide, ku_0, kw_121, fun _ => rfl, tyX0_ok, nmX0, fun _ => rfl, fun h => absurd h (by decide), fun h => absurd h (by decide)⟩
theorem kw_131 : Cond.fieldLink RX5 132 (TX0 8).1 (TX0 8).2.1 (TX0 8).2.2.1 ∈ jj_W := jj_Wof 131 (by decide +kernel) rfl
theorem kF_X5_132 : jj_F RX5 132 0 8 2 := ⟨RX0, TX0, 9, tyX0, rfl, rfl, by decide, by decide, ku_0, kw_131, fun h => absurd h (by decide), tyX0_ok, nmX0, fun h => absurd h (by decide), fun _ => Or.inr ⟨_, rfl⟩, fun h => absurd h (by decide)⟩
theorem kw_807 : Cond.methodLink RX5 135 Lib.Math.abs.name ∈ jj_W := jj_Wof 807 (by decide +kernel) rfl
theorem kw_808 : Cond.static Lib.Math.abs.name ∈ jj_W := jj_Wof 808 (by decide +kernel) rfl
theorem kw_25 : Cond.initialized "java/lang/Math" ∈ jj_W := jj_Wof 25 (by decide +kernel) rfl
theorem kw_809 : Cond.code Lib.Math.abs.name Lib.Math.abs.code 1 (some .int) ∈ jj_W := jj_Wof 809 (by decide +kernel) rfl
theorem kM_X5_135 : jj_MM RX5 135 Lib.Math.abs.name Lib.Math.abs.code 1 := ⟨kw_807, kw_808, kw_25, kw_809⟩
theorem kw_115 : Cond.fieldLink RX5 141 (TX0 2).1 (TX0 2).2.1 (TX0 2).2.2.1 ∈ jj_W := jj_Wof 115 (by decide +kernel) rfl
theorem kF_X5_141 : jj_F RX5 141 0 2 0 := ⟨RX0, TX0, 9, tyX0, rfl, rfl, by decide, by decide, ku_0, kw_115, fun _ => rfl, tyX0_ok, nmX0, fun _ => rfl, fun h => absurd h (by decide), fun h => absurd h (by decide)⟩
theorem kw_408 : Cond.methodLink RX5 144 yX0_allCargo ∈ jj_W := jj_Wof 408 (by decide +kernel) rfl
theorem kw_395 : Cond.code yX0_allCargo cX0_allCargo 1 (some .int) ∈ jj_W := jj_Wof 395 (by decide +kernel) rfl
theorem kw_393 : Cond.instanceMethod yX0_allCargo ∈ jj_W := jj_Wof 393 (by decide +kernel) rfl
theorem kw_394 : Cond.selects RX0 yX0_allCargo yX0_allCargo ∈ jj_W := jj_Wof 394 (by decide +kernel) rfl
theorem kM_X5_144 : jj_MV RX5 144 yX0_allCargo cX0_allCargo 1 (some .int) 0 := ⟨kw_408, kw_393, kw_394, kw_15, kw_395, by decide +kernel, by decide +kernel, by decide +kernel⟩
theorem kw_118 : Cond.fieldLink RX5 148 (TX0 3).1 (TX0 3).2.1 (TX0 3).2.2.1 ∈ jj_W := jj_Wof 118 (by decide +kernel) rfl
theorem kF_X5_148 : jj_F RX5 148 0 3 0 := ⟨RX0, TX0, 9, tyX0, rfl, rfl, by decide, by decide, ku_0, kw_118, fun _ => rfl, tyX0_ok, nmX0, fun _ => rfl, fun h => absurd h (by decide), fun h => absurd h (by decide)⟩
theorem kw_125 : Cond.fieldLink RX5 156 (TX0 6).1 (TX0 6).2.1 (TX0 6).2.2.1 ∈ jj_W := jj_Wof 125 (by decide +kernel) rfl
theorem kF_X5_156 : jj_F RX5 156 0 6 0 := ⟨RX0, TX0, 9, tyX0, rfl, rfl, by decide, by decide, ku_0, kw_125, fun _ => rfl, tyX0_ok, nmX0, fun _ => rfl, fun h => absurd h (by decide), fun h => absurd h (by decide)⟩
theorem kw_128 : Cond.fieldLink RX5 159 (TX0 7).1 (TX0 7).2.1 (TX0 7).2.2.1 ∈ jj_W := jj_Wof 128 (by decide +kernel) rfl
theorem kF_X5_159 : jj_F RX5 159 0 7 0 := ⟨RX0, TX0, 9, tyX0, rfl, rfl, by decide, by decide, ku_0, kw_128, fun _ => rfl, tyX0_ok, nmX0, fun _ => rfl, fun h => absurd h (by decide), fun h => absurd h (by decide)⟩
theorem kw_815 : Cond.methodLink RX5 162 yX3_wayDays ∈ jj_W := jj_Wof 815 (by decide +kernel) rfl
theorem kw_818 : Cond.code yX3_wayDays cX3_wayDays 5 (some .int) ∈ jj_W := jj_Wof 818 (by decide +kernel) rfl
theorem kw_816 : Cond.instanceMethod yX3_wayDays ∈ jj_W := jj_Wof 816 (by decide +kernel) rfl
theorem kw_817 : Cond.selects RX3 yX3_wayDays yX3_wayDays ∈ jj_W := jj_Wof 817 (by decide +kernel) rfl
theorem kM_X5_162 : jj_MV RX5 162 yX3_wayDays cX3_wayDays 5 (some .int) 2 := ⟨kw_815, kw_816, kw_817, kw_13, kw_818, by decide +kernel, by decide +kernel, by decide +kernel⟩
theorem kw_829 : Cond.methodLink RX5 165 yX4_freeBerths ∈ jj_W := jj_Wof 829 (by decide +kernel) rfl
theorem kw_832 : Cond.code yX4_freeBerths cX4_freeBerths 2 (some .int) ∈ jj_W := jj_Wof 832 (by decide +kernel) rfl
theorem kw_830 : Cond.instanceMethod yX4_freeBerths ∈ jj_W := jj_Wof 830 (by decide +kernel) rfl
theorem kw_831 : Cond.selects RX4 yX4_freeBerths yX4_freeBerths ∈ jj_W := jj_Wof 831 (by decide +kernel) rfl
theorem kM_X5_165 : jj_MV RX5 165 yX4_freeBerths cX4_freeBerths 2 (some .int) 1 := ⟨kw_829, kw_830, kw_831, kw_12, kw_832, by decide +kernel, by decide +kernel, by decide +kernel⟩
theorem kw_113 : Cond.fieldLink RX5 168 (TX0 1).1 (TX0 1).2.1 (TX0 1).2.2.1 ∈ jj_W := jj_Wof 113 (by decide +kernel) rfl
theorem kF_X5_168 : jj_F RX5 168 0 1 0 := ⟨RX0, TX0, 9, tyX0, rfl, rfl, by decide, by decide, ku_0, kw_113, fun _ => rfl, tyX0_ok, nmX0, fun _ => rfl, fun h => absurd h (by decide), fun h => absurd h (by decide)⟩
theorem kw_461 : Cond.methodLink RX5 171 Lib.Math.min.name ∈ jj_W := jj_Wof 461 (by decide +kernel) rfl
theorem kw_335 : Cond.static Lib.Math.min.name ∈ jj_W := jj_Wof 335 (by decide +kernel) rfl
theorem kw_336 : Cond.code Lib.Math.min.name Lib.Math.min.code 2 (some .int) ∈ jj_W := jj_Wof 336 (by decide +kernel) rfl
theorem kM_X5_171 : jj_MM RX5 171 Lib.Math.min.name Lib.Math.min.code 2 := ⟨kw_461, kw_335, kw_25, kw_336⟩
theorem kw_405 : Cond.methodLink RX5 174 yX5_boatFact ∈ jj_W := jj_Wof 405 (by decide +kernel) rfl
theorem kw_407 : Cond.code yX5_boatFact cX5_boatFact 2 (some .int) ∈ jj_W := jj_Wof 407 (by decide +kernel) rfl
theorem kw_406 : Cond.static yX5_boatFact ∈ jj_W := jj_Wof 406 (by decide +kernel) rfl
theorem kM_X5_174 : jj_MS RX5 174 yX5_boatFact cX5_boatFact 2 (some .int) 2 := ⟨kw_405, kw_406, kw_11, kw_407, by decide +kernel, by decide +kernel, by decide +kernel⟩
theorem kw_50 : Cond.fieldLink RX5 180 (TX3 0).1 (TX3 0).2.1 (TX3 0).2.2.1 ∈ jj_W := jj_Wof 50 (by decide +kernel) rfl
theorem kF_X5_180 : jj_F RX5 180 3 0 0 := ⟨RX3, TX3, 7, tyX3, rfl, rfl, by decide, by decide, ku_3, kw_50, fun _ => rfl, tyX3_ok, nmX3, fun _ => rfl, fun h => absurd h (by decide), fun h => absurd h (by decide)⟩
theorem kw_199 : Cond.fieldLink RX5 183 (TX4 3).1 (TX4 3).2.1 (TX4 3).2.2.1 ∈ jj_W := jj_Wof 199 (by decide +kernel) rfl
theorem kF_X5_183 : jj_F RX5 183 4 3 0 := ⟨RX4, TX4, 7, tyX4, rfl, rfl, by decide, by decide, ku_4, kw_199, fun _ => rfl, tyX4_ok, nmX4, fun _ => rfl, fun h => absurd h (by decide), fun h => absurd h (by decide)⟩
theorem kw_844 : Cond.methodLink RX5 186 yX4_hand ∈ jj_W := jj_Wof 844 (by decide +kernel) rfl
theorem kw_504 : Cond.code yX4_hand cX4_hand 5 none ∈ jj_W := jj_Wof 504 (by decide +kernel) rfl
theorem kw_502 : Cond.instanceMethod yX4_hand ∈ jj_W := jj_Wof 502 (by decide +kernel) rfl
theorem kw_503 : Cond.selects RX4 yX4_hand yX4_hand ∈ jj_W := jj_Wof 503 (by decide +kernel) rfl
theorem kM_X5_186 : jj_MV RX5 186 yX4_hand cX4_hand 5 none 4 := ⟨kw_844, kw_502, kw_503, kw_12, kw_504, by decide +kernel, by decide +kernel, by decide +kernel⟩
theorem kw_205 : Cond.fieldLink RX5 190 (TX4 6).1 (TX4 6).2.1 (TX4 6).2.2.1 ∈ jj_W := jj_Wof 205 (by decide +kernel) rfl
theorem kF_X5_190 : jj_F RX5 190 4 6 2 := ⟨RX4, TX4, 7, tyX4, rfl, rfl, by decide, by decide, ku_4, kw_205, fun h => absurd h (by decide), tyX4_ok, nmX4, fun h => absurd h (by decide), fun _ => Or.inr ⟨_, rfl⟩, fun h => absurd h (by decide)⟩
theorem kw_850 : Cond.methodLink RX5 194 yX1_open ∈ jj_W := jj_Wof 850 (by decide +kernel) rfl
theorem kw_16 : Cond.initialized RX1 ∈ jj_W := jj_Wof 16 (by decide +kernel) rfl
theorem kw_568 : Cond.code yX1_open cX1_open 7 none ∈ jj_W := jj_Wof 568 (by decide +kernel) rfl
theorem kw_566 : Cond.instanceMethod yX1_open ∈ jj_W := jj_Wof 566 (by decide +kernel) rfl
theorem kw_567 : Cond.selects RX1 yX1_open yX1_open ∈ jj_W := jj_Wof 567 (by decide +kernel) rfl
theorem kM_X5_194 : jj_MV RX5 194 yX1_open cX1_open 7 none 6 := ⟨kw_850, kw_566, kw_567, kw_16, kw_568, by decide +kernel, by decide +kernel, by decide +kernel⟩
theorem kw_176 : Cond.fieldLink RX5 200 (TX1 6).1 (TX1 6).2.1 (TX1 6).2.2.1 ∈ jj_W := jj_Wof 176 (by decide +kernel) rfl
theorem kF_X5_200 : jj_F RX5 200 1 6 0 := ⟨RX1, TX1, 7, tyX1, rfl, rfl, by decide, by decide, ku_1, kw_176, fun _ => rfl, tyX1_ok, nmX1, fun _ => rfl, fun h => absurd h (by decide), fun h => absurd h (by decide)⟩
theorem kw_167 : Cond.fieldLink RX5 205 (TX1 3).1 (TX1 3).2.1 (TX1 3).2.2.1 ∈ jj_W := jj_Wof 167 (by decide +kernel) rfl
theorem kF_X5_205 : jj_F RX5 205 1 3 0 := ⟨RX1, TX1, 7, tyX1, rfl, rfl, by decide, by decide, ku_1, kw_167, fun _ => rfl, tyX1_ok, nmX1, fun _ => rfl, fun h => absurd h (by decide), fun h => absurd h (by decide)⟩
theorem kw_161 : Cond.fieldLink RX5 208 (TX1 1).1 (TX1 1).2.1 (TX1 1).2.2.1 ∈ jj_W := jj_Wof 161 (by decide +kernel) rfl
theorem kF_X5_208 : jj_F RX5 208 1 1 0 := ⟨RX1, TX1, 7, tyX1, rfl, rfl, by decide, by decide, ku_1, kw_161, fun _ => rfl, tyX1_ok, nmX1, fun _ => rfl, fun h => absurd h (by decide), fun h => absurd h (by decide)⟩
theorem kw_170 : Cond.fieldLink RX5 211 (TX1 4).1 (TX1 4).2.1 (TX1 4).2.2.1 ∈ jj_W := jj_Wof 170 (by decide +kernel) rfl
theorem kF_X5_211 : jj_F RX5 211 1 4 0 := ⟨RX1, TX1, 7, tyX1, rfl, rfl, by decide, by decide, ku_1, kw_170, fun _ => rfl, tyX1_ok, nmX1, fun _ => rfl, fun h => absurd h (by decide), fun h => absurd h (by decide)⟩
theorem kw_158 : Cond.fieldLink RX5 214 (TX1 0).1 (TX1 0).2.1 (TX1 0).2.2.1 ∈ jj_W := jj_Wof 158 (by decide +kernel) rfl
theorem kF_X5_214 : jj_F RX5 214 1 0 0 := ⟨RX1, TX1, 7, tyX1, rfl, rfl, by decide, by decide, ku_1, kw_158, fun _ => rfl, tyX1_ok, nmX1, fun _ => rfl, fun h => absurd h (by decide), fun h => absurd h (by decide)⟩
theorem kw_413 : Cond.methodLink RX5 217 yX5_debtFact ∈ jj_W := jj_Wof 413 (by decide +kernel) rfl
theorem kw_415 : Cond.code yX5_debtFact cX5_debtFact 2 (some .int) ∈ jj_W := jj_Wof 415 (by decide +kernel) rfl
theorem kw_414 : Cond.static yX5_debtFact ∈ jj_W := jj_Wof 414 (by decide +kernel) rfl
theorem kM_X5_217 : jj_MS RX5 217 yX5_debtFact cX5_debtFact 2 (some .int) 2 := ⟨kw_413, kw_414, kw_11, kw_415, by decide +kernel, by decide +kernel, by decide +kernel⟩
theorem kw_439 : Cond.methodLink RX5 221 yX4_boatsIn ∈ jj_W := jj_Wof 439 (by decide +kernel) rfl
theorem kw_442 : Cond.code yX4_boatsIn cX4_boatsIn 4 (some .int) ∈ jj_W := jj_Wof 442 (by decide +kernel) rfl
theorem kw_440 : Cond.instanceMethod yX4_boatsIn ∈ jj_W := jj_Wof 440 (by decide +kernel) rfl
theorem kw_441 : Cond.selects RX4 yX4_boatsIn yX4_boatsIn ∈ jj_W := jj_Wof 441 (by decide +kernel) rfl
theorem kM_X5_221 : jj_MV RX5 221 yX4_boatsIn cX4_boatsIn 4 (some .int) 1 := ⟨kw_439, kw_440, kw_441, kw_12, kw_442, by decide +kernel, by decide +kernel, by decide +kernel⟩
theorem kw_443 : Cond.methodLink RX5 224 yX4_passDay ∈ jj_W := jj_Wof 443 (by decide +kernel) rfl
theorem kw_446 : Cond.code yX4_passDay cX4_passDay 2 none ∈ jj_W := jj_Wof 446 (by decide +kernel) rfl
theorem kw_444 : Cond.instanceMethod yX4_passDay ∈ jj_W := jj_Wof 444 (by decide +kernel) rfl
theorem kw_445 : Cond.selects RX4 yX4_passDay yX4_passDay ∈ jj_W := jj_Wof 445 (by decide +kernel) rfl
theorem kM_X5_224 : jj_MV RX5 224 yX4_passDay cX4_passDay 2 none 0 := ⟨kw_443, kw_444, kw_445, kw_12, kw_446, by decide +kernel, by decide +kernel, by decide +kernel⟩
theorem kw_509 : Cond.methodLink RX5 227 yX5_countFact ∈ jj_W := jj_Wof 509 (by decide +kernel) rfl
theorem kw_512 : Cond.code yX5_countFact cX5_countFact 2 (some .int) ∈ jj_W := jj_Wof 512 (by decide +kernel) rfl
theorem kw_511 : Cond.instanceMethod yX5_countFact ∈ jj_W := jj_Wof 511 (by decide +kernel) rfl
theorem kw_8 : Cond.selects RX5 yX5_countFact yX5_countFact ∈ jj_W := jj_Wof 8 (by decide +kernel) rfl
theorem kM_X5_227 : jj_MV RX5 227 yX5_countFact cX5_countFact 2 (some .int) 1 := ⟨kw_509, kw_511, kw_8, kw_11, kw_512, by decide +kernel, by decide +kernel, by decide +kernel⟩
theorem kw_59 : Cond.fieldLink RX5 230 (TX3 4).1 (TX3 4).2.1 (TX3 4).2.2.1 ∈ jj_W := jj_Wof 59 (by decide +kernel) rfl
theorem kF_X5_230 : jj_F RX5 230 3 4 2 := ⟨RX3, TX3, 7, tyX3, rfl, rfl, by decide, by decide, ku_3, kw_59, fun h => absurd h (by decide), tyX3_ok, nmX3, fun h => absurd h (by decide), fun _ => Or.inr ⟨_, rfl⟩, fun h => absurd h (by decide)⟩
theorem kw_531 : Cond.methodLink RX5 233 yX3_warmOn ∈ jj_W := jj_Wof 531 (by decide +kernel) rfl
theorem kw_454 : Cond.code yX3_warmOn cX3_warmOn 2 (some .int) ∈ jj_W := jj_Wof 454 (by decide +kernel) rfl
theorem kw_452 : Cond.instanceMethod yX3_warmOn ∈ jj_W := jj_Wof 452 (by decide +kernel) rfl
theorem kw_453 : Cond.selects RX3 yX3_warmOn yX3_warmOn ∈ jj_W := jj_Wof 453 (by decide +kernel) rfl
theorem kM_X5_233 : jj_MV RX5 233 yX3_warmOn cX3_warmOn 2 (some .int) 1 := ⟨kw_531, kw_452, kw_453, kw_13, kw_454, by decide +kernel, by decide +kernel, by decide +kernel⟩
theorem kw_532 : Cond.methodLink RX5 236 yX5_iceBehind ∈ jj_W := jj_Wof 532 (by decide +kernel) rfl
theorem kw_460 : Cond.code yX5_iceBehind cX5_iceBehind 3 (some .int) ∈ jj_W := jj_Wof 460 (by decide +kernel) rfl
theorem kw_459 : Cond.static yX5_iceBehind ∈ jj_W := jj_Wof 459 (by decide +kernel) rfl
theorem kM_X5_236 : jj_MS RX5 236 yX5_iceBehind cX5_iceBehind 3 (some .int) 2 := ⟨kw_532, kw_459, kw_11, kw_460, by decide +kernel, by decide +kernel, by decide +kernel⟩
theorem kw_537 : Cond.methodLink RX5 239 yX4_copyFrom ∈ jj_W := jj_Wof 537 (by decide +kernel) rfl
theorem kw_540 : Cond.code yX4_copyFrom cX4_copyFrom 3 none ∈ jj_W := jj_Wof 540 (by decide +kernel) rfl
theorem kw_538 : Cond.instanceMethod yX4_copyFrom ∈ jj_W := jj_Wof 538 (by decide +kernel) rfl
theorem kw_539 : Cond.selects RX4 yX4_copyFrom yX4_copyFrom ∈ jj_W := jj_Wof 539 (by decide +kernel) rfl
theorem kM_X5_239 : jj_MV RX5 239 yX4_copyFrom cX4_copyFrom 3 none 1 := ⟨kw_537, kw_538, kw_539, kw_12, kw_540, by decide +kernel, by decide +kernel, by decide +kernel⟩
theorem kw_569 : Cond.methodLink RX5 243 yX0_isAtGoal ∈ jj_W := jj_Wof 569 (by decide +kernel) rfl
theorem kw_572 : Cond.code yX0_isAtGoal cX0_isAtGoal 1 (some .boolean) ∈ jj_W := jj_Wof 572 (by decide +kernel) rfl
theorem kw_570 : Cond.instanceMethod yX0_isAtGoal ∈ jj_W := jj_Wof 570 (by decide +kernel) rfl
theorem kw_571 : Cond.selects RX0 yX0_isAtGoal yX0_isAtGoal ∈ jj_W := jj_Wof 571 (by decide +kernel) rfl
theorem kM_X5_243 : jj_MV RX5 243 yX0_isAtGoal cX0_isAtGoal 1 (some .boolean) 0 := ⟨kw_569, kw_570, kw_571, kw_15, kw_572, by decide +kernel, by decide +kernel, by decide +kernel⟩
theorem kw_805 : Cond.methodLink RX5 293 yX0_isInHarbour ∈ jj_W := jj_Wof 805 (by decide +kernel) rfl
theorem kw_474 : Cond.code yX0_isInHarbour cX0_isInHarbour 1 (some .boolean) ∈ jj_W := jj_Wof 474 (by decide +kernel) rfl
theorem kw_472 : Cond.instanceMethod yX0_isInHarbour ∈ jj_W := jj_Wof 472 (by decide +kernel) rfl
theorem kw_473 : Cond.selects RX0 yX0_isInHarbour yX0_isInHarbour ∈ jj_W := jj_Wof 473 (by decide +kernel) rfl
theorem kM_X5_293 : jj_MV RX5 293 yX0_isInHarbour cX0_isInHarbour 1 (some .boolean) 0 := ⟨kw_805, kw_472, kw_473, kw_15, kw_474, by decide +kernel, by decide +kernel, by decide +kernel⟩
theorem kw_348 : Cond.methodLink RX5 298 yX3_legs ∈ jj_W := jj_Wof 348 (by decide +kernel) rfl
theorem kw_330 : Cond.code yX3_legs cX3_legs 1 (some .int) ∈ jj_W := jj_Wof 330 (by decide +kernel) rfl
theorem kw_328 : Cond.instanceMethod yX3_legs ∈ jj_W := jj_Wof 328 (by decide +kernel) rfl
theorem kw_329 : Cond.selects RX3 yX3_legs yX3_legs ∈ jj_W := jj_Wof 329 (by decide +kernel) rfl
theorem kM_X5_298 : jj_MV RX5 298 yX3_legs cX3_legs 1 (some .int) 0 := ⟨kw_348, kw_328, kw_329, kw_13, kw_330, by decide +kernel, by decide +kernel, by decide +kernel⟩
theorem kw_513 : Cond.methodLink RX5 301 yX4_openDebts ∈ jj_W := jj_Wof 513 (by decide +kernel) rfl
theorem kw_516 : Cond.code yX4_openDebts cX4_openDebts 3 (some .int) ∈ jj_W := jj_Wof 516 (by decide +kernel) rfl
theorem kw_514 : Cond.instanceMethod yX4_openDebts ∈ jj_W := jj_Wof 514 (by decide +kernel) rfl
theorem kw_515 : Cond.selects RX4 yX4_openDebts yX4_openDebts ∈ jj_W := jj_Wof 515 (by decide +kernel) rfl
theorem kM_X5_301 : jj_MV RX5 301 yX4_openDebts cX4_openDebts 3 (some .int) 0 := ⟨kw_513, kw_514, kw_515, kw_12, kw_516, by decide +kernel, by decide +kernel, by decide +kernel⟩
theorem kw_518 : Cond.methodLink RX5 304 yX4_allCoins ∈ jj_W := jj_Wof 518 (by decide +kernel) rfl
theorem kw_521 : Cond.code yX4_allCoins cX4_allCoins 3 (some .int) ∈ jj_W := jj_Wof 521 (by decide +kernel) rfl
theorem kw_519 : Cond.instanceMethod yX4_allCoins ∈ jj_W := jj_Wof 519 (by decide +kernel) rfl
theorem kw_520 : Cond.selects RX4 yX4_allCoins yX4_allCoins ∈ jj_W := jj_Wof 520 (by decide +kernel) rfl
theorem kM_X5_304 : jj_MV RX5 304 yX4_allCoins cX4_allCoins 3 (some .int) 0 := ⟨kw_518, kw_519, kw_520, kw_12, kw_521, by decide +kernel, by decide +kernel, by decide +kernel⟩
theorem kw_522 : Cond.methodLink RX5 307 yX3_openLegs ∈ jj_W := jj_Wof 522 (by decide +kernel) rfl
theorem kw_525 : Cond.code yX3_openLegs cX3_openLegs 3 (some .int) ∈ jj_W := jj_Wof 525 (by decide +kernel) rfl
theorem kw_523 : Cond.instanceMethod yX3_openLegs ∈ jj_W := jj_Wof 523 (by decide +kernel) rfl
theorem kw_524 : Cond.selects RX3 yX3_openLegs yX3_openLegs ∈ jj_W := jj_Wof 524 (by decide +kernel) rfl
theorem kM_X5_307 : jj_MV RX5 307 yX3_openLegs cX3_openLegs 3 (some .int) 0 := ⟨kw_522, kw_523, kw_524, kw_13, kw_525, by decide +kernel, by decide +kernel, by decide +kernel⟩
theorem kw_62 : Cond.fieldLink RX5 310 (TX3 5).1 (TX3 5).2.1 (TX3 5).2.2.1 ∈ jj_W := jj_Wof 62 (by decide +kernel) rfl
theorem kF_X5_310 : jj_F RX5 310 3 5 2 := ⟨RX3, TX3, 7, tyX3, rfl, rfl, by decide, by decide, ku_3, kw_62, fun h => absurd h (by decide), tyX3_ok, nmX3, fun h => absurd h (by decide), fun _ => Or.inr ⟨_, rfl⟩, fun h => absurd h (by decide)⟩
theorem kw_319 : Cond.methodLink RX5 313 yX4_boatsLying ∈ jj_W := jj_Wof 319 (by decide +kernel) rfl
theorem kw_322 : Cond.code yX4_boatsLying cX4_boatsLying 5 (some .int) ∈ jj_W := jj_Wof 322 (by decide +kernel) rfl
theorem kw_320 : Cond.instanceMethod yX4_boatsLying ∈ jj_W := jj_Wof 320 (by decide +kernel) rfl
theorem kw_321 : Cond.selects RX4 yX4_boatsLying yX4_boatsLying ∈ jj_W := jj_Wof 321 (by decide +kernel) rfl
theorem kM_X5_313 : jj_MV RX5 313 yX4_boatsLying cX4_boatsLying 5 (some .int) 2 := ⟨kw_319, kw_320, kw_321, kw_12, kw_322, by decide +kernel, by decide +kernel, by decide +kernel⟩
theorem kw_323 : Cond.methodLink RX5 316 yX3_iceAtHarbour ∈ jj_W := jj_Wof 323 (by decide +kernel) rfl
theorem kw_326 : Cond.code yX3_iceAtHarbour cX3_iceAtHarbour 3 (some .int) ∈ jj_W := jj_Wof 326 (by decide +kernel) rfl
theorem kw_324 : Cond.instanceMethod yX3_iceAtHarbour ∈ jj_W := jj_Wof 324 (by decide +kernel) rfl
theorem kw_325 : Cond.selects RX3 yX3_iceAtHarbour yX3_iceAtHarbour ∈ jj_W := jj_Wof 325 (by decide +kernel) rfl
theorem kM_X5_316 : jj_MV RX5 316 yX3_iceAtHarbour cX3_iceAtHarbour 3 (some .int) 1 := ⟨kw_323, kw_324, kw_325, kw_13, kw_326, by decide +kernel, by decide +kernel, by decide +kernel⟩
theorem kw_56 : Cond.fieldLink RX5 319 (TX3 3).1 (TX3 3).2.1 (TX3 3).2.2.1 ∈ jj_W := jj_Wof 56 (by decide +kernel) rfl
theorem kF_X5_319 : jj_F RX5 319 3 3 2 := ⟨RX3, TX3, 7, tyX3, rfl, rfl, by decide, by decide, ku_3, kw_56, fun h => absurd h (by decide), tyX3_ok, nmX3, fun h => absurd h (by decide), fun _ => Or.inr ⟨_, rfl⟩, fun h => absurd h (by decide)⟩
theorem kw_353 : Cond.methodLink RX5 322 yX3_isOpen ∈ jj_W := jj_Wof 353 (by decide +kernel) rfl
theorem kw_356 : Cond.code yX3_isOpen cX3_isOpen 2 (some .boolean) ∈ jj_W := jj_Wof 356 (by decide +kernel) rfl
theorem kw_354 : Cond.instanceMethod yX3_isOpen ∈ jj_W := jj_Wof 354 (by decide +kernel) rfl
theorem kw_355 : Cond.selects RX3 yX3_isOpen yX3_isOpen ∈ jj_W := jj_Wof 355 (by decide +kernel) rfl
theorem kM_X5_322 : jj_MV RX5 322 yX3_isOpen cX3_isOpen 2 (some .boolean) 1 := ⟨kw_353, kw_354, kw_355, kw_13, kw_356, by decide +kernel, by decide +kernel, by decide +kernel⟩
theorem kw_357 : Cond.methodLink RX5 326 yX4_boatsOnLeg ∈ jj_W := jj_Wof 357 (by decide +kernel) rfl
theorem kw_360 : Cond.code yX4_boatsOnLeg cX4_boatsOnLeg 4 (some .int) ∈ jj_W := jj_Wof 360 (by decide +kernel) rfl
theorem kw_358 : Cond.instanceMethod yX4_boatsOnLeg ∈ jj_W := jj_Wof 358 (by decide +kernel) rfl
theorem kw_359 : Cond.selects RX4 yX4_boatsOnLeg yX4_boatsOnLeg ∈ jj_W := jj_Wof 359 (by decide +kernel) rfl
theorem kM_X5_326 : jj_MV RX5 326 yX4_boatsOnLeg cX4_boatsOnLeg 4 (some .int) 1 := ⟨kw_357, kw_358, kw_359, kw_12, kw_360, by decide +kernel, by decide +kernel, by decide +kernel⟩
theorem kw_377 : Cond.methodLink RX5 329 yX4_boatsAfloatOf ∈ jj_W := jj_Wof 377 (by decide +kernel) rfl
theorem kw_380 : Cond.code yX4_boatsAfloatOf cX4_boatsAfloatOf 4 (some .int) ∈ jj_W := jj_Wof 380 (by decide +kernel) rfl
theorem kw_378 : Cond.instanceMethod yX4_boatsAfloatOf ∈ jj_W := jj_Wof 378 (by decide +kernel) rfl
theorem kw_379 : Cond.selects RX4 yX4_boatsAfloatOf yX4_boatsAfloatOf ∈ jj_W := jj_Wof 379 (by decide +kernel) rfl
theorem kM_X5_329 : jj_MV RX5 329 yX4_boatsAfloatOf cX4_boatsAfloatOf 4 (some .int) 1 := ⟨kw_377, kw_378, kw_379, kw_12, kw_380, by decide +kernel, by decide +kernel, by decide +kernel⟩
theorem kw_381 : Cond.methodLink RX5 332 yX4_debtsOf ∈ jj_W := jj_Wof 381 (by decide +kernel) rfl
theorem kw_384 : Cond.code yX4_debtsOf cX4_debtsOf 5 (some .int) ∈ jj_W := jj_Wof 384 (by decide +kernel) rfl
theorem kw_382 : Cond.instanceMethod yX4_debtsOf ∈ jj_W := jj_Wof 382 (by decide +kernel) rfl
theorem kw_383 : Cond.selects RX4 yX4_debtsOf yX4_debtsOf ∈ jj_W := jj_Wof 383 (by decide +kernel) rfl
theorem kM_X5_332 : jj_MV RX5 332 yX4_debtsOf cX4_debtsOf 5 (some .int) 2 := ⟨kw_381, kw_382, kw_383, kw_12, kw_384, by decide +kernel, by decide +kernel, by decide +kernel⟩
theorem kw_385 : Cond.methodLink RX5 335 yX5_sum ∈ jj_W := jj_Wof 385 (by decide +kernel) rfl
theorem kw_387 : Cond.code yX5_sum cX5_sum 3 (some .int) ∈ jj_W := jj_Wof 387 (by decide +kernel) rfl
theorem kw_386 : Cond.static yX5_sum ∈ jj_W := jj_Wof 386 (by decide +kernel) rfl
theorem kM_X5_335 : jj_MS RX5 335 yX5_sum cX5_sum 3 (some .int) 1 := ⟨kw_385, kw_386, kw_11, kw_387, by decide +kernel, by decide +kernel, by decide +kernel⟩
theorem kw_388 : Cond.methodLink RX5 339 yX4_cargoOf ∈ jj_W := jj_Wof 388 (by decide +kernel) rfl
theorem kw_391 : Cond.code yX4_cargoOf cX4_cargoOf 4 (some .int) ∈ jj_W := jj_Wof 391 (by decide +kernel) rfl
theorem kw_389 : Cond.instanceMethod yX4_cargoOf ∈ jj_W := jj_Wof 389 (by decide +kernel) rfl
theorem kw_390 : Cond.selects RX4 yX4_cargoOf yX4_cargoOf ∈ jj_W := jj_Wof 390 (by decide +kernel) rfl
theorem kM_X5_339 : jj_MV RX5 339 yX4_cargoOf cX4_cargoOf 4 (some .int) 1 := ⟨kw_388, kw_389, kw_390, kw_12, kw_391, by decide +kernel, by decide +kernel, by decide +kernel⟩
theorem kw_164 : Cond.fieldLink RX5 342 (TX1 2).1 (TX1 2).2.1 (TX1 2).2.2.1 ∈ jj_W := jj_Wof 164 (by decide +kernel) rfl
theorem kF_X5_342 : jj_F RX5 342 1 2 0 := ⟨RX1, TX1, 7, tyX1, rfl, rfl, by decide, by decide, ku_1, kw_164, fun _ => rfl, tyX1_ok, nmX1, fun _ => rfl, fun h => absurd h (by decide), fun h => absurd h (by decide)⟩
theorem kw_173 : Cond.fieldLink RX5 343 (TX1 5).1 (TX1 5).2.1 (TX1 5).2.2.1 ∈ jj_W := jj_Wof 173 (by decide +kernel) rfl
theorem kF_X5_343 : jj_F RX5 343 1 5 0 := ⟨RX1, TX1, 7, tyX1, rfl, rfl, by decide, by decide, ku_1, kw_173, fun _ => rfl, tyX1_ok, nmX1, fun _ => rfl, fun h => absurd h (by decide), fun h => absurd h (by decide)⟩
theorem kw_462 : Cond.methodLink RX5 355 Lib.Math.max.name ∈ jj_W := jj_Wof 462 (by decide +kernel) rfl
theorem kw_332 : Cond.static Lib.Math.max.name ∈ jj_W := jj_Wof 332 (by decide +kernel) rfl
theorem kw_333 : Cond.code Lib.Math.max.name Lib.Math.max.code 2 (some .int) ∈ jj_W := jj_Wof 333 (by decide +kernel) rfl
theorem kM_X5_355 : jj_MM RX5 355 Lib.Math.max.name Lib.Math.max.code 2 := ⟨kw_462, kw_332, kw_25, kw_333⟩
theorem kw_548 : Cond.methodLink RX5 358 arraycopyName ∈ jj_W := jj_Wof 548 (by decide +kernel) rfl
theorem kw_550 : Cond.native arraycopyName ∈ jj_W := jj_Wof 550 (by decide +kernel) rfl
theorem kw_549 : Cond.static arraycopyName ∈ jj_W := jj_Wof 549 (by decide +kernel) rfl
theorem kw_26 : Cond.initialized "java/lang/System" ∈ jj_W := jj_Wof 26 (by decide +kernel) rfl
theorem kM_X5_358 : jj_CP RX5 358 := ⟨kw_548, kw_550, kw_549, kw_26⟩
theorem kw_108 : Cond.methodLink RX0 3 Lib.objectInit ∈ jj_W := jj_Wof 108 (by decide +kernel) rfl
theorem kM_X0_3 : Cond.methodLink RX0 3 Lib.objectInit ∈ jj_W ∧ Cond.instanceMethod Lib.objectInit ∈ jj_W ∧ Cond.code Lib.objectInit ⟨#[0xb1]⟩ 1 none ∈ jj_W := ⟨kw_108, kw_34, kw_35⟩
theorem kw_130 : Cond.fieldLink RX0 9 (TX0 8).1 (TX0 8).2.1 (TX0 8).2.2.1 ∈ jj_W := jj_Wof 130 (by decide +kernel) rfl
theorem kF_X0_9 : jj_F RX0 9 0 8 1 := ⟨RX0, TX0, 9, tyX0, rfl, rfl, by decide, by decide, ku_0, kw_130, fun h => absurd h (by decide), tyX0_ok, nmX0, fun h => absurd h (by decide), fun _ => Or.inr ⟨_, rfl⟩, fun _ => ⟨rfl, rfl⟩⟩
theorem kw_109 : Cond.fieldLink RX0 15 (TX0 0).1 (TX0 0).2.1 (TX0 0).2.2.1 ∈ jj_W := jj_Wof 109 (by decide +kernel) rfl
theorem kF_X0_15 : jj_F RX0 15 0 0 0 := ⟨RX0, TX0, 9, tyX0, rfl, rfl, by decide, by decide, ku_0, kw_109, fun _ => rfl, tyX0_ok, nmX0, fun _ => rfl, fun h => absurd h (by decide), fun h => absurd h (by decide)⟩
theorem kw_112 : Cond.fieldLink RX0 19 (TX0 1).1 (TX0 1).2.1 (TX0 1).2.2.1 ∈ jj_W := jj_Wof 112 (by decide +kernel) rfl
theorem kF_X0_19 : jj_F RX0 19 0 1 0 := ⟨RX0, TX0, 9, tyX0, rfl, rfl, by decide, by decide, ku_0, kw_112, fun _ => rfl, tyX0_ok, nmX0, fun _ => rfl, fun h => absurd h (by decide), fun h => absurd h (by decide)⟩
theorem kw_114 : Cond.fieldLink RX0 22 (TX0 2).1 (TX0 2).2.1 (TX0 2).2.2.1 ∈ jj_W := jj_Wof 114 (by decide +kernel) rfl
theorem kF_X0_22 : jj_F RX0 22 0 2 0 := ⟨RX0, TX0, 9, tyX0, rfl, rfl, by decide, by decide, ku_0, kw_114, fun _ => rfl, tyX0_ok, nmX0, fun _ => rfl, fun h => absurd h (by decide), fun h => absurd h (by decide)⟩
theorem kw_116 : Cond.fieldLink RX0 25 (TX0 3).1 (TX0 3).2.1 (TX0 3).2.2.1 ∈ jj_W := jj_Wof 116 (by decide +kernel) rfl
theorem kF_X0_25 : jj_F RX0 25 0 3 0 := ⟨RX0, TX0, 9, tyX0, rfl, rfl, by decide, by decide, ku_0, kw_116, fun _ => rfl, tyX0_ok, nmX0, fun _ => rfl, fun h => absurd h (by decide), fun h => absurd h (by decide)⟩
theorem kw_119 : Cond.fieldLink RX0 28 (TX0 4).1 (TX0 4).2.1 (TX0 4).2.2.1 ∈ jj_W := jj_Wof 119 (by decide +kernel) rfl
theorem kF_X0_28 : jj_F RX0 28 0 4 0 := ⟨RX0, TX0, 9, tyX0, rfl, rfl, by decide, by decide, ku_0, kw_119, fun _ => rfl, tyX0_ok, nmX0, fun _ => rfl, fun h => absurd h (by decide), fun h => absurd h (by decide)⟩
theorem kw_124 : Cond.fieldLink RX0 31 (TX0 6).1 (TX0 6).2.1 (TX0 6).2.2.1 ∈ jj_W := jj_Wof 124 (by decide +kernel) rfl
theorem kF_X0_31 : jj_F RX0 31 0 6 0 := ⟨RX0, TX0, 9, tyX0, rfl, rfl, by decide, by decide, ku_0, kw_124, fun _ => rfl, tyX0_ok, nmX0, fun _ => rfl, fun h => absurd h (by decide), fun h => absurd h (by decide)⟩
theorem kw_122 : Cond.fieldLink RX0 34 (TX0 5).1 (TX0 5).2.1 (TX0 5).2.2.1 ∈ jj_W := jj_Wof 122 (by decide +kernel) rfl
theorem kF_X0_34 : jj_F RX0 34 0 5 0 := ⟨RX0, TX0, 9, tyX0, rfl, rfl, by decide, by decide, ku_0, kw_122, fun _ => rfl, tyX0_ok, nmX0, fun _ => rfl, fun h => absurd h (by decide), fun h => absurd h (by decide)⟩
theorem kw_127 : Cond.fieldLink RX0 37 (TX0 7).1 (TX0 7).2.1 (TX0 7).2.2.1 ∈ jj_W := jj_Wof 127 (by decide +kernel) rfl
theorem kF_X0_37 : jj_F RX0 37 0 7 0 := ⟨RX0, TX0, 9, tyX0, rfl, rfl, by decide, by decide, ku_0, kw_127, fun _ => rfl, tyX0_ok, nmX0, fun _ => rfl, fun h => absurd h (by decide), fun h => absurd h (by decide)⟩
theorem kw_547 : Cond.code yX5_copyRow cX5_copyRow 2 none ∈ jj_W := jj_Wof 547 (by decide +kernel) rfl
theorem kw_546 : Cond.static yX5_copyRow ∈ jj_W := jj_Wof 546 (by decide +kernel) rfl
theorem kM_X0_40 : jj_MSN RX0 40 yX5_copyRow cX5_copyRow 2 none 2 := ⟨(by simp [jj_trav]), kw_546, kw_11, kw_547, by decide +kernel, by decide +kernel, by decide +kernel⟩
theorem kw_573 : Cond.methodLink RX0 44 yX0_isInHarbour ∈ jj_W := jj_Wof 573 (by decide +kernel) rfl
theorem kM_X0_44 : jj_MV RX0 44 yX0_isInHarbour cX0_isInHarbour 1 (some .boolean) 0 := ⟨kw_573, kw_472, kw_473, kw_15, kw_474, by decide +kernel, by decide +kernel, by decide +kernel⟩
theorem kM_X0_48 : jj_MSN RX0 48 yX5_sum cX5_sum 3 (some .int) 1 := ⟨(by simp [jj_trav]), kw_386, kw_11, kw_387, by decide +kernel, by decide +kernel, by decide +kernel⟩
theorem kw_492 : Cond.methodLink RX0 52 yJ7_fill_53178 ∈ jj_W := jj_Wof 492 (by decide +kernel) rfl
theorem kw_27 : Cond.initialized RJ7 ∈ jj_W := jj_Wof 27 (by decide +kernel) rfl
theorem kw_494 : Cond.code yJ7_fill_53178 cJ7_fill_53178 4 none ∈ jj_W := jj_Wof 494 (by decide +kernel) rfl
theorem kw_493 : Cond.static yJ7_fill_53178 ∈ jj_W := jj_Wof 493 (by decide +kernel) rfl
theorem kM_X0_52 : jj_MS RX0 52 yJ7_fill_53178 cJ7_fill_53178 4 none 2 := ⟨kw_492, kw_493, kw_27, kw_494, by decide +kernel, by decide +kernel, by decide +kernel⟩
theorem kw_155 : Cond.methodLink RX1 3 Lib.objectInit ∈ jj_W := jj_Wof 155 (by decide +kernel) rfl
theorem kM_X1_3 : Cond.methodLink RX1 3 Lib.objectInit ∈ jj_W ∧ Cond.instanceMethod Lib.objectInit ∈ jj_W ∧ Cond.code Lib.objectInit ⟨#[0xb1]⟩ 1 none ∈ jj_W := ⟨kw_155, kw_34, kw_35⟩
theorem kw_156 : Cond.fieldLink RX1 9 (TX1 0).1 (TX1 0).2.1 (TX1 0).2.2.1 ∈ jj_W := jj_Wof 156 (by decide +kernel) rfl
theorem kF_X1_9 : jj_F RX1 9 1 0 0 := ⟨RX1, TX1, 7, tyX1, rfl, rfl, by decide, by decide, ku_1, kw_156, fun _ => rfl, tyX1_ok, nmX1, fun _ => rfl, fun h => absurd h (by decide), fun h => absurd h (by decide)⟩
theorem kw_159 : Cond.fieldLink RX1 15 (TX1 1).1 (TX1 1).2.1 (TX1 1).2.2.1 ∈ jj_W := jj_Wof 159 (by decide +kernel) rfl
theorem kF_X1_15 : jj_F RX1 15 1 1 0 := ⟨RX1, TX1, 7, tyX1, rfl, rfl, by decide, by decide, ku_1, kw_159, fun _ => rfl, tyX1_ok, nmX1, fun _ => rfl, fun h => absurd h (by decide), fun h => absurd h (by decide)⟩
theorem kw_162 : Cond.fieldLink RX1 18 (TX1 2).1 (TX1 2).2.1 (TX1 2).2.2.1 ∈ jj_W := jj_Wof 162 (by decide +kernel) rfl
theorem kF_X1_18 : jj_F RX1 18 1 2 0 := ⟨RX1, TX1, 7, tyX1, rfl, rfl, by decide, by decide, ku_1, kw_162, fun _ => rfl, tyX1_ok, nmX1, fun _ => rfl, fun h => absurd h (by decide), fun h => absurd h (by decide)⟩
theorem kw_165 : Cond.fieldLink RX1 21 (TX1 3).1 (TX1 3).2.1 (TX1 3).2.2.1 ∈ jj_W := jj_Wof 165 (by decide +kernel) rfl
theorem kF_X1_21 : jj_F RX1 21 1 3 0 := ⟨RX1, TX1, 7, tyX1, rfl, rfl, by decide, by decide, ku_1, kw_165, fun _ => rfl, tyX1_ok, nmX1, fun _ => rfl, fun h => absurd h (by decide), fun h => absurd h (by decide)⟩
theorem kw_168 : Cond.fieldLink RX1 24 (TX1 4).1 (TX1 4).2.1 (TX1 4).2.2.1 ∈ jj_W := jj_Wof 168 (by decide +kernel) rfl
theorem kF_X1_24 : jj_F RX1 24 1 4 0 := ⟨RX1, TX1, 7, tyX1, rfl, rfl, by decide, by decide, ku_1, kw_168, fun _ => rfl, tyX1_ok, nmX1, fun _ => rfl, fun h => absurd h (by decide), fun h => absurd h (by decide)⟩
theorem kw_171 : Cond.fieldLink RX1 27 (TX1 5).1 (TX1 5).2.1 (TX1 5).2.2.1 ∈ jj_W := jj_Wof 171 (by decide +kernel) rfl
theorem kF_X1_27 : jj_F RX1 27 1 5 0 := ⟨RX1, TX1, 7, tyX1, rfl, rfl, by decide, by decide, ku_1, kw_171, fun _ => rfl, tyX1_ok, nmX1, fun _ => rfl, fun h => absurd h (by decide), fun h => absurd h (by decide)⟩
theorem kw_174 : Cond.fieldLink RX1 30 (TX1 6).1 (TX1 6).2.1 (TX1 6).2.2.1 ∈ jj_W := jj_Wof 174 (by decide +kernel) rfl
theorem kF_X1_30 : jj_F RX1 30 1 6 0 := ⟨RX1, TX1, 7, tyX1, rfl, rfl, by decide, by decide, ku_1, kw_174, fun _ => rfl, tyX1_ok, nmX1, fun _ => rfl, fun h => absurd h (by decide), fun h => absurd h (by decide)⟩
theorem kw_565 : Cond.methodLink RX1 33 yX1_open ∈ jj_W := jj_Wof 565 (by decide +kernel) rfl
theorem kM_X1_33 : jj_MV RX1 33 yX1_open cX1_open 7 none 6 := ⟨kw_565, kw_566, kw_567, kw_16, kw_568, by decide +kernel, by decide +kernel, by decide +kernel⟩
theorem kw_92 : Cond.methodLink RX2 3 Lib.objectInit ∈ jj_W := jj_Wof 92 (by decide +kernel) rfl
theorem kM_X2_3 : Cond.methodLink RX2 3 Lib.objectInit ∈ jj_W ∧ Cond.instanceMethod Lib.objectInit ∈ jj_W ∧ Cond.code Lib.objectInit ⟨#[0xb1]⟩ 1 none ∈ jj_W := ⟨kw_92, kw_34, kw_35⟩
theorem kw_96 : Cond.fieldLink RX2 9 (TX2 1).1 (TX2 1).2.1 (TX2 1).2.2.1 ∈ jj_W := jj_Wof 96 (by decide +kernel) rfl
theorem kF_X2_9 : jj_F RX2 9 2 1 1 := ⟨RX2, TX2, 2, tyX2, rfl, rfl, by decide, by decide, ku_2, kw_96, fun h => absurd h (by decide), tyX2_ok, nmX2, fun h => absurd h (by decide), fun _ => Or.inr ⟨_, rfl⟩, fun _ => ⟨rfl, rfl⟩⟩
theorem kw_93 : Cond.fieldLink RX2 15 (TX2 0).1 (TX2 0).2.1 (TX2 0).2.2.1 ∈ jj_W := jj_Wof 93 (by decide +kernel) rfl
theorem kF_X2_15 : jj_F RX2 15 2 0 0 := ⟨RX2, TX2, 2, tyX2, rfl, rfl, by decide, by decide, ku_2, kw_93, fun _ => rfl, tyX2_ok, nmX2, fun _ => rfl, fun h => absurd h (by decide), fun h => absurd h (by decide)⟩
theorem kM_X2_19 : jj_MSN RX2 19 yX5_copyRow cX5_copyRow 2 none 2 := ⟨(by simp [jj_trav]), kw_546, kw_11, kw_547, by decide +kernel, by decide +kernel, by decide +kernel⟩
theorem kw_47 : Cond.methodLink RX3 3 Lib.objectInit ∈ jj_W := jj_Wof 47 (by decide +kernel) rfl
theorem kM_X3_3 : Cond.methodLink RX3 3 Lib.objectInit ∈ jj_W ∧ Cond.instanceMethod Lib.objectInit ∈ jj_W ∧ Cond.code Lib.objectInit ⟨#[0xb1]⟩ 1 none ∈ jj_W := ⟨kw_47, kw_34, kw_35⟩
theorem kw_53 : Cond.fieldLink RX3 9 (TX3 2).1 (TX3 2).2.1 (TX3 2).2.2.1 ∈ jj_W := jj_Wof 53 (by decide +kernel) rfl
theorem kF_X3_9 : jj_F RX3 9 3 2 1 := ⟨RX3, TX3, 7, tyX3, rfl, rfl, by decide, by decide, ku_3, kw_53, fun h => absurd h (by decide), tyX3_ok, nmX3, fun h => absurd h (by decide), fun _ => Or.inr ⟨_, rfl⟩, fun _ => ⟨rfl, rfl⟩⟩
theorem kw_55 : Cond.fieldLink RX3 15 (TX3 3).1 (TX3 3).2.1 (TX3 3).2.2.1 ∈ jj_W := jj_Wof 55 (by decide +kernel) rfl
theorem kF_X3_15 : jj_F RX3 15 3 3 1 := ⟨RX3, TX3, 7, tyX3, rfl, rfl, by decide, by decide, ku_3, kw_55, fun h => absurd h (by decide), tyX3_ok, nmX3, fun h => absurd h (by decide), fun _ => Or.inr ⟨_, rfl⟩, fun _ => ⟨rfl, rfl⟩⟩
theorem kw_57 : Cond.fieldLink RX3 18 (TX3 4).1 (TX3 4).2.1 (TX3 4).2.2.1 ∈ jj_W := jj_Wof 57 (by decide +kernel) rfl
theorem kF_X3_18 : jj_F RX3 18 3 4 1 := ⟨RX3, TX3, 7, tyX3, rfl, rfl, by decide, by decide, ku_3, kw_57, fun h => absurd h (by decide), tyX3_ok, nmX3, fun h => absurd h (by decide), fun _ => Or.inr ⟨_, rfl⟩, fun _ => ⟨rfl, rfl⟩⟩
theorem kw_60 : Cond.fieldLink RX3 21 (TX3 5).1 (TX3 5).2.1 (TX3 5).2.2.1 ∈ jj_W := jj_Wof 60 (by decide +kernel) rfl
theorem kF_X3_21 : jj_F RX3 21 3 5 1 := ⟨RX3, TX3, 7, tyX3, rfl, rfl, by decide, by decide, ku_3, kw_60, fun h => absurd h (by decide), tyX3_ok, nmX3, fun h => absurd h (by decide), fun _ => Or.inr ⟨_, rfl⟩, fun _ => ⟨rfl, rfl⟩⟩
theorem kw_63 : Cond.fieldLink RX3 24 (TX3 6).1 (TX3 6).2.1 (TX3 6).2.2.1 ∈ jj_W := jj_Wof 63 (by decide +kernel) rfl
theorem kF_X3_24 : jj_F RX3 24 3 6 1 := ⟨RX3, TX3, 7, tyX3, rfl, rfl, by decide, by decide, ku_3, kw_63, fun h => absurd h (by decide), tyX3_ok, nmX3, fun h => absurd h (by decide), fun _ => Or.inr ⟨_, rfl⟩, fun _ => ⟨rfl, rfl⟩⟩
theorem kw_48 : Cond.fieldLink RX3 27 (TX3 0).1 (TX3 0).2.1 (TX3 0).2.2.1 ∈ jj_W := jj_Wof 48 (by decide +kernel) rfl
theorem kF_X3_27 : jj_F RX3 27 3 0 0 := ⟨RX3, TX3, 7, tyX3, rfl, rfl, by decide, by decide, ku_3, kw_48, fun _ => rfl, tyX3_ok, nmX3, fun _ => rfl, fun h => absurd h (by decide), fun h => absurd h (by decide)⟩
theorem kw_51 : Cond.fieldLink RX3 31 (TX3 1).1 (TX3 1).2.1 (TX3 1).2.2.1 ∈ jj_W := jj_Wof 51 (by decide +kernel) rfl
theorem kF_X3_31 : jj_F RX3 31 3 1 0 := ⟨RX3, TX3, 7, tyX3, rfl, rfl, by decide, by decide, ku_3, kw_51, fun _ => rfl, tyX3_ok, nmX3, fun _ => rfl, fun h => absurd h (by decide), fun h => absurd h (by decide)⟩
theorem kM_X3_34 : jj_MSN RX3 34 yX5_copyRow cX5_copyRow 2 none 2 := ⟨(by simp [jj_trav]), kw_546, kw_11, kw_547, by decide +kernel, by decide +kernel, by decide +kernel⟩
theorem kw_331 : Cond.methodLink RX3 38 Lib.Math.max.name ∈ jj_W := jj_Wof 331 (by decide +kernel) rfl
theorem kM_X3_38 : jj_MM RX3 38 Lib.Math.max.name Lib.Math.max.code 2 := ⟨kw_331, kw_332, kw_25, kw_333⟩
theorem kw_327 : Cond.methodLink RX3 44 yX3_legs ∈ jj_W := jj_Wof 327 (by decide +kernel) rfl
theorem kM_X3_44 : jj_MV RX3 44 yX3_legs cX3_legs 1 (some .int) 0 := ⟨kw_327, kw_328, kw_329, kw_13, kw_330, by decide +kernel, by decide +kernel, by decide +kernel⟩
theorem kw_526 : Cond.methodLink RX3 48 yX3_isOpen ∈ jj_W := jj_Wof 526 (by decide +kernel) rfl
theorem kM_X3_48 : jj_MV RX3 48 yX3_isOpen cX3_isOpen 2 (some .boolean) 1 := ⟨kw_526, kw_354, kw_355, kw_13, kw_356, by decide +kernel, by decide +kernel, by decide +kernel⟩
theorem kw_334 : Cond.methodLink RX3 52 Lib.Math.min.name ∈ jj_W := jj_Wof 334 (by decide +kernel) rfl
theorem kM_X3_52 : jj_MM RX3 52 Lib.Math.min.name Lib.Math.min.code 2 := ⟨kw_334, kw_335, kw_25, kw_336⟩
theorem kw_455 : Cond.methodLink RX3 55 yJ9_floorMod_7cf53 ∈ jj_W := jj_Wof 455 (by decide +kernel) rfl
theorem kw_457 : Cond.code yJ9_floorMod_7cf53 cJ9_floorMod_7cf53 3 (some .int) ∈ jj_W := jj_Wof 457 (by decide +kernel) rfl
theorem kw_456 : Cond.static yJ9_floorMod_7cf53 ∈ jj_W := jj_Wof 456 (by decide +kernel) rfl
theorem kM_X3_55 : jj_MS RX3 55 yJ9_floorMod_7cf53 cJ9_floorMod_7cf53 3 (some .int) 2 := ⟨kw_455, kw_456, kw_25, kw_457, by decide +kernel, by decide +kernel, by decide +kernel⟩
theorem kw_451 : Cond.methodLink RX3 58 yX3_warmOn ∈ jj_W := jj_Wof 451 (by decide +kernel) rfl
theorem kM_X3_58 : jj_MV RX3 58 yX3_warmOn cX3_warmOn 2 (some .int) 1 := ⟨kw_451, kw_452, kw_453, kw_13, kw_454, by decide +kernel, by decide +kernel, by decide +kernel⟩
theorem kM_X3_62 : jj_MSN RX3 62 yX5_iceBehind cX5_iceBehind 3 (some .int) 2 := ⟨(by simp [jj_trav]), kw_459, kw_11, kw_460, by decide +kernel, by decide +kernel, by decide +kernel⟩
theorem kw_819 : Cond.methodLink RX3 65 yX3_daysOver ∈ jj_W := jj_Wof 819 (by decide +kernel) rfl
theorem kw_483 : Cond.code yX3_daysOver cX3_daysOver 3 (some .int) ∈ jj_W := jj_Wof 483 (by decide +kernel) rfl
theorem kw_481 : Cond.instanceMethod yX3_daysOver ∈ jj_W := jj_Wof 481 (by decide +kernel) rfl
theorem kw_482 : Cond.selects RX3 yX3_daysOver yX3_daysOver ∈ jj_W := jj_Wof 482 (by decide +kernel) rfl
theorem kM_X3_65 : jj_MV RX3 65 yX3_daysOver cX3_daysOver 3 (some .int) 2 := ⟨kw_819, kw_481, kw_482, kw_13, kw_483, by decide +kernel, by decide +kernel, by decide +kernel⟩
theorem kw_41 : Cond.methodLink RX4 3 Lib.objectInit ∈ jj_W := jj_Wof 41 (by decide +kernel) rfl
theorem kM_X4_3 : Cond.methodLink RX4 3 Lib.objectInit ∈ jj_W ∧ Cond.instanceMethod Lib.objectInit ∈ jj_W ∧ Cond.code Lib.objectInit ⟨#[0xb1]⟩ 1 none ∈ jj_W := ⟨kw_41, kw_34, kw_35⟩
theorem kw_42 : Cond.classLink RX4 9 RX3 ∈ jj_W := jj_Wof 42 (by decide +kernel) rfl
theorem kw_43 : Cond.instantiable RX3 7 ∈ jj_W := jj_Wof 43 (by decide +kernel) rfl
theorem kN_X4_9 : jj_NW RX4 9 3 := ⟨RX3, TX3, 7, tyX3, rfl, rfl, by decide, ku_3, tyX3_ok, kw_42, kw_43, kw_13, by decide +kernel⟩
theorem kw_44 : Cond.methodLink RX4 11 yX3_init ∈ jj_W := jj_Wof 44 (by decide +kernel) rfl
theorem kw_46 : Cond.code yX3_init cX3_init 2 none ∈ jj_W := jj_Wof 46 (by decide +kernel) rfl
theorem kw_45 : Cond.instanceMethod yX3_init ∈ jj_W := jj_Wof 45 (by decide +kernel) rfl
theorem kM_X4_11 : jj_MI RX4 11 yX3_init cX3_init 2 0 := ⟨kw_44, kw_45, rfl, kw_13, kw_46, by decide +kernel, by decide +kernel, by decide +kernel⟩
theorem kw_192 : Cond.fieldLink RX4 12 (TX4 0).1 (TX4 0).2.1 (TX4 0).2.2.1 ∈ jj_W := jj_Wof 192 (by decide +kernel) rfl
theorem kF_X4_12 : jj_F RX4 12 4 0 1 := ⟨RX4, TX4, 7, tyX4, rfl, rfl, by decide, by decide, ku_4, kw_192, fun h => absurd h (by decide), tyX4_ok, nmX4, fun h => absurd h (by decide), fun _ => Or.inl ⟨_, rfl⟩, fun _ => ⟨rfl, rfl⟩⟩
theorem kw_82 : Cond.classLink RX4 18 "IceHarbour$Merchant" ∈ jj_W := jj_Wof 82 (by decide +kernel) rfl
theorem kC_X4_18 : Cond.classLink RX4 18 "IceHarbour$Merchant" ∈ jj_W := kw_82
theorem kw_200 : Cond.fieldLink RX4 20 (TX4 4).1 (TX4 4).2.1 (TX4 4).2.2.1 ∈ jj_W := jj_Wof 200 (by decide +kernel) rfl
theorem kF_X4_20 : jj_F RX4 20 4 4 1 := ⟨RX4, TX4, 7, tyX4, rfl, rfl, by decide, by decide, ku_4, kw_200, fun h => absurd h (by decide), tyX4_ok, nmX4, fun h => absurd h (by decide), fun _ => Or.inr ⟨_, rfl⟩, fun _ => ⟨rfl, rfl⟩⟩
theorem kw_84 : Cond.classLink RX4 24 "IceHarbour$Boat" ∈ jj_W := jj_Wof 84 (by decide +kernel) rfl
theorem kC_X4_24 : Cond.classLink RX4 24 "IceHarbour$Boat" ∈ jj_W := kw_84
theorem kw_202 : Cond.fieldLink RX4 26 (TX4 5).1 (TX4 5).2.1 (TX4 5).2.2.1 ∈ jj_W := jj_Wof 202 (by decide +kernel) rfl
theorem kF_X4_26 : jj_F RX4 26 4 5 1 := ⟨RX4, TX4, 7, tyX4, rfl, rfl, by decide, by decide, ku_4, kw_202, fun h => absurd h (by decide), tyX4_ok, nmX4, fun h => absurd h (by decide), fun _ => Or.inr ⟨_, rfl⟩, fun _ => ⟨rfl, rfl⟩⟩
theorem kw_86 : Cond.classLink RX4 30 "IceHarbour$Debt" ∈ jj_W := jj_Wof 86 (by decide +kernel) rfl
theorem kC_X4_30 : Cond.classLink RX4 30 "IceHarbour$Debt" ∈ jj_W := kw_86
theorem kw_204 : Cond.fieldLink RX4 32 (TX4 6).1 (TX4 6).2.1 (TX4 6).2.2.1 ∈ jj_W := jj_Wof 204 (by decide +kernel) rfl
theorem kF_X4_32 : jj_F RX4 32 4 6 1 := ⟨RX4, TX4, 7, tyX4, rfl, rfl, by decide, by decide, ku_4, kw_204, fun h => absurd h (by decide), tyX4_ok, nmX4, fun h => absurd h (by decide), fun _ => Or.inr ⟨_, rfl⟩, fun _ => ⟨rfl, rfl⟩⟩
theorem kw_88 : Cond.instantiable RX2 2 ∈ jj_W := jj_Wof 88 (by decide +kernel) rfl
theorem kw_14 : Cond.initialized RX2 ∈ jj_W := jj_Wof 14 (by decide +kernel) rfl
theorem kN_X4_18 : jj_NW RX4 18 2 := ⟨RX2, TX2, 2, tyX2, rfl, rfl, by decide, ku_2, tyX2_ok, kw_82, kw_88, kw_14, by decide +kernel⟩
theorem kw_91 : Cond.code yX2_init cX2_init 1 none ∈ jj_W := jj_Wof 91 (by decide +kernel) rfl
theorem kw_90 : Cond.instanceMethod yX2_init ∈ jj_W := jj_Wof 90 (by decide +kernel) rfl
theorem kM_X4_36 : jj_MIN RX4 36 yX2_init cX2_init 1 0 := ⟨(by simp [jj_trav]), kw_90, rfl, kw_14, kw_91, by decide +kernel, by decide +kernel, by decide +kernel⟩
theorem kw_104 : Cond.instantiable RX0 9 ∈ jj_W := jj_Wof 104 (by decide +kernel) rfl
theorem kN_X4_24 : jj_NW RX4 24 0 := ⟨RX0, TX0, 9, tyX0, rfl, rfl, by decide, ku_0, tyX0_ok, kw_84, kw_104, kw_15, by decide +kernel⟩
theorem kw_107 : Cond.code yX0_init cX0_init 1 none ∈ jj_W := jj_Wof 107 (by decide +kernel) rfl
theorem kw_106 : Cond.instanceMethod yX0_init ∈ jj_W := jj_Wof 106 (by decide +kernel) rfl
theorem kM_X4_37 : jj_MIN RX4 37 yX0_init cX0_init 1 0 := ⟨(by simp [jj_trav]), kw_106, rfl, kw_15, kw_107, by decide +kernel, by decide +kernel, by decide +kernel⟩
theorem kw_151 : Cond.instantiable RX1 7 ∈ jj_W := jj_Wof 151 (by decide +kernel) rfl
theorem kN_X4_30 : jj_NW RX4 30 1 := ⟨RX1, TX1, 7, tyX1, rfl, rfl, by decide, ku_1, tyX1_ok, kw_86, kw_151, kw_16, by decide +kernel⟩
theorem kw_154 : Cond.code yX1_init cX1_init 1 none ∈ jj_W := jj_Wof 154 (by decide +kernel) rfl
theorem kw_153 : Cond.instanceMethod yX1_init ∈ jj_W := jj_Wof 153 (by decide +kernel) rfl
theorem kM_X4_38 : jj_MIN RX4 38 yX1_init cX1_init 1 0 := ⟨(by simp [jj_trav]), kw_153, rfl, kw_16, kw_154, by decide +kernel, by decide +kernel, by decide +kernel⟩
theorem kw_541 : Cond.methodLink RX4 39 yX3_copyFrom ∈ jj_W := jj_Wof 541 (by decide +kernel) rfl
theorem kw_544 : Cond.code yX3_copyFrom cX3_copyFrom 2 none ∈ jj_W := jj_Wof 544 (by decide +kernel) rfl
theorem kw_542 : Cond.instanceMethod yX3_copyFrom ∈ jj_W := jj_Wof 542 (by decide +kernel) rfl
theorem kw_543 : Cond.selects RX3 yX3_copyFrom yX3_copyFrom ∈ jj_W := jj_Wof 543 (by decide +kernel) rfl
theorem kM_X4_39 : jj_MV RX4 39 yX3_copyFrom cX3_copyFrom 2 none 1 := ⟨kw_541, kw_542, kw_543, kw_13, kw_544, by decide +kernel, by decide +kernel, by decide +kernel⟩
theorem kw_194 : Cond.fieldLink RX4 43 (TX4 1).1 (TX4 1).2.1 (TX4 1).2.2.1 ∈ jj_W := jj_Wof 194 (by decide +kernel) rfl
theorem kF_X4_43 : jj_F RX4 43 4 1 0 := ⟨RX4, TX4, 7, tyX4, rfl, rfl, by decide, by decide, ku_4, kw_194, fun _ => rfl, tyX4_ok, nmX4, fun _ => rfl, fun h => absurd h (by decide), fun h => absurd h (by decide)⟩
theorem kw_196 : Cond.fieldLink RX4 47 (TX4 2).1 (TX4 2).2.1 (TX4 2).2.2.1 ∈ jj_W := jj_Wof 196 (by decide +kernel) rfl
theorem kF_X4_47 : jj_F RX4 47 4 2 0 := ⟨RX4, TX4, 7, tyX4, rfl, rfl, by decide, by decide, ku_4, kw_196, fun _ => rfl, tyX4_ok, nmX4, fun _ => rfl, fun h => absurd h (by decide), fun h => absurd h (by decide)⟩
theorem kw_198 : Cond.fieldLink RX4 50 (TX4 3).1 (TX4 3).2.1 (TX4 3).2.2.1 ∈ jj_W := jj_Wof 198 (by decide +kernel) rfl
theorem kF_X4_50 : jj_F RX4 50 4 3 0 := ⟨RX4, TX4, 7, tyX4, rfl, rfl, by decide, by decide, ku_4, kw_198, fun _ => rfl, tyX4_ok, nmX4, fun _ => rfl, fun h => absurd h (by decide), fun h => absurd h (by decide)⟩
theorem kw_551 : Cond.methodLink RX4 53 yX2_copyFrom ∈ jj_W := jj_Wof 551 (by decide +kernel) rfl
theorem kw_554 : Cond.code yX2_copyFrom cX2_copyFrom 2 none ∈ jj_W := jj_Wof 554 (by decide +kernel) rfl
theorem kw_552 : Cond.instanceMethod yX2_copyFrom ∈ jj_W := jj_Wof 552 (by decide +kernel) rfl
theorem kw_553 : Cond.selects RX2 yX2_copyFrom yX2_copyFrom ∈ jj_W := jj_Wof 553 (by decide +kernel) rfl
theorem kM_X4_53 : jj_MV RX4 53 yX2_copyFrom cX2_copyFrom 2 none 1 := ⟨kw_551, kw_552, kw_553, kw_14, kw_554, by decide +kernel, by decide +kernel, by decide +kernel⟩
theorem kw_556 : Cond.methodLink RX4 56 yX0_copyFrom ∈ jj_W := jj_Wof 556 (by decide +kernel) rfl
theorem kw_559 : Cond.code yX0_copyFrom cX0_copyFrom 2 none ∈ jj_W := jj_Wof 559 (by decide +kernel) rfl
theorem kw_557 : Cond.instanceMethod yX0_copyFrom ∈ jj_W := jj_Wof 557 (by decide +kernel) rfl
theorem kw_558 : Cond.selects RX0 yX0_copyFrom yX0_copyFrom ∈ jj_W := jj_Wof 558 (by decide +kernel) rfl
theorem kM_X4_56 : jj_MV RX4 56 yX0_copyFrom cX0_copyFrom 2 none 1 := ⟨kw_556, kw_557, kw_558, kw_15, kw_559, by decide +kernel, by decide +kernel, by decide +kernel⟩
theorem kw_561 : Cond.methodLink RX4 59 yX1_copyFrom ∈ jj_W := jj_Wof 561 (by decide +kernel) rfl
theorem kw_564 : Cond.code yX1_copyFrom cX1_copyFrom 2 none ∈ jj_W := jj_Wof 564 (by decide +kernel) rfl
theorem kw_562 : Cond.instanceMethod yX1_copyFrom ∈ jj_W := jj_Wof 562 (by decide +kernel) rfl
theorem kw_563 : Cond.selects RX1 yX1_copyFrom yX1_copyFrom ∈ jj_W := jj_Wof 563 (by decide +kernel) rfl
theorem kM_X4_59 : jj_MV RX4 59 yX1_copyFrom cX1_copyFrom 2 none 1 := ⟨kw_561, kw_562, kw_563, kw_16, kw_564, by decide +kernel, by decide +kernel, by decide +kernel⟩
theorem kw_117 : Cond.fieldLink RX4 62 (TX0 3).1 (TX0 3).2.1 (TX0 3).2.2.1 ∈ jj_W := jj_Wof 117 (by decide +kernel) rfl
theorem kF_X4_62 : jj_F RX4 62 0 3 0 := ⟨RX0, TX0, 9, tyX0, rfl, rfl, by decide, by decide, ku_0, kw_117, fun _ => rfl, tyX0_ok, nmX0, fun _ => rfl, fun h => absurd h (by decide), fun h => absurd h (by decide)⟩
theorem kw_120 : Cond.fieldLink RX4 65 (TX0 4).1 (TX0 4).2.1 (TX0 4).2.2.1 ∈ jj_W := jj_Wof 120 (by decide +kernel) rfl
theorem kF_X4_65 : jj_F RX4 65 0 4 0 := ⟨RX0, TX0, 9, tyX0, rfl, rfl, by decide, by decide, ku_0, kw_120, fun _ => rfl, tyX0_ok, nmX0, fun _ => rfl, fun h => absurd h (by decide), fun h => absurd h (by decide)⟩
theorem kw_123 : Cond.fieldLink RX4 68 (TX0 5).1 (TX0 5).2.1 (TX0 5).2.2.1 ∈ jj_W := jj_Wof 123 (by decide +kernel) rfl
theorem kF_X4_68 : jj_F RX4 68 0 5 0 := ⟨RX0, TX0, 9, tyX0, rfl, rfl, by decide, by decide, ku_0, kw_123, fun _ => rfl, tyX0_ok, nmX0, fun _ => rfl, fun h => absurd h (by decide), fun h => absurd h (by decide)⟩
theorem kw_110 : Cond.fieldLink RX4 71 (TX0 0).1 (TX0 0).2.1 (TX0 0).2.2.1 ∈ jj_W := jj_Wof 110 (by decide +kernel) rfl
theorem kF_X4_71 : jj_F RX4 71 0 0 0 := ⟨RX0, TX0, 9, tyX0, rfl, rfl, by decide, by decide, ku_0, kw_110, fun _ => rfl, tyX0_ok, nmX0, fun _ => rfl, fun h => absurd h (by decide), fun h => absurd h (by decide)⟩
theorem kw_392 : Cond.methodLink RX4 74 yX0_allCargo ∈ jj_W := jj_Wof 392 (by decide +kernel) rfl
theorem kM_X4_74 : jj_MV RX4 74 yX0_allCargo cX0_allCargo 1 (some .int) 0 := ⟨kw_392, kw_393, kw_394, kw_15, kw_395, by decide +kernel, by decide +kernel, by decide +kernel⟩
theorem kw_517 : Cond.methodLink RX4 78 yX4_debtsOf ∈ jj_W := jj_Wof 517 (by decide +kernel) rfl
theorem kM_X4_78 : jj_MV RX4 78 yX4_debtsOf cX4_debtsOf 5 (some .int) 2 := ⟨kw_517, kw_382, kw_383, kw_12, kw_384, by decide +kernel, by decide +kernel, by decide +kernel⟩
theorem kw_160 : Cond.fieldLink RX4 82 (TX1 1).1 (TX1 1).2.1 (TX1 1).2.2.1 ∈ jj_W := jj_Wof 160 (by decide +kernel) rfl
theorem kF_X4_82 : jj_F RX4 82 1 1 0 := ⟨RX1, TX1, 7, tyX1, rfl, rfl, by decide, by decide, ku_1, kw_160, fun _ => rfl, tyX1_ok, nmX1, fun _ => rfl, fun h => absurd h (by decide), fun h => absurd h (by decide)⟩
theorem kw_175 : Cond.fieldLink RX4 85 (TX1 6).1 (TX1 6).2.1 (TX1 6).2.2.1 ∈ jj_W := jj_Wof 175 (by decide +kernel) rfl
theorem kF_X4_85 : jj_F RX4 85 1 6 0 := ⟨RX1, TX1, 7, tyX1, rfl, rfl, by decide, by decide, ku_1, kw_175, fun _ => rfl, tyX1_ok, nmX1, fun _ => rfl, fun h => absurd h (by decide), fun h => absurd h (by decide)⟩
theorem kw_95 : Cond.fieldLink RX4 88 (TX2 0).1 (TX2 0).2.1 (TX2 0).2.2.1 ∈ jj_W := jj_Wof 95 (by decide +kernel) rfl
theorem kF_X4_88 : jj_F RX4 88 2 0 0 := ⟨RX2, TX2, 2, tyX2, rfl, rfl, by decide, by decide, ku_2, kw_95, fun _ => rfl, tyX2_ok, nmX2, fun _ => rfl, fun h => absurd h (by decide), fun h => absurd h (by decide)⟩
theorem kw_61 : Cond.fieldLink RX4 91 (TX3 5).1 (TX3 5).2.1 (TX3 5).2.2.1 ∈ jj_W := jj_Wof 61 (by decide +kernel) rfl
theorem kF_X4_91 : jj_F RX4 91 3 5 2 := ⟨RX3, TX3, 7, tyX3, rfl, rfl, by decide, by decide, ku_3, kw_61, fun h => absurd h (by decide), tyX3_ok, nmX3, fun h => absurd h (by decide), fun _ => Or.inr ⟨_, rfl⟩, fun h => absurd h (by decide)⟩
theorem kw_833 : Cond.methodLink RX4 95 yX4_boatsLying ∈ jj_W := jj_Wof 833 (by decide +kernel) rfl
theorem kM_X4_95 : jj_MV RX4 95 yX4_boatsLying cX4_boatsLying 5 (some .int) 2 := ⟨kw_833, kw_320, kw_321, kw_12, kw_322, by decide +kernel, by decide +kernel, by decide +kernel⟩
theorem kw_98 : Cond.fieldLink RX4 105 (TX2 1).1 (TX2 1).2.1 (TX2 1).2.2.1 ∈ jj_W := jj_Wof 98 (by decide +kernel) rfl
theorem kF_X4_105 : jj_F RX4 105 2 1 2 := ⟨RX2, TX2, 2, tyX2, rfl, rfl, by decide, by decide, ku_2, kw_98, fun h => absurd h (by decide), tyX2_ok, nmX2, fun h => absurd h (by decide), fun _ => Or.inr ⟨_, rfl⟩, fun h => absurd h (by decide)⟩
theorem kw_447 : Cond.methodLink RX4 108 yX3_freezeOrThaw ∈ jj_W := jj_Wof 447 (by decide +kernel) rfl
theorem kw_450 : Cond.code yX3_freezeOrThaw cX3_freezeOrThaw 3 none ∈ jj_W := jj_Wof 450 (by decide +kernel) rfl
theorem kw_448 : Cond.instanceMethod yX3_freezeOrThaw ∈ jj_W := jj_Wof 448 (by decide +kernel) rfl
theorem kw_449 : Cond.selects RX3 yX3_freezeOrThaw yX3_freezeOrThaw ∈ jj_W := jj_Wof 449 (by decide +kernel) rfl
theorem kM_X4_108 : jj_MV RX4 108 yX3_freezeOrThaw cX3_freezeOrThaw 3 none 0 := ⟨kw_447, kw_448, kw_449, kw_13, kw_450, by decide +kernel, by decide +kernel, by decide +kernel⟩
theorem kw_463 : Cond.methodLink RX4 111 yX4_payForBerth ∈ jj_W := jj_Wof 463 (by decide +kernel) rfl
theorem kw_466 : Cond.code yX4_payForBerth cX4_payForBerth 3 none ∈ jj_W := jj_Wof 466 (by decide +kernel) rfl
theorem kw_464 : Cond.instanceMethod yX4_payForBerth ∈ jj_W := jj_Wof 464 (by decide +kernel) rfl
theorem kw_465 : Cond.selects RX4 yX4_payForBerth yX4_payForBerth ∈ jj_W := jj_Wof 465 (by decide +kernel) rfl
theorem kM_X4_111 : jj_MV RX4 111 yX4_payForBerth cX4_payForBerth 3 none 1 := ⟨kw_463, kw_464, kw_465, kw_12, kw_466, by decide +kernel, by decide +kernel, by decide +kernel⟩
theorem kw_467 : Cond.methodLink RX4 114 yX4_goOn ∈ jj_W := jj_Wof 467 (by decide +kernel) rfl
theorem kw_470 : Cond.code yX4_goOn cX4_goOn 2 none ∈ jj_W := jj_Wof 470 (by decide +kernel) rfl
theorem kw_468 : Cond.instanceMethod yX4_goOn ∈ jj_W := jj_Wof 468 (by decide +kernel) rfl
theorem kw_469 : Cond.selects RX4 yX4_goOn yX4_goOn ∈ jj_W := jj_Wof 469 (by decide +kernel) rfl
theorem kM_X4_114 : jj_MV RX4 114 yX4_goOn cX4_goOn 2 none 1 := ⟨kw_467, kw_468, kw_469, kw_12, kw_470, by decide +kernel, by decide +kernel, by decide +kernel⟩
theorem kw_484 : Cond.methodLink RX4 117 yX4_bearIce ∈ jj_W := jj_Wof 484 (by decide +kernel) rfl
theorem kw_487 : Cond.code yX4_bearIce cX4_bearIce 2 none ∈ jj_W := jj_Wof 487 (by decide +kernel) rfl
theorem kw_485 : Cond.instanceMethod yX4_bearIce ∈ jj_W := jj_Wof 485 (by decide +kernel) rfl
theorem kw_486 : Cond.selects RX4 yX4_bearIce yX4_bearIce ∈ jj_W := jj_Wof 486 (by decide +kernel) rfl
theorem kM_X4_117 : jj_MV RX4 117 yX4_bearIce cX4_bearIce 2 none 1 := ⟨kw_484, kw_485, kw_486, kw_12, kw_487, by decide +kernel, by decide +kernel, by decide +kernel⟩
theorem kw_496 : Cond.methodLink RX4 120 yX4_settle ∈ jj_W := jj_Wof 496 (by decide +kernel) rfl
theorem kw_499 : Cond.code yX4_settle cX4_settle 5 none ∈ jj_W := jj_Wof 499 (by decide +kernel) rfl
theorem kw_497 : Cond.instanceMethod yX4_settle ∈ jj_W := jj_Wof 497 (by decide +kernel) rfl
theorem kw_498 : Cond.selects RX4 yX4_settle yX4_settle ∈ jj_W := jj_Wof 498 (by decide +kernel) rfl
theorem kM_X4_120 : jj_MV RX4 120 yX4_settle cX4_settle 5 none 1 := ⟨kw_496, kw_497, kw_498, kw_12, kw_499, by decide +kernel, by decide +kernel, by decide +kernel⟩
theorem kw_49 : Cond.fieldLink RX4 123 (TX3 0).1 (TX3 0).2.1 (TX3 0).2.2.1 ∈ jj_W := jj_Wof 49 (by decide +kernel) rfl
theorem kF_X4_123 : jj_F RX4 123 3 0 0 := ⟨RX3, TX3, 7, tyX3, rfl, rfl, by decide, by decide, ku_3, kw_49, fun _ => rfl, tyX3_ok, nmX3, fun _ => rfl, fun h => absurd h (by decide), fun h => absurd h (by decide)⟩
theorem kw_471 : Cond.methodLink RX4 126 yX0_isInHarbour ∈ jj_W := jj_Wof 471 (by decide +kernel) rfl
theorem kM_X4_126 : jj_MV RX4 126 yX0_isInHarbour cX0_isInHarbour 1 (some .boolean) 0 := ⟨kw_471, kw_472, kw_473, kw_15, kw_474, by decide +kernel, by decide +kernel, by decide +kernel⟩
theorem kw_126 : Cond.fieldLink RX4 98 (TX0 6).1 (TX0 6).2.1 (TX0 6).2.2.1 ∈ jj_W := jj_Wof 126 (by decide +kernel) rfl
theorem kF_X4_98 : jj_F RX4 98 0 6 0 := ⟨RX0, TX0, 9, tyX0, rfl, rfl, by decide, by decide, ku_0, kw_126, fun _ => rfl, tyX0_ok, nmX0, fun _ => rfl, fun h => absurd h (by decide), fun h => absurd h (by decide)⟩
theorem kw_475 : Cond.methodLink RX4 130 yX4_setOut ∈ jj_W := jj_Wof 475 (by decide +kernel) rfl
theorem kw_478 : Cond.code yX4_setOut cX4_setOut 4 none ∈ jj_W := jj_Wof 478 (by decide +kernel) rfl
theorem kw_476 : Cond.instanceMethod yX4_setOut ∈ jj_W := jj_Wof 476 (by decide +kernel) rfl
theorem kw_477 : Cond.selects RX4 yX4_setOut yX4_setOut ∈ jj_W := jj_Wof 477 (by decide +kernel) rfl
theorem kM_X4_130 : jj_MV RX4 130 yX4_setOut cX4_setOut 4 none 1 := ⟨kw_475, kw_476, kw_477, kw_12, kw_478, by decide +kernel, by decide +kernel, by decide +kernel⟩
theorem kw_479 : Cond.methodLink RX4 133 yX3_isOpen ∈ jj_W := jj_Wof 479 (by decide +kernel) rfl
theorem kM_X4_133 : jj_MV RX4 133 yX3_isOpen cX3_isOpen 2 (some .boolean) 1 := ⟨kw_479, kw_354, kw_355, kw_13, kw_356, by decide +kernel, by decide +kernel, by decide +kernel⟩
theorem kw_129 : Cond.fieldLink RX4 137 (TX0 7).1 (TX0 7).2.1 (TX0 7).2.2.1 ∈ jj_W := jj_Wof 129 (by decide +kernel) rfl
theorem kF_X4_137 : jj_F RX4 137 0 7 0 := ⟨RX0, TX0, 9, tyX0, rfl, rfl, by decide, by decide, ku_0, kw_129, fun _ => rfl, tyX0_ok, nmX0, fun _ => rfl, fun h => absurd h (by decide), fun h => absurd h (by decide)⟩
theorem kw_480 : Cond.methodLink RX4 140 yX3_daysOver ∈ jj_W := jj_Wof 480 (by decide +kernel) rfl
theorem kM_X4_140 : jj_MV RX4 140 yX3_daysOver cX3_daysOver 3 (some .int) 2 := ⟨kw_480, kw_481, kw_482, kw_13, kw_483, by decide +kernel, by decide +kernel, by decide +kernel⟩
theorem kw_58 : Cond.fieldLink RX4 144 (TX3 4).1 (TX3 4).2.1 (TX3 4).2.2.1 ∈ jj_W := jj_Wof 58 (by decide +kernel) rfl
theorem kF_X4_144 : jj_F RX4 144 3 4 2 := ⟨RX3, TX3, 7, tyX3, rfl, rfl, by decide, by decide, ku_3, kw_58, fun h => absurd h (by decide), tyX3_ok, nmX3, fun h => absurd h (by decide), fun _ => Or.inr ⟨_, rfl⟩, fun h => absurd h (by decide)⟩
theorem kw_488 : Cond.methodLink RX4 147 yX0_loseHull ∈ jj_W := jj_Wof 488 (by decide +kernel) rfl
theorem kw_491 : Cond.code yX0_loseHull cX0_loseHull 1 none ∈ jj_W := jj_Wof 491 (by decide +kernel) rfl
theorem kw_489 : Cond.instanceMethod yX0_loseHull ∈ jj_W := jj_Wof 489 (by decide +kernel) rfl
theorem kw_490 : Cond.selects RX0 yX0_loseHull yX0_loseHull ∈ jj_W := jj_Wof 490 (by decide +kernel) rfl
theorem kM_X4_147 : jj_MV RX4 147 yX0_loseHull cX0_loseHull 1 none 0 := ⟨kw_488, kw_489, kw_490, kw_15, kw_491, by decide +kernel, by decide +kernel, by decide +kernel⟩
theorem kw_495 : Cond.methodLink RX4 150 yX3_iceAtHarbour ∈ jj_W := jj_Wof 495 (by decide +kernel) rfl
theorem kM_X4_150 : jj_MV RX4 150 yX3_iceAtHarbour cX3_iceAtHarbour 3 (some .int) 1 := ⟨kw_495, kw_324, kw_325, kw_13, kw_326, by decide +kernel, by decide +kernel, by decide +kernel⟩
theorem kw_172 : Cond.fieldLink RX4 153 (TX1 5).1 (TX1 5).2.1 (TX1 5).2.2.1 ∈ jj_W := jj_Wof 172 (by decide +kernel) rfl
theorem kF_X4_153 : jj_F RX4 153 1 5 0 := ⟨RX1, TX1, 7, tyX1, rfl, rfl, by decide, by decide, ku_1, kw_172, fun _ => rfl, tyX1_ok, nmX1, fun _ => rfl, fun h => absurd h (by decide), fun h => absurd h (by decide)⟩
theorem kw_163 : Cond.fieldLink RX4 156 (TX1 2).1 (TX1 2).2.1 (TX1 2).2.2.1 ∈ jj_W := jj_Wof 163 (by decide +kernel) rfl
theorem kF_X4_156 : jj_F RX4 156 1 2 0 := ⟨RX1, TX1, 7, tyX1, rfl, rfl, by decide, by decide, ku_1, kw_163, fun _ => rfl, tyX1_ok, nmX1, fun _ => rfl, fun h => absurd h (by decide), fun h => absurd h (by decide)⟩
theorem kw_166 : Cond.fieldLink RX4 157 (TX1 3).1 (TX1 3).2.1 (TX1 3).2.2.1 ∈ jj_W := jj_Wof 166 (by decide +kernel) rfl
theorem kF_X4_157 : jj_F RX4 157 1 3 0 := ⟨RX1, TX1, 7, tyX1, rfl, rfl, by decide, by decide, ku_1, kw_166, fun _ => rfl, tyX1_ok, nmX1, fun _ => rfl, fun h => absurd h (by decide), fun h => absurd h (by decide)⟩
theorem kM_X4_160 : jj_MSN RX4 160 yX5_cellOf cX5_cellOf 2 (some .int) 2 := ⟨(by simp [jj_trav]), kw_338, kw_11, kw_339, by decide +kernel, by decide +kernel, by decide +kernel⟩
theorem kw_169 : Cond.fieldLink RX4 163 (TX1 4).1 (TX1 4).2.1 (TX1 4).2.2.1 ∈ jj_W := jj_Wof 169 (by decide +kernel) rfl
theorem kF_X4_163 : jj_F RX4 163 1 4 0 := ⟨RX1, TX1, 7, tyX1, rfl, rfl, by decide, by decide, ku_1, kw_169, fun _ => rfl, tyX1_ok, nmX1, fun _ => rfl, fun h => absurd h (by decide), fun h => absurd h (by decide)⟩
theorem kw_65 : Cond.fieldLink RX4 166 (TX3 6).1 (TX3 6).2.1 (TX3 6).2.2.1 ∈ jj_W := jj_Wof 65 (by decide +kernel) rfl
theorem kF_X4_166 : jj_F RX4 166 3 6 2 := ⟨RX3, TX3, 7, tyX3, rfl, rfl, by decide, by decide, ku_3, kw_65, fun h => absurd h (by decide), tyX3_ok, nmX3, fun h => absurd h (by decide), fun _ => Or.inr ⟨_, rfl⟩, fun h => absurd h (by decide)⟩
theorem kw_157 : Cond.fieldLink RX4 169 (TX1 0).1 (TX1 0).2.1 (TX1 0).2.2.1 ∈ jj_W := jj_Wof 157 (by decide +kernel) rfl
theorem kF_X4_169 : jj_F RX4 169 1 0 0 := ⟨RX1, TX1, 7, tyX1, rfl, rfl, by decide, by decide, ku_1, kw_157, fun _ => rfl, tyX1_ok, nmX1, fun _ => rfl, fun h => absurd h (by decide), fun h => absurd h (by decide)⟩
theorem kw_501 : Cond.methodLink RX4 172 yX4_hand ∈ jj_W := jj_Wof 501 (by decide +kernel) rfl
theorem kM_X4_172 : jj_MV RX4 172 yX4_hand cX4_hand 5 none 4 := ⟨kw_501, kw_502, kw_503, kw_12, kw_504, by decide +kernel, by decide +kernel, by decide +kernel⟩
theorem kw_625 : Cond.constant RL 7 2147483647 ∈ jj_W := jj_Wof 625 (by decide +kernel) rfl
theorem kc_L_7 : Cond.constant RL 7 2147483647 ∈ jj_W := kw_625
theorem kw_629 : Cond.constant RL 8 790386105 ∈ jj_W := jj_Wof 629 (by decide +kernel) rfl
theorem kc_L_8 : Cond.constant RL 8 790386105 ∈ jj_W := kw_629
theorem kw_633 : Cond.classLink RL 9 RX7 ∈ jj_W := jj_Wof 633 (by decide +kernel) rfl
theorem kw_589 : Cond.instantiable RX7 9 ∈ jj_W := jj_Wof 589 (by decide +kernel) rfl
theorem kw_17 : Cond.initialized RX7 ∈ jj_W := jj_Wof 17 (by decide +kernel) rfl
theorem kN_L_9 : jj_NW RL 9 7 := ⟨RX7, TX7, 9, tyX7, rfl, rfl, by decide, ku_7, tyX7_ok, kw_633, kw_589, kw_17, by decide +kernel⟩
theorem kw_634 : Cond.methodLink RL 11 yX7_init ∈ jj_W := jj_Wof 634 (by decide +kernel) rfl
theorem kw_636 : Cond.code yX7_init cX7_init 2 none ∈ jj_W := jj_Wof 636 (by decide +kernel) rfl
theorem kw_635 : Cond.instanceMethod yX7_init ∈ jj_W := jj_Wof 635 (by decide +kernel) rfl
theorem kM_L_11 : jj_MI RL 11 yX7_init cX7_init 2 0 := ⟨kw_634, kw_635, rfl, kw_17, kw_636, by decide +kernel, by decide +kernel, by decide +kernel⟩
theorem kw_626 : Cond.methodLink RL 12 yL_cell ∈ jj_W := jj_Wof 626 (by decide +kernel) rfl
theorem kw_10 : Cond.initialized RL ∈ jj_W := jj_Wof 10 (by decide +kernel) rfl
theorem kw_628 : Cond.code yL_cell cL_cell 2 (some .int) ∈ jj_W := jj_Wof 628 (by decide +kernel) rfl
theorem kw_627 : Cond.static yL_cell ∈ jj_W := jj_Wof 627 (by decide +kernel) rfl
theorem kM_L_12 : jj_MS RL 12 yL_cell cL_cell 2 (some .int) 2 := ⟨kw_626, kw_627, kw_10, kw_628, by decide +kernel, by decide +kernel, by decide +kernel⟩
theorem kw_622 : Cond.methodLink RL 18 yL_below ∈ jj_W := jj_Wof 622 (by decide +kernel) rfl
theorem kw_624 : Cond.code yL_below cL_below 2 (some .int) ∈ jj_W := jj_Wof 624 (by decide +kernel) rfl
theorem kw_623 : Cond.static yL_below ∈ jj_W := jj_Wof 623 (by decide +kernel) rfl
theorem kM_L_18 : jj_MS RL 18 yL_below cL_below 2 (some .int) 2 := ⟨kw_622, kw_623, kw_10, kw_624, by decide +kernel, by decide +kernel, by decide +kernel⟩
theorem kw_644 : Cond.fieldLink RL 22 (TX7 0).1 (TX7 0).2.1 (TX7 0).2.2.1 ∈ jj_W := jj_Wof 644 (by decide +kernel) rfl
theorem kF_L_22 : jj_F RL 22 7 0 0 := ⟨RX7, TX7, 9, tyX7, rfl, rfl, by decide, by decide, ku_7, kw_644, fun _ => rfl, tyX7_ok, nmX7, fun h => absurd h (by decide), fun _ => Or.inr ⟨_, rfl⟩, fun h => absurd h (by decide)⟩
theorem kw_679 : Cond.methodLink RL 26 yX5_setWarm ∈ jj_W := jj_Wof 679 (by decide +kernel) rfl
theorem kw_682 : Cond.code yX5_setWarm cX5_setWarm 4 (some .int) ∈ jj_W := jj_Wof 682 (by decide +kernel) rfl
theorem kw_680 : Cond.instanceMethod yX5_setWarm ∈ jj_W := jj_Wof 680 (by decide +kernel) rfl
theorem kw_681 : Cond.selects RX5 yX5_setWarm yX5_setWarm ∈ jj_W := jj_Wof 681 (by decide +kernel) rfl
theorem kM_L_26 : jj_MV RL 26 yX5_setWarm cX5_setWarm 4 (some .int) 2 := ⟨kw_679, kw_680, kw_681, kw_11, kw_682, by decide +kernel, by decide +kernel, by decide +kernel⟩
theorem kw_683 : Cond.methodLink RL 31 yX5_addHarbour ∈ jj_W := jj_Wof 683 (by decide +kernel) rfl
theorem kw_686 : Cond.code yX5_addHarbour cX5_addHarbour 3 (some .int) ∈ jj_W := jj_Wof 686 (by decide +kernel) rfl
theorem kw_684 : Cond.instanceMethod yX5_addHarbour ∈ jj_W := jj_Wof 684 (by decide +kernel) rfl
theorem kw_685 : Cond.selects RX5 yX5_addHarbour yX5_addHarbour ∈ jj_W := jj_Wof 685 (by decide +kernel) rfl
theorem kM_L_31 : jj_MV RL 31 yX5_addHarbour cX5_addHarbour 3 (some .int) 2 := ⟨kw_683, kw_684, kw_685, kw_11, kw_686, by decide +kernel, by decide +kernel, by decide +kernel⟩
theorem kw_648 : Cond.fieldLink RL 34 (TX7 2).1 (TX7 2).2.1 (TX7 2).2.2.1 ∈ jj_W := jj_Wof 648 (by decide +kernel) rfl
theorem kF_L_34 : jj_F RL 34 7 2 0 := ⟨RX7, TX7, 9, tyX7, rfl, rfl, by decide, by decide, ku_7, kw_648, fun _ => rfl, tyX7_ok, nmX7, fun h => absurd h (by decide), fun _ => Or.inr ⟨_, rfl⟩, fun h => absurd h (by decide)⟩
theorem kw_710 : Cond.methodLink RL 37 yX5_setPrice ∈ jj_W := jj_Wof 710 (by decide +kernel) rfl
theorem kw_713 : Cond.code yX5_setPrice cX5_setPrice 5 (some .int) ∈ jj_W := jj_Wof 713 (by decide +kernel) rfl
theorem kw_711 : Cond.instanceMethod yX5_setPrice ∈ jj_W := jj_Wof 711 (by decide +kernel) rfl
theorem kw_712 : Cond.selects RX5 yX5_setPrice yX5_setPrice ∈ jj_W := jj_Wof 712 (by decide +kernel) rfl
theorem kM_L_37 : jj_MV RL 37 yX5_setPrice cX5_setPrice 5 (some .int) 3 := ⟨kw_710, kw_711, kw_712, kw_11, kw_713, by decide +kernel, by decide +kernel, by decide +kernel⟩
theorem kw_646 : Cond.fieldLink RL 41 (TX7 1).1 (TX7 1).2.1 (TX7 1).2.2.1 ∈ jj_W := jj_Wof 646 (by decide +kernel) rfl
theorem kF_L_41 : jj_F RL 41 7 1 0 := ⟨RX7, TX7, 9, tyX7, rfl, rfl, by decide, by decide, ku_7, kw_646, fun _ => rfl, tyX7_ok, nmX7, fun h => absurd h (by decide), fun _ => Or.inr ⟨_, rfl⟩, fun h => absurd h (by decide)⟩
theorem kw_714 : Cond.methodLink RL 45 yX7_more ∈ jj_W := jj_Wof 714 (by decide +kernel) rfl
theorem kw_716 : Cond.code yX7_more cX7_more 4 (some (.array (.array .int))) ∈ jj_W := jj_Wof 716 (by decide +kernel) rfl
theorem kw_715 : Cond.static yX7_more ∈ jj_W := jj_Wof 715 (by decide +kernel) rfl
theorem kM_L_45 : jj_MS RL 45 yX7_more cX7_more 4 (some (.array (.array .int))) 2 := ⟨kw_714, kw_715, kw_17, kw_716, by decide +kernel, by decide +kernel, by decide +kernel⟩
theorem kw_651 : Cond.fieldLink RL 49 (TX7 4).1 (TX7 4).2.1 (TX7 4).2.2.1 ∈ jj_W := jj_Wof 651 (by decide +kernel) rfl
theorem kF_L_49 : jj_F RL 49 7 4 0 := ⟨RX7, TX7, 9, tyX7, rfl, rfl, by decide, by decide, ku_7, kw_651, fun _ => rfl, tyX7_ok, nmX7, fun h => absurd h (by decide), fun _ => Or.inr ⟨_, rfl⟩, fun h => absurd h (by decide)⟩
theorem kw_717 : Cond.methodLink RL 52 yX5_addMerchant ∈ jj_W := jj_Wof 717 (by decide +kernel) rfl
theorem kw_720 : Cond.code yX5_addMerchant cX5_addMerchant 3 (some .int) ∈ jj_W := jj_Wof 720 (by decide +kernel) rfl
theorem kw_718 : Cond.instanceMethod yX5_addMerchant ∈ jj_W := jj_Wof 718 (by decide +kernel) rfl
theorem kw_719 : Cond.selects RX5 yX5_addMerchant yX5_addMerchant ∈ jj_W := jj_Wof 719 (by decide +kernel) rfl
theorem kM_L_52 : jj_MV RL 52 yX5_addMerchant cX5_addMerchant 3 (some .int) 1 := ⟨kw_717, kw_718, kw_719, kw_11, kw_720, by decide +kernel, by decide +kernel, by decide +kernel⟩
theorem kw_721 : Cond.methodLink RL 56 yX5_build ∈ jj_W := jj_Wof 721 (by decide +kernel) rfl
theorem kw_724 : Cond.code yX5_build cX5_build 5 (some .int) ∈ jj_W := jj_Wof 724 (by decide +kernel) rfl
theorem kw_722 : Cond.instanceMethod yX5_build ∈ jj_W := jj_Wof 722 (by decide +kernel) rfl
theorem kw_723 : Cond.selects RX5 yX5_build yX5_build ∈ jj_W := jj_Wof 723 (by decide +kernel) rfl
theorem kM_L_56 : jj_MV RL 56 yX5_build cX5_build 5 (some .int) 3 := ⟨kw_721, kw_722, kw_723, kw_11, kw_724, by decide +kernel, by decide +kernel, by decide +kernel⟩
theorem kw_729 : Cond.methodLink RL 59 yX7_build ∈ jj_W := jj_Wof 729 (by decide +kernel) rfl
theorem kw_732 : Cond.code yX7_build cX7_build 6 none ∈ jj_W := jj_Wof 732 (by decide +kernel) rfl
theorem kw_730 : Cond.instanceMethod yX7_build ∈ jj_W := jj_Wof 730 (by decide +kernel) rfl
theorem kw_731 : Cond.selects RX7 yX7_build yX7_build ∈ jj_W := jj_Wof 731 (by decide +kernel) rfl
theorem kM_L_59 : jj_MV RL 59 yX7_build cX7_build 6 none 3 := ⟨kw_729, kw_730, kw_731, kw_17, kw_732, by decide +kernel, by decide +kernel, by decide +kernel⟩
theorem kw_655 : Cond.fieldLink RL 62 (TX7 6).1 (TX7 6).2.1 (TX7 6).2.2.1 ∈ jj_W := jj_Wof 655 (by decide +kernel) rfl
theorem kF_L_62 : jj_F RL 62 7 6 0 := ⟨RX7, TX7, 9, tyX7, rfl, rfl, by decide, by decide, ku_7, kw_655, fun _ => rfl, tyX7_ok, nmX7, fun h => absurd h (by decide), fun _ => Or.inr ⟨_, rfl⟩, fun h => absurd h (by decide)⟩
theorem kw_653 : Cond.fieldLink RL 66 (TX7 5).1 (TX7 5).2.1 (TX7 5).2.2.1 ∈ jj_W := jj_Wof 653 (by decide +kernel) rfl
theorem kF_L_66 : jj_F RL 66 7 5 0 := ⟨RX7, TX7, 9, tyX7, rfl, rfl, by decide, by decide, ku_7, kw_653, fun _ => rfl, tyX7_ok, nmX7, fun h => absurd h (by decide), fun _ => Or.inr ⟨_, rfl⟩, fun h => absurd h (by decide)⟩
theorem kw_779 : Cond.methodLink RL 70 yX5_bring ∈ jj_W := jj_Wof 779 (by decide +kernel) rfl
theorem kw_782 : Cond.code yX5_bring cX5_bring 6 (some .int) ∈ jj_W := jj_Wof 782 (by decide +kernel) rfl
theorem kw_780 : Cond.instanceMethod yX5_bring ∈ jj_W := jj_Wof 780 (by decide +kernel) rfl
theorem kw_781 : Cond.selects RX5 yX5_bring yX5_bring ∈ jj_W := jj_Wof 781 (by decide +kernel) rfl
theorem kM_L_70 : jj_MV RL 70 yX5_bring cX5_bring 6 (some .int) 4 := ⟨kw_779, kw_780, kw_781, kw_11, kw_782, by decide +kernel, by decide +kernel, by decide +kernel⟩
theorem kw_783 : Cond.methodLink RL 74 yX5_sell ∈ jj_W := jj_Wof 783 (by decide +kernel) rfl
theorem kw_786 : Cond.code yX5_sell cX5_sell 6 (some .int) ∈ jj_W := jj_Wof 786 (by decide +kernel) rfl
theorem kw_784 : Cond.instanceMethod yX5_sell ∈ jj_W := jj_Wof 784 (by decide +kernel) rfl
theorem kw_785 : Cond.selects RX5 yX5_sell yX5_sell ∈ jj_W := jj_Wof 785 (by decide +kernel) rfl
theorem kM_L_74 : jj_MV RL 74 yX5_sell cX5_sell 6 (some .int) 4 := ⟨kw_783, kw_784, kw_785, kw_11, kw_786, by decide +kernel, by decide +kernel, by decide +kernel⟩
theorem kw_745 : Cond.fieldLink RL 77 (TX6 3).1 (TX6 3).2.1 (TX6 3).2.2.1 ∈ jj_W := jj_Wof 745 (by decide +kernel) rfl
theorem kF_L_77 : jj_F RL 77 6 3 0 := ⟨RX6, TX6, 9, tyX6, rfl, rfl, by decide, by decide, ku_6, kw_745, fun _ => rfl, tyX6_ok, nmX6, fun _ => rfl, fun h => absurd h (by decide), fun h => absurd h (by decide)⟩
theorem kw_744 : Cond.fieldLink RL 83 (TX6 2).1 (TX6 2).2.1 (TX6 2).2.2.1 ∈ jj_W := jj_Wof 744 (by decide +kernel) rfl
theorem kF_L_83 : jj_F RL 83 6 2 0 := ⟨RX6, TX6, 9, tyX6, rfl, rfl, by decide, by decide, ku_6, kw_744, fun _ => rfl, tyX6_ok, nmX6, fun _ => rfl, fun h => absurd h (by decide), fun h => absurd h (by decide)⟩
theorem kw_795 : Cond.methodLink RL 86 yX6_all ∈ jj_W := jj_Wof 795 (by decide +kernel) rfl
theorem kw_24 : Cond.initialized RX6 ∈ jj_W := jj_Wof 24 (by decide +kernel) rfl
theorem kw_612 : Cond.code yX6_all cX6_all 1 (some .int) ∈ jj_W := jj_Wof 612 (by decide +kernel) rfl
theorem kw_610 : Cond.instanceMethod yX6_all ∈ jj_W := jj_Wof 610 (by decide +kernel) rfl
theorem kw_611 : Cond.selects RX6 yX6_all yX6_all ∈ jj_W := jj_Wof 611 (by decide +kernel) rfl
theorem kM_L_86 : jj_MV RL 86 yX6_all cX6_all 1 (some .int) 0 := ⟨kw_795, kw_610, kw_611, kw_24, kw_612, by decide +kernel, by decide +kernel, by decide +kernel⟩
theorem kw_796 : Cond.methodLink RL 90 Lib.Math.min.name ∈ jj_W := jj_Wof 796 (by decide +kernel) rfl
theorem kM_L_90 : jj_MM RL 90 Lib.Math.min.name Lib.Math.min.code 2 := ⟨kw_796, kw_335, kw_25, kw_336⟩
theorem kw_739 : Cond.fieldLink RL 95 (TX6 0).1 (TX6 0).2.1 (TX6 0).2.2.1 ∈ jj_W := jj_Wof 739 (by decide +kernel) rfl
theorem kF_L_95 : jj_F RL 95 6 0 0 := ⟨RX6, TX6, 9, tyX6, rfl, rfl, by decide, by decide, ku_6, kw_739, fun _ => rfl, tyX6_ok, nmX6, fun _ => rfl, fun h => absurd h (by decide), fun h => absurd h (by decide)⟩
theorem kw_748 : Cond.fieldLink RL 98 (TX6 4).1 (TX6 4).2.1 (TX6 4).2.2.1 ∈ jj_W := jj_Wof 748 (by decide +kernel) rfl
theorem kF_L_98 : jj_F RL 98 6 4 0 := ⟨RX6, TX6, 9, tyX6, rfl, rfl, by decide, by decide, ku_6, kw_748, fun _ => rfl, tyX6_ok, nmX6, fun _ => rfl, fun h => absurd h (by decide), fun h => absurd h (by decide)⟩
theorem kw_755 : Cond.fieldLink RL 101 (TX6 8).1 (TX6 8).2.1 (TX6 8).2.2.1 ∈ jj_W := jj_Wof 755 (by decide +kernel) rfl
theorem kF_L_101 : jj_F RL 101 6 8 0 := ⟨RX6, TX6, 9, tyX6, rfl, rfl, by decide, by decide, ku_6, kw_755, fun _ => rfl, tyX6_ok, nmX6, fun h => absurd h (by decide), fun _ => Or.inr ⟨_, rfl⟩, fun h => absurd h (by decide)⟩
theorem kw_797 : Cond.methodLink RL 104 yX5_load ∈ jj_W := jj_Wof 797 (by decide +kernel) rfl
theorem kw_800 : Cond.code yX5_load cX5_load 7 (some .int) ∈ jj_W := jj_Wof 800 (by decide +kernel) rfl
theorem kw_798 : Cond.instanceMethod yX5_load ∈ jj_W := jj_Wof 798 (by decide +kernel) rfl
theorem kw_799 : Cond.selects RX5 yX5_load yX5_load ∈ jj_W := jj_Wof 799 (by decide +kernel) rfl
theorem kM_L_104 : jj_MV RL 104 yX5_load cX5_load 7 (some .int) 3 := ⟨kw_797, kw_798, kw_799, kw_11, kw_800, by decide +kernel, by decide +kernel, by decide +kernel⟩
theorem kw_750 : Cond.fieldLink RL 107 (TX6 5).1 (TX6 5).2.1 (TX6 5).2.2.1 ∈ jj_W := jj_Wof 750 (by decide +kernel) rfl
theorem kF_L_107 : jj_F RL 107 6 5 0 := ⟨RX6, TX6, 9, tyX6, rfl, rfl, by decide, by decide, ku_6, kw_750, fun _ => rfl, tyX6_ok, nmX6, fun _ => rfl, fun h => absurd h (by decide), fun h => absurd h (by decide)⟩
theorem kw_810 : Cond.methodLink RL 110 yX5_send ∈ jj_W := jj_Wof 810 (by decide +kernel) rfl
theorem kw_813 : Cond.code yX5_send cX5_send 4 (some .int) ∈ jj_W := jj_Wof 813 (by decide +kernel) rfl
theorem kw_811 : Cond.instanceMethod yX5_send ∈ jj_W := jj_Wof 811 (by decide +kernel) rfl
theorem kw_812 : Cond.selects RX5 yX5_send yX5_send ∈ jj_W := jj_Wof 812 (by decide +kernel) rfl
theorem kM_L_110 : jj_MV RL 110 yX5_send cX5_send 4 (some .int) 2 := ⟨kw_810, kw_811, kw_812, kw_11, kw_813, by decide +kernel, by decide +kernel, by decide +kernel⟩
theorem kw_751 : Cond.fieldLink RL 113 (TX6 6).1 (TX6 6).2.1 (TX6 6).2.2.1 ∈ jj_W := jj_Wof 751 (by decide +kernel) rfl
theorem kF_L_113 : jj_F RL 113 6 6 0 := ⟨RX6, TX6, 9, tyX6, rfl, rfl, by decide, by decide, ku_6, kw_751, fun _ => rfl, tyX6_ok, nmX6, fun _ => rfl, fun h => absurd h (by decide), fun h => absurd h (by decide)⟩
theorem kw_820 : Cond.methodLink RL 116 yX7_way ∈ jj_W := jj_Wof 820 (by decide +kernel) rfl
theorem kw_823 : Cond.code yX7_way cX7_way 5 (some .int) ∈ jj_W := jj_Wof 823 (by decide +kernel) rfl
theorem kw_821 : Cond.instanceMethod yX7_way ∈ jj_W := jj_Wof 821 (by decide +kernel) rfl
theorem kw_822 : Cond.selects RX7 yX7_way yX7_way ∈ jj_W := jj_Wof 822 (by decide +kernel) rfl
theorem kM_L_116 : jj_MV RL 116 yX7_way cX7_way 5 (some .int) 2 := ⟨kw_820, kw_821, kw_822, kw_17, kw_823, by decide +kernel, by decide +kernel, by decide +kernel⟩
theorem kw_824 : Cond.methodLink RL 119 yX7_in ∈ jj_W := jj_Wof 824 (by decide +kernel) rfl
theorem kw_606 : Cond.code yX7_in cX7_in 8 (some .int) ∈ jj_W := jj_Wof 606 (by decide +kernel) rfl
theorem kw_604 : Cond.instanceMethod yX7_in ∈ jj_W := jj_Wof 604 (by decide +kernel) rfl
theorem kw_605 : Cond.selects RX7 yX7_in yX7_in ∈ jj_W := jj_Wof 605 (by decide +kernel) rfl
theorem kM_L_119 : jj_MV RL 119 yX7_in cX7_in 8 (some .int) 2 := ⟨kw_824, kw_604, kw_605, kw_17, kw_606, by decide +kernel, by decide +kernel, by decide +kernel⟩
theorem kw_825 : Cond.methodLink RL 122 yX5_berth ∈ jj_W := jj_Wof 825 (by decide +kernel) rfl
theorem kw_828 : Cond.code yX5_berth cX5_berth 4 (some .int) ∈ jj_W := jj_Wof 828 (by decide +kernel) rfl
theorem kw_826 : Cond.instanceMethod yX5_berth ∈ jj_W := jj_Wof 826 (by decide +kernel) rfl
theorem kw_827 : Cond.selects RX5 yX5_berth yX5_berth ∈ jj_W := jj_Wof 827 (by decide +kernel) rfl
theorem kM_L_122 : jj_MV RL 122 yX5_berth cX5_berth 4 (some .int) 2 := ⟨kw_825, kw_826, kw_827, kw_11, kw_828, by decide +kernel, by decide +kernel, by decide +kernel⟩
theorem kw_741 : Cond.fieldLink RL 126 (TX6 1).1 (TX6 1).2.1 (TX6 1).2.2.1 ∈ jj_W := jj_Wof 741 (by decide +kernel) rfl
theorem kF_L_126 : jj_F RL 126 6 1 0 := ⟨RX6, TX6, 9, tyX6, rfl, rfl, by decide, by decide, ku_6, kw_741, fun _ => rfl, tyX6_ok, nmX6, fun _ => rfl, fun h => absurd h (by decide), fun h => absurd h (by decide)⟩
theorem kw_834 : Cond.methodLink RL 129 yX5_mend ∈ jj_W := jj_Wof 834 (by decide +kernel) rfl
theorem kw_837 : Cond.code yX5_mend cX5_mend 5 (some .int) ∈ jj_W := jj_Wof 837 (by decide +kernel) rfl
theorem kw_835 : Cond.instanceMethod yX5_mend ∈ jj_W := jj_Wof 835 (by decide +kernel) rfl
theorem kw_836 : Cond.selects RX5 yX5_mend yX5_mend ∈ jj_W := jj_Wof 836 (by decide +kernel) rfl
theorem kM_L_129 : jj_MV RL 129 yX5_mend cX5_mend 5 (some .int) 1 := ⟨kw_834, kw_835, kw_836, kw_11, kw_837, by decide +kernel, by decide +kernel, by decide +kernel⟩
theorem kw_657 : Cond.fieldLink RL 132 (TX7 7).1 (TX7 7).2.1 (TX7 7).2.2.1 ∈ jj_W := jj_Wof 657 (by decide +kernel) rfl
theorem kF_L_132 : jj_F RL 132 7 7 0 := ⟨RX7, TX7, 9, tyX7, rfl, rfl, by decide, by decide, ku_7, kw_657, fun _ => rfl, tyX7_ok, nmX7, fun h => absurd h (by decide), fun _ => Or.inr ⟨_, rfl⟩, fun h => absurd h (by decide)⟩
theorem kw_838 : Cond.methodLink RL 135 yX7_pays ∈ jj_W := jj_Wof 838 (by decide +kernel) rfl
theorem kw_598 : Cond.code yX7_pays cX7_pays 3 (some .boolean) ∈ jj_W := jj_Wof 598 (by decide +kernel) rfl
theorem kw_596 : Cond.instanceMethod yX7_pays ∈ jj_W := jj_Wof 596 (by decide +kernel) rfl
theorem kw_597 : Cond.selects RX7 yX7_pays yX7_pays ∈ jj_W := jj_Wof 597 (by decide +kernel) rfl
theorem kM_L_135 : jj_MV RL 135 yX7_pays cX7_pays 3 (some .boolean) 2 := ⟨kw_838, kw_596, kw_597, kw_17, kw_598, by decide +kernel, by decide +kernel, by decide +kernel⟩
theorem kw_839 : Cond.methodLink RL 139 yX5_repay ∈ jj_W := jj_Wof 839 (by decide +kernel) rfl
theorem kw_842 : Cond.code yX5_repay cX5_repay 5 (some .int) ∈ jj_W := jj_Wof 842 (by decide +kernel) rfl
theorem kw_840 : Cond.instanceMethod yX5_repay ∈ jj_W := jj_Wof 840 (by decide +kernel) rfl
theorem kw_841 : Cond.selects RX5 yX5_repay yX5_repay ∈ jj_W := jj_Wof 841 (by decide +kernel) rfl
theorem kM_L_139 : jj_MV RL 139 yX5_repay cX5_repay 5 (some .int) 2 := ⟨kw_839, kw_840, kw_841, kw_11, kw_842, by decide +kernel, by decide +kernel, by decide +kernel⟩
theorem kw_658 : Cond.fieldLink RL 142 (TX7 8).1 (TX7 8).2.1 (TX7 8).2.2.1 ∈ jj_W := jj_Wof 658 (by decide +kernel) rfl
theorem kF_L_142 : jj_F RL 142 7 8 0 := ⟨RX7, TX7, 9, tyX7, rfl, rfl, by decide, by decide, ku_7, kw_658, fun _ => rfl, tyX7_ok, nmX7, fun _ => rfl, fun h => absurd h (by decide), fun h => absurd h (by decide)⟩
theorem kw_845 : Cond.methodLink RL 145 yX5_lend ∈ jj_W := jj_Wof 845 (by decide +kernel) rfl
theorem kw_848 : Cond.code yX5_lend cX5_lend 8 (some .int) ∈ jj_W := jj_Wof 848 (by decide +kernel) rfl
theorem kw_846 : Cond.instanceMethod yX5_lend ∈ jj_W := jj_Wof 846 (by decide +kernel) rfl
theorem kw_847 : Cond.selects RX5 yX5_lend yX5_lend ∈ jj_W := jj_Wof 847 (by decide +kernel) rfl
theorem kM_L_145 : jj_MV RL 145 yX5_lend cX5_lend 8 (some .int) 6 := ⟨kw_845, kw_846, kw_847, kw_11, kw_848, by decide +kernel, by decide +kernel, by decide +kernel⟩
theorem kw_28 : Cond.classLink RL 27 RX5 ∈ jj_W := jj_Wof 28 (by decide +kernel) rfl
theorem kw_29 : Cond.instantiable RX5 4 ∈ jj_W := jj_Wof 29 (by decide +kernel) rfl
theorem kN_L_27 : jj_NW RL 27 5 := ⟨RX5, TX5, 4, tyX5, rfl, rfl, by decide, ku_5, tyX5_ok, kw_28, kw_29, kw_11, by decide +kernel⟩
theorem kw_30 : Cond.methodLink RL 149 yX5_init ∈ jj_W := jj_Wof 30 (by decide +kernel) rfl
theorem kw_32 : Cond.code yX5_init cX5_init 1 none ∈ jj_W := jj_Wof 32 (by decide +kernel) rfl
theorem kw_31 : Cond.instanceMethod yX5_init ∈ jj_W := jj_Wof 31 (by decide +kernel) rfl
theorem kM_L_149 : jj_MI RL 149 yX5_init cX5_init 1 0 := ⟨kw_30, kw_31, rfl, kw_11, kw_32, by decide +kernel, by decide +kernel, by decide +kernel⟩
theorem kw_630 : Cond.methodLink RL 150 yL_build ∈ jj_W := jj_Wof 630 (by decide +kernel) rfl
theorem kw_632 : Cond.code yL_build cL_build 12 (some (.object "IceHarbourLaw$Sim")) ∈ jj_W := jj_Wof 632 (by decide +kernel) rfl
theorem kw_631 : Cond.static yL_build ∈ jj_W := jj_Wof 631 (by decide +kernel) rfl
theorem kM_L_150 : jj_MS RL 150 yL_build cL_build 12 (some (.object "IceHarbourLaw$Sim")) 2 := ⟨kw_630, kw_631, kw_10, kw_632, by decide +kernel, by decide +kernel, by decide +kernel⟩
theorem kw_776 : Cond.methodLink RL 153 yL_act ∈ jj_W := jj_Wof 776 (by decide +kernel) rfl
theorem kw_778 : Cond.code yL_act cL_act 16 (some .boolean) ∈ jj_W := jj_Wof 778 (by decide +kernel) rfl
theorem kw_777 : Cond.static yL_act ∈ jj_W := jj_Wof 777 (by decide +kernel) rfl
theorem kM_L_153 : jj_MS RL 153 yL_act cL_act 16 (some .boolean) 3 := ⟨kw_776, kw_777, kw_10, kw_778, by decide +kernel, by decide +kernel, by decide +kernel⟩
theorem kw_853 : Cond.classLink RL 157 "[[I" ∈ jj_W := jj_Wof 853 (by decide +kernel) rfl
theorem kC_L_157 : Cond.classLink RL 157 "[[I" ∈ jj_W := kw_853
theorem kw_397 : Cond.methodLink RL 158 yX5_boat ∈ jj_W := jj_Wof 397 (by decide +kernel) rfl
theorem kw_400 : Cond.code yX5_boat cX5_boat 3 (some .int) ∈ jj_W := jj_Wof 400 (by decide +kernel) rfl
theorem kw_398 : Cond.instanceMethod yX5_boat ∈ jj_W := jj_Wof 398 (by decide +kernel) rfl
theorem kw_399 : Cond.selects RX5 yX5_boat yX5_boat ∈ jj_W := jj_Wof 399 (by decide +kernel) rfl
theorem kM_L_158 : jj_MV RL 158 yX5_boat cX5_boat 3 (some .int) 2 := ⟨kw_397, kw_398, kw_399, kw_11, kw_400, by decide +kernel, by decide +kernel, by decide +kernel⟩
theorem kw_533 : Cond.methodLink RL 161 yX5_arrives ∈ jj_W := jj_Wof 533 (by decide +kernel) rfl
theorem kw_536 : Cond.code yX5_arrives cX5_arrives 4 (some .int) ∈ jj_W := jj_Wof 536 (by decide +kernel) rfl
theorem kw_534 : Cond.instanceMethod yX5_arrives ∈ jj_W := jj_Wof 534 (by decide +kernel) rfl
theorem kw_535 : Cond.selects RX5 yX5_arrives yX5_arrives ∈ jj_W := jj_Wof 535 (by decide +kernel) rfl
theorem kM_L_161 : jj_MV RL 161 yX5_arrives cX5_arrives 4 (some .int) 1 := ⟨kw_533, kw_534, kw_535, kw_11, kw_536, by decide +kernel, by decide +kernel, by decide +kernel⟩
theorem kw_527 : Cond.methodLink RL 164 yX5_opens ∈ jj_W := jj_Wof 527 (by decide +kernel) rfl
theorem kw_530 : Cond.code yX5_opens cX5_opens 4 (some .int) ∈ jj_W := jj_Wof 530 (by decide +kernel) rfl
theorem kw_528 : Cond.instanceMethod yX5_opens ∈ jj_W := jj_Wof 528 (by decide +kernel) rfl
theorem kw_529 : Cond.selects RX5 yX5_opens yX5_opens ∈ jj_W := jj_Wof 529 (by decide +kernel) rfl
theorem kM_L_164 : jj_MV RL 164 yX5_opens cX5_opens 4 (some .int) 1 := ⟨kw_527, kw_528, kw_529, kw_11, kw_530, by decide +kernel, by decide +kernel, by decide +kernel⟩
theorem kw_340 : Cond.methodLink RL 167 yX5_leg ∈ jj_W := jj_Wof 340 (by decide +kernel) rfl
theorem kw_343 : Cond.code yX5_leg cX5_leg 3 (some .int) ∈ jj_W := jj_Wof 343 (by decide +kernel) rfl
theorem kw_341 : Cond.instanceMethod yX5_leg ∈ jj_W := jj_Wof 341 (by decide +kernel) rfl
theorem kw_342 : Cond.selects RX5 yX5_leg yX5_leg ∈ jj_W := jj_Wof 342 (by decide +kernel) rfl
theorem kM_L_167 : jj_MV RL 167 yX5_leg cX5_leg 3 (some .int) 2 := ⟨kw_340, kw_341, kw_342, kw_11, kw_343, by decide +kernel, by decide +kernel, by decide +kernel⟩
theorem kw_369 : Cond.methodLink RL 170 yX5_merchant ∈ jj_W := jj_Wof 369 (by decide +kernel) rfl
theorem kw_372 : Cond.code yX5_merchant cX5_merchant 3 (some .int) ∈ jj_W := jj_Wof 372 (by decide +kernel) rfl
theorem kw_370 : Cond.instanceMethod yX5_merchant ∈ jj_W := jj_Wof 370 (by decide +kernel) rfl
theorem kw_371 : Cond.selects RX5 yX5_merchant yX5_merchant ∈ jj_W := jj_Wof 371 (by decide +kernel) rfl
theorem kM_L_170 : jj_MV RL 170 yX5_merchant cX5_merchant 3 (some .int) 2 := ⟨kw_369, kw_370, kw_371, kw_11, kw_372, by decide +kernel, by decide +kernel, by decide +kernel⟩
theorem kw_505 : Cond.methodLink RL 173 yX5_count ∈ jj_W := jj_Wof 505 (by decide +kernel) rfl
theorem kw_508 : Cond.code yX5_count cX5_count 2 (some .int) ∈ jj_W := jj_Wof 508 (by decide +kernel) rfl
theorem kw_506 : Cond.instanceMethod yX5_count ∈ jj_W := jj_Wof 506 (by decide +kernel) rfl
theorem kw_507 : Cond.selects RX5 yX5_count yX5_count ∈ jj_W := jj_Wof 507 (by decide +kernel) rfl
theorem kM_L_173 : jj_MV RL 173 yX5_count cX5_count 2 (some .int) 1 := ⟨kw_505, kw_506, kw_507, kw_11, kw_508, by decide +kernel, by decide +kernel, by decide +kernel⟩
theorem kw_416 : Cond.methodLink RL 176 yX5_pass ∈ jj_W := jj_Wof 416 (by decide +kernel) rfl
theorem kw_419 : Cond.code yX5_pass cX5_pass 4 (some .int) ∈ jj_W := jj_Wof 419 (by decide +kernel) rfl
theorem kw_417 : Cond.instanceMethod yX5_pass ∈ jj_W := jj_Wof 417 (by decide +kernel) rfl
theorem kw_418 : Cond.selects RX5 yX5_pass yX5_pass ∈ jj_W := jj_Wof 418 (by decide +kernel) rfl
theorem kM_L_176 : jj_MV RL 176 yX5_pass cX5_pass 4 (some .int) 1 := ⟨kw_416, kw_417, kw_418, kw_11, kw_419, by decide +kernel, by decide +kernel, by decide +kernel⟩
theorem kw_574 : Cond.methodLink RL 179 yX7_pass ∈ jj_W := jj_Wof 574 (by decide +kernel) rfl
theorem kw_577 : Cond.code yX7_pass cX7_pass 7 (some .int) ∈ jj_W := jj_Wof 577 (by decide +kernel) rfl
theorem kw_575 : Cond.instanceMethod yX7_pass ∈ jj_W := jj_Wof 575 (by decide +kernel) rfl
theorem kw_576 : Cond.selects RX7 yX7_pass yX7_pass ∈ jj_W := jj_Wof 576 (by decide +kernel) rfl
theorem kM_L_179 : jj_MV RL 179 yX7_pass cX7_pass 7 (some .int) 0 := ⟨kw_574, kw_575, kw_576, kw_17, kw_577, by decide +kernel, by decide +kernel, by decide +kernel⟩
theorem kw_852 : Cond.methodLink RL 181 Lib.Math.max.name ∈ jj_W := jj_Wof 852 (by decide +kernel) rfl
theorem kM_L_181 : jj_MM RL 181 Lib.Math.max.name Lib.Math.max.code 2 := ⟨kw_852, kw_332, kw_25, kw_333⟩
theorem kw_236 : Cond.methodLink RL 184 yX5_harbour ∈ jj_W := jj_Wof 236 (by decide +kernel) rfl
theorem kw_239 : Cond.code yX5_harbour cX5_harbour 3 (some .int) ∈ jj_W := jj_Wof 239 (by decide +kernel) rfl
theorem kw_237 : Cond.instanceMethod yX5_harbour ∈ jj_W := jj_Wof 237 (by decide +kernel) rfl
theorem kw_238 : Cond.selects RX5 yX5_harbour yX5_harbour ∈ jj_W := jj_Wof 238 (by decide +kernel) rfl
theorem kM_L_184 : jj_MV RL 184 yX5_harbour cX5_harbour 3 (some .int) 2 := ⟨kw_236, kw_237, kw_238, kw_11, kw_239, by decide +kernel, by decide +kernel, by decide +kernel⟩
theorem kw_851 : Cond.methodLink RL 187 Lib.Math.abs.name ∈ jj_W := jj_Wof 851 (by decide +kernel) rfl
theorem kM_L_187 : jj_MM RL 187 Lib.Math.abs.name Lib.Math.abs.code 1 := ⟨kw_851, kw_808, kw_25, kw_809⟩
theorem kw_361 : Cond.methodLink RL 190 yX5_stock ∈ jj_W := jj_Wof 361 (by decide +kernel) rfl
theorem kw_364 : Cond.code yX5_stock cX5_stock 4 (some .int) ∈ jj_W := jj_Wof 364 (by decide +kernel) rfl
theorem kw_362 : Cond.instanceMethod yX5_stock ∈ jj_W := jj_Wof 362 (by decide +kernel) rfl
theorem kw_363 : Cond.selects RX5 yX5_stock yX5_stock ∈ jj_W := jj_Wof 363 (by decide +kernel) rfl
theorem kM_L_190 : jj_MV RL 190 yX5_stock cX5_stock 4 (some .int) 3 := ⟨kw_361, kw_362, kw_363, kw_11, kw_364, by decide +kernel, by decide +kernel, by decide +kernel⟩
theorem kw_409 : Cond.methodLink RL 192 yX5_debt ∈ jj_W := jj_Wof 409 (by decide +kernel) rfl
theorem kw_412 : Cond.code yX5_debt cX5_debt 3 (some .int) ∈ jj_W := jj_Wof 412 (by decide +kernel) rfl
theorem kw_410 : Cond.instanceMethod yX5_debt ∈ jj_W := jj_Wof 410 (by decide +kernel) rfl
theorem kw_411 : Cond.selects RX5 yX5_debt yX5_debt ∈ jj_W := jj_Wof 411 (by decide +kernel) rfl
theorem kM_L_192 : jj_MV RL 192 yX5_debt cX5_debt 3 (some .int) 2 := ⟨kw_409, kw_410, kw_411, kw_11, kw_412, by decide +kernel, by decide +kernel, by decide +kernel⟩
theorem kw_599 : Cond.methodLink RL 195 yX7_isSame ∈ jj_W := jj_Wof 599 (by decide +kernel) rfl
theorem kw_602 : Cond.code yX7_isSame cX7_isSame 18 (some .boolean) ∈ jj_W := jj_Wof 602 (by decide +kernel) rfl
theorem kw_600 : Cond.instanceMethod yX7_isSame ∈ jj_W := jj_Wof 600 (by decide +kernel) rfl
theorem kw_601 : Cond.selects RX7 yX7_isSame yX7_isSame ∈ jj_W := jj_Wof 601 (by decide +kernel) rfl
theorem kM_L_195 : jj_MV RL 195 yX7_isSame cX7_isSame 18 (some .boolean) 1 := ⟨kw_599, kw_600, kw_601, kw_17, kw_602, by decide +kernel, by decide +kernel, by decide +kernel⟩
theorem kw_737 : Cond.methodLink RX6 1 Lib.objectInit ∈ jj_W := jj_Wof 737 (by decide +kernel) rfl
theorem kM_X6_1 : Cond.methodLink RX6 1 Lib.objectInit ∈ jj_W ∧ Cond.instanceMethod Lib.objectInit ∈ jj_W ∧ Cond.code Lib.objectInit ⟨#[0xb1]⟩ 1 none ∈ jj_W := ⟨kw_737, kw_34, kw_35⟩
theorem kw_740 : Cond.fieldLink RX6 7 (TX6 1).1 (TX6 1).2.1 (TX6 1).2.2.1 ∈ jj_W := jj_Wof 740 (by decide +kernel) rfl
theorem kF_X6_7 : jj_F RX6 7 6 1 0 := ⟨RX6, TX6, 9, tyX6, rfl, rfl, by decide, by decide, ku_6, kw_740, fun _ => rfl, tyX6_ok, nmX6, fun _ => rfl, fun h => absurd h (by decide), fun h => absurd h (by decide)⟩
theorem kw_754 : Cond.fieldLink RX6 13 (TX6 8).1 (TX6 8).2.1 (TX6 8).2.2.1 ∈ jj_W := jj_Wof 754 (by decide +kernel) rfl
theorem kF_X6_13 : jj_F RX6 13 6 8 0 := ⟨RX6, TX6, 9, tyX6, rfl, rfl, by decide, by decide, ku_6, kw_754, fun _ => rfl, tyX6_ok, nmX6, fun h => absurd h (by decide), fun _ => Or.inr ⟨_, rfl⟩, fun h => absurd h (by decide)⟩
theorem kw_637 : Cond.methodLink RX7 1 Lib.objectInit ∈ jj_W := jj_Wof 637 (by decide +kernel) rfl
theorem kM_X7_1 : Cond.methodLink RX7 1 Lib.objectInit ∈ jj_W ∧ Cond.instanceMethod Lib.objectInit ∈ jj_W ∧ Cond.code Lib.objectInit ⟨#[0xb1]⟩ 1 none ∈ jj_W := ⟨kw_637, kw_34, kw_35⟩
theorem kw_643 : Cond.fieldLink RX7 7 (TX7 0).1 (TX7 0).2.1 (TX7 0).2.2.1 ∈ jj_W := jj_Wof 643 (by decide +kernel) rfl
theorem kF_X7_7 : jj_F RX7 7 7 0 0 := ⟨RX7, TX7, 9, tyX7, rfl, rfl, by decide, by decide, ku_7, kw_643, fun _ => rfl, tyX7_ok, nmX7, fun h => absurd h (by decide), fun _ => Or.inr ⟨_, rfl⟩, fun h => absurd h (by decide)⟩
theorem kw_638 : Cond.classLink RX7 13 "[I" ∈ jj_W := jj_Wof 638 (by decide +kernel) rfl
theorem kC_X7_13 : Cond.classLink RX7 13 "[I" ∈ jj_W := kw_638
theorem kw_645 : Cond.fieldLink RX7 14 (TX7 1).1 (TX7 1).2.1 (TX7 1).2.2.1 ∈ jj_W := jj_Wof 645 (by decide +kernel) rfl
theorem kF_X7_14 : jj_F RX7 14 7 1 0 := ⟨RX7, TX7, 9, tyX7, rfl, rfl, by decide, by decide, ku_7, kw_645, fun _ => rfl, tyX7_ok, nmX7, fun h => absurd h (by decide), fun _ => Or.inr ⟨_, rfl⟩, fun h => absurd h (by decide)⟩
theorem kw_647 : Cond.fieldLink RX7 18 (TX7 2).1 (TX7 2).2.1 (TX7 2).2.2.1 ∈ jj_W := jj_Wof 647 (by decide +kernel) rfl
theorem kF_X7_18 : jj_F RX7 18 7 2 0 := ⟨RX7, TX7, 9, tyX7, rfl, rfl, by decide, by decide, ku_7, kw_647, fun _ => rfl, tyX7_ok, nmX7, fun h => absurd h (by decide), fun _ => Or.inr ⟨_, rfl⟩, fun h => absurd h (by decide)⟩
theorem kw_649 : Cond.fieldLink RX7 21 (TX7 3).1 (TX7 3).2.1 (TX7 3).2.2.1 ∈ jj_W := jj_Wof 649 (by decide +kernel) rfl
theorem kF_X7_21 : jj_F RX7 21 7 3 0 := ⟨RX7, TX7, 9, tyX7, rfl, rfl, by decide, by decide, ku_7, kw_649, fun _ => rfl, tyX7_ok, nmX7, fun h => absurd h (by decide), fun _ => Or.inr ⟨_, rfl⟩, fun h => absurd h (by decide)⟩
theorem kw_650 : Cond.fieldLink RX7 24 (TX7 4).1 (TX7 4).2.1 (TX7 4).2.2.1 ∈ jj_W := jj_Wof 650 (by decide +kernel) rfl
theorem kF_X7_24 : jj_F RX7 24 7 4 0 := ⟨RX7, TX7, 9, tyX7, rfl, rfl, by decide, by decide, ku_7, kw_650, fun _ => rfl, tyX7_ok, nmX7, fun h => absurd h (by decide), fun _ => Or.inr ⟨_, rfl⟩, fun h => absurd h (by decide)⟩
theorem kw_639 : Cond.classLink RX7 27 "[[[I" ∈ jj_W := jj_Wof 639 (by decide +kernel) rfl
theorem kC_X7_27 : Cond.classLink RX7 27 "[[[I" ∈ jj_W := kw_639
theorem kw_652 : Cond.fieldLink RX7 29 (TX7 5).1 (TX7 5).2.1 (TX7 5).2.2.1 ∈ jj_W := jj_Wof 652 (by decide +kernel) rfl
theorem kF_X7_29 : jj_F RX7 29 7 5 0 := ⟨RX7, TX7, 9, tyX7, rfl, rfl, by decide, by decide, ku_7, kw_652, fun _ => rfl, tyX7_ok, nmX7, fun h => absurd h (by decide), fun _ => Or.inr ⟨_, rfl⟩, fun h => absurd h (by decide)⟩
theorem kw_641 : Cond.classLink RX7 32 "IceHarbourLaw$Boat" ∈ jj_W := jj_Wof 641 (by decide +kernel) rfl
theorem kC_X7_32 : Cond.classLink RX7 32 "IceHarbourLaw$Boat" ∈ jj_W := kw_641
theorem kw_654 : Cond.fieldLink RX7 34 (TX7 6).1 (TX7 6).2.1 (TX7 6).2.2.1 ∈ jj_W := jj_Wof 654 (by decide +kernel) rfl
theorem kF_X7_34 : jj_F RX7 34 7 6 0 := ⟨RX7, TX7, 9, tyX7, rfl, rfl, by decide, by decide, ku_7, kw_654, fun _ => rfl, tyX7_ok, nmX7, fun h => absurd h (by decide), fun _ => Or.inr ⟨_, rfl⟩, fun h => absurd h (by decide)⟩
theorem kw_656 : Cond.fieldLink RX7 38 (TX7 7).1 (TX7 7).2.1 (TX7 7).2.2.1 ∈ jj_W := jj_Wof 656 (by decide +kernel) rfl
theorem kF_X7_38 : jj_F RX7 38 7 7 0 := ⟨RX7, TX7, 9, tyX7, rfl, rfl, by decide, by decide, ku_7, kw_656, fun _ => rfl, tyX7_ok, nmX7, fun h => absurd h (by decide), fun _ => Or.inr ⟨_, rfl⟩, fun h => absurd h (by decide)⟩
theorem kw_733 : Cond.instantiable RX6 9 ∈ jj_W := jj_Wof 733 (by decide +kernel) rfl
theorem kN_X7_32 : jj_NW RX7 32 6 := ⟨RX6, TX6, 9, tyX6, rfl, rfl, by decide, ku_6, tyX6_ok, kw_641, kw_733, kw_24, by decide +kernel⟩
theorem kw_736 : Cond.code yX6_init cX6_init 1 none ∈ jj_W := jj_Wof 736 (by decide +kernel) rfl
theorem kw_735 : Cond.instanceMethod yX6_init ∈ jj_W := jj_Wof 735 (by decide +kernel) rfl
theorem kM_X7_54 : jj_MIN RX7 54 yX6_init cX6_init 1 0 := ⟨(by simp [jj_trav]), kw_735, rfl, kw_24, kw_736, by decide +kernel, by decide +kernel, by decide +kernel⟩
theorem kw_738 : Cond.fieldLink RX7 55 (TX6 0).1 (TX6 0).2.1 (TX6 0).2.2.1 ∈ jj_W := jj_Wof 738 (by decide +kernel) rfl
theorem kF_X7_55 : jj_F RX7 55 6 0 0 := ⟨RX6, TX6, 9, tyX6, rfl, rfl, by decide, by decide, ku_6, kw_738, fun _ => rfl, tyX6_ok, nmX6, fun _ => rfl, fun h => absurd h (by decide), fun h => absurd h (by decide)⟩
theorem kw_743 : Cond.fieldLink RX7 58 (TX6 2).1 (TX6 2).2.1 (TX6 2).2.2.1 ∈ jj_W := jj_Wof 743 (by decide +kernel) rfl
theorem kF_X7_58 : jj_F RX7 58 6 2 0 := ⟨RX6, TX6, 9, tyX6, rfl, rfl, by decide, by decide, ku_6, kw_743, fun _ => rfl, tyX6_ok, nmX6, fun _ => rfl, fun h => absurd h (by decide), fun h => absurd h (by decide)⟩
theorem kw_747 : Cond.fieldLink RX7 61 (TX6 4).1 (TX6 4).2.1 (TX6 4).2.2.1 ∈ jj_W := jj_Wof 747 (by decide +kernel) rfl
theorem kF_X7_61 : jj_F RX7 61 6 4 0 := ⟨RX6, TX6, 9, tyX6, rfl, rfl, by decide, by decide, ku_6, kw_747, fun _ => rfl, tyX6_ok, nmX6, fun _ => rfl, fun h => absurd h (by decide), fun h => absurd h (by decide)⟩
theorem kw_749 : Cond.fieldLink RX7 64 (TX6 5).1 (TX6 5).2.1 (TX6 5).2.2.1 ∈ jj_W := jj_Wof 749 (by decide +kernel) rfl
theorem kF_X7_64 : jj_F RX7 64 6 5 0 := ⟨RX6, TX6, 9, tyX6, rfl, rfl, by decide, by decide, ku_6, kw_749, fun _ => rfl, tyX6_ok, nmX6, fun _ => rfl, fun h => absurd h (by decide), fun h => absurd h (by decide)⟩
theorem kw_746 : Cond.fieldLink RX7 67 (TX6 3).1 (TX6 3).2.1 (TX6 3).2.2.1 ∈ jj_W := jj_Wof 746 (by decide +kernel) rfl
theorem kF_X7_67 : jj_F RX7 67 6 3 0 := ⟨RX6, TX6, 9, tyX6, rfl, rfl, by decide, by decide, ku_6, kw_746, fun _ => rfl, tyX6_ok, nmX6, fun _ => rfl, fun h => absurd h (by decide), fun h => absurd h (by decide)⟩
theorem kw_659 : Cond.fieldLink RX7 50 (TX7 8).1 (TX7 8).2.1 (TX7 8).2.2.1 ∈ jj_W := jj_Wof 659 (by decide +kernel) rfl
theorem kF_X7_50 : jj_F RX7 50 7 8 0 := ⟨RX7, TX7, 9, tyX7, rfl, rfl, by decide, by decide, ku_7, kw_659, fun _ => rfl, tyX7_ok, nmX7, fun _ => rfl, fun h => absurd h (by decide), fun h => absurd h (by decide)⟩
theorem kw_753 : Cond.fieldLink RX7 70 (TX6 7).1 (TX6 7).2.1 (TX6 7).2.2.1 ∈ jj_W := jj_Wof 753 (by decide +kernel) rfl
theorem kF_X7_70 : jj_F RX7 70 6 7 0 := ⟨RX6, TX6, 9, tyX6, rfl, rfl, by decide, by decide, ku_6, kw_753, fun _ => rfl, tyX6_ok, nmX6, fun _ => rfl, fun h => absurd h (by decide), fun h => absurd h (by decide)⟩
theorem kw_752 : Cond.fieldLink RX7 73 (TX6 6).1 (TX6 6).2.1 (TX6 6).2.2.1 ∈ jj_W := jj_Wof 752 (by decide +kernel) rfl
theorem kF_X7_73 : jj_F RX7 73 6 6 0 := ⟨RX6, TX6, 9, tyX6, rfl, rfl, by decide, by decide, ku_6, kw_752, fun _ => rfl, tyX6_ok, nmX6, fun _ => rfl, fun h => absurd h (by decide), fun h => absurd h (by decide)⟩
theorem kw_591 : Cond.methodLink RX7 76 yX7_around ∈ jj_W := jj_Wof 591 (by decide +kernel) rfl
theorem kw_594 : Cond.code yX7_around cX7_around 2 (some .int) ∈ jj_W := jj_Wof 594 (by decide +kernel) rfl
theorem kw_592 : Cond.instanceMethod yX7_around ∈ jj_W := jj_Wof 592 (by decide +kernel) rfl
theorem kw_593 : Cond.selects RX7 yX7_around yX7_around ∈ jj_W := jj_Wof 593 (by decide +kernel) rfl
theorem kM_X7_76 : jj_MV RX7 76 yX7_around cX7_around 2 (some .int) 1 := ⟨kw_591, kw_592, kw_593, kw_17, kw_594, by decide +kernel, by decide +kernel, by decide +kernel⟩
theorem kw_742 : Cond.fieldLink RX7 80 (TX6 1).1 (TX6 1).2.1 (TX6 1).2.2.1 ∈ jj_W := jj_Wof 742 (by decide +kernel) rfl
theorem kF_X7_80 : jj_F RX7 80 6 1 0 := ⟨RX6, TX6, 9, tyX6, rfl, rfl, by decide, by decide, ku_6, kw_742, fun _ => rfl, tyX6_ok, nmX6, fun _ => rfl, fun h => absurd h (by decide), fun h => absurd h (by decide)⟩
theorem kw_756 : Cond.fieldLink RX7 83 (TX6 8).1 (TX6 8).2.1 (TX6 8).2.2.1 ∈ jj_W := jj_Wof 756 (by decide +kernel) rfl
theorem kF_X7_83 : jj_F RX7 83 6 8 0 := ⟨RX6, TX6, 9, tyX6, rfl, rfl, by decide, by decide, ku_6, kw_756, fun _ => rfl, tyX6_ok, nmX6, fun h => absurd h (by decide), fun _ => Or.inr ⟨_, rfl⟩, fun h => absurd h (by decide)⟩
theorem kw_578 : Cond.methodLink RX7 86 yX7_sunk ∈ jj_W := jj_Wof 578 (by decide +kernel) rfl
theorem kw_581 : Cond.code yX7_sunk cX7_sunk 6 (some .int) ∈ jj_W := jj_Wof 581 (by decide +kernel) rfl
theorem kw_579 : Cond.instanceMethod yX7_sunk ∈ jj_W := jj_Wof 579 (by decide +kernel) rfl
theorem kw_580 : Cond.selects RX7 yX7_sunk yX7_sunk ∈ jj_W := jj_Wof 580 (by decide +kernel) rfl
theorem kM_X7_86 : jj_MV RX7 86 yX7_sunk cX7_sunk 6 (some .int) 0 := ⟨kw_578, kw_579, kw_580, kw_17, kw_581, by decide +kernel, by decide +kernel, by decide +kernel⟩
theorem kw_582 : Cond.methodLink RX7 90 yX7_freeze ∈ jj_W := jj_Wof 582 (by decide +kernel) rfl
theorem kw_585 : Cond.code yX7_freeze cX7_freeze 3 none ∈ jj_W := jj_Wof 585 (by decide +kernel) rfl
theorem kw_583 : Cond.instanceMethod yX7_freeze ∈ jj_W := jj_Wof 583 (by decide +kernel) rfl
theorem kw_584 : Cond.selects RX7 yX7_freeze yX7_freeze ∈ jj_W := jj_Wof 584 (by decide +kernel) rfl
theorem kM_X7_90 : jj_MV RX7 90 yX7_freeze cX7_freeze 3 none 0 := ⟨kw_582, kw_583, kw_584, kw_17, kw_585, by decide +kernel, by decide +kernel, by decide +kernel⟩
theorem kw_586 : Cond.methodLink RX7 93 yX7_sail ∈ jj_W := jj_Wof 586 (by decide +kernel) rfl
theorem kw_590 : Cond.code yX7_sail cX7_sail 4 none ∈ jj_W := jj_Wof 590 (by decide +kernel) rfl
theorem kw_588 : Cond.instanceMethod yX7_sail ∈ jj_W := jj_Wof 588 (by decide +kernel) rfl
theorem kw_9 : Cond.selects RX7 yX7_sail yX7_sail ∈ jj_W := jj_Wof 9 (by decide +kernel) rfl
theorem kM_X7_93 : jj_MV RX7 93 yX7_sail cX7_sail 4 none 1 := ⟨kw_586, kw_588, kw_9, kw_17, kw_590, by decide +kernel, by decide +kernel, by decide +kernel⟩
theorem kw_595 : Cond.methodLink RX7 97 yX7_pays ∈ jj_W := jj_Wof 595 (by decide +kernel) rfl
theorem kM_X7_97 : jj_MV RX7 97 yX7_pays cX7_pays 3 (some .boolean) 2 := ⟨kw_595, kw_596, kw_597, kw_17, kw_598, by decide +kernel, by decide +kernel, by decide +kernel⟩
theorem kw_603 : Cond.methodLink RX7 101 yX7_in ∈ jj_W := jj_Wof 603 (by decide +kernel) rfl
theorem kM_X7_101 : jj_MV RX7 101 yX7_in cX7_in 8 (some .int) 2 := ⟨kw_603, kw_604, kw_605, kw_17, kw_606, by decide +kernel, by decide +kernel, by decide +kernel⟩
theorem kw_607 : Cond.methodLink RX7 105 yX5_harbour ∈ jj_W := jj_Wof 607 (by decide +kernel) rfl
theorem kM_X7_105 : jj_MV RX7 105 yX5_harbour cX5_harbour 3 (some .int) 2 := ⟨kw_607, kw_237, kw_238, kw_11, kw_239, by decide +kernel, by decide +kernel, by decide +kernel⟩
theorem kw_608 : Cond.methodLink RX7 110 yX5_leg ∈ jj_W := jj_Wof 608 (by decide +kernel) rfl
theorem kM_X7_110 : jj_MV RX7 110 yX5_leg cX5_leg 3 (some .int) 2 := ⟨kw_608, kw_341, kw_342, kw_11, kw_343, by decide +kernel, by decide +kernel, by decide +kernel⟩
theorem kw_609 : Cond.methodLink RX7 112 yX6_all ∈ jj_W := jj_Wof 609 (by decide +kernel) rfl
theorem kM_X7_112 : jj_MV RX7 112 yX6_all cX6_all 1 (some .int) 0 := ⟨kw_609, kw_610, kw_611, kw_24, kw_612, by decide +kernel, by decide +kernel, by decide +kernel⟩
theorem kw_613 : Cond.methodLink RX7 115 yX5_stock ∈ jj_W := jj_Wof 613 (by decide +kernel) rfl
theorem kM_X7_115 : jj_MV RX7 115 yX5_stock cX5_stock 4 (some .int) 3 := ⟨kw_613, kw_362, kw_363, kw_11, kw_364, by decide +kernel, by decide +kernel, by decide +kernel⟩
theorem kw_614 : Cond.methodLink RX7 118 yX5_merchant ∈ jj_W := jj_Wof 614 (by decide +kernel) rfl
theorem kM_X7_118 : jj_MV RX7 118 yX5_merchant cX5_merchant 3 (some .int) 2 := ⟨kw_614, kw_370, kw_371, kw_11, kw_372, by decide +kernel, by decide +kernel, by decide +kernel⟩
theorem kw_615 : Cond.methodLink RX7 121 yX5_boat ∈ jj_W := jj_Wof 615 (by decide +kernel) rfl
theorem kM_X7_121 : jj_MV RX7 121 yX5_boat cX5_boat 3 (some .int) 2 := ⟨kw_615, kw_398, kw_399, kw_11, kw_400, by decide +kernel, by decide +kernel, by decide +kernel⟩
theorem kw_616 : Cond.methodLink RX7 124 yX5_debt ∈ jj_W := jj_Wof 616 (by decide +kernel) rfl
theorem kM_X7_124 : jj_MV RX7 124 yX5_debt cX5_debt 3 (some .int) 2 := ⟨kw_616, kw_410, kw_411, kw_11, kw_412, by decide +kernel, by decide +kernel, by decide +kernel⟩
theorem kw_617 : Cond.methodLink RX7 127 yX5_count ∈ jj_W := jj_Wof 617 (by decide +kernel) rfl
theorem kM_X7_127 : jj_MV RX7 127 yX5_count cX5_count 2 (some .int) 1 := ⟨kw_617, kw_506, kw_507, kw_11, kw_508, by decide +kernel, by decide +kernel, by decide +kernel⟩
theorem kw_618 : Cond.methodLink RX7 130 yX5_mean ∈ jj_W := jj_Wof 618 (by decide +kernel) rfl
theorem kw_621 : Cond.code yX5_mean cX5_mean 4 (some .double) ∈ jj_W := jj_Wof 621 (by decide +kernel) rfl
theorem kw_619 : Cond.instanceMethod yX5_mean ∈ jj_W := jj_Wof 619 (by decide +kernel) rfl
theorem kw_620 : Cond.selects RX5 yX5_mean yX5_mean ∈ jj_W := jj_Wof 620 (by decide +kernel) rfl
theorem kM_X7_130 : jj_MV RX7 130 yX5_mean cX5_mean 4 (some .double) 0 := ⟨kw_618, kw_619, kw_620, kw_11, kw_621, by decide +kernel, by decide +kernel, by decide +kernel⟩
theorem kA_int : Cond.arrayClass .int ∈ jj_W := jj_Wof 81 (by decide +kernel) rfl
theorem kt_arga : ∀ w ∈ vx_atS RX5 119 "java/lang/IllegalArgumentException" jj_sup, (goodWord w = true ∧ w ∈ lw_tbl) ∨ (w ∈ jj_trav ∧ w.onTables = true) := by decide +kernel
theorem kt_argb : ∀ w ∈ Cond.classLink RX5 115 "java/lang/IllegalArgumentException" :: Cond.initialized "java/lang/IllegalArgumentException" :: vx_atS RX5 119 "java/lang/IllegalArgumentException" jj_sup, vx_ot w = true := by decide +kernel
theorem kw_423 : Cond.classLink RX5 115 "java/lang/IllegalArgumentException" ∈ jj_W := jj_Wof 423 (by decide +kernel) rfl
theorem kw_22 : Cond.initialized "java/lang/IllegalArgumentException" ∈ jj_W := jj_Wof 22 (by decide +kernel) rfl
theorem kT_117 : jj_T 115 117 119 "java/lang/IllegalArgumentException" "nothing is loaded" := ⟨kw_423, kw_22, by simp [jj_strs], by decide +kernel, kt_arga, kt_argb⟩
theorem kt_illa : ∀ w ∈ vx_atS RX5 155 "java/lang/IllegalStateException" jj_sup, (goodWord w = true ∧ w ∈ lw_tbl) ∨ (w ∈ jj_trav ∧ w.onTables = true) := by decide +kernel
theorem kt_illb : ∀ w ∈ Cond.classLink RX5 151 "java/lang/IllegalStateException" :: Cond.initialized "java/lang/IllegalStateException" :: vx_atS RX5 155 "java/lang/IllegalStateException" jj_sup, vx_ot w = true := by decide +kernel
theorem kw_690 : Cond.classLink RX5 151 "java/lang/IllegalStateException" ∈ jj_W := jj_Wof 690 (by decide +kernel) rfl
theorem kw_23 : Cond.initialized "java/lang/IllegalStateException" ∈ jj_W := jj_Wof 23 (by decide +kernel) rfl
theorem kT_153 : jj_T 151 153 155 "java/lang/IllegalStateException" "the boat is sunk" := ⟨kw_690, kw_23, by simp [jj_strs], by decide +kernel, kt_illa, kt_illb⟩
theorem kT_178 : jj_T 115 178 119 "java/lang/IllegalArgumentException" "nobody lends to himself" := ⟨kw_423, kw_22, by simp [jj_strs], by decide +kernel, kt_arga, kt_argb⟩
theorem kT_203 : jj_T 151 203 155 "java/lang/IllegalStateException" "the debt is not open" := ⟨kw_690, kw_23, by simp [jj_strs], by decide +kernel, kt_illa, kt_illb⟩
theorem kt_ooba : ∀ w ∈ vx_atS RX5 284 "java/lang/IndexOutOfBoundsException" jj_sup, (goodWord w = true ∧ w ∈ lw_tbl) ∨ (w ∈ jj_trav ∧ w.onTables = true) := by decide +kernel
theorem kt_oobb : ∀ w ∈ Cond.classLink RX5 280 "java/lang/IndexOutOfBoundsException" :: Cond.initialized "java/lang/IndexOutOfBoundsException" :: vx_atS RX5 284 "java/lang/IndexOutOfBoundsException" jj_sup, vx_ot w = true := by decide +kernel
theorem kw_247 : Cond.classLink RX5 280 "java/lang/IndexOutOfBoundsException" ∈ jj_W := jj_Wof 247 (by decide +kernel) rfl
theorem kw_21 : Cond.initialized "java/lang/IndexOutOfBoundsException" ∈ jj_W := jj_Wof 21 (by decide +kernel) rfl
theorem kT_282 : jj_T 280 282 284 "java/lang/IndexOutOfBoundsException" "there is no such number" := ⟨kw_247, kw_21, by simp [jj_strs], by decide +kernel, kt_ooba, kt_oobb⟩
theorem kT_285 : jj_T 115 285 119 "java/lang/IllegalArgumentException" "the number is too small or too great" := ⟨kw_423, kw_22, by simp [jj_strs], by decide +kernel, kt_arga, kt_argb⟩
theorem kT_287 : jj_T 115 287 119 "java/lang/IllegalArgumentException" "the number is too small" := ⟨kw_423, kw_22, by simp [jj_strs], by decide +kernel, kt_arga, kt_argb⟩
theorem kT_289 : jj_T 151 289 155 "java/lang/IllegalStateException" "there are as many as there can be" := ⟨kw_690, kw_23, by simp [jj_strs], by decide +kernel, kt_illa, kt_illb⟩
theorem kT_291 : jj_T 151 291 155 "java/lang/IllegalStateException" "there is not so much" := ⟨kw_690, kw_23, by simp [jj_strs], by decide +kernel, kt_illa, kt_illb⟩
theorem kT_296 : jj_T 151 296 155 "java/lang/IllegalStateException" "the boat is in no harbour" := ⟨kw_690, kw_23, by simp [jj_strs], by decide +kernel, kt_illa, kt_illb⟩
