/-! what the pool entries link to -/
theorem ku_0 : ∀ w ∈ u_ws RX0 TX0 9, w ∈ jj_W := fun w hw => List.mem_filter.mpr (((by decide +kernel : ∀ w ∈ u_ws RX0 TX0 9, w ∈ lw_tbl ∧ goodWord w = true) w hw))
theorem ku_1 : ∀ w ∈ u_ws RX1 TX1 7, w ∈ jj_W := fun w hw => List.mem_filter.mpr (((by decide +kernel : ∀ w ∈ u_ws RX1 TX1 7, w ∈ lw_tbl ∧ goodWord w = true) w hw))
theorem ku_2 : ∀ w ∈ u_ws RX2 TX2 2, w ∈ jj_W := fun w hw => List.mem_filter.mpr (((by decide +kernel : ∀ w ∈ u_ws RX2 TX2 2, w ∈ lw_tbl ∧ goodWord w = true) w hw))
theorem ku_3 : ∀ w ∈ u_ws RX3 TX3 7, w ∈ jj_W := fun w hw => List.mem_filter.mpr (((by decide +kernel : ∀ w ∈ u_ws RX3 TX3 7, w ∈ lw_tbl ∧ goodWord w = true) w hw))
theorem ku_4 : ∀ w ∈ u_ws RX4 TX4 7, w ∈ jj_W := fun w hw => List.mem_filter.mpr (((by decide +kernel : ∀ w ∈ u_ws RX4 TX4 7, w ∈ lw_tbl ∧ goodWord w = true) w hw))
theorem ku_5 : ∀ w ∈ u_ws RX5 TX5 4, w ∈ jj_W := fun w hw => List.mem_filter.mpr (((by decide +kernel : ∀ w ∈ u_ws RX5 TX5 4, w ∈ lw_tbl ∧ goodWord w = true) w hw))
theorem ku_6 : ∀ w ∈ u_ws RX6 TX6 9, w ∈ jj_W := fun w hw => List.mem_filter.mpr (((by decide +kernel : ∀ w ∈ u_ws RX6 TX6 9, w ∈ lw_tbl ∧ goodWord w = true) w hw))
theorem ku_7 : ∀ w ∈ u_ws RX7 TX7 9, w ∈ jj_W := fun w hw => List.mem_filter.mpr (((by decide +kernel : ∀ w ∈ u_ws RX7 TX7 9, w ∈ lw_tbl ∧ goodWord w = true) w hw))
theorem kw_33 : Cond.methodLink RX5 3 Lib.objectInit ∈ jj_W := jj_Wof 33 (by decide +kernel) rfl
theorem kw_34 : Cond.instanceMethod Lib.objectInit ∈ jj_W := jj_Wof 34 (by decide +kernel) rfl
theorem kw_35 : Cond.code Lib.objectInit ⟨#[0xb1]⟩ 1 none ∈ jj_W := jj_Wof 35 (by decide +kernel) rfl
theorem kM_X5_3 : Cond.methodLink RX5 3 Lib.objectInit ∈ jj_W ∧ Cond.instanceMethod Lib.objectInit ∈ jj_W ∧ Cond.code Lib.objectInit ⟨#[0xb1]⟩ 1 none ∈ jj_W := ⟨kw_33, kw_34, kw_35⟩
theorem kw_36 : Cond.classLink RX5 9 RX4 ∈ jj_W := jj_Wof 36 (by decide +kernel) rfl
theorem kw_37 : Cond.instantiable RX4 7 ∈ jj_W := jj_Wof 37 (by decide +kernel) rfl
theorem kw_12 : Cond.initialized RX4 ∈ jj_W := jj_Wof 12 (by decide +kernel) rfl
theorem kN_X5_9 : jj_NW RX5 9 4 := ⟨RX4, TX4, 7, tyX4, rfl, rfl, by decide, ku_4, tyX4_ok, kw_36, kw_37, kw_12, by decide +kernel⟩
theorem kw_38 : Cond.methodLink RX5 11 yX4_init ∈ jj_W := jj_Wof 38 (by decide +kernel) rfl
theorem kw_40 : Cond.code yX4_init cX4_init 2 none ∈ jj_W := jj_Wof 40 (by decide +kernel) rfl
theorem kw_39 : Cond.instanceMethod yX4_init ∈ jj_W := jj_Wof 39 (by decide +kernel) rfl
theorem kM_X5_11 : jj_MI RX5 11 yX4_init cX4_init 2 0 := ⟨kw_38, kw_39, rfl, kw_12, kw_40, by decide +kernel, by decide +kernel, by decide +kernel⟩
theorem kw_223 : Cond.fieldLink RX5 12 (TX5 0).1 (TX5 0).2.1 (TX5 0).2.2.1 ∈ jj_W := jj_Wof 223 (by decide +kernel) rfl
theorem kF_X5_12 : jj_F RX5 12 5 0 1 := ⟨RX5, TX5, 4, tyX5, rfl, rfl, by decide, by decide, ku_5, kw_223, fun h => absurd h (by decide), tyX5_ok, nmX5, fun h => absurd h (by decide), fun _ => Or.inl ⟨_, rfl⟩, fun _ => ⟨rfl, rfl⟩⟩
theorem kw_193 : Cond.fieldLink RX5 16 (TX4 0).1 (TX4 0).2.1 (TX4 0).2.2.1 ∈ jj_W := jj_Wof 193 (by decide +kernel) rfl
theorem kF_X5_16 : jj_F RX5 16 4 0 2 := ⟨RX4, TX4, 7, tyX4, rfl, rfl, by decide, by decide, ku_4, kw_193, fun h => absurd h (by decide), tyX4_ok, nmX4, fun h => absurd h (by decide), fun _ => Or.inl ⟨_, rfl⟩, fun h => absurd h (by decide)⟩
theorem kw_224 : Cond.fieldLink RX5 20 (TX5 1).1 (TX5 1).2.1 (TX5 1).2.2.1 ∈ jj_W := jj_Wof 224 (by decide +kernel) rfl
theorem kF_X5_20 : jj_F RX5 20 5 1 1 := ⟨RX5, TX5, 4, tyX5, rfl, rfl, by decide, by decide, ku_5, kw_224, fun h => absurd h (by decide), tyX5_ok, nmX5, fun h => absurd h (by decide), fun _ => Or.inl ⟨_, rfl⟩, fun _ => ⟨rfl, rfl⟩⟩
theorem kw_225 : Cond.fieldLink RX5 21 (TX5 2).1 (TX5 2).2.1 (TX5 2).2.2.1 ∈ jj_W := jj_Wof 225 (by decide +kernel) rfl
theorem kF_X5_21 : jj_F RX5 21 5 2 1 := ⟨RX5, TX5, 4, tyX5, rfl, rfl, by decide, by decide, ku_5, kw_225, fun h => absurd h (by decide), tyX5_ok, nmX5, fun h => absurd h (by decide), fun _ => Or.inl ⟨_, rfl⟩, fun _ => ⟨rfl, rfl⟩⟩
theorem kw_221 : Cond.classLink RX5 24 "[[I" ∈ jj_W := jj_Wof 221 (by decide +kernel) rfl
theorem kC_X5_24 : Cond.classLink RX5 24 "[[I" ∈ jj_W := kw_221
theorem kw_226 : Cond.fieldLink RX5 26 (TX5 3).1 (TX5 3).2.1 (TX5 3).2.2.1 ∈ jj_W := jj_Wof 226 (by decide +kernel) rfl
theorem kF_X5_26 : jj_F RX5 26 5 3 1 := ⟨RX5, TX5, 4, tyX5, rfl, rfl, by decide, by decide, ku_5, kw_226, fun h => absurd h (by decide), tyX5_ok, nmX5, fun h => absurd h (by decide), fun _ => Or.inr ⟨_, rfl⟩, fun _ => ⟨rfl, rfl⟩⟩
theorem kw_244 : Cond.methodLink RX5 29 yX5_needIndex ∈ jj_W := jj_Wof 244 (by decide +kernel) rfl
theorem kw_11 : Cond.initialized RX5 ∈ jj_W := jj_Wof 11 (by decide +kernel) rfl
theorem kw_246 : Cond.code yX5_needIndex cX5_needIndex 2 none ∈ jj_W := jj_Wof 246 (by decide +kernel) rfl
theorem kw_245 : Cond.static yX5_needIndex ∈ jj_W := jj_Wof 245 (by decide +kernel) rfl
theorem kM_X5_29 : jj_MS RX5 29 yX5_needIndex cX5_needIndex 2 none 2 := ⟨kw_244, kw_245, kw_11, kw_246, by decide +kernel, by decide +kernel, by decide +kernel⟩
theorem kw_420 : Cond.methodLink RX5 33 yX5_needNumber ∈ jj_W := jj_Wof 420 (by decide +kernel) rfl
theorem kw_422 : Cond.code yX5_needNumber cX5_needNumber 3 none ∈ jj_W := jj_Wof 422 (by decide +kernel) rfl
theorem kw_421 : Cond.static yX5_needNumber ∈ jj_W := jj_Wof 421 (by decide +kernel) rfl
theorem kM_X5_33 : jj_MS RX5 33 yX5_needNumber cX5_needNumber 3 none 3 := ⟨kw_420, kw_421, kw_11, kw_422, by decide +kernel, by decide +kernel, by decide +kernel⟩
theorem kw_54 : Cond.fieldLink RX5 37 (TX3 2).1 (TX3 2).2.1 (TX3 2).2.2.1 ∈ jj_W := jj_Wof 54 (by decide +kernel) rfl
theorem kF_X5_37 : jj_F RX5 37 3 2 2 := ⟨RX3, TX3, 7, tyX3, rfl, rfl, by decide, by decide, ku_3, kw_54, fun h => absurd h (by decide), tyX3_ok, nmX3, fun h => absurd h (by decide), fun _ => Or.inr ⟨_, rfl⟩, fun h => absurd h (by decide)⟩
theorem kw_52 : Cond.fieldLink RX5 43 (TX3 1).1 (TX3 1).2.1 (TX3 1).2.2.1 ∈ jj_W := jj_Wof 52 (by decide +kernel) rfl
theorem kF_X5_43 : jj_F RX5 43 3 1 0 := ⟨RX3, TX3, 7, tyX3, rfl, rfl, by decide, by decide, ku_3, kw_52, fun _ => rfl, tyX3_ok, nmX3, fun _ => rfl, fun h => absurd h (by decide), fun h => absurd h (by decide)⟩
theorem kw_687 : Cond.methodLink RX5 47 yX5_needRoomForOneMore ∈ jj_W := jj_Wof 687 (by decide +kernel) rfl
theorem kw_689 : Cond.code yX5_needRoomForOneMore cX5_needRoomForOneMore 2 none ∈ jj_W := jj_Wof 689 (by decide +kernel) rfl
theorem kw_688 : Cond.static yX5_needRoomForOneMore ∈ jj_W := jj_Wof 688 (by decide +kernel) rfl
theorem kM_X5_47 : jj_MS RX5 47 yX5_needRoomForOneMore cX5_needRoomForOneMore 2 none 2 := ⟨kw_687, kw_688, kw_11, kw_689, by decide +kernel, by decide +kernel, by decide +kernel⟩
theorem kw_706 : Cond.methodLink RX5 50 yX3_grow ∈ jj_W := jj_Wof 706 (by decide +kernel) rfl
theorem kw_13 : Cond.initialized RX3 ∈ jj_W := jj_Wof 13 (by decide +kernel) rfl
theorem kw_709 : Cond.code yX3_grow cX3_grow 4 (some .int) ∈ jj_W := jj_Wof 709 (by decide +kernel) rfl
theorem kw_707 : Cond.instanceMethod yX3_grow ∈ jj_W := jj_Wof 707 (by decide +kernel) rfl
theorem kw_708 : Cond.selects RX3 yX3_grow yX3_grow ∈ jj_W := jj_Wof 708 (by decide +kernel) rfl
theorem kM_X5_50 : jj_MV RX5 50 yX3_grow cX3_grow 4 (some .int) 2 := ⟨kw_706, kw_707, kw_708, kw_13, kw_709, by decide +kernel, by decide +kernel, by decide +kernel⟩
theorem kw_240 : Cond.methodLink RX5 54 yX5_needHarbour ∈ jj_W := jj_Wof 240 (by decide +kernel) rfl
theorem kw_243 : Cond.code yX5_needHarbour cX5_needHarbour 2 none ∈ jj_W := jj_Wof 243 (by decide +kernel) rfl
theorem kw_242 : Cond.instanceMethod yX5_needHarbour ∈ jj_W := jj_Wof 242 (by decide +kernel) rfl
theorem kw_0 : Cond.selects RX5 yX5_needHarbour yX5_needHarbour ∈ jj_W := jj_Wof 0 (by decide +kernel) rfl
theorem kM_X5_54 : jj_MV RX5 54 yX5_needHarbour cX5_needHarbour 2 none 1 := ⟨kw_240, kw_242, kw_0, kw_11, kw_243, by decide +kernel, by decide +kernel, by decide +kernel⟩
theorem kw_64 : Cond.fieldLink RX5 58 (TX3 6).1 (TX3 6).2.1 (TX3 6).2.2.1 ∈ jj_W := jj_Wof 64 (by decide +kernel) rfl
theorem kF_X5_58 : jj_F RX5 58 3 6 2 := ⟨RX3, TX3, 7, tyX3, rfl, rfl, by decide, by decide, ku_3, kw_64, fun h => absurd h (by decide), tyX3_ok, nmX3, fun h => absurd h (by decide), fun _ => Or.inr ⟨_, rfl⟩, fun h => absurd h (by decide)⟩
theorem kw_337 : Cond.methodLink RX5 61 yX5_cellOf ∈ jj_W := jj_Wof 337 (by decide +kernel) rfl
theorem kw_339 : Cond.code yX5_cellOf cX5_cellOf 2 (some .int) ∈ jj_W := jj_Wof 339 (by decide +kernel) rfl
theorem kw_338 : Cond.static yX5_cellOf ∈ jj_W := jj_Wof 338 (by decide +kernel) rfl
theorem kM_X5_61 : jj_MS RX5 61 yX5_cellOf cX5_cellOf 2 (some .int) 2 := ⟨kw_337, kw_338, kw_11, kw_339, by decide +kernel, by decide +kernel, by decide +kernel⟩
theorem kw_315 : Cond.methodLink RX5 64 yX5_harbourFact ∈ jj_W := jj_Wof 315 (by decide +kernel) rfl
theorem kw_318 : Cond.code yX5_harbourFact cX5_harbourFact 3 (some .int) ∈ jj_W := jj_Wof 318 (by decide +kernel) rfl
theorem kw_317 : Cond.instanceMethod yX5_harbourFact ∈ jj_W := jj_Wof 317 (by decide +kernel) rfl
theorem kw_2 : Cond.selects RX5 yX5_harbourFact yX5_harbourFact ∈ jj_W := jj_Wof 2 (by decide +kernel) rfl
theorem kM_X5_64 : jj_MV RX5 64 yX5_harbourFact cX5_harbourFact 3 (some .int) 2 := ⟨kw_315, kw_317, kw_2, kw_11, kw_318, by decide +kernel, by decide +kernel, by decide +kernel⟩
theorem kw_344 : Cond.methodLink RX5 67 yX5_needLeg ∈ jj_W := jj_Wof 344 (by decide +kernel) rfl
theorem kw_347 : Cond.code yX5_needLeg cX5_needLeg 2 none ∈ jj_W := jj_Wof 347 (by decide +kernel) rfl
theorem kw_346 : Cond.instanceMethod yX5_needLeg ∈ jj_W := jj_Wof 346 (by decide +kernel) rfl
theorem kw_3 : Cond.selects RX5 yX5_needLeg yX5_needLeg ∈ jj_W := jj_Wof 3 (by decide +kernel) rfl
theorem kM_X5_67 : jj_MV RX5 67 yX5_needLeg cX5_needLeg 2 none 1 := ⟨kw_344, kw_346, kw_3, kw_11, kw_347, by decide +kernel, by decide +kernel, by decide +kernel⟩
theorem kw_349 : Cond.methodLink RX5 70 yX5_legFact ∈ jj_W := jj_Wof 349 (by decide +kernel) rfl
theorem kw_352 : Cond.code yX5_legFact cX5_legFact 3 (some .int) ∈ jj_W := jj_Wof 352 (by decide +kernel) rfl
theorem kw_351 : Cond.instanceMethod yX5_legFact ∈ jj_W := jj_Wof 351 (by decide +kernel) rfl
theorem kw_4 : Cond.selects RX5 yX5_legFact yX5_legFact ∈ jj_W := jj_Wof 4 (by decide +kernel) rfl
theorem kM_X5_70 : jj_MV RX5 70 yX5_legFact cX5_legFact 3 (some .int) 2 := ⟨kw_349, kw_351, kw_4, kw_11, kw_352, by decide +kernel, by decide +kernel, by decide +kernel⟩
theorem kw_195 : Cond.fieldLink RX5 73 (TX4 1).1 (TX4 1).2.1 (TX4 1).2.2.1 ∈ jj_W := jj_Wof 195 (by decide +kernel) rfl
theorem kF_X5_73 : jj_F RX5 73 4 1 0 := ⟨RX4, TX4, 7, tyX4, rfl, rfl, by decide, by decide, ku_4, kw_195, fun _ => rfl, tyX4_ok, nmX4, fun _ => rfl, fun h => absurd h (by decide), fun h => absurd h (by decide)⟩
theorem kw_201 : Cond.fieldLink RX5 76 (TX4 4).1 (TX4 4).2.1 (TX4 4).2.2.1 ∈ jj_W := jj_Wof 201 (by decide +kernel) rfl
theorem kF_X5_76 : jj_F RX5 76 4 4 2 := ⟨RX4, TX4, 7, tyX4, rfl, rfl, by decide, by decide, ku_4, kw_201, fun h => absurd h (by decide), tyX4_ok, nmX4, fun h => absurd h (by decide), fun _ => Or.inr ⟨_, rfl⟩, fun h => absurd h (by decide)⟩
theorem kw_94 : Cond.fieldLink RX5 80 (TX2 0).1 (TX2 0).2.1 (TX2 0).2.2.1 ∈ jj_W := jj_Wof 94 (by decide +kernel) rfl
theorem kF_X5_80 : jj_F RX5 80 2 0 0 := ⟨RX2, TX2, 2, tyX2, rfl, rfl, by decide, by decide, ku_2, kw_94, fun _ => rfl, tyX2_ok, nmX2, fun _ => rfl, fun h => absurd h (by decide), fun h => absurd h (by decide)⟩
theorem kw_365 : Cond.methodLink RX5 85 yX5_needMerchant ∈ jj_W := jj_Wof 365 (by decide +kernel) rfl
theorem kw_368 : Cond.code yX5_needMerchant cX5_needMerchant 2 none ∈ jj_W := jj_Wof 368 (by decide +kernel) rfl
theorem kw_367 : Cond.instanceMethod yX5_needMerchant ∈ jj_W := jj_Wof 367 (by decide +kernel) rfl
theorem kw_5 : Cond.selects RX5 yX5_needMerchant yX5_needMerchant ∈ jj_W := jj_Wof 5 (by decide +kernel) rfl
theorem kM_X5_85 : jj_MV RX5 85 yX5_needMerchant cX5_needMerchant 2 none 1 := ⟨kw_365, kw_367, kw_5, kw_11, kw_368, by decide +kernel, by decide +kernel, by decide +kernel⟩
theorem kw_97 : Cond.fieldLink RX5 88 (TX2 1).1 (TX2 1).2.1 (TX2 1).2.2.1 ∈ jj_W := jj_Wof 97 (by decide +kernel) rfl
theorem kF_X5_88 : jj_F RX5 88 2 1 2 := ⟨RX2, TX2, 2, tyX2, rfl, rfl, by decide, by decide, ku_2, kw_97, fun h => absurd h (by decide), tyX2_ok, nmX2, fun h => absurd h (by decide), fun _ => Or.inr ⟨_, rfl⟩, fun h => absurd h (by decide)⟩
theorem kw_787 : Cond.methodLink RX5 91 yX5_needAtLeast ∈ jj_W := jj_Wof 787 (by decide +kernel) rfl
theorem kw_789 : Cond.code yX5_needAtLeast cX5_needAtLeast 2 none ∈ jj_W := jj_Wof 789 (by decide +kernel) rfl
theorem kw_788 : Cond.static yX5_needAtLeast ∈ jj_W := jj_Wof 788 (by decide +kernel) rfl
theorem kM_X5_91 : jj_MS RX5 91 yX5_needAtLeast cX5_needAtLeast 2 none 2 := ⟨kw_787, kw_788, kw_11, kw_789, by decide +kernel, by decide +kernel, by decide +kernel⟩
theorem kw_791 : Cond.methodLink RX5 94 yX5_needEnough ∈ jj_W := jj_Wof 791 (by decide +kernel) rfl
theorem kw_793 : Cond.code yX5_needEnough cX5_needEnough 2 none ∈ jj_W := jj_Wof 793 (by decide +kernel) rfl
theorem kw_792 : Cond.static yX5_needEnough ∈ jj_W := jj_Wof 792 (by decide +kernel) rfl
theorem kM_X5_94 : jj_MS RX5 94 yX5_needEnough cX5_needEnough 2 none 2 := ⟨kw_791, kw_792, kw_11, kw_793, by decide +kernel, by decide +kernel, by decide +kernel⟩
theorem kw_373 : Cond.methodLink RX5 97 yX5_merchantFact ∈ jj_W := jj_Wof 373 (by decide +kernel) rfl
theorem kw_376 : Cond.code yX5_merchantFact cX5_merchantFact 3 (some .int) ∈ jj_W := jj_Wof 376 (by decide +kernel) rfl
theorem kw_375 : Cond.instanceMethod yX5_merchantFact ∈ jj_W := jj_Wof 375 (by decide +kernel) rfl
theorem kw_6 : Cond.selects RX5 yX5_merchantFact yX5_merchantFact ∈ jj_W := jj_Wof 6 (by decide +kernel) rfl
theorem kM_X5_97 : jj_MV RX5 97 yX5_merchantFact cX5_merchantFact 3 (some .int) 2 := ⟨kw_373, kw_375, kw_6, kw_11, kw_376, by decide +kernel, by decide +kernel, by decide +kernel⟩
theorem kw_197 : Cond.fieldLink RX5 100 (TX4 2).1 (TX4 2).2.1 (TX4 2).2.2.1 ∈ jj_W := jj_Wof 197 (by decide +kernel) rfl
theorem kF_X5_100 : jj_F RX5 100 4 2 0 := ⟨RX4, TX4, 7, tyX4, rfl, rfl, by decide, by decide, ku_4, kw_197, fun _ => rfl, tyX4_ok, nmX4, fun _ => rfl, fun h => absurd h (by decide), fun h => absurd h (by decide)⟩
theorem kw_203 : Cond.fieldLink RX5 103 (TX4 5).1 (TX4 5).2.1 (TX4 5).2.2.1 ∈ jj_W := jj_Wof 203 (by decide +kernel) rfl
theorem kF_X5_103 : jj_F RX5 103 4 5 2 := ⟨RX4, TX4, 7, tyX4, rfl, rfl, by decide, by decide, ku_4, kw_203, fun h => absurd h (by decide), tyX4_ok, nmX4, fun h => absurd h (by decide), fun _ => Or.inr ⟨_, rfl⟩, fun h => absurd h (by decide)⟩
theorem kw_725 : Cond.methodLink RX5 107 yX0_launch ∈ jj_W := jj_Wof 725 (by decide +kernel) rfl
theorem kw_15 : Cond.initialized RX0 ∈ jj_W := jj_Wof 15 (by decide +kernel) rfl
theorem kw_728 : Cond.code yX0_launch cX0_launch 4 none ∈ jj_W := jj_Wof 728 (by decide +kernel) rfl
theorem kw_726 : Cond.instanceMethod yX0_launch ∈ jj_W := jj_Wof 726 (by decide +kernel) rfl
theorem kw_727 : Cond.selects RX0 yX0_launch yX0_launch ∈ jj_W := jj_Wof 727 (by decide +kernel) rfl
theorem kM_X5_107 : jj_MV RX5 107 yX0_launch cX0_launch 4 none 3 := ⟨kw_725, kw_726, kw_727, kw_15, kw_728, by decide +kernel, by decide +kernel, by decide +kernel⟩
theorem kw_401 : Cond.methodLink RX5 112 yX5_needBoat ∈ jj_W := jj_Wof 401 (by decide +kernel) rfl
theorem kw_404 : Cond.code yX5_needBoat cX5_needBoat 2 none ∈ jj_W := jj_Wof 404 (by decide +kernel) rfl
theorem kw_403 : Cond.instanceMethod yX5_needBoat ∈ jj_W := jj_Wof 403 (by decide +kernel) rfl
theorem kw_7 : Cond.selects RX5 yX5_needBoat yX5_needBoat ∈ jj_W := jj_Wof 7 (by decide +kernel) rfl
theorem kM_X5_112 : jj_MV RX5 112 yX5_needBoat cX5_needBoat 2 none 1 := ⟨kw_401, kw_403, kw_7, kw_11, kw_404, by decide +kernel, by decide +kernel, by decide +kernel⟩
theorem kw_802 : Cond.methodLink RX5 122 yX5_needInHarbour ∈ jj_W := jj_Wof 802 (by decide +kernel) rfl
theorem kw_804 : Cond.code yX5_needInHarbour cX5_needInHarbour 1 none ∈ jj_W := jj_Wof 804 (by decide +kernel) rfl
theorem kw_803 : Cond.static yX5_needInHarbour ∈ jj_W := jj_Wof 803 (by decide +kernel) rfl
theorem kM_X5_122 : jj_MS RX5 122 yX5_needInHarbour cX5_needInHarbour 1 none 1 := ⟨kw_802, kw_803, kw_11, kw_804, by decide +kernel, by decide +kernel, by decide +kernel⟩
theorem kw_111 : Cond.fieldLink RX5 126 (TX0 0).1 (TX0 0).2.1 (TX0 0).2.2.1 ∈ jj_W := jj_Wof 111 (by decide +kernel) rfl
theorem kF_X5_126 : jj_F RX5 126 0 0 0 := ⟨RX0, TX0, 9, tyX0, rfl, rfl, by decide, by decide, ku_0, kw_111, fun _ => rfl, tyX0_ok, nmX0, fun _ => rfl, fun h => absurd h (by decide), fun h => absurd h (by decide)⟩
theorem kw_121 : Cond.fieldLink RX5 129 (TX0 4).1 (TX0 4).2.1 (TX0 4).2.2.1 ∈ jj_W := jj_Wof 121 (by decide +kernel) rfl
theorem kF_X5_129 : jj_F RX5 129 0 4 0 := ⟨RX0, TX0, 9, tyX0, rfl, rfl, by decide, by decide, ku_0, kw_121, fun _ => rfl, tyX0_ok, nmX0, fun _ => rfl, fun h => absurd h (by decide), fun h => absurd h (by decide)⟩
theorem kw_131 : Cond.fieldLink RX5 132 (TX0 8).1 (TX0 8).2.1 (TX0 8).2.2.1 ∈ jj_W := jj_Wof 131 (by decide +kernel) rfl
theorem kF_X5_132 : jj_F RX5 132 0 8 2 := ⟨RX0, TX0, 9, tyX0, rfl, rfl, by decide, by decide, ku_0, kw_131, fun h => absurd h (by decide), tyX0_ok, nmX0, fun h => absurd h (by decide), fun _ => Or.inr ⟨_, rfl⟩, fun h => absurd h (by decide)⟩
theorem kw_807 : Cond.methodLink RX5 135 Lib.Math.abs.name ∈ jj_W := jj_Wof 807 (by decide +kernel) rfl
theorem kw_808 : Cond.static Lib.Math.abs.name ∈ jj_W := jj_Wof 808 (by decide +kernel) rfl
theorem kw_25 : Cond.initialized "java/lang/Math" ∈ jj_W := jj_Wof 25 (by decide +kernel) rfl
theorem kw_809 : Cond.code Lib.Math.abs.name Lib.Math.abs.code 1 (some .int) ∈ jj_W := jj_Wof 809 (by decide +kernel) rfl
theorem kM_X5_135 : jj_MM RX5 135 Lib.Math.abs.name Lib.Math.abs.code 1 := ⟨kw_807, kw_808, kw_25, kw_809⟩
theorem kw_115 : Cond.fieldLink RX5 141 (TX0 2).1 (TX0 2).2.1 (TX0 2).2.2.1 ∈ jj_W := jj_Wof 115 (by decide +kernel) rfl
theorem kF_X5_141 : jj_F RX5 141 0 2 0 := ⟨RX0, TX0, 9, tyX0, rfl, rfl, by decide, by decide, ku_0, kw_115, fun _ => rfl, tyX0_ok, nmX0, fun _ => rfl, fun h => absurd h (by decide), fun h => absurd h (by decide)⟩
theorem kw_408 : Cond.methodLink RX5 144 yX0_allCargo ∈ jj_W := jj_Wof 408 (by decide +kernel) rfl
theorem kw_395 : Cond.code yX0_allCargo cX0_allCargo 1 (some .int) ∈ jj_W := jj_Wof 395 (by decide +kernel) rfl
theorem kw_393 : Cond.instanceMethod yX0_allCargo ∈ jj_W := jj_Wof 393 (by decide +kernel) rfl
theorem kw_394 : Cond.selects RX0 yX0_allCargo yX0_allCargo ∈ jj_W := jj_Wof 394 (by decide +kernel) rfl
theorem kM_X5_144 : jj_MV RX5 144 yX0_allCargo cX0_allCargo 1 (some .int) 0 := ⟨kw_408, kw_393, kw_394, kw_15, kw_395, by decide +kernel, by decide +kernel, by decide +kernel⟩
theorem kw_118 : Cond.fieldLink RX5 148 (TX0 3).1 (TX0 3).2.1 (TX0 3).2.2.1 ∈ jj_W := jj_Wof 118 (by decide +kernel) rfl
theorem kF_X5_148 : jj_F RX5 148 0 3 0 := ⟨RX0, TX0, 9, tyX0, rfl, rfl, by decide, by decide, ku_0, kw_118, fun _ => rfl, tyX0_ok, nmX0, fun _ => rfl, fun h => absurd h (by decide), fun h => absurd h (by decide)⟩
theorem kw_125 : Cond.fieldLink RX5 156 (TX0 6).1 (TX0 6).2.1 (TX0 6).2.2.1 ∈ jj_W := jj_Wof 125 (by decide +kernel) rfl
theorem kF_X5_156 : jj_F RX5 156 0 6 0 := ⟨RX0, TX0, 9, tyX0, rfl, rfl, by decide, by decide, ku_0, kw_125, fun _ => rfl, tyX0_ok, nmX0, fun _ => rfl, fun h => absurd h (by decide), fun h => absurd h (by decide)⟩
theorem kw_128 : Cond.fieldLink RX5 159 (TX0 7).1 (TX0 7).2.1 (TX0 7).2.2.1 ∈ jj_W := jj_Wof 128 (by decide +kernel) rfl
theorem kF_X5_159 : jj_F RX5 159 0 7 0 := ⟨RX0, TX0, 9, tyX0, rfl, rfl, by decide, by decide, ku_0, kw_128, fun _ => rfl, tyX0_ok, nmX0, fun _ => rfl, fun h => absurd h (by decide), fun h => absurd h (by decide)⟩
theorem kw_815 : Cond.methodLink RX5 162 yX3_wayDays ∈ jj_W := jj_Wof 815 (by decide +kernel) rfl
theorem kw_818 : Cond.code yX3_wayDays cX3_wayDays 5 (some .int) ∈ jj_W := jj_Wof 818 (by decide +kernel) rfl
theorem kw_816 : Cond.instanceMethod yX3_wayDays ∈ jj_W := jj_Wof 816 (by decide +kernel) rfl
theorem kw_817 : Cond.selects RX3 yX3_wayDays yX3_wayDays ∈ jj_W := jj_Wof 817 (by decide +kernel) rfl
theorem kM_X5_162 : jj_MV RX5 162 yX3_wayDays cX3_wayDays 5 (some .int) 2 := ⟨kw_815, kw_816, kw_817, kw_13, kw_818, by decide +kernel, by decide +kernel, by decide +kernel⟩
theorem kw_829 : Cond.methodLink RX5 165 yX4_freeBerths ∈ jj_W := jj_Wof 829 (by decide +kernel) rfl
theorem kw_832 : Cond.code yX4_freeBerths cX4_freeBerths 2 (some .int) ∈ jj_W := jj_Wof 832 (by decide +kernel) rfl
theorem kw_830 : Cond.instanceMethod yX4_freeBerths ∈ jj_W := jj_Wof 830 (by decide +kernel) rfl
theorem kw_831 : Cond.selects RX4 yX4_freeBerths yX4_freeBerths ∈ jj_W := jj_Wof 831 (by decide +kernel) rfl
theorem kM_X5_165 : jj_MV RX5 165 yX4_freeBerths cX4_freeBerths 2 (some .int) 1 := ⟨kw_829, kw_830, kw_831, kw_12, kw_832, by decide +kernel, by decide +kernel, by decide +kernel⟩
theorem kw_113 : Cond.fieldLink RX5 168 (TX0 1).1 (TX0 1).2.1 (TX0 1).2.2.1 ∈ jj_W := jj_Wof 113 (by decide +kernel) rfl
theorem kF_X5_168 : jj_F RX5 168 0 1 0 := ⟨RX0, TX0, 9, tyX0, rfl, rfl, by decide, by decide, ku_0, kw_113, fun _ => rfl, tyX0_ok, nmX0, fun _ => rfl, fun h => absurd h (by decide), fun h => absurd h (by decide)⟩
theorem kw_461 : Cond.methodLink RX5 171 Lib.Math.min.name ∈ jj_W := jj_Wof 461 (by decide +kernel) rfl
theorem kw_335 : Cond.static Lib.Math.min.name ∈ jj_W := jj_Wof 335 (by decide +kernel) rfl
theorem kw_336 : Cond.code Lib.Math.min.name Lib.Math.min.code 2 (some .int) ∈ jj_W := jj_Wof 336 (by decide +kernel) rfl
theorem kM_X5_171 : jj_MM RX5 171 Lib.Math.min.name Lib.Math.min.code 2 := ⟨kw_461, kw_335, kw_25, kw_336⟩
theorem kw_405 : Cond.methodLink RX5 174 yX5_boatFact ∈ jj_W := jj_Wof 405 (by decide +kernel) rfl
theorem kw_407 : Cond.code yX5_boatFact cX5_boatFact 2 (some .int) ∈ jj_W := jj_Wof 407 (by decide +kernel) rfl
theorem kw_406 : Cond.static yX5_boatFact ∈ jj_W := jj_Wof 406 (by decide +kernel) rfl
theorem kM_X5_174 : jj_MS RX5 174 yX5_boatFact cX5_boatFact 2 (some .int) 2 := ⟨kw_405, kw_406, kw_11, kw_407, by decide +kernel, by decide +kernel, by decide +kernel⟩
theorem kw_50 : Cond.fieldLink RX5 180 (TX3 0).1 (TX3 0).2.1 (TX3 0).2.2.1 ∈ jj_W := jj_Wof 50 (by decide +kernel) rfl
theorem kF_X5_180 : jj_F RX5 180 3 0 0 := ⟨RX3, TX3, 7, tyX3, rfl, rfl, by decide, by decide, ku_3, kw_50, fun _ => rfl, tyX3_ok, nmX3, fun _ => rfl, fun h => absurd h (by decide), fun h => absurd h (by decide)⟩
theorem kw_199 : Cond.fieldLink RX5 183 (TX4 3).1 (TX4 3).2.1 (TX4 3).2.2.1 ∈ jj_W := jj_Wof 199 (by decide +kernel) rfl
theorem kF_X5_183 : jj_F RX5 183 4 3 0 := ⟨RX4, TX4, 7, tyX4, rfl, rfl, by decide, by decide, ku_4, kw_199, fun _ => rfl, tyX4_ok, nmX4, fun _ => rfl, fun h => absurd h (by decide), fun h => absurd h (by decide)⟩
theorem kw_844 : Cond.methodLink RX5 186 yX4_hand ∈ jj_W := jj_Wof 844 (by decide +kernel) rfl
theorem kw_504 : Cond.code yX4_hand cX4_hand 5 none ∈ jj_W := jj_Wof 504 (by decide +kernel) rfl
theorem kw_502 : Cond.instanceMethod yX4_hand ∈ jj_W := jj_Wof 502 (by decide +kernel) rfl
theorem kw_503 : Cond.selects RX4 yX4_hand yX4_hand ∈ jj_W := jj_Wof 503 (by decide +kernel) rfl
theorem kM_X5_186 : jj_MV RX5 186 yX4_hand cX4_hand 5 none 4 := ⟨kw_844, kw_502, kw_503, kw_12, kw_504, by decide +kernel, by decide +kernel, by decide +kernel⟩
theorem kw_205 : Cond.fieldLink RX5 190 (TX4 6).1 (TX4 6).2.1 (TX4 6).2.2.1 ∈ jj_W := jj_Wof 205 (by decide +kernel) rfl
theorem kF_X5_190 : jj_F RX5 190 4 6 2 := ⟨RX4, TX4, 7, tyX4, rfl, rfl, by decide, by decide, ku_4, kw_205, fun h => absurd h (by decide), tyX4_ok, nmX4, fun h => absurd h (by decide), fun _ => Or.inr ⟨_, rfl⟩, fun h => absurd h (by decide)⟩
theorem kw_850 : Cond.methodLink RX5 194 yX1_open ∈ jj_W := jj_Wof 850 (by decide +kernel) rfl
theorem kw_16 : Cond.initialized RX1 ∈ jj_W := jj_Wof 16 (by decide +kernel) rfl
theorem kw_568 : Cond.code yX1_open cX1_open 7 none ∈ jj_W := jj_Wof 568 (by decide +kernel) rfl
