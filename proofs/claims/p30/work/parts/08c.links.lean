theorem kw_96 : Cond.fieldLink RX2 9 (TX2 1).1 (TX2 1).2.1 (TX2 1).2.2.1 ∈ jj_W := jj_Wof 96 (by decide +kernel) rfl
theorem kF_X2_9 : jj_F RX2 9 2 1 1 := ⟨RX2, TX2, 2, tyX2, rfl, rfl, by decide, by decide, ku_2, kw_96, fun h => absurd h (by decide), tyX2_ok, nmX2, fun h => absurd h (by decide), fun _ => Or.inr ⟨_, rfl⟩, fun _ => ⟨rfl, rfl⟩⟩
theorem kw_93 : Cond.fieldLink RX2 15 (TX2 0).1 (TX2 0).2.1 (TX2 0).2.2.1 ∈ jj_W := jj_Wof 93 (by decide +kernel) rfl
theorem kF_X2_15 : jj_F RX2 15 2 0 0 := ⟨RX2, TX2, 2, tyX2, rfl, rfl, by decide, by decide, ku_2, kw_93, fun _ => rfl, tyX2_ok, nmX2, fun _ => rfl, fun h => absurd h (by decide), fun h => absurd h (by decide)⟩
theorem kM_X2_19 : jj_MSN RX2 19 yX5_copyRow cX5_copyRow 2 none 2 := ⟨(by simp [jj_trav]), kw_546, kw_11, kw_547, by decide +kernel, by decide +kernel, by decide +kernel⟩
theorem kw_47 : Cond.methodLink RX3 3 Lib.objectInit ∈ jj_W := jj_Wof 47 (by decide +kernel) rfl
theorem kM_X3_3 : Cond.methodLink RX3 3 Lib.objectInit ∈ jj_W ∧ Cond.instanceMethod Lib.objectInit ∈ jj_W ∧ Cond.code Lib.objectInit ⟨#[0xb1]⟩ 1 none ∈ jj_W := ⟨kw_47, kw_34, kw_35⟩
theorem kw_53 : Cond.fieldLink RX3 9 (TX3 2).1 (TX3 2).2.1 (TX3 2).2.2.1 ∈ jj_W := jj_Wof 53 (by decide +kernel) rfl
theorem kF_X3_9 : jj_F RX3 9 3 2 1 := ⟨RX3, TX3, 7, tyX3, rfl, rfl, by decide, by decide, ku_3, kw_53, fun h => absurd h (by decide), tyX3_ok, nmX3, fun h => absurd h (by decide), fun _ => Or.inr ⟨_, rfl⟩, fun _ => ⟨rfl, rfl⟩⟩
theorem kw_55 : Cond.fieldLink RX3 15 (TX3 3).1 (TX3 3).2.1 (TX3 3).2.2.1 ∈ jj_W := jj_Wof 55 (by decide +kernel) rfl
theorem kF_X3_15 : jj_F RX3 15 3 3 1 := ⟨RX3, TX3, 7, tyX3, rfl, rfl, by decide, by decide, ku_3, kw_55, fun h => absurd h (by decide), tyX3_ok, nmX3, fun h => absurd h (by decide), fun _ => Or.inr ⟨_, rfl⟩, fun _ => ⟨rfl, rfl⟩⟩
theorem kw_57 : Cond.fieldLink RX3 18 (TX3 4).1 (TX3 4).2.1 (TX3 4).2.2.1 ∈ jj_W := jj_Wof 57 (by decide +kernel) rfl
theorem kF_X3_18 : jj_F RX3 18 3 4 1 := ⟨RX3, TX3, 7, tyX3, rfl, rfl, by decide, by decide, ku_3, kw_57, fun h => absurd h (by decide), tyX3_ok, nmX3, fun h => absurd h (by decide), fun _ => Or.inr ⟨_, rfl⟩, fun _ => ⟨rfl, rfl⟩⟩
theorem kw_60 : Cond.fieldLink RX3 21 (TX3 5).1 (TX3 5).2.1 (TX3 5).2.2.1 ∈ jj_W := jj_Wof 60 (by decide +kernel) rfl
theorem kF_X3_21 : jj_F RX3 21 3 5 1 := ⟨RX3, TX3, 7, tyX3, rfl, rfl, by decide, by decide, ku_3, kw_60, fun h => absurd h (by decide), tyX3_ok, nmX3, fun h => absurd h (by decide), fun _ => Or.inr ⟨_, rfl⟩, fun _ => ⟨rfl, rfl⟩⟩
theorem kw_63 : Cond.fieldLink RX3 24 (TX3 6).1 (TX3 6).2.1 (TX3 6).2.2.1 ∈ jj_W := jj_Wof 63 (by decide +kernel) rfl
theorem kF_X3_24 : jj_F RX3 24 3 6 1 := ⟨RX3, TX3, 7, tyX3, rfl, rfl, by decide, by decide, ku_3, kw_63, fun h => absurd h (by decide), tyX3_ok, nmX3, fun h => absurd h (by decide), fun _ => Or.inr ⟨_, rfl⟩, fun _ => ⟨rfl, rfl⟩⟩
theorem kw_48 : Cond.fieldLink RX3 27 (TX3 0).1 (TX3 0).2.1 (TX3 0).2.2.1 ∈ jj_W := jj_Wof 48 (by decide +kernel) rfl
theorem kF_X3_27 : jj_F RX3 27 3 0 0 := ⟨RX3, TX3, 7, tyX3, rfl, rfl, by decide, by decide, ku_3, kw_48, fun _ => rfl, tyX3_ok, nmX3, fun _ => rfl, fun h => absurd h (by decide), fun h => absurd h (by decide)⟩
theorem kw_51 : Cond.fieldLink RX3 31 (TX3 1).1 (TX3 1).2.1 (TX3 1).2.2.1 ∈ jj_W := jj_Wof 51 (by decide +kernel) rfl
theorem kF_X3_31 : jj_F RX3 31 3 1 0 := ⟨RX3, TX3, 7, tyX3, rfl, rfl, by decide, by decide, ku_3, kw_51, fun _ => rfl, tyX3_ok, nmX3, fun _ => rfl, fun h => absurd h (by decide), fun h => absurd h (by decide)⟩
theorem kM_X3_34 : jj_MSN RX3 34 yX5_copyRow cX5_copyRow 2 none 2 := ⟨(by simp [jj_trav]), kw_546, kw_11, kw_547, by decide +kernel, by decide +kernel, by decide +kernel⟩
theorem kw_331 : Cond.methodLink RX3 38 Lib.Math.max.name ∈ jj_W := jj_Wof 331 (by decide +kernel) rfl
theorem kM_X3_38 : jj_MM RX3 38 Lib.Math.max.name Lib.Math.max.code 2 := ⟨kw_331, kw_332, kw_25, kw_333⟩
theorem kw_327 : Cond.methodLink RX3 44 yX3_legs ∈ jj_W := jj_Wof 327 (by decide +kernel) rfl
theorem kM_X3_44 : jj_MV RX3 44 yX3_legs cX3_legs 1 (some .int) 0 := ⟨kw_327, kw_328, kw_329, kw_13, kw_330, by decide +kernel, by decide +kernel, by decide +kernel⟩
theorem kw_526 : Cond.methodLink RX3 48 yX3_isOpen ∈ jj_W := jj_Wof 526 (by decide +kernel) rfl
theorem kM_X3_48 : jj_MV RX3 48 yX3_isOpen cX3_isOpen 2 (some .boolean) 1 := ⟨kw_526, kw_354, kw_355, kw_13, kw_356, by decide +kernel, by decide +kernel, by decide +kernel⟩
theorem kw_334 : Cond.methodLink RX3 52 Lib.Math.min.name ∈ jj_W := jj_Wof 334 (by decide +kernel) rfl
theorem kM_X3_52 : jj_MM RX3 52 Lib.Math.min.name Lib.Math.min.code 2 := ⟨kw_334, kw_335, kw_25, kw_336⟩
theorem kw_455 : Cond.methodLink RX3 55 yJ9_floorMod_7cf53 ∈ jj_W := jj_Wof 455 (by decide +kernel) rfl
theorem kw_457 : Cond.code yJ9_floorMod_7cf53 cJ9_floorMod_7cf53 3 (some .int) ∈ jj_W := jj_Wof 457 (by decide +kernel) rfl
theorem kw_456 : Cond.static yJ9_floorMod_7cf53 ∈ jj_W := jj_Wof 456 (by decide +kernel) rfl
theorem kM_X3_55 : jj_MS RX3 55 yJ9_floorMod_7cf53 cJ9_floorMod_7cf53 3 (some .int) 2 := ⟨kw_455, kw_456, kw_25, kw_457, by decide +kernel, by decide +kernel, by decide +kernel⟩
theorem kw_451 : Cond.methodLink RX3 58 yX3_warmOn ∈ jj_W := jj_Wof 451 (by decide +kernel) rfl
theorem kM_X3_58 : jj_MV RX3 58 yX3_warmOn cX3_warmOn 2 (some .int) 1 := ⟨kw_451, kw_452, kw_453, kw_13, kw_454, by decide +kernel, by decide +kernel, by decide +kernel⟩
theorem kM_X3_62 : jj_MSN RX3 62 yX5_iceBehind cX5_iceBehind 3 (some .int) 2 := ⟨(by simp [jj_trav]), kw_459, kw_11, kw_460, by decide +kernel, by decide +kernel, by decide +kernel⟩
theorem kw_819 : Cond.methodLink RX3 65 yX3_daysOver ∈ jj_W := jj_Wof 819 (by decide +kernel) rfl
theorem kw_483 : Cond.code yX3_daysOver cX3_daysOver 3 (some .int) ∈ jj_W := jj_Wof 483 (by decide +kernel) rfl
theorem kw_481 : Cond.instanceMethod yX3_daysOver ∈ jj_W := jj_Wof 481 (by decide +kernel) rfl
theorem kw_482 : Cond.selects RX3 yX3_daysOver yX3_daysOver ∈ jj_W := jj_Wof 482 (by decide +kernel) rfl
theorem kM_X3_65 : jj_MV RX3 65 yX3_daysOver cX3_daysOver 3 (some .int) 2 := ⟨kw_819, kw_481, kw_482, kw_13, kw_483, by decide +kernel, by decide +kernel, by decide +kernel⟩
theorem kw_41 : Cond.methodLink RX4 3 Lib.objectInit ∈ jj_W := jj_Wof 41 (by decide +kernel) rfl
theorem kM_X4_3 : Cond.methodLink RX4 3 Lib.objectInit ∈ jj_W ∧ Cond.instanceMethod Lib.objectInit ∈ jj_W ∧ Cond.code Lib.objectInit ⟨#[0xb1]⟩ 1 none ∈ jj_W := ⟨kw_41, kw_34, kw_35⟩
theorem kw_42 : Cond.classLink RX4 9 RX3 ∈ jj_W := jj_Wof 42 (by decide +kernel) rfl
theorem kw_43 : Cond.instantiable RX3 7 ∈ jj_W := jj_Wof 43 (by decide +kernel) rfl
theorem kN_X4_9 : jj_NW RX4 9 3 := ⟨RX3, TX3, 7, tyX3, rfl, rfl, by decide, ku_3, tyX3_ok, kw_42, kw_43, kw_13, by decide +kernel⟩
theorem kw_44 : Cond.methodLink RX4 11 yX3_init ∈ jj_W := jj_Wof 44 (by decide +kernel) rfl
theorem kw_46 : Cond.code yX3_init cX3_init 2 none ∈ jj_W := jj_Wof 46 (by decide +kernel) rfl
theorem kw_45 : Cond.instanceMethod yX3_init ∈ jj_W := jj_Wof 45 (by decide +kernel) rfl
theorem kM_X4_11 : jj_MI RX4 11 yX3_init cX3_init 2 0 := ⟨kw_44, kw_45, rfl, kw_13, kw_46, by decide +kernel, by decide +kernel, by decide +kernel⟩
theorem kw_192 : Cond.fieldLink RX4 12 (TX4 0).1 (TX4 0).2.1 (TX4 0).2.2.1 ∈ jj_W := jj_Wof 192 (by decide +kernel) rfl
theorem kF_X4_12 : jj_F RX4 12 4 0 1 := ⟨RX4, TX4, 7, tyX4, rfl, rfl, by decide, by decide, ku_4, kw_192, fun h => absurd h (by decide), tyX4_ok, nmX4, fun h => absurd h (by decide), fun _ => Or.inl ⟨_, rfl⟩, fun _ => ⟨rfl, rfl⟩⟩
theorem kw_82 : Cond.classLink RX4 18 "IceHarbour$Merchant" ∈ jj_W := jj_Wof 82 (by decide +kernel) rfl
theorem kC_X4_18 : Cond.classLink RX4 18 "IceHarbour$Merchant" ∈ jj_W := kw_82
theorem kw_200 : Cond.fieldLink RX4 20 (TX4 4).1 (TX4 4).2.1 (TX4 4).2.2.1 ∈ jj_W := jj_Wof 200 (by decide +kernel) rfl
theorem kF_X4_20 : jj_F RX4 20 4 4 1 := ⟨RX4, TX4, 7, tyX4, rfl, rfl, by decide, by decide, ku_4, kw_200, fun h => absurd h (by decide), tyX4_ok, nmX4, fun h => absurd h (by decide), fun _ => Or.inr ⟨_, rfl⟩, fun _ => ⟨rfl, rfl⟩⟩
theorem kw_84 : Cond.classLink RX4 24 "IceHarbour$Boat" ∈ jj_W := jj_Wof 84 (by decide +kernel) rfl
theorem kC_X4_24 : Cond.classLink RX4 24 "IceHarbour$Boat" ∈ jj_W := kw_84
theorem kw_202 : Cond.fieldLink RX4 26 (TX4 5).1 (TX4 5).2.1 (TX4 5).2.2.1 ∈ jj_W := jj_Wof 202 (by decide +kernel) rfl
theorem kF_X4_26 : jj_F RX4 26 4 5 1 := ⟨RX4, TX4, 7, tyX4, rfl, rfl, by decide, by decide, ku_4, kw_202, fun h => absurd h (by decide), tyX4_ok, nmX4, fun h => absurd h (by decide), fun _ => Or.inr ⟨_, rfl⟩, fun _ => ⟨rfl, rfl⟩⟩
theorem kw_86 : Cond.classLink RX4 30 "IceHarbour$Debt" ∈ jj_W := jj_Wof 86 (by decide +kernel) rfl
theorem kC_X4_30 : Cond.classLink RX4 30 "IceHarbour$Debt" ∈ jj_W := kw_86
theorem kw_204 : Cond.fieldLink RX4 32 (TX4 6).1 (TX4 6).2.1 (TX4 6).2.2.1 ∈ jj_W := jj_Wof 204 (by decide +kernel) rfl
theorem kF_X4_32 : jj_F RX4 32 4 6 1 := ⟨RX4, TX4, 7, tyX4, rfl, rfl, by decide, by decide, ku_4, kw_204, fun h => absurd h (by decide), tyX4_ok, nmX4, fun h => absurd h (by decide), fun _ => Or.inr ⟨_, rfl⟩, fun _ => ⟨rfl, rfl⟩⟩
theorem kw_88 : Cond.instantiable RX2 2 ∈ jj_W := jj_Wof 88 (by decide +kernel) rfl
theorem kw_14 : Cond.initialized RX2 ∈ jj_W := jj_Wof 14 (by decide +kernel) rfl
theorem kN_X4_18 : jj_NW RX4 18 2 := ⟨RX2, TX2, 2, tyX2, rfl, rfl, by decide, ku_2, tyX2_ok, kw_82, kw_88, kw_14, by decide +kernel⟩
theorem kw_91 : Cond.code yX2_init cX2_init 1 none ∈ jj_W := jj_Wof 91 (by decide +kernel) rfl
theorem kw_90 : Cond.instanceMethod yX2_init ∈ jj_W := jj_Wof 90 (by decide +kernel) rfl
theorem kM_X4_36 : jj_MIN RX4 36 yX2_init cX2_init 1 0 := ⟨(by rw [if_neg (by decide)]; simp [jj_trav]), kw_90, rfl, kw_14, kw_91, by decide +kernel, by decide +kernel, by decide +kernel⟩
theorem kw_104 : Cond.instantiable RX0 9 ∈ jj_W := jj_Wof 104 (by decide +kernel) rfl
theorem kN_X4_24 : jj_NW RX4 24 0 := ⟨RX0, TX0, 9, tyX0, rfl, rfl, by decide, ku_0, tyX0_ok, kw_84, kw_104, kw_15, by decide +kernel⟩
theorem kw_107 : Cond.code yX0_init cX0_init 1 none ∈ jj_W := jj_Wof 107 (by decide +kernel) rfl
theorem kw_106 : Cond.instanceMethod yX0_init ∈ jj_W := jj_Wof 106 (by decide +kernel) rfl
theorem kM_X4_37 : jj_MIN RX4 37 yX0_init cX0_init 1 0 := ⟨(by rw [if_neg (by decide)]; simp [jj_trav]), kw_106, rfl, kw_15, kw_107, by decide +kernel, by decide +kernel, by decide +kernel⟩
theorem kw_151 : Cond.instantiable RX1 7 ∈ jj_W := jj_Wof 151 (by decide +kernel) rfl
theorem kN_X4_30 : jj_NW RX4 30 1 := ⟨RX1, TX1, 7, tyX1, rfl, rfl, by decide, ku_1, tyX1_ok, kw_86, kw_151, kw_16, by decide +kernel⟩
theorem kw_154 : Cond.code yX1_init cX1_init 1 none ∈ jj_W := jj_Wof 154 (by decide +kernel) rfl
theorem kw_153 : Cond.instanceMethod yX1_init ∈ jj_W := jj_Wof 153 (by decide +kernel) rfl
theorem kM_X4_38 : jj_MIN RX4 38 yX1_init cX1_init 1 0 := ⟨(by rw [if_neg (by decide)]; simp [jj_trav]), kw_153, rfl, kw_16, kw_154, by decide +kernel, by decide +kernel, by decide +kernel⟩
theorem kw_541 : Cond.methodLink RX4 39 yX3_copyFrom ∈ jj_W := jj_Wof 541 (by decide +kernel) rfl
theorem kw_544 : Cond.code yX3_copyFrom cX3_copyFrom 2 none ∈ jj_W := jj_Wof 544 (by decide +kernel) rfl
theorem kw_542 : Cond.instanceMethod yX3_copyFrom ∈ jj_W := jj_Wof 542 (by decide +kernel) rfl
theorem kw_543 : Cond.selects RX3 yX3_copyFrom yX3_copyFrom ∈ jj_W := jj_Wof 543 (by decide +kernel) rfl
theorem kM_X4_39 : jj_MV RX4 39 yX3_copyFrom cX3_copyFrom 2 none 1 := ⟨kw_541, kw_542, kw_543, kw_13, kw_544, by decide +kernel, by decide +kernel, by decide +kernel⟩
theorem kw_194 : Cond.fieldLink RX4 43 (TX4 1).1 (TX4 1).2.1 (TX4 1).2.2.1 ∈ jj_W := jj_Wof 194 (by decide +kernel) rfl
theorem kF_X4_43 : jj_F RX4 43 4 1 0 := ⟨RX4, TX4, 7, tyX4, rfl, rfl, by decide, by decide, ku_4, kw_194, fun _ => rfl, tyX4_ok, nmX4, fun _ => rfl, fun h => absurd h (by decide), fun h => absurd h (by decide)⟩
theorem kw_196 : Cond.fieldLink RX4 47 (TX4 2).1 (TX4 2).2.1 (TX4 2).2.2.1 ∈ jj_W := jj_Wof 196 (by decide +kernel) rfl
theorem kF_X4_47 : jj_F RX4 47 4 2 0 := ⟨RX4, TX4, 7, tyX4, rfl, rfl, by decide, by decide, ku_4, kw_196, fun _ => rfl, tyX4_ok, nmX4, fun _ => rfl, fun h => absurd h (by decide), fun h => absurd h (by decide)⟩
theorem kw_198 : Cond.fieldLink RX4 50 (TX4 3).1 (TX4 3).2.1 (TX4 3).2.2.1 ∈ jj_W := jj_Wof 198 (by decide +kernel) rfl
theorem kF_X4_50 : jj_F RX4 50 4 3 0 := ⟨RX4, TX4, 7, tyX4, rfl, rfl, by decide, by decide, ku_4, kw_198, fun _ => rfl, tyX4_ok, nmX4, fun _ => rfl, fun h => absurd h (by decide), fun h => absurd h (by decide)⟩
theorem kw_551 : Cond.methodLink RX4 53 yX2_copyFrom ∈ jj_W := jj_Wof 551 (by decide +kernel) rfl
theorem kw_554 : Cond.code yX2_copyFrom cX2_copyFrom 2 none ∈ jj_W := jj_Wof 554 (by decide +kernel) rfl
theorem kw_552 : Cond.instanceMethod yX2_copyFrom ∈ jj_W := jj_Wof 552 (by decide +kernel) rfl
theorem kw_553 : Cond.selects RX2 yX2_copyFrom yX2_copyFrom ∈ jj_W := jj_Wof 553 (by decide +kernel) rfl
theorem kM_X4_53 : jj_MV RX4 53 yX2_copyFrom cX2_copyFrom 2 none 1 := ⟨kw_551, kw_552, kw_553, kw_14, kw_554, by decide +kernel, by decide +kernel, by decide +kernel⟩
theorem kw_556 : Cond.methodLink RX4 56 yX0_copyFrom ∈ jj_W := jj_Wof 556 (by decide +kernel) rfl
theorem kw_559 : Cond.code yX0_copyFrom cX0_copyFrom 2 none ∈ jj_W := jj_Wof 559 (by decide +kernel) rfl
theorem kw_557 : Cond.instanceMethod yX0_copyFrom ∈ jj_W := jj_Wof 557 (by decide +kernel) rfl
theorem kw_558 : Cond.selects RX0 yX0_copyFrom yX0_copyFrom ∈ jj_W := jj_Wof 558 (by decide +kernel) rfl
theorem kM_X4_56 : jj_MV RX4 56 yX0_copyFrom cX0_copyFrom 2 none 1 := ⟨kw_556, kw_557, kw_558, kw_15, kw_559, by decide +kernel, by decide +kernel, by decide +kernel⟩
theorem kw_561 : Cond.methodLink RX4 59 yX1_copyFrom ∈ jj_W := jj_Wof 561 (by decide +kernel) rfl
theorem kw_564 : Cond.code yX1_copyFrom cX1_copyFrom 2 none ∈ jj_W := jj_Wof 564 (by decide +kernel) rfl
theorem kw_562 : Cond.instanceMethod yX1_copyFrom ∈ jj_W := jj_Wof 562 (by decide +kernel) rfl
theorem kw_563 : Cond.selects RX1 yX1_copyFrom yX1_copyFrom ∈ jj_W := jj_Wof 563 (by decide +kernel) rfl
theorem kM_X4_59 : jj_MV RX4 59 yX1_copyFrom cX1_copyFrom 2 none 1 := ⟨kw_561, kw_562, kw_563, kw_16, kw_564, by decide +kernel, by decide +kernel, by decide +kernel⟩
theorem kw_117 : Cond.fieldLink RX4 62 (TX0 3).1 (TX0 3).2.1 (TX0 3).2.2.1 ∈ jj_W := jj_Wof 117 (by decide +kernel) rfl
theorem kF_X4_62 : jj_F RX4 62 0 3 0 := ⟨RX0, TX0, 9, tyX0, rfl, rfl, by decide, by decide, ku_0, kw_117, fun _ => rfl, tyX0_ok, nmX0, fun _ => rfl, fun h => absurd h (by decide), fun h => absurd h (by decide)⟩
theorem kw_120 : Cond.fieldLink RX4 65 (TX0 4).1 (TX0 4).2.1 (TX0 4).2.2.1 ∈ jj_W := jj_Wof 120 (by decide +kernel) rfl
theorem kF_X4_65 : jj_F RX4 65 0 4 0 := ⟨RX0, TX0, 9, tyX0, rfl, rfl, by decide, by decide, ku_0, kw_120, fun _ => rfl, tyX0_ok, nmX0, fun _ => rfl, fun h => absurd h (by decide), fun h => absurd h (by decide)⟩
theorem kw_123 : Cond.fieldLink RX4 68 (TX0 5).1 (TX0 5).2.1 (TX0 5).2.2.1 ∈ jj_W := jj_Wof 123 (by decide +kernel) rfl
theorem kF_X4_68 : jj_F RX4 68 0 5 0 := ⟨RX0, TX0, 9, tyX0, rfl, rfl, by decide, by decide, ku_0, kw_123, fun _ => rfl, tyX0_ok, nmX0, fun _ => rfl, fun h => absurd h (by decide), fun h => absurd h (by decide)⟩
theorem kw_110 : Cond.fieldLink RX4 71 (TX0 0).1 (TX0 0).2.1 (TX0 0).2.2.1 ∈ jj_W := jj_Wof 110 (by decide +kernel) rfl
theorem kF_X4_71 : jj_F RX4 71 0 0 0 := ⟨RX0, TX0, 9, tyX0, rfl, rfl, by decide, by decide, ku_0, kw_110, fun _ => rfl, tyX0_ok, nmX0, fun _ => rfl, fun h => absurd h (by decide), fun h => absurd h (by decide)⟩
theorem kw_392 : Cond.methodLink RX4 74 yX0_allCargo ∈ jj_W := jj_Wof 392 (by decide +kernel) rfl
theorem kM_X4_74 : jj_MV RX4 74 yX0_allCargo cX0_allCargo 1 (some .int) 0 := ⟨kw_392, kw_393, kw_394, kw_15, kw_395, by decide +kernel, by decide +kernel, by decide +kernel⟩
theorem kw_517 : Cond.methodLink RX4 78 yX4_debtsOf ∈ jj_W := jj_Wof 517 (by decide +kernel) rfl
theorem kM_X4_78 : jj_MV RX4 78 yX4_debtsOf cX4_debtsOf 5 (some .int) 2 := ⟨kw_517, kw_382, kw_383, kw_12, kw_384, by decide +kernel, by decide +kernel, by decide +kernel⟩
theorem kw_160 : Cond.fieldLink RX4 82 (TX1 1).1 (TX1 1).2.1 (TX1 1).2.2.1 ∈ jj_W := jj_Wof 160 (by decide +kernel) rfl
theorem kF_X4_82 : jj_F RX4 82 1 1 0 := ⟨RX1, TX1, 7, tyX1, rfl, rfl, by decide, by decide, ku_1, kw_160, fun _ => rfl, tyX1_ok, nmX1, fun _ => rfl, fun h => absurd h (by decide), fun h => absurd h (by decide)⟩
theorem kw_175 : Cond.fieldLink RX4 85 (TX1 6).1 (TX1 6).2.1 (TX1 6).2.2.1 ∈ jj_W := jj_Wof 175 (by decide +kernel) rfl
theorem kF_X4_85 : jj_F RX4 85 1 6 0 := ⟨RX1, TX1, 7, tyX1, rfl, rfl, by decide, by decide, ku_1, kw_175, fun _ => rfl, tyX1_ok, nmX1, fun _ => rfl, fun h => absurd h (by decide), fun h => absurd h (by decide)⟩
theorem kw_95 : Cond.fieldLink RX4 88 (TX2 0).1 (TX2 0).2.1 (TX2 0).2.2.1 ∈ jj_W := jj_Wof 95 (by decide +kernel) rfl
theorem kF_X4_88 : jj_F RX4 88 2 0 0 := ⟨RX2, TX2, 2, tyX2, rfl, rfl, by decide, by decide, ku_2, kw_95, fun _ => rfl, tyX2_ok, nmX2, fun _ => rfl, fun h => absurd h (by decide), fun h => absurd h (by decide)⟩
theorem kw_61 : Cond.fieldLink RX4 91 (TX3 5).1 (TX3 5).2.1 (TX3 5).2.2.1 ∈ jj_W := jj_Wof 61 (by decide +kernel) rfl
theorem kF_X4_91 : jj_F RX4 91 3 5 2 := ⟨RX3, TX3, 7, tyX3, rfl, rfl, by decide, by decide, ku_3, kw_61, fun h => absurd h (by decide), tyX3_ok, nmX3, fun h => absurd h (by decide), fun _ => Or.inr ⟨_, rfl⟩, fun h => absurd h (by decide)⟩
theorem kw_833 : Cond.methodLink RX4 95 yX4_boatsLying ∈ jj_W := jj_Wof 833 (by decide +kernel) rfl
theorem kM_X4_95 : jj_MV RX4 95 yX4_boatsLying cX4_boatsLying 5 (some .int) 2 := ⟨kw_833, kw_320, kw_321, kw_12, kw_322, by decide +kernel, by decide +kernel, by decide +kernel⟩
theorem kw_98 : Cond.fieldLink RX4 105 (TX2 1).1 (TX2 1).2.1 (TX2 1).2.2.1 ∈ jj_W := jj_Wof 98 (by decide +kernel) rfl
theorem kF_X4_105 : jj_F RX4 105 2 1 2 := ⟨RX2, TX2, 2, tyX2, rfl, rfl, by decide, by decide, ku_2, kw_98, fun h => absurd h (by decide), tyX2_ok, nmX2, fun h => absurd h (by decide), fun _ => Or.inr ⟨_, rfl⟩, fun h => absurd h (by decide)⟩
theorem kw_447 : Cond.methodLink RX4 108 yX3_freezeOrThaw ∈ jj_W := jj_Wof 447 (by decide +kernel) rfl
theorem kw_450 : Cond.code yX3_freezeOrThaw cX3_freezeOrThaw 3 none ∈ jj_W := jj_Wof 450 (by decide +kernel) rfl
theorem kw_448 : Cond.instanceMethod yX3_freezeOrThaw ∈ jj_W := jj_Wof 448 (by decide +kernel) rfl
theorem kw_449 : Cond.selects RX3 yX3_freezeOrThaw yX3_freezeOrThaw ∈ jj_W := jj_Wof 449 (by decide +kernel) rfl
theorem kM_X4_108 : jj_MV RX4 108 yX3_freezeOrThaw cX3_freezeOrThaw 3 none 0 := ⟨kw_447, kw_448, kw_449, kw_13, kw_450, by decide +kernel, by decide +kernel, by decide +kernel⟩
theorem kw_463 : Cond.methodLink RX4 111 yX4_payForBerth ∈ jj_W := jj_Wof 463 (by decide +kernel) rfl
theorem kw_466 : Cond.code yX4_payForBerth cX4_payForBerth 3 none ∈ jj_W := jj_Wof 466 (by decide +kernel) rfl
theorem kw_464 : Cond.instanceMethod yX4_payForBerth ∈ jj_W := jj_Wof 464 (by decide +kernel) rfl
theorem kw_465 : Cond.selects RX4 yX4_payForBerth yX4_payForBerth ∈ jj_W := jj_Wof 465 (by decide +kernel) rfl
theorem kM_X4_111 : jj_MV RX4 111 yX4_payForBerth cX4_payForBerth 3 none 1 := ⟨kw_463, kw_464, kw_465, kw_12, kw_466, by decide +kernel, by decide +kernel, by decide +kernel⟩
theorem kw_467 : Cond.methodLink RX4 114 yX4_goOn ∈ jj_W := jj_Wof 467 (by decide +kernel) rfl
theorem kw_470 : Cond.code yX4_goOn cX4_goOn 2 none ∈ jj_W := jj_Wof 470 (by decide +kernel) rfl
theorem kw_468 : Cond.instanceMethod yX4_goOn ∈ jj_W := jj_Wof 468 (by decide +kernel) rfl
theorem kw_469 : Cond.selects RX4 yX4_goOn yX4_goOn ∈ jj_W := jj_Wof 469 (by decide +kernel) rfl
theorem kM_X4_114 : jj_MV RX4 114 yX4_goOn cX4_goOn 2 none 1 := ⟨kw_467, kw_468, kw_469, kw_12, kw_470, by decide +kernel, by decide +kernel, by decide +kernel⟩
theorem kw_484 : Cond.methodLink RX4 117 yX4_bearIce ∈ jj_W := jj_Wof 484 (by decide +kernel) rfl
theorem kw_487 : Cond.code yX4_bearIce cX4_bearIce 2 none ∈ jj_W := jj_Wof 487 (by decide +kernel) rfl
theorem kw_485 : Cond.instanceMethod yX4_bearIce ∈ jj_W := jj_Wof 485 (by decide +kernel) rfl
theorem kw_486 : Cond.selects RX4 yX4_bearIce yX4_bearIce ∈ jj_W := jj_Wof 486 (by decide +kernel) rfl
theorem kM_X4_117 : jj_MV RX4 117 yX4_bearIce cX4_bearIce 2 none 1 := ⟨kw_484, kw_485, kw_486, kw_12, kw_487, by decide +kernel, by decide +kernel, by decide +kernel⟩
theorem kw_496 : Cond.methodLink RX4 120 yX4_settle ∈ jj_W := jj_Wof 496 (by decide +kernel) rfl
theorem kw_499 : Cond.code yX4_settle cX4_settle 5 none ∈ jj_W := jj_Wof 499 (by decide +kernel) rfl
theorem kw_497 : Cond.instanceMethod yX4_settle ∈ jj_W := jj_Wof 497 (by decide +kernel) rfl
theorem kw_498 : Cond.selects RX4 yX4_settle yX4_settle ∈ jj_W := jj_Wof 498 (by decide +kernel) rfl
theorem kM_X4_120 : jj_MV RX4 120 yX4_settle cX4_settle 5 none 1 := ⟨kw_496, kw_497, kw_498, kw_12, kw_499, by decide +kernel, by decide +kernel, by decide +kernel⟩
theorem kw_49 : Cond.fieldLink RX4 123 (TX3 0).1 (TX3 0).2.1 (TX3 0).2.2.1 ∈ jj_W := jj_Wof 49 (by decide +kernel) rfl
theorem kF_X4_123 : jj_F RX4 123 3 0 0 := ⟨RX3, TX3, 7, tyX3, rfl, rfl, by decide, by decide, ku_3, kw_49, fun _ => rfl, tyX3_ok, nmX3, fun _ => rfl, fun h => absurd h (by decide), fun h => absurd h (by decide)⟩
theorem kw_471 : Cond.methodLink RX4 126 yX0_isInHarbour ∈ jj_W := jj_Wof 471 (by decide +kernel) rfl
theorem kM_X4_126 : jj_MV RX4 126 yX0_isInHarbour cX0_isInHarbour 1 (some .boolean) 0 := ⟨kw_471, kw_472, kw_473, kw_15, kw_474, by decide +kernel, by decide +kernel, by decide +kernel⟩
theorem kw_126 : Cond.fieldLink RX4 98 (TX0 6).1 (TX0 6).2.1 (TX0 6).2.2.1 ∈ jj_W := jj_Wof 126 (by decide +kernel) rfl
theorem kF_X4_98 : jj_F RX4 98 0 6 0 := ⟨RX0, TX0, 9, tyX0, rfl, rfl, by decide, by decide, ku_0, kw_126, fun _ => rfl, tyX0_ok, nmX0, fun _ => rfl, fun h => absurd h (by decide), fun h => absurd h (by decide)⟩
theorem kw_475 : Cond.methodLink RX4 130 yX4_setOut ∈ jj_W := jj_Wof 475 (by decide +kernel) rfl
theorem kw_478 : Cond.code yX4_setOut cX4_setOut 4 none ∈ jj_W := jj_Wof 478 (by decide +kernel) rfl
theorem kw_476 : Cond.instanceMethod yX4_setOut ∈ jj_W := jj_Wof 476 (by decide +kernel) rfl
theorem kw_477 : Cond.selects RX4 yX4_setOut yX4_setOut ∈ jj_W := jj_Wof 477 (by decide +kernel) rfl
theorem kM_X4_130 : jj_MV RX4 130 yX4_setOut cX4_setOut 4 none 1 := ⟨kw_475, kw_476, kw_477, kw_12, kw_478, by decide +kernel, by decide +kernel, by decide +kernel⟩
theorem kw_479 : Cond.methodLink RX4 133 yX3_isOpen ∈ jj_W := jj_Wof 479 (by decide +kernel) rfl
theorem kM_X4_133 : jj_MV RX4 133 yX3_isOpen cX3_isOpen 2 (some .boolean) 1 := ⟨kw_479, kw_354, kw_355, kw_13, kw_356, by decide +kernel, by decide +kernel, by decide +kernel⟩
theorem kw_129 : Cond.fieldLink RX4 137 (TX0 7).1 (TX0 7).2.1 (TX0 7).2.2.1 ∈ jj_W := jj_Wof 129 (by decide +kernel) rfl
theorem kF_X4_137 : jj_F RX4 137 0 7 0 := ⟨RX0, TX0, 9, tyX0, rfl, rfl, by decide, by decide, ku_0, kw_129, fun _ => rfl, tyX0_ok, nmX0, fun _ => rfl, fun h => absurd h (by decide), fun h => absurd h (by decide)⟩
theorem kw_480 : Cond.methodLink RX4 140 yX3_daysOver ∈ jj_W := jj_Wof 480 (by decide +kernel) rfl
theorem kM_X4_140 : jj_MV RX4 140 yX3_daysOver cX3_daysOver 3 (some .int) 2 := ⟨kw_480, kw_481, kw_482, kw_13, kw_483, by decide +kernel, by decide +kernel, by decide +kernel⟩
theorem kw_58 : Cond.fieldLink RX4 144 (TX3 4).1 (TX3 4).2.1 (TX3 4).2.2.1 ∈ jj_W := jj_Wof 58 (by decide +kernel) rfl
theorem kF_X4_144 : jj_F RX4 144 3 4 2 := ⟨RX3, TX3, 7, tyX3, rfl, rfl, by decide, by decide, ku_3, kw_58, fun h => absurd h (by decide), tyX3_ok, nmX3, fun h => absurd h (by decide), fun _ => Or.inr ⟨_, rfl⟩, fun h => absurd h (by decide)⟩
theorem kw_488 : Cond.methodLink RX4 147 yX0_loseHull ∈ jj_W := jj_Wof 488 (by decide +kernel) rfl
theorem kw_491 : Cond.code yX0_loseHull cX0_loseHull 1 none ∈ jj_W := jj_Wof 491 (by decide +kernel) rfl
theorem kw_489 : Cond.instanceMethod yX0_loseHull ∈ jj_W := jj_Wof 489 (by decide +kernel) rfl
theorem kw_490 : Cond.selects RX0 yX0_loseHull yX0_loseHull ∈ jj_W := jj_Wof 490 (by decide +kernel) rfl
theorem kM_X4_147 : jj_MV RX4 147 yX0_loseHull cX0_loseHull 1 none 0 := ⟨kw_488, kw_489, kw_490, kw_15, kw_491, by decide +kernel, by decide +kernel, by decide +kernel⟩
theorem kw_495 : Cond.methodLink RX4 150 yX3_iceAtHarbour ∈ jj_W := jj_Wof 495 (by decide +kernel) rfl
theorem kM_X4_150 : jj_MV RX4 150 yX3_iceAtHarbour cX3_iceAtHarbour 3 (some .int) 1 := ⟨kw_495, kw_324, kw_325, kw_13, kw_326, by decide +kernel, by decide +kernel, by decide +kernel⟩
theorem kw_172 : Cond.fieldLink RX4 153 (TX1 5).1 (TX1 5).2.1 (TX1 5).2.2.1 ∈ jj_W := jj_Wof 172 (by decide +kernel) rfl
theorem kF_X4_153 : jj_F RX4 153 1 5 0 := ⟨RX1, TX1, 7, tyX1, rfl, rfl, by decide, by decide, ku_1, kw_172, fun _ => rfl, tyX1_ok, nmX1, fun _ => rfl, fun h => absurd h (by decide), fun h => absurd h (by decide)⟩
theorem kw_163 : Cond.fieldLink RX4 156 (TX1 2).1 (TX1 2).2.1 (TX1 2).2.2.1 ∈ jj_W := jj_Wof 163 (by decide +kernel) rfl
