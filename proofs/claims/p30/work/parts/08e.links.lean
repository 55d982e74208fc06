theorem kw_536 : Cond.code yX5_arrives cX5_arrives 4 (some .int) ∈ jj_W := jj_Wof 536 (by decide +kernel) rfl
theorem kw_534 : Cond.instanceMethod yX5_arrives ∈ jj_W := jj_Wof 534 (by decide +kernel) rfl
theorem kw_535 : Cond.selects RX5 yX5_arrives yX5_arrives ∈ jj_W := jj_Wof 535 (by decide +kernel) rfl
theorem kM_L_161 : jj_MV RL 161 yX5_arrives cX5_arrives 4 (some .int) 1 := ⟨kw_533, kw_534, kw_535, kw_11, kw_536, by decide +kernel, by decide +kernel, by decide +kernel⟩
theorem kw_527 : Cond.methodLink RL 164 yX5_opens ∈ jj_W := jj_Wof 527 (by decide +kernel) rfl
theorem kw_530 : Cond.code yX5_opens cX5_opens 4 (some .int) ∈ jj_W := jj_Wof 530 (by decide +kernel) rfl
theorem kw_528 : Cond.instanceMethod yX5_opens ∈ jj_W := jj_Wof 528 (by decide +kernel) rfl
theorem kw_529 : Cond.selects RX5 yX5_opens yX5_opens ∈ jj_W := jj_Wof 529 (by decide +kernel) rfl
theorem kM_L_164 : jj_MV RL 164 yX5_opens cX5_opens 4 (some .int) 1 := ⟨kw_527, kw_528, kw_529, kw_11, kw_530, by decide +kernel, by decide +kernel, by decide +kernel⟩
theorem kw_340 : Cond.methodLink RL 167 yX5_leg ∈ jj_W := jj_Wof 340 (by decide +kernel) rfl
theorem kw_343 : Cond.code yX5_leg cX5_leg 3 (some .int) ∈ jj_W := jj_Wof 343 (by decide +kernel) rfl
theorem kw_341 : Cond.instanceMethod yX5_leg ∈ jj_W := jj_Wof 341 (by decide +kernel) rfl
theorem kw_342 : Cond.selects RX5 yX5_leg yX5_leg ∈ jj_W := jj_Wof 342 (by decide +kernel) rfl
theorem kM_L_167 : jj_MV RL 167 yX5_leg cX5_leg 3 (some .int) 2 := ⟨kw_340, kw_341, kw_342, kw_11, kw_343, by decide +kernel, by decide +kernel, by decide +kernel⟩
theorem kw_369 : Cond.methodLink RL 170 yX5_merchant ∈ jj_W := jj_Wof 369 (by decide +kernel) rfl
theorem kw_372 : Cond.code yX5_merchant cX5_merchant 3 (some .int) ∈ jj_W := jj_Wof 372 (by decide +kernel) rfl
theorem kw_370 : Cond.instanceMethod yX5_merchant ∈ jj_W := jj_Wof 370 (by decide +kernel) rfl
theorem kw_371 : Cond.selects RX5 yX5_merchant yX5_merchant ∈ jj_W := jj_Wof 371 (by decide +kernel) rfl
theorem kM_L_170 : jj_MV RL 170 yX5_merchant cX5_merchant 3 (some .int) 2 := ⟨kw_369, kw_370, kw_371, kw_11, kw_372, by decide +kernel, by decide +kernel, by decide +kernel⟩
theorem kw_505 : Cond.methodLink RL 173 yX5_count ∈ jj_W := jj_Wof 505 (by decide +kernel) rfl
theorem kw_508 : Cond.code yX5_count cX5_count 2 (some .int) ∈ jj_W := jj_Wof 508 (by decide +kernel) rfl
theorem kw_506 : Cond.instanceMethod yX5_count ∈ jj_W := jj_Wof 506 (by decide +kernel) rfl
theorem kw_507 : Cond.selects RX5 yX5_count yX5_count ∈ jj_W := jj_Wof 507 (by decide +kernel) rfl
theorem kM_L_173 : jj_MV RL 173 yX5_count cX5_count 2 (some .int) 1 := ⟨kw_505, kw_506, kw_507, kw_11, kw_508, by decide +kernel, by decide +kernel, by decide +kernel⟩
theorem kw_416 : Cond.methodLink RL 176 yX5_pass ∈ jj_W := jj_Wof 416 (by decide +kernel) rfl
theorem kw_419 : Cond.code yX5_pass cX5_pass 4 (some .int) ∈ jj_W := jj_Wof 419 (by decide +kernel) rfl
theorem kw_417 : Cond.instanceMethod yX5_pass ∈ jj_W := jj_Wof 417 (by decide +kernel) rfl
theorem kw_418 : Cond.selects RX5 yX5_pass yX5_pass ∈ jj_W := jj_Wof 418 (by decide +kernel) rfl
theorem kM_L_176 : jj_MV RL 176 yX5_pass cX5_pass 4 (some .int) 1 := ⟨kw_416, kw_417, kw_418, kw_11, kw_419, by decide +kernel, by decide +kernel, by decide +kernel⟩
theorem kw_574 : Cond.methodLink RL 179 yX7_pass ∈ jj_W := jj_Wof 574 (by decide +kernel) rfl
set_option maxRecDepth 100000 in
theorem kw_577 : Cond.code yX7_pass cX7_pass 7 (some .int) ∈ jj_W := jj_Wof 577 rfl rfl
theorem kw_575 : Cond.instanceMethod yX7_pass ∈ jj_W := jj_Wof 575 (by decide +kernel) rfl
theorem kw_576 : Cond.selects RX7 yX7_pass yX7_pass ∈ jj_W := jj_Wof 576 (by decide +kernel) rfl
theorem kM_L_179 : jj_MV RL 179 yX7_pass cX7_pass 7 (some .int) 0 := ⟨kw_574, kw_575, kw_576, kw_17, kw_577, by decide +kernel, by decide +kernel, by decide +kernel⟩
theorem kw_852 : Cond.methodLink RL 181 Lib.Math.max.name ∈ jj_W := jj_Wof 852 (by decide +kernel) rfl
theorem kM_L_181 : jj_MM RL 181 Lib.Math.max.name Lib.Math.max.code 2 := ⟨kw_852, kw_332, kw_25, kw_333⟩
theorem kw_236 : Cond.methodLink RL 184 yX5_harbour ∈ jj_W := jj_Wof 236 (by decide +kernel) rfl
theorem kw_239 : Cond.code yX5_harbour cX5_harbour 3 (some .int) ∈ jj_W := jj_Wof 239 (by decide +kernel) rfl
theorem kw_237 : Cond.instanceMethod yX5_harbour ∈ jj_W := jj_Wof 237 (by decide +kernel) rfl
theorem kw_238 : Cond.selects RX5 yX5_harbour yX5_harbour ∈ jj_W := jj_Wof 238 (by decide +kernel) rfl
theorem kM_L_184 : jj_MV RL 184 yX5_harbour cX5_harbour 3 (some .int) 2 := ⟨kw_236, kw_237, kw_238, kw_11, kw_239, by decide +kernel, by decide +kernel, by decide +kernel⟩
theorem kw_851 : Cond.methodLink RL 187 Lib.Math.abs.name ∈ jj_W := jj_Wof 851 (by decide +kernel) rfl
theorem kM_L_187 : jj_MM RL 187 Lib.Math.abs.name Lib.Math.abs.code 1 := ⟨kw_851, kw_808, kw_25, kw_809⟩
theorem kw_361 : Cond.methodLink RL 190 yX5_stock ∈ jj_W := jj_Wof 361 (by decide +kernel) rfl
theorem kw_364 : Cond.code yX5_stock cX5_stock 4 (some .int) ∈ jj_W := jj_Wof 364 (by decide +kernel) rfl
theorem kw_362 : Cond.instanceMethod yX5_stock ∈ jj_W := jj_Wof 362 (by decide +kernel) rfl
theorem kw_363 : Cond.selects RX5 yX5_stock yX5_stock ∈ jj_W := jj_Wof 363 (by decide +kernel) rfl
theorem kM_L_190 : jj_MV RL 190 yX5_stock cX5_stock 4 (some .int) 3 := ⟨kw_361, kw_362, kw_363, kw_11, kw_364, by decide +kernel, by decide +kernel, by decide +kernel⟩
theorem kw_409 : Cond.methodLink RL 192 yX5_debt ∈ jj_W := jj_Wof 409 (by decide +kernel) rfl
theorem kw_412 : Cond.code yX5_debt cX5_debt 3 (some .int) ∈ jj_W := jj_Wof 412 (by decide +kernel) rfl
theorem kw_410 : Cond.instanceMethod yX5_debt ∈ jj_W := jj_Wof 410 (by decide +kernel) rfl
theorem kw_411 : Cond.selects RX5 yX5_debt yX5_debt ∈ jj_W := jj_Wof 411 (by decide +kernel) rfl
theorem kM_L_192 : jj_MV RL 192 yX5_debt cX5_debt 3 (some .int) 2 := ⟨kw_409, kw_410, kw_411, kw_11, kw_412, by decide +kernel, by decide +kernel, by decide +kernel⟩
theorem kw_599 : Cond.methodLink RL 195 yX7_isSame ∈ jj_W := jj_Wof 599 (by decide +kernel) rfl
set_option maxRecDepth 100000 in
theorem kw_602 : Cond.code yX7_isSame cX7_isSame 18 (some .boolean) ∈ jj_W := jj_Wof 602 rfl rfl
theorem kw_600 : Cond.instanceMethod yX7_isSame ∈ jj_W := jj_Wof 600 (by decide +kernel) rfl
theorem kw_601 : Cond.selects RX7 yX7_isSame yX7_isSame ∈ jj_W := jj_Wof 601 (by decide +kernel) rfl
theorem kM_L_195 : jj_MV RL 195 yX7_isSame cX7_isSame 18 (some .boolean) 1 := ⟨kw_599, kw_600, kw_601, kw_17, kw_602, by decide +kernel, by decide +kernel, by decide +kernel⟩
theorem kw_737 : Cond.methodLink RX6 1 Lib.objectInit ∈ jj_W := jj_Wof 737 (by decide +kernel) rfl
theorem kM_X6_1 : Cond.methodLink RX6 1 Lib.objectInit ∈ jj_W ∧ Cond.instanceMethod Lib.objectInit ∈ jj_W ∧ Cond.code Lib.objectInit ⟨#[0xb1]⟩ 1 none ∈ jj_W := ⟨kw_737, kw_34, kw_35⟩
theorem kw_740 : Cond.fieldLink RX6 7 (TX6 1).1 (TX6 1).2.1 (TX6 1).2.2.1 ∈ jj_W := jj_Wof 740 (by decide +kernel) rfl
theorem kF_X6_7 : jj_F RX6 7 6 1 0 := ⟨RX6, TX6, 9, tyX6, rfl, rfl, by decide, by decide, ku_6, kw_740, fun _ => rfl, tyX6_ok, nmX6, fun _ => rfl, fun h => absurd h (by decide), fun h => absurd h (by decide)⟩
theorem kw_754 : Cond.fieldLink RX6 13 (TX6 8).1 (TX6 8).2.1 (TX6 8).2.2.1 ∈ jj_W := jj_Wof 754 (by decide +kernel) rfl
theorem kF_X6_13 : jj_F RX6 13 6 8 0 := ⟨RX6, TX6, 9, tyX6, rfl, rfl, by decide, by decide, ku_6, kw_754, fun _ => rfl, tyX6_ok, nmX6, fun h => absurd h (by decide), fun _ => Or.inr ⟨_, rfl⟩, fun h => absurd h (by decide)⟩
theorem kw_637 : Cond.methodLink RX7 1 Lib.objectInit ∈ jj_W := jj_Wof 637 (by decide +kernel) rfl
theorem kM_X7_1 : Cond.methodLink RX7 1 Lib.objectInit ∈ jj_W ∧ Cond.instanceMethod Lib.objectInit ∈ jj_W ∧ Cond.code Lib.objectInit ⟨#[0xb1]⟩ 1 none ∈ jj_W := ⟨kw_637, kw_34, kw_35⟩
theorem kw_643 : Cond.fieldLink RX7 7 (TX7 0).1 (TX7 0).2.1 (TX7 0).2.2.1 ∈ jj_W := jj_Wof 643 (by decide +kernel) rfl
theorem kF_X7_7 : jj_F RX7 7 7 0 0 := ⟨RX7, TX7, 9, tyX7, rfl, rfl, by decide, by decide, ku_7, kw_643, fun _ => rfl, tyX7_ok, nmX7, fun h => absurd h (by decide), fun _ => Or.inr ⟨_, rfl⟩, fun h => absurd h (by decide)⟩
theorem kw_638 : Cond.classLink RX7 13 "[I" ∈ jj_W := jj_Wof 638 (by decide +kernel) rfl
theorem kC_X7_13 : Cond.classLink RX7 13 "[I" ∈ jj_W := kw_638
theorem kw_645 : Cond.fieldLink RX7 14 (TX7 1).1 (TX7 1).2.1 (TX7 1).2.2.1 ∈ jj_W := jj_Wof 645 (by decide +kernel) rfl
theorem kF_X7_14 : jj_F RX7 14 7 1 0 := ⟨RX7, TX7, 9, tyX7, rfl, rfl, by decide, by decide, ku_7, kw_645, fun _ => rfl, tyX7_ok, nmX7, fun h => absurd h (by decide), fun _ => Or.inr ⟨_, rfl⟩, fun h => absurd h (by decide)⟩
theorem kw_647 : Cond.fieldLink RX7 18 (TX7 2).1 (TX7 2).2.1 (TX7 2).2.2.1 ∈ jj_W := jj_Wof 647 (by decide +kernel) rfl
theorem kF_X7_18 : jj_F RX7 18 7 2 0 := ⟨RX7, TX7, 9, tyX7, rfl, rfl, by decide, by decide, ku_7, kw_647, fun _ => rfl, tyX7_ok, nmX7, fun h => absurd h (by decide), fun _ => Or.inr ⟨_, rfl⟩, fun h => absurd h (by decide)⟩
theorem kw_649 : Cond.fieldLink RX7 21 (TX7 3).1 (TX7 3).2.1 (TX7 3).2.2.1 ∈ jj_W := jj_Wof 649 (by decide +kernel) rfl
theorem kF_X7_21 : jj_F RX7 21 7 3 0 := ⟨RX7, TX7, 9, tyX7, rfl, rfl, by decide, by decide, ku_7, kw_649, fun _ => rfl, tyX7_ok, nmX7, fun h => absurd h (by decide), fun _ => Or.inr ⟨_, rfl⟩, fun h => absurd h (by decide)⟩
theorem kw_650 : Cond.fieldLink RX7 24 (TX7 4).1 (TX7 4).2.1 (TX7 4).2.2.1 ∈ jj_W := jj_Wof 650 (by decide +kernel) rfl
theorem kF_X7_24 : jj_F RX7 24 7 4 0 := ⟨RX7, TX7, 9, tyX7, rfl, rfl, by decide, by decide, ku_7, kw_650, fun _ => rfl, tyX7_ok, nmX7, fun h => absurd h (by decide), fun _ => Or.inr ⟨_, rfl⟩, fun h => absurd h (by decide)⟩
theorem kw_639 : Cond.classLink RX7 27 "[[[I" ∈ jj_W := jj_Wof 639 (by decide +kernel) rfl
theorem kC_X7_27 : Cond.classLink RX7 27 "[[[I" ∈ jj_W := kw_639
theorem kw_652 : Cond.fieldLink RX7 29 (TX7 5).1 (TX7 5).2.1 (TX7 5).2.2.1 ∈ jj_W := jj_Wof 652 (by decide +kernel) rfl
theorem kF_X7_29 : jj_F RX7 29 7 5 0 := ⟨RX7, TX7, 9, tyX7, rfl, rfl, by decide, by decide, ku_7, kw_652, fun _ => rfl, tyX7_ok, nmX7, fun h => absurd h (by decide), fun _ => Or.inr ⟨_, rfl⟩, fun h => absurd h (by decide)⟩
theorem kw_641 : Cond.classLink RX7 32 "IceHarbourLaw$Boat" ∈ jj_W := jj_Wof 641 (by decide +kernel) rfl
theorem kC_X7_32 : Cond.classLink RX7 32 "IceHarbourLaw$Boat" ∈ jj_W := kw_641
theorem kw_654 : Cond.fieldLink RX7 34 (TX7 6).1 (TX7 6).2.1 (TX7 6).2.2.1 ∈ jj_W := jj_Wof 654 (by decide +kernel) rfl
theorem kF_X7_34 : jj_F RX7 34 7 6 0 := ⟨RX7, TX7, 9, tyX7, rfl, rfl, by decide, by decide, ku_7, kw_654, fun _ => rfl, tyX7_ok, nmX7, fun h => absurd h (by decide), fun _ => Or.inr ⟨_, rfl⟩, fun h => absurd h (by decide)⟩
theorem kw_656 : Cond.fieldLink RX7 38 (TX7 7).1 (TX7 7).2.1 (TX7 7).2.2.1 ∈ jj_W := jj_Wof 656 (by decide +kernel) rfl
theorem kF_X7_38 : jj_F RX7 38 7 7 0 := ⟨RX7, TX7, 9, tyX7, rfl, rfl, by decide, by decide, ku_7, kw_656, fun _ => rfl, tyX7_ok, nmX7, fun h => absurd h (by decide), fun _ => Or.inr ⟨_, rfl⟩, fun h => absurd h (by decide)⟩
theorem kw_733 : Cond.instantiable RX6 9 ∈ jj_W := jj_Wof 733 (by decide +kernel) rfl
theorem kN_X7_32 : jj_NW RX7 32 6 := ⟨RX6, TX6, 9, tyX6, rfl, rfl, by decide, ku_6, tyX6_ok, kw_641, kw_733, kw_24, by decide +kernel⟩
theorem kw_736 : Cond.code yX6_init cX6_init 1 none ∈ jj_W := jj_Wof 736 (by decide +kernel) rfl
theorem kw_735 : Cond.instanceMethod yX6_init ∈ jj_W := jj_Wof 735 (by decide +kernel) rfl
theorem kM_X7_54 : jj_MIN RX7 54 yX6_init cX6_init 1 0 := ⟨(by rw [if_pos rfl]; simp [jj_trav]), kw_735, rfl, kw_24, kw_736, by decide +kernel, by decide +kernel, by decide +kernel⟩
theorem kw_738 : Cond.fieldLink RX7 55 (TX6 0).1 (TX6 0).2.1 (TX6 0).2.2.1 ∈ jj_W := jj_Wof 738 (by decide +kernel) rfl
theorem kF_X7_55 : jj_F RX7 55 6 0 0 := ⟨RX6, TX6, 9, tyX6, rfl, rfl, by decide, by decide, ku_6, kw_738, fun _ => rfl, tyX6_ok, nmX6, fun _ => rfl, fun h => absurd h (by decide), fun h => absurd h (by decide)⟩
theorem kw_743 : Cond.fieldLink RX7 58 (TX6 2).1 (TX6 2).2.1 (TX6 2).2.2.1 ∈ jj_W := jj_Wof 743 (by decide +kernel) rfl
theorem kF_X7_58 : jj_F RX7 58 6 2 0 := ⟨RX6, TX6, 9, tyX6, rfl, rfl, by decide, by decide, ku_6, kw_743, fun _ => rfl, tyX6_ok, nmX6, fun _ => rfl, fun h => absurd h (by decide), fun h => absurd h (by decide)⟩
theorem kw_747 : Cond.fieldLink RX7 61 (TX6 4).1 (TX6 4).2.1 (TX6 4).2.2.1 ∈ jj_W := jj_Wof 747 (by decide +kernel) rfl
theorem kF_X7_61 : jj_F RX7 61 6 4 0 := ⟨RX6, TX6, 9, tyX6, rfl, rfl, by decide, by decide, ku_6, kw_747, fun _ => rfl, tyX6_ok, nmX6, fun _ => rfl, fun h => absurd h (by decide), fun h => absurd h (by decide)⟩
theorem kw_749 : Cond.fieldLink RX7 64 (TX6 5).1 (TX6 5).2.1 (TX6 5).2.2.1 ∈ jj_W := jj_Wof 749 (by decide +kernel) rfl
theorem kF_X7_64 : jj_F RX7 64 6 5 0 := ⟨RX6, TX6, 9, tyX6, rfl, rfl, by decide, by decide, ku_6, kw_749, fun _ => rfl, tyX6_ok, nmX6, fun _ => rfl, fun h => absurd h (by decide), fun h => absurd h (by decide)⟩
theorem kw_746 : Cond.fieldLink RX7 67 (TX6 3).1 (TX6 3).2.1 (TX6 3).2.2.1 ∈ jj_W := jj_Wof 746 (by decide +kernel) rfl
theorem kF_X7_67 : jj_F RX7 67 6 3 0 := ⟨RX6, TX6, 9, tyX6, rfl, rfl, by decide, by decide, ku_6, kw_746, fun _ => rfl, tyX6_ok, nmX6, fun _ => rfl, fun h => absurd h (by decide), fun h => absurd h (by decide)⟩
theorem kw_659 : Cond.fieldLink RX7 50 (TX7 8).1 (TX7 8).2.1 (TX7 8).2.2.1 ∈ jj_W := jj_Wof 659 (by decide +kernel) rfl
theorem kF_X7_50 : jj_F RX7 50 7 8 0 := ⟨RX7, TX7, 9, tyX7, rfl, rfl, by decide, by decide, ku_7, kw_659, fun _ => rfl, tyX7_ok, nmX7, fun _ => rfl, fun h => absurd h (by decide), fun h => absurd h (by decide)⟩
theorem kw_753 : Cond.fieldLink RX7 70 (TX6 7).1 (TX6 7).2.1 (TX6 7).2.2.1 ∈ jj_W := jj_Wof 753 (by decide +kernel) rfl
theorem kF_X7_70 : jj_F RX7 70 6 7 0 := ⟨RX6, TX6, 9, tyX6, rfl, rfl, by decide, by decide, ku_6, kw_753, fun _ => rfl, tyX6_ok, nmX6, fun _ => rfl, fun h => absurd h (by decide), fun h => absurd h (by decide)⟩
theorem kw_752 : Cond.fieldLink RX7 73 (TX6 6).1 (TX6 6).2.1 (TX6 6).2.2.1 ∈ jj_W := jj_Wof 752 (by decide +kernel) rfl
theorem kF_X7_73 : jj_F RX7 73 6 6 0 := ⟨RX6, TX6, 9, tyX6, rfl, rfl, by decide, by decide, ku_6, kw_752, fun _ => rfl, tyX6_ok, nmX6, fun _ => rfl, fun h => absurd h (by decide), fun h => absurd h (by decide)⟩
theorem kw_591 : Cond.methodLink RX7 76 yX7_around ∈ jj_W := jj_Wof 591 (by decide +kernel) rfl
theorem kw_594 : Cond.code yX7_around cX7_around 2 (some .int) ∈ jj_W := jj_Wof 594 (by decide +kernel) rfl
theorem kw_592 : Cond.instanceMethod yX7_around ∈ jj_W := jj_Wof 592 (by decide +kernel) rfl
theorem kw_593 : Cond.selects RX7 yX7_around yX7_around ∈ jj_W := jj_Wof 593 (by decide +kernel) rfl
theorem kM_X7_76 : jj_MV RX7 76 yX7_around cX7_around 2 (some .int) 1 := ⟨kw_591, kw_592, kw_593, kw_17, kw_594, by decide +kernel, by decide +kernel, by decide +kernel⟩
theorem kw_742 : Cond.fieldLink RX7 80 (TX6 1).1 (TX6 1).2.1 (TX6 1).2.2.1 ∈ jj_W := jj_Wof 742 (by decide +kernel) rfl
theorem kF_X7_80 : jj_F RX7 80 6 1 0 := ⟨RX6, TX6, 9, tyX6, rfl, rfl, by decide, by decide, ku_6, kw_742, fun _ => rfl, tyX6_ok, nmX6, fun _ => rfl, fun h => absurd h (by decide), fun h => absurd h (by decide)⟩
theorem kw_756 : Cond.fieldLink RX7 83 (TX6 8).1 (TX6 8).2.1 (TX6 8).2.2.1 ∈ jj_W := jj_Wof 756 (by decide +kernel) rfl
theorem kF_X7_83 : jj_F RX7 83 6 8 0 := ⟨RX6, TX6, 9, tyX6, rfl, rfl, by decide, by decide, ku_6, kw_756, fun _ => rfl, tyX6_ok, nmX6, fun h => absurd h (by decide), fun _ => Or.inr ⟨_, rfl⟩, fun h => absurd h (by decide)⟩
theorem kw_578 : Cond.methodLink RX7 86 yX7_sunk ∈ jj_W := jj_Wof 578 (by decide +kernel) rfl
theorem kw_581 : Cond.code yX7_sunk cX7_sunk 6 (some .int) ∈ jj_W := jj_Wof 581 (by decide +kernel) rfl
theorem kw_579 : Cond.instanceMethod yX7_sunk ∈ jj_W := jj_Wof 579 (by decide +kernel) rfl
theorem kw_580 : Cond.selects RX7 yX7_sunk yX7_sunk ∈ jj_W := jj_Wof 580 (by decide +kernel) rfl
theorem kM_X7_86 : jj_MV RX7 86 yX7_sunk cX7_sunk 6 (some .int) 0 := ⟨kw_578, kw_579, kw_580, kw_17, kw_581, by decide +kernel, by decide +kernel, by decide +kernel⟩
theorem kw_582 : Cond.methodLink RX7 90 yX7_freeze ∈ jj_W := jj_Wof 582 (by decide +kernel) rfl
theorem kw_585 : Cond.code yX7_freeze cX7_freeze 3 none ∈ jj_W := jj_Wof 585 (by decide +kernel) rfl
theorem kw_583 : Cond.instanceMethod yX7_freeze ∈ jj_W := jj_Wof 583 (by decide +kernel) rfl
theorem kw_584 : Cond.selects RX7 yX7_freeze yX7_freeze ∈ jj_W := jj_Wof 584 (by decide +kernel) rfl
theorem kM_X7_90 : jj_MV RX7 90 yX7_freeze cX7_freeze 3 none 0 := ⟨kw_582, kw_583, kw_584, kw_17, kw_585, by decide +kernel, by decide +kernel, by decide +kernel⟩
theorem kw_586 : Cond.methodLink RX7 93 yX7_sail ∈ jj_W := jj_Wof 586 (by decide +kernel) rfl
set_option maxRecDepth 100000 in
theorem kw_590 : Cond.code yX7_sail cX7_sail 4 none ∈ jj_W := jj_Wof 590 rfl rfl
theorem kw_588 : Cond.instanceMethod yX7_sail ∈ jj_W := jj_Wof 588 (by decide +kernel) rfl
theorem kw_9 : Cond.selects RX7 yX7_sail yX7_sail ∈ jj_W := jj_Wof 9 (by decide +kernel) rfl
theorem kM_X7_93 : jj_MV RX7 93 yX7_sail cX7_sail 4 none 1 := ⟨kw_586, kw_588, kw_9, kw_17, kw_590, by decide +kernel, by decide +kernel, by decide +kernel⟩
theorem kw_595 : Cond.methodLink RX7 97 yX7_pays ∈ jj_W := jj_Wof 595 (by decide +kernel) rfl
theorem kM_X7_97 : jj_MV RX7 97 yX7_pays cX7_pays 3 (some .boolean) 2 := ⟨kw_595, kw_596, kw_597, kw_17, kw_598, by decide +kernel, by decide +kernel, by decide +kernel⟩
theorem kw_603 : Cond.methodLink RX7 101 yX7_in ∈ jj_W := jj_Wof 603 (by decide +kernel) rfl
theorem kM_X7_101 : jj_MV RX7 101 yX7_in cX7_in 8 (some .int) 2 := ⟨kw_603, kw_604, kw_605, kw_17, kw_606, by decide +kernel, by decide +kernel, by decide +kernel⟩
theorem kw_607 : Cond.methodLink RX7 105 yX5_harbour ∈ jj_W := jj_Wof 607 (by decide +kernel) rfl
theorem kM_X7_105 : jj_MV RX7 105 yX5_harbour cX5_harbour 3 (some .int) 2 := ⟨kw_607, kw_237, kw_238, kw_11, kw_239, by decide +kernel, by decide +kernel, by decide +kernel⟩
theorem kw_608 : Cond.methodLink RX7 110 yX5_leg ∈ jj_W := jj_Wof 608 (by decide +kernel) rfl
theorem kM_X7_110 : jj_MV RX7 110 yX5_leg cX5_leg 3 (some .int) 2 := ⟨kw_608, kw_341, kw_342, kw_11, kw_343, by decide +kernel, by decide +kernel, by decide +kernel⟩
theorem kw_609 : Cond.methodLink RX7 112 yX6_all ∈ jj_W := jj_Wof 609 (by decide +kernel) rfl
theorem kM_X7_112 : jj_MV RX7 112 yX6_all cX6_all 1 (some .int) 0 := ⟨kw_609, kw_610, kw_611, kw_24, kw_612, by decide +kernel, by decide +kernel, by decide +kernel⟩
theorem kw_613 : Cond.methodLink RX7 115 yX5_stock ∈ jj_W := jj_Wof 613 (by decide +kernel) rfl
theorem kM_X7_115 : jj_MV RX7 115 yX5_stock cX5_stock 4 (some .int) 3 := ⟨kw_613, kw_362, kw_363, kw_11, kw_364, by decide +kernel, by decide +kernel, by decide +kernel⟩
theorem kw_614 : Cond.methodLink RX7 118 yX5_merchant ∈ jj_W := jj_Wof 614 (by decide +kernel) rfl
theorem kM_X7_118 : jj_MV RX7 118 yX5_merchant cX5_merchant 3 (some .int) 2 := ⟨kw_614, kw_370, kw_371, kw_11, kw_372, by decide +kernel, by decide +kernel, by decide +kernel⟩
theorem kw_615 : Cond.methodLink RX7 121 yX5_boat ∈ jj_W := jj_Wof 615 (by decide +kernel) rfl
theorem kM_X7_121 : jj_MV RX7 121 yX5_boat cX5_boat 3 (some .int) 2 := ⟨kw_615, kw_398, kw_399, kw_11, kw_400, by decide +kernel, by decide +kernel, by decide +kernel⟩
theorem kw_616 : Cond.methodLink RX7 124 yX5_debt ∈ jj_W := jj_Wof 616 (by decide +kernel) rfl
theorem kM_X7_124 : jj_MV RX7 124 yX5_debt cX5_debt 3 (some .int) 2 := ⟨kw_616, kw_410, kw_411, kw_11, kw_412, by decide +kernel, by decide +kernel, by decide +kernel⟩
theorem kw_617 : Cond.methodLink RX7 127 yX5_count ∈ jj_W := jj_Wof 617 (by decide +kernel) rfl
theorem kM_X7_127 : jj_MV RX7 127 yX5_count cX5_count 2 (some .int) 1 := ⟨kw_617, kw_506, kw_507, kw_11, kw_508, by decide +kernel, by decide +kernel, by decide +kernel⟩
theorem kw_618 : Cond.methodLink RX7 130 yX5_mean ∈ jj_W := jj_Wof 618 (by decide +kernel) rfl
theorem kw_621 : Cond.code yX5_mean cX5_mean 4 (some .double) ∈ jj_W := jj_Wof 621 (by decide +kernel) rfl
theorem kw_619 : Cond.instanceMethod yX5_mean ∈ jj_W := jj_Wof 619 (by decide +kernel) rfl
theorem kw_620 : Cond.selects RX5 yX5_mean yX5_mean ∈ jj_W := jj_Wof 620 (by decide +kernel) rfl
theorem kM_X7_130 : jj_MV RX7 130 yX5_mean cX5_mean 4 (some .double) 0 := ⟨kw_618, kw_619, kw_620, kw_11, kw_621, by decide +kernel, by decide +kernel, by decide +kernel⟩
theorem kA_int : Cond.arrayClass .int ∈ jj_W := jj_Wof 81 (by decide +kernel) rfl
theorem kt_arga : ∀ w ∈ vx_atS RX5 119 "java/lang/IllegalArgumentException" jj_sup, (goodWord w = true ∧ w ∈ lw_tbl) ∨ (w ∈ jj_trav ∧ w.onTables = true) := by decide +kernel
theorem kt_argb : ∀ w ∈ Cond.classLink RX5 115 "java/lang/IllegalArgumentException" :: Cond.initialized "java/lang/IllegalArgumentException" :: vx_atS RX5 119 "java/lang/IllegalArgumentException" jj_sup, vx_ot w = true := by decide +kernel
theorem kw_423 : Cond.classLink RX5 115 "java/lang/IllegalArgumentException" ∈ jj_W := jj_Wof 423 (by decide +kernel) rfl
theorem kw_22 : Cond.initialized "java/lang/IllegalArgumentException" ∈ jj_W := jj_Wof 22 (by decide +kernel) rfl
theorem kT_117 : jj_T 115 117 119 "java/lang/IllegalArgumentException" "nothing is loaded" := ⟨kw_423, kw_22, by simp [jj_strs], by decide +kernel, kt_arga, kt_argb⟩
theorem kt_illa : ∀ w ∈ vx_atS RX5 155 "java/lang/IllegalStateException" jj_sup, (goodWord w = true ∧ w ∈ lw_tbl) ∨ (w ∈ jj_trav ∧ w.onTables = true) := by decide +kernel
theorem kt_illb : ∀ w ∈ Cond.classLink RX5 151 "java/lang/IllegalStateException" :: Cond.initialized "java/lang/IllegalStateException" :: vx_atS RX5 155 "java/lang/IllegalStateException" jj_sup, vx_ot w = true := by decide +kernel
theorem kw_690 : Cond.classLink RX5 151 "java/lang/IllegalStateException" ∈ jj_W := jj_Wof 690 (by decide +kernel) rfl
theorem kw_23 : Cond.initialized "java/lang/IllegalStateException" ∈ jj_W := jj_Wof 23 (by decide +kernel) rfl
theorem kT_153 : jj_T 151 153 155 "java/lang/IllegalStateException" "the boat is sunk" := ⟨kw_690, kw_23, by simp [jj_strs], by decide +kernel, kt_illa, kt_illb⟩
theorem kT_178 : jj_T 115 178 119 "java/lang/IllegalArgumentException" "nobody lends to himself" := ⟨kw_423, kw_22, by simp [jj_strs], by decide +kernel, kt_arga, kt_argb⟩
theorem kT_203 : jj_T 151 203 155 "java/lang/IllegalStateException" "the debt is not open" := ⟨kw_690, kw_23, by simp [jj_strs], by decide +kernel, kt_illa, kt_illb⟩
theorem kt_ooba : ∀ w ∈ vx_atS RX5 284 "java/lang/IndexOutOfBoundsException" jj_sup, (goodWord w = true ∧ w ∈ lw_tbl) ∨ (w ∈ jj_trav ∧ w.onTables = true) := by decide +kernel
theorem kt_oobb : ∀ w ∈ Cond.classLink RX5 280 "java/lang/IndexOutOfBoundsException" :: Cond.initialized "java/lang/IndexOutOfBoundsException" :: vx_atS RX5 284 "java/lang/IndexOutOfBoundsException" jj_sup, vx_ot w = true := by decide +kernel
theorem kw_247 : Cond.classLink RX5 280 "java/lang/IndexOutOfBoundsException" ∈ jj_W := jj_Wof 247 (by decide +kernel) rfl
theorem kw_21 : Cond.initialized "java/lang/IndexOutOfBoundsException" ∈ jj_W := jj_Wof 21 (by decide +kernel) rfl
theorem kT_282 : jj_T 280 282 284 "java/lang/IndexOutOfBoundsException" "there is no such number" := ⟨kw_247, kw_21, by simp [jj_strs], by decide +kernel, kt_ooba, kt_oobb⟩
theorem kT_285 : jj_T 115 285 119 "java/lang/IllegalArgumentException" "the number is too small or too great" := ⟨kw_423, kw_22, by simp [jj_strs], by decide +kernel, kt_arga, kt_argb⟩
theorem kT_287 : jj_T 115 287 119 "java/lang/IllegalArgumentException" "the number is too small" := ⟨kw_423, kw_22, by simp [jj_strs], by decide +kernel, kt_arga, kt_argb⟩
theorem kT_289 : jj_T 151 289 155 "java/lang/IllegalStateException" "there are as many as there can be" := ⟨kw_690, kw_23, by simp [jj_strs], by decide +kernel, kt_illa, kt_illb⟩
theorem kT_291 : jj_T 151 291 155 "java/lang/IllegalStateException" "there is not so much" := ⟨kw_690, kw_23, by simp [jj_strs], by decide +kernel, kt_illa, kt_illb⟩
theorem kT_296 : jj_T 151 296 155 "java/lang/IllegalStateException" "the boat is in no harbour" := ⟨kw_690, kw_23, by simp [jj_strs], by decide +kernel, kt_illa, kt_illb⟩
