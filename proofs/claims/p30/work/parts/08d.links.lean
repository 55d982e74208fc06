theorem kF_X4_156 : jj_F RX4 156 1 2 0 := ⟨RX1, TX1, 7, tyX1, rfl, rfl, by decide, by decide, ku_1, kw_163, fun _ => rfl, tyX1_ok, nmX1, fun _ => rfl, fun h => absurd h (by decide), fun h => absurd h (by decide)⟩
theorem kw_166 : Cond.fieldLink RX4 157 (TX1 3).1 (TX1 3).2.1 (TX1 3).2.2.1 ∈ jj_W := jj_Wof 166 (by decide +kernel) rfl
theorem kF_X4_157 : jj_F RX4 157 1 3 0 := ⟨RX1, TX1, 7, tyX1, rfl, rfl, by decide, by decide, ku_1, kw_166, fun _ => rfl, tyX1_ok, nmX1, fun _ => rfl, fun h => absurd h (by decide), fun h => absurd h (by decide)⟩
theorem kM_X4_160 : jj_MSN RX4 160 yX5_cellOf cX5_cellOf 2 (some .int) 2 := ⟨(by simp [jj_trav]), kw_338, kw_11, kw_339, by decide +kernel, by decide +kernel, by decide +kernel⟩
theorem kw_169 : Cond.fieldLink RX4 163 (TX1 4).1 (TX1 4).2.1 (TX1 4).2.2.1 ∈ jj_W := jj_Wof 169 (by decide +kernel) rfl
theorem kF_X4_163 : jj_F RX4 163 1 4 0 := ⟨RX1, TX1, 7, tyX1, rfl, rfl, by decide, by decide, ku_1, kw_169, fun _ => rfl, tyX1_ok, nmX1, fun _ => rfl, fun h => absurd h (by decide), fun h => absurd h (by decide)⟩
theorem kw_65 : Cond.fieldLink RX4 166 (TX3 6).1 (TX3 6).2.1 (TX3 6).2.2.1 ∈ jj_W := jj_Wof 65 (by decide +kernel) rfl
theorem kF_X4_166 : jj_F RX4 166 3 6 2 := ⟨RX3, TX3, 7, tyX3, rfl, rfl, by decide, by decide, ku_3, kw_65, fun h => absurd h (by decide), tyX3_ok, nmX3, fun h => absurd h (by decide), fun _ => Or.inr ⟨_, rfl⟩, fun h => absurd h (by decide)⟩
theorem kw_157 : Cond.fieldLink RX4 169 (TX1 0).1 (TX1 0).2.1 (TX1 0).2.2.1 ∈ jj_W := jj_Wof 157 (by decide +kernel) rfl
theorem kF_X4_169 : jj_F RX4 169 1 0 0 := ⟨RX1, TX1, 7, tyX1, rfl, rfl, by decide, by decide, ku_1, kw_157, fun _ => rfl, tyX1_ok, nmX1, fun _ => rfl, fun h => absurd h (by decide), fun h => absurd h (by decide)⟩
theorem kw_501 : Cond.methodLink RX4 172 yX4_hand ∈ jj_W := jj_Wof 501 (by decide +kernel) rfl
theorem kM_X4_172 : jj_MV RX4 172 yX4_hand cX4_hand 5 none 4 := ⟨kw_501, kw_502, kw_503, kw_12, kw_504, by decide +kernel, by decide +kernel, by decide +kernel⟩
theorem kw_625 : Cond.constant RL 7 2147483647 ∈ jj_W := jj_Wof 625 (by decide +kernel) rfl
theorem kc_L_7 : Cond.constant RL 7 2147483647 ∈ jj_W := kw_625
theorem kw_629 : Cond.constant RL 8 790386105 ∈ jj_W := jj_Wof 629 (by decide +kernel) rfl
theorem kc_L_8 : Cond.constant RL 8 790386105 ∈ jj_W := kw_629
theorem kw_633 : Cond.classLink RL 9 RX7 ∈ jj_W := jj_Wof 633 (by decide +kernel) rfl
theorem kw_589 : Cond.instantiable RX7 9 ∈ jj_W := jj_Wof 589 (by decide +kernel) rfl
theorem kw_17 : Cond.initialized RX7 ∈ jj_W := jj_Wof 17 (by decide +kernel) rfl
theorem kN_L_9 : jj_NW RL 9 7 := ⟨RX7, TX7, 9, tyX7, rfl, rfl, by decide, ku_7, tyX7_ok, kw_633, kw_589, kw_17, by decide +kernel⟩
theorem kw_634 : Cond.methodLink RL 11 yX7_init ∈ jj_W := jj_Wof 634 (by decide +kernel) rfl
theorem kw_636 : Cond.code yX7_init cX7_init 2 none ∈ jj_W := jj_Wof 636 (by decide +kernel) rfl
theorem kw_635 : Cond.instanceMethod yX7_init ∈ jj_W := jj_Wof 635 (by decide +kernel) rfl
theorem kM_L_11 : jj_MI RL 11 yX7_init cX7_init 2 0 := ⟨kw_634, kw_635, rfl, kw_17, kw_636, by decide +kernel, by decide +kernel, by decide +kernel⟩
theorem kw_626 : Cond.methodLink RL 12 yL_cell ∈ jj_W := jj_Wof 626 (by decide +kernel) rfl
theorem kw_10 : Cond.initialized RL ∈ jj_W := jj_Wof 10 (by decide +kernel) rfl
theorem kw_628 : Cond.code yL_cell cL_cell 2 (some .int) ∈ jj_W := jj_Wof 628 (by decide +kernel) rfl
theorem kw_627 : Cond.static yL_cell ∈ jj_W := jj_Wof 627 (by decide +kernel) rfl
theorem kM_L_12 : jj_MS RL 12 yL_cell cL_cell 2 (some .int) 2 := ⟨kw_626, kw_627, kw_10, kw_628, by decide +kernel, by decide +kernel, by decide +kernel⟩
theorem kw_622 : Cond.methodLink RL 18 yL_below ∈ jj_W := jj_Wof 622 (by decide +kernel) rfl
theorem kw_624 : Cond.code yL_below cL_below 2 (some .int) ∈ jj_W := jj_Wof 624 (by decide +kernel) rfl
theorem kw_623 : Cond.static yL_below ∈ jj_W := jj_Wof 623 (by decide +kernel) rfl
theorem kM_L_18 : jj_MS RL 18 yL_below cL_below 2 (some .int) 2 := ⟨kw_622, kw_623, kw_10, kw_624, by decide +kernel, by decide +kernel, by decide +kernel⟩
theorem kw_644 : Cond.fieldLink RL 22 (TX7 0).1 (TX7 0).2.1 (TX7 0).2.2.1 ∈ jj_W := jj_Wof 644 (by decide +kernel) rfl
theorem kF_L_22 : jj_F RL 22 7 0 0 := ⟨RX7, TX7, 9, tyX7, rfl, rfl, by decide, by decide, ku_7, kw_644, fun _ => rfl, tyX7_ok, nmX7, fun h => absurd h (by decide), fun _ => Or.inr ⟨_, rfl⟩, fun h => absurd h (by decide)⟩
theorem kw_679 : Cond.methodLink RL 26 yX5_setWarm ∈ jj_W := jj_Wof 679 (by decide +kernel) rfl
theorem kw_682 : Cond.code yX5_setWarm cX5_setWarm 4 (some .int) ∈ jj_W := jj_Wof 682 (by decide +kernel) rfl
theorem kw_680 : Cond.instanceMethod yX5_setWarm ∈ jj_W := jj_Wof 680 (by decide +kernel) rfl
theorem kw_681 : Cond.selects RX5 yX5_setWarm yX5_setWarm ∈ jj_W := jj_Wof 681 (by decide +kernel) rfl
theorem kM_L_26 : jj_MV RL 26 yX5_setWarm cX5_setWarm 4 (some .int) 2 := ⟨kw_679, kw_680, kw_681, kw_11, kw_682, by decide +kernel, by decide +kernel, by decide +kernel⟩
theorem kw_683 : Cond.methodLink RL 31 yX5_addHarbour ∈ jj_W := jj_Wof 683 (by decide +kernel) rfl
theorem kw_686 : Cond.code yX5_addHarbour cX5_addHarbour 3 (some .int) ∈ jj_W := jj_Wof 686 (by decide +kernel) rfl
theorem kw_684 : Cond.instanceMethod yX5_addHarbour ∈ jj_W := jj_Wof 684 (by decide +kernel) rfl
theorem kw_685 : Cond.selects RX5 yX5_addHarbour yX5_addHarbour ∈ jj_W := jj_Wof 685 (by decide +kernel) rfl
theorem kM_L_31 : jj_MV RL 31 yX5_addHarbour cX5_addHarbour 3 (some .int) 2 := ⟨kw_683, kw_684, kw_685, kw_11, kw_686, by decide +kernel, by decide +kernel, by decide +kernel⟩
theorem kw_648 : Cond.fieldLink RL 34 (TX7 2).1 (TX7 2).2.1 (TX7 2).2.2.1 ∈ jj_W := jj_Wof 648 (by decide +kernel) rfl
theorem kF_L_34 : jj_F RL 34 7 2 0 := ⟨RX7, TX7, 9, tyX7, rfl, rfl, by decide, by decide, ku_7, kw_648, fun _ => rfl, tyX7_ok, nmX7, fun h => absurd h (by decide), fun _ => Or.inr ⟨_, rfl⟩, fun h => absurd h (by decide)⟩
theorem kw_710 : Cond.methodLink RL 37 yX5_setPrice ∈ jj_W := jj_Wof 710 (by decide +kernel) rfl
theorem kw_713 : Cond.code yX5_setPrice cX5_setPrice 5 (some .int) ∈ jj_W := jj_Wof 713 (by decide +kernel) rfl
theorem kw_711 : Cond.instanceMethod yX5_setPrice ∈ jj_W := jj_Wof 711 (by decide +kernel) rfl
theorem kw_712 : Cond.selects RX5 yX5_setPrice yX5_setPrice ∈ jj_W := jj_Wof 712 (by decide +kernel) rfl
theorem kM_L_37 : jj_MV RL 37 yX5_setPrice cX5_setPrice 5 (some .int) 3 := ⟨kw_710, kw_711, kw_712, kw_11, kw_713, by decide +kernel, by decide +kernel, by decide +kernel⟩
theorem kw_646 : Cond.fieldLink RL 41 (TX7 1).1 (TX7 1).2.1 (TX7 1).2.2.1 ∈ jj_W := jj_Wof 646 (by decide +kernel) rfl
theorem kF_L_41 : jj_F RL 41 7 1 0 := ⟨RX7, TX7, 9, tyX7, rfl, rfl, by decide, by decide, ku_7, kw_646, fun _ => rfl, tyX7_ok, nmX7, fun h => absurd h (by decide), fun _ => Or.inr ⟨_, rfl⟩, fun h => absurd h (by decide)⟩
theorem kw_714 : Cond.methodLink RL 45 yX7_more ∈ jj_W := jj_Wof 714 (by decide +kernel) rfl
theorem kw_716 : Cond.code yX7_more cX7_more 4 (some (.array (.array .int))) ∈ jj_W := jj_Wof 716 (by decide +kernel) rfl
theorem kw_715 : Cond.static yX7_more ∈ jj_W := jj_Wof 715 (by decide +kernel) rfl
theorem kM_L_45 : jj_MS RL 45 yX7_more cX7_more 4 (some (.array (.array .int))) 2 := ⟨kw_714, kw_715, kw_17, kw_716, by decide +kernel, by decide +kernel, by decide +kernel⟩
theorem kw_651 : Cond.fieldLink RL 49 (TX7 4).1 (TX7 4).2.1 (TX7 4).2.2.1 ∈ jj_W := jj_Wof 651 (by decide +kernel) rfl
theorem kF_L_49 : jj_F RL 49 7 4 0 := ⟨RX7, TX7, 9, tyX7, rfl, rfl, by decide, by decide, ku_7, kw_651, fun _ => rfl, tyX7_ok, nmX7, fun h => absurd h (by decide), fun _ => Or.inr ⟨_, rfl⟩, fun h => absurd h (by decide)⟩
theorem kw_717 : Cond.methodLink RL 52 yX5_addMerchant ∈ jj_W := jj_Wof 717 (by decide +kernel) rfl
theorem kw_720 : Cond.code yX5_addMerchant cX5_addMerchant 3 (some .int) ∈ jj_W := jj_Wof 720 (by decide +kernel) rfl
theorem kw_718 : Cond.instanceMethod yX5_addMerchant ∈ jj_W := jj_Wof 718 (by decide +kernel) rfl
theorem kw_719 : Cond.selects RX5 yX5_addMerchant yX5_addMerchant ∈ jj_W := jj_Wof 719 (by decide +kernel) rfl
theorem kM_L_52 : jj_MV RL 52 yX5_addMerchant cX5_addMerchant 3 (some .int) 1 := ⟨kw_717, kw_718, kw_719, kw_11, kw_720, by decide +kernel, by decide +kernel, by decide +kernel⟩
theorem kw_721 : Cond.methodLink RL 56 yX5_build ∈ jj_W := jj_Wof 721 (by decide +kernel) rfl
theorem kw_724 : Cond.code yX5_build cX5_build 5 (some .int) ∈ jj_W := jj_Wof 724 (by decide +kernel) rfl
theorem kw_722 : Cond.instanceMethod yX5_build ∈ jj_W := jj_Wof 722 (by decide +kernel) rfl
theorem kw_723 : Cond.selects RX5 yX5_build yX5_build ∈ jj_W := jj_Wof 723 (by decide +kernel) rfl
theorem kM_L_56 : jj_MV RL 56 yX5_build cX5_build 5 (some .int) 3 := ⟨kw_721, kw_722, kw_723, kw_11, kw_724, by decide +kernel, by decide +kernel, by decide +kernel⟩
theorem kw_729 : Cond.methodLink RL 59 yX7_build ∈ jj_W := jj_Wof 729 (by decide +kernel) rfl
theorem kw_732 : Cond.code yX7_build cX7_build 6 none ∈ jj_W := jj_Wof 732 (by decide +kernel) rfl
theorem kw_730 : Cond.instanceMethod yX7_build ∈ jj_W := jj_Wof 730 (by decide +kernel) rfl
theorem kw_731 : Cond.selects RX7 yX7_build yX7_build ∈ jj_W := jj_Wof 731 (by decide +kernel) rfl
theorem kM_L_59 : jj_MV RL 59 yX7_build cX7_build 6 none 3 := ⟨kw_729, kw_730, kw_731, kw_17, kw_732, by decide +kernel, by decide +kernel, by decide +kernel⟩
theorem kw_655 : Cond.fieldLink RL 62 (TX7 6).1 (TX7 6).2.1 (TX7 6).2.2.1 ∈ jj_W := jj_Wof 655 (by decide +kernel) rfl
theorem kF_L_62 : jj_F RL 62 7 6 0 := ⟨RX7, TX7, 9, tyX7, rfl, rfl, by decide, by decide, ku_7, kw_655, fun _ => rfl, tyX7_ok, nmX7, fun h => absurd h (by decide), fun _ => Or.inr ⟨_, rfl⟩, fun h => absurd h (by decide)⟩
theorem kw_653 : Cond.fieldLink RL 66 (TX7 5).1 (TX7 5).2.1 (TX7 5).2.2.1 ∈ jj_W := jj_Wof 653 (by decide +kernel) rfl
theorem kF_L_66 : jj_F RL 66 7 5 0 := ⟨RX7, TX7, 9, tyX7, rfl, rfl, by decide, by decide, ku_7, kw_653, fun _ => rfl, tyX7_ok, nmX7, fun h => absurd h (by decide), fun _ => Or.inr ⟨_, rfl⟩, fun h => absurd h (by decide)⟩
theorem kw_779 : Cond.methodLink RL 70 yX5_bring ∈ jj_W := jj_Wof 779 (by decide +kernel) rfl
theorem kw_782 : Cond.code yX5_bring cX5_bring 6 (some .int) ∈ jj_W := jj_Wof 782 (by decide +kernel) rfl
theorem kw_780 : Cond.instanceMethod yX5_bring ∈ jj_W := jj_Wof 780 (by decide +kernel) rfl
theorem kw_781 : Cond.selects RX5 yX5_bring yX5_bring ∈ jj_W := jj_Wof 781 (by decide +kernel) rfl
theorem kM_L_70 : jj_MV RL 70 yX5_bring cX5_bring 6 (some .int) 4 := ⟨kw_779, kw_780, kw_781, kw_11, kw_782, by decide +kernel, by decide +kernel, by decide +kernel⟩
theorem kw_783 : Cond.methodLink RL 74 yX5_sell ∈ jj_W := jj_Wof 783 (by decide +kernel) rfl
theorem kw_786 : Cond.code yX5_sell cX5_sell 6 (some .int) ∈ jj_W := jj_Wof 786 (by decide +kernel) rfl
theorem kw_784 : Cond.instanceMethod yX5_sell ∈ jj_W := jj_Wof 784 (by decide +kernel) rfl
theorem kw_785 : Cond.selects RX5 yX5_sell yX5_sell ∈ jj_W := jj_Wof 785 (by decide +kernel) rfl
theorem kM_L_74 : jj_MV RL 74 yX5_sell cX5_sell 6 (some .int) 4 := ⟨kw_783, kw_784, kw_785, kw_11, kw_786, by decide +kernel, by decide +kernel, by decide +kernel⟩
theorem kw_745 : Cond.fieldLink RL 77 (TX6 3).1 (TX6 3).2.1 (TX6 3).2.2.1 ∈ jj_W := jj_Wof 745 (by decide +kernel) rfl
theorem kF_L_77 : jj_F RL 77 6 3 0 := ⟨RX6, TX6, 9, tyX6, rfl, rfl, by decide, by decide, ku_6, kw_745, fun _ => rfl, tyX6_ok, nmX6, fun _ => rfl, fun h => absurd h (by decide), fun h => absurd h (by decide)⟩
theorem kw_744 : Cond.fieldLink RL 83 (TX6 2).1 (TX6 2).2.1 (TX6 2).2.2.1 ∈ jj_W := jj_Wof 744 (by decide +kernel) rfl
theorem kF_L_83 : jj_F RL 83 6 2 0 := ⟨RX6, TX6, 9, tyX6, rfl, rfl, by decide, by decide, ku_6, kw_744, fun _ => rfl, tyX6_ok, nmX6, fun _ => rfl, fun h => absurd h (by decide), fun h => absurd h (by decide)⟩
theorem kw_795 : Cond.methodLink RL 86 yX6_all ∈ jj_W := jj_Wof 795 (by decide +kernel) rfl
theorem kw_24 : Cond.initialized RX6 ∈ jj_W := jj_Wof 24 (by decide +kernel) rfl
theorem kw_612 : Cond.code yX6_all cX6_all 1 (some .int) ∈ jj_W := jj_Wof 612 (by decide +kernel) rfl
theorem kw_610 : Cond.instanceMethod yX6_all ∈ jj_W := jj_Wof 610 (by decide +kernel) rfl
theorem kw_611 : Cond.selects RX6 yX6_all yX6_all ∈ jj_W := jj_Wof 611 (by decide +kernel) rfl
theorem kM_L_86 : jj_MV RL 86 yX6_all cX6_all 1 (some .int) 0 := ⟨kw_795, kw_610, kw_611, kw_24, kw_612, by decide +kernel, by decide +kernel, by decide +kernel⟩
theorem kw_796 : Cond.methodLink RL 90 Lib.Math.min.name ∈ jj_W := jj_Wof 796 (by decide +kernel) rfl
theorem kM_L_90 : jj_MM RL 90 Lib.Math.min.name Lib.Math.min.code 2 := ⟨kw_796, kw_335, kw_25, kw_336⟩
theorem kw_739 : Cond.fieldLink RL 95 (TX6 0).1 (TX6 0).2.1 (TX6 0).2.2.1 ∈ jj_W := jj_Wof 739 (by decide +kernel) rfl
theorem kF_L_95 : jj_F RL 95 6 0 0 := ⟨RX6, TX6, 9, tyX6, rfl, rfl, by decide, by decide, ku_6, kw_739, fun _ => rfl, tyX6_ok, nmX6, fun _ => rfl, fun h => absurd h (by decide), fun h => absurd h (by decide)⟩
theorem kw_748 : Cond.fieldLink RL 98 (TX6 4).1 (TX6 4).2.1 (TX6 4).2.2.1 ∈ jj_W := jj_Wof 748 (by decide +kernel) rfl
theorem kF_L_98 : jj_F RL 98 6 4 0 := ⟨RX6, TX6, 9, tyX6, rfl, rfl, by decide, by decide, ku_6, kw_748, fun _ => rfl, tyX6_ok, nmX6, fun _ => rfl, fun h => absurd h (by decide), fun h => absurd h (by decide)⟩
theorem kw_755 : Cond.fieldLink RL 101 (TX6 8).1 (TX6 8).2.1 (TX6 8).2.2.1 ∈ jj_W := jj_Wof 755 (by decide +kernel) rfl
theorem kF_L_101 : jj_F RL 101 6 8 0 := ⟨RX6, TX6, 9, tyX6, rfl, rfl, by decide, by decide, ku_6, kw_755, fun _ => rfl, tyX6_ok, nmX6, fun h => absurd h (by decide), fun _ => Or.inr ⟨_, rfl⟩, fun h => absurd h (by decide)⟩
theorem kw_797 : Cond.methodLink RL 104 yX5_load ∈ jj_W := jj_Wof 797 (by decide +kernel) rfl
theorem kw_800 : Cond.code yX5_load cX5_load 7 (some .int) ∈ jj_W := jj_Wof 800 (by decide +kernel) rfl
theorem kw_798 : Cond.instanceMethod yX5_load ∈ jj_W := jj_Wof 798 (by decide +kernel) rfl
theorem kw_799 : Cond.selects RX5 yX5_load yX5_load ∈ jj_W := jj_Wof 799 (by decide +kernel) rfl
theorem kM_L_104 : jj_MV RL 104 yX5_load cX5_load 7 (some .int) 3 := ⟨kw_797, kw_798, kw_799, kw_11, kw_800, by decide +kernel, by decide +kernel, by decide +kernel⟩
theorem kw_750 : Cond.fieldLink RL 107 (TX6 5).1 (TX6 5).2.1 (TX6 5).2.2.1 ∈ jj_W := jj_Wof 750 (by decide +kernel) rfl
theorem kF_L_107 : jj_F RL 107 6 5 0 := ⟨RX6, TX6, 9, tyX6, rfl, rfl, by decide, by decide, ku_6, kw_750, fun _ => rfl, tyX6_ok, nmX6, fun _ => rfl, fun h => absurd h (by decide), fun h => absurd h (by decide)⟩
theorem kw_810 : Cond.methodLink RL 110 yX5_send ∈ jj_W := jj_Wof 810 (by decide +kernel) rfl
theorem kw_813 : Cond.code yX5_send cX5_send 4 (some .int) ∈ jj_W := jj_Wof 813 (by decide +kernel) rfl
theorem kw_811 : Cond.instanceMethod yX5_send ∈ jj_W := jj_Wof 811 (by decide +kernel) rfl
theorem kw_812 : Cond.selects RX5 yX5_send yX5_send ∈ jj_W := jj_Wof 812 (by decide +kernel) rfl
theorem kM_L_110 : jj_MV RL 110 yX5_send cX5_send 4 (some .int) 2 := ⟨kw_810, kw_811, kw_812, kw_11, kw_813, by decide +kernel, by decide +kernel, by decide +kernel⟩
theorem kw_751 : Cond.fieldLink RL 113 (TX6 6).1 (TX6 6).2.1 (TX6 6).2.2.1 ∈ jj_W := jj_Wof 751 (by decide +kernel) rfl
theorem kF_L_113 : jj_F RL 113 6 6 0 := ⟨RX6, TX6, 9, tyX6, rfl, rfl, by decide, by decide, ku_6, kw_751, fun _ => rfl, tyX6_ok, nmX6, fun _ => rfl, fun h => absurd h (by decide), fun h => absurd h (by decide)⟩
theorem kw_820 : Cond.methodLink RL 116 yX7_way ∈ jj_W := jj_Wof 820 (by decide +kernel) rfl
theorem kw_823 : Cond.code yX7_way cX7_way 5 (some .int) ∈ jj_W := jj_Wof 823 (by decide +kernel) rfl
theorem kw_821 : Cond.instanceMethod yX7_way ∈ jj_W := jj_Wof 821 (by decide +kernel) rfl
theorem kw_822 : Cond.selects RX7 yX7_way yX7_way ∈ jj_W := jj_Wof 822 (by decide +kernel) rfl
theorem kM_L_116 : jj_MV RL 116 yX7_way cX7_way 5 (some .int) 2 := ⟨kw_820, kw_821, kw_822, kw_17, kw_823, by decide +kernel, by decide +kernel, by decide +kernel⟩
theorem kw_824 : Cond.methodLink RL 119 yX7_in ∈ jj_W := jj_Wof 824 (by decide +kernel) rfl
theorem kw_606 : Cond.code yX7_in cX7_in 8 (some .int) ∈ jj_W := jj_Wof 606 (by decide +kernel) rfl
theorem kw_604 : Cond.instanceMethod yX7_in ∈ jj_W := jj_Wof 604 (by decide +kernel) rfl
theorem kw_605 : Cond.selects RX7 yX7_in yX7_in ∈ jj_W := jj_Wof 605 (by decide +kernel) rfl
theorem kM_L_119 : jj_MV RL 119 yX7_in cX7_in 8 (some .int) 2 := ⟨kw_824, kw_604, kw_605, kw_17, kw_606, by decide +kernel, by decide +kernel, by decide +kernel⟩
theorem kw_825 : Cond.methodLink RL 122 yX5_berth ∈ jj_W := jj_Wof 825 (by decide +kernel) rfl
theorem kw_828 : Cond.code yX5_berth cX5_berth 4 (some .int) ∈ jj_W := jj_Wof 828 (by decide +kernel) rfl
theorem kw_826 : Cond.instanceMethod yX5_berth ∈ jj_W := jj_Wof 826 (by decide +kernel) rfl
theorem kw_827 : Cond.selects RX5 yX5_berth yX5_berth ∈ jj_W := jj_Wof 827 (by decide +kernel) rfl
theorem kM_L_122 : jj_MV RL 122 yX5_berth cX5_berth 4 (some .int) 2 := ⟨kw_825, kw_826, kw_827, kw_11, kw_828, by decide +kernel, by decide +kernel, by decide +kernel⟩
theorem kw_741 : Cond.fieldLink RL 126 (TX6 1).1 (TX6 1).2.1 (TX6 1).2.2.1 ∈ jj_W := jj_Wof 741 (by decide +kernel) rfl
theorem kF_L_126 : jj_F RL 126 6 1 0 := ⟨RX6, TX6, 9, tyX6, rfl, rfl, by decide, by decide, ku_6, kw_741, fun _ => rfl, tyX6_ok, nmX6, fun _ => rfl, fun h => absurd h (by decide), fun h => absurd h (by decide)⟩
theorem kw_834 : Cond.methodLink RL 129 yX5_mend ∈ jj_W := jj_Wof 834 (by decide +kernel) rfl
theorem kw_837 : Cond.code yX5_mend cX5_mend 5 (some .int) ∈ jj_W := jj_Wof 837 (by decide +kernel) rfl
theorem kw_835 : Cond.instanceMethod yX5_mend ∈ jj_W := jj_Wof 835 (by decide +kernel) rfl
theorem kw_836 : Cond.selects RX5 yX5_mend yX5_mend ∈ jj_W := jj_Wof 836 (by decide +kernel) rfl
theorem kM_L_129 : jj_MV RL 129 yX5_mend cX5_mend 5 (some .int) 1 := ⟨kw_834, kw_835, kw_836, kw_11, kw_837, by decide +kernel, by decide +kernel, by decide +kernel⟩
theorem kw_657 : Cond.fieldLink RL 132 (TX7 7).1 (TX7 7).2.1 (TX7 7).2.2.1 ∈ jj_W := jj_Wof 657 (by decide +kernel) rfl
theorem kF_L_132 : jj_F RL 132 7 7 0 := ⟨RX7, TX7, 9, tyX7, rfl, rfl, by decide, by decide, ku_7, kw_657, fun _ => rfl, tyX7_ok, nmX7, fun h => absurd h (by decide), fun _ => Or.inr ⟨_, rfl⟩, fun h => absurd h (by decide)⟩
theorem kw_838 : Cond.methodLink RL 135 yX7_pays ∈ jj_W := jj_Wof 838 (by decide +kernel) rfl
theorem kw_598 : Cond.code yX7_pays cX7_pays 3 (some .boolean) ∈ jj_W := jj_Wof 598 (by decide +kernel) rfl
theorem kw_596 : Cond.instanceMethod yX7_pays ∈ jj_W := jj_Wof 596 (by decide +kernel) rfl
theorem kw_597 : Cond.selects RX7 yX7_pays yX7_pays ∈ jj_W := jj_Wof 597 (by decide +kernel) rfl
theorem kM_L_135 : jj_MV RL 135 yX7_pays cX7_pays 3 (some .boolean) 2 := ⟨kw_838, kw_596, kw_597, kw_17, kw_598, by decide +kernel, by decide +kernel, by decide +kernel⟩
theorem kw_839 : Cond.methodLink RL 139 yX5_repay ∈ jj_W := jj_Wof 839 (by decide +kernel) rfl
theorem kw_842 : Cond.code yX5_repay cX5_repay 5 (some .int) ∈ jj_W := jj_Wof 842 (by decide +kernel) rfl
theorem kw_840 : Cond.instanceMethod yX5_repay ∈ jj_W := jj_Wof 840 (by decide +kernel) rfl
theorem kw_841 : Cond.selects RX5 yX5_repay yX5_repay ∈ jj_W := jj_Wof 841 (by decide +kernel) rfl
theorem kM_L_139 : jj_MV RL 139 yX5_repay cX5_repay 5 (some .int) 2 := ⟨kw_839, kw_840, kw_841, kw_11, kw_842, by decide +kernel, by decide +kernel, by decide +kernel⟩
theorem kw_658 : Cond.fieldLink RL 142 (TX7 8).1 (TX7 8).2.1 (TX7 8).2.2.1 ∈ jj_W := jj_Wof 658 (by decide +kernel) rfl
theorem kF_L_142 : jj_F RL 142 7 8 0 := ⟨RX7, TX7, 9, tyX7, rfl, rfl, by decide, by decide, ku_7, kw_658, fun _ => rfl, tyX7_ok, nmX7, fun _ => rfl, fun h => absurd h (by decide), fun h => absurd h (by decide)⟩
theorem kw_845 : Cond.methodLink RL 145 yX5_lend ∈ jj_W := jj_Wof 845 (by decide +kernel) rfl
theorem kw_848 : Cond.code yX5_lend cX5_lend 8 (some .int) ∈ jj_W := jj_Wof 848 (by decide +kernel) rfl
theorem kw_846 : Cond.instanceMethod yX5_lend ∈ jj_W := jj_Wof 846 (by decide +kernel) rfl
theorem kw_847 : Cond.selects RX5 yX5_lend yX5_lend ∈ jj_W := jj_Wof 847 (by decide +kernel) rfl
theorem kM_L_145 : jj_MV RL 145 yX5_lend cX5_lend 8 (some .int) 6 := ⟨kw_845, kw_846, kw_847, kw_11, kw_848, by decide +kernel, by decide +kernel, by decide +kernel⟩
theorem kw_28 : Cond.classLink RL 27 RX5 ∈ jj_W := jj_Wof 28 (by decide +kernel) rfl
theorem kw_29 : Cond.instantiable RX5 4 ∈ jj_W := jj_Wof 29 (by decide +kernel) rfl
theorem kN_L_27 : jj_NW RL 27 5 := ⟨RX5, TX5, 4, tyX5, rfl, rfl, by decide, ku_5, tyX5_ok, kw_28, kw_29, kw_11, by decide +kernel⟩
theorem kw_30 : Cond.methodLink RL 149 yX5_init ∈ jj_W := jj_Wof 30 (by decide +kernel) rfl
theorem kw_32 : Cond.code yX5_init cX5_init 1 none ∈ jj_W := jj_Wof 32 (by decide +kernel) rfl
theorem kw_31 : Cond.instanceMethod yX5_init ∈ jj_W := jj_Wof 31 (by decide +kernel) rfl
theorem kM_L_149 : jj_MI RL 149 yX5_init cX5_init 1 0 := ⟨kw_30, kw_31, rfl, kw_11, kw_32, by decide +kernel, by decide +kernel, by decide +kernel⟩
theorem kw_630 : Cond.methodLink RL 150 yL_build ∈ jj_W := jj_Wof 630 (by decide +kernel) rfl
set_option maxRecDepth 100000 in
theorem kw_632 : Cond.code yL_build cL_build 12 (some (.object "IceHarbourLaw$Sim")) ∈ jj_W := jj_Wof 632 rfl rfl
theorem kw_631 : Cond.static yL_build ∈ jj_W := jj_Wof 631 (by decide +kernel) rfl
theorem kM_L_150 : jj_MS RL 150 yL_build cL_build 12 (some (.object "IceHarbourLaw$Sim")) 2 := ⟨kw_630, kw_631, kw_10, kw_632, by decide +kernel, by decide +kernel, by decide +kernel⟩
theorem kw_776 : Cond.methodLink RL 153 yL_act ∈ jj_W := jj_Wof 776 (by decide +kernel) rfl
set_option maxRecDepth 100000 in
theorem kw_778 : Cond.code yL_act cL_act 16 (some .boolean) ∈ jj_W := jj_Wof 778 rfl rfl
theorem kw_777 : Cond.static yL_act ∈ jj_W := jj_Wof 777 (by decide +kernel) rfl
theorem kM_L_153 : jj_MS RL 153 yL_act cL_act 16 (some .boolean) 3 := ⟨kw_776, kw_777, kw_10, kw_778, by decide +kernel, by decide +kernel, by decide +kernel⟩
theorem kw_853 : Cond.classLink RL 157 "[[I" ∈ jj_W := jj_Wof 853 (by decide +kernel) rfl
theorem kC_L_157 : Cond.classLink RL 157 "[[I" ∈ jj_W := kw_853
theorem kw_397 : Cond.methodLink RL 158 yX5_boat ∈ jj_W := jj_Wof 397 (by decide +kernel) rfl
theorem kw_400 : Cond.code yX5_boat cX5_boat 3 (some .int) ∈ jj_W := jj_Wof 400 (by decide +kernel) rfl
theorem kw_398 : Cond.instanceMethod yX5_boat ∈ jj_W := jj_Wof 398 (by decide +kernel) rfl
theorem kw_399 : Cond.selects RX5 yX5_boat yX5_boat ∈ jj_W := jj_Wof 399 (by decide +kernel) rfl
theorem kM_L_158 : jj_MV RL 158 yX5_boat cX5_boat 3 (some .int) 2 := ⟨kw_397, kw_398, kw_399, kw_11, kw_400, by decide +kernel, by decide +kernel, by decide +kernel⟩
theorem kw_533 : Cond.methodLink RL 161 yX5_arrives ∈ jj_W := jj_Wof 533 (by decide +kernel) rfl
