theorem dX6_init_0 : decode cX6_init 0 = .ok (.aload_n 0, 1) := by decide +kernel
theorem dX6_init_1 : decode cX6_init 1 = .ok (.invokespecial 1, 3) := by decide +kernel
theorem dX6_init_4 : decode cX6_init 4 = .ok (.aload_n 0, 1) := by decide +kernel
theorem dX6_init_5 : decode cX6_init 5 = .ok (.bipush 40, 2) := by decide +kernel
theorem dX6_init_7 : decode cX6_init 7 = .ok (.newarray .int, 2) := by decide +kernel
theorem dX6_init_9 : decode cX6_init 9 = .ok (.putfield 9, 3) := by decide +kernel
theorem dX6_init_12 : decode cX6_init 12 = .ok (.aload_n 0, 1) := by decide +kernel
theorem dX6_init_13 : decode cX6_init 13 = .ok (.bipush 8, 2) := by decide +kernel
theorem dX6_init_15 : decode cX6_init 15 = .ok (.newarray .int, 2) := by decide +kernel
theorem dX6_init_17 : decode cX6_init 17 = .ok (.putfield 13, 3) := by decide +kernel
theorem dX6_init_20 : decode cX6_init 20 = .ok (.aload_n 0, 1) := by decide +kernel
theorem dX6_init_21 : decode cX6_init 21 = .ok (.bipush 8, 2) := by decide +kernel
theorem dX6_init_23 : decode cX6_init 23 = .ok (.newarray .int, 2) := by decide +kernel
theorem dX6_init_25 : decode cX6_init 25 = .ok (.putfield 16, 3) := by decide +kernel
theorem dX6_init_28 : decode cX6_init 28 = .ok (.aload_n 0, 1) := by decide +kernel
theorem dX6_init_29 : decode cX6_init 29 = .ok (.bipush 32, 2) := by decide +kernel
theorem dX6_init_31 : decode cX6_init 31 = .ok (.newarray .int, 2) := by decide +kernel
theorem dX6_init_33 : decode cX6_init 33 = .ok (.putfield 19, 3) := by decide +kernel
theorem dX6_init_36 : decode cX6_init 36 = .ok (.aload_n 0, 1) := by decide +kernel
theorem dX6_init_37 : decode cX6_init 37 = .ok (.bipush 8, 2) := by decide +kernel
theorem dX6_init_39 : decode cX6_init 39 = .ok (.newarray .int, 2) := by decide +kernel
theorem dX6_init_41 : decode cX6_init 41 = .ok (.putfield 22, 3) := by decide +kernel
theorem dX6_init_44 : decode cX6_init 44 = .ok (.aload_n 0, 1) := by decide +kernel
theorem dX6_init_45 : decode cX6_init 45 = .ok (.iconst 5, 1) := by decide +kernel
theorem dX6_init_46 : decode cX6_init 46 = .ok (.newarray .int, 2) := by decide +kernel
theorem dX6_init_48 : decode cX6_init 48 = .ok (.putfield 25, 3) := by decide +kernel
theorem dX6_init_51 : decode cX6_init 51 = .ok (.aload_n 0, 1) := by decide +kernel
theorem dX6_init_52 : decode cX6_init 52 = .ok (.sipush 160, 3) := by decide +kernel
theorem dX6_init_55 : decode cX6_init 55 = .ok (.newarray .int, 2) := by decide +kernel
theorem dX6_init_57 : decode cX6_init 57 = .ok (.putfield 28, 3) := by decide +kernel
theorem dX6_init_60 : decode cX6_init 60 = .ok (.aload_n 0, 1) := by decide +kernel
theorem dX6_init_61 : decode cX6_init 61 = .ok (.bipush 120, 2) := by decide +kernel
theorem dX6_init_63 : decode cX6_init 63 = .ok (.newarray .int, 2) := by decide +kernel
theorem dX6_init_65 : decode cX6_init 65 = .ok (.putfield 31, 3) := by decide +kernel
theorem dX6_init_68 : decode cX6_init 68 = .ok (.aload_n 0, 1) := by decide +kernel
theorem dX6_init_69 : decode cX6_init 69 = .ok (.sipush 210, 3) := by decide +kernel
theorem dX6_init_72 : decode cX6_init 72 = .ok (.newarray .int, 2) := by decide +kernel
theorem dX6_init_74 : decode cX6_init 74 = .ok (.putfield 34, 3) := by decide +kernel
theorem dX6_init_77 : decode cX6_init 77 = .ok (.aload_n 0, 1) := by decide +kernel
theorem dX6_init_78 : decode cX6_init 78 = .ok (.iconst 1, 1) := by decide +kernel
theorem dX6_init_79 : decode cX6_init 79 = .ok (.newarray .int, 2) := by decide +kernel
theorem dX6_init_81 : decode cX6_init 81 = .ok (.dup, 1) := by decide +kernel
theorem dX6_init_82 : decode cX6_init 82 = .ok (.iconst 0, 1) := by decide +kernel
theorem dX6_init_83 : decode cX6_init 83 = .ok (.iconst 0, 1) := by decide +kernel
theorem dX6_init_84 : decode cX6_init 84 = .ok (.iastore, 1) := by decide +kernel
theorem dX6_init_85 : decode cX6_init 85 = .ok (.putfield 37, 3) := by decide +kernel
theorem dX6_init_88 : decode cX6_init 88 = .ok (.iconst 0, 1) := by decide +kernel
theorem dX6_init_89 : decode cX6_init 89 = .ok (.istore_n 1, 1) := by decide +kernel
theorem dX6_init_90 : decode cX6_init 90 = .ok (.iload_n 1, 1) := by decide +kernel
theorem dX6_init_91 : decode cX6_init 91 = .ok (.bipush 40, 2) := by decide +kernel
theorem dX6_init_93 : decode cX6_init 93 = .ok (.if_icmp .ge 16, 3) := by decide +kernel
theorem dX6_init_96 : decode cX6_init 96 = .ok (.aload_n 0, 1) := by decide +kernel
theorem dX6_init_97 : decode cX6_init 97 = .ok (.getfield 9, 3) := by decide +kernel
theorem dX6_init_100 : decode cX6_init 100 = .ok (.iload_n 1, 1) := by decide +kernel
theorem dX6_init_101 : decode cX6_init 101 = .ok (.iconst 4, 1) := by decide +kernel
theorem dX6_init_102 : decode cX6_init 102 = .ok (.iastore, 1) := by decide +kernel
theorem dX6_init_103 : decode cX6_init 103 = .ok (.iinc 1 1, 3) := by decide +kernel
theorem dX6_init_106 : decode cX6_init 106 = .ok (.goto (-16), 3) := by decide +kernel
theorem dX6_init_109 : decode cX6_init 109 = .ok (.return_, 1) := by decide +kernel
theorem dX6_thrown_0 : decode cX6_thrown 0 = .ok (.aload_n 0, 1) := by decide +kernel
theorem dX6_thrown_1 : decode cX6_thrown 1 = .ok (.getfield 40, 3) := by decide +kernel
theorem dX6_thrown_4 : decode cX6_thrown 4 = .ok (.ireturn, 1) := by decide +kernel
theorem dX6_fail_0 : decode cX6_fail 0 = .ok (.aload_n 0, 1) := by decide +kernel
theorem dX6_fail_1 : decode cX6_fail 1 = .ok (.iload_n 1, 1) := by decide +kernel
theorem dX6_fail_2 : decode cX6_fail 2 = .ok (.putfield 40, 3) := by decide +kernel
theorem dX6_fail_5 : decode cX6_fail 5 = .ok (.iconst 0, 1) := by decide +kernel
theorem dX6_fail_6 : decode cX6_fail 6 = .ok (.ireturn, 1) := by decide +kernel
theorem dX6_isIn_0 : decode cX6_isIn 0 = .ok (.iload_n 0, 1) := by decide +kernel
theorem dX6_isIn_1 : decode cX6_isIn 1 = .ok (.iload_n 1, 1) := by decide +kernel
theorem dX6_isIn_2 : decode cX6_isIn 2 = .ok (.if_icmp .lt 12, 3) := by decide +kernel
theorem dX6_isIn_5 : decode cX6_isIn 5 = .ok (.iload_n 0, 1) := by decide +kernel
theorem dX6_isIn_6 : decode cX6_isIn 6 = .ok (.iload_n 2, 1) := by decide +kernel
theorem dX6_isIn_7 : decode cX6_isIn 7 = .ok (.if_icmp .gt 7, 3) := by decide +kernel
theorem dX6_isIn_10 : decode cX6_isIn 10 = .ok (.iconst 1, 1) := by decide +kernel
theorem dX6_isIn_11 : decode cX6_isIn 11 = .ok (.goto 4, 3) := by decide +kernel
theorem dX6_isIn_14 : decode cX6_isIn 14 = .ok (.iconst 0, 1) := by decide +kernel
theorem dX6_isIn_15 : decode cX6_isIn 15 = .ok (.ireturn, 1) := by decide +kernel
theorem dX6_isHarbour_0 : decode cX6_isHarbour 0 = .ok (.iload_n 1, 1) := by decide +kernel
theorem dX6_isHarbour_1 : decode cX6_isHarbour 1 = .ok (.iconst 0, 1) := by decide +kernel
theorem dX6_isHarbour_2 : decode cX6_isHarbour 2 = .ok (.aload_n 0, 1) := by decide +kernel
theorem dX6_isHarbour_3 : decode cX6_isHarbour 3 = .ok (.getfield 44, 3) := by decide +kernel
theorem dX6_isHarbour_6 : decode cX6_isHarbour 6 = .ok (.iconst 1, 1) := by decide +kernel
theorem dX6_isHarbour_7 : decode cX6_isHarbour 7 = .ok (.isub, 1) := by decide +kernel
theorem dX6_isHarbour_8 : decode cX6_isHarbour 8 = .ok (.invokestatic 47, 3) := by decide +kernel
theorem dX6_isHarbour_11 : decode cX6_isHarbour 11 = .ok (.ireturn, 1) := by decide +kernel
theorem dX6_isMerchant_0 : decode cX6_isMerchant 0 = .ok (.iload_n 1, 1) := by decide +kernel
theorem dX6_isMerchant_1 : decode cX6_isMerchant 1 = .ok (.iconst 0, 1) := by decide +kernel
theorem dX6_isMerchant_2 : decode cX6_isMerchant 2 = .ok (.aload_n 0, 1) := by decide +kernel
theorem dX6_isMerchant_3 : decode cX6_isMerchant 3 = .ok (.getfield 51, 3) := by decide +kernel
theorem dX6_isMerchant_6 : decode cX6_isMerchant 6 = .ok (.iconst 1, 1) := by decide +kernel
theorem dX6_isMerchant_7 : decode cX6_isMerchant 7 = .ok (.isub, 1) := by decide +kernel
theorem dX6_isMerchant_8 : decode cX6_isMerchant 8 = .ok (.invokestatic 47, 3) := by decide +kernel
theorem dX6_isMerchant_11 : decode cX6_isMerchant 11 = .ok (.ireturn, 1) := by decide +kernel
theorem dX6_isBoat_0 : decode cX6_isBoat 0 = .ok (.iload_n 1, 1) := by decide +kernel
theorem dX6_isBoat_1 : decode cX6_isBoat 1 = .ok (.iconst 0, 1) := by decide +kernel
theorem dX6_isBoat_2 : decode cX6_isBoat 2 = .ok (.aload_n 0, 1) := by decide +kernel
theorem dX6_isBoat_3 : decode cX6_isBoat 3 = .ok (.getfield 54, 3) := by decide +kernel
theorem dX6_isBoat_6 : decode cX6_isBoat 6 = .ok (.iconst 1, 1) := by decide +kernel
theorem dX6_isBoat_7 : decode cX6_isBoat 7 = .ok (.isub, 1) := by decide +kernel
theorem dX6_isBoat_8 : decode cX6_isBoat 8 = .ok (.invokestatic 47, 3) := by decide +kernel
theorem dX6_isBoat_11 : decode cX6_isBoat 11 = .ok (.ireturn, 1) := by decide +kernel
theorem dX6_isGood_0 : decode cX6_isGood 0 = .ok (.iload_n 0, 1) := by decide +kernel
theorem dX6_isGood_1 : decode cX6_isGood 1 = .ok (.iconst 0, 1) := by decide +kernel
theorem dX6_isGood_2 : decode cX6_isGood 2 = .ok (.iconst 3, 1) := by decide +kernel
theorem dX6_isGood_3 : decode cX6_isGood 3 = .ok (.invokestatic 47, 3) := by decide +kernel
theorem dX6_isGood_6 : decode cX6_isGood 6 = .ok (.ireturn, 1) := by decide +kernel
theorem dX6_bo_0 : decode cX6_bo 0 = .ok (.aload_n 0, 1) := by decide +kernel
theorem dX6_bo_1 : decode cX6_bo 1 = .ok (.getfield 31, 3) := by decide +kernel
theorem dX6_bo_4 : decode cX6_bo 4 = .ok (.bipush 12, 2) := by decide +kernel
theorem dX6_bo_6 : decode cX6_bo 6 = .ok (.iload_n 1, 1) := by decide +kernel
theorem dX6_bo_7 : decode cX6_bo 7 = .ok (.imul, 1) := by decide +kernel
theorem dX6_bo_8 : decode cX6_bo 8 = .ok (.iload_n 2, 1) := by decide +kernel
theorem dX6_bo_9 : decode cX6_bo 9 = .ok (.iadd, 1) := by decide +kernel
theorem dX6_bo_10 : decode cX6_bo 10 = .ok (.iaload, 1) := by decide +kernel
theorem dX6_bo_11 : decode cX6_bo 11 = .ok (.ireturn, 1) := by decide +kernel
theorem dX6_setBo_0 : decode cX6_setBo 0 = .ok (.aload_n 0, 1) := by decide +kernel
theorem dX6_setBo_1 : decode cX6_setBo 1 = .ok (.getfield 31, 3) := by decide +kernel
theorem dX6_setBo_4 : decode cX6_setBo 4 = .ok (.bipush 12, 2) := by decide +kernel
theorem dX6_setBo_6 : decode cX6_setBo 6 = .ok (.iload_n 1, 1) := by decide +kernel
theorem dX6_setBo_7 : decode cX6_setBo 7 = .ok (.imul, 1) := by decide +kernel
theorem dX6_setBo_8 : decode cX6_setBo 8 = .ok (.iload_n 2, 1) := by decide +kernel
theorem dX6_setBo_9 : decode cX6_setBo 9 = .ok (.iadd, 1) := by decide +kernel
theorem dX6_setBo_10 : decode cX6_setBo 10 = .ok (.iload_n 3, 1) := by decide +kernel
theorem dX6_setBo_11 : decode cX6_setBo 11 = .ok (.iastore, 1) := by decide +kernel
theorem dX6_setBo_12 : decode cX6_setBo 12 = .ok (.return_, 1) := by decide +kernel
theorem dX6_de_0 : decode cX6_de 0 = .ok (.aload_n 0, 1) := by decide +kernel
theorem dX6_de_1 : decode cX6_de 1 = .ok (.getfield 34, 3) := by decide +kernel
theorem dX6_de_4 : decode cX6_de 4 = .ok (.bipush 7, 2) := by decide +kernel
theorem dX6_de_6 : decode cX6_de 6 = .ok (.iload_n 1, 1) := by decide +kernel
theorem dX6_de_7 : decode cX6_de 7 = .ok (.imul, 1) := by decide +kernel
theorem dX6_de_8 : decode cX6_de 8 = .ok (.iload_n 2, 1) := by decide +kernel
theorem dX6_de_9 : decode cX6_de 9 = .ok (.iadd, 1) := by decide +kernel
theorem dX6_de_10 : decode cX6_de 10 = .ok (.iaload, 1) := by decide +kernel
theorem dX6_de_11 : decode cX6_de 11 = .ok (.ireturn, 1) := by decide +kernel
theorem dX6_at_0 : decode cX6_at 0 = .ok (.iconst 4, 1) := by decide +kernel
theorem dX6_at_1 : decode cX6_at 1 = .ok (.bipush 8, 2) := by decide +kernel
theorem dX6_at_3 : decode cX6_at 3 = .ok (.iload_n 0, 1) := by decide +kernel
theorem dX6_at_4 : decode cX6_at 4 = .ok (.imul, 1) := by decide +kernel
theorem dX6_at_5 : decode cX6_at 5 = .ok (.iload_n 1, 1) := by decide +kernel
theorem dX6_at_6 : decode cX6_at 6 = .ok (.iadd, 1) := by decide +kernel
theorem dX6_at_7 : decode cX6_at 7 = .ok (.imul, 1) := by decide +kernel
theorem dX6_at_8 : decode cX6_at 8 = .ok (.iload_n 2, 1) := by decide +kernel
theorem dX6_at_9 : decode cX6_at 9 = .ok (.iadd, 1) := by decide +kernel
theorem dX6_at_10 : decode cX6_at 10 = .ok (.ireturn, 1) := by decide +kernel
theorem dX6_setWarm_0 : decode cX6_setWarm 0 = .ok (.aload_n 0, 1) := by decide +kernel
theorem dX6_setWarm_1 : decode cX6_setWarm 1 = .ok (.iconst 0, 1) := by decide +kernel
theorem dX6_setWarm_2 : decode cX6_setWarm 2 = .ok (.putfield 40, 3) := by decide +kernel
theorem dX6_setWarm_5 : decode cX6_setWarm 5 = .ok (.iload_n 1, 1) := by decide +kernel
theorem dX6_setWarm_6 : decode cX6_setWarm 6 = .ok (.iconst 0, 1) := by decide +kernel
theorem dX6_setWarm_7 : decode cX6_setWarm 7 = .ok (.bipush 39, 2) := by decide +kernel
theorem dX6_setWarm_9 : decode cX6_setWarm 9 = .ok (.invokestatic 47, 3) := by decide +kernel
theorem dX6_setWarm_12 : decode cX6_setWarm 12 = .ok (.ifCond .ne 9, 3) := by decide +kernel
theorem dX6_setWarm_15 : decode cX6_setWarm 15 = .ok (.aload_n 0, 1) := by decide +kernel
theorem dX6_setWarm_16 : decode cX6_setWarm 16 = .ok (.iconst 1, 1) := by decide +kernel
theorem dX6_setWarm_17 : decode cX6_setWarm 17 = .ok (.invokevirtual 57, 3) := by decide +kernel
theorem dX6_setWarm_20 : decode cX6_setWarm 20 = .ok (.ireturn, 1) := by decide +kernel
theorem dX6_setWarm_21 : decode cX6_setWarm 21 = .ok (.iload_n 2, 1) := by decide +kernel
theorem dX6_setWarm_22 : decode cX6_setWarm 22 = .ok (.bipush (-9), 2) := by decide +kernel
theorem dX6_setWarm_24 : decode cX6_setWarm 24 = .ok (.bipush 9, 2) := by decide +kernel
theorem dX6_setWarm_26 : decode cX6_setWarm 26 = .ok (.invokestatic 47, 3) := by decide +kernel
theorem dX6_setWarm_29 : decode cX6_setWarm 29 = .ok (.ifCond .ne 9, 3) := by decide +kernel
theorem dX6_setWarm_32 : decode cX6_setWarm 32 = .ok (.aload_n 0, 1) := by decide +kernel
theorem dX6_setWarm_33 : decode cX6_setWarm 33 = .ok (.iconst 2, 1) := by decide +kernel
theorem dX6_setWarm_34 : decode cX6_setWarm 34 = .ok (.invokevirtual 57, 3) := by decide +kernel
theorem dX6_setWarm_37 : decode cX6_setWarm 37 = .ok (.ireturn, 1) := by decide +kernel
theorem dX6_setWarm_38 : decode cX6_setWarm 38 = .ok (.aload_n 0, 1) := by decide +kernel
theorem dX6_setWarm_39 : decode cX6_setWarm 39 = .ok (.getfield 9, 3) := by decide +kernel
theorem dX6_setWarm_42 : decode cX6_setWarm 42 = .ok (.iload_n 1, 1) := by decide +kernel
theorem dX6_setWarm_43 : decode cX6_setWarm 43 = .ok (.iaload, 1) := by decide +kernel
theorem dX6_setWarm_44 : decode cX6_setWarm 44 = .ok (.istore_n 3, 1) := by decide +kernel
theorem dX6_setWarm_45 : decode cX6_setWarm 45 = .ok (.aload_n 0, 1) := by decide +kernel
theorem dX6_setWarm_46 : decode cX6_setWarm 46 = .ok (.getfield 9, 3) := by decide +kernel
theorem dX6_setWarm_49 : decode cX6_setWarm 49 = .ok (.iload_n 1, 1) := by decide +kernel
theorem dX6_setWarm_50 : decode cX6_setWarm 50 = .ok (.iload_n 2, 1) := by decide +kernel
theorem dX6_setWarm_51 : decode cX6_setWarm 51 = .ok (.iastore, 1) := by decide +kernel
theorem dX6_setWarm_52 : decode cX6_setWarm 52 = .ok (.iload_n 3, 1) := by decide +kernel
theorem dX6_setWarm_53 : decode cX6_setWarm 53 = .ok (.ireturn, 1) := by decide +kernel
theorem dX6_addHarbour_0 : decode cX6_addHarbour 0 = .ok (.aload_n 0, 1) := by decide +kernel
theorem dX6_addHarbour_1 : decode cX6_addHarbour 1 = .ok (.iconst 0, 1) := by decide +kernel
theorem dX6_addHarbour_2 : decode cX6_addHarbour 2 = .ok (.putfield 40, 3) := by decide +kernel
theorem dX6_addHarbour_5 : decode cX6_addHarbour 5 = .ok (.iload_n 1, 1) := by decide +kernel
theorem dX6_addHarbour_6 : decode cX6_addHarbour 6 = .ok (.iconst 1, 1) := by decide +kernel
theorem dX6_addHarbour_7 : decode cX6_addHarbour 7 = .ok (.bipush 9, 2) := by decide +kernel
theorem dX6_addHarbour_9 : decode cX6_addHarbour 9 = .ok (.invokestatic 47, 3) := by decide +kernel
theorem dX6_addHarbour_12 : decode cX6_addHarbour 12 = .ok (.ifCond .eq 12, 3) := by decide +kernel
theorem dX6_addHarbour_15 : decode cX6_addHarbour 15 = .ok (.iload_n 2, 1) := by decide +kernel
theorem dX6_addHarbour_16 : decode cX6_addHarbour 16 = .ok (.iconst 0, 1) := by decide +kernel
theorem dX6_addHarbour_17 : decode cX6_addHarbour 17 = .ok (.iconst 5, 1) := by decide +kernel
theorem dX6_addHarbour_18 : decode cX6_addHarbour 18 = .ok (.invokestatic 47, 3) := by decide +kernel
theorem dX6_addHarbour_21 : decode cX6_addHarbour 21 = .ok (.ifCond .ne 9, 3) := by decide +kernel
theorem dX6_addHarbour_24 : decode cX6_addHarbour 24 = .ok (.aload_n 0, 1) := by decide +kernel
theorem dX6_addHarbour_25 : decode cX6_addHarbour 25 = .ok (.iconst 1, 1) := by decide +kernel
theorem dX6_addHarbour_26 : decode cX6_addHarbour 26 = .ok (.invokevirtual 57, 3) := by decide +kernel
theorem dX6_addHarbour_29 : decode cX6_addHarbour 29 = .ok (.ireturn, 1) := by decide +kernel
theorem dX6_addHarbour_30 : decode cX6_addHarbour 30 = .ok (.aload_n 0, 1) := by decide +kernel
theorem dX6_addHarbour_31 : decode cX6_addHarbour 31 = .ok (.getfield 44, 3) := by decide +kernel
theorem dX6_addHarbour_34 : decode cX6_addHarbour 34 = .ok (.bipush 8, 2) := by decide +kernel
theorem dX6_addHarbour_36 : decode cX6_addHarbour 36 = .ok (.if_icmp .ne 9, 3) := by decide +kernel
theorem dX6_addHarbour_39 : decode cX6_addHarbour 39 = .ok (.aload_n 0, 1) := by decide +kernel
theorem dX6_addHarbour_40 : decode cX6_addHarbour 40 = .ok (.iconst 2, 1) := by decide +kernel
theorem dX6_addHarbour_41 : decode cX6_addHarbour 41 = .ok (.invokevirtual 57, 3) := by decide +kernel
theorem dX6_addHarbour_44 : decode cX6_addHarbour 44 = .ok (.ireturn, 1) := by decide +kernel
theorem dX6_addHarbour_45 : decode cX6_addHarbour 45 = .ok (.aload_n 0, 1) := by decide +kernel
theorem dX6_addHarbour_46 : decode cX6_addHarbour 46 = .ok (.getfield 44, 3) := by decide +kernel
theorem dX6_addHarbour_49 : decode cX6_addHarbour 49 = .ok (.ifCond .le 15, 3) := by decide +kernel
theorem dX6_addHarbour_52 : decode cX6_addHarbour 52 = .ok (.aload_n 0, 1) := by decide +kernel
theorem dX6_addHarbour_53 : decode cX6_addHarbour 53 = .ok (.getfield 13, 3) := by decide +kernel
theorem dX6_addHarbour_56 : decode cX6_addHarbour 56 = .ok (.aload_n 0, 1) := by decide +kernel
theorem dX6_addHarbour_57 : decode cX6_addHarbour 57 = .ok (.getfield 44, 3) := by decide +kernel
theorem dX6_addHarbour_60 : decode cX6_addHarbour 60 = .ok (.iconst 1, 1) := by decide +kernel
theorem dX6_addHarbour_61 : decode cX6_addHarbour 61 = .ok (.isub, 1) := by decide +kernel
theorem dX6_addHarbour_62 : decode cX6_addHarbour 62 = .ok (.iload_n 1, 1) := by decide +kernel
theorem dX6_addHarbour_63 : decode cX6_addHarbour 63 = .ok (.iastore, 1) := by decide +kernel
theorem dX6_addHarbour_64 : decode cX6_addHarbour 64 = .ok (.aload_n 0, 1) := by decide +kernel
theorem dX6_addHarbour_65 : decode cX6_addHarbour 65 = .ok (.getfield 16, 3) := by decide +kernel
theorem dX6_addHarbour_68 : decode cX6_addHarbour 68 = .ok (.aload_n 0, 1) := by decide +kernel
theorem dX6_addHarbour_69 : decode cX6_addHarbour 69 = .ok (.getfield 44, 3) := by decide +kernel
theorem dX6_addHarbour_72 : decode cX6_addHarbour 72 = .ok (.iload_n 2, 1) := by decide +kernel
theorem dX6_addHarbour_73 : decode cX6_addHarbour 73 = .ok (.iastore, 1) := by decide +kernel
theorem dX6_addHarbour_74 : decode cX6_addHarbour 74 = .ok (.aload_n 0, 1) := by decide +kernel
theorem dX6_addHarbour_75 : decode cX6_addHarbour 75 = .ok (.dup, 1) := by decide +kernel
theorem dX6_addHarbour_76 : decode cX6_addHarbour 76 = .ok (.getfield 44, 3) := by decide +kernel
theorem dX6_addHarbour_79 : decode cX6_addHarbour 79 = .ok (.iconst 1, 1) := by decide +kernel
theorem dX6_addHarbour_80 : decode cX6_addHarbour 80 = .ok (.iadd, 1) := by decide +kernel
theorem dX6_addHarbour_81 : decode cX6_addHarbour 81 = .ok (.putfield 44, 3) := by decide +kernel
theorem dX6_addHarbour_84 : decode cX6_addHarbour 84 = .ok (.aload_n 0, 1) := by decide +kernel
theorem dX6_addHarbour_85 : decode cX6_addHarbour 85 = .ok (.getfield 44, 3) := by decide +kernel
theorem dX6_addHarbour_88 : decode cX6_addHarbour 88 = .ok (.iconst 1, 1) := by decide +kernel
theorem dX6_addHarbour_89 : decode cX6_addHarbour 89 = .ok (.isub, 1) := by decide +kernel
theorem dX6_addHarbour_90 : decode cX6_addHarbour 90 = .ok (.ireturn, 1) := by decide +kernel
theorem dX6_setPrice_0 : decode cX6_setPrice 0 = .ok (.aload_n 0, 1) := by decide +kernel
theorem dX6_setPrice_1 : decode cX6_setPrice 1 = .ok (.iconst 0, 1) := by decide +kernel
theorem dX6_setPrice_2 : decode cX6_setPrice 2 = .ok (.putfield 40, 3) := by decide +kernel
theorem dX6_setPrice_5 : decode cX6_setPrice 5 = .ok (.aload_n 0, 1) := by decide +kernel
theorem dX6_setPrice_6 : decode cX6_setPrice 6 = .ok (.iload_n 1, 1) := by decide +kernel
theorem dX6_setPrice_7 : decode cX6_setPrice 7 = .ok (.invokevirtual 61, 3) := by decide +kernel
theorem dX6_setPrice_10 : decode cX6_setPrice 10 = .ok (.ifCond .eq 10, 3) := by decide +kernel
theorem dX6_setPrice_13 : decode cX6_setPrice 13 = .ok (.iload_n 2, 1) := by decide +kernel
theorem dX6_setPrice_14 : decode cX6_setPrice 14 = .ok (.invokestatic 65, 3) := by decide +kernel
theorem dX6_setPrice_17 : decode cX6_setPrice 17 = .ok (.ifCond .ne 9, 3) := by decide +kernel
theorem dX6_setPrice_20 : decode cX6_setPrice 20 = .ok (.aload_n 0, 1) := by decide +kernel
theorem dX6_setPrice_21 : decode cX6_setPrice 21 = .ok (.iconst 1, 1) := by decide +kernel
theorem dX6_setPrice_22 : decode cX6_setPrice 22 = .ok (.invokevirtual 57, 3) := by decide +kernel
theorem dX6_setPrice_25 : decode cX6_setPrice 25 = .ok (.ireturn, 1) := by decide +kernel
theorem dX6_setPrice_26 : decode cX6_setPrice 26 = .ok (.iload_n 3, 1) := by decide +kernel
theorem dX6_setPrice_27 : decode cX6_setPrice 27 = .ok (.iconst 0, 1) := by decide +kernel
theorem dX6_setPrice_28 : decode cX6_setPrice 28 = .ok (.bipush 50, 2) := by decide +kernel
theorem dX6_setPrice_30 : decode cX6_setPrice 30 = .ok (.invokestatic 47, 3) := by decide +kernel
theorem dX6_setPrice_33 : decode cX6_setPrice 33 = .ok (.ifCond .ne 9, 3) := by decide +kernel
theorem dX6_setPrice_36 : decode cX6_setPrice 36 = .ok (.aload_n 0, 1) := by decide +kernel
theorem dX6_setPrice_37 : decode cX6_setPrice 37 = .ok (.iconst 2, 1) := by decide +kernel
theorem dX6_setPrice_38 : decode cX6_setPrice 38 = .ok (.invokevirtual 57, 3) := by decide +kernel
theorem dX6_setPrice_41 : decode cX6_setPrice 41 = .ok (.ireturn, 1) := by decide +kernel
theorem dX6_setPrice_42 : decode cX6_setPrice 42 = .ok (.aload_n 0, 1) := by decide +kernel
theorem dX6_setPrice_43 : decode cX6_setPrice 43 = .ok (.getfield 19, 3) := by decide +kernel
theorem dX6_setPrice_46 : decode cX6_setPrice 46 = .ok (.iconst 4, 1) := by decide +kernel
theorem dX6_setPrice_47 : decode cX6_setPrice 47 = .ok (.iload_n 1, 1) := by decide +kernel
theorem dX6_setPrice_48 : decode cX6_setPrice 48 = .ok (.imul, 1) := by decide +kernel
theorem dX6_setPrice_49 : decode cX6_setPrice 49 = .ok (.iload_n 2, 1) := by decide +kernel
theorem dX6_setPrice_50 : decode cX6_setPrice 50 = .ok (.iadd, 1) := by decide +kernel
theorem dX6_setPrice_51 : decode cX6_setPrice 51 = .ok (.iaload, 1) := by decide +kernel
theorem dX6_setPrice_52 : decode cX6_setPrice 52 = .ok (.istore 4, 2) := by decide +kernel
theorem dX6_setPrice_54 : decode cX6_setPrice 54 = .ok (.aload_n 0, 1) := by decide +kernel
theorem dX6_setPrice_55 : decode cX6_setPrice 55 = .ok (.getfield 19, 3) := by decide +kernel
theorem dX6_setPrice_58 : decode cX6_setPrice 58 = .ok (.iconst 4, 1) := by decide +kernel
theorem dX6_setPrice_59 : decode cX6_setPrice 59 = .ok (.iload_n 1, 1) := by decide +kernel
theorem dX6_setPrice_60 : decode cX6_setPrice 60 = .ok (.imul, 1) := by decide +kernel
theorem dX6_setPrice_61 : decode cX6_setPrice 61 = .ok (.iload_n 2, 1) := by decide +kernel
theorem dX6_setPrice_62 : decode cX6_setPrice 62 = .ok (.iadd, 1) := by decide +kernel
theorem dX6_setPrice_63 : decode cX6_setPrice 63 = .ok (.iload_n 3, 1) := by decide +kernel
theorem dX6_setPrice_64 : decode cX6_setPrice 64 = .ok (.iastore, 1) := by decide +kernel
theorem dX6_setPrice_65 : decode cX6_setPrice 65 = .ok (.iload 4, 2) := by decide +kernel
theorem dX6_setPrice_67 : decode cX6_setPrice 67 = .ok (.ireturn, 1) := by decide +kernel
theorem dX6_iceAt_0 : decode cX6_iceAt 0 = .ok (.aload_n 0, 1) := by decide +kernel
theorem dX6_iceAt_1 : decode cX6_iceAt 1 = .ok (.getfield 44, 3) := by decide +kernel
theorem dX6_iceAt_4 : decode cX6_iceAt 4 = .ok (.iconst 1, 1) := by decide +kernel
theorem dX6_iceAt_5 : decode cX6_iceAt 5 = .ok (.if_icmp .ne 7, 3) := by decide +kernel
theorem dX6_iceAt_8 : decode cX6_iceAt 8 = .ok (.iconst 0, 1) := by decide +kernel
theorem dX6_iceAt_9 : decode cX6_iceAt 9 = .ok (.goto 18, 3) := by decide +kernel
theorem dX6_iceAt_12 : decode cX6_iceAt 12 = .ok (.aload_n 0, 1) := by decide +kernel
theorem dX6_iceAt_13 : decode cX6_iceAt 13 = .ok (.getfield 22, 3) := by decide +kernel
theorem dX6_iceAt_16 : decode cX6_iceAt 16 = .ok (.iload_n 1, 1) := by decide +kernel
theorem dX6_iceAt_17 : decode cX6_iceAt 17 = .ok (.aload_n 0, 1) := by decide +kernel
theorem dX6_iceAt_18 : decode cX6_iceAt 18 = .ok (.getfield 44, 3) := by decide +kernel
theorem dX6_iceAt_21 : decode cX6_iceAt 21 = .ok (.iconst 2, 1) := by decide +kernel
theorem dX6_iceAt_22 : decode cX6_iceAt 22 = .ok (.isub, 1) := by decide +kernel
theorem dX6_iceAt_23 : decode cX6_iceAt 23 = .ok (.invokestatic 68, 3) := by decide +kernel
theorem dX6_iceAt_26 : decode cX6_iceAt 26 = .ok (.iaload, 1) := by decide +kernel
theorem dX6_iceAt_27 : decode cX6_iceAt 27 = .ok (.ireturn, 1) := by decide +kernel
theorem dX6_isHere_0 : decode cX6_isHere 0 = .ok (.aload_n 0, 1) := by decide +kernel
theorem dX6_isHere_1 : decode cX6_isHere 1 = .ok (.iload_n 1, 1) := by decide +kernel
theorem dX6_isHere_2 : decode cX6_isHere 2 = .ok (.iconst 3, 1) := by decide +kernel
theorem dX6_isHere_3 : decode cX6_isHere 3 = .ok (.invokevirtual 74, 3) := by decide +kernel
theorem dX6_isHere_6 : decode cX6_isHere 6 = .ok (.iconst 2, 1) := by decide +kernel
theorem dX6_isHere_7 : decode cX6_isHere 7 = .ok (.if_icmp .ge 7, 3) := by decide +kernel
theorem dX6_isHere_10 : decode cX6_isHere 10 = .ok (.iconst 1, 1) := by decide +kernel
theorem dX6_isHere_11 : decode cX6_isHere 11 = .ok (.goto 4, 3) := by decide +kernel
theorem dX6_isHere_14 : decode cX6_isHere 14 = .ok (.iconst 0, 1) := by decide +kernel
theorem dX6_isHere_15 : decode cX6_isHere 15 = .ok (.ireturn, 1) := by decide +kernel
theorem dX6_there_0 : decode cX6_there 0 = .ok (.iconst 0, 1) := by decide +kernel
theorem dX6_there_1 : decode cX6_there 1 = .ok (.istore_n 3, 1) := by decide +kernel
theorem dX6_there_2 : decode cX6_there 2 = .ok (.iconst 0, 1) := by decide +kernel
theorem dX6_there_3 : decode cX6_there 3 = .ok (.istore 4, 2) := by decide +kernel
theorem dX6_there_5 : decode cX6_there 5 = .ok (.iload 4, 2) := by decide +kernel
theorem dX6_there_7 : decode cX6_there 7 = .ok (.aload_n 0, 1) := by decide +kernel
theorem dX6_there_8 : decode cX6_there 8 = .ok (.getfield 54, 3) := by decide +kernel
theorem dX6_there_11 : decode cX6_there 11 = .ok (.if_icmp .ge 55, 3) := by decide +kernel
theorem dX6_there_14 : decode cX6_there 14 = .ok (.iload_n 3, 1) := by decide +kernel
theorem dX6_there_15 : decode cX6_there 15 = .ok (.aload_n 0, 1) := by decide +kernel
theorem dX6_there_16 : decode cX6_there 16 = .ok (.iload 4, 2) := by decide +kernel
theorem dX6_there_18 : decode cX6_there 18 = .ok (.iconst 4, 1) := by decide +kernel
theorem dX6_there_19 : decode cX6_there 19 = .ok (.invokevirtual 74, 3) := by decide +kernel
theorem dX6_there_22 : decode cX6_there 22 = .ok (.iload_n 1, 1) := by decide +kernel
theorem dX6_there_23 : decode cX6_there 23 = .ok (.if_icmp .ne 34, 3) := by decide +kernel
theorem dX6_there_26 : decode cX6_there 26 = .ok (.iload_n 2, 1) := by decide +kernel
theorem dX6_there_27 : decode cX6_there 27 = .ok (.ifCond .eq 17, 3) := by decide +kernel
theorem dX6_there_30 : decode cX6_there 30 = .ok (.aload_n 0, 1) := by decide +kernel
theorem dX6_there_31 : decode cX6_there 31 = .ok (.iload 4, 2) := by decide +kernel
theorem dX6_there_33 : decode cX6_there 33 = .ok (.iconst 3, 1) := by decide +kernel
theorem dX6_there_34 : decode cX6_there 34 = .ok (.invokevirtual 74, 3) := by decide +kernel
theorem dX6_there_37 : decode cX6_there 37 = .ok (.iconst 1, 1) := by decide +kernel
theorem dX6_there_38 : decode cX6_there 38 = .ok (.if_icmp .ne 19, 3) := by decide +kernel
theorem dX6_there_41 : decode cX6_there 41 = .ok (.goto 12, 3) := by decide +kernel
theorem dX6_there_44 : decode cX6_there 44 = .ok (.aload_n 0, 1) := by decide +kernel
theorem dX6_there_45 : decode cX6_there 45 = .ok (.iload 4, 2) := by decide +kernel
theorem dX6_there_47 : decode cX6_there 47 = .ok (.invokevirtual 77, 3) := by decide +kernel
theorem dX6_there_50 : decode cX6_there 50 = .ok (.ifCond .eq 7, 3) := by decide +kernel
theorem dX6_there_53 : decode cX6_there 53 = .ok (.iconst 1, 1) := by decide +kernel
theorem dX6_there_54 : decode cX6_there 54 = .ok (.goto 4, 3) := by decide +kernel
theorem dX6_there_57 : decode cX6_there 57 = .ok (.iconst 0, 1) := by decide +kernel
theorem dX6_there_58 : decode cX6_there 58 = .ok (.iadd, 1) := by decide +kernel
theorem dX6_there_59 : decode cX6_there 59 = .ok (.istore_n 3, 1) := by decide +kernel
theorem dX6_there_60 : decode cX6_there 60 = .ok (.iinc 4 1, 3) := by decide +kernel
theorem dX6_there_63 : decode cX6_there 63 = .ok (.goto (-58), 3) := by decide +kernel
theorem dX6_there_66 : decode cX6_there 66 = .ok (.iload_n 3, 1) := by decide +kernel
theorem dX6_there_67 : decode cX6_there 67 = .ok (.ireturn, 1) := by decide +kernel
theorem dX6_harbourTold_0 : decode cX6_harbourTold 0 = .ok (.iload_n 2, 1) := by decide +kernel
theorem dX6_harbourTold_1 : decode cX6_harbourTold 1 = .ok (.tableswitch 58 0 3 #[31, 38, 45, 52], 31) := by decide +kernel
theorem dX6_harbourTold_32 : decode cX6_harbourTold 32 = .ok (.aload_n 0, 1) := by decide +kernel
theorem dX6_harbourTold_33 : decode cX6_harbourTold 33 = .ok (.getfield 16, 3) := by decide +kernel
theorem dX6_harbourTold_36 : decode cX6_harbourTold 36 = .ok (.iload_n 1, 1) := by decide +kernel
theorem dX6_harbourTold_37 : decode cX6_harbourTold 37 = .ok (.iaload, 1) := by decide +kernel
theorem dX6_harbourTold_38 : decode cX6_harbourTold 38 = .ok (.ireturn, 1) := by decide +kernel
theorem dX6_harbourTold_39 : decode cX6_harbourTold 39 = .ok (.aload_n 0, 1) := by decide +kernel
theorem dX6_harbourTold_40 : decode cX6_harbourTold 40 = .ok (.iload_n 1, 1) := by decide +kernel
theorem dX6_harbourTold_41 : decode cX6_harbourTold 41 = .ok (.iconst 1, 1) := by decide +kernel
theorem dX6_harbourTold_42 : decode cX6_harbourTold 42 = .ok (.invokevirtual 80, 3) := by decide +kernel
theorem dX6_harbourTold_45 : decode cX6_harbourTold 45 = .ok (.ireturn, 1) := by decide +kernel
theorem dX6_harbourTold_46 : decode cX6_harbourTold 46 = .ok (.aload_n 0, 1) := by decide +kernel
theorem dX6_harbourTold_47 : decode cX6_harbourTold 47 = .ok (.iload_n 1, 1) := by decide +kernel
theorem dX6_harbourTold_48 : decode cX6_harbourTold 48 = .ok (.iconst 0, 1) := by decide +kernel
theorem dX6_harbourTold_49 : decode cX6_harbourTold 49 = .ok (.invokevirtual 80, 3) := by decide +kernel
theorem dX6_harbourTold_52 : decode cX6_harbourTold 52 = .ok (.ireturn, 1) := by decide +kernel
theorem dX6_harbourTold_53 : decode cX6_harbourTold 53 = .ok (.aload_n 0, 1) := by decide +kernel
theorem dX6_harbourTold_54 : decode cX6_harbourTold 54 = .ok (.iload_n 1, 1) := by decide +kernel
theorem dX6_harbourTold_55 : decode cX6_harbourTold 55 = .ok (.invokevirtual 84, 3) := by decide +kernel
theorem dX6_harbourTold_58 : decode cX6_harbourTold 58 = .ok (.ireturn, 1) := by decide +kernel
theorem dX6_harbourTold_59 : decode cX6_harbourTold 59 = .ok (.aload_n 0, 1) := by decide +kernel
theorem dX6_harbourTold_60 : decode cX6_harbourTold 60 = .ok (.getfield 19, 3) := by decide +kernel
theorem dX6_harbourTold_63 : decode cX6_harbourTold 63 = .ok (.iconst 4, 1) := by decide +kernel
theorem dX6_harbourTold_64 : decode cX6_harbourTold 64 = .ok (.iload_n 1, 1) := by decide +kernel
theorem dX6_harbourTold_65 : decode cX6_harbourTold 65 = .ok (.imul, 1) := by decide +kernel
theorem dX6_harbourTold_66 : decode cX6_harbourTold 66 = .ok (.iload_n 2, 1) := by decide +kernel
theorem dX6_harbourTold_67 : decode cX6_harbourTold 67 = .ok (.iadd, 1) := by decide +kernel
theorem dX6_harbourTold_68 : decode cX6_harbourTold 68 = .ok (.iconst 4, 1) := by decide +kernel
theorem dX6_harbourTold_69 : decode cX6_harbourTold 69 = .ok (.isub, 1) := by decide +kernel
theorem dX6_harbourTold_70 : decode cX6_harbourTold 70 = .ok (.iaload, 1) := by decide +kernel
theorem dX6_harbourTold_71 : decode cX6_harbourTold 71 = .ok (.ireturn, 1) := by decide +kernel
theorem dX6_harbour_0 : decode cX6_harbour 0 = .ok (.aload_n 0, 1) := by decide +kernel
theorem dX6_harbour_1 : decode cX6_harbour 1 = .ok (.iconst 0, 1) := by decide +kernel
theorem dX6_harbour_2 : decode cX6_harbour 2 = .ok (.putfield 40, 3) := by decide +kernel
theorem dX6_harbour_5 : decode cX6_harbour 5 = .ok (.aload_n 0, 1) := by decide +kernel
theorem dX6_harbour_6 : decode cX6_harbour 6 = .ok (.iload_n 1, 1) := by decide +kernel
theorem dX6_harbour_7 : decode cX6_harbour 7 = .ok (.invokevirtual 61, 3) := by decide +kernel
theorem dX6_harbour_10 : decode cX6_harbour 10 = .ok (.ifCond .eq 22, 3) := by decide +kernel
theorem dX6_harbour_13 : decode cX6_harbour 13 = .ok (.iload_n 2, 1) := by decide +kernel
theorem dX6_harbour_14 : decode cX6_harbour 14 = .ok (.iconst 0, 1) := by decide +kernel
theorem dX6_harbour_15 : decode cX6_harbour 15 = .ok (.bipush 7, 2) := by decide +kernel
theorem dX6_harbour_17 : decode cX6_harbour 17 = .ok (.invokestatic 47, 3) := by decide +kernel
theorem dX6_harbour_20 : decode cX6_harbour 20 = .ok (.ifCond .eq 12, 3) := by decide +kernel
theorem dX6_harbour_23 : decode cX6_harbour 23 = .ok (.aload_n 0, 1) := by decide +kernel
theorem dX6_harbour_24 : decode cX6_harbour 24 = .ok (.iload_n 1, 1) := by decide +kernel
theorem dX6_harbour_25 : decode cX6_harbour 25 = .ok (.iload_n 2, 1) := by decide +kernel
theorem dX6_harbour_26 : decode cX6_harbour 26 = .ok (.invokevirtual 87, 3) := by decide +kernel
theorem dX6_harbour_29 : decode cX6_harbour 29 = .ok (.goto 8, 3) := by decide +kernel
theorem dX6_harbour_32 : decode cX6_harbour 32 = .ok (.aload_n 0, 1) := by decide +kernel
theorem dX6_harbour_33 : decode cX6_harbour 33 = .ok (.iconst 1, 1) := by decide +kernel
theorem dX6_harbour_34 : decode cX6_harbour 34 = .ok (.invokevirtual 57, 3) := by decide +kernel
theorem dX6_harbour_37 : decode cX6_harbour 37 = .ok (.ireturn, 1) := by decide +kernel
theorem dX6_isOpen_0 : decode cX6_isOpen 0 = .ok (.aload_n 0, 1) := by decide +kernel
theorem dX6_isOpen_1 : decode cX6_isOpen 1 = .ok (.getfield 22, 3) := by decide +kernel
theorem dX6_isOpen_4 : decode cX6_isOpen 4 = .ok (.iload_n 1, 1) := by decide +kernel
theorem dX6_isOpen_5 : decode cX6_isOpen 5 = .ok (.iaload, 1) := by decide +kernel
theorem dX6_isOpen_6 : decode cX6_isOpen 6 = .ok (.bipush 10, 2) := by decide +kernel
theorem dX6_isOpen_8 : decode cX6_isOpen 8 = .ok (.if_icmp .gt 7, 3) := by decide +kernel
theorem dX6_isOpen_11 : decode cX6_isOpen 11 = .ok (.iconst 1, 1) := by decide +kernel
theorem dX6_isOpen_12 : decode cX6_isOpen 12 = .ok (.goto 4, 3) := by decide +kernel
theorem dX6_isOpen_15 : decode cX6_isOpen 15 = .ok (.iconst 0, 1) := by decide +kernel
theorem dX6_isOpen_16 : decode cX6_isOpen 16 = .ok (.ireturn, 1) := by decide +kernel
theorem dX6_legTold_0 : decode cX6_legTold 0 = .ok (.iconst 0, 1) := by decide +kernel
theorem dX6_legTold_1 : decode cX6_legTold 1 = .ok (.istore_n 3, 1) := by decide +kernel
theorem dX6_legTold_2 : decode cX6_legTold 2 = .ok (.iconst 0, 1) := by decide +kernel
theorem dX6_legTold_3 : decode cX6_legTold 3 = .ok (.istore 4, 2) := by decide +kernel
theorem dX6_legTold_5 : decode cX6_legTold 5 = .ok (.iload 4, 2) := by decide +kernel
theorem dX6_legTold_7 : decode cX6_legTold 7 = .ok (.aload_n 0, 1) := by decide +kernel
theorem dX6_legTold_8 : decode cX6_legTold 8 = .ok (.getfield 54, 3) := by decide +kernel
theorem dX6_legTold_11 : decode cX6_legTold 11 = .ok (.if_icmp .ge 40, 3) := by decide +kernel
theorem dX6_legTold_14 : decode cX6_legTold 14 = .ok (.iload_n 3, 1) := by decide +kernel
theorem dX6_legTold_15 : decode cX6_legTold 15 = .ok (.aload_n 0, 1) := by decide +kernel
theorem dX6_legTold_16 : decode cX6_legTold 16 = .ok (.iload 4, 2) := by decide +kernel
theorem dX6_legTold_18 : decode cX6_legTold 18 = .ok (.iconst 3, 1) := by decide +kernel
theorem dX6_legTold_19 : decode cX6_legTold 19 = .ok (.invokevirtual 74, 3) := by decide +kernel
theorem dX6_legTold_22 : decode cX6_legTold 22 = .ok (.iconst 2, 1) := by decide +kernel
theorem dX6_legTold_23 : decode cX6_legTold 23 = .ok (.if_icmp .ne 19, 3) := by decide +kernel
theorem dX6_legTold_26 : decode cX6_legTold 26 = .ok (.aload_n 0, 1) := by decide +kernel
theorem dX6_legTold_27 : decode cX6_legTold 27 = .ok (.iload 4, 2) := by decide +kernel
theorem dX6_legTold_29 : decode cX6_legTold 29 = .ok (.bipush 7, 2) := by decide +kernel
theorem dX6_legTold_31 : decode cX6_legTold 31 = .ok (.invokevirtual 74, 3) := by decide +kernel
theorem dX6_legTold_34 : decode cX6_legTold 34 = .ok (.iload_n 1, 1) := by decide +kernel
theorem dX6_legTold_35 : decode cX6_legTold 35 = .ok (.if_icmp .ne 7, 3) := by decide +kernel
theorem dX6_legTold_38 : decode cX6_legTold 38 = .ok (.iconst 1, 1) := by decide +kernel
theorem dX6_legTold_39 : decode cX6_legTold 39 = .ok (.goto 4, 3) := by decide +kernel
theorem dX6_legTold_42 : decode cX6_legTold 42 = .ok (.iconst 0, 1) := by decide +kernel
theorem dX6_legTold_43 : decode cX6_legTold 43 = .ok (.iadd, 1) := by decide +kernel
theorem dX6_legTold_44 : decode cX6_legTold 44 = .ok (.istore_n 3, 1) := by decide +kernel
theorem dX6_legTold_45 : decode cX6_legTold 45 = .ok (.iinc 4 1, 3) := by decide +kernel
theorem dX6_legTold_48 : decode cX6_legTold 48 = .ok (.goto (-43), 3) := by decide +kernel
theorem dX6_legTold_51 : decode cX6_legTold 51 = .ok (.iload_n 2, 1) := by decide +kernel
theorem dX6_legTold_52 : decode cX6_legTold 52 = .ok (.ifCond .ne 12, 3) := by decide +kernel
theorem dX6_legTold_55 : decode cX6_legTold 55 = .ok (.aload_n 0, 1) := by decide +kernel
theorem dX6_legTold_56 : decode cX6_legTold 56 = .ok (.getfield 13, 3) := by decide +kernel
theorem dX6_legTold_59 : decode cX6_legTold 59 = .ok (.iload_n 1, 1) := by decide +kernel
theorem dX6_legTold_60 : decode cX6_legTold 60 = .ok (.iaload, 1) := by decide +kernel
theorem dX6_legTold_61 : decode cX6_legTold 61 = .ok (.goto 39, 3) := by decide +kernel
theorem dX6_legTold_64 : decode cX6_legTold 64 = .ok (.iload_n 2, 1) := by decide +kernel
theorem dX6_legTold_65 : decode cX6_legTold 65 = .ok (.iconst 1, 1) := by decide +kernel
theorem dX6_legTold_66 : decode cX6_legTold 66 = .ok (.if_icmp .ne 12, 3) := by decide +kernel
theorem dX6_legTold_69 : decode cX6_legTold 69 = .ok (.aload_n 0, 1) := by decide +kernel
theorem dX6_legTold_70 : decode cX6_legTold 70 = .ok (.getfield 22, 3) := by decide +kernel
theorem dX6_legTold_73 : decode cX6_legTold 73 = .ok (.iload_n 1, 1) := by decide +kernel
theorem dX6_legTold_74 : decode cX6_legTold 74 = .ok (.iaload, 1) := by decide +kernel
theorem dX6_legTold_75 : decode cX6_legTold 75 = .ok (.goto 25, 3) := by decide +kernel
theorem dX6_legTold_78 : decode cX6_legTold 78 = .ok (.iload_n 2, 1) := by decide +kernel
theorem dX6_legTold_79 : decode cX6_legTold 79 = .ok (.iconst 2, 1) := by decide +kernel
theorem dX6_legTold_80 : decode cX6_legTold 80 = .ok (.if_icmp .ne 19, 3) := by decide +kernel
theorem dX6_legTold_83 : decode cX6_legTold 83 = .ok (.aload_n 0, 1) := by decide +kernel
theorem dX6_legTold_84 : decode cX6_legTold 84 = .ok (.iload_n 1, 1) := by decide +kernel
theorem dX6_legTold_85 : decode cX6_legTold 85 = .ok (.invokevirtual 90, 3) := by decide +kernel
theorem dX6_legTold_88 : decode cX6_legTold 88 = .ok (.ifCond .eq 7, 3) := by decide +kernel
theorem dX6_legTold_91 : decode cX6_legTold 91 = .ok (.iconst 1, 1) := by decide +kernel
theorem dX6_legTold_92 : decode cX6_legTold 92 = .ok (.goto 8, 3) := by decide +kernel
theorem dX6_legTold_95 : decode cX6_legTold 95 = .ok (.iconst 0, 1) := by decide +kernel
theorem dX6_legTold_96 : decode cX6_legTold 96 = .ok (.goto 4, 3) := by decide +kernel
theorem dX6_legTold_99 : decode cX6_legTold 99 = .ok (.iload_n 3, 1) := by decide +kernel
theorem dX6_legTold_100 : decode cX6_legTold 100 = .ok (.ireturn, 1) := by decide +kernel
theorem dX6_leg_0 : decode cX6_leg 0 = .ok (.aload_n 0, 1) := by decide +kernel
theorem dX6_leg_1 : decode cX6_leg 1 = .ok (.iconst 0, 1) := by decide +kernel
theorem dX6_leg_2 : decode cX6_leg 2 = .ok (.putfield 40, 3) := by decide +kernel
theorem dX6_leg_5 : decode cX6_leg 5 = .ok (.iload_n 1, 1) := by decide +kernel
theorem dX6_leg_6 : decode cX6_leg 6 = .ok (.iconst 0, 1) := by decide +kernel
theorem dX6_leg_7 : decode cX6_leg 7 = .ok (.aload_n 0, 1) := by decide +kernel
theorem dX6_leg_8 : decode cX6_leg 8 = .ok (.getfield 44, 3) := by decide +kernel
theorem dX6_leg_11 : decode cX6_leg 11 = .ok (.iconst 2, 1) := by decide +kernel
theorem dX6_leg_12 : decode cX6_leg 12 = .ok (.isub, 1) := by decide +kernel
theorem dX6_leg_13 : decode cX6_leg 13 = .ok (.invokestatic 47, 3) := by decide +kernel
theorem dX6_leg_16 : decode cX6_leg 16 = .ok (.ifCond .eq 21, 3) := by decide +kernel
theorem dX6_leg_19 : decode cX6_leg 19 = .ok (.iload_n 2, 1) := by decide +kernel
theorem dX6_leg_20 : decode cX6_leg 20 = .ok (.iconst 0, 1) := by decide +kernel
theorem dX6_leg_21 : decode cX6_leg 21 = .ok (.iconst 3, 1) := by decide +kernel
theorem dX6_leg_22 : decode cX6_leg 22 = .ok (.invokestatic 47, 3) := by decide +kernel
theorem dX6_leg_25 : decode cX6_leg 25 = .ok (.ifCond .eq 12, 3) := by decide +kernel
theorem dX6_leg_28 : decode cX6_leg 28 = .ok (.aload_n 0, 1) := by decide +kernel
theorem dX6_leg_29 : decode cX6_leg 29 = .ok (.iload_n 1, 1) := by decide +kernel
theorem dX6_leg_30 : decode cX6_leg 30 = .ok (.iload_n 2, 1) := by decide +kernel
theorem dX6_leg_31 : decode cX6_leg 31 = .ok (.invokevirtual 93, 3) := by decide +kernel
theorem dX6_leg_34 : decode cX6_leg 34 = .ok (.goto 8, 3) := by decide +kernel
theorem dX6_leg_37 : decode cX6_leg 37 = .ok (.aload_n 0, 1) := by decide +kernel
theorem dX6_leg_38 : decode cX6_leg 38 = .ok (.iconst 1, 1) := by decide +kernel
theorem dX6_leg_39 : decode cX6_leg 39 = .ok (.invokevirtual 57, 3) := by decide +kernel
theorem dX6_leg_42 : decode cX6_leg 42 = .ok (.ireturn, 1) := by decide +kernel
theorem dX6_addMerchant_0 : decode cX6_addMerchant 0 = .ok (.aload_n 0, 1) := by decide +kernel
theorem dX6_addMerchant_1 : decode cX6_addMerchant 1 = .ok (.iconst 0, 1) := by decide +kernel
theorem dX6_addMerchant_2 : decode cX6_addMerchant 2 = .ok (.putfield 40, 3) := by decide +kernel
theorem dX6_addMerchant_5 : decode cX6_addMerchant 5 = .ok (.iload_n 1, 1) := by decide +kernel
theorem dX6_addMerchant_6 : decode cX6_addMerchant 6 = .ok (.iconst 0, 1) := by decide +kernel
theorem dX6_addMerchant_7 : decode cX6_addMerchant 7 = .ok (.sipush 5000, 3) := by decide +kernel
theorem dX6_addMerchant_10 : decode cX6_addMerchant 10 = .ok (.invokestatic 47, 3) := by decide +kernel
theorem dX6_addMerchant_13 : decode cX6_addMerchant 13 = .ok (.ifCond .ne 9, 3) := by decide +kernel
theorem dX6_addMerchant_16 : decode cX6_addMerchant 16 = .ok (.aload_n 0, 1) := by decide +kernel
theorem dX6_addMerchant_17 : decode cX6_addMerchant 17 = .ok (.iconst 1, 1) := by decide +kernel
theorem dX6_addMerchant_18 : decode cX6_addMerchant 18 = .ok (.invokevirtual 57, 3) := by decide +kernel
theorem dX6_addMerchant_21 : decode cX6_addMerchant 21 = .ok (.ireturn, 1) := by decide +kernel
theorem dX6_addMerchant_22 : decode cX6_addMerchant 22 = .ok (.aload_n 0, 1) := by decide +kernel
theorem dX6_addMerchant_23 : decode cX6_addMerchant 23 = .ok (.getfield 51, 3) := by decide +kernel
theorem dX6_addMerchant_26 : decode cX6_addMerchant 26 = .ok (.iconst 5, 1) := by decide +kernel
theorem dX6_addMerchant_27 : decode cX6_addMerchant 27 = .ok (.if_icmp .ne 9, 3) := by decide +kernel
theorem dX6_addMerchant_30 : decode cX6_addMerchant 30 = .ok (.aload_n 0, 1) := by decide +kernel
theorem dX6_addMerchant_31 : decode cX6_addMerchant 31 = .ok (.iconst 2, 1) := by decide +kernel
theorem dX6_addMerchant_32 : decode cX6_addMerchant 32 = .ok (.invokevirtual 57, 3) := by decide +kernel
theorem dX6_addMerchant_35 : decode cX6_addMerchant 35 = .ok (.ireturn, 1) := by decide +kernel
theorem dX6_addMerchant_36 : decode cX6_addMerchant 36 = .ok (.aload_n 0, 1) := by decide +kernel
theorem dX6_addMerchant_37 : decode cX6_addMerchant 37 = .ok (.getfield 25, 3) := by decide +kernel
theorem dX6_addMerchant_40 : decode cX6_addMerchant 40 = .ok (.aload_n 0, 1) := by decide +kernel
theorem dX6_addMerchant_41 : decode cX6_addMerchant 41 = .ok (.getfield 51, 3) := by decide +kernel
theorem dX6_addMerchant_44 : decode cX6_addMerchant 44 = .ok (.iload_n 1, 1) := by decide +kernel
theorem dX6_addMerchant_45 : decode cX6_addMerchant 45 = .ok (.iastore, 1) := by decide +kernel
theorem dX6_addMerchant_46 : decode cX6_addMerchant 46 = .ok (.aload_n 0, 1) := by decide +kernel
theorem dX6_addMerchant_47 : decode cX6_addMerchant 47 = .ok (.dup, 1) := by decide +kernel
theorem dX6_addMerchant_48 : decode cX6_addMerchant 48 = .ok (.getfield 51, 3) := by decide +kernel
theorem dX6_addMerchant_51 : decode cX6_addMerchant 51 = .ok (.iconst 1, 1) := by decide +kernel
theorem dX6_addMerchant_52 : decode cX6_addMerchant 52 = .ok (.iadd, 1) := by decide +kernel
theorem dX6_addMerchant_53 : decode cX6_addMerchant 53 = .ok (.putfield 51, 3) := by decide +kernel
theorem dX6_addMerchant_56 : decode cX6_addMerchant 56 = .ok (.aload_n 0, 1) := by decide +kernel
theorem dX6_addMerchant_57 : decode cX6_addMerchant 57 = .ok (.getfield 51, 3) := by decide +kernel
theorem dX6_addMerchant_60 : decode cX6_addMerchant 60 = .ok (.iconst 1, 1) := by decide +kernel
theorem dX6_addMerchant_61 : decode cX6_addMerchant 61 = .ok (.isub, 1) := by decide +kernel
theorem dX6_addMerchant_62 : decode cX6_addMerchant 62 = .ok (.ireturn, 1) := by decide +kernel
theorem dX6_bring_0 : decode cX6_bring 0 = .ok (.aload_n 0, 1) := by decide +kernel
theorem dX6_bring_1 : decode cX6_bring 1 = .ok (.iconst 0, 1) := by decide +kernel
theorem dX6_bring_2 : decode cX6_bring 2 = .ok (.putfield 40, 3) := by decide +kernel
theorem dX6_bring_5 : decode cX6_bring 5 = .ok (.aload_n 0, 1) := by decide +kernel
theorem dX6_bring_6 : decode cX6_bring 6 = .ok (.iload_n 1, 1) := by decide +kernel
theorem dX6_bring_7 : decode cX6_bring 7 = .ok (.invokevirtual 96, 3) := by decide +kernel
theorem dX6_bring_10 : decode cX6_bring 10 = .ok (.ifCond .eq 18, 3) := by decide +kernel
theorem dX6_bring_13 : decode cX6_bring 13 = .ok (.aload_n 0, 1) := by decide +kernel
theorem dX6_bring_14 : decode cX6_bring 14 = .ok (.iload_n 2, 1) := by decide +kernel
theorem dX6_bring_15 : decode cX6_bring 15 = .ok (.invokevirtual 61, 3) := by decide +kernel
theorem dX6_bring_18 : decode cX6_bring 18 = .ok (.ifCond .eq 10, 3) := by decide +kernel
theorem dX6_bring_21 : decode cX6_bring 21 = .ok (.iload_n 3, 1) := by decide +kernel
theorem dX6_bring_22 : decode cX6_bring 22 = .ok (.invokestatic 65, 3) := by decide +kernel
theorem dX6_bring_25 : decode cX6_bring 25 = .ok (.ifCond .ne 9, 3) := by decide +kernel
theorem dX6_bring_28 : decode cX6_bring 28 = .ok (.aload_n 0, 1) := by decide +kernel
theorem dX6_bring_29 : decode cX6_bring 29 = .ok (.iconst 1, 1) := by decide +kernel
theorem dX6_bring_30 : decode cX6_bring 30 = .ok (.invokevirtual 57, 3) := by decide +kernel
theorem dX6_bring_33 : decode cX6_bring 33 = .ok (.ireturn, 1) := by decide +kernel
theorem dX6_bring_34 : decode cX6_bring 34 = .ok (.iload 4, 2) := by decide +kernel
theorem dX6_bring_36 : decode cX6_bring 36 = .ok (.iconst 1, 1) := by decide +kernel
theorem dX6_bring_37 : decode cX6_bring 37 = .ok (.bipush 100, 2) := by decide +kernel
theorem dX6_bring_39 : decode cX6_bring 39 = .ok (.invokestatic 47, 3) := by decide +kernel
theorem dX6_bring_42 : decode cX6_bring 42 = .ok (.ifCond .ne 9, 3) := by decide +kernel
theorem dX6_bring_45 : decode cX6_bring 45 = .ok (.aload_n 0, 1) := by decide +kernel
theorem dX6_bring_46 : decode cX6_bring 46 = .ok (.iconst 2, 1) := by decide +kernel
theorem dX6_bring_47 : decode cX6_bring 47 = .ok (.invokevirtual 57, 3) := by decide +kernel
theorem dX6_bring_50 : decode cX6_bring 50 = .ok (.ireturn, 1) := by decide +kernel
theorem dX6_bring_51 : decode cX6_bring 51 = .ok (.aload_n 0, 1) := by decide +kernel
theorem dX6_bring_52 : decode cX6_bring 52 = .ok (.getfield 28, 3) := by decide +kernel
theorem dX6_bring_55 : decode cX6_bring 55 = .ok (.iload_n 1, 1) := by decide +kernel
theorem dX6_bring_56 : decode cX6_bring 56 = .ok (.iload_n 2, 1) := by decide +kernel
theorem dX6_bring_57 : decode cX6_bring 57 = .ok (.iload_n 3, 1) := by decide +kernel
theorem dX6_bring_58 : decode cX6_bring 58 = .ok (.invokestatic 99, 3) := by decide +kernel
theorem dX6_bring_61 : decode cX6_bring 61 = .ok (.dup2, 1) := by decide +kernel
theorem dX6_bring_62 : decode cX6_bring 62 = .ok (.iaload, 1) := by decide +kernel
theorem dX6_bring_63 : decode cX6_bring 63 = .ok (.iload 4, 2) := by decide +kernel
theorem dX6_bring_65 : decode cX6_bring 65 = .ok (.iadd, 1) := by decide +kernel
theorem dX6_bring_66 : decode cX6_bring 66 = .ok (.iastore, 1) := by decide +kernel
theorem dX6_bring_67 : decode cX6_bring 67 = .ok (.aload_n 0, 1) := by decide +kernel
theorem dX6_bring_68 : decode cX6_bring 68 = .ok (.getfield 28, 3) := by decide +kernel
theorem dX6_bring_71 : decode cX6_bring 71 = .ok (.iload_n 1, 1) := by decide +kernel
theorem dX6_bring_72 : decode cX6_bring 72 = .ok (.iload_n 2, 1) := by decide +kernel
theorem dX6_bring_73 : decode cX6_bring 73 = .ok (.iload_n 3, 1) := by decide +kernel
theorem dX6_bring_74 : decode cX6_bring 74 = .ok (.invokestatic 99, 3) := by decide +kernel
theorem dX6_bring_77 : decode cX6_bring 77 = .ok (.iaload, 1) := by decide +kernel
theorem dX6_bring_78 : decode cX6_bring 78 = .ok (.ireturn, 1) := by decide +kernel
theorem dX6_sell_0 : decode cX6_sell 0 = .ok (.aload_n 0, 1) := by decide +kernel
theorem dX6_sell_1 : decode cX6_sell 1 = .ok (.iconst 0, 1) := by decide +kernel
theorem dX6_sell_2 : decode cX6_sell 2 = .ok (.putfield 40, 3) := by decide +kernel
theorem dX6_sell_5 : decode cX6_sell 5 = .ok (.aload_n 0, 1) := by decide +kernel
theorem dX6_sell_6 : decode cX6_sell 6 = .ok (.iload_n 1, 1) := by decide +kernel
theorem dX6_sell_7 : decode cX6_sell 7 = .ok (.invokevirtual 96, 3) := by decide +kernel
theorem dX6_sell_10 : decode cX6_sell 10 = .ok (.ifCond .eq 18, 3) := by decide +kernel
theorem dX6_sell_13 : decode cX6_sell 13 = .ok (.aload_n 0, 1) := by decide +kernel
theorem dX6_sell_14 : decode cX6_sell 14 = .ok (.iload_n 2, 1) := by decide +kernel
theorem dX6_sell_15 : decode cX6_sell 15 = .ok (.invokevirtual 61, 3) := by decide +kernel
theorem dX6_sell_18 : decode cX6_sell 18 = .ok (.ifCond .eq 10, 3) := by decide +kernel
theorem dX6_sell_21 : decode cX6_sell 21 = .ok (.iload_n 3, 1) := by decide +kernel
theorem dX6_sell_22 : decode cX6_sell 22 = .ok (.invokestatic 65, 3) := by decide +kernel
theorem dX6_sell_25 : decode cX6_sell 25 = .ok (.ifCond .ne 9, 3) := by decide +kernel
theorem dX6_sell_28 : decode cX6_sell 28 = .ok (.aload_n 0, 1) := by decide +kernel
theorem dX6_sell_29 : decode cX6_sell 29 = .ok (.iconst 1, 1) := by decide +kernel
theorem dX6_sell_30 : decode cX6_sell 30 = .ok (.invokevirtual 57, 3) := by decide +kernel
theorem dX6_sell_33 : decode cX6_sell 33 = .ok (.ireturn, 1) := by decide +kernel
theorem dX6_sell_34 : decode cX6_sell 34 = .ok (.iload 4, 2) := by decide +kernel
theorem dX6_sell_36 : decode cX6_sell 36 = .ok (.iconst 1, 1) := by decide +kernel
theorem dX6_sell_37 : decode cX6_sell 37 = .ok (.if_icmp .ge 9, 3) := by decide +kernel
theorem dX6_sell_40 : decode cX6_sell 40 = .ok (.aload_n 0, 1) := by decide +kernel
theorem dX6_sell_41 : decode cX6_sell 41 = .ok (.iconst 2, 1) := by decide +kernel
theorem dX6_sell_42 : decode cX6_sell 42 = .ok (.invokevirtual 57, 3) := by decide +kernel
theorem dX6_sell_45 : decode cX6_sell 45 = .ok (.ireturn, 1) := by decide +kernel
theorem dX6_sell_46 : decode cX6_sell 46 = .ok (.aload_n 0, 1) := by decide +kernel
theorem dX6_sell_47 : decode cX6_sell 47 = .ok (.getfield 28, 3) := by decide +kernel
theorem dX6_sell_50 : decode cX6_sell 50 = .ok (.iload_n 1, 1) := by decide +kernel
theorem dX6_sell_51 : decode cX6_sell 51 = .ok (.iload_n 2, 1) := by decide +kernel
theorem dX6_sell_52 : decode cX6_sell 52 = .ok (.iload_n 3, 1) := by decide +kernel
theorem dX6_sell_53 : decode cX6_sell 53 = .ok (.invokestatic 99, 3) := by decide +kernel
theorem dX6_sell_56 : decode cX6_sell 56 = .ok (.iaload, 1) := by decide +kernel
theorem dX6_sell_57 : decode cX6_sell 57 = .ok (.iload 4, 2) := by decide +kernel
theorem dX6_sell_59 : decode cX6_sell 59 = .ok (.if_icmp .ge 9, 3) := by decide +kernel
theorem dX6_sell_62 : decode cX6_sell 62 = .ok (.aload_n 0, 1) := by decide +kernel
theorem dX6_sell_63 : decode cX6_sell 63 = .ok (.iconst 3, 1) := by decide +kernel
theorem dX6_sell_64 : decode cX6_sell 64 = .ok (.invokevirtual 57, 3) := by decide +kernel
theorem dX6_sell_67 : decode cX6_sell 67 = .ok (.ireturn, 1) := by decide +kernel
theorem dX6_sell_68 : decode cX6_sell 68 = .ok (.aload_n 0, 1) := by decide +kernel
theorem dX6_sell_69 : decode cX6_sell 69 = .ok (.getfield 28, 3) := by decide +kernel
theorem dX6_sell_72 : decode cX6_sell 72 = .ok (.iload_n 1, 1) := by decide +kernel
theorem dX6_sell_73 : decode cX6_sell 73 = .ok (.iload_n 2, 1) := by decide +kernel
theorem dX6_sell_74 : decode cX6_sell 74 = .ok (.iload_n 3, 1) := by decide +kernel
theorem dX6_sell_75 : decode cX6_sell 75 = .ok (.invokestatic 99, 3) := by decide +kernel
theorem dX6_sell_78 : decode cX6_sell 78 = .ok (.dup2, 1) := by decide +kernel
theorem dX6_sell_79 : decode cX6_sell 79 = .ok (.iaload, 1) := by decide +kernel
theorem dX6_sell_80 : decode cX6_sell 80 = .ok (.iload 4, 2) := by decide +kernel
theorem dX6_sell_82 : decode cX6_sell 82 = .ok (.isub, 1) := by decide +kernel
theorem dX6_sell_83 : decode cX6_sell 83 = .ok (.iastore, 1) := by decide +kernel
theorem dX6_sell_84 : decode cX6_sell 84 = .ok (.aload_n 0, 1) := by decide +kernel
theorem dX6_sell_85 : decode cX6_sell 85 = .ok (.getfield 25, 3) := by decide +kernel
theorem dX6_sell_88 : decode cX6_sell 88 = .ok (.iload_n 1, 1) := by decide +kernel
theorem dX6_sell_89 : decode cX6_sell 89 = .ok (.dup2, 1) := by decide +kernel
theorem dX6_sell_90 : decode cX6_sell 90 = .ok (.iaload, 1) := by decide +kernel
theorem dX6_sell_91 : decode cX6_sell 91 = .ok (.iload 4, 2) := by decide +kernel
theorem dX6_sell_93 : decode cX6_sell 93 = .ok (.aload_n 0, 1) := by decide +kernel
theorem dX6_sell_94 : decode cX6_sell 94 = .ok (.getfield 19, 3) := by decide +kernel
theorem dX6_sell_97 : decode cX6_sell 97 = .ok (.iconst 4, 1) := by decide +kernel
theorem dX6_sell_98 : decode cX6_sell 98 = .ok (.iload_n 2, 1) := by decide +kernel
theorem dX6_sell_99 : decode cX6_sell 99 = .ok (.imul, 1) := by decide +kernel
theorem dX6_sell_100 : decode cX6_sell 100 = .ok (.iload_n 3, 1) := by decide +kernel
theorem dX6_sell_101 : decode cX6_sell 101 = .ok (.iadd, 1) := by decide +kernel
theorem dX6_sell_102 : decode cX6_sell 102 = .ok (.iaload, 1) := by decide +kernel
theorem dX6_sell_103 : decode cX6_sell 103 = .ok (.imul, 1) := by decide +kernel
theorem dX6_sell_104 : decode cX6_sell 104 = .ok (.iadd, 1) := by decide +kernel
theorem dX6_sell_105 : decode cX6_sell 105 = .ok (.iastore, 1) := by decide +kernel
theorem dX6_sell_106 : decode cX6_sell 106 = .ok (.aload_n 0, 1) := by decide +kernel
theorem dX6_sell_107 : decode cX6_sell 107 = .ok (.getfield 25, 3) := by decide +kernel
theorem dX6_sell_110 : decode cX6_sell 110 = .ok (.iload_n 1, 1) := by decide +kernel
theorem dX6_sell_111 : decode cX6_sell 111 = .ok (.iaload, 1) := by decide +kernel
theorem dX6_sell_112 : decode cX6_sell 112 = .ok (.ireturn, 1) := by decide +kernel
theorem dX6_stock_0 : decode cX6_stock 0 = .ok (.aload_n 0, 1) := by decide +kernel
theorem dX6_stock_1 : decode cX6_stock 1 = .ok (.iconst 0, 1) := by decide +kernel
theorem dX6_stock_2 : decode cX6_stock 2 = .ok (.putfield 40, 3) := by decide +kernel
theorem dX6_stock_5 : decode cX6_stock 5 = .ok (.aload_n 0, 1) := by decide +kernel
theorem dX6_stock_6 : decode cX6_stock 6 = .ok (.iload_n 1, 1) := by decide +kernel
theorem dX6_stock_7 : decode cX6_stock 7 = .ok (.invokevirtual 96, 3) := by decide +kernel
theorem dX6_stock_10 : decode cX6_stock 10 = .ok (.ifCond .eq 32, 3) := by decide +kernel
theorem dX6_stock_13 : decode cX6_stock 13 = .ok (.aload_n 0, 1) := by decide +kernel
theorem dX6_stock_14 : decode cX6_stock 14 = .ok (.iload_n 2, 1) := by decide +kernel
theorem dX6_stock_15 : decode cX6_stock 15 = .ok (.invokevirtual 61, 3) := by decide +kernel
theorem dX6_stock_18 : decode cX6_stock 18 = .ok (.ifCond .eq 24, 3) := by decide +kernel
theorem dX6_stock_21 : decode cX6_stock 21 = .ok (.iload_n 3, 1) := by decide +kernel
theorem dX6_stock_22 : decode cX6_stock 22 = .ok (.invokestatic 65, 3) := by decide +kernel
theorem dX6_stock_25 : decode cX6_stock 25 = .ok (.ifCond .eq 17, 3) := by decide +kernel
theorem dX6_stock_28 : decode cX6_stock 28 = .ok (.aload_n 0, 1) := by decide +kernel
theorem dX6_stock_29 : decode cX6_stock 29 = .ok (.getfield 28, 3) := by decide +kernel
theorem dX6_stock_32 : decode cX6_stock 32 = .ok (.iload_n 1, 1) := by decide +kernel
theorem dX6_stock_33 : decode cX6_stock 33 = .ok (.iload_n 2, 1) := by decide +kernel
theorem dX6_stock_34 : decode cX6_stock 34 = .ok (.iload_n 3, 1) := by decide +kernel
theorem dX6_stock_35 : decode cX6_stock 35 = .ok (.invokestatic 99, 3) := by decide +kernel
theorem dX6_stock_38 : decode cX6_stock 38 = .ok (.iaload, 1) := by decide +kernel
theorem dX6_stock_39 : decode cX6_stock 39 = .ok (.goto 8, 3) := by decide +kernel
theorem dX6_stock_42 : decode cX6_stock 42 = .ok (.aload_n 0, 1) := by decide +kernel
theorem dX6_stock_43 : decode cX6_stock 43 = .ok (.iconst 1, 1) := by decide +kernel
theorem dX6_stock_44 : decode cX6_stock 44 = .ok (.invokevirtual 57, 3) := by decide +kernel
theorem dX6_stock_47 : decode cX6_stock 47 = .ok (.ireturn, 1) := by decide +kernel
theorem dX6_loaded_0 : decode cX6_loaded 0 = .ok (.iconst 0, 1) := by decide +kernel
theorem dX6_loaded_1 : decode cX6_loaded 1 = .ok (.istore_n 2, 1) := by decide +kernel
theorem dX6_loaded_2 : decode cX6_loaded 2 = .ok (.iconst 0, 1) := by decide +kernel
theorem dX6_loaded_3 : decode cX6_loaded 3 = .ok (.istore_n 3, 1) := by decide +kernel
theorem dX6_loaded_4 : decode cX6_loaded 4 = .ok (.iload_n 3, 1) := by decide +kernel
theorem dX6_loaded_5 : decode cX6_loaded 5 = .ok (.iconst 4, 1) := by decide +kernel
theorem dX6_loaded_6 : decode cX6_loaded 6 = .ok (.if_icmp .ge 21, 3) := by decide +kernel
theorem dX6_loaded_9 : decode cX6_loaded 9 = .ok (.iload_n 2, 1) := by decide +kernel
theorem dX6_loaded_10 : decode cX6_loaded 10 = .ok (.aload_n 0, 1) := by decide +kernel
theorem dX6_loaded_11 : decode cX6_loaded 11 = .ok (.iload_n 1, 1) := by decide +kernel
theorem dX6_loaded_12 : decode cX6_loaded 12 = .ok (.bipush 8, 2) := by decide +kernel
theorem dX6_loaded_14 : decode cX6_loaded 14 = .ok (.iload_n 3, 1) := by decide +kernel
theorem dX6_loaded_15 : decode cX6_loaded 15 = .ok (.iadd, 1) := by decide +kernel
theorem dX6_loaded_16 : decode cX6_loaded 16 = .ok (.invokevirtual 74, 3) := by decide +kernel
theorem dX6_loaded_19 : decode cX6_loaded 19 = .ok (.iadd, 1) := by decide +kernel
theorem dX6_loaded_20 : decode cX6_loaded 20 = .ok (.istore_n 2, 1) := by decide +kernel
theorem dX6_loaded_21 : decode cX6_loaded 21 = .ok (.iinc 3 1, 3) := by decide +kernel
theorem dX6_loaded_24 : decode cX6_loaded 24 = .ok (.goto (-20), 3) := by decide +kernel
theorem dX6_loaded_27 : decode cX6_loaded 27 = .ok (.iload_n 2, 1) := by decide +kernel
theorem dX6_loaded_28 : decode cX6_loaded 28 = .ok (.ireturn, 1) := by decide +kernel
theorem dX6_merchantTold_0 : decode cX6_merchantTold 0 = .ok (.iconst 0, 1) := by decide +kernel
theorem dX6_merchantTold_1 : decode cX6_merchantTold 1 = .ok (.istore_n 3, 1) := by decide +kernel
theorem dX6_merchantTold_2 : decode cX6_merchantTold 2 = .ok (.iload_n 2, 1) := by decide +kernel
theorem dX6_merchantTold_3 : decode cX6_merchantTold 3 = .ok (.tableswitch 168 0 5 #[37, 44, 108, 108, 168, 44], 37) := by decide +kernel
theorem dX6_merchantTold_40 : decode cX6_merchantTold 40 = .ok (.aload_n 0, 1) := by decide +kernel
theorem dX6_merchantTold_41 : decode cX6_merchantTold 41 = .ok (.getfield 25, 3) := by decide +kernel
theorem dX6_merchantTold_44 : decode cX6_merchantTold 44 = .ok (.iload_n 1, 1) := by decide +kernel
theorem dX6_merchantTold_45 : decode cX6_merchantTold 45 = .ok (.iaload, 1) := by decide +kernel
theorem dX6_merchantTold_46 : decode cX6_merchantTold 46 = .ok (.ireturn, 1) := by decide +kernel
theorem dX6_merchantTold_47 : decode cX6_merchantTold 47 = .ok (.iconst 0, 1) := by decide +kernel
theorem dX6_merchantTold_48 : decode cX6_merchantTold 48 = .ok (.istore 4, 2) := by decide +kernel
theorem dX6_merchantTold_50 : decode cX6_merchantTold 50 = .ok (.iload 4, 2) := by decide +kernel
theorem dX6_merchantTold_52 : decode cX6_merchantTold 52 = .ok (.aload_n 0, 1) := by decide +kernel
theorem dX6_merchantTold_53 : decode cX6_merchantTold 53 = .ok (.getfield 54, 3) := by decide +kernel
theorem dX6_merchantTold_56 : decode cX6_merchantTold 56 = .ok (.if_icmp .ge 53, 3) := by decide +kernel
theorem dX6_merchantTold_59 : decode cX6_merchantTold 59 = .ok (.aload_n 0, 1) := by decide +kernel
theorem dX6_merchantTold_60 : decode cX6_merchantTold 60 = .ok (.iload 4, 2) := by decide +kernel
theorem dX6_merchantTold_62 : decode cX6_merchantTold 62 = .ok (.iconst 0, 1) := by decide +kernel
theorem dX6_merchantTold_63 : decode cX6_merchantTold 63 = .ok (.invokevirtual 74, 3) := by decide +kernel
theorem dX6_merchantTold_66 : decode cX6_merchantTold 66 = .ok (.iload_n 1, 1) := by decide +kernel
theorem dX6_merchantTold_67 : decode cX6_merchantTold 67 = .ok (.if_icmp .ne 36, 3) := by decide +kernel
theorem dX6_merchantTold_70 : decode cX6_merchantTold 70 = .ok (.iload_n 3, 1) := by decide +kernel
theorem dX6_merchantTold_71 : decode cX6_merchantTold 71 = .ok (.iload_n 2, 1) := by decide +kernel
theorem dX6_merchantTold_72 : decode cX6_merchantTold 72 = .ok (.iconst 5, 1) := by decide +kernel
theorem dX6_merchantTold_73 : decode cX6_merchantTold 73 = .ok (.if_icmp .ne 12, 3) := by decide +kernel
theorem dX6_merchantTold_76 : decode cX6_merchantTold 76 = .ok (.aload_n 0, 1) := by decide +kernel
theorem dX6_merchantTold_77 : decode cX6_merchantTold 77 = .ok (.iload 4, 2) := by decide +kernel
theorem dX6_merchantTold_79 : decode cX6_merchantTold 79 = .ok (.invokevirtual 103, 3) := by decide +kernel
theorem dX6_merchantTold_82 : decode cX6_merchantTold 82 = .ok (.goto 19, 3) := by decide +kernel
theorem dX6_merchantTold_85 : decode cX6_merchantTold 85 = .ok (.aload_n 0, 1) := by decide +kernel
theorem dX6_merchantTold_86 : decode cX6_merchantTold 86 = .ok (.iload 4, 2) := by decide +kernel
theorem dX6_merchantTold_88 : decode cX6_merchantTold 88 = .ok (.iconst 3, 1) := by decide +kernel
theorem dX6_merchantTold_89 : decode cX6_merchantTold 89 = .ok (.invokevirtual 74, 3) := by decide +kernel
theorem dX6_merchantTold_92 : decode cX6_merchantTold 92 = .ok (.iconst 3, 1) := by decide +kernel
theorem dX6_merchantTold_93 : decode cX6_merchantTold 93 = .ok (.if_icmp .ne 7, 3) := by decide +kernel
theorem dX6_merchantTold_96 : decode cX6_merchantTold 96 = .ok (.iconst 0, 1) := by decide +kernel
theorem dX6_merchantTold_97 : decode cX6_merchantTold 97 = .ok (.goto 4, 3) := by decide +kernel
theorem dX6_merchantTold_100 : decode cX6_merchantTold 100 = .ok (.iconst 1, 1) := by decide +kernel
theorem dX6_merchantTold_101 : decode cX6_merchantTold 101 = .ok (.iadd, 1) := by decide +kernel
theorem dX6_merchantTold_102 : decode cX6_merchantTold 102 = .ok (.istore_n 3, 1) := by decide +kernel
theorem dX6_merchantTold_103 : decode cX6_merchantTold 103 = .ok (.iinc 4 1, 3) := by decide +kernel
theorem dX6_merchantTold_106 : decode cX6_merchantTold 106 = .ok (.goto (-56), 3) := by decide +kernel
theorem dX6_merchantTold_109 : decode cX6_merchantTold 109 = .ok (.iload_n 3, 1) := by decide +kernel
theorem dX6_merchantTold_110 : decode cX6_merchantTold 110 = .ok (.ireturn, 1) := by decide +kernel
theorem dX6_merchantTold_111 : decode cX6_merchantTold 111 = .ok (.iconst 0, 1) := by decide +kernel
theorem dX6_merchantTold_112 : decode cX6_merchantTold 112 = .ok (.istore 4, 2) := by decide +kernel
theorem dX6_merchantTold_114 : decode cX6_merchantTold 114 = .ok (.iload 4, 2) := by decide +kernel
theorem dX6_merchantTold_116 : decode cX6_merchantTold 116 = .ok (.aload_n 0, 1) := by decide +kernel
theorem dX6_merchantTold_117 : decode cX6_merchantTold 117 = .ok (.getfield 106, 3) := by decide +kernel
theorem dX6_merchantTold_120 : decode cX6_merchantTold 120 = .ok (.if_icmp .ge 49, 3) := by decide +kernel
theorem dX6_merchantTold_123 : decode cX6_merchantTold 123 = .ok (.iload_n 3, 1) := by decide +kernel
theorem dX6_merchantTold_124 : decode cX6_merchantTold 124 = .ok (.aload_n 0, 1) := by decide +kernel
theorem dX6_merchantTold_125 : decode cX6_merchantTold 125 = .ok (.iload 4, 2) := by decide +kernel
theorem dX6_merchantTold_127 : decode cX6_merchantTold 127 = .ok (.iconst 1, 1) := by decide +kernel
theorem dX6_merchantTold_128 : decode cX6_merchantTold 128 = .ok (.invokevirtual 109, 3) := by decide +kernel
theorem dX6_merchantTold_131 : decode cX6_merchantTold 131 = .ok (.iload_n 1, 1) := by decide +kernel
theorem dX6_merchantTold_132 : decode cX6_merchantTold 132 = .ok (.if_icmp .ne 28, 3) := by decide +kernel
theorem dX6_merchantTold_135 : decode cX6_merchantTold 135 = .ok (.aload_n 0, 1) := by decide +kernel
theorem dX6_merchantTold_136 : decode cX6_merchantTold 136 = .ok (.iload 4, 2) := by decide +kernel
theorem dX6_merchantTold_138 : decode cX6_merchantTold 138 = .ok (.bipush 6, 2) := by decide +kernel
theorem dX6_merchantTold_140 : decode cX6_merchantTold 140 = .ok (.invokevirtual 109, 3) := by decide +kernel
theorem dX6_merchantTold_143 : decode cX6_merchantTold 143 = .ok (.iload_n 2, 1) := by decide +kernel
theorem dX6_merchantTold_144 : decode cX6_merchantTold 144 = .ok (.iconst 2, 1) := by decide +kernel
theorem dX6_merchantTold_145 : decode cX6_merchantTold 145 = .ok (.if_icmp .ne 7, 3) := by decide +kernel
theorem dX6_merchantTold_148 : decode cX6_merchantTold 148 = .ok (.iconst 0, 1) := by decide +kernel
theorem dX6_merchantTold_149 : decode cX6_merchantTold 149 = .ok (.goto 4, 3) := by decide +kernel
theorem dX6_merchantTold_152 : decode cX6_merchantTold 152 = .ok (.iconst 2, 1) := by decide +kernel
theorem dX6_merchantTold_153 : decode cX6_merchantTold 153 = .ok (.if_icmp .ne 7, 3) := by decide +kernel
theorem dX6_merchantTold_156 : decode cX6_merchantTold 156 = .ok (.iconst 1, 1) := by decide +kernel
theorem dX6_merchantTold_157 : decode cX6_merchantTold 157 = .ok (.goto 4, 3) := by decide +kernel
theorem dX6_merchantTold_160 : decode cX6_merchantTold 160 = .ok (.iconst 0, 1) := by decide +kernel
theorem dX6_merchantTold_161 : decode cX6_merchantTold 161 = .ok (.iadd, 1) := by decide +kernel
theorem dX6_merchantTold_162 : decode cX6_merchantTold 162 = .ok (.istore_n 3, 1) := by decide +kernel
theorem dX6_merchantTold_163 : decode cX6_merchantTold 163 = .ok (.iinc 4 1, 3) := by decide +kernel
theorem dX6_merchantTold_166 : decode cX6_merchantTold 166 = .ok (.goto (-52), 3) := by decide +kernel
theorem dX6_merchantTold_169 : decode cX6_merchantTold 169 = .ok (.iload_n 3, 1) := by decide +kernel
theorem dX6_merchantTold_170 : decode cX6_merchantTold 170 = .ok (.ireturn, 1) := by decide +kernel
theorem dX6_merchantTold_171 : decode cX6_merchantTold 171 = .ok (.iload_n 1, 1) := by decide +kernel
theorem dX6_merchantTold_172 : decode cX6_merchantTold 172 = .ok (.iconst 0, 1) := by decide +kernel
theorem dX6_merchantTold_173 : decode cX6_merchantTold 173 = .ok (.iconst 0, 1) := by decide +kernel
theorem dX6_merchantTold_174 : decode cX6_merchantTold 174 = .ok (.invokestatic 99, 3) := by decide +kernel
theorem dX6_merchantTold_177 : decode cX6_merchantTold 177 = .ok (.istore 4, 2) := by decide +kernel
theorem dX6_merchantTold_179 : decode cX6_merchantTold 179 = .ok (.iload 4, 2) := by decide +kernel
theorem dX6_merchantTold_181 : decode cX6_merchantTold 181 = .ok (.iload_n 1, 1) := by decide +kernel
theorem dX6_merchantTold_182 : decode cX6_merchantTold 182 = .ok (.iconst 1, 1) := by decide +kernel
theorem dX6_merchantTold_183 : decode cX6_merchantTold 183 = .ok (.iadd, 1) := by decide +kernel
theorem dX6_merchantTold_184 : decode cX6_merchantTold 184 = .ok (.iconst 0, 1) := by decide +kernel
theorem dX6_merchantTold_185 : decode cX6_merchantTold 185 = .ok (.iconst 0, 1) := by decide +kernel
theorem dX6_merchantTold_186 : decode cX6_merchantTold 186 = .ok (.invokestatic 99, 3) := by decide +kernel
theorem dX6_merchantTold_189 : decode cX6_merchantTold 189 = .ok (.if_icmp .ge 19, 3) := by decide +kernel
theorem dX6_merchantTold_192 : decode cX6_merchantTold 192 = .ok (.iload_n 3, 1) := by decide +kernel
theorem dX6_merchantTold_193 : decode cX6_merchantTold 193 = .ok (.aload_n 0, 1) := by decide +kernel
theorem dX6_merchantTold_194 : decode cX6_merchantTold 194 = .ok (.getfield 28, 3) := by decide +kernel
theorem dX6_merchantTold_197 : decode cX6_merchantTold 197 = .ok (.iload 4, 2) := by decide +kernel
theorem dX6_merchantTold_199 : decode cX6_merchantTold 199 = .ok (.iaload, 1) := by decide +kernel
theorem dX6_merchantTold_200 : decode cX6_merchantTold 200 = .ok (.iadd, 1) := by decide +kernel
theorem dX6_merchantTold_201 : decode cX6_merchantTold 201 = .ok (.istore_n 3, 1) := by decide +kernel
theorem dX6_merchantTold_202 : decode cX6_merchantTold 202 = .ok (.iinc 4 1, 3) := by decide +kernel
theorem dX6_merchantTold_205 : decode cX6_merchantTold 205 = .ok (.goto (-26), 3) := by decide +kernel
theorem dX6_merchantTold_208 : decode cX6_merchantTold 208 = .ok (.iload_n 3, 1) := by decide +kernel
theorem dX6_merchantTold_209 : decode cX6_merchantTold 209 = .ok (.ireturn, 1) := by decide +kernel
theorem dX6_merchant_0 : decode cX6_merchant 0 = .ok (.aload_n 0, 1) := by decide +kernel
theorem dX6_merchant_1 : decode cX6_merchant 1 = .ok (.iconst 0, 1) := by decide +kernel
theorem dX6_merchant_2 : decode cX6_merchant 2 = .ok (.putfield 40, 3) := by decide +kernel
theorem dX6_merchant_5 : decode cX6_merchant 5 = .ok (.aload_n 0, 1) := by decide +kernel
theorem dX6_merchant_6 : decode cX6_merchant 6 = .ok (.iload_n 1, 1) := by decide +kernel
theorem dX6_merchant_7 : decode cX6_merchant 7 = .ok (.invokevirtual 96, 3) := by decide +kernel
theorem dX6_merchant_10 : decode cX6_merchant 10 = .ok (.ifCond .eq 21, 3) := by decide +kernel
theorem dX6_merchant_13 : decode cX6_merchant 13 = .ok (.iload_n 2, 1) := by decide +kernel
theorem dX6_merchant_14 : decode cX6_merchant 14 = .ok (.iconst 0, 1) := by decide +kernel
theorem dX6_merchant_15 : decode cX6_merchant 15 = .ok (.iconst 5, 1) := by decide +kernel
theorem dX6_merchant_16 : decode cX6_merchant 16 = .ok (.invokestatic 47, 3) := by decide +kernel
theorem dX6_merchant_19 : decode cX6_merchant 19 = .ok (.ifCond .eq 12, 3) := by decide +kernel
theorem dX6_merchant_22 : decode cX6_merchant 22 = .ok (.aload_n 0, 1) := by decide +kernel
theorem dX6_merchant_23 : decode cX6_merchant 23 = .ok (.iload_n 1, 1) := by decide +kernel
theorem dX6_merchant_24 : decode cX6_merchant 24 = .ok (.iload_n 2, 1) := by decide +kernel
theorem dX6_merchant_25 : decode cX6_merchant 25 = .ok (.invokevirtual 112, 3) := by decide +kernel
theorem dX6_merchant_28 : decode cX6_merchant 28 = .ok (.goto 8, 3) := by decide +kernel
theorem dX6_merchant_31 : decode cX6_merchant 31 = .ok (.aload_n 0, 1) := by decide +kernel
theorem dX6_merchant_32 : decode cX6_merchant 32 = .ok (.iconst 1, 1) := by decide +kernel
theorem dX6_merchant_33 : decode cX6_merchant 33 = .ok (.invokevirtual 57, 3) := by decide +kernel
theorem dX6_merchant_36 : decode cX6_merchant 36 = .ok (.ireturn, 1) := by decide +kernel
theorem dX6_build_0 : decode cX6_build 0 = .ok (.aload_n 0, 1) := by decide +kernel
theorem dX6_build_1 : decode cX6_build 1 = .ok (.iconst 0, 1) := by decide +kernel
theorem dX6_build_2 : decode cX6_build 2 = .ok (.putfield 40, 3) := by decide +kernel
theorem dX6_build_5 : decode cX6_build 5 = .ok (.aload_n 0, 1) := by decide +kernel
theorem dX6_build_6 : decode cX6_build 6 = .ok (.iload_n 1, 1) := by decide +kernel
theorem dX6_build_7 : decode cX6_build 7 = .ok (.invokevirtual 96, 3) := by decide +kernel
theorem dX6_build_10 : decode cX6_build 10 = .ok (.ifCond .eq 11, 3) := by decide +kernel
theorem dX6_build_13 : decode cX6_build 13 = .ok (.aload_n 0, 1) := by decide +kernel
theorem dX6_build_14 : decode cX6_build 14 = .ok (.iload_n 2, 1) := by decide +kernel
theorem dX6_build_15 : decode cX6_build 15 = .ok (.invokevirtual 61, 3) := by decide +kernel
theorem dX6_build_18 : decode cX6_build 18 = .ok (.ifCond .ne 9, 3) := by decide +kernel
theorem dX6_build_21 : decode cX6_build 21 = .ok (.aload_n 0, 1) := by decide +kernel
theorem dX6_build_22 : decode cX6_build 22 = .ok (.iconst 1, 1) := by decide +kernel
theorem dX6_build_23 : decode cX6_build 23 = .ok (.invokevirtual 57, 3) := by decide +kernel
theorem dX6_build_26 : decode cX6_build 26 = .ok (.ireturn, 1) := by decide +kernel
theorem dX6_build_27 : decode cX6_build 27 = .ok (.iload_n 3, 1) := by decide +kernel
theorem dX6_build_28 : decode cX6_build 28 = .ok (.iconst 1, 1) := by decide +kernel
theorem dX6_build_29 : decode cX6_build 29 = .ok (.bipush 60, 2) := by decide +kernel
theorem dX6_build_31 : decode cX6_build 31 = .ok (.invokestatic 47, 3) := by decide +kernel
theorem dX6_build_34 : decode cX6_build 34 = .ok (.ifCond .ne 9, 3) := by decide +kernel
theorem dX6_build_37 : decode cX6_build 37 = .ok (.aload_n 0, 1) := by decide +kernel
theorem dX6_build_38 : decode cX6_build 38 = .ok (.iconst 2, 1) := by decide +kernel
theorem dX6_build_39 : decode cX6_build 39 = .ok (.invokevirtual 57, 3) := by decide +kernel
theorem dX6_build_42 : decode cX6_build 42 = .ok (.ireturn, 1) := by decide +kernel
theorem dX6_build_43 : decode cX6_build 43 = .ok (.aload_n 0, 1) := by decide +kernel
theorem dX6_build_44 : decode cX6_build 44 = .ok (.getfield 54, 3) := by decide +kernel
theorem dX6_build_47 : decode cX6_build 47 = .ok (.bipush 10, 2) := by decide +kernel
theorem dX6_build_49 : decode cX6_build 49 = .ok (.if_icmp .ne 9, 3) := by decide +kernel
theorem dX6_build_52 : decode cX6_build 52 = .ok (.aload_n 0, 1) := by decide +kernel
theorem dX6_build_53 : decode cX6_build 53 = .ok (.iconst 3, 1) := by decide +kernel
theorem dX6_build_54 : decode cX6_build 54 = .ok (.invokevirtual 57, 3) := by decide +kernel
theorem dX6_build_57 : decode cX6_build 57 = .ok (.ireturn, 1) := by decide +kernel
theorem dX6_build_58 : decode cX6_build 58 = .ok (.bipush 12, 2) := by decide +kernel
theorem dX6_build_60 : decode cX6_build 60 = .ok (.newarray .int, 2) := by decide +kernel
theorem dX6_build_62 : decode cX6_build 62 = .ok (.dup, 1) := by decide +kernel
theorem dX6_build_63 : decode cX6_build 63 = .ok (.iconst 0, 1) := by decide +kernel
theorem dX6_build_64 : decode cX6_build 64 = .ok (.iload_n 1, 1) := by decide +kernel
theorem dX6_build_65 : decode cX6_build 65 = .ok (.iastore, 1) := by decide +kernel
theorem dX6_build_66 : decode cX6_build 66 = .ok (.dup, 1) := by decide +kernel
theorem dX6_build_67 : decode cX6_build 67 = .ok (.iconst 1, 1) := by decide +kernel
theorem dX6_build_68 : decode cX6_build 68 = .ok (.bipush 20, 2) := by decide +kernel
theorem dX6_build_70 : decode cX6_build 70 = .ok (.iastore, 1) := by decide +kernel
theorem dX6_build_71 : decode cX6_build 71 = .ok (.dup, 1) := by decide +kernel
theorem dX6_build_72 : decode cX6_build 72 = .ok (.iconst 2, 1) := by decide +kernel
theorem dX6_build_73 : decode cX6_build 73 = .ok (.iload_n 3, 1) := by decide +kernel
theorem dX6_build_74 : decode cX6_build 74 = .ok (.iastore, 1) := by decide +kernel
theorem dX6_build_75 : decode cX6_build 75 = .ok (.dup, 1) := by decide +kernel
theorem dX6_build_76 : decode cX6_build 76 = .ok (.iconst 3, 1) := by decide +kernel
theorem dX6_build_77 : decode cX6_build 77 = .ok (.iconst 0, 1) := by decide +kernel
theorem dX6_build_78 : decode cX6_build 78 = .ok (.iastore, 1) := by decide +kernel
theorem dX6_build_79 : decode cX6_build 79 = .ok (.dup, 1) := by decide +kernel
theorem dX6_build_80 : decode cX6_build 80 = .ok (.iconst 4, 1) := by decide +kernel
theorem dX6_build_81 : decode cX6_build 81 = .ok (.iload_n 2, 1) := by decide +kernel
theorem dX6_build_82 : decode cX6_build 82 = .ok (.iastore, 1) := by decide +kernel
theorem dX6_build_83 : decode cX6_build 83 = .ok (.dup, 1) := by decide +kernel
theorem dX6_build_84 : decode cX6_build 84 = .ok (.iconst 5, 1) := by decide +kernel
theorem dX6_build_85 : decode cX6_build 85 = .ok (.iload_n 2, 1) := by decide +kernel
theorem dX6_build_86 : decode cX6_build 86 = .ok (.iastore, 1) := by decide +kernel
theorem dX6_build_87 : decode cX6_build 87 = .ok (.dup, 1) := by decide +kernel
theorem dX6_build_88 : decode cX6_build 88 = .ok (.bipush 6, 2) := by decide +kernel
theorem dX6_build_90 : decode cX6_build 90 = .ok (.iconst 0, 1) := by decide +kernel
theorem dX6_build_91 : decode cX6_build 91 = .ok (.iastore, 1) := by decide +kernel
theorem dX6_build_92 : decode cX6_build 92 = .ok (.dup, 1) := by decide +kernel
theorem dX6_build_93 : decode cX6_build 93 = .ok (.bipush 7, 2) := by decide +kernel
theorem dX6_build_95 : decode cX6_build 95 = .ok (.iconst (-1), 1) := by decide +kernel
theorem dX6_build_96 : decode cX6_build 96 = .ok (.iastore, 1) := by decide +kernel
theorem dX6_build_97 : decode cX6_build 97 = .ok (.dup, 1) := by decide +kernel
theorem dX6_build_98 : decode cX6_build 98 = .ok (.bipush 8, 2) := by decide +kernel
theorem dX6_build_100 : decode cX6_build 100 = .ok (.iconst 0, 1) := by decide +kernel
theorem dX6_build_101 : decode cX6_build 101 = .ok (.iastore, 1) := by decide +kernel
theorem dX6_build_102 : decode cX6_build 102 = .ok (.dup, 1) := by decide +kernel
theorem dX6_build_103 : decode cX6_build 103 = .ok (.bipush 9, 2) := by decide +kernel
theorem dX6_build_105 : decode cX6_build 105 = .ok (.iconst 0, 1) := by decide +kernel
theorem dX6_build_106 : decode cX6_build 106 = .ok (.iastore, 1) := by decide +kernel
theorem dX6_build_107 : decode cX6_build 107 = .ok (.dup, 1) := by decide +kernel
theorem dX6_build_108 : decode cX6_build 108 = .ok (.bipush 10, 2) := by decide +kernel
theorem dX6_build_110 : decode cX6_build 110 = .ok (.iconst 0, 1) := by decide +kernel
theorem dX6_build_111 : decode cX6_build 111 = .ok (.iastore, 1) := by decide +kernel
theorem dX6_build_112 : decode cX6_build 112 = .ok (.dup, 1) := by decide +kernel
theorem dX6_build_113 : decode cX6_build 113 = .ok (.bipush 11, 2) := by decide +kernel
theorem dX6_build_115 : decode cX6_build 115 = .ok (.iconst 0, 1) := by decide +kernel
theorem dX6_build_116 : decode cX6_build 116 = .ok (.iastore, 1) := by decide +kernel
theorem dX6_build_117 : decode cX6_build 117 = .ok (.astore 4, 2) := by decide +kernel
theorem dX6_build_119 : decode cX6_build 119 = .ok (.aload 4, 2) := by decide +kernel
theorem dX6_build_121 : decode cX6_build 121 = .ok (.iconst 0, 1) := by decide +kernel
theorem dX6_build_122 : decode cX6_build 122 = .ok (.aload_n 0, 1) := by decide +kernel
theorem dX6_build_123 : decode cX6_build 123 = .ok (.getfield 31, 3) := by decide +kernel
theorem dX6_build_126 : decode cX6_build 126 = .ok (.bipush 12, 2) := by decide +kernel
theorem dX6_build_128 : decode cX6_build 128 = .ok (.aload_n 0, 1) := by decide +kernel
theorem dX6_build_129 : decode cX6_build 129 = .ok (.getfield 54, 3) := by decide +kernel
theorem dX6_build_132 : decode cX6_build 132 = .ok (.imul, 1) := by decide +kernel
theorem dX6_build_133 : decode cX6_build 133 = .ok (.bipush 12, 2) := by decide +kernel
theorem dX6_build_135 : decode cX6_build 135 = .ok (.invokestatic 115, 3) := by decide +kernel
theorem dX6_build_138 : decode cX6_build 138 = .ok (.aload_n 0, 1) := by decide +kernel
theorem dX6_build_139 : decode cX6_build 139 = .ok (.dup, 1) := by decide +kernel
theorem dX6_build_140 : decode cX6_build 140 = .ok (.getfield 54, 3) := by decide +kernel
theorem dX6_build_143 : decode cX6_build 143 = .ok (.iconst 1, 1) := by decide +kernel
theorem dX6_build_144 : decode cX6_build 144 = .ok (.iadd, 1) := by decide +kernel
theorem dX6_build_145 : decode cX6_build 145 = .ok (.putfield 54, 3) := by decide +kernel
theorem dX6_build_148 : decode cX6_build 148 = .ok (.aload_n 0, 1) := by decide +kernel
theorem dX6_build_149 : decode cX6_build 149 = .ok (.getfield 54, 3) := by decide +kernel
theorem dX6_build_152 : decode cX6_build 152 = .ok (.iconst 1, 1) := by decide +kernel
theorem dX6_build_153 : decode cX6_build 153 = .ok (.isub, 1) := by decide +kernel
theorem dX6_build_154 : decode cX6_build 154 = .ok (.ireturn, 1) := by decide +kernel
theorem dX6_load_0 : decode cX6_load 0 = .ok (.aload_n 0, 1) := by decide +kernel
theorem dX6_load_1 : decode cX6_load 1 = .ok (.iconst 0, 1) := by decide +kernel
theorem dX6_load_2 : decode cX6_load 2 = .ok (.putfield 40, 3) := by decide +kernel
theorem dX6_load_5 : decode cX6_load 5 = .ok (.aload_n 0, 1) := by decide +kernel
theorem dX6_load_6 : decode cX6_load 6 = .ok (.iload_n 1, 1) := by decide +kernel
theorem dX6_load_7 : decode cX6_load 7 = .ok (.invokevirtual 121, 3) := by decide +kernel
theorem dX6_load_10 : decode cX6_load 10 = .ok (.ifCond .eq 10, 3) := by decide +kernel
theorem dX6_load_13 : decode cX6_load 13 = .ok (.iload_n 2, 1) := by decide +kernel
theorem dX6_load_14 : decode cX6_load 14 = .ok (.invokestatic 65, 3) := by decide +kernel
theorem dX6_load_17 : decode cX6_load 17 = .ok (.ifCond .ne 9, 3) := by decide +kernel
theorem dX6_load_20 : decode cX6_load 20 = .ok (.aload_n 0, 1) := by decide +kernel
theorem dX6_load_21 : decode cX6_load 21 = .ok (.iconst 1, 1) := by decide +kernel
theorem dX6_load_22 : decode cX6_load 22 = .ok (.invokevirtual 57, 3) := by decide +kernel
theorem dX6_load_25 : decode cX6_load 25 = .ok (.ireturn, 1) := by decide +kernel
theorem dX6_load_26 : decode cX6_load 26 = .ok (.iload_n 3, 1) := by decide +kernel
theorem dX6_load_27 : decode cX6_load 27 = .ok (.ifCond .eq 14, 3) := by decide +kernel
theorem dX6_load_30 : decode cX6_load 30 = .ok (.iload_n 3, 1) := by decide +kernel
theorem dX6_load_31 : decode cX6_load 31 = .ok (.bipush (-60), 2) := by decide +kernel
theorem dX6_load_33 : decode cX6_load 33 = .ok (.bipush 60, 2) := by decide +kernel
theorem dX6_load_35 : decode cX6_load 35 = .ok (.invokestatic 47, 3) := by decide +kernel
theorem dX6_load_38 : decode cX6_load 38 = .ok (.ifCond .ne 9, 3) := by decide +kernel
theorem dX6_load_41 : decode cX6_load 41 = .ok (.aload_n 0, 1) := by decide +kernel
theorem dX6_load_42 : decode cX6_load 42 = .ok (.iconst 2, 1) := by decide +kernel
theorem dX6_load_43 : decode cX6_load 43 = .ok (.invokevirtual 57, 3) := by decide +kernel
theorem dX6_load_46 : decode cX6_load 46 = .ok (.ireturn, 1) := by decide +kernel
theorem dX6_load_47 : decode cX6_load 47 = .ok (.aload_n 0, 1) := by decide +kernel
theorem dX6_load_48 : decode cX6_load 48 = .ok (.iload_n 1, 1) := by decide +kernel
theorem dX6_load_49 : decode cX6_load 49 = .ok (.invokevirtual 77, 3) := by decide +kernel
theorem dX6_load_52 : decode cX6_load 52 = .ok (.ifCond .ne 9, 3) := by decide +kernel
theorem dX6_load_55 : decode cX6_load 55 = .ok (.aload_n 0, 1) := by decide +kernel
theorem dX6_load_56 : decode cX6_load 56 = .ok (.iconst 3, 1) := by decide +kernel
theorem dX6_load_57 : decode cX6_load 57 = .ok (.invokevirtual 57, 3) := by decide +kernel
theorem dX6_load_60 : decode cX6_load 60 = .ok (.ireturn, 1) := by decide +kernel
theorem dX6_load_61 : decode cX6_load 61 = .ok (.aload_n 0, 1) := by decide +kernel
theorem dX6_load_62 : decode cX6_load 62 = .ok (.iload_n 1, 1) := by decide +kernel
theorem dX6_load_63 : decode cX6_load 63 = .ok (.iconst 0, 1) := by decide +kernel
theorem dX6_load_64 : decode cX6_load 64 = .ok (.invokevirtual 74, 3) := by decide +kernel
theorem dX6_load_67 : decode cX6_load 67 = .ok (.aload_n 0, 1) := by decide +kernel
theorem dX6_load_68 : decode cX6_load 68 = .ok (.iload_n 1, 1) := by decide +kernel
theorem dX6_load_69 : decode cX6_load 69 = .ok (.iconst 4, 1) := by decide +kernel
theorem dX6_load_70 : decode cX6_load 70 = .ok (.invokevirtual 74, 3) := by decide +kernel
theorem dX6_load_73 : decode cX6_load 73 = .ok (.iload_n 2, 1) := by decide +kernel
theorem dX6_load_74 : decode cX6_load 74 = .ok (.invokestatic 99, 3) := by decide +kernel
theorem dX6_load_77 : decode cX6_load 77 = .ok (.istore 4, 2) := by decide +kernel
theorem dX6_load_79 : decode cX6_load 79 = .ok (.iload_n 3, 1) := by decide +kernel
theorem dX6_load_80 : decode cX6_load 80 = .ok (.aload_n 0, 1) := by decide +kernel
theorem dX6_load_81 : decode cX6_load 81 = .ok (.getfield 28, 3) := by decide +kernel
theorem dX6_load_84 : decode cX6_load 84 = .ok (.iload 4, 2) := by decide +kernel
theorem dX6_load_86 : decode cX6_load 86 = .ok (.iaload, 1) := by decide +kernel
theorem dX6_load_87 : decode cX6_load 87 = .ok (.if_icmp .gt 33, 3) := by decide +kernel
theorem dX6_load_90 : decode cX6_load 90 = .ok (.iload_n 3, 1) := by decide +kernel
theorem dX6_load_91 : decode cX6_load 91 = .ok (.ineg, 1) := by decide +kernel
theorem dX6_load_92 : decode cX6_load 92 = .ok (.aload_n 0, 1) := by decide +kernel
theorem dX6_load_93 : decode cX6_load 93 = .ok (.iload_n 1, 1) := by decide +kernel
theorem dX6_load_94 : decode cX6_load 94 = .ok (.bipush 8, 2) := by decide +kernel
theorem dX6_load_96 : decode cX6_load 96 = .ok (.iload_n 2, 1) := by decide +kernel
theorem dX6_load_97 : decode cX6_load 97 = .ok (.iadd, 1) := by decide +kernel
theorem dX6_load_98 : decode cX6_load 98 = .ok (.invokevirtual 74, 3) := by decide +kernel
theorem dX6_load_101 : decode cX6_load 101 = .ok (.if_icmp .gt 19, 3) := by decide +kernel
theorem dX6_load_104 : decode cX6_load 104 = .ok (.aload_n 0, 1) := by decide +kernel
theorem dX6_load_105 : decode cX6_load 105 = .ok (.iload_n 1, 1) := by decide +kernel
theorem dX6_load_106 : decode cX6_load 106 = .ok (.invokevirtual 103, 3) := by decide +kernel
theorem dX6_load_109 : decode cX6_load 109 = .ok (.iload_n 3, 1) := by decide +kernel
theorem dX6_load_110 : decode cX6_load 110 = .ok (.iadd, 1) := by decide +kernel
theorem dX6_load_111 : decode cX6_load 111 = .ok (.aload_n 0, 1) := by decide +kernel
theorem dX6_load_112 : decode cX6_load 112 = .ok (.iload_n 1, 1) := by decide +kernel
theorem dX6_load_113 : decode cX6_load 113 = .ok (.iconst 2, 1) := by decide +kernel
theorem dX6_load_114 : decode cX6_load 114 = .ok (.invokevirtual 74, 3) := by decide +kernel
theorem dX6_load_117 : decode cX6_load 117 = .ok (.if_icmp .le 9, 3) := by decide +kernel
theorem dX6_load_120 : decode cX6_load 120 = .ok (.aload_n 0, 1) := by decide +kernel
theorem dX6_load_121 : decode cX6_load 121 = .ok (.iconst 3, 1) := by decide +kernel
theorem dX6_load_122 : decode cX6_load 122 = .ok (.invokevirtual 57, 3) := by decide +kernel
theorem dX6_load_125 : decode cX6_load 125 = .ok (.ireturn, 1) := by decide +kernel
theorem dX6_load_126 : decode cX6_load 126 = .ok (.aload_n 0, 1) := by decide +kernel
theorem dX6_load_127 : decode cX6_load 127 = .ok (.getfield 28, 3) := by decide +kernel
theorem dX6_load_130 : decode cX6_load 130 = .ok (.iload 4, 2) := by decide +kernel
theorem dX6_load_132 : decode cX6_load 132 = .ok (.dup2, 1) := by decide +kernel
theorem dX6_load_133 : decode cX6_load 133 = .ok (.iaload, 1) := by decide +kernel
theorem dX6_load_134 : decode cX6_load 134 = .ok (.iload_n 3, 1) := by decide +kernel
theorem dX6_load_135 : decode cX6_load 135 = .ok (.isub, 1) := by decide +kernel
theorem dX6_load_136 : decode cX6_load 136 = .ok (.iastore, 1) := by decide +kernel
theorem dX6_load_137 : decode cX6_load 137 = .ok (.aload_n 0, 1) := by decide +kernel
theorem dX6_load_138 : decode cX6_load 138 = .ok (.iload_n 1, 1) := by decide +kernel
theorem dX6_load_139 : decode cX6_load 139 = .ok (.bipush 8, 2) := by decide +kernel
theorem dX6_load_141 : decode cX6_load 141 = .ok (.iload_n 2, 1) := by decide +kernel
theorem dX6_load_142 : decode cX6_load 142 = .ok (.iadd, 1) := by decide +kernel
theorem dX6_load_143 : decode cX6_load 143 = .ok (.aload_n 0, 1) := by decide +kernel
theorem dX6_load_144 : decode cX6_load 144 = .ok (.iload_n 1, 1) := by decide +kernel
theorem dX6_load_145 : decode cX6_load 145 = .ok (.bipush 8, 2) := by decide +kernel
theorem dX6_load_147 : decode cX6_load 147 = .ok (.iload_n 2, 1) := by decide +kernel
theorem dX6_load_148 : decode cX6_load 148 = .ok (.iadd, 1) := by decide +kernel
theorem dX6_load_149 : decode cX6_load 149 = .ok (.invokevirtual 74, 3) := by decide +kernel
theorem dX6_load_152 : decode cX6_load 152 = .ok (.iload_n 3, 1) := by decide +kernel
theorem dX6_load_153 : decode cX6_load 153 = .ok (.iadd, 1) := by decide +kernel
theorem dX6_load_154 : decode cX6_load 154 = .ok (.invokevirtual 124, 3) := by decide +kernel
theorem dX6_load_157 : decode cX6_load 157 = .ok (.aload_n 0, 1) := by decide +kernel
theorem dX6_load_158 : decode cX6_load 158 = .ok (.iload_n 1, 1) := by decide +kernel
theorem dX6_load_159 : decode cX6_load 159 = .ok (.invokevirtual 103, 3) := by decide +kernel
theorem dX6_load_162 : decode cX6_load 162 = .ok (.ireturn, 1) := by decide +kernel
theorem dX6_way_0 : decode cX6_way 0 = .ok (.iconst 0, 1) := by decide +kernel
theorem dX6_way_1 : decode cX6_way 1 = .ok (.istore_n 3, 1) := by decide +kernel
theorem dX6_way_2 : decode cX6_way 2 = .ok (.iload_n 1, 1) := by decide +kernel
theorem dX6_way_3 : decode cX6_way 3 = .ok (.iload_n 2, 1) := by decide +kernel
theorem dX6_way_4 : decode cX6_way 4 = .ok (.invokestatic 68, 3) := by decide +kernel
theorem dX6_way_7 : decode cX6_way 7 = .ok (.istore 4, 2) := by decide +kernel
theorem dX6_way_9 : decode cX6_way 9 = .ok (.iload 4, 2) := by decide +kernel
theorem dX6_way_11 : decode cX6_way 11 = .ok (.iload_n 1, 1) := by decide +kernel
theorem dX6_way_12 : decode cX6_way 12 = .ok (.iload_n 2, 1) := by decide +kernel
theorem dX6_way_13 : decode cX6_way 13 = .ok (.invokestatic 128, 3) := by decide +kernel
theorem dX6_way_16 : decode cX6_way 16 = .ok (.if_icmp .ge 36, 3) := by decide +kernel
theorem dX6_way_19 : decode cX6_way 19 = .ok (.iload_n 3, 1) := by decide +kernel
theorem dX6_way_20 : decode cX6_way 20 = .ok (.iload_n 1, 1) := by decide +kernel
theorem dX6_way_21 : decode cX6_way 21 = .ok (.iload_n 2, 1) := by decide +kernel
theorem dX6_way_22 : decode cX6_way 22 = .ok (.if_icmp .ge 13, 3) := by decide +kernel
theorem dX6_way_25 : decode cX6_way 25 = .ok (.aload_n 0, 1) := by decide +kernel
theorem dX6_way_26 : decode cX6_way 26 = .ok (.getfield 13, 3) := by decide +kernel
theorem dX6_way_29 : decode cX6_way 29 = .ok (.iload 4, 2) := by decide +kernel
theorem dX6_way_31 : decode cX6_way 31 = .ok (.iaload, 1) := by decide +kernel
theorem dX6_way_32 : decode cX6_way 32 = .ok (.goto 12, 3) := by decide +kernel
theorem dX6_way_35 : decode cX6_way 35 = .ok (.iconst 2, 1) := by decide +kernel
theorem dX6_way_36 : decode cX6_way 36 = .ok (.aload_n 0, 1) := by decide +kernel
theorem dX6_way_37 : decode cX6_way 37 = .ok (.getfield 13, 3) := by decide +kernel
theorem dX6_way_40 : decode cX6_way 40 = .ok (.iload 4, 2) := by decide +kernel
theorem dX6_way_42 : decode cX6_way 42 = .ok (.iaload, 1) := by decide +kernel
theorem dX6_way_43 : decode cX6_way 43 = .ok (.imul, 1) := by decide +kernel
theorem dX6_way_44 : decode cX6_way 44 = .ok (.iadd, 1) := by decide +kernel
theorem dX6_way_45 : decode cX6_way 45 = .ok (.istore_n 3, 1) := by decide +kernel
theorem dX6_way_46 : decode cX6_way 46 = .ok (.iinc 4 1, 3) := by decide +kernel
theorem dX6_way_49 : decode cX6_way 49 = .ok (.goto (-40), 3) := by decide +kernel
theorem dX6_way_52 : decode cX6_way 52 = .ok (.iload_n 3, 1) := by decide +kernel
theorem dX6_way_53 : decode cX6_way 53 = .ok (.ireturn, 1) := by decide +kernel
theorem dX6_send_0 : decode cX6_send 0 = .ok (.aload_n 0, 1) := by decide +kernel
theorem dX6_send_1 : decode cX6_send 1 = .ok (.iconst 0, 1) := by decide +kernel
theorem dX6_send_2 : decode cX6_send 2 = .ok (.putfield 40, 3) := by decide +kernel
theorem dX6_send_5 : decode cX6_send 5 = .ok (.aload_n 0, 1) := by decide +kernel
theorem dX6_send_6 : decode cX6_send 6 = .ok (.iload_n 1, 1) := by decide +kernel
theorem dX6_send_7 : decode cX6_send 7 = .ok (.invokevirtual 121, 3) := by decide +kernel
theorem dX6_send_10 : decode cX6_send 10 = .ok (.ifCond .eq 11, 3) := by decide +kernel
theorem dX6_send_13 : decode cX6_send 13 = .ok (.aload_n 0, 1) := by decide +kernel
theorem dX6_send_14 : decode cX6_send 14 = .ok (.iload_n 2, 1) := by decide +kernel
theorem dX6_send_15 : decode cX6_send 15 = .ok (.invokevirtual 61, 3) := by decide +kernel
theorem dX6_send_18 : decode cX6_send 18 = .ok (.ifCond .ne 9, 3) := by decide +kernel
theorem dX6_send_21 : decode cX6_send 21 = .ok (.aload_n 0, 1) := by decide +kernel
theorem dX6_send_22 : decode cX6_send 22 = .ok (.iconst 1, 1) := by decide +kernel
theorem dX6_send_23 : decode cX6_send 23 = .ok (.invokevirtual 57, 3) := by decide +kernel
theorem dX6_send_26 : decode cX6_send 26 = .ok (.ireturn, 1) := by decide +kernel
theorem dX6_send_27 : decode cX6_send 27 = .ok (.aload_n 0, 1) := by decide +kernel
theorem dX6_send_28 : decode cX6_send 28 = .ok (.iload_n 1, 1) := by decide +kernel
theorem dX6_send_29 : decode cX6_send 29 = .ok (.iconst 3, 1) := by decide +kernel
theorem dX6_send_30 : decode cX6_send 30 = .ok (.invokevirtual 74, 3) := by decide +kernel
theorem dX6_send_33 : decode cX6_send 33 = .ok (.iconst 3, 1) := by decide +kernel
theorem dX6_send_34 : decode cX6_send 34 = .ok (.if_icmp .ne 9, 3) := by decide +kernel
theorem dX6_send_37 : decode cX6_send 37 = .ok (.aload_n 0, 1) := by decide +kernel
theorem dX6_send_38 : decode cX6_send 38 = .ok (.iconst 2, 1) := by decide +kernel
theorem dX6_send_39 : decode cX6_send 39 = .ok (.invokevirtual 57, 3) := by decide +kernel
theorem dX6_send_42 : decode cX6_send 42 = .ok (.ireturn, 1) := by decide +kernel
theorem dX6_send_43 : decode cX6_send 43 = .ok (.aload_n 0, 1) := by decide +kernel
theorem dX6_send_44 : decode cX6_send 44 = .ok (.iload_n 1, 1) := by decide +kernel
theorem dX6_send_45 : decode cX6_send 45 = .ok (.iconst 5, 1) := by decide +kernel
theorem dX6_send_46 : decode cX6_send 46 = .ok (.iload_n 2, 1) := by decide +kernel
theorem dX6_send_47 : decode cX6_send 47 = .ok (.invokevirtual 124, 3) := by decide +kernel
theorem dX6_send_50 : decode cX6_send 50 = .ok (.aload_n 0, 1) := by decide +kernel
theorem dX6_send_51 : decode cX6_send 51 = .ok (.iload_n 1, 1) := by decide +kernel
theorem dX6_send_52 : decode cX6_send 52 = .ok (.bipush 6, 2) := by decide +kernel
theorem dX6_send_54 : decode cX6_send 54 = .ok (.invokevirtual 74, 3) := by decide +kernel
theorem dX6_send_57 : decode cX6_send 57 = .ok (.aload_n 0, 1) := by decide +kernel
theorem dX6_send_58 : decode cX6_send 58 = .ok (.aload_n 0, 1) := by decide +kernel
theorem dX6_send_59 : decode cX6_send 59 = .ok (.iload_n 1, 1) := by decide +kernel
theorem dX6_send_60 : decode cX6_send 60 = .ok (.iconst 4, 1) := by decide +kernel
theorem dX6_send_61 : decode cX6_send 61 = .ok (.invokevirtual 74, 3) := by decide +kernel
theorem dX6_send_64 : decode cX6_send 64 = .ok (.iload_n 2, 1) := by decide +kernel
theorem dX6_send_65 : decode cX6_send 65 = .ok (.invokevirtual 131, 3) := by decide +kernel
theorem dX6_send_68 : decode cX6_send 68 = .ok (.iadd, 1) := by decide +kernel
theorem dX6_send_69 : decode cX6_send 69 = .ok (.ireturn, 1) := by decide +kernel
theorem dX6_berth_0 : decode cX6_berth 0 = .ok (.aload_n 0, 1) := by decide +kernel
theorem dX6_berth_1 : decode cX6_berth 1 = .ok (.iconst 0, 1) := by decide +kernel
theorem dX6_berth_2 : decode cX6_berth 2 = .ok (.putfield 40, 3) := by decide +kernel
theorem dX6_berth_5 : decode cX6_berth 5 = .ok (.aload_n 0, 1) := by decide +kernel
theorem dX6_berth_6 : decode cX6_berth 6 = .ok (.iload_n 1, 1) := by decide +kernel
theorem dX6_berth_7 : decode cX6_berth 7 = .ok (.invokevirtual 121, 3) := by decide +kernel
theorem dX6_berth_10 : decode cX6_berth 10 = .ok (.ifCond .ne 9, 3) := by decide +kernel
theorem dX6_berth_13 : decode cX6_berth 13 = .ok (.aload_n 0, 1) := by decide +kernel
theorem dX6_berth_14 : decode cX6_berth 14 = .ok (.iconst 1, 1) := by decide +kernel
theorem dX6_berth_15 : decode cX6_berth 15 = .ok (.invokevirtual 57, 3) := by decide +kernel
theorem dX6_berth_18 : decode cX6_berth 18 = .ok (.ireturn, 1) := by decide +kernel
theorem dX6_berth_19 : decode cX6_berth 19 = .ok (.aload_n 0, 1) := by decide +kernel
theorem dX6_berth_20 : decode cX6_berth 20 = .ok (.iload_n 1, 1) := by decide +kernel
theorem dX6_berth_21 : decode cX6_berth 21 = .ok (.iconst 4, 1) := by decide +kernel
theorem dX6_berth_22 : decode cX6_berth 22 = .ok (.invokevirtual 74, 3) := by decide +kernel
theorem dX6_berth_25 : decode cX6_berth 25 = .ok (.istore_n 3, 1) := by decide +kernel
theorem dX6_berth_26 : decode cX6_berth 26 = .ok (.aload_n 0, 1) := by decide +kernel
theorem dX6_berth_27 : decode cX6_berth 27 = .ok (.iload_n 1, 1) := by decide +kernel
theorem dX6_berth_28 : decode cX6_berth 28 = .ok (.invokevirtual 77, 3) := by decide +kernel
theorem dX6_berth_31 : decode cX6_berth 31 = .ok (.ifCond .eq 31, 3) := by decide +kernel
theorem dX6_berth_34 : decode cX6_berth 34 = .ok (.iload_n 2, 1) := by decide +kernel
theorem dX6_berth_35 : decode cX6_berth 35 = .ok (.ifCond .eq 33, 3) := by decide +kernel
theorem dX6_berth_38 : decode cX6_berth 38 = .ok (.aload_n 0, 1) := by decide +kernel
theorem dX6_berth_39 : decode cX6_berth 39 = .ok (.iload_n 1, 1) := by decide +kernel
theorem dX6_berth_40 : decode cX6_berth 40 = .ok (.iconst 3, 1) := by decide +kernel
theorem dX6_berth_41 : decode cX6_berth 41 = .ok (.invokevirtual 74, 3) := by decide +kernel
theorem dX6_berth_44 : decode cX6_berth 44 = .ok (.ifCond .ne 24, 3) := by decide +kernel
theorem dX6_berth_47 : decode cX6_berth 47 = .ok (.aload_n 0, 1) := by decide +kernel
theorem dX6_berth_48 : decode cX6_berth 48 = .ok (.iload_n 3, 1) := by decide +kernel
theorem dX6_berth_49 : decode cX6_berth 49 = .ok (.iconst 1, 1) := by decide +kernel
theorem dX6_berth_50 : decode cX6_berth 50 = .ok (.invokevirtual 80, 3) := by decide +kernel
theorem dX6_berth_53 : decode cX6_berth 53 = .ok (.aload_n 0, 1) := by decide +kernel
theorem dX6_berth_54 : decode cX6_berth 54 = .ok (.getfield 16, 3) := by decide +kernel
theorem dX6_berth_57 : decode cX6_berth 57 = .ok (.iload_n 3, 1) := by decide +kernel
theorem dX6_berth_58 : decode cX6_berth 58 = .ok (.iaload, 1) := by decide +kernel
theorem dX6_berth_59 : decode cX6_berth 59 = .ok (.if_icmp .ne 9, 3) := by decide +kernel
theorem dX6_berth_62 : decode cX6_berth 62 = .ok (.aload_n 0, 1) := by decide +kernel
theorem dX6_berth_63 : decode cX6_berth 63 = .ok (.iconst 2, 1) := by decide +kernel
theorem dX6_berth_64 : decode cX6_berth 64 = .ok (.invokevirtual 57, 3) := by decide +kernel
theorem dX6_berth_67 : decode cX6_berth 67 = .ok (.ireturn, 1) := by decide +kernel
theorem dX6_berth_68 : decode cX6_berth 68 = .ok (.aload_n 0, 1) := by decide +kernel
theorem dX6_berth_69 : decode cX6_berth 69 = .ok (.iload_n 1, 1) := by decide +kernel
theorem dX6_berth_70 : decode cX6_berth 70 = .ok (.iconst 3, 1) := by decide +kernel
theorem dX6_berth_71 : decode cX6_berth 71 = .ok (.iload_n 2, 1) := by decide +kernel
theorem dX6_berth_72 : decode cX6_berth 72 = .ok (.ifCond .eq 7, 3) := by decide +kernel
theorem dX6_berth_75 : decode cX6_berth 75 = .ok (.iconst 1, 1) := by decide +kernel
theorem dX6_berth_76 : decode cX6_berth 76 = .ok (.goto 4, 3) := by decide +kernel
theorem dX6_berth_79 : decode cX6_berth 79 = .ok (.iconst 0, 1) := by decide +kernel
theorem dX6_berth_80 : decode cX6_berth 80 = .ok (.invokevirtual 124, 3) := by decide +kernel
theorem dX6_berth_83 : decode cX6_berth 83 = .ok (.aload_n 0, 1) := by decide +kernel
theorem dX6_berth_84 : decode cX6_berth 84 = .ok (.getfield 16, 3) := by decide +kernel
theorem dX6_berth_87 : decode cX6_berth 87 = .ok (.iload_n 3, 1) := by decide +kernel
theorem dX6_berth_88 : decode cX6_berth 88 = .ok (.iaload, 1) := by decide +kernel
theorem dX6_berth_89 : decode cX6_berth 89 = .ok (.aload_n 0, 1) := by decide +kernel
theorem dX6_berth_90 : decode cX6_berth 90 = .ok (.iload_n 3, 1) := by decide +kernel
theorem dX6_berth_91 : decode cX6_berth 91 = .ok (.iconst 1, 1) := by decide +kernel
theorem dX6_berth_92 : decode cX6_berth 92 = .ok (.invokevirtual 80, 3) := by decide +kernel
theorem dX6_berth_95 : decode cX6_berth 95 = .ok (.isub, 1) := by decide +kernel
theorem dX6_berth_96 : decode cX6_berth 96 = .ok (.ireturn, 1) := by decide +kernel
theorem dX6_mend_0 : decode cX6_mend 0 = .ok (.aload_n 0, 1) := by decide +kernel
theorem dX6_mend_1 : decode cX6_mend 1 = .ok (.iconst 0, 1) := by decide +kernel
theorem dX6_mend_2 : decode cX6_mend 2 = .ok (.putfield 40, 3) := by decide +kernel
theorem dX6_mend_5 : decode cX6_mend 5 = .ok (.aload_n 0, 1) := by decide +kernel
theorem dX6_mend_6 : decode cX6_mend 6 = .ok (.iload_n 1, 1) := by decide +kernel
theorem dX6_mend_7 : decode cX6_mend 7 = .ok (.invokevirtual 121, 3) := by decide +kernel
theorem dX6_mend_10 : decode cX6_mend 10 = .ok (.ifCond .ne 9, 3) := by decide +kernel
theorem dX6_mend_13 : decode cX6_mend 13 = .ok (.aload_n 0, 1) := by decide +kernel
theorem dX6_mend_14 : decode cX6_mend 14 = .ok (.iconst 1, 1) := by decide +kernel
theorem dX6_mend_15 : decode cX6_mend 15 = .ok (.invokevirtual 57, 3) := by decide +kernel
theorem dX6_mend_18 : decode cX6_mend 18 = .ok (.ireturn, 1) := by decide +kernel
theorem dX6_mend_19 : decode cX6_mend 19 = .ok (.aload_n 0, 1) := by decide +kernel
theorem dX6_mend_20 : decode cX6_mend 20 = .ok (.iload_n 1, 1) := by decide +kernel
theorem dX6_mend_21 : decode cX6_mend 21 = .ok (.invokevirtual 77, 3) := by decide +kernel
theorem dX6_mend_24 : decode cX6_mend 24 = .ok (.ifCond .ne 9, 3) := by decide +kernel
theorem dX6_mend_27 : decode cX6_mend 27 = .ok (.aload_n 0, 1) := by decide +kernel
theorem dX6_mend_28 : decode cX6_mend 28 = .ok (.iconst 2, 1) := by decide +kernel
theorem dX6_mend_29 : decode cX6_mend 29 = .ok (.invokevirtual 57, 3) := by decide +kernel
theorem dX6_mend_32 : decode cX6_mend 32 = .ok (.ireturn, 1) := by decide +kernel
theorem dX6_mend_33 : decode cX6_mend 33 = .ok (.aload_n 0, 1) := by decide +kernel
theorem dX6_mend_34 : decode cX6_mend 34 = .ok (.iload_n 1, 1) := by decide +kernel
theorem dX6_mend_35 : decode cX6_mend 35 = .ok (.iconst 0, 1) := by decide +kernel
theorem dX6_mend_36 : decode cX6_mend 36 = .ok (.invokevirtual 74, 3) := by decide +kernel
theorem dX6_mend_39 : decode cX6_mend 39 = .ok (.istore_n 2, 1) := by decide +kernel
theorem dX6_mend_40 : decode cX6_mend 40 = .ok (.bipush 20, 2) := by decide +kernel
theorem dX6_mend_42 : decode cX6_mend 42 = .ok (.aload_n 0, 1) := by decide +kernel
theorem dX6_mend_43 : decode cX6_mend 43 = .ok (.iload_n 1, 1) := by decide +kernel
theorem dX6_mend_44 : decode cX6_mend 44 = .ok (.iconst 1, 1) := by decide +kernel
theorem dX6_mend_45 : decode cX6_mend 45 = .ok (.invokevirtual 74, 3) := by decide +kernel
theorem dX6_mend_48 : decode cX6_mend 48 = .ok (.isub, 1) := by decide +kernel
theorem dX6_mend_49 : decode cX6_mend 49 = .ok (.aload_n 0, 1) := by decide +kernel
theorem dX6_mend_50 : decode cX6_mend 50 = .ok (.getfield 25, 3) := by decide +kernel
theorem dX6_mend_53 : decode cX6_mend 53 = .ok (.iload_n 2, 1) := by decide +kernel
theorem dX6_mend_54 : decode cX6_mend 54 = .ok (.iaload, 1) := by decide +kernel
theorem dX6_mend_55 : decode cX6_mend 55 = .ok (.iconst 3, 1) := by decide +kernel
theorem dX6_mend_56 : decode cX6_mend 56 = .ok (.idiv, 1) := by decide +kernel
theorem dX6_mend_57 : decode cX6_mend 57 = .ok (.invokestatic 68, 3) := by decide +kernel
theorem dX6_mend_60 : decode cX6_mend 60 = .ok (.istore_n 3, 1) := by decide +kernel
theorem dX6_mend_61 : decode cX6_mend 61 = .ok (.aload_n 0, 1) := by decide +kernel
theorem dX6_mend_62 : decode cX6_mend 62 = .ok (.getfield 25, 3) := by decide +kernel
theorem dX6_mend_65 : decode cX6_mend 65 = .ok (.iload_n 2, 1) := by decide +kernel
theorem dX6_mend_66 : decode cX6_mend 66 = .ok (.dup2, 1) := by decide +kernel
theorem dX6_mend_67 : decode cX6_mend 67 = .ok (.iaload, 1) := by decide +kernel
theorem dX6_mend_68 : decode cX6_mend 68 = .ok (.iconst 3, 1) := by decide +kernel
theorem dX6_mend_69 : decode cX6_mend 69 = .ok (.iload_n 3, 1) := by decide +kernel
theorem dX6_mend_70 : decode cX6_mend 70 = .ok (.imul, 1) := by decide +kernel
theorem dX6_mend_71 : decode cX6_mend 71 = .ok (.isub, 1) := by decide +kernel
theorem dX6_mend_72 : decode cX6_mend 72 = .ok (.iastore, 1) := by decide +kernel
theorem dX6_mend_73 : decode cX6_mend 73 = .ok (.aload_n 0, 1) := by decide +kernel
theorem dX6_mend_74 : decode cX6_mend 74 = .ok (.iload_n 1, 1) := by decide +kernel
theorem dX6_mend_75 : decode cX6_mend 75 = .ok (.iconst 1, 1) := by decide +kernel
theorem dX6_mend_76 : decode cX6_mend 76 = .ok (.aload_n 0, 1) := by decide +kernel
theorem dX6_mend_77 : decode cX6_mend 77 = .ok (.iload_n 1, 1) := by decide +kernel
theorem dX6_mend_78 : decode cX6_mend 78 = .ok (.iconst 1, 1) := by decide +kernel
theorem dX6_mend_79 : decode cX6_mend 79 = .ok (.invokevirtual 74, 3) := by decide +kernel
theorem dX6_mend_82 : decode cX6_mend 82 = .ok (.iload_n 3, 1) := by decide +kernel
theorem dX6_mend_83 : decode cX6_mend 83 = .ok (.iadd, 1) := by decide +kernel
theorem dX6_mend_84 : decode cX6_mend 84 = .ok (.invokevirtual 124, 3) := by decide +kernel
theorem dX6_mend_87 : decode cX6_mend 87 = .ok (.aload_n 0, 1) := by decide +kernel
theorem dX6_mend_88 : decode cX6_mend 88 = .ok (.iload_n 1, 1) := by decide +kernel
theorem dX6_mend_89 : decode cX6_mend 89 = .ok (.iconst 1, 1) := by decide +kernel
theorem dX6_mend_90 : decode cX6_mend 90 = .ok (.invokevirtual 74, 3) := by decide +kernel
theorem dX6_mend_93 : decode cX6_mend 93 = .ok (.ireturn, 1) := by decide +kernel
theorem dX6_boatTold_0 : decode cX6_boatTold 0 = .ok (.iload_n 2, 1) := by decide +kernel
theorem dX6_boatTold_1 : decode cX6_boatTold 1 = .ok (.bipush 7, 2) := by decide +kernel
theorem dX6_boatTold_3 : decode cX6_boatTold 3 = .ok (.if_icmp .ge 12, 3) := by decide +kernel
theorem dX6_boatTold_6 : decode cX6_boatTold 6 = .ok (.aload_n 0, 1) := by decide +kernel
theorem dX6_boatTold_7 : decode cX6_boatTold 7 = .ok (.iload_n 1, 1) := by decide +kernel
theorem dX6_boatTold_8 : decode cX6_boatTold 8 = .ok (.iload_n 2, 1) := by decide +kernel
theorem dX6_boatTold_9 : decode cX6_boatTold 9 = .ok (.invokevirtual 74, 3) := by decide +kernel
theorem dX6_boatTold_12 : decode cX6_boatTold 12 = .ok (.goto 29, 3) := by decide +kernel
theorem dX6_boatTold_15 : decode cX6_boatTold 15 = .ok (.iload_n 2, 1) := by decide +kernel
theorem dX6_boatTold_16 : decode cX6_boatTold 16 = .ok (.bipush 7, 2) := by decide +kernel
theorem dX6_boatTold_18 : decode cX6_boatTold 18 = .ok (.if_icmp .ne 11, 3) := by decide +kernel
theorem dX6_boatTold_21 : decode cX6_boatTold 21 = .ok (.aload_n 0, 1) := by decide +kernel
theorem dX6_boatTold_22 : decode cX6_boatTold 22 = .ok (.iload_n 1, 1) := by decide +kernel
theorem dX6_boatTold_23 : decode cX6_boatTold 23 = .ok (.invokevirtual 103, 3) := by decide +kernel
theorem dX6_boatTold_26 : decode cX6_boatTold 26 = .ok (.goto 15, 3) := by decide +kernel
theorem dX6_boatTold_29 : decode cX6_boatTold 29 = .ok (.aload_n 0, 1) := by decide +kernel
theorem dX6_boatTold_30 : decode cX6_boatTold 30 = .ok (.iload_n 1, 1) := by decide +kernel
theorem dX6_boatTold_31 : decode cX6_boatTold 31 = .ok (.iload_n 2, 1) := by decide +kernel
theorem dX6_boatTold_32 : decode cX6_boatTold 32 = .ok (.bipush 8, 2) := by decide +kernel
theorem dX6_boatTold_34 : decode cX6_boatTold 34 = .ok (.isub, 1) := by decide +kernel
theorem dX6_boatTold_35 : decode cX6_boatTold 35 = .ok (.bipush 8, 2) := by decide +kernel
theorem dX6_boatTold_37 : decode cX6_boatTold 37 = .ok (.iadd, 1) := by decide +kernel
theorem dX6_boatTold_38 : decode cX6_boatTold 38 = .ok (.invokevirtual 74, 3) := by decide +kernel
theorem dX6_boatTold_41 : decode cX6_boatTold 41 = .ok (.ireturn, 1) := by decide +kernel
theorem dX6_boat_0 : decode cX6_boat 0 = .ok (.aload_n 0, 1) := by decide +kernel
theorem dX6_boat_1 : decode cX6_boat 1 = .ok (.iconst 0, 1) := by decide +kernel
theorem dX6_boat_2 : decode cX6_boat 2 = .ok (.putfield 40, 3) := by decide +kernel
theorem dX6_boat_5 : decode cX6_boat 5 = .ok (.aload_n 0, 1) := by decide +kernel
theorem dX6_boat_6 : decode cX6_boat 6 = .ok (.iload_n 1, 1) := by decide +kernel
theorem dX6_boat_7 : decode cX6_boat 7 = .ok (.invokevirtual 121, 3) := by decide +kernel
theorem dX6_boat_10 : decode cX6_boat 10 = .ok (.ifCond .eq 22, 3) := by decide +kernel
theorem dX6_boat_13 : decode cX6_boat 13 = .ok (.iload_n 2, 1) := by decide +kernel
theorem dX6_boat_14 : decode cX6_boat 14 = .ok (.iconst 0, 1) := by decide +kernel
theorem dX6_boat_15 : decode cX6_boat 15 = .ok (.bipush 11, 2) := by decide +kernel
theorem dX6_boat_17 : decode cX6_boat 17 = .ok (.invokestatic 47, 3) := by decide +kernel
theorem dX6_boat_20 : decode cX6_boat 20 = .ok (.ifCond .eq 12, 3) := by decide +kernel
theorem dX6_boat_23 : decode cX6_boat 23 = .ok (.aload_n 0, 1) := by decide +kernel
theorem dX6_boat_24 : decode cX6_boat 24 = .ok (.iload_n 1, 1) := by decide +kernel
theorem dX6_boat_25 : decode cX6_boat 25 = .ok (.iload_n 2, 1) := by decide +kernel
theorem dX6_boat_26 : decode cX6_boat 26 = .ok (.invokevirtual 134, 3) := by decide +kernel
theorem dX6_boat_29 : decode cX6_boat 29 = .ok (.goto 8, 3) := by decide +kernel
theorem dX6_boat_32 : decode cX6_boat 32 = .ok (.aload_n 0, 1) := by decide +kernel
theorem dX6_boat_33 : decode cX6_boat 33 = .ok (.iconst 1, 1) := by decide +kernel
theorem dX6_boat_34 : decode cX6_boat 34 = .ok (.invokevirtual 57, 3) := by decide +kernel
theorem dX6_boat_37 : decode cX6_boat 37 = .ok (.ireturn, 1) := by decide +kernel
theorem dX6_lend_0 : decode cX6_lend 0 = .ok (.aload_n 0, 1) := by decide +kernel
theorem dX6_lend_1 : decode cX6_lend 1 = .ok (.iconst 0, 1) := by decide +kernel
theorem dX6_lend_2 : decode cX6_lend 2 = .ok (.putfield 40, 3) := by decide +kernel
theorem dX6_lend_5 : decode cX6_lend 5 = .ok (.aload_n 0, 1) := by decide +kernel
theorem dX6_lend_6 : decode cX6_lend 6 = .ok (.iload_n 1, 1) := by decide +kernel
theorem dX6_lend_7 : decode cX6_lend 7 = .ok (.invokevirtual 96, 3) := by decide +kernel
theorem dX6_lend_10 : decode cX6_lend 10 = .ok (.ifCond .eq 27, 3) := by decide +kernel
theorem dX6_lend_13 : decode cX6_lend 13 = .ok (.aload_n 0, 1) := by decide +kernel
theorem dX6_lend_14 : decode cX6_lend 14 = .ok (.iload_n 2, 1) := by decide +kernel
theorem dX6_lend_15 : decode cX6_lend 15 = .ok (.invokevirtual 96, 3) := by decide +kernel
theorem dX6_lend_18 : decode cX6_lend 18 = .ok (.ifCond .eq 19, 3) := by decide +kernel
theorem dX6_lend_21 : decode cX6_lend 21 = .ok (.aload_n 0, 1) := by decide +kernel
theorem dX6_lend_22 : decode cX6_lend 22 = .ok (.iload_n 3, 1) := by decide +kernel
theorem dX6_lend_23 : decode cX6_lend 23 = .ok (.invokevirtual 61, 3) := by decide +kernel
theorem dX6_lend_26 : decode cX6_lend 26 = .ok (.ifCond .eq 11, 3) := by decide +kernel
theorem dX6_lend_29 : decode cX6_lend 29 = .ok (.iload 4, 2) := by decide +kernel
theorem dX6_lend_31 : decode cX6_lend 31 = .ok (.invokestatic 65, 3) := by decide +kernel
theorem dX6_lend_34 : decode cX6_lend 34 = .ok (.ifCond .ne 9, 3) := by decide +kernel
theorem dX6_lend_37 : decode cX6_lend 37 = .ok (.aload_n 0, 1) := by decide +kernel
theorem dX6_lend_38 : decode cX6_lend 38 = .ok (.iconst 1, 1) := by decide +kernel
theorem dX6_lend_39 : decode cX6_lend 39 = .ok (.invokevirtual 57, 3) := by decide +kernel
theorem dX6_lend_42 : decode cX6_lend 42 = .ok (.ireturn, 1) := by decide +kernel
theorem dX6_lend_43 : decode cX6_lend 43 = .ok (.iload_n 1, 1) := by decide +kernel
theorem dX6_lend_44 : decode cX6_lend 44 = .ok (.iload_n 2, 1) := by decide +kernel
theorem dX6_lend_45 : decode cX6_lend 45 = .ok (.if_icmp .eq 20, 3) := by decide +kernel
theorem dX6_lend_48 : decode cX6_lend 48 = .ok (.iload 5, 2) := by decide +kernel
theorem dX6_lend_50 : decode cX6_lend 50 = .ok (.iconst 1, 1) := by decide +kernel
theorem dX6_lend_51 : decode cX6_lend 51 = .ok (.if_icmp .lt 14, 3) := by decide +kernel
theorem dX6_lend_54 : decode cX6_lend 54 = .ok (.iload 6, 2) := by decide +kernel
theorem dX6_lend_56 : decode cX6_lend 56 = .ok (.aload_n 0, 1) := by decide +kernel
theorem dX6_lend_57 : decode cX6_lend 57 = .ok (.getfield 37, 3) := by decide +kernel
theorem dX6_lend_60 : decode cX6_lend 60 = .ok (.iconst 0, 1) := by decide +kernel
theorem dX6_lend_61 : decode cX6_lend 61 = .ok (.iaload, 1) := by decide +kernel
theorem dX6_lend_62 : decode cX6_lend 62 = .ok (.if_icmp .ge 9, 3) := by decide +kernel
theorem dX6_lend_65 : decode cX6_lend 65 = .ok (.aload_n 0, 1) := by decide +kernel
theorem dX6_lend_66 : decode cX6_lend 66 = .ok (.iconst 2, 1) := by decide +kernel
theorem dX6_lend_67 : decode cX6_lend 67 = .ok (.invokevirtual 57, 3) := by decide +kernel
theorem dX6_lend_70 : decode cX6_lend 70 = .ok (.ireturn, 1) := by decide +kernel
theorem dX6_lend_71 : decode cX6_lend 71 = .ok (.aload_n 0, 1) := by decide +kernel
theorem dX6_lend_72 : decode cX6_lend 72 = .ok (.getfield 106, 3) := by decide +kernel
theorem dX6_lend_75 : decode cX6_lend 75 = .ok (.bipush 30, 2) := by decide +kernel
theorem dX6_lend_77 : decode cX6_lend 77 = .ok (.if_icmp .eq 20, 3) := by decide +kernel
theorem dX6_lend_80 : decode cX6_lend 80 = .ok (.aload_n 0, 1) := by decide +kernel
theorem dX6_lend_81 : decode cX6_lend 81 = .ok (.getfield 28, 3) := by decide +kernel
theorem dX6_lend_84 : decode cX6_lend 84 = .ok (.iload_n 1, 1) := by decide +kernel
theorem dX6_lend_85 : decode cX6_lend 85 = .ok (.iload_n 3, 1) := by decide +kernel
theorem dX6_lend_86 : decode cX6_lend 86 = .ok (.iload 4, 2) := by decide +kernel
theorem dX6_lend_88 : decode cX6_lend 88 = .ok (.invokestatic 99, 3) := by decide +kernel
theorem dX6_lend_91 : decode cX6_lend 91 = .ok (.iaload, 1) := by decide +kernel
theorem dX6_lend_92 : decode cX6_lend 92 = .ok (.iload 5, 2) := by decide +kernel
theorem dX6_lend_94 : decode cX6_lend 94 = .ok (.if_icmp .ge 9, 3) := by decide +kernel
theorem dX6_lend_97 : decode cX6_lend 97 = .ok (.aload_n 0, 1) := by decide +kernel
theorem dX6_lend_98 : decode cX6_lend 98 = .ok (.iconst 3, 1) := by decide +kernel
theorem dX6_lend_99 : decode cX6_lend 99 = .ok (.invokevirtual 57, 3) := by decide +kernel
theorem dX6_lend_102 : decode cX6_lend 102 = .ok (.ireturn, 1) := by decide +kernel
theorem dX6_lend_103 : decode cX6_lend 103 = .ok (.aload_n 0, 1) := by decide +kernel
theorem dX6_lend_104 : decode cX6_lend 104 = .ok (.getfield 28, 3) := by decide +kernel
theorem dX6_lend_107 : decode cX6_lend 107 = .ok (.iload_n 1, 1) := by decide +kernel
theorem dX6_lend_108 : decode cX6_lend 108 = .ok (.iload_n 3, 1) := by decide +kernel
theorem dX6_lend_109 : decode cX6_lend 109 = .ok (.iload 4, 2) := by decide +kernel
theorem dX6_lend_111 : decode cX6_lend 111 = .ok (.invokestatic 99, 3) := by decide +kernel
theorem dX6_lend_114 : decode cX6_lend 114 = .ok (.dup2, 1) := by decide +kernel
theorem dX6_lend_115 : decode cX6_lend 115 = .ok (.iaload, 1) := by decide +kernel
theorem dX6_lend_116 : decode cX6_lend 116 = .ok (.iload 5, 2) := by decide +kernel
theorem dX6_lend_118 : decode cX6_lend 118 = .ok (.isub, 1) := by decide +kernel
theorem dX6_lend_119 : decode cX6_lend 119 = .ok (.iastore, 1) := by decide +kernel
theorem dX6_lend_120 : decode cX6_lend 120 = .ok (.aload_n 0, 1) := by decide +kernel
theorem dX6_lend_121 : decode cX6_lend 121 = .ok (.getfield 28, 3) := by decide +kernel
theorem dX6_lend_124 : decode cX6_lend 124 = .ok (.iload_n 2, 1) := by decide +kernel
theorem dX6_lend_125 : decode cX6_lend 125 = .ok (.iload_n 3, 1) := by decide +kernel
theorem dX6_lend_126 : decode cX6_lend 126 = .ok (.iload 4, 2) := by decide +kernel
theorem dX6_lend_128 : decode cX6_lend 128 = .ok (.invokestatic 99, 3) := by decide +kernel
theorem dX6_lend_131 : decode cX6_lend 131 = .ok (.dup2, 1) := by decide +kernel
theorem dX6_lend_132 : decode cX6_lend 132 = .ok (.iaload, 1) := by decide +kernel
theorem dX6_lend_133 : decode cX6_lend 133 = .ok (.iload 5, 2) := by decide +kernel
theorem dX6_lend_135 : decode cX6_lend 135 = .ok (.iadd, 1) := by decide +kernel
theorem dX6_lend_136 : decode cX6_lend 136 = .ok (.iastore, 1) := by decide +kernel
theorem dX6_lend_137 : decode cX6_lend 137 = .ok (.bipush 7, 2) := by decide +kernel
theorem dX6_lend_139 : decode cX6_lend 139 = .ok (.newarray .int, 2) := by decide +kernel
theorem dX6_lend_141 : decode cX6_lend 141 = .ok (.dup, 1) := by decide +kernel
theorem dX6_lend_142 : decode cX6_lend 142 = .ok (.iconst 0, 1) := by decide +kernel
theorem dX6_lend_143 : decode cX6_lend 143 = .ok (.iload_n 1, 1) := by decide +kernel
theorem dX6_lend_144 : decode cX6_lend 144 = .ok (.iastore, 1) := by decide +kernel
theorem dX6_lend_145 : decode cX6_lend 145 = .ok (.dup, 1) := by decide +kernel
theorem dX6_lend_146 : decode cX6_lend 146 = .ok (.iconst 1, 1) := by decide +kernel
theorem dX6_lend_147 : decode cX6_lend 147 = .ok (.iload_n 2, 1) := by decide +kernel
theorem dX6_lend_148 : decode cX6_lend 148 = .ok (.iastore, 1) := by decide +kernel
theorem dX6_lend_149 : decode cX6_lend 149 = .ok (.dup, 1) := by decide +kernel
theorem dX6_lend_150 : decode cX6_lend 150 = .ok (.iconst 2, 1) := by decide +kernel
theorem dX6_lend_151 : decode cX6_lend 151 = .ok (.iload_n 3, 1) := by decide +kernel
theorem dX6_lend_152 : decode cX6_lend 152 = .ok (.iastore, 1) := by decide +kernel
theorem dX6_lend_153 : decode cX6_lend 153 = .ok (.dup, 1) := by decide +kernel
theorem dX6_lend_154 : decode cX6_lend 154 = .ok (.iconst 3, 1) := by decide +kernel
theorem dX6_lend_155 : decode cX6_lend 155 = .ok (.iload 4, 2) := by decide +kernel
theorem dX6_lend_157 : decode cX6_lend 157 = .ok (.iastore, 1) := by decide +kernel
theorem dX6_lend_158 : decode cX6_lend 158 = .ok (.dup, 1) := by decide +kernel
theorem dX6_lend_159 : decode cX6_lend 159 = .ok (.iconst 4, 1) := by decide +kernel
theorem dX6_lend_160 : decode cX6_lend 160 = .ok (.iload 5, 2) := by decide +kernel
theorem dX6_lend_162 : decode cX6_lend 162 = .ok (.iload 5, 2) := by decide +kernel
theorem dX6_lend_164 : decode cX6_lend 164 = .ok (.bipush 10, 2) := by decide +kernel
theorem dX6_lend_166 : decode cX6_lend 166 = .ok (.idiv, 1) := by decide +kernel
theorem dX6_lend_167 : decode cX6_lend 167 = .ok (.iadd, 1) := by decide +kernel
theorem dX6_lend_168 : decode cX6_lend 168 = .ok (.iastore, 1) := by decide +kernel
theorem dX6_lend_169 : decode cX6_lend 169 = .ok (.dup, 1) := by decide +kernel
theorem dX6_lend_170 : decode cX6_lend 170 = .ok (.iconst 5, 1) := by decide +kernel
theorem dX6_lend_171 : decode cX6_lend 171 = .ok (.iload 6, 2) := by decide +kernel
theorem dX6_lend_173 : decode cX6_lend 173 = .ok (.iastore, 1) := by decide +kernel
theorem dX6_lend_174 : decode cX6_lend 174 = .ok (.dup, 1) := by decide +kernel
theorem dX6_lend_175 : decode cX6_lend 175 = .ok (.bipush 6, 2) := by decide +kernel
theorem dX6_lend_177 : decode cX6_lend 177 = .ok (.iconst 0, 1) := by decide +kernel
theorem dX6_lend_178 : decode cX6_lend 178 = .ok (.iastore, 1) := by decide +kernel
theorem dX6_lend_179 : decode cX6_lend 179 = .ok (.astore 7, 2) := by decide +kernel
theorem dX6_lend_181 : decode cX6_lend 181 = .ok (.aload 7, 2) := by decide +kernel
theorem dX6_lend_183 : decode cX6_lend 183 = .ok (.iconst 0, 1) := by decide +kernel
theorem dX6_lend_184 : decode cX6_lend 184 = .ok (.aload_n 0, 1) := by decide +kernel
theorem dX6_lend_185 : decode cX6_lend 185 = .ok (.getfield 34, 3) := by decide +kernel
theorem dX6_lend_188 : decode cX6_lend 188 = .ok (.bipush 7, 2) := by decide +kernel
theorem dX6_lend_190 : decode cX6_lend 190 = .ok (.aload_n 0, 1) := by decide +kernel
theorem dX6_lend_191 : decode cX6_lend 191 = .ok (.getfield 106, 3) := by decide +kernel
theorem dX6_lend_194 : decode cX6_lend 194 = .ok (.imul, 1) := by decide +kernel
theorem dX6_lend_195 : decode cX6_lend 195 = .ok (.bipush 7, 2) := by decide +kernel
theorem dX6_lend_197 : decode cX6_lend 197 = .ok (.invokestatic 115, 3) := by decide +kernel
theorem dX6_lend_200 : decode cX6_lend 200 = .ok (.aload_n 0, 1) := by decide +kernel
theorem dX6_lend_201 : decode cX6_lend 201 = .ok (.dup, 1) := by decide +kernel
theorem dX6_lend_202 : decode cX6_lend 202 = .ok (.getfield 106, 3) := by decide +kernel
theorem dX6_lend_205 : decode cX6_lend 205 = .ok (.iconst 1, 1) := by decide +kernel
theorem dX6_lend_206 : decode cX6_lend 206 = .ok (.iadd, 1) := by decide +kernel
theorem dX6_lend_207 : decode cX6_lend 207 = .ok (.putfield 106, 3) := by decide +kernel
theorem dX6_lend_210 : decode cX6_lend 210 = .ok (.aload_n 0, 1) := by decide +kernel
theorem dX6_lend_211 : decode cX6_lend 211 = .ok (.getfield 106, 3) := by decide +kernel
theorem dX6_lend_214 : decode cX6_lend 214 = .ok (.iconst 1, 1) := by decide +kernel
theorem dX6_lend_215 : decode cX6_lend 215 = .ok (.isub, 1) := by decide +kernel
theorem dX6_lend_216 : decode cX6_lend 216 = .ok (.ireturn, 1) := by decide +kernel
theorem dX6_pays_0 : decode cX6_pays 0 = .ok (.aload_n 0, 1) := by decide +kernel
theorem dX6_pays_1 : decode cX6_pays 1 = .ok (.iload_n 1, 1) := by decide +kernel
theorem dX6_pays_2 : decode cX6_pays 2 = .ok (.iconst 1, 1) := by decide +kernel
theorem dX6_pays_3 : decode cX6_pays 3 = .ok (.invokevirtual 109, 3) := by decide +kernel
theorem dX6_pays_6 : decode cX6_pays 6 = .ok (.iload_n 2, 1) := by decide +kernel
theorem dX6_pays_7 : decode cX6_pays 7 = .ok (.aload_n 0, 1) := by decide +kernel
theorem dX6_pays_8 : decode cX6_pays 8 = .ok (.iload_n 1, 1) := by decide +kernel
theorem dX6_pays_9 : decode cX6_pays 9 = .ok (.iconst 3, 1) := by decide +kernel
theorem dX6_pays_10 : decode cX6_pays 10 = .ok (.invokevirtual 109, 3) := by decide +kernel
theorem dX6_pays_13 : decode cX6_pays 13 = .ok (.invokestatic 99, 3) := by decide +kernel
theorem dX6_pays_16 : decode cX6_pays 16 = .ok (.istore_n 3, 1) := by decide +kernel
theorem dX6_pays_17 : decode cX6_pays 17 = .ok (.aload_n 0, 1) := by decide +kernel
theorem dX6_pays_18 : decode cX6_pays 18 = .ok (.getfield 28, 3) := by decide +kernel
theorem dX6_pays_21 : decode cX6_pays 21 = .ok (.iload_n 3, 1) := by decide +kernel
theorem dX6_pays_22 : decode cX6_pays 22 = .ok (.iaload, 1) := by decide +kernel
theorem dX6_pays_23 : decode cX6_pays 23 = .ok (.aload_n 0, 1) := by decide +kernel
theorem dX6_pays_24 : decode cX6_pays 24 = .ok (.iload_n 1, 1) := by decide +kernel
theorem dX6_pays_25 : decode cX6_pays 25 = .ok (.iconst 4, 1) := by decide +kernel
theorem dX6_pays_26 : decode cX6_pays 26 = .ok (.invokevirtual 109, 3) := by decide +kernel
theorem dX6_pays_29 : decode cX6_pays 29 = .ok (.if_icmp .ge 5, 3) := by decide +kernel
theorem dX6_pays_32 : decode cX6_pays 32 = .ok (.iconst 0, 1) := by decide +kernel
theorem dX6_pays_33 : decode cX6_pays 33 = .ok (.ireturn, 1) := by decide +kernel
theorem dX6_pays_34 : decode cX6_pays 34 = .ok (.aload_n 0, 1) := by decide +kernel
theorem dX6_pays_35 : decode cX6_pays 35 = .ok (.getfield 28, 3) := by decide +kernel
theorem dX6_pays_38 : decode cX6_pays 38 = .ok (.iload_n 3, 1) := by decide +kernel
theorem dX6_pays_39 : decode cX6_pays 39 = .ok (.dup2, 1) := by decide +kernel
theorem dX6_pays_40 : decode cX6_pays 40 = .ok (.iaload, 1) := by decide +kernel
theorem dX6_pays_41 : decode cX6_pays 41 = .ok (.aload_n 0, 1) := by decide +kernel
theorem dX6_pays_42 : decode cX6_pays 42 = .ok (.iload_n 1, 1) := by decide +kernel
theorem dX6_pays_43 : decode cX6_pays 43 = .ok (.iconst 4, 1) := by decide +kernel
theorem dX6_pays_44 : decode cX6_pays 44 = .ok (.invokevirtual 109, 3) := by decide +kernel
theorem dX6_pays_47 : decode cX6_pays 47 = .ok (.isub, 1) := by decide +kernel
theorem dX6_pays_48 : decode cX6_pays 48 = .ok (.iastore, 1) := by decide +kernel
theorem dX6_pays_49 : decode cX6_pays 49 = .ok (.aload_n 0, 1) := by decide +kernel
theorem dX6_pays_50 : decode cX6_pays 50 = .ok (.getfield 28, 3) := by decide +kernel
theorem dX6_pays_53 : decode cX6_pays 53 = .ok (.aload_n 0, 1) := by decide +kernel
theorem dX6_pays_54 : decode cX6_pays 54 = .ok (.iload_n 1, 1) := by decide +kernel
theorem dX6_pays_55 : decode cX6_pays 55 = .ok (.iconst 0, 1) := by decide +kernel
theorem dX6_pays_56 : decode cX6_pays 56 = .ok (.invokevirtual 109, 3) := by decide +kernel
theorem dX6_pays_59 : decode cX6_pays 59 = .ok (.iload_n 2, 1) := by decide +kernel
theorem dX6_pays_60 : decode cX6_pays 60 = .ok (.aload_n 0, 1) := by decide +kernel
theorem dX6_pays_61 : decode cX6_pays 61 = .ok (.iload_n 1, 1) := by decide +kernel
theorem dX6_pays_62 : decode cX6_pays 62 = .ok (.iconst 3, 1) := by decide +kernel
theorem dX6_pays_63 : decode cX6_pays 63 = .ok (.invokevirtual 109, 3) := by decide +kernel
theorem dX6_pays_66 : decode cX6_pays 66 = .ok (.invokestatic 99, 3) := by decide +kernel
theorem dX6_pays_69 : decode cX6_pays 69 = .ok (.dup2, 1) := by decide +kernel
theorem dX6_pays_70 : decode cX6_pays 70 = .ok (.iaload, 1) := by decide +kernel
theorem dX6_pays_71 : decode cX6_pays 71 = .ok (.aload_n 0, 1) := by decide +kernel
theorem dX6_pays_72 : decode cX6_pays 72 = .ok (.iload_n 1, 1) := by decide +kernel
theorem dX6_pays_73 : decode cX6_pays 73 = .ok (.iconst 4, 1) := by decide +kernel
theorem dX6_pays_74 : decode cX6_pays 74 = .ok (.invokevirtual 109, 3) := by decide +kernel
theorem dX6_pays_77 : decode cX6_pays 77 = .ok (.iadd, 1) := by decide +kernel
theorem dX6_pays_78 : decode cX6_pays 78 = .ok (.iastore, 1) := by decide +kernel
theorem dX6_pays_79 : decode cX6_pays 79 = .ok (.aload_n 0, 1) := by decide +kernel
theorem dX6_pays_80 : decode cX6_pays 80 = .ok (.getfield 34, 3) := by decide +kernel
theorem dX6_pays_83 : decode cX6_pays 83 = .ok (.bipush 7, 2) := by decide +kernel
theorem dX6_pays_85 : decode cX6_pays 85 = .ok (.iload_n 1, 1) := by decide +kernel
theorem dX6_pays_86 : decode cX6_pays 86 = .ok (.imul, 1) := by decide +kernel
theorem dX6_pays_87 : decode cX6_pays 87 = .ok (.bipush 6, 2) := by decide +kernel
theorem dX6_pays_89 : decode cX6_pays 89 = .ok (.iadd, 1) := by decide +kernel
theorem dX6_pays_90 : decode cX6_pays 90 = .ok (.iconst 1, 1) := by decide +kernel
theorem dX6_pays_91 : decode cX6_pays 91 = .ok (.iastore, 1) := by decide +kernel
theorem dX6_pays_92 : decode cX6_pays 92 = .ok (.iconst 1, 1) := by decide +kernel
theorem dX6_pays_93 : decode cX6_pays 93 = .ok (.ireturn, 1) := by decide +kernel
theorem dX6_repay_0 : decode cX6_repay 0 = .ok (.aload_n 0, 1) := by decide +kernel
theorem dX6_repay_1 : decode cX6_repay 1 = .ok (.iconst 0, 1) := by decide +kernel
theorem dX6_repay_2 : decode cX6_repay 2 = .ok (.putfield 40, 3) := by decide +kernel
theorem dX6_repay_5 : decode cX6_repay 5 = .ok (.iload_n 1, 1) := by decide +kernel
theorem dX6_repay_6 : decode cX6_repay 6 = .ok (.iconst 0, 1) := by decide +kernel
theorem dX6_repay_7 : decode cX6_repay 7 = .ok (.aload_n 0, 1) := by decide +kernel
theorem dX6_repay_8 : decode cX6_repay 8 = .ok (.getfield 106, 3) := by decide +kernel
theorem dX6_repay_11 : decode cX6_repay 11 = .ok (.iconst 1, 1) := by decide +kernel
theorem dX6_repay_12 : decode cX6_repay 12 = .ok (.isub, 1) := by decide +kernel
theorem dX6_repay_13 : decode cX6_repay 13 = .ok (.invokestatic 47, 3) := by decide +kernel
theorem dX6_repay_16 : decode cX6_repay 16 = .ok (.ifCond .eq 11, 3) := by decide +kernel
theorem dX6_repay_19 : decode cX6_repay 19 = .ok (.aload_n 0, 1) := by decide +kernel
theorem dX6_repay_20 : decode cX6_repay 20 = .ok (.iload_n 2, 1) := by decide +kernel
theorem dX6_repay_21 : decode cX6_repay 21 = .ok (.invokevirtual 61, 3) := by decide +kernel
theorem dX6_repay_24 : decode cX6_repay 24 = .ok (.ifCond .ne 9, 3) := by decide +kernel
theorem dX6_repay_27 : decode cX6_repay 27 = .ok (.aload_n 0, 1) := by decide +kernel
theorem dX6_repay_28 : decode cX6_repay 28 = .ok (.iconst 1, 1) := by decide +kernel
theorem dX6_repay_29 : decode cX6_repay 29 = .ok (.invokevirtual 57, 3) := by decide +kernel
theorem dX6_repay_32 : decode cX6_repay 32 = .ok (.ireturn, 1) := by decide +kernel
theorem dX6_repay_33 : decode cX6_repay 33 = .ok (.aload_n 0, 1) := by decide +kernel
theorem dX6_repay_34 : decode cX6_repay 34 = .ok (.iload_n 1, 1) := by decide +kernel
theorem dX6_repay_35 : decode cX6_repay 35 = .ok (.bipush 6, 2) := by decide +kernel
theorem dX6_repay_37 : decode cX6_repay 37 = .ok (.invokevirtual 109, 3) := by decide +kernel
theorem dX6_repay_40 : decode cX6_repay 40 = .ok (.ifCond .ne 21, 3) := by decide +kernel
theorem dX6_repay_43 : decode cX6_repay 43 = .ok (.aload_n 0, 1) := by decide +kernel
theorem dX6_repay_44 : decode cX6_repay 44 = .ok (.iload_n 1, 1) := by decide +kernel
theorem dX6_repay_45 : decode cX6_repay 45 = .ok (.iload_n 2, 1) := by decide +kernel
theorem dX6_repay_46 : decode cX6_repay 46 = .ok (.invokevirtual 137, 3) := by decide +kernel
theorem dX6_repay_49 : decode cX6_repay 49 = .ok (.ifCond .eq 12, 3) := by decide +kernel
theorem dX6_repay_52 : decode cX6_repay 52 = .ok (.aload_n 0, 1) := by decide +kernel
theorem dX6_repay_53 : decode cX6_repay 53 = .ok (.iload_n 1, 1) := by decide +kernel
theorem dX6_repay_54 : decode cX6_repay 54 = .ok (.iconst 4, 1) := by decide +kernel
theorem dX6_repay_55 : decode cX6_repay 55 = .ok (.invokevirtual 109, 3) := by decide +kernel
theorem dX6_repay_58 : decode cX6_repay 58 = .ok (.goto 8, 3) := by decide +kernel
theorem dX6_repay_61 : decode cX6_repay 61 = .ok (.aload_n 0, 1) := by decide +kernel
theorem dX6_repay_62 : decode cX6_repay 62 = .ok (.iconst 2, 1) := by decide +kernel
theorem dX6_repay_63 : decode cX6_repay 63 = .ok (.invokevirtual 57, 3) := by decide +kernel
theorem dX6_repay_66 : decode cX6_repay 66 = .ok (.ireturn, 1) := by decide +kernel
theorem dX6_debt_0 : decode cX6_debt 0 = .ok (.aload_n 0, 1) := by decide +kernel
theorem dX6_debt_1 : decode cX6_debt 1 = .ok (.iconst 0, 1) := by decide +kernel
theorem dX6_debt_2 : decode cX6_debt 2 = .ok (.putfield 40, 3) := by decide +kernel
theorem dX6_debt_5 : decode cX6_debt 5 = .ok (.iload_n 1, 1) := by decide +kernel
theorem dX6_debt_6 : decode cX6_debt 6 = .ok (.iconst 0, 1) := by decide +kernel
theorem dX6_debt_7 : decode cX6_debt 7 = .ok (.aload_n 0, 1) := by decide +kernel
theorem dX6_debt_8 : decode cX6_debt 8 = .ok (.getfield 106, 3) := by decide +kernel
theorem dX6_debt_11 : decode cX6_debt 11 = .ok (.iconst 1, 1) := by decide +kernel
theorem dX6_debt_12 : decode cX6_debt 12 = .ok (.isub, 1) := by decide +kernel
theorem dX6_debt_13 : decode cX6_debt 13 = .ok (.invokestatic 47, 3) := by decide +kernel
theorem dX6_debt_16 : decode cX6_debt 16 = .ok (.ifCond .eq 22, 3) := by decide +kernel
theorem dX6_debt_19 : decode cX6_debt 19 = .ok (.iload_n 2, 1) := by decide +kernel
theorem dX6_debt_20 : decode cX6_debt 20 = .ok (.iconst 0, 1) := by decide +kernel
theorem dX6_debt_21 : decode cX6_debt 21 = .ok (.bipush 6, 2) := by decide +kernel
theorem dX6_debt_23 : decode cX6_debt 23 = .ok (.invokestatic 47, 3) := by decide +kernel
theorem dX6_debt_26 : decode cX6_debt 26 = .ok (.ifCond .eq 12, 3) := by decide +kernel
theorem dX6_debt_29 : decode cX6_debt 29 = .ok (.aload_n 0, 1) := by decide +kernel
theorem dX6_debt_30 : decode cX6_debt 30 = .ok (.iload_n 1, 1) := by decide +kernel
theorem dX6_debt_31 : decode cX6_debt 31 = .ok (.iload_n 2, 1) := by decide +kernel
theorem dX6_debt_32 : decode cX6_debt 32 = .ok (.invokevirtual 109, 3) := by decide +kernel
theorem dX6_debt_35 : decode cX6_debt 35 = .ok (.goto 8, 3) := by decide +kernel
theorem dX6_debt_38 : decode cX6_debt 38 = .ok (.aload_n 0, 1) := by decide +kernel
theorem dX6_debt_39 : decode cX6_debt 39 = .ok (.iconst 1, 1) := by decide +kernel
theorem dX6_debt_40 : decode cX6_debt 40 = .ok (.invokevirtual 57, 3) := by decide +kernel
theorem dX6_debt_43 : decode cX6_debt 43 = .ok (.ireturn, 1) := by decide +kernel
theorem dX6_freeze_0 : decode cX6_freeze 0 = .ok (.aload_n 0, 1) := by decide +kernel
theorem dX6_freeze_1 : decode cX6_freeze 1 = .ok (.getfield 9, 3) := by decide +kernel
theorem dX6_freeze_4 : decode cX6_freeze 4 = .ok (.aload_n 0, 1) := by decide +kernel
theorem dX6_freeze_5 : decode cX6_freeze 5 = .ok (.getfield 37, 3) := by decide +kernel
theorem dX6_freeze_8 : decode cX6_freeze 8 = .ok (.iconst 0, 1) := by decide +kernel
theorem dX6_freeze_9 : decode cX6_freeze 9 = .ok (.iaload, 1) := by decide +kernel
theorem dX6_freeze_10 : decode cX6_freeze 10 = .ok (.bipush 40, 2) := by decide +kernel
theorem dX6_freeze_12 : decode cX6_freeze 12 = .ok (.irem, 1) := by decide +kernel
theorem dX6_freeze_13 : decode cX6_freeze 13 = .ok (.iaload, 1) := by decide +kernel
theorem dX6_freeze_14 : decode cX6_freeze 14 = .ok (.istore_n 1, 1) := by decide +kernel
theorem dX6_freeze_15 : decode cX6_freeze 15 = .ok (.iconst 0, 1) := by decide +kernel
theorem dX6_freeze_16 : decode cX6_freeze 16 = .ok (.istore_n 2, 1) := by decide +kernel
theorem dX6_freeze_17 : decode cX6_freeze 17 = .ok (.iload_n 2, 1) := by decide +kernel
theorem dX6_freeze_18 : decode cX6_freeze 18 = .ok (.aload_n 0, 1) := by decide +kernel
theorem dX6_freeze_19 : decode cX6_freeze 19 = .ok (.getfield 44, 3) := by decide +kernel
theorem dX6_freeze_22 : decode cX6_freeze 22 = .ok (.iconst 1, 1) := by decide +kernel
theorem dX6_freeze_23 : decode cX6_freeze 23 = .ok (.isub, 1) := by decide +kernel
theorem dX6_freeze_24 : decode cX6_freeze 24 = .ok (.if_icmp .ge 42, 3) := by decide +kernel
theorem dX6_freeze_27 : decode cX6_freeze 27 = .ok (.aload_n 0, 1) := by decide +kernel
theorem dX6_freeze_28 : decode cX6_freeze 28 = .ok (.getfield 22, 3) := by decide +kernel
theorem dX6_freeze_31 : decode cX6_freeze 31 = .ok (.iload_n 2, 1) := by decide +kernel
theorem dX6_freeze_32 : decode cX6_freeze 32 = .ok (.iconst 0, 1) := by decide +kernel
theorem dX6_freeze_33 : decode cX6_freeze 33 = .ok (.bipush 60, 2) := by decide +kernel
theorem dX6_freeze_35 : decode cX6_freeze 35 = .ok (.aload_n 0, 1) := by decide +kernel
theorem dX6_freeze_36 : decode cX6_freeze 36 = .ok (.getfield 22, 3) := by decide +kernel
theorem dX6_freeze_39 : decode cX6_freeze 39 = .ok (.iload_n 2, 1) := by decide +kernel
theorem dX6_freeze_40 : decode cX6_freeze 40 = .ok (.iaload, 1) := by decide +kernel
theorem dX6_freeze_41 : decode cX6_freeze 41 = .ok (.iload_n 1, 1) := by decide +kernel
theorem dX6_freeze_42 : decode cX6_freeze 42 = .ok (.ifCond .ge 7, 3) := by decide +kernel
theorem dX6_freeze_45 : decode cX6_freeze 45 = .ok (.iload_n 1, 1) := by decide +kernel
theorem dX6_freeze_46 : decode cX6_freeze 46 = .ok (.goto 6, 3) := by decide +kernel
theorem dX6_freeze_49 : decode cX6_freeze 49 = .ok (.iconst 2, 1) := by decide +kernel
theorem dX6_freeze_50 : decode cX6_freeze 50 = .ok (.iload_n 1, 1) := by decide +kernel
theorem dX6_freeze_51 : decode cX6_freeze 51 = .ok (.imul, 1) := by decide +kernel
theorem dX6_freeze_52 : decode cX6_freeze 52 = .ok (.isub, 1) := by decide +kernel
theorem dX6_freeze_53 : decode cX6_freeze 53 = .ok (.invokestatic 68, 3) := by decide +kernel
theorem dX6_freeze_56 : decode cX6_freeze 56 = .ok (.invokestatic 128, 3) := by decide +kernel
theorem dX6_freeze_59 : decode cX6_freeze 59 = .ok (.iastore, 1) := by decide +kernel
theorem dX6_freeze_60 : decode cX6_freeze 60 = .ok (.iinc 2 1, 3) := by decide +kernel
theorem dX6_freeze_63 : decode cX6_freeze 63 = .ok (.goto (-46), 3) := by decide +kernel
theorem dX6_freeze_66 : decode cX6_freeze 66 = .ok (.return_, 1) := by decide +kernel
theorem dX6_sail_0 : decode cX6_sail 0 = .ok (.aload_n 0, 1) := by decide +kernel
theorem dX6_sail_1 : decode cX6_sail 1 = .ok (.iload_n 1, 1) := by decide +kernel
theorem dX6_sail_2 : decode cX6_sail 2 = .ok (.iconst 3, 1) := by decide +kernel
theorem dX6_sail_3 : decode cX6_sail 3 = .ok (.invokevirtual 74, 3) := by decide +kernel
theorem dX6_sail_6 : decode cX6_sail 6 = .ok (.iconst 3, 1) := by decide +kernel
theorem dX6_sail_7 : decode cX6_sail 7 = .ok (.if_icmp .ne 4, 3) := by decide +kernel
theorem dX6_sail_10 : decode cX6_sail 10 = .ok (.return_, 1) := by decide +kernel
theorem dX6_sail_11 : decode cX6_sail 11 = .ok (.iconst 0, 1) := by decide +kernel
theorem dX6_sail_12 : decode cX6_sail 12 = .ok (.istore_n 2, 1) := by decide +kernel
theorem dX6_sail_13 : decode cX6_sail 13 = .ok (.aload_n 0, 1) := by decide +kernel
theorem dX6_sail_14 : decode cX6_sail 14 = .ok (.iload_n 1, 1) := by decide +kernel
theorem dX6_sail_15 : decode cX6_sail 15 = .ok (.invokevirtual 77, 3) := by decide +kernel
theorem dX6_sail_18 : decode cX6_sail 18 = .ok (.ifCond .eq 143, 3) := by decide +kernel
theorem dX6_sail_21 : decode cX6_sail 21 = .ok (.aload_n 0, 1) := by decide +kernel
theorem dX6_sail_22 : decode cX6_sail 22 = .ok (.iload_n 1, 1) := by decide +kernel
theorem dX6_sail_23 : decode cX6_sail 23 = .ok (.iconst 4, 1) := by decide +kernel
theorem dX6_sail_24 : decode cX6_sail 24 = .ok (.invokevirtual 74, 3) := by decide +kernel
theorem dX6_sail_27 : decode cX6_sail 27 = .ok (.aload_n 0, 1) := by decide +kernel
theorem dX6_sail_28 : decode cX6_sail 28 = .ok (.iload_n 1, 1) := by decide +kernel
theorem dX6_sail_29 : decode cX6_sail 29 = .ok (.iconst 5, 1) := by decide +kernel
theorem dX6_sail_30 : decode cX6_sail 30 = .ok (.invokevirtual 74, 3) := by decide +kernel
theorem dX6_sail_33 : decode cX6_sail 33 = .ok (.if_icmp .eq 128, 3) := by decide +kernel
theorem dX6_sail_36 : decode cX6_sail 36 = .ok (.aload_n 0, 1) := by decide +kernel
theorem dX6_sail_37 : decode cX6_sail 37 = .ok (.iload_n 1, 1) := by decide +kernel
theorem dX6_sail_38 : decode cX6_sail 38 = .ok (.iconst 5, 1) := by decide +kernel
theorem dX6_sail_39 : decode cX6_sail 39 = .ok (.invokevirtual 74, 3) := by decide +kernel
theorem dX6_sail_42 : decode cX6_sail 42 = .ok (.aload_n 0, 1) := by decide +kernel
theorem dX6_sail_43 : decode cX6_sail 43 = .ok (.iload_n 1, 1) := by decide +kernel
theorem dX6_sail_44 : decode cX6_sail 44 = .ok (.iconst 4, 1) := by decide +kernel
theorem dX6_sail_45 : decode cX6_sail 45 = .ok (.invokevirtual 74, 3) := by decide +kernel
theorem dX6_sail_48 : decode cX6_sail 48 = .ok (.if_icmp .le 7, 3) := by decide +kernel
theorem dX6_sail_51 : decode cX6_sail 51 = .ok (.iconst 1, 1) := by decide +kernel
theorem dX6_sail_52 : decode cX6_sail 52 = .ok (.goto 4, 3) := by decide +kernel
theorem dX6_sail_55 : decode cX6_sail 55 = .ok (.iconst 0, 1) := by decide +kernel
theorem dX6_sail_56 : decode cX6_sail 56 = .ok (.istore_n 3, 1) := by decide +kernel
theorem dX6_sail_57 : decode cX6_sail 57 = .ok (.iload_n 3, 1) := by decide +kernel
theorem dX6_sail_58 : decode cX6_sail 58 = .ok (.ifCond .eq 12, 3) := by decide +kernel
theorem dX6_sail_61 : decode cX6_sail 61 = .ok (.aload_n 0, 1) := by decide +kernel
theorem dX6_sail_62 : decode cX6_sail 62 = .ok (.iload_n 1, 1) := by decide +kernel
theorem dX6_sail_63 : decode cX6_sail 63 = .ok (.iconst 4, 1) := by decide +kernel
theorem dX6_sail_64 : decode cX6_sail 64 = .ok (.invokevirtual 74, 3) := by decide +kernel
theorem dX6_sail_67 : decode cX6_sail 67 = .ok (.goto 11, 3) := by decide +kernel
theorem dX6_sail_70 : decode cX6_sail 70 = .ok (.aload_n 0, 1) := by decide +kernel
theorem dX6_sail_71 : decode cX6_sail 71 = .ok (.iload_n 1, 1) := by decide +kernel
theorem dX6_sail_72 : decode cX6_sail 72 = .ok (.iconst 4, 1) := by decide +kernel
theorem dX6_sail_73 : decode cX6_sail 73 = .ok (.invokevirtual 74, 3) := by decide +kernel
theorem dX6_sail_76 : decode cX6_sail 76 = .ok (.iconst 1, 1) := by decide +kernel
theorem dX6_sail_77 : decode cX6_sail 77 = .ok (.isub, 1) := by decide +kernel
theorem dX6_sail_78 : decode cX6_sail 78 = .ok (.istore 4, 2) := by decide +kernel
theorem dX6_sail_80 : decode cX6_sail 80 = .ok (.aload_n 0, 1) := by decide +kernel
theorem dX6_sail_81 : decode cX6_sail 81 = .ok (.iload 4, 2) := by decide +kernel
theorem dX6_sail_83 : decode cX6_sail 83 = .ok (.invokevirtual 90, 3) := by decide +kernel
theorem dX6_sail_86 : decode cX6_sail 86 = .ok (.ifCond .eq 72, 3) := by decide +kernel
theorem dX6_sail_89 : decode cX6_sail 89 = .ok (.aload_n 0, 1) := by decide +kernel
theorem dX6_sail_90 : decode cX6_sail 90 = .ok (.iload_n 1, 1) := by decide +kernel
theorem dX6_sail_91 : decode cX6_sail 91 = .ok (.iconst 3, 1) := by decide +kernel
theorem dX6_sail_92 : decode cX6_sail 92 = .ok (.iconst 2, 1) := by decide +kernel
theorem dX6_sail_93 : decode cX6_sail 93 = .ok (.invokevirtual 124, 3) := by decide +kernel
theorem dX6_sail_96 : decode cX6_sail 96 = .ok (.aload_n 0, 1) := by decide +kernel
theorem dX6_sail_97 : decode cX6_sail 97 = .ok (.iload_n 1, 1) := by decide +kernel
theorem dX6_sail_98 : decode cX6_sail 98 = .ok (.bipush 7, 2) := by decide +kernel
theorem dX6_sail_100 : decode cX6_sail 100 = .ok (.iload 4, 2) := by decide +kernel
theorem dX6_sail_102 : decode cX6_sail 102 = .ok (.invokevirtual 124, 3) := by decide +kernel
theorem dX6_sail_105 : decode cX6_sail 105 = .ok (.aload_n 0, 1) := by decide +kernel
theorem dX6_sail_106 : decode cX6_sail 106 = .ok (.iload_n 1, 1) := by decide +kernel
theorem dX6_sail_107 : decode cX6_sail 107 = .ok (.bipush 6, 2) := by decide +kernel
theorem dX6_sail_109 : decode cX6_sail 109 = .ok (.iload_n 3, 1) := by decide +kernel
theorem dX6_sail_110 : decode cX6_sail 110 = .ok (.ifCond .eq 13, 3) := by decide +kernel
theorem dX6_sail_113 : decode cX6_sail 113 = .ok (.aload_n 0, 1) := by decide +kernel
theorem dX6_sail_114 : decode cX6_sail 114 = .ok (.getfield 13, 3) := by decide +kernel
theorem dX6_sail_117 : decode cX6_sail 117 = .ok (.iload 4, 2) := by decide +kernel
theorem dX6_sail_119 : decode cX6_sail 119 = .ok (.iaload, 1) := by decide +kernel
theorem dX6_sail_120 : decode cX6_sail 120 = .ok (.goto 12, 3) := by decide +kernel
theorem dX6_sail_123 : decode cX6_sail 123 = .ok (.iconst 2, 1) := by decide +kernel
theorem dX6_sail_124 : decode cX6_sail 124 = .ok (.aload_n 0, 1) := by decide +kernel
theorem dX6_sail_125 : decode cX6_sail 125 = .ok (.getfield 13, 3) := by decide +kernel
theorem dX6_sail_128 : decode cX6_sail 128 = .ok (.iload 4, 2) := by decide +kernel
theorem dX6_sail_130 : decode cX6_sail 130 = .ok (.iaload, 1) := by decide +kernel
theorem dX6_sail_131 : decode cX6_sail 131 = .ok (.imul, 1) := by decide +kernel
theorem dX6_sail_132 : decode cX6_sail 132 = .ok (.iconst 1, 1) := by decide +kernel
theorem dX6_sail_133 : decode cX6_sail 133 = .ok (.isub, 1) := by decide +kernel
theorem dX6_sail_134 : decode cX6_sail 134 = .ok (.invokevirtual 124, 3) := by decide +kernel
theorem dX6_sail_137 : decode cX6_sail 137 = .ok (.aload_n 0, 1) := by decide +kernel
theorem dX6_sail_138 : decode cX6_sail 138 = .ok (.iload_n 1, 1) := by decide +kernel
theorem dX6_sail_139 : decode cX6_sail 139 = .ok (.iconst 4, 1) := by decide +kernel
theorem dX6_sail_140 : decode cX6_sail 140 = .ok (.iload_n 3, 1) := by decide +kernel
theorem dX6_sail_141 : decode cX6_sail 141 = .ok (.ifCond .eq 10, 3) := by decide +kernel
theorem dX6_sail_144 : decode cX6_sail 144 = .ok (.iload 4, 2) := by decide +kernel
theorem dX6_sail_146 : decode cX6_sail 146 = .ok (.iconst 1, 1) := by decide +kernel
theorem dX6_sail_147 : decode cX6_sail 147 = .ok (.iadd, 1) := by decide +kernel
theorem dX6_sail_148 : decode cX6_sail 148 = .ok (.goto 5, 3) := by decide +kernel
theorem dX6_sail_151 : decode cX6_sail 151 = .ok (.iload 4, 2) := by decide +kernel
theorem dX6_sail_153 : decode cX6_sail 153 = .ok (.invokevirtual 124, 3) := by decide +kernel
theorem dX6_sail_156 : decode cX6_sail 156 = .ok (.iconst 1, 1) := by decide +kernel
theorem dX6_sail_157 : decode cX6_sail 157 = .ok (.istore_n 2, 1) := by decide +kernel
theorem dX6_sail_158 : decode cX6_sail 158 = .ok (.goto 45, 3) := by decide +kernel
theorem dX6_sail_161 : decode cX6_sail 161 = .ok (.aload_n 0, 1) := by decide +kernel
theorem dX6_sail_162 : decode cX6_sail 162 = .ok (.iload_n 1, 1) := by decide +kernel
theorem dX6_sail_163 : decode cX6_sail 163 = .ok (.iconst 3, 1) := by decide +kernel
theorem dX6_sail_164 : decode cX6_sail 164 = .ok (.invokevirtual 74, 3) := by decide +kernel
theorem dX6_sail_167 : decode cX6_sail 167 = .ok (.iconst 2, 1) := by decide +kernel
theorem dX6_sail_168 : decode cX6_sail 168 = .ok (.if_icmp .ne 35, 3) := by decide +kernel
theorem dX6_sail_171 : decode cX6_sail 171 = .ok (.aload_n 0, 1) := by decide +kernel
theorem dX6_sail_172 : decode cX6_sail 172 = .ok (.aload_n 0, 1) := by decide +kernel
theorem dX6_sail_173 : decode cX6_sail 173 = .ok (.iload_n 1, 1) := by decide +kernel
theorem dX6_sail_174 : decode cX6_sail 174 = .ok (.bipush 7, 2) := by decide +kernel
theorem dX6_sail_176 : decode cX6_sail 176 = .ok (.invokevirtual 74, 3) := by decide +kernel
theorem dX6_sail_179 : decode cX6_sail 179 = .ok (.invokevirtual 90, 3) := by decide +kernel
theorem dX6_sail_182 : decode cX6_sail 182 = .ok (.ifCond .eq 21, 3) := by decide +kernel
theorem dX6_sail_185 : decode cX6_sail 185 = .ok (.aload_n 0, 1) := by decide +kernel
theorem dX6_sail_186 : decode cX6_sail 186 = .ok (.iload_n 1, 1) := by decide +kernel
theorem dX6_sail_187 : decode cX6_sail 187 = .ok (.bipush 6, 2) := by decide +kernel
theorem dX6_sail_189 : decode cX6_sail 189 = .ok (.aload_n 0, 1) := by decide +kernel
theorem dX6_sail_190 : decode cX6_sail 190 = .ok (.iload_n 1, 1) := by decide +kernel
theorem dX6_sail_191 : decode cX6_sail 191 = .ok (.bipush 6, 2) := by decide +kernel
theorem dX6_sail_193 : decode cX6_sail 193 = .ok (.invokevirtual 74, 3) := by decide +kernel
theorem dX6_sail_196 : decode cX6_sail 196 = .ok (.iconst 1, 1) := by decide +kernel
theorem dX6_sail_197 : decode cX6_sail 197 = .ok (.isub, 1) := by decide +kernel
theorem dX6_sail_198 : decode cX6_sail 198 = .ok (.invokevirtual 124, 3) := by decide +kernel
theorem dX6_sail_201 : decode cX6_sail 201 = .ok (.iconst 1, 1) := by decide +kernel
theorem dX6_sail_202 : decode cX6_sail 202 = .ok (.istore_n 2, 1) := by decide +kernel
theorem dX6_sail_203 : decode cX6_sail 203 = .ok (.iload_n 2, 1) := by decide +kernel
theorem dX6_sail_204 : decode cX6_sail 204 = .ok (.ifCond .eq 20, 3) := by decide +kernel
theorem dX6_sail_207 : decode cX6_sail 207 = .ok (.aload_n 0, 1) := by decide +kernel
theorem dX6_sail_208 : decode cX6_sail 208 = .ok (.iload_n 1, 1) := by decide +kernel
theorem dX6_sail_209 : decode cX6_sail 209 = .ok (.bipush 6, 2) := by decide +kernel
theorem dX6_sail_211 : decode cX6_sail 211 = .ok (.invokevirtual 74, 3) := by decide +kernel
theorem dX6_sail_214 : decode cX6_sail 214 = .ok (.ifCond .ne 10, 3) := by decide +kernel
theorem dX6_sail_217 : decode cX6_sail 217 = .ok (.aload_n 0, 1) := by decide +kernel
theorem dX6_sail_218 : decode cX6_sail 218 = .ok (.iload_n 1, 1) := by decide +kernel
theorem dX6_sail_219 : decode cX6_sail 219 = .ok (.iconst 3, 1) := by decide +kernel
theorem dX6_sail_220 : decode cX6_sail 220 = .ok (.iconst 0, 1) := by decide +kernel
theorem dX6_sail_221 : decode cX6_sail 221 = .ok (.invokevirtual 124, 3) := by decide +kernel
theorem dX6_sail_224 : decode cX6_sail 224 = .ok (.aload_n 0, 1) := by decide +kernel
theorem dX6_sail_225 : decode cX6_sail 225 = .ok (.iload_n 1, 1) := by decide +kernel
theorem dX6_sail_226 : decode cX6_sail 226 = .ok (.iconst 3, 1) := by decide +kernel
theorem dX6_sail_227 : decode cX6_sail 227 = .ok (.invokevirtual 74, 3) := by decide +kernel
theorem dX6_sail_230 : decode cX6_sail 230 = .ok (.iconst 2, 1) := by decide +kernel
theorem dX6_sail_231 : decode cX6_sail 231 = .ok (.if_icmp .ne 18, 3) := by decide +kernel
theorem dX6_sail_234 : decode cX6_sail 234 = .ok (.aload_n 0, 1) := by decide +kernel
theorem dX6_sail_235 : decode cX6_sail 235 = .ok (.getfield 22, 3) := by decide +kernel
theorem dX6_sail_238 : decode cX6_sail 238 = .ok (.aload_n 0, 1) := by decide +kernel
theorem dX6_sail_239 : decode cX6_sail 239 = .ok (.iload_n 1, 1) := by decide +kernel
theorem dX6_sail_240 : decode cX6_sail 240 = .ok (.bipush 7, 2) := by decide +kernel
theorem dX6_sail_242 : decode cX6_sail 242 = .ok (.invokevirtual 74, 3) := by decide +kernel
theorem dX6_sail_245 : decode cX6_sail 245 = .ok (.iaload, 1) := by decide +kernel
theorem dX6_sail_246 : decode cX6_sail 246 = .ok (.goto 26, 3) := by decide +kernel
theorem dX6_sail_249 : decode cX6_sail 249 = .ok (.aload_n 0, 1) := by decide +kernel
theorem dX6_sail_250 : decode cX6_sail 250 = .ok (.iload_n 1, 1) := by decide +kernel
theorem dX6_sail_251 : decode cX6_sail 251 = .ok (.iconst 3, 1) := by decide +kernel
theorem dX6_sail_252 : decode cX6_sail 252 = .ok (.invokevirtual 74, 3) := by decide +kernel
theorem dX6_sail_255 : decode cX6_sail 255 = .ok (.ifCond .ne 16, 3) := by decide +kernel
theorem dX6_sail_258 : decode cX6_sail 258 = .ok (.aload_n 0, 1) := by decide +kernel
theorem dX6_sail_259 : decode cX6_sail 259 = .ok (.aload_n 0, 1) := by decide +kernel
theorem dX6_sail_260 : decode cX6_sail 260 = .ok (.iload_n 1, 1) := by decide +kernel
theorem dX6_sail_261 : decode cX6_sail 261 = .ok (.iconst 4, 1) := by decide +kernel
theorem dX6_sail_262 : decode cX6_sail 262 = .ok (.invokevirtual 74, 3) := by decide +kernel
theorem dX6_sail_265 : decode cX6_sail 265 = .ok (.invokevirtual 84, 3) := by decide +kernel
theorem dX6_sail_268 : decode cX6_sail 268 = .ok (.goto 4, 3) := by decide +kernel
theorem dX6_sail_271 : decode cX6_sail 271 = .ok (.iconst 0, 1) := by decide +kernel
theorem dX6_sail_272 : decode cX6_sail 272 = .ok (.istore_n 3, 1) := by decide +kernel
theorem dX6_sail_273 : decode cX6_sail 273 = .ok (.iload_n 3, 1) := by decide +kernel
theorem dX6_sail_274 : decode cX6_sail 274 = .ok (.bipush 20, 2) := by decide +kernel
theorem dX6_sail_276 : decode cX6_sail 276 = .ok (.if_icmp .gt 4, 3) := by decide +kernel
theorem dX6_sail_279 : decode cX6_sail 279 = .ok (.return_, 1) := by decide +kernel
theorem dX6_sail_280 : decode cX6_sail 280 = .ok (.aload_n 0, 1) := by decide +kernel
theorem dX6_sail_281 : decode cX6_sail 281 = .ok (.iload_n 1, 1) := by decide +kernel
theorem dX6_sail_282 : decode cX6_sail 282 = .ok (.iconst 1, 1) := by decide +kernel
theorem dX6_sail_283 : decode cX6_sail 283 = .ok (.aload_n 0, 1) := by decide +kernel
theorem dX6_sail_284 : decode cX6_sail 284 = .ok (.iload_n 1, 1) := by decide +kernel
theorem dX6_sail_285 : decode cX6_sail 285 = .ok (.iconst 1, 1) := by decide +kernel
theorem dX6_sail_286 : decode cX6_sail 286 = .ok (.invokevirtual 74, 3) := by decide +kernel
theorem dX6_sail_289 : decode cX6_sail 289 = .ok (.iconst 1, 1) := by decide +kernel
theorem dX6_sail_290 : decode cX6_sail 290 = .ok (.isub, 1) := by decide +kernel
theorem dX6_sail_291 : decode cX6_sail 291 = .ok (.invokevirtual 124, 3) := by decide +kernel
theorem dX6_sail_294 : decode cX6_sail 294 = .ok (.aload_n 0, 1) := by decide +kernel
theorem dX6_sail_295 : decode cX6_sail 295 = .ok (.iload_n 1, 1) := by decide +kernel
theorem dX6_sail_296 : decode cX6_sail 296 = .ok (.iconst 1, 1) := by decide +kernel
theorem dX6_sail_297 : decode cX6_sail 297 = .ok (.invokevirtual 74, 3) := by decide +kernel
theorem dX6_sail_300 : decode cX6_sail 300 = .ok (.ifCond .le 4, 3) := by decide +kernel
theorem dX6_sail_303 : decode cX6_sail 303 = .ok (.return_, 1) := by decide +kernel
theorem dX6_sail_304 : decode cX6_sail 304 = .ok (.aload_n 0, 1) := by decide +kernel
theorem dX6_sail_305 : decode cX6_sail 305 = .ok (.iload_n 1, 1) := by decide +kernel
theorem dX6_sail_306 : decode cX6_sail 306 = .ok (.iconst 3, 1) := by decide +kernel
theorem dX6_sail_307 : decode cX6_sail 307 = .ok (.iconst 3, 1) := by decide +kernel
theorem dX6_sail_308 : decode cX6_sail 308 = .ok (.invokevirtual 124, 3) := by decide +kernel
theorem dX6_sail_311 : decode cX6_sail 311 = .ok (.aload_n 0, 1) := by decide +kernel
theorem dX6_sail_312 : decode cX6_sail 312 = .ok (.iload_n 1, 1) := by decide +kernel
theorem dX6_sail_313 : decode cX6_sail 313 = .ok (.iconst 4, 1) := by decide +kernel
theorem dX6_sail_314 : decode cX6_sail 314 = .ok (.iconst (-1), 1) := by decide +kernel
theorem dX6_sail_315 : decode cX6_sail 315 = .ok (.invokevirtual 124, 3) := by decide +kernel
theorem dX6_sail_318 : decode cX6_sail 318 = .ok (.aload_n 0, 1) := by decide +kernel
theorem dX6_sail_319 : decode cX6_sail 319 = .ok (.iload_n 1, 1) := by decide +kernel
theorem dX6_sail_320 : decode cX6_sail 320 = .ok (.bipush 6, 2) := by decide +kernel
theorem dX6_sail_322 : decode cX6_sail 322 = .ok (.iconst 0, 1) := by decide +kernel
theorem dX6_sail_323 : decode cX6_sail 323 = .ok (.invokevirtual 124, 3) := by decide +kernel
theorem dX6_sail_326 : decode cX6_sail 326 = .ok (.iconst 0, 1) := by decide +kernel
theorem dX6_sail_327 : decode cX6_sail 327 = .ok (.istore 4, 2) := by decide +kernel
theorem dX6_sail_329 : decode cX6_sail 329 = .ok (.iload 4, 2) := by decide +kernel
theorem dX6_sail_331 : decode cX6_sail 331 = .ok (.iconst 4, 1) := by decide +kernel
theorem dX6_sail_332 : decode cX6_sail 332 = .ok (.if_icmp .ge 20, 3) := by decide +kernel
theorem dX6_sail_335 : decode cX6_sail 335 = .ok (.aload_n 0, 1) := by decide +kernel
theorem dX6_sail_336 : decode cX6_sail 336 = .ok (.iload_n 1, 1) := by decide +kernel
theorem dX6_sail_337 : decode cX6_sail 337 = .ok (.bipush 8, 2) := by decide +kernel
theorem dX6_sail_339 : decode cX6_sail 339 = .ok (.iload 4, 2) := by decide +kernel
theorem dX6_sail_341 : decode cX6_sail 341 = .ok (.iadd, 1) := by decide +kernel
theorem dX6_sail_342 : decode cX6_sail 342 = .ok (.iconst 0, 1) := by decide +kernel
theorem dX6_sail_343 : decode cX6_sail 343 = .ok (.invokevirtual 124, 3) := by decide +kernel
theorem dX6_sail_346 : decode cX6_sail 346 = .ok (.iinc 4 1, 3) := by decide +kernel
theorem dX6_sail_349 : decode cX6_sail 349 = .ok (.goto (-20), 3) := by decide +kernel
theorem dX6_sail_352 : decode cX6_sail 352 = .ok (.return_, 1) := by decide +kernel
theorem dX6_sunk_0 : decode cX6_sunk 0 = .ok (.iconst 0, 1) := by decide +kernel
theorem dX6_sunk_1 : decode cX6_sunk 1 = .ok (.istore_n 1, 1) := by decide +kernel
theorem dX6_sunk_2 : decode cX6_sunk 2 = .ok (.iconst 0, 1) := by decide +kernel
theorem dX6_sunk_3 : decode cX6_sunk 3 = .ok (.istore_n 2, 1) := by decide +kernel
theorem dX6_sunk_4 : decode cX6_sunk 4 = .ok (.iload_n 2, 1) := by decide +kernel
theorem dX6_sunk_5 : decode cX6_sunk 5 = .ok (.aload_n 0, 1) := by decide +kernel
theorem dX6_sunk_6 : decode cX6_sunk 6 = .ok (.getfield 54, 3) := by decide +kernel
theorem dX6_sunk_9 : decode cX6_sunk 9 = .ok (.if_icmp .ge 27, 3) := by decide +kernel
theorem dX6_sunk_12 : decode cX6_sunk 12 = .ok (.iload_n 1, 1) := by decide +kernel
theorem dX6_sunk_13 : decode cX6_sunk 13 = .ok (.aload_n 0, 1) := by decide +kernel
theorem dX6_sunk_14 : decode cX6_sunk 14 = .ok (.iload_n 2, 1) := by decide +kernel
theorem dX6_sunk_15 : decode cX6_sunk 15 = .ok (.iconst 3, 1) := by decide +kernel
theorem dX6_sunk_16 : decode cX6_sunk 16 = .ok (.invokevirtual 74, 3) := by decide +kernel
theorem dX6_sunk_19 : decode cX6_sunk 19 = .ok (.iconst 3, 1) := by decide +kernel
theorem dX6_sunk_20 : decode cX6_sunk 20 = .ok (.if_icmp .ne 7, 3) := by decide +kernel
theorem dX6_sunk_23 : decode cX6_sunk 23 = .ok (.iconst 1, 1) := by decide +kernel
theorem dX6_sunk_24 : decode cX6_sunk 24 = .ok (.goto 4, 3) := by decide +kernel
theorem dX6_sunk_27 : decode cX6_sunk 27 = .ok (.iconst 0, 1) := by decide +kernel
theorem dX6_sunk_28 : decode cX6_sunk 28 = .ok (.iadd, 1) := by decide +kernel
theorem dX6_sunk_29 : decode cX6_sunk 29 = .ok (.istore_n 1, 1) := by decide +kernel
theorem dX6_sunk_30 : decode cX6_sunk 30 = .ok (.iinc 2 1, 3) := by decide +kernel
theorem dX6_sunk_33 : decode cX6_sunk 33 = .ok (.goto (-29), 3) := by decide +kernel
theorem dX6_sunk_36 : decode cX6_sunk 36 = .ok (.iload_n 1, 1) := by decide +kernel
theorem dX6_sunk_37 : decode cX6_sunk 37 = .ok (.ireturn, 1) := by decide +kernel
theorem dX6_dayOn_0 : decode cX6_dayOn 0 = .ok (.aload_n 0, 1) := by decide +kernel
theorem dX6_dayOn_1 : decode cX6_dayOn 1 = .ok (.invokevirtual 141, 3) := by decide +kernel
theorem dX6_dayOn_4 : decode cX6_dayOn 4 = .ok (.istore_n 1, 1) := by decide +kernel
theorem dX6_dayOn_5 : decode cX6_dayOn 5 = .ok (.aload_n 0, 1) := by decide +kernel
theorem dX6_dayOn_6 : decode cX6_dayOn 6 = .ok (.invokevirtual 145, 3) := by decide +kernel
theorem dX6_dayOn_9 : decode cX6_dayOn 9 = .ok (.iconst 0, 1) := by decide +kernel
theorem dX6_dayOn_10 : decode cX6_dayOn 10 = .ok (.istore_n 2, 1) := by decide +kernel
theorem dX6_dayOn_11 : decode cX6_dayOn 11 = .ok (.iload_n 2, 1) := by decide +kernel
theorem dX6_dayOn_12 : decode cX6_dayOn 12 = .ok (.aload_n 0, 1) := by decide +kernel
theorem dX6_dayOn_13 : decode cX6_dayOn 13 = .ok (.getfield 54, 3) := by decide +kernel
theorem dX6_dayOn_16 : decode cX6_dayOn 16 = .ok (.if_icmp .ge 61, 3) := by decide +kernel
theorem dX6_dayOn_19 : decode cX6_dayOn 19 = .ok (.aload_n 0, 1) := by decide +kernel
theorem dX6_dayOn_20 : decode cX6_dayOn 20 = .ok (.iload_n 2, 1) := by decide +kernel
theorem dX6_dayOn_21 : decode cX6_dayOn 21 = .ok (.iconst 3, 1) := by decide +kernel
theorem dX6_dayOn_22 : decode cX6_dayOn 22 = .ok (.invokevirtual 74, 3) := by decide +kernel
theorem dX6_dayOn_25 : decode cX6_dayOn 25 = .ok (.iconst 1, 1) := by decide +kernel
theorem dX6_dayOn_26 : decode cX6_dayOn 26 = .ok (.if_icmp .eq 6, 3) := by decide +kernel
theorem dX6_dayOn_29 : decode cX6_dayOn 29 = .ok (.goto 42, 3) := by decide +kernel
theorem dX6_dayOn_32 : decode cX6_dayOn 32 = .ok (.aload_n 0, 1) := by decide +kernel
theorem dX6_dayOn_33 : decode cX6_dayOn 33 = .ok (.getfield 25, 3) := by decide +kernel
theorem dX6_dayOn_36 : decode cX6_dayOn 36 = .ok (.aload_n 0, 1) := by decide +kernel
theorem dX6_dayOn_37 : decode cX6_dayOn 37 = .ok (.iload_n 2, 1) := by decide +kernel
theorem dX6_dayOn_38 : decode cX6_dayOn 38 = .ok (.iconst 0, 1) := by decide +kernel
theorem dX6_dayOn_39 : decode cX6_dayOn 39 = .ok (.invokevirtual 74, 3) := by decide +kernel
theorem dX6_dayOn_42 : decode cX6_dayOn 42 = .ok (.iaload, 1) := by decide +kernel
theorem dX6_dayOn_43 : decode cX6_dayOn 43 = .ok (.ifCond .le 21, 3) := by decide +kernel
theorem dX6_dayOn_46 : decode cX6_dayOn 46 = .ok (.aload_n 0, 1) := by decide +kernel
theorem dX6_dayOn_47 : decode cX6_dayOn 47 = .ok (.getfield 25, 3) := by decide +kernel
theorem dX6_dayOn_50 : decode cX6_dayOn 50 = .ok (.aload_n 0, 1) := by decide +kernel
theorem dX6_dayOn_51 : decode cX6_dayOn 51 = .ok (.iload_n 2, 1) := by decide +kernel
theorem dX6_dayOn_52 : decode cX6_dayOn 52 = .ok (.iconst 0, 1) := by decide +kernel
theorem dX6_dayOn_53 : decode cX6_dayOn 53 = .ok (.invokevirtual 74, 3) := by decide +kernel
theorem dX6_dayOn_56 : decode cX6_dayOn 56 = .ok (.dup2, 1) := by decide +kernel
theorem dX6_dayOn_57 : decode cX6_dayOn 57 = .ok (.iaload, 1) := by decide +kernel
theorem dX6_dayOn_58 : decode cX6_dayOn 58 = .ok (.iconst 1, 1) := by decide +kernel
theorem dX6_dayOn_59 : decode cX6_dayOn 59 = .ok (.isub, 1) := by decide +kernel
theorem dX6_dayOn_60 : decode cX6_dayOn 60 = .ok (.iastore, 1) := by decide +kernel
theorem dX6_dayOn_61 : decode cX6_dayOn 61 = .ok (.goto 10, 3) := by decide +kernel
theorem dX6_dayOn_64 : decode cX6_dayOn 64 = .ok (.aload_n 0, 1) := by decide +kernel
theorem dX6_dayOn_65 : decode cX6_dayOn 65 = .ok (.iload_n 2, 1) := by decide +kernel
theorem dX6_dayOn_66 : decode cX6_dayOn 66 = .ok (.iconst 3, 1) := by decide +kernel
theorem dX6_dayOn_67 : decode cX6_dayOn 67 = .ok (.iconst 0, 1) := by decide +kernel
theorem dX6_dayOn_68 : decode cX6_dayOn 68 = .ok (.invokevirtual 124, 3) := by decide +kernel
theorem dX6_dayOn_71 : decode cX6_dayOn 71 = .ok (.iinc 2 1, 3) := by decide +kernel
theorem dX6_dayOn_74 : decode cX6_dayOn 74 = .ok (.goto (-63), 3) := by decide +kernel
theorem dX6_dayOn_77 : decode cX6_dayOn 77 = .ok (.iconst 0, 1) := by decide +kernel
theorem dX6_dayOn_78 : decode cX6_dayOn 78 = .ok (.istore_n 2, 1) := by decide +kernel
theorem dX6_dayOn_79 : decode cX6_dayOn 79 = .ok (.iload_n 2, 1) := by decide +kernel
theorem dX6_dayOn_80 : decode cX6_dayOn 80 = .ok (.aload_n 0, 1) := by decide +kernel
theorem dX6_dayOn_81 : decode cX6_dayOn 81 = .ok (.getfield 54, 3) := by decide +kernel
theorem dX6_dayOn_84 : decode cX6_dayOn 84 = .ok (.if_icmp .ge 14, 3) := by decide +kernel
theorem dX6_dayOn_87 : decode cX6_dayOn 87 = .ok (.aload_n 0, 1) := by decide +kernel
theorem dX6_dayOn_88 : decode cX6_dayOn 88 = .ok (.iload_n 2, 1) := by decide +kernel
theorem dX6_dayOn_89 : decode cX6_dayOn 89 = .ok (.invokevirtual 148, 3) := by decide +kernel
theorem dX6_dayOn_92 : decode cX6_dayOn 92 = .ok (.iinc 2 1, 3) := by decide +kernel
theorem dX6_dayOn_95 : decode cX6_dayOn 95 = .ok (.goto (-16), 3) := by decide +kernel
theorem dX6_dayOn_98 : decode cX6_dayOn 98 = .ok (.iconst 0, 1) := by decide +kernel
theorem dX6_dayOn_99 : decode cX6_dayOn 99 = .ok (.istore_n 2, 1) := by decide +kernel
theorem dX6_dayOn_100 : decode cX6_dayOn 100 = .ok (.iload_n 2, 1) := by decide +kernel
theorem dX6_dayOn_101 : decode cX6_dayOn 101 = .ok (.aload_n 0, 1) := by decide +kernel
theorem dX6_dayOn_102 : decode cX6_dayOn 102 = .ok (.getfield 106, 3) := by decide +kernel
theorem dX6_dayOn_105 : decode cX6_dayOn 105 = .ok (.if_icmp .ge 161, 3) := by decide +kernel
theorem dX6_dayOn_108 : decode cX6_dayOn 108 = .ok (.aload_n 0, 1) := by decide +kernel
theorem dX6_dayOn_109 : decode cX6_dayOn 109 = .ok (.iload_n 2, 1) := by decide +kernel
theorem dX6_dayOn_110 : decode cX6_dayOn 110 = .ok (.bipush 6, 2) := by decide +kernel
theorem dX6_dayOn_112 : decode cX6_dayOn 112 = .ok (.invokevirtual 109, 3) := by decide +kernel
theorem dX6_dayOn_115 : decode cX6_dayOn 115 = .ok (.ifCond .ne 145, 3) := by decide +kernel
theorem dX6_dayOn_118 : decode cX6_dayOn 118 = .ok (.aload_n 0, 1) := by decide +kernel
theorem dX6_dayOn_119 : decode cX6_dayOn 119 = .ok (.iload_n 2, 1) := by decide +kernel
theorem dX6_dayOn_120 : decode cX6_dayOn 120 = .ok (.iconst 5, 1) := by decide +kernel
theorem dX6_dayOn_121 : decode cX6_dayOn 121 = .ok (.invokevirtual 109, 3) := by decide +kernel
theorem dX6_dayOn_124 : decode cX6_dayOn 124 = .ok (.aload_n 0, 1) := by decide +kernel
theorem dX6_dayOn_125 : decode cX6_dayOn 125 = .ok (.getfield 37, 3) := by decide +kernel
theorem dX6_dayOn_128 : decode cX6_dayOn 128 = .ok (.iconst 0, 1) := by decide +kernel
theorem dX6_dayOn_129 : decode cX6_dayOn 129 = .ok (.iaload, 1) := by decide +kernel
theorem dX6_dayOn_130 : decode cX6_dayOn 130 = .ok (.if_icmp .gt 130, 3) := by decide +kernel
theorem dX6_dayOn_133 : decode cX6_dayOn 133 = .ok (.aload_n 0, 1) := by decide +kernel
theorem dX6_dayOn_134 : decode cX6_dayOn 134 = .ok (.iload_n 2, 1) := by decide +kernel
theorem dX6_dayOn_135 : decode cX6_dayOn 135 = .ok (.aload_n 0, 1) := by decide +kernel
theorem dX6_dayOn_136 : decode cX6_dayOn 136 = .ok (.iload_n 2, 1) := by decide +kernel
theorem dX6_dayOn_137 : decode cX6_dayOn 137 = .ok (.iconst 2, 1) := by decide +kernel
theorem dX6_dayOn_138 : decode cX6_dayOn 138 = .ok (.invokevirtual 109, 3) := by decide +kernel
theorem dX6_dayOn_141 : decode cX6_dayOn 141 = .ok (.invokevirtual 137, 3) := by decide +kernel
theorem dX6_dayOn_144 : decode cX6_dayOn 144 = .ok (.ifCond .eq 6, 3) := by decide +kernel
theorem dX6_dayOn_147 : decode cX6_dayOn 147 = .ok (.goto 113, 3) := by decide +kernel
theorem dX6_dayOn_150 : decode cX6_dayOn 150 = .ok (.aload_n 0, 1) := by decide +kernel
theorem dX6_dayOn_151 : decode cX6_dayOn 151 = .ok (.iload_n 2, 1) := by decide +kernel
theorem dX6_dayOn_152 : decode cX6_dayOn 152 = .ok (.iconst 4, 1) := by decide +kernel
theorem dX6_dayOn_153 : decode cX6_dayOn 153 = .ok (.invokevirtual 109, 3) := by decide +kernel
theorem dX6_dayOn_156 : decode cX6_dayOn 156 = .ok (.aload_n 0, 1) := by decide +kernel
theorem dX6_dayOn_157 : decode cX6_dayOn 157 = .ok (.getfield 19, 3) := by decide +kernel
theorem dX6_dayOn_160 : decode cX6_dayOn 160 = .ok (.iconst 4, 1) := by decide +kernel
theorem dX6_dayOn_161 : decode cX6_dayOn 161 = .ok (.aload_n 0, 1) := by decide +kernel
theorem dX6_dayOn_162 : decode cX6_dayOn 162 = .ok (.iload_n 2, 1) := by decide +kernel
theorem dX6_dayOn_163 : decode cX6_dayOn 163 = .ok (.iconst 2, 1) := by decide +kernel
theorem dX6_dayOn_164 : decode cX6_dayOn 164 = .ok (.invokevirtual 109, 3) := by decide +kernel
theorem dX6_dayOn_167 : decode cX6_dayOn 167 = .ok (.imul, 1) := by decide +kernel
theorem dX6_dayOn_168 : decode cX6_dayOn 168 = .ok (.aload_n 0, 1) := by decide +kernel
theorem dX6_dayOn_169 : decode cX6_dayOn 169 = .ok (.iload_n 2, 1) := by decide +kernel
theorem dX6_dayOn_170 : decode cX6_dayOn 170 = .ok (.iconst 3, 1) := by decide +kernel
theorem dX6_dayOn_171 : decode cX6_dayOn 171 = .ok (.invokevirtual 109, 3) := by decide +kernel
theorem dX6_dayOn_174 : decode cX6_dayOn 174 = .ok (.iadd, 1) := by decide +kernel
theorem dX6_dayOn_175 : decode cX6_dayOn 175 = .ok (.iaload, 1) := by decide +kernel
theorem dX6_dayOn_176 : decode cX6_dayOn 176 = .ok (.imul, 1) := by decide +kernel
theorem dX6_dayOn_177 : decode cX6_dayOn 177 = .ok (.istore_n 3, 1) := by decide +kernel
theorem dX6_dayOn_178 : decode cX6_dayOn 178 = .ok (.aload_n 0, 1) := by decide +kernel
theorem dX6_dayOn_179 : decode cX6_dayOn 179 = .ok (.getfield 25, 3) := by decide +kernel
theorem dX6_dayOn_182 : decode cX6_dayOn 182 = .ok (.aload_n 0, 1) := by decide +kernel
theorem dX6_dayOn_183 : decode cX6_dayOn 183 = .ok (.iload_n 2, 1) := by decide +kernel
theorem dX6_dayOn_184 : decode cX6_dayOn 184 = .ok (.iconst 1, 1) := by decide +kernel
theorem dX6_dayOn_185 : decode cX6_dayOn 185 = .ok (.invokevirtual 109, 3) := by decide +kernel
theorem dX6_dayOn_188 : decode cX6_dayOn 188 = .ok (.iaload, 1) := by decide +kernel
theorem dX6_dayOn_189 : decode cX6_dayOn 189 = .ok (.iload_n 3, 1) := by decide +kernel
theorem dX6_dayOn_190 : decode cX6_dayOn 190 = .ok (.if_icmp .lt 7, 3) := by decide +kernel
theorem dX6_dayOn_193 : decode cX6_dayOn 193 = .ok (.iconst 1, 1) := by decide +kernel
theorem dX6_dayOn_194 : decode cX6_dayOn 194 = .ok (.goto 4, 3) := by decide +kernel
theorem dX6_dayOn_197 : decode cX6_dayOn 197 = .ok (.iconst 0, 1) := by decide +kernel
theorem dX6_dayOn_198 : decode cX6_dayOn 198 = .ok (.istore 4, 2) := by decide +kernel
theorem dX6_dayOn_200 : decode cX6_dayOn 200 = .ok (.aload_n 0, 1) := by decide +kernel
theorem dX6_dayOn_201 : decode cX6_dayOn 201 = .ok (.getfield 34, 3) := by decide +kernel
theorem dX6_dayOn_204 : decode cX6_dayOn 204 = .ok (.bipush 7, 2) := by decide +kernel
theorem dX6_dayOn_206 : decode cX6_dayOn 206 = .ok (.iload_n 2, 1) := by decide +kernel
theorem dX6_dayOn_207 : decode cX6_dayOn 207 = .ok (.imul, 1) := by decide +kernel
theorem dX6_dayOn_208 : decode cX6_dayOn 208 = .ok (.bipush 6, 2) := by decide +kernel
theorem dX6_dayOn_210 : decode cX6_dayOn 210 = .ok (.iadd, 1) := by decide +kernel
theorem dX6_dayOn_211 : decode cX6_dayOn 211 = .ok (.iload 4, 2) := by decide +kernel
theorem dX6_dayOn_213 : decode cX6_dayOn 213 = .ok (.ifCond .eq 7, 3) := by decide +kernel
theorem dX6_dayOn_216 : decode cX6_dayOn 216 = .ok (.iconst 1, 1) := by decide +kernel
theorem dX6_dayOn_217 : decode cX6_dayOn 217 = .ok (.goto 4, 3) := by decide +kernel
theorem dX6_dayOn_220 : decode cX6_dayOn 220 = .ok (.iconst 2, 1) := by decide +kernel
theorem dX6_dayOn_221 : decode cX6_dayOn 221 = .ok (.iastore, 1) := by decide +kernel
theorem dX6_dayOn_222 : decode cX6_dayOn 222 = .ok (.iload 4, 2) := by decide +kernel
theorem dX6_dayOn_224 : decode cX6_dayOn 224 = .ok (.ifCond .ne 6, 3) := by decide +kernel
theorem dX6_dayOn_227 : decode cX6_dayOn 227 = .ok (.goto 33, 3) := by decide +kernel
theorem dX6_dayOn_230 : decode cX6_dayOn 230 = .ok (.aload_n 0, 1) := by decide +kernel
theorem dX6_dayOn_231 : decode cX6_dayOn 231 = .ok (.getfield 25, 3) := by decide +kernel
theorem dX6_dayOn_234 : decode cX6_dayOn 234 = .ok (.aload_n 0, 1) := by decide +kernel
theorem dX6_dayOn_235 : decode cX6_dayOn 235 = .ok (.iload_n 2, 1) := by decide +kernel
theorem dX6_dayOn_236 : decode cX6_dayOn 236 = .ok (.iconst 1, 1) := by decide +kernel
theorem dX6_dayOn_237 : decode cX6_dayOn 237 = .ok (.invokevirtual 109, 3) := by decide +kernel
theorem dX6_dayOn_240 : decode cX6_dayOn 240 = .ok (.dup2, 1) := by decide +kernel
theorem dX6_dayOn_241 : decode cX6_dayOn 241 = .ok (.iaload, 1) := by decide +kernel
theorem dX6_dayOn_242 : decode cX6_dayOn 242 = .ok (.iload_n 3, 1) := by decide +kernel
theorem dX6_dayOn_243 : decode cX6_dayOn 243 = .ok (.isub, 1) := by decide +kernel
theorem dX6_dayOn_244 : decode cX6_dayOn 244 = .ok (.iastore, 1) := by decide +kernel
theorem dX6_dayOn_245 : decode cX6_dayOn 245 = .ok (.aload_n 0, 1) := by decide +kernel
theorem dX6_dayOn_246 : decode cX6_dayOn 246 = .ok (.getfield 25, 3) := by decide +kernel
theorem dX6_dayOn_249 : decode cX6_dayOn 249 = .ok (.aload_n 0, 1) := by decide +kernel
theorem dX6_dayOn_250 : decode cX6_dayOn 250 = .ok (.iload_n 2, 1) := by decide +kernel
theorem dX6_dayOn_251 : decode cX6_dayOn 251 = .ok (.iconst 0, 1) := by decide +kernel
theorem dX6_dayOn_252 : decode cX6_dayOn 252 = .ok (.invokevirtual 109, 3) := by decide +kernel
theorem dX6_dayOn_255 : decode cX6_dayOn 255 = .ok (.dup2, 1) := by decide +kernel
theorem dX6_dayOn_256 : decode cX6_dayOn 256 = .ok (.iaload, 1) := by decide +kernel
theorem dX6_dayOn_257 : decode cX6_dayOn 257 = .ok (.iload_n 3, 1) := by decide +kernel
theorem dX6_dayOn_258 : decode cX6_dayOn 258 = .ok (.iadd, 1) := by decide +kernel
theorem dX6_dayOn_259 : decode cX6_dayOn 259 = .ok (.iastore, 1) := by decide +kernel
theorem dX6_dayOn_260 : decode cX6_dayOn 260 = .ok (.iinc 2 1, 3) := by decide +kernel
theorem dX6_dayOn_263 : decode cX6_dayOn 263 = .ok (.goto (-163), 3) := by decide +kernel
theorem dX6_dayOn_266 : decode cX6_dayOn 266 = .ok (.aload_n 0, 1) := by decide +kernel
theorem dX6_dayOn_267 : decode cX6_dayOn 267 = .ok (.getfield 37, 3) := by decide +kernel
theorem dX6_dayOn_270 : decode cX6_dayOn 270 = .ok (.iconst 0, 1) := by decide +kernel
theorem dX6_dayOn_271 : decode cX6_dayOn 271 = .ok (.dup2, 1) := by decide +kernel
theorem dX6_dayOn_272 : decode cX6_dayOn 272 = .ok (.iaload, 1) := by decide +kernel
theorem dX6_dayOn_273 : decode cX6_dayOn 273 = .ok (.iconst 1, 1) := by decide +kernel
theorem dX6_dayOn_274 : decode cX6_dayOn 274 = .ok (.iadd, 1) := by decide +kernel
theorem dX6_dayOn_275 : decode cX6_dayOn 275 = .ok (.iastore, 1) := by decide +kernel
theorem dX6_dayOn_276 : decode cX6_dayOn 276 = .ok (.aload_n 0, 1) := by decide +kernel
theorem dX6_dayOn_277 : decode cX6_dayOn 277 = .ok (.invokevirtual 141, 3) := by decide +kernel
theorem dX6_dayOn_280 : decode cX6_dayOn 280 = .ok (.iload_n 1, 1) := by decide +kernel
theorem dX6_dayOn_281 : decode cX6_dayOn 281 = .ok (.isub, 1) := by decide +kernel
theorem dX6_dayOn_282 : decode cX6_dayOn 282 = .ok (.ireturn, 1) := by decide +kernel
theorem dX6_pass_0 : decode cX6_pass 0 = .ok (.aload_n 0, 1) := by decide +kernel
theorem dX6_pass_1 : decode cX6_pass 1 = .ok (.iconst 0, 1) := by decide +kernel
theorem dX6_pass_2 : decode cX6_pass 2 = .ok (.putfield 40, 3) := by decide +kernel
theorem dX6_pass_5 : decode cX6_pass 5 = .ok (.iload_n 1, 1) := by decide +kernel
theorem dX6_pass_6 : decode cX6_pass 6 = .ok (.iconst 1, 1) := by decide +kernel
theorem dX6_pass_7 : decode cX6_pass 7 = .ok (.sipush 200, 3) := by decide +kernel
theorem dX6_pass_10 : decode cX6_pass 10 = .ok (.invokestatic 47, 3) := by decide +kernel
theorem dX6_pass_13 : decode cX6_pass 13 = .ok (.ifCond .ne 9, 3) := by decide +kernel
theorem dX6_pass_16 : decode cX6_pass 16 = .ok (.aload_n 0, 1) := by decide +kernel
theorem dX6_pass_17 : decode cX6_pass 17 = .ok (.iconst 1, 1) := by decide +kernel
theorem dX6_pass_18 : decode cX6_pass 18 = .ok (.invokevirtual 57, 3) := by decide +kernel
theorem dX6_pass_21 : decode cX6_pass 21 = .ok (.ireturn, 1) := by decide +kernel
theorem dX6_pass_22 : decode cX6_pass 22 = .ok (.iconst 0, 1) := by decide +kernel
theorem dX6_pass_23 : decode cX6_pass 23 = .ok (.istore_n 2, 1) := by decide +kernel
theorem dX6_pass_24 : decode cX6_pass 24 = .ok (.iconst 0, 1) := by decide +kernel
theorem dX6_pass_25 : decode cX6_pass 25 = .ok (.istore_n 3, 1) := by decide +kernel
theorem dX6_pass_26 : decode cX6_pass 26 = .ok (.iload_n 3, 1) := by decide +kernel
theorem dX6_pass_27 : decode cX6_pass 27 = .ok (.iload_n 1, 1) := by decide +kernel
theorem dX6_pass_28 : decode cX6_pass 28 = .ok (.if_icmp .ge 16, 3) := by decide +kernel
theorem dX6_pass_31 : decode cX6_pass 31 = .ok (.iload_n 2, 1) := by decide +kernel
theorem dX6_pass_32 : decode cX6_pass 32 = .ok (.aload_n 0, 1) := by decide +kernel
theorem dX6_pass_33 : decode cX6_pass 33 = .ok (.invokevirtual 152, 3) := by decide +kernel
theorem dX6_pass_36 : decode cX6_pass 36 = .ok (.iadd, 1) := by decide +kernel
theorem dX6_pass_37 : decode cX6_pass 37 = .ok (.istore_n 2, 1) := by decide +kernel
theorem dX6_pass_38 : decode cX6_pass 38 = .ok (.iinc 3 1, 3) := by decide +kernel
theorem dX6_pass_41 : decode cX6_pass 41 = .ok (.goto (-15), 3) := by decide +kernel
theorem dX6_pass_44 : decode cX6_pass 44 = .ok (.iload_n 2, 1) := by decide +kernel
theorem dX6_pass_45 : decode cX6_pass 45 = .ok (.ireturn, 1) := by decide +kernel
theorem dX6_counted_0 : decode cX6_counted 0 = .ok (.iconst 0, 1) := by decide +kernel
theorem dX6_counted_1 : decode cX6_counted 1 = .ok (.istore_n 2, 1) := by decide +kernel
theorem dX6_counted_2 : decode cX6_counted 2 = .ok (.iload_n 1, 1) := by decide +kernel
theorem dX6_counted_3 : decode cX6_counted 3 = .ok (.tableswitch 191 0 8 #[49, 56, 61, 66, 71, 76, 112, 117, 153], 49) := by decide +kernel
theorem dX6_counted_52 : decode cX6_counted 52 = .ok (.aload_n 0, 1) := by decide +kernel
theorem dX6_counted_53 : decode cX6_counted 53 = .ok (.getfield 37, 3) := by decide +kernel
theorem dX6_counted_56 : decode cX6_counted 56 = .ok (.iconst 0, 1) := by decide +kernel
theorem dX6_counted_57 : decode cX6_counted 57 = .ok (.iaload, 1) := by decide +kernel
theorem dX6_counted_58 : decode cX6_counted 58 = .ok (.ireturn, 1) := by decide +kernel
theorem dX6_counted_59 : decode cX6_counted 59 = .ok (.aload_n 0, 1) := by decide +kernel
theorem dX6_counted_60 : decode cX6_counted 60 = .ok (.getfield 44, 3) := by decide +kernel
theorem dX6_counted_63 : decode cX6_counted 63 = .ok (.ireturn, 1) := by decide +kernel
theorem dX6_counted_64 : decode cX6_counted 64 = .ok (.aload_n 0, 1) := by decide +kernel
theorem dX6_counted_65 : decode cX6_counted 65 = .ok (.getfield 51, 3) := by decide +kernel
theorem dX6_counted_68 : decode cX6_counted 68 = .ok (.ireturn, 1) := by decide +kernel
theorem dX6_counted_69 : decode cX6_counted 69 = .ok (.aload_n 0, 1) := by decide +kernel
theorem dX6_counted_70 : decode cX6_counted 70 = .ok (.getfield 54, 3) := by decide +kernel
theorem dX6_counted_73 : decode cX6_counted 73 = .ok (.ireturn, 1) := by decide +kernel
theorem dX6_counted_74 : decode cX6_counted 74 = .ok (.aload_n 0, 1) := by decide +kernel
theorem dX6_counted_75 : decode cX6_counted 75 = .ok (.invokevirtual 141, 3) := by decide +kernel
theorem dX6_counted_78 : decode cX6_counted 78 = .ok (.ireturn, 1) := by decide +kernel
theorem dX6_counted_79 : decode cX6_counted 79 = .ok (.iconst 0, 1) := by decide +kernel
theorem dX6_counted_80 : decode cX6_counted 80 = .ok (.istore_n 3, 1) := by decide +kernel
theorem dX6_counted_81 : decode cX6_counted 81 = .ok (.iload_n 3, 1) := by decide +kernel
theorem dX6_counted_82 : decode cX6_counted 82 = .ok (.aload_n 0, 1) := by decide +kernel
theorem dX6_counted_83 : decode cX6_counted 83 = .ok (.getfield 54, 3) := by decide +kernel
theorem dX6_counted_86 : decode cX6_counted 86 = .ok (.if_icmp .ge 27, 3) := by decide +kernel
theorem dX6_counted_89 : decode cX6_counted 89 = .ok (.iload_n 2, 1) := by decide +kernel
theorem dX6_counted_90 : decode cX6_counted 90 = .ok (.aload_n 0, 1) := by decide +kernel
theorem dX6_counted_91 : decode cX6_counted 91 = .ok (.iload_n 3, 1) := by decide +kernel
theorem dX6_counted_92 : decode cX6_counted 92 = .ok (.iconst 3, 1) := by decide +kernel
theorem dX6_counted_93 : decode cX6_counted 93 = .ok (.invokevirtual 74, 3) := by decide +kernel
theorem dX6_counted_96 : decode cX6_counted 96 = .ok (.iconst 2, 1) := by decide +kernel
theorem dX6_counted_97 : decode cX6_counted 97 = .ok (.if_icmp .ne 7, 3) := by decide +kernel
theorem dX6_counted_100 : decode cX6_counted 100 = .ok (.iconst 1, 1) := by decide +kernel
theorem dX6_counted_101 : decode cX6_counted 101 = .ok (.goto 4, 3) := by decide +kernel
theorem dX6_counted_104 : decode cX6_counted 104 = .ok (.iconst 0, 1) := by decide +kernel
theorem dX6_counted_105 : decode cX6_counted 105 = .ok (.iadd, 1) := by decide +kernel
theorem dX6_counted_106 : decode cX6_counted 106 = .ok (.istore_n 2, 1) := by decide +kernel
theorem dX6_counted_107 : decode cX6_counted 107 = .ok (.iinc 3 1, 3) := by decide +kernel
theorem dX6_counted_110 : decode cX6_counted 110 = .ok (.goto (-29), 3) := by decide +kernel
theorem dX6_counted_113 : decode cX6_counted 113 = .ok (.iload_n 2, 1) := by decide +kernel
theorem dX6_counted_114 : decode cX6_counted 114 = .ok (.ireturn, 1) := by decide +kernel
theorem dX6_counted_115 : decode cX6_counted 115 = .ok (.aload_n 0, 1) := by decide +kernel
theorem dX6_counted_116 : decode cX6_counted 116 = .ok (.getfield 106, 3) := by decide +kernel
theorem dX6_counted_119 : decode cX6_counted 119 = .ok (.ireturn, 1) := by decide +kernel
theorem dX6_counted_120 : decode cX6_counted 120 = .ok (.iconst 0, 1) := by decide +kernel
theorem dX6_counted_121 : decode cX6_counted 121 = .ok (.istore_n 3, 1) := by decide +kernel
theorem dX6_counted_122 : decode cX6_counted 122 = .ok (.iload_n 3, 1) := by decide +kernel
theorem dX6_counted_123 : decode cX6_counted 123 = .ok (.aload_n 0, 1) := by decide +kernel
theorem dX6_counted_124 : decode cX6_counted 124 = .ok (.getfield 106, 3) := by decide +kernel
theorem dX6_counted_127 : decode cX6_counted 127 = .ok (.if_icmp .ge 27, 3) := by decide +kernel
theorem dX6_counted_130 : decode cX6_counted 130 = .ok (.iload_n 2, 1) := by decide +kernel
theorem dX6_counted_131 : decode cX6_counted 131 = .ok (.aload_n 0, 1) := by decide +kernel
theorem dX6_counted_132 : decode cX6_counted 132 = .ok (.iload_n 3, 1) := by decide +kernel
theorem dX6_counted_133 : decode cX6_counted 133 = .ok (.bipush 6, 2) := by decide +kernel
theorem dX6_counted_135 : decode cX6_counted 135 = .ok (.invokevirtual 109, 3) := by decide +kernel
theorem dX6_counted_138 : decode cX6_counted 138 = .ok (.ifCond .ne 7, 3) := by decide +kernel
theorem dX6_counted_141 : decode cX6_counted 141 = .ok (.iconst 1, 1) := by decide +kernel
theorem dX6_counted_142 : decode cX6_counted 142 = .ok (.goto 4, 3) := by decide +kernel
theorem dX6_counted_145 : decode cX6_counted 145 = .ok (.iconst 0, 1) := by decide +kernel
theorem dX6_counted_146 : decode cX6_counted 146 = .ok (.iadd, 1) := by decide +kernel
theorem dX6_counted_147 : decode cX6_counted 147 = .ok (.istore_n 2, 1) := by decide +kernel
theorem dX6_counted_148 : decode cX6_counted 148 = .ok (.iinc 3 1, 3) := by decide +kernel
theorem dX6_counted_151 : decode cX6_counted 151 = .ok (.goto (-29), 3) := by decide +kernel
theorem dX6_counted_154 : decode cX6_counted 154 = .ok (.iload_n 2, 1) := by decide +kernel
theorem dX6_counted_155 : decode cX6_counted 155 = .ok (.ireturn, 1) := by decide +kernel
theorem dX6_counted_156 : decode cX6_counted 156 = .ok (.aload_n 0, 1) := by decide +kernel
theorem dX6_counted_157 : decode cX6_counted 157 = .ok (.getfield 25, 3) := by decide +kernel
theorem dX6_counted_160 : decode cX6_counted 160 = .ok (.astore_n 3, 1) := by decide +kernel
theorem dX6_counted_161 : decode cX6_counted 161 = .ok (.aload_n 3, 1) := by decide +kernel
theorem dX6_counted_162 : decode cX6_counted 162 = .ok (.arraylength, 1) := by decide +kernel
theorem dX6_counted_163 : decode cX6_counted 163 = .ok (.istore 4, 2) := by decide +kernel
theorem dX6_counted_165 : decode cX6_counted 165 = .ok (.iconst 0, 1) := by decide +kernel
theorem dX6_counted_166 : decode cX6_counted 166 = .ok (.istore 5, 2) := by decide +kernel
theorem dX6_counted_168 : decode cX6_counted 168 = .ok (.iload 5, 2) := by decide +kernel
theorem dX6_counted_170 : decode cX6_counted 170 = .ok (.iload 4, 2) := by decide +kernel
theorem dX6_counted_172 : decode cX6_counted 172 = .ok (.if_icmp .ge 20, 3) := by decide +kernel
theorem dX6_counted_175 : decode cX6_counted 175 = .ok (.aload_n 3, 1) := by decide +kernel
theorem dX6_counted_176 : decode cX6_counted 176 = .ok (.iload 5, 2) := by decide +kernel
theorem dX6_counted_178 : decode cX6_counted 178 = .ok (.iaload, 1) := by decide +kernel
theorem dX6_counted_179 : decode cX6_counted 179 = .ok (.istore 6, 2) := by decide +kernel
theorem dX6_counted_181 : decode cX6_counted 181 = .ok (.iload_n 2, 1) := by decide +kernel
theorem dX6_counted_182 : decode cX6_counted 182 = .ok (.iload 6, 2) := by decide +kernel
theorem dX6_counted_184 : decode cX6_counted 184 = .ok (.iadd, 1) := by decide +kernel
theorem dX6_counted_185 : decode cX6_counted 185 = .ok (.istore_n 2, 1) := by decide +kernel
theorem dX6_counted_186 : decode cX6_counted 186 = .ok (.iinc 5 1, 3) := by decide +kernel
theorem dX6_counted_189 : decode cX6_counted 189 = .ok (.goto (-21), 3) := by decide +kernel
theorem dX6_counted_192 : decode cX6_counted 192 = .ok (.iload_n 2, 1) := by decide +kernel
theorem dX6_counted_193 : decode cX6_counted 193 = .ok (.ireturn, 1) := by decide +kernel
theorem dX6_counted_194 : decode cX6_counted 194 = .ok (.iconst 0, 1) := by decide +kernel
theorem dX6_counted_195 : decode cX6_counted 195 = .ok (.istore_n 3, 1) := by decide +kernel
theorem dX6_counted_196 : decode cX6_counted 196 = .ok (.iload_n 3, 1) := by decide +kernel
theorem dX6_counted_197 : decode cX6_counted 197 = .ok (.aload_n 0, 1) := by decide +kernel
theorem dX6_counted_198 : decode cX6_counted 198 = .ok (.getfield 44, 3) := by decide +kernel
theorem dX6_counted_201 : decode cX6_counted 201 = .ok (.iconst 1, 1) := by decide +kernel
theorem dX6_counted_202 : decode cX6_counted 202 = .ok (.isub, 1) := by decide +kernel
theorem dX6_counted_203 : decode cX6_counted 203 = .ok (.if_icmp .ge 25, 3) := by decide +kernel
theorem dX6_counted_206 : decode cX6_counted 206 = .ok (.iload_n 2, 1) := by decide +kernel
theorem dX6_counted_207 : decode cX6_counted 207 = .ok (.aload_n 0, 1) := by decide +kernel
theorem dX6_counted_208 : decode cX6_counted 208 = .ok (.iload_n 3, 1) := by decide +kernel
theorem dX6_counted_209 : decode cX6_counted 209 = .ok (.invokevirtual 90, 3) := by decide +kernel
theorem dX6_counted_212 : decode cX6_counted 212 = .ok (.ifCond .eq 7, 3) := by decide +kernel
theorem dX6_counted_215 : decode cX6_counted 215 = .ok (.iconst 1, 1) := by decide +kernel
theorem dX6_counted_216 : decode cX6_counted 216 = .ok (.goto 4, 3) := by decide +kernel
theorem dX6_counted_219 : decode cX6_counted 219 = .ok (.iconst 0, 1) := by decide +kernel
theorem dX6_counted_220 : decode cX6_counted 220 = .ok (.iadd, 1) := by decide +kernel
theorem dX6_counted_221 : decode cX6_counted 221 = .ok (.istore_n 2, 1) := by decide +kernel
theorem dX6_counted_222 : decode cX6_counted 222 = .ok (.iinc 3 1, 3) := by decide +kernel
theorem dX6_counted_225 : decode cX6_counted 225 = .ok (.goto (-29), 3) := by decide +kernel
theorem dX6_counted_228 : decode cX6_counted 228 = .ok (.iload_n 2, 1) := by decide +kernel
theorem dX6_counted_229 : decode cX6_counted 229 = .ok (.ireturn, 1) := by decide +kernel
theorem dX6_count_0 : decode cX6_count 0 = .ok (.aload_n 0, 1) := by decide +kernel
theorem dX6_count_1 : decode cX6_count 1 = .ok (.iconst 0, 1) := by decide +kernel
theorem dX6_count_2 : decode cX6_count 2 = .ok (.putfield 40, 3) := by decide +kernel
theorem dX6_count_5 : decode cX6_count 5 = .ok (.iload_n 1, 1) := by decide +kernel
theorem dX6_count_6 : decode cX6_count 6 = .ok (.iconst 0, 1) := by decide +kernel
theorem dX6_count_7 : decode cX6_count 7 = .ok (.bipush 9, 2) := by decide +kernel
theorem dX6_count_9 : decode cX6_count 9 = .ok (.invokestatic 47, 3) := by decide +kernel
theorem dX6_count_12 : decode cX6_count 12 = .ok (.ifCond .eq 11, 3) := by decide +kernel
theorem dX6_count_15 : decode cX6_count 15 = .ok (.aload_n 0, 1) := by decide +kernel
theorem dX6_count_16 : decode cX6_count 16 = .ok (.iload_n 1, 1) := by decide +kernel
theorem dX6_count_17 : decode cX6_count 17 = .ok (.invokevirtual 155, 3) := by decide +kernel
theorem dX6_count_20 : decode cX6_count 20 = .ok (.goto 8, 3) := by decide +kernel
theorem dX6_count_23 : decode cX6_count 23 = .ok (.aload_n 0, 1) := by decide +kernel
theorem dX6_count_24 : decode cX6_count 24 = .ok (.iconst 1, 1) := by decide +kernel
theorem dX6_count_25 : decode cX6_count 25 = .ok (.invokevirtual 57, 3) := by decide +kernel
theorem dX6_count_28 : decode cX6_count 28 = .ok (.ireturn, 1) := by decide +kernel
theorem dX6_kept_0 : decode cX6_kept 0 = .ok (.bipush 6, 2) := by decide +kernel
theorem dX6_kept_2 : decode cX6_kept 2 = .ok (.anewarray 158, 3) := by decide +kernel
theorem dX6_kept_5 : decode cX6_kept 5 = .ok (.dup, 1) := by decide +kernel
theorem dX6_kept_6 : decode cX6_kept 6 = .ok (.iconst 0, 1) := by decide +kernel
theorem dX6_kept_7 : decode cX6_kept 7 = .ok (.aload_n 0, 1) := by decide +kernel
theorem dX6_kept_8 : decode cX6_kept 8 = .ok (.getfield 22, 3) := by decide +kernel
theorem dX6_kept_11 : decode cX6_kept 11 = .ok (.invokevirtual 159, 3) := by decide +kernel
theorem dX6_kept_14 : decode cX6_kept 14 = .ok (.checkcast 158, 3) := by decide +kernel
theorem dX6_kept_17 : decode cX6_kept 17 = .ok (.aastore, 1) := by decide +kernel
theorem dX6_kept_18 : decode cX6_kept 18 = .ok (.dup, 1) := by decide +kernel
theorem dX6_kept_19 : decode cX6_kept 19 = .ok (.iconst 1, 1) := by decide +kernel
theorem dX6_kept_20 : decode cX6_kept 20 = .ok (.aload_n 0, 1) := by decide +kernel
theorem dX6_kept_21 : decode cX6_kept 21 = .ok (.getfield 25, 3) := by decide +kernel
theorem dX6_kept_24 : decode cX6_kept 24 = .ok (.invokevirtual 159, 3) := by decide +kernel
theorem dX6_kept_27 : decode cX6_kept 27 = .ok (.checkcast 158, 3) := by decide +kernel
theorem dX6_kept_30 : decode cX6_kept 30 = .ok (.aastore, 1) := by decide +kernel
theorem dX6_kept_31 : decode cX6_kept 31 = .ok (.dup, 1) := by decide +kernel
theorem dX6_kept_32 : decode cX6_kept 32 = .ok (.iconst 2, 1) := by decide +kernel
theorem dX6_kept_33 : decode cX6_kept 33 = .ok (.aload_n 0, 1) := by decide +kernel
theorem dX6_kept_34 : decode cX6_kept 34 = .ok (.getfield 28, 3) := by decide +kernel
theorem dX6_kept_37 : decode cX6_kept 37 = .ok (.invokevirtual 159, 3) := by decide +kernel
theorem dX6_kept_40 : decode cX6_kept 40 = .ok (.checkcast 158, 3) := by decide +kernel
theorem dX6_kept_43 : decode cX6_kept 43 = .ok (.aastore, 1) := by decide +kernel
theorem dX6_kept_44 : decode cX6_kept 44 = .ok (.dup, 1) := by decide +kernel
theorem dX6_kept_45 : decode cX6_kept 45 = .ok (.iconst 3, 1) := by decide +kernel
theorem dX6_kept_46 : decode cX6_kept 46 = .ok (.aload_n 0, 1) := by decide +kernel
theorem dX6_kept_47 : decode cX6_kept 47 = .ok (.getfield 31, 3) := by decide +kernel
theorem dX6_kept_50 : decode cX6_kept 50 = .ok (.invokevirtual 159, 3) := by decide +kernel
theorem dX6_kept_53 : decode cX6_kept 53 = .ok (.checkcast 158, 3) := by decide +kernel
theorem dX6_kept_56 : decode cX6_kept 56 = .ok (.aastore, 1) := by decide +kernel
theorem dX6_kept_57 : decode cX6_kept 57 = .ok (.dup, 1) := by decide +kernel
theorem dX6_kept_58 : decode cX6_kept 58 = .ok (.iconst 4, 1) := by decide +kernel
theorem dX6_kept_59 : decode cX6_kept 59 = .ok (.aload_n 0, 1) := by decide +kernel
theorem dX6_kept_60 : decode cX6_kept 60 = .ok (.getfield 34, 3) := by decide +kernel
theorem dX6_kept_63 : decode cX6_kept 63 = .ok (.invokevirtual 159, 3) := by decide +kernel
theorem dX6_kept_66 : decode cX6_kept 66 = .ok (.checkcast 158, 3) := by decide +kernel
theorem dX6_kept_69 : decode cX6_kept 69 = .ok (.aastore, 1) := by decide +kernel
theorem dX6_kept_70 : decode cX6_kept 70 = .ok (.dup, 1) := by decide +kernel
theorem dX6_kept_71 : decode cX6_kept 71 = .ok (.iconst 5, 1) := by decide +kernel
theorem dX6_kept_72 : decode cX6_kept 72 = .ok (.aload_n 0, 1) := by decide +kernel
theorem dX6_kept_73 : decode cX6_kept 73 = .ok (.getfield 37, 3) := by decide +kernel
theorem dX6_kept_76 : decode cX6_kept 76 = .ok (.invokevirtual 159, 3) := by decide +kernel
theorem dX6_kept_79 : decode cX6_kept 79 = .ok (.checkcast 158, 3) := by decide +kernel
theorem dX6_kept_82 : decode cX6_kept 82 = .ok (.aastore, 1) := by decide +kernel
theorem dX6_kept_83 : decode cX6_kept 83 = .ok (.areturn, 1) := by decide +kernel
theorem dX6_bringBack_0 : decode cX6_bringBack 0 = .ok (.bipush 6, 2) := by decide +kernel
theorem dX6_bringBack_2 : decode cX6_bringBack 2 = .ok (.anewarray 158, 3) := by decide +kernel
theorem dX6_bringBack_5 : decode cX6_bringBack 5 = .ok (.dup, 1) := by decide +kernel
theorem dX6_bringBack_6 : decode cX6_bringBack 6 = .ok (.iconst 0, 1) := by decide +kernel
theorem dX6_bringBack_7 : decode cX6_bringBack 7 = .ok (.aload_n 0, 1) := by decide +kernel
theorem dX6_bringBack_8 : decode cX6_bringBack 8 = .ok (.getfield 22, 3) := by decide +kernel
theorem dX6_bringBack_11 : decode cX6_bringBack 11 = .ok (.aastore, 1) := by decide +kernel
theorem dX6_bringBack_12 : decode cX6_bringBack 12 = .ok (.dup, 1) := by decide +kernel
theorem dX6_bringBack_13 : decode cX6_bringBack 13 = .ok (.iconst 1, 1) := by decide +kernel
theorem dX6_bringBack_14 : decode cX6_bringBack 14 = .ok (.aload_n 0, 1) := by decide +kernel
theorem dX6_bringBack_15 : decode cX6_bringBack 15 = .ok (.getfield 25, 3) := by decide +kernel
theorem dX6_bringBack_18 : decode cX6_bringBack 18 = .ok (.aastore, 1) := by decide +kernel
theorem dX6_bringBack_19 : decode cX6_bringBack 19 = .ok (.dup, 1) := by decide +kernel
theorem dX6_bringBack_20 : decode cX6_bringBack 20 = .ok (.iconst 2, 1) := by decide +kernel
theorem dX6_bringBack_21 : decode cX6_bringBack 21 = .ok (.aload_n 0, 1) := by decide +kernel
theorem dX6_bringBack_22 : decode cX6_bringBack 22 = .ok (.getfield 28, 3) := by decide +kernel
theorem dX6_bringBack_25 : decode cX6_bringBack 25 = .ok (.aastore, 1) := by decide +kernel
theorem dX6_bringBack_26 : decode cX6_bringBack 26 = .ok (.dup, 1) := by decide +kernel
theorem dX6_bringBack_27 : decode cX6_bringBack 27 = .ok (.iconst 3, 1) := by decide +kernel
theorem dX6_bringBack_28 : decode cX6_bringBack 28 = .ok (.aload_n 0, 1) := by decide +kernel
theorem dX6_bringBack_29 : decode cX6_bringBack 29 = .ok (.getfield 31, 3) := by decide +kernel
theorem dX6_bringBack_32 : decode cX6_bringBack 32 = .ok (.aastore, 1) := by decide +kernel
theorem dX6_bringBack_33 : decode cX6_bringBack 33 = .ok (.dup, 1) := by decide +kernel
theorem dX6_bringBack_34 : decode cX6_bringBack 34 = .ok (.iconst 4, 1) := by decide +kernel
theorem dX6_bringBack_35 : decode cX6_bringBack 35 = .ok (.aload_n 0, 1) := by decide +kernel
theorem dX6_bringBack_36 : decode cX6_bringBack 36 = .ok (.getfield 34, 3) := by decide +kernel
theorem dX6_bringBack_39 : decode cX6_bringBack 39 = .ok (.aastore, 1) := by decide +kernel
theorem dX6_bringBack_40 : decode cX6_bringBack 40 = .ok (.dup, 1) := by decide +kernel
theorem dX6_bringBack_41 : decode cX6_bringBack 41 = .ok (.iconst 5, 1) := by decide +kernel
theorem dX6_bringBack_42 : decode cX6_bringBack 42 = .ok (.aload_n 0, 1) := by decide +kernel
theorem dX6_bringBack_43 : decode cX6_bringBack 43 = .ok (.getfield 37, 3) := by decide +kernel
theorem dX6_bringBack_46 : decode cX6_bringBack 46 = .ok (.aastore, 1) := by decide +kernel
theorem dX6_bringBack_47 : decode cX6_bringBack 47 = .ok (.astore_n 2, 1) := by decide +kernel
theorem dX6_bringBack_48 : decode cX6_bringBack 48 = .ok (.iconst 0, 1) := by decide +kernel
theorem dX6_bringBack_49 : decode cX6_bringBack 49 = .ok (.istore_n 3, 1) := by decide +kernel
theorem dX6_bringBack_50 : decode cX6_bringBack 50 = .ok (.iload_n 3, 1) := by decide +kernel
theorem dX6_bringBack_51 : decode cX6_bringBack 51 = .ok (.aload_n 2, 1) := by decide +kernel
theorem dX6_bringBack_52 : decode cX6_bringBack 52 = .ok (.arraylength, 1) := by decide +kernel
theorem dX6_bringBack_53 : decode cX6_bringBack 53 = .ok (.if_icmp .ge 24, 3) := by decide +kernel
theorem dX6_bringBack_56 : decode cX6_bringBack 56 = .ok (.aload_n 1, 1) := by decide +kernel
theorem dX6_bringBack_57 : decode cX6_bringBack 57 = .ok (.iload_n 3, 1) := by decide +kernel
theorem dX6_bringBack_58 : decode cX6_bringBack 58 = .ok (.aaload, 1) := by decide +kernel
theorem dX6_bringBack_59 : decode cX6_bringBack 59 = .ok (.iconst 0, 1) := by decide +kernel
theorem dX6_bringBack_60 : decode cX6_bringBack 60 = .ok (.aload_n 2, 1) := by decide +kernel
theorem dX6_bringBack_61 : decode cX6_bringBack 61 = .ok (.iload_n 3, 1) := by decide +kernel
theorem dX6_bringBack_62 : decode cX6_bringBack 62 = .ok (.aaload, 1) := by decide +kernel
theorem dX6_bringBack_63 : decode cX6_bringBack 63 = .ok (.iconst 0, 1) := by decide +kernel
theorem dX6_bringBack_64 : decode cX6_bringBack 64 = .ok (.aload_n 2, 1) := by decide +kernel
theorem dX6_bringBack_65 : decode cX6_bringBack 65 = .ok (.iload_n 3, 1) := by decide +kernel
theorem dX6_bringBack_66 : decode cX6_bringBack 66 = .ok (.aaload, 1) := by decide +kernel
theorem dX6_bringBack_67 : decode cX6_bringBack 67 = .ok (.arraylength, 1) := by decide +kernel
theorem dX6_bringBack_68 : decode cX6_bringBack 68 = .ok (.invokestatic 115, 3) := by decide +kernel
theorem dX6_bringBack_71 : decode cX6_bringBack 71 = .ok (.iinc 3 1, 3) := by decide +kernel
theorem dX6_bringBack_74 : decode cX6_bringBack 74 = .ok (.goto (-24), 3) := by decide +kernel
theorem dX6_bringBack_77 : decode cX6_bringBack 77 = .ok (.return_, 1) := by decide +kernel
theorem dX6_opens_0 : decode cX6_opens 0 = .ok (.aload_n 0, 1) := by decide +kernel
theorem dX6_opens_1 : decode cX6_opens 1 = .ok (.iconst 0, 1) := by decide +kernel
theorem dX6_opens_2 : decode cX6_opens 2 = .ok (.putfield 40, 3) := by decide +kernel
theorem dX6_opens_5 : decode cX6_opens 5 = .ok (.iload_n 1, 1) := by decide +kernel
theorem dX6_opens_6 : decode cX6_opens 6 = .ok (.iconst 0, 1) := by decide +kernel
theorem dX6_opens_7 : decode cX6_opens 7 = .ok (.aload_n 0, 1) := by decide +kernel
theorem dX6_opens_8 : decode cX6_opens 8 = .ok (.getfield 44, 3) := by decide +kernel
theorem dX6_opens_11 : decode cX6_opens 11 = .ok (.iconst 2, 1) := by decide +kernel
theorem dX6_opens_12 : decode cX6_opens 12 = .ok (.isub, 1) := by decide +kernel
theorem dX6_opens_13 : decode cX6_opens 13 = .ok (.invokestatic 47, 3) := by decide +kernel
theorem dX6_opens_16 : decode cX6_opens 16 = .ok (.ifCond .ne 9, 3) := by decide +kernel
theorem dX6_opens_19 : decode cX6_opens 19 = .ok (.aload_n 0, 1) := by decide +kernel
theorem dX6_opens_20 : decode cX6_opens 20 = .ok (.iconst 1, 1) := by decide +kernel
theorem dX6_opens_21 : decode cX6_opens 21 = .ok (.invokevirtual 57, 3) := by decide +kernel
theorem dX6_opens_24 : decode cX6_opens 24 = .ok (.ireturn, 1) := by decide +kernel
theorem dX6_opens_25 : decode cX6_opens 25 = .ok (.aload_n 0, 1) := by decide +kernel
theorem dX6_opens_26 : decode cX6_opens 26 = .ok (.getfield 22, 3) := by decide +kernel
theorem dX6_opens_29 : decode cX6_opens 29 = .ok (.invokevirtual 159, 3) := by decide +kernel
theorem dX6_opens_32 : decode cX6_opens 32 = .ok (.checkcast 158, 3) := by decide +kernel
theorem dX6_opens_35 : decode cX6_opens 35 = .ok (.astore_n 2, 1) := by decide +kernel
theorem dX6_opens_36 : decode cX6_opens 36 = .ok (.aload_n 0, 1) := by decide +kernel
theorem dX6_opens_37 : decode cX6_opens 37 = .ok (.getfield 37, 3) := by decide +kernel
theorem dX6_opens_40 : decode cX6_opens 40 = .ok (.iconst 0, 1) := by decide +kernel
theorem dX6_opens_41 : decode cX6_opens 41 = .ok (.iaload, 1) := by decide +kernel
theorem dX6_opens_42 : decode cX6_opens 42 = .ok (.istore_n 3, 1) := by decide +kernel
theorem dX6_opens_43 : decode cX6_opens 43 = .ok (.iconst 0, 1) := by decide +kernel
theorem dX6_opens_44 : decode cX6_opens 44 = .ok (.istore 4, 2) := by decide +kernel
theorem dX6_opens_46 : decode cX6_opens 46 = .ok (.iload 4, 2) := by decide +kernel
theorem dX6_opens_48 : decode cX6_opens 48 = .ok (.bipush 120, 2) := by decide +kernel
theorem dX6_opens_50 : decode cX6_opens 50 = .ok (.if_icmp .ge 31, 3) := by decide +kernel
theorem dX6_opens_53 : decode cX6_opens 53 = .ok (.aload_n 0, 1) := by decide +kernel
theorem dX6_opens_54 : decode cX6_opens 54 = .ok (.iload_n 1, 1) := by decide +kernel
theorem dX6_opens_55 : decode cX6_opens 55 = .ok (.invokevirtual 90, 3) := by decide +kernel
theorem dX6_opens_58 : decode cX6_opens 58 = .ok (.ifCond .ne 23, 3) := by decide +kernel
theorem dX6_opens_61 : decode cX6_opens 61 = .ok (.aload_n 0, 1) := by decide +kernel
theorem dX6_opens_62 : decode cX6_opens 62 = .ok (.invokevirtual 145, 3) := by decide +kernel
theorem dX6_opens_65 : decode cX6_opens 65 = .ok (.aload_n 0, 1) := by decide +kernel
theorem dX6_opens_66 : decode cX6_opens 66 = .ok (.getfield 37, 3) := by decide +kernel
theorem dX6_opens_69 : decode cX6_opens 69 = .ok (.iconst 0, 1) := by decide +kernel
theorem dX6_opens_70 : decode cX6_opens 70 = .ok (.dup2, 1) := by decide +kernel
theorem dX6_opens_71 : decode cX6_opens 71 = .ok (.iaload, 1) := by decide +kernel
theorem dX6_opens_72 : decode cX6_opens 72 = .ok (.iconst 1, 1) := by decide +kernel
theorem dX6_opens_73 : decode cX6_opens 73 = .ok (.iadd, 1) := by decide +kernel
theorem dX6_opens_74 : decode cX6_opens 74 = .ok (.iastore, 1) := by decide +kernel
theorem dX6_opens_75 : decode cX6_opens 75 = .ok (.iinc 4 1, 3) := by decide +kernel
theorem dX6_opens_78 : decode cX6_opens 78 = .ok (.goto (-32), 3) := by decide +kernel
theorem dX6_opens_81 : decode cX6_opens 81 = .ok (.aload_n 0, 1) := by decide +kernel
theorem dX6_opens_82 : decode cX6_opens 82 = .ok (.iload_n 1, 1) := by decide +kernel
theorem dX6_opens_83 : decode cX6_opens 83 = .ok (.invokevirtual 90, 3) := by decide +kernel
theorem dX6_opens_86 : decode cX6_opens 86 = .ok (.ifCond .ne 6, 3) := by decide +kernel
theorem dX6_opens_89 : decode cX6_opens 89 = .ok (.iconst (-1), 1) := by decide +kernel
theorem dX6_opens_90 : decode cX6_opens 90 = .ok (.istore 4, 2) := by decide +kernel
theorem dX6_opens_92 : decode cX6_opens 92 = .ok (.aload_n 2, 1) := by decide +kernel
theorem dX6_opens_93 : decode cX6_opens 93 = .ok (.iconst 0, 1) := by decide +kernel
theorem dX6_opens_94 : decode cX6_opens 94 = .ok (.aload_n 0, 1) := by decide +kernel
theorem dX6_opens_95 : decode cX6_opens 95 = .ok (.getfield 22, 3) := by decide +kernel
theorem dX6_opens_98 : decode cX6_opens 98 = .ok (.iconst 0, 1) := by decide +kernel
theorem dX6_opens_99 : decode cX6_opens 99 = .ok (.bipush 8, 2) := by decide +kernel
theorem dX6_opens_101 : decode cX6_opens 101 = .ok (.invokestatic 115, 3) := by decide +kernel
theorem dX6_opens_104 : decode cX6_opens 104 = .ok (.aload_n 0, 1) := by decide +kernel
theorem dX6_opens_105 : decode cX6_opens 105 = .ok (.getfield 37, 3) := by decide +kernel
theorem dX6_opens_108 : decode cX6_opens 108 = .ok (.iconst 0, 1) := by decide +kernel
theorem dX6_opens_109 : decode cX6_opens 109 = .ok (.iload_n 3, 1) := by decide +kernel
theorem dX6_opens_110 : decode cX6_opens 110 = .ok (.iastore, 1) := by decide +kernel
theorem dX6_opens_111 : decode cX6_opens 111 = .ok (.iload 4, 2) := by decide +kernel
theorem dX6_opens_113 : decode cX6_opens 113 = .ok (.ireturn, 1) := by decide +kernel
theorem dX6_isThere_0 : decode cX6_isThere 0 = .ok (.aload_n 0, 1) := by decide +kernel
theorem dX6_isThere_1 : decode cX6_isThere 1 = .ok (.iload_n 1, 1) := by decide +kernel
theorem dX6_isThere_2 : decode cX6_isThere 2 = .ok (.invokevirtual 77, 3) := by decide +kernel
theorem dX6_isThere_5 : decode cX6_isThere 5 = .ok (.ifCond .eq 22, 3) := by decide +kernel
theorem dX6_isThere_8 : decode cX6_isThere 8 = .ok (.aload_n 0, 1) := by decide +kernel
theorem dX6_isThere_9 : decode cX6_isThere 9 = .ok (.iload_n 1, 1) := by decide +kernel
theorem dX6_isThere_10 : decode cX6_isThere 10 = .ok (.iconst 4, 1) := by decide +kernel
theorem dX6_isThere_11 : decode cX6_isThere 11 = .ok (.invokevirtual 74, 3) := by decide +kernel
theorem dX6_isThere_14 : decode cX6_isThere 14 = .ok (.aload_n 0, 1) := by decide +kernel
theorem dX6_isThere_15 : decode cX6_isThere 15 = .ok (.iload_n 1, 1) := by decide +kernel
theorem dX6_isThere_16 : decode cX6_isThere 16 = .ok (.iconst 5, 1) := by decide +kernel
theorem dX6_isThere_17 : decode cX6_isThere 17 = .ok (.invokevirtual 74, 3) := by decide +kernel
theorem dX6_isThere_20 : decode cX6_isThere 20 = .ok (.if_icmp .ne 7, 3) := by decide +kernel
theorem dX6_isThere_23 : decode cX6_isThere 23 = .ok (.iconst 1, 1) := by decide +kernel
theorem dX6_isThere_24 : decode cX6_isThere 24 = .ok (.goto 4, 3) := by decide +kernel
theorem dX6_isThere_27 : decode cX6_isThere 27 = .ok (.iconst 0, 1) := by decide +kernel
theorem dX6_isThere_28 : decode cX6_isThere 28 = .ok (.ireturn, 1) := by decide +kernel
theorem dX6_arrives_0 : decode cX6_arrives 0 = .ok (.aload_n 0, 1) := by decide +kernel
theorem dX6_arrives_1 : decode cX6_arrives 1 = .ok (.iconst 0, 1) := by decide +kernel
theorem dX6_arrives_2 : decode cX6_arrives 2 = .ok (.putfield 40, 3) := by decide +kernel
theorem dX6_arrives_5 : decode cX6_arrives 5 = .ok (.aload_n 0, 1) := by decide +kernel
theorem dX6_arrives_6 : decode cX6_arrives 6 = .ok (.iload_n 1, 1) := by decide +kernel
theorem dX6_arrives_7 : decode cX6_arrives 7 = .ok (.invokevirtual 121, 3) := by decide +kernel
theorem dX6_arrives_10 : decode cX6_arrives 10 = .ok (.ifCond .ne 9, 3) := by decide +kernel
theorem dX6_arrives_13 : decode cX6_arrives 13 = .ok (.aload_n 0, 1) := by decide +kernel
theorem dX6_arrives_14 : decode cX6_arrives 14 = .ok (.iconst 1, 1) := by decide +kernel
theorem dX6_arrives_15 : decode cX6_arrives 15 = .ok (.invokevirtual 57, 3) := by decide +kernel
theorem dX6_arrives_18 : decode cX6_arrives 18 = .ok (.ireturn, 1) := by decide +kernel
theorem dX6_arrives_19 : decode cX6_arrives 19 = .ok (.aload_n 0, 1) := by decide +kernel
theorem dX6_arrives_20 : decode cX6_arrives 20 = .ok (.invokevirtual 163, 3) := by decide +kernel
theorem dX6_arrives_23 : decode cX6_arrives 23 = .ok (.astore_n 2, 1) := by decide +kernel
theorem dX6_arrives_24 : decode cX6_arrives 24 = .ok (.iconst 0, 1) := by decide +kernel
theorem dX6_arrives_25 : decode cX6_arrives 25 = .ok (.istore_n 3, 1) := by decide +kernel
theorem dX6_arrives_26 : decode cX6_arrives 26 = .ok (.iload_n 3, 1) := by decide +kernel
theorem dX6_arrives_27 : decode cX6_arrives 27 = .ok (.sipush 200, 3) := by decide +kernel
theorem dX6_arrives_30 : decode cX6_arrives 30 = .ok (.if_icmp .ge 22, 3) := by decide +kernel
theorem dX6_arrives_33 : decode cX6_arrives 33 = .ok (.aload_n 0, 1) := by decide +kernel
theorem dX6_arrives_34 : decode cX6_arrives 34 = .ok (.iload_n 1, 1) := by decide +kernel
theorem dX6_arrives_35 : decode cX6_arrives 35 = .ok (.invokevirtual 167, 3) := by decide +kernel
theorem dX6_arrives_38 : decode cX6_arrives 38 = .ok (.ifCond .ne 14, 3) := by decide +kernel
theorem dX6_arrives_41 : decode cX6_arrives 41 = .ok (.aload_n 0, 1) := by decide +kernel
theorem dX6_arrives_42 : decode cX6_arrives 42 = .ok (.invokevirtual 152, 3) := by decide +kernel
theorem dX6_arrives_45 : decode cX6_arrives 45 = .ok (.pop, 1) := by decide +kernel
theorem dX6_arrives_46 : decode cX6_arrives 46 = .ok (.iinc 3 1, 3) := by decide +kernel
theorem dX6_arrives_49 : decode cX6_arrives 49 = .ok (.goto (-23), 3) := by decide +kernel
theorem dX6_arrives_52 : decode cX6_arrives 52 = .ok (.aload_n 0, 1) := by decide +kernel
theorem dX6_arrives_53 : decode cX6_arrives 53 = .ok (.iload_n 1, 1) := by decide +kernel
theorem dX6_arrives_54 : decode cX6_arrives 54 = .ok (.invokevirtual 167, 3) := by decide +kernel
theorem dX6_arrives_57 : decode cX6_arrives 57 = .ok (.ifCond .ne 5, 3) := by decide +kernel
theorem dX6_arrives_60 : decode cX6_arrives 60 = .ok (.iconst (-1), 1) := by decide +kernel
theorem dX6_arrives_61 : decode cX6_arrives 61 = .ok (.istore_n 3, 1) := by decide +kernel
theorem dX6_arrives_62 : decode cX6_arrives 62 = .ok (.aload_n 0, 1) := by decide +kernel
theorem dX6_arrives_63 : decode cX6_arrives 63 = .ok (.aload_n 2, 1) := by decide +kernel
theorem dX6_arrives_64 : decode cX6_arrives 64 = .ok (.invokevirtual 170, 3) := by decide +kernel
theorem dX6_arrives_67 : decode cX6_arrives 67 = .ok (.iload_n 3, 1) := by decide +kernel
theorem dX6_arrives_68 : decode cX6_arrives 68 = .ok (.ireturn, 1) := by decide +kernel
theorem dX6_goesThrough_0 : decode cX6_goesThrough 0 = .ok (.iload_n 1, 1) := by decide +kernel
theorem dX6_goesThrough_1 : decode cX6_goesThrough 1 = .ok (.iload_n 2, 1) := by decide +kernel
theorem dX6_goesThrough_2 : decode cX6_goesThrough 2 = .ok (.if_icmp .ge 7, 3) := by decide +kernel
theorem dX6_goesThrough_5 : decode cX6_goesThrough 5 = .ok (.iconst 1, 1) := by decide +kernel
theorem dX6_goesThrough_6 : decode cX6_goesThrough 6 = .ok (.goto 4, 3) := by decide +kernel
theorem dX6_goesThrough_9 : decode cX6_goesThrough 9 = .ok (.iconst (-1), 1) := by decide +kernel
theorem dX6_goesThrough_10 : decode cX6_goesThrough 10 = .ok (.istore_n 3, 1) := by decide +kernel
theorem dX6_goesThrough_11 : decode cX6_goesThrough 11 = .ok (.iload_n 1, 1) := by decide +kernel
theorem dX6_goesThrough_12 : decode cX6_goesThrough 12 = .ok (.istore 4, 2) := by decide +kernel
theorem dX6_goesThrough_14 : decode cX6_goesThrough 14 = .ok (.iload 4, 2) := by decide +kernel
theorem dX6_goesThrough_16 : decode cX6_goesThrough 16 = .ok (.iload_n 2, 1) := by decide +kernel
theorem dX6_goesThrough_17 : decode cX6_goesThrough 17 = .ok (.if_icmp .eq 88, 3) := by decide +kernel
theorem dX6_goesThrough_20 : decode cX6_goesThrough 20 = .ok (.iload_n 3, 1) := by decide +kernel
theorem dX6_goesThrough_21 : decode cX6_goesThrough 21 = .ok (.ifCond .le 8, 3) := by decide +kernel
theorem dX6_goesThrough_24 : decode cX6_goesThrough 24 = .ok (.iload 4, 2) := by decide +kernel
theorem dX6_goesThrough_26 : decode cX6_goesThrough 26 = .ok (.goto 7, 3) := by decide +kernel
theorem dX6_goesThrough_29 : decode cX6_goesThrough 29 = .ok (.iload 4, 2) := by decide +kernel
theorem dX6_goesThrough_31 : decode cX6_goesThrough 31 = .ok (.iconst 1, 1) := by decide +kernel
theorem dX6_goesThrough_32 : decode cX6_goesThrough 32 = .ok (.isub, 1) := by decide +kernel
theorem dX6_goesThrough_33 : decode cX6_goesThrough 33 = .ok (.istore 5, 2) := by decide +kernel
theorem dX6_goesThrough_35 : decode cX6_goesThrough 35 = .ok (.iload_n 3, 1) := by decide +kernel
theorem dX6_goesThrough_36 : decode cX6_goesThrough 36 = .ok (.ifCond .le 13, 3) := by decide +kernel
theorem dX6_goesThrough_39 : decode cX6_goesThrough 39 = .ok (.aload_n 0, 1) := by decide +kernel
theorem dX6_goesThrough_40 : decode cX6_goesThrough 40 = .ok (.getfield 13, 3) := by decide +kernel
theorem dX6_goesThrough_43 : decode cX6_goesThrough 43 = .ok (.iload 5, 2) := by decide +kernel
theorem dX6_goesThrough_45 : decode cX6_goesThrough 45 = .ok (.iaload, 1) := by decide +kernel
theorem dX6_goesThrough_46 : decode cX6_goesThrough 46 = .ok (.goto 12, 3) := by decide +kernel
theorem dX6_goesThrough_49 : decode cX6_goesThrough 49 = .ok (.iconst 2, 1) := by decide +kernel
theorem dX6_goesThrough_50 : decode cX6_goesThrough 50 = .ok (.aload_n 0, 1) := by decide +kernel
theorem dX6_goesThrough_51 : decode cX6_goesThrough 51 = .ok (.getfield 13, 3) := by decide +kernel
theorem dX6_goesThrough_54 : decode cX6_goesThrough 54 = .ok (.iload 5, 2) := by decide +kernel
theorem dX6_goesThrough_56 : decode cX6_goesThrough 56 = .ok (.iaload, 1) := by decide +kernel
theorem dX6_goesThrough_57 : decode cX6_goesThrough 57 = .ok (.imul, 1) := by decide +kernel
theorem dX6_goesThrough_58 : decode cX6_goesThrough 58 = .ok (.istore 6, 2) := by decide +kernel
theorem dX6_goesThrough_60 : decode cX6_goesThrough 60 = .ok (.iload 6, 2) := by decide +kernel
theorem dX6_goesThrough_62 : decode cX6_goesThrough 62 = .ok (.ifCond .le 34, 3) := by decide +kernel
theorem dX6_goesThrough_65 : decode cX6_goesThrough 65 = .ok (.aload_n 0, 1) := by decide +kernel
theorem dX6_goesThrough_66 : decode cX6_goesThrough 66 = .ok (.invokevirtual 145, 3) := by decide +kernel
theorem dX6_goesThrough_69 : decode cX6_goesThrough 69 = .ok (.aload_n 0, 1) := by decide +kernel
theorem dX6_goesThrough_70 : decode cX6_goesThrough 70 = .ok (.getfield 37, 3) := by decide +kernel
theorem dX6_goesThrough_73 : decode cX6_goesThrough 73 = .ok (.iconst 0, 1) := by decide +kernel
theorem dX6_goesThrough_74 : decode cX6_goesThrough 74 = .ok (.dup2, 1) := by decide +kernel
theorem dX6_goesThrough_75 : decode cX6_goesThrough 75 = .ok (.iaload, 1) := by decide +kernel
theorem dX6_goesThrough_76 : decode cX6_goesThrough 76 = .ok (.iconst 1, 1) := by decide +kernel
theorem dX6_goesThrough_77 : decode cX6_goesThrough 77 = .ok (.iadd, 1) := by decide +kernel
theorem dX6_goesThrough_78 : decode cX6_goesThrough 78 = .ok (.iastore, 1) := by decide +kernel
theorem dX6_goesThrough_79 : decode cX6_goesThrough 79 = .ok (.aload_n 0, 1) := by decide +kernel
theorem dX6_goesThrough_80 : decode cX6_goesThrough 80 = .ok (.iload 5, 2) := by decide +kernel
theorem dX6_goesThrough_82 : decode cX6_goesThrough 82 = .ok (.invokevirtual 90, 3) := by decide +kernel
theorem dX6_goesThrough_85 : decode cX6_goesThrough 85 = .ok (.ifCond .ne 5, 3) := by decide +kernel
theorem dX6_goesThrough_88 : decode cX6_goesThrough 88 = .ok (.iconst 0, 1) := by decide +kernel
theorem dX6_goesThrough_89 : decode cX6_goesThrough 89 = .ok (.ireturn, 1) := by decide +kernel
theorem dX6_goesThrough_90 : decode cX6_goesThrough 90 = .ok (.iinc 6 (-1), 3) := by decide +kernel
theorem dX6_goesThrough_93 : decode cX6_goesThrough 93 = .ok (.goto (-33), 3) := by decide +kernel
theorem dX6_goesThrough_96 : decode cX6_goesThrough 96 = .ok (.iload 4, 2) := by decide +kernel
theorem dX6_goesThrough_98 : decode cX6_goesThrough 98 = .ok (.iload_n 3, 1) := by decide +kernel
theorem dX6_goesThrough_99 : decode cX6_goesThrough 99 = .ok (.iadd, 1) := by decide +kernel
theorem dX6_goesThrough_100 : decode cX6_goesThrough 100 = .ok (.istore 4, 2) := by decide +kernel
theorem dX6_goesThrough_102 : decode cX6_goesThrough 102 = .ok (.goto (-88), 3) := by decide +kernel
theorem dX6_goesThrough_105 : decode cX6_goesThrough 105 = .ok (.iconst 1, 1) := by decide +kernel
theorem dX6_goesThrough_106 : decode cX6_goesThrough 106 = .ok (.ireturn, 1) := by decide +kernel
theorem dX6_latest_0 : decode cX6_latest 0 = .ok (.aload_n 0, 1) := by decide +kernel
theorem dX6_latest_1 : decode cX6_latest 1 = .ok (.iconst 0, 1) := by decide +kernel
theorem dX6_latest_2 : decode cX6_latest 2 = .ok (.putfield 40, 3) := by decide +kernel
theorem dX6_latest_5 : decode cX6_latest 5 = .ok (.aload_n 0, 1) := by decide +kernel
theorem dX6_latest_6 : decode cX6_latest 6 = .ok (.iload_n 1, 1) := by decide +kernel
theorem dX6_latest_7 : decode cX6_latest 7 = .ok (.invokevirtual 61, 3) := by decide +kernel
theorem dX6_latest_10 : decode cX6_latest 10 = .ok (.ifCond .eq 11, 3) := by decide +kernel
theorem dX6_latest_13 : decode cX6_latest 13 = .ok (.aload_n 0, 1) := by decide +kernel
theorem dX6_latest_14 : decode cX6_latest 14 = .ok (.iload_n 2, 1) := by decide +kernel
theorem dX6_latest_15 : decode cX6_latest 15 = .ok (.invokevirtual 61, 3) := by decide +kernel
theorem dX6_latest_18 : decode cX6_latest 18 = .ok (.ifCond .ne 9, 3) := by decide +kernel
theorem dX6_latest_21 : decode cX6_latest 21 = .ok (.aload_n 0, 1) := by decide +kernel
theorem dX6_latest_22 : decode cX6_latest 22 = .ok (.iconst 1, 1) := by decide +kernel
theorem dX6_latest_23 : decode cX6_latest 23 = .ok (.invokevirtual 57, 3) := by decide +kernel
theorem dX6_latest_26 : decode cX6_latest 26 = .ok (.ireturn, 1) := by decide +kernel
theorem dX6_latest_27 : decode cX6_latest 27 = .ok (.aload_n 0, 1) := by decide +kernel
theorem dX6_latest_28 : decode cX6_latest 28 = .ok (.getfield 22, 3) := by decide +kernel
theorem dX6_latest_31 : decode cX6_latest 31 = .ok (.invokevirtual 159, 3) := by decide +kernel
theorem dX6_latest_34 : decode cX6_latest 34 = .ok (.checkcast 158, 3) := by decide +kernel
theorem dX6_latest_37 : decode cX6_latest 37 = .ok (.astore_n 3, 1) := by decide +kernel
theorem dX6_latest_38 : decode cX6_latest 38 = .ok (.aload_n 0, 1) := by decide +kernel
theorem dX6_latest_39 : decode cX6_latest 39 = .ok (.getfield 37, 3) := by decide +kernel
theorem dX6_latest_42 : decode cX6_latest 42 = .ok (.iconst 0, 1) := by decide +kernel
theorem dX6_latest_43 : decode cX6_latest 43 = .ok (.iaload, 1) := by decide +kernel
theorem dX6_latest_44 : decode cX6_latest 44 = .ok (.istore 4, 2) := by decide +kernel
theorem dX6_latest_46 : decode cX6_latest 46 = .ok (.iconst (-1), 1) := by decide +kernel
theorem dX6_latest_47 : decode cX6_latest 47 = .ok (.istore 5, 2) := by decide +kernel
theorem dX6_latest_49 : decode cX6_latest 49 = .ok (.bipush 60, 2) := by decide +kernel
theorem dX6_latest_51 : decode cX6_latest 51 = .ok (.istore 6, 2) := by decide +kernel
theorem dX6_latest_53 : decode cX6_latest 53 = .ok (.iload 6, 2) := by decide +kernel
theorem dX6_latest_55 : decode cX6_latest 55 = .ok (.ifCond .lt 78, 3) := by decide +kernel
theorem dX6_latest_58 : decode cX6_latest 58 = .ok (.iload 5, 2) := by decide +kernel
theorem dX6_latest_60 : decode cX6_latest 60 = .ok (.iconst (-1), 1) := by decide +kernel
theorem dX6_latest_61 : decode cX6_latest 61 = .ok (.if_icmp .ne 72, 3) := by decide +kernel
theorem dX6_latest_64 : decode cX6_latest 64 = .ok (.iconst 0, 1) := by decide +kernel
theorem dX6_latest_65 : decode cX6_latest 65 = .ok (.istore 7, 2) := by decide +kernel
theorem dX6_latest_67 : decode cX6_latest 67 = .ok (.iload 7, 2) := by decide +kernel
theorem dX6_latest_69 : decode cX6_latest 69 = .ok (.iload 6, 2) := by decide +kernel
theorem dX6_latest_71 : decode cX6_latest 71 = .ok (.if_icmp .ge 23, 3) := by decide +kernel
theorem dX6_latest_74 : decode cX6_latest 74 = .ok (.aload_n 0, 1) := by decide +kernel
theorem dX6_latest_75 : decode cX6_latest 75 = .ok (.invokevirtual 145, 3) := by decide +kernel
theorem dX6_latest_78 : decode cX6_latest 78 = .ok (.aload_n 0, 1) := by decide +kernel
theorem dX6_latest_79 : decode cX6_latest 79 = .ok (.getfield 37, 3) := by decide +kernel
theorem dX6_latest_82 : decode cX6_latest 82 = .ok (.iconst 0, 1) := by decide +kernel
theorem dX6_latest_83 : decode cX6_latest 83 = .ok (.dup2, 1) := by decide +kernel
theorem dX6_latest_84 : decode cX6_latest 84 = .ok (.iaload, 1) := by decide +kernel
theorem dX6_latest_85 : decode cX6_latest 85 = .ok (.iconst 1, 1) := by decide +kernel
theorem dX6_latest_86 : decode cX6_latest 86 = .ok (.iadd, 1) := by decide +kernel
theorem dX6_latest_87 : decode cX6_latest 87 = .ok (.iastore, 1) := by decide +kernel
theorem dX6_latest_88 : decode cX6_latest 88 = .ok (.iinc 7 1, 3) := by decide +kernel
theorem dX6_latest_91 : decode cX6_latest 91 = .ok (.goto (-24), 3) := by decide +kernel
theorem dX6_latest_94 : decode cX6_latest 94 = .ok (.aload_n 0, 1) := by decide +kernel
theorem dX6_latest_95 : decode cX6_latest 95 = .ok (.iload_n 1, 1) := by decide +kernel
theorem dX6_latest_96 : decode cX6_latest 96 = .ok (.iload_n 2, 1) := by decide +kernel
theorem dX6_latest_97 : decode cX6_latest 97 = .ok (.invokevirtual 174, 3) := by decide +kernel
theorem dX6_latest_100 : decode cX6_latest 100 = .ok (.ifCond .eq 7, 3) := by decide +kernel
theorem dX6_latest_103 : decode cX6_latest 103 = .ok (.iload 6, 2) := by decide +kernel
theorem dX6_latest_105 : decode cX6_latest 105 = .ok (.istore 5, 2) := by decide +kernel
theorem dX6_latest_107 : decode cX6_latest 107 = .ok (.aload_n 3, 1) := by decide +kernel
theorem dX6_latest_108 : decode cX6_latest 108 = .ok (.iconst 0, 1) := by decide +kernel
theorem dX6_latest_109 : decode cX6_latest 109 = .ok (.aload_n 0, 1) := by decide +kernel
theorem dX6_latest_110 : decode cX6_latest 110 = .ok (.getfield 22, 3) := by decide +kernel
theorem dX6_latest_113 : decode cX6_latest 113 = .ok (.iconst 0, 1) := by decide +kernel
theorem dX6_latest_114 : decode cX6_latest 114 = .ok (.bipush 8, 2) := by decide +kernel
theorem dX6_latest_116 : decode cX6_latest 116 = .ok (.invokestatic 115, 3) := by decide +kernel
theorem dX6_latest_119 : decode cX6_latest 119 = .ok (.aload_n 0, 1) := by decide +kernel
theorem dX6_latest_120 : decode cX6_latest 120 = .ok (.getfield 37, 3) := by decide +kernel
theorem dX6_latest_123 : decode cX6_latest 123 = .ok (.iconst 0, 1) := by decide +kernel
theorem dX6_latest_124 : decode cX6_latest 124 = .ok (.iload 4, 2) := by decide +kernel
theorem dX6_latest_126 : decode cX6_latest 126 = .ok (.iastore, 1) := by decide +kernel
theorem dX6_latest_127 : decode cX6_latest 127 = .ok (.iinc 6 (-1), 3) := by decide +kernel
theorem dX6_latest_130 : decode cX6_latest 130 = .ok (.goto (-77), 3) := by decide +kernel
theorem dX6_latest_133 : decode cX6_latest 133 = .ok (.iload 5, 2) := by decide +kernel
theorem dX6_latest_135 : decode cX6_latest 135 = .ok (.ireturn, 1) := by decide +kernel
theorem dX6_shelter_0 : decode cX6_shelter 0 = .ok (.aload_n 0, 1) := by decide +kernel
theorem dX6_shelter_1 : decode cX6_shelter 1 = .ok (.iload_n 1, 1) := by decide +kernel
theorem dX6_shelter_2 : decode cX6_shelter 2 = .ok (.iconst 3, 1) := by decide +kernel
theorem dX6_shelter_3 : decode cX6_shelter 3 = .ok (.invokevirtual 74, 3) := by decide +kernel
theorem dX6_shelter_6 : decode cX6_shelter 6 = .ok (.ifCond .ne 43, 3) := by decide +kernel
theorem dX6_shelter_9 : decode cX6_shelter 9 = .ok (.aload_n 0, 1) := by decide +kernel
theorem dX6_shelter_10 : decode cX6_shelter 10 = .ok (.iload_n 1, 1) := by decide +kernel
theorem dX6_shelter_11 : decode cX6_shelter 11 = .ok (.invokevirtual 167, 3) := by decide +kernel
theorem dX6_shelter_14 : decode cX6_shelter 14 = .ok (.ifCond .eq 35, 3) := by decide +kernel
theorem dX6_shelter_17 : decode cX6_shelter 17 = .ok (.aload_n 0, 1) := by decide +kernel
theorem dX6_shelter_18 : decode cX6_shelter 18 = .ok (.aload_n 0, 1) := by decide +kernel
theorem dX6_shelter_19 : decode cX6_shelter 19 = .ok (.iload_n 1, 1) := by decide +kernel
theorem dX6_shelter_20 : decode cX6_shelter 20 = .ok (.iconst 4, 1) := by decide +kernel
theorem dX6_shelter_21 : decode cX6_shelter 21 = .ok (.invokevirtual 74, 3) := by decide +kernel
theorem dX6_shelter_24 : decode cX6_shelter 24 = .ok (.iconst 1, 1) := by decide +kernel
theorem dX6_shelter_25 : decode cX6_shelter 25 = .ok (.invokevirtual 80, 3) := by decide +kernel
theorem dX6_shelter_28 : decode cX6_shelter 28 = .ok (.aload_n 0, 1) := by decide +kernel
theorem dX6_shelter_29 : decode cX6_shelter 29 = .ok (.getfield 16, 3) := by decide +kernel
theorem dX6_shelter_32 : decode cX6_shelter 32 = .ok (.aload_n 0, 1) := by decide +kernel
theorem dX6_shelter_33 : decode cX6_shelter 33 = .ok (.iload_n 1, 1) := by decide +kernel
theorem dX6_shelter_34 : decode cX6_shelter 34 = .ok (.iconst 4, 1) := by decide +kernel
theorem dX6_shelter_35 : decode cX6_shelter 35 = .ok (.invokevirtual 74, 3) := by decide +kernel
theorem dX6_shelter_38 : decode cX6_shelter 38 = .ok (.iaload, 1) := by decide +kernel
theorem dX6_shelter_39 : decode cX6_shelter 39 = .ok (.if_icmp .ge 10, 3) := by decide +kernel
theorem dX6_shelter_42 : decode cX6_shelter 42 = .ok (.aload_n 0, 1) := by decide +kernel
theorem dX6_shelter_43 : decode cX6_shelter 43 = .ok (.iload_n 1, 1) := by decide +kernel
theorem dX6_shelter_44 : decode cX6_shelter 44 = .ok (.iconst 3, 1) := by decide +kernel
theorem dX6_shelter_45 : decode cX6_shelter 45 = .ok (.iconst 1, 1) := by decide +kernel
theorem dX6_shelter_46 : decode cX6_shelter 46 = .ok (.invokevirtual 124, 3) := by decide +kernel
theorem dX6_shelter_49 : decode cX6_shelter 49 = .ok (.return_, 1) := by decide +kernel
theorem dX6_advise_0 : decode cX6_advise 0 = .ok (.aload_n 0, 1) := by decide +kernel
theorem dX6_advise_1 : decode cX6_advise 1 = .ok (.iconst 0, 1) := by decide +kernel
theorem dX6_advise_2 : decode cX6_advise 2 = .ok (.putfield 40, 3) := by decide +kernel
theorem dX6_advise_5 : decode cX6_advise 5 = .ok (.aload_n 0, 1) := by decide +kernel
theorem dX6_advise_6 : decode cX6_advise 6 = .ok (.iload_n 1, 1) := by decide +kernel
theorem dX6_advise_7 : decode cX6_advise 7 = .ok (.invokevirtual 121, 3) := by decide +kernel
theorem dX6_advise_10 : decode cX6_advise 10 = .ok (.ifCond .ne 9, 3) := by decide +kernel
theorem dX6_advise_13 : decode cX6_advise 13 = .ok (.aload_n 0, 1) := by decide +kernel
theorem dX6_advise_14 : decode cX6_advise 14 = .ok (.iconst 1, 1) := by decide +kernel
theorem dX6_advise_15 : decode cX6_advise 15 = .ok (.invokevirtual 57, 3) := by decide +kernel
theorem dX6_advise_18 : decode cX6_advise 18 = .ok (.ireturn, 1) := by decide +kernel
theorem dX6_advise_19 : decode cX6_advise 19 = .ok (.iload_n 2, 1) := by decide +kernel
theorem dX6_advise_20 : decode cX6_advise 20 = .ok (.iconst 1, 1) := by decide +kernel
theorem dX6_advise_21 : decode cX6_advise 21 = .ok (.bipush 120, 2) := by decide +kernel
theorem dX6_advise_23 : decode cX6_advise 23 = .ok (.invokestatic 47, 3) := by decide +kernel
theorem dX6_advise_26 : decode cX6_advise 26 = .ok (.ifCond .ne 9, 3) := by decide +kernel
theorem dX6_advise_29 : decode cX6_advise 29 = .ok (.aload_n 0, 1) := by decide +kernel
theorem dX6_advise_30 : decode cX6_advise 30 = .ok (.iconst 2, 1) := by decide +kernel
theorem dX6_advise_31 : decode cX6_advise 31 = .ok (.invokevirtual 57, 3) := by decide +kernel
theorem dX6_advise_34 : decode cX6_advise 34 = .ok (.ireturn, 1) := by decide +kernel
theorem dX6_advise_35 : decode cX6_advise 35 = .ok (.aload_n 0, 1) := by decide +kernel
theorem dX6_advise_36 : decode cX6_advise 36 = .ok (.iload_n 1, 1) := by decide +kernel
theorem dX6_advise_37 : decode cX6_advise 37 = .ok (.iconst 3, 1) := by decide +kernel
theorem dX6_advise_38 : decode cX6_advise 38 = .ok (.invokevirtual 74, 3) := by decide +kernel
theorem dX6_advise_41 : decode cX6_advise 41 = .ok (.iconst 3, 1) := by decide +kernel
theorem dX6_advise_42 : decode cX6_advise 42 = .ok (.if_icmp .ne 5, 3) := by decide +kernel
theorem dX6_advise_45 : decode cX6_advise 45 = .ok (.iconst (-1), 1) := by decide +kernel
theorem dX6_advise_46 : decode cX6_advise 46 = .ok (.ireturn, 1) := by decide +kernel
theorem dX6_advise_47 : decode cX6_advise 47 = .ok (.aload_n 0, 1) := by decide +kernel
theorem dX6_advise_48 : decode cX6_advise 48 = .ok (.invokevirtual 163, 3) := by decide +kernel
theorem dX6_advise_51 : decode cX6_advise 51 = .ok (.astore_n 3, 1) := by decide +kernel
theorem dX6_advise_52 : decode cX6_advise 52 = .ok (.iconst (-1), 1) := by decide +kernel
theorem dX6_advise_53 : decode cX6_advise 53 = .ok (.istore 4, 2) := by decide +kernel
theorem dX6_advise_55 : decode cX6_advise 55 = .ok (.iconst 0, 1) := by decide +kernel
theorem dX6_advise_56 : decode cX6_advise 56 = .ok (.istore 5, 2) := by decide +kernel
theorem dX6_advise_58 : decode cX6_advise 58 = .ok (.iconst 0, 1) := by decide +kernel
theorem dX6_advise_59 : decode cX6_advise 59 = .ok (.istore 6, 2) := by decide +kernel
theorem dX6_advise_61 : decode cX6_advise 61 = .ok (.iload 6, 2) := by decide +kernel
theorem dX6_advise_63 : decode cX6_advise 63 = .ok (.aload_n 0, 1) := by decide +kernel
theorem dX6_advise_64 : decode cX6_advise 64 = .ok (.getfield 44, 3) := by decide +kernel
theorem dX6_advise_67 : decode cX6_advise 67 = .ok (.if_icmp .ge 92, 3) := by decide +kernel
theorem dX6_advise_70 : decode cX6_advise 70 = .ok (.aload_n 0, 1) := by decide +kernel
theorem dX6_advise_71 : decode cX6_advise 71 = .ok (.iload_n 1, 1) := by decide +kernel
theorem dX6_advise_72 : decode cX6_advise 72 = .ok (.iconst 5, 1) := by decide +kernel
theorem dX6_advise_73 : decode cX6_advise 73 = .ok (.iload 6, 2) := by decide +kernel
theorem dX6_advise_75 : decode cX6_advise 75 = .ok (.invokevirtual 124, 3) := by decide +kernel
theorem dX6_advise_78 : decode cX6_advise 78 = .ok (.aload_n 0, 1) := by decide +kernel
theorem dX6_advise_79 : decode cX6_advise 79 = .ok (.iload_n 1, 1) := by decide +kernel
theorem dX6_advise_80 : decode cX6_advise 80 = .ok (.invokevirtual 177, 3) := by decide +kernel
theorem dX6_advise_83 : decode cX6_advise 83 = .ok (.iconst 0, 1) := by decide +kernel
theorem dX6_advise_84 : decode cX6_advise 84 = .ok (.istore 7, 2) := by decide +kernel
theorem dX6_advise_86 : decode cX6_advise 86 = .ok (.iload 7, 2) := by decide +kernel
theorem dX6_advise_88 : decode cX6_advise 88 = .ok (.iload_n 2, 1) := by decide +kernel
theorem dX6_advise_89 : decode cX6_advise 89 = .ok (.if_icmp .ge 19, 3) := by decide +kernel
theorem dX6_advise_92 : decode cX6_advise 92 = .ok (.aload_n 0, 1) := by decide +kernel
theorem dX6_advise_93 : decode cX6_advise 93 = .ok (.invokevirtual 152, 3) := by decide +kernel
theorem dX6_advise_96 : decode cX6_advise 96 = .ok (.pop, 1) := by decide +kernel
theorem dX6_advise_97 : decode cX6_advise 97 = .ok (.aload_n 0, 1) := by decide +kernel
theorem dX6_advise_98 : decode cX6_advise 98 = .ok (.iload_n 1, 1) := by decide +kernel
theorem dX6_advise_99 : decode cX6_advise 99 = .ok (.invokevirtual 177, 3) := by decide +kernel
theorem dX6_advise_102 : decode cX6_advise 102 = .ok (.iinc 7 1, 3) := by decide +kernel
theorem dX6_advise_105 : decode cX6_advise 105 = .ok (.goto (-19), 3) := by decide +kernel
theorem dX6_advise_108 : decode cX6_advise 108 = .ok (.aload_n 0, 1) := by decide +kernel
theorem dX6_advise_109 : decode cX6_advise 109 = .ok (.iload_n 1, 1) := by decide +kernel
theorem dX6_advise_110 : decode cX6_advise 110 = .ok (.iconst 3, 1) := by decide +kernel
theorem dX6_advise_111 : decode cX6_advise 111 = .ok (.invokevirtual 74, 3) := by decide +kernel
theorem dX6_advise_114 : decode cX6_advise 114 = .ok (.iconst 3, 1) := by decide +kernel
theorem dX6_advise_115 : decode cX6_advise 115 = .ok (.if_icmp .ne 7, 3) := by decide +kernel
theorem dX6_advise_118 : decode cX6_advise 118 = .ok (.iconst 0, 1) := by decide +kernel
theorem dX6_advise_119 : decode cX6_advise 119 = .ok (.goto 9, 3) := by decide +kernel
theorem dX6_advise_122 : decode cX6_advise 122 = .ok (.aload_n 0, 1) := by decide +kernel
theorem dX6_advise_123 : decode cX6_advise 123 = .ok (.iload_n 1, 1) := by decide +kernel
theorem dX6_advise_124 : decode cX6_advise 124 = .ok (.iconst 1, 1) := by decide +kernel
theorem dX6_advise_125 : decode cX6_advise 125 = .ok (.invokevirtual 74, 3) := by decide +kernel
theorem dX6_advise_128 : decode cX6_advise 128 = .ok (.istore 7, 2) := by decide +kernel
theorem dX6_advise_130 : decode cX6_advise 130 = .ok (.aload_n 0, 1) := by decide +kernel
theorem dX6_advise_131 : decode cX6_advise 131 = .ok (.aload_n 3, 1) := by decide +kernel
theorem dX6_advise_132 : decode cX6_advise 132 = .ok (.invokevirtual 170, 3) := by decide +kernel
theorem dX6_advise_135 : decode cX6_advise 135 = .ok (.iload 7, 2) := by decide +kernel
theorem dX6_advise_137 : decode cX6_advise 137 = .ok (.iload 5, 2) := by decide +kernel
theorem dX6_advise_139 : decode cX6_advise 139 = .ok (.if_icmp .gt 6, 3) := by decide +kernel
theorem dX6_advise_142 : decode cX6_advise 142 = .ok (.goto 11, 3) := by decide +kernel
theorem dX6_advise_145 : decode cX6_advise 145 = .ok (.iload 6, 2) := by decide +kernel
theorem dX6_advise_147 : decode cX6_advise 147 = .ok (.istore 4, 2) := by decide +kernel
theorem dX6_advise_149 : decode cX6_advise 149 = .ok (.iload 7, 2) := by decide +kernel
theorem dX6_advise_151 : decode cX6_advise 151 = .ok (.istore 5, 2) := by decide +kernel
theorem dX6_advise_153 : decode cX6_advise 153 = .ok (.iinc 6 1, 3) := by decide +kernel
theorem dX6_advise_156 : decode cX6_advise 156 = .ok (.goto (-95), 3) := by decide +kernel
theorem dX6_advise_159 : decode cX6_advise 159 = .ok (.iload 4, 2) := by decide +kernel
theorem dX6_advise_161 : decode cX6_advise 161 = .ok (.ireturn, 1) := by decide +kernel
theorem dX6_mean_0 : decode cX6_mean 0 = .ok (.aload_n 0, 1) := by decide +kernel
theorem dX6_mean_1 : decode cX6_mean 1 = .ok (.iconst 0, 1) := by decide +kernel
theorem dX6_mean_2 : decode cX6_mean 2 = .ok (.putfield 40, 3) := by decide +kernel
theorem dX6_mean_5 : decode cX6_mean 5 = .ok (.iconst 0, 1) := by decide +kernel
theorem dX6_mean_6 : decode cX6_mean 6 = .ok (.istore_n 1, 1) := by decide +kernel
theorem dX6_mean_7 : decode cX6_mean 7 = .ok (.iconst 0, 1) := by decide +kernel
theorem dX6_mean_8 : decode cX6_mean 8 = .ok (.istore_n 2, 1) := by decide +kernel
theorem dX6_mean_9 : decode cX6_mean 9 = .ok (.iload_n 2, 1) := by decide +kernel
theorem dX6_mean_10 : decode cX6_mean 10 = .ok (.aload_n 0, 1) := by decide +kernel
theorem dX6_mean_11 : decode cX6_mean 11 = .ok (.getfield 54, 3) := by decide +kernel
theorem dX6_mean_14 : decode cX6_mean 14 = .ok (.if_icmp .ge 32, 3) := by decide +kernel
theorem dX6_mean_17 : decode cX6_mean 17 = .ok (.iload_n 1, 1) := by decide +kernel
theorem dX6_mean_18 : decode cX6_mean 18 = .ok (.aload_n 0, 1) := by decide +kernel
theorem dX6_mean_19 : decode cX6_mean 19 = .ok (.iload_n 2, 1) := by decide +kernel
theorem dX6_mean_20 : decode cX6_mean 20 = .ok (.iconst 3, 1) := by decide +kernel
theorem dX6_mean_21 : decode cX6_mean 21 = .ok (.invokevirtual 74, 3) := by decide +kernel
theorem dX6_mean_24 : decode cX6_mean 24 = .ok (.iconst 3, 1) := by decide +kernel
theorem dX6_mean_25 : decode cX6_mean 25 = .ok (.if_icmp .ne 7, 3) := by decide +kernel
theorem dX6_mean_28 : decode cX6_mean 28 = .ok (.iconst 0, 1) := by decide +kernel
theorem dX6_mean_29 : decode cX6_mean 29 = .ok (.goto 9, 3) := by decide +kernel
theorem dX6_mean_32 : decode cX6_mean 32 = .ok (.aload_n 0, 1) := by decide +kernel
theorem dX6_mean_33 : decode cX6_mean 33 = .ok (.iload_n 2, 1) := by decide +kernel
theorem dX6_mean_34 : decode cX6_mean 34 = .ok (.iconst 1, 1) := by decide +kernel
theorem dX6_mean_35 : decode cX6_mean 35 = .ok (.invokevirtual 74, 3) := by decide +kernel
theorem dX6_mean_38 : decode cX6_mean 38 = .ok (.iadd, 1) := by decide +kernel
theorem dX6_mean_39 : decode cX6_mean 39 = .ok (.istore_n 1, 1) := by decide +kernel
theorem dX6_mean_40 : decode cX6_mean 40 = .ok (.iinc 2 1, 3) := by decide +kernel
theorem dX6_mean_43 : decode cX6_mean 43 = .ok (.goto (-34), 3) := by decide +kernel
theorem dX6_mean_46 : decode cX6_mean 46 = .ok (.aload_n 0, 1) := by decide +kernel
theorem dX6_mean_47 : decode cX6_mean 47 = .ok (.getfield 54, 3) := by decide +kernel
theorem dX6_mean_50 : decode cX6_mean 50 = .ok (.aload_n 0, 1) := by decide +kernel
theorem dX6_mean_51 : decode cX6_mean 51 = .ok (.invokevirtual 141, 3) := by decide +kernel
theorem dX6_mean_54 : decode cX6_mean 54 = .ok (.isub, 1) := by decide +kernel
theorem dX6_mean_55 : decode cX6_mean 55 = .ok (.istore_n 2, 1) := by decide +kernel
theorem dX6_mean_56 : decode cX6_mean 56 = .ok (.iload_n 2, 1) := by decide +kernel
theorem dX6_mean_57 : decode cX6_mean 57 = .ok (.ifCond .ne 7, 3) := by decide +kernel
theorem dX6_mean_60 : decode cX6_mean 60 = .ok (.dconst 0, 1) := by decide +kernel
theorem dX6_mean_61 : decode cX6_mean 61 = .ok (.goto 8, 3) := by decide +kernel
theorem dX6_mean_64 : decode cX6_mean 64 = .ok (.iload_n 1, 1) := by decide +kernel
theorem dX6_mean_65 : decode cX6_mean 65 = .ok (.i2d, 1) := by decide +kernel
theorem dX6_mean_66 : decode cX6_mean 66 = .ok (.iload_n 2, 1) := by decide +kernel
theorem dX6_mean_67 : decode cX6_mean 67 = .ok (.i2d, 1) := by decide +kernel
theorem dX6_mean_68 : decode cX6_mean 68 = .ok (.ddiv, 1) := by decide +kernel
theorem dX6_mean_69 : decode cX6_mean 69 = .ok (.dreturn, 1) := by decide +kernel
theorem dX6_digest_0 : decode cX6_digest 0 = .ok (.aload_n 0, 1) := by decide +kernel
theorem dX6_digest_1 : decode cX6_digest 1 = .ok (.iconst 0, 1) := by decide +kernel
theorem dX6_digest_2 : decode cX6_digest 2 = .ok (.putfield 40, 3) := by decide +kernel
theorem dX6_digest_5 : decode cX6_digest 5 = .ok (.ldc2_w 180, 3) := by decide +kernel
theorem dX6_digest_8 : decode cX6_digest 8 = .ok (.lstore_n 1, 1) := by decide +kernel
theorem dX6_digest_9 : decode cX6_digest 9 = .ok (.iconst 0, 1) := by decide +kernel
theorem dX6_digest_10 : decode cX6_digest 10 = .ok (.istore_n 3, 1) := by decide +kernel
theorem dX6_digest_11 : decode cX6_digest 11 = .ok (.iload_n 3, 1) := by decide +kernel
theorem dX6_digest_12 : decode cX6_digest 12 = .ok (.bipush 10, 2) := by decide +kernel
theorem dX6_digest_14 : decode cX6_digest 14 = .ok (.if_icmp .ge 22, 3) := by decide +kernel
theorem dX6_digest_17 : decode cX6_digest 17 = .ok (.lload_n 1, 1) := by decide +kernel
theorem dX6_digest_18 : decode cX6_digest 18 = .ok (.ldc2_w 182, 3) := by decide +kernel
theorem dX6_digest_21 : decode cX6_digest 21 = .ok (.lmul, 1) := by decide +kernel
theorem dX6_digest_22 : decode cX6_digest 22 = .ok (.aload_n 0, 1) := by decide +kernel
theorem dX6_digest_23 : decode cX6_digest 23 = .ok (.iload_n 3, 1) := by decide +kernel
theorem dX6_digest_24 : decode cX6_digest 24 = .ok (.invokevirtual 155, 3) := by decide +kernel
theorem dX6_digest_27 : decode cX6_digest 27 = .ok (.i2l, 1) := by decide +kernel
theorem dX6_digest_28 : decode cX6_digest 28 = .ok (.ladd, 1) := by decide +kernel
theorem dX6_digest_29 : decode cX6_digest 29 = .ok (.lstore_n 1, 1) := by decide +kernel
theorem dX6_digest_30 : decode cX6_digest 30 = .ok (.iinc 3 1, 3) := by decide +kernel
theorem dX6_digest_33 : decode cX6_digest 33 = .ok (.goto (-22), 3) := by decide +kernel
theorem dX6_digest_36 : decode cX6_digest 36 = .ok (.aload_n 0, 1) := by decide +kernel
theorem dX6_digest_37 : decode cX6_digest 37 = .ok (.getfield 9, 3) := by decide +kernel
theorem dX6_digest_40 : decode cX6_digest 40 = .ok (.astore_n 3, 1) := by decide +kernel
theorem dX6_digest_41 : decode cX6_digest 41 = .ok (.aload_n 3, 1) := by decide +kernel
theorem dX6_digest_42 : decode cX6_digest 42 = .ok (.arraylength, 1) := by decide +kernel
theorem dX6_digest_43 : decode cX6_digest 43 = .ok (.istore 4, 2) := by decide +kernel
theorem dX6_digest_45 : decode cX6_digest 45 = .ok (.iconst 0, 1) := by decide +kernel
theorem dX6_digest_46 : decode cX6_digest 46 = .ok (.istore 5, 2) := by decide +kernel
theorem dX6_digest_48 : decode cX6_digest 48 = .ok (.iload 5, 2) := by decide +kernel
theorem dX6_digest_50 : decode cX6_digest 50 = .ok (.iload 4, 2) := by decide +kernel
theorem dX6_digest_52 : decode cX6_digest 52 = .ok (.if_icmp .ge 25, 3) := by decide +kernel
theorem dX6_digest_55 : decode cX6_digest 55 = .ok (.aload_n 3, 1) := by decide +kernel
theorem dX6_digest_56 : decode cX6_digest 56 = .ok (.iload 5, 2) := by decide +kernel
theorem dX6_digest_58 : decode cX6_digest 58 = .ok (.iaload, 1) := by decide +kernel
theorem dX6_digest_59 : decode cX6_digest 59 = .ok (.istore 6, 2) := by decide +kernel
theorem dX6_digest_61 : decode cX6_digest 61 = .ok (.lload_n 1, 1) := by decide +kernel
theorem dX6_digest_62 : decode cX6_digest 62 = .ok (.ldc2_w 182, 3) := by decide +kernel
theorem dX6_digest_65 : decode cX6_digest 65 = .ok (.lmul, 1) := by decide +kernel
theorem dX6_digest_66 : decode cX6_digest 66 = .ok (.iload 6, 2) := by decide +kernel
theorem dX6_digest_68 : decode cX6_digest 68 = .ok (.i2l, 1) := by decide +kernel
theorem dX6_digest_69 : decode cX6_digest 69 = .ok (.ladd, 1) := by decide +kernel
theorem dX6_digest_70 : decode cX6_digest 70 = .ok (.lstore_n 1, 1) := by decide +kernel
theorem dX6_digest_71 : decode cX6_digest 71 = .ok (.iinc 5 1, 3) := by decide +kernel
theorem dX6_digest_74 : decode cX6_digest 74 = .ok (.goto (-26), 3) := by decide +kernel
theorem dX6_digest_77 : decode cX6_digest 77 = .ok (.iconst 0, 1) := by decide +kernel
theorem dX6_digest_78 : decode cX6_digest 78 = .ok (.istore_n 3, 1) := by decide +kernel
theorem dX6_digest_79 : decode cX6_digest 79 = .ok (.iload_n 3, 1) := by decide +kernel
theorem dX6_digest_80 : decode cX6_digest 80 = .ok (.aload_n 0, 1) := by decide +kernel
theorem dX6_digest_81 : decode cX6_digest 81 = .ok (.getfield 44, 3) := by decide +kernel
theorem dX6_digest_84 : decode cX6_digest 84 = .ok (.if_icmp .ge 40, 3) := by decide +kernel
theorem dX6_digest_87 : decode cX6_digest 87 = .ok (.iconst 0, 1) := by decide +kernel
theorem dX6_digest_88 : decode cX6_digest 88 = .ok (.istore 4, 2) := by decide +kernel
theorem dX6_digest_90 : decode cX6_digest 90 = .ok (.iload 4, 2) := by decide +kernel
theorem dX6_digest_92 : decode cX6_digest 92 = .ok (.bipush 8, 2) := by decide +kernel
theorem dX6_digest_94 : decode cX6_digest 94 = .ok (.if_icmp .ge 24, 3) := by decide +kernel
theorem dX6_digest_97 : decode cX6_digest 97 = .ok (.lload_n 1, 1) := by decide +kernel
theorem dX6_digest_98 : decode cX6_digest 98 = .ok (.ldc2_w 182, 3) := by decide +kernel
theorem dX6_digest_101 : decode cX6_digest 101 = .ok (.lmul, 1) := by decide +kernel
theorem dX6_digest_102 : decode cX6_digest 102 = .ok (.aload_n 0, 1) := by decide +kernel
theorem dX6_digest_103 : decode cX6_digest 103 = .ok (.iload_n 3, 1) := by decide +kernel
theorem dX6_digest_104 : decode cX6_digest 104 = .ok (.iload 4, 2) := by decide +kernel
theorem dX6_digest_106 : decode cX6_digest 106 = .ok (.invokevirtual 87, 3) := by decide +kernel
theorem dX6_digest_109 : decode cX6_digest 109 = .ok (.i2l, 1) := by decide +kernel
theorem dX6_digest_110 : decode cX6_digest 110 = .ok (.ladd, 1) := by decide +kernel
theorem dX6_digest_111 : decode cX6_digest 111 = .ok (.lstore_n 1, 1) := by decide +kernel
theorem dX6_digest_112 : decode cX6_digest 112 = .ok (.iinc 4 1, 3) := by decide +kernel
theorem dX6_digest_115 : decode cX6_digest 115 = .ok (.goto (-25), 3) := by decide +kernel
theorem dX6_digest_118 : decode cX6_digest 118 = .ok (.iinc 3 1, 3) := by decide +kernel
theorem dX6_digest_121 : decode cX6_digest 121 = .ok (.goto (-42), 3) := by decide +kernel
theorem dX6_digest_124 : decode cX6_digest 124 = .ok (.iconst 0, 1) := by decide +kernel
theorem dX6_digest_125 : decode cX6_digest 125 = .ok (.istore_n 3, 1) := by decide +kernel
theorem dX6_digest_126 : decode cX6_digest 126 = .ok (.iload_n 3, 1) := by decide +kernel
theorem dX6_digest_127 : decode cX6_digest 127 = .ok (.aload_n 0, 1) := by decide +kernel
theorem dX6_digest_128 : decode cX6_digest 128 = .ok (.getfield 44, 3) := by decide +kernel
theorem dX6_digest_131 : decode cX6_digest 131 = .ok (.iconst 1, 1) := by decide +kernel
theorem dX6_digest_132 : decode cX6_digest 132 = .ok (.isub, 1) := by decide +kernel
theorem dX6_digest_133 : decode cX6_digest 133 = .ok (.if_icmp .ge 39, 3) := by decide +kernel
theorem dX6_digest_136 : decode cX6_digest 136 = .ok (.iconst 0, 1) := by decide +kernel
theorem dX6_digest_137 : decode cX6_digest 137 = .ok (.istore 4, 2) := by decide +kernel
theorem dX6_digest_139 : decode cX6_digest 139 = .ok (.iload 4, 2) := by decide +kernel
theorem dX6_digest_141 : decode cX6_digest 141 = .ok (.iconst 4, 1) := by decide +kernel
theorem dX6_digest_142 : decode cX6_digest 142 = .ok (.if_icmp .ge 24, 3) := by decide +kernel
theorem dX6_digest_145 : decode cX6_digest 145 = .ok (.lload_n 1, 1) := by decide +kernel
theorem dX6_digest_146 : decode cX6_digest 146 = .ok (.ldc2_w 182, 3) := by decide +kernel
theorem dX6_digest_149 : decode cX6_digest 149 = .ok (.lmul, 1) := by decide +kernel
theorem dX6_digest_150 : decode cX6_digest 150 = .ok (.aload_n 0, 1) := by decide +kernel
theorem dX6_digest_151 : decode cX6_digest 151 = .ok (.iload_n 3, 1) := by decide +kernel
theorem dX6_digest_152 : decode cX6_digest 152 = .ok (.iload 4, 2) := by decide +kernel
theorem dX6_digest_154 : decode cX6_digest 154 = .ok (.invokevirtual 93, 3) := by decide +kernel
theorem dX6_digest_157 : decode cX6_digest 157 = .ok (.i2l, 1) := by decide +kernel
theorem dX6_digest_158 : decode cX6_digest 158 = .ok (.ladd, 1) := by decide +kernel
theorem dX6_digest_159 : decode cX6_digest 159 = .ok (.lstore_n 1, 1) := by decide +kernel
theorem dX6_digest_160 : decode cX6_digest 160 = .ok (.iinc 4 1, 3) := by decide +kernel
theorem dX6_digest_163 : decode cX6_digest 163 = .ok (.goto (-24), 3) := by decide +kernel
theorem dX6_digest_166 : decode cX6_digest 166 = .ok (.iinc 3 1, 3) := by decide +kernel
theorem dX6_digest_169 : decode cX6_digest 169 = .ok (.goto (-43), 3) := by decide +kernel
theorem dX6_digest_172 : decode cX6_digest 172 = .ok (.iconst 0, 1) := by decide +kernel
theorem dX6_digest_173 : decode cX6_digest 173 = .ok (.istore_n 3, 1) := by decide +kernel
theorem dX6_digest_174 : decode cX6_digest 174 = .ok (.iload_n 3, 1) := by decide +kernel
theorem dX6_digest_175 : decode cX6_digest 175 = .ok (.aload_n 0, 1) := by decide +kernel
theorem dX6_digest_176 : decode cX6_digest 176 = .ok (.getfield 51, 3) := by decide +kernel
theorem dX6_digest_179 : decode cX6_digest 179 = .ok (.if_icmp .ge 94, 3) := by decide +kernel
theorem dX6_digest_182 : decode cX6_digest 182 = .ok (.iconst 0, 1) := by decide +kernel
theorem dX6_digest_183 : decode cX6_digest 183 = .ok (.istore 4, 2) := by decide +kernel
theorem dX6_digest_185 : decode cX6_digest 185 = .ok (.iload 4, 2) := by decide +kernel
theorem dX6_digest_187 : decode cX6_digest 187 = .ok (.bipush 6, 2) := by decide +kernel
theorem dX6_digest_189 : decode cX6_digest 189 = .ok (.if_icmp .ge 24, 3) := by decide +kernel
theorem dX6_digest_192 : decode cX6_digest 192 = .ok (.lload_n 1, 1) := by decide +kernel
theorem dX6_digest_193 : decode cX6_digest 193 = .ok (.ldc2_w 182, 3) := by decide +kernel
theorem dX6_digest_196 : decode cX6_digest 196 = .ok (.lmul, 1) := by decide +kernel
theorem dX6_digest_197 : decode cX6_digest 197 = .ok (.aload_n 0, 1) := by decide +kernel
theorem dX6_digest_198 : decode cX6_digest 198 = .ok (.iload_n 3, 1) := by decide +kernel
theorem dX6_digest_199 : decode cX6_digest 199 = .ok (.iload 4, 2) := by decide +kernel
theorem dX6_digest_201 : decode cX6_digest 201 = .ok (.invokevirtual 112, 3) := by decide +kernel
theorem dX6_digest_204 : decode cX6_digest 204 = .ok (.i2l, 1) := by decide +kernel
theorem dX6_digest_205 : decode cX6_digest 205 = .ok (.ladd, 1) := by decide +kernel
theorem dX6_digest_206 : decode cX6_digest 206 = .ok (.lstore_n 1, 1) := by decide +kernel
theorem dX6_digest_207 : decode cX6_digest 207 = .ok (.iinc 4 1, 3) := by decide +kernel
theorem dX6_digest_210 : decode cX6_digest 210 = .ok (.goto (-25), 3) := by decide +kernel
theorem dX6_digest_213 : decode cX6_digest 213 = .ok (.iconst 0, 1) := by decide +kernel
theorem dX6_digest_214 : decode cX6_digest 214 = .ok (.istore 4, 2) := by decide +kernel
theorem dX6_digest_216 : decode cX6_digest 216 = .ok (.iload 4, 2) := by decide +kernel
theorem dX6_digest_218 : decode cX6_digest 218 = .ok (.aload_n 0, 1) := by decide +kernel
theorem dX6_digest_219 : decode cX6_digest 219 = .ok (.getfield 44, 3) := by decide +kernel
theorem dX6_digest_222 : decode cX6_digest 222 = .ok (.if_icmp .ge 45, 3) := by decide +kernel
theorem dX6_digest_225 : decode cX6_digest 225 = .ok (.iconst 0, 1) := by decide +kernel
theorem dX6_digest_226 : decode cX6_digest 226 = .ok (.istore 5, 2) := by decide +kernel
theorem dX6_digest_228 : decode cX6_digest 228 = .ok (.iload 5, 2) := by decide +kernel
theorem dX6_digest_230 : decode cX6_digest 230 = .ok (.iconst 4, 1) := by decide +kernel
theorem dX6_digest_231 : decode cX6_digest 231 = .ok (.if_icmp .ge 30, 3) := by decide +kernel
theorem dX6_digest_234 : decode cX6_digest 234 = .ok (.lload_n 1, 1) := by decide +kernel
theorem dX6_digest_235 : decode cX6_digest 235 = .ok (.ldc2_w 182, 3) := by decide +kernel
theorem dX6_digest_238 : decode cX6_digest 238 = .ok (.lmul, 1) := by decide +kernel
theorem dX6_digest_239 : decode cX6_digest 239 = .ok (.aload_n 0, 1) := by decide +kernel
theorem dX6_digest_240 : decode cX6_digest 240 = .ok (.getfield 28, 3) := by decide +kernel
theorem dX6_digest_243 : decode cX6_digest 243 = .ok (.iload_n 3, 1) := by decide +kernel
theorem dX6_digest_244 : decode cX6_digest 244 = .ok (.iload 4, 2) := by decide +kernel
theorem dX6_digest_246 : decode cX6_digest 246 = .ok (.iload 5, 2) := by decide +kernel
theorem dX6_digest_248 : decode cX6_digest 248 = .ok (.invokestatic 99, 3) := by decide +kernel
theorem dX6_digest_251 : decode cX6_digest 251 = .ok (.iaload, 1) := by decide +kernel
theorem dX6_digest_252 : decode cX6_digest 252 = .ok (.i2l, 1) := by decide +kernel
theorem dX6_digest_253 : decode cX6_digest 253 = .ok (.ladd, 1) := by decide +kernel
theorem dX6_digest_254 : decode cX6_digest 254 = .ok (.lstore_n 1, 1) := by decide +kernel
theorem dX6_digest_255 : decode cX6_digest 255 = .ok (.iinc 5 1, 3) := by decide +kernel
theorem dX6_digest_258 : decode cX6_digest 258 = .ok (.goto (-30), 3) := by decide +kernel
theorem dX6_digest_261 : decode cX6_digest 261 = .ok (.iinc 4 1, 3) := by decide +kernel
theorem dX6_digest_264 : decode cX6_digest 264 = .ok (.goto (-48), 3) := by decide +kernel
theorem dX6_digest_267 : decode cX6_digest 267 = .ok (.iinc 3 1, 3) := by decide +kernel
theorem dX6_digest_270 : decode cX6_digest 270 = .ok (.goto (-96), 3) := by decide +kernel
theorem dX6_digest_273 : decode cX6_digest 273 = .ok (.iconst 0, 1) := by decide +kernel
theorem dX6_digest_274 : decode cX6_digest 274 = .ok (.istore_n 3, 1) := by decide +kernel
theorem dX6_digest_275 : decode cX6_digest 275 = .ok (.iload_n 3, 1) := by decide +kernel
theorem dX6_digest_276 : decode cX6_digest 276 = .ok (.aload_n 0, 1) := by decide +kernel
theorem dX6_digest_277 : decode cX6_digest 277 = .ok (.getfield 54, 3) := by decide +kernel
theorem dX6_digest_280 : decode cX6_digest 280 = .ok (.if_icmp .ge 40, 3) := by decide +kernel
theorem dX6_digest_283 : decode cX6_digest 283 = .ok (.iconst 0, 1) := by decide +kernel
theorem dX6_digest_284 : decode cX6_digest 284 = .ok (.istore 4, 2) := by decide +kernel
theorem dX6_digest_286 : decode cX6_digest 286 = .ok (.iload 4, 2) := by decide +kernel
theorem dX6_digest_288 : decode cX6_digest 288 = .ok (.bipush 12, 2) := by decide +kernel
theorem dX6_digest_290 : decode cX6_digest 290 = .ok (.if_icmp .ge 24, 3) := by decide +kernel
theorem dX6_digest_293 : decode cX6_digest 293 = .ok (.lload_n 1, 1) := by decide +kernel
theorem dX6_digest_294 : decode cX6_digest 294 = .ok (.ldc2_w 182, 3) := by decide +kernel
theorem dX6_digest_297 : decode cX6_digest 297 = .ok (.lmul, 1) := by decide +kernel
theorem dX6_digest_298 : decode cX6_digest 298 = .ok (.aload_n 0, 1) := by decide +kernel
theorem dX6_digest_299 : decode cX6_digest 299 = .ok (.iload_n 3, 1) := by decide +kernel
theorem dX6_digest_300 : decode cX6_digest 300 = .ok (.iload 4, 2) := by decide +kernel
theorem dX6_digest_302 : decode cX6_digest 302 = .ok (.invokevirtual 134, 3) := by decide +kernel
theorem dX6_digest_305 : decode cX6_digest 305 = .ok (.i2l, 1) := by decide +kernel
theorem dX6_digest_306 : decode cX6_digest 306 = .ok (.ladd, 1) := by decide +kernel
theorem dX6_digest_307 : decode cX6_digest 307 = .ok (.lstore_n 1, 1) := by decide +kernel
theorem dX6_digest_308 : decode cX6_digest 308 = .ok (.iinc 4 1, 3) := by decide +kernel
theorem dX6_digest_311 : decode cX6_digest 311 = .ok (.goto (-25), 3) := by decide +kernel
theorem dX6_digest_314 : decode cX6_digest 314 = .ok (.iinc 3 1, 3) := by decide +kernel
theorem dX6_digest_317 : decode cX6_digest 317 = .ok (.goto (-42), 3) := by decide +kernel
theorem dX6_digest_320 : decode cX6_digest 320 = .ok (.iconst 0, 1) := by decide +kernel
theorem dX6_digest_321 : decode cX6_digest 321 = .ok (.istore_n 3, 1) := by decide +kernel
theorem dX6_digest_322 : decode cX6_digest 322 = .ok (.iload_n 3, 1) := by decide +kernel
theorem dX6_digest_323 : decode cX6_digest 323 = .ok (.aload_n 0, 1) := by decide +kernel
theorem dX6_digest_324 : decode cX6_digest 324 = .ok (.getfield 106, 3) := by decide +kernel
theorem dX6_digest_327 : decode cX6_digest 327 = .ok (.if_icmp .ge 40, 3) := by decide +kernel
theorem dX6_digest_330 : decode cX6_digest 330 = .ok (.iconst 0, 1) := by decide +kernel
theorem dX6_digest_331 : decode cX6_digest 331 = .ok (.istore 4, 2) := by decide +kernel
theorem dX6_digest_333 : decode cX6_digest 333 = .ok (.iload 4, 2) := by decide +kernel
theorem dX6_digest_335 : decode cX6_digest 335 = .ok (.bipush 7, 2) := by decide +kernel
theorem dX6_digest_337 : decode cX6_digest 337 = .ok (.if_icmp .ge 24, 3) := by decide +kernel
theorem dX6_digest_340 : decode cX6_digest 340 = .ok (.lload_n 1, 1) := by decide +kernel
theorem dX6_digest_341 : decode cX6_digest 341 = .ok (.ldc2_w 182, 3) := by decide +kernel
theorem dX6_digest_344 : decode cX6_digest 344 = .ok (.lmul, 1) := by decide +kernel
theorem dX6_digest_345 : decode cX6_digest 345 = .ok (.aload_n 0, 1) := by decide +kernel
theorem dX6_digest_346 : decode cX6_digest 346 = .ok (.iload_n 3, 1) := by decide +kernel
theorem dX6_digest_347 : decode cX6_digest 347 = .ok (.iload 4, 2) := by decide +kernel
theorem dX6_digest_349 : decode cX6_digest 349 = .ok (.invokevirtual 109, 3) := by decide +kernel
theorem dX6_digest_352 : decode cX6_digest 352 = .ok (.i2l, 1) := by decide +kernel
theorem dX6_digest_353 : decode cX6_digest 353 = .ok (.ladd, 1) := by decide +kernel
theorem dX6_digest_354 : decode cX6_digest 354 = .ok (.lstore_n 1, 1) := by decide +kernel
theorem dX6_digest_355 : decode cX6_digest 355 = .ok (.iinc 4 1, 3) := by decide +kernel
theorem dX6_digest_358 : decode cX6_digest 358 = .ok (.goto (-25), 3) := by decide +kernel
theorem dX6_digest_361 : decode cX6_digest 361 = .ok (.iinc 3 1, 3) := by decide +kernel
theorem dX6_digest_364 : decode cX6_digest 364 = .ok (.goto (-42), 3) := by decide +kernel
theorem dX6_digest_367 : decode cX6_digest 367 = .ok (.lload_n 1, 1) := by decide +kernel
theorem dX6_digest_368 : decode cX6_digest 368 = .ok (.lreturn, 1) := by decide +kernel
