theorem dX5_init_0 : decode cX5_init 0 = .ok (.aload_n 0, 1) := by decide +kernel
theorem dX5_init_1 : decode cX5_init 1 = .ok (.invokespecial 3, 3) := by decide +kernel
theorem dX5_init_4 : decode cX5_init 4 = .ok (.aload_n 0, 1) := by decide +kernel
theorem dX5_init_5 : decode cX5_init 5 = .ok (.new 9, 3) := by decide +kernel
theorem dX5_init_8 : decode cX5_init 8 = .ok (.dup, 1) := by decide +kernel
theorem dX5_init_9 : decode cX5_init 9 = .ok (.invokespecial 11, 3) := by decide +kernel
theorem dX5_init_12 : decode cX5_init 12 = .ok (.putfield 12, 3) := by decide +kernel
theorem dX5_init_15 : decode cX5_init 15 = .ok (.aload_n 0, 1) := by decide +kernel
theorem dX5_init_16 : decode cX5_init 16 = .ok (.aload_n 0, 1) := by decide +kernel
theorem dX5_init_17 : decode cX5_init 17 = .ok (.getfield 12, 3) := by decide +kernel
theorem dX5_init_20 : decode cX5_init 20 = .ok (.getfield 16, 3) := by decide +kernel
theorem dX5_init_23 : decode cX5_init 23 = .ok (.putfield 20, 3) := by decide +kernel
theorem dX5_init_26 : decode cX5_init 26 = .ok (.aload_n 0, 1) := by decide +kernel
theorem dX5_init_27 : decode cX5_init 27 = .ok (.new 9, 3) := by decide +kernel
theorem dX5_init_30 : decode cX5_init 30 = .ok (.dup, 1) := by decide +kernel
theorem dX5_init_31 : decode cX5_init 31 = .ok (.invokespecial 11, 3) := by decide +kernel
theorem dX5_init_34 : decode cX5_init 34 = .ok (.putfield 21, 3) := by decide +kernel
theorem dX5_init_37 : decode cX5_init 37 = .ok (.aload_n 0, 1) := by decide +kernel
theorem dX5_init_38 : decode cX5_init 38 = .ok (.bipush 7, 2) := by decide +kernel
theorem dX5_init_40 : decode cX5_init 40 = .ok (.sipush 187, 3) := by decide +kernel
theorem dX5_init_43 : decode cX5_init 43 = .ok (.multianewarray 24 2, 4) := by decide +kernel
theorem dX5_init_47 : decode cX5_init 47 = .ok (.putfield 26, 3) := by decide +kernel
theorem dX5_init_50 : decode cX5_init 50 = .ok (.return_, 1) := by decide +kernel
theorem dX5_setWarm_0 : decode cX5_setWarm 0 = .ok (.iload_n 1, 1) := by decide +kernel
theorem dX5_setWarm_1 : decode cX5_setWarm 1 = .ok (.bipush 40, 2) := by decide +kernel
theorem dX5_setWarm_3 : decode cX5_setWarm 3 = .ok (.invokestatic 29, 3) := by decide +kernel
theorem dX5_setWarm_6 : decode cX5_setWarm 6 = .ok (.iload_n 2, 1) := by decide +kernel
theorem dX5_setWarm_7 : decode cX5_setWarm 7 = .ok (.bipush (-9), 2) := by decide +kernel
theorem dX5_setWarm_9 : decode cX5_setWarm 9 = .ok (.bipush 9, 2) := by decide +kernel
theorem dX5_setWarm_11 : decode cX5_setWarm 11 = .ok (.invokestatic 33, 3) := by decide +kernel
theorem dX5_setWarm_14 : decode cX5_setWarm 14 = .ok (.aload_n 0, 1) := by decide +kernel
theorem dX5_setWarm_15 : decode cX5_setWarm 15 = .ok (.getfield 20, 3) := by decide +kernel
theorem dX5_setWarm_18 : decode cX5_setWarm 18 = .ok (.getfield 37, 3) := by decide +kernel
theorem dX5_setWarm_21 : decode cX5_setWarm 21 = .ok (.iload_n 1, 1) := by decide +kernel
theorem dX5_setWarm_22 : decode cX5_setWarm 22 = .ok (.iaload, 1) := by decide +kernel
theorem dX5_setWarm_23 : decode cX5_setWarm 23 = .ok (.istore_n 3, 1) := by decide +kernel
theorem dX5_setWarm_24 : decode cX5_setWarm 24 = .ok (.aload_n 0, 1) := by decide +kernel
theorem dX5_setWarm_25 : decode cX5_setWarm 25 = .ok (.getfield 20, 3) := by decide +kernel
theorem dX5_setWarm_28 : decode cX5_setWarm 28 = .ok (.getfield 37, 3) := by decide +kernel
theorem dX5_setWarm_31 : decode cX5_setWarm 31 = .ok (.iload_n 1, 1) := by decide +kernel
theorem dX5_setWarm_32 : decode cX5_setWarm 32 = .ok (.iload_n 2, 1) := by decide +kernel
theorem dX5_setWarm_33 : decode cX5_setWarm 33 = .ok (.iastore, 1) := by decide +kernel
theorem dX5_setWarm_34 : decode cX5_setWarm 34 = .ok (.iload_n 3, 1) := by decide +kernel
theorem dX5_setWarm_35 : decode cX5_setWarm 35 = .ok (.ireturn, 1) := by decide +kernel
theorem dX5_addHarbour_0 : decode cX5_addHarbour 0 = .ok (.iload_n 1, 1) := by decide +kernel
theorem dX5_addHarbour_1 : decode cX5_addHarbour 1 = .ok (.iconst 1, 1) := by decide +kernel
theorem dX5_addHarbour_2 : decode cX5_addHarbour 2 = .ok (.bipush 9, 2) := by decide +kernel
theorem dX5_addHarbour_4 : decode cX5_addHarbour 4 = .ok (.invokestatic 33, 3) := by decide +kernel
theorem dX5_addHarbour_7 : decode cX5_addHarbour 7 = .ok (.iload_n 2, 1) := by decide +kernel
theorem dX5_addHarbour_8 : decode cX5_addHarbour 8 = .ok (.iconst 0, 1) := by decide +kernel
theorem dX5_addHarbour_9 : decode cX5_addHarbour 9 = .ok (.iconst 5, 1) := by decide +kernel
theorem dX5_addHarbour_10 : decode cX5_addHarbour 10 = .ok (.invokestatic 33, 3) := by decide +kernel
theorem dX5_addHarbour_13 : decode cX5_addHarbour 13 = .ok (.aload_n 0, 1) := by decide +kernel
theorem dX5_addHarbour_14 : decode cX5_addHarbour 14 = .ok (.getfield 20, 3) := by decide +kernel
theorem dX5_addHarbour_17 : decode cX5_addHarbour 17 = .ok (.getfield 43, 3) := by decide +kernel
theorem dX5_addHarbour_20 : decode cX5_addHarbour 20 = .ok (.bipush 8, 2) := by decide +kernel
theorem dX5_addHarbour_22 : decode cX5_addHarbour 22 = .ok (.invokestatic 47, 3) := by decide +kernel
theorem dX5_addHarbour_25 : decode cX5_addHarbour 25 = .ok (.aload_n 0, 1) := by decide +kernel
theorem dX5_addHarbour_26 : decode cX5_addHarbour 26 = .ok (.getfield 20, 3) := by decide +kernel
theorem dX5_addHarbour_29 : decode cX5_addHarbour 29 = .ok (.iload_n 1, 1) := by decide +kernel
theorem dX5_addHarbour_30 : decode cX5_addHarbour 30 = .ok (.iload_n 2, 1) := by decide +kernel
theorem dX5_addHarbour_31 : decode cX5_addHarbour 31 = .ok (.invokevirtual 50, 3) := by decide +kernel
theorem dX5_addHarbour_34 : decode cX5_addHarbour 34 = .ok (.ireturn, 1) := by decide +kernel
theorem dX5_setPrice_0 : decode cX5_setPrice 0 = .ok (.aload_n 0, 1) := by decide +kernel
theorem dX5_setPrice_1 : decode cX5_setPrice 1 = .ok (.iload_n 1, 1) := by decide +kernel
theorem dX5_setPrice_2 : decode cX5_setPrice 2 = .ok (.invokevirtual 54, 3) := by decide +kernel
theorem dX5_setPrice_5 : decode cX5_setPrice 5 = .ok (.iload_n 2, 1) := by decide +kernel
theorem dX5_setPrice_6 : decode cX5_setPrice 6 = .ok (.iconst 4, 1) := by decide +kernel
theorem dX5_setPrice_7 : decode cX5_setPrice 7 = .ok (.invokestatic 29, 3) := by decide +kernel
theorem dX5_setPrice_10 : decode cX5_setPrice 10 = .ok (.iload_n 3, 1) := by decide +kernel
theorem dX5_setPrice_11 : decode cX5_setPrice 11 = .ok (.iconst 0, 1) := by decide +kernel
theorem dX5_setPrice_12 : decode cX5_setPrice 12 = .ok (.bipush 50, 2) := by decide +kernel
theorem dX5_setPrice_14 : decode cX5_setPrice 14 = .ok (.invokestatic 33, 3) := by decide +kernel
theorem dX5_setPrice_17 : decode cX5_setPrice 17 = .ok (.aload_n 0, 1) := by decide +kernel
theorem dX5_setPrice_18 : decode cX5_setPrice 18 = .ok (.getfield 20, 3) := by decide +kernel
theorem dX5_setPrice_21 : decode cX5_setPrice 21 = .ok (.getfield 58, 3) := by decide +kernel
theorem dX5_setPrice_24 : decode cX5_setPrice 24 = .ok (.iload_n 1, 1) := by decide +kernel
theorem dX5_setPrice_25 : decode cX5_setPrice 25 = .ok (.iload_n 2, 1) := by decide +kernel
theorem dX5_setPrice_26 : decode cX5_setPrice 26 = .ok (.invokestatic 61, 3) := by decide +kernel
theorem dX5_setPrice_29 : decode cX5_setPrice 29 = .ok (.iaload, 1) := by decide +kernel
theorem dX5_setPrice_30 : decode cX5_setPrice 30 = .ok (.istore 4, 2) := by decide +kernel
theorem dX5_setPrice_32 : decode cX5_setPrice 32 = .ok (.aload_n 0, 1) := by decide +kernel
theorem dX5_setPrice_33 : decode cX5_setPrice 33 = .ok (.getfield 20, 3) := by decide +kernel
theorem dX5_setPrice_36 : decode cX5_setPrice 36 = .ok (.getfield 58, 3) := by decide +kernel
theorem dX5_setPrice_39 : decode cX5_setPrice 39 = .ok (.iload_n 1, 1) := by decide +kernel
theorem dX5_setPrice_40 : decode cX5_setPrice 40 = .ok (.iload_n 2, 1) := by decide +kernel
theorem dX5_setPrice_41 : decode cX5_setPrice 41 = .ok (.invokestatic 61, 3) := by decide +kernel
theorem dX5_setPrice_44 : decode cX5_setPrice 44 = .ok (.iload_n 3, 1) := by decide +kernel
theorem dX5_setPrice_45 : decode cX5_setPrice 45 = .ok (.iastore, 1) := by decide +kernel
theorem dX5_setPrice_46 : decode cX5_setPrice 46 = .ok (.iload 4, 2) := by decide +kernel
theorem dX5_setPrice_48 : decode cX5_setPrice 48 = .ok (.ireturn, 1) := by decide +kernel
theorem dX5_harbour_0 : decode cX5_harbour 0 = .ok (.aload_n 0, 1) := by decide +kernel
theorem dX5_harbour_1 : decode cX5_harbour 1 = .ok (.iload_n 1, 1) := by decide +kernel
theorem dX5_harbour_2 : decode cX5_harbour 2 = .ok (.invokevirtual 54, 3) := by decide +kernel
theorem dX5_harbour_5 : decode cX5_harbour 5 = .ok (.iload_n 2, 1) := by decide +kernel
theorem dX5_harbour_6 : decode cX5_harbour 6 = .ok (.bipush 8, 2) := by decide +kernel
theorem dX5_harbour_8 : decode cX5_harbour 8 = .ok (.invokestatic 29, 3) := by decide +kernel
theorem dX5_harbour_11 : decode cX5_harbour 11 = .ok (.aload_n 0, 1) := by decide +kernel
theorem dX5_harbour_12 : decode cX5_harbour 12 = .ok (.iload_n 1, 1) := by decide +kernel
theorem dX5_harbour_13 : decode cX5_harbour 13 = .ok (.iload_n 2, 1) := by decide +kernel
theorem dX5_harbour_14 : decode cX5_harbour 14 = .ok (.invokevirtual 64, 3) := by decide +kernel
theorem dX5_harbour_17 : decode cX5_harbour 17 = .ok (.ireturn, 1) := by decide +kernel
theorem dX5_leg_0 : decode cX5_leg 0 = .ok (.aload_n 0, 1) := by decide +kernel
theorem dX5_leg_1 : decode cX5_leg 1 = .ok (.iload_n 1, 1) := by decide +kernel
theorem dX5_leg_2 : decode cX5_leg 2 = .ok (.invokevirtual 67, 3) := by decide +kernel
theorem dX5_leg_5 : decode cX5_leg 5 = .ok (.iload_n 2, 1) := by decide +kernel
theorem dX5_leg_6 : decode cX5_leg 6 = .ok (.iconst 4, 1) := by decide +kernel
theorem dX5_leg_7 : decode cX5_leg 7 = .ok (.invokestatic 29, 3) := by decide +kernel
theorem dX5_leg_10 : decode cX5_leg 10 = .ok (.aload_n 0, 1) := by decide +kernel
theorem dX5_leg_11 : decode cX5_leg 11 = .ok (.iload_n 1, 1) := by decide +kernel
theorem dX5_leg_12 : decode cX5_leg 12 = .ok (.iload_n 2, 1) := by decide +kernel
theorem dX5_leg_13 : decode cX5_leg 13 = .ok (.invokevirtual 70, 3) := by decide +kernel
theorem dX5_leg_16 : decode cX5_leg 16 = .ok (.ireturn, 1) := by decide +kernel
theorem dX5_addMerchant_0 : decode cX5_addMerchant 0 = .ok (.iload_n 1, 1) := by decide +kernel
theorem dX5_addMerchant_1 : decode cX5_addMerchant 1 = .ok (.iconst 0, 1) := by decide +kernel
theorem dX5_addMerchant_2 : decode cX5_addMerchant 2 = .ok (.sipush 5000, 3) := by decide +kernel
theorem dX5_addMerchant_5 : decode cX5_addMerchant 5 = .ok (.invokestatic 33, 3) := by decide +kernel
theorem dX5_addMerchant_8 : decode cX5_addMerchant 8 = .ok (.aload_n 0, 1) := by decide +kernel
theorem dX5_addMerchant_9 : decode cX5_addMerchant 9 = .ok (.getfield 12, 3) := by decide +kernel
theorem dX5_addMerchant_12 : decode cX5_addMerchant 12 = .ok (.getfield 73, 3) := by decide +kernel
theorem dX5_addMerchant_15 : decode cX5_addMerchant 15 = .ok (.iconst 5, 1) := by decide +kernel
theorem dX5_addMerchant_16 : decode cX5_addMerchant 16 = .ok (.invokestatic 47, 3) := by decide +kernel
theorem dX5_addMerchant_19 : decode cX5_addMerchant 19 = .ok (.aload_n 0, 1) := by decide +kernel
theorem dX5_addMerchant_20 : decode cX5_addMerchant 20 = .ok (.getfield 12, 3) := by decide +kernel
theorem dX5_addMerchant_23 : decode cX5_addMerchant 23 = .ok (.getfield 73, 3) := by decide +kernel
theorem dX5_addMerchant_26 : decode cX5_addMerchant 26 = .ok (.istore_n 2, 1) := by decide +kernel
theorem dX5_addMerchant_27 : decode cX5_addMerchant 27 = .ok (.aload_n 0, 1) := by decide +kernel
theorem dX5_addMerchant_28 : decode cX5_addMerchant 28 = .ok (.getfield 12, 3) := by decide +kernel
theorem dX5_addMerchant_31 : decode cX5_addMerchant 31 = .ok (.getfield 76, 3) := by decide +kernel
theorem dX5_addMerchant_34 : decode cX5_addMerchant 34 = .ok (.iload_n 2, 1) := by decide +kernel
theorem dX5_addMerchant_35 : decode cX5_addMerchant 35 = .ok (.aaload, 1) := by decide +kernel
theorem dX5_addMerchant_36 : decode cX5_addMerchant 36 = .ok (.iload_n 1, 1) := by decide +kernel
theorem dX5_addMerchant_37 : decode cX5_addMerchant 37 = .ok (.putfield 80, 3) := by decide +kernel
theorem dX5_addMerchant_40 : decode cX5_addMerchant 40 = .ok (.aload_n 0, 1) := by decide +kernel
theorem dX5_addMerchant_41 : decode cX5_addMerchant 41 = .ok (.getfield 12, 3) := by decide +kernel
theorem dX5_addMerchant_44 : decode cX5_addMerchant 44 = .ok (.iload_n 2, 1) := by decide +kernel
theorem dX5_addMerchant_45 : decode cX5_addMerchant 45 = .ok (.iconst 1, 1) := by decide +kernel
theorem dX5_addMerchant_46 : decode cX5_addMerchant 46 = .ok (.iadd, 1) := by decide +kernel
theorem dX5_addMerchant_47 : decode cX5_addMerchant 47 = .ok (.putfield 73, 3) := by decide +kernel
theorem dX5_addMerchant_50 : decode cX5_addMerchant 50 = .ok (.iload_n 2, 1) := by decide +kernel
theorem dX5_addMerchant_51 : decode cX5_addMerchant 51 = .ok (.ireturn, 1) := by decide +kernel
theorem dX5_bring_0 : decode cX5_bring 0 = .ok (.aload_n 0, 1) := by decide +kernel
theorem dX5_bring_1 : decode cX5_bring 1 = .ok (.iload_n 1, 1) := by decide +kernel
theorem dX5_bring_2 : decode cX5_bring 2 = .ok (.invokevirtual 85, 3) := by decide +kernel
theorem dX5_bring_5 : decode cX5_bring 5 = .ok (.aload_n 0, 1) := by decide +kernel
theorem dX5_bring_6 : decode cX5_bring 6 = .ok (.iload_n 2, 1) := by decide +kernel
theorem dX5_bring_7 : decode cX5_bring 7 = .ok (.invokevirtual 54, 3) := by decide +kernel
theorem dX5_bring_10 : decode cX5_bring 10 = .ok (.iload_n 3, 1) := by decide +kernel
theorem dX5_bring_11 : decode cX5_bring 11 = .ok (.iconst 4, 1) := by decide +kernel
theorem dX5_bring_12 : decode cX5_bring 12 = .ok (.invokestatic 29, 3) := by decide +kernel
theorem dX5_bring_15 : decode cX5_bring 15 = .ok (.iload 4, 2) := by decide +kernel
theorem dX5_bring_17 : decode cX5_bring 17 = .ok (.iconst 1, 1) := by decide +kernel
theorem dX5_bring_18 : decode cX5_bring 18 = .ok (.bipush 100, 2) := by decide +kernel
theorem dX5_bring_20 : decode cX5_bring 20 = .ok (.invokestatic 33, 3) := by decide +kernel
theorem dX5_bring_23 : decode cX5_bring 23 = .ok (.aload_n 0, 1) := by decide +kernel
theorem dX5_bring_24 : decode cX5_bring 24 = .ok (.getfield 12, 3) := by decide +kernel
theorem dX5_bring_27 : decode cX5_bring 27 = .ok (.getfield 76, 3) := by decide +kernel
theorem dX5_bring_30 : decode cX5_bring 30 = .ok (.iload_n 1, 1) := by decide +kernel
theorem dX5_bring_31 : decode cX5_bring 31 = .ok (.aaload, 1) := by decide +kernel
theorem dX5_bring_32 : decode cX5_bring 32 = .ok (.astore 5, 2) := by decide +kernel
theorem dX5_bring_34 : decode cX5_bring 34 = .ok (.aload 5, 2) := by decide +kernel
theorem dX5_bring_36 : decode cX5_bring 36 = .ok (.getfield 88, 3) := by decide +kernel
theorem dX5_bring_39 : decode cX5_bring 39 = .ok (.iload_n 2, 1) := by decide +kernel
theorem dX5_bring_40 : decode cX5_bring 40 = .ok (.iload_n 3, 1) := by decide +kernel
theorem dX5_bring_41 : decode cX5_bring 41 = .ok (.invokestatic 61, 3) := by decide +kernel
theorem dX5_bring_44 : decode cX5_bring 44 = .ok (.dup2, 1) := by decide +kernel
theorem dX5_bring_45 : decode cX5_bring 45 = .ok (.iaload, 1) := by decide +kernel
theorem dX5_bring_46 : decode cX5_bring 46 = .ok (.iload 4, 2) := by decide +kernel
theorem dX5_bring_48 : decode cX5_bring 48 = .ok (.iadd, 1) := by decide +kernel
theorem dX5_bring_49 : decode cX5_bring 49 = .ok (.iastore, 1) := by decide +kernel
theorem dX5_bring_50 : decode cX5_bring 50 = .ok (.aload 5, 2) := by decide +kernel
theorem dX5_bring_52 : decode cX5_bring 52 = .ok (.getfield 88, 3) := by decide +kernel
theorem dX5_bring_55 : decode cX5_bring 55 = .ok (.iload_n 2, 1) := by decide +kernel
theorem dX5_bring_56 : decode cX5_bring 56 = .ok (.iload_n 3, 1) := by decide +kernel
theorem dX5_bring_57 : decode cX5_bring 57 = .ok (.invokestatic 61, 3) := by decide +kernel
theorem dX5_bring_60 : decode cX5_bring 60 = .ok (.iaload, 1) := by decide +kernel
theorem dX5_bring_61 : decode cX5_bring 61 = .ok (.ireturn, 1) := by decide +kernel
theorem dX5_sell_0 : decode cX5_sell 0 = .ok (.aload_n 0, 1) := by decide +kernel
theorem dX5_sell_1 : decode cX5_sell 1 = .ok (.iload_n 1, 1) := by decide +kernel
theorem dX5_sell_2 : decode cX5_sell 2 = .ok (.invokevirtual 85, 3) := by decide +kernel
theorem dX5_sell_5 : decode cX5_sell 5 = .ok (.aload_n 0, 1) := by decide +kernel
theorem dX5_sell_6 : decode cX5_sell 6 = .ok (.iload_n 2, 1) := by decide +kernel
theorem dX5_sell_7 : decode cX5_sell 7 = .ok (.invokevirtual 54, 3) := by decide +kernel
theorem dX5_sell_10 : decode cX5_sell 10 = .ok (.iload_n 3, 1) := by decide +kernel
theorem dX5_sell_11 : decode cX5_sell 11 = .ok (.iconst 4, 1) := by decide +kernel
theorem dX5_sell_12 : decode cX5_sell 12 = .ok (.invokestatic 29, 3) := by decide +kernel
theorem dX5_sell_15 : decode cX5_sell 15 = .ok (.iload 4, 2) := by decide +kernel
theorem dX5_sell_17 : decode cX5_sell 17 = .ok (.iconst 1, 1) := by decide +kernel
theorem dX5_sell_18 : decode cX5_sell 18 = .ok (.invokestatic 91, 3) := by decide +kernel
theorem dX5_sell_21 : decode cX5_sell 21 = .ok (.aload_n 0, 1) := by decide +kernel
theorem dX5_sell_22 : decode cX5_sell 22 = .ok (.getfield 12, 3) := by decide +kernel
theorem dX5_sell_25 : decode cX5_sell 25 = .ok (.getfield 76, 3) := by decide +kernel
theorem dX5_sell_28 : decode cX5_sell 28 = .ok (.iload_n 1, 1) := by decide +kernel
theorem dX5_sell_29 : decode cX5_sell 29 = .ok (.aaload, 1) := by decide +kernel
theorem dX5_sell_30 : decode cX5_sell 30 = .ok (.astore 5, 2) := by decide +kernel
theorem dX5_sell_32 : decode cX5_sell 32 = .ok (.aload 5, 2) := by decide +kernel
theorem dX5_sell_34 : decode cX5_sell 34 = .ok (.getfield 88, 3) := by decide +kernel
theorem dX5_sell_37 : decode cX5_sell 37 = .ok (.iload_n 2, 1) := by decide +kernel
theorem dX5_sell_38 : decode cX5_sell 38 = .ok (.iload_n 3, 1) := by decide +kernel
theorem dX5_sell_39 : decode cX5_sell 39 = .ok (.invokestatic 61, 3) := by decide +kernel
theorem dX5_sell_42 : decode cX5_sell 42 = .ok (.iaload, 1) := by decide +kernel
theorem dX5_sell_43 : decode cX5_sell 43 = .ok (.iload 4, 2) := by decide +kernel
theorem dX5_sell_45 : decode cX5_sell 45 = .ok (.invokestatic 94, 3) := by decide +kernel
theorem dX5_sell_48 : decode cX5_sell 48 = .ok (.aload 5, 2) := by decide +kernel
theorem dX5_sell_50 : decode cX5_sell 50 = .ok (.getfield 88, 3) := by decide +kernel
theorem dX5_sell_53 : decode cX5_sell 53 = .ok (.iload_n 2, 1) := by decide +kernel
theorem dX5_sell_54 : decode cX5_sell 54 = .ok (.iload_n 3, 1) := by decide +kernel
theorem dX5_sell_55 : decode cX5_sell 55 = .ok (.invokestatic 61, 3) := by decide +kernel
theorem dX5_sell_58 : decode cX5_sell 58 = .ok (.dup2, 1) := by decide +kernel
theorem dX5_sell_59 : decode cX5_sell 59 = .ok (.iaload, 1) := by decide +kernel
theorem dX5_sell_60 : decode cX5_sell 60 = .ok (.iload 4, 2) := by decide +kernel
theorem dX5_sell_62 : decode cX5_sell 62 = .ok (.isub, 1) := by decide +kernel
theorem dX5_sell_63 : decode cX5_sell 63 = .ok (.iastore, 1) := by decide +kernel
theorem dX5_sell_64 : decode cX5_sell 64 = .ok (.aload 5, 2) := by decide +kernel
theorem dX5_sell_66 : decode cX5_sell 66 = .ok (.dup, 1) := by decide +kernel
theorem dX5_sell_67 : decode cX5_sell 67 = .ok (.getfield 80, 3) := by decide +kernel
theorem dX5_sell_70 : decode cX5_sell 70 = .ok (.iload 4, 2) := by decide +kernel
theorem dX5_sell_72 : decode cX5_sell 72 = .ok (.aload_n 0, 1) := by decide +kernel
theorem dX5_sell_73 : decode cX5_sell 73 = .ok (.getfield 20, 3) := by decide +kernel
theorem dX5_sell_76 : decode cX5_sell 76 = .ok (.getfield 58, 3) := by decide +kernel
theorem dX5_sell_79 : decode cX5_sell 79 = .ok (.iload_n 2, 1) := by decide +kernel
theorem dX5_sell_80 : decode cX5_sell 80 = .ok (.iload_n 3, 1) := by decide +kernel
theorem dX5_sell_81 : decode cX5_sell 81 = .ok (.invokestatic 61, 3) := by decide +kernel
theorem dX5_sell_84 : decode cX5_sell 84 = .ok (.iaload, 1) := by decide +kernel
theorem dX5_sell_85 : decode cX5_sell 85 = .ok (.imul, 1) := by decide +kernel
theorem dX5_sell_86 : decode cX5_sell 86 = .ok (.iadd, 1) := by decide +kernel
theorem dX5_sell_87 : decode cX5_sell 87 = .ok (.putfield 80, 3) := by decide +kernel
theorem dX5_sell_90 : decode cX5_sell 90 = .ok (.aload 5, 2) := by decide +kernel
theorem dX5_sell_92 : decode cX5_sell 92 = .ok (.getfield 80, 3) := by decide +kernel
theorem dX5_sell_95 : decode cX5_sell 95 = .ok (.ireturn, 1) := by decide +kernel
theorem dX5_stock_0 : decode cX5_stock 0 = .ok (.aload_n 0, 1) := by decide +kernel
theorem dX5_stock_1 : decode cX5_stock 1 = .ok (.iload_n 1, 1) := by decide +kernel
theorem dX5_stock_2 : decode cX5_stock 2 = .ok (.invokevirtual 85, 3) := by decide +kernel
theorem dX5_stock_5 : decode cX5_stock 5 = .ok (.aload_n 0, 1) := by decide +kernel
theorem dX5_stock_6 : decode cX5_stock 6 = .ok (.iload_n 2, 1) := by decide +kernel
theorem dX5_stock_7 : decode cX5_stock 7 = .ok (.invokevirtual 54, 3) := by decide +kernel
theorem dX5_stock_10 : decode cX5_stock 10 = .ok (.iload_n 3, 1) := by decide +kernel
theorem dX5_stock_11 : decode cX5_stock 11 = .ok (.iconst 4, 1) := by decide +kernel
theorem dX5_stock_12 : decode cX5_stock 12 = .ok (.invokestatic 29, 3) := by decide +kernel
theorem dX5_stock_15 : decode cX5_stock 15 = .ok (.aload_n 0, 1) := by decide +kernel
theorem dX5_stock_16 : decode cX5_stock 16 = .ok (.getfield 12, 3) := by decide +kernel
theorem dX5_stock_19 : decode cX5_stock 19 = .ok (.getfield 76, 3) := by decide +kernel
theorem dX5_stock_22 : decode cX5_stock 22 = .ok (.iload_n 1, 1) := by decide +kernel
theorem dX5_stock_23 : decode cX5_stock 23 = .ok (.aaload, 1) := by decide +kernel
theorem dX5_stock_24 : decode cX5_stock 24 = .ok (.getfield 88, 3) := by decide +kernel
theorem dX5_stock_27 : decode cX5_stock 27 = .ok (.iload_n 2, 1) := by decide +kernel
theorem dX5_stock_28 : decode cX5_stock 28 = .ok (.iload_n 3, 1) := by decide +kernel
theorem dX5_stock_29 : decode cX5_stock 29 = .ok (.invokestatic 61, 3) := by decide +kernel
theorem dX5_stock_32 : decode cX5_stock 32 = .ok (.iaload, 1) := by decide +kernel
theorem dX5_stock_33 : decode cX5_stock 33 = .ok (.ireturn, 1) := by decide +kernel
theorem dX5_merchant_0 : decode cX5_merchant 0 = .ok (.aload_n 0, 1) := by decide +kernel
theorem dX5_merchant_1 : decode cX5_merchant 1 = .ok (.iload_n 1, 1) := by decide +kernel
theorem dX5_merchant_2 : decode cX5_merchant 2 = .ok (.invokevirtual 85, 3) := by decide +kernel
theorem dX5_merchant_5 : decode cX5_merchant 5 = .ok (.iload_n 2, 1) := by decide +kernel
theorem dX5_merchant_6 : decode cX5_merchant 6 = .ok (.bipush 6, 2) := by decide +kernel
theorem dX5_merchant_8 : decode cX5_merchant 8 = .ok (.invokestatic 29, 3) := by decide +kernel
theorem dX5_merchant_11 : decode cX5_merchant 11 = .ok (.aload_n 0, 1) := by decide +kernel
theorem dX5_merchant_12 : decode cX5_merchant 12 = .ok (.iload_n 1, 1) := by decide +kernel
theorem dX5_merchant_13 : decode cX5_merchant 13 = .ok (.iload_n 2, 1) := by decide +kernel
theorem dX5_merchant_14 : decode cX5_merchant 14 = .ok (.invokevirtual 97, 3) := by decide +kernel
theorem dX5_merchant_17 : decode cX5_merchant 17 = .ok (.ireturn, 1) := by decide +kernel
theorem dX5_build_0 : decode cX5_build 0 = .ok (.aload_n 0, 1) := by decide +kernel
theorem dX5_build_1 : decode cX5_build 1 = .ok (.iload_n 1, 1) := by decide +kernel
theorem dX5_build_2 : decode cX5_build 2 = .ok (.invokevirtual 85, 3) := by decide +kernel
theorem dX5_build_5 : decode cX5_build 5 = .ok (.aload_n 0, 1) := by decide +kernel
theorem dX5_build_6 : decode cX5_build 6 = .ok (.iload_n 2, 1) := by decide +kernel
theorem dX5_build_7 : decode cX5_build 7 = .ok (.invokevirtual 54, 3) := by decide +kernel
theorem dX5_build_10 : decode cX5_build 10 = .ok (.iload_n 3, 1) := by decide +kernel
theorem dX5_build_11 : decode cX5_build 11 = .ok (.iconst 1, 1) := by decide +kernel
theorem dX5_build_12 : decode cX5_build 12 = .ok (.bipush 60, 2) := by decide +kernel
theorem dX5_build_14 : decode cX5_build 14 = .ok (.invokestatic 33, 3) := by decide +kernel
theorem dX5_build_17 : decode cX5_build 17 = .ok (.aload_n 0, 1) := by decide +kernel
theorem dX5_build_18 : decode cX5_build 18 = .ok (.getfield 12, 3) := by decide +kernel
theorem dX5_build_21 : decode cX5_build 21 = .ok (.getfield 100, 3) := by decide +kernel
theorem dX5_build_24 : decode cX5_build 24 = .ok (.bipush 10, 2) := by decide +kernel
theorem dX5_build_26 : decode cX5_build 26 = .ok (.invokestatic 47, 3) := by decide +kernel
theorem dX5_build_29 : decode cX5_build 29 = .ok (.aload_n 0, 1) := by decide +kernel
theorem dX5_build_30 : decode cX5_build 30 = .ok (.getfield 12, 3) := by decide +kernel
theorem dX5_build_33 : decode cX5_build 33 = .ok (.getfield 100, 3) := by decide +kernel
theorem dX5_build_36 : decode cX5_build 36 = .ok (.istore 4, 2) := by decide +kernel
theorem dX5_build_38 : decode cX5_build 38 = .ok (.aload_n 0, 1) := by decide +kernel
theorem dX5_build_39 : decode cX5_build 39 = .ok (.getfield 12, 3) := by decide +kernel
theorem dX5_build_42 : decode cX5_build 42 = .ok (.getfield 103, 3) := by decide +kernel
theorem dX5_build_45 : decode cX5_build 45 = .ok (.iload 4, 2) := by decide +kernel
theorem dX5_build_47 : decode cX5_build 47 = .ok (.aaload, 1) := by decide +kernel
theorem dX5_build_48 : decode cX5_build 48 = .ok (.iload_n 1, 1) := by decide +kernel
theorem dX5_build_49 : decode cX5_build 49 = .ok (.iload_n 2, 1) := by decide +kernel
theorem dX5_build_50 : decode cX5_build 50 = .ok (.iload_n 3, 1) := by decide +kernel
theorem dX5_build_51 : decode cX5_build 51 = .ok (.invokevirtual 107, 3) := by decide +kernel
theorem dX5_build_54 : decode cX5_build 54 = .ok (.aload_n 0, 1) := by decide +kernel
theorem dX5_build_55 : decode cX5_build 55 = .ok (.getfield 12, 3) := by decide +kernel
theorem dX5_build_58 : decode cX5_build 58 = .ok (.iload 4, 2) := by decide +kernel
theorem dX5_build_60 : decode cX5_build 60 = .ok (.iconst 1, 1) := by decide +kernel
theorem dX5_build_61 : decode cX5_build 61 = .ok (.iadd, 1) := by decide +kernel
theorem dX5_build_62 : decode cX5_build 62 = .ok (.putfield 100, 3) := by decide +kernel
theorem dX5_build_65 : decode cX5_build 65 = .ok (.iload 4, 2) := by decide +kernel
theorem dX5_build_67 : decode cX5_build 67 = .ok (.ireturn, 1) := by decide +kernel
theorem dX5_load_0 : decode cX5_load 0 = .ok (.aload_n 0, 1) := by decide +kernel
theorem dX5_load_1 : decode cX5_load 1 = .ok (.iload_n 1, 1) := by decide +kernel
theorem dX5_load_2 : decode cX5_load 2 = .ok (.invokevirtual 112, 3) := by decide +kernel
theorem dX5_load_5 : decode cX5_load 5 = .ok (.iload_n 2, 1) := by decide +kernel
theorem dX5_load_6 : decode cX5_load 6 = .ok (.iconst 4, 1) := by decide +kernel
theorem dX5_load_7 : decode cX5_load 7 = .ok (.invokestatic 29, 3) := by decide +kernel
theorem dX5_load_10 : decode cX5_load 10 = .ok (.iload_n 3, 1) := by decide +kernel
theorem dX5_load_11 : decode cX5_load 11 = .ok (.bipush (-60), 2) := by decide +kernel
theorem dX5_load_13 : decode cX5_load 13 = .ok (.bipush 60, 2) := by decide +kernel
theorem dX5_load_15 : decode cX5_load 15 = .ok (.invokestatic 33, 3) := by decide +kernel
theorem dX5_load_18 : decode cX5_load 18 = .ok (.iload_n 3, 1) := by decide +kernel
theorem dX5_load_19 : decode cX5_load 19 = .ok (.ifCond .ne 13, 3) := by decide +kernel
theorem dX5_load_22 : decode cX5_load 22 = .ok (.new 115, 3) := by decide +kernel
theorem dX5_load_25 : decode cX5_load 25 = .ok (.dup, 1) := by decide +kernel
theorem dX5_load_26 : decode cX5_load 26 = .ok (.ldc 117, 2) := by decide +kernel
theorem dX5_load_28 : decode cX5_load 28 = .ok (.invokespecial 119, 3) := by decide +kernel
theorem dX5_load_31 : decode cX5_load 31 = .ok (.athrow, 1) := by decide +kernel
theorem dX5_load_32 : decode cX5_load 32 = .ok (.aload_n 0, 1) := by decide +kernel
theorem dX5_load_33 : decode cX5_load 33 = .ok (.getfield 12, 3) := by decide +kernel
theorem dX5_load_36 : decode cX5_load 36 = .ok (.getfield 103, 3) := by decide +kernel
theorem dX5_load_39 : decode cX5_load 39 = .ok (.iload_n 1, 1) := by decide +kernel
theorem dX5_load_40 : decode cX5_load 40 = .ok (.aaload, 1) := by decide +kernel
theorem dX5_load_41 : decode cX5_load 41 = .ok (.astore 4, 2) := by decide +kernel
theorem dX5_load_43 : decode cX5_load 43 = .ok (.aload 4, 2) := by decide +kernel
theorem dX5_load_45 : decode cX5_load 45 = .ok (.invokestatic 122, 3) := by decide +kernel
theorem dX5_load_48 : decode cX5_load 48 = .ok (.aload_n 0, 1) := by decide +kernel
theorem dX5_load_49 : decode cX5_load 49 = .ok (.getfield 12, 3) := by decide +kernel
theorem dX5_load_52 : decode cX5_load 52 = .ok (.getfield 76, 3) := by decide +kernel
theorem dX5_load_55 : decode cX5_load 55 = .ok (.aload 4, 2) := by decide +kernel
theorem dX5_load_57 : decode cX5_load 57 = .ok (.getfield 126, 3) := by decide +kernel
theorem dX5_load_60 : decode cX5_load 60 = .ok (.aaload, 1) := by decide +kernel
theorem dX5_load_61 : decode cX5_load 61 = .ok (.astore 5, 2) := by decide +kernel
theorem dX5_load_63 : decode cX5_load 63 = .ok (.aload 4, 2) := by decide +kernel
theorem dX5_load_65 : decode cX5_load 65 = .ok (.getfield 129, 3) := by decide +kernel
theorem dX5_load_68 : decode cX5_load 68 = .ok (.iload_n 2, 1) := by decide +kernel
theorem dX5_load_69 : decode cX5_load 69 = .ok (.invokestatic 61, 3) := by decide +kernel
theorem dX5_load_72 : decode cX5_load 72 = .ok (.istore 6, 2) := by decide +kernel
theorem dX5_load_74 : decode cX5_load 74 = .ok (.iload_n 3, 1) := by decide +kernel
theorem dX5_load_75 : decode cX5_load 75 = .ok (.ifCond .le 14, 3) := by decide +kernel
theorem dX5_load_78 : decode cX5_load 78 = .ok (.aload 5, 2) := by decide +kernel
theorem dX5_load_80 : decode cX5_load 80 = .ok (.getfield 88, 3) := by decide +kernel
theorem dX5_load_83 : decode cX5_load 83 = .ok (.iload 6, 2) := by decide +kernel
theorem dX5_load_85 : decode cX5_load 85 = .ok (.iaload, 1) := by decide +kernel
theorem dX5_load_86 : decode cX5_load 86 = .ok (.goto 10, 3) := by decide +kernel
theorem dX5_load_89 : decode cX5_load 89 = .ok (.aload 4, 2) := by decide +kernel
theorem dX5_load_91 : decode cX5_load 91 = .ok (.getfield 132, 3) := by decide +kernel
theorem dX5_load_94 : decode cX5_load 94 = .ok (.iload_n 2, 1) := by decide +kernel
theorem dX5_load_95 : decode cX5_load 95 = .ok (.iaload, 1) := by decide +kernel
theorem dX5_load_96 : decode cX5_load 96 = .ok (.iload_n 3, 1) := by decide +kernel
theorem dX5_load_97 : decode cX5_load 97 = .ok (.invokestatic 135, 3) := by decide +kernel
theorem dX5_load_100 : decode cX5_load 100 = .ok (.invokestatic 94, 3) := by decide +kernel
theorem dX5_load_103 : decode cX5_load 103 = .ok (.aload 4, 2) := by decide +kernel
theorem dX5_load_105 : decode cX5_load 105 = .ok (.getfield 141, 3) := by decide +kernel
theorem dX5_load_108 : decode cX5_load 108 = .ok (.aload 4, 2) := by decide +kernel
theorem dX5_load_110 : decode cX5_load 110 = .ok (.invokevirtual 144, 3) := by decide +kernel
theorem dX5_load_113 : decode cX5_load 113 = .ok (.isub, 1) := by decide +kernel
theorem dX5_load_114 : decode cX5_load 114 = .ok (.iload_n 3, 1) := by decide +kernel
theorem dX5_load_115 : decode cX5_load 115 = .ok (.invokestatic 94, 3) := by decide +kernel
theorem dX5_load_118 : decode cX5_load 118 = .ok (.aload 5, 2) := by decide +kernel
theorem dX5_load_120 : decode cX5_load 120 = .ok (.getfield 88, 3) := by decide +kernel
theorem dX5_load_123 : decode cX5_load 123 = .ok (.iload 6, 2) := by decide +kernel
theorem dX5_load_125 : decode cX5_load 125 = .ok (.dup2, 1) := by decide +kernel
theorem dX5_load_126 : decode cX5_load 126 = .ok (.iaload, 1) := by decide +kernel
theorem dX5_load_127 : decode cX5_load 127 = .ok (.iload_n 3, 1) := by decide +kernel
theorem dX5_load_128 : decode cX5_load 128 = .ok (.isub, 1) := by decide +kernel
theorem dX5_load_129 : decode cX5_load 129 = .ok (.iastore, 1) := by decide +kernel
theorem dX5_load_130 : decode cX5_load 130 = .ok (.aload 4, 2) := by decide +kernel
theorem dX5_load_132 : decode cX5_load 132 = .ok (.getfield 132, 3) := by decide +kernel
theorem dX5_load_135 : decode cX5_load 135 = .ok (.iload_n 2, 1) := by decide +kernel
theorem dX5_load_136 : decode cX5_load 136 = .ok (.dup2, 1) := by decide +kernel
theorem dX5_load_137 : decode cX5_load 137 = .ok (.iaload, 1) := by decide +kernel
theorem dX5_load_138 : decode cX5_load 138 = .ok (.iload_n 3, 1) := by decide +kernel
theorem dX5_load_139 : decode cX5_load 139 = .ok (.iadd, 1) := by decide +kernel
theorem dX5_load_140 : decode cX5_load 140 = .ok (.iastore, 1) := by decide +kernel
theorem dX5_load_141 : decode cX5_load 141 = .ok (.aload 4, 2) := by decide +kernel
theorem dX5_load_143 : decode cX5_load 143 = .ok (.invokevirtual 144, 3) := by decide +kernel
theorem dX5_load_146 : decode cX5_load 146 = .ok (.ireturn, 1) := by decide +kernel
theorem dX5_send_0 : decode cX5_send 0 = .ok (.aload_n 0, 1) := by decide +kernel
theorem dX5_send_1 : decode cX5_send 1 = .ok (.iload_n 1, 1) := by decide +kernel
theorem dX5_send_2 : decode cX5_send 2 = .ok (.invokevirtual 112, 3) := by decide +kernel
theorem dX5_send_5 : decode cX5_send 5 = .ok (.aload_n 0, 1) := by decide +kernel
theorem dX5_send_6 : decode cX5_send 6 = .ok (.iload_n 2, 1) := by decide +kernel
theorem dX5_send_7 : decode cX5_send 7 = .ok (.invokevirtual 54, 3) := by decide +kernel
theorem dX5_send_10 : decode cX5_send 10 = .ok (.aload_n 0, 1) := by decide +kernel
theorem dX5_send_11 : decode cX5_send 11 = .ok (.getfield 12, 3) := by decide +kernel
theorem dX5_send_14 : decode cX5_send 14 = .ok (.getfield 103, 3) := by decide +kernel
theorem dX5_send_17 : decode cX5_send 17 = .ok (.iload_n 1, 1) := by decide +kernel
theorem dX5_send_18 : decode cX5_send 18 = .ok (.aaload, 1) := by decide +kernel
theorem dX5_send_19 : decode cX5_send 19 = .ok (.astore_n 3, 1) := by decide +kernel
theorem dX5_send_20 : decode cX5_send 20 = .ok (.aload_n 3, 1) := by decide +kernel
theorem dX5_send_21 : decode cX5_send 21 = .ok (.getfield 148, 3) := by decide +kernel
theorem dX5_send_24 : decode cX5_send 24 = .ok (.iconst 3, 1) := by decide +kernel
theorem dX5_send_25 : decode cX5_send 25 = .ok (.if_icmp .ne 13, 3) := by decide +kernel
theorem dX5_send_28 : decode cX5_send 28 = .ok (.new 151, 3) := by decide +kernel
theorem dX5_send_31 : decode cX5_send 31 = .ok (.dup, 1) := by decide +kernel
theorem dX5_send_32 : decode cX5_send 32 = .ok (.ldc 153, 2) := by decide +kernel
theorem dX5_send_34 : decode cX5_send 34 = .ok (.invokespecial 155, 3) := by decide +kernel
theorem dX5_send_37 : decode cX5_send 37 = .ok (.athrow, 1) := by decide +kernel
theorem dX5_send_38 : decode cX5_send 38 = .ok (.aload_n 3, 1) := by decide +kernel
theorem dX5_send_39 : decode cX5_send 39 = .ok (.iload_n 2, 1) := by decide +kernel
theorem dX5_send_40 : decode cX5_send 40 = .ok (.putfield 156, 3) := by decide +kernel
theorem dX5_send_43 : decode cX5_send 43 = .ok (.aload_n 3, 1) := by decide +kernel
theorem dX5_send_44 : decode cX5_send 44 = .ok (.getfield 159, 3) := by decide +kernel
theorem dX5_send_47 : decode cX5_send 47 = .ok (.aload_n 0, 1) := by decide +kernel
theorem dX5_send_48 : decode cX5_send 48 = .ok (.getfield 20, 3) := by decide +kernel
theorem dX5_send_51 : decode cX5_send 51 = .ok (.aload_n 3, 1) := by decide +kernel
theorem dX5_send_52 : decode cX5_send 52 = .ok (.getfield 129, 3) := by decide +kernel
theorem dX5_send_55 : decode cX5_send 55 = .ok (.iload_n 2, 1) := by decide +kernel
theorem dX5_send_56 : decode cX5_send 56 = .ok (.invokevirtual 162, 3) := by decide +kernel
theorem dX5_send_59 : decode cX5_send 59 = .ok (.iadd, 1) := by decide +kernel
theorem dX5_send_60 : decode cX5_send 60 = .ok (.ireturn, 1) := by decide +kernel
theorem dX5_berth_0 : decode cX5_berth 0 = .ok (.aload_n 0, 1) := by decide +kernel
theorem dX5_berth_1 : decode cX5_berth 1 = .ok (.iload_n 1, 1) := by decide +kernel
theorem dX5_berth_2 : decode cX5_berth 2 = .ok (.invokevirtual 112, 3) := by decide +kernel
theorem dX5_berth_5 : decode cX5_berth 5 = .ok (.aload_n 0, 1) := by decide +kernel
theorem dX5_berth_6 : decode cX5_berth 6 = .ok (.getfield 12, 3) := by decide +kernel
theorem dX5_berth_9 : decode cX5_berth 9 = .ok (.getfield 103, 3) := by decide +kernel
theorem dX5_berth_12 : decode cX5_berth 12 = .ok (.iload_n 1, 1) := by decide +kernel
theorem dX5_berth_13 : decode cX5_berth 13 = .ok (.aaload, 1) := by decide +kernel
theorem dX5_berth_14 : decode cX5_berth 14 = .ok (.astore_n 3, 1) := by decide +kernel
theorem dX5_berth_15 : decode cX5_berth 15 = .ok (.aload_n 3, 1) := by decide +kernel
theorem dX5_berth_16 : decode cX5_berth 16 = .ok (.invokestatic 122, 3) := by decide +kernel
theorem dX5_berth_19 : decode cX5_berth 19 = .ok (.iload_n 2, 1) := by decide +kernel
theorem dX5_berth_20 : decode cX5_berth 20 = .ok (.ifCond .eq 26, 3) := by decide +kernel
theorem dX5_berth_23 : decode cX5_berth 23 = .ok (.aload_n 3, 1) := by decide +kernel
theorem dX5_berth_24 : decode cX5_berth 24 = .ok (.getfield 148, 3) := by decide +kernel
theorem dX5_berth_27 : decode cX5_berth 27 = .ok (.iconst 1, 1) := by decide +kernel
theorem dX5_berth_28 : decode cX5_berth 28 = .ok (.if_icmp .eq 18, 3) := by decide +kernel
theorem dX5_berth_31 : decode cX5_berth 31 = .ok (.aload_n 0, 1) := by decide +kernel
theorem dX5_berth_32 : decode cX5_berth 32 = .ok (.getfield 12, 3) := by decide +kernel
theorem dX5_berth_35 : decode cX5_berth 35 = .ok (.aload_n 3, 1) := by decide +kernel
theorem dX5_berth_36 : decode cX5_berth 36 = .ok (.getfield 129, 3) := by decide +kernel
theorem dX5_berth_39 : decode cX5_berth 39 = .ok (.invokevirtual 165, 3) := by decide +kernel
theorem dX5_berth_42 : decode cX5_berth 42 = .ok (.iconst 1, 1) := by decide +kernel
theorem dX5_berth_43 : decode cX5_berth 43 = .ok (.invokestatic 94, 3) := by decide +kernel
theorem dX5_berth_46 : decode cX5_berth 46 = .ok (.aload_n 3, 1) := by decide +kernel
theorem dX5_berth_47 : decode cX5_berth 47 = .ok (.iload_n 2, 1) := by decide +kernel
theorem dX5_berth_48 : decode cX5_berth 48 = .ok (.ifCond .eq 7, 3) := by decide +kernel
theorem dX5_berth_51 : decode cX5_berth 51 = .ok (.iconst 1, 1) := by decide +kernel
theorem dX5_berth_52 : decode cX5_berth 52 = .ok (.goto 4, 3) := by decide +kernel
theorem dX5_berth_55 : decode cX5_berth 55 = .ok (.iconst 0, 1) := by decide +kernel
theorem dX5_berth_56 : decode cX5_berth 56 = .ok (.putfield 148, 3) := by decide +kernel
theorem dX5_berth_59 : decode cX5_berth 59 = .ok (.aload_n 0, 1) := by decide +kernel
theorem dX5_berth_60 : decode cX5_berth 60 = .ok (.getfield 12, 3) := by decide +kernel
theorem dX5_berth_63 : decode cX5_berth 63 = .ok (.aload_n 3, 1) := by decide +kernel
theorem dX5_berth_64 : decode cX5_berth 64 = .ok (.getfield 129, 3) := by decide +kernel
theorem dX5_berth_67 : decode cX5_berth 67 = .ok (.invokevirtual 165, 3) := by decide +kernel
theorem dX5_berth_70 : decode cX5_berth 70 = .ok (.ireturn, 1) := by decide +kernel
theorem dX5_mend_0 : decode cX5_mend 0 = .ok (.aload_n 0, 1) := by decide +kernel
theorem dX5_mend_1 : decode cX5_mend 1 = .ok (.iload_n 1, 1) := by decide +kernel
theorem dX5_mend_2 : decode cX5_mend 2 = .ok (.invokevirtual 112, 3) := by decide +kernel
theorem dX5_mend_5 : decode cX5_mend 5 = .ok (.aload_n 0, 1) := by decide +kernel
theorem dX5_mend_6 : decode cX5_mend 6 = .ok (.getfield 12, 3) := by decide +kernel
theorem dX5_mend_9 : decode cX5_mend 9 = .ok (.getfield 103, 3) := by decide +kernel
theorem dX5_mend_12 : decode cX5_mend 12 = .ok (.iload_n 1, 1) := by decide +kernel
theorem dX5_mend_13 : decode cX5_mend 13 = .ok (.aaload, 1) := by decide +kernel
theorem dX5_mend_14 : decode cX5_mend 14 = .ok (.astore_n 2, 1) := by decide +kernel
theorem dX5_mend_15 : decode cX5_mend 15 = .ok (.aload_n 2, 1) := by decide +kernel
theorem dX5_mend_16 : decode cX5_mend 16 = .ok (.invokestatic 122, 3) := by decide +kernel
theorem dX5_mend_19 : decode cX5_mend 19 = .ok (.aload_n 0, 1) := by decide +kernel
theorem dX5_mend_20 : decode cX5_mend 20 = .ok (.getfield 12, 3) := by decide +kernel
theorem dX5_mend_23 : decode cX5_mend 23 = .ok (.getfield 76, 3) := by decide +kernel
theorem dX5_mend_26 : decode cX5_mend 26 = .ok (.aload_n 2, 1) := by decide +kernel
theorem dX5_mend_27 : decode cX5_mend 27 = .ok (.getfield 126, 3) := by decide +kernel
theorem dX5_mend_30 : decode cX5_mend 30 = .ok (.aaload, 1) := by decide +kernel
theorem dX5_mend_31 : decode cX5_mend 31 = .ok (.astore_n 3, 1) := by decide +kernel
theorem dX5_mend_32 : decode cX5_mend 32 = .ok (.bipush 20, 2) := by decide +kernel
theorem dX5_mend_34 : decode cX5_mend 34 = .ok (.aload_n 2, 1) := by decide +kernel
theorem dX5_mend_35 : decode cX5_mend 35 = .ok (.getfield 168, 3) := by decide +kernel
theorem dX5_mend_38 : decode cX5_mend 38 = .ok (.isub, 1) := by decide +kernel
theorem dX5_mend_39 : decode cX5_mend 39 = .ok (.aload_n 3, 1) := by decide +kernel
theorem dX5_mend_40 : decode cX5_mend 40 = .ok (.getfield 80, 3) := by decide +kernel
theorem dX5_mend_43 : decode cX5_mend 43 = .ok (.iconst 3, 1) := by decide +kernel
theorem dX5_mend_44 : decode cX5_mend 44 = .ok (.idiv, 1) := by decide +kernel
theorem dX5_mend_45 : decode cX5_mend 45 = .ok (.invokestatic 171, 3) := by decide +kernel
theorem dX5_mend_48 : decode cX5_mend 48 = .ok (.istore 4, 2) := by decide +kernel
theorem dX5_mend_50 : decode cX5_mend 50 = .ok (.aload_n 3, 1) := by decide +kernel
theorem dX5_mend_51 : decode cX5_mend 51 = .ok (.dup, 1) := by decide +kernel
theorem dX5_mend_52 : decode cX5_mend 52 = .ok (.getfield 80, 3) := by decide +kernel
theorem dX5_mend_55 : decode cX5_mend 55 = .ok (.iload 4, 2) := by decide +kernel
theorem dX5_mend_57 : decode cX5_mend 57 = .ok (.iconst 3, 1) := by decide +kernel
theorem dX5_mend_58 : decode cX5_mend 58 = .ok (.imul, 1) := by decide +kernel
theorem dX5_mend_59 : decode cX5_mend 59 = .ok (.isub, 1) := by decide +kernel
theorem dX5_mend_60 : decode cX5_mend 60 = .ok (.putfield 80, 3) := by decide +kernel
theorem dX5_mend_63 : decode cX5_mend 63 = .ok (.aload_n 2, 1) := by decide +kernel
theorem dX5_mend_64 : decode cX5_mend 64 = .ok (.dup, 1) := by decide +kernel
theorem dX5_mend_65 : decode cX5_mend 65 = .ok (.getfield 168, 3) := by decide +kernel
theorem dX5_mend_68 : decode cX5_mend 68 = .ok (.iload 4, 2) := by decide +kernel
theorem dX5_mend_70 : decode cX5_mend 70 = .ok (.iadd, 1) := by decide +kernel
theorem dX5_mend_71 : decode cX5_mend 71 = .ok (.putfield 168, 3) := by decide +kernel
theorem dX5_mend_74 : decode cX5_mend 74 = .ok (.aload_n 2, 1) := by decide +kernel
theorem dX5_mend_75 : decode cX5_mend 75 = .ok (.getfield 168, 3) := by decide +kernel
theorem dX5_mend_78 : decode cX5_mend 78 = .ok (.ireturn, 1) := by decide +kernel
theorem dX5_boat_0 : decode cX5_boat 0 = .ok (.aload_n 0, 1) := by decide +kernel
theorem dX5_boat_1 : decode cX5_boat 1 = .ok (.iload_n 1, 1) := by decide +kernel
theorem dX5_boat_2 : decode cX5_boat 2 = .ok (.invokevirtual 112, 3) := by decide +kernel
theorem dX5_boat_5 : decode cX5_boat 5 = .ok (.iload_n 2, 1) := by decide +kernel
theorem dX5_boat_6 : decode cX5_boat 6 = .ok (.bipush 12, 2) := by decide +kernel
theorem dX5_boat_8 : decode cX5_boat 8 = .ok (.invokestatic 29, 3) := by decide +kernel
theorem dX5_boat_11 : decode cX5_boat 11 = .ok (.aload_n 0, 1) := by decide +kernel
theorem dX5_boat_12 : decode cX5_boat 12 = .ok (.getfield 12, 3) := by decide +kernel
theorem dX5_boat_15 : decode cX5_boat 15 = .ok (.getfield 103, 3) := by decide +kernel
theorem dX5_boat_18 : decode cX5_boat 18 = .ok (.iload_n 1, 1) := by decide +kernel
theorem dX5_boat_19 : decode cX5_boat 19 = .ok (.aaload, 1) := by decide +kernel
theorem dX5_boat_20 : decode cX5_boat 20 = .ok (.iload_n 2, 1) := by decide +kernel
theorem dX5_boat_21 : decode cX5_boat 21 = .ok (.invokestatic 174, 3) := by decide +kernel
theorem dX5_boat_24 : decode cX5_boat 24 = .ok (.ireturn, 1) := by decide +kernel
theorem dX5_lend_0 : decode cX5_lend 0 = .ok (.aload_n 0, 1) := by decide +kernel
theorem dX5_lend_1 : decode cX5_lend 1 = .ok (.iload_n 1, 1) := by decide +kernel
theorem dX5_lend_2 : decode cX5_lend 2 = .ok (.invokevirtual 85, 3) := by decide +kernel
theorem dX5_lend_5 : decode cX5_lend 5 = .ok (.aload_n 0, 1) := by decide +kernel
theorem dX5_lend_6 : decode cX5_lend 6 = .ok (.iload_n 2, 1) := by decide +kernel
theorem dX5_lend_7 : decode cX5_lend 7 = .ok (.invokevirtual 85, 3) := by decide +kernel
theorem dX5_lend_10 : decode cX5_lend 10 = .ok (.aload_n 0, 1) := by decide +kernel
theorem dX5_lend_11 : decode cX5_lend 11 = .ok (.iload_n 3, 1) := by decide +kernel
theorem dX5_lend_12 : decode cX5_lend 12 = .ok (.invokevirtual 54, 3) := by decide +kernel
theorem dX5_lend_15 : decode cX5_lend 15 = .ok (.iload 4, 2) := by decide +kernel
theorem dX5_lend_17 : decode cX5_lend 17 = .ok (.iconst 4, 1) := by decide +kernel
theorem dX5_lend_18 : decode cX5_lend 18 = .ok (.invokestatic 29, 3) := by decide +kernel
theorem dX5_lend_21 : decode cX5_lend 21 = .ok (.iload_n 1, 1) := by decide +kernel
theorem dX5_lend_22 : decode cX5_lend 22 = .ok (.iload_n 2, 1) := by decide +kernel
theorem dX5_lend_23 : decode cX5_lend 23 = .ok (.if_icmp .ne 13, 3) := by decide +kernel
theorem dX5_lend_26 : decode cX5_lend 26 = .ok (.new 115, 3) := by decide +kernel
theorem dX5_lend_29 : decode cX5_lend 29 = .ok (.dup, 1) := by decide +kernel
theorem dX5_lend_30 : decode cX5_lend 30 = .ok (.ldc 178, 2) := by decide +kernel
theorem dX5_lend_32 : decode cX5_lend 32 = .ok (.invokespecial 119, 3) := by decide +kernel
theorem dX5_lend_35 : decode cX5_lend 35 = .ok (.athrow, 1) := by decide +kernel
theorem dX5_lend_36 : decode cX5_lend 36 = .ok (.iload 5, 2) := by decide +kernel
theorem dX5_lend_38 : decode cX5_lend 38 = .ok (.iconst 1, 1) := by decide +kernel
theorem dX5_lend_39 : decode cX5_lend 39 = .ok (.invokestatic 91, 3) := by decide +kernel
theorem dX5_lend_42 : decode cX5_lend 42 = .ok (.iload 6, 2) := by decide +kernel
theorem dX5_lend_44 : decode cX5_lend 44 = .ok (.aload_n 0, 1) := by decide +kernel
theorem dX5_lend_45 : decode cX5_lend 45 = .ok (.getfield 20, 3) := by decide +kernel
theorem dX5_lend_48 : decode cX5_lend 48 = .ok (.getfield 180, 3) := by decide +kernel
theorem dX5_lend_51 : decode cX5_lend 51 = .ok (.invokestatic 91, 3) := by decide +kernel
theorem dX5_lend_54 : decode cX5_lend 54 = .ok (.aload_n 0, 1) := by decide +kernel
theorem dX5_lend_55 : decode cX5_lend 55 = .ok (.getfield 12, 3) := by decide +kernel
theorem dX5_lend_58 : decode cX5_lend 58 = .ok (.getfield 183, 3) := by decide +kernel
theorem dX5_lend_61 : decode cX5_lend 61 = .ok (.bipush 30, 2) := by decide +kernel
theorem dX5_lend_63 : decode cX5_lend 63 = .ok (.invokestatic 47, 3) := by decide +kernel
theorem dX5_lend_66 : decode cX5_lend 66 = .ok (.aload_n 0, 1) := by decide +kernel
theorem dX5_lend_67 : decode cX5_lend 67 = .ok (.getfield 12, 3) := by decide +kernel
theorem dX5_lend_70 : decode cX5_lend 70 = .ok (.getfield 76, 3) := by decide +kernel
theorem dX5_lend_73 : decode cX5_lend 73 = .ok (.iload_n 1, 1) := by decide +kernel
theorem dX5_lend_74 : decode cX5_lend 74 = .ok (.aaload, 1) := by decide +kernel
theorem dX5_lend_75 : decode cX5_lend 75 = .ok (.getfield 88, 3) := by decide +kernel
theorem dX5_lend_78 : decode cX5_lend 78 = .ok (.iload_n 3, 1) := by decide +kernel
theorem dX5_lend_79 : decode cX5_lend 79 = .ok (.iload 4, 2) := by decide +kernel
theorem dX5_lend_81 : decode cX5_lend 81 = .ok (.invokestatic 61, 3) := by decide +kernel
theorem dX5_lend_84 : decode cX5_lend 84 = .ok (.iaload, 1) := by decide +kernel
theorem dX5_lend_85 : decode cX5_lend 85 = .ok (.iload 5, 2) := by decide +kernel
theorem dX5_lend_87 : decode cX5_lend 87 = .ok (.invokestatic 94, 3) := by decide +kernel
theorem dX5_lend_90 : decode cX5_lend 90 = .ok (.aload_n 0, 1) := by decide +kernel
theorem dX5_lend_91 : decode cX5_lend 91 = .ok (.getfield 12, 3) := by decide +kernel
theorem dX5_lend_94 : decode cX5_lend 94 = .ok (.iload_n 1, 1) := by decide +kernel
theorem dX5_lend_95 : decode cX5_lend 95 = .ok (.iload_n 2, 1) := by decide +kernel
theorem dX5_lend_96 : decode cX5_lend 96 = .ok (.iload_n 3, 1) := by decide +kernel
theorem dX5_lend_97 : decode cX5_lend 97 = .ok (.iload 4, 2) := by decide +kernel
theorem dX5_lend_99 : decode cX5_lend 99 = .ok (.invokestatic 61, 3) := by decide +kernel
theorem dX5_lend_102 : decode cX5_lend 102 = .ok (.iload 5, 2) := by decide +kernel
theorem dX5_lend_104 : decode cX5_lend 104 = .ok (.invokevirtual 186, 3) := by decide +kernel
theorem dX5_lend_107 : decode cX5_lend 107 = .ok (.aload_n 0, 1) := by decide +kernel
theorem dX5_lend_108 : decode cX5_lend 108 = .ok (.getfield 12, 3) := by decide +kernel
theorem dX5_lend_111 : decode cX5_lend 111 = .ok (.getfield 183, 3) := by decide +kernel
theorem dX5_lend_114 : decode cX5_lend 114 = .ok (.istore 7, 2) := by decide +kernel
theorem dX5_lend_116 : decode cX5_lend 116 = .ok (.aload_n 0, 1) := by decide +kernel
theorem dX5_lend_117 : decode cX5_lend 117 = .ok (.getfield 12, 3) := by decide +kernel
theorem dX5_lend_120 : decode cX5_lend 120 = .ok (.getfield 190, 3) := by decide +kernel
theorem dX5_lend_123 : decode cX5_lend 123 = .ok (.iload 7, 2) := by decide +kernel
theorem dX5_lend_125 : decode cX5_lend 125 = .ok (.aaload, 1) := by decide +kernel
theorem dX5_lend_126 : decode cX5_lend 126 = .ok (.iload_n 1, 1) := by decide +kernel
theorem dX5_lend_127 : decode cX5_lend 127 = .ok (.iload_n 2, 1) := by decide +kernel
theorem dX5_lend_128 : decode cX5_lend 128 = .ok (.iload_n 3, 1) := by decide +kernel
theorem dX5_lend_129 : decode cX5_lend 129 = .ok (.iload 4, 2) := by decide +kernel
theorem dX5_lend_131 : decode cX5_lend 131 = .ok (.iload 5, 2) := by decide +kernel
theorem dX5_lend_133 : decode cX5_lend 133 = .ok (.iload 5, 2) := by decide +kernel
theorem dX5_lend_135 : decode cX5_lend 135 = .ok (.bipush 10, 2) := by decide +kernel
theorem dX5_lend_137 : decode cX5_lend 137 = .ok (.idiv, 1) := by decide +kernel
theorem dX5_lend_138 : decode cX5_lend 138 = .ok (.iadd, 1) := by decide +kernel
theorem dX5_lend_139 : decode cX5_lend 139 = .ok (.iload 6, 2) := by decide +kernel
theorem dX5_lend_141 : decode cX5_lend 141 = .ok (.invokevirtual 194, 3) := by decide +kernel
theorem dX5_lend_144 : decode cX5_lend 144 = .ok (.aload_n 0, 1) := by decide +kernel
theorem dX5_lend_145 : decode cX5_lend 145 = .ok (.getfield 12, 3) := by decide +kernel
theorem dX5_lend_148 : decode cX5_lend 148 = .ok (.iload 7, 2) := by decide +kernel
theorem dX5_lend_150 : decode cX5_lend 150 = .ok (.iconst 1, 1) := by decide +kernel
theorem dX5_lend_151 : decode cX5_lend 151 = .ok (.iadd, 1) := by decide +kernel
theorem dX5_lend_152 : decode cX5_lend 152 = .ok (.putfield 183, 3) := by decide +kernel
theorem dX5_lend_155 : decode cX5_lend 155 = .ok (.iload 7, 2) := by decide +kernel
theorem dX5_lend_157 : decode cX5_lend 157 = .ok (.ireturn, 1) := by decide +kernel
theorem dX5_repay_0 : decode cX5_repay 0 = .ok (.iload_n 1, 1) := by decide +kernel
theorem dX5_repay_1 : decode cX5_repay 1 = .ok (.aload_n 0, 1) := by decide +kernel
theorem dX5_repay_2 : decode cX5_repay 2 = .ok (.getfield 12, 3) := by decide +kernel
theorem dX5_repay_5 : decode cX5_repay 5 = .ok (.getfield 183, 3) := by decide +kernel
theorem dX5_repay_8 : decode cX5_repay 8 = .ok (.invokestatic 29, 3) := by decide +kernel
theorem dX5_repay_11 : decode cX5_repay 11 = .ok (.aload_n 0, 1) := by decide +kernel
theorem dX5_repay_12 : decode cX5_repay 12 = .ok (.iload_n 2, 1) := by decide +kernel
theorem dX5_repay_13 : decode cX5_repay 13 = .ok (.invokevirtual 54, 3) := by decide +kernel
theorem dX5_repay_16 : decode cX5_repay 16 = .ok (.aload_n 0, 1) := by decide +kernel
theorem dX5_repay_17 : decode cX5_repay 17 = .ok (.getfield 12, 3) := by decide +kernel
theorem dX5_repay_20 : decode cX5_repay 20 = .ok (.getfield 190, 3) := by decide +kernel
theorem dX5_repay_23 : decode cX5_repay 23 = .ok (.iload_n 1, 1) := by decide +kernel
theorem dX5_repay_24 : decode cX5_repay 24 = .ok (.aaload, 1) := by decide +kernel
theorem dX5_repay_25 : decode cX5_repay 25 = .ok (.astore_n 3, 1) := by decide +kernel
theorem dX5_repay_26 : decode cX5_repay 26 = .ok (.aload_n 3, 1) := by decide +kernel
theorem dX5_repay_27 : decode cX5_repay 27 = .ok (.getfield 200, 3) := by decide +kernel
theorem dX5_repay_30 : decode cX5_repay 30 = .ok (.ifCond .eq 13, 3) := by decide +kernel
theorem dX5_repay_33 : decode cX5_repay 33 = .ok (.new 151, 3) := by decide +kernel
theorem dX5_repay_36 : decode cX5_repay 36 = .ok (.dup, 1) := by decide +kernel
theorem dX5_repay_37 : decode cX5_repay 37 = .ok (.ldc 203, 2) := by decide +kernel
theorem dX5_repay_39 : decode cX5_repay 39 = .ok (.invokespecial 155, 3) := by decide +kernel
theorem dX5_repay_42 : decode cX5_repay 42 = .ok (.athrow, 1) := by decide +kernel
theorem dX5_repay_43 : decode cX5_repay 43 = .ok (.iload_n 2, 1) := by decide +kernel
theorem dX5_repay_44 : decode cX5_repay 44 = .ok (.aload_n 3, 1) := by decide +kernel
theorem dX5_repay_45 : decode cX5_repay 45 = .ok (.getfield 205, 3) := by decide +kernel
theorem dX5_repay_48 : decode cX5_repay 48 = .ok (.invokestatic 61, 3) := by decide +kernel
theorem dX5_repay_51 : decode cX5_repay 51 = .ok (.istore 4, 2) := by decide +kernel
theorem dX5_repay_53 : decode cX5_repay 53 = .ok (.aload_n 0, 1) := by decide +kernel
theorem dX5_repay_54 : decode cX5_repay 54 = .ok (.getfield 12, 3) := by decide +kernel
theorem dX5_repay_57 : decode cX5_repay 57 = .ok (.getfield 76, 3) := by decide +kernel
theorem dX5_repay_60 : decode cX5_repay 60 = .ok (.aload_n 3, 1) := by decide +kernel
theorem dX5_repay_61 : decode cX5_repay 61 = .ok (.getfield 208, 3) := by decide +kernel
theorem dX5_repay_64 : decode cX5_repay 64 = .ok (.aaload, 1) := by decide +kernel
theorem dX5_repay_65 : decode cX5_repay 65 = .ok (.getfield 88, 3) := by decide +kernel
theorem dX5_repay_68 : decode cX5_repay 68 = .ok (.iload 4, 2) := by decide +kernel
theorem dX5_repay_70 : decode cX5_repay 70 = .ok (.iaload, 1) := by decide +kernel
theorem dX5_repay_71 : decode cX5_repay 71 = .ok (.aload_n 3, 1) := by decide +kernel
theorem dX5_repay_72 : decode cX5_repay 72 = .ok (.getfield 211, 3) := by decide +kernel
theorem dX5_repay_75 : decode cX5_repay 75 = .ok (.invokestatic 94, 3) := by decide +kernel
theorem dX5_repay_78 : decode cX5_repay 78 = .ok (.aload_n 0, 1) := by decide +kernel
theorem dX5_repay_79 : decode cX5_repay 79 = .ok (.getfield 12, 3) := by decide +kernel
theorem dX5_repay_82 : decode cX5_repay 82 = .ok (.aload_n 3, 1) := by decide +kernel
theorem dX5_repay_83 : decode cX5_repay 83 = .ok (.getfield 208, 3) := by decide +kernel
theorem dX5_repay_86 : decode cX5_repay 86 = .ok (.aload_n 3, 1) := by decide +kernel
theorem dX5_repay_87 : decode cX5_repay 87 = .ok (.getfield 214, 3) := by decide +kernel
theorem dX5_repay_90 : decode cX5_repay 90 = .ok (.iload 4, 2) := by decide +kernel
theorem dX5_repay_92 : decode cX5_repay 92 = .ok (.aload_n 3, 1) := by decide +kernel
theorem dX5_repay_93 : decode cX5_repay 93 = .ok (.getfield 211, 3) := by decide +kernel
theorem dX5_repay_96 : decode cX5_repay 96 = .ok (.invokevirtual 186, 3) := by decide +kernel
theorem dX5_repay_99 : decode cX5_repay 99 = .ok (.aload_n 3, 1) := by decide +kernel
theorem dX5_repay_100 : decode cX5_repay 100 = .ok (.iconst 1, 1) := by decide +kernel
theorem dX5_repay_101 : decode cX5_repay 101 = .ok (.putfield 200, 3) := by decide +kernel
theorem dX5_repay_104 : decode cX5_repay 104 = .ok (.aload_n 3, 1) := by decide +kernel
theorem dX5_repay_105 : decode cX5_repay 105 = .ok (.getfield 211, 3) := by decide +kernel
theorem dX5_repay_108 : decode cX5_repay 108 = .ok (.ireturn, 1) := by decide +kernel
theorem dX5_debt_0 : decode cX5_debt 0 = .ok (.iload_n 1, 1) := by decide +kernel
theorem dX5_debt_1 : decode cX5_debt 1 = .ok (.aload_n 0, 1) := by decide +kernel
theorem dX5_debt_2 : decode cX5_debt 2 = .ok (.getfield 12, 3) := by decide +kernel
theorem dX5_debt_5 : decode cX5_debt 5 = .ok (.getfield 183, 3) := by decide +kernel
theorem dX5_debt_8 : decode cX5_debt 8 = .ok (.invokestatic 29, 3) := by decide +kernel
theorem dX5_debt_11 : decode cX5_debt 11 = .ok (.iload_n 2, 1) := by decide +kernel
theorem dX5_debt_12 : decode cX5_debt 12 = .ok (.bipush 7, 2) := by decide +kernel
theorem dX5_debt_14 : decode cX5_debt 14 = .ok (.invokestatic 29, 3) := by decide +kernel
theorem dX5_debt_17 : decode cX5_debt 17 = .ok (.aload_n 0, 1) := by decide +kernel
theorem dX5_debt_18 : decode cX5_debt 18 = .ok (.getfield 12, 3) := by decide +kernel
theorem dX5_debt_21 : decode cX5_debt 21 = .ok (.getfield 190, 3) := by decide +kernel
theorem dX5_debt_24 : decode cX5_debt 24 = .ok (.iload_n 1, 1) := by decide +kernel
theorem dX5_debt_25 : decode cX5_debt 25 = .ok (.aaload, 1) := by decide +kernel
theorem dX5_debt_26 : decode cX5_debt 26 = .ok (.iload_n 2, 1) := by decide +kernel
theorem dX5_debt_27 : decode cX5_debt 27 = .ok (.invokestatic 217, 3) := by decide +kernel
theorem dX5_debt_30 : decode cX5_debt 30 = .ok (.ireturn, 1) := by decide +kernel
theorem dX5_pass_0 : decode cX5_pass 0 = .ok (.iload_n 1, 1) := by decide +kernel
theorem dX5_pass_1 : decode cX5_pass 1 = .ok (.iconst 1, 1) := by decide +kernel
theorem dX5_pass_2 : decode cX5_pass 2 = .ok (.sipush 200, 3) := by decide +kernel
theorem dX5_pass_5 : decode cX5_pass 5 = .ok (.invokestatic 33, 3) := by decide +kernel
theorem dX5_pass_8 : decode cX5_pass 8 = .ok (.aload_n 0, 1) := by decide +kernel
theorem dX5_pass_9 : decode cX5_pass 9 = .ok (.getfield 12, 3) := by decide +kernel
theorem dX5_pass_12 : decode cX5_pass 12 = .ok (.iconst 3, 1) := by decide +kernel
theorem dX5_pass_13 : decode cX5_pass 13 = .ok (.invokevirtual 221, 3) := by decide +kernel
theorem dX5_pass_16 : decode cX5_pass 16 = .ok (.istore_n 2, 1) := by decide +kernel
theorem dX5_pass_17 : decode cX5_pass 17 = .ok (.iconst 0, 1) := by decide +kernel
theorem dX5_pass_18 : decode cX5_pass 18 = .ok (.istore_n 3, 1) := by decide +kernel
theorem dX5_pass_19 : decode cX5_pass 19 = .ok (.iload_n 3, 1) := by decide +kernel
theorem dX5_pass_20 : decode cX5_pass 20 = .ok (.iload_n 1, 1) := by decide +kernel
theorem dX5_pass_21 : decode cX5_pass 21 = .ok (.if_icmp .ge 16, 3) := by decide +kernel
theorem dX5_pass_24 : decode cX5_pass 24 = .ok (.aload_n 0, 1) := by decide +kernel
theorem dX5_pass_25 : decode cX5_pass 25 = .ok (.getfield 12, 3) := by decide +kernel
theorem dX5_pass_28 : decode cX5_pass 28 = .ok (.invokevirtual 224, 3) := by decide +kernel
theorem dX5_pass_31 : decode cX5_pass 31 = .ok (.iinc 3 1, 3) := by decide +kernel
theorem dX5_pass_34 : decode cX5_pass 34 = .ok (.goto (-15), 3) := by decide +kernel
theorem dX5_pass_37 : decode cX5_pass 37 = .ok (.aload_n 0, 1) := by decide +kernel
theorem dX5_pass_38 : decode cX5_pass 38 = .ok (.getfield 12, 3) := by decide +kernel
theorem dX5_pass_41 : decode cX5_pass 41 = .ok (.iconst 3, 1) := by decide +kernel
theorem dX5_pass_42 : decode cX5_pass 42 = .ok (.invokevirtual 221, 3) := by decide +kernel
theorem dX5_pass_45 : decode cX5_pass 45 = .ok (.iload_n 2, 1) := by decide +kernel
theorem dX5_pass_46 : decode cX5_pass 46 = .ok (.isub, 1) := by decide +kernel
theorem dX5_pass_47 : decode cX5_pass 47 = .ok (.ireturn, 1) := by decide +kernel
theorem dX5_count_0 : decode cX5_count 0 = .ok (.iload_n 1, 1) := by decide +kernel
theorem dX5_count_1 : decode cX5_count 1 = .ok (.bipush 10, 2) := by decide +kernel
theorem dX5_count_3 : decode cX5_count 3 = .ok (.invokestatic 29, 3) := by decide +kernel
theorem dX5_count_6 : decode cX5_count 6 = .ok (.aload_n 0, 1) := by decide +kernel
theorem dX5_count_7 : decode cX5_count 7 = .ok (.iload_n 1, 1) := by decide +kernel
theorem dX5_count_8 : decode cX5_count 8 = .ok (.invokevirtual 227, 3) := by decide +kernel
theorem dX5_count_11 : decode cX5_count 11 = .ok (.ireturn, 1) := by decide +kernel
theorem dX5_opens_0 : decode cX5_opens 0 = .ok (.aload_n 0, 1) := by decide +kernel
theorem dX5_opens_1 : decode cX5_opens 1 = .ok (.iload_n 1, 1) := by decide +kernel
theorem dX5_opens_2 : decode cX5_opens 2 = .ok (.invokevirtual 67, 3) := by decide +kernel
theorem dX5_opens_5 : decode cX5_opens 5 = .ok (.aload_n 0, 1) := by decide +kernel
theorem dX5_opens_6 : decode cX5_opens 6 = .ok (.getfield 20, 3) := by decide +kernel
theorem dX5_opens_9 : decode cX5_opens 9 = .ok (.getfield 230, 3) := by decide +kernel
theorem dX5_opens_12 : decode cX5_opens 12 = .ok (.iload_n 1, 1) := by decide +kernel
theorem dX5_opens_13 : decode cX5_opens 13 = .ok (.iaload, 1) := by decide +kernel
theorem dX5_opens_14 : decode cX5_opens 14 = .ok (.istore_n 2, 1) := by decide +kernel
theorem dX5_opens_15 : decode cX5_opens 15 = .ok (.iconst 0, 1) := by decide +kernel
theorem dX5_opens_16 : decode cX5_opens 16 = .ok (.istore_n 3, 1) := by decide +kernel
theorem dX5_opens_17 : decode cX5_opens 17 = .ok (.iload_n 3, 1) := by decide +kernel
theorem dX5_opens_18 : decode cX5_opens 18 = .ok (.bipush 120, 2) := by decide +kernel
theorem dX5_opens_20 : decode cX5_opens 20 = .ok (.if_icmp .gt 38, 3) := by decide +kernel
theorem dX5_opens_23 : decode cX5_opens 23 = .ok (.iload_n 2, 1) := by decide +kernel
theorem dX5_opens_24 : decode cX5_opens 24 = .ok (.bipush 10, 2) := by decide +kernel
theorem dX5_opens_26 : decode cX5_opens 26 = .ok (.if_icmp .gt 5, 3) := by decide +kernel
theorem dX5_opens_29 : decode cX5_opens 29 = .ok (.iload_n 3, 1) := by decide +kernel
theorem dX5_opens_30 : decode cX5_opens 30 = .ok (.ireturn, 1) := by decide +kernel
theorem dX5_opens_31 : decode cX5_opens 31 = .ok (.iload_n 2, 1) := by decide +kernel
theorem dX5_opens_32 : decode cX5_opens 32 = .ok (.aload_n 0, 1) := by decide +kernel
theorem dX5_opens_33 : decode cX5_opens 33 = .ok (.getfield 20, 3) := by decide +kernel
theorem dX5_opens_36 : decode cX5_opens 36 = .ok (.aload_n 0, 1) := by decide +kernel
theorem dX5_opens_37 : decode cX5_opens 37 = .ok (.getfield 20, 3) := by decide +kernel
theorem dX5_opens_40 : decode cX5_opens 40 = .ok (.getfield 180, 3) := by decide +kernel
theorem dX5_opens_43 : decode cX5_opens 43 = .ok (.iload_n 3, 1) := by decide +kernel
theorem dX5_opens_44 : decode cX5_opens 44 = .ok (.iadd, 1) := by decide +kernel
theorem dX5_opens_45 : decode cX5_opens 45 = .ok (.invokevirtual 233, 3) := by decide +kernel
theorem dX5_opens_48 : decode cX5_opens 48 = .ok (.invokestatic 236, 3) := by decide +kernel
theorem dX5_opens_51 : decode cX5_opens 51 = .ok (.istore_n 2, 1) := by decide +kernel
theorem dX5_opens_52 : decode cX5_opens 52 = .ok (.iinc 3 1, 3) := by decide +kernel
theorem dX5_opens_55 : decode cX5_opens 55 = .ok (.goto (-38), 3) := by decide +kernel
theorem dX5_opens_58 : decode cX5_opens 58 = .ok (.iconst (-1), 1) := by decide +kernel
theorem dX5_opens_59 : decode cX5_opens 59 = .ok (.ireturn, 1) := by decide +kernel
theorem dX5_arrives_0 : decode cX5_arrives 0 = .ok (.aload_n 0, 1) := by decide +kernel
theorem dX5_arrives_1 : decode cX5_arrives 1 = .ok (.iload_n 1, 1) := by decide +kernel
theorem dX5_arrives_2 : decode cX5_arrives 2 = .ok (.invokevirtual 112, 3) := by decide +kernel
theorem dX5_arrives_5 : decode cX5_arrives 5 = .ok (.aload_n 0, 1) := by decide +kernel
theorem dX5_arrives_6 : decode cX5_arrives 6 = .ok (.getfield 21, 3) := by decide +kernel
theorem dX5_arrives_9 : decode cX5_arrives 9 = .ok (.aload_n 0, 1) := by decide +kernel
theorem dX5_arrives_10 : decode cX5_arrives 10 = .ok (.getfield 12, 3) := by decide +kernel
theorem dX5_arrives_13 : decode cX5_arrives 13 = .ok (.invokevirtual 239, 3) := by decide +kernel
theorem dX5_arrives_16 : decode cX5_arrives 16 = .ok (.aload_n 0, 1) := by decide +kernel
theorem dX5_arrives_17 : decode cX5_arrives 17 = .ok (.getfield 21, 3) := by decide +kernel
theorem dX5_arrives_20 : decode cX5_arrives 20 = .ok (.getfield 103, 3) := by decide +kernel
theorem dX5_arrives_23 : decode cX5_arrives 23 = .ok (.iload_n 1, 1) := by decide +kernel
theorem dX5_arrives_24 : decode cX5_arrives 24 = .ok (.aaload, 1) := by decide +kernel
theorem dX5_arrives_25 : decode cX5_arrives 25 = .ok (.astore_n 2, 1) := by decide +kernel
theorem dX5_arrives_26 : decode cX5_arrives 26 = .ok (.iconst 0, 1) := by decide +kernel
theorem dX5_arrives_27 : decode cX5_arrives 27 = .ok (.istore_n 3, 1) := by decide +kernel
theorem dX5_arrives_28 : decode cX5_arrives 28 = .ok (.iload_n 3, 1) := by decide +kernel
theorem dX5_arrives_29 : decode cX5_arrives 29 = .ok (.sipush 200, 3) := by decide +kernel
theorem dX5_arrives_32 : decode cX5_arrives 32 = .ok (.if_icmp .gt 35, 3) := by decide +kernel
theorem dX5_arrives_35 : decode cX5_arrives 35 = .ok (.aload_n 2, 1) := by decide +kernel
theorem dX5_arrives_36 : decode cX5_arrives 36 = .ok (.getfield 148, 3) := by decide +kernel
theorem dX5_arrives_39 : decode cX5_arrives 39 = .ok (.iconst 3, 1) := by decide +kernel
theorem dX5_arrives_40 : decode cX5_arrives 40 = .ok (.if_icmp .ne 5, 3) := by decide +kernel
theorem dX5_arrives_43 : decode cX5_arrives 43 = .ok (.iconst (-1), 1) := by decide +kernel
theorem dX5_arrives_44 : decode cX5_arrives 44 = .ok (.ireturn, 1) := by decide +kernel
theorem dX5_arrives_45 : decode cX5_arrives 45 = .ok (.aload_n 2, 1) := by decide +kernel
theorem dX5_arrives_46 : decode cX5_arrives 46 = .ok (.invokevirtual 243, 3) := by decide +kernel
theorem dX5_arrives_49 : decode cX5_arrives 49 = .ok (.ifCond .eq 5, 3) := by decide +kernel
theorem dX5_arrives_52 : decode cX5_arrives 52 = .ok (.iload_n 3, 1) := by decide +kernel
theorem dX5_arrives_53 : decode cX5_arrives 53 = .ok (.ireturn, 1) := by decide +kernel
theorem dX5_arrives_54 : decode cX5_arrives 54 = .ok (.aload_n 0, 1) := by decide +kernel
theorem dX5_arrives_55 : decode cX5_arrives 55 = .ok (.getfield 21, 3) := by decide +kernel
theorem dX5_arrives_58 : decode cX5_arrives 58 = .ok (.invokevirtual 224, 3) := by decide +kernel
theorem dX5_arrives_61 : decode cX5_arrives 61 = .ok (.iinc 3 1, 3) := by decide +kernel
theorem dX5_arrives_64 : decode cX5_arrives 64 = .ok (.goto (-36), 3) := by decide +kernel
theorem dX5_arrives_67 : decode cX5_arrives 67 = .ok (.iconst (-1), 1) := by decide +kernel
theorem dX5_arrives_68 : decode cX5_arrives 68 = .ok (.ireturn, 1) := by decide +kernel
theorem dX5_mean_0 : decode cX5_mean 0 = .ok (.aload_n 0, 1) := by decide +kernel
theorem dX5_mean_1 : decode cX5_mean 1 = .ok (.getfield 12, 3) := by decide +kernel
theorem dX5_mean_4 : decode cX5_mean 4 = .ok (.getfield 100, 3) := by decide +kernel
theorem dX5_mean_7 : decode cX5_mean 7 = .ok (.aload_n 0, 1) := by decide +kernel
theorem dX5_mean_8 : decode cX5_mean 8 = .ok (.getfield 12, 3) := by decide +kernel
theorem dX5_mean_11 : decode cX5_mean 11 = .ok (.iconst 3, 1) := by decide +kernel
theorem dX5_mean_12 : decode cX5_mean 12 = .ok (.invokevirtual 221, 3) := by decide +kernel
theorem dX5_mean_15 : decode cX5_mean 15 = .ok (.isub, 1) := by decide +kernel
theorem dX5_mean_16 : decode cX5_mean 16 = .ok (.istore_n 1, 1) := by decide +kernel
theorem dX5_mean_17 : decode cX5_mean 17 = .ok (.iload_n 1, 1) := by decide +kernel
theorem dX5_mean_18 : decode cX5_mean 18 = .ok (.ifCond .ne 5, 3) := by decide +kernel
theorem dX5_mean_21 : decode cX5_mean 21 = .ok (.dconst 0, 1) := by decide +kernel
theorem dX5_mean_22 : decode cX5_mean 22 = .ok (.dreturn, 1) := by decide +kernel
theorem dX5_mean_23 : decode cX5_mean 23 = .ok (.iconst 0, 1) := by decide +kernel
theorem dX5_mean_24 : decode cX5_mean 24 = .ok (.istore_n 2, 1) := by decide +kernel
theorem dX5_mean_25 : decode cX5_mean 25 = .ok (.iconst 0, 1) := by decide +kernel
theorem dX5_mean_26 : decode cX5_mean 26 = .ok (.istore_n 3, 1) := by decide +kernel
theorem dX5_mean_27 : decode cX5_mean 27 = .ok (.iload_n 3, 1) := by decide +kernel
theorem dX5_mean_28 : decode cX5_mean 28 = .ok (.aload_n 0, 1) := by decide +kernel
theorem dX5_mean_29 : decode cX5_mean 29 = .ok (.getfield 12, 3) := by decide +kernel
theorem dX5_mean_32 : decode cX5_mean 32 = .ok (.getfield 100, 3) := by decide +kernel
theorem dX5_mean_35 : decode cX5_mean 35 = .ok (.if_icmp .ge 24, 3) := by decide +kernel
theorem dX5_mean_38 : decode cX5_mean 38 = .ok (.iload_n 2, 1) := by decide +kernel
theorem dX5_mean_39 : decode cX5_mean 39 = .ok (.aload_n 0, 1) := by decide +kernel
theorem dX5_mean_40 : decode cX5_mean 40 = .ok (.getfield 12, 3) := by decide +kernel
theorem dX5_mean_43 : decode cX5_mean 43 = .ok (.getfield 103, 3) := by decide +kernel
theorem dX5_mean_46 : decode cX5_mean 46 = .ok (.iload_n 3, 1) := by decide +kernel
theorem dX5_mean_47 : decode cX5_mean 47 = .ok (.aaload, 1) := by decide +kernel
theorem dX5_mean_48 : decode cX5_mean 48 = .ok (.getfield 168, 3) := by decide +kernel
theorem dX5_mean_51 : decode cX5_mean 51 = .ok (.iadd, 1) := by decide +kernel
theorem dX5_mean_52 : decode cX5_mean 52 = .ok (.istore_n 2, 1) := by decide +kernel
theorem dX5_mean_53 : decode cX5_mean 53 = .ok (.iinc 3 1, 3) := by decide +kernel
theorem dX5_mean_56 : decode cX5_mean 56 = .ok (.goto (-29), 3) := by decide +kernel
theorem dX5_mean_59 : decode cX5_mean 59 = .ok (.iload_n 2, 1) := by decide +kernel
theorem dX5_mean_60 : decode cX5_mean 60 = .ok (.i2d, 1) := by decide +kernel
theorem dX5_mean_61 : decode cX5_mean 61 = .ok (.iload_n 1, 1) := by decide +kernel
theorem dX5_mean_62 : decode cX5_mean 62 = .ok (.i2d, 1) := by decide +kernel
theorem dX5_mean_63 : decode cX5_mean 63 = .ok (.ddiv, 1) := by decide +kernel
theorem dX5_mean_64 : decode cX5_mean 64 = .ok (.dreturn, 1) := by decide +kernel
theorem dX5_needIndex_0 : decode cX5_needIndex 0 = .ok (.iload_n 0, 1) := by decide +kernel
theorem dX5_needIndex_1 : decode cX5_needIndex 1 = .ok (.ifCond .lt 8, 3) := by decide +kernel
theorem dX5_needIndex_4 : decode cX5_needIndex 4 = .ok (.iload_n 0, 1) := by decide +kernel
theorem dX5_needIndex_5 : decode cX5_needIndex 5 = .ok (.iload_n 1, 1) := by decide +kernel
theorem dX5_needIndex_6 : decode cX5_needIndex 6 = .ok (.if_icmp .lt 14, 3) := by decide +kernel
theorem dX5_needIndex_9 : decode cX5_needIndex 9 = .ok (.new 280, 3) := by decide +kernel
theorem dX5_needIndex_12 : decode cX5_needIndex 12 = .ok (.dup, 1) := by decide +kernel
theorem dX5_needIndex_13 : decode cX5_needIndex 13 = .ok (.ldc_w 282, 3) := by decide +kernel
theorem dX5_needIndex_16 : decode cX5_needIndex 16 = .ok (.invokespecial 284, 3) := by decide +kernel
theorem dX5_needIndex_19 : decode cX5_needIndex 19 = .ok (.athrow, 1) := by decide +kernel
theorem dX5_needIndex_20 : decode cX5_needIndex 20 = .ok (.return_, 1) := by decide +kernel
theorem dX5_needNumber_0 : decode cX5_needNumber 0 = .ok (.iload_n 0, 1) := by decide +kernel
theorem dX5_needNumber_1 : decode cX5_needNumber 1 = .ok (.iload_n 1, 1) := by decide +kernel
theorem dX5_needNumber_2 : decode cX5_needNumber 2 = .ok (.if_icmp .lt 8, 3) := by decide +kernel
theorem dX5_needNumber_5 : decode cX5_needNumber 5 = .ok (.iload_n 0, 1) := by decide +kernel
theorem dX5_needNumber_6 : decode cX5_needNumber 6 = .ok (.iload_n 2, 1) := by decide +kernel
theorem dX5_needNumber_7 : decode cX5_needNumber 7 = .ok (.if_icmp .le 14, 3) := by decide +kernel
theorem dX5_needNumber_10 : decode cX5_needNumber 10 = .ok (.new 115, 3) := by decide +kernel
theorem dX5_needNumber_13 : decode cX5_needNumber 13 = .ok (.dup, 1) := by decide +kernel
theorem dX5_needNumber_14 : decode cX5_needNumber 14 = .ok (.ldc_w 285, 3) := by decide +kernel
theorem dX5_needNumber_17 : decode cX5_needNumber 17 = .ok (.invokespecial 119, 3) := by decide +kernel
theorem dX5_needNumber_20 : decode cX5_needNumber 20 = .ok (.athrow, 1) := by decide +kernel
theorem dX5_needNumber_21 : decode cX5_needNumber 21 = .ok (.return_, 1) := by decide +kernel
theorem dX5_needAtLeast_0 : decode cX5_needAtLeast 0 = .ok (.iload_n 0, 1) := by decide +kernel
theorem dX5_needAtLeast_1 : decode cX5_needAtLeast 1 = .ok (.iload_n 1, 1) := by decide +kernel
theorem dX5_needAtLeast_2 : decode cX5_needAtLeast 2 = .ok (.if_icmp .ge 14, 3) := by decide +kernel
theorem dX5_needAtLeast_5 : decode cX5_needAtLeast 5 = .ok (.new 115, 3) := by decide +kernel
theorem dX5_needAtLeast_8 : decode cX5_needAtLeast 8 = .ok (.dup, 1) := by decide +kernel
theorem dX5_needAtLeast_9 : decode cX5_needAtLeast 9 = .ok (.ldc_w 287, 3) := by decide +kernel
theorem dX5_needAtLeast_12 : decode cX5_needAtLeast 12 = .ok (.invokespecial 119, 3) := by decide +kernel
theorem dX5_needAtLeast_15 : decode cX5_needAtLeast 15 = .ok (.athrow, 1) := by decide +kernel
theorem dX5_needAtLeast_16 : decode cX5_needAtLeast 16 = .ok (.return_, 1) := by decide +kernel
theorem dX5_needRoomForOneMore_0 : decode cX5_needRoomForOneMore 0 = .ok (.iload_n 0, 1) := by decide +kernel
theorem dX5_needRoomForOneMore_1 : decode cX5_needRoomForOneMore 1 = .ok (.iload_n 1, 1) := by decide +kernel
theorem dX5_needRoomForOneMore_2 : decode cX5_needRoomForOneMore 2 = .ok (.if_icmp .lt 14, 3) := by decide +kernel
theorem dX5_needRoomForOneMore_5 : decode cX5_needRoomForOneMore 5 = .ok (.new 151, 3) := by decide +kernel
theorem dX5_needRoomForOneMore_8 : decode cX5_needRoomForOneMore 8 = .ok (.dup, 1) := by decide +kernel
theorem dX5_needRoomForOneMore_9 : decode cX5_needRoomForOneMore 9 = .ok (.ldc_w 289, 3) := by decide +kernel
theorem dX5_needRoomForOneMore_12 : decode cX5_needRoomForOneMore 12 = .ok (.invokespecial 155, 3) := by decide +kernel
theorem dX5_needRoomForOneMore_15 : decode cX5_needRoomForOneMore 15 = .ok (.athrow, 1) := by decide +kernel
theorem dX5_needRoomForOneMore_16 : decode cX5_needRoomForOneMore 16 = .ok (.return_, 1) := by decide +kernel
theorem dX5_needEnough_0 : decode cX5_needEnough 0 = .ok (.iload_n 0, 1) := by decide +kernel
theorem dX5_needEnough_1 : decode cX5_needEnough 1 = .ok (.iload_n 1, 1) := by decide +kernel
theorem dX5_needEnough_2 : decode cX5_needEnough 2 = .ok (.if_icmp .ge 14, 3) := by decide +kernel
theorem dX5_needEnough_5 : decode cX5_needEnough 5 = .ok (.new 151, 3) := by decide +kernel
theorem dX5_needEnough_8 : decode cX5_needEnough 8 = .ok (.dup, 1) := by decide +kernel
theorem dX5_needEnough_9 : decode cX5_needEnough 9 = .ok (.ldc_w 291, 3) := by decide +kernel
theorem dX5_needEnough_12 : decode cX5_needEnough 12 = .ok (.invokespecial 155, 3) := by decide +kernel
theorem dX5_needEnough_15 : decode cX5_needEnough 15 = .ok (.athrow, 1) := by decide +kernel
theorem dX5_needEnough_16 : decode cX5_needEnough 16 = .ok (.return_, 1) := by decide +kernel
theorem dX5_needInHarbour_0 : decode cX5_needInHarbour 0 = .ok (.aload_n 0, 1) := by decide +kernel
theorem dX5_needInHarbour_1 : decode cX5_needInHarbour 1 = .ok (.invokevirtual 293, 3) := by decide +kernel
theorem dX5_needInHarbour_4 : decode cX5_needInHarbour 4 = .ok (.ifCond .ne 14, 3) := by decide +kernel
theorem dX5_needInHarbour_7 : decode cX5_needInHarbour 7 = .ok (.new 151, 3) := by decide +kernel
theorem dX5_needInHarbour_10 : decode cX5_needInHarbour 10 = .ok (.dup, 1) := by decide +kernel
theorem dX5_needInHarbour_11 : decode cX5_needInHarbour 11 = .ok (.ldc_w 296, 3) := by decide +kernel
theorem dX5_needInHarbour_14 : decode cX5_needInHarbour 14 = .ok (.invokespecial 155, 3) := by decide +kernel
theorem dX5_needInHarbour_17 : decode cX5_needInHarbour 17 = .ok (.athrow, 1) := by decide +kernel
theorem dX5_needInHarbour_18 : decode cX5_needInHarbour 18 = .ok (.return_, 1) := by decide +kernel
theorem dX5_needHarbour_0 : decode cX5_needHarbour 0 = .ok (.iload_n 1, 1) := by decide +kernel
theorem dX5_needHarbour_1 : decode cX5_needHarbour 1 = .ok (.aload_n 0, 1) := by decide +kernel
theorem dX5_needHarbour_2 : decode cX5_needHarbour 2 = .ok (.getfield 20, 3) := by decide +kernel
theorem dX5_needHarbour_5 : decode cX5_needHarbour 5 = .ok (.getfield 43, 3) := by decide +kernel
theorem dX5_needHarbour_8 : decode cX5_needHarbour 8 = .ok (.invokestatic 29, 3) := by decide +kernel
theorem dX5_needHarbour_11 : decode cX5_needHarbour 11 = .ok (.return_, 1) := by decide +kernel
theorem dX5_needLeg_0 : decode cX5_needLeg 0 = .ok (.iload_n 1, 1) := by decide +kernel
theorem dX5_needLeg_1 : decode cX5_needLeg 1 = .ok (.aload_n 0, 1) := by decide +kernel
theorem dX5_needLeg_2 : decode cX5_needLeg 2 = .ok (.getfield 20, 3) := by decide +kernel
theorem dX5_needLeg_5 : decode cX5_needLeg 5 = .ok (.invokevirtual 298, 3) := by decide +kernel
theorem dX5_needLeg_8 : decode cX5_needLeg 8 = .ok (.invokestatic 29, 3) := by decide +kernel
theorem dX5_needLeg_11 : decode cX5_needLeg 11 = .ok (.return_, 1) := by decide +kernel
theorem dX5_needMerchant_0 : decode cX5_needMerchant 0 = .ok (.iload_n 1, 1) := by decide +kernel
theorem dX5_needMerchant_1 : decode cX5_needMerchant 1 = .ok (.aload_n 0, 1) := by decide +kernel
theorem dX5_needMerchant_2 : decode cX5_needMerchant 2 = .ok (.getfield 12, 3) := by decide +kernel
theorem dX5_needMerchant_5 : decode cX5_needMerchant 5 = .ok (.getfield 73, 3) := by decide +kernel
theorem dX5_needMerchant_8 : decode cX5_needMerchant 8 = .ok (.invokestatic 29, 3) := by decide +kernel
theorem dX5_needMerchant_11 : decode cX5_needMerchant 11 = .ok (.return_, 1) := by decide +kernel
theorem dX5_needBoat_0 : decode cX5_needBoat 0 = .ok (.iload_n 1, 1) := by decide +kernel
theorem dX5_needBoat_1 : decode cX5_needBoat 1 = .ok (.aload_n 0, 1) := by decide +kernel
theorem dX5_needBoat_2 : decode cX5_needBoat 2 = .ok (.getfield 12, 3) := by decide +kernel
theorem dX5_needBoat_5 : decode cX5_needBoat 5 = .ok (.getfield 100, 3) := by decide +kernel
theorem dX5_needBoat_8 : decode cX5_needBoat 8 = .ok (.invokestatic 29, 3) := by decide +kernel
theorem dX5_needBoat_11 : decode cX5_needBoat 11 = .ok (.return_, 1) := by decide +kernel
theorem dX5_countFact_0 : decode cX5_countFact 0 = .ok (.iload_n 1, 1) := by decide +kernel
theorem dX5_countFact_1 : decode cX5_countFact 1 = .ok (.tableswitch 125 0 8 #[51, 59, 67, 75, 83, 92, 101, 109, 117], 51) := by decide +kernel
theorem dX5_countFact_52 : decode cX5_countFact 52 = .ok (.aload_n 0, 1) := by decide +kernel
theorem dX5_countFact_53 : decode cX5_countFact 53 = .ok (.getfield 20, 3) := by decide +kernel
theorem dX5_countFact_56 : decode cX5_countFact 56 = .ok (.getfield 180, 3) := by decide +kernel
theorem dX5_countFact_59 : decode cX5_countFact 59 = .ok (.ireturn, 1) := by decide +kernel
theorem dX5_countFact_60 : decode cX5_countFact 60 = .ok (.aload_n 0, 1) := by decide +kernel
theorem dX5_countFact_61 : decode cX5_countFact 61 = .ok (.getfield 20, 3) := by decide +kernel
theorem dX5_countFact_64 : decode cX5_countFact 64 = .ok (.getfield 43, 3) := by decide +kernel
theorem dX5_countFact_67 : decode cX5_countFact 67 = .ok (.ireturn, 1) := by decide +kernel
theorem dX5_countFact_68 : decode cX5_countFact 68 = .ok (.aload_n 0, 1) := by decide +kernel
theorem dX5_countFact_69 : decode cX5_countFact 69 = .ok (.getfield 12, 3) := by decide +kernel
theorem dX5_countFact_72 : decode cX5_countFact 72 = .ok (.getfield 73, 3) := by decide +kernel
theorem dX5_countFact_75 : decode cX5_countFact 75 = .ok (.ireturn, 1) := by decide +kernel
theorem dX5_countFact_76 : decode cX5_countFact 76 = .ok (.aload_n 0, 1) := by decide +kernel
theorem dX5_countFact_77 : decode cX5_countFact 77 = .ok (.getfield 12, 3) := by decide +kernel
theorem dX5_countFact_80 : decode cX5_countFact 80 = .ok (.getfield 100, 3) := by decide +kernel
theorem dX5_countFact_83 : decode cX5_countFact 83 = .ok (.ireturn, 1) := by decide +kernel
theorem dX5_countFact_84 : decode cX5_countFact 84 = .ok (.aload_n 0, 1) := by decide +kernel
theorem dX5_countFact_85 : decode cX5_countFact 85 = .ok (.getfield 12, 3) := by decide +kernel
theorem dX5_countFact_88 : decode cX5_countFact 88 = .ok (.iconst 3, 1) := by decide +kernel
theorem dX5_countFact_89 : decode cX5_countFact 89 = .ok (.invokevirtual 221, 3) := by decide +kernel
theorem dX5_countFact_92 : decode cX5_countFact 92 = .ok (.ireturn, 1) := by decide +kernel
theorem dX5_countFact_93 : decode cX5_countFact 93 = .ok (.aload_n 0, 1) := by decide +kernel
theorem dX5_countFact_94 : decode cX5_countFact 94 = .ok (.getfield 12, 3) := by decide +kernel
theorem dX5_countFact_97 : decode cX5_countFact 97 = .ok (.iconst 2, 1) := by decide +kernel
theorem dX5_countFact_98 : decode cX5_countFact 98 = .ok (.invokevirtual 221, 3) := by decide +kernel
theorem dX5_countFact_101 : decode cX5_countFact 101 = .ok (.ireturn, 1) := by decide +kernel
theorem dX5_countFact_102 : decode cX5_countFact 102 = .ok (.aload_n 0, 1) := by decide +kernel
theorem dX5_countFact_103 : decode cX5_countFact 103 = .ok (.getfield 12, 3) := by decide +kernel
theorem dX5_countFact_106 : decode cX5_countFact 106 = .ok (.getfield 183, 3) := by decide +kernel
theorem dX5_countFact_109 : decode cX5_countFact 109 = .ok (.ireturn, 1) := by decide +kernel
theorem dX5_countFact_110 : decode cX5_countFact 110 = .ok (.aload_n 0, 1) := by decide +kernel
theorem dX5_countFact_111 : decode cX5_countFact 111 = .ok (.getfield 12, 3) := by decide +kernel
theorem dX5_countFact_114 : decode cX5_countFact 114 = .ok (.invokevirtual 301, 3) := by decide +kernel
theorem dX5_countFact_117 : decode cX5_countFact 117 = .ok (.ireturn, 1) := by decide +kernel
theorem dX5_countFact_118 : decode cX5_countFact 118 = .ok (.aload_n 0, 1) := by decide +kernel
theorem dX5_countFact_119 : decode cX5_countFact 119 = .ok (.getfield 12, 3) := by decide +kernel
theorem dX5_countFact_122 : decode cX5_countFact 122 = .ok (.invokevirtual 304, 3) := by decide +kernel
theorem dX5_countFact_125 : decode cX5_countFact 125 = .ok (.ireturn, 1) := by decide +kernel
theorem dX5_countFact_126 : decode cX5_countFact 126 = .ok (.aload_n 0, 1) := by decide +kernel
theorem dX5_countFact_127 : decode cX5_countFact 127 = .ok (.getfield 20, 3) := by decide +kernel
theorem dX5_countFact_130 : decode cX5_countFact 130 = .ok (.invokevirtual 307, 3) := by decide +kernel
theorem dX5_countFact_133 : decode cX5_countFact 133 = .ok (.ireturn, 1) := by decide +kernel
theorem dX5_harbourFact_0 : decode cX5_harbourFact 0 = .ok (.iload_n 2, 1) := by decide +kernel
theorem dX5_harbourFact_1 : decode cX5_harbourFact 1 = .ok (.tableswitch 80 0 3 #[31, 41, 51, 71], 31) := by decide +kernel
theorem dX5_harbourFact_32 : decode cX5_harbourFact 32 = .ok (.aload_n 0, 1) := by decide +kernel
theorem dX5_harbourFact_33 : decode cX5_harbourFact 33 = .ok (.getfield 20, 3) := by decide +kernel
theorem dX5_harbourFact_36 : decode cX5_harbourFact 36 = .ok (.getfield 310, 3) := by decide +kernel
theorem dX5_harbourFact_39 : decode cX5_harbourFact 39 = .ok (.iload_n 1, 1) := by decide +kernel
theorem dX5_harbourFact_40 : decode cX5_harbourFact 40 = .ok (.iaload, 1) := by decide +kernel
theorem dX5_harbourFact_41 : decode cX5_harbourFact 41 = .ok (.ireturn, 1) := by decide +kernel
theorem dX5_harbourFact_42 : decode cX5_harbourFact 42 = .ok (.aload_n 0, 1) := by decide +kernel
theorem dX5_harbourFact_43 : decode cX5_harbourFact 43 = .ok (.getfield 12, 3) := by decide +kernel
theorem dX5_harbourFact_46 : decode cX5_harbourFact 46 = .ok (.iload_n 1, 1) := by decide +kernel
theorem dX5_harbourFact_47 : decode cX5_harbourFact 47 = .ok (.iconst 1, 1) := by decide +kernel
theorem dX5_harbourFact_48 : decode cX5_harbourFact 48 = .ok (.invokevirtual 313, 3) := by decide +kernel
theorem dX5_harbourFact_51 : decode cX5_harbourFact 51 = .ok (.ireturn, 1) := by decide +kernel
theorem dX5_harbourFact_52 : decode cX5_harbourFact 52 = .ok (.aload_n 0, 1) := by decide +kernel
theorem dX5_harbourFact_53 : decode cX5_harbourFact 53 = .ok (.getfield 12, 3) := by decide +kernel
theorem dX5_harbourFact_56 : decode cX5_harbourFact 56 = .ok (.iload_n 1, 1) := by decide +kernel
theorem dX5_harbourFact_57 : decode cX5_harbourFact 57 = .ok (.iconst 1, 1) := by decide +kernel
theorem dX5_harbourFact_58 : decode cX5_harbourFact 58 = .ok (.invokevirtual 313, 3) := by decide +kernel
theorem dX5_harbourFact_61 : decode cX5_harbourFact 61 = .ok (.aload_n 0, 1) := by decide +kernel
theorem dX5_harbourFact_62 : decode cX5_harbourFact 62 = .ok (.getfield 12, 3) := by decide +kernel
theorem dX5_harbourFact_65 : decode cX5_harbourFact 65 = .ok (.iload_n 1, 1) := by decide +kernel
theorem dX5_harbourFact_66 : decode cX5_harbourFact 66 = .ok (.iconst 0, 1) := by decide +kernel
theorem dX5_harbourFact_67 : decode cX5_harbourFact 67 = .ok (.invokevirtual 313, 3) := by decide +kernel
theorem dX5_harbourFact_70 : decode cX5_harbourFact 70 = .ok (.iadd, 1) := by decide +kernel
theorem dX5_harbourFact_71 : decode cX5_harbourFact 71 = .ok (.ireturn, 1) := by decide +kernel
theorem dX5_harbourFact_72 : decode cX5_harbourFact 72 = .ok (.aload_n 0, 1) := by decide +kernel
theorem dX5_harbourFact_73 : decode cX5_harbourFact 73 = .ok (.getfield 20, 3) := by decide +kernel
theorem dX5_harbourFact_76 : decode cX5_harbourFact 76 = .ok (.iload_n 1, 1) := by decide +kernel
theorem dX5_harbourFact_77 : decode cX5_harbourFact 77 = .ok (.invokevirtual 316, 3) := by decide +kernel
theorem dX5_harbourFact_80 : decode cX5_harbourFact 80 = .ok (.ireturn, 1) := by decide +kernel
theorem dX5_harbourFact_81 : decode cX5_harbourFact 81 = .ok (.aload_n 0, 1) := by decide +kernel
theorem dX5_harbourFact_82 : decode cX5_harbourFact 82 = .ok (.getfield 20, 3) := by decide +kernel
theorem dX5_harbourFact_85 : decode cX5_harbourFact 85 = .ok (.getfield 58, 3) := by decide +kernel
theorem dX5_harbourFact_88 : decode cX5_harbourFact 88 = .ok (.iload_n 1, 1) := by decide +kernel
theorem dX5_harbourFact_89 : decode cX5_harbourFact 89 = .ok (.iload_n 2, 1) := by decide +kernel
theorem dX5_harbourFact_90 : decode cX5_harbourFact 90 = .ok (.iconst 4, 1) := by decide +kernel
theorem dX5_harbourFact_91 : decode cX5_harbourFact 91 = .ok (.isub, 1) := by decide +kernel
theorem dX5_harbourFact_92 : decode cX5_harbourFact 92 = .ok (.invokestatic 61, 3) := by decide +kernel
theorem dX5_harbourFact_95 : decode cX5_harbourFact 95 = .ok (.iaload, 1) := by decide +kernel
theorem dX5_harbourFact_96 : decode cX5_harbourFact 96 = .ok (.ireturn, 1) := by decide +kernel
theorem dX5_legFact_0 : decode cX5_legFact 0 = .ok (.iload_n 2, 1) := by decide +kernel
theorem dX5_legFact_1 : decode cX5_legFact 1 = .ok (.tableswitch 64 0 2 #[27, 37, 47], 27) := by decide +kernel
theorem dX5_legFact_28 : decode cX5_legFact 28 = .ok (.aload_n 0, 1) := by decide +kernel
theorem dX5_legFact_29 : decode cX5_legFact 29 = .ok (.getfield 20, 3) := by decide +kernel
theorem dX5_legFact_32 : decode cX5_legFact 32 = .ok (.getfield 319, 3) := by decide +kernel
theorem dX5_legFact_35 : decode cX5_legFact 35 = .ok (.iload_n 1, 1) := by decide +kernel
theorem dX5_legFact_36 : decode cX5_legFact 36 = .ok (.iaload, 1) := by decide +kernel
theorem dX5_legFact_37 : decode cX5_legFact 37 = .ok (.ireturn, 1) := by decide +kernel
theorem dX5_legFact_38 : decode cX5_legFact 38 = .ok (.aload_n 0, 1) := by decide +kernel
theorem dX5_legFact_39 : decode cX5_legFact 39 = .ok (.getfield 20, 3) := by decide +kernel
theorem dX5_legFact_42 : decode cX5_legFact 42 = .ok (.getfield 230, 3) := by decide +kernel
theorem dX5_legFact_45 : decode cX5_legFact 45 = .ok (.iload_n 1, 1) := by decide +kernel
theorem dX5_legFact_46 : decode cX5_legFact 46 = .ok (.iaload, 1) := by decide +kernel
theorem dX5_legFact_47 : decode cX5_legFact 47 = .ok (.ireturn, 1) := by decide +kernel
theorem dX5_legFact_48 : decode cX5_legFact 48 = .ok (.aload_n 0, 1) := by decide +kernel
theorem dX5_legFact_49 : decode cX5_legFact 49 = .ok (.getfield 20, 3) := by decide +kernel
theorem dX5_legFact_52 : decode cX5_legFact 52 = .ok (.iload_n 1, 1) := by decide +kernel
theorem dX5_legFact_53 : decode cX5_legFact 53 = .ok (.invokevirtual 322, 3) := by decide +kernel
theorem dX5_legFact_56 : decode cX5_legFact 56 = .ok (.ifCond .eq 7, 3) := by decide +kernel
theorem dX5_legFact_59 : decode cX5_legFact 59 = .ok (.iconst 1, 1) := by decide +kernel
theorem dX5_legFact_60 : decode cX5_legFact 60 = .ok (.goto 4, 3) := by decide +kernel
theorem dX5_legFact_63 : decode cX5_legFact 63 = .ok (.iconst 0, 1) := by decide +kernel
theorem dX5_legFact_64 : decode cX5_legFact 64 = .ok (.ireturn, 1) := by decide +kernel
theorem dX5_legFact_65 : decode cX5_legFact 65 = .ok (.aload_n 0, 1) := by decide +kernel
theorem dX5_legFact_66 : decode cX5_legFact 66 = .ok (.getfield 12, 3) := by decide +kernel
theorem dX5_legFact_69 : decode cX5_legFact 69 = .ok (.iload_n 1, 1) := by decide +kernel
theorem dX5_legFact_70 : decode cX5_legFact 70 = .ok (.invokevirtual 326, 3) := by decide +kernel
theorem dX5_legFact_73 : decode cX5_legFact 73 = .ok (.ireturn, 1) := by decide +kernel
theorem dX5_merchantFact_0 : decode cX5_merchantFact 0 = .ok (.iload_n 2, 1) := by decide +kernel
theorem dX5_merchantFact_1 : decode cX5_merchantFact 1 = .ok (.tableswitch 93 0 4 #[35, 48, 57, 67, 77], 35) := by decide +kernel
theorem dX5_merchantFact_36 : decode cX5_merchantFact 36 = .ok (.aload_n 0, 1) := by decide +kernel
theorem dX5_merchantFact_37 : decode cX5_merchantFact 37 = .ok (.getfield 12, 3) := by decide +kernel
theorem dX5_merchantFact_40 : decode cX5_merchantFact 40 = .ok (.getfield 76, 3) := by decide +kernel
theorem dX5_merchantFact_43 : decode cX5_merchantFact 43 = .ok (.iload_n 1, 1) := by decide +kernel
theorem dX5_merchantFact_44 : decode cX5_merchantFact 44 = .ok (.aaload, 1) := by decide +kernel
theorem dX5_merchantFact_45 : decode cX5_merchantFact 45 = .ok (.getfield 80, 3) := by decide +kernel
theorem dX5_merchantFact_48 : decode cX5_merchantFact 48 = .ok (.ireturn, 1) := by decide +kernel
theorem dX5_merchantFact_49 : decode cX5_merchantFact 49 = .ok (.aload_n 0, 1) := by decide +kernel
theorem dX5_merchantFact_50 : decode cX5_merchantFact 50 = .ok (.getfield 12, 3) := by decide +kernel
theorem dX5_merchantFact_53 : decode cX5_merchantFact 53 = .ok (.iload_n 1, 1) := by decide +kernel
theorem dX5_merchantFact_54 : decode cX5_merchantFact 54 = .ok (.invokevirtual 329, 3) := by decide +kernel
theorem dX5_merchantFact_57 : decode cX5_merchantFact 57 = .ok (.ireturn, 1) := by decide +kernel
theorem dX5_merchantFact_58 : decode cX5_merchantFact 58 = .ok (.aload_n 0, 1) := by decide +kernel
theorem dX5_merchantFact_59 : decode cX5_merchantFact 59 = .ok (.getfield 12, 3) := by decide +kernel
theorem dX5_merchantFact_62 : decode cX5_merchantFact 62 = .ok (.iload_n 1, 1) := by decide +kernel
theorem dX5_merchantFact_63 : decode cX5_merchantFact 63 = .ok (.iconst 0, 1) := by decide +kernel
theorem dX5_merchantFact_64 : decode cX5_merchantFact 64 = .ok (.invokevirtual 332, 3) := by decide +kernel
theorem dX5_merchantFact_67 : decode cX5_merchantFact 67 = .ok (.ireturn, 1) := by decide +kernel
theorem dX5_merchantFact_68 : decode cX5_merchantFact 68 = .ok (.aload_n 0, 1) := by decide +kernel
theorem dX5_merchantFact_69 : decode cX5_merchantFact 69 = .ok (.getfield 12, 3) := by decide +kernel
theorem dX5_merchantFact_72 : decode cX5_merchantFact 72 = .ok (.iload_n 1, 1) := by decide +kernel
theorem dX5_merchantFact_73 : decode cX5_merchantFact 73 = .ok (.iconst 2, 1) := by decide +kernel
theorem dX5_merchantFact_74 : decode cX5_merchantFact 74 = .ok (.invokevirtual 332, 3) := by decide +kernel
theorem dX5_merchantFact_77 : decode cX5_merchantFact 77 = .ok (.ireturn, 1) := by decide +kernel
theorem dX5_merchantFact_78 : decode cX5_merchantFact 78 = .ok (.aload_n 0, 1) := by decide +kernel
theorem dX5_merchantFact_79 : decode cX5_merchantFact 79 = .ok (.getfield 12, 3) := by decide +kernel
theorem dX5_merchantFact_82 : decode cX5_merchantFact 82 = .ok (.getfield 76, 3) := by decide +kernel
theorem dX5_merchantFact_85 : decode cX5_merchantFact 85 = .ok (.iload_n 1, 1) := by decide +kernel
theorem dX5_merchantFact_86 : decode cX5_merchantFact 86 = .ok (.aaload, 1) := by decide +kernel
theorem dX5_merchantFact_87 : decode cX5_merchantFact 87 = .ok (.getfield 88, 3) := by decide +kernel
theorem dX5_merchantFact_90 : decode cX5_merchantFact 90 = .ok (.invokestatic 335, 3) := by decide +kernel
theorem dX5_merchantFact_93 : decode cX5_merchantFact 93 = .ok (.ireturn, 1) := by decide +kernel
theorem dX5_merchantFact_94 : decode cX5_merchantFact 94 = .ok (.aload_n 0, 1) := by decide +kernel
theorem dX5_merchantFact_95 : decode cX5_merchantFact 95 = .ok (.getfield 12, 3) := by decide +kernel
theorem dX5_merchantFact_98 : decode cX5_merchantFact 98 = .ok (.iload_n 1, 1) := by decide +kernel
theorem dX5_merchantFact_99 : decode cX5_merchantFact 99 = .ok (.invokevirtual 339, 3) := by decide +kernel
theorem dX5_merchantFact_102 : decode cX5_merchantFact 102 = .ok (.ireturn, 1) := by decide +kernel
theorem dX5_boatFact_0 : decode cX5_boatFact 0 = .ok (.iload_n 1, 1) := by decide +kernel
theorem dX5_boatFact_1 : decode cX5_boatFact 1 = .ok (.tableswitch 87 0 7 #[47, 52, 57, 62, 67, 72, 77, 82], 47) := by decide +kernel
theorem dX5_boatFact_48 : decode cX5_boatFact 48 = .ok (.aload_n 0, 1) := by decide +kernel
theorem dX5_boatFact_49 : decode cX5_boatFact 49 = .ok (.getfield 126, 3) := by decide +kernel
theorem dX5_boatFact_52 : decode cX5_boatFact 52 = .ok (.ireturn, 1) := by decide +kernel
theorem dX5_boatFact_53 : decode cX5_boatFact 53 = .ok (.aload_n 0, 1) := by decide +kernel
theorem dX5_boatFact_54 : decode cX5_boatFact 54 = .ok (.getfield 168, 3) := by decide +kernel
theorem dX5_boatFact_57 : decode cX5_boatFact 57 = .ok (.ireturn, 1) := by decide +kernel
theorem dX5_boatFact_58 : decode cX5_boatFact 58 = .ok (.aload_n 0, 1) := by decide +kernel
theorem dX5_boatFact_59 : decode cX5_boatFact 59 = .ok (.getfield 141, 3) := by decide +kernel
theorem dX5_boatFact_62 : decode cX5_boatFact 62 = .ok (.ireturn, 1) := by decide +kernel
theorem dX5_boatFact_63 : decode cX5_boatFact 63 = .ok (.aload_n 0, 1) := by decide +kernel
theorem dX5_boatFact_64 : decode cX5_boatFact 64 = .ok (.getfield 148, 3) := by decide +kernel
theorem dX5_boatFact_67 : decode cX5_boatFact 67 = .ok (.ireturn, 1) := by decide +kernel
theorem dX5_boatFact_68 : decode cX5_boatFact 68 = .ok (.aload_n 0, 1) := by decide +kernel
theorem dX5_boatFact_69 : decode cX5_boatFact 69 = .ok (.getfield 129, 3) := by decide +kernel
theorem dX5_boatFact_72 : decode cX5_boatFact 72 = .ok (.ireturn, 1) := by decide +kernel
theorem dX5_boatFact_73 : decode cX5_boatFact 73 = .ok (.aload_n 0, 1) := by decide +kernel
theorem dX5_boatFact_74 : decode cX5_boatFact 74 = .ok (.getfield 156, 3) := by decide +kernel
theorem dX5_boatFact_77 : decode cX5_boatFact 77 = .ok (.ireturn, 1) := by decide +kernel
theorem dX5_boatFact_78 : decode cX5_boatFact 78 = .ok (.aload_n 0, 1) := by decide +kernel
theorem dX5_boatFact_79 : decode cX5_boatFact 79 = .ok (.getfield 159, 3) := by decide +kernel
theorem dX5_boatFact_82 : decode cX5_boatFact 82 = .ok (.ireturn, 1) := by decide +kernel
theorem dX5_boatFact_83 : decode cX5_boatFact 83 = .ok (.aload_n 0, 1) := by decide +kernel
theorem dX5_boatFact_84 : decode cX5_boatFact 84 = .ok (.invokevirtual 144, 3) := by decide +kernel
theorem dX5_boatFact_87 : decode cX5_boatFact 87 = .ok (.ireturn, 1) := by decide +kernel
theorem dX5_boatFact_88 : decode cX5_boatFact 88 = .ok (.aload_n 0, 1) := by decide +kernel
theorem dX5_boatFact_89 : decode cX5_boatFact 89 = .ok (.getfield 132, 3) := by decide +kernel
theorem dX5_boatFact_92 : decode cX5_boatFact 92 = .ok (.iload_n 1, 1) := by decide +kernel
theorem dX5_boatFact_93 : decode cX5_boatFact 93 = .ok (.bipush 8, 2) := by decide +kernel
theorem dX5_boatFact_95 : decode cX5_boatFact 95 = .ok (.isub, 1) := by decide +kernel
theorem dX5_boatFact_96 : decode cX5_boatFact 96 = .ok (.iaload, 1) := by decide +kernel
theorem dX5_boatFact_97 : decode cX5_boatFact 97 = .ok (.ireturn, 1) := by decide +kernel
theorem dX5_debtFact_0 : decode cX5_debtFact 0 = .ok (.iload_n 1, 1) := by decide +kernel
theorem dX5_debtFact_1 : decode cX5_debtFact 1 = .ok (.tableswitch 69 0 5 #[39, 44, 49, 54, 59, 64], 39) := by decide +kernel
theorem dX5_debtFact_40 : decode cX5_debtFact 40 = .ok (.aload_n 0, 1) := by decide +kernel
theorem dX5_debtFact_41 : decode cX5_debtFact 41 = .ok (.getfield 214, 3) := by decide +kernel
theorem dX5_debtFact_44 : decode cX5_debtFact 44 = .ok (.ireturn, 1) := by decide +kernel
theorem dX5_debtFact_45 : decode cX5_debtFact 45 = .ok (.aload_n 0, 1) := by decide +kernel
theorem dX5_debtFact_46 : decode cX5_debtFact 46 = .ok (.getfield 208, 3) := by decide +kernel
theorem dX5_debtFact_49 : decode cX5_debtFact 49 = .ok (.ireturn, 1) := by decide +kernel
theorem dX5_debtFact_50 : decode cX5_debtFact 50 = .ok (.aload_n 0, 1) := by decide +kernel
theorem dX5_debtFact_51 : decode cX5_debtFact 51 = .ok (.getfield 342, 3) := by decide +kernel
theorem dX5_debtFact_54 : decode cX5_debtFact 54 = .ok (.ireturn, 1) := by decide +kernel
theorem dX5_debtFact_55 : decode cX5_debtFact 55 = .ok (.aload_n 0, 1) := by decide +kernel
theorem dX5_debtFact_56 : decode cX5_debtFact 56 = .ok (.getfield 205, 3) := by decide +kernel
theorem dX5_debtFact_59 : decode cX5_debtFact 59 = .ok (.ireturn, 1) := by decide +kernel
theorem dX5_debtFact_60 : decode cX5_debtFact 60 = .ok (.aload_n 0, 1) := by decide +kernel
theorem dX5_debtFact_61 : decode cX5_debtFact 61 = .ok (.getfield 211, 3) := by decide +kernel
theorem dX5_debtFact_64 : decode cX5_debtFact 64 = .ok (.ireturn, 1) := by decide +kernel
theorem dX5_debtFact_65 : decode cX5_debtFact 65 = .ok (.aload_n 0, 1) := by decide +kernel
theorem dX5_debtFact_66 : decode cX5_debtFact 66 = .ok (.getfield 343, 3) := by decide +kernel
theorem dX5_debtFact_69 : decode cX5_debtFact 69 = .ok (.ireturn, 1) := by decide +kernel
theorem dX5_debtFact_70 : decode cX5_debtFact 70 = .ok (.aload_n 0, 1) := by decide +kernel
theorem dX5_debtFact_71 : decode cX5_debtFact 71 = .ok (.getfield 200, 3) := by decide +kernel
theorem dX5_debtFact_74 : decode cX5_debtFact 74 = .ok (.ireturn, 1) := by decide +kernel
theorem dX5_cellOf_0 : decode cX5_cellOf 0 = .ok (.iload_n 0, 1) := by decide +kernel
theorem dX5_cellOf_1 : decode cX5_cellOf 1 = .ok (.iconst 4, 1) := by decide +kernel
theorem dX5_cellOf_2 : decode cX5_cellOf 2 = .ok (.imul, 1) := by decide +kernel
theorem dX5_cellOf_3 : decode cX5_cellOf 3 = .ok (.iload_n 1, 1) := by decide +kernel
theorem dX5_cellOf_4 : decode cX5_cellOf 4 = .ok (.iadd, 1) := by decide +kernel
theorem dX5_cellOf_5 : decode cX5_cellOf 5 = .ok (.ireturn, 1) := by decide +kernel
theorem dX5_sum_0 : decode cX5_sum 0 = .ok (.iconst 0, 1) := by decide +kernel
theorem dX5_sum_1 : decode cX5_sum 1 = .ok (.istore_n 1, 1) := by decide +kernel
theorem dX5_sum_2 : decode cX5_sum 2 = .ok (.iconst 0, 1) := by decide +kernel
theorem dX5_sum_3 : decode cX5_sum 3 = .ok (.istore_n 2, 1) := by decide +kernel
theorem dX5_sum_4 : decode cX5_sum 4 = .ok (.iload_n 2, 1) := by decide +kernel
theorem dX5_sum_5 : decode cX5_sum 5 = .ok (.aload_n 0, 1) := by decide +kernel
theorem dX5_sum_6 : decode cX5_sum 6 = .ok (.arraylength, 1) := by decide +kernel
theorem dX5_sum_7 : decode cX5_sum 7 = .ok (.if_icmp .ge 15, 3) := by decide +kernel
theorem dX5_sum_10 : decode cX5_sum 10 = .ok (.iload_n 1, 1) := by decide +kernel
theorem dX5_sum_11 : decode cX5_sum 11 = .ok (.aload_n 0, 1) := by decide +kernel
theorem dX5_sum_12 : decode cX5_sum 12 = .ok (.iload_n 2, 1) := by decide +kernel
theorem dX5_sum_13 : decode cX5_sum 13 = .ok (.iaload, 1) := by decide +kernel
theorem dX5_sum_14 : decode cX5_sum 14 = .ok (.iadd, 1) := by decide +kernel
theorem dX5_sum_15 : decode cX5_sum 15 = .ok (.istore_n 1, 1) := by decide +kernel
theorem dX5_sum_16 : decode cX5_sum 16 = .ok (.iinc 2 1, 3) := by decide +kernel
theorem dX5_sum_19 : decode cX5_sum 19 = .ok (.goto (-15), 3) := by decide +kernel
theorem dX5_sum_22 : decode cX5_sum 22 = .ok (.iload_n 1, 1) := by decide +kernel
theorem dX5_sum_23 : decode cX5_sum 23 = .ok (.ireturn, 1) := by decide +kernel
theorem dX5_iceBehind_0 : decode cX5_iceBehind 0 = .ok (.iload_n 1, 1) := by decide +kernel
theorem dX5_iceBehind_1 : decode cX5_iceBehind 1 = .ok (.ifCond .ge 9, 3) := by decide +kernel
theorem dX5_iceBehind_4 : decode cX5_iceBehind 4 = .ok (.iload_n 0, 1) := by decide +kernel
theorem dX5_iceBehind_5 : decode cX5_iceBehind 5 = .ok (.iload_n 1, 1) := by decide +kernel
theorem dX5_iceBehind_6 : decode cX5_iceBehind 6 = .ok (.isub, 1) := by decide +kernel
theorem dX5_iceBehind_7 : decode cX5_iceBehind 7 = .ok (.goto 8, 3) := by decide +kernel
theorem dX5_iceBehind_10 : decode cX5_iceBehind 10 = .ok (.iload_n 0, 1) := by decide +kernel
theorem dX5_iceBehind_11 : decode cX5_iceBehind 11 = .ok (.iconst 2, 1) := by decide +kernel
theorem dX5_iceBehind_12 : decode cX5_iceBehind 12 = .ok (.iload_n 1, 1) := by decide +kernel
theorem dX5_iceBehind_13 : decode cX5_iceBehind 13 = .ok (.imul, 1) := by decide +kernel
theorem dX5_iceBehind_14 : decode cX5_iceBehind 14 = .ok (.isub, 1) := by decide +kernel
theorem dX5_iceBehind_15 : decode cX5_iceBehind 15 = .ok (.istore_n 2, 1) := by decide +kernel
theorem dX5_iceBehind_16 : decode cX5_iceBehind 16 = .ok (.iconst 0, 1) := by decide +kernel
theorem dX5_iceBehind_17 : decode cX5_iceBehind 17 = .ok (.bipush 60, 2) := by decide +kernel
theorem dX5_iceBehind_19 : decode cX5_iceBehind 19 = .ok (.iload_n 2, 1) := by decide +kernel
theorem dX5_iceBehind_20 : decode cX5_iceBehind 20 = .ok (.invokestatic 171, 3) := by decide +kernel
theorem dX5_iceBehind_23 : decode cX5_iceBehind 23 = .ok (.invokestatic 355, 3) := by decide +kernel
theorem dX5_iceBehind_26 : decode cX5_iceBehind 26 = .ok (.ireturn, 1) := by decide +kernel
theorem dX5_copyRow_0 : decode cX5_copyRow 0 = .ok (.aload_n 0, 1) := by decide +kernel
theorem dX5_copyRow_1 : decode cX5_copyRow 1 = .ok (.iconst 0, 1) := by decide +kernel
theorem dX5_copyRow_2 : decode cX5_copyRow 2 = .ok (.aload_n 1, 1) := by decide +kernel
theorem dX5_copyRow_3 : decode cX5_copyRow 3 = .ok (.iconst 0, 1) := by decide +kernel
theorem dX5_copyRow_4 : decode cX5_copyRow 4 = .ok (.aload_n 0, 1) := by decide +kernel
theorem dX5_copyRow_5 : decode cX5_copyRow 5 = .ok (.arraylength, 1) := by decide +kernel
theorem dX5_copyRow_6 : decode cX5_copyRow 6 = .ok (.aload_n 1, 1) := by decide +kernel
theorem dX5_copyRow_7 : decode cX5_copyRow 7 = .ok (.arraylength, 1) := by decide +kernel
theorem dX5_copyRow_8 : decode cX5_copyRow 8 = .ok (.invokestatic 171, 3) := by decide +kernel
theorem dX5_copyRow_11 : decode cX5_copyRow 11 = .ok (.invokestatic 358, 3) := by decide +kernel
theorem dX5_copyRow_14 : decode cX5_copyRow 14 = .ok (.return_, 1) := by decide +kernel
