theorem dX6_init_0 : decode cX6_init 0 = .ok (.aload_n 0, 1) := by decide +kernel
theorem dX6_init_1 : decode cX6_init 1 = .ok (.invokespecial 1, 3) := by decide +kernel
theorem dX6_init_4 : decode cX6_init 4 = .ok (.aload_n 0, 1) := by decide +kernel
theorem dX6_init_5 : decode cX6_init 5 = .ok (.bipush 20, 2) := by decide +kernel
theorem dX6_init_7 : decode cX6_init 7 = .ok (.putfield 7, 3) := by decide +kernel
theorem dX6_init_10 : decode cX6_init 10 = .ok (.aload_n 0, 1) := by decide +kernel
theorem dX6_init_11 : decode cX6_init 11 = .ok (.iconst 4, 1) := by decide +kernel
theorem dX6_init_12 : decode cX6_init 12 = .ok (.newarray .int, 2) := by decide +kernel
theorem dX6_init_14 : decode cX6_init 14 = .ok (.putfield 13, 3) := by decide +kernel
theorem dX6_init_17 : decode cX6_init 17 = .ok (.return_, 1) := by decide +kernel
theorem dX6_all_0 : decode cX6_all 0 = .ok (.aload_n 0, 1) := by decide +kernel
theorem dX6_all_1 : decode cX6_all 1 = .ok (.getfield 13, 3) := by decide +kernel
theorem dX6_all_4 : decode cX6_all 4 = .ok (.iconst 0, 1) := by decide +kernel
theorem dX6_all_5 : decode cX6_all 5 = .ok (.iaload, 1) := by decide +kernel
theorem dX6_all_6 : decode cX6_all 6 = .ok (.aload_n 0, 1) := by decide +kernel
theorem dX6_all_7 : decode cX6_all 7 = .ok (.getfield 13, 3) := by decide +kernel
theorem dX6_all_10 : decode cX6_all 10 = .ok (.iconst 1, 1) := by decide +kernel
theorem dX6_all_11 : decode cX6_all 11 = .ok (.iaload, 1) := by decide +kernel
theorem dX6_all_12 : decode cX6_all 12 = .ok (.iadd, 1) := by decide +kernel
theorem dX6_all_13 : decode cX6_all 13 = .ok (.aload_n 0, 1) := by decide +kernel
theorem dX6_all_14 : decode cX6_all 14 = .ok (.getfield 13, 3) := by decide +kernel
theorem dX6_all_17 : decode cX6_all 17 = .ok (.iconst 2, 1) := by decide +kernel
theorem dX6_all_18 : decode cX6_all 18 = .ok (.iaload, 1) := by decide +kernel
theorem dX6_all_19 : decode cX6_all 19 = .ok (.iadd, 1) := by decide +kernel
theorem dX6_all_20 : decode cX6_all 20 = .ok (.aload_n 0, 1) := by decide +kernel
theorem dX6_all_21 : decode cX6_all 21 = .ok (.getfield 13, 3) := by decide +kernel
theorem dX6_all_24 : decode cX6_all 24 = .ok (.iconst 3, 1) := by decide +kernel
theorem dX6_all_25 : decode cX6_all 25 = .ok (.iaload, 1) := by decide +kernel
theorem dX6_all_26 : decode cX6_all 26 = .ok (.iadd, 1) := by decide +kernel
theorem dX6_all_27 : decode cX6_all 27 = .ok (.ireturn, 1) := by decide +kernel
theorem dX7_init_0 : decode cX7_init 0 = .ok (.aload_n 0, 1) := by decide +kernel
theorem dX7_init_1 : decode cX7_init 1 = .ok (.invokespecial 1, 3) := by decide +kernel
theorem dX7_init_4 : decode cX7_init 4 = .ok (.aload_n 0, 1) := by decide +kernel
theorem dX7_init_5 : decode cX7_init 5 = .ok (.bipush 40, 2) := by decide +kernel
theorem dX7_init_7 : decode cX7_init 7 = .ok (.newarray .int, 2) := by decide +kernel
theorem dX7_init_9 : decode cX7_init 9 = .ok (.putfield 7, 3) := by decide +kernel
theorem dX7_init_12 : decode cX7_init 12 = .ok (.aload_n 0, 1) := by decide +kernel
theorem dX7_init_13 : decode cX7_init 13 = .ok (.iconst 0, 1) := by decide +kernel
theorem dX7_init_14 : decode cX7_init 14 = .ok (.anewarray 13, 3) := by decide +kernel
theorem dX7_init_17 : decode cX7_init 17 = .ok (.putfield 14, 3) := by decide +kernel
theorem dX7_init_20 : decode cX7_init 20 = .ok (.aload_n 0, 1) := by decide +kernel
theorem dX7_init_21 : decode cX7_init 21 = .ok (.bipush 8, 2) := by decide +kernel
theorem dX7_init_23 : decode cX7_init 23 = .ok (.newarray .int, 2) := by decide +kernel
theorem dX7_init_25 : decode cX7_init 25 = .ok (.putfield 18, 3) := by decide +kernel
theorem dX7_init_28 : decode cX7_init 28 = .ok (.aload_n 0, 1) := by decide +kernel
theorem dX7_init_29 : decode cX7_init 29 = .ok (.bipush 8, 2) := by decide +kernel
theorem dX7_init_31 : decode cX7_init 31 = .ok (.newarray .int, 2) := by decide +kernel
theorem dX7_init_33 : decode cX7_init 33 = .ok (.putfield 21, 3) := by decide +kernel
theorem dX7_init_36 : decode cX7_init 36 = .ok (.aload_n 0, 1) := by decide +kernel
theorem dX7_init_37 : decode cX7_init 37 = .ok (.iconst 0, 1) := by decide +kernel
theorem dX7_init_38 : decode cX7_init 38 = .ok (.newarray .int, 2) := by decide +kernel
theorem dX7_init_40 : decode cX7_init 40 = .ok (.putfield 24, 3) := by decide +kernel
theorem dX7_init_43 : decode cX7_init 43 = .ok (.aload_n 0, 1) := by decide +kernel
theorem dX7_init_44 : decode cX7_init 44 = .ok (.iconst 5, 1) := by decide +kernel
theorem dX7_init_45 : decode cX7_init 45 = .ok (.bipush 8, 2) := by decide +kernel
theorem dX7_init_47 : decode cX7_init 47 = .ok (.iconst 4, 1) := by decide +kernel
theorem dX7_init_48 : decode cX7_init 48 = .ok (.multianewarray 27 3, 4) := by decide +kernel
theorem dX7_init_52 : decode cX7_init 52 = .ok (.putfield 29, 3) := by decide +kernel
theorem dX7_init_55 : decode cX7_init 55 = .ok (.aload_n 0, 1) := by decide +kernel
theorem dX7_init_56 : decode cX7_init 56 = .ok (.iconst 0, 1) := by decide +kernel
theorem dX7_init_57 : decode cX7_init 57 = .ok (.anewarray 32, 3) := by decide +kernel
theorem dX7_init_60 : decode cX7_init 60 = .ok (.putfield 34, 3) := by decide +kernel
theorem dX7_init_63 : decode cX7_init 63 = .ok (.aload_n 0, 1) := by decide +kernel
theorem dX7_init_64 : decode cX7_init 64 = .ok (.iconst 0, 1) := by decide +kernel
theorem dX7_init_65 : decode cX7_init 65 = .ok (.anewarray 13, 3) := by decide +kernel
theorem dX7_init_68 : decode cX7_init 68 = .ok (.putfield 38, 3) := by decide +kernel
theorem dX7_init_71 : decode cX7_init 71 = .ok (.iconst 0, 1) := by decide +kernel
theorem dX7_init_72 : decode cX7_init 72 = .ok (.istore_n 1, 1) := by decide +kernel
theorem dX7_init_73 : decode cX7_init 73 = .ok (.iload_n 1, 1) := by decide +kernel
theorem dX7_init_74 : decode cX7_init 74 = .ok (.bipush 40, 2) := by decide +kernel
theorem dX7_init_76 : decode cX7_init 76 = .ok (.if_icmp .ge 16, 3) := by decide +kernel
theorem dX7_init_79 : decode cX7_init 79 = .ok (.aload_n 0, 1) := by decide +kernel
theorem dX7_init_80 : decode cX7_init 80 = .ok (.getfield 7, 3) := by decide +kernel
theorem dX7_init_83 : decode cX7_init 83 = .ok (.iload_n 1, 1) := by decide +kernel
theorem dX7_init_84 : decode cX7_init 84 = .ok (.iconst 4, 1) := by decide +kernel
theorem dX7_init_85 : decode cX7_init 85 = .ok (.iastore, 1) := by decide +kernel
theorem dX7_init_86 : decode cX7_init 86 = .ok (.iinc 1 1, 3) := by decide +kernel
theorem dX7_init_89 : decode cX7_init 89 = .ok (.goto (-16), 3) := by decide +kernel
theorem dX7_init_92 : decode cX7_init 92 = .ok (.return_, 1) := by decide +kernel
theorem dX7_more_0 : decode cX7_more 0 = .ok (.aload_n 0, 1) := by decide +kernel
theorem dX7_more_1 : decode cX7_more 1 = .ok (.arraylength, 1) := by decide +kernel
theorem dX7_more_2 : decode cX7_more 2 = .ok (.iconst 1, 1) := by decide +kernel
theorem dX7_more_3 : decode cX7_more 3 = .ok (.iadd, 1) := by decide +kernel
theorem dX7_more_4 : decode cX7_more 4 = .ok (.anewarray 13, 3) := by decide +kernel
theorem dX7_more_7 : decode cX7_more 7 = .ok (.astore_n 2, 1) := by decide +kernel
theorem dX7_more_8 : decode cX7_more 8 = .ok (.iconst 0, 1) := by decide +kernel
theorem dX7_more_9 : decode cX7_more 9 = .ok (.istore_n 3, 1) := by decide +kernel
theorem dX7_more_10 : decode cX7_more 10 = .ok (.iload_n 3, 1) := by decide +kernel
theorem dX7_more_11 : decode cX7_more 11 = .ok (.aload_n 0, 1) := by decide +kernel
theorem dX7_more_12 : decode cX7_more 12 = .ok (.arraylength, 1) := by decide +kernel
theorem dX7_more_13 : decode cX7_more 13 = .ok (.if_icmp .ge 15, 3) := by decide +kernel
theorem dX7_more_16 : decode cX7_more 16 = .ok (.aload_n 2, 1) := by decide +kernel
theorem dX7_more_17 : decode cX7_more 17 = .ok (.iload_n 3, 1) := by decide +kernel
theorem dX7_more_18 : decode cX7_more 18 = .ok (.aload_n 0, 1) := by decide +kernel
theorem dX7_more_19 : decode cX7_more 19 = .ok (.iload_n 3, 1) := by decide +kernel
theorem dX7_more_20 : decode cX7_more 20 = .ok (.aaload, 1) := by decide +kernel
theorem dX7_more_21 : decode cX7_more 21 = .ok (.aastore, 1) := by decide +kernel
theorem dX7_more_22 : decode cX7_more 22 = .ok (.iinc 3 1, 3) := by decide +kernel
theorem dX7_more_25 : decode cX7_more 25 = .ok (.goto (-15), 3) := by decide +kernel
theorem dX7_more_28 : decode cX7_more 28 = .ok (.aload_n 2, 1) := by decide +kernel
theorem dX7_more_29 : decode cX7_more 29 = .ok (.aload_n 0, 1) := by decide +kernel
theorem dX7_more_30 : decode cX7_more 30 = .ok (.arraylength, 1) := by decide +kernel
theorem dX7_more_31 : decode cX7_more 31 = .ok (.aload_n 1, 1) := by decide +kernel
theorem dX7_more_32 : decode cX7_more 32 = .ok (.aastore, 1) := by decide +kernel
theorem dX7_more_33 : decode cX7_more 33 = .ok (.aload_n 2, 1) := by decide +kernel
theorem dX7_more_34 : decode cX7_more 34 = .ok (.areturn, 1) := by decide +kernel
theorem dX7_build_0 : decode cX7_build 0 = .ok (.aload_n 0, 1) := by decide +kernel
theorem dX7_build_1 : decode cX7_build 1 = .ok (.getfield 34, 3) := by decide +kernel
theorem dX7_build_4 : decode cX7_build 4 = .ok (.arraylength, 1) := by decide +kernel
theorem dX7_build_5 : decode cX7_build 5 = .ok (.iconst 1, 1) := by decide +kernel
theorem dX7_build_6 : decode cX7_build 6 = .ok (.iadd, 1) := by decide +kernel
theorem dX7_build_7 : decode cX7_build 7 = .ok (.anewarray 32, 3) := by decide +kernel
theorem dX7_build_10 : decode cX7_build 10 = .ok (.astore 4, 2) := by decide +kernel
theorem dX7_build_12 : decode cX7_build 12 = .ok (.iconst 0, 1) := by decide +kernel
theorem dX7_build_13 : decode cX7_build 13 = .ok (.istore 5, 2) := by decide +kernel
theorem dX7_build_15 : decode cX7_build 15 = .ok (.iload 5, 2) := by decide +kernel
theorem dX7_build_17 : decode cX7_build 17 = .ok (.aload_n 0, 1) := by decide +kernel
theorem dX7_build_18 : decode cX7_build 18 = .ok (.getfield 34, 3) := by decide +kernel
theorem dX7_build_21 : decode cX7_build 21 = .ok (.arraylength, 1) := by decide +kernel
theorem dX7_build_22 : decode cX7_build 22 = .ok (.if_icmp .ge 21, 3) := by decide +kernel
theorem dX7_build_25 : decode cX7_build 25 = .ok (.aload 4, 2) := by decide +kernel
theorem dX7_build_27 : decode cX7_build 27 = .ok (.iload 5, 2) := by decide +kernel
theorem dX7_build_29 : decode cX7_build 29 = .ok (.aload_n 0, 1) := by decide +kernel
theorem dX7_build_30 : decode cX7_build 30 = .ok (.getfield 34, 3) := by decide +kernel
theorem dX7_build_33 : decode cX7_build 33 = .ok (.iload 5, 2) := by decide +kernel
theorem dX7_build_35 : decode cX7_build 35 = .ok (.aaload, 1) := by decide +kernel
theorem dX7_build_36 : decode cX7_build 36 = .ok (.aastore, 1) := by decide +kernel
theorem dX7_build_37 : decode cX7_build 37 = .ok (.iinc 5 1, 3) := by decide +kernel
theorem dX7_build_40 : decode cX7_build 40 = .ok (.goto (-25), 3) := by decide +kernel
theorem dX7_build_43 : decode cX7_build 43 = .ok (.new 32, 3) := by decide +kernel
theorem dX7_build_46 : decode cX7_build 46 = .ok (.dup, 1) := by decide +kernel
theorem dX7_build_47 : decode cX7_build 47 = .ok (.invokespecial 54, 3) := by decide +kernel
theorem dX7_build_50 : decode cX7_build 50 = .ok (.astore 5, 2) := by decide +kernel
theorem dX7_build_52 : decode cX7_build 52 = .ok (.aload 5, 2) := by decide +kernel
theorem dX7_build_54 : decode cX7_build 54 = .ok (.iload_n 1, 1) := by decide +kernel
theorem dX7_build_55 : decode cX7_build 55 = .ok (.putfield 55, 3) := by decide +kernel
theorem dX7_build_58 : decode cX7_build 58 = .ok (.aload 5, 2) := by decide +kernel
theorem dX7_build_60 : decode cX7_build 60 = .ok (.iload_n 3, 1) := by decide +kernel
theorem dX7_build_61 : decode cX7_build 61 = .ok (.putfield 58, 3) := by decide +kernel
theorem dX7_build_64 : decode cX7_build 64 = .ok (.aload 5, 2) := by decide +kernel
theorem dX7_build_66 : decode cX7_build 66 = .ok (.iload_n 2, 1) := by decide +kernel
theorem dX7_build_67 : decode cX7_build 67 = .ok (.putfield 61, 3) := by decide +kernel
theorem dX7_build_70 : decode cX7_build 70 = .ok (.aload 5, 2) := by decide +kernel
theorem dX7_build_72 : decode cX7_build 72 = .ok (.iload_n 2, 1) := by decide +kernel
theorem dX7_build_73 : decode cX7_build 73 = .ok (.putfield 64, 3) := by decide +kernel
theorem dX7_build_76 : decode cX7_build 76 = .ok (.aload 4, 2) := by decide +kernel
theorem dX7_build_78 : decode cX7_build 78 = .ok (.aload_n 0, 1) := by decide +kernel
theorem dX7_build_79 : decode cX7_build 79 = .ok (.getfield 34, 3) := by decide +kernel
theorem dX7_build_82 : decode cX7_build 82 = .ok (.arraylength, 1) := by decide +kernel
theorem dX7_build_83 : decode cX7_build 83 = .ok (.aload 5, 2) := by decide +kernel
theorem dX7_build_85 : decode cX7_build 85 = .ok (.aastore, 1) := by decide +kernel
theorem dX7_build_86 : decode cX7_build 86 = .ok (.aload_n 0, 1) := by decide +kernel
theorem dX7_build_87 : decode cX7_build 87 = .ok (.aload 4, 2) := by decide +kernel
theorem dX7_build_89 : decode cX7_build 89 = .ok (.putfield 34, 3) := by decide +kernel
theorem dX7_build_92 : decode cX7_build 92 = .ok (.return_, 1) := by decide +kernel
theorem dX7_around_0 : decode cX7_around 0 = .ok (.aload_n 0, 1) := by decide +kernel
theorem dX7_around_1 : decode cX7_around 1 = .ok (.getfield 14, 3) := by decide +kernel
theorem dX7_around_4 : decode cX7_around 4 = .ok (.arraylength, 1) := by decide +kernel
theorem dX7_around_5 : decode cX7_around 5 = .ok (.iconst 2, 1) := by decide +kernel
theorem dX7_around_6 : decode cX7_around 6 = .ok (.if_icmp .ge 7, 3) := by decide +kernel
theorem dX7_around_9 : decode cX7_around 9 = .ok (.iconst 0, 1) := by decide +kernel
theorem dX7_around_10 : decode cX7_around 10 = .ok (.goto 31, 3) := by decide +kernel
theorem dX7_around_13 : decode cX7_around 13 = .ok (.iload_n 1, 1) := by decide +kernel
theorem dX7_around_14 : decode cX7_around 14 = .ok (.iconst 1, 1) := by decide +kernel
theorem dX7_around_15 : decode cX7_around 15 = .ok (.iadd, 1) := by decide +kernel
theorem dX7_around_16 : decode cX7_around 16 = .ok (.aload_n 0, 1) := by decide +kernel
theorem dX7_around_17 : decode cX7_around 17 = .ok (.getfield 14, 3) := by decide +kernel
theorem dX7_around_20 : decode cX7_around 20 = .ok (.arraylength, 1) := by decide +kernel
theorem dX7_around_21 : decode cX7_around 21 = .ok (.if_icmp .ge 14, 3) := by decide +kernel
theorem dX7_around_24 : decode cX7_around 24 = .ok (.aload_n 0, 1) := by decide +kernel
theorem dX7_around_25 : decode cX7_around 25 = .ok (.getfield 21, 3) := by decide +kernel
theorem dX7_around_28 : decode cX7_around 28 = .ok (.iload_n 1, 1) := by decide +kernel
theorem dX7_around_29 : decode cX7_around 29 = .ok (.iconst 1, 1) := by decide +kernel
theorem dX7_around_30 : decode cX7_around 30 = .ok (.iadd, 1) := by decide +kernel
theorem dX7_around_31 : decode cX7_around 31 = .ok (.iaload, 1) := by decide +kernel
theorem dX7_around_32 : decode cX7_around 32 = .ok (.goto 9, 3) := by decide +kernel
theorem dX7_around_35 : decode cX7_around 35 = .ok (.aload_n 0, 1) := by decide +kernel
theorem dX7_around_36 : decode cX7_around 36 = .ok (.getfield 21, 3) := by decide +kernel
theorem dX7_around_39 : decode cX7_around 39 = .ok (.iload_n 1, 1) := by decide +kernel
theorem dX7_around_40 : decode cX7_around 40 = .ok (.iaload, 1) := by decide +kernel
theorem dX7_around_41 : decode cX7_around 41 = .ok (.ireturn, 1) := by decide +kernel
theorem dX7_in_0 : decode cX7_in 0 = .ok (.iconst 0, 1) := by decide +kernel
theorem dX7_in_1 : decode cX7_in 1 = .ok (.istore_n 3, 1) := by decide +kernel
theorem dX7_in_2 : decode cX7_in 2 = .ok (.aload_n 0, 1) := by decide +kernel
theorem dX7_in_3 : decode cX7_in 3 = .ok (.getfield 34, 3) := by decide +kernel
theorem dX7_in_6 : decode cX7_in 6 = .ok (.astore 4, 2) := by decide +kernel
theorem dX7_in_8 : decode cX7_in 8 = .ok (.aload 4, 2) := by decide +kernel
theorem dX7_in_10 : decode cX7_in 10 = .ok (.arraylength, 1) := by decide +kernel
theorem dX7_in_11 : decode cX7_in 11 = .ok (.istore 5, 2) := by decide +kernel
theorem dX7_in_13 : decode cX7_in 13 = .ok (.iconst 0, 1) := by decide +kernel
theorem dX7_in_14 : decode cX7_in 14 = .ok (.istore 6, 2) := by decide +kernel
theorem dX7_in_16 : decode cX7_in 16 = .ok (.iload 6, 2) := by decide +kernel
theorem dX7_in_18 : decode cX7_in 18 = .ok (.iload 5, 2) := by decide +kernel
theorem dX7_in_20 : decode cX7_in 20 = .ok (.if_icmp .ge 42, 3) := by decide +kernel
theorem dX7_in_23 : decode cX7_in 23 = .ok (.aload 4, 2) := by decide +kernel
theorem dX7_in_25 : decode cX7_in 25 = .ok (.iload 6, 2) := by decide +kernel
theorem dX7_in_27 : decode cX7_in 27 = .ok (.aaload, 1) := by decide +kernel
theorem dX7_in_28 : decode cX7_in 28 = .ok (.astore 7, 2) := by decide +kernel
theorem dX7_in_30 : decode cX7_in 30 = .ok (.iload_n 3, 1) := by decide +kernel
theorem dX7_in_31 : decode cX7_in 31 = .ok (.aload 7, 2) := by decide +kernel
theorem dX7_in_33 : decode cX7_in 33 = .ok (.getfield 67, 3) := by decide +kernel
theorem dX7_in_36 : decode cX7_in 36 = .ok (.iload_n 2, 1) := by decide +kernel
theorem dX7_in_37 : decode cX7_in 37 = .ok (.if_icmp .ne 16, 3) := by decide +kernel
theorem dX7_in_40 : decode cX7_in 40 = .ok (.aload 7, 2) := by decide +kernel
theorem dX7_in_42 : decode cX7_in 42 = .ok (.getfield 61, 3) := by decide +kernel
theorem dX7_in_45 : decode cX7_in 45 = .ok (.iload_n 1, 1) := by decide +kernel
theorem dX7_in_46 : decode cX7_in 46 = .ok (.if_icmp .ne 7, 3) := by decide +kernel
theorem dX7_in_49 : decode cX7_in 49 = .ok (.iconst 1, 1) := by decide +kernel
theorem dX7_in_50 : decode cX7_in 50 = .ok (.goto 4, 3) := by decide +kernel
theorem dX7_in_53 : decode cX7_in 53 = .ok (.iconst 0, 1) := by decide +kernel
theorem dX7_in_54 : decode cX7_in 54 = .ok (.iadd, 1) := by decide +kernel
theorem dX7_in_55 : decode cX7_in 55 = .ok (.istore_n 3, 1) := by decide +kernel
theorem dX7_in_56 : decode cX7_in 56 = .ok (.iinc 6 1, 3) := by decide +kernel
theorem dX7_in_59 : decode cX7_in 59 = .ok (.goto (-43), 3) := by decide +kernel
theorem dX7_in_62 : decode cX7_in 62 = .ok (.iload_n 3, 1) := by decide +kernel
theorem dX7_in_63 : decode cX7_in 63 = .ok (.ireturn, 1) := by decide +kernel
theorem dX7_way_0 : decode cX7_way 0 = .ok (.iconst 0, 1) := by decide +kernel
theorem dX7_way_1 : decode cX7_way 1 = .ok (.istore_n 3, 1) := by decide +kernel
theorem dX7_way_2 : decode cX7_way 2 = .ok (.iload_n 1, 1) := by decide +kernel
theorem dX7_way_3 : decode cX7_way 3 = .ok (.istore 4, 2) := by decide +kernel
theorem dX7_way_5 : decode cX7_way 5 = .ok (.iload 4, 2) := by decide +kernel
theorem dX7_way_7 : decode cX7_way 7 = .ok (.iload_n 2, 1) := by decide +kernel
theorem dX7_way_8 : decode cX7_way 8 = .ok (.if_icmp .ge 21, 3) := by decide +kernel
theorem dX7_way_11 : decode cX7_way 11 = .ok (.iload_n 3, 1) := by decide +kernel
theorem dX7_way_12 : decode cX7_way 12 = .ok (.aload_n 0, 1) := by decide +kernel
theorem dX7_way_13 : decode cX7_way 13 = .ok (.getfield 18, 3) := by decide +kernel
theorem dX7_way_16 : decode cX7_way 16 = .ok (.iload 4, 2) := by decide +kernel
theorem dX7_way_18 : decode cX7_way 18 = .ok (.iconst 1, 1) := by decide +kernel
theorem dX7_way_19 : decode cX7_way 19 = .ok (.iadd, 1) := by decide +kernel
theorem dX7_way_20 : decode cX7_way 20 = .ok (.iaload, 1) := by decide +kernel
theorem dX7_way_21 : decode cX7_way 21 = .ok (.iadd, 1) := by decide +kernel
theorem dX7_way_22 : decode cX7_way 22 = .ok (.istore_n 3, 1) := by decide +kernel
theorem dX7_way_23 : decode cX7_way 23 = .ok (.iinc 4 1, 3) := by decide +kernel
theorem dX7_way_26 : decode cX7_way 26 = .ok (.goto (-21), 3) := by decide +kernel
theorem dX7_way_29 : decode cX7_way 29 = .ok (.iload_n 1, 1) := by decide +kernel
theorem dX7_way_30 : decode cX7_way 30 = .ok (.istore 4, 2) := by decide +kernel
theorem dX7_way_32 : decode cX7_way 32 = .ok (.iload 4, 2) := by decide +kernel
theorem dX7_way_34 : decode cX7_way 34 = .ok (.iload_n 2, 1) := by decide +kernel
theorem dX7_way_35 : decode cX7_way 35 = .ok (.if_icmp .le 21, 3) := by decide +kernel
theorem dX7_way_38 : decode cX7_way 38 = .ok (.iload_n 3, 1) := by decide +kernel
theorem dX7_way_39 : decode cX7_way 39 = .ok (.iconst 2, 1) := by decide +kernel
theorem dX7_way_40 : decode cX7_way 40 = .ok (.aload_n 0, 1) := by decide +kernel
theorem dX7_way_41 : decode cX7_way 41 = .ok (.getfield 18, 3) := by decide +kernel
theorem dX7_way_44 : decode cX7_way 44 = .ok (.iload 4, 2) := by decide +kernel
theorem dX7_way_46 : decode cX7_way 46 = .ok (.iaload, 1) := by decide +kernel
theorem dX7_way_47 : decode cX7_way 47 = .ok (.imul, 1) := by decide +kernel
theorem dX7_way_48 : decode cX7_way 48 = .ok (.iadd, 1) := by decide +kernel
theorem dX7_way_49 : decode cX7_way 49 = .ok (.istore_n 3, 1) := by decide +kernel
theorem dX7_way_50 : decode cX7_way 50 = .ok (.iinc 4 (-1), 3) := by decide +kernel
theorem dX7_way_53 : decode cX7_way 53 = .ok (.goto (-21), 3) := by decide +kernel
theorem dX7_way_56 : decode cX7_way 56 = .ok (.iload_n 3, 1) := by decide +kernel
theorem dX7_way_57 : decode cX7_way 57 = .ok (.ireturn, 1) := by decide +kernel
theorem dX7_freeze_0 : decode cX7_freeze 0 = .ok (.aload_n 0, 1) := by decide +kernel
theorem dX7_freeze_1 : decode cX7_freeze 1 = .ok (.getfield 7, 3) := by decide +kernel
theorem dX7_freeze_4 : decode cX7_freeze 4 = .ok (.aload_n 0, 1) := by decide +kernel
theorem dX7_freeze_5 : decode cX7_freeze 5 = .ok (.getfield 50, 3) := by decide +kernel
theorem dX7_freeze_8 : decode cX7_freeze 8 = .ok (.bipush 40, 2) := by decide +kernel
theorem dX7_freeze_10 : decode cX7_freeze 10 = .ok (.irem, 1) := by decide +kernel
theorem dX7_freeze_11 : decode cX7_freeze 11 = .ok (.iaload, 1) := by decide +kernel
theorem dX7_freeze_12 : decode cX7_freeze 12 = .ok (.istore_n 1, 1) := by decide +kernel
theorem dX7_freeze_13 : decode cX7_freeze 13 = .ok (.iconst 1, 1) := by decide +kernel
theorem dX7_freeze_14 : decode cX7_freeze 14 = .ok (.istore_n 2, 1) := by decide +kernel
theorem dX7_freeze_15 : decode cX7_freeze 15 = .ok (.iload_n 2, 1) := by decide +kernel
theorem dX7_freeze_16 : decode cX7_freeze 16 = .ok (.aload_n 0, 1) := by decide +kernel
theorem dX7_freeze_17 : decode cX7_freeze 17 = .ok (.getfield 14, 3) := by decide +kernel
theorem dX7_freeze_20 : decode cX7_freeze 20 = .ok (.arraylength, 1) := by decide +kernel
theorem dX7_freeze_21 : decode cX7_freeze 21 = .ok (.if_icmp .ge 66, 3) := by decide +kernel
theorem dX7_freeze_24 : decode cX7_freeze 24 = .ok (.aload_n 0, 1) := by decide +kernel
theorem dX7_freeze_25 : decode cX7_freeze 25 = .ok (.getfield 21, 3) := by decide +kernel
theorem dX7_freeze_28 : decode cX7_freeze 28 = .ok (.iload_n 2, 1) := by decide +kernel
theorem dX7_freeze_29 : decode cX7_freeze 29 = .ok (.dup2, 1) := by decide +kernel
theorem dX7_freeze_30 : decode cX7_freeze 30 = .ok (.iaload, 1) := by decide +kernel
theorem dX7_freeze_31 : decode cX7_freeze 31 = .ok (.iload_n 1, 1) := by decide +kernel
theorem dX7_freeze_32 : decode cX7_freeze 32 = .ok (.ifCond .ge 8, 3) := by decide +kernel
theorem dX7_freeze_35 : decode cX7_freeze 35 = .ok (.iload_n 1, 1) := by decide +kernel
theorem dX7_freeze_36 : decode cX7_freeze 36 = .ok (.ineg, 1) := by decide +kernel
theorem dX7_freeze_37 : decode cX7_freeze 37 = .ok (.goto 7, 3) := by decide +kernel
theorem dX7_freeze_40 : decode cX7_freeze 40 = .ok (.bipush (-2), 2) := by decide +kernel
theorem dX7_freeze_42 : decode cX7_freeze 42 = .ok (.iload_n 1, 1) := by decide +kernel
theorem dX7_freeze_43 : decode cX7_freeze 43 = .ok (.imul, 1) := by decide +kernel
theorem dX7_freeze_44 : decode cX7_freeze 44 = .ok (.iadd, 1) := by decide +kernel
theorem dX7_freeze_45 : decode cX7_freeze 45 = .ok (.iastore, 1) := by decide +kernel
theorem dX7_freeze_46 : decode cX7_freeze 46 = .ok (.aload_n 0, 1) := by decide +kernel
theorem dX7_freeze_47 : decode cX7_freeze 47 = .ok (.getfield 21, 3) := by decide +kernel
theorem dX7_freeze_50 : decode cX7_freeze 50 = .ok (.iload_n 2, 1) := by decide +kernel
theorem dX7_freeze_51 : decode cX7_freeze 51 = .ok (.iaload, 1) := by decide +kernel
theorem dX7_freeze_52 : decode cX7_freeze 52 = .ok (.ifCond .ge 10, 3) := by decide +kernel
theorem dX7_freeze_55 : decode cX7_freeze 55 = .ok (.aload_n 0, 1) := by decide +kernel
theorem dX7_freeze_56 : decode cX7_freeze 56 = .ok (.getfield 21, 3) := by decide +kernel
theorem dX7_freeze_59 : decode cX7_freeze 59 = .ok (.iload_n 2, 1) := by decide +kernel
theorem dX7_freeze_60 : decode cX7_freeze 60 = .ok (.iconst 0, 1) := by decide +kernel
theorem dX7_freeze_61 : decode cX7_freeze 61 = .ok (.iastore, 1) := by decide +kernel
theorem dX7_freeze_62 : decode cX7_freeze 62 = .ok (.aload_n 0, 1) := by decide +kernel
theorem dX7_freeze_63 : decode cX7_freeze 63 = .ok (.getfield 21, 3) := by decide +kernel
theorem dX7_freeze_66 : decode cX7_freeze 66 = .ok (.iload_n 2, 1) := by decide +kernel
theorem dX7_freeze_67 : decode cX7_freeze 67 = .ok (.iaload, 1) := by decide +kernel
theorem dX7_freeze_68 : decode cX7_freeze 68 = .ok (.bipush 60, 2) := by decide +kernel
theorem dX7_freeze_70 : decode cX7_freeze 70 = .ok (.if_icmp .le 11, 3) := by decide +kernel
theorem dX7_freeze_73 : decode cX7_freeze 73 = .ok (.aload_n 0, 1) := by decide +kernel
theorem dX7_freeze_74 : decode cX7_freeze 74 = .ok (.getfield 21, 3) := by decide +kernel
theorem dX7_freeze_77 : decode cX7_freeze 77 = .ok (.iload_n 2, 1) := by decide +kernel
theorem dX7_freeze_78 : decode cX7_freeze 78 = .ok (.bipush 60, 2) := by decide +kernel
theorem dX7_freeze_80 : decode cX7_freeze 80 = .ok (.iastore, 1) := by decide +kernel
theorem dX7_freeze_81 : decode cX7_freeze 81 = .ok (.iinc 2 1, 3) := by decide +kernel
theorem dX7_freeze_84 : decode cX7_freeze 84 = .ok (.goto (-69), 3) := by decide +kernel
theorem dX7_freeze_87 : decode cX7_freeze 87 = .ok (.return_, 1) := by decide +kernel
theorem dX7_sail_0 : decode cX7_sail 0 = .ok (.aload_n 1, 1) := by decide +kernel
theorem dX7_sail_1 : decode cX7_sail 1 = .ok (.getfield 67, 3) := by decide +kernel
theorem dX7_sail_4 : decode cX7_sail 4 = .ok (.iconst 3, 1) := by decide +kernel
theorem dX7_sail_5 : decode cX7_sail 5 = .ok (.if_icmp .ne 4, 3) := by decide +kernel
theorem dX7_sail_8 : decode cX7_sail 8 = .ok (.return_, 1) := by decide +kernel
theorem dX7_sail_9 : decode cX7_sail 9 = .ok (.aload_n 1, 1) := by decide +kernel
theorem dX7_sail_10 : decode cX7_sail 10 = .ok (.getfield 67, 3) := by decide +kernel
theorem dX7_sail_13 : decode cX7_sail 13 = .ok (.iconst 2, 1) := by decide +kernel
theorem dX7_sail_14 : decode cX7_sail 14 = .ok (.if_icmp .ge 120, 3) := by decide +kernel
theorem dX7_sail_17 : decode cX7_sail 17 = .ok (.aload_n 1, 1) := by decide +kernel
theorem dX7_sail_18 : decode cX7_sail 18 = .ok (.getfield 64, 3) := by decide +kernel
theorem dX7_sail_21 : decode cX7_sail 21 = .ok (.aload_n 1, 1) := by decide +kernel
theorem dX7_sail_22 : decode cX7_sail 22 = .ok (.getfield 61, 3) := by decide +kernel
theorem dX7_sail_25 : decode cX7_sail 25 = .ok (.if_icmp .le 12, 3) := by decide +kernel
theorem dX7_sail_28 : decode cX7_sail 28 = .ok (.aload_n 1, 1) := by decide +kernel
theorem dX7_sail_29 : decode cX7_sail 29 = .ok (.getfield 61, 3) := by decide +kernel
theorem dX7_sail_32 : decode cX7_sail 32 = .ok (.iconst 1, 1) := by decide +kernel
theorem dX7_sail_33 : decode cX7_sail 33 = .ok (.iadd, 1) := by decide +kernel
theorem dX7_sail_34 : decode cX7_sail 34 = .ok (.goto 7, 3) := by decide +kernel
theorem dX7_sail_37 : decode cX7_sail 37 = .ok (.aload_n 1, 1) := by decide +kernel
theorem dX7_sail_38 : decode cX7_sail 38 = .ok (.getfield 61, 3) := by decide +kernel
theorem dX7_sail_41 : decode cX7_sail 41 = .ok (.istore_n 2, 1) := by decide +kernel
theorem dX7_sail_42 : decode cX7_sail 42 = .ok (.aload_n 1, 1) := by decide +kernel
theorem dX7_sail_43 : decode cX7_sail 43 = .ok (.getfield 64, 3) := by decide +kernel
theorem dX7_sail_46 : decode cX7_sail 46 = .ok (.aload_n 1, 1) := by decide +kernel
theorem dX7_sail_47 : decode cX7_sail 47 = .ok (.getfield 61, 3) := by decide +kernel
theorem dX7_sail_50 : decode cX7_sail 50 = .ok (.if_icmp .eq 84, 3) := by decide +kernel
theorem dX7_sail_53 : decode cX7_sail 53 = .ok (.aload_n 0, 1) := by decide +kernel
theorem dX7_sail_54 : decode cX7_sail 54 = .ok (.getfield 21, 3) := by decide +kernel
theorem dX7_sail_57 : decode cX7_sail 57 = .ok (.iload_n 2, 1) := by decide +kernel
theorem dX7_sail_58 : decode cX7_sail 58 = .ok (.iaload, 1) := by decide +kernel
theorem dX7_sail_59 : decode cX7_sail 59 = .ok (.bipush 11, 2) := by decide +kernel
theorem dX7_sail_61 : decode cX7_sail 61 = .ok (.if_icmp .ge 73, 3) := by decide +kernel
theorem dX7_sail_64 : decode cX7_sail 64 = .ok (.aload_n 1, 1) := by decide +kernel
theorem dX7_sail_65 : decode cX7_sail 65 = .ok (.getfield 64, 3) := by decide +kernel
theorem dX7_sail_68 : decode cX7_sail 68 = .ok (.aload_n 1, 1) := by decide +kernel
theorem dX7_sail_69 : decode cX7_sail 69 = .ok (.getfield 61, 3) := by decide +kernel
theorem dX7_sail_72 : decode cX7_sail 72 = .ok (.if_icmp .le 7, 3) := by decide +kernel
theorem dX7_sail_75 : decode cX7_sail 75 = .ok (.iconst 1, 1) := by decide +kernel
theorem dX7_sail_76 : decode cX7_sail 76 = .ok (.goto 4, 3) := by decide +kernel
theorem dX7_sail_79 : decode cX7_sail 79 = .ok (.iconst 0, 1) := by decide +kernel
theorem dX7_sail_80 : decode cX7_sail 80 = .ok (.istore_n 3, 1) := by decide +kernel
theorem dX7_sail_81 : decode cX7_sail 81 = .ok (.aload_n 1, 1) := by decide +kernel
theorem dX7_sail_82 : decode cX7_sail 82 = .ok (.iconst 2, 1) := by decide +kernel
theorem dX7_sail_83 : decode cX7_sail 83 = .ok (.putfield 67, 3) := by decide +kernel
theorem dX7_sail_86 : decode cX7_sail 86 = .ok (.aload_n 1, 1) := by decide +kernel
theorem dX7_sail_87 : decode cX7_sail 87 = .ok (.iload_n 2, 1) := by decide +kernel
theorem dX7_sail_88 : decode cX7_sail 88 = .ok (.putfield 70, 3) := by decide +kernel
theorem dX7_sail_91 : decode cX7_sail 91 = .ok (.aload_n 1, 1) := by decide +kernel
theorem dX7_sail_92 : decode cX7_sail 92 = .ok (.iload_n 3, 1) := by decide +kernel
theorem dX7_sail_93 : decode cX7_sail 93 = .ok (.ifCond .eq 12, 3) := by decide +kernel
theorem dX7_sail_96 : decode cX7_sail 96 = .ok (.aload_n 0, 1) := by decide +kernel
theorem dX7_sail_97 : decode cX7_sail 97 = .ok (.getfield 18, 3) := by decide +kernel
theorem dX7_sail_100 : decode cX7_sail 100 = .ok (.iload_n 2, 1) := by decide +kernel
theorem dX7_sail_101 : decode cX7_sail 101 = .ok (.iaload, 1) := by decide +kernel
theorem dX7_sail_102 : decode cX7_sail 102 = .ok (.goto 11, 3) := by decide +kernel
theorem dX7_sail_105 : decode cX7_sail 105 = .ok (.iconst 2, 1) := by decide +kernel
theorem dX7_sail_106 : decode cX7_sail 106 = .ok (.aload_n 0, 1) := by decide +kernel
theorem dX7_sail_107 : decode cX7_sail 107 = .ok (.getfield 18, 3) := by decide +kernel
theorem dX7_sail_110 : decode cX7_sail 110 = .ok (.iload_n 2, 1) := by decide +kernel
theorem dX7_sail_111 : decode cX7_sail 111 = .ok (.iaload, 1) := by decide +kernel
theorem dX7_sail_112 : decode cX7_sail 112 = .ok (.imul, 1) := by decide +kernel
theorem dX7_sail_113 : decode cX7_sail 113 = .ok (.putfield 73, 3) := by decide +kernel
theorem dX7_sail_116 : decode cX7_sail 116 = .ok (.aload_n 1, 1) := by decide +kernel
theorem dX7_sail_117 : decode cX7_sail 117 = .ok (.dup, 1) := by decide +kernel
theorem dX7_sail_118 : decode cX7_sail 118 = .ok (.getfield 61, 3) := by decide +kernel
theorem dX7_sail_121 : decode cX7_sail 121 = .ok (.iload_n 3, 1) := by decide +kernel
theorem dX7_sail_122 : decode cX7_sail 122 = .ok (.ifCond .eq 7, 3) := by decide +kernel
theorem dX7_sail_125 : decode cX7_sail 125 = .ok (.iconst 1, 1) := by decide +kernel
theorem dX7_sail_126 : decode cX7_sail 126 = .ok (.goto 4, 3) := by decide +kernel
theorem dX7_sail_129 : decode cX7_sail 129 = .ok (.iconst (-1), 1) := by decide +kernel
theorem dX7_sail_130 : decode cX7_sail 130 = .ok (.iadd, 1) := by decide +kernel
theorem dX7_sail_131 : decode cX7_sail 131 = .ok (.putfield 61, 3) := by decide +kernel
theorem dX7_sail_134 : decode cX7_sail 134 = .ok (.aload_n 1, 1) := by decide +kernel
theorem dX7_sail_135 : decode cX7_sail 135 = .ok (.getfield 67, 3) := by decide +kernel
theorem dX7_sail_138 : decode cX7_sail 138 = .ok (.iconst 2, 1) := by decide +kernel
theorem dX7_sail_139 : decode cX7_sail 139 = .ok (.if_icmp .ne 39, 3) := by decide +kernel
theorem dX7_sail_142 : decode cX7_sail 142 = .ok (.aload_n 0, 1) := by decide +kernel
theorem dX7_sail_143 : decode cX7_sail 143 = .ok (.getfield 21, 3) := by decide +kernel
theorem dX7_sail_146 : decode cX7_sail 146 = .ok (.aload_n 1, 1) := by decide +kernel
theorem dX7_sail_147 : decode cX7_sail 147 = .ok (.getfield 70, 3) := by decide +kernel
theorem dX7_sail_150 : decode cX7_sail 150 = .ok (.iaload, 1) := by decide +kernel
theorem dX7_sail_151 : decode cX7_sail 151 = .ok (.bipush 11, 2) := by decide +kernel
theorem dX7_sail_153 : decode cX7_sail 153 = .ok (.if_icmp .ge 25, 3) := by decide +kernel
theorem dX7_sail_156 : decode cX7_sail 156 = .ok (.aload_n 1, 1) := by decide +kernel
theorem dX7_sail_157 : decode cX7_sail 157 = .ok (.dup, 1) := by decide +kernel
theorem dX7_sail_158 : decode cX7_sail 158 = .ok (.getfield 73, 3) := by decide +kernel
theorem dX7_sail_161 : decode cX7_sail 161 = .ok (.iconst 1, 1) := by decide +kernel
theorem dX7_sail_162 : decode cX7_sail 162 = .ok (.isub, 1) := by decide +kernel
theorem dX7_sail_163 : decode cX7_sail 163 = .ok (.putfield 73, 3) := by decide +kernel
theorem dX7_sail_166 : decode cX7_sail 166 = .ok (.aload_n 1, 1) := by decide +kernel
theorem dX7_sail_167 : decode cX7_sail 167 = .ok (.getfield 73, 3) := by decide +kernel
theorem dX7_sail_170 : decode cX7_sail 170 = .ok (.ifCond .ne 8, 3) := by decide +kernel
theorem dX7_sail_173 : decode cX7_sail 173 = .ok (.aload_n 1, 1) := by decide +kernel
theorem dX7_sail_174 : decode cX7_sail 174 = .ok (.iconst 0, 1) := by decide +kernel
theorem dX7_sail_175 : decode cX7_sail 175 = .ok (.putfield 67, 3) := by decide +kernel
theorem dX7_sail_178 : decode cX7_sail 178 = .ok (.aload_n 1, 1) := by decide +kernel
theorem dX7_sail_179 : decode cX7_sail 179 = .ok (.getfield 67, 3) := by decide +kernel
theorem dX7_sail_182 : decode cX7_sail 182 = .ok (.iconst 2, 1) := by decide +kernel
theorem dX7_sail_183 : decode cX7_sail 183 = .ok (.if_icmp .ne 25, 3) := by decide +kernel
theorem dX7_sail_186 : decode cX7_sail 186 = .ok (.aload_n 0, 1) := by decide +kernel
theorem dX7_sail_187 : decode cX7_sail 187 = .ok (.getfield 21, 3) := by decide +kernel
theorem dX7_sail_190 : decode cX7_sail 190 = .ok (.aload_n 1, 1) := by decide +kernel
theorem dX7_sail_191 : decode cX7_sail 191 = .ok (.getfield 70, 3) := by decide +kernel
theorem dX7_sail_194 : decode cX7_sail 194 = .ok (.iaload, 1) := by decide +kernel
theorem dX7_sail_195 : decode cX7_sail 195 = .ok (.bipush 20, 2) := by decide +kernel
theorem dX7_sail_197 : decode cX7_sail 197 = .ok (.if_icmp .le 7, 3) := by decide +kernel
theorem dX7_sail_200 : decode cX7_sail 200 = .ok (.iconst 1, 1) := by decide +kernel
theorem dX7_sail_201 : decode cX7_sail 201 = .ok (.goto 32, 3) := by decide +kernel
theorem dX7_sail_204 : decode cX7_sail 204 = .ok (.iconst 0, 1) := by decide +kernel
theorem dX7_sail_205 : decode cX7_sail 205 = .ok (.goto 28, 3) := by decide +kernel
theorem dX7_sail_208 : decode cX7_sail 208 = .ok (.aload_n 1, 1) := by decide +kernel
theorem dX7_sail_209 : decode cX7_sail 209 = .ok (.getfield 67, 3) := by decide +kernel
theorem dX7_sail_212 : decode cX7_sail 212 = .ok (.ifCond .ne 20, 3) := by decide +kernel
theorem dX7_sail_215 : decode cX7_sail 215 = .ok (.aload_n 0, 1) := by decide +kernel
theorem dX7_sail_216 : decode cX7_sail 216 = .ok (.aload_n 1, 1) := by decide +kernel
theorem dX7_sail_217 : decode cX7_sail 217 = .ok (.getfield 61, 3) := by decide +kernel
theorem dX7_sail_220 : decode cX7_sail 220 = .ok (.invokevirtual 76, 3) := by decide +kernel
theorem dX7_sail_223 : decode cX7_sail 223 = .ok (.bipush 20, 2) := by decide +kernel
theorem dX7_sail_225 : decode cX7_sail 225 = .ok (.if_icmp .le 7, 3) := by decide +kernel
theorem dX7_sail_228 : decode cX7_sail 228 = .ok (.iconst 1, 1) := by decide +kernel
theorem dX7_sail_229 : decode cX7_sail 229 = .ok (.goto 4, 3) := by decide +kernel
theorem dX7_sail_232 : decode cX7_sail 232 = .ok (.iconst 0, 1) := by decide +kernel
theorem dX7_sail_233 : decode cX7_sail 233 = .ok (.istore_n 2, 1) := by decide +kernel
theorem dX7_sail_234 : decode cX7_sail 234 = .ok (.iload_n 2, 1) := by decide +kernel
theorem dX7_sail_235 : decode cX7_sail 235 = .ok (.ifCond .ne 4, 3) := by decide +kernel
theorem dX7_sail_238 : decode cX7_sail 238 = .ok (.return_, 1) := by decide +kernel
theorem dX7_sail_239 : decode cX7_sail 239 = .ok (.aload_n 1, 1) := by decide +kernel
theorem dX7_sail_240 : decode cX7_sail 240 = .ok (.dup, 1) := by decide +kernel
theorem dX7_sail_241 : decode cX7_sail 241 = .ok (.getfield 80, 3) := by decide +kernel
theorem dX7_sail_244 : decode cX7_sail 244 = .ok (.iconst 1, 1) := by decide +kernel
theorem dX7_sail_245 : decode cX7_sail 245 = .ok (.isub, 1) := by decide +kernel
theorem dX7_sail_246 : decode cX7_sail 246 = .ok (.putfield 80, 3) := by decide +kernel
theorem dX7_sail_249 : decode cX7_sail 249 = .ok (.aload_n 1, 1) := by decide +kernel
theorem dX7_sail_250 : decode cX7_sail 250 = .ok (.getfield 80, 3) := by decide +kernel
theorem dX7_sail_253 : decode cX7_sail 253 = .ok (.ifCond .le 4, 3) := by decide +kernel
theorem dX7_sail_256 : decode cX7_sail 256 = .ok (.return_, 1) := by decide +kernel
theorem dX7_sail_257 : decode cX7_sail 257 = .ok (.aload_n 1, 1) := by decide +kernel
theorem dX7_sail_258 : decode cX7_sail 258 = .ok (.iconst 3, 1) := by decide +kernel
theorem dX7_sail_259 : decode cX7_sail 259 = .ok (.putfield 67, 3) := by decide +kernel
theorem dX7_sail_262 : decode cX7_sail 262 = .ok (.aload_n 1, 1) := by decide +kernel
theorem dX7_sail_263 : decode cX7_sail 263 = .ok (.iconst (-1), 1) := by decide +kernel
theorem dX7_sail_264 : decode cX7_sail 264 = .ok (.putfield 61, 3) := by decide +kernel
theorem dX7_sail_267 : decode cX7_sail 267 = .ok (.aload_n 1, 1) := by decide +kernel
theorem dX7_sail_268 : decode cX7_sail 268 = .ok (.iconst 0, 1) := by decide +kernel
theorem dX7_sail_269 : decode cX7_sail 269 = .ok (.putfield 73, 3) := by decide +kernel
theorem dX7_sail_272 : decode cX7_sail 272 = .ok (.aload_n 1, 1) := by decide +kernel
theorem dX7_sail_273 : decode cX7_sail 273 = .ok (.iconst 4, 1) := by decide +kernel
theorem dX7_sail_274 : decode cX7_sail 274 = .ok (.newarray .int, 2) := by decide +kernel
theorem dX7_sail_276 : decode cX7_sail 276 = .ok (.putfield 83, 3) := by decide +kernel
theorem dX7_sail_279 : decode cX7_sail 279 = .ok (.return_, 1) := by decide +kernel
theorem dX7_pays_0 : decode cX7_pays 0 = .ok (.aload_n 0, 1) := by decide +kernel
theorem dX7_pays_1 : decode cX7_pays 1 = .ok (.getfield 29, 3) := by decide +kernel
theorem dX7_pays_4 : decode cX7_pays 4 = .ok (.aload_n 1, 1) := by decide +kernel
theorem dX7_pays_5 : decode cX7_pays 5 = .ok (.iconst 1, 1) := by decide +kernel
theorem dX7_pays_6 : decode cX7_pays 6 = .ok (.iaload, 1) := by decide +kernel
theorem dX7_pays_7 : decode cX7_pays 7 = .ok (.aaload, 1) := by decide +kernel
theorem dX7_pays_8 : decode cX7_pays 8 = .ok (.iload_n 2, 1) := by decide +kernel
theorem dX7_pays_9 : decode cX7_pays 9 = .ok (.aaload, 1) := by decide +kernel
theorem dX7_pays_10 : decode cX7_pays 10 = .ok (.aload_n 1, 1) := by decide +kernel
theorem dX7_pays_11 : decode cX7_pays 11 = .ok (.iconst 3, 1) := by decide +kernel
theorem dX7_pays_12 : decode cX7_pays 12 = .ok (.iaload, 1) := by decide +kernel
theorem dX7_pays_13 : decode cX7_pays 13 = .ok (.iaload, 1) := by decide +kernel
theorem dX7_pays_14 : decode cX7_pays 14 = .ok (.aload_n 1, 1) := by decide +kernel
theorem dX7_pays_15 : decode cX7_pays 15 = .ok (.iconst 4, 1) := by decide +kernel
theorem dX7_pays_16 : decode cX7_pays 16 = .ok (.iaload, 1) := by decide +kernel
theorem dX7_pays_17 : decode cX7_pays 17 = .ok (.if_icmp .ge 5, 3) := by decide +kernel
theorem dX7_pays_20 : decode cX7_pays 20 = .ok (.iconst 0, 1) := by decide +kernel
theorem dX7_pays_21 : decode cX7_pays 21 = .ok (.ireturn, 1) := by decide +kernel
theorem dX7_pays_22 : decode cX7_pays 22 = .ok (.aload_n 0, 1) := by decide +kernel
theorem dX7_pays_23 : decode cX7_pays 23 = .ok (.getfield 29, 3) := by decide +kernel
theorem dX7_pays_26 : decode cX7_pays 26 = .ok (.aload_n 1, 1) := by decide +kernel
theorem dX7_pays_27 : decode cX7_pays 27 = .ok (.iconst 1, 1) := by decide +kernel
theorem dX7_pays_28 : decode cX7_pays 28 = .ok (.iaload, 1) := by decide +kernel
theorem dX7_pays_29 : decode cX7_pays 29 = .ok (.aaload, 1) := by decide +kernel
theorem dX7_pays_30 : decode cX7_pays 30 = .ok (.iload_n 2, 1) := by decide +kernel
theorem dX7_pays_31 : decode cX7_pays 31 = .ok (.aaload, 1) := by decide +kernel
theorem dX7_pays_32 : decode cX7_pays 32 = .ok (.aload_n 1, 1) := by decide +kernel
theorem dX7_pays_33 : decode cX7_pays 33 = .ok (.iconst 3, 1) := by decide +kernel
theorem dX7_pays_34 : decode cX7_pays 34 = .ok (.iaload, 1) := by decide +kernel
theorem dX7_pays_35 : decode cX7_pays 35 = .ok (.dup2, 1) := by decide +kernel
theorem dX7_pays_36 : decode cX7_pays 36 = .ok (.iaload, 1) := by decide +kernel
theorem dX7_pays_37 : decode cX7_pays 37 = .ok (.aload_n 1, 1) := by decide +kernel
theorem dX7_pays_38 : decode cX7_pays 38 = .ok (.iconst 4, 1) := by decide +kernel
theorem dX7_pays_39 : decode cX7_pays 39 = .ok (.iaload, 1) := by decide +kernel
theorem dX7_pays_40 : decode cX7_pays 40 = .ok (.isub, 1) := by decide +kernel
theorem dX7_pays_41 : decode cX7_pays 41 = .ok (.iastore, 1) := by decide +kernel
theorem dX7_pays_42 : decode cX7_pays 42 = .ok (.aload_n 0, 1) := by decide +kernel
theorem dX7_pays_43 : decode cX7_pays 43 = .ok (.getfield 29, 3) := by decide +kernel
theorem dX7_pays_46 : decode cX7_pays 46 = .ok (.aload_n 1, 1) := by decide +kernel
theorem dX7_pays_47 : decode cX7_pays 47 = .ok (.iconst 0, 1) := by decide +kernel
theorem dX7_pays_48 : decode cX7_pays 48 = .ok (.iaload, 1) := by decide +kernel
theorem dX7_pays_49 : decode cX7_pays 49 = .ok (.aaload, 1) := by decide +kernel
theorem dX7_pays_50 : decode cX7_pays 50 = .ok (.iload_n 2, 1) := by decide +kernel
theorem dX7_pays_51 : decode cX7_pays 51 = .ok (.aaload, 1) := by decide +kernel
theorem dX7_pays_52 : decode cX7_pays 52 = .ok (.aload_n 1, 1) := by decide +kernel
theorem dX7_pays_53 : decode cX7_pays 53 = .ok (.iconst 3, 1) := by decide +kernel
theorem dX7_pays_54 : decode cX7_pays 54 = .ok (.iaload, 1) := by decide +kernel
theorem dX7_pays_55 : decode cX7_pays 55 = .ok (.dup2, 1) := by decide +kernel
theorem dX7_pays_56 : decode cX7_pays 56 = .ok (.iaload, 1) := by decide +kernel
theorem dX7_pays_57 : decode cX7_pays 57 = .ok (.aload_n 1, 1) := by decide +kernel
theorem dX7_pays_58 : decode cX7_pays 58 = .ok (.iconst 4, 1) := by decide +kernel
theorem dX7_pays_59 : decode cX7_pays 59 = .ok (.iaload, 1) := by decide +kernel
theorem dX7_pays_60 : decode cX7_pays 60 = .ok (.iadd, 1) := by decide +kernel
theorem dX7_pays_61 : decode cX7_pays 61 = .ok (.iastore, 1) := by decide +kernel
theorem dX7_pays_62 : decode cX7_pays 62 = .ok (.aload_n 1, 1) := by decide +kernel
theorem dX7_pays_63 : decode cX7_pays 63 = .ok (.bipush 6, 2) := by decide +kernel
theorem dX7_pays_65 : decode cX7_pays 65 = .ok (.iconst 1, 1) := by decide +kernel
theorem dX7_pays_66 : decode cX7_pays 66 = .ok (.iastore, 1) := by decide +kernel
theorem dX7_pays_67 : decode cX7_pays 67 = .ok (.iconst 1, 1) := by decide +kernel
theorem dX7_pays_68 : decode cX7_pays 68 = .ok (.ireturn, 1) := by decide +kernel
theorem dX7_pass_0 : decode cX7_pass 0 = .ok (.aload_n 0, 1) := by decide +kernel
theorem dX7_pass_1 : decode cX7_pass 1 = .ok (.invokevirtual 86, 3) := by decide +kernel
theorem dX7_pass_4 : decode cX7_pass 4 = .ok (.istore_n 1, 1) := by decide +kernel
theorem dX7_pass_5 : decode cX7_pass 5 = .ok (.aload_n 0, 1) := by decide +kernel
theorem dX7_pass_6 : decode cX7_pass 6 = .ok (.invokevirtual 90, 3) := by decide +kernel
theorem dX7_pass_9 : decode cX7_pass 9 = .ok (.aload_n 0, 1) := by decide +kernel
theorem dX7_pass_10 : decode cX7_pass 10 = .ok (.getfield 34, 3) := by decide +kernel
theorem dX7_pass_13 : decode cX7_pass 13 = .ok (.astore_n 2, 1) := by decide +kernel
theorem dX7_pass_14 : decode cX7_pass 14 = .ok (.aload_n 2, 1) := by decide +kernel
theorem dX7_pass_15 : decode cX7_pass 15 = .ok (.arraylength, 1) := by decide +kernel
theorem dX7_pass_16 : decode cX7_pass 16 = .ok (.istore_n 3, 1) := by decide +kernel
theorem dX7_pass_17 : decode cX7_pass 17 = .ok (.iconst 0, 1) := by decide +kernel
theorem dX7_pass_18 : decode cX7_pass 18 = .ok (.istore 4, 2) := by decide +kernel
theorem dX7_pass_20 : decode cX7_pass 20 = .ok (.iload 4, 2) := by decide +kernel
theorem dX7_pass_22 : decode cX7_pass 22 = .ok (.iload_n 3, 1) := by decide +kernel
theorem dX7_pass_23 : decode cX7_pass 23 = .ok (.if_icmp .ge 63, 3) := by decide +kernel
theorem dX7_pass_26 : decode cX7_pass 26 = .ok (.aload_n 2, 1) := by decide +kernel
theorem dX7_pass_27 : decode cX7_pass 27 = .ok (.iload 4, 2) := by decide +kernel
theorem dX7_pass_29 : decode cX7_pass 29 = .ok (.aaload, 1) := by decide +kernel
theorem dX7_pass_30 : decode cX7_pass 30 = .ok (.astore 5, 2) := by decide +kernel
theorem dX7_pass_32 : decode cX7_pass 32 = .ok (.aload 5, 2) := by decide +kernel
theorem dX7_pass_34 : decode cX7_pass 34 = .ok (.getfield 67, 3) := by decide +kernel
theorem dX7_pass_37 : decode cX7_pass 37 = .ok (.iconst 1, 1) := by decide +kernel
theorem dX7_pass_38 : decode cX7_pass 38 = .ok (.if_icmp .eq 6, 3) := by decide +kernel
theorem dX7_pass_41 : decode cX7_pass 41 = .ok (.goto 39, 3) := by decide +kernel
theorem dX7_pass_44 : decode cX7_pass 44 = .ok (.aload_n 0, 1) := by decide +kernel
theorem dX7_pass_45 : decode cX7_pass 45 = .ok (.getfield 24, 3) := by decide +kernel
theorem dX7_pass_48 : decode cX7_pass 48 = .ok (.aload 5, 2) := by decide +kernel
theorem dX7_pass_50 : decode cX7_pass 50 = .ok (.getfield 55, 3) := by decide +kernel
theorem dX7_pass_53 : decode cX7_pass 53 = .ok (.iaload, 1) := by decide +kernel
theorem dX7_pass_54 : decode cX7_pass 54 = .ok (.ifCond .ne 12, 3) := by decide +kernel
theorem dX7_pass_57 : decode cX7_pass 57 = .ok (.aload 5, 2) := by decide +kernel
theorem dX7_pass_59 : decode cX7_pass 59 = .ok (.iconst 0, 1) := by decide +kernel
theorem dX7_pass_60 : decode cX7_pass 60 = .ok (.putfield 67, 3) := by decide +kernel
theorem dX7_pass_63 : decode cX7_pass 63 = .ok (.goto 17, 3) := by decide +kernel
theorem dX7_pass_66 : decode cX7_pass 66 = .ok (.aload_n 0, 1) := by decide +kernel
theorem dX7_pass_67 : decode cX7_pass 67 = .ok (.getfield 24, 3) := by decide +kernel
theorem dX7_pass_70 : decode cX7_pass 70 = .ok (.aload 5, 2) := by decide +kernel
theorem dX7_pass_72 : decode cX7_pass 72 = .ok (.getfield 55, 3) := by decide +kernel
theorem dX7_pass_75 : decode cX7_pass 75 = .ok (.dup2, 1) := by decide +kernel
theorem dX7_pass_76 : decode cX7_pass 76 = .ok (.iaload, 1) := by decide +kernel
theorem dX7_pass_77 : decode cX7_pass 77 = .ok (.iconst 1, 1) := by decide +kernel
theorem dX7_pass_78 : decode cX7_pass 78 = .ok (.isub, 1) := by decide +kernel
theorem dX7_pass_79 : decode cX7_pass 79 = .ok (.iastore, 1) := by decide +kernel
theorem dX7_pass_80 : decode cX7_pass 80 = .ok (.iinc 4 1, 3) := by decide +kernel
theorem dX7_pass_83 : decode cX7_pass 83 = .ok (.goto (-63), 3) := by decide +kernel
theorem dX7_pass_86 : decode cX7_pass 86 = .ok (.aload_n 0, 1) := by decide +kernel
theorem dX7_pass_87 : decode cX7_pass 87 = .ok (.getfield 34, 3) := by decide +kernel
theorem dX7_pass_90 : decode cX7_pass 90 = .ok (.astore_n 2, 1) := by decide +kernel
theorem dX7_pass_91 : decode cX7_pass 91 = .ok (.aload_n 2, 1) := by decide +kernel
theorem dX7_pass_92 : decode cX7_pass 92 = .ok (.arraylength, 1) := by decide +kernel
theorem dX7_pass_93 : decode cX7_pass 93 = .ok (.istore_n 3, 1) := by decide +kernel
theorem dX7_pass_94 : decode cX7_pass 94 = .ok (.iconst 0, 1) := by decide +kernel
theorem dX7_pass_95 : decode cX7_pass 95 = .ok (.istore 4, 2) := by decide +kernel
theorem dX7_pass_97 : decode cX7_pass 97 = .ok (.iload 4, 2) := by decide +kernel
theorem dX7_pass_99 : decode cX7_pass 99 = .ok (.iload_n 3, 1) := by decide +kernel
theorem dX7_pass_100 : decode cX7_pass 100 = .ok (.if_icmp .ge 21, 3) := by decide +kernel
theorem dX7_pass_103 : decode cX7_pass 103 = .ok (.aload_n 2, 1) := by decide +kernel
theorem dX7_pass_104 : decode cX7_pass 104 = .ok (.iload 4, 2) := by decide +kernel
theorem dX7_pass_106 : decode cX7_pass 106 = .ok (.aaload, 1) := by decide +kernel
theorem dX7_pass_107 : decode cX7_pass 107 = .ok (.astore 5, 2) := by decide +kernel
theorem dX7_pass_109 : decode cX7_pass 109 = .ok (.aload_n 0, 1) := by decide +kernel
theorem dX7_pass_110 : decode cX7_pass 110 = .ok (.aload 5, 2) := by decide +kernel
theorem dX7_pass_112 : decode cX7_pass 112 = .ok (.invokevirtual 93, 3) := by decide +kernel
theorem dX7_pass_115 : decode cX7_pass 115 = .ok (.iinc 4 1, 3) := by decide +kernel
theorem dX7_pass_118 : decode cX7_pass 118 = .ok (.goto (-21), 3) := by decide +kernel
theorem dX7_pass_121 : decode cX7_pass 121 = .ok (.aload_n 0, 1) := by decide +kernel
theorem dX7_pass_122 : decode cX7_pass 122 = .ok (.getfield 38, 3) := by decide +kernel
theorem dX7_pass_125 : decode cX7_pass 125 = .ok (.astore_n 2, 1) := by decide +kernel
theorem dX7_pass_126 : decode cX7_pass 126 = .ok (.aload_n 2, 1) := by decide +kernel
theorem dX7_pass_127 : decode cX7_pass 127 = .ok (.arraylength, 1) := by decide +kernel
theorem dX7_pass_128 : decode cX7_pass 128 = .ok (.istore_n 3, 1) := by decide +kernel
theorem dX7_pass_129 : decode cX7_pass 129 = .ok (.iconst 0, 1) := by decide +kernel
theorem dX7_pass_130 : decode cX7_pass 130 = .ok (.istore 4, 2) := by decide +kernel
theorem dX7_pass_132 : decode cX7_pass 132 = .ok (.iload 4, 2) := by decide +kernel
theorem dX7_pass_134 : decode cX7_pass 134 = .ok (.iload_n 3, 1) := by decide +kernel
theorem dX7_pass_135 : decode cX7_pass 135 = .ok (.if_icmp .ge 137, 3) := by decide +kernel
theorem dX7_pass_138 : decode cX7_pass 138 = .ok (.aload_n 2, 1) := by decide +kernel
theorem dX7_pass_139 : decode cX7_pass 139 = .ok (.iload 4, 2) := by decide +kernel
theorem dX7_pass_141 : decode cX7_pass 141 = .ok (.aaload, 1) := by decide +kernel
theorem dX7_pass_142 : decode cX7_pass 142 = .ok (.astore 5, 2) := by decide +kernel
theorem dX7_pass_144 : decode cX7_pass 144 = .ok (.aload 5, 2) := by decide +kernel
theorem dX7_pass_146 : decode cX7_pass 146 = .ok (.bipush 6, 2) := by decide +kernel
theorem dX7_pass_148 : decode cX7_pass 148 = .ok (.iaload, 1) := by decide +kernel
theorem dX7_pass_149 : decode cX7_pass 149 = .ok (.ifCond .gt 117, 3) := by decide +kernel
theorem dX7_pass_152 : decode cX7_pass 152 = .ok (.aload 5, 2) := by decide +kernel
theorem dX7_pass_154 : decode cX7_pass 154 = .ok (.iconst 5, 1) := by decide +kernel
theorem dX7_pass_155 : decode cX7_pass 155 = .ok (.iaload, 1) := by decide +kernel
theorem dX7_pass_156 : decode cX7_pass 156 = .ok (.aload_n 0, 1) := by decide +kernel
theorem dX7_pass_157 : decode cX7_pass 157 = .ok (.getfield 50, 3) := by decide +kernel
theorem dX7_pass_160 : decode cX7_pass 160 = .ok (.if_icmp .gt 106, 3) := by decide +kernel
theorem dX7_pass_163 : decode cX7_pass 163 = .ok (.aload_n 0, 1) := by decide +kernel
theorem dX7_pass_164 : decode cX7_pass 164 = .ok (.aload 5, 2) := by decide +kernel
theorem dX7_pass_166 : decode cX7_pass 166 = .ok (.aload 5, 2) := by decide +kernel
theorem dX7_pass_168 : decode cX7_pass 168 = .ok (.iconst 2, 1) := by decide +kernel
theorem dX7_pass_169 : decode cX7_pass 169 = .ok (.iaload, 1) := by decide +kernel
theorem dX7_pass_170 : decode cX7_pass 170 = .ok (.invokevirtual 97, 3) := by decide +kernel
theorem dX7_pass_173 : decode cX7_pass 173 = .ok (.ifCond .eq 6, 3) := by decide +kernel
theorem dX7_pass_176 : decode cX7_pass 176 = .ok (.goto 90, 3) := by decide +kernel
theorem dX7_pass_179 : decode cX7_pass 179 = .ok (.aload 5, 2) := by decide +kernel
theorem dX7_pass_181 : decode cX7_pass 181 = .ok (.iconst 4, 1) := by decide +kernel
theorem dX7_pass_182 : decode cX7_pass 182 = .ok (.iaload, 1) := by decide +kernel
theorem dX7_pass_183 : decode cX7_pass 183 = .ok (.aload_n 0, 1) := by decide +kernel
theorem dX7_pass_184 : decode cX7_pass 184 = .ok (.getfield 14, 3) := by decide +kernel
theorem dX7_pass_187 : decode cX7_pass 187 = .ok (.aload 5, 2) := by decide +kernel
theorem dX7_pass_189 : decode cX7_pass 189 = .ok (.iconst 2, 1) := by decide +kernel
theorem dX7_pass_190 : decode cX7_pass 190 = .ok (.iaload, 1) := by decide +kernel
theorem dX7_pass_191 : decode cX7_pass 191 = .ok (.aaload, 1) := by decide +kernel
theorem dX7_pass_192 : decode cX7_pass 192 = .ok (.iconst 1, 1) := by decide +kernel
theorem dX7_pass_193 : decode cX7_pass 193 = .ok (.aload 5, 2) := by decide +kernel
theorem dX7_pass_195 : decode cX7_pass 195 = .ok (.iconst 3, 1) := by decide +kernel
theorem dX7_pass_196 : decode cX7_pass 196 = .ok (.iaload, 1) := by decide +kernel
theorem dX7_pass_197 : decode cX7_pass 197 = .ok (.iadd, 1) := by decide +kernel
theorem dX7_pass_198 : decode cX7_pass 198 = .ok (.iaload, 1) := by decide +kernel
theorem dX7_pass_199 : decode cX7_pass 199 = .ok (.imul, 1) := by decide +kernel
theorem dX7_pass_200 : decode cX7_pass 200 = .ok (.istore 6, 2) := by decide +kernel
theorem dX7_pass_202 : decode cX7_pass 202 = .ok (.aload 5, 2) := by decide +kernel
theorem dX7_pass_204 : decode cX7_pass 204 = .ok (.bipush 6, 2) := by decide +kernel
theorem dX7_pass_206 : decode cX7_pass 206 = .ok (.aload_n 0, 1) := by decide +kernel
theorem dX7_pass_207 : decode cX7_pass 207 = .ok (.getfield 24, 3) := by decide +kernel
theorem dX7_pass_210 : decode cX7_pass 210 = .ok (.aload 5, 2) := by decide +kernel
theorem dX7_pass_212 : decode cX7_pass 212 = .ok (.iconst 1, 1) := by decide +kernel
theorem dX7_pass_213 : decode cX7_pass 213 = .ok (.iaload, 1) := by decide +kernel
theorem dX7_pass_214 : decode cX7_pass 214 = .ok (.iaload, 1) := by decide +kernel
theorem dX7_pass_215 : decode cX7_pass 215 = .ok (.iload 6, 2) := by decide +kernel
theorem dX7_pass_217 : decode cX7_pass 217 = .ok (.if_icmp .ge 7, 3) := by decide +kernel
theorem dX7_pass_220 : decode cX7_pass 220 = .ok (.iconst 2, 1) := by decide +kernel
theorem dX7_pass_221 : decode cX7_pass 221 = .ok (.goto 4, 3) := by decide +kernel
theorem dX7_pass_224 : decode cX7_pass 224 = .ok (.iconst 1, 1) := by decide +kernel
theorem dX7_pass_225 : decode cX7_pass 225 = .ok (.iastore, 1) := by decide +kernel
theorem dX7_pass_226 : decode cX7_pass 226 = .ok (.aload 5, 2) := by decide +kernel
theorem dX7_pass_228 : decode cX7_pass 228 = .ok (.bipush 6, 2) := by decide +kernel
theorem dX7_pass_230 : decode cX7_pass 230 = .ok (.iaload, 1) := by decide +kernel
theorem dX7_pass_231 : decode cX7_pass 231 = .ok (.iconst 2, 1) := by decide +kernel
theorem dX7_pass_232 : decode cX7_pass 232 = .ok (.if_icmp .ne 6, 3) := by decide +kernel
theorem dX7_pass_235 : decode cX7_pass 235 = .ok (.goto 31, 3) := by decide +kernel
theorem dX7_pass_238 : decode cX7_pass 238 = .ok (.aload_n 0, 1) := by decide +kernel
theorem dX7_pass_239 : decode cX7_pass 239 = .ok (.getfield 24, 3) := by decide +kernel
theorem dX7_pass_242 : decode cX7_pass 242 = .ok (.aload 5, 2) := by decide +kernel
theorem dX7_pass_244 : decode cX7_pass 244 = .ok (.iconst 1, 1) := by decide +kernel
theorem dX7_pass_245 : decode cX7_pass 245 = .ok (.iaload, 1) := by decide +kernel
theorem dX7_pass_246 : decode cX7_pass 246 = .ok (.dup2, 1) := by decide +kernel
theorem dX7_pass_247 : decode cX7_pass 247 = .ok (.iaload, 1) := by decide +kernel
theorem dX7_pass_248 : decode cX7_pass 248 = .ok (.iload 6, 2) := by decide +kernel
theorem dX7_pass_250 : decode cX7_pass 250 = .ok (.isub, 1) := by decide +kernel
theorem dX7_pass_251 : decode cX7_pass 251 = .ok (.iastore, 1) := by decide +kernel
theorem dX7_pass_252 : decode cX7_pass 252 = .ok (.aload_n 0, 1) := by decide +kernel
theorem dX7_pass_253 : decode cX7_pass 253 = .ok (.getfield 24, 3) := by decide +kernel
theorem dX7_pass_256 : decode cX7_pass 256 = .ok (.aload 5, 2) := by decide +kernel
theorem dX7_pass_258 : decode cX7_pass 258 = .ok (.iconst 0, 1) := by decide +kernel
theorem dX7_pass_259 : decode cX7_pass 259 = .ok (.iaload, 1) := by decide +kernel
theorem dX7_pass_260 : decode cX7_pass 260 = .ok (.dup2, 1) := by decide +kernel
theorem dX7_pass_261 : decode cX7_pass 261 = .ok (.iaload, 1) := by decide +kernel
theorem dX7_pass_262 : decode cX7_pass 262 = .ok (.iload 6, 2) := by decide +kernel
theorem dX7_pass_264 : decode cX7_pass 264 = .ok (.iadd, 1) := by decide +kernel
theorem dX7_pass_265 : decode cX7_pass 265 = .ok (.iastore, 1) := by decide +kernel
theorem dX7_pass_266 : decode cX7_pass 266 = .ok (.iinc 4 1, 3) := by decide +kernel
theorem dX7_pass_269 : decode cX7_pass 269 = .ok (.goto (-137), 3) := by decide +kernel
theorem dX7_pass_272 : decode cX7_pass 272 = .ok (.aload_n 0, 1) := by decide +kernel
theorem dX7_pass_273 : decode cX7_pass 273 = .ok (.dup, 1) := by decide +kernel
theorem dX7_pass_274 : decode cX7_pass 274 = .ok (.getfield 50, 3) := by decide +kernel
theorem dX7_pass_277 : decode cX7_pass 277 = .ok (.iconst 1, 1) := by decide +kernel
theorem dX7_pass_278 : decode cX7_pass 278 = .ok (.iadd, 1) := by decide +kernel
theorem dX7_pass_279 : decode cX7_pass 279 = .ok (.putfield 50, 3) := by decide +kernel
theorem dX7_pass_282 : decode cX7_pass 282 = .ok (.aload_n 0, 1) := by decide +kernel
theorem dX7_pass_283 : decode cX7_pass 283 = .ok (.invokevirtual 86, 3) := by decide +kernel
theorem dX7_pass_286 : decode cX7_pass 286 = .ok (.iload_n 1, 1) := by decide +kernel
theorem dX7_pass_287 : decode cX7_pass 287 = .ok (.isub, 1) := by decide +kernel
theorem dX7_pass_288 : decode cX7_pass 288 = .ok (.ireturn, 1) := by decide +kernel
theorem dX7_sunk_0 : decode cX7_sunk 0 = .ok (.iconst 0, 1) := by decide +kernel
theorem dX7_sunk_1 : decode cX7_sunk 1 = .ok (.istore_n 1, 1) := by decide +kernel
theorem dX7_sunk_2 : decode cX7_sunk 2 = .ok (.aload_n 0, 1) := by decide +kernel
theorem dX7_sunk_3 : decode cX7_sunk 3 = .ok (.getfield 34, 3) := by decide +kernel
theorem dX7_sunk_6 : decode cX7_sunk 6 = .ok (.astore_n 2, 1) := by decide +kernel
theorem dX7_sunk_7 : decode cX7_sunk 7 = .ok (.aload_n 2, 1) := by decide +kernel
theorem dX7_sunk_8 : decode cX7_sunk 8 = .ok (.arraylength, 1) := by decide +kernel
theorem dX7_sunk_9 : decode cX7_sunk 9 = .ok (.istore_n 3, 1) := by decide +kernel
theorem dX7_sunk_10 : decode cX7_sunk 10 = .ok (.iconst 0, 1) := by decide +kernel
theorem dX7_sunk_11 : decode cX7_sunk 11 = .ok (.istore 4, 2) := by decide +kernel
theorem dX7_sunk_13 : decode cX7_sunk 13 = .ok (.iload 4, 2) := by decide +kernel
theorem dX7_sunk_15 : decode cX7_sunk 15 = .ok (.iload_n 3, 1) := by decide +kernel
theorem dX7_sunk_16 : decode cX7_sunk 16 = .ok (.if_icmp .ge 32, 3) := by decide +kernel
theorem dX7_sunk_19 : decode cX7_sunk 19 = .ok (.aload_n 2, 1) := by decide +kernel
theorem dX7_sunk_20 : decode cX7_sunk 20 = .ok (.iload 4, 2) := by decide +kernel
theorem dX7_sunk_22 : decode cX7_sunk 22 = .ok (.aaload, 1) := by decide +kernel
theorem dX7_sunk_23 : decode cX7_sunk 23 = .ok (.astore 5, 2) := by decide +kernel
theorem dX7_sunk_25 : decode cX7_sunk 25 = .ok (.iload_n 1, 1) := by decide +kernel
theorem dX7_sunk_26 : decode cX7_sunk 26 = .ok (.aload 5, 2) := by decide +kernel
theorem dX7_sunk_28 : decode cX7_sunk 28 = .ok (.getfield 67, 3) := by decide +kernel
theorem dX7_sunk_31 : decode cX7_sunk 31 = .ok (.iconst 3, 1) := by decide +kernel
theorem dX7_sunk_32 : decode cX7_sunk 32 = .ok (.if_icmp .ne 7, 3) := by decide +kernel
theorem dX7_sunk_35 : decode cX7_sunk 35 = .ok (.iconst 1, 1) := by decide +kernel
theorem dX7_sunk_36 : decode cX7_sunk 36 = .ok (.goto 4, 3) := by decide +kernel
theorem dX7_sunk_39 : decode cX7_sunk 39 = .ok (.iconst 0, 1) := by decide +kernel
theorem dX7_sunk_40 : decode cX7_sunk 40 = .ok (.iadd, 1) := by decide +kernel
theorem dX7_sunk_41 : decode cX7_sunk 41 = .ok (.istore_n 1, 1) := by decide +kernel
theorem dX7_sunk_42 : decode cX7_sunk 42 = .ok (.iinc 4 1, 3) := by decide +kernel
theorem dX7_sunk_45 : decode cX7_sunk 45 = .ok (.goto (-32), 3) := by decide +kernel
theorem dX7_sunk_48 : decode cX7_sunk 48 = .ok (.iload_n 1, 1) := by decide +kernel
theorem dX7_sunk_49 : decode cX7_sunk 49 = .ok (.ireturn, 1) := by decide +kernel
theorem dX7_isSame_0 : decode cX7_isSame 0 = .ok (.aload_n 0, 1) := by decide +kernel
theorem dX7_isSame_1 : decode cX7_isSame 1 = .ok (.getfield 14, 3) := by decide +kernel
theorem dX7_isSame_4 : decode cX7_isSame 4 = .ok (.arraylength, 1) := by decide +kernel
theorem dX7_isSame_5 : decode cX7_isSame 5 = .ok (.istore_n 2, 1) := by decide +kernel
theorem dX7_isSame_6 : decode cX7_isSame 6 = .ok (.iconst 0, 1) := by decide +kernel
theorem dX7_isSame_7 : decode cX7_isSame 7 = .ok (.istore_n 3, 1) := by decide +kernel
theorem dX7_isSame_8 : decode cX7_isSame 8 = .ok (.iconst 0, 1) := by decide +kernel
theorem dX7_isSame_9 : decode cX7_isSame 9 = .ok (.istore 4, 2) := by decide +kernel
theorem dX7_isSame_11 : decode cX7_isSame 11 = .ok (.iconst 0, 1) := by decide +kernel
theorem dX7_isSame_12 : decode cX7_isSame 12 = .ok (.istore 5, 2) := by decide +kernel
theorem dX7_isSame_14 : decode cX7_isSame 14 = .ok (.iconst 0, 1) := by decide +kernel
theorem dX7_isSame_15 : decode cX7_isSame 15 = .ok (.istore 6, 2) := by decide +kernel
theorem dX7_isSame_17 : decode cX7_isSame 17 = .ok (.iconst 0, 1) := by decide +kernel
theorem dX7_isSame_18 : decode cX7_isSame 18 = .ok (.istore 7, 2) := by decide +kernel
theorem dX7_isSame_20 : decode cX7_isSame 20 = .ok (.iload 7, 2) := by decide +kernel
theorem dX7_isSame_22 : decode cX7_isSame 22 = .ok (.iload_n 2, 1) := by decide +kernel
theorem dX7_isSame_23 : decode cX7_isSame 23 = .ok (.if_icmp .ge 311, 3) := by decide +kernel
theorem dX7_isSame_26 : decode cX7_isSame 26 = .ok (.aload_n 0, 1) := by decide +kernel
theorem dX7_isSame_27 : decode cX7_isSame 27 = .ok (.getfield 14, 3) := by decide +kernel
theorem dX7_isSame_30 : decode cX7_isSame 30 = .ok (.iload 7, 2) := by decide +kernel
theorem dX7_isSame_32 : decode cX7_isSame 32 = .ok (.aaload, 1) := by decide +kernel
theorem dX7_isSame_33 : decode cX7_isSame 33 = .ok (.astore 8, 2) := by decide +kernel
theorem dX7_isSame_35 : decode cX7_isSame 35 = .ok (.bipush 8, 2) := by decide +kernel
theorem dX7_isSame_37 : decode cX7_isSame 37 = .ok (.newarray .int, 2) := by decide +kernel
theorem dX7_isSame_39 : decode cX7_isSame 39 = .ok (.dup, 1) := by decide +kernel
theorem dX7_isSame_40 : decode cX7_isSame 40 = .ok (.iconst 0, 1) := by decide +kernel
theorem dX7_isSame_41 : decode cX7_isSame 41 = .ok (.aload 8, 2) := by decide +kernel
theorem dX7_isSame_43 : decode cX7_isSame 43 = .ok (.iconst 0, 1) := by decide +kernel
theorem dX7_isSame_44 : decode cX7_isSame 44 = .ok (.iaload, 1) := by decide +kernel
theorem dX7_isSame_45 : decode cX7_isSame 45 = .ok (.iastore, 1) := by decide +kernel
theorem dX7_isSame_46 : decode cX7_isSame 46 = .ok (.dup, 1) := by decide +kernel
theorem dX7_isSame_47 : decode cX7_isSame 47 = .ok (.iconst 1, 1) := by decide +kernel
theorem dX7_isSame_48 : decode cX7_isSame 48 = .ok (.aload_n 0, 1) := by decide +kernel
theorem dX7_isSame_49 : decode cX7_isSame 49 = .ok (.iload 7, 2) := by decide +kernel
theorem dX7_isSame_51 : decode cX7_isSame 51 = .ok (.iconst 1, 1) := by decide +kernel
theorem dX7_isSame_52 : decode cX7_isSame 52 = .ok (.invokevirtual 101, 3) := by decide +kernel
theorem dX7_isSame_55 : decode cX7_isSame 55 = .ok (.iastore, 1) := by decide +kernel
theorem dX7_isSame_56 : decode cX7_isSame 56 = .ok (.dup, 1) := by decide +kernel
theorem dX7_isSame_57 : decode cX7_isSame 57 = .ok (.iconst 2, 1) := by decide +kernel
theorem dX7_isSame_58 : decode cX7_isSame 58 = .ok (.aload_n 0, 1) := by decide +kernel
theorem dX7_isSame_59 : decode cX7_isSame 59 = .ok (.iload 7, 2) := by decide +kernel
theorem dX7_isSame_61 : decode cX7_isSame 61 = .ok (.iconst 0, 1) := by decide +kernel
theorem dX7_isSame_62 : decode cX7_isSame 62 = .ok (.invokevirtual 101, 3) := by decide +kernel
theorem dX7_isSame_65 : decode cX7_isSame 65 = .ok (.aload_n 0, 1) := by decide +kernel
theorem dX7_isSame_66 : decode cX7_isSame 66 = .ok (.iload 7, 2) := by decide +kernel
theorem dX7_isSame_68 : decode cX7_isSame 68 = .ok (.iconst 1, 1) := by decide +kernel
theorem dX7_isSame_69 : decode cX7_isSame 69 = .ok (.invokevirtual 101, 3) := by decide +kernel
theorem dX7_isSame_72 : decode cX7_isSame 72 = .ok (.iadd, 1) := by decide +kernel
theorem dX7_isSame_73 : decode cX7_isSame 73 = .ok (.iastore, 1) := by decide +kernel
theorem dX7_isSame_74 : decode cX7_isSame 74 = .ok (.dup, 1) := by decide +kernel
theorem dX7_isSame_75 : decode cX7_isSame 75 = .ok (.iconst 3, 1) := by decide +kernel
theorem dX7_isSame_76 : decode cX7_isSame 76 = .ok (.aload_n 0, 1) := by decide +kernel
theorem dX7_isSame_77 : decode cX7_isSame 77 = .ok (.iload 7, 2) := by decide +kernel
theorem dX7_isSame_79 : decode cX7_isSame 79 = .ok (.invokevirtual 76, 3) := by decide +kernel
theorem dX7_isSame_82 : decode cX7_isSame 82 = .ok (.iastore, 1) := by decide +kernel
theorem dX7_isSame_83 : decode cX7_isSame 83 = .ok (.dup, 1) := by decide +kernel
theorem dX7_isSame_84 : decode cX7_isSame 84 = .ok (.iconst 4, 1) := by decide +kernel
theorem dX7_isSame_85 : decode cX7_isSame 85 = .ok (.aload 8, 2) := by decide +kernel
theorem dX7_isSame_87 : decode cX7_isSame 87 = .ok (.iconst 1, 1) := by decide +kernel
theorem dX7_isSame_88 : decode cX7_isSame 88 = .ok (.iaload, 1) := by decide +kernel
theorem dX7_isSame_89 : decode cX7_isSame 89 = .ok (.iastore, 1) := by decide +kernel
theorem dX7_isSame_90 : decode cX7_isSame 90 = .ok (.dup, 1) := by decide +kernel
theorem dX7_isSame_91 : decode cX7_isSame 91 = .ok (.iconst 5, 1) := by decide +kernel
theorem dX7_isSame_92 : decode cX7_isSame 92 = .ok (.aload 8, 2) := by decide +kernel
theorem dX7_isSame_94 : decode cX7_isSame 94 = .ok (.iconst 2, 1) := by decide +kernel
theorem dX7_isSame_95 : decode cX7_isSame 95 = .ok (.iaload, 1) := by decide +kernel
theorem dX7_isSame_96 : decode cX7_isSame 96 = .ok (.iastore, 1) := by decide +kernel
theorem dX7_isSame_97 : decode cX7_isSame 97 = .ok (.dup, 1) := by decide +kernel
theorem dX7_isSame_98 : decode cX7_isSame 98 = .ok (.bipush 6, 2) := by decide +kernel
theorem dX7_isSame_100 : decode cX7_isSame 100 = .ok (.aload 8, 2) := by decide +kernel
theorem dX7_isSame_102 : decode cX7_isSame 102 = .ok (.iconst 3, 1) := by decide +kernel
theorem dX7_isSame_103 : decode cX7_isSame 103 = .ok (.iaload, 1) := by decide +kernel
theorem dX7_isSame_104 : decode cX7_isSame 104 = .ok (.iastore, 1) := by decide +kernel
theorem dX7_isSame_105 : decode cX7_isSame 105 = .ok (.dup, 1) := by decide +kernel
theorem dX7_isSame_106 : decode cX7_isSame 106 = .ok (.bipush 7, 2) := by decide +kernel
theorem dX7_isSame_108 : decode cX7_isSame 108 = .ok (.aload 8, 2) := by decide +kernel
theorem dX7_isSame_110 : decode cX7_isSame 110 = .ok (.iconst 4, 1) := by decide +kernel
theorem dX7_isSame_111 : decode cX7_isSame 111 = .ok (.iaload, 1) := by decide +kernel
theorem dX7_isSame_112 : decode cX7_isSame 112 = .ok (.iastore, 1) := by decide +kernel
theorem dX7_isSame_113 : decode cX7_isSame 113 = .ok (.astore 9, 2) := by decide +kernel
theorem dX7_isSame_115 : decode cX7_isSame 115 = .ok (.iconst 0, 1) := by decide +kernel
theorem dX7_isSame_116 : decode cX7_isSame 116 = .ok (.istore 10, 2) := by decide +kernel
theorem dX7_isSame_118 : decode cX7_isSame 118 = .ok (.iload 10, 2) := by decide +kernel
theorem dX7_isSame_120 : decode cX7_isSame 120 = .ok (.bipush 8, 2) := by decide +kernel
theorem dX7_isSame_122 : decode cX7_isSame 122 = .ok (.if_icmp .ge 27, 3) := by decide +kernel
theorem dX7_isSame_125 : decode cX7_isSame 125 = .ok (.aload_n 1, 1) := by decide +kernel
theorem dX7_isSame_126 : decode cX7_isSame 126 = .ok (.iload 7, 2) := by decide +kernel
theorem dX7_isSame_128 : decode cX7_isSame 128 = .ok (.iload 10, 2) := by decide +kernel
theorem dX7_isSame_130 : decode cX7_isSame 130 = .ok (.invokevirtual 105, 3) := by decide +kernel
theorem dX7_isSame_133 : decode cX7_isSame 133 = .ok (.aload 9, 2) := by decide +kernel
theorem dX7_isSame_135 : decode cX7_isSame 135 = .ok (.iload 10, 2) := by decide +kernel
theorem dX7_isSame_137 : decode cX7_isSame 137 = .ok (.iaload, 1) := by decide +kernel
theorem dX7_isSame_138 : decode cX7_isSame 138 = .ok (.if_icmp .eq 5, 3) := by decide +kernel
theorem dX7_isSame_141 : decode cX7_isSame 141 = .ok (.iconst 0, 1) := by decide +kernel
theorem dX7_isSame_142 : decode cX7_isSame 142 = .ok (.ireturn, 1) := by decide +kernel
theorem dX7_isSame_143 : decode cX7_isSame 143 = .ok (.iinc 10 1, 3) := by decide +kernel
theorem dX7_isSame_146 : decode cX7_isSame 146 = .ok (.goto (-28), 3) := by decide +kernel
theorem dX7_isSame_149 : decode cX7_isSame 149 = .ok (.iload 7, 2) := by decide +kernel
theorem dX7_isSame_151 : decode cX7_isSame 151 = .ok (.ifCond .ne 6, 3) := by decide +kernel
theorem dX7_isSame_154 : decode cX7_isSame 154 = .ok (.goto 174, 3) := by decide +kernel
theorem dX7_isSame_157 : decode cX7_isSame 157 = .ok (.iconst 0, 1) := by decide +kernel
theorem dX7_isSame_158 : decode cX7_isSame 158 = .ok (.istore 10, 2) := by decide +kernel
theorem dX7_isSame_160 : decode cX7_isSame 160 = .ok (.aload_n 0, 1) := by decide +kernel
theorem dX7_isSame_161 : decode cX7_isSame 161 = .ok (.getfield 34, 3) := by decide +kernel
theorem dX7_isSame_164 : decode cX7_isSame 164 = .ok (.astore 11, 2) := by decide +kernel
theorem dX7_isSame_166 : decode cX7_isSame 166 = .ok (.aload 11, 2) := by decide +kernel
theorem dX7_isSame_168 : decode cX7_isSame 168 = .ok (.arraylength, 1) := by decide +kernel
theorem dX7_isSame_169 : decode cX7_isSame 169 = .ok (.istore 12, 2) := by decide +kernel
theorem dX7_isSame_171 : decode cX7_isSame 171 = .ok (.iconst 0, 1) := by decide +kernel
theorem dX7_isSame_172 : decode cX7_isSame 172 = .ok (.istore 13, 2) := by decide +kernel
theorem dX7_isSame_174 : decode cX7_isSame 174 = .ok (.iload 13, 2) := by decide +kernel
theorem dX7_isSame_176 : decode cX7_isSame 176 = .ok (.iload 12, 2) := by decide +kernel
theorem dX7_isSame_178 : decode cX7_isSame 178 = .ok (.if_icmp .ge 45, 3) := by decide +kernel
theorem dX7_isSame_181 : decode cX7_isSame 181 = .ok (.aload 11, 2) := by decide +kernel
theorem dX7_isSame_183 : decode cX7_isSame 183 = .ok (.iload 13, 2) := by decide +kernel
theorem dX7_isSame_185 : decode cX7_isSame 185 = .ok (.aaload, 1) := by decide +kernel
theorem dX7_isSame_186 : decode cX7_isSame 186 = .ok (.astore 14, 2) := by decide +kernel
theorem dX7_isSame_188 : decode cX7_isSame 188 = .ok (.iload 10, 2) := by decide +kernel
theorem dX7_isSame_190 : decode cX7_isSame 190 = .ok (.aload 14, 2) := by decide +kernel
theorem dX7_isSame_192 : decode cX7_isSame 192 = .ok (.getfield 67, 3) := by decide +kernel
theorem dX7_isSame_195 : decode cX7_isSame 195 = .ok (.iconst 2, 1) := by decide +kernel
theorem dX7_isSame_196 : decode cX7_isSame 196 = .ok (.if_icmp .ne 17, 3) := by decide +kernel
theorem dX7_isSame_199 : decode cX7_isSame 199 = .ok (.aload 14, 2) := by decide +kernel
theorem dX7_isSame_201 : decode cX7_isSame 201 = .ok (.getfield 70, 3) := by decide +kernel
theorem dX7_isSame_204 : decode cX7_isSame 204 = .ok (.iload 7, 2) := by decide +kernel
theorem dX7_isSame_206 : decode cX7_isSame 206 = .ok (.if_icmp .ne 7, 3) := by decide +kernel
theorem dX7_isSame_209 : decode cX7_isSame 209 = .ok (.iconst 1, 1) := by decide +kernel
theorem dX7_isSame_210 : decode cX7_isSame 210 = .ok (.goto 4, 3) := by decide +kernel
theorem dX7_isSame_213 : decode cX7_isSame 213 = .ok (.iconst 0, 1) := by decide +kernel
theorem dX7_isSame_214 : decode cX7_isSame 214 = .ok (.iadd, 1) := by decide +kernel
theorem dX7_isSame_215 : decode cX7_isSame 215 = .ok (.istore 10, 2) := by decide +kernel
theorem dX7_isSame_217 : decode cX7_isSame 217 = .ok (.iinc 13 1, 3) := by decide +kernel
theorem dX7_isSame_220 : decode cX7_isSame 220 = .ok (.goto (-46), 3) := by decide +kernel
theorem dX7_isSame_223 : decode cX7_isSame 223 = .ok (.aload_n 1, 1) := by decide +kernel
theorem dX7_isSame_224 : decode cX7_isSame 224 = .ok (.iload 7, 2) := by decide +kernel
theorem dX7_isSame_226 : decode cX7_isSame 226 = .ok (.iconst 1, 1) := by decide +kernel
theorem dX7_isSame_227 : decode cX7_isSame 227 = .ok (.isub, 1) := by decide +kernel
theorem dX7_isSame_228 : decode cX7_isSame 228 = .ok (.iconst 0, 1) := by decide +kernel
theorem dX7_isSame_229 : decode cX7_isSame 229 = .ok (.invokevirtual 110, 3) := by decide +kernel
theorem dX7_isSame_232 : decode cX7_isSame 232 = .ok (.aload_n 0, 1) := by decide +kernel
theorem dX7_isSame_233 : decode cX7_isSame 233 = .ok (.getfield 18, 3) := by decide +kernel
theorem dX7_isSame_236 : decode cX7_isSame 236 = .ok (.iload 7, 2) := by decide +kernel
theorem dX7_isSame_238 : decode cX7_isSame 238 = .ok (.iaload, 1) := by decide +kernel
theorem dX7_isSame_239 : decode cX7_isSame 239 = .ok (.if_icmp .ne 65, 3) := by decide +kernel
theorem dX7_isSame_242 : decode cX7_isSame 242 = .ok (.aload_n 1, 1) := by decide +kernel
theorem dX7_isSame_243 : decode cX7_isSame 243 = .ok (.iload 7, 2) := by decide +kernel
theorem dX7_isSame_245 : decode cX7_isSame 245 = .ok (.iconst 1, 1) := by decide +kernel
theorem dX7_isSame_246 : decode cX7_isSame 246 = .ok (.isub, 1) := by decide +kernel
theorem dX7_isSame_247 : decode cX7_isSame 247 = .ok (.iconst 1, 1) := by decide +kernel
theorem dX7_isSame_248 : decode cX7_isSame 248 = .ok (.invokevirtual 110, 3) := by decide +kernel
theorem dX7_isSame_251 : decode cX7_isSame 251 = .ok (.aload_n 0, 1) := by decide +kernel
theorem dX7_isSame_252 : decode cX7_isSame 252 = .ok (.getfield 21, 3) := by decide +kernel
theorem dX7_isSame_255 : decode cX7_isSame 255 = .ok (.iload 7, 2) := by decide +kernel
theorem dX7_isSame_257 : decode cX7_isSame 257 = .ok (.iaload, 1) := by decide +kernel
theorem dX7_isSame_258 : decode cX7_isSame 258 = .ok (.if_icmp .ne 46, 3) := by decide +kernel
theorem dX7_isSame_261 : decode cX7_isSame 261 = .ok (.aload_n 1, 1) := by decide +kernel
theorem dX7_isSame_262 : decode cX7_isSame 262 = .ok (.iload 7, 2) := by decide +kernel
theorem dX7_isSame_264 : decode cX7_isSame 264 = .ok (.iconst 1, 1) := by decide +kernel
theorem dX7_isSame_265 : decode cX7_isSame 265 = .ok (.isub, 1) := by decide +kernel
theorem dX7_isSame_266 : decode cX7_isSame 266 = .ok (.iconst 2, 1) := by decide +kernel
theorem dX7_isSame_267 : decode cX7_isSame 267 = .ok (.invokevirtual 110, 3) := by decide +kernel
theorem dX7_isSame_270 : decode cX7_isSame 270 = .ok (.aload_n 0, 1) := by decide +kernel
theorem dX7_isSame_271 : decode cX7_isSame 271 = .ok (.getfield 21, 3) := by decide +kernel
theorem dX7_isSame_274 : decode cX7_isSame 274 = .ok (.iload 7, 2) := by decide +kernel
theorem dX7_isSame_276 : decode cX7_isSame 276 = .ok (.iaload, 1) := by decide +kernel
theorem dX7_isSame_277 : decode cX7_isSame 277 = .ok (.bipush 11, 2) := by decide +kernel
theorem dX7_isSame_279 : decode cX7_isSame 279 = .ok (.if_icmp .ge 7, 3) := by decide +kernel
theorem dX7_isSame_282 : decode cX7_isSame 282 = .ok (.iconst 1, 1) := by decide +kernel
theorem dX7_isSame_283 : decode cX7_isSame 283 = .ok (.goto 4, 3) := by decide +kernel
theorem dX7_isSame_286 : decode cX7_isSame 286 = .ok (.iconst 0, 1) := by decide +kernel
theorem dX7_isSame_287 : decode cX7_isSame 287 = .ok (.if_icmp .ne 17, 3) := by decide +kernel
theorem dX7_isSame_290 : decode cX7_isSame 290 = .ok (.aload_n 1, 1) := by decide +kernel
theorem dX7_isSame_291 : decode cX7_isSame 291 = .ok (.iload 7, 2) := by decide +kernel
theorem dX7_isSame_293 : decode cX7_isSame 293 = .ok (.iconst 1, 1) := by decide +kernel
theorem dX7_isSame_294 : decode cX7_isSame 294 = .ok (.isub, 1) := by decide +kernel
theorem dX7_isSame_295 : decode cX7_isSame 295 = .ok (.iconst 3, 1) := by decide +kernel
theorem dX7_isSame_296 : decode cX7_isSame 296 = .ok (.invokevirtual 110, 3) := by decide +kernel
theorem dX7_isSame_299 : decode cX7_isSame 299 = .ok (.iload 10, 2) := by decide +kernel
theorem dX7_isSame_301 : decode cX7_isSame 301 = .ok (.if_icmp .eq 5, 3) := by decide +kernel
theorem dX7_isSame_304 : decode cX7_isSame 304 = .ok (.iconst 0, 1) := by decide +kernel
theorem dX7_isSame_305 : decode cX7_isSame 305 = .ok (.ireturn, 1) := by decide +kernel
theorem dX7_isSame_306 : decode cX7_isSame 306 = .ok (.iload 6, 2) := by decide +kernel
theorem dX7_isSame_308 : decode cX7_isSame 308 = .ok (.aload_n 0, 1) := by decide +kernel
theorem dX7_isSame_309 : decode cX7_isSame 309 = .ok (.getfield 21, 3) := by decide +kernel
theorem dX7_isSame_312 : decode cX7_isSame 312 = .ok (.iload 7, 2) := by decide +kernel
theorem dX7_isSame_314 : decode cX7_isSame 314 = .ok (.iaload, 1) := by decide +kernel
theorem dX7_isSame_315 : decode cX7_isSame 315 = .ok (.bipush 11, 2) := by decide +kernel
theorem dX7_isSame_317 : decode cX7_isSame 317 = .ok (.if_icmp .ge 7, 3) := by decide +kernel
theorem dX7_isSame_320 : decode cX7_isSame 320 = .ok (.iconst 1, 1) := by decide +kernel
theorem dX7_isSame_321 : decode cX7_isSame 321 = .ok (.goto 4, 3) := by decide +kernel
theorem dX7_isSame_324 : decode cX7_isSame 324 = .ok (.iconst 0, 1) := by decide +kernel
theorem dX7_isSame_325 : decode cX7_isSame 325 = .ok (.iadd, 1) := by decide +kernel
theorem dX7_isSame_326 : decode cX7_isSame 326 = .ok (.istore 6, 2) := by decide +kernel
theorem dX7_isSame_328 : decode cX7_isSame 328 = .ok (.iinc 7 1, 3) := by decide +kernel
theorem dX7_isSame_331 : decode cX7_isSame 331 = .ok (.goto (-311), 3) := by decide +kernel
theorem dX7_isSame_334 : decode cX7_isSame 334 = .ok (.iconst 0, 1) := by decide +kernel
theorem dX7_isSame_335 : decode cX7_isSame 335 = .ok (.istore 7, 2) := by decide +kernel
theorem dX7_isSame_337 : decode cX7_isSame 337 = .ok (.iconst 0, 1) := by decide +kernel
theorem dX7_isSame_338 : decode cX7_isSame 338 = .ok (.istore 8, 2) := by decide +kernel
theorem dX7_isSame_340 : decode cX7_isSame 340 = .ok (.iload 8, 2) := by decide +kernel
theorem dX7_isSame_342 : decode cX7_isSame 342 = .ok (.aload_n 0, 1) := by decide +kernel
theorem dX7_isSame_343 : decode cX7_isSame 343 = .ok (.getfield 24, 3) := by decide +kernel
theorem dX7_isSame_346 : decode cX7_isSame 346 = .ok (.arraylength, 1) := by decide +kernel
theorem dX7_isSame_347 : decode cX7_isSame 347 = .ok (.if_icmp .ge 352, 3) := by decide +kernel
theorem dX7_isSame_350 : decode cX7_isSame 350 = .ok (.iconst 0, 1) := by decide +kernel
theorem dX7_isSame_351 : decode cX7_isSame 351 = .ok (.istore 9, 2) := by decide +kernel
theorem dX7_isSame_353 : decode cX7_isSame 353 = .ok (.iconst 0, 1) := by decide +kernel
theorem dX7_isSame_354 : decode cX7_isSame 354 = .ok (.istore 10, 2) := by decide +kernel
theorem dX7_isSame_356 : decode cX7_isSame 356 = .ok (.iconst 0, 1) := by decide +kernel
theorem dX7_isSame_357 : decode cX7_isSame 357 = .ok (.istore 11, 2) := by decide +kernel
theorem dX7_isSame_359 : decode cX7_isSame 359 = .ok (.iconst 0, 1) := by decide +kernel
theorem dX7_isSame_360 : decode cX7_isSame 360 = .ok (.istore 12, 2) := by decide +kernel
theorem dX7_isSame_362 : decode cX7_isSame 362 = .ok (.iconst 0, 1) := by decide +kernel
theorem dX7_isSame_363 : decode cX7_isSame 363 = .ok (.istore 13, 2) := by decide +kernel
theorem dX7_isSame_365 : decode cX7_isSame 365 = .ok (.aload_n 0, 1) := by decide +kernel
theorem dX7_isSame_366 : decode cX7_isSame 366 = .ok (.getfield 34, 3) := by decide +kernel
theorem dX7_isSame_369 : decode cX7_isSame 369 = .ok (.astore 14, 2) := by decide +kernel
theorem dX7_isSame_371 : decode cX7_isSame 371 = .ok (.aload 14, 2) := by decide +kernel
theorem dX7_isSame_373 : decode cX7_isSame 373 = .ok (.arraylength, 1) := by decide +kernel
theorem dX7_isSame_374 : decode cX7_isSame 374 = .ok (.istore 15, 2) := by decide +kernel
theorem dX7_isSame_376 : decode cX7_isSame 376 = .ok (.iconst 0, 1) := by decide +kernel
theorem dX7_isSame_377 : decode cX7_isSame 377 = .ok (.istore 16, 2) := by decide +kernel
theorem dX7_isSame_379 : decode cX7_isSame 379 = .ok (.iload 16, 2) := by decide +kernel
theorem dX7_isSame_381 : decode cX7_isSame 381 = .ok (.iload 15, 2) := by decide +kernel
theorem dX7_isSame_383 : decode cX7_isSame 383 = .ok (.if_icmp .ge 58, 3) := by decide +kernel
theorem dX7_isSame_386 : decode cX7_isSame 386 = .ok (.aload 14, 2) := by decide +kernel
theorem dX7_isSame_388 : decode cX7_isSame 388 = .ok (.iload 16, 2) := by decide +kernel
theorem dX7_isSame_390 : decode cX7_isSame 390 = .ok (.aaload, 1) := by decide +kernel
theorem dX7_isSame_391 : decode cX7_isSame 391 = .ok (.astore 17, 2) := by decide +kernel
theorem dX7_isSame_393 : decode cX7_isSame 393 = .ok (.aload 17, 2) := by decide +kernel
theorem dX7_isSame_395 : decode cX7_isSame 395 = .ok (.getfield 55, 3) := by decide +kernel
theorem dX7_isSame_398 : decode cX7_isSame 398 = .ok (.iload 8, 2) := by decide +kernel
theorem dX7_isSame_400 : decode cX7_isSame 400 = .ok (.if_icmp .eq 6, 3) := by decide +kernel
theorem dX7_isSame_403 : decode cX7_isSame 403 = .ok (.goto 32, 3) := by decide +kernel
theorem dX7_isSame_406 : decode cX7_isSame 406 = .ok (.iload 9, 2) := by decide +kernel
theorem dX7_isSame_408 : decode cX7_isSame 408 = .ok (.aload 17, 2) := by decide +kernel
theorem dX7_isSame_410 : decode cX7_isSame 410 = .ok (.getfield 67, 3) := by decide +kernel
theorem dX7_isSame_413 : decode cX7_isSame 413 = .ok (.iconst 3, 1) := by decide +kernel
theorem dX7_isSame_414 : decode cX7_isSame 414 = .ok (.if_icmp .ge 7, 3) := by decide +kernel
theorem dX7_isSame_417 : decode cX7_isSame 417 = .ok (.iconst 1, 1) := by decide +kernel
theorem dX7_isSame_418 : decode cX7_isSame 418 = .ok (.goto 4, 3) := by decide +kernel
theorem dX7_isSame_421 : decode cX7_isSame 421 = .ok (.iconst 0, 1) := by decide +kernel
theorem dX7_isSame_422 : decode cX7_isSame 422 = .ok (.iadd, 1) := by decide +kernel
theorem dX7_isSame_423 : decode cX7_isSame 423 = .ok (.istore 9, 2) := by decide +kernel
theorem dX7_isSame_425 : decode cX7_isSame 425 = .ok (.iload 13, 2) := by decide +kernel
theorem dX7_isSame_427 : decode cX7_isSame 427 = .ok (.aload 17, 2) := by decide +kernel
theorem dX7_isSame_429 : decode cX7_isSame 429 = .ok (.invokevirtual 112, 3) := by decide +kernel
theorem dX7_isSame_432 : decode cX7_isSame 432 = .ok (.iadd, 1) := by decide +kernel
theorem dX7_isSame_433 : decode cX7_isSame 433 = .ok (.istore 13, 2) := by decide +kernel
theorem dX7_isSame_435 : decode cX7_isSame 435 = .ok (.iinc 16 1, 3) := by decide +kernel
theorem dX7_isSame_438 : decode cX7_isSame 438 = .ok (.goto (-59), 3) := by decide +kernel
theorem dX7_isSame_441 : decode cX7_isSame 441 = .ok (.aload_n 0, 1) := by decide +kernel
theorem dX7_isSame_442 : decode cX7_isSame 442 = .ok (.getfield 38, 3) := by decide +kernel
theorem dX7_isSame_445 : decode cX7_isSame 445 = .ok (.astore 14, 2) := by decide +kernel
theorem dX7_isSame_447 : decode cX7_isSame 447 = .ok (.aload 14, 2) := by decide +kernel
theorem dX7_isSame_449 : decode cX7_isSame 449 = .ok (.arraylength, 1) := by decide +kernel
theorem dX7_isSame_450 : decode cX7_isSame 450 = .ok (.istore 15, 2) := by decide +kernel
theorem dX7_isSame_452 : decode cX7_isSame 452 = .ok (.iconst 0, 1) := by decide +kernel
theorem dX7_isSame_453 : decode cX7_isSame 453 = .ok (.istore 16, 2) := by decide +kernel
theorem dX7_isSame_455 : decode cX7_isSame 455 = .ok (.iload 16, 2) := by decide +kernel
theorem dX7_isSame_457 : decode cX7_isSame 457 = .ok (.iload 15, 2) := by decide +kernel
theorem dX7_isSame_459 : decode cX7_isSame 459 = .ok (.if_icmp .ge 71, 3) := by decide +kernel
theorem dX7_isSame_462 : decode cX7_isSame 462 = .ok (.aload 14, 2) := by decide +kernel
theorem dX7_isSame_464 : decode cX7_isSame 464 = .ok (.iload 16, 2) := by decide +kernel
theorem dX7_isSame_466 : decode cX7_isSame 466 = .ok (.aaload, 1) := by decide +kernel
theorem dX7_isSame_467 : decode cX7_isSame 467 = .ok (.astore 17, 2) := by decide +kernel
theorem dX7_isSame_469 : decode cX7_isSame 469 = .ok (.iload 10, 2) := by decide +kernel
theorem dX7_isSame_471 : decode cX7_isSame 471 = .ok (.aload 17, 2) := by decide +kernel
theorem dX7_isSame_473 : decode cX7_isSame 473 = .ok (.iconst 1, 1) := by decide +kernel
theorem dX7_isSame_474 : decode cX7_isSame 474 = .ok (.iaload, 1) := by decide +kernel
theorem dX7_isSame_475 : decode cX7_isSame 475 = .ok (.iload 8, 2) := by decide +kernel
theorem dX7_isSame_477 : decode cX7_isSame 477 = .ok (.if_icmp .ne 15, 3) := by decide +kernel
theorem dX7_isSame_480 : decode cX7_isSame 480 = .ok (.aload 17, 2) := by decide +kernel
theorem dX7_isSame_482 : decode cX7_isSame 482 = .ok (.bipush 6, 2) := by decide +kernel
theorem dX7_isSame_484 : decode cX7_isSame 484 = .ok (.iaload, 1) := by decide +kernel
theorem dX7_isSame_485 : decode cX7_isSame 485 = .ok (.ifCond .ne 7, 3) := by decide +kernel
theorem dX7_isSame_488 : decode cX7_isSame 488 = .ok (.iconst 1, 1) := by decide +kernel
theorem dX7_isSame_489 : decode cX7_isSame 489 = .ok (.goto 4, 3) := by decide +kernel
theorem dX7_isSame_492 : decode cX7_isSame 492 = .ok (.iconst 0, 1) := by decide +kernel
theorem dX7_isSame_493 : decode cX7_isSame 493 = .ok (.iadd, 1) := by decide +kernel
theorem dX7_isSame_494 : decode cX7_isSame 494 = .ok (.istore 10, 2) := by decide +kernel
theorem dX7_isSame_496 : decode cX7_isSame 496 = .ok (.iload 11, 2) := by decide +kernel
theorem dX7_isSame_498 : decode cX7_isSame 498 = .ok (.aload 17, 2) := by decide +kernel
theorem dX7_isSame_500 : decode cX7_isSame 500 = .ok (.iconst 1, 1) := by decide +kernel
theorem dX7_isSame_501 : decode cX7_isSame 501 = .ok (.iaload, 1) := by decide +kernel
theorem dX7_isSame_502 : decode cX7_isSame 502 = .ok (.iload 8, 2) := by decide +kernel
theorem dX7_isSame_504 : decode cX7_isSame 504 = .ok (.if_icmp .ne 16, 3) := by decide +kernel
theorem dX7_isSame_507 : decode cX7_isSame 507 = .ok (.aload 17, 2) := by decide +kernel
theorem dX7_isSame_509 : decode cX7_isSame 509 = .ok (.bipush 6, 2) := by decide +kernel
theorem dX7_isSame_511 : decode cX7_isSame 511 = .ok (.iaload, 1) := by decide +kernel
theorem dX7_isSame_512 : decode cX7_isSame 512 = .ok (.iconst 2, 1) := by decide +kernel
theorem dX7_isSame_513 : decode cX7_isSame 513 = .ok (.if_icmp .ne 7, 3) := by decide +kernel
theorem dX7_isSame_516 : decode cX7_isSame 516 = .ok (.iconst 1, 1) := by decide +kernel
theorem dX7_isSame_517 : decode cX7_isSame 517 = .ok (.goto 4, 3) := by decide +kernel
theorem dX7_isSame_520 : decode cX7_isSame 520 = .ok (.iconst 0, 1) := by decide +kernel
theorem dX7_isSame_521 : decode cX7_isSame 521 = .ok (.iadd, 1) := by decide +kernel
theorem dX7_isSame_522 : decode cX7_isSame 522 = .ok (.istore 11, 2) := by decide +kernel
theorem dX7_isSame_524 : decode cX7_isSame 524 = .ok (.iinc 16 1, 3) := by decide +kernel
theorem dX7_isSame_527 : decode cX7_isSame 527 = .ok (.goto (-72), 3) := by decide +kernel
theorem dX7_isSame_530 : decode cX7_isSame 530 = .ok (.iconst 0, 1) := by decide +kernel
theorem dX7_isSame_531 : decode cX7_isSame 531 = .ok (.istore 14, 2) := by decide +kernel
theorem dX7_isSame_533 : decode cX7_isSame 533 = .ok (.iload 14, 2) := by decide +kernel
theorem dX7_isSame_535 : decode cX7_isSame 535 = .ok (.iload_n 2, 1) := by decide +kernel
theorem dX7_isSame_536 : decode cX7_isSame 536 = .ok (.if_icmp .ge 70, 3) := by decide +kernel
theorem dX7_isSame_539 : decode cX7_isSame 539 = .ok (.iconst 0, 1) := by decide +kernel
theorem dX7_isSame_540 : decode cX7_isSame 540 = .ok (.istore 15, 2) := by decide +kernel
theorem dX7_isSame_542 : decode cX7_isSame 542 = .ok (.iload 15, 2) := by decide +kernel
theorem dX7_isSame_544 : decode cX7_isSame 544 = .ok (.iconst 4, 1) := by decide +kernel
theorem dX7_isSame_545 : decode cX7_isSame 545 = .ok (.if_icmp .ge 55, 3) := by decide +kernel
theorem dX7_isSame_548 : decode cX7_isSame 548 = .ok (.iload 12, 2) := by decide +kernel
theorem dX7_isSame_550 : decode cX7_isSame 550 = .ok (.aload_n 0, 1) := by decide +kernel
theorem dX7_isSame_551 : decode cX7_isSame 551 = .ok (.getfield 29, 3) := by decide +kernel
theorem dX7_isSame_554 : decode cX7_isSame 554 = .ok (.iload 8, 2) := by decide +kernel
theorem dX7_isSame_556 : decode cX7_isSame 556 = .ok (.aaload, 1) := by decide +kernel
theorem dX7_isSame_557 : decode cX7_isSame 557 = .ok (.iload 14, 2) := by decide +kernel
theorem dX7_isSame_559 : decode cX7_isSame 559 = .ok (.aaload, 1) := by decide +kernel
theorem dX7_isSame_560 : decode cX7_isSame 560 = .ok (.iload 15, 2) := by decide +kernel
theorem dX7_isSame_562 : decode cX7_isSame 562 = .ok (.iaload, 1) := by decide +kernel
theorem dX7_isSame_563 : decode cX7_isSame 563 = .ok (.iadd, 1) := by decide +kernel
theorem dX7_isSame_564 : decode cX7_isSame 564 = .ok (.istore 12, 2) := by decide +kernel
theorem dX7_isSame_566 : decode cX7_isSame 566 = .ok (.aload_n 1, 1) := by decide +kernel
theorem dX7_isSame_567 : decode cX7_isSame 567 = .ok (.iload 8, 2) := by decide +kernel
theorem dX7_isSame_569 : decode cX7_isSame 569 = .ok (.iload 14, 2) := by decide +kernel
theorem dX7_isSame_571 : decode cX7_isSame 571 = .ok (.iload 15, 2) := by decide +kernel
theorem dX7_isSame_573 : decode cX7_isSame 573 = .ok (.invokevirtual 115, 3) := by decide +kernel
theorem dX7_isSame_576 : decode cX7_isSame 576 = .ok (.aload_n 0, 1) := by decide +kernel
theorem dX7_isSame_577 : decode cX7_isSame 577 = .ok (.getfield 29, 3) := by decide +kernel
theorem dX7_isSame_580 : decode cX7_isSame 580 = .ok (.iload 8, 2) := by decide +kernel
theorem dX7_isSame_582 : decode cX7_isSame 582 = .ok (.aaload, 1) := by decide +kernel
theorem dX7_isSame_583 : decode cX7_isSame 583 = .ok (.iload 14, 2) := by decide +kernel
theorem dX7_isSame_585 : decode cX7_isSame 585 = .ok (.aaload, 1) := by decide +kernel
theorem dX7_isSame_586 : decode cX7_isSame 586 = .ok (.iload 15, 2) := by decide +kernel
theorem dX7_isSame_588 : decode cX7_isSame 588 = .ok (.iaload, 1) := by decide +kernel
theorem dX7_isSame_589 : decode cX7_isSame 589 = .ok (.if_icmp .eq 5, 3) := by decide +kernel
theorem dX7_isSame_592 : decode cX7_isSame 592 = .ok (.iconst 0, 1) := by decide +kernel
theorem dX7_isSame_593 : decode cX7_isSame 593 = .ok (.ireturn, 1) := by decide +kernel
theorem dX7_isSame_594 : decode cX7_isSame 594 = .ok (.iinc 15 1, 3) := by decide +kernel
theorem dX7_isSame_597 : decode cX7_isSame 597 = .ok (.goto (-55), 3) := by decide +kernel
theorem dX7_isSame_600 : decode cX7_isSame 600 = .ok (.iinc 14 1, 3) := by decide +kernel
theorem dX7_isSame_603 : decode cX7_isSame 603 = .ok (.goto (-70), 3) := by decide +kernel
theorem dX7_isSame_606 : decode cX7_isSame 606 = .ok (.bipush 6, 2) := by decide +kernel
theorem dX7_isSame_608 : decode cX7_isSame 608 = .ok (.newarray .int, 2) := by decide +kernel
theorem dX7_isSame_610 : decode cX7_isSame 610 = .ok (.dup, 1) := by decide +kernel
theorem dX7_isSame_611 : decode cX7_isSame 611 = .ok (.iconst 0, 1) := by decide +kernel
theorem dX7_isSame_612 : decode cX7_isSame 612 = .ok (.aload_n 0, 1) := by decide +kernel
theorem dX7_isSame_613 : decode cX7_isSame 613 = .ok (.getfield 24, 3) := by decide +kernel
theorem dX7_isSame_616 : decode cX7_isSame 616 = .ok (.iload 8, 2) := by decide +kernel
theorem dX7_isSame_618 : decode cX7_isSame 618 = .ok (.iaload, 1) := by decide +kernel
theorem dX7_isSame_619 : decode cX7_isSame 619 = .ok (.iastore, 1) := by decide +kernel
theorem dX7_isSame_620 : decode cX7_isSame 620 = .ok (.dup, 1) := by decide +kernel
theorem dX7_isSame_621 : decode cX7_isSame 621 = .ok (.iconst 1, 1) := by decide +kernel
theorem dX7_isSame_622 : decode cX7_isSame 622 = .ok (.iload 9, 2) := by decide +kernel
theorem dX7_isSame_624 : decode cX7_isSame 624 = .ok (.iastore, 1) := by decide +kernel
theorem dX7_isSame_625 : decode cX7_isSame 625 = .ok (.dup, 1) := by decide +kernel
theorem dX7_isSame_626 : decode cX7_isSame 626 = .ok (.iconst 2, 1) := by decide +kernel
theorem dX7_isSame_627 : decode cX7_isSame 627 = .ok (.iload 10, 2) := by decide +kernel
theorem dX7_isSame_629 : decode cX7_isSame 629 = .ok (.iastore, 1) := by decide +kernel
theorem dX7_isSame_630 : decode cX7_isSame 630 = .ok (.dup, 1) := by decide +kernel
theorem dX7_isSame_631 : decode cX7_isSame 631 = .ok (.iconst 3, 1) := by decide +kernel
theorem dX7_isSame_632 : decode cX7_isSame 632 = .ok (.iload 11, 2) := by decide +kernel
theorem dX7_isSame_634 : decode cX7_isSame 634 = .ok (.iastore, 1) := by decide +kernel
theorem dX7_isSame_635 : decode cX7_isSame 635 = .ok (.dup, 1) := by decide +kernel
theorem dX7_isSame_636 : decode cX7_isSame 636 = .ok (.iconst 4, 1) := by decide +kernel
theorem dX7_isSame_637 : decode cX7_isSame 637 = .ok (.iload 12, 2) := by decide +kernel
theorem dX7_isSame_639 : decode cX7_isSame 639 = .ok (.iastore, 1) := by decide +kernel
theorem dX7_isSame_640 : decode cX7_isSame 640 = .ok (.dup, 1) := by decide +kernel
theorem dX7_isSame_641 : decode cX7_isSame 641 = .ok (.iconst 5, 1) := by decide +kernel
theorem dX7_isSame_642 : decode cX7_isSame 642 = .ok (.iload 13, 2) := by decide +kernel
theorem dX7_isSame_644 : decode cX7_isSame 644 = .ok (.iastore, 1) := by decide +kernel
theorem dX7_isSame_645 : decode cX7_isSame 645 = .ok (.astore 14, 2) := by decide +kernel
theorem dX7_isSame_647 : decode cX7_isSame 647 = .ok (.iconst 0, 1) := by decide +kernel
theorem dX7_isSame_648 : decode cX7_isSame 648 = .ok (.istore 15, 2) := by decide +kernel
theorem dX7_isSame_650 : decode cX7_isSame 650 = .ok (.iload 15, 2) := by decide +kernel
theorem dX7_isSame_652 : decode cX7_isSame 652 = .ok (.bipush 6, 2) := by decide +kernel
theorem dX7_isSame_654 : decode cX7_isSame 654 = .ok (.if_icmp .ge 27, 3) := by decide +kernel
theorem dX7_isSame_657 : decode cX7_isSame 657 = .ok (.aload_n 1, 1) := by decide +kernel
theorem dX7_isSame_658 : decode cX7_isSame 658 = .ok (.iload 8, 2) := by decide +kernel
theorem dX7_isSame_660 : decode cX7_isSame 660 = .ok (.iload 15, 2) := by decide +kernel
theorem dX7_isSame_662 : decode cX7_isSame 662 = .ok (.invokevirtual 118, 3) := by decide +kernel
theorem dX7_isSame_665 : decode cX7_isSame 665 = .ok (.aload 14, 2) := by decide +kernel
theorem dX7_isSame_667 : decode cX7_isSame 667 = .ok (.iload 15, 2) := by decide +kernel
theorem dX7_isSame_669 : decode cX7_isSame 669 = .ok (.iaload, 1) := by decide +kernel
theorem dX7_isSame_670 : decode cX7_isSame 670 = .ok (.if_icmp .eq 5, 3) := by decide +kernel
theorem dX7_isSame_673 : decode cX7_isSame 673 = .ok (.iconst 0, 1) := by decide +kernel
theorem dX7_isSame_674 : decode cX7_isSame 674 = .ok (.ireturn, 1) := by decide +kernel
theorem dX7_isSame_675 : decode cX7_isSame 675 = .ok (.iinc 15 1, 3) := by decide +kernel
theorem dX7_isSame_678 : decode cX7_isSame 678 = .ok (.goto (-28), 3) := by decide +kernel
theorem dX7_isSame_681 : decode cX7_isSame 681 = .ok (.iload 7, 2) := by decide +kernel
theorem dX7_isSame_683 : decode cX7_isSame 683 = .ok (.aload_n 0, 1) := by decide +kernel
theorem dX7_isSame_684 : decode cX7_isSame 684 = .ok (.getfield 24, 3) := by decide +kernel
theorem dX7_isSame_687 : decode cX7_isSame 687 = .ok (.iload 8, 2) := by decide +kernel
theorem dX7_isSame_689 : decode cX7_isSame 689 = .ok (.iaload, 1) := by decide +kernel
theorem dX7_isSame_690 : decode cX7_isSame 690 = .ok (.iadd, 1) := by decide +kernel
theorem dX7_isSame_691 : decode cX7_isSame 691 = .ok (.istore 7, 2) := by decide +kernel
theorem dX7_isSame_693 : decode cX7_isSame 693 = .ok (.iinc 8 1, 3) := by decide +kernel
theorem dX7_isSame_696 : decode cX7_isSame 696 = .ok (.goto (-356), 3) := by decide +kernel
theorem dX7_isSame_699 : decode cX7_isSame 699 = .ok (.iconst 0, 1) := by decide +kernel
theorem dX7_isSame_700 : decode cX7_isSame 700 = .ok (.istore 8, 2) := by decide +kernel
theorem dX7_isSame_702 : decode cX7_isSame 702 = .ok (.iload 8, 2) := by decide +kernel
theorem dX7_isSame_704 : decode cX7_isSame 704 = .ok (.aload_n 0, 1) := by decide +kernel
theorem dX7_isSame_705 : decode cX7_isSame 705 = .ok (.getfield 34, 3) := by decide +kernel
theorem dX7_isSame_708 : decode cX7_isSame 708 = .ok (.arraylength, 1) := by decide +kernel
theorem dX7_isSame_709 : decode cX7_isSame 709 = .ok (.if_icmp .ge 208, 3) := by decide +kernel
theorem dX7_isSame_712 : decode cX7_isSame 712 = .ok (.aload_n 0, 1) := by decide +kernel
theorem dX7_isSame_713 : decode cX7_isSame 713 = .ok (.getfield 34, 3) := by decide +kernel
theorem dX7_isSame_716 : decode cX7_isSame 716 = .ok (.iload 8, 2) := by decide +kernel
theorem dX7_isSame_718 : decode cX7_isSame 718 = .ok (.aaload, 1) := by decide +kernel
theorem dX7_isSame_719 : decode cX7_isSame 719 = .ok (.astore 9, 2) := by decide +kernel
theorem dX7_isSame_721 : decode cX7_isSame 721 = .ok (.bipush 12, 2) := by decide +kernel
theorem dX7_isSame_723 : decode cX7_isSame 723 = .ok (.newarray .int, 2) := by decide +kernel
theorem dX7_isSame_725 : decode cX7_isSame 725 = .ok (.dup, 1) := by decide +kernel
theorem dX7_isSame_726 : decode cX7_isSame 726 = .ok (.iconst 0, 1) := by decide +kernel
theorem dX7_isSame_727 : decode cX7_isSame 727 = .ok (.aload 9, 2) := by decide +kernel
theorem dX7_isSame_729 : decode cX7_isSame 729 = .ok (.getfield 55, 3) := by decide +kernel
theorem dX7_isSame_732 : decode cX7_isSame 732 = .ok (.iastore, 1) := by decide +kernel
theorem dX7_isSame_733 : decode cX7_isSame 733 = .ok (.dup, 1) := by decide +kernel
theorem dX7_isSame_734 : decode cX7_isSame 734 = .ok (.iconst 1, 1) := by decide +kernel
theorem dX7_isSame_735 : decode cX7_isSame 735 = .ok (.aload 9, 2) := by decide +kernel
theorem dX7_isSame_737 : decode cX7_isSame 737 = .ok (.getfield 80, 3) := by decide +kernel
theorem dX7_isSame_740 : decode cX7_isSame 740 = .ok (.iastore, 1) := by decide +kernel
theorem dX7_isSame_741 : decode cX7_isSame 741 = .ok (.dup, 1) := by decide +kernel
theorem dX7_isSame_742 : decode cX7_isSame 742 = .ok (.iconst 2, 1) := by decide +kernel
theorem dX7_isSame_743 : decode cX7_isSame 743 = .ok (.aload 9, 2) := by decide +kernel
theorem dX7_isSame_745 : decode cX7_isSame 745 = .ok (.getfield 58, 3) := by decide +kernel
theorem dX7_isSame_748 : decode cX7_isSame 748 = .ok (.iastore, 1) := by decide +kernel
theorem dX7_isSame_749 : decode cX7_isSame 749 = .ok (.dup, 1) := by decide +kernel
theorem dX7_isSame_750 : decode cX7_isSame 750 = .ok (.iconst 3, 1) := by decide +kernel
theorem dX7_isSame_751 : decode cX7_isSame 751 = .ok (.aload 9, 2) := by decide +kernel
theorem dX7_isSame_753 : decode cX7_isSame 753 = .ok (.getfield 67, 3) := by decide +kernel
theorem dX7_isSame_756 : decode cX7_isSame 756 = .ok (.iastore, 1) := by decide +kernel
theorem dX7_isSame_757 : decode cX7_isSame 757 = .ok (.dup, 1) := by decide +kernel
theorem dX7_isSame_758 : decode cX7_isSame 758 = .ok (.iconst 4, 1) := by decide +kernel
theorem dX7_isSame_759 : decode cX7_isSame 759 = .ok (.aload 9, 2) := by decide +kernel
theorem dX7_isSame_761 : decode cX7_isSame 761 = .ok (.getfield 61, 3) := by decide +kernel
theorem dX7_isSame_764 : decode cX7_isSame 764 = .ok (.iastore, 1) := by decide +kernel
theorem dX7_isSame_765 : decode cX7_isSame 765 = .ok (.dup, 1) := by decide +kernel
theorem dX7_isSame_766 : decode cX7_isSame 766 = .ok (.iconst 5, 1) := by decide +kernel
theorem dX7_isSame_767 : decode cX7_isSame 767 = .ok (.aload 9, 2) := by decide +kernel
theorem dX7_isSame_769 : decode cX7_isSame 769 = .ok (.getfield 64, 3) := by decide +kernel
theorem dX7_isSame_772 : decode cX7_isSame 772 = .ok (.iastore, 1) := by decide +kernel
theorem dX7_isSame_773 : decode cX7_isSame 773 = .ok (.dup, 1) := by decide +kernel
theorem dX7_isSame_774 : decode cX7_isSame 774 = .ok (.bipush 6, 2) := by decide +kernel
theorem dX7_isSame_776 : decode cX7_isSame 776 = .ok (.aload 9, 2) := by decide +kernel
theorem dX7_isSame_778 : decode cX7_isSame 778 = .ok (.getfield 73, 3) := by decide +kernel
theorem dX7_isSame_781 : decode cX7_isSame 781 = .ok (.iastore, 1) := by decide +kernel
theorem dX7_isSame_782 : decode cX7_isSame 782 = .ok (.dup, 1) := by decide +kernel
theorem dX7_isSame_783 : decode cX7_isSame 783 = .ok (.bipush 7, 2) := by decide +kernel
theorem dX7_isSame_785 : decode cX7_isSame 785 = .ok (.aload 9, 2) := by decide +kernel
theorem dX7_isSame_787 : decode cX7_isSame 787 = .ok (.invokevirtual 112, 3) := by decide +kernel
theorem dX7_isSame_790 : decode cX7_isSame 790 = .ok (.iastore, 1) := by decide +kernel
theorem dX7_isSame_791 : decode cX7_isSame 791 = .ok (.dup, 1) := by decide +kernel
theorem dX7_isSame_792 : decode cX7_isSame 792 = .ok (.bipush 8, 2) := by decide +kernel
theorem dX7_isSame_794 : decode cX7_isSame 794 = .ok (.aload 9, 2) := by decide +kernel
theorem dX7_isSame_796 : decode cX7_isSame 796 = .ok (.getfield 83, 3) := by decide +kernel
theorem dX7_isSame_799 : decode cX7_isSame 799 = .ok (.iconst 0, 1) := by decide +kernel
theorem dX7_isSame_800 : decode cX7_isSame 800 = .ok (.iaload, 1) := by decide +kernel
theorem dX7_isSame_801 : decode cX7_isSame 801 = .ok (.iastore, 1) := by decide +kernel
theorem dX7_isSame_802 : decode cX7_isSame 802 = .ok (.dup, 1) := by decide +kernel
theorem dX7_isSame_803 : decode cX7_isSame 803 = .ok (.bipush 9, 2) := by decide +kernel
theorem dX7_isSame_805 : decode cX7_isSame 805 = .ok (.aload 9, 2) := by decide +kernel
theorem dX7_isSame_807 : decode cX7_isSame 807 = .ok (.getfield 83, 3) := by decide +kernel
theorem dX7_isSame_810 : decode cX7_isSame 810 = .ok (.iconst 1, 1) := by decide +kernel
theorem dX7_isSame_811 : decode cX7_isSame 811 = .ok (.iaload, 1) := by decide +kernel
theorem dX7_isSame_812 : decode cX7_isSame 812 = .ok (.iastore, 1) := by decide +kernel
theorem dX7_isSame_813 : decode cX7_isSame 813 = .ok (.dup, 1) := by decide +kernel
theorem dX7_isSame_814 : decode cX7_isSame 814 = .ok (.bipush 10, 2) := by decide +kernel
theorem dX7_isSame_816 : decode cX7_isSame 816 = .ok (.aload 9, 2) := by decide +kernel
theorem dX7_isSame_818 : decode cX7_isSame 818 = .ok (.getfield 83, 3) := by decide +kernel
theorem dX7_isSame_821 : decode cX7_isSame 821 = .ok (.iconst 2, 1) := by decide +kernel
theorem dX7_isSame_822 : decode cX7_isSame 822 = .ok (.iaload, 1) := by decide +kernel
theorem dX7_isSame_823 : decode cX7_isSame 823 = .ok (.iastore, 1) := by decide +kernel
theorem dX7_isSame_824 : decode cX7_isSame 824 = .ok (.dup, 1) := by decide +kernel
theorem dX7_isSame_825 : decode cX7_isSame 825 = .ok (.bipush 11, 2) := by decide +kernel
theorem dX7_isSame_827 : decode cX7_isSame 827 = .ok (.aload 9, 2) := by decide +kernel
theorem dX7_isSame_829 : decode cX7_isSame 829 = .ok (.getfield 83, 3) := by decide +kernel
theorem dX7_isSame_832 : decode cX7_isSame 832 = .ok (.iconst 3, 1) := by decide +kernel
theorem dX7_isSame_833 : decode cX7_isSame 833 = .ok (.iaload, 1) := by decide +kernel
theorem dX7_isSame_834 : decode cX7_isSame 834 = .ok (.iastore, 1) := by decide +kernel
theorem dX7_isSame_835 : decode cX7_isSame 835 = .ok (.astore 10, 2) := by decide +kernel
theorem dX7_isSame_837 : decode cX7_isSame 837 = .ok (.iconst 0, 1) := by decide +kernel
theorem dX7_isSame_838 : decode cX7_isSame 838 = .ok (.istore 11, 2) := by decide +kernel
theorem dX7_isSame_840 : decode cX7_isSame 840 = .ok (.iload 11, 2) := by decide +kernel
theorem dX7_isSame_842 : decode cX7_isSame 842 = .ok (.bipush 12, 2) := by decide +kernel
theorem dX7_isSame_844 : decode cX7_isSame 844 = .ok (.if_icmp .ge 27, 3) := by decide +kernel
theorem dX7_isSame_847 : decode cX7_isSame 847 = .ok (.aload_n 1, 1) := by decide +kernel
theorem dX7_isSame_848 : decode cX7_isSame 848 = .ok (.iload 8, 2) := by decide +kernel
theorem dX7_isSame_850 : decode cX7_isSame 850 = .ok (.iload 11, 2) := by decide +kernel
theorem dX7_isSame_852 : decode cX7_isSame 852 = .ok (.invokevirtual 121, 3) := by decide +kernel
theorem dX7_isSame_855 : decode cX7_isSame 855 = .ok (.aload 10, 2) := by decide +kernel
theorem dX7_isSame_857 : decode cX7_isSame 857 = .ok (.iload 11, 2) := by decide +kernel
theorem dX7_isSame_859 : decode cX7_isSame 859 = .ok (.iaload, 1) := by decide +kernel
theorem dX7_isSame_860 : decode cX7_isSame 860 = .ok (.if_icmp .eq 5, 3) := by decide +kernel
theorem dX7_isSame_863 : decode cX7_isSame 863 = .ok (.iconst 0, 1) := by decide +kernel
theorem dX7_isSame_864 : decode cX7_isSame 864 = .ok (.ireturn, 1) := by decide +kernel
theorem dX7_isSame_865 : decode cX7_isSame 865 = .ok (.iinc 11 1, 3) := by decide +kernel
theorem dX7_isSame_868 : decode cX7_isSame 868 = .ok (.goto (-28), 3) := by decide +kernel
theorem dX7_isSame_871 : decode cX7_isSame 871 = .ok (.iload_n 3, 1) := by decide +kernel
theorem dX7_isSame_872 : decode cX7_isSame 872 = .ok (.aload 9, 2) := by decide +kernel
theorem dX7_isSame_874 : decode cX7_isSame 874 = .ok (.getfield 67, 3) := by decide +kernel
theorem dX7_isSame_877 : decode cX7_isSame 877 = .ok (.iconst 2, 1) := by decide +kernel
theorem dX7_isSame_878 : decode cX7_isSame 878 = .ok (.if_icmp .ne 7, 3) := by decide +kernel
theorem dX7_isSame_881 : decode cX7_isSame 881 = .ok (.iconst 1, 1) := by decide +kernel
theorem dX7_isSame_882 : decode cX7_isSame 882 = .ok (.goto 4, 3) := by decide +kernel
theorem dX7_isSame_885 : decode cX7_isSame 885 = .ok (.iconst 0, 1) := by decide +kernel
theorem dX7_isSame_886 : decode cX7_isSame 886 = .ok (.iadd, 1) := by decide +kernel
theorem dX7_isSame_887 : decode cX7_isSame 887 = .ok (.istore_n 3, 1) := by decide +kernel
theorem dX7_isSame_888 : decode cX7_isSame 888 = .ok (.iload 5, 2) := by decide +kernel
theorem dX7_isSame_890 : decode cX7_isSame 890 = .ok (.aload 9, 2) := by decide +kernel
theorem dX7_isSame_892 : decode cX7_isSame 892 = .ok (.getfield 67, 3) := by decide +kernel
theorem dX7_isSame_895 : decode cX7_isSame 895 = .ok (.iconst 3, 1) := by decide +kernel
theorem dX7_isSame_896 : decode cX7_isSame 896 = .ok (.if_icmp .ge 11, 3) := by decide +kernel
theorem dX7_isSame_899 : decode cX7_isSame 899 = .ok (.aload 9, 2) := by decide +kernel
theorem dX7_isSame_901 : decode cX7_isSame 901 = .ok (.getfield 80, 3) := by decide +kernel
theorem dX7_isSame_904 : decode cX7_isSame 904 = .ok (.goto 4, 3) := by decide +kernel
theorem dX7_isSame_907 : decode cX7_isSame 907 = .ok (.iconst 0, 1) := by decide +kernel
theorem dX7_isSame_908 : decode cX7_isSame 908 = .ok (.iadd, 1) := by decide +kernel
theorem dX7_isSame_909 : decode cX7_isSame 909 = .ok (.istore 5, 2) := by decide +kernel
theorem dX7_isSame_911 : decode cX7_isSame 911 = .ok (.iinc 8 1, 3) := by decide +kernel
theorem dX7_isSame_914 : decode cX7_isSame 914 = .ok (.goto (-212), 3) := by decide +kernel
theorem dX7_isSame_917 : decode cX7_isSame 917 = .ok (.iconst 0, 1) := by decide +kernel
theorem dX7_isSame_918 : decode cX7_isSame 918 = .ok (.istore 8, 2) := by decide +kernel
theorem dX7_isSame_920 : decode cX7_isSame 920 = .ok (.iload 8, 2) := by decide +kernel
theorem dX7_isSame_922 : decode cX7_isSame 922 = .ok (.aload_n 0, 1) := by decide +kernel
theorem dX7_isSame_923 : decode cX7_isSame 923 = .ok (.getfield 38, 3) := by decide +kernel
theorem dX7_isSame_926 : decode cX7_isSame 926 = .ok (.arraylength, 1) := by decide +kernel
theorem dX7_isSame_927 : decode cX7_isSame 927 = .ok (.if_icmp .ge 71, 3) := by decide +kernel
theorem dX7_isSame_930 : decode cX7_isSame 930 = .ok (.iconst 0, 1) := by decide +kernel
theorem dX7_isSame_931 : decode cX7_isSame 931 = .ok (.istore 9, 2) := by decide +kernel
theorem dX7_isSame_933 : decode cX7_isSame 933 = .ok (.iload 9, 2) := by decide +kernel
theorem dX7_isSame_935 : decode cX7_isSame 935 = .ok (.bipush 7, 2) := by decide +kernel
theorem dX7_isSame_937 : decode cX7_isSame 937 = .ok (.if_icmp .ge 32, 3) := by decide +kernel
theorem dX7_isSame_940 : decode cX7_isSame 940 = .ok (.aload_n 1, 1) := by decide +kernel
theorem dX7_isSame_941 : decode cX7_isSame 941 = .ok (.iload 8, 2) := by decide +kernel
theorem dX7_isSame_943 : decode cX7_isSame 943 = .ok (.iload 9, 2) := by decide +kernel
theorem dX7_isSame_945 : decode cX7_isSame 945 = .ok (.invokevirtual 124, 3) := by decide +kernel
theorem dX7_isSame_948 : decode cX7_isSame 948 = .ok (.aload_n 0, 1) := by decide +kernel
theorem dX7_isSame_949 : decode cX7_isSame 949 = .ok (.getfield 38, 3) := by decide +kernel
theorem dX7_isSame_952 : decode cX7_isSame 952 = .ok (.iload 8, 2) := by decide +kernel
theorem dX7_isSame_954 : decode cX7_isSame 954 = .ok (.aaload, 1) := by decide +kernel
theorem dX7_isSame_955 : decode cX7_isSame 955 = .ok (.iload 9, 2) := by decide +kernel
theorem dX7_isSame_957 : decode cX7_isSame 957 = .ok (.iaload, 1) := by decide +kernel
theorem dX7_isSame_958 : decode cX7_isSame 958 = .ok (.if_icmp .eq 5, 3) := by decide +kernel
theorem dX7_isSame_961 : decode cX7_isSame 961 = .ok (.iconst 0, 1) := by decide +kernel
theorem dX7_isSame_962 : decode cX7_isSame 962 = .ok (.ireturn, 1) := by decide +kernel
theorem dX7_isSame_963 : decode cX7_isSame 963 = .ok (.iinc 9 1, 3) := by decide +kernel
theorem dX7_isSame_966 : decode cX7_isSame 966 = .ok (.goto (-33), 3) := by decide +kernel
theorem dX7_isSame_969 : decode cX7_isSame 969 = .ok (.iload 4, 2) := by decide +kernel
theorem dX7_isSame_971 : decode cX7_isSame 971 = .ok (.aload_n 0, 1) := by decide +kernel
theorem dX7_isSame_972 : decode cX7_isSame 972 = .ok (.getfield 38, 3) := by decide +kernel
theorem dX7_isSame_975 : decode cX7_isSame 975 = .ok (.iload 8, 2) := by decide +kernel
theorem dX7_isSame_977 : decode cX7_isSame 977 = .ok (.aaload, 1) := by decide +kernel
theorem dX7_isSame_978 : decode cX7_isSame 978 = .ok (.bipush 6, 2) := by decide +kernel
theorem dX7_isSame_980 : decode cX7_isSame 980 = .ok (.iaload, 1) := by decide +kernel
theorem dX7_isSame_981 : decode cX7_isSame 981 = .ok (.ifCond .ne 7, 3) := by decide +kernel
theorem dX7_isSame_984 : decode cX7_isSame 984 = .ok (.iconst 1, 1) := by decide +kernel
theorem dX7_isSame_985 : decode cX7_isSame 985 = .ok (.goto 4, 3) := by decide +kernel
theorem dX7_isSame_988 : decode cX7_isSame 988 = .ok (.iconst 0, 1) := by decide +kernel
theorem dX7_isSame_989 : decode cX7_isSame 989 = .ok (.iadd, 1) := by decide +kernel
theorem dX7_isSame_990 : decode cX7_isSame 990 = .ok (.istore 4, 2) := by decide +kernel
theorem dX7_isSame_992 : decode cX7_isSame 992 = .ok (.iinc 8 1, 3) := by decide +kernel
theorem dX7_isSame_995 : decode cX7_isSame 995 = .ok (.goto (-75), 3) := by decide +kernel
theorem dX7_isSame_998 : decode cX7_isSame 998 = .ok (.aload_n 0, 1) := by decide +kernel
theorem dX7_isSame_999 : decode cX7_isSame 999 = .ok (.getfield 34, 3) := by decide +kernel
theorem dX7_isSame_1002 : decode cX7_isSame 1002 = .ok (.arraylength, 1) := by decide +kernel
theorem dX7_isSame_1003 : decode cX7_isSame 1003 = .ok (.aload_n 0, 1) := by decide +kernel
theorem dX7_isSame_1004 : decode cX7_isSame 1004 = .ok (.invokevirtual 86, 3) := by decide +kernel
theorem dX7_isSame_1007 : decode cX7_isSame 1007 = .ok (.isub, 1) := by decide +kernel
theorem dX7_isSame_1008 : decode cX7_isSame 1008 = .ok (.istore 8, 2) := by decide +kernel
theorem dX7_isSame_1010 : decode cX7_isSame 1010 = .ok (.bipush 10, 2) := by decide +kernel
theorem dX7_isSame_1012 : decode cX7_isSame 1012 = .ok (.newarray .int, 2) := by decide +kernel
theorem dX7_isSame_1014 : decode cX7_isSame 1014 = .ok (.dup, 1) := by decide +kernel
theorem dX7_isSame_1015 : decode cX7_isSame 1015 = .ok (.iconst 0, 1) := by decide +kernel
theorem dX7_isSame_1016 : decode cX7_isSame 1016 = .ok (.aload_n 0, 1) := by decide +kernel
theorem dX7_isSame_1017 : decode cX7_isSame 1017 = .ok (.getfield 50, 3) := by decide +kernel
theorem dX7_isSame_1020 : decode cX7_isSame 1020 = .ok (.iastore, 1) := by decide +kernel
theorem dX7_isSame_1021 : decode cX7_isSame 1021 = .ok (.dup, 1) := by decide +kernel
theorem dX7_isSame_1022 : decode cX7_isSame 1022 = .ok (.iconst 1, 1) := by decide +kernel
theorem dX7_isSame_1023 : decode cX7_isSame 1023 = .ok (.iload_n 2, 1) := by decide +kernel
theorem dX7_isSame_1024 : decode cX7_isSame 1024 = .ok (.iastore, 1) := by decide +kernel
theorem dX7_isSame_1025 : decode cX7_isSame 1025 = .ok (.dup, 1) := by decide +kernel
theorem dX7_isSame_1026 : decode cX7_isSame 1026 = .ok (.iconst 2, 1) := by decide +kernel
theorem dX7_isSame_1027 : decode cX7_isSame 1027 = .ok (.aload_n 0, 1) := by decide +kernel
theorem dX7_isSame_1028 : decode cX7_isSame 1028 = .ok (.getfield 24, 3) := by decide +kernel
theorem dX7_isSame_1031 : decode cX7_isSame 1031 = .ok (.arraylength, 1) := by decide +kernel
theorem dX7_isSame_1032 : decode cX7_isSame 1032 = .ok (.iastore, 1) := by decide +kernel
theorem dX7_isSame_1033 : decode cX7_isSame 1033 = .ok (.dup, 1) := by decide +kernel
theorem dX7_isSame_1034 : decode cX7_isSame 1034 = .ok (.iconst 3, 1) := by decide +kernel
theorem dX7_isSame_1035 : decode cX7_isSame 1035 = .ok (.aload_n 0, 1) := by decide +kernel
theorem dX7_isSame_1036 : decode cX7_isSame 1036 = .ok (.getfield 34, 3) := by decide +kernel
theorem dX7_isSame_1039 : decode cX7_isSame 1039 = .ok (.arraylength, 1) := by decide +kernel
theorem dX7_isSame_1040 : decode cX7_isSame 1040 = .ok (.iastore, 1) := by decide +kernel
theorem dX7_isSame_1041 : decode cX7_isSame 1041 = .ok (.dup, 1) := by decide +kernel
theorem dX7_isSame_1042 : decode cX7_isSame 1042 = .ok (.iconst 4, 1) := by decide +kernel
theorem dX7_isSame_1043 : decode cX7_isSame 1043 = .ok (.aload_n 0, 1) := by decide +kernel
theorem dX7_isSame_1044 : decode cX7_isSame 1044 = .ok (.invokevirtual 86, 3) := by decide +kernel
theorem dX7_isSame_1047 : decode cX7_isSame 1047 = .ok (.iastore, 1) := by decide +kernel
theorem dX7_isSame_1048 : decode cX7_isSame 1048 = .ok (.dup, 1) := by decide +kernel
theorem dX7_isSame_1049 : decode cX7_isSame 1049 = .ok (.iconst 5, 1) := by decide +kernel
theorem dX7_isSame_1050 : decode cX7_isSame 1050 = .ok (.iload_n 3, 1) := by decide +kernel
theorem dX7_isSame_1051 : decode cX7_isSame 1051 = .ok (.iastore, 1) := by decide +kernel
theorem dX7_isSame_1052 : decode cX7_isSame 1052 = .ok (.dup, 1) := by decide +kernel
theorem dX7_isSame_1053 : decode cX7_isSame 1053 = .ok (.bipush 6, 2) := by decide +kernel
theorem dX7_isSame_1055 : decode cX7_isSame 1055 = .ok (.aload_n 0, 1) := by decide +kernel
theorem dX7_isSame_1056 : decode cX7_isSame 1056 = .ok (.getfield 38, 3) := by decide +kernel
theorem dX7_isSame_1059 : decode cX7_isSame 1059 = .ok (.arraylength, 1) := by decide +kernel
theorem dX7_isSame_1060 : decode cX7_isSame 1060 = .ok (.iastore, 1) := by decide +kernel
theorem dX7_isSame_1061 : decode cX7_isSame 1061 = .ok (.dup, 1) := by decide +kernel
theorem dX7_isSame_1062 : decode cX7_isSame 1062 = .ok (.bipush 7, 2) := by decide +kernel
theorem dX7_isSame_1064 : decode cX7_isSame 1064 = .ok (.iload 4, 2) := by decide +kernel
theorem dX7_isSame_1066 : decode cX7_isSame 1066 = .ok (.iastore, 1) := by decide +kernel
theorem dX7_isSame_1067 : decode cX7_isSame 1067 = .ok (.dup, 1) := by decide +kernel
theorem dX7_isSame_1068 : decode cX7_isSame 1068 = .ok (.bipush 8, 2) := by decide +kernel
theorem dX7_isSame_1070 : decode cX7_isSame 1070 = .ok (.iload 7, 2) := by decide +kernel
theorem dX7_isSame_1072 : decode cX7_isSame 1072 = .ok (.iastore, 1) := by decide +kernel
theorem dX7_isSame_1073 : decode cX7_isSame 1073 = .ok (.dup, 1) := by decide +kernel
theorem dX7_isSame_1074 : decode cX7_isSame 1074 = .ok (.bipush 9, 2) := by decide +kernel
theorem dX7_isSame_1076 : decode cX7_isSame 1076 = .ok (.iload 6, 2) := by decide +kernel
theorem dX7_isSame_1078 : decode cX7_isSame 1078 = .ok (.iastore, 1) := by decide +kernel
theorem dX7_isSame_1079 : decode cX7_isSame 1079 = .ok (.astore 9, 2) := by decide +kernel
theorem dX7_isSame_1081 : decode cX7_isSame 1081 = .ok (.iconst 0, 1) := by decide +kernel
theorem dX7_isSame_1082 : decode cX7_isSame 1082 = .ok (.istore 10, 2) := by decide +kernel
theorem dX7_isSame_1084 : decode cX7_isSame 1084 = .ok (.iload 10, 2) := by decide +kernel
theorem dX7_isSame_1086 : decode cX7_isSame 1086 = .ok (.bipush 10, 2) := by decide +kernel
theorem dX7_isSame_1088 : decode cX7_isSame 1088 = .ok (.if_icmp .ge 25, 3) := by decide +kernel
theorem dX7_isSame_1091 : decode cX7_isSame 1091 = .ok (.aload_n 1, 1) := by decide +kernel
theorem dX7_isSame_1092 : decode cX7_isSame 1092 = .ok (.iload 10, 2) := by decide +kernel
theorem dX7_isSame_1094 : decode cX7_isSame 1094 = .ok (.invokevirtual 127, 3) := by decide +kernel
theorem dX7_isSame_1097 : decode cX7_isSame 1097 = .ok (.aload 9, 2) := by decide +kernel
theorem dX7_isSame_1099 : decode cX7_isSame 1099 = .ok (.iload 10, 2) := by decide +kernel
theorem dX7_isSame_1101 : decode cX7_isSame 1101 = .ok (.iaload, 1) := by decide +kernel
theorem dX7_isSame_1102 : decode cX7_isSame 1102 = .ok (.if_icmp .eq 5, 3) := by decide +kernel
theorem dX7_isSame_1105 : decode cX7_isSame 1105 = .ok (.iconst 0, 1) := by decide +kernel
theorem dX7_isSame_1106 : decode cX7_isSame 1106 = .ok (.ireturn, 1) := by decide +kernel
theorem dX7_isSame_1107 : decode cX7_isSame 1107 = .ok (.iinc 10 1, 3) := by decide +kernel
theorem dX7_isSame_1110 : decode cX7_isSame 1110 = .ok (.goto (-26), 3) := by decide +kernel
theorem dX7_isSame_1113 : decode cX7_isSame 1113 = .ok (.aload_n 1, 1) := by decide +kernel
theorem dX7_isSame_1114 : decode cX7_isSame 1114 = .ok (.invokevirtual 130, 3) := by decide +kernel
theorem dX7_isSame_1117 : decode cX7_isSame 1117 = .ok (.iload 8, 2) := by decide +kernel
theorem dX7_isSame_1119 : decode cX7_isSame 1119 = .ok (.ifCond .ne 7, 3) := by decide +kernel
theorem dX7_isSame_1122 : decode cX7_isSame 1122 = .ok (.dconst 0, 1) := by decide +kernel
theorem dX7_isSame_1123 : decode cX7_isSame 1123 = .ok (.goto 10, 3) := by decide +kernel
theorem dX7_isSame_1126 : decode cX7_isSame 1126 = .ok (.iload 5, 2) := by decide +kernel
theorem dX7_isSame_1128 : decode cX7_isSame 1128 = .ok (.i2d, 1) := by decide +kernel
theorem dX7_isSame_1129 : decode cX7_isSame 1129 = .ok (.iload 8, 2) := by decide +kernel
theorem dX7_isSame_1131 : decode cX7_isSame 1131 = .ok (.i2d, 1) := by decide +kernel
theorem dX7_isSame_1132 : decode cX7_isSame 1132 = .ok (.ddiv, 1) := by decide +kernel
theorem dX7_isSame_1133 : decode cX7_isSame 1133 = .ok (.dcmp .l, 1) := by decide +kernel
theorem dX7_isSame_1134 : decode cX7_isSame 1134 = .ok (.ifCond .ne 7, 3) := by decide +kernel
theorem dX7_isSame_1137 : decode cX7_isSame 1137 = .ok (.iconst 1, 1) := by decide +kernel
theorem dX7_isSame_1138 : decode cX7_isSame 1138 = .ok (.goto 4, 3) := by decide +kernel
theorem dX7_isSame_1141 : decode cX7_isSame 1141 = .ok (.iconst 0, 1) := by decide +kernel
theorem dX7_isSame_1142 : decode cX7_isSame 1142 = .ok (.ireturn, 1) := by decide +kernel
