theorem dX0_init_0 : decode cX0_init 0 = .ok (.aload_n 0, 1) := by decide +kernel
theorem dX0_init_1 : decode cX0_init 1 = .ok (.invokespecial 3, 3) := by decide +kernel
theorem dX0_init_4 : decode cX0_init 4 = .ok (.aload_n 0, 1) := by decide +kernel
theorem dX0_init_5 : decode cX0_init 5 = .ok (.iconst 4, 1) := by decide +kernel
theorem dX0_init_6 : decode cX0_init 6 = .ok (.newarray .int, 2) := by decide +kernel
theorem dX0_init_8 : decode cX0_init 8 = .ok (.putfield 9, 3) := by decide +kernel
theorem dX0_init_11 : decode cX0_init 11 = .ok (.return_, 1) := by decide +kernel
theorem dX0_launch_0 : decode cX0_launch 0 = .ok (.aload_n 0, 1) := by decide +kernel
theorem dX0_launch_1 : decode cX0_launch 1 = .ok (.iload_n 1, 1) := by decide +kernel
theorem dX0_launch_2 : decode cX0_launch 2 = .ok (.putfield 15, 3) := by decide +kernel
theorem dX0_launch_5 : decode cX0_launch 5 = .ok (.aload_n 0, 1) := by decide +kernel
theorem dX0_launch_6 : decode cX0_launch 6 = .ok (.bipush 20, 2) := by decide +kernel
theorem dX0_launch_8 : decode cX0_launch 8 = .ok (.putfield 19, 3) := by decide +kernel
theorem dX0_launch_11 : decode cX0_launch 11 = .ok (.aload_n 0, 1) := by decide +kernel
theorem dX0_launch_12 : decode cX0_launch 12 = .ok (.iload_n 3, 1) := by decide +kernel
theorem dX0_launch_13 : decode cX0_launch 13 = .ok (.putfield 22, 3) := by decide +kernel
theorem dX0_launch_16 : decode cX0_launch 16 = .ok (.aload_n 0, 1) := by decide +kernel
theorem dX0_launch_17 : decode cX0_launch 17 = .ok (.iconst 0, 1) := by decide +kernel
theorem dX0_launch_18 : decode cX0_launch 18 = .ok (.putfield 25, 3) := by decide +kernel
theorem dX0_launch_21 : decode cX0_launch 21 = .ok (.aload_n 0, 1) := by decide +kernel
theorem dX0_launch_22 : decode cX0_launch 22 = .ok (.iload_n 2, 1) := by decide +kernel
theorem dX0_launch_23 : decode cX0_launch 23 = .ok (.putfield 28, 3) := by decide +kernel
theorem dX0_launch_26 : decode cX0_launch 26 = .ok (.aload_n 0, 1) := by decide +kernel
theorem dX0_launch_27 : decode cX0_launch 27 = .ok (.iload_n 2, 1) := by decide +kernel
theorem dX0_launch_28 : decode cX0_launch 28 = .ok (.putfield 31, 3) := by decide +kernel
theorem dX0_launch_31 : decode cX0_launch 31 = .ok (.return_, 1) := by decide +kernel
theorem dX0_copyFrom_0 : decode cX0_copyFrom 0 = .ok (.aload_n 0, 1) := by decide +kernel
theorem dX0_copyFrom_1 : decode cX0_copyFrom 1 = .ok (.aload_n 1, 1) := by decide +kernel
theorem dX0_copyFrom_2 : decode cX0_copyFrom 2 = .ok (.getfield 15, 3) := by decide +kernel
theorem dX0_copyFrom_5 : decode cX0_copyFrom 5 = .ok (.putfield 15, 3) := by decide +kernel
theorem dX0_copyFrom_8 : decode cX0_copyFrom 8 = .ok (.aload_n 0, 1) := by decide +kernel
theorem dX0_copyFrom_9 : decode cX0_copyFrom 9 = .ok (.aload_n 1, 1) := by decide +kernel
theorem dX0_copyFrom_10 : decode cX0_copyFrom 10 = .ok (.getfield 19, 3) := by decide +kernel
theorem dX0_copyFrom_13 : decode cX0_copyFrom 13 = .ok (.putfield 19, 3) := by decide +kernel
theorem dX0_copyFrom_16 : decode cX0_copyFrom 16 = .ok (.aload_n 0, 1) := by decide +kernel
theorem dX0_copyFrom_17 : decode cX0_copyFrom 17 = .ok (.aload_n 1, 1) := by decide +kernel
theorem dX0_copyFrom_18 : decode cX0_copyFrom 18 = .ok (.getfield 22, 3) := by decide +kernel
theorem dX0_copyFrom_21 : decode cX0_copyFrom 21 = .ok (.putfield 22, 3) := by decide +kernel
theorem dX0_copyFrom_24 : decode cX0_copyFrom 24 = .ok (.aload_n 0, 1) := by decide +kernel
theorem dX0_copyFrom_25 : decode cX0_copyFrom 25 = .ok (.aload_n 1, 1) := by decide +kernel
theorem dX0_copyFrom_26 : decode cX0_copyFrom 26 = .ok (.getfield 25, 3) := by decide +kernel
theorem dX0_copyFrom_29 : decode cX0_copyFrom 29 = .ok (.putfield 25, 3) := by decide +kernel
theorem dX0_copyFrom_32 : decode cX0_copyFrom 32 = .ok (.aload_n 0, 1) := by decide +kernel
theorem dX0_copyFrom_33 : decode cX0_copyFrom 33 = .ok (.aload_n 1, 1) := by decide +kernel
theorem dX0_copyFrom_34 : decode cX0_copyFrom 34 = .ok (.getfield 28, 3) := by decide +kernel
theorem dX0_copyFrom_37 : decode cX0_copyFrom 37 = .ok (.putfield 28, 3) := by decide +kernel
theorem dX0_copyFrom_40 : decode cX0_copyFrom 40 = .ok (.aload_n 0, 1) := by decide +kernel
theorem dX0_copyFrom_41 : decode cX0_copyFrom 41 = .ok (.aload_n 1, 1) := by decide +kernel
theorem dX0_copyFrom_42 : decode cX0_copyFrom 42 = .ok (.getfield 34, 3) := by decide +kernel
theorem dX0_copyFrom_45 : decode cX0_copyFrom 45 = .ok (.putfield 34, 3) := by decide +kernel
theorem dX0_copyFrom_48 : decode cX0_copyFrom 48 = .ok (.aload_n 0, 1) := by decide +kernel
theorem dX0_copyFrom_49 : decode cX0_copyFrom 49 = .ok (.aload_n 1, 1) := by decide +kernel
theorem dX0_copyFrom_50 : decode cX0_copyFrom 50 = .ok (.getfield 31, 3) := by decide +kernel
theorem dX0_copyFrom_53 : decode cX0_copyFrom 53 = .ok (.putfield 31, 3) := by decide +kernel
theorem dX0_copyFrom_56 : decode cX0_copyFrom 56 = .ok (.aload_n 0, 1) := by decide +kernel
theorem dX0_copyFrom_57 : decode cX0_copyFrom 57 = .ok (.aload_n 1, 1) := by decide +kernel
theorem dX0_copyFrom_58 : decode cX0_copyFrom 58 = .ok (.getfield 37, 3) := by decide +kernel
theorem dX0_copyFrom_61 : decode cX0_copyFrom 61 = .ok (.putfield 37, 3) := by decide +kernel
theorem dX0_copyFrom_64 : decode cX0_copyFrom 64 = .ok (.aload_n 1, 1) := by decide +kernel
theorem dX0_copyFrom_65 : decode cX0_copyFrom 65 = .ok (.getfield 9, 3) := by decide +kernel
theorem dX0_copyFrom_68 : decode cX0_copyFrom 68 = .ok (.aload_n 0, 1) := by decide +kernel
theorem dX0_copyFrom_69 : decode cX0_copyFrom 69 = .ok (.getfield 9, 3) := by decide +kernel
theorem dX0_copyFrom_72 : decode cX0_copyFrom 72 = .ok (.invokestatic 40, 3) := by decide +kernel
theorem dX0_copyFrom_75 : decode cX0_copyFrom 75 = .ok (.return_, 1) := by decide +kernel
theorem dX0_isInHarbour_0 : decode cX0_isInHarbour 0 = .ok (.aload_n 0, 1) := by decide +kernel
theorem dX0_isInHarbour_1 : decode cX0_isInHarbour 1 = .ok (.getfield 25, 3) := by decide +kernel
theorem dX0_isInHarbour_4 : decode cX0_isInHarbour 4 = .ok (.ifCond .eq 11, 3) := by decide +kernel
theorem dX0_isInHarbour_7 : decode cX0_isInHarbour 7 = .ok (.aload_n 0, 1) := by decide +kernel
theorem dX0_isInHarbour_8 : decode cX0_isInHarbour 8 = .ok (.getfield 25, 3) := by decide +kernel
theorem dX0_isInHarbour_11 : decode cX0_isInHarbour 11 = .ok (.iconst 1, 1) := by decide +kernel
theorem dX0_isInHarbour_12 : decode cX0_isInHarbour 12 = .ok (.if_icmp .ne 7, 3) := by decide +kernel
theorem dX0_isInHarbour_15 : decode cX0_isInHarbour 15 = .ok (.iconst 1, 1) := by decide +kernel
theorem dX0_isInHarbour_16 : decode cX0_isInHarbour 16 = .ok (.goto 4, 3) := by decide +kernel
theorem dX0_isInHarbour_19 : decode cX0_isInHarbour 19 = .ok (.iconst 0, 1) := by decide +kernel
theorem dX0_isInHarbour_20 : decode cX0_isInHarbour 20 = .ok (.ireturn, 1) := by decide +kernel
theorem dX0_isAtGoal_0 : decode cX0_isAtGoal 0 = .ok (.aload_n 0, 1) := by decide +kernel
theorem dX0_isAtGoal_1 : decode cX0_isAtGoal 1 = .ok (.invokevirtual 44, 3) := by decide +kernel
theorem dX0_isAtGoal_4 : decode cX0_isAtGoal 4 = .ok (.ifCond .eq 18, 3) := by decide +kernel
theorem dX0_isAtGoal_7 : decode cX0_isAtGoal 7 = .ok (.aload_n 0, 1) := by decide +kernel
theorem dX0_isAtGoal_8 : decode cX0_isAtGoal 8 = .ok (.getfield 28, 3) := by decide +kernel
theorem dX0_isAtGoal_11 : decode cX0_isAtGoal 11 = .ok (.aload_n 0, 1) := by decide +kernel
theorem dX0_isAtGoal_12 : decode cX0_isAtGoal 12 = .ok (.getfield 31, 3) := by decide +kernel
theorem dX0_isAtGoal_15 : decode cX0_isAtGoal 15 = .ok (.if_icmp .ne 7, 3) := by decide +kernel
theorem dX0_isAtGoal_18 : decode cX0_isAtGoal 18 = .ok (.iconst 1, 1) := by decide +kernel
theorem dX0_isAtGoal_19 : decode cX0_isAtGoal 19 = .ok (.goto 4, 3) := by decide +kernel
theorem dX0_isAtGoal_22 : decode cX0_isAtGoal 22 = .ok (.iconst 0, 1) := by decide +kernel
theorem dX0_isAtGoal_23 : decode cX0_isAtGoal 23 = .ok (.ireturn, 1) := by decide +kernel
theorem dX0_allCargo_0 : decode cX0_allCargo 0 = .ok (.aload_n 0, 1) := by decide +kernel
theorem dX0_allCargo_1 : decode cX0_allCargo 1 = .ok (.getfield 9, 3) := by decide +kernel
theorem dX0_allCargo_4 : decode cX0_allCargo 4 = .ok (.invokestatic 48, 3) := by decide +kernel
theorem dX0_allCargo_7 : decode cX0_allCargo 7 = .ok (.ireturn, 1) := by decide +kernel
theorem dX0_loseHull_0 : decode cX0_loseHull 0 = .ok (.aload_n 0, 1) := by decide +kernel
theorem dX0_loseHull_1 : decode cX0_loseHull 1 = .ok (.dup, 1) := by decide +kernel
theorem dX0_loseHull_2 : decode cX0_loseHull 2 = .ok (.getfield 19, 3) := by decide +kernel
theorem dX0_loseHull_5 : decode cX0_loseHull 5 = .ok (.iconst 1, 1) := by decide +kernel
theorem dX0_loseHull_6 : decode cX0_loseHull 6 = .ok (.isub, 1) := by decide +kernel
theorem dX0_loseHull_7 : decode cX0_loseHull 7 = .ok (.putfield 19, 3) := by decide +kernel
theorem dX0_loseHull_10 : decode cX0_loseHull 10 = .ok (.aload_n 0, 1) := by decide +kernel
theorem dX0_loseHull_11 : decode cX0_loseHull 11 = .ok (.getfield 19, 3) := by decide +kernel
theorem dX0_loseHull_14 : decode cX0_loseHull 14 = .ok (.ifCond .gt 26, 3) := by decide +kernel
theorem dX0_loseHull_17 : decode cX0_loseHull 17 = .ok (.aload_n 0, 1) := by decide +kernel
theorem dX0_loseHull_18 : decode cX0_loseHull 18 = .ok (.iconst 3, 1) := by decide +kernel
theorem dX0_loseHull_19 : decode cX0_loseHull 19 = .ok (.putfield 25, 3) := by decide +kernel
theorem dX0_loseHull_22 : decode cX0_loseHull 22 = .ok (.aload_n 0, 1) := by decide +kernel
theorem dX0_loseHull_23 : decode cX0_loseHull 23 = .ok (.iconst (-1), 1) := by decide +kernel
theorem dX0_loseHull_24 : decode cX0_loseHull 24 = .ok (.putfield 28, 3) := by decide +kernel
theorem dX0_loseHull_27 : decode cX0_loseHull 27 = .ok (.aload_n 0, 1) := by decide +kernel
theorem dX0_loseHull_28 : decode cX0_loseHull 28 = .ok (.iconst 0, 1) := by decide +kernel
theorem dX0_loseHull_29 : decode cX0_loseHull 29 = .ok (.putfield 37, 3) := by decide +kernel
theorem dX0_loseHull_32 : decode cX0_loseHull 32 = .ok (.aload_n 0, 1) := by decide +kernel
theorem dX0_loseHull_33 : decode cX0_loseHull 33 = .ok (.getfield 9, 3) := by decide +kernel
theorem dX0_loseHull_36 : decode cX0_loseHull 36 = .ok (.iconst 0, 1) := by decide +kernel
theorem dX0_loseHull_37 : decode cX0_loseHull 37 = .ok (.invokestatic 52, 3) := by decide +kernel
theorem dX0_loseHull_40 : decode cX0_loseHull 40 = .ok (.return_, 1) := by decide +kernel
theorem dX1_init_0 : decode cX1_init 0 = .ok (.aload_n 0, 1) := by decide +kernel
theorem dX1_init_1 : decode cX1_init 1 = .ok (.invokespecial 3, 3) := by decide +kernel
theorem dX1_init_4 : decode cX1_init 4 = .ok (.return_, 1) := by decide +kernel
theorem dX1_open_0 : decode cX1_open 0 = .ok (.aload_n 0, 1) := by decide +kernel
theorem dX1_open_1 : decode cX1_open 1 = .ok (.iload_n 1, 1) := by decide +kernel
theorem dX1_open_2 : decode cX1_open 2 = .ok (.putfield 9, 3) := by decide +kernel
theorem dX1_open_5 : decode cX1_open 5 = .ok (.aload_n 0, 1) := by decide +kernel
theorem dX1_open_6 : decode cX1_open 6 = .ok (.iload_n 2, 1) := by decide +kernel
theorem dX1_open_7 : decode cX1_open 7 = .ok (.putfield 15, 3) := by decide +kernel
theorem dX1_open_10 : decode cX1_open 10 = .ok (.aload_n 0, 1) := by decide +kernel
theorem dX1_open_11 : decode cX1_open 11 = .ok (.iload_n 3, 1) := by decide +kernel
theorem dX1_open_12 : decode cX1_open 12 = .ok (.putfield 18, 3) := by decide +kernel
theorem dX1_open_15 : decode cX1_open 15 = .ok (.aload_n 0, 1) := by decide +kernel
theorem dX1_open_16 : decode cX1_open 16 = .ok (.iload 4, 2) := by decide +kernel
theorem dX1_open_18 : decode cX1_open 18 = .ok (.putfield 21, 3) := by decide +kernel
theorem dX1_open_21 : decode cX1_open 21 = .ok (.aload_n 0, 1) := by decide +kernel
theorem dX1_open_22 : decode cX1_open 22 = .ok (.iload 5, 2) := by decide +kernel
theorem dX1_open_24 : decode cX1_open 24 = .ok (.putfield 24, 3) := by decide +kernel
theorem dX1_open_27 : decode cX1_open 27 = .ok (.aload_n 0, 1) := by decide +kernel
theorem dX1_open_28 : decode cX1_open 28 = .ok (.iload 6, 2) := by decide +kernel
theorem dX1_open_30 : decode cX1_open 30 = .ok (.putfield 27, 3) := by decide +kernel
theorem dX1_open_33 : decode cX1_open 33 = .ok (.aload_n 0, 1) := by decide +kernel
theorem dX1_open_34 : decode cX1_open 34 = .ok (.iconst 0, 1) := by decide +kernel
theorem dX1_open_35 : decode cX1_open 35 = .ok (.putfield 30, 3) := by decide +kernel
theorem dX1_open_38 : decode cX1_open 38 = .ok (.return_, 1) := by decide +kernel
theorem dX1_copyFrom_0 : decode cX1_copyFrom 0 = .ok (.aload_n 0, 1) := by decide +kernel
theorem dX1_copyFrom_1 : decode cX1_copyFrom 1 = .ok (.aload_n 1, 1) := by decide +kernel
theorem dX1_copyFrom_2 : decode cX1_copyFrom 2 = .ok (.getfield 9, 3) := by decide +kernel
theorem dX1_copyFrom_5 : decode cX1_copyFrom 5 = .ok (.aload_n 1, 1) := by decide +kernel
theorem dX1_copyFrom_6 : decode cX1_copyFrom 6 = .ok (.getfield 15, 3) := by decide +kernel
theorem dX1_copyFrom_9 : decode cX1_copyFrom 9 = .ok (.aload_n 1, 1) := by decide +kernel
theorem dX1_copyFrom_10 : decode cX1_copyFrom 10 = .ok (.getfield 18, 3) := by decide +kernel
theorem dX1_copyFrom_13 : decode cX1_copyFrom 13 = .ok (.aload_n 1, 1) := by decide +kernel
theorem dX1_copyFrom_14 : decode cX1_copyFrom 14 = .ok (.getfield 21, 3) := by decide +kernel
theorem dX1_copyFrom_17 : decode cX1_copyFrom 17 = .ok (.aload_n 1, 1) := by decide +kernel
theorem dX1_copyFrom_18 : decode cX1_copyFrom 18 = .ok (.getfield 24, 3) := by decide +kernel
theorem dX1_copyFrom_21 : decode cX1_copyFrom 21 = .ok (.aload_n 1, 1) := by decide +kernel
theorem dX1_copyFrom_22 : decode cX1_copyFrom 22 = .ok (.getfield 27, 3) := by decide +kernel
theorem dX1_copyFrom_25 : decode cX1_copyFrom 25 = .ok (.invokevirtual 33, 3) := by decide +kernel
theorem dX1_copyFrom_28 : decode cX1_copyFrom 28 = .ok (.aload_n 0, 1) := by decide +kernel
theorem dX1_copyFrom_29 : decode cX1_copyFrom 29 = .ok (.aload_n 1, 1) := by decide +kernel
theorem dX1_copyFrom_30 : decode cX1_copyFrom 30 = .ok (.getfield 30, 3) := by decide +kernel
theorem dX1_copyFrom_33 : decode cX1_copyFrom 33 = .ok (.putfield 30, 3) := by decide +kernel
theorem dX1_copyFrom_36 : decode cX1_copyFrom 36 = .ok (.return_, 1) := by decide +kernel
theorem dX2_init_0 : decode cX2_init 0 = .ok (.aload_n 0, 1) := by decide +kernel
theorem dX2_init_1 : decode cX2_init 1 = .ok (.invokespecial 3, 3) := by decide +kernel
theorem dX2_init_4 : decode cX2_init 4 = .ok (.aload_n 0, 1) := by decide +kernel
theorem dX2_init_5 : decode cX2_init 5 = .ok (.bipush 32, 2) := by decide +kernel
theorem dX2_init_7 : decode cX2_init 7 = .ok (.newarray .int, 2) := by decide +kernel
theorem dX2_init_9 : decode cX2_init 9 = .ok (.putfield 9, 3) := by decide +kernel
theorem dX2_init_12 : decode cX2_init 12 = .ok (.return_, 1) := by decide +kernel
theorem dX2_copyFrom_0 : decode cX2_copyFrom 0 = .ok (.aload_n 0, 1) := by decide +kernel
theorem dX2_copyFrom_1 : decode cX2_copyFrom 1 = .ok (.aload_n 1, 1) := by decide +kernel
theorem dX2_copyFrom_2 : decode cX2_copyFrom 2 = .ok (.getfield 15, 3) := by decide +kernel
theorem dX2_copyFrom_5 : decode cX2_copyFrom 5 = .ok (.putfield 15, 3) := by decide +kernel
theorem dX2_copyFrom_8 : decode cX2_copyFrom 8 = .ok (.aload_n 1, 1) := by decide +kernel
theorem dX2_copyFrom_9 : decode cX2_copyFrom 9 = .ok (.getfield 9, 3) := by decide +kernel
theorem dX2_copyFrom_12 : decode cX2_copyFrom 12 = .ok (.aload_n 0, 1) := by decide +kernel
theorem dX2_copyFrom_13 : decode cX2_copyFrom 13 = .ok (.getfield 9, 3) := by decide +kernel
theorem dX2_copyFrom_16 : decode cX2_copyFrom 16 = .ok (.invokestatic 19, 3) := by decide +kernel
theorem dX2_copyFrom_19 : decode cX2_copyFrom 19 = .ok (.return_, 1) := by decide +kernel
theorem dX3_init_0 : decode cX3_init 0 = .ok (.aload_n 0, 1) := by decide +kernel
theorem dX3_init_1 : decode cX3_init 1 = .ok (.invokespecial 3, 3) := by decide +kernel
theorem dX3_init_4 : decode cX3_init 4 = .ok (.aload_n 0, 1) := by decide +kernel
theorem dX3_init_5 : decode cX3_init 5 = .ok (.bipush 40, 2) := by decide +kernel
theorem dX3_init_7 : decode cX3_init 7 = .ok (.newarray .int, 2) := by decide +kernel
theorem dX3_init_9 : decode cX3_init 9 = .ok (.putfield 9, 3) := by decide +kernel
theorem dX3_init_12 : decode cX3_init 12 = .ok (.aload_n 0, 1) := by decide +kernel
theorem dX3_init_13 : decode cX3_init 13 = .ok (.bipush 7, 2) := by decide +kernel
theorem dX3_init_15 : decode cX3_init 15 = .ok (.newarray .int, 2) := by decide +kernel
theorem dX3_init_17 : decode cX3_init 17 = .ok (.putfield 15, 3) := by decide +kernel
theorem dX3_init_20 : decode cX3_init 20 = .ok (.aload_n 0, 1) := by decide +kernel
theorem dX3_init_21 : decode cX3_init 21 = .ok (.bipush 7, 2) := by decide +kernel
theorem dX3_init_23 : decode cX3_init 23 = .ok (.newarray .int, 2) := by decide +kernel
theorem dX3_init_25 : decode cX3_init 25 = .ok (.putfield 18, 3) := by decide +kernel
theorem dX3_init_28 : decode cX3_init 28 = .ok (.aload_n 0, 1) := by decide +kernel
theorem dX3_init_29 : decode cX3_init 29 = .ok (.bipush 8, 2) := by decide +kernel
theorem dX3_init_31 : decode cX3_init 31 = .ok (.newarray .int, 2) := by decide +kernel
theorem dX3_init_33 : decode cX3_init 33 = .ok (.putfield 21, 3) := by decide +kernel
theorem dX3_init_36 : decode cX3_init 36 = .ok (.aload_n 0, 1) := by decide +kernel
theorem dX3_init_37 : decode cX3_init 37 = .ok (.bipush 32, 2) := by decide +kernel
theorem dX3_init_39 : decode cX3_init 39 = .ok (.newarray .int, 2) := by decide +kernel
theorem dX3_init_41 : decode cX3_init 41 = .ok (.putfield 24, 3) := by decide +kernel
theorem dX3_init_44 : decode cX3_init 44 = .ok (.iconst 0, 1) := by decide +kernel
theorem dX3_init_45 : decode cX3_init 45 = .ok (.istore_n 1, 1) := by decide +kernel
theorem dX3_init_46 : decode cX3_init 46 = .ok (.iload_n 1, 1) := by decide +kernel
theorem dX3_init_47 : decode cX3_init 47 = .ok (.bipush 40, 2) := by decide +kernel
theorem dX3_init_49 : decode cX3_init 49 = .ok (.if_icmp .ge 16, 3) := by decide +kernel
theorem dX3_init_52 : decode cX3_init 52 = .ok (.aload_n 0, 1) := by decide +kernel
theorem dX3_init_53 : decode cX3_init 53 = .ok (.getfield 9, 3) := by decide +kernel
theorem dX3_init_56 : decode cX3_init 56 = .ok (.iload_n 1, 1) := by decide +kernel
theorem dX3_init_57 : decode cX3_init 57 = .ok (.iconst 4, 1) := by decide +kernel
theorem dX3_init_58 : decode cX3_init 58 = .ok (.iastore, 1) := by decide +kernel
theorem dX3_init_59 : decode cX3_init 59 = .ok (.iinc 1 1, 3) := by decide +kernel
theorem dX3_init_62 : decode cX3_init 62 = .ok (.goto (-16), 3) := by decide +kernel
theorem dX3_init_65 : decode cX3_init 65 = .ok (.return_, 1) := by decide +kernel
theorem dX3_copyFrom_0 : decode cX3_copyFrom 0 = .ok (.aload_n 0, 1) := by decide +kernel
theorem dX3_copyFrom_1 : decode cX3_copyFrom 1 = .ok (.aload_n 1, 1) := by decide +kernel
theorem dX3_copyFrom_2 : decode cX3_copyFrom 2 = .ok (.getfield 27, 3) := by decide +kernel
theorem dX3_copyFrom_5 : decode cX3_copyFrom 5 = .ok (.putfield 27, 3) := by decide +kernel
theorem dX3_copyFrom_8 : decode cX3_copyFrom 8 = .ok (.aload_n 0, 1) := by decide +kernel
theorem dX3_copyFrom_9 : decode cX3_copyFrom 9 = .ok (.aload_n 1, 1) := by decide +kernel
theorem dX3_copyFrom_10 : decode cX3_copyFrom 10 = .ok (.getfield 31, 3) := by decide +kernel
theorem dX3_copyFrom_13 : decode cX3_copyFrom 13 = .ok (.putfield 31, 3) := by decide +kernel
theorem dX3_copyFrom_16 : decode cX3_copyFrom 16 = .ok (.aload_n 1, 1) := by decide +kernel
theorem dX3_copyFrom_17 : decode cX3_copyFrom 17 = .ok (.getfield 9, 3) := by decide +kernel
theorem dX3_copyFrom_20 : decode cX3_copyFrom 20 = .ok (.aload_n 0, 1) := by decide +kernel
theorem dX3_copyFrom_21 : decode cX3_copyFrom 21 = .ok (.getfield 9, 3) := by decide +kernel
theorem dX3_copyFrom_24 : decode cX3_copyFrom 24 = .ok (.invokestatic 34, 3) := by decide +kernel
theorem dX3_copyFrom_27 : decode cX3_copyFrom 27 = .ok (.aload_n 1, 1) := by decide +kernel
theorem dX3_copyFrom_28 : decode cX3_copyFrom 28 = .ok (.getfield 15, 3) := by decide +kernel
theorem dX3_copyFrom_31 : decode cX3_copyFrom 31 = .ok (.aload_n 0, 1) := by decide +kernel
theorem dX3_copyFrom_32 : decode cX3_copyFrom 32 = .ok (.getfield 15, 3) := by decide +kernel
theorem dX3_copyFrom_35 : decode cX3_copyFrom 35 = .ok (.invokestatic 34, 3) := by decide +kernel
theorem dX3_copyFrom_38 : decode cX3_copyFrom 38 = .ok (.aload_n 1, 1) := by decide +kernel
theorem dX3_copyFrom_39 : decode cX3_copyFrom 39 = .ok (.getfield 18, 3) := by decide +kernel
theorem dX3_copyFrom_42 : decode cX3_copyFrom 42 = .ok (.aload_n 0, 1) := by decide +kernel
theorem dX3_copyFrom_43 : decode cX3_copyFrom 43 = .ok (.getfield 18, 3) := by decide +kernel
theorem dX3_copyFrom_46 : decode cX3_copyFrom 46 = .ok (.invokestatic 34, 3) := by decide +kernel
theorem dX3_copyFrom_49 : decode cX3_copyFrom 49 = .ok (.aload_n 1, 1) := by decide +kernel
theorem dX3_copyFrom_50 : decode cX3_copyFrom 50 = .ok (.getfield 21, 3) := by decide +kernel
theorem dX3_copyFrom_53 : decode cX3_copyFrom 53 = .ok (.aload_n 0, 1) := by decide +kernel
theorem dX3_copyFrom_54 : decode cX3_copyFrom 54 = .ok (.getfield 21, 3) := by decide +kernel
theorem dX3_copyFrom_57 : decode cX3_copyFrom 57 = .ok (.invokestatic 34, 3) := by decide +kernel
theorem dX3_copyFrom_60 : decode cX3_copyFrom 60 = .ok (.aload_n 1, 1) := by decide +kernel
theorem dX3_copyFrom_61 : decode cX3_copyFrom 61 = .ok (.getfield 24, 3) := by decide +kernel
theorem dX3_copyFrom_64 : decode cX3_copyFrom 64 = .ok (.aload_n 0, 1) := by decide +kernel
theorem dX3_copyFrom_65 : decode cX3_copyFrom 65 = .ok (.getfield 24, 3) := by decide +kernel
theorem dX3_copyFrom_68 : decode cX3_copyFrom 68 = .ok (.invokestatic 34, 3) := by decide +kernel
theorem dX3_copyFrom_71 : decode cX3_copyFrom 71 = .ok (.return_, 1) := by decide +kernel
theorem dX3_grow_0 : decode cX3_grow 0 = .ok (.aload_n 0, 1) := by decide +kernel
theorem dX3_grow_1 : decode cX3_grow 1 = .ok (.getfield 31, 3) := by decide +kernel
theorem dX3_grow_4 : decode cX3_grow 4 = .ok (.istore_n 3, 1) := by decide +kernel
theorem dX3_grow_5 : decode cX3_grow 5 = .ok (.iload_n 3, 1) := by decide +kernel
theorem dX3_grow_6 : decode cX3_grow 6 = .ok (.ifCond .le 12, 3) := by decide +kernel
theorem dX3_grow_9 : decode cX3_grow 9 = .ok (.aload_n 0, 1) := by decide +kernel
theorem dX3_grow_10 : decode cX3_grow 10 = .ok (.getfield 15, 3) := by decide +kernel
theorem dX3_grow_13 : decode cX3_grow 13 = .ok (.iload_n 3, 1) := by decide +kernel
theorem dX3_grow_14 : decode cX3_grow 14 = .ok (.iconst 1, 1) := by decide +kernel
theorem dX3_grow_15 : decode cX3_grow 15 = .ok (.isub, 1) := by decide +kernel
theorem dX3_grow_16 : decode cX3_grow 16 = .ok (.iload_n 1, 1) := by decide +kernel
theorem dX3_grow_17 : decode cX3_grow 17 = .ok (.iastore, 1) := by decide +kernel
theorem dX3_grow_18 : decode cX3_grow 18 = .ok (.aload_n 0, 1) := by decide +kernel
theorem dX3_grow_19 : decode cX3_grow 19 = .ok (.getfield 21, 3) := by decide +kernel
theorem dX3_grow_22 : decode cX3_grow 22 = .ok (.iload_n 3, 1) := by decide +kernel
theorem dX3_grow_23 : decode cX3_grow 23 = .ok (.iload_n 2, 1) := by decide +kernel
theorem dX3_grow_24 : decode cX3_grow 24 = .ok (.iastore, 1) := by decide +kernel
theorem dX3_grow_25 : decode cX3_grow 25 = .ok (.aload_n 0, 1) := by decide +kernel
theorem dX3_grow_26 : decode cX3_grow 26 = .ok (.iload_n 3, 1) := by decide +kernel
theorem dX3_grow_27 : decode cX3_grow 27 = .ok (.iconst 1, 1) := by decide +kernel
theorem dX3_grow_28 : decode cX3_grow 28 = .ok (.iadd, 1) := by decide +kernel
theorem dX3_grow_29 : decode cX3_grow 29 = .ok (.putfield 31, 3) := by decide +kernel
theorem dX3_grow_32 : decode cX3_grow 32 = .ok (.iload_n 3, 1) := by decide +kernel
theorem dX3_grow_33 : decode cX3_grow 33 = .ok (.ireturn, 1) := by decide +kernel
theorem dX3_legs_0 : decode cX3_legs 0 = .ok (.iconst 0, 1) := by decide +kernel
theorem dX3_legs_1 : decode cX3_legs 1 = .ok (.aload_n 0, 1) := by decide +kernel
theorem dX3_legs_2 : decode cX3_legs 2 = .ok (.getfield 31, 3) := by decide +kernel
theorem dX3_legs_5 : decode cX3_legs 5 = .ok (.iconst 1, 1) := by decide +kernel
theorem dX3_legs_6 : decode cX3_legs 6 = .ok (.isub, 1) := by decide +kernel
theorem dX3_legs_7 : decode cX3_legs 7 = .ok (.invokestatic 38, 3) := by decide +kernel
theorem dX3_legs_10 : decode cX3_legs 10 = .ok (.ireturn, 1) := by decide +kernel
theorem dX3_isOpen_0 : decode cX3_isOpen 0 = .ok (.aload_n 0, 1) := by decide +kernel
theorem dX3_isOpen_1 : decode cX3_isOpen 1 = .ok (.getfield 18, 3) := by decide +kernel
theorem dX3_isOpen_4 : decode cX3_isOpen 4 = .ok (.iload_n 1, 1) := by decide +kernel
theorem dX3_isOpen_5 : decode cX3_isOpen 5 = .ok (.iaload, 1) := by decide +kernel
theorem dX3_isOpen_6 : decode cX3_isOpen 6 = .ok (.bipush 10, 2) := by decide +kernel
theorem dX3_isOpen_8 : decode cX3_isOpen 8 = .ok (.if_icmp .gt 7, 3) := by decide +kernel
theorem dX3_isOpen_11 : decode cX3_isOpen 11 = .ok (.iconst 1, 1) := by decide +kernel
theorem dX3_isOpen_12 : decode cX3_isOpen 12 = .ok (.goto 4, 3) := by decide +kernel
theorem dX3_isOpen_15 : decode cX3_isOpen 15 = .ok (.iconst 0, 1) := by decide +kernel
theorem dX3_isOpen_16 : decode cX3_isOpen 16 = .ok (.ireturn, 1) := by decide +kernel
theorem dX3_openLegs_0 : decode cX3_openLegs 0 = .ok (.iconst 0, 1) := by decide +kernel
theorem dX3_openLegs_1 : decode cX3_openLegs 1 = .ok (.istore_n 1, 1) := by decide +kernel
theorem dX3_openLegs_2 : decode cX3_openLegs 2 = .ok (.iconst 0, 1) := by decide +kernel
theorem dX3_openLegs_3 : decode cX3_openLegs 3 = .ok (.istore_n 2, 1) := by decide +kernel
theorem dX3_openLegs_4 : decode cX3_openLegs 4 = .ok (.iload_n 2, 1) := by decide +kernel
theorem dX3_openLegs_5 : decode cX3_openLegs 5 = .ok (.aload_n 0, 1) := by decide +kernel
theorem dX3_openLegs_6 : decode cX3_openLegs 6 = .ok (.invokevirtual 44, 3) := by decide +kernel
theorem dX3_openLegs_9 : decode cX3_openLegs 9 = .ok (.if_icmp .ge 20, 3) := by decide +kernel
theorem dX3_openLegs_12 : decode cX3_openLegs 12 = .ok (.aload_n 0, 1) := by decide +kernel
theorem dX3_openLegs_13 : decode cX3_openLegs 13 = .ok (.iload_n 2, 1) := by decide +kernel
theorem dX3_openLegs_14 : decode cX3_openLegs 14 = .ok (.invokevirtual 48, 3) := by decide +kernel
theorem dX3_openLegs_17 : decode cX3_openLegs 17 = .ok (.ifCond .eq 6, 3) := by decide +kernel
theorem dX3_openLegs_20 : decode cX3_openLegs 20 = .ok (.iinc 1 1, 3) := by decide +kernel
theorem dX3_openLegs_23 : decode cX3_openLegs 23 = .ok (.iinc 2 1, 3) := by decide +kernel
theorem dX3_openLegs_26 : decode cX3_openLegs 26 = .ok (.goto (-22), 3) := by decide +kernel
theorem dX3_openLegs_29 : decode cX3_openLegs 29 = .ok (.iload_n 1, 1) := by decide +kernel
theorem dX3_openLegs_30 : decode cX3_openLegs 30 = .ok (.ireturn, 1) := by decide +kernel
theorem dX3_iceAtHarbour_0 : decode cX3_iceAtHarbour 0 = .ok (.iload_n 1, 1) := by decide +kernel
theorem dX3_iceAtHarbour_1 : decode cX3_iceAtHarbour 1 = .ok (.aload_n 0, 1) := by decide +kernel
theorem dX3_iceAtHarbour_2 : decode cX3_iceAtHarbour 2 = .ok (.invokevirtual 44, 3) := by decide +kernel
theorem dX3_iceAtHarbour_5 : decode cX3_iceAtHarbour 5 = .ok (.iconst 1, 1) := by decide +kernel
theorem dX3_iceAtHarbour_6 : decode cX3_iceAtHarbour 6 = .ok (.isub, 1) := by decide +kernel
theorem dX3_iceAtHarbour_7 : decode cX3_iceAtHarbour 7 = .ok (.invokestatic 52, 3) := by decide +kernel
theorem dX3_iceAtHarbour_10 : decode cX3_iceAtHarbour 10 = .ok (.istore_n 2, 1) := by decide +kernel
theorem dX3_iceAtHarbour_11 : decode cX3_iceAtHarbour 11 = .ok (.iload_n 2, 1) := by decide +kernel
theorem dX3_iceAtHarbour_12 : decode cX3_iceAtHarbour 12 = .ok (.ifCond .ge 7, 3) := by decide +kernel
theorem dX3_iceAtHarbour_15 : decode cX3_iceAtHarbour 15 = .ok (.iconst 0, 1) := by decide +kernel
theorem dX3_iceAtHarbour_16 : decode cX3_iceAtHarbour 16 = .ok (.goto 9, 3) := by decide +kernel
theorem dX3_iceAtHarbour_19 : decode cX3_iceAtHarbour 19 = .ok (.aload_n 0, 1) := by decide +kernel
theorem dX3_iceAtHarbour_20 : decode cX3_iceAtHarbour 20 = .ok (.getfield 18, 3) := by decide +kernel
theorem dX3_iceAtHarbour_23 : decode cX3_iceAtHarbour 23 = .ok (.iload_n 2, 1) := by decide +kernel
theorem dX3_iceAtHarbour_24 : decode cX3_iceAtHarbour 24 = .ok (.iaload, 1) := by decide +kernel
theorem dX3_iceAtHarbour_25 : decode cX3_iceAtHarbour 25 = .ok (.ireturn, 1) := by decide +kernel
theorem dX3_warmOn_0 : decode cX3_warmOn 0 = .ok (.aload_n 0, 1) := by decide +kernel
theorem dX3_warmOn_1 : decode cX3_warmOn 1 = .ok (.getfield 9, 3) := by decide +kernel
theorem dX3_warmOn_4 : decode cX3_warmOn 4 = .ok (.iload_n 1, 1) := by decide +kernel
theorem dX3_warmOn_5 : decode cX3_warmOn 5 = .ok (.bipush 40, 2) := by decide +kernel
theorem dX3_warmOn_7 : decode cX3_warmOn 7 = .ok (.invokestatic 55, 3) := by decide +kernel
theorem dX3_warmOn_10 : decode cX3_warmOn 10 = .ok (.iaload, 1) := by decide +kernel
theorem dX3_warmOn_11 : decode cX3_warmOn 11 = .ok (.ireturn, 1) := by decide +kernel
theorem dX3_freezeOrThaw_0 : decode cX3_freezeOrThaw 0 = .ok (.aload_n 0, 1) := by decide +kernel
theorem dX3_freezeOrThaw_1 : decode cX3_freezeOrThaw 1 = .ok (.aload_n 0, 1) := by decide +kernel
theorem dX3_freezeOrThaw_2 : decode cX3_freezeOrThaw 2 = .ok (.getfield 27, 3) := by decide +kernel
theorem dX3_freezeOrThaw_5 : decode cX3_freezeOrThaw 5 = .ok (.invokevirtual 58, 3) := by decide +kernel
theorem dX3_freezeOrThaw_8 : decode cX3_freezeOrThaw 8 = .ok (.istore_n 1, 1) := by decide +kernel
theorem dX3_freezeOrThaw_9 : decode cX3_freezeOrThaw 9 = .ok (.iconst 0, 1) := by decide +kernel
theorem dX3_freezeOrThaw_10 : decode cX3_freezeOrThaw 10 = .ok (.istore_n 2, 1) := by decide +kernel
theorem dX3_freezeOrThaw_11 : decode cX3_freezeOrThaw 11 = .ok (.iload_n 2, 1) := by decide +kernel
theorem dX3_freezeOrThaw_12 : decode cX3_freezeOrThaw 12 = .ok (.aload_n 0, 1) := by decide +kernel
theorem dX3_freezeOrThaw_13 : decode cX3_freezeOrThaw 13 = .ok (.invokevirtual 44, 3) := by decide +kernel
theorem dX3_freezeOrThaw_16 : decode cX3_freezeOrThaw 16 = .ok (.if_icmp .ge 25, 3) := by decide +kernel
theorem dX3_freezeOrThaw_19 : decode cX3_freezeOrThaw 19 = .ok (.aload_n 0, 1) := by decide +kernel
theorem dX3_freezeOrThaw_20 : decode cX3_freezeOrThaw 20 = .ok (.getfield 18, 3) := by decide +kernel
theorem dX3_freezeOrThaw_23 : decode cX3_freezeOrThaw 23 = .ok (.iload_n 2, 1) := by decide +kernel
theorem dX3_freezeOrThaw_24 : decode cX3_freezeOrThaw 24 = .ok (.aload_n 0, 1) := by decide +kernel
theorem dX3_freezeOrThaw_25 : decode cX3_freezeOrThaw 25 = .ok (.getfield 18, 3) := by decide +kernel
theorem dX3_freezeOrThaw_28 : decode cX3_freezeOrThaw 28 = .ok (.iload_n 2, 1) := by decide +kernel
theorem dX3_freezeOrThaw_29 : decode cX3_freezeOrThaw 29 = .ok (.iaload, 1) := by decide +kernel
theorem dX3_freezeOrThaw_30 : decode cX3_freezeOrThaw 30 = .ok (.iload_n 1, 1) := by decide +kernel
theorem dX3_freezeOrThaw_31 : decode cX3_freezeOrThaw 31 = .ok (.invokestatic 62, 3) := by decide +kernel
theorem dX3_freezeOrThaw_34 : decode cX3_freezeOrThaw 34 = .ok (.iastore, 1) := by decide +kernel
theorem dX3_freezeOrThaw_35 : decode cX3_freezeOrThaw 35 = .ok (.iinc 2 1, 3) := by decide +kernel
theorem dX3_freezeOrThaw_38 : decode cX3_freezeOrThaw 38 = .ok (.goto (-27), 3) := by decide +kernel
theorem dX3_freezeOrThaw_41 : decode cX3_freezeOrThaw 41 = .ok (.return_, 1) := by decide +kernel
theorem dX3_daysOver_0 : decode cX3_daysOver 0 = .ok (.iload_n 2, 1) := by decide +kernel
theorem dX3_daysOver_1 : decode cX3_daysOver 1 = .ok (.ifCond .eq 12, 3) := by decide +kernel
theorem dX3_daysOver_4 : decode cX3_daysOver 4 = .ok (.aload_n 0, 1) := by decide +kernel
theorem dX3_daysOver_5 : decode cX3_daysOver 5 = .ok (.getfield 15, 3) := by decide +kernel
theorem dX3_daysOver_8 : decode cX3_daysOver 8 = .ok (.iload_n 1, 1) := by decide +kernel
theorem dX3_daysOver_9 : decode cX3_daysOver 9 = .ok (.iaload, 1) := by decide +kernel
theorem dX3_daysOver_10 : decode cX3_daysOver 10 = .ok (.goto 11, 3) := by decide +kernel
theorem dX3_daysOver_13 : decode cX3_daysOver 13 = .ok (.iconst 2, 1) := by decide +kernel
theorem dX3_daysOver_14 : decode cX3_daysOver 14 = .ok (.aload_n 0, 1) := by decide +kernel
theorem dX3_daysOver_15 : decode cX3_daysOver 15 = .ok (.getfield 15, 3) := by decide +kernel
theorem dX3_daysOver_18 : decode cX3_daysOver 18 = .ok (.iload_n 1, 1) := by decide +kernel
theorem dX3_daysOver_19 : decode cX3_daysOver 19 = .ok (.iaload, 1) := by decide +kernel
theorem dX3_daysOver_20 : decode cX3_daysOver 20 = .ok (.imul, 1) := by decide +kernel
theorem dX3_daysOver_21 : decode cX3_daysOver 21 = .ok (.ireturn, 1) := by decide +kernel
theorem dX3_wayDays_0 : decode cX3_wayDays 0 = .ok (.iconst 0, 1) := by decide +kernel
theorem dX3_wayDays_1 : decode cX3_wayDays 1 = .ok (.istore_n 3, 1) := by decide +kernel
theorem dX3_wayDays_2 : decode cX3_wayDays 2 = .ok (.iload_n 1, 1) := by decide +kernel
theorem dX3_wayDays_3 : decode cX3_wayDays 3 = .ok (.istore 4, 2) := by decide +kernel
theorem dX3_wayDays_5 : decode cX3_wayDays 5 = .ok (.iload 4, 2) := by decide +kernel
theorem dX3_wayDays_7 : decode cX3_wayDays 7 = .ok (.iload_n 2, 1) := by decide +kernel
theorem dX3_wayDays_8 : decode cX3_wayDays 8 = .ok (.if_icmp .ge 19, 3) := by decide +kernel
theorem dX3_wayDays_11 : decode cX3_wayDays 11 = .ok (.iload_n 3, 1) := by decide +kernel
theorem dX3_wayDays_12 : decode cX3_wayDays 12 = .ok (.aload_n 0, 1) := by decide +kernel
theorem dX3_wayDays_13 : decode cX3_wayDays 13 = .ok (.iload 4, 2) := by decide +kernel
theorem dX3_wayDays_15 : decode cX3_wayDays 15 = .ok (.iconst 1, 1) := by decide +kernel
theorem dX3_wayDays_16 : decode cX3_wayDays 16 = .ok (.invokevirtual 65, 3) := by decide +kernel
theorem dX3_wayDays_19 : decode cX3_wayDays 19 = .ok (.iadd, 1) := by decide +kernel
theorem dX3_wayDays_20 : decode cX3_wayDays 20 = .ok (.istore_n 3, 1) := by decide +kernel
theorem dX3_wayDays_21 : decode cX3_wayDays 21 = .ok (.iinc 4 1, 3) := by decide +kernel
theorem dX3_wayDays_24 : decode cX3_wayDays 24 = .ok (.goto (-19), 3) := by decide +kernel
theorem dX3_wayDays_27 : decode cX3_wayDays 27 = .ok (.iload_n 2, 1) := by decide +kernel
theorem dX3_wayDays_28 : decode cX3_wayDays 28 = .ok (.istore 4, 2) := by decide +kernel
theorem dX3_wayDays_30 : decode cX3_wayDays 30 = .ok (.iload 4, 2) := by decide +kernel
theorem dX3_wayDays_32 : decode cX3_wayDays 32 = .ok (.iload_n 1, 1) := by decide +kernel
theorem dX3_wayDays_33 : decode cX3_wayDays 33 = .ok (.if_icmp .ge 19, 3) := by decide +kernel
theorem dX3_wayDays_36 : decode cX3_wayDays 36 = .ok (.iload_n 3, 1) := by decide +kernel
theorem dX3_wayDays_37 : decode cX3_wayDays 37 = .ok (.aload_n 0, 1) := by decide +kernel
theorem dX3_wayDays_38 : decode cX3_wayDays 38 = .ok (.iload 4, 2) := by decide +kernel
theorem dX3_wayDays_40 : decode cX3_wayDays 40 = .ok (.iconst 0, 1) := by decide +kernel
theorem dX3_wayDays_41 : decode cX3_wayDays 41 = .ok (.invokevirtual 65, 3) := by decide +kernel
theorem dX3_wayDays_44 : decode cX3_wayDays 44 = .ok (.iadd, 1) := by decide +kernel
theorem dX3_wayDays_45 : decode cX3_wayDays 45 = .ok (.istore_n 3, 1) := by decide +kernel
theorem dX3_wayDays_46 : decode cX3_wayDays 46 = .ok (.iinc 4 1, 3) := by decide +kernel
theorem dX3_wayDays_49 : decode cX3_wayDays 49 = .ok (.goto (-19), 3) := by decide +kernel
theorem dX3_wayDays_52 : decode cX3_wayDays 52 = .ok (.iload_n 3, 1) := by decide +kernel
theorem dX3_wayDays_53 : decode cX3_wayDays 53 = .ok (.ireturn, 1) := by decide +kernel
theorem dX4_init_0 : decode cX4_init 0 = .ok (.aload_n 0, 1) := by decide +kernel
theorem dX4_init_1 : decode cX4_init 1 = .ok (.invokespecial 3, 3) := by decide +kernel
theorem dX4_init_4 : decode cX4_init 4 = .ok (.aload_n 0, 1) := by decide +kernel
theorem dX4_init_5 : decode cX4_init 5 = .ok (.new 9, 3) := by decide +kernel
theorem dX4_init_8 : decode cX4_init 8 = .ok (.dup, 1) := by decide +kernel
theorem dX4_init_9 : decode cX4_init 9 = .ok (.invokespecial 11, 3) := by decide +kernel
theorem dX4_init_12 : decode cX4_init 12 = .ok (.putfield 12, 3) := by decide +kernel
theorem dX4_init_15 : decode cX4_init 15 = .ok (.aload_n 0, 1) := by decide +kernel
theorem dX4_init_16 : decode cX4_init 16 = .ok (.iconst 5, 1) := by decide +kernel
theorem dX4_init_17 : decode cX4_init 17 = .ok (.anewarray 18, 3) := by decide +kernel
theorem dX4_init_20 : decode cX4_init 20 = .ok (.putfield 20, 3) := by decide +kernel
theorem dX4_init_23 : decode cX4_init 23 = .ok (.aload_n 0, 1) := by decide +kernel
theorem dX4_init_24 : decode cX4_init 24 = .ok (.bipush 10, 2) := by decide +kernel
theorem dX4_init_26 : decode cX4_init 26 = .ok (.anewarray 24, 3) := by decide +kernel
theorem dX4_init_29 : decode cX4_init 29 = .ok (.putfield 26, 3) := by decide +kernel
theorem dX4_init_32 : decode cX4_init 32 = .ok (.aload_n 0, 1) := by decide +kernel
theorem dX4_init_33 : decode cX4_init 33 = .ok (.bipush 30, 2) := by decide +kernel
theorem dX4_init_35 : decode cX4_init 35 = .ok (.anewarray 30, 3) := by decide +kernel
theorem dX4_init_38 : decode cX4_init 38 = .ok (.putfield 32, 3) := by decide +kernel
theorem dX4_init_41 : decode cX4_init 41 = .ok (.iconst 0, 1) := by decide +kernel
theorem dX4_init_42 : decode cX4_init 42 = .ok (.istore_n 1, 1) := by decide +kernel
theorem dX4_init_43 : decode cX4_init 43 = .ok (.iload_n 1, 1) := by decide +kernel
theorem dX4_init_44 : decode cX4_init 44 = .ok (.iconst 5, 1) := by decide +kernel
theorem dX4_init_45 : decode cX4_init 45 = .ok (.if_icmp .ge 22, 3) := by decide +kernel
theorem dX4_init_48 : decode cX4_init 48 = .ok (.aload_n 0, 1) := by decide +kernel
theorem dX4_init_49 : decode cX4_init 49 = .ok (.getfield 20, 3) := by decide +kernel
theorem dX4_init_52 : decode cX4_init 52 = .ok (.iload_n 1, 1) := by decide +kernel
theorem dX4_init_53 : decode cX4_init 53 = .ok (.new 18, 3) := by decide +kernel
theorem dX4_init_56 : decode cX4_init 56 = .ok (.dup, 1) := by decide +kernel
theorem dX4_init_57 : decode cX4_init 57 = .ok (.invokespecial 36, 3) := by decide +kernel
theorem dX4_init_60 : decode cX4_init 60 = .ok (.aastore, 1) := by decide +kernel
theorem dX4_init_61 : decode cX4_init 61 = .ok (.iinc 1 1, 3) := by decide +kernel
theorem dX4_init_64 : decode cX4_init 64 = .ok (.goto (-21), 3) := by decide +kernel
theorem dX4_init_67 : decode cX4_init 67 = .ok (.iconst 0, 1) := by decide +kernel
theorem dX4_init_68 : decode cX4_init 68 = .ok (.istore_n 1, 1) := by decide +kernel
theorem dX4_init_69 : decode cX4_init 69 = .ok (.iload_n 1, 1) := by decide +kernel
theorem dX4_init_70 : decode cX4_init 70 = .ok (.bipush 10, 2) := by decide +kernel
theorem dX4_init_72 : decode cX4_init 72 = .ok (.if_icmp .ge 22, 3) := by decide +kernel
theorem dX4_init_75 : decode cX4_init 75 = .ok (.aload_n 0, 1) := by decide +kernel
theorem dX4_init_76 : decode cX4_init 76 = .ok (.getfield 26, 3) := by decide +kernel
theorem dX4_init_79 : decode cX4_init 79 = .ok (.iload_n 1, 1) := by decide +kernel
theorem dX4_init_80 : decode cX4_init 80 = .ok (.new 24, 3) := by decide +kernel
theorem dX4_init_83 : decode cX4_init 83 = .ok (.dup, 1) := by decide +kernel
theorem dX4_init_84 : decode cX4_init 84 = .ok (.invokespecial 37, 3) := by decide +kernel
theorem dX4_init_87 : decode cX4_init 87 = .ok (.aastore, 1) := by decide +kernel
theorem dX4_init_88 : decode cX4_init 88 = .ok (.iinc 1 1, 3) := by decide +kernel
theorem dX4_init_91 : decode cX4_init 91 = .ok (.goto (-22), 3) := by decide +kernel
theorem dX4_init_94 : decode cX4_init 94 = .ok (.iconst 0, 1) := by decide +kernel
theorem dX4_init_95 : decode cX4_init 95 = .ok (.istore_n 1, 1) := by decide +kernel
theorem dX4_init_96 : decode cX4_init 96 = .ok (.iload_n 1, 1) := by decide +kernel
theorem dX4_init_97 : decode cX4_init 97 = .ok (.bipush 30, 2) := by decide +kernel
theorem dX4_init_99 : decode cX4_init 99 = .ok (.if_icmp .ge 22, 3) := by decide +kernel
theorem dX4_init_102 : decode cX4_init 102 = .ok (.aload_n 0, 1) := by decide +kernel
theorem dX4_init_103 : decode cX4_init 103 = .ok (.getfield 32, 3) := by decide +kernel
theorem dX4_init_106 : decode cX4_init 106 = .ok (.iload_n 1, 1) := by decide +kernel
theorem dX4_init_107 : decode cX4_init 107 = .ok (.new 30, 3) := by decide +kernel
theorem dX4_init_110 : decode cX4_init 110 = .ok (.dup, 1) := by decide +kernel
theorem dX4_init_111 : decode cX4_init 111 = .ok (.invokespecial 38, 3) := by decide +kernel
theorem dX4_init_114 : decode cX4_init 114 = .ok (.aastore, 1) := by decide +kernel
theorem dX4_init_115 : decode cX4_init 115 = .ok (.iinc 1 1, 3) := by decide +kernel
theorem dX4_init_118 : decode cX4_init 118 = .ok (.goto (-22), 3) := by decide +kernel
theorem dX4_init_121 : decode cX4_init 121 = .ok (.return_, 1) := by decide +kernel
theorem dX4_copyFrom_0 : decode cX4_copyFrom 0 = .ok (.aload_n 0, 1) := by decide +kernel
theorem dX4_copyFrom_1 : decode cX4_copyFrom 1 = .ok (.getfield 12, 3) := by decide +kernel
theorem dX4_copyFrom_4 : decode cX4_copyFrom 4 = .ok (.aload_n 1, 1) := by decide +kernel
theorem dX4_copyFrom_5 : decode cX4_copyFrom 5 = .ok (.getfield 12, 3) := by decide +kernel
theorem dX4_copyFrom_8 : decode cX4_copyFrom 8 = .ok (.invokevirtual 39, 3) := by decide +kernel
theorem dX4_copyFrom_11 : decode cX4_copyFrom 11 = .ok (.aload_n 0, 1) := by decide +kernel
theorem dX4_copyFrom_12 : decode cX4_copyFrom 12 = .ok (.aload_n 1, 1) := by decide +kernel
theorem dX4_copyFrom_13 : decode cX4_copyFrom 13 = .ok (.getfield 43, 3) := by decide +kernel
theorem dX4_copyFrom_16 : decode cX4_copyFrom 16 = .ok (.putfield 43, 3) := by decide +kernel
theorem dX4_copyFrom_19 : decode cX4_copyFrom 19 = .ok (.aload_n 0, 1) := by decide +kernel
theorem dX4_copyFrom_20 : decode cX4_copyFrom 20 = .ok (.aload_n 1, 1) := by decide +kernel
theorem dX4_copyFrom_21 : decode cX4_copyFrom 21 = .ok (.getfield 47, 3) := by decide +kernel
theorem dX4_copyFrom_24 : decode cX4_copyFrom 24 = .ok (.putfield 47, 3) := by decide +kernel
theorem dX4_copyFrom_27 : decode cX4_copyFrom 27 = .ok (.aload_n 0, 1) := by decide +kernel
theorem dX4_copyFrom_28 : decode cX4_copyFrom 28 = .ok (.aload_n 1, 1) := by decide +kernel
theorem dX4_copyFrom_29 : decode cX4_copyFrom 29 = .ok (.getfield 50, 3) := by decide +kernel
theorem dX4_copyFrom_32 : decode cX4_copyFrom 32 = .ok (.putfield 50, 3) := by decide +kernel
theorem dX4_copyFrom_35 : decode cX4_copyFrom 35 = .ok (.iconst 0, 1) := by decide +kernel
theorem dX4_copyFrom_36 : decode cX4_copyFrom 36 = .ok (.istore_n 2, 1) := by decide +kernel
theorem dX4_copyFrom_37 : decode cX4_copyFrom 37 = .ok (.iload_n 2, 1) := by decide +kernel
theorem dX4_copyFrom_38 : decode cX4_copyFrom 38 = .ok (.aload_n 0, 1) := by decide +kernel
theorem dX4_copyFrom_39 : decode cX4_copyFrom 39 = .ok (.getfield 43, 3) := by decide +kernel
theorem dX4_copyFrom_42 : decode cX4_copyFrom 42 = .ok (.if_icmp .ge 24, 3) := by decide +kernel
theorem dX4_copyFrom_45 : decode cX4_copyFrom 45 = .ok (.aload_n 0, 1) := by decide +kernel
theorem dX4_copyFrom_46 : decode cX4_copyFrom 46 = .ok (.getfield 20, 3) := by decide +kernel
theorem dX4_copyFrom_49 : decode cX4_copyFrom 49 = .ok (.iload_n 2, 1) := by decide +kernel
theorem dX4_copyFrom_50 : decode cX4_copyFrom 50 = .ok (.aaload, 1) := by decide +kernel
theorem dX4_copyFrom_51 : decode cX4_copyFrom 51 = .ok (.aload_n 1, 1) := by decide +kernel
theorem dX4_copyFrom_52 : decode cX4_copyFrom 52 = .ok (.getfield 20, 3) := by decide +kernel
theorem dX4_copyFrom_55 : decode cX4_copyFrom 55 = .ok (.iload_n 2, 1) := by decide +kernel
theorem dX4_copyFrom_56 : decode cX4_copyFrom 56 = .ok (.aaload, 1) := by decide +kernel
theorem dX4_copyFrom_57 : decode cX4_copyFrom 57 = .ok (.invokevirtual 53, 3) := by decide +kernel
theorem dX4_copyFrom_60 : decode cX4_copyFrom 60 = .ok (.iinc 2 1, 3) := by decide +kernel
theorem dX4_copyFrom_63 : decode cX4_copyFrom 63 = .ok (.goto (-26), 3) := by decide +kernel
theorem dX4_copyFrom_66 : decode cX4_copyFrom 66 = .ok (.iconst 0, 1) := by decide +kernel
theorem dX4_copyFrom_67 : decode cX4_copyFrom 67 = .ok (.istore_n 2, 1) := by decide +kernel
theorem dX4_copyFrom_68 : decode cX4_copyFrom 68 = .ok (.iload_n 2, 1) := by decide +kernel
theorem dX4_copyFrom_69 : decode cX4_copyFrom 69 = .ok (.aload_n 0, 1) := by decide +kernel
theorem dX4_copyFrom_70 : decode cX4_copyFrom 70 = .ok (.getfield 47, 3) := by decide +kernel
theorem dX4_copyFrom_73 : decode cX4_copyFrom 73 = .ok (.if_icmp .ge 24, 3) := by decide +kernel
theorem dX4_copyFrom_76 : decode cX4_copyFrom 76 = .ok (.aload_n 0, 1) := by decide +kernel
theorem dX4_copyFrom_77 : decode cX4_copyFrom 77 = .ok (.getfield 26, 3) := by decide +kernel
theorem dX4_copyFrom_80 : decode cX4_copyFrom 80 = .ok (.iload_n 2, 1) := by decide +kernel
theorem dX4_copyFrom_81 : decode cX4_copyFrom 81 = .ok (.aaload, 1) := by decide +kernel
theorem dX4_copyFrom_82 : decode cX4_copyFrom 82 = .ok (.aload_n 1, 1) := by decide +kernel
theorem dX4_copyFrom_83 : decode cX4_copyFrom 83 = .ok (.getfield 26, 3) := by decide +kernel
theorem dX4_copyFrom_86 : decode cX4_copyFrom 86 = .ok (.iload_n 2, 1) := by decide +kernel
theorem dX4_copyFrom_87 : decode cX4_copyFrom 87 = .ok (.aaload, 1) := by decide +kernel
theorem dX4_copyFrom_88 : decode cX4_copyFrom 88 = .ok (.invokevirtual 56, 3) := by decide +kernel
theorem dX4_copyFrom_91 : decode cX4_copyFrom 91 = .ok (.iinc 2 1, 3) := by decide +kernel
theorem dX4_copyFrom_94 : decode cX4_copyFrom 94 = .ok (.goto (-26), 3) := by decide +kernel
theorem dX4_copyFrom_97 : decode cX4_copyFrom 97 = .ok (.iconst 0, 1) := by decide +kernel
theorem dX4_copyFrom_98 : decode cX4_copyFrom 98 = .ok (.istore_n 2, 1) := by decide +kernel
theorem dX4_copyFrom_99 : decode cX4_copyFrom 99 = .ok (.iload_n 2, 1) := by decide +kernel
theorem dX4_copyFrom_100 : decode cX4_copyFrom 100 = .ok (.aload_n 0, 1) := by decide +kernel
theorem dX4_copyFrom_101 : decode cX4_copyFrom 101 = .ok (.getfield 50, 3) := by decide +kernel
theorem dX4_copyFrom_104 : decode cX4_copyFrom 104 = .ok (.if_icmp .ge 24, 3) := by decide +kernel
theorem dX4_copyFrom_107 : decode cX4_copyFrom 107 = .ok (.aload_n 0, 1) := by decide +kernel
theorem dX4_copyFrom_108 : decode cX4_copyFrom 108 = .ok (.getfield 32, 3) := by decide +kernel
theorem dX4_copyFrom_111 : decode cX4_copyFrom 111 = .ok (.iload_n 2, 1) := by decide +kernel
theorem dX4_copyFrom_112 : decode cX4_copyFrom 112 = .ok (.aaload, 1) := by decide +kernel
theorem dX4_copyFrom_113 : decode cX4_copyFrom 113 = .ok (.aload_n 1, 1) := by decide +kernel
theorem dX4_copyFrom_114 : decode cX4_copyFrom 114 = .ok (.getfield 32, 3) := by decide +kernel
theorem dX4_copyFrom_117 : decode cX4_copyFrom 117 = .ok (.iload_n 2, 1) := by decide +kernel
theorem dX4_copyFrom_118 : decode cX4_copyFrom 118 = .ok (.aaload, 1) := by decide +kernel
theorem dX4_copyFrom_119 : decode cX4_copyFrom 119 = .ok (.invokevirtual 59, 3) := by decide +kernel
theorem dX4_copyFrom_122 : decode cX4_copyFrom 122 = .ok (.iinc 2 1, 3) := by decide +kernel
theorem dX4_copyFrom_125 : decode cX4_copyFrom 125 = .ok (.goto (-26), 3) := by decide +kernel
theorem dX4_copyFrom_128 : decode cX4_copyFrom 128 = .ok (.return_, 1) := by decide +kernel
theorem dX4_boatsIn_0 : decode cX4_boatsIn 0 = .ok (.iconst 0, 1) := by decide +kernel
theorem dX4_boatsIn_1 : decode cX4_boatsIn 1 = .ok (.istore_n 2, 1) := by decide +kernel
theorem dX4_boatsIn_2 : decode cX4_boatsIn 2 = .ok (.iconst 0, 1) := by decide +kernel
theorem dX4_boatsIn_3 : decode cX4_boatsIn 3 = .ok (.istore_n 3, 1) := by decide +kernel
theorem dX4_boatsIn_4 : decode cX4_boatsIn 4 = .ok (.iload_n 3, 1) := by decide +kernel
theorem dX4_boatsIn_5 : decode cX4_boatsIn 5 = .ok (.aload_n 0, 1) := by decide +kernel
theorem dX4_boatsIn_6 : decode cX4_boatsIn 6 = .ok (.getfield 47, 3) := by decide +kernel
theorem dX4_boatsIn_9 : decode cX4_boatsIn 9 = .ok (.if_icmp .ge 25, 3) := by decide +kernel
theorem dX4_boatsIn_12 : decode cX4_boatsIn 12 = .ok (.aload_n 0, 1) := by decide +kernel
theorem dX4_boatsIn_13 : decode cX4_boatsIn 13 = .ok (.getfield 26, 3) := by decide +kernel
theorem dX4_boatsIn_16 : decode cX4_boatsIn 16 = .ok (.iload_n 3, 1) := by decide +kernel
theorem dX4_boatsIn_17 : decode cX4_boatsIn 17 = .ok (.aaload, 1) := by decide +kernel
theorem dX4_boatsIn_18 : decode cX4_boatsIn 18 = .ok (.getfield 62, 3) := by decide +kernel
theorem dX4_boatsIn_21 : decode cX4_boatsIn 21 = .ok (.iload_n 1, 1) := by decide +kernel
theorem dX4_boatsIn_22 : decode cX4_boatsIn 22 = .ok (.if_icmp .ne 6, 3) := by decide +kernel
theorem dX4_boatsIn_25 : decode cX4_boatsIn 25 = .ok (.iinc 2 1, 3) := by decide +kernel
theorem dX4_boatsIn_28 : decode cX4_boatsIn 28 = .ok (.iinc 3 1, 3) := by decide +kernel
theorem dX4_boatsIn_31 : decode cX4_boatsIn 31 = .ok (.goto (-27), 3) := by decide +kernel
theorem dX4_boatsIn_34 : decode cX4_boatsIn 34 = .ok (.iload_n 2, 1) := by decide +kernel
theorem dX4_boatsIn_35 : decode cX4_boatsIn 35 = .ok (.ireturn, 1) := by decide +kernel
theorem dX4_boatsLying_0 : decode cX4_boatsLying 0 = .ok (.iconst 0, 1) := by decide +kernel
theorem dX4_boatsLying_1 : decode cX4_boatsLying 1 = .ok (.istore_n 3, 1) := by decide +kernel
theorem dX4_boatsLying_2 : decode cX4_boatsLying 2 = .ok (.iconst 0, 1) := by decide +kernel
theorem dX4_boatsLying_3 : decode cX4_boatsLying 3 = .ok (.istore 4, 2) := by decide +kernel
theorem dX4_boatsLying_5 : decode cX4_boatsLying 5 = .ok (.iload 4, 2) := by decide +kernel
theorem dX4_boatsLying_7 : decode cX4_boatsLying 7 = .ok (.aload_n 0, 1) := by decide +kernel
theorem dX4_boatsLying_8 : decode cX4_boatsLying 8 = .ok (.getfield 47, 3) := by decide +kernel
theorem dX4_boatsLying_11 : decode cX4_boatsLying 11 = .ok (.if_icmp .ge 40, 3) := by decide +kernel
theorem dX4_boatsLying_14 : decode cX4_boatsLying 14 = .ok (.aload_n 0, 1) := by decide +kernel
theorem dX4_boatsLying_15 : decode cX4_boatsLying 15 = .ok (.getfield 26, 3) := by decide +kernel
theorem dX4_boatsLying_18 : decode cX4_boatsLying 18 = .ok (.iload 4, 2) := by decide +kernel
theorem dX4_boatsLying_20 : decode cX4_boatsLying 20 = .ok (.aaload, 1) := by decide +kernel
theorem dX4_boatsLying_21 : decode cX4_boatsLying 21 = .ok (.getfield 62, 3) := by decide +kernel
theorem dX4_boatsLying_24 : decode cX4_boatsLying 24 = .ok (.iload_n 2, 1) := by decide +kernel
theorem dX4_boatsLying_25 : decode cX4_boatsLying 25 = .ok (.if_icmp .ne 20, 3) := by decide +kernel
theorem dX4_boatsLying_28 : decode cX4_boatsLying 28 = .ok (.aload_n 0, 1) := by decide +kernel
theorem dX4_boatsLying_29 : decode cX4_boatsLying 29 = .ok (.getfield 26, 3) := by decide +kernel
theorem dX4_boatsLying_32 : decode cX4_boatsLying 32 = .ok (.iload 4, 2) := by decide +kernel
theorem dX4_boatsLying_34 : decode cX4_boatsLying 34 = .ok (.aaload, 1) := by decide +kernel
theorem dX4_boatsLying_35 : decode cX4_boatsLying 35 = .ok (.getfield 65, 3) := by decide +kernel
theorem dX4_boatsLying_38 : decode cX4_boatsLying 38 = .ok (.iload_n 1, 1) := by decide +kernel
theorem dX4_boatsLying_39 : decode cX4_boatsLying 39 = .ok (.if_icmp .ne 6, 3) := by decide +kernel
theorem dX4_boatsLying_42 : decode cX4_boatsLying 42 = .ok (.iinc 3 1, 3) := by decide +kernel
theorem dX4_boatsLying_45 : decode cX4_boatsLying 45 = .ok (.iinc 4 1, 3) := by decide +kernel
theorem dX4_boatsLying_48 : decode cX4_boatsLying 48 = .ok (.goto (-43), 3) := by decide +kernel
theorem dX4_boatsLying_51 : decode cX4_boatsLying 51 = .ok (.iload_n 3, 1) := by decide +kernel
theorem dX4_boatsLying_52 : decode cX4_boatsLying 52 = .ok (.ireturn, 1) := by decide +kernel
theorem dX4_boatsOnLeg_0 : decode cX4_boatsOnLeg 0 = .ok (.iconst 0, 1) := by decide +kernel
theorem dX4_boatsOnLeg_1 : decode cX4_boatsOnLeg 1 = .ok (.istore_n 2, 1) := by decide +kernel
theorem dX4_boatsOnLeg_2 : decode cX4_boatsOnLeg 2 = .ok (.iconst 0, 1) := by decide +kernel
theorem dX4_boatsOnLeg_3 : decode cX4_boatsOnLeg 3 = .ok (.istore_n 3, 1) := by decide +kernel
theorem dX4_boatsOnLeg_4 : decode cX4_boatsOnLeg 4 = .ok (.iload_n 3, 1) := by decide +kernel
theorem dX4_boatsOnLeg_5 : decode cX4_boatsOnLeg 5 = .ok (.aload_n 0, 1) := by decide +kernel
theorem dX4_boatsOnLeg_6 : decode cX4_boatsOnLeg 6 = .ok (.getfield 47, 3) := by decide +kernel
theorem dX4_boatsOnLeg_9 : decode cX4_boatsOnLeg 9 = .ok (.if_icmp .ge 38, 3) := by decide +kernel
theorem dX4_boatsOnLeg_12 : decode cX4_boatsOnLeg 12 = .ok (.aload_n 0, 1) := by decide +kernel
theorem dX4_boatsOnLeg_13 : decode cX4_boatsOnLeg 13 = .ok (.getfield 26, 3) := by decide +kernel
theorem dX4_boatsOnLeg_16 : decode cX4_boatsOnLeg 16 = .ok (.iload_n 3, 1) := by decide +kernel
theorem dX4_boatsOnLeg_17 : decode cX4_boatsOnLeg 17 = .ok (.aaload, 1) := by decide +kernel
theorem dX4_boatsOnLeg_18 : decode cX4_boatsOnLeg 18 = .ok (.getfield 62, 3) := by decide +kernel
theorem dX4_boatsOnLeg_21 : decode cX4_boatsOnLeg 21 = .ok (.iconst 2, 1) := by decide +kernel
theorem dX4_boatsOnLeg_22 : decode cX4_boatsOnLeg 22 = .ok (.if_icmp .ne 19, 3) := by decide +kernel
theorem dX4_boatsOnLeg_25 : decode cX4_boatsOnLeg 25 = .ok (.aload_n 0, 1) := by decide +kernel
theorem dX4_boatsOnLeg_26 : decode cX4_boatsOnLeg 26 = .ok (.getfield 26, 3) := by decide +kernel
theorem dX4_boatsOnLeg_29 : decode cX4_boatsOnLeg 29 = .ok (.iload_n 3, 1) := by decide +kernel
theorem dX4_boatsOnLeg_30 : decode cX4_boatsOnLeg 30 = .ok (.aaload, 1) := by decide +kernel
theorem dX4_boatsOnLeg_31 : decode cX4_boatsOnLeg 31 = .ok (.getfield 68, 3) := by decide +kernel
theorem dX4_boatsOnLeg_34 : decode cX4_boatsOnLeg 34 = .ok (.iload_n 1, 1) := by decide +kernel
theorem dX4_boatsOnLeg_35 : decode cX4_boatsOnLeg 35 = .ok (.if_icmp .ne 6, 3) := by decide +kernel
theorem dX4_boatsOnLeg_38 : decode cX4_boatsOnLeg 38 = .ok (.iinc 2 1, 3) := by decide +kernel
theorem dX4_boatsOnLeg_41 : decode cX4_boatsOnLeg 41 = .ok (.iinc 3 1, 3) := by decide +kernel
theorem dX4_boatsOnLeg_44 : decode cX4_boatsOnLeg 44 = .ok (.goto (-40), 3) := by decide +kernel
theorem dX4_boatsOnLeg_47 : decode cX4_boatsOnLeg 47 = .ok (.iload_n 2, 1) := by decide +kernel
theorem dX4_boatsOnLeg_48 : decode cX4_boatsOnLeg 48 = .ok (.ireturn, 1) := by decide +kernel
theorem dX4_boatsAfloatOf_0 : decode cX4_boatsAfloatOf 0 = .ok (.iconst 0, 1) := by decide +kernel
theorem dX4_boatsAfloatOf_1 : decode cX4_boatsAfloatOf 1 = .ok (.istore_n 2, 1) := by decide +kernel
theorem dX4_boatsAfloatOf_2 : decode cX4_boatsAfloatOf 2 = .ok (.iconst 0, 1) := by decide +kernel
theorem dX4_boatsAfloatOf_3 : decode cX4_boatsAfloatOf 3 = .ok (.istore_n 3, 1) := by decide +kernel
theorem dX4_boatsAfloatOf_4 : decode cX4_boatsAfloatOf 4 = .ok (.iload_n 3, 1) := by decide +kernel
theorem dX4_boatsAfloatOf_5 : decode cX4_boatsAfloatOf 5 = .ok (.aload_n 0, 1) := by decide +kernel
theorem dX4_boatsAfloatOf_6 : decode cX4_boatsAfloatOf 6 = .ok (.getfield 47, 3) := by decide +kernel
theorem dX4_boatsAfloatOf_9 : decode cX4_boatsAfloatOf 9 = .ok (.if_icmp .ge 38, 3) := by decide +kernel
theorem dX4_boatsAfloatOf_12 : decode cX4_boatsAfloatOf 12 = .ok (.aload_n 0, 1) := by decide +kernel
theorem dX4_boatsAfloatOf_13 : decode cX4_boatsAfloatOf 13 = .ok (.getfield 26, 3) := by decide +kernel
theorem dX4_boatsAfloatOf_16 : decode cX4_boatsAfloatOf 16 = .ok (.iload_n 3, 1) := by decide +kernel
theorem dX4_boatsAfloatOf_17 : decode cX4_boatsAfloatOf 17 = .ok (.aaload, 1) := by decide +kernel
theorem dX4_boatsAfloatOf_18 : decode cX4_boatsAfloatOf 18 = .ok (.getfield 71, 3) := by decide +kernel
theorem dX4_boatsAfloatOf_21 : decode cX4_boatsAfloatOf 21 = .ok (.iload_n 1, 1) := by decide +kernel
theorem dX4_boatsAfloatOf_22 : decode cX4_boatsAfloatOf 22 = .ok (.if_icmp .ne 19, 3) := by decide +kernel
theorem dX4_boatsAfloatOf_25 : decode cX4_boatsAfloatOf 25 = .ok (.aload_n 0, 1) := by decide +kernel
theorem dX4_boatsAfloatOf_26 : decode cX4_boatsAfloatOf 26 = .ok (.getfield 26, 3) := by decide +kernel
theorem dX4_boatsAfloatOf_29 : decode cX4_boatsAfloatOf 29 = .ok (.iload_n 3, 1) := by decide +kernel
theorem dX4_boatsAfloatOf_30 : decode cX4_boatsAfloatOf 30 = .ok (.aaload, 1) := by decide +kernel
theorem dX4_boatsAfloatOf_31 : decode cX4_boatsAfloatOf 31 = .ok (.getfield 62, 3) := by decide +kernel
theorem dX4_boatsAfloatOf_34 : decode cX4_boatsAfloatOf 34 = .ok (.iconst 3, 1) := by decide +kernel
theorem dX4_boatsAfloatOf_35 : decode cX4_boatsAfloatOf 35 = .ok (.if_icmp .eq 6, 3) := by decide +kernel
theorem dX4_boatsAfloatOf_38 : decode cX4_boatsAfloatOf 38 = .ok (.iinc 2 1, 3) := by decide +kernel
theorem dX4_boatsAfloatOf_41 : decode cX4_boatsAfloatOf 41 = .ok (.iinc 3 1, 3) := by decide +kernel
theorem dX4_boatsAfloatOf_44 : decode cX4_boatsAfloatOf 44 = .ok (.goto (-40), 3) := by decide +kernel
theorem dX4_boatsAfloatOf_47 : decode cX4_boatsAfloatOf 47 = .ok (.iload_n 2, 1) := by decide +kernel
theorem dX4_boatsAfloatOf_48 : decode cX4_boatsAfloatOf 48 = .ok (.ireturn, 1) := by decide +kernel
theorem dX4_cargoOf_0 : decode cX4_cargoOf 0 = .ok (.iconst 0, 1) := by decide +kernel
theorem dX4_cargoOf_1 : decode cX4_cargoOf 1 = .ok (.istore_n 2, 1) := by decide +kernel
theorem dX4_cargoOf_2 : decode cX4_cargoOf 2 = .ok (.iconst 0, 1) := by decide +kernel
theorem dX4_cargoOf_3 : decode cX4_cargoOf 3 = .ok (.istore_n 3, 1) := by decide +kernel
theorem dX4_cargoOf_4 : decode cX4_cargoOf 4 = .ok (.iload_n 3, 1) := by decide +kernel
theorem dX4_cargoOf_5 : decode cX4_cargoOf 5 = .ok (.aload_n 0, 1) := by decide +kernel
theorem dX4_cargoOf_6 : decode cX4_cargoOf 6 = .ok (.getfield 47, 3) := by decide +kernel
theorem dX4_cargoOf_9 : decode cX4_cargoOf 9 = .ok (.if_icmp .ge 34, 3) := by decide +kernel
theorem dX4_cargoOf_12 : decode cX4_cargoOf 12 = .ok (.aload_n 0, 1) := by decide +kernel
theorem dX4_cargoOf_13 : decode cX4_cargoOf 13 = .ok (.getfield 26, 3) := by decide +kernel
theorem dX4_cargoOf_16 : decode cX4_cargoOf 16 = .ok (.iload_n 3, 1) := by decide +kernel
theorem dX4_cargoOf_17 : decode cX4_cargoOf 17 = .ok (.aaload, 1) := by decide +kernel
theorem dX4_cargoOf_18 : decode cX4_cargoOf 18 = .ok (.getfield 71, 3) := by decide +kernel
theorem dX4_cargoOf_21 : decode cX4_cargoOf 21 = .ok (.iload_n 1, 1) := by decide +kernel
theorem dX4_cargoOf_22 : decode cX4_cargoOf 22 = .ok (.if_icmp .ne 15, 3) := by decide +kernel
theorem dX4_cargoOf_25 : decode cX4_cargoOf 25 = .ok (.iload_n 2, 1) := by decide +kernel
theorem dX4_cargoOf_26 : decode cX4_cargoOf 26 = .ok (.aload_n 0, 1) := by decide +kernel
theorem dX4_cargoOf_27 : decode cX4_cargoOf 27 = .ok (.getfield 26, 3) := by decide +kernel
theorem dX4_cargoOf_30 : decode cX4_cargoOf 30 = .ok (.iload_n 3, 1) := by decide +kernel
theorem dX4_cargoOf_31 : decode cX4_cargoOf 31 = .ok (.aaload, 1) := by decide +kernel
theorem dX4_cargoOf_32 : decode cX4_cargoOf 32 = .ok (.invokevirtual 74, 3) := by decide +kernel
theorem dX4_cargoOf_35 : decode cX4_cargoOf 35 = .ok (.iadd, 1) := by decide +kernel
theorem dX4_cargoOf_36 : decode cX4_cargoOf 36 = .ok (.istore_n 2, 1) := by decide +kernel
theorem dX4_cargoOf_37 : decode cX4_cargoOf 37 = .ok (.iinc 3 1, 3) := by decide +kernel
theorem dX4_cargoOf_40 : decode cX4_cargoOf 40 = .ok (.goto (-36), 3) := by decide +kernel
theorem dX4_cargoOf_43 : decode cX4_cargoOf 43 = .ok (.iload_n 2, 1) := by decide +kernel
theorem dX4_cargoOf_44 : decode cX4_cargoOf 44 = .ok (.ireturn, 1) := by decide +kernel
theorem dX4_openDebts_0 : decode cX4_openDebts 0 = .ok (.iconst 0, 1) := by decide +kernel
theorem dX4_openDebts_1 : decode cX4_openDebts 1 = .ok (.istore_n 1, 1) := by decide +kernel
theorem dX4_openDebts_2 : decode cX4_openDebts 2 = .ok (.iconst 0, 1) := by decide +kernel
theorem dX4_openDebts_3 : decode cX4_openDebts 3 = .ok (.istore_n 2, 1) := by decide +kernel
theorem dX4_openDebts_4 : decode cX4_openDebts 4 = .ok (.iload_n 2, 1) := by decide +kernel
theorem dX4_openDebts_5 : decode cX4_openDebts 5 = .ok (.aload_n 0, 1) := by decide +kernel
theorem dX4_openDebts_6 : decode cX4_openDebts 6 = .ok (.getfield 43, 3) := by decide +kernel
theorem dX4_openDebts_9 : decode cX4_openDebts 9 = .ok (.if_icmp .ge 18, 3) := by decide +kernel
theorem dX4_openDebts_12 : decode cX4_openDebts 12 = .ok (.iload_n 1, 1) := by decide +kernel
theorem dX4_openDebts_13 : decode cX4_openDebts 13 = .ok (.aload_n 0, 1) := by decide +kernel
theorem dX4_openDebts_14 : decode cX4_openDebts 14 = .ok (.iload_n 2, 1) := by decide +kernel
theorem dX4_openDebts_15 : decode cX4_openDebts 15 = .ok (.iconst 0, 1) := by decide +kernel
theorem dX4_openDebts_16 : decode cX4_openDebts 16 = .ok (.invokevirtual 78, 3) := by decide +kernel
theorem dX4_openDebts_19 : decode cX4_openDebts 19 = .ok (.iadd, 1) := by decide +kernel
theorem dX4_openDebts_20 : decode cX4_openDebts 20 = .ok (.istore_n 1, 1) := by decide +kernel
theorem dX4_openDebts_21 : decode cX4_openDebts 21 = .ok (.iinc 2 1, 3) := by decide +kernel
theorem dX4_openDebts_24 : decode cX4_openDebts 24 = .ok (.goto (-20), 3) := by decide +kernel
theorem dX4_openDebts_27 : decode cX4_openDebts 27 = .ok (.iload_n 1, 1) := by decide +kernel
theorem dX4_openDebts_28 : decode cX4_openDebts 28 = .ok (.ireturn, 1) := by decide +kernel
theorem dX4_debtsOf_0 : decode cX4_debtsOf 0 = .ok (.iconst 0, 1) := by decide +kernel
theorem dX4_debtsOf_1 : decode cX4_debtsOf 1 = .ok (.istore_n 3, 1) := by decide +kernel
theorem dX4_debtsOf_2 : decode cX4_debtsOf 2 = .ok (.iconst 0, 1) := by decide +kernel
theorem dX4_debtsOf_3 : decode cX4_debtsOf 3 = .ok (.istore 4, 2) := by decide +kernel
theorem dX4_debtsOf_5 : decode cX4_debtsOf 5 = .ok (.iload 4, 2) := by decide +kernel
theorem dX4_debtsOf_7 : decode cX4_debtsOf 7 = .ok (.aload_n 0, 1) := by decide +kernel
theorem dX4_debtsOf_8 : decode cX4_debtsOf 8 = .ok (.getfield 50, 3) := by decide +kernel
theorem dX4_debtsOf_11 : decode cX4_debtsOf 11 = .ok (.if_icmp .ge 40, 3) := by decide +kernel
theorem dX4_debtsOf_14 : decode cX4_debtsOf 14 = .ok (.aload_n 0, 1) := by decide +kernel
theorem dX4_debtsOf_15 : decode cX4_debtsOf 15 = .ok (.getfield 32, 3) := by decide +kernel
theorem dX4_debtsOf_18 : decode cX4_debtsOf 18 = .ok (.iload 4, 2) := by decide +kernel
theorem dX4_debtsOf_20 : decode cX4_debtsOf 20 = .ok (.aaload, 1) := by decide +kernel
theorem dX4_debtsOf_21 : decode cX4_debtsOf 21 = .ok (.getfield 82, 3) := by decide +kernel
theorem dX4_debtsOf_24 : decode cX4_debtsOf 24 = .ok (.iload_n 1, 1) := by decide +kernel
theorem dX4_debtsOf_25 : decode cX4_debtsOf 25 = .ok (.if_icmp .ne 20, 3) := by decide +kernel
theorem dX4_debtsOf_28 : decode cX4_debtsOf 28 = .ok (.aload_n 0, 1) := by decide +kernel
theorem dX4_debtsOf_29 : decode cX4_debtsOf 29 = .ok (.getfield 32, 3) := by decide +kernel
theorem dX4_debtsOf_32 : decode cX4_debtsOf 32 = .ok (.iload 4, 2) := by decide +kernel
theorem dX4_debtsOf_34 : decode cX4_debtsOf 34 = .ok (.aaload, 1) := by decide +kernel
theorem dX4_debtsOf_35 : decode cX4_debtsOf 35 = .ok (.getfield 85, 3) := by decide +kernel
theorem dX4_debtsOf_38 : decode cX4_debtsOf 38 = .ok (.iload_n 2, 1) := by decide +kernel
theorem dX4_debtsOf_39 : decode cX4_debtsOf 39 = .ok (.if_icmp .ne 6, 3) := by decide +kernel
theorem dX4_debtsOf_42 : decode cX4_debtsOf 42 = .ok (.iinc 3 1, 3) := by decide +kernel
theorem dX4_debtsOf_45 : decode cX4_debtsOf 45 = .ok (.iinc 4 1, 3) := by decide +kernel
theorem dX4_debtsOf_48 : decode cX4_debtsOf 48 = .ok (.goto (-43), 3) := by decide +kernel
theorem dX4_debtsOf_51 : decode cX4_debtsOf 51 = .ok (.iload_n 3, 1) := by decide +kernel
theorem dX4_debtsOf_52 : decode cX4_debtsOf 52 = .ok (.ireturn, 1) := by decide +kernel
theorem dX4_allCoins_0 : decode cX4_allCoins 0 = .ok (.iconst 0, 1) := by decide +kernel
theorem dX4_allCoins_1 : decode cX4_allCoins 1 = .ok (.istore_n 1, 1) := by decide +kernel
theorem dX4_allCoins_2 : decode cX4_allCoins 2 = .ok (.iconst 0, 1) := by decide +kernel
theorem dX4_allCoins_3 : decode cX4_allCoins 3 = .ok (.istore_n 2, 1) := by decide +kernel
theorem dX4_allCoins_4 : decode cX4_allCoins 4 = .ok (.iload_n 2, 1) := by decide +kernel
theorem dX4_allCoins_5 : decode cX4_allCoins 5 = .ok (.aload_n 0, 1) := by decide +kernel
theorem dX4_allCoins_6 : decode cX4_allCoins 6 = .ok (.getfield 43, 3) := by decide +kernel
theorem dX4_allCoins_9 : decode cX4_allCoins 9 = .ok (.if_icmp .ge 21, 3) := by decide +kernel
theorem dX4_allCoins_12 : decode cX4_allCoins 12 = .ok (.iload_n 1, 1) := by decide +kernel
theorem dX4_allCoins_13 : decode cX4_allCoins 13 = .ok (.aload_n 0, 1) := by decide +kernel
theorem dX4_allCoins_14 : decode cX4_allCoins 14 = .ok (.getfield 20, 3) := by decide +kernel
theorem dX4_allCoins_17 : decode cX4_allCoins 17 = .ok (.iload_n 2, 1) := by decide +kernel
theorem dX4_allCoins_18 : decode cX4_allCoins 18 = .ok (.aaload, 1) := by decide +kernel
theorem dX4_allCoins_19 : decode cX4_allCoins 19 = .ok (.getfield 88, 3) := by decide +kernel
theorem dX4_allCoins_22 : decode cX4_allCoins 22 = .ok (.iadd, 1) := by decide +kernel
theorem dX4_allCoins_23 : decode cX4_allCoins 23 = .ok (.istore_n 1, 1) := by decide +kernel
theorem dX4_allCoins_24 : decode cX4_allCoins 24 = .ok (.iinc 2 1, 3) := by decide +kernel
theorem dX4_allCoins_27 : decode cX4_allCoins 27 = .ok (.goto (-23), 3) := by decide +kernel
theorem dX4_allCoins_30 : decode cX4_allCoins 30 = .ok (.iload_n 1, 1) := by decide +kernel
theorem dX4_allCoins_31 : decode cX4_allCoins 31 = .ok (.ireturn, 1) := by decide +kernel
theorem dX4_freeBerths_0 : decode cX4_freeBerths 0 = .ok (.aload_n 0, 1) := by decide +kernel
theorem dX4_freeBerths_1 : decode cX4_freeBerths 1 = .ok (.getfield 12, 3) := by decide +kernel
theorem dX4_freeBerths_4 : decode cX4_freeBerths 4 = .ok (.getfield 91, 3) := by decide +kernel
theorem dX4_freeBerths_7 : decode cX4_freeBerths 7 = .ok (.iload_n 1, 1) := by decide +kernel
theorem dX4_freeBerths_8 : decode cX4_freeBerths 8 = .ok (.iaload, 1) := by decide +kernel
theorem dX4_freeBerths_9 : decode cX4_freeBerths 9 = .ok (.aload_n 0, 1) := by decide +kernel
theorem dX4_freeBerths_10 : decode cX4_freeBerths 10 = .ok (.iload_n 1, 1) := by decide +kernel
theorem dX4_freeBerths_11 : decode cX4_freeBerths 11 = .ok (.iconst 1, 1) := by decide +kernel
theorem dX4_freeBerths_12 : decode cX4_freeBerths 12 = .ok (.invokevirtual 95, 3) := by decide +kernel
theorem dX4_freeBerths_15 : decode cX4_freeBerths 15 = .ok (.isub, 1) := by decide +kernel
theorem dX4_freeBerths_16 : decode cX4_freeBerths 16 = .ok (.ireturn, 1) := by decide +kernel
theorem dX4_hand_0 : decode cX4_hand 0 = .ok (.aload_n 0, 1) := by decide +kernel
theorem dX4_hand_1 : decode cX4_hand 1 = .ok (.getfield 20, 3) := by decide +kernel
theorem dX4_hand_4 : decode cX4_hand 4 = .ok (.iload_n 1, 1) := by decide +kernel
theorem dX4_hand_5 : decode cX4_hand 5 = .ok (.aaload, 1) := by decide +kernel
theorem dX4_hand_6 : decode cX4_hand 6 = .ok (.getfield 105, 3) := by decide +kernel
theorem dX4_hand_9 : decode cX4_hand 9 = .ok (.iload_n 3, 1) := by decide +kernel
theorem dX4_hand_10 : decode cX4_hand 10 = .ok (.dup2, 1) := by decide +kernel
theorem dX4_hand_11 : decode cX4_hand 11 = .ok (.iaload, 1) := by decide +kernel
theorem dX4_hand_12 : decode cX4_hand 12 = .ok (.iload 4, 2) := by decide +kernel
theorem dX4_hand_14 : decode cX4_hand 14 = .ok (.isub, 1) := by decide +kernel
theorem dX4_hand_15 : decode cX4_hand 15 = .ok (.iastore, 1) := by decide +kernel
theorem dX4_hand_16 : decode cX4_hand 16 = .ok (.aload_n 0, 1) := by decide +kernel
theorem dX4_hand_17 : decode cX4_hand 17 = .ok (.getfield 20, 3) := by decide +kernel
theorem dX4_hand_20 : decode cX4_hand 20 = .ok (.iload_n 2, 1) := by decide +kernel
theorem dX4_hand_21 : decode cX4_hand 21 = .ok (.aaload, 1) := by decide +kernel
theorem dX4_hand_22 : decode cX4_hand 22 = .ok (.getfield 105, 3) := by decide +kernel
theorem dX4_hand_25 : decode cX4_hand 25 = .ok (.iload_n 3, 1) := by decide +kernel
theorem dX4_hand_26 : decode cX4_hand 26 = .ok (.dup2, 1) := by decide +kernel
theorem dX4_hand_27 : decode cX4_hand 27 = .ok (.iaload, 1) := by decide +kernel
theorem dX4_hand_28 : decode cX4_hand 28 = .ok (.iload 4, 2) := by decide +kernel
theorem dX4_hand_30 : decode cX4_hand 30 = .ok (.iadd, 1) := by decide +kernel
theorem dX4_hand_31 : decode cX4_hand 31 = .ok (.iastore, 1) := by decide +kernel
theorem dX4_hand_32 : decode cX4_hand 32 = .ok (.return_, 1) := by decide +kernel
theorem dX4_passDay_0 : decode cX4_passDay 0 = .ok (.aload_n 0, 1) := by decide +kernel
theorem dX4_passDay_1 : decode cX4_passDay 1 = .ok (.getfield 12, 3) := by decide +kernel
theorem dX4_passDay_4 : decode cX4_passDay 4 = .ok (.invokevirtual 108, 3) := by decide +kernel
theorem dX4_passDay_7 : decode cX4_passDay 7 = .ok (.iconst 0, 1) := by decide +kernel
theorem dX4_passDay_8 : decode cX4_passDay 8 = .ok (.istore_n 1, 1) := by decide +kernel
theorem dX4_passDay_9 : decode cX4_passDay 9 = .ok (.iload_n 1, 1) := by decide +kernel
theorem dX4_passDay_10 : decode cX4_passDay 10 = .ok (.aload_n 0, 1) := by decide +kernel
theorem dX4_passDay_11 : decode cX4_passDay 11 = .ok (.getfield 47, 3) := by decide +kernel
theorem dX4_passDay_14 : decode cX4_passDay 14 = .ok (.if_icmp .ge 19, 3) := by decide +kernel
theorem dX4_passDay_17 : decode cX4_passDay 17 = .ok (.aload_n 0, 1) := by decide +kernel
theorem dX4_passDay_18 : decode cX4_passDay 18 = .ok (.aload_n 0, 1) := by decide +kernel
theorem dX4_passDay_19 : decode cX4_passDay 19 = .ok (.getfield 26, 3) := by decide +kernel
theorem dX4_passDay_22 : decode cX4_passDay 22 = .ok (.iload_n 1, 1) := by decide +kernel
theorem dX4_passDay_23 : decode cX4_passDay 23 = .ok (.aaload, 1) := by decide +kernel
theorem dX4_passDay_24 : decode cX4_passDay 24 = .ok (.invokevirtual 111, 3) := by decide +kernel
theorem dX4_passDay_27 : decode cX4_passDay 27 = .ok (.iinc 1 1, 3) := by decide +kernel
theorem dX4_passDay_30 : decode cX4_passDay 30 = .ok (.goto (-21), 3) := by decide +kernel
theorem dX4_passDay_33 : decode cX4_passDay 33 = .ok (.iconst 0, 1) := by decide +kernel
theorem dX4_passDay_34 : decode cX4_passDay 34 = .ok (.istore_n 1, 1) := by decide +kernel
theorem dX4_passDay_35 : decode cX4_passDay 35 = .ok (.iload_n 1, 1) := by decide +kernel
theorem dX4_passDay_36 : decode cX4_passDay 36 = .ok (.aload_n 0, 1) := by decide +kernel
theorem dX4_passDay_37 : decode cX4_passDay 37 = .ok (.getfield 47, 3) := by decide +kernel
theorem dX4_passDay_40 : decode cX4_passDay 40 = .ok (.if_icmp .ge 29, 3) := by decide +kernel
theorem dX4_passDay_43 : decode cX4_passDay 43 = .ok (.aload_n 0, 1) := by decide +kernel
theorem dX4_passDay_44 : decode cX4_passDay 44 = .ok (.aload_n 0, 1) := by decide +kernel
theorem dX4_passDay_45 : decode cX4_passDay 45 = .ok (.getfield 26, 3) := by decide +kernel
theorem dX4_passDay_48 : decode cX4_passDay 48 = .ok (.iload_n 1, 1) := by decide +kernel
theorem dX4_passDay_49 : decode cX4_passDay 49 = .ok (.aaload, 1) := by decide +kernel
theorem dX4_passDay_50 : decode cX4_passDay 50 = .ok (.invokevirtual 114, 3) := by decide +kernel
theorem dX4_passDay_53 : decode cX4_passDay 53 = .ok (.aload_n 0, 1) := by decide +kernel
theorem dX4_passDay_54 : decode cX4_passDay 54 = .ok (.aload_n 0, 1) := by decide +kernel
theorem dX4_passDay_55 : decode cX4_passDay 55 = .ok (.getfield 26, 3) := by decide +kernel
theorem dX4_passDay_58 : decode cX4_passDay 58 = .ok (.iload_n 1, 1) := by decide +kernel
theorem dX4_passDay_59 : decode cX4_passDay 59 = .ok (.aaload, 1) := by decide +kernel
theorem dX4_passDay_60 : decode cX4_passDay 60 = .ok (.invokevirtual 117, 3) := by decide +kernel
theorem dX4_passDay_63 : decode cX4_passDay 63 = .ok (.iinc 1 1, 3) := by decide +kernel
theorem dX4_passDay_66 : decode cX4_passDay 66 = .ok (.goto (-31), 3) := by decide +kernel
theorem dX4_passDay_69 : decode cX4_passDay 69 = .ok (.iconst 0, 1) := by decide +kernel
theorem dX4_passDay_70 : decode cX4_passDay 70 = .ok (.istore_n 1, 1) := by decide +kernel
theorem dX4_passDay_71 : decode cX4_passDay 71 = .ok (.iload_n 1, 1) := by decide +kernel
theorem dX4_passDay_72 : decode cX4_passDay 72 = .ok (.aload_n 0, 1) := by decide +kernel
theorem dX4_passDay_73 : decode cX4_passDay 73 = .ok (.getfield 50, 3) := by decide +kernel
theorem dX4_passDay_76 : decode cX4_passDay 76 = .ok (.if_icmp .ge 19, 3) := by decide +kernel
theorem dX4_passDay_79 : decode cX4_passDay 79 = .ok (.aload_n 0, 1) := by decide +kernel
theorem dX4_passDay_80 : decode cX4_passDay 80 = .ok (.aload_n 0, 1) := by decide +kernel
theorem dX4_passDay_81 : decode cX4_passDay 81 = .ok (.getfield 32, 3) := by decide +kernel
theorem dX4_passDay_84 : decode cX4_passDay 84 = .ok (.iload_n 1, 1) := by decide +kernel
theorem dX4_passDay_85 : decode cX4_passDay 85 = .ok (.aaload, 1) := by decide +kernel
theorem dX4_passDay_86 : decode cX4_passDay 86 = .ok (.invokevirtual 120, 3) := by decide +kernel
theorem dX4_passDay_89 : decode cX4_passDay 89 = .ok (.iinc 1 1, 3) := by decide +kernel
theorem dX4_passDay_92 : decode cX4_passDay 92 = .ok (.goto (-21), 3) := by decide +kernel
theorem dX4_passDay_95 : decode cX4_passDay 95 = .ok (.aload_n 0, 1) := by decide +kernel
theorem dX4_passDay_96 : decode cX4_passDay 96 = .ok (.getfield 12, 3) := by decide +kernel
theorem dX4_passDay_99 : decode cX4_passDay 99 = .ok (.dup, 1) := by decide +kernel
theorem dX4_passDay_100 : decode cX4_passDay 100 = .ok (.getfield 123, 3) := by decide +kernel
theorem dX4_passDay_103 : decode cX4_passDay 103 = .ok (.iconst 1, 1) := by decide +kernel
theorem dX4_passDay_104 : decode cX4_passDay 104 = .ok (.iadd, 1) := by decide +kernel
theorem dX4_passDay_105 : decode cX4_passDay 105 = .ok (.putfield 123, 3) := by decide +kernel
theorem dX4_passDay_108 : decode cX4_passDay 108 = .ok (.return_, 1) := by decide +kernel
theorem dX4_payForBerth_0 : decode cX4_payForBerth 0 = .ok (.aload_n 1, 1) := by decide +kernel
theorem dX4_payForBerth_1 : decode cX4_payForBerth 1 = .ok (.getfield 62, 3) := by decide +kernel
theorem dX4_payForBerth_4 : decode cX4_payForBerth 4 = .ok (.iconst 1, 1) := by decide +kernel
theorem dX4_payForBerth_5 : decode cX4_payForBerth 5 = .ok (.if_icmp .eq 4, 3) := by decide +kernel
theorem dX4_payForBerth_8 : decode cX4_payForBerth 8 = .ok (.return_, 1) := by decide +kernel
theorem dX4_payForBerth_9 : decode cX4_payForBerth 9 = .ok (.aload_n 0, 1) := by decide +kernel
theorem dX4_payForBerth_10 : decode cX4_payForBerth 10 = .ok (.getfield 20, 3) := by decide +kernel
theorem dX4_payForBerth_13 : decode cX4_payForBerth 13 = .ok (.aload_n 1, 1) := by decide +kernel
theorem dX4_payForBerth_14 : decode cX4_payForBerth 14 = .ok (.getfield 71, 3) := by decide +kernel
theorem dX4_payForBerth_17 : decode cX4_payForBerth 17 = .ok (.aaload, 1) := by decide +kernel
theorem dX4_payForBerth_18 : decode cX4_payForBerth 18 = .ok (.astore_n 2, 1) := by decide +kernel
theorem dX4_payForBerth_19 : decode cX4_payForBerth 19 = .ok (.aload_n 2, 1) := by decide +kernel
theorem dX4_payForBerth_20 : decode cX4_payForBerth 20 = .ok (.getfield 88, 3) := by decide +kernel
theorem dX4_payForBerth_23 : decode cX4_payForBerth 23 = .ok (.ifCond .le 16, 3) := by decide +kernel
theorem dX4_payForBerth_26 : decode cX4_payForBerth 26 = .ok (.aload_n 2, 1) := by decide +kernel
theorem dX4_payForBerth_27 : decode cX4_payForBerth 27 = .ok (.dup, 1) := by decide +kernel
theorem dX4_payForBerth_28 : decode cX4_payForBerth 28 = .ok (.getfield 88, 3) := by decide +kernel
theorem dX4_payForBerth_31 : decode cX4_payForBerth 31 = .ok (.iconst 1, 1) := by decide +kernel
theorem dX4_payForBerth_32 : decode cX4_payForBerth 32 = .ok (.isub, 1) := by decide +kernel
theorem dX4_payForBerth_33 : decode cX4_payForBerth 33 = .ok (.putfield 88, 3) := by decide +kernel
theorem dX4_payForBerth_36 : decode cX4_payForBerth 36 = .ok (.goto 8, 3) := by decide +kernel
theorem dX4_payForBerth_39 : decode cX4_payForBerth 39 = .ok (.aload_n 1, 1) := by decide +kernel
theorem dX4_payForBerth_40 : decode cX4_payForBerth 40 = .ok (.iconst 0, 1) := by decide +kernel
theorem dX4_payForBerth_41 : decode cX4_payForBerth 41 = .ok (.putfield 62, 3) := by decide +kernel
theorem dX4_payForBerth_44 : decode cX4_payForBerth 44 = .ok (.return_, 1) := by decide +kernel
theorem dX4_goOn_0 : decode cX4_goOn 0 = .ok (.aload_n 1, 1) := by decide +kernel
theorem dX4_goOn_1 : decode cX4_goOn 1 = .ok (.invokevirtual 126, 3) := by decide +kernel
theorem dX4_goOn_4 : decode cX4_goOn 4 = .ok (.ifCond .eq 22, 3) := by decide +kernel
theorem dX4_goOn_7 : decode cX4_goOn 7 = .ok (.aload_n 1, 1) := by decide +kernel
theorem dX4_goOn_8 : decode cX4_goOn 8 = .ok (.getfield 65, 3) := by decide +kernel
theorem dX4_goOn_11 : decode cX4_goOn 11 = .ok (.aload_n 1, 1) := by decide +kernel
theorem dX4_goOn_12 : decode cX4_goOn 12 = .ok (.getfield 98, 3) := by decide +kernel
theorem dX4_goOn_15 : decode cX4_goOn 15 = .ok (.if_icmp .eq 11, 3) := by decide +kernel
theorem dX4_goOn_18 : decode cX4_goOn 18 = .ok (.aload_n 0, 1) := by decide +kernel
theorem dX4_goOn_19 : decode cX4_goOn 19 = .ok (.aload_n 1, 1) := by decide +kernel
theorem dX4_goOn_20 : decode cX4_goOn 20 = .ok (.invokevirtual 130, 3) := by decide +kernel
theorem dX4_goOn_23 : decode cX4_goOn 23 = .ok (.goto 35, 3) := by decide +kernel
theorem dX4_goOn_26 : decode cX4_goOn 26 = .ok (.aload_n 1, 1) := by decide +kernel
theorem dX4_goOn_27 : decode cX4_goOn 27 = .ok (.getfield 62, 3) := by decide +kernel
theorem dX4_goOn_30 : decode cX4_goOn 30 = .ok (.iconst 2, 1) := by decide +kernel
theorem dX4_goOn_31 : decode cX4_goOn 31 = .ok (.if_icmp .ne 27, 3) := by decide +kernel
theorem dX4_goOn_34 : decode cX4_goOn 34 = .ok (.aload_n 0, 1) := by decide +kernel
theorem dX4_goOn_35 : decode cX4_goOn 35 = .ok (.getfield 12, 3) := by decide +kernel
theorem dX4_goOn_38 : decode cX4_goOn 38 = .ok (.aload_n 1, 1) := by decide +kernel
theorem dX4_goOn_39 : decode cX4_goOn 39 = .ok (.getfield 68, 3) := by decide +kernel
theorem dX4_goOn_42 : decode cX4_goOn 42 = .ok (.invokevirtual 133, 3) := by decide +kernel
theorem dX4_goOn_45 : decode cX4_goOn 45 = .ok (.ifCond .eq 13, 3) := by decide +kernel
theorem dX4_goOn_48 : decode cX4_goOn 48 = .ok (.aload_n 1, 1) := by decide +kernel
theorem dX4_goOn_49 : decode cX4_goOn 49 = .ok (.dup, 1) := by decide +kernel
theorem dX4_goOn_50 : decode cX4_goOn 50 = .ok (.getfield 137, 3) := by decide +kernel
theorem dX4_goOn_53 : decode cX4_goOn 53 = .ok (.iconst 1, 1) := by decide +kernel
theorem dX4_goOn_54 : decode cX4_goOn 54 = .ok (.isub, 1) := by decide +kernel
theorem dX4_goOn_55 : decode cX4_goOn 55 = .ok (.putfield 137, 3) := by decide +kernel
theorem dX4_goOn_58 : decode cX4_goOn 58 = .ok (.aload_n 1, 1) := by decide +kernel
theorem dX4_goOn_59 : decode cX4_goOn 59 = .ok (.getfield 62, 3) := by decide +kernel
theorem dX4_goOn_62 : decode cX4_goOn 62 = .ok (.iconst 2, 1) := by decide +kernel
theorem dX4_goOn_63 : decode cX4_goOn 63 = .ok (.if_icmp .ne 15, 3) := by decide +kernel
theorem dX4_goOn_66 : decode cX4_goOn 66 = .ok (.aload_n 1, 1) := by decide +kernel
theorem dX4_goOn_67 : decode cX4_goOn 67 = .ok (.getfield 137, 3) := by decide +kernel
theorem dX4_goOn_70 : decode cX4_goOn 70 = .ok (.ifCond .gt 8, 3) := by decide +kernel
theorem dX4_goOn_73 : decode cX4_goOn 73 = .ok (.aload_n 1, 1) := by decide +kernel
theorem dX4_goOn_74 : decode cX4_goOn 74 = .ok (.iconst 0, 1) := by decide +kernel
theorem dX4_goOn_75 : decode cX4_goOn 75 = .ok (.putfield 62, 3) := by decide +kernel
theorem dX4_goOn_78 : decode cX4_goOn 78 = .ok (.return_, 1) := by decide +kernel
theorem dX4_setOut_0 : decode cX4_setOut 0 = .ok (.aload_n 1, 1) := by decide +kernel
theorem dX4_setOut_1 : decode cX4_setOut 1 = .ok (.getfield 65, 3) := by decide +kernel
theorem dX4_setOut_4 : decode cX4_setOut 4 = .ok (.aload_n 1, 1) := by decide +kernel
theorem dX4_setOut_5 : decode cX4_setOut 5 = .ok (.getfield 98, 3) := by decide +kernel
theorem dX4_setOut_8 : decode cX4_setOut 8 = .ok (.if_icmp .ge 7, 3) := by decide +kernel
theorem dX4_setOut_11 : decode cX4_setOut 11 = .ok (.iconst 1, 1) := by decide +kernel
theorem dX4_setOut_12 : decode cX4_setOut 12 = .ok (.goto 4, 3) := by decide +kernel
theorem dX4_setOut_15 : decode cX4_setOut 15 = .ok (.iconst 0, 1) := by decide +kernel
theorem dX4_setOut_16 : decode cX4_setOut 16 = .ok (.istore_n 2, 1) := by decide +kernel
theorem dX4_setOut_17 : decode cX4_setOut 17 = .ok (.iload_n 2, 1) := by decide +kernel
theorem dX4_setOut_18 : decode cX4_setOut 18 = .ok (.ifCond .eq 10, 3) := by decide +kernel
theorem dX4_setOut_21 : decode cX4_setOut 21 = .ok (.aload_n 1, 1) := by decide +kernel
theorem dX4_setOut_22 : decode cX4_setOut 22 = .ok (.getfield 65, 3) := by decide +kernel
theorem dX4_setOut_25 : decode cX4_setOut 25 = .ok (.goto 9, 3) := by decide +kernel
theorem dX4_setOut_28 : decode cX4_setOut 28 = .ok (.aload_n 1, 1) := by decide +kernel
theorem dX4_setOut_29 : decode cX4_setOut 29 = .ok (.getfield 65, 3) := by decide +kernel
theorem dX4_setOut_32 : decode cX4_setOut 32 = .ok (.iconst 1, 1) := by decide +kernel
theorem dX4_setOut_33 : decode cX4_setOut 33 = .ok (.isub, 1) := by decide +kernel
theorem dX4_setOut_34 : decode cX4_setOut 34 = .ok (.istore_n 3, 1) := by decide +kernel
theorem dX4_setOut_35 : decode cX4_setOut 35 = .ok (.aload_n 0, 1) := by decide +kernel
theorem dX4_setOut_36 : decode cX4_setOut 36 = .ok (.getfield 12, 3) := by decide +kernel
theorem dX4_setOut_39 : decode cX4_setOut 39 = .ok (.iload_n 3, 1) := by decide +kernel
theorem dX4_setOut_40 : decode cX4_setOut 40 = .ok (.invokevirtual 133, 3) := by decide +kernel
theorem dX4_setOut_43 : decode cX4_setOut 43 = .ok (.ifCond .ne 4, 3) := by decide +kernel
theorem dX4_setOut_46 : decode cX4_setOut 46 = .ok (.return_, 1) := by decide +kernel
theorem dX4_setOut_47 : decode cX4_setOut 47 = .ok (.aload_n 1, 1) := by decide +kernel
theorem dX4_setOut_48 : decode cX4_setOut 48 = .ok (.iconst 2, 1) := by decide +kernel
theorem dX4_setOut_49 : decode cX4_setOut 49 = .ok (.putfield 62, 3) := by decide +kernel
theorem dX4_setOut_52 : decode cX4_setOut 52 = .ok (.aload_n 1, 1) := by decide +kernel
theorem dX4_setOut_53 : decode cX4_setOut 53 = .ok (.iload_n 3, 1) := by decide +kernel
theorem dX4_setOut_54 : decode cX4_setOut 54 = .ok (.putfield 68, 3) := by decide +kernel
theorem dX4_setOut_57 : decode cX4_setOut 57 = .ok (.aload_n 1, 1) := by decide +kernel
theorem dX4_setOut_58 : decode cX4_setOut 58 = .ok (.iload_n 2, 1) := by decide +kernel
theorem dX4_setOut_59 : decode cX4_setOut 59 = .ok (.ifCond .eq 12, 3) := by decide +kernel
theorem dX4_setOut_62 : decode cX4_setOut 62 = .ok (.aload_n 1, 1) := by decide +kernel
theorem dX4_setOut_63 : decode cX4_setOut 63 = .ok (.getfield 65, 3) := by decide +kernel
theorem dX4_setOut_66 : decode cX4_setOut 66 = .ok (.iconst 1, 1) := by decide +kernel
theorem dX4_setOut_67 : decode cX4_setOut 67 = .ok (.iadd, 1) := by decide +kernel
theorem dX4_setOut_68 : decode cX4_setOut 68 = .ok (.goto 9, 3) := by decide +kernel
theorem dX4_setOut_71 : decode cX4_setOut 71 = .ok (.aload_n 1, 1) := by decide +kernel
theorem dX4_setOut_72 : decode cX4_setOut 72 = .ok (.getfield 65, 3) := by decide +kernel
theorem dX4_setOut_75 : decode cX4_setOut 75 = .ok (.iconst 1, 1) := by decide +kernel
theorem dX4_setOut_76 : decode cX4_setOut 76 = .ok (.isub, 1) := by decide +kernel
theorem dX4_setOut_77 : decode cX4_setOut 77 = .ok (.putfield 65, 3) := by decide +kernel
theorem dX4_setOut_80 : decode cX4_setOut 80 = .ok (.aload_n 1, 1) := by decide +kernel
theorem dX4_setOut_81 : decode cX4_setOut 81 = .ok (.aload_n 0, 1) := by decide +kernel
theorem dX4_setOut_82 : decode cX4_setOut 82 = .ok (.getfield 12, 3) := by decide +kernel
theorem dX4_setOut_85 : decode cX4_setOut 85 = .ok (.iload_n 3, 1) := by decide +kernel
theorem dX4_setOut_86 : decode cX4_setOut 86 = .ok (.iload_n 2, 1) := by decide +kernel
theorem dX4_setOut_87 : decode cX4_setOut 87 = .ok (.invokevirtual 140, 3) := by decide +kernel
theorem dX4_setOut_90 : decode cX4_setOut 90 = .ok (.iconst 1, 1) := by decide +kernel
theorem dX4_setOut_91 : decode cX4_setOut 91 = .ok (.isub, 1) := by decide +kernel
theorem dX4_setOut_92 : decode cX4_setOut 92 = .ok (.putfield 137, 3) := by decide +kernel
theorem dX4_setOut_95 : decode cX4_setOut 95 = .ok (.return_, 1) := by decide +kernel
theorem dX4_bearIce_0 : decode cX4_bearIce 0 = .ok (.aload_n 1, 1) := by decide +kernel
theorem dX4_bearIce_1 : decode cX4_bearIce 1 = .ok (.getfield 62, 3) := by decide +kernel
theorem dX4_bearIce_4 : decode cX4_bearIce 4 = .ok (.iconst 2, 1) := by decide +kernel
theorem dX4_bearIce_5 : decode cX4_bearIce 5 = .ok (.if_icmp .ne 27, 3) := by decide +kernel
theorem dX4_bearIce_8 : decode cX4_bearIce 8 = .ok (.aload_n 0, 1) := by decide +kernel
theorem dX4_bearIce_9 : decode cX4_bearIce 9 = .ok (.getfield 12, 3) := by decide +kernel
theorem dX4_bearIce_12 : decode cX4_bearIce 12 = .ok (.getfield 144, 3) := by decide +kernel
theorem dX4_bearIce_15 : decode cX4_bearIce 15 = .ok (.aload_n 1, 1) := by decide +kernel
theorem dX4_bearIce_16 : decode cX4_bearIce 16 = .ok (.getfield 68, 3) := by decide +kernel
theorem dX4_bearIce_19 : decode cX4_bearIce 19 = .ok (.iaload, 1) := by decide +kernel
theorem dX4_bearIce_20 : decode cX4_bearIce 20 = .ok (.bipush 20, 2) := by decide +kernel
theorem dX4_bearIce_22 : decode cX4_bearIce 22 = .ok (.if_icmp .le 10, 3) := by decide +kernel
theorem dX4_bearIce_25 : decode cX4_bearIce 25 = .ok (.aload_n 1, 1) := by decide +kernel
theorem dX4_bearIce_26 : decode cX4_bearIce 26 = .ok (.invokevirtual 147, 3) := by decide +kernel
theorem dX4_bearIce_29 : decode cX4_bearIce 29 = .ok (.goto 30, 3) := by decide +kernel
theorem dX4_bearIce_32 : decode cX4_bearIce 32 = .ok (.aload_n 1, 1) := by decide +kernel
theorem dX4_bearIce_33 : decode cX4_bearIce 33 = .ok (.getfield 62, 3) := by decide +kernel
theorem dX4_bearIce_36 : decode cX4_bearIce 36 = .ok (.ifCond .ne 23, 3) := by decide +kernel
theorem dX4_bearIce_39 : decode cX4_bearIce 39 = .ok (.aload_n 0, 1) := by decide +kernel
theorem dX4_bearIce_40 : decode cX4_bearIce 40 = .ok (.getfield 12, 3) := by decide +kernel
theorem dX4_bearIce_43 : decode cX4_bearIce 43 = .ok (.aload_n 1, 1) := by decide +kernel
theorem dX4_bearIce_44 : decode cX4_bearIce 44 = .ok (.getfield 65, 3) := by decide +kernel
theorem dX4_bearIce_47 : decode cX4_bearIce 47 = .ok (.invokevirtual 150, 3) := by decide +kernel
theorem dX4_bearIce_50 : decode cX4_bearIce 50 = .ok (.bipush 20, 2) := by decide +kernel
theorem dX4_bearIce_52 : decode cX4_bearIce 52 = .ok (.if_icmp .le 7, 3) := by decide +kernel
theorem dX4_bearIce_55 : decode cX4_bearIce 55 = .ok (.aload_n 1, 1) := by decide +kernel
theorem dX4_bearIce_56 : decode cX4_bearIce 56 = .ok (.invokevirtual 147, 3) := by decide +kernel
theorem dX4_bearIce_59 : decode cX4_bearIce 59 = .ok (.return_, 1) := by decide +kernel
theorem dX4_settle_0 : decode cX4_settle 0 = .ok (.aload_n 1, 1) := by decide +kernel
theorem dX4_settle_1 : decode cX4_settle 1 = .ok (.getfield 85, 3) := by decide +kernel
theorem dX4_settle_4 : decode cX4_settle 4 = .ok (.ifCond .ne 17, 3) := by decide +kernel
theorem dX4_settle_7 : decode cX4_settle 7 = .ok (.aload_n 1, 1) := by decide +kernel
theorem dX4_settle_8 : decode cX4_settle 8 = .ok (.getfield 153, 3) := by decide +kernel
theorem dX4_settle_11 : decode cX4_settle 11 = .ok (.aload_n 0, 1) := by decide +kernel
theorem dX4_settle_12 : decode cX4_settle 12 = .ok (.getfield 12, 3) := by decide +kernel
theorem dX4_settle_15 : decode cX4_settle 15 = .ok (.getfield 123, 3) := by decide +kernel
theorem dX4_settle_18 : decode cX4_settle 18 = .ok (.if_icmp .le 4, 3) := by decide +kernel
theorem dX4_settle_21 : decode cX4_settle 21 = .ok (.return_, 1) := by decide +kernel
theorem dX4_settle_22 : decode cX4_settle 22 = .ok (.aload_n 0, 1) := by decide +kernel
theorem dX4_settle_23 : decode cX4_settle 23 = .ok (.getfield 20, 3) := by decide +kernel
theorem dX4_settle_26 : decode cX4_settle 26 = .ok (.aload_n 1, 1) := by decide +kernel
theorem dX4_settle_27 : decode cX4_settle 27 = .ok (.getfield 82, 3) := by decide +kernel
theorem dX4_settle_30 : decode cX4_settle 30 = .ok (.aaload, 1) := by decide +kernel
theorem dX4_settle_31 : decode cX4_settle 31 = .ok (.astore_n 2, 1) := by decide +kernel
theorem dX4_settle_32 : decode cX4_settle 32 = .ok (.aload_n 1, 1) := by decide +kernel
theorem dX4_settle_33 : decode cX4_settle 33 = .ok (.getfield 156, 3) := by decide +kernel
theorem dX4_settle_36 : decode cX4_settle 36 = .ok (.aload_n 1, 1) := by decide +kernel
theorem dX4_settle_37 : decode cX4_settle 37 = .ok (.getfield 157, 3) := by decide +kernel
theorem dX4_settle_40 : decode cX4_settle 40 = .ok (.invokestatic 160, 3) := by decide +kernel
theorem dX4_settle_43 : decode cX4_settle 43 = .ok (.istore_n 3, 1) := by decide +kernel
theorem dX4_settle_44 : decode cX4_settle 44 = .ok (.aload_n 1, 1) := by decide +kernel
theorem dX4_settle_45 : decode cX4_settle 45 = .ok (.getfield 163, 3) := by decide +kernel
theorem dX4_settle_48 : decode cX4_settle 48 = .ok (.aload_n 0, 1) := by decide +kernel
theorem dX4_settle_49 : decode cX4_settle 49 = .ok (.getfield 12, 3) := by decide +kernel
theorem dX4_settle_52 : decode cX4_settle 52 = .ok (.getfield 166, 3) := by decide +kernel
theorem dX4_settle_55 : decode cX4_settle 55 = .ok (.iload_n 3, 1) := by decide +kernel
theorem dX4_settle_56 : decode cX4_settle 56 = .ok (.iaload, 1) := by decide +kernel
theorem dX4_settle_57 : decode cX4_settle 57 = .ok (.imul, 1) := by decide +kernel
theorem dX4_settle_58 : decode cX4_settle 58 = .ok (.istore 4, 2) := by decide +kernel
theorem dX4_settle_60 : decode cX4_settle 60 = .ok (.aload_n 2, 1) := by decide +kernel
theorem dX4_settle_61 : decode cX4_settle 61 = .ok (.getfield 105, 3) := by decide +kernel
theorem dX4_settle_64 : decode cX4_settle 64 = .ok (.iload_n 3, 1) := by decide +kernel
theorem dX4_settle_65 : decode cX4_settle 65 = .ok (.iaload, 1) := by decide +kernel
theorem dX4_settle_66 : decode cX4_settle 66 = .ok (.aload_n 1, 1) := by decide +kernel
theorem dX4_settle_67 : decode cX4_settle 67 = .ok (.getfield 163, 3) := by decide +kernel
theorem dX4_settle_70 : decode cX4_settle 70 = .ok (.if_icmp .lt 28, 3) := by decide +kernel
theorem dX4_settle_73 : decode cX4_settle 73 = .ok (.aload_n 0, 1) := by decide +kernel
theorem dX4_settle_74 : decode cX4_settle 74 = .ok (.aload_n 1, 1) := by decide +kernel
theorem dX4_settle_75 : decode cX4_settle 75 = .ok (.getfield 82, 3) := by decide +kernel
theorem dX4_settle_78 : decode cX4_settle 78 = .ok (.aload_n 1, 1) := by decide +kernel
theorem dX4_settle_79 : decode cX4_settle 79 = .ok (.getfield 169, 3) := by decide +kernel
theorem dX4_settle_82 : decode cX4_settle 82 = .ok (.iload_n 3, 1) := by decide +kernel
theorem dX4_settle_83 : decode cX4_settle 83 = .ok (.aload_n 1, 1) := by decide +kernel
theorem dX4_settle_84 : decode cX4_settle 84 = .ok (.getfield 163, 3) := by decide +kernel
theorem dX4_settle_87 : decode cX4_settle 87 = .ok (.invokevirtual 172, 3) := by decide +kernel
theorem dX4_settle_90 : decode cX4_settle 90 = .ok (.aload_n 1, 1) := by decide +kernel
theorem dX4_settle_91 : decode cX4_settle 91 = .ok (.iconst 1, 1) := by decide +kernel
theorem dX4_settle_92 : decode cX4_settle 92 = .ok (.putfield 85, 3) := by decide +kernel
theorem dX4_settle_95 : decode cX4_settle 95 = .ok (.goto 55, 3) := by decide +kernel
theorem dX4_settle_98 : decode cX4_settle 98 = .ok (.aload_n 2, 1) := by decide +kernel
theorem dX4_settle_99 : decode cX4_settle 99 = .ok (.getfield 88, 3) := by decide +kernel
theorem dX4_settle_102 : decode cX4_settle 102 = .ok (.iload 4, 2) := by decide +kernel
theorem dX4_settle_104 : decode cX4_settle 104 = .ok (.if_icmp .lt 41, 3) := by decide +kernel
theorem dX4_settle_107 : decode cX4_settle 107 = .ok (.aload_n 2, 1) := by decide +kernel
theorem dX4_settle_108 : decode cX4_settle 108 = .ok (.dup, 1) := by decide +kernel
theorem dX4_settle_109 : decode cX4_settle 109 = .ok (.getfield 88, 3) := by decide +kernel
theorem dX4_settle_112 : decode cX4_settle 112 = .ok (.iload 4, 2) := by decide +kernel
theorem dX4_settle_114 : decode cX4_settle 114 = .ok (.isub, 1) := by decide +kernel
theorem dX4_settle_115 : decode cX4_settle 115 = .ok (.putfield 88, 3) := by decide +kernel
theorem dX4_settle_118 : decode cX4_settle 118 = .ok (.aload_n 0, 1) := by decide +kernel
theorem dX4_settle_119 : decode cX4_settle 119 = .ok (.getfield 20, 3) := by decide +kernel
theorem dX4_settle_122 : decode cX4_settle 122 = .ok (.aload_n 1, 1) := by decide +kernel
theorem dX4_settle_123 : decode cX4_settle 123 = .ok (.getfield 169, 3) := by decide +kernel
theorem dX4_settle_126 : decode cX4_settle 126 = .ok (.aaload, 1) := by decide +kernel
theorem dX4_settle_127 : decode cX4_settle 127 = .ok (.dup, 1) := by decide +kernel
theorem dX4_settle_128 : decode cX4_settle 128 = .ok (.getfield 88, 3) := by decide +kernel
theorem dX4_settle_131 : decode cX4_settle 131 = .ok (.iload 4, 2) := by decide +kernel
theorem dX4_settle_133 : decode cX4_settle 133 = .ok (.iadd, 1) := by decide +kernel
theorem dX4_settle_134 : decode cX4_settle 134 = .ok (.putfield 88, 3) := by decide +kernel
theorem dX4_settle_137 : decode cX4_settle 137 = .ok (.aload_n 1, 1) := by decide +kernel
theorem dX4_settle_138 : decode cX4_settle 138 = .ok (.iconst 1, 1) := by decide +kernel
theorem dX4_settle_139 : decode cX4_settle 139 = .ok (.putfield 85, 3) := by decide +kernel
theorem dX4_settle_142 : decode cX4_settle 142 = .ok (.goto 8, 3) := by decide +kernel
theorem dX4_settle_145 : decode cX4_settle 145 = .ok (.aload_n 1, 1) := by decide +kernel
theorem dX4_settle_146 : decode cX4_settle 146 = .ok (.iconst 2, 1) := by decide +kernel
theorem dX4_settle_147 : decode cX4_settle 147 = .ok (.putfield 85, 3) := by decide +kernel
theorem dX4_settle_150 : decode cX4_settle 150 = .ok (.return_, 1) := by decide +kernel
theorem dJ9_floorMod_7cf53_0 : decode cJ9_floorMod_7cf53 0 = .ok (.iload_n 0, 1) := by decide +kernel
theorem dJ9_floorMod_7cf53_1 : decode cJ9_floorMod_7cf53 1 = .ok (.iload_n 1, 1) := by decide +kernel
theorem dJ9_floorMod_7cf53_2 : decode cJ9_floorMod_7cf53 2 = .ok (.irem, 1) := by decide +kernel
theorem dJ9_floorMod_7cf53_3 : decode cJ9_floorMod_7cf53 3 = .ok (.istore_n 2, 1) := by decide +kernel
theorem dJ9_floorMod_7cf53_4 : decode cJ9_floorMod_7cf53 4 = .ok (.iload_n 0, 1) := by decide +kernel
theorem dJ9_floorMod_7cf53_5 : decode cJ9_floorMod_7cf53 5 = .ok (.iload_n 1, 1) := by decide +kernel
theorem dJ9_floorMod_7cf53_6 : decode cJ9_floorMod_7cf53 6 = .ok (.ixor, 1) := by decide +kernel
theorem dJ9_floorMod_7cf53_7 : decode cJ9_floorMod_7cf53 7 = .ok (.ifCond .ge 11, 3) := by decide +kernel
theorem dJ9_floorMod_7cf53_10 : decode cJ9_floorMod_7cf53 10 = .ok (.iload_n 2, 1) := by decide +kernel
theorem dJ9_floorMod_7cf53_11 : decode cJ9_floorMod_7cf53 11 = .ok (.ifCond .eq 7, 3) := by decide +kernel
theorem dJ9_floorMod_7cf53_14 : decode cJ9_floorMod_7cf53 14 = .ok (.iload_n 2, 1) := by decide +kernel
theorem dJ9_floorMod_7cf53_15 : decode cJ9_floorMod_7cf53 15 = .ok (.iload_n 1, 1) := by decide +kernel
theorem dJ9_floorMod_7cf53_16 : decode cJ9_floorMod_7cf53 16 = .ok (.iadd, 1) := by decide +kernel
theorem dJ9_floorMod_7cf53_17 : decode cJ9_floorMod_7cf53 17 = .ok (.ireturn, 1) := by decide +kernel
theorem dJ9_floorMod_7cf53_18 : decode cJ9_floorMod_7cf53 18 = .ok (.iload_n 2, 1) := by decide +kernel
theorem dJ9_floorMod_7cf53_19 : decode cJ9_floorMod_7cf53 19 = .ok (.ireturn, 1) := by decide +kernel
theorem dJ9_abs_0f7a4_0 : decode cJ9_abs_0f7a4 0 = .ok (.iload_n 0, 1) := by decide +kernel
theorem dJ9_abs_0f7a4_1 : decode cJ9_abs_0f7a4 1 = .ok (.ifCond .ge 8, 3) := by decide +kernel
theorem dJ9_abs_0f7a4_4 : decode cJ9_abs_0f7a4 4 = .ok (.iload_n 0, 1) := by decide +kernel
theorem dJ9_abs_0f7a4_5 : decode cJ9_abs_0f7a4 5 = .ok (.ineg, 1) := by decide +kernel
theorem dJ9_abs_0f7a4_6 : decode cJ9_abs_0f7a4 6 = .ok (.goto 4, 3) := by decide +kernel
theorem dJ9_abs_0f7a4_9 : decode cJ9_abs_0f7a4 9 = .ok (.iload_n 0, 1) := by decide +kernel
theorem dJ9_abs_0f7a4_10 : decode cJ9_abs_0f7a4 10 = .ok (.ireturn, 1) := by decide +kernel
theorem dJ9_max_7cf53_0 : decode cJ9_max_7cf53 0 = .ok (.iload_n 0, 1) := by decide +kernel
theorem dJ9_max_7cf53_1 : decode cJ9_max_7cf53 1 = .ok (.iload_n 1, 1) := by decide +kernel
theorem dJ9_max_7cf53_2 : decode cJ9_max_7cf53 2 = .ok (.if_icmp .lt 7, 3) := by decide +kernel
theorem dJ9_max_7cf53_5 : decode cJ9_max_7cf53 5 = .ok (.iload_n 0, 1) := by decide +kernel
theorem dJ9_max_7cf53_6 : decode cJ9_max_7cf53 6 = .ok (.goto 4, 3) := by decide +kernel
theorem dJ9_max_7cf53_9 : decode cJ9_max_7cf53 9 = .ok (.iload_n 1, 1) := by decide +kernel
theorem dJ9_max_7cf53_10 : decode cJ9_max_7cf53 10 = .ok (.ireturn, 1) := by decide +kernel
theorem dJ9_min_7cf53_0 : decode cJ9_min_7cf53 0 = .ok (.iload_n 0, 1) := by decide +kernel
theorem dJ9_min_7cf53_1 : decode cJ9_min_7cf53 1 = .ok (.iload_n 1, 1) := by decide +kernel
theorem dJ9_min_7cf53_2 : decode cJ9_min_7cf53 2 = .ok (.if_icmp .gt 7, 3) := by decide +kernel
theorem dJ9_min_7cf53_5 : decode cJ9_min_7cf53 5 = .ok (.iload_n 0, 1) := by decide +kernel
theorem dJ9_min_7cf53_6 : decode cJ9_min_7cf53 6 = .ok (.goto 4, 3) := by decide +kernel
theorem dJ9_min_7cf53_9 : decode cJ9_min_7cf53 9 = .ok (.iload_n 1, 1) := by decide +kernel
theorem dJ9_min_7cf53_10 : decode cJ9_min_7cf53 10 = .ok (.ireturn, 1) := by decide +kernel
theorem dJ7_fill_53178_0 : decode cJ7_fill_53178 0 = .ok (.iconst 0, 1) := by decide +kernel
theorem dJ7_fill_53178_1 : decode cJ7_fill_53178 1 = .ok (.istore_n 2, 1) := by decide +kernel
theorem dJ7_fill_53178_2 : decode cJ7_fill_53178 2 = .ok (.aload_n 0, 1) := by decide +kernel
theorem dJ7_fill_53178_3 : decode cJ7_fill_53178 3 = .ok (.arraylength, 1) := by decide +kernel
theorem dJ7_fill_53178_4 : decode cJ7_fill_53178 4 = .ok (.istore_n 3, 1) := by decide +kernel
theorem dJ7_fill_53178_5 : decode cJ7_fill_53178 5 = .ok (.iload_n 2, 1) := by decide +kernel
theorem dJ7_fill_53178_6 : decode cJ7_fill_53178 6 = .ok (.iload_n 3, 1) := by decide +kernel
theorem dJ7_fill_53178_7 : decode cJ7_fill_53178 7 = .ok (.if_icmp .ge 13, 3) := by decide +kernel
theorem dJ7_fill_53178_10 : decode cJ7_fill_53178 10 = .ok (.aload_n 0, 1) := by decide +kernel
theorem dJ7_fill_53178_11 : decode cJ7_fill_53178 11 = .ok (.iload_n 2, 1) := by decide +kernel
theorem dJ7_fill_53178_12 : decode cJ7_fill_53178 12 = .ok (.iload_n 1, 1) := by decide +kernel
theorem dJ7_fill_53178_13 : decode cJ7_fill_53178 13 = .ok (.iastore, 1) := by decide +kernel
theorem dJ7_fill_53178_14 : decode cJ7_fill_53178 14 = .ok (.iinc 2 1, 3) := by decide +kernel
theorem dJ7_fill_53178_17 : decode cJ7_fill_53178 17 = .ok (.goto (-12), 3) := by decide +kernel
theorem dJ7_fill_53178_20 : decode cJ7_fill_53178 20 = .ok (.return_, 1) := by decide +kernel
