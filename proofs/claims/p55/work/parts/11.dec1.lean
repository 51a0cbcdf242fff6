theorem dX0_init_0 : decode cX0_init 0 = .ok (.aload_n 0, 1) := by decide +kernel
theorem dX0_init_1 : decode cX0_init 1 = .ok (.invokespecial 3, 3) := by decide +kernel
theorem dX0_init_4 : decode cX0_init 4 = .ok (.aload_n 0, 1) := by decide +kernel
theorem dX0_init_5 : decode cX0_init 5 = .ok (.iload_n 1, 1) := by decide +kernel
theorem dX0_init_6 : decode cX0_init 6 = .ok (.putfield 9, 3) := by decide +kernel
theorem dX0_init_9 : decode cX0_init 9 = .ok (.aload_n 0, 1) := by decide +kernel
theorem dX0_init_10 : decode cX0_init 10 = .ok (.iload_n 2, 1) := by decide +kernel
theorem dX0_init_11 : decode cX0_init 11 = .ok (.putfield 15, 3) := by decide +kernel
theorem dX0_init_14 : decode cX0_init 14 = .ok (.return_, 1) := by decide +kernel
theorem dX1_init_0 : decode cX1_init 0 = .ok (.aload_n 0, 1) := by decide +kernel
theorem dX1_init_1 : decode cX1_init 1 = .ok (.iload_n 1, 1) := by decide +kernel
theorem dX1_init_2 : decode cX1_init 2 = .ok (.iload_n 2, 1) := by decide +kernel
theorem dX1_init_3 : decode cX1_init 3 = .ok (.invokespecial 3, 3) := by decide +kernel
theorem dX1_init_6 : decode cX1_init 6 = .ok (.aload_n 0, 1) := by decide +kernel
theorem dX1_init_7 : decode cX1_init 7 = .ok (.iconst 4, 1) := by decide +kernel
theorem dX1_init_8 : decode cX1_init 8 = .ok (.newarray .int, 2) := by decide +kernel
theorem dX1_init_10 : decode cX1_init 10 = .ok (.putfield 9, 3) := by decide +kernel
theorem dX1_init_13 : decode cX1_init 13 = .ok (.aload_n 0, 1) := by decide +kernel
theorem dX1_init_14 : decode cX1_init 14 = .ok (.bipush 40, 2) := by decide +kernel
theorem dX1_init_16 : decode cX1_init 16 = .ok (.newarray .int, 2) := by decide +kernel
theorem dX1_init_18 : decode cX1_init 18 = .ok (.putfield 15, 3) := by decide +kernel
theorem dX1_init_21 : decode cX1_init 21 = .ok (.aload_n 0, 1) := by decide +kernel
theorem dX1_init_22 : decode cX1_init 22 = .ok (.bipush 8, 2) := by decide +kernel
theorem dX1_init_24 : decode cX1_init 24 = .ok (.newarray .int, 2) := by decide +kernel
theorem dX1_init_26 : decode cX1_init 26 = .ok (.putfield 18, 3) := by decide +kernel
theorem dX1_init_29 : decode cX1_init 29 = .ok (.aload_n 0, 1) := by decide +kernel
theorem dX1_init_30 : decode cX1_init 30 = .ok (.iconst (-1), 1) := by decide +kernel
theorem dX1_init_31 : decode cX1_init 31 = .ok (.putfield 21, 3) := by decide +kernel
theorem dX1_init_34 : decode cX1_init 34 = .ok (.aload_n 0, 1) := by decide +kernel
theorem dX1_init_35 : decode cX1_init 35 = .ok (.iconst (-1), 1) := by decide +kernel
theorem dX1_init_36 : decode cX1_init 36 = .ok (.putfield 25, 3) := by decide +kernel
theorem dX1_init_39 : decode cX1_init 39 = .ok (.aload_n 0, 1) := by decide +kernel
theorem dX1_init_40 : decode cX1_init 40 = .ok (.iconst (-1), 1) := by decide +kernel
theorem dX1_init_41 : decode cX1_init 41 = .ok (.putfield 28, 3) := by decide +kernel
theorem dX1_init_44 : decode cX1_init 44 = .ok (.aload_n 0, 1) := by decide +kernel
theorem dX1_init_45 : decode cX1_init 45 = .ok (.iload_n 3, 1) := by decide +kernel
theorem dX1_init_46 : decode cX1_init 46 = .ok (.putfield 31, 3) := by decide +kernel
theorem dX1_init_49 : decode cX1_init 49 = .ok (.aload_n 0, 1) := by decide +kernel
theorem dX1_init_50 : decode cX1_init 50 = .ok (.iload 4, 2) := by decide +kernel
theorem dX1_init_52 : decode cX1_init 52 = .ok (.putfield 34, 3) := by decide +kernel
theorem dX1_init_55 : decode cX1_init 55 = .ok (.aload_n 0, 1) := by decide +kernel
theorem dX1_init_56 : decode cX1_init 56 = .ok (.iload 4, 2) := by decide +kernel
theorem dX1_init_58 : decode cX1_init 58 = .ok (.putfield 37, 3) := by decide +kernel
theorem dX1_init_61 : decode cX1_init 61 = .ok (.aload_n 0, 1) := by decide +kernel
theorem dX1_init_62 : decode cX1_init 62 = .ok (.iload 5, 2) := by decide +kernel
theorem dX1_init_64 : decode cX1_init 64 = .ok (.putfield 40, 3) := by decide +kernel
theorem dX1_init_67 : decode cX1_init 67 = .ok (.aload_n 0, 1) := by decide +kernel
theorem dX1_init_68 : decode cX1_init 68 = .ok (.iload_n 2, 1) := by decide +kernel
theorem dX1_init_69 : decode cX1_init 69 = .ok (.iconst 2, 1) := by decide +kernel
theorem dX1_init_70 : decode cX1_init 70 = .ok (.if_icmp .eq 8, 3) := by decide +kernel
theorem dX1_init_73 : decode cX1_init 73 = .ok (.iload_n 2, 1) := by decide +kernel
theorem dX1_init_74 : decode cX1_init 74 = .ok (.iconst 5, 1) := by decide +kernel
theorem dX1_init_75 : decode cX1_init 75 = .ok (.if_icmp .ne 13, 3) := by decide +kernel
theorem dX1_init_78 : decode cX1_init 78 = .ok (.new 43, 3) := by decide +kernel
theorem dX1_init_81 : decode cX1_init 81 = .ok (.dup, 1) := by decide +kernel
theorem dX1_init_82 : decode cX1_init 82 = .ok (.invokespecial 45, 3) := by decide +kernel
theorem dX1_init_85 : decode cX1_init 85 = .ok (.goto 4, 3) := by decide +kernel
theorem dX1_init_88 : decode cX1_init 88 = .ok (.aconst_null, 1) := by decide +kernel
theorem dX1_init_89 : decode cX1_init 89 = .ok (.putfield 48, 3) := by decide +kernel
theorem dX1_init_92 : decode cX1_init 92 = .ok (.return_, 1) := by decide +kernel
theorem dX1_takeSteps_0 : decode cX1_takeSteps 0 = .ok (.iconst 0, 1) := by decide +kernel
theorem dX1_takeSteps_1 : decode cX1_takeSteps 1 = .ok (.istore_n 3, 1) := by decide +kernel
theorem dX1_takeSteps_2 : decode cX1_takeSteps 2 = .ok (.iload_n 3, 1) := by decide +kernel
theorem dX1_takeSteps_3 : decode cX1_takeSteps 3 = .ok (.iload_n 2, 1) := by decide +kernel
theorem dX1_takeSteps_4 : decode cX1_takeSteps 4 = .ok (.if_icmp .ge 36, 3) := by decide +kernel
theorem dX1_takeSteps_7 : decode cX1_takeSteps 7 = .ok (.iload_n 3, 1) := by decide +kernel
theorem dX1_takeSteps_8 : decode cX1_takeSteps 8 = .ok (.iconst 4, 1) := by decide +kernel
theorem dX1_takeSteps_9 : decode cX1_takeSteps 9 = .ok (.if_icmp .ge 31, 3) := by decide +kernel
theorem dX1_takeSteps_12 : decode cX1_takeSteps 12 = .ok (.iload_n 3, 1) := by decide +kernel
theorem dX1_takeSteps_13 : decode cX1_takeSteps 13 = .ok (.aload_n 1, 1) := by decide +kernel
theorem dX1_takeSteps_14 : decode cX1_takeSteps 14 = .ok (.arraylength, 1) := by decide +kernel
theorem dX1_takeSteps_15 : decode cX1_takeSteps 15 = .ok (.if_icmp .ge 25, 3) := by decide +kernel
theorem dX1_takeSteps_18 : decode cX1_takeSteps 18 = .ok (.aload_n 0, 1) := by decide +kernel
theorem dX1_takeSteps_19 : decode cX1_takeSteps 19 = .ok (.getfield 9, 3) := by decide +kernel
theorem dX1_takeSteps_22 : decode cX1_takeSteps 22 = .ok (.iload_n 3, 1) := by decide +kernel
theorem dX1_takeSteps_23 : decode cX1_takeSteps 23 = .ok (.aload_n 1, 1) := by decide +kernel
theorem dX1_takeSteps_24 : decode cX1_takeSteps 24 = .ok (.iload_n 3, 1) := by decide +kernel
theorem dX1_takeSteps_25 : decode cX1_takeSteps 25 = .ok (.iaload, 1) := by decide +kernel
theorem dX1_takeSteps_26 : decode cX1_takeSteps 26 = .ok (.iastore, 1) := by decide +kernel
theorem dX1_takeSteps_27 : decode cX1_takeSteps 27 = .ok (.aload_n 0, 1) := by decide +kernel
theorem dX1_takeSteps_28 : decode cX1_takeSteps 28 = .ok (.iload_n 3, 1) := by decide +kernel
theorem dX1_takeSteps_29 : decode cX1_takeSteps 29 = .ok (.iconst 1, 1) := by decide +kernel
theorem dX1_takeSteps_30 : decode cX1_takeSteps 30 = .ok (.iadd, 1) := by decide +kernel
theorem dX1_takeSteps_31 : decode cX1_takeSteps 31 = .ok (.putfield 52, 3) := by decide +kernel
theorem dX1_takeSteps_34 : decode cX1_takeSteps 34 = .ok (.iinc 3 1, 3) := by decide +kernel
theorem dX1_takeSteps_37 : decode cX1_takeSteps 37 = .ok (.goto (-35), 3) := by decide +kernel
theorem dX1_takeSteps_40 : decode cX1_takeSteps 40 = .ok (.return_, 1) := by decide +kernel
theorem dX1_liesNow_0 : decode cX1_liesNow 0 = .ok (.aload_n 0, 1) := by decide +kernel
theorem dX1_liesNow_1 : decode cX1_liesNow 1 = .ok (.getfield 52, 3) := by decide +kernel
theorem dX1_liesNow_4 : decode cX1_liesNow 4 = .ok (.ifCond .le 17, 3) := by decide +kernel
theorem dX1_liesNow_7 : decode cX1_liesNow 7 = .ok (.aload_n 0, 1) := by decide +kernel
theorem dX1_liesNow_8 : decode cX1_liesNow 8 = .ok (.getfield 9, 3) := by decide +kernel
theorem dX1_liesNow_11 : decode cX1_liesNow 11 = .ok (.aload_n 0, 1) := by decide +kernel
theorem dX1_liesNow_12 : decode cX1_liesNow 12 = .ok (.getfield 52, 3) := by decide +kernel
theorem dX1_liesNow_15 : decode cX1_liesNow 15 = .ok (.iconst 1, 1) := by decide +kernel
theorem dX1_liesNow_16 : decode cX1_liesNow 16 = .ok (.isub, 1) := by decide +kernel
theorem dX1_liesNow_17 : decode cX1_liesNow 17 = .ok (.iaload, 1) := by decide +kernel
theorem dX1_liesNow_18 : decode cX1_liesNow 18 = .ok (.goto 7, 3) := by decide +kernel
theorem dX1_liesNow_21 : decode cX1_liesNow 21 = .ok (.aload_n 0, 1) := by decide +kernel
theorem dX1_liesNow_22 : decode cX1_liesNow 22 = .ok (.getfield 34, 3) := by decide +kernel
theorem dX1_liesNow_25 : decode cX1_liesNow 25 = .ok (.ireturn, 1) := by decide +kernel
theorem dX1_isDown_0 : decode cX1_isDown 0 = .ok (.aload_n 0, 1) := by decide +kernel
theorem dX1_isDown_1 : decode cX1_isDown 1 = .ok (.getfield 21, 3) := by decide +kernel
theorem dX1_isDown_4 : decode cX1_isDown 4 = .ok (.ifCond .lt 7, 3) := by decide +kernel
theorem dX1_isDown_7 : decode cX1_isDown 7 = .ok (.iconst 1, 1) := by decide +kernel
theorem dX1_isDown_8 : decode cX1_isDown 8 = .ok (.goto 4, 3) := by decide +kernel
theorem dX1_isDown_11 : decode cX1_isDown 11 = .ok (.iconst 0, 1) := by decide +kernel
theorem dX1_isDown_12 : decode cX1_isDown 12 = .ok (.ireturn, 1) := by decide +kernel
theorem dX1_isOnPaper_0 : decode cX1_isOnPaper 0 = .ok (.iconst 0, 1) := by decide +kernel
theorem dX1_isOnPaper_1 : decode cX1_isOnPaper 1 = .ok (.istore_n 2, 1) := by decide +kernel
theorem dX1_isOnPaper_2 : decode cX1_isOnPaper 2 = .ok (.iload_n 2, 1) := by decide +kernel
theorem dX1_isOnPaper_3 : decode cX1_isOnPaper 3 = .ok (.aload_n 0, 1) := by decide +kernel
theorem dX1_isOnPaper_4 : decode cX1_isOnPaper 4 = .ok (.getfield 58, 3) := by decide +kernel
theorem dX1_isOnPaper_7 : decode cX1_isOnPaper 7 = .ok (.if_icmp .ge 21, 3) := by decide +kernel
theorem dX1_isOnPaper_10 : decode cX1_isOnPaper 10 = .ok (.aload_n 0, 1) := by decide +kernel
theorem dX1_isOnPaper_11 : decode cX1_isOnPaper 11 = .ok (.getfield 15, 3) := by decide +kernel
theorem dX1_isOnPaper_14 : decode cX1_isOnPaper 14 = .ok (.iload_n 2, 1) := by decide +kernel
theorem dX1_isOnPaper_15 : decode cX1_isOnPaper 15 = .ok (.iaload, 1) := by decide +kernel
theorem dX1_isOnPaper_16 : decode cX1_isOnPaper 16 = .ok (.iload_n 1, 1) := by decide +kernel
theorem dX1_isOnPaper_17 : decode cX1_isOnPaper 17 = .ok (.if_icmp .ne 5, 3) := by decide +kernel
theorem dX1_isOnPaper_20 : decode cX1_isOnPaper 20 = .ok (.iconst 1, 1) := by decide +kernel
theorem dX1_isOnPaper_21 : decode cX1_isOnPaper 21 = .ok (.ireturn, 1) := by decide +kernel
theorem dX1_isOnPaper_22 : decode cX1_isOnPaper 22 = .ok (.iinc 2 1, 3) := by decide +kernel
theorem dX1_isOnPaper_25 : decode cX1_isOnPaper 25 = .ok (.goto (-23), 3) := by decide +kernel
theorem dX1_isOnPaper_28 : decode cX1_isOnPaper 28 = .ok (.iconst 0, 1) := by decide +kernel
theorem dX1_isOnPaper_29 : decode cX1_isOnPaper 29 = .ok (.ireturn, 1) := by decide +kernel
theorem dX2_init_0 : decode cX2_init 0 = .ok (.aload_n 0, 1) := by decide +kernel
theorem dX2_init_1 : decode cX2_init 1 = .ok (.iload_n 1, 1) := by decide +kernel
theorem dX2_init_2 : decode cX2_init 2 = .ok (.bipush 7, 2) := by decide +kernel
theorem dX2_init_4 : decode cX2_init 4 = .ok (.invokespecial 3, 3) := by decide +kernel
theorem dX2_init_7 : decode cX2_init 7 = .ok (.aload_n 0, 1) := by decide +kernel
theorem dX2_init_8 : decode cX2_init 8 = .ok (.iconst (-1), 1) := by decide +kernel
theorem dX2_init_9 : decode cX2_init 9 = .ok (.putfield 9, 3) := by decide +kernel
theorem dX2_init_12 : decode cX2_init 12 = .ok (.aload_n 0, 1) := by decide +kernel
theorem dX2_init_13 : decode cX2_init 13 = .ok (.iload_n 2, 1) := by decide +kernel
theorem dX2_init_14 : decode cX2_init 14 = .ok (.putfield 15, 3) := by decide +kernel
theorem dX2_init_17 : decode cX2_init 17 = .ok (.aload_n 0, 1) := by decide +kernel
theorem dX2_init_18 : decode cX2_init 18 = .ok (.iload_n 3, 1) := by decide +kernel
theorem dX2_init_19 : decode cX2_init 19 = .ok (.putfield 18, 3) := by decide +kernel
theorem dX2_init_22 : decode cX2_init 22 = .ok (.return_, 1) := by decide +kernel
theorem dX2_hasLeft_0 : decode cX2_hasLeft 0 = .ok (.aload_n 0, 1) := by decide +kernel
theorem dX2_hasLeft_1 : decode cX2_hasLeft 1 = .ok (.getfield 9, 3) := by decide +kernel
theorem dX2_hasLeft_4 : decode cX2_hasLeft 4 = .ok (.ifCond .lt 7, 3) := by decide +kernel
theorem dX2_hasLeft_7 : decode cX2_hasLeft 7 = .ok (.iconst 1, 1) := by decide +kernel
theorem dX2_hasLeft_8 : decode cX2_hasLeft 8 = .ok (.goto 4, 3) := by decide +kernel
theorem dX2_hasLeft_11 : decode cX2_hasLeft 11 = .ok (.iconst 0, 1) := by decide +kernel
theorem dX2_hasLeft_12 : decode cX2_hasLeft 12 = .ok (.ireturn, 1) := by decide +kernel
theorem dX3_init_0 : decode cX3_init 0 = .ok (.aload_n 0, 1) := by decide +kernel
theorem dX3_init_1 : decode cX3_init 1 = .ok (.invokespecial 3, 3) := by decide +kernel
theorem dX3_init_4 : decode cX3_init 4 = .ok (.aload_n 0, 1) := by decide +kernel
theorem dX3_init_5 : decode cX3_init 5 = .ok (.bipush 60, 2) := by decide +kernel
theorem dX3_init_7 : decode cX3_init 7 = .ok (.newarray .int, 2) := by decide +kernel
theorem dX3_init_9 : decode cX3_init 9 = .ok (.putfield 9, 3) := by decide +kernel
theorem dX3_init_12 : decode cX3_init 12 = .ok (.aload_n 0, 1) := by decide +kernel
theorem dX3_init_13 : decode cX3_init 13 = .ok (.sipush 150, 3) := by decide +kernel
theorem dX3_init_16 : decode cX3_init 16 = .ok (.anewarray 15, 3) := by decide +kernel
theorem dX3_init_19 : decode cX3_init 19 = .ok (.putfield 17, 3) := by decide +kernel
theorem dX3_init_22 : decode cX3_init 22 = .ok (.aload_n 0, 1) := by decide +kernel
theorem dX3_init_23 : decode cX3_init 23 = .ok (.iconst 4, 1) := by decide +kernel
theorem dX3_init_24 : decode cX3_init 24 = .ok (.newarray .int, 2) := by decide +kernel
theorem dX3_init_26 : decode cX3_init 26 = .ok (.putfield 21, 3) := by decide +kernel
theorem dX3_init_29 : decode cX3_init 29 = .ok (.aload_n 0, 1) := by decide +kernel
theorem dX3_init_30 : decode cX3_init 30 = .ok (.sipush 200, 3) := by decide +kernel
theorem dX3_init_33 : decode cX3_init 33 = .ok (.newarray .int, 2) := by decide +kernel
theorem dX3_init_35 : decode cX3_init 35 = .ok (.putfield 24, 3) := by decide +kernel
theorem dX3_init_38 : decode cX3_init 38 = .ok (.aload_n 0, 1) := by decide +kernel
theorem dX3_init_39 : decode cX3_init 39 = .ok (.sipush 200, 3) := by decide +kernel
theorem dX3_init_42 : decode cX3_init 42 = .ok (.newarray .int, 2) := by decide +kernel
theorem dX3_init_44 : decode cX3_init 44 = .ok (.putfield 27, 3) := by decide +kernel
theorem dX3_init_47 : decode cX3_init 47 = .ok (.aload_n 0, 1) := by decide +kernel
theorem dX3_init_48 : decode cX3_init 48 = .ok (.sipush 200, 3) := by decide +kernel
theorem dX3_init_51 : decode cX3_init 51 = .ok (.newarray .int, 2) := by decide +kernel
theorem dX3_init_53 : decode cX3_init 53 = .ok (.putfield 30, 3) := by decide +kernel
theorem dX3_init_56 : decode cX3_init 56 = .ok (.aload_n 0, 1) := by decide +kernel
theorem dX3_init_57 : decode cX3_init 57 = .ok (.getfield 9, 3) := by decide +kernel
theorem dX3_init_60 : decode cX3_init 60 = .ok (.iconst (-1), 1) := by decide +kernel
theorem dX3_init_61 : decode cX3_init 61 = .ok (.invokestatic 33, 3) := by decide +kernel
theorem dX3_init_64 : decode cX3_init 64 = .ok (.return_, 1) := by decide +kernel
theorem dX3_isFull_0 : decode cX3_isFull 0 = .ok (.aload_n 0, 1) := by decide +kernel
theorem dX3_isFull_1 : decode cX3_isFull 1 = .ok (.getfield 39, 3) := by decide +kernel
theorem dX3_isFull_4 : decode cX3_isFull 4 = .ok (.sipush 150, 3) := by decide +kernel
theorem dX3_isFull_7 : decode cX3_isFull 7 = .ok (.if_icmp .lt 7, 3) := by decide +kernel
theorem dX3_isFull_10 : decode cX3_isFull 10 = .ok (.iconst 1, 1) := by decide +kernel
theorem dX3_isFull_11 : decode cX3_isFull 11 = .ok (.goto 4, 3) := by decide +kernel
theorem dX3_isFull_14 : decode cX3_isFull 14 = .ok (.iconst 0, 1) := by decide +kernel
theorem dX3_isFull_15 : decode cX3_isFull 15 = .ok (.ireturn, 1) := by decide +kernel
theorem dX3_enter_0 : decode cX3_enter 0 = .ok (.aload_n 0, 1) := by decide +kernel
theorem dX3_enter_1 : decode cX3_enter 1 = .ok (.getfield 17, 3) := by decide +kernel
theorem dX3_enter_4 : decode cX3_enter 4 = .ok (.aload_n 0, 1) := by decide +kernel
theorem dX3_enter_5 : decode cX3_enter 5 = .ok (.getfield 39, 3) := by decide +kernel
theorem dX3_enter_8 : decode cX3_enter 8 = .ok (.aload_n 1, 1) := by decide +kernel
theorem dX3_enter_9 : decode cX3_enter 9 = .ok (.aastore, 1) := by decide +kernel
theorem dX3_enter_10 : decode cX3_enter 10 = .ok (.aload_n 0, 1) := by decide +kernel
theorem dX3_enter_11 : decode cX3_enter 11 = .ok (.dup, 1) := by decide +kernel
theorem dX3_enter_12 : decode cX3_enter 12 = .ok (.getfield 39, 3) := by decide +kernel
theorem dX3_enter_15 : decode cX3_enter 15 = .ok (.iconst 1, 1) := by decide +kernel
theorem dX3_enter_16 : decode cX3_enter 16 = .ok (.iadd, 1) := by decide +kernel
theorem dX3_enter_17 : decode cX3_enter 17 = .ok (.putfield 39, 3) := by decide +kernel
theorem dX3_enter_20 : decode cX3_enter 20 = .ok (.aload_n 1, 1) := by decide +kernel
theorem dX3_enter_21 : decode cX3_enter 21 = .ok (.getfield 43, 3) := by decide +kernel
theorem dX3_enter_24 : decode cX3_enter 24 = .ok (.ireturn, 1) := by decide +kernel
theorem dX3_bodyAt_0 : decode cX3_bodyAt 0 = .ok (.iload_n 1, 1) := by decide +kernel
theorem dX3_bodyAt_1 : decode cX3_bodyAt 1 = .ok (.ifCond .lt 11, 3) := by decide +kernel
theorem dX3_bodyAt_4 : decode cX3_bodyAt 4 = .ok (.iload_n 1, 1) := by decide +kernel
theorem dX3_bodyAt_5 : decode cX3_bodyAt 5 = .ok (.aload_n 0, 1) := by decide +kernel
theorem dX3_bodyAt_6 : decode cX3_bodyAt 6 = .ok (.getfield 39, 3) := by decide +kernel
theorem dX3_bodyAt_9 : decode cX3_bodyAt 9 = .ok (.if_icmp .lt 7, 3) := by decide +kernel
theorem dX3_bodyAt_12 : decode cX3_bodyAt 12 = .ok (.aconst_null, 1) := by decide +kernel
theorem dX3_bodyAt_13 : decode cX3_bodyAt 13 = .ok (.goto 9, 3) := by decide +kernel
theorem dX3_bodyAt_16 : decode cX3_bodyAt 16 = .ok (.aload_n 0, 1) := by decide +kernel
theorem dX3_bodyAt_17 : decode cX3_bodyAt 17 = .ok (.getfield 17, 3) := by decide +kernel
theorem dX3_bodyAt_20 : decode cX3_bodyAt 20 = .ok (.iload_n 1, 1) := by decide +kernel
theorem dX3_bodyAt_21 : decode cX3_bodyAt 21 = .ok (.aaload, 1) := by decide +kernel
theorem dX3_bodyAt_22 : decode cX3_bodyAt 22 = .ok (.areturn, 1) := by decide +kernel
theorem dX3_finderAt_0 : decode cX3_finderAt 0 = .ok (.iload_n 1, 1) := by decide +kernel
theorem dX3_finderAt_1 : decode cX3_finderAt 1 = .ok (.ifCond .lt 11, 3) := by decide +kernel
theorem dX3_finderAt_4 : decode cX3_finderAt 4 = .ok (.iload_n 1, 1) := by decide +kernel
theorem dX3_finderAt_5 : decode cX3_finderAt 5 = .ok (.aload_n 0, 1) := by decide +kernel
theorem dX3_finderAt_6 : decode cX3_finderAt 6 = .ok (.getfield 39, 3) := by decide +kernel
theorem dX3_finderAt_9 : decode cX3_finderAt 9 = .ok (.if_icmp .lt 7, 3) := by decide +kernel
theorem dX3_finderAt_12 : decode cX3_finderAt 12 = .ok (.aconst_null, 1) := by decide +kernel
theorem dX3_finderAt_13 : decode cX3_finderAt 13 = .ok (.goto 9, 3) := by decide +kernel
theorem dX3_finderAt_16 : decode cX3_finderAt 16 = .ok (.aload_n 0, 1) := by decide +kernel
theorem dX3_finderAt_17 : decode cX3_finderAt 17 = .ok (.getfield 17, 3) := by decide +kernel
theorem dX3_finderAt_20 : decode cX3_finderAt 20 = .ok (.iload_n 1, 1) := by decide +kernel
theorem dX3_finderAt_21 : decode cX3_finderAt 21 = .ok (.aaload, 1) := by decide +kernel
theorem dX3_finderAt_22 : decode cX3_finderAt 22 = .ok (.astore_n 2, 1) := by decide +kernel
theorem dX3_finderAt_23 : decode cX3_finderAt 23 = .ok (.aload_n 2, 1) := by decide +kernel
theorem dX3_finderAt_24 : decode cX3_finderAt 24 = .ok (.instanceof 46, 3) := by decide +kernel
theorem dX3_finderAt_27 : decode cX3_finderAt 27 = .ok (.ifCond .eq 10, 3) := by decide +kernel
theorem dX3_finderAt_30 : decode cX3_finderAt 30 = .ok (.aload_n 2, 1) := by decide +kernel
theorem dX3_finderAt_31 : decode cX3_finderAt 31 = .ok (.checkcast 46, 3) := by decide +kernel
theorem dX3_finderAt_34 : decode cX3_finderAt 34 = .ok (.goto 4, 3) := by decide +kernel
theorem dX3_finderAt_37 : decode cX3_finderAt 37 = .ok (.aconst_null, 1) := by decide +kernel
theorem dX3_finderAt_38 : decode cX3_finderAt 38 = .ok (.areturn, 1) := by decide +kernel
theorem dX3_boxAt_0 : decode cX3_boxAt 0 = .ok (.iload_n 1, 1) := by decide +kernel
theorem dX3_boxAt_1 : decode cX3_boxAt 1 = .ok (.ifCond .lt 11, 3) := by decide +kernel
theorem dX3_boxAt_4 : decode cX3_boxAt 4 = .ok (.iload_n 1, 1) := by decide +kernel
theorem dX3_boxAt_5 : decode cX3_boxAt 5 = .ok (.aload_n 0, 1) := by decide +kernel
theorem dX3_boxAt_6 : decode cX3_boxAt 6 = .ok (.getfield 39, 3) := by decide +kernel
theorem dX3_boxAt_9 : decode cX3_boxAt 9 = .ok (.if_icmp .lt 7, 3) := by decide +kernel
theorem dX3_boxAt_12 : decode cX3_boxAt 12 = .ok (.aconst_null, 1) := by decide +kernel
theorem dX3_boxAt_13 : decode cX3_boxAt 13 = .ok (.goto 9, 3) := by decide +kernel
theorem dX3_boxAt_16 : decode cX3_boxAt 16 = .ok (.aload_n 0, 1) := by decide +kernel
theorem dX3_boxAt_17 : decode cX3_boxAt 17 = .ok (.getfield 17, 3) := by decide +kernel
theorem dX3_boxAt_20 : decode cX3_boxAt 20 = .ok (.iload_n 1, 1) := by decide +kernel
theorem dX3_boxAt_21 : decode cX3_boxAt 21 = .ok (.aaload, 1) := by decide +kernel
theorem dX3_boxAt_22 : decode cX3_boxAt 22 = .ok (.astore_n 2, 1) := by decide +kernel
theorem dX3_boxAt_23 : decode cX3_boxAt 23 = .ok (.aload_n 2, 1) := by decide +kernel
theorem dX3_boxAt_24 : decode cX3_boxAt 24 = .ok (.instanceof 48, 3) := by decide +kernel
theorem dX3_boxAt_27 : decode cX3_boxAt 27 = .ok (.ifCond .eq 10, 3) := by decide +kernel
theorem dX3_boxAt_30 : decode cX3_boxAt 30 = .ok (.aload_n 2, 1) := by decide +kernel
theorem dX3_boxAt_31 : decode cX3_boxAt 31 = .ok (.checkcast 48, 3) := by decide +kernel
theorem dX3_boxAt_34 : decode cX3_boxAt 34 = .ok (.goto 4, 3) := by decide +kernel
theorem dX3_boxAt_37 : decode cX3_boxAt 37 = .ok (.aconst_null, 1) := by decide +kernel
theorem dX3_boxAt_38 : decode cX3_boxAt 38 = .ok (.areturn, 1) := by decide +kernel
theorem dX3_ownOf_0 : decode cX3_ownOf 0 = .ok (.iconst 0, 1) := by decide +kernel
theorem dX3_ownOf_1 : decode cX3_ownOf 1 = .ok (.istore_n 2, 1) := by decide +kernel
theorem dX3_ownOf_2 : decode cX3_ownOf 2 = .ok (.iconst 0, 1) := by decide +kernel
theorem dX3_ownOf_3 : decode cX3_ownOf 3 = .ok (.istore_n 3, 1) := by decide +kernel
theorem dX3_ownOf_4 : decode cX3_ownOf 4 = .ok (.iload_n 3, 1) := by decide +kernel
theorem dX3_ownOf_5 : decode cX3_ownOf 5 = .ok (.aload_n 0, 1) := by decide +kernel
theorem dX3_ownOf_6 : decode cX3_ownOf 6 = .ok (.getfield 39, 3) := by decide +kernel
theorem dX3_ownOf_9 : decode cX3_ownOf 9 = .ok (.if_icmp .ge 41, 3) := by decide +kernel
theorem dX3_ownOf_12 : decode cX3_ownOf 12 = .ok (.aload_n 0, 1) := by decide +kernel
theorem dX3_ownOf_13 : decode cX3_ownOf 13 = .ok (.iload_n 3, 1) := by decide +kernel
theorem dX3_ownOf_14 : decode cX3_ownOf 14 = .ok (.invokevirtual 52, 3) := by decide +kernel
theorem dX3_ownOf_17 : decode cX3_ownOf 17 = .ok (.astore 4, 2) := by decide +kernel
theorem dX3_ownOf_19 : decode cX3_ownOf 19 = .ok (.aload 4, 2) := by decide +kernel
theorem dX3_ownOf_21 : decode cX3_ownOf 21 = .ok (.ifnull 23, 3) := by decide +kernel
theorem dX3_ownOf_24 : decode cX3_ownOf 24 = .ok (.aload 4, 2) := by decide +kernel
theorem dX3_ownOf_26 : decode cX3_ownOf 26 = .ok (.getfield 56, 3) := by decide +kernel
theorem dX3_ownOf_29 : decode cX3_ownOf 29 = .ok (.iload_n 1, 1) := by decide +kernel
theorem dX3_ownOf_30 : decode cX3_ownOf 30 = .ok (.if_icmp .ne 14, 3) := by decide +kernel
theorem dX3_ownOf_33 : decode cX3_ownOf 33 = .ok (.aload 4, 2) := by decide +kernel
theorem dX3_ownOf_35 : decode cX3_ownOf 35 = .ok (.getfield 59, 3) := by decide +kernel
theorem dX3_ownOf_38 : decode cX3_ownOf 38 = .ok (.ifCond .ge 6, 3) := by decide +kernel
theorem dX3_ownOf_41 : decode cX3_ownOf 41 = .ok (.iinc 2 1, 3) := by decide +kernel
theorem dX3_ownOf_44 : decode cX3_ownOf 44 = .ok (.iinc 3 1, 3) := by decide +kernel
theorem dX3_ownOf_47 : decode cX3_ownOf 47 = .ok (.goto (-43), 3) := by decide +kernel
theorem dX3_ownOf_50 : decode cX3_ownOf 50 = .ok (.iload_n 2, 1) := by decide +kernel
theorem dX3_ownOf_51 : decode cX3_ownOf 51 = .ok (.ireturn, 1) := by decide +kernel
theorem dX4_init_0 : decode cX4_init 0 = .ok (.aload_n 0, 1) := by decide +kernel
theorem dX4_init_1 : decode cX4_init 1 = .ok (.invokespecial 3, 3) := by decide +kernel
theorem dX4_init_4 : decode cX4_init 4 = .ok (.aload_n 0, 1) := by decide +kernel
theorem dX4_init_5 : decode cX4_init 5 = .ok (.sipush 300, 3) := by decide +kernel
theorem dX4_init_8 : decode cX4_init 8 = .ok (.newarray .int, 2) := by decide +kernel
theorem dX4_init_10 : decode cX4_init 10 = .ok (.putfield 9, 3) := by decide +kernel
theorem dX4_init_13 : decode cX4_init 13 = .ok (.aload_n 0, 1) := by decide +kernel
theorem dX4_init_14 : decode cX4_init 14 = .ok (.sipush 300, 3) := by decide +kernel
theorem dX4_init_17 : decode cX4_init 17 = .ok (.newarray .boolean, 2) := by decide +kernel
theorem dX4_init_19 : decode cX4_init 19 = .ok (.putfield 15, 3) := by decide +kernel
theorem dX4_init_22 : decode cX4_init 22 = .ok (.aload_n 0, 1) := by decide +kernel
theorem dX4_init_23 : decode cX4_init 23 = .ok (.sipush 150, 3) := by decide +kernel
theorem dX4_init_26 : decode cX4_init 26 = .ok (.newarray .int, 2) := by decide +kernel
theorem dX4_init_28 : decode cX4_init 28 = .ok (.putfield 19, 3) := by decide +kernel
theorem dX4_init_31 : decode cX4_init 31 = .ok (.aload_n 0, 1) := by decide +kernel
theorem dX4_init_32 : decode cX4_init 32 = .ok (.sipush 300, 3) := by decide +kernel
theorem dX4_init_35 : decode cX4_init 35 = .ok (.newarray .int, 2) := by decide +kernel
theorem dX4_init_37 : decode cX4_init 37 = .ok (.putfield 22, 3) := by decide +kernel
theorem dX4_init_40 : decode cX4_init 40 = .ok (.aload_n 0, 1) := by decide +kernel
theorem dX4_init_41 : decode cX4_init 41 = .ok (.sipush 300, 3) := by decide +kernel
theorem dX4_init_44 : decode cX4_init 44 = .ok (.newarray .int, 2) := by decide +kernel
theorem dX4_init_46 : decode cX4_init 46 = .ok (.putfield 25, 3) := by decide +kernel
theorem dX4_init_49 : decode cX4_init 49 = .ok (.aload_n 0, 1) := by decide +kernel
theorem dX4_init_50 : decode cX4_init 50 = .ok (.sipush 300, 3) := by decide +kernel
theorem dX4_init_53 : decode cX4_init 53 = .ok (.newarray .boolean, 2) := by decide +kernel
theorem dX4_init_55 : decode cX4_init 55 = .ok (.putfield 28, 3) := by decide +kernel
theorem dX4_init_58 : decode cX4_init 58 = .ok (.aload_n 0, 1) := by decide +kernel
theorem dX4_init_59 : decode cX4_init 59 = .ok (.aload_n 1, 1) := by decide +kernel
theorem dX4_init_60 : decode cX4_init 60 = .ok (.putfield 31, 3) := by decide +kernel
theorem dX4_init_63 : decode cX4_init 63 = .ok (.aload_n 0, 1) := by decide +kernel
theorem dX4_init_64 : decode cX4_init 64 = .ok (.aload_n 2, 1) := by decide +kernel
theorem dX4_init_65 : decode cX4_init 65 = .ok (.putfield 35, 3) := by decide +kernel
theorem dX4_init_68 : decode cX4_init 68 = .ok (.return_, 1) := by decide +kernel
theorem dX4_whereAfter_0 : decode cX4_whereAfter 0 = .ok (.iload_n 2, 1) := by decide +kernel
theorem dX4_whereAfter_1 : decode cX4_whereAfter 1 = .ok (.ifCond .lt 11, 3) := by decide +kernel
theorem dX4_whereAfter_4 : decode cX4_whereAfter 4 = .ok (.iload_n 2, 1) := by decide +kernel
theorem dX4_whereAfter_5 : decode cX4_whereAfter 5 = .ok (.aload_n 1, 1) := by decide +kernel
theorem dX4_whereAfter_6 : decode cX4_whereAfter 6 = .ok (.getfield 130, 3) := by decide +kernel
theorem dX4_whereAfter_9 : decode cX4_whereAfter 9 = .ok (.if_icmp .lt 5, 3) := by decide +kernel
theorem dX4_whereAfter_12 : decode cX4_whereAfter 12 = .ok (.iconst (-1), 1) := by decide +kernel
theorem dX4_whereAfter_13 : decode cX4_whereAfter 13 = .ok (.ireturn, 1) := by decide +kernel
theorem dX4_whereAfter_14 : decode cX4_whereAfter 14 = .ok (.aload_n 1, 1) := by decide +kernel
theorem dX4_whereAfter_15 : decode cX4_whereAfter 15 = .ok (.getfield 135, 3) := by decide +kernel
theorem dX4_whereAfter_18 : decode cX4_whereAfter 18 = .ok (.iload_n 2, 1) := by decide +kernel
theorem dX4_whereAfter_19 : decode cX4_whereAfter 19 = .ok (.baload, 1) := by decide +kernel
theorem dX4_whereAfter_20 : decode cX4_whereAfter 20 = .ok (.ifCond .eq 17, 3) := by decide +kernel
theorem dX4_whereAfter_23 : decode cX4_whereAfter 23 = .ok (.aload_n 0, 1) := by decide +kernel
theorem dX4_whereAfter_24 : decode cX4_whereAfter 24 = .ok (.getfield 22, 3) := by decide +kernel
theorem dX4_whereAfter_27 : decode cX4_whereAfter 27 = .ok (.aload_n 1, 1) := by decide +kernel
theorem dX4_whereAfter_28 : decode cX4_whereAfter 28 = .ok (.getfield 138, 3) := by decide +kernel
theorem dX4_whereAfter_31 : decode cX4_whereAfter 31 = .ok (.iload_n 2, 1) := by decide +kernel
theorem dX4_whereAfter_32 : decode cX4_whereAfter 32 = .ok (.iaload, 1) := by decide +kernel
theorem dX4_whereAfter_33 : decode cX4_whereAfter 33 = .ok (.iaload, 1) := by decide +kernel
theorem dX4_whereAfter_34 : decode cX4_whereAfter 34 = .ok (.goto 14, 3) := by decide +kernel
theorem dX4_whereAfter_37 : decode cX4_whereAfter 37 = .ok (.aload_n 0, 1) := by decide +kernel
theorem dX4_whereAfter_38 : decode cX4_whereAfter 38 = .ok (.getfield 9, 3) := by decide +kernel
theorem dX4_whereAfter_41 : decode cX4_whereAfter 41 = .ok (.aload_n 1, 1) := by decide +kernel
theorem dX4_whereAfter_42 : decode cX4_whereAfter 42 = .ok (.getfield 138, 3) := by decide +kernel
theorem dX4_whereAfter_45 : decode cX4_whereAfter 45 = .ok (.iload_n 2, 1) := by decide +kernel
theorem dX4_whereAfter_46 : decode cX4_whereAfter 46 = .ok (.iaload, 1) := by decide +kernel
theorem dX4_whereAfter_47 : decode cX4_whereAfter 47 = .ok (.iaload, 1) := by decide +kernel
theorem dX4_whereAfter_48 : decode cX4_whereAfter 48 = .ok (.ireturn, 1) := by decide +kernel
theorem dX5_init_0 : decode cX5_init 0 = .ok (.aload_n 0, 1) := by decide +kernel
theorem dX5_init_1 : decode cX5_init 1 = .ok (.invokespecial 3, 3) := by decide +kernel
theorem dX5_init_4 : decode cX5_init 4 = .ok (.aload_n 0, 1) := by decide +kernel
theorem dX5_init_5 : decode cX5_init 5 = .ok (.bipush 8, 2) := by decide +kernel
theorem dX5_init_7 : decode cX5_init 7 = .ok (.newarray .int, 2) := by decide +kernel
theorem dX5_init_9 : decode cX5_init 9 = .ok (.putfield 11, 3) := by decide +kernel
theorem dX5_init_12 : decode cX5_init 12 = .ok (.aload_n 0, 1) := by decide +kernel
theorem dX5_init_13 : decode cX5_init 13 = .ok (.bipush 8, 2) := by decide +kernel
theorem dX5_init_15 : decode cX5_init 15 = .ok (.newarray .int, 2) := by decide +kernel
theorem dX5_init_17 : decode cX5_init 17 = .ok (.putfield 15, 3) := by decide +kernel
theorem dX5_init_20 : decode cX5_init 20 = .ok (.aload_n 0, 1) := by decide +kernel
theorem dX5_init_21 : decode cX5_init 21 = .ok (.bipush 8, 2) := by decide +kernel
theorem dX5_init_23 : decode cX5_init 23 = .ok (.newarray .int, 2) := by decide +kernel
theorem dX5_init_25 : decode cX5_init 25 = .ok (.putfield 18, 3) := by decide +kernel
theorem dX5_init_28 : decode cX5_init 28 = .ok (.aload_n 0, 1) := by decide +kernel
theorem dX5_init_29 : decode cX5_init 29 = .ok (.bipush 8, 2) := by decide +kernel
theorem dX5_init_31 : decode cX5_init 31 = .ok (.newarray .int, 2) := by decide +kernel
theorem dX5_init_33 : decode cX5_init 33 = .ok (.putfield 21, 3) := by decide +kernel
theorem dX5_init_36 : decode cX5_init 36 = .ok (.aload_n 0, 1) := by decide +kernel
theorem dX5_init_37 : decode cX5_init 37 = .ok (.bipush 8, 2) := by decide +kernel
theorem dX5_init_39 : decode cX5_init 39 = .ok (.newarray .int, 2) := by decide +kernel
theorem dX5_init_41 : decode cX5_init 41 = .ok (.putfield 24, 3) := by decide +kernel
theorem dX5_init_44 : decode cX5_init 44 = .ok (.aload_n 0, 1) := by decide +kernel
theorem dX5_init_45 : decode cX5_init 45 = .ok (.iconst (-1), 1) := by decide +kernel
theorem dX5_init_46 : decode cX5_init 46 = .ok (.putfield 27, 3) := by decide +kernel
theorem dX5_init_49 : decode cX5_init 49 = .ok (.aload_n 0, 1) := by decide +kernel
theorem dX5_init_50 : decode cX5_init 50 = .ok (.iconst (-1), 1) := by decide +kernel
theorem dX5_init_51 : decode cX5_init 51 = .ok (.putfield 31, 3) := by decide +kernel
theorem dX5_init_54 : decode cX5_init 54 = .ok (.aload_n 0, 1) := by decide +kernel
theorem dX5_init_55 : decode cX5_init 55 = .ok (.bipush 6, 2) := by decide +kernel
theorem dX5_init_57 : decode cX5_init 57 = .ok (.newarray .int, 2) := by decide +kernel
theorem dX5_init_59 : decode cX5_init 59 = .ok (.putfield 34, 3) := by decide +kernel
theorem dX5_init_62 : decode cX5_init 62 = .ok (.return_, 1) := by decide +kernel
theorem dX6_init_0 : decode cX6_init 0 = .ok (.aload_n 0, 1) := by decide +kernel
theorem dX6_init_1 : decode cX6_init 1 = .ok (.invokespecial 3, 3) := by decide +kernel
theorem dX6_init_4 : decode cX6_init 4 = .ok (.aload_n 0, 1) := by decide +kernel
theorem dX6_init_5 : decode cX6_init 5 = .ok (.new 9, 3) := by decide +kernel
theorem dX6_init_8 : decode cX6_init 8 = .ok (.dup, 1) := by decide +kernel
theorem dX6_init_9 : decode cX6_init 9 = .ok (.invokespecial 11, 3) := by decide +kernel
theorem dX6_init_12 : decode cX6_init 12 = .ok (.putfield 12, 3) := by decide +kernel
theorem dX6_init_15 : decode cX6_init 15 = .ok (.aload_n 0, 1) := by decide +kernel
theorem dX6_init_16 : decode cX6_init 16 = .ok (.iconst (-1), 1) := by decide +kernel
theorem dX6_init_17 : decode cX6_init 17 = .ok (.putfield 18, 3) := by decide +kernel
theorem dX6_init_20 : decode cX6_init 20 = .ok (.aload_n 0, 1) := by decide +kernel
theorem dX6_init_21 : decode cX6_init 21 = .ok (.bipush 20, 2) := by decide +kernel
theorem dX6_init_23 : decode cX6_init 23 = .ok (.newarray .int, 2) := by decide +kernel
theorem dX6_init_25 : decode cX6_init 25 = .ok (.putfield 22, 3) := by decide +kernel
theorem dX6_init_28 : decode cX6_init 28 = .ok (.aload_n 0, 1) := by decide +kernel
theorem dX6_init_29 : decode cX6_init 29 = .ok (.bipush 20, 2) := by decide +kernel
theorem dX6_init_31 : decode cX6_init 31 = .ok (.newarray .int, 2) := by decide +kernel
theorem dX6_init_33 : decode cX6_init 33 = .ok (.putfield 26, 3) := by decide +kernel
theorem dX6_init_36 : decode cX6_init 36 = .ok (.aload_n 0, 1) := by decide +kernel
theorem dX6_init_37 : decode cX6_init 37 = .ok (.bipush 20, 2) := by decide +kernel
theorem dX6_init_39 : decode cX6_init 39 = .ok (.newarray .int, 2) := by decide +kernel
theorem dX6_init_41 : decode cX6_init 41 = .ok (.putfield 29, 3) := by decide +kernel
theorem dX6_init_44 : decode cX6_init 44 = .ok (.aload_n 0, 1) := by decide +kernel
theorem dX6_init_45 : decode cX6_init 45 = .ok (.sipush 3220, 3) := by decide +kernel
theorem dX6_init_48 : decode cX6_init 48 = .ok (.newarray .int, 2) := by decide +kernel
theorem dX6_init_50 : decode cX6_init 50 = .ok (.putfield 32, 3) := by decide +kernel
theorem dX6_init_53 : decode cX6_init 53 = .ok (.aload_n 0, 1) := by decide +kernel
theorem dX6_init_54 : decode cX6_init 54 = .ok (.bipush 20, 2) := by decide +kernel
theorem dX6_init_56 : decode cX6_init 56 = .ok (.newarray .int, 2) := by decide +kernel
theorem dX6_init_58 : decode cX6_init 58 = .ok (.putfield 35, 3) := by decide +kernel
theorem dX6_init_61 : decode cX6_init 61 = .ok (.aload_n 0, 1) := by decide +kernel
theorem dX6_init_62 : decode cX6_init 62 = .ok (.bipush 64, 2) := by decide +kernel
theorem dX6_init_64 : decode cX6_init 64 = .ok (.newarray .int, 2) := by decide +kernel
theorem dX6_init_66 : decode cX6_init 66 = .ok (.putfield 38, 3) := by decide +kernel
theorem dX6_init_69 : decode cX6_init 69 = .ok (.aload_n 0, 1) := by decide +kernel
theorem dX6_init_70 : decode cX6_init 70 = .ok (.aload_n 1, 1) := by decide +kernel
theorem dX6_init_71 : decode cX6_init 71 = .ok (.putfield 41, 3) := by decide +kernel
theorem dX6_init_74 : decode cX6_init 74 = .ok (.return_, 1) := by decide +kernel
theorem dX6_isFull_0 : decode cX6_isFull 0 = .ok (.aload_n 0, 1) := by decide +kernel
theorem dX6_isFull_1 : decode cX6_isFull 1 = .ok (.getfield 45, 3) := by decide +kernel
theorem dX6_isFull_4 : decode cX6_isFull 4 = .ok (.bipush 20, 2) := by decide +kernel
theorem dX6_isFull_6 : decode cX6_isFull 6 = .ok (.if_icmp .lt 7, 3) := by decide +kernel
theorem dX6_isFull_9 : decode cX6_isFull 9 = .ok (.iconst 1, 1) := by decide +kernel
theorem dX6_isFull_10 : decode cX6_isFull 10 = .ok (.goto 4, 3) := by decide +kernel
theorem dX6_isFull_13 : decode cX6_isFull 13 = .ok (.iconst 0, 1) := by decide +kernel
theorem dX6_isFull_14 : decode cX6_isFull 14 = .ok (.ireturn, 1) := by decide +kernel
theorem dX6_make_0 : decode cX6_make 0 = .ok (.aload_n 0, 1) := by decide +kernel
theorem dX6_make_1 : decode cX6_make 1 = .ok (.getfield 12, 3) := by decide +kernel
theorem dX6_make_4 : decode cX6_make 4 = .ok (.invokevirtual 48, 3) := by decide +kernel
theorem dX6_make_7 : decode cX6_make 7 = .ok (.istore_n 3, 1) := by decide +kernel
theorem dX6_make_8 : decode cX6_make 8 = .ok (.aload_n 0, 1) := by decide +kernel
theorem dX6_make_9 : decode cX6_make 9 = .ok (.getfield 12, 3) := by decide +kernel
theorem dX6_make_12 : decode cX6_make 12 = .ok (.iconst 0, 1) := by decide +kernel
theorem dX6_make_13 : decode cX6_make 13 = .ok (.putfield 52, 3) := by decide +kernel
theorem dX6_make_16 : decode cX6_make 16 = .ok (.iload_n 3, 1) := by decide +kernel
theorem dX6_make_17 : decode cX6_make 17 = .ok (.ifCond .lt 8, 3) := by decide +kernel
theorem dX6_make_20 : decode cX6_make 20 = .ok (.bipush (-100), 2) := by decide +kernel
theorem dX6_make_22 : decode cX6_make 22 = .ok (.iload_n 3, 1) := by decide +kernel
theorem dX6_make_23 : decode cX6_make 23 = .ok (.isub, 1) := by decide +kernel
theorem dX6_make_24 : decode cX6_make 24 = .ok (.ireturn, 1) := by decide +kernel
theorem dX6_make_25 : decode cX6_make 25 = .ok (.aload_n 0, 1) := by decide +kernel
theorem dX6_make_26 : decode cX6_make 26 = .ok (.getfield 22, 3) := by decide +kernel
theorem dX6_make_29 : decode cX6_make 29 = .ok (.aload_n 0, 1) := by decide +kernel
theorem dX6_make_30 : decode cX6_make 30 = .ok (.getfield 45, 3) := by decide +kernel
theorem dX6_make_33 : decode cX6_make 33 = .ok (.iload_n 1, 1) := by decide +kernel
theorem dX6_make_34 : decode cX6_make 34 = .ok (.iastore, 1) := by decide +kernel
theorem dX6_make_35 : decode cX6_make 35 = .ok (.aload_n 0, 1) := by decide +kernel
theorem dX6_make_36 : decode cX6_make 36 = .ok (.getfield 26, 3) := by decide +kernel
theorem dX6_make_39 : decode cX6_make 39 = .ok (.aload_n 0, 1) := by decide +kernel
theorem dX6_make_40 : decode cX6_make 40 = .ok (.getfield 45, 3) := by decide +kernel
theorem dX6_make_43 : decode cX6_make 43 = .ok (.aload_n 0, 1) := by decide +kernel
theorem dX6_make_44 : decode cX6_make 44 = .ok (.getfield 41, 3) := by decide +kernel
theorem dX6_make_47 : decode cX6_make 47 = .ok (.getfield 55, 3) := by decide +kernel
theorem dX6_make_50 : decode cX6_make 50 = .ok (.iastore, 1) := by decide +kernel
theorem dX6_make_51 : decode cX6_make 51 = .ok (.aload_n 0, 1) := by decide +kernel
theorem dX6_make_52 : decode cX6_make 52 = .ok (.getfield 29, 3) := by decide +kernel
theorem dX6_make_55 : decode cX6_make 55 = .ok (.aload_n 0, 1) := by decide +kernel
theorem dX6_make_56 : decode cX6_make 56 = .ok (.getfield 45, 3) := by decide +kernel
theorem dX6_make_59 : decode cX6_make 59 = .ok (.iload_n 2, 1) := by decide +kernel
theorem dX6_make_60 : decode cX6_make 60 = .ok (.iastore, 1) := by decide +kernel
theorem dX6_make_61 : decode cX6_make 61 = .ok (.aload_n 0, 1) := by decide +kernel
theorem dX6_make_62 : decode cX6_make 62 = .ok (.getfield 35, 3) := by decide +kernel
theorem dX6_make_65 : decode cX6_make 65 = .ok (.aload_n 0, 1) := by decide +kernel
theorem dX6_make_66 : decode cX6_make 66 = .ok (.getfield 45, 3) := by decide +kernel
theorem dX6_make_69 : decode cX6_make 69 = .ok (.aload_n 0, 1) := by decide +kernel
theorem dX6_make_70 : decode cX6_make 70 = .ok (.getfield 12, 3) := by decide +kernel
theorem dX6_make_73 : decode cX6_make 73 = .ok (.aload_n 0, 1) := by decide +kernel
theorem dX6_make_74 : decode cX6_make 74 = .ok (.getfield 32, 3) := by decide +kernel
theorem dX6_make_77 : decode cX6_make 77 = .ok (.aload_n 0, 1) := by decide +kernel
theorem dX6_make_78 : decode cX6_make 78 = .ok (.getfield 45, 3) := by decide +kernel
theorem dX6_make_81 : decode cX6_make 81 = .ok (.sipush 161, 3) := by decide +kernel
theorem dX6_make_84 : decode cX6_make 84 = .ok (.imul, 1) := by decide +kernel
theorem dX6_make_85 : decode cX6_make 85 = .ok (.invokevirtual 60, 3) := by decide +kernel
theorem dX6_make_88 : decode cX6_make 88 = .ok (.iastore, 1) := by decide +kernel
theorem dX6_make_89 : decode cX6_make 89 = .ok (.aload_n 0, 1) := by decide +kernel
theorem dX6_make_90 : decode cX6_make 90 = .ok (.dup, 1) := by decide +kernel
theorem dX6_make_91 : decode cX6_make 91 = .ok (.getfield 45, 3) := by decide +kernel
theorem dX6_make_94 : decode cX6_make 94 = .ok (.iconst 1, 1) := by decide +kernel
theorem dX6_make_95 : decode cX6_make 95 = .ok (.iadd, 1) := by decide +kernel
theorem dX6_make_96 : decode cX6_make 96 = .ok (.putfield 45, 3) := by decide +kernel
theorem dX6_make_99 : decode cX6_make 99 = .ok (.aload_n 0, 1) := by decide +kernel
theorem dX6_make_100 : decode cX6_make 100 = .ok (.getfield 45, 3) := by decide +kernel
theorem dX6_make_103 : decode cX6_make 103 = .ok (.iconst 1, 1) := by decide +kernel
theorem dX6_make_104 : decode cX6_make 104 = .ok (.isub, 1) := by decide +kernel
theorem dX6_make_105 : decode cX6_make 105 = .ok (.ireturn, 1) := by decide +kernel
theorem dX6_ruleFor_0 : decode cX6_ruleFor 0 = .ok (.aload_n 0, 1) := by decide +kernel
theorem dX6_ruleFor_1 : decode cX6_ruleFor 1 = .ok (.getfield 45, 3) := by decide +kernel
theorem dX6_ruleFor_4 : decode cX6_ruleFor 4 = .ok (.iconst 1, 1) := by decide +kernel
theorem dX6_ruleFor_5 : decode cX6_ruleFor 5 = .ok (.isub, 1) := by decide +kernel
theorem dX6_ruleFor_6 : decode cX6_ruleFor 6 = .ok (.istore 4, 2) := by decide +kernel
theorem dX6_ruleFor_8 : decode cX6_ruleFor 8 = .ok (.iload 4, 2) := by decide +kernel
theorem dX6_ruleFor_10 : decode cX6_ruleFor 10 = .ok (.ifCond .lt 45, 3) := by decide +kernel
theorem dX6_ruleFor_13 : decode cX6_ruleFor 13 = .ok (.aload_n 0, 1) := by decide +kernel
theorem dX6_ruleFor_14 : decode cX6_ruleFor 14 = .ok (.getfield 22, 3) := by decide +kernel
theorem dX6_ruleFor_17 : decode cX6_ruleFor 17 = .ok (.iload 4, 2) := by decide +kernel
theorem dX6_ruleFor_19 : decode cX6_ruleFor 19 = .ok (.iaload, 1) := by decide +kernel
theorem dX6_ruleFor_20 : decode cX6_ruleFor 20 = .ok (.iload_n 1, 1) := by decide +kernel
theorem dX6_ruleFor_21 : decode cX6_ruleFor 21 = .ok (.if_icmp .ne 28, 3) := by decide +kernel
theorem dX6_ruleFor_24 : decode cX6_ruleFor 24 = .ok (.aload_n 0, 1) := by decide +kernel
theorem dX6_ruleFor_25 : decode cX6_ruleFor 25 = .ok (.getfield 26, 3) := by decide +kernel
theorem dX6_ruleFor_28 : decode cX6_ruleFor 28 = .ok (.iload 4, 2) := by decide +kernel
theorem dX6_ruleFor_30 : decode cX6_ruleFor 30 = .ok (.iaload, 1) := by decide +kernel
theorem dX6_ruleFor_31 : decode cX6_ruleFor 31 = .ok (.iload_n 3, 1) := by decide +kernel
theorem dX6_ruleFor_32 : decode cX6_ruleFor 32 = .ok (.if_icmp .gt 17, 3) := by decide +kernel
theorem dX6_ruleFor_35 : decode cX6_ruleFor 35 = .ok (.aload_n 0, 1) := by decide +kernel
theorem dX6_ruleFor_36 : decode cX6_ruleFor 36 = .ok (.getfield 29, 3) := by decide +kernel
theorem dX6_ruleFor_39 : decode cX6_ruleFor 39 = .ok (.iload 4, 2) := by decide +kernel
theorem dX6_ruleFor_41 : decode cX6_ruleFor 41 = .ok (.iaload, 1) := by decide +kernel
theorem dX6_ruleFor_42 : decode cX6_ruleFor 42 = .ok (.iload_n 2, 1) := by decide +kernel
theorem dX6_ruleFor_43 : decode cX6_ruleFor 43 = .ok (.if_icmp .gt 6, 3) := by decide +kernel
theorem dX6_ruleFor_46 : decode cX6_ruleFor 46 = .ok (.iload 4, 2) := by decide +kernel
theorem dX6_ruleFor_48 : decode cX6_ruleFor 48 = .ok (.ireturn, 1) := by decide +kernel
theorem dX6_ruleFor_49 : decode cX6_ruleFor 49 = .ok (.iinc 4 (-1), 3) := by decide +kernel
theorem dX6_ruleFor_52 : decode cX6_ruleFor 52 = .ok (.goto (-44), 3) := by decide +kernel
theorem dX6_ruleFor_55 : decode cX6_ruleFor 55 = .ok (.iconst (-1), 1) := by decide +kernel
theorem dX6_ruleFor_56 : decode cX6_ruleFor 56 = .ok (.ireturn, 1) := by decide +kernel
theorem dX6_askForBox_0 : decode cX6_askForBox 0 = .ok (.aload_n 0, 1) := by decide +kernel
theorem dX6_askForBox_1 : decode cX6_askForBox 1 = .ok (.iload_n 1, 1) := by decide +kernel
theorem dX6_askForBox_2 : decode cX6_askForBox 2 = .ok (.putfield 64, 3) := by decide +kernel
theorem dX6_askForBox_5 : decode cX6_askForBox 5 = .ok (.aload_n 0, 1) := by decide +kernel
theorem dX6_askForBox_6 : decode cX6_askForBox 6 = .ok (.aload_n 2, 1) := by decide +kernel
theorem dX6_askForBox_7 : decode cX6_askForBox 7 = .ok (.putfield 67, 3) := by decide +kernel
theorem dX6_askForBox_10 : decode cX6_askForBox 10 = .ok (.aload_n 0, 1) := by decide +kernel
theorem dX6_askForBox_11 : decode cX6_askForBox 11 = .ok (.aload_n 3, 1) := by decide +kernel
theorem dX6_askForBox_12 : decode cX6_askForBox 12 = .ok (.putfield 71, 3) := by decide +kernel
theorem dX6_askForBox_15 : decode cX6_askForBox 15 = .ok (.aload_n 0, 1) := by decide +kernel
theorem dX6_askForBox_16 : decode cX6_askForBox 16 = .ok (.aload_n 3, 1) := by decide +kernel
theorem dX6_askForBox_17 : decode cX6_askForBox 17 = .ok (.ifnonnull 7, 3) := by decide +kernel
theorem dX6_askForBox_20 : decode cX6_askForBox 20 = .ok (.iconst 0, 1) := by decide +kernel
theorem dX6_askForBox_21 : decode cX6_askForBox 21 = .ok (.goto 7, 3) := by decide +kernel
theorem dX6_askForBox_24 : decode cX6_askForBox 24 = .ok (.aload_n 3, 1) := by decide +kernel
theorem dX6_askForBox_25 : decode cX6_askForBox 25 = .ok (.getfield 75, 3) := by decide +kernel
theorem dX6_askForBox_28 : decode cX6_askForBox 28 = .ok (.putfield 80, 3) := by decide +kernel
theorem dX6_askForBox_31 : decode cX6_askForBox 31 = .ok (.aload_n 0, 1) := by decide +kernel
theorem dX6_askForBox_32 : decode cX6_askForBox 32 = .ok (.aload_n 3, 1) := by decide +kernel
theorem dX6_askForBox_33 : decode cX6_askForBox 33 = .ok (.ifnonnull 7, 3) := by decide +kernel
theorem dX6_askForBox_36 : decode cX6_askForBox 36 = .ok (.iconst (-1), 1) := by decide +kernel
theorem dX6_askForBox_37 : decode cX6_askForBox 37 = .ok (.goto 7, 3) := by decide +kernel
theorem dX6_askForBox_40 : decode cX6_askForBox 40 = .ok (.aload_n 3, 1) := by decide +kernel
theorem dX6_askForBox_41 : decode cX6_askForBox 41 = .ok (.getfield 83, 3) := by decide +kernel
theorem dX6_askForBox_44 : decode cX6_askForBox 44 = .ok (.putfield 86, 3) := by decide +kernel
theorem dX6_askForBox_47 : decode cX6_askForBox 47 = .ok (.aload_n 0, 1) := by decide +kernel
theorem dX6_askForBox_48 : decode cX6_askForBox 48 = .ok (.iload 4, 2) := by decide +kernel
theorem dX6_askForBox_50 : decode cX6_askForBox 50 = .ok (.putfield 89, 3) := by decide +kernel
theorem dX6_askForBox_53 : decode cX6_askForBox 53 = .ok (.return_, 1) := by decide +kernel
theorem dX6_askForKind_0 : decode cX6_askForKind 0 = .ok (.aload_n 0, 1) := by decide +kernel
theorem dX6_askForKind_1 : decode cX6_askForKind 1 = .ok (.iload_n 1, 1) := by decide +kernel
theorem dX6_askForKind_2 : decode cX6_askForKind 2 = .ok (.putfield 64, 3) := by decide +kernel
theorem dX6_askForKind_5 : decode cX6_askForKind 5 = .ok (.aload_n 0, 1) := by decide +kernel
theorem dX6_askForKind_6 : decode cX6_askForKind 6 = .ok (.aload_n 2, 1) := by decide +kernel
theorem dX6_askForKind_7 : decode cX6_askForKind 7 = .ok (.putfield 67, 3) := by decide +kernel
theorem dX6_askForKind_10 : decode cX6_askForKind 10 = .ok (.aload_n 0, 1) := by decide +kernel
theorem dX6_askForKind_11 : decode cX6_askForKind 11 = .ok (.aconst_null, 1) := by decide +kernel
theorem dX6_askForKind_12 : decode cX6_askForKind 12 = .ok (.putfield 71, 3) := by decide +kernel
theorem dX6_askForKind_15 : decode cX6_askForKind 15 = .ok (.aload_n 0, 1) := by decide +kernel
theorem dX6_askForKind_16 : decode cX6_askForKind 16 = .ok (.iload_n 3, 1) := by decide +kernel
theorem dX6_askForKind_17 : decode cX6_askForKind 17 = .ok (.putfield 80, 3) := by decide +kernel
theorem dX6_askForKind_20 : decode cX6_askForKind 20 = .ok (.aload_n 0, 1) := by decide +kernel
theorem dX6_askForKind_21 : decode cX6_askForKind 21 = .ok (.iload 4, 2) := by decide +kernel
theorem dX6_askForKind_23 : decode cX6_askForKind 23 = .ok (.putfield 86, 3) := by decide +kernel
theorem dX6_askForKind_26 : decode cX6_askForKind 26 = .ok (.aload_n 0, 1) := by decide +kernel
theorem dX6_askForKind_27 : decode cX6_askForKind 27 = .ok (.iconst 0, 1) := by decide +kernel
theorem dX6_askForKind_28 : decode cX6_askForKind 28 = .ok (.putfield 89, 3) := by decide +kernel
theorem dX6_askForKind_31 : decode cX6_askForKind 31 = .ok (.return_, 1) := by decide +kernel
theorem dX6_answer_0 : decode cX6_answer 0 = .ok (.aload_n 0, 1) := by decide +kernel
theorem dX6_answer_1 : decode cX6_answer 1 = .ok (.iload_n 1, 1) := by decide +kernel
theorem dX6_answer_2 : decode cX6_answer 2 = .ok (.iload_n 2, 1) := by decide +kernel
theorem dX6_answer_3 : decode cX6_answer 3 = .ok (.aload_n 0, 1) := by decide +kernel
theorem dX6_answer_4 : decode cX6_answer 4 = .ok (.getfield 41, 3) := by decide +kernel
theorem dX6_answer_7 : decode cX6_answer 7 = .ok (.getfield 55, 3) := by decide +kernel
theorem dX6_answer_10 : decode cX6_answer 10 = .ok (.invokevirtual 92, 3) := by decide +kernel
theorem dX6_answer_13 : decode cX6_answer 13 = .ok (.istore_n 3, 1) := by decide +kernel
theorem dX6_answer_14 : decode cX6_answer 14 = .ok (.iload_n 3, 1) := by decide +kernel
theorem dX6_answer_15 : decode cX6_answer 15 = .ok (.ifCond .ge 30, 3) := by decide +kernel
theorem dX6_answer_18 : decode cX6_answer 18 = .ok (.aload_n 0, 1) := by decide +kernel
theorem dX6_answer_19 : decode cX6_answer 19 = .ok (.iconst (-1), 1) := by decide +kernel
theorem dX6_answer_20 : decode cX6_answer 20 = .ok (.putfield 18, 3) := by decide +kernel
theorem dX6_answer_23 : decode cX6_answer 23 = .ok (.iload_n 1, 1) := by decide +kernel
theorem dX6_answer_24 : decode cX6_answer 24 = .ok (.ifCond .lt 19, 3) := by decide +kernel
theorem dX6_answer_27 : decode cX6_answer 27 = .ok (.iload_n 1, 1) := by decide +kernel
theorem dX6_answer_28 : decode cX6_answer 28 = .ok (.getstatic 96, 3) := by decide +kernel
theorem dX6_answer_31 : decode cX6_answer 31 = .ok (.arraylength, 1) := by decide +kernel
theorem dX6_answer_32 : decode cX6_answer 32 = .ok (.if_icmp .ge 11, 3) := by decide +kernel
theorem dX6_answer_35 : decode cX6_answer 35 = .ok (.getstatic 96, 3) := by decide +kernel
theorem dX6_answer_38 : decode cX6_answer 38 = .ok (.iload_n 1, 1) := by decide +kernel
theorem dX6_answer_39 : decode cX6_answer 39 = .ok (.iaload, 1) := by decide +kernel
theorem dX6_answer_40 : decode cX6_answer 40 = .ok (.goto 4, 3) := by decide +kernel
theorem dX6_answer_43 : decode cX6_answer 43 = .ok (.iconst 0, 1) := by decide +kernel
theorem dX6_answer_44 : decode cX6_answer 44 = .ok (.ireturn, 1) := by decide +kernel
theorem dX6_answer_45 : decode cX6_answer 45 = .ok (.aload_n 0, 1) := by decide +kernel
theorem dX6_answer_46 : decode cX6_answer 46 = .ok (.iload_n 3, 1) := by decide +kernel
theorem dX6_answer_47 : decode cX6_answer 47 = .ok (.invokevirtual 99, 3) := by decide +kernel
theorem dX6_answer_50 : decode cX6_answer 50 = .ok (.istore 4, 2) := by decide +kernel
theorem dX6_answer_52 : decode cX6_answer 52 = .ok (.iload_n 1, 1) := by decide +kernel
theorem dX6_answer_53 : decode cX6_answer 53 = .ok (.ifCond .ne 17, 3) := by decide +kernel
theorem dX6_answer_56 : decode cX6_answer 56 = .ok (.iconst 0, 1) := by decide +kernel
theorem dX6_answer_57 : decode cX6_answer 57 = .ok (.bipush 15, 2) := by decide +kernel
theorem dX6_answer_59 : decode cX6_answer 59 = .ok (.iload 4, 2) := by decide +kernel
theorem dX6_answer_61 : decode cX6_answer 61 = .ok (.invokestatic 103, 3) := by decide +kernel
theorem dX6_answer_64 : decode cX6_answer 64 = .ok (.invokestatic 109, 3) := by decide +kernel
theorem dX6_answer_67 : decode cX6_answer 67 = .ok (.goto 5, 3) := by decide +kernel
theorem dX6_answer_70 : decode cX6_answer 70 = .ok (.iload 4, 2) := by decide +kernel
theorem dX6_answer_72 : decode cX6_answer 72 = .ok (.ireturn, 1) := by decide +kernel
theorem dX6_letsHide_0 : decode cX6_letsHide 0 = .ok (.aload_n 0, 1) := by decide +kernel
theorem dX6_letsHide_1 : decode cX6_letsHide 1 = .ok (.aload_n 0, 1) := by decide +kernel
theorem dX6_letsHide_2 : decode cX6_letsHide 2 = .ok (.getfield 41, 3) := by decide +kernel
theorem dX6_letsHide_5 : decode cX6_letsHide 5 = .ok (.getfield 55, 3) := by decide +kernel
theorem dX6_letsHide_8 : decode cX6_letsHide 8 = .ok (.aload_n 1, 1) := by decide +kernel
theorem dX6_letsHide_9 : decode cX6_letsHide 9 = .ok (.iload_n 2, 1) := by decide +kernel
theorem dX6_letsHide_10 : decode cX6_letsHide 10 = .ok (.iload_n 3, 1) := by decide +kernel
theorem dX6_letsHide_11 : decode cX6_letsHide 11 = .ok (.invokevirtual 112, 3) := by decide +kernel
theorem dX6_letsHide_14 : decode cX6_letsHide 14 = .ok (.aload_n 0, 1) := by decide +kernel
theorem dX6_letsHide_15 : decode cX6_letsHide 15 = .ok (.iconst 1, 1) := by decide +kernel
theorem dX6_letsHide_16 : decode cX6_letsHide 16 = .ok (.aload_n 0, 1) := by decide +kernel
theorem dX6_letsHide_17 : decode cX6_letsHide 17 = .ok (.getfield 41, 3) := by decide +kernel
theorem dX6_letsHide_20 : decode cX6_letsHide 20 = .ok (.getfield 55, 3) := by decide +kernel
theorem dX6_letsHide_23 : decode cX6_letsHide 23 = .ok (.invokevirtual 116, 3) := by decide +kernel
theorem dX6_letsHide_26 : decode cX6_letsHide 26 = .ok (.ifCond .eq 7, 3) := by decide +kernel
theorem dX6_letsHide_29 : decode cX6_letsHide 29 = .ok (.iconst 1, 1) := by decide +kernel
theorem dX6_letsHide_30 : decode cX6_letsHide 30 = .ok (.goto 4, 3) := by decide +kernel
theorem dX6_letsHide_33 : decode cX6_letsHide 33 = .ok (.iconst 0, 1) := by decide +kernel
theorem dX6_letsHide_34 : decode cX6_letsHide 34 = .ok (.ireturn, 1) := by decide +kernel
theorem dX6_whyNot_0 : decode cX6_whyNot 0 = .ok (.aload_n 1, 1) := by decide +kernel
theorem dX6_whyNot_1 : decode cX6_whyNot 1 = .ok (.invokevirtual 131, 3) := by decide +kernel
theorem dX6_whyNot_4 : decode cX6_whyNot 4 = .ok (.ifCond .ne 13, 3) := by decide +kernel
theorem dX6_whyNot_7 : decode cX6_whyNot 7 = .ok (.aload_n 0, 1) := by decide +kernel
theorem dX6_whyNot_8 : decode cX6_whyNot 8 = .ok (.aload_n 1, 1) := by decide +kernel
theorem dX6_whyNot_9 : decode cX6_whyNot 9 = .ok (.iload_n 2, 1) := by decide +kernel
theorem dX6_whyNot_10 : decode cX6_whyNot 10 = .ok (.iload_n 3, 1) := by decide +kernel
theorem dX6_whyNot_11 : decode cX6_whyNot 11 = .ok (.invokevirtual 137, 3) := by decide +kernel
theorem dX6_whyNot_14 : decode cX6_whyNot 14 = .ok (.ifCond .ne 5, 3) := by decide +kernel
theorem dX6_whyNot_17 : decode cX6_whyNot 17 = .ok (.iconst 1, 1) := by decide +kernel
theorem dX6_whyNot_18 : decode cX6_whyNot 18 = .ok (.ireturn, 1) := by decide +kernel
theorem dX6_whyNot_19 : decode cX6_whyNot 19 = .ok (.aload_n 0, 1) := by decide +kernel
theorem dX6_whyNot_20 : decode cX6_whyNot 20 = .ok (.aload_n 1, 1) := by decide +kernel
theorem dX6_whyNot_21 : decode cX6_whyNot 21 = .ok (.iload_n 2, 1) := by decide +kernel
theorem dX6_whyNot_22 : decode cX6_whyNot 22 = .ok (.iload_n 3, 1) := by decide +kernel
theorem dX6_whyNot_23 : decode cX6_whyNot 23 = .ok (.invokevirtual 141, 3) := by decide +kernel
theorem dX6_whyNot_26 : decode cX6_whyNot 26 = .ok (.ifCond .ne 5, 3) := by decide +kernel
theorem dX6_whyNot_29 : decode cX6_whyNot 29 = .ok (.iconst 2, 1) := by decide +kernel
theorem dX6_whyNot_30 : decode cX6_whyNot 30 = .ok (.ireturn, 1) := by decide +kernel
theorem dX6_whyNot_31 : decode cX6_whyNot 31 = .ok (.aload_n 0, 1) := by decide +kernel
theorem dX6_whyNot_32 : decode cX6_whyNot 32 = .ok (.aload_n 0, 1) := by decide +kernel
theorem dX6_whyNot_33 : decode cX6_whyNot 33 = .ok (.getfield 41, 3) := by decide +kernel
theorem dX6_whyNot_36 : decode cX6_whyNot 36 = .ok (.getfield 55, 3) := by decide +kernel
theorem dX6_whyNot_39 : decode cX6_whyNot 39 = .ok (.aconst_null, 1) := by decide +kernel
theorem dX6_whyNot_40 : decode cX6_whyNot 40 = .ok (.aconst_null, 1) := by decide +kernel
theorem dX6_whyNot_41 : decode cX6_whyNot 41 = .ok (.iconst 0, 1) := by decide +kernel
theorem dX6_whyNot_42 : decode cX6_whyNot 42 = .ok (.invokevirtual 119, 3) := by decide +kernel
theorem dX6_whyNot_45 : decode cX6_whyNot 45 = .ok (.aload_n 0, 1) := by decide +kernel
theorem dX6_whyNot_46 : decode cX6_whyNot 46 = .ok (.iconst 0, 1) := by decide +kernel
theorem dX6_whyNot_47 : decode cX6_whyNot 47 = .ok (.aload_n 0, 1) := by decide +kernel
theorem dX6_whyNot_48 : decode cX6_whyNot 48 = .ok (.getfield 41, 3) := by decide +kernel
theorem dX6_whyNot_51 : decode cX6_whyNot 51 = .ok (.getfield 55, 3) := by decide +kernel
theorem dX6_whyNot_54 : decode cX6_whyNot 54 = .ok (.invokevirtual 116, 3) := by decide +kernel
theorem dX6_whyNot_57 : decode cX6_whyNot 57 = .ok (.istore 4, 2) := by decide +kernel
theorem dX6_whyNot_59 : decode cX6_whyNot 59 = .ok (.aload_n 0, 1) := by decide +kernel
theorem dX6_whyNot_60 : decode cX6_whyNot 60 = .ok (.getfield 41, 3) := by decide +kernel
theorem dX6_whyNot_63 : decode cX6_whyNot 63 = .ok (.getfield 144, 3) := by decide +kernel
