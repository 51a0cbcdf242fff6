theorem dX8_expect_15 : decode cX8_expect 15 = .ok (.aload_n 0, 1) := by decide +kernel
theorem dX8_expect_16 : decode cX8_expect 16 = .ok (.invokevirtual 53, 3) := by decide +kernel
theorem dX8_expect_19 : decode cX8_expect 19 = .ok (.goto 7, 3) := by decide +kernel
theorem dX8_expect_22 : decode cX8_expect 22 = .ok (.aload_n 0, 1) := by decide +kernel
theorem dX8_expect_23 : decode cX8_expect 23 = .ok (.invokevirtual 56, 3) := by decide +kernel
theorem dX8_expect_26 : decode cX8_expect 26 = .ok (.return_, 1) := by decide +kernel
theorem dX8_readEither_0 : decode cX8_readEither 0 = .ok (.aload_n 0, 1) := by decide +kernel
theorem dX8_readEither_1 : decode cX8_readEither 1 = .ok (.iload_n 1, 1) := by decide +kernel
theorem dX8_readEither_2 : decode cX8_readEither 2 = .ok (.invokevirtual 69, 3) := by decide +kernel
theorem dX8_readEither_5 : decode cX8_readEither 5 = .ok (.iconst 0, 1) := by decide +kernel
theorem dX8_readEither_6 : decode cX8_readEither 6 = .ok (.istore_n 2, 1) := by decide +kernel
theorem dX8_readEither_7 : decode cX8_readEither 7 = .ok (.iload_n 2, 1) := by decide +kernel
theorem dX8_readEither_8 : decode cX8_readEither 8 = .ok (.sipush 160, 3) := by decide +kernel
theorem dX8_readEither_11 : decode cX8_readEither 11 = .ok (.if_icmp .ge 41, 3) := by decide +kernel
theorem dX8_readEither_14 : decode cX8_readEither 14 = .ok (.aload_n 0, 1) := by decide +kernel
theorem dX8_readEither_15 : decode cX8_readEither 15 = .ok (.getfield 41, 3) := by decide +kernel
theorem dX8_readEither_18 : decode cX8_readEither 18 = .ok (.ifCond .ge 34, 3) := by decide +kernel
theorem dX8_readEither_21 : decode cX8_readEither 21 = .ok (.aload_n 0, 1) := by decide +kernel
theorem dX8_readEither_22 : decode cX8_readEither 22 = .ok (.getfield 47, 3) := by decide +kernel
theorem dX8_readEither_25 : decode cX8_readEither 25 = .ok (.sipush 311, 3) := by decide +kernel
theorem dX8_readEither_28 : decode cX8_readEither 28 = .ok (.if_icmp .ne 24, 3) := by decide +kernel
theorem dX8_readEither_31 : decode cX8_readEither 31 = .ok (.aload_n 0, 1) := by decide +kernel
theorem dX8_readEither_32 : decode cX8_readEither 32 = .ok (.invokevirtual 53, 3) := by decide +kernel
theorem dX8_readEither_35 : decode cX8_readEither 35 = .ok (.aload_n 0, 1) := by decide +kernel
theorem dX8_readEither_36 : decode cX8_readEither 36 = .ok (.iload_n 1, 1) := by decide +kernel
theorem dX8_readEither_37 : decode cX8_readEither 37 = .ok (.invokevirtual 69, 3) := by decide +kernel
theorem dX8_readEither_40 : decode cX8_readEither 40 = .ok (.aload_n 0, 1) := by decide +kernel
theorem dX8_readEither_41 : decode cX8_readEither 41 = .ok (.bipush (-21), 2) := by decide +kernel
theorem dX8_readEither_43 : decode cX8_readEither 43 = .ok (.invokevirtual 63, 3) := by decide +kernel
theorem dX8_readEither_46 : decode cX8_readEither 46 = .ok (.iinc 2 1, 3) := by decide +kernel
theorem dX8_readEither_49 : decode cX8_readEither 49 = .ok (.goto (-42), 3) := by decide +kernel
theorem dX8_readEither_52 : decode cX8_readEither 52 = .ok (.return_, 1) := by decide +kernel
theorem dX8_readBoth_0 : decode cX8_readBoth 0 = .ok (.aload_n 0, 1) := by decide +kernel
theorem dX8_readBoth_1 : decode cX8_readBoth 1 = .ok (.iload_n 1, 1) := by decide +kernel
theorem dX8_readBoth_2 : decode cX8_readBoth 2 = .ok (.invokevirtual 72, 3) := by decide +kernel
theorem dX8_readBoth_5 : decode cX8_readBoth 5 = .ok (.iconst 0, 1) := by decide +kernel
theorem dX8_readBoth_6 : decode cX8_readBoth 6 = .ok (.istore_n 2, 1) := by decide +kernel
theorem dX8_readBoth_7 : decode cX8_readBoth 7 = .ok (.iload_n 2, 1) := by decide +kernel
theorem dX8_readBoth_8 : decode cX8_readBoth 8 = .ok (.sipush 160, 3) := by decide +kernel
theorem dX8_readBoth_11 : decode cX8_readBoth 11 = .ok (.if_icmp .ge 41, 3) := by decide +kernel
theorem dX8_readBoth_14 : decode cX8_readBoth 14 = .ok (.aload_n 0, 1) := by decide +kernel
theorem dX8_readBoth_15 : decode cX8_readBoth 15 = .ok (.getfield 41, 3) := by decide +kernel
theorem dX8_readBoth_18 : decode cX8_readBoth 18 = .ok (.ifCond .ge 34, 3) := by decide +kernel
theorem dX8_readBoth_21 : decode cX8_readBoth 21 = .ok (.aload_n 0, 1) := by decide +kernel
theorem dX8_readBoth_22 : decode cX8_readBoth 22 = .ok (.getfield 47, 3) := by decide +kernel
theorem dX8_readBoth_25 : decode cX8_readBoth 25 = .ok (.sipush 312, 3) := by decide +kernel
theorem dX8_readBoth_28 : decode cX8_readBoth 28 = .ok (.if_icmp .ne 24, 3) := by decide +kernel
theorem dX8_readBoth_31 : decode cX8_readBoth 31 = .ok (.aload_n 0, 1) := by decide +kernel
theorem dX8_readBoth_32 : decode cX8_readBoth 32 = .ok (.invokevirtual 53, 3) := by decide +kernel
theorem dX8_readBoth_35 : decode cX8_readBoth 35 = .ok (.aload_n 0, 1) := by decide +kernel
theorem dX8_readBoth_36 : decode cX8_readBoth 36 = .ok (.iload_n 1, 1) := by decide +kernel
theorem dX8_readBoth_37 : decode cX8_readBoth 37 = .ok (.invokevirtual 72, 3) := by decide +kernel
theorem dX8_readBoth_40 : decode cX8_readBoth 40 = .ok (.aload_n 0, 1) := by decide +kernel
theorem dX8_readBoth_41 : decode cX8_readBoth 41 = .ok (.bipush (-22), 2) := by decide +kernel
theorem dX8_readBoth_43 : decode cX8_readBoth 43 = .ok (.invokevirtual 63, 3) := by decide +kernel
theorem dX8_readBoth_46 : decode cX8_readBoth 46 = .ok (.iinc 2 1, 3) := by decide +kernel
theorem dX8_readBoth_49 : decode cX8_readBoth 49 = .ok (.goto (-42), 3) := by decide +kernel
theorem dX8_readBoth_52 : decode cX8_readBoth 52 = .ok (.return_, 1) := by decide +kernel
theorem dX8_readDenied_0 : decode cX8_readDenied 0 = .ok (.iconst 0, 1) := by decide +kernel
theorem dX8_readDenied_1 : decode cX8_readDenied 1 = .ok (.istore_n 2, 1) := by decide +kernel
theorem dX8_readDenied_2 : decode cX8_readDenied 2 = .ok (.iload_n 2, 1) := by decide +kernel
theorem dX8_readDenied_3 : decode cX8_readDenied 3 = .ok (.bipush 6, 2) := by decide +kernel
theorem dX8_readDenied_5 : decode cX8_readDenied 5 = .ok (.if_icmp .gt 29, 3) := by decide +kernel
theorem dX8_readDenied_8 : decode cX8_readDenied 8 = .ok (.aload_n 0, 1) := by decide +kernel
theorem dX8_readDenied_9 : decode cX8_readDenied 9 = .ok (.getfield 47, 3) := by decide +kernel
theorem dX8_readDenied_12 : decode cX8_readDenied 12 = .ok (.sipush 313, 3) := by decide +kernel
theorem dX8_readDenied_15 : decode cX8_readDenied 15 = .ok (.if_icmp .ne 19, 3) := by decide +kernel
theorem dX8_readDenied_18 : decode cX8_readDenied 18 = .ok (.aload_n 0, 1) := by decide +kernel
theorem dX8_readDenied_19 : decode cX8_readDenied 19 = .ok (.iload_n 1, 1) := by decide +kernel
theorem dX8_readDenied_20 : decode cX8_readDenied 20 = .ok (.iload_n 2, 1) := by decide +kernel
theorem dX8_readDenied_21 : decode cX8_readDenied 21 = .ok (.iadd, 1) := by decide +kernel
theorem dX8_readDenied_22 : decode cX8_readDenied 22 = .ok (.invokevirtual 75, 3) := by decide +kernel
theorem dX8_readDenied_25 : decode cX8_readDenied 25 = .ok (.ifCond .eq 9, 3) := by decide +kernel
theorem dX8_readDenied_28 : decode cX8_readDenied 28 = .ok (.iinc 2 1, 3) := by decide +kernel
theorem dX8_readDenied_31 : decode cX8_readDenied 31 = .ok (.goto (-29), 3) := by decide +kernel
theorem dX8_readDenied_34 : decode cX8_readDenied 34 = .ok (.aload_n 0, 1) := by decide +kernel
theorem dX8_readDenied_35 : decode cX8_readDenied 35 = .ok (.iload_n 1, 1) := by decide +kernel
theorem dX8_readDenied_36 : decode cX8_readDenied 36 = .ok (.iload_n 2, 1) := by decide +kernel
theorem dX8_readDenied_37 : decode cX8_readDenied 37 = .ok (.iadd, 1) := by decide +kernel
theorem dX8_readDenied_38 : decode cX8_readDenied 38 = .ok (.invokevirtual 79, 3) := by decide +kernel
theorem dX8_readDenied_41 : decode cX8_readDenied 41 = .ok (.aload_n 0, 1) := by decide +kernel
theorem dX8_readDenied_42 : decode cX8_readDenied 42 = .ok (.getfield 47, 3) := by decide +kernel
theorem dX8_readDenied_45 : decode cX8_readDenied 45 = .ok (.bipush 60, 2) := by decide +kernel
theorem dX8_readDenied_47 : decode cX8_readDenied 47 = .ok (.if_icmp .ne 8, 3) := by decide +kernel
theorem dX8_readDenied_50 : decode cX8_readDenied 50 = .ok (.bipush (-23), 2) := by decide +kernel
theorem dX8_readDenied_52 : decode cX8_readDenied 52 = .ok (.goto 32, 3) := by decide +kernel
theorem dX8_readDenied_55 : decode cX8_readDenied 55 = .ok (.aload_n 0, 1) := by decide +kernel
theorem dX8_readDenied_56 : decode cX8_readDenied 56 = .ok (.getfield 47, 3) := by decide +kernel
theorem dX8_readDenied_59 : decode cX8_readDenied 59 = .ok (.bipush 61, 2) := by decide +kernel
theorem dX8_readDenied_61 : decode cX8_readDenied 61 = .ok (.if_icmp .ne 8, 3) := by decide +kernel
theorem dX8_readDenied_64 : decode cX8_readDenied 64 = .ok (.bipush (-24), 2) := by decide +kernel
theorem dX8_readDenied_66 : decode cX8_readDenied 66 = .ok (.goto 18, 3) := by decide +kernel
theorem dX8_readDenied_69 : decode cX8_readDenied 69 = .ok (.aload_n 0, 1) := by decide +kernel
theorem dX8_readDenied_70 : decode cX8_readDenied 70 = .ok (.getfield 47, 3) := by decide +kernel
theorem dX8_readDenied_73 : decode cX8_readDenied 73 = .ok (.bipush 62, 2) := by decide +kernel
theorem dX8_readDenied_75 : decode cX8_readDenied 75 = .ok (.if_icmp .ne 8, 3) := by decide +kernel
theorem dX8_readDenied_78 : decode cX8_readDenied 78 = .ok (.bipush (-25), 2) := by decide +kernel
theorem dX8_readDenied_80 : decode cX8_readDenied 80 = .ok (.goto 4, 3) := by decide +kernel
theorem dX8_readDenied_83 : decode cX8_readDenied 83 = .ok (.iconst 0, 1) := by decide +kernel
theorem dX8_readDenied_84 : decode cX8_readDenied 84 = .ok (.istore_n 3, 1) := by decide +kernel
theorem dX8_readDenied_85 : decode cX8_readDenied 85 = .ok (.iload_n 3, 1) := by decide +kernel
theorem dX8_readDenied_86 : decode cX8_readDenied 86 = .ok (.ifCond .eq 26, 3) := by decide +kernel
theorem dX8_readDenied_89 : decode cX8_readDenied 89 = .ok (.aload_n 0, 1) := by decide +kernel
theorem dX8_readDenied_90 : decode cX8_readDenied 90 = .ok (.getfield 41, 3) := by decide +kernel
theorem dX8_readDenied_93 : decode cX8_readDenied 93 = .ok (.ifCond .ge 19, 3) := by decide +kernel
theorem dX8_readDenied_96 : decode cX8_readDenied 96 = .ok (.aload_n 0, 1) := by decide +kernel
theorem dX8_readDenied_97 : decode cX8_readDenied 97 = .ok (.invokevirtual 53, 3) := by decide +kernel
theorem dX8_readDenied_100 : decode cX8_readDenied 100 = .ok (.aload_n 0, 1) := by decide +kernel
theorem dX8_readDenied_101 : decode cX8_readDenied 101 = .ok (.iload_n 1, 1) := by decide +kernel
theorem dX8_readDenied_102 : decode cX8_readDenied 102 = .ok (.iload_n 2, 1) := by decide +kernel
theorem dX8_readDenied_103 : decode cX8_readDenied 103 = .ok (.iadd, 1) := by decide +kernel
theorem dX8_readDenied_104 : decode cX8_readDenied 104 = .ok (.invokevirtual 79, 3) := by decide +kernel
theorem dX8_readDenied_107 : decode cX8_readDenied 107 = .ok (.aload_n 0, 1) := by decide +kernel
theorem dX8_readDenied_108 : decode cX8_readDenied 108 = .ok (.iload_n 3, 1) := by decide +kernel
theorem dX8_readDenied_109 : decode cX8_readDenied 109 = .ok (.invokevirtual 63, 3) := by decide +kernel
theorem dX8_readDenied_112 : decode cX8_readDenied 112 = .ok (.iconst 0, 1) := by decide +kernel
theorem dX8_readDenied_113 : decode cX8_readDenied 113 = .ok (.istore 4, 2) := by decide +kernel
theorem dX8_readDenied_115 : decode cX8_readDenied 115 = .ok (.iload 4, 2) := by decide +kernel
theorem dX8_readDenied_117 : decode cX8_readDenied 117 = .ok (.iload_n 2, 1) := by decide +kernel
theorem dX8_readDenied_118 : decode cX8_readDenied 118 = .ok (.if_icmp .ge 15, 3) := by decide +kernel
theorem dX8_readDenied_121 : decode cX8_readDenied 121 = .ok (.aload_n 0, 1) := by decide +kernel
theorem dX8_readDenied_122 : decode cX8_readDenied 122 = .ok (.bipush (-32), 2) := by decide +kernel
theorem dX8_readDenied_124 : decode cX8_readDenied 124 = .ok (.invokevirtual 63, 3) := by decide +kernel
theorem dX8_readDenied_127 : decode cX8_readDenied 127 = .ok (.iinc 4 1, 3) := by decide +kernel
theorem dX8_readDenied_130 : decode cX8_readDenied 130 = .ok (.goto (-15), 3) := by decide +kernel
theorem dX8_readDenied_133 : decode cX8_readDenied 133 = .ok (.return_, 1) := by decide +kernel
theorem dX8_readSum_0 : decode cX8_readSum 0 = .ok (.aload_n 0, 1) := by decide +kernel
theorem dX8_readSum_1 : decode cX8_readSum 1 = .ok (.iload_n 1, 1) := by decide +kernel
theorem dX8_readSum_2 : decode cX8_readSum 2 = .ok (.invokevirtual 82, 3) := by decide +kernel
theorem dX8_readSum_5 : decode cX8_readSum 5 = .ok (.iconst 0, 1) := by decide +kernel
theorem dX8_readSum_6 : decode cX8_readSum 6 = .ok (.istore_n 2, 1) := by decide +kernel
theorem dX8_readSum_7 : decode cX8_readSum 7 = .ok (.iload_n 2, 1) := by decide +kernel
theorem dX8_readSum_8 : decode cX8_readSum 8 = .ok (.sipush 160, 3) := by decide +kernel
theorem dX8_readSum_11 : decode cX8_readSum 11 = .ok (.if_icmp .ge 65, 3) := by decide +kernel
theorem dX8_readSum_14 : decode cX8_readSum 14 = .ok (.aload_n 0, 1) := by decide +kernel
theorem dX8_readSum_15 : decode cX8_readSum 15 = .ok (.getfield 41, 3) := by decide +kernel
theorem dX8_readSum_18 : decode cX8_readSum 18 = .ok (.ifCond .ge 58, 3) := by decide +kernel
theorem dX8_readSum_21 : decode cX8_readSum 21 = .ok (.aload_n 0, 1) := by decide +kernel
theorem dX8_readSum_22 : decode cX8_readSum 22 = .ok (.getfield 47, 3) := by decide +kernel
theorem dX8_readSum_25 : decode cX8_readSum 25 = .ok (.bipush 43, 2) := by decide +kernel
theorem dX8_readSum_27 : decode cX8_readSum 27 = .ok (.if_icmp .eq 12, 3) := by decide +kernel
theorem dX8_readSum_30 : decode cX8_readSum 30 = .ok (.aload_n 0, 1) := by decide +kernel
theorem dX8_readSum_31 : decode cX8_readSum 31 = .ok (.getfield 47, 3) := by decide +kernel
theorem dX8_readSum_34 : decode cX8_readSum 34 = .ok (.bipush 45, 2) := by decide +kernel
theorem dX8_readSum_36 : decode cX8_readSum 36 = .ok (.if_icmp .ne 40, 3) := by decide +kernel
theorem dX8_readSum_39 : decode cX8_readSum 39 = .ok (.aload_n 0, 1) := by decide +kernel
theorem dX8_readSum_40 : decode cX8_readSum 40 = .ok (.getfield 47, 3) := by decide +kernel
theorem dX8_readSum_43 : decode cX8_readSum 43 = .ok (.bipush 43, 2) := by decide +kernel
theorem dX8_readSum_45 : decode cX8_readSum 45 = .ok (.if_icmp .ne 8, 3) := by decide +kernel
theorem dX8_readSum_48 : decode cX8_readSum 48 = .ok (.bipush (-26), 2) := by decide +kernel
theorem dX8_readSum_50 : decode cX8_readSum 50 = .ok (.goto 5, 3) := by decide +kernel
theorem dX8_readSum_53 : decode cX8_readSum 53 = .ok (.bipush (-27), 2) := by decide +kernel
theorem dX8_readSum_55 : decode cX8_readSum 55 = .ok (.istore_n 3, 1) := by decide +kernel
theorem dX8_readSum_56 : decode cX8_readSum 56 = .ok (.aload_n 0, 1) := by decide +kernel
theorem dX8_readSum_57 : decode cX8_readSum 57 = .ok (.invokevirtual 53, 3) := by decide +kernel
theorem dX8_readSum_60 : decode cX8_readSum 60 = .ok (.aload_n 0, 1) := by decide +kernel
theorem dX8_readSum_61 : decode cX8_readSum 61 = .ok (.iload_n 1, 1) := by decide +kernel
theorem dX8_readSum_62 : decode cX8_readSum 62 = .ok (.invokevirtual 82, 3) := by decide +kernel
theorem dX8_readSum_65 : decode cX8_readSum 65 = .ok (.aload_n 0, 1) := by decide +kernel
theorem dX8_readSum_66 : decode cX8_readSum 66 = .ok (.iload_n 3, 1) := by decide +kernel
theorem dX8_readSum_67 : decode cX8_readSum 67 = .ok (.invokevirtual 63, 3) := by decide +kernel
theorem dX8_readSum_70 : decode cX8_readSum 70 = .ok (.iinc 2 1, 3) := by decide +kernel
theorem dX8_readSum_73 : decode cX8_readSum 73 = .ok (.goto (-66), 3) := by decide +kernel
theorem dX8_readSum_76 : decode cX8_readSum 76 = .ok (.return_, 1) := by decide +kernel
theorem dX8_readProduct_0 : decode cX8_readProduct 0 = .ok (.aload_n 0, 1) := by decide +kernel
theorem dX8_readProduct_1 : decode cX8_readProduct 1 = .ok (.iload_n 1, 1) := by decide +kernel
theorem dX8_readProduct_2 : decode cX8_readProduct 2 = .ok (.invokevirtual 85, 3) := by decide +kernel
theorem dX8_readProduct_5 : decode cX8_readProduct 5 = .ok (.iconst 0, 1) := by decide +kernel
theorem dX8_readProduct_6 : decode cX8_readProduct 6 = .ok (.istore_n 2, 1) := by decide +kernel
theorem dX8_readProduct_7 : decode cX8_readProduct 7 = .ok (.iload_n 2, 1) := by decide +kernel
theorem dX8_readProduct_8 : decode cX8_readProduct 8 = .ok (.sipush 160, 3) := by decide +kernel
theorem dX8_readProduct_11 : decode cX8_readProduct 11 = .ok (.if_icmp .ge 88, 3) := by decide +kernel
theorem dX8_readProduct_14 : decode cX8_readProduct 14 = .ok (.aload_n 0, 1) := by decide +kernel
theorem dX8_readProduct_15 : decode cX8_readProduct 15 = .ok (.getfield 41, 3) := by decide +kernel
theorem dX8_readProduct_18 : decode cX8_readProduct 18 = .ok (.ifCond .ge 81, 3) := by decide +kernel
theorem dX8_readProduct_21 : decode cX8_readProduct 21 = .ok (.aload_n 0, 1) := by decide +kernel
theorem dX8_readProduct_22 : decode cX8_readProduct 22 = .ok (.getfield 47, 3) := by decide +kernel
theorem dX8_readProduct_25 : decode cX8_readProduct 25 = .ok (.bipush 42, 2) := by decide +kernel
theorem dX8_readProduct_27 : decode cX8_readProduct 27 = .ok (.if_icmp .eq 21, 3) := by decide +kernel
theorem dX8_readProduct_30 : decode cX8_readProduct 30 = .ok (.aload_n 0, 1) := by decide +kernel
theorem dX8_readProduct_31 : decode cX8_readProduct 31 = .ok (.getfield 47, 3) := by decide +kernel
theorem dX8_readProduct_34 : decode cX8_readProduct 34 = .ok (.bipush 47, 2) := by decide +kernel
theorem dX8_readProduct_36 : decode cX8_readProduct 36 = .ok (.if_icmp .eq 12, 3) := by decide +kernel
theorem dX8_readProduct_39 : decode cX8_readProduct 39 = .ok (.aload_n 0, 1) := by decide +kernel
theorem dX8_readProduct_40 : decode cX8_readProduct 40 = .ok (.getfield 47, 3) := by decide +kernel
theorem dX8_readProduct_43 : decode cX8_readProduct 43 = .ok (.bipush 37, 2) := by decide +kernel
theorem dX8_readProduct_45 : decode cX8_readProduct 45 = .ok (.if_icmp .ne 54, 3) := by decide +kernel
theorem dX8_readProduct_48 : decode cX8_readProduct 48 = .ok (.aload_n 0, 1) := by decide +kernel
theorem dX8_readProduct_49 : decode cX8_readProduct 49 = .ok (.getfield 47, 3) := by decide +kernel
theorem dX8_readProduct_52 : decode cX8_readProduct 52 = .ok (.bipush 42, 2) := by decide +kernel
theorem dX8_readProduct_54 : decode cX8_readProduct 54 = .ok (.if_icmp .ne 8, 3) := by decide +kernel
theorem dX8_readProduct_57 : decode cX8_readProduct 57 = .ok (.bipush (-28), 2) := by decide +kernel
theorem dX8_readProduct_59 : decode cX8_readProduct 59 = .ok (.goto 19, 3) := by decide +kernel
theorem dX8_readProduct_62 : decode cX8_readProduct 62 = .ok (.aload_n 0, 1) := by decide +kernel
theorem dX8_readProduct_63 : decode cX8_readProduct 63 = .ok (.getfield 47, 3) := by decide +kernel
theorem dX8_readProduct_66 : decode cX8_readProduct 66 = .ok (.bipush 47, 2) := by decide +kernel
theorem dX8_readProduct_68 : decode cX8_readProduct 68 = .ok (.if_icmp .ne 8, 3) := by decide +kernel
theorem dX8_readProduct_71 : decode cX8_readProduct 71 = .ok (.bipush (-29), 2) := by decide +kernel
theorem dX8_readProduct_73 : decode cX8_readProduct 73 = .ok (.goto 5, 3) := by decide +kernel
theorem dX8_readProduct_76 : decode cX8_readProduct 76 = .ok (.bipush (-30), 2) := by decide +kernel
theorem dX8_readProduct_78 : decode cX8_readProduct 78 = .ok (.istore_n 3, 1) := by decide +kernel
theorem dX8_readProduct_79 : decode cX8_readProduct 79 = .ok (.aload_n 0, 1) := by decide +kernel
theorem dX8_readProduct_80 : decode cX8_readProduct 80 = .ok (.invokevirtual 53, 3) := by decide +kernel
theorem dX8_readProduct_83 : decode cX8_readProduct 83 = .ok (.aload_n 0, 1) := by decide +kernel
theorem dX8_readProduct_84 : decode cX8_readProduct 84 = .ok (.iload_n 1, 1) := by decide +kernel
theorem dX8_readProduct_85 : decode cX8_readProduct 85 = .ok (.invokevirtual 85, 3) := by decide +kernel
theorem dX8_readProduct_88 : decode cX8_readProduct 88 = .ok (.aload_n 0, 1) := by decide +kernel
theorem dX8_readProduct_89 : decode cX8_readProduct 89 = .ok (.iload_n 3, 1) := by decide +kernel
theorem dX8_readProduct_90 : decode cX8_readProduct 90 = .ok (.invokevirtual 63, 3) := by decide +kernel
theorem dX8_readProduct_93 : decode cX8_readProduct 93 = .ok (.iinc 2 1, 3) := by decide +kernel
theorem dX8_readProduct_96 : decode cX8_readProduct 96 = .ok (.goto (-89), 3) := by decide +kernel
theorem dX8_readProduct_99 : decode cX8_readProduct 99 = .ok (.return_, 1) := by decide +kernel
theorem dX8_readOne_0 : decode cX8_readOne 0 = .ok (.iconst 0, 1) := by decide +kernel
theorem dX8_readOne_1 : decode cX8_readOne 1 = .ok (.istore_n 2, 1) := by decide +kernel
theorem dX8_readOne_2 : decode cX8_readOne 2 = .ok (.iload_n 2, 1) := by decide +kernel
theorem dX8_readOne_3 : decode cX8_readOne 3 = .ok (.bipush 6, 2) := by decide +kernel
theorem dX8_readOne_5 : decode cX8_readOne 5 = .ok (.if_icmp .gt 28, 3) := by decide +kernel
theorem dX8_readOne_8 : decode cX8_readOne 8 = .ok (.aload_n 0, 1) := by decide +kernel
theorem dX8_readOne_9 : decode cX8_readOne 9 = .ok (.getfield 47, 3) := by decide +kernel
theorem dX8_readOne_12 : decode cX8_readOne 12 = .ok (.bipush 45, 2) := by decide +kernel
theorem dX8_readOne_14 : decode cX8_readOne 14 = .ok (.if_icmp .ne 19, 3) := by decide +kernel
theorem dX8_readOne_17 : decode cX8_readOne 17 = .ok (.aload_n 0, 1) := by decide +kernel
theorem dX8_readOne_18 : decode cX8_readOne 18 = .ok (.iload_n 1, 1) := by decide +kernel
theorem dX8_readOne_19 : decode cX8_readOne 19 = .ok (.iload_n 2, 1) := by decide +kernel
theorem dX8_readOne_20 : decode cX8_readOne 20 = .ok (.iadd, 1) := by decide +kernel
theorem dX8_readOne_21 : decode cX8_readOne 21 = .ok (.invokevirtual 75, 3) := by decide +kernel
theorem dX8_readOne_24 : decode cX8_readOne 24 = .ok (.ifCond .eq 9, 3) := by decide +kernel
theorem dX8_readOne_27 : decode cX8_readOne 27 = .ok (.iinc 2 1, 3) := by decide +kernel
theorem dX8_readOne_30 : decode cX8_readOne 30 = .ok (.goto (-28), 3) := by decide +kernel
theorem dX8_readOne_33 : decode cX8_readOne 33 = .ok (.aload_n 0, 1) := by decide +kernel
theorem dX8_readOne_34 : decode cX8_readOne 34 = .ok (.getfield 47, 3) := by decide +kernel
theorem dX8_readOne_37 : decode cX8_readOne 37 = .ok (.iconst 2, 1) := by decide +kernel
theorem dX8_readOne_38 : decode cX8_readOne 38 = .ok (.if_icmp .eq 11, 3) := by decide +kernel
theorem dX8_readOne_41 : decode cX8_readOne 41 = .ok (.aload_n 0, 1) := by decide +kernel
theorem dX8_readOne_42 : decode cX8_readOne 42 = .ok (.getfield 47, 3) := by decide +kernel
theorem dX8_readOne_45 : decode cX8_readOne 45 = .ok (.iconst 3, 1) := by decide +kernel
theorem dX8_readOne_46 : decode cX8_readOne 46 = .ok (.if_icmp .ne 23, 3) := by decide +kernel
theorem dX8_readOne_49 : decode cX8_readOne 49 = .ok (.aload_n 0, 1) := by decide +kernel
theorem dX8_readOne_50 : decode cX8_readOne 50 = .ok (.aload_n 0, 1) := by decide +kernel
theorem dX8_readOne_51 : decode cX8_readOne 51 = .ok (.getfield 19, 3) := by decide +kernel
theorem dX8_readOne_54 : decode cX8_readOne 54 = .ok (.aload_n 0, 1) := by decide +kernel
theorem dX8_readOne_55 : decode cX8_readOne 55 = .ok (.getfield 44, 3) := by decide +kernel
theorem dX8_readOne_58 : decode cX8_readOne 58 = .ok (.iaload, 1) := by decide +kernel
theorem dX8_readOne_59 : decode cX8_readOne 59 = .ok (.invokevirtual 63, 3) := by decide +kernel
theorem dX8_readOne_62 : decode cX8_readOne 62 = .ok (.aload_n 0, 1) := by decide +kernel
theorem dX8_readOne_63 : decode cX8_readOne 63 = .ok (.invokevirtual 53, 3) := by decide +kernel
theorem dX8_readOne_66 : decode cX8_readOne 66 = .ok (.goto 44, 3) := by decide +kernel
theorem dX8_readOne_69 : decode cX8_readOne 69 = .ok (.aload_n 0, 1) := by decide +kernel
theorem dX8_readOne_70 : decode cX8_readOne 70 = .ok (.getfield 47, 3) := by decide +kernel
theorem dX8_readOne_73 : decode cX8_readOne 73 = .ok (.bipush 40, 2) := by decide +kernel
theorem dX8_readOne_75 : decode cX8_readOne 75 = .ok (.if_icmp .ne 31, 3) := by decide +kernel
theorem dX8_readOne_78 : decode cX8_readOne 78 = .ok (.aload_n 0, 1) := by decide +kernel
theorem dX8_readOne_79 : decode cX8_readOne 79 = .ok (.iload_n 1, 1) := by decide +kernel
theorem dX8_readOne_80 : decode cX8_readOne 80 = .ok (.iload_n 2, 1) := by decide +kernel
theorem dX8_readOne_81 : decode cX8_readOne 81 = .ok (.iadd, 1) := by decide +kernel
theorem dX8_readOne_82 : decode cX8_readOne 82 = .ok (.invokevirtual 75, 3) := by decide +kernel
theorem dX8_readOne_85 : decode cX8_readOne 85 = .ok (.ifCond .eq 21, 3) := by decide +kernel
theorem dX8_readOne_88 : decode cX8_readOne 88 = .ok (.aload_n 0, 1) := by decide +kernel
theorem dX8_readOne_89 : decode cX8_readOne 89 = .ok (.iload_n 1, 1) := by decide +kernel
theorem dX8_readOne_90 : decode cX8_readOne 90 = .ok (.iload_n 2, 1) := by decide +kernel
theorem dX8_readOne_91 : decode cX8_readOne 91 = .ok (.iadd, 1) := by decide +kernel
theorem dX8_readOne_92 : decode cX8_readOne 92 = .ok (.iconst 1, 1) := by decide +kernel
theorem dX8_readOne_93 : decode cX8_readOne 93 = .ok (.iadd, 1) := by decide +kernel
theorem dX8_readOne_94 : decode cX8_readOne 94 = .ok (.invokevirtual 59, 3) := by decide +kernel
theorem dX8_readOne_97 : decode cX8_readOne 97 = .ok (.aload_n 0, 1) := by decide +kernel
theorem dX8_readOne_98 : decode cX8_readOne 98 = .ok (.bipush 41, 2) := by decide +kernel
theorem dX8_readOne_100 : decode cX8_readOne 100 = .ok (.invokevirtual 66, 3) := by decide +kernel
theorem dX8_readOne_103 : decode cX8_readOne 103 = .ok (.goto 7, 3) := by decide +kernel
theorem dX8_readOne_106 : decode cX8_readOne 106 = .ok (.aload_n 0, 1) := by decide +kernel
theorem dX8_readOne_107 : decode cX8_readOne 107 = .ok (.invokevirtual 56, 3) := by decide +kernel
theorem dX8_readOne_110 : decode cX8_readOne 110 = .ok (.iconst 0, 1) := by decide +kernel
theorem dX8_readOne_111 : decode cX8_readOne 111 = .ok (.istore_n 3, 1) := by decide +kernel
theorem dX8_readOne_112 : decode cX8_readOne 112 = .ok (.iload_n 3, 1) := by decide +kernel
theorem dX8_readOne_113 : decode cX8_readOne 113 = .ok (.iload_n 2, 1) := by decide +kernel
theorem dX8_readOne_114 : decode cX8_readOne 114 = .ok (.if_icmp .ge 15, 3) := by decide +kernel
theorem dX8_readOne_117 : decode cX8_readOne 117 = .ok (.aload_n 0, 1) := by decide +kernel
theorem dX8_readOne_118 : decode cX8_readOne 118 = .ok (.bipush (-31), 2) := by decide +kernel
theorem dX8_readOne_120 : decode cX8_readOne 120 = .ok (.invokevirtual 63, 3) := by decide +kernel
theorem dX8_readOne_123 : decode cX8_readOne 123 = .ok (.iinc 3 1, 3) := by decide +kernel
theorem dX8_readOne_126 : decode cX8_readOne 126 = .ok (.goto (-14), 3) := by decide +kernel
theorem dX8_readOne_129 : decode cX8_readOne 129 = .ok (.return_, 1) := by decide +kernel
theorem dX8_mayOpen_0 : decode cX8_mayOpen 0 = .ok (.iload_n 1, 1) := by decide +kernel
theorem dX8_mayOpen_1 : decode cX8_mayOpen 1 = .ok (.bipush 6, 2) := by decide +kernel
theorem dX8_mayOpen_3 : decode cX8_mayOpen 3 = .ok (.if_icmp .ge 10, 3) := by decide +kernel
theorem dX8_mayOpen_6 : decode cX8_mayOpen 6 = .ok (.aload_n 0, 1) := by decide +kernel
theorem dX8_mayOpen_7 : decode cX8_mayOpen 7 = .ok (.getfield 41, 3) := by decide +kernel
theorem dX8_mayOpen_10 : decode cX8_mayOpen 10 = .ok (.ifCond .lt 9, 3) := by decide +kernel
theorem dX8_mayOpen_13 : decode cX8_mayOpen 13 = .ok (.aload_n 0, 1) := by decide +kernel
theorem dX8_mayOpen_14 : decode cX8_mayOpen 14 = .ok (.invokevirtual 56, 3) := by decide +kernel
theorem dX8_mayOpen_17 : decode cX8_mayOpen 17 = .ok (.iconst 0, 1) := by decide +kernel
theorem dX8_mayOpen_18 : decode cX8_mayOpen 18 = .ok (.ireturn, 1) := by decide +kernel
theorem dX8_mayOpen_19 : decode cX8_mayOpen 19 = .ok (.aload_n 0, 1) := by decide +kernel
theorem dX8_mayOpen_20 : decode cX8_mayOpen 20 = .ok (.invokevirtual 53, 3) := by decide +kernel
theorem dX8_mayOpen_23 : decode cX8_mayOpen 23 = .ok (.iconst 1, 1) := by decide +kernel
theorem dX8_mayOpen_24 : decode cX8_mayOpen 24 = .ok (.ireturn, 1) := by decide +kernel
theorem dX8_advance_0 : decode cX8_advance 0 = .ok (.aload_n 0, 1) := by decide +kernel
theorem dX8_advance_1 : decode cX8_advance 1 = .ok (.getfield 44, 3) := by decide +kernel
theorem dX8_advance_4 : decode cX8_advance 4 = .ok (.sipush 160, 3) := by decide +kernel
theorem dX8_advance_7 : decode cX8_advance 7 = .ok (.if_icmp .ge 33, 3) := by decide +kernel
theorem dX8_advance_10 : decode cX8_advance 10 = .ok (.aload_n 0, 1) := by decide +kernel
theorem dX8_advance_11 : decode cX8_advance 11 = .ok (.getfield 47, 3) := by decide +kernel
theorem dX8_advance_14 : decode cX8_advance 14 = .ok (.ifCond .eq 26, 3) := by decide +kernel
theorem dX8_advance_17 : decode cX8_advance 17 = .ok (.aload_n 0, 1) := by decide +kernel
theorem dX8_advance_18 : decode cX8_advance 18 = .ok (.dup, 1) := by decide +kernel
theorem dX8_advance_19 : decode cX8_advance 19 = .ok (.getfield 44, 3) := by decide +kernel
theorem dX8_advance_22 : decode cX8_advance 22 = .ok (.iconst 1, 1) := by decide +kernel
theorem dX8_advance_23 : decode cX8_advance 23 = .ok (.iadd, 1) := by decide +kernel
theorem dX8_advance_24 : decode cX8_advance 24 = .ok (.putfield 44, 3) := by decide +kernel
theorem dX8_advance_27 : decode cX8_advance 27 = .ok (.aload_n 0, 1) := by decide +kernel
theorem dX8_advance_28 : decode cX8_advance 28 = .ok (.aload_n 0, 1) := by decide +kernel
theorem dX8_advance_29 : decode cX8_advance 29 = .ok (.getfield 13, 3) := by decide +kernel
theorem dX8_advance_32 : decode cX8_advance 32 = .ok (.aload_n 0, 1) := by decide +kernel
theorem dX8_advance_33 : decode cX8_advance 33 = .ok (.getfield 44, 3) := by decide +kernel
theorem dX8_advance_36 : decode cX8_advance 36 = .ok (.iaload, 1) := by decide +kernel
theorem dX8_advance_37 : decode cX8_advance 37 = .ok (.putfield 47, 3) := by decide +kernel
theorem dX8_advance_40 : decode cX8_advance 40 = .ok (.return_, 1) := by decide +kernel
theorem dX8_splitIntoTokens_0 : decode cX8_splitIntoTokens 0 = .ok (.aload_n 0, 1) := by decide +kernel
theorem dX8_splitIntoTokens_1 : decode cX8_splitIntoTokens 1 = .ok (.iconst 0, 1) := by decide +kernel
theorem dX8_splitIntoTokens_2 : decode cX8_splitIntoTokens 2 = .ok (.putfield 88, 3) := by decide +kernel
theorem dX8_splitIntoTokens_5 : decode cX8_splitIntoTokens 5 = .ok (.iconst 0, 1) := by decide +kernel
theorem dX8_splitIntoTokens_6 : decode cX8_splitIntoTokens 6 = .ok (.istore_n 1, 1) := by decide +kernel
theorem dX8_splitIntoTokens_7 : decode cX8_splitIntoTokens 7 = .ok (.iload_n 1, 1) := by decide +kernel
theorem dX8_splitIntoTokens_8 : decode cX8_splitIntoTokens 8 = .ok (.sipush 160, 3) := by decide +kernel
theorem dX8_splitIntoTokens_11 : decode cX8_splitIntoTokens 11 = .ok (.if_icmp .gt 105, 3) := by decide +kernel
theorem dX8_splitIntoTokens_14 : decode cX8_splitIntoTokens 14 = .ok (.aload_n 0, 1) := by decide +kernel
theorem dX8_splitIntoTokens_15 : decode cX8_splitIntoTokens 15 = .ok (.invokevirtual 91, 3) := by decide +kernel
theorem dX8_splitIntoTokens_18 : decode cX8_splitIntoTokens 18 = .ok (.aload_n 0, 1) := by decide +kernel
theorem dX8_splitIntoTokens_19 : decode cX8_splitIntoTokens 19 = .ok (.getfield 16, 3) := by decide +kernel
theorem dX8_splitIntoTokens_22 : decode cX8_splitIntoTokens 22 = .ok (.iload_n 1, 1) := by decide +kernel
theorem dX8_splitIntoTokens_23 : decode cX8_splitIntoTokens 23 = .ok (.aload_n 0, 1) := by decide +kernel
theorem dX8_splitIntoTokens_24 : decode cX8_splitIntoTokens 24 = .ok (.getfield 88, 3) := by decide +kernel
theorem dX8_splitIntoTokens_27 : decode cX8_splitIntoTokens 27 = .ok (.iastore, 1) := by decide +kernel
theorem dX8_splitIntoTokens_28 : decode cX8_splitIntoTokens 28 = .ok (.aload_n 0, 1) := by decide +kernel
theorem dX8_splitIntoTokens_29 : decode cX8_splitIntoTokens 29 = .ok (.aload_n 0, 1) := by decide +kernel
theorem dX8_splitIntoTokens_30 : decode cX8_splitIntoTokens 30 = .ok (.getfield 88, 3) := by decide +kernel
theorem dX8_splitIntoTokens_33 : decode cX8_splitIntoTokens 33 = .ok (.invokevirtual 94, 3) := by decide +kernel
theorem dX8_splitIntoTokens_36 : decode cX8_splitIntoTokens 36 = .ok (.istore_n 2, 1) := by decide +kernel
theorem dX8_splitIntoTokens_37 : decode cX8_splitIntoTokens 37 = .ok (.iload_n 2, 1) := by decide +kernel
theorem dX8_splitIntoTokens_38 : decode cX8_splitIntoTokens 38 = .ok (.ifCond .ge 11, 3) := by decide +kernel
theorem dX8_splitIntoTokens_41 : decode cX8_splitIntoTokens 41 = .ok (.aload_n 0, 1) := by decide +kernel
theorem dX8_splitIntoTokens_42 : decode cX8_splitIntoTokens 42 = .ok (.getfield 13, 3) := by decide +kernel
theorem dX8_splitIntoTokens_45 : decode cX8_splitIntoTokens 45 = .ok (.iload_n 1, 1) := by decide +kernel
theorem dX8_splitIntoTokens_46 : decode cX8_splitIntoTokens 46 = .ok (.iconst 0, 1) := by decide +kernel
theorem dX8_splitIntoTokens_47 : decode cX8_splitIntoTokens 47 = .ok (.iastore, 1) := by decide +kernel
theorem dX8_splitIntoTokens_48 : decode cX8_splitIntoTokens 48 = .ok (.return_, 1) := by decide +kernel
theorem dX8_splitIntoTokens_49 : decode cX8_splitIntoTokens 49 = .ok (.iload_n 2, 1) := by decide +kernel
theorem dX8_splitIntoTokens_50 : decode cX8_splitIntoTokens 50 = .ok (.invokestatic 98, 3) := by decide +kernel
theorem dX8_splitIntoTokens_53 : decode cX8_splitIntoTokens 53 = .ok (.ifCond .eq 11, 3) := by decide +kernel
theorem dX8_splitIntoTokens_56 : decode cX8_splitIntoTokens 56 = .ok (.aload_n 0, 1) := by decide +kernel
theorem dX8_splitIntoTokens_57 : decode cX8_splitIntoTokens 57 = .ok (.iload_n 1, 1) := by decide +kernel
theorem dX8_splitIntoTokens_58 : decode cX8_splitIntoTokens 58 = .ok (.invokevirtual 101, 3) := by decide +kernel
theorem dX8_splitIntoTokens_61 : decode cX8_splitIntoTokens 61 = .ok (.goto 49, 3) := by decide +kernel
theorem dX8_splitIntoTokens_64 : decode cX8_splitIntoTokens 64 = .ok (.iload_n 2, 1) := by decide +kernel
theorem dX8_splitIntoTokens_65 : decode cX8_splitIntoTokens 65 = .ok (.invokestatic 104, 3) := by decide +kernel
theorem dX8_splitIntoTokens_68 : decode cX8_splitIntoTokens 68 = .ok (.ifCond .eq 11, 3) := by decide +kernel
theorem dX8_splitIntoTokens_71 : decode cX8_splitIntoTokens 71 = .ok (.aload_n 0, 1) := by decide +kernel
theorem dX8_splitIntoTokens_72 : decode cX8_splitIntoTokens 72 = .ok (.iload_n 1, 1) := by decide +kernel
theorem dX8_splitIntoTokens_73 : decode cX8_splitIntoTokens 73 = .ok (.invokevirtual 107, 3) := by decide +kernel
theorem dX8_splitIntoTokens_76 : decode cX8_splitIntoTokens 76 = .ok (.goto 34, 3) := by decide +kernel
theorem dX8_splitIntoTokens_79 : decode cX8_splitIntoTokens 79 = .ok (.aload_n 0, 1) := by decide +kernel
theorem dX8_splitIntoTokens_80 : decode cX8_splitIntoTokens 80 = .ok (.getfield 13, 3) := by decide +kernel
theorem dX8_splitIntoTokens_83 : decode cX8_splitIntoTokens 83 = .ok (.iload_n 1, 1) := by decide +kernel
theorem dX8_splitIntoTokens_84 : decode cX8_splitIntoTokens 84 = .ok (.ldc 110, 2) := by decide +kernel
theorem dX8_splitIntoTokens_86 : decode cX8_splitIntoTokens 86 = .ok (.iload_n 2, 1) := by decide +kernel
theorem dX8_splitIntoTokens_87 : decode cX8_splitIntoTokens 87 = .ok (.i2c, 1) := by decide +kernel
theorem dX8_splitIntoTokens_88 : decode cX8_splitIntoTokens 88 = .ok (.invokevirtual 112, 3) := by decide +kernel
theorem dX8_splitIntoTokens_91 : decode cX8_splitIntoTokens 91 = .ok (.ifCond .lt 7, 3) := by decide +kernel
theorem dX8_splitIntoTokens_94 : decode cX8_splitIntoTokens 94 = .ok (.iload_n 2, 1) := by decide +kernel
theorem dX8_splitIntoTokens_95 : decode cX8_splitIntoTokens 95 = .ok (.goto 4, 3) := by decide +kernel
theorem dX8_splitIntoTokens_98 : decode cX8_splitIntoTokens 98 = .ok (.iconst 1, 1) := by decide +kernel
theorem dX8_splitIntoTokens_99 : decode cX8_splitIntoTokens 99 = .ok (.iastore, 1) := by decide +kernel
theorem dX8_splitIntoTokens_100 : decode cX8_splitIntoTokens 100 = .ok (.aload_n 0, 1) := by decide +kernel
theorem dX8_splitIntoTokens_101 : decode cX8_splitIntoTokens 101 = .ok (.dup, 1) := by decide +kernel
theorem dX8_splitIntoTokens_102 : decode cX8_splitIntoTokens 102 = .ok (.getfield 88, 3) := by decide +kernel
theorem dX8_splitIntoTokens_105 : decode cX8_splitIntoTokens 105 = .ok (.iconst 1, 1) := by decide +kernel
theorem dX8_splitIntoTokens_106 : decode cX8_splitIntoTokens 106 = .ok (.iadd, 1) := by decide +kernel
theorem dX8_splitIntoTokens_107 : decode cX8_splitIntoTokens 107 = .ok (.putfield 88, 3) := by decide +kernel
theorem dX8_splitIntoTokens_110 : decode cX8_splitIntoTokens 110 = .ok (.iinc 1 1, 3) := by decide +kernel
theorem dX8_splitIntoTokens_113 : decode cX8_splitIntoTokens 113 = .ok (.goto (-106), 3) := by decide +kernel
theorem dX8_splitIntoTokens_116 : decode cX8_splitIntoTokens 116 = .ok (.return_, 1) := by decide +kernel
theorem dX8_skipBlanks_0 : decode cX8_skipBlanks 0 = .ok (.iconst 0, 1) := by decide +kernel
theorem dX8_skipBlanks_1 : decode cX8_skipBlanks 1 = .ok (.istore_n 1, 1) := by decide +kernel
theorem dX8_skipBlanks_2 : decode cX8_skipBlanks 2 = .ok (.iload_n 1, 1) := by decide +kernel
theorem dX8_skipBlanks_3 : decode cX8_skipBlanks 3 = .ok (.sipush 160, 3) := by decide +kernel
theorem dX8_skipBlanks_6 : decode cX8_skipBlanks 6 = .ok (.if_icmp .ge 32, 3) := by decide +kernel
theorem dX8_skipBlanks_9 : decode cX8_skipBlanks 9 = .ok (.aload_n 0, 1) := by decide +kernel
theorem dX8_skipBlanks_10 : decode cX8_skipBlanks 10 = .ok (.aload_n 0, 1) := by decide +kernel
theorem dX8_skipBlanks_11 : decode cX8_skipBlanks 11 = .ok (.getfield 88, 3) := by decide +kernel
theorem dX8_skipBlanks_14 : decode cX8_skipBlanks 14 = .ok (.invokevirtual 94, 3) := by decide +kernel
theorem dX8_skipBlanks_17 : decode cX8_skipBlanks 17 = .ok (.bipush 32, 2) := by decide +kernel
theorem dX8_skipBlanks_19 : decode cX8_skipBlanks 19 = .ok (.if_icmp .ne 19, 3) := by decide +kernel
theorem dX8_skipBlanks_22 : decode cX8_skipBlanks 22 = .ok (.aload_n 0, 1) := by decide +kernel
theorem dX8_skipBlanks_23 : decode cX8_skipBlanks 23 = .ok (.dup, 1) := by decide +kernel
theorem dX8_skipBlanks_24 : decode cX8_skipBlanks 24 = .ok (.getfield 88, 3) := by decide +kernel
theorem dX8_skipBlanks_27 : decode cX8_skipBlanks 27 = .ok (.iconst 1, 1) := by decide +kernel
theorem dX8_skipBlanks_28 : decode cX8_skipBlanks 28 = .ok (.iadd, 1) := by decide +kernel
theorem dX8_skipBlanks_29 : decode cX8_skipBlanks 29 = .ok (.putfield 88, 3) := by decide +kernel
theorem dX8_skipBlanks_32 : decode cX8_skipBlanks 32 = .ok (.iinc 1 1, 3) := by decide +kernel
theorem dX8_skipBlanks_35 : decode cX8_skipBlanks 35 = .ok (.goto (-33), 3) := by decide +kernel
theorem dX8_skipBlanks_38 : decode cX8_skipBlanks 38 = .ok (.return_, 1) := by decide +kernel
theorem dX8_byteAt_0 : decode cX8_byteAt 0 = .ok (.iload_n 1, 1) := by decide +kernel
theorem dX8_byteAt_1 : decode cX8_byteAt 1 = .ok (.ifCond .lt 18, 3) := by decide +kernel
theorem dX8_byteAt_4 : decode cX8_byteAt 4 = .ok (.iload_n 1, 1) := by decide +kernel
theorem dX8_byteAt_5 : decode cX8_byteAt 5 = .ok (.aload_n 0, 1) := by decide +kernel
theorem dX8_byteAt_6 : decode cX8_byteAt 6 = .ok (.getfield 25, 3) := by decide +kernel
theorem dX8_byteAt_9 : decode cX8_byteAt 9 = .ok (.if_icmp .ge 10, 3) := by decide +kernel
theorem dX8_byteAt_12 : decode cX8_byteAt 12 = .ok (.iload_n 1, 1) := by decide +kernel
theorem dX8_byteAt_13 : decode cX8_byteAt 13 = .ok (.sipush 160, 3) := by decide +kernel
theorem dX8_byteAt_16 : decode cX8_byteAt 16 = .ok (.if_icmp .lt 7, 3) := by decide +kernel
theorem dX8_byteAt_19 : decode cX8_byteAt 19 = .ok (.iconst (-1), 1) := by decide +kernel
theorem dX8_byteAt_20 : decode cX8_byteAt 20 = .ok (.goto 9, 3) := by decide +kernel
theorem dX8_byteAt_23 : decode cX8_byteAt 23 = .ok (.aload_n 0, 1) := by decide +kernel
theorem dX8_byteAt_24 : decode cX8_byteAt 24 = .ok (.getfield 9, 3) := by decide +kernel
theorem dX8_byteAt_27 : decode cX8_byteAt 27 = .ok (.iload_n 1, 1) := by decide +kernel
theorem dX8_byteAt_28 : decode cX8_byteAt 28 = .ok (.iaload, 1) := by decide +kernel
theorem dX8_byteAt_29 : decode cX8_byteAt 29 = .ok (.ireturn, 1) := by decide +kernel
theorem dX8_isLetter_0 : decode cX8_isLetter 0 = .ok (.iload_n 0, 1) := by decide +kernel
theorem dX8_isLetter_1 : decode cX8_isLetter 1 = .ok (.bipush 97, 2) := by decide +kernel
theorem dX8_isLetter_3 : decode cX8_isLetter 3 = .ok (.if_icmp .lt 13, 3) := by decide +kernel
theorem dX8_isLetter_6 : decode cX8_isLetter 6 = .ok (.iload_n 0, 1) := by decide +kernel
theorem dX8_isLetter_7 : decode cX8_isLetter 7 = .ok (.bipush 122, 2) := by decide +kernel
theorem dX8_isLetter_9 : decode cX8_isLetter 9 = .ok (.if_icmp .gt 7, 3) := by decide +kernel
theorem dX8_isLetter_12 : decode cX8_isLetter 12 = .ok (.iconst 1, 1) := by decide +kernel
theorem dX8_isLetter_13 : decode cX8_isLetter 13 = .ok (.goto 4, 3) := by decide +kernel
theorem dX8_isLetter_16 : decode cX8_isLetter 16 = .ok (.iconst 0, 1) := by decide +kernel
theorem dX8_isLetter_17 : decode cX8_isLetter 17 = .ok (.ireturn, 1) := by decide +kernel
theorem dX8_isDigit_0 : decode cX8_isDigit 0 = .ok (.iload_n 0, 1) := by decide +kernel
theorem dX8_isDigit_1 : decode cX8_isDigit 1 = .ok (.bipush 48, 2) := by decide +kernel
theorem dX8_isDigit_3 : decode cX8_isDigit 3 = .ok (.if_icmp .lt 13, 3) := by decide +kernel
theorem dX8_isDigit_6 : decode cX8_isDigit 6 = .ok (.iload_n 0, 1) := by decide +kernel
theorem dX8_isDigit_7 : decode cX8_isDigit 7 = .ok (.bipush 57, 2) := by decide +kernel
theorem dX8_isDigit_9 : decode cX8_isDigit 9 = .ok (.if_icmp .gt 7, 3) := by decide +kernel
theorem dX8_isDigit_12 : decode cX8_isDigit 12 = .ok (.iconst 1, 1) := by decide +kernel
theorem dX8_isDigit_13 : decode cX8_isDigit 13 = .ok (.goto 4, 3) := by decide +kernel
theorem dX8_isDigit_16 : decode cX8_isDigit 16 = .ok (.iconst 0, 1) := by decide +kernel
theorem dX8_isDigit_17 : decode cX8_isDigit 17 = .ok (.ireturn, 1) := by decide +kernel
theorem dX8_readNumber_0 : decode cX8_readNumber 0 = .ok (.iconst 0, 1) := by decide +kernel
theorem dX8_readNumber_1 : decode cX8_readNumber 1 = .ok (.istore_n 2, 1) := by decide +kernel
theorem dX8_readNumber_2 : decode cX8_readNumber 2 = .ok (.aload_n 0, 1) := by decide +kernel
theorem dX8_readNumber_3 : decode cX8_readNumber 3 = .ok (.getfield 13, 3) := by decide +kernel
theorem dX8_readNumber_6 : decode cX8_readNumber 6 = .ok (.iload_n 1, 1) := by decide +kernel
theorem dX8_readNumber_7 : decode cX8_readNumber 7 = .ok (.iconst 2, 1) := by decide +kernel
theorem dX8_readNumber_8 : decode cX8_readNumber 8 = .ok (.iastore, 1) := by decide +kernel
theorem dX8_readNumber_9 : decode cX8_readNumber 9 = .ok (.iconst 0, 1) := by decide +kernel
theorem dX8_readNumber_10 : decode cX8_readNumber 10 = .ok (.istore_n 3, 1) := by decide +kernel
theorem dX8_readNumber_11 : decode cX8_readNumber 11 = .ok (.iload_n 3, 1) := by decide +kernel
theorem dX8_readNumber_12 : decode cX8_readNumber 12 = .ok (.sipush 160, 3) := by decide +kernel
theorem dX8_readNumber_15 : decode cX8_readNumber 15 = .ok (.if_icmp .ge 65, 3) := by decide +kernel
theorem dX8_readNumber_18 : decode cX8_readNumber 18 = .ok (.aload_n 0, 1) := by decide +kernel
theorem dX8_readNumber_19 : decode cX8_readNumber 19 = .ok (.aload_n 0, 1) := by decide +kernel
theorem dX8_readNumber_20 : decode cX8_readNumber 20 = .ok (.getfield 88, 3) := by decide +kernel
theorem dX8_readNumber_23 : decode cX8_readNumber 23 = .ok (.invokevirtual 94, 3) := by decide +kernel
theorem dX8_readNumber_26 : decode cX8_readNumber 26 = .ok (.invokestatic 104, 3) := by decide +kernel
theorem dX8_readNumber_29 : decode cX8_readNumber 29 = .ok (.ifCond .eq 51, 3) := by decide +kernel
theorem dX8_readNumber_32 : decode cX8_readNumber 32 = .ok (.iload_n 3, 1) := by decide +kernel
theorem dX8_readNumber_33 : decode cX8_readNumber 33 = .ok (.iconst 5, 1) := by decide +kernel
theorem dX8_readNumber_34 : decode cX8_readNumber 34 = .ok (.if_icmp .ge 23, 3) := by decide +kernel
theorem dX8_readNumber_37 : decode cX8_readNumber 37 = .ok (.bipush 10, 2) := by decide +kernel
theorem dX8_readNumber_39 : decode cX8_readNumber 39 = .ok (.iload_n 2, 1) := by decide +kernel
theorem dX8_readNumber_40 : decode cX8_readNumber 40 = .ok (.imul, 1) := by decide +kernel
theorem dX8_readNumber_41 : decode cX8_readNumber 41 = .ok (.aload_n 0, 1) := by decide +kernel
theorem dX8_readNumber_42 : decode cX8_readNumber 42 = .ok (.aload_n 0, 1) := by decide +kernel
theorem dX8_readNumber_43 : decode cX8_readNumber 43 = .ok (.getfield 88, 3) := by decide +kernel
theorem dX8_readNumber_46 : decode cX8_readNumber 46 = .ok (.invokevirtual 94, 3) := by decide +kernel
theorem dX8_readNumber_49 : decode cX8_readNumber 49 = .ok (.iadd, 1) := by decide +kernel
theorem dX8_readNumber_50 : decode cX8_readNumber 50 = .ok (.bipush 48, 2) := by decide +kernel
theorem dX8_readNumber_52 : decode cX8_readNumber 52 = .ok (.isub, 1) := by decide +kernel
theorem dX8_readNumber_53 : decode cX8_readNumber 53 = .ok (.istore_n 2, 1) := by decide +kernel
theorem dX8_readNumber_54 : decode cX8_readNumber 54 = .ok (.goto 10, 3) := by decide +kernel
theorem dX8_readNumber_57 : decode cX8_readNumber 57 = .ok (.aload_n 0, 1) := by decide +kernel
theorem dX8_readNumber_58 : decode cX8_readNumber 58 = .ok (.getfield 13, 3) := by decide +kernel
theorem dX8_readNumber_61 : decode cX8_readNumber 61 = .ok (.iload_n 1, 1) := by decide +kernel
theorem dX8_readNumber_62 : decode cX8_readNumber 62 = .ok (.iconst 1, 1) := by decide +kernel
theorem dX8_readNumber_63 : decode cX8_readNumber 63 = .ok (.iastore, 1) := by decide +kernel
theorem dX8_readNumber_64 : decode cX8_readNumber 64 = .ok (.aload_n 0, 1) := by decide +kernel
theorem dX8_readNumber_65 : decode cX8_readNumber 65 = .ok (.dup, 1) := by decide +kernel
theorem dX8_readNumber_66 : decode cX8_readNumber 66 = .ok (.getfield 88, 3) := by decide +kernel
theorem dX8_readNumber_69 : decode cX8_readNumber 69 = .ok (.iconst 1, 1) := by decide +kernel
theorem dX8_readNumber_70 : decode cX8_readNumber 70 = .ok (.iadd, 1) := by decide +kernel
theorem dX8_readNumber_71 : decode cX8_readNumber 71 = .ok (.putfield 88, 3) := by decide +kernel
theorem dX8_readNumber_74 : decode cX8_readNumber 74 = .ok (.iinc 3 1, 3) := by decide +kernel
theorem dX8_readNumber_77 : decode cX8_readNumber 77 = .ok (.goto (-66), 3) := by decide +kernel
theorem dX8_readNumber_80 : decode cX8_readNumber 80 = .ok (.aload_n 0, 1) := by decide +kernel
theorem dX8_readNumber_81 : decode cX8_readNumber 81 = .ok (.getfield 19, 3) := by decide +kernel
theorem dX8_readNumber_84 : decode cX8_readNumber 84 = .ok (.iload_n 1, 1) := by decide +kernel
theorem dX8_readNumber_85 : decode cX8_readNumber 85 = .ok (.iload_n 2, 1) := by decide +kernel
theorem dX8_readNumber_86 : decode cX8_readNumber 86 = .ok (.iastore, 1) := by decide +kernel
theorem dX8_readNumber_87 : decode cX8_readNumber 87 = .ok (.return_, 1) := by decide +kernel
theorem dX8_readWord_0 : decode cX8_readWord 0 = .ok (.iconst 0, 1) := by decide +kernel
theorem dX8_readWord_1 : decode cX8_readWord 1 = .ok (.istore_n 2, 1) := by decide +kernel
theorem dX8_readWord_2 : decode cX8_readWord 2 = .ok (.iload_n 2, 1) := by decide +kernel
theorem dX8_readWord_3 : decode cX8_readWord 3 = .ok (.sipush 160, 3) := by decide +kernel
theorem dX8_readWord_6 : decode cX8_readWord 6 = .ok (.if_icmp .ge 33, 3) := by decide +kernel
theorem dX8_readWord_9 : decode cX8_readWord 9 = .ok (.aload_n 0, 1) := by decide +kernel
theorem dX8_readWord_10 : decode cX8_readWord 10 = .ok (.aload_n 0, 1) := by decide +kernel
theorem dX8_readWord_11 : decode cX8_readWord 11 = .ok (.getfield 88, 3) := by decide +kernel
theorem dX8_readWord_14 : decode cX8_readWord 14 = .ok (.invokevirtual 94, 3) := by decide +kernel
theorem dX8_readWord_17 : decode cX8_readWord 17 = .ok (.invokestatic 98, 3) := by decide +kernel
theorem dX8_readWord_20 : decode cX8_readWord 20 = .ok (.ifCond .eq 19, 3) := by decide +kernel
theorem dX8_readWord_23 : decode cX8_readWord 23 = .ok (.aload_n 0, 1) := by decide +kernel
theorem dX8_readWord_24 : decode cX8_readWord 24 = .ok (.dup, 1) := by decide +kernel
theorem dX8_readWord_25 : decode cX8_readWord 25 = .ok (.getfield 88, 3) := by decide +kernel
theorem dX8_readWord_28 : decode cX8_readWord 28 = .ok (.iconst 1, 1) := by decide +kernel
theorem dX8_readWord_29 : decode cX8_readWord 29 = .ok (.iadd, 1) := by decide +kernel
theorem dX8_readWord_30 : decode cX8_readWord 30 = .ok (.putfield 88, 3) := by decide +kernel
theorem dX8_readWord_33 : decode cX8_readWord 33 = .ok (.iinc 2 1, 3) := by decide +kernel
theorem dX8_readWord_36 : decode cX8_readWord 36 = .ok (.goto (-34), 3) := by decide +kernel
theorem dX8_readWord_39 : decode cX8_readWord 39 = .ok (.aload_n 0, 1) := by decide +kernel
theorem dX8_readWord_40 : decode cX8_readWord 40 = .ok (.aload_n 0, 1) := by decide +kernel
theorem dX8_readWord_41 : decode cX8_readWord 41 = .ok (.getfield 16, 3) := by decide +kernel
theorem dX8_readWord_44 : decode cX8_readWord 44 = .ok (.iload_n 1, 1) := by decide +kernel
theorem dX8_readWord_45 : decode cX8_readWord 45 = .ok (.iaload, 1) := by decide +kernel
theorem dX8_readWord_46 : decode cX8_readWord 46 = .ok (.aload_n 0, 1) := by decide +kernel
theorem dX8_readWord_47 : decode cX8_readWord 47 = .ok (.getfield 88, 3) := by decide +kernel
theorem dX8_readWord_50 : decode cX8_readWord 50 = .ok (.aload_n 0, 1) := by decide +kernel
theorem dX8_readWord_51 : decode cX8_readWord 51 = .ok (.getfield 16, 3) := by decide +kernel
theorem dX8_readWord_54 : decode cX8_readWord 54 = .ok (.iload_n 1, 1) := by decide +kernel
theorem dX8_readWord_55 : decode cX8_readWord 55 = .ok (.iaload, 1) := by decide +kernel
theorem dX8_readWord_56 : decode cX8_readWord 56 = .ok (.isub, 1) := by decide +kernel
theorem dX8_readWord_57 : decode cX8_readWord 57 = .ok (.invokevirtual 117, 3) := by decide +kernel
theorem dX8_readWord_60 : decode cX8_readWord 60 = .ok (.istore_n 2, 1) := by decide +kernel
theorem dX8_readWord_61 : decode cX8_readWord 61 = .ok (.aload_n 0, 1) := by decide +kernel
theorem dX8_readWord_62 : decode cX8_readWord 62 = .ok (.getfield 13, 3) := by decide +kernel
theorem dX8_readWord_65 : decode cX8_readWord 65 = .ok (.iload_n 1, 1) := by decide +kernel
theorem dX8_readWord_66 : decode cX8_readWord 66 = .ok (.iload_n 2, 1) := by decide +kernel
theorem dX8_readWord_67 : decode cX8_readWord 67 = .ok (.ifCond .ge 7, 3) := by decide +kernel
theorem dX8_readWord_70 : decode cX8_readWord 70 = .ok (.iconst 1, 1) := by decide +kernel
theorem dX8_readWord_71 : decode cX8_readWord 71 = .ok (.goto 18, 3) := by decide +kernel
theorem dX8_readWord_74 : decode cX8_readWord 74 = .ok (.iload_n 2, 1) := by decide +kernel
theorem dX8_readWord_75 : decode cX8_readWord 75 = .ok (.bipush 11, 2) := by decide +kernel
theorem dX8_readWord_77 : decode cX8_readWord 77 = .ok (.if_icmp .ge 7, 3) := by decide +kernel
theorem dX8_readWord_80 : decode cX8_readWord 80 = .ok (.iconst 3, 1) := by decide +kernel
theorem dX8_readWord_81 : decode cX8_readWord 81 = .ok (.goto 8, 3) := by decide +kernel
theorem dX8_readWord_84 : decode cX8_readWord 84 = .ok (.sipush 300, 3) := by decide +kernel
theorem dX8_readWord_87 : decode cX8_readWord 87 = .ok (.iload_n 2, 1) := by decide +kernel
theorem dX8_readWord_88 : decode cX8_readWord 88 = .ok (.iadd, 1) := by decide +kernel
theorem dX8_readWord_89 : decode cX8_readWord 89 = .ok (.iastore, 1) := by decide +kernel
theorem dX8_readWord_90 : decode cX8_readWord 90 = .ok (.aload_n 0, 1) := by decide +kernel
theorem dX8_readWord_91 : decode cX8_readWord 91 = .ok (.getfield 19, 3) := by decide +kernel
theorem dX8_readWord_94 : decode cX8_readWord 94 = .ok (.iload_n 1, 1) := by decide +kernel
theorem dX8_readWord_95 : decode cX8_readWord 95 = .ok (.iconst (-1), 1) := by decide +kernel
theorem dX8_readWord_96 : decode cX8_readWord 96 = .ok (.iload_n 2, 1) := by decide +kernel
theorem dX8_readWord_97 : decode cX8_readWord 97 = .ok (.isub, 1) := by decide +kernel
theorem dX8_readWord_98 : decode cX8_readWord 98 = .ok (.iastore, 1) := by decide +kernel
theorem dX8_readWord_99 : decode cX8_readWord 99 = .ok (.return_, 1) := by decide +kernel
theorem dX8_wordNumber_0 : decode cX8_wordNumber 0 = .ok (.iconst 0, 1) := by decide +kernel
theorem dX8_wordNumber_1 : decode cX8_wordNumber 1 = .ok (.istore_n 3, 1) := by decide +kernel
theorem dX8_wordNumber_2 : decode cX8_wordNumber 2 = .ok (.iconst 0, 1) := by decide +kernel
theorem dX8_wordNumber_3 : decode cX8_wordNumber 3 = .ok (.istore 4, 2) := by decide +kernel
theorem dX8_wordNumber_5 : decode cX8_wordNumber 5 = .ok (.iconst 0, 1) := by decide +kernel
theorem dX8_wordNumber_6 : decode cX8_wordNumber 6 = .ok (.istore 5, 2) := by decide +kernel
theorem dX8_wordNumber_8 : decode cX8_wordNumber 8 = .ok (.iload 5, 2) := by decide +kernel
theorem dX8_wordNumber_10 : decode cX8_wordNumber 10 = .ok (.ldc 121, 2) := by decide +kernel
theorem dX8_wordNumber_12 : decode cX8_wordNumber 12 = .ok (.invokevirtual 123, 3) := by decide +kernel
theorem dX8_wordNumber_15 : decode cX8_wordNumber 15 = .ok (.if_icmp .ge 52, 3) := by decide +kernel
theorem dX8_wordNumber_18 : decode cX8_wordNumber 18 = .ok (.ldc 121, 2) := by decide +kernel
theorem dX8_wordNumber_20 : decode cX8_wordNumber 20 = .ok (.iload 5, 2) := by decide +kernel
theorem dX8_wordNumber_22 : decode cX8_wordNumber 22 = .ok (.invokevirtual 126, 3) := by decide +kernel
theorem dX8_wordNumber_25 : decode cX8_wordNumber 25 = .ok (.bipush 32, 2) := by decide +kernel
theorem dX8_wordNumber_27 : decode cX8_wordNumber 27 = .ok (.if_icmp .ne 34, 3) := by decide +kernel
theorem dX8_wordNumber_30 : decode cX8_wordNumber 30 = .ok (.iload 5, 2) := by decide +kernel
theorem dX8_wordNumber_32 : decode cX8_wordNumber 32 = .ok (.iload 4, 2) := by decide +kernel
theorem dX8_wordNumber_34 : decode cX8_wordNumber 34 = .ok (.isub, 1) := by decide +kernel
theorem dX8_wordNumber_35 : decode cX8_wordNumber 35 = .ok (.iload_n 2, 1) := by decide +kernel
theorem dX8_wordNumber_36 : decode cX8_wordNumber 36 = .ok (.if_icmp .ne 16, 3) := by decide +kernel
theorem dX8_wordNumber_39 : decode cX8_wordNumber 39 = .ok (.aload_n 0, 1) := by decide +kernel
theorem dX8_wordNumber_40 : decode cX8_wordNumber 40 = .ok (.iload 4, 2) := by decide +kernel
theorem dX8_wordNumber_42 : decode cX8_wordNumber 42 = .ok (.iload_n 1, 1) := by decide +kernel
theorem dX8_wordNumber_43 : decode cX8_wordNumber 43 = .ok (.iload_n 2, 1) := by decide +kernel
theorem dX8_wordNumber_44 : decode cX8_wordNumber 44 = .ok (.invokevirtual 130, 3) := by decide +kernel
theorem dX8_wordNumber_47 : decode cX8_wordNumber 47 = .ok (.ifCond .eq 5, 3) := by decide +kernel
theorem dX8_wordNumber_50 : decode cX8_wordNumber 50 = .ok (.iload_n 3, 1) := by decide +kernel
theorem dX8_wordNumber_51 : decode cX8_wordNumber 51 = .ok (.ireturn, 1) := by decide +kernel
theorem dX8_wordNumber_52 : decode cX8_wordNumber 52 = .ok (.iinc 3 1, 3) := by decide +kernel
theorem dX8_wordNumber_55 : decode cX8_wordNumber 55 = .ok (.iload 5, 2) := by decide +kernel
theorem dX8_wordNumber_57 : decode cX8_wordNumber 57 = .ok (.iconst 1, 1) := by decide +kernel
theorem dX8_wordNumber_58 : decode cX8_wordNumber 58 = .ok (.iadd, 1) := by decide +kernel
theorem dX8_wordNumber_59 : decode cX8_wordNumber 59 = .ok (.istore 4, 2) := by decide +kernel
theorem dX8_wordNumber_61 : decode cX8_wordNumber 61 = .ok (.iinc 5 1, 3) := by decide +kernel
theorem dX8_wordNumber_64 : decode cX8_wordNumber 64 = .ok (.goto (-56), 3) := by decide +kernel
theorem dX8_wordNumber_67 : decode cX8_wordNumber 67 = .ok (.iconst (-1), 1) := by decide +kernel
theorem dX8_wordNumber_68 : decode cX8_wordNumber 68 = .ok (.ireturn, 1) := by decide +kernel
theorem dX8_isWord_0 : decode cX8_isWord 0 = .ok (.iconst 0, 1) := by decide +kernel
theorem dX8_isWord_1 : decode cX8_isWord 1 = .ok (.istore 4, 2) := by decide +kernel
theorem dX8_isWord_3 : decode cX8_isWord 3 = .ok (.iload 4, 2) := by decide +kernel
theorem dX8_isWord_5 : decode cX8_isWord 5 = .ok (.iload_n 3, 1) := by decide +kernel
theorem dX8_isWord_6 : decode cX8_isWord 6 = .ok (.if_icmp .ge 43, 3) := by decide +kernel
theorem dX8_isWord_9 : decode cX8_isWord 9 = .ok (.iload_n 1, 1) := by decide +kernel
theorem dX8_isWord_10 : decode cX8_isWord 10 = .ok (.iload 4, 2) := by decide +kernel
theorem dX8_isWord_12 : decode cX8_isWord 12 = .ok (.iadd, 1) := by decide +kernel
theorem dX8_isWord_13 : decode cX8_isWord 13 = .ok (.ldc 121, 2) := by decide +kernel
theorem dX8_isWord_15 : decode cX8_isWord 15 = .ok (.invokevirtual 123, 3) := by decide +kernel
theorem dX8_isWord_18 : decode cX8_isWord 18 = .ok (.if_icmp .ge 31, 3) := by decide +kernel
theorem dX8_isWord_21 : decode cX8_isWord 21 = .ok (.ldc 121, 2) := by decide +kernel
theorem dX8_isWord_23 : decode cX8_isWord 23 = .ok (.iload_n 1, 1) := by decide +kernel
theorem dX8_isWord_24 : decode cX8_isWord 24 = .ok (.iload 4, 2) := by decide +kernel
theorem dX8_isWord_26 : decode cX8_isWord 26 = .ok (.iadd, 1) := by decide +kernel
theorem dX8_isWord_27 : decode cX8_isWord 27 = .ok (.invokevirtual 126, 3) := by decide +kernel
theorem dX8_isWord_30 : decode cX8_isWord 30 = .ok (.aload_n 0, 1) := by decide +kernel
theorem dX8_isWord_31 : decode cX8_isWord 31 = .ok (.iload_n 2, 1) := by decide +kernel
theorem dX8_isWord_32 : decode cX8_isWord 32 = .ok (.iload 4, 2) := by decide +kernel
theorem dX8_isWord_34 : decode cX8_isWord 34 = .ok (.iadd, 1) := by decide +kernel
theorem dX8_isWord_35 : decode cX8_isWord 35 = .ok (.invokevirtual 94, 3) := by decide +kernel
theorem dX8_isWord_38 : decode cX8_isWord 38 = .ok (.if_icmp .eq 5, 3) := by decide +kernel
theorem dX8_isWord_41 : decode cX8_isWord 41 = .ok (.iconst 0, 1) := by decide +kernel
theorem dX8_isWord_42 : decode cX8_isWord 42 = .ok (.ireturn, 1) := by decide +kernel
theorem dX8_isWord_43 : decode cX8_isWord 43 = .ok (.iinc 4 1, 3) := by decide +kernel
theorem dX8_isWord_46 : decode cX8_isWord 46 = .ok (.goto (-43), 3) := by decide +kernel
theorem dX8_isWord_49 : decode cX8_isWord 49 = .ok (.iconst 1, 1) := by decide +kernel
theorem dX8_isWord_50 : decode cX8_isWord 50 = .ok (.ireturn, 1) := by decide +kernel
theorem dX9_init_0 : decode cX9_init 0 = .ok (.aload_n 0, 1) := by decide +kernel
theorem dX9_init_1 : decode cX9_init 1 = .ok (.iload_n 1, 1) := by decide +kernel
theorem dX9_init_2 : decode cX9_init 2 = .ok (.bipush 6, 2) := by decide +kernel
theorem dX9_init_4 : decode cX9_init 4 = .ok (.invokespecial 3, 3) := by decide +kernel
theorem dX9_init_7 : decode cX9_init 7 = .ok (.aload_n 0, 1) := by decide +kernel
theorem dX9_init_8 : decode cX9_init 8 = .ok (.bipush 12, 2) := by decide +kernel
theorem dX9_init_10 : decode cX9_init 10 = .ok (.newarray .int, 2) := by decide +kernel
theorem dX9_init_12 : decode cX9_init 12 = .ok (.putfield 9, 3) := by decide +kernel
theorem dX9_init_15 : decode cX9_init 15 = .ok (.aload_n 0, 1) := by decide +kernel
theorem dX9_init_16 : decode cX9_init 16 = .ok (.bipush 12, 2) := by decide +kernel
theorem dX9_init_18 : decode cX9_init 18 = .ok (.newarray .boolean, 2) := by decide +kernel
theorem dX9_init_20 : decode cX9_init 20 = .ok (.putfield 15, 3) := by decide +kernel
theorem dX9_init_23 : decode cX9_init 23 = .ok (.return_, 1) := by decide +kernel
theorem dX10_init_0 : decode cX10_init 0 = .ok (.aload_n 0, 1) := by decide +kernel
theorem dX10_init_1 : decode cX10_init 1 = .ok (.invokespecial 3, 3) := by decide +kernel
theorem dX10_init_4 : decode cX10_init 4 = .ok (.aload_n 0, 1) := by decide +kernel
theorem dX10_init_5 : decode cX10_init 5 = .ok (.iconst (-1), 1) := by decide +kernel
theorem dX10_init_6 : decode cX10_init 6 = .ok (.putfield 9, 3) := by decide +kernel
theorem dX10_init_9 : decode cX10_init 9 = .ok (.aload_n 0, 1) := by decide +kernel
theorem dX10_init_10 : decode cX10_init 10 = .ok (.bipush 7, 2) := by decide +kernel
theorem dX10_init_12 : decode cX10_init 12 = .ok (.newarray .int, 2) := by decide +kernel
theorem dX10_init_14 : decode cX10_init 14 = .ok (.putfield 15, 3) := by decide +kernel
theorem dX10_init_17 : decode cX10_init 17 = .ok (.aload_n 0, 1) := by decide +kernel
theorem dX10_init_18 : decode cX10_init 18 = .ok (.bipush 7, 2) := by decide +kernel
theorem dX10_init_20 : decode cX10_init 20 = .ok (.anewarray 19, 3) := by decide +kernel
theorem dX10_init_23 : decode cX10_init 23 = .ok (.putfield 21, 3) := by decide +kernel
theorem dX10_init_26 : decode cX10_init 26 = .ok (.aload_n 0, 1) := by decide +kernel
theorem dX10_init_27 : decode cX10_init 27 = .ok (.bipush 7, 2) := by decide +kernel
theorem dX10_init_29 : decode cX10_init 29 = .ok (.newarray .int, 2) := by decide +kernel
theorem dX10_init_31 : decode cX10_init 31 = .ok (.putfield 25, 3) := by decide +kernel
theorem dX10_init_34 : decode cX10_init 34 = .ok (.aload_n 0, 1) := by decide +kernel
theorem dX10_init_35 : decode cX10_init 35 = .ok (.bipush 7, 2) := by decide +kernel
theorem dX10_init_37 : decode cX10_init 37 = .ok (.newarray .int, 2) := by decide +kernel
theorem dX10_init_39 : decode cX10_init 39 = .ok (.putfield 28, 3) := by decide +kernel
theorem dX10_init_42 : decode cX10_init 42 = .ok (.aload_n 0, 1) := by decide +kernel
theorem dX10_init_43 : decode cX10_init 43 = .ok (.bipush 7, 2) := by decide +kernel
theorem dX10_init_45 : decode cX10_init 45 = .ok (.newarray .int, 2) := by decide +kernel
theorem dX10_init_47 : decode cX10_init 47 = .ok (.putfield 31, 3) := by decide +kernel
theorem dX10_init_50 : decode cX10_init 50 = .ok (.aload_n 0, 1) := by decide +kernel
theorem dX10_init_51 : decode cX10_init 51 = .ok (.bipush 7, 2) := by decide +kernel
theorem dX10_init_53 : decode cX10_init 53 = .ok (.newarray .int, 2) := by decide +kernel
theorem dX10_init_55 : decode cX10_init 55 = .ok (.putfield 34, 3) := by decide +kernel
theorem dX10_init_58 : decode cX10_init 58 = .ok (.return_, 1) := by decide +kernel
theorem dX10_isSetOut_0 : decode cX10_isSetOut 0 = .ok (.iload_n 0, 1) := by decide +kernel
theorem dX10_isSetOut_1 : decode cX10_isSetOut 1 = .ok (.ifCond .lt 25, 3) := by decide +kernel
theorem dX10_isSetOut_4 : decode cX10_isSetOut 4 = .ok (.iload_n 0, 1) := by decide +kernel
theorem dX10_isSetOut_5 : decode cX10_isSetOut 5 = .ok (.sipush 1440, 3) := by decide +kernel
theorem dX10_isSetOut_8 : decode cX10_isSetOut 8 = .ok (.if_icmp .ge 18, 3) := by decide +kernel
theorem dX10_isSetOut_11 : decode cX10_isSetOut 11 = .ok (.iload_n 1, 1) := by decide +kernel
theorem dX10_isSetOut_12 : decode cX10_isSetOut 12 = .ok (.iconst 1, 1) := by decide +kernel
theorem dX10_isSetOut_13 : decode cX10_isSetOut 13 = .ok (.if_icmp .lt 13, 3) := by decide +kernel
theorem dX10_isSetOut_16 : decode cX10_isSetOut 16 = .ok (.iload_n 1, 1) := by decide +kernel
theorem dX10_isSetOut_17 : decode cX10_isSetOut 17 = .ok (.bipush 48, 2) := by decide +kernel
theorem dX10_isSetOut_19 : decode cX10_isSetOut 19 = .ok (.if_icmp .gt 7, 3) := by decide +kernel
theorem dX10_isSetOut_22 : decode cX10_isSetOut 22 = .ok (.iconst 1, 1) := by decide +kernel
theorem dX10_isSetOut_23 : decode cX10_isSetOut 23 = .ok (.goto 4, 3) := by decide +kernel
theorem dX10_isSetOut_26 : decode cX10_isSetOut 26 = .ok (.iconst 0, 1) := by decide +kernel
theorem dX10_isSetOut_27 : decode cX10_isSetOut 27 = .ok (.ireturn, 1) := by decide +kernel
theorem dX10_isWished_0 : decode cX10_isWished 0 = .ok (.iconst 0, 1) := by decide +kernel
theorem dX10_isWished_1 : decode cX10_isWished 1 = .ok (.istore_n 2, 1) := by decide +kernel
theorem dX10_isWished_2 : decode cX10_isWished 2 = .ok (.iload_n 2, 1) := by decide +kernel
theorem dX10_isWished_3 : decode cX10_isWished 3 = .ok (.aload_n 0, 1) := by decide +kernel
theorem dX10_isWished_4 : decode cX10_isWished 4 = .ok (.getfield 37, 3) := by decide +kernel
theorem dX10_isWished_7 : decode cX10_isWished 7 = .ok (.if_icmp .ge 33, 3) := by decide +kernel
theorem dX10_isWished_10 : decode cX10_isWished 10 = .ok (.aload_n 0, 1) := by decide +kernel
theorem dX10_isWished_11 : decode cX10_isWished 11 = .ok (.getfield 21, 3) := by decide +kernel
theorem dX10_isWished_14 : decode cX10_isWished 14 = .ok (.iload_n 2, 1) := by decide +kernel
theorem dX10_isWished_15 : decode cX10_isWished 15 = .ok (.aaload, 1) := by decide +kernel
theorem dX10_isWished_16 : decode cX10_isWished 16 = .ok (.ifnull 18, 3) := by decide +kernel
theorem dX10_isWished_19 : decode cX10_isWished 19 = .ok (.aload_n 0, 1) := by decide +kernel
theorem dX10_isWished_20 : decode cX10_isWished 20 = .ok (.getfield 21, 3) := by decide +kernel
theorem dX10_isWished_23 : decode cX10_isWished 23 = .ok (.iload_n 2, 1) := by decide +kernel
theorem dX10_isWished_24 : decode cX10_isWished 24 = .ok (.aaload, 1) := by decide +kernel
theorem dX10_isWished_25 : decode cX10_isWished 25 = .ok (.getfield 40, 3) := by decide +kernel
theorem dX10_isWished_28 : decode cX10_isWished 28 = .ok (.iload_n 1, 1) := by decide +kernel
theorem dX10_isWished_29 : decode cX10_isWished 29 = .ok (.if_icmp .ne 5, 3) := by decide +kernel
theorem dX10_isWished_32 : decode cX10_isWished 32 = .ok (.iconst 1, 1) := by decide +kernel
theorem dX10_isWished_33 : decode cX10_isWished 33 = .ok (.ireturn, 1) := by decide +kernel
theorem dX10_isWished_34 : decode cX10_isWished 34 = .ok (.iinc 2 1, 3) := by decide +kernel
theorem dX10_isWished_37 : decode cX10_isWished 37 = .ok (.goto (-35), 3) := by decide +kernel
theorem dX10_isWished_40 : decode cX10_isWished 40 = .ok (.iconst 0, 1) := by decide +kernel
theorem dX10_isWished_41 : decode cX10_isWished 41 = .ok (.ireturn, 1) := by decide +kernel
theorem dX10_wishFor_0 : decode cX10_wishFor 0 = .ok (.aload_n 0, 1) := by decide +kernel
theorem dX10_wishFor_1 : decode cX10_wishFor 1 = .ok (.getfield 21, 3) := by decide +kernel
theorem dX10_wishFor_4 : decode cX10_wishFor 4 = .ok (.aload_n 0, 1) := by decide +kernel
theorem dX10_wishFor_5 : decode cX10_wishFor 5 = .ok (.getfield 37, 3) := by decide +kernel
theorem dX10_wishFor_8 : decode cX10_wishFor 8 = .ok (.aload_n 1, 1) := by decide +kernel
theorem dX10_wishFor_9 : decode cX10_wishFor 9 = .ok (.aastore, 1) := by decide +kernel
theorem dX10_wishFor_10 : decode cX10_wishFor 10 = .ok (.aload_n 0, 1) := by decide +kernel
theorem dX10_wishFor_11 : decode cX10_wishFor 11 = .ok (.getfield 25, 3) := by decide +kernel
theorem dX10_wishFor_14 : decode cX10_wishFor 14 = .ok (.aload_n 0, 1) := by decide +kernel
theorem dX10_wishFor_15 : decode cX10_wishFor 15 = .ok (.getfield 37, 3) := by decide +kernel
theorem dX10_wishFor_18 : decode cX10_wishFor 18 = .ok (.iload_n 2, 1) := by decide +kernel
theorem dX10_wishFor_19 : decode cX10_wishFor 19 = .ok (.iastore, 1) := by decide +kernel
theorem dX10_wishFor_20 : decode cX10_wishFor 20 = .ok (.aload_n 0, 1) := by decide +kernel
theorem dX10_wishFor_21 : decode cX10_wishFor 21 = .ok (.getfield 28, 3) := by decide +kernel
theorem dX10_wishFor_24 : decode cX10_wishFor 24 = .ok (.aload_n 0, 1) := by decide +kernel
theorem dX10_wishFor_25 : decode cX10_wishFor 25 = .ok (.getfield 37, 3) := by decide +kernel
theorem dX10_wishFor_28 : decode cX10_wishFor 28 = .ok (.iload_n 3, 1) := by decide +kernel
theorem dX10_wishFor_29 : decode cX10_wishFor 29 = .ok (.iastore, 1) := by decide +kernel
theorem dX10_wishFor_30 : decode cX10_wishFor 30 = .ok (.aload_n 0, 1) := by decide +kernel
theorem dX10_wishFor_31 : decode cX10_wishFor 31 = .ok (.dup, 1) := by decide +kernel
theorem dX10_wishFor_32 : decode cX10_wishFor 32 = .ok (.getfield 37, 3) := by decide +kernel
theorem dX10_wishFor_35 : decode cX10_wishFor 35 = .ok (.iconst 1, 1) := by decide +kernel
theorem dX10_wishFor_36 : decode cX10_wishFor 36 = .ok (.iadd, 1) := by decide +kernel
theorem dX10_wishFor_37 : decode cX10_wishFor 37 = .ok (.putfield 37, 3) := by decide +kernel
theorem dX10_wishFor_40 : decode cX10_wishFor 40 = .ok (.aload_n 0, 1) := by decide +kernel
theorem dX10_wishFor_41 : decode cX10_wishFor 41 = .ok (.getfield 37, 3) := by decide +kernel
theorem dX10_wishFor_44 : decode cX10_wishFor 44 = .ok (.ireturn, 1) := by decide +kernel
theorem dX10_findBest_0 : decode cX10_findBest 0 = .ok (.aload_n 0, 1) := by decide +kernel
theorem dX10_findBest_1 : decode cX10_findBest 1 = .ok (.iload_n 1, 1) := by decide +kernel
theorem dX10_findBest_2 : decode cX10_findBest 2 = .ok (.invokevirtual 43, 3) := by decide +kernel
theorem dX10_findBest_5 : decode cX10_findBest 5 = .ok (.aload_n 0, 1) := by decide +kernel
theorem dX10_findBest_6 : decode cX10_findBest 6 = .ok (.iload_n 2, 1) := by decide +kernel
theorem dX10_findBest_7 : decode cX10_findBest 7 = .ok (.putfield 47, 3) := by decide +kernel
theorem dX10_findBest_10 : decode cX10_findBest 10 = .ok (.aload_n 0, 1) := by decide +kernel
theorem dX10_findBest_11 : decode cX10_findBest 11 = .ok (.iconst 0, 1) := by decide +kernel
theorem dX10_findBest_12 : decode cX10_findBest 12 = .ok (.putfield 50, 3) := by decide +kernel
theorem dX10_findBest_15 : decode cX10_findBest 15 = .ok (.aload_n 0, 1) := by decide +kernel
theorem dX10_findBest_16 : decode cX10_findBest 16 = .ok (.iconst 0, 1) := by decide +kernel
theorem dX10_findBest_17 : decode cX10_findBest 17 = .ok (.iconst 0, 1) := by decide +kernel
theorem dX10_findBest_18 : decode cX10_findBest 18 = .ok (.aload_n 0, 1) := by decide +kernel
theorem dX10_findBest_19 : decode cX10_findBest 19 = .ok (.getfield 53, 3) := by decide +kernel
theorem dX10_findBest_22 : decode cX10_findBest 22 = .ok (.iconst 0, 1) := by decide +kernel
theorem dX10_findBest_23 : decode cX10_findBest 23 = .ok (.iconst 0, 1) := by decide +kernel
theorem dX10_findBest_24 : decode cX10_findBest 24 = .ok (.invokevirtual 56, 3) := by decide +kernel
theorem dX10_findBest_27 : decode cX10_findBest 27 = .ok (.aload_n 0, 1) := by decide +kernel
theorem dX10_findBest_28 : decode cX10_findBest 28 = .ok (.getfield 50, 3) := by decide +kernel
theorem dX10_findBest_31 : decode cX10_findBest 31 = .ok (.ifCond .le 7, 3) := by decide +kernel
theorem dX10_findBest_34 : decode cX10_findBest 34 = .ok (.iconst 1, 1) := by decide +kernel
theorem dX10_findBest_35 : decode cX10_findBest 35 = .ok (.goto 4, 3) := by decide +kernel
theorem dX10_findBest_38 : decode cX10_findBest 38 = .ok (.iconst 0, 1) := by decide +kernel
theorem dX10_findBest_39 : decode cX10_findBest 39 = .ok (.ireturn, 1) := by decide +kernel
theorem dX10_setOut_0 : decode cX10_setOut 0 = .ok (.aload_n 0, 1) := by decide +kernel
theorem dX10_setOut_1 : decode cX10_setOut 1 = .ok (.iload_n 1, 1) := by decide +kernel
theorem dX10_setOut_2 : decode cX10_setOut 2 = .ok (.bipush 24, 2) := by decide +kernel
theorem dX10_setOut_4 : decode cX10_setOut 4 = .ok (.idiv, 1) := by decide +kernel
theorem dX10_setOut_5 : decode cX10_setOut 5 = .ok (.putfield 53, 3) := by decide +kernel
theorem dX10_setOut_8 : decode cX10_setOut 8 = .ok (.aload_n 0, 1) := by decide +kernel
theorem dX10_setOut_9 : decode cX10_setOut 9 = .ok (.iload_n 1, 1) := by decide +kernel
theorem dX10_setOut_10 : decode cX10_setOut 10 = .ok (.bipush 24, 2) := by decide +kernel
theorem dX10_setOut_12 : decode cX10_setOut 12 = .ok (.irem, 1) := by decide +kernel
theorem dX10_setOut_13 : decode cX10_setOut 13 = .ok (.putfield 60, 3) := by decide +kernel
theorem dX10_setOut_16 : decode cX10_setOut 16 = .ok (.return_, 1) := by decide +kernel
theorem dX10_extend_0 : decode cX10_extend 0 = .ok (.iconst 0, 1) := by decide +kernel
theorem dX10_extend_1 : decode cX10_extend 1 = .ok (.istore 6, 2) := by decide +kernel
theorem dX10_extend_3 : decode cX10_extend 3 = .ok (.iload 6, 2) := by decide +kernel
theorem dX10_extend_5 : decode cX10_extend 5 = .ok (.aload_n 0, 1) := by decide +kernel
theorem dX10_extend_6 : decode cX10_extend 6 = .ok (.getfield 37, 3) := by decide +kernel
theorem dX10_extend_9 : decode cX10_extend 9 = .ok (.if_icmp .ge 64, 3) := by decide +kernel
theorem dX10_extend_12 : decode cX10_extend 12 = .ok (.iload_n 1, 1) := by decide +kernel
theorem dX10_extend_13 : decode cX10_extend 13 = .ok (.bipush 7, 2) := by decide +kernel
theorem dX10_extend_15 : decode cX10_extend 15 = .ok (.if_icmp .ge 58, 3) := by decide +kernel
theorem dX10_extend_18 : decode cX10_extend 18 = .ok (.iload_n 2, 1) := by decide +kernel
theorem dX10_extend_19 : decode cX10_extend 19 = .ok (.iload 6, 2) := by decide +kernel
theorem dX10_extend_21 : decode cX10_extend 21 = .ok (.ishr, 1) := by decide +kernel
theorem dX10_extend_22 : decode cX10_extend 22 = .ok (.iconst 1, 1) := by decide +kernel
theorem dX10_extend_23 : decode cX10_extend 23 = .ok (.iand, 1) := by decide +kernel
theorem dX10_extend_24 : decode cX10_extend 24 = .ok (.ifCond .ne 43, 3) := by decide +kernel
theorem dX10_extend_27 : decode cX10_extend 27 = .ok (.aload_n 0, 1) := by decide +kernel
theorem dX10_extend_28 : decode cX10_extend 28 = .ok (.getfield 31, 3) := by decide +kernel
theorem dX10_extend_31 : decode cX10_extend 31 = .ok (.iload_n 1, 1) := by decide +kernel
theorem dX10_extend_32 : decode cX10_extend 32 = .ok (.iload 6, 2) := by decide +kernel
theorem dX10_extend_34 : decode cX10_extend 34 = .ok (.iastore, 1) := by decide +kernel
theorem dX10_extend_35 : decode cX10_extend 35 = .ok (.aload_n 0, 1) := by decide +kernel
theorem dX10_extend_36 : decode cX10_extend 36 = .ok (.iload_n 1, 1) := by decide +kernel
theorem dX10_extend_37 : decode cX10_extend 37 = .ok (.iconst 1, 1) := by decide +kernel
theorem dX10_extend_38 : decode cX10_extend 38 = .ok (.iadd, 1) := by decide +kernel
theorem dX10_extend_39 : decode cX10_extend 39 = .ok (.iload_n 2, 1) := by decide +kernel
theorem dX10_extend_40 : decode cX10_extend 40 = .ok (.iconst 1, 1) := by decide +kernel
theorem dX10_extend_41 : decode cX10_extend 41 = .ok (.iload 6, 2) := by decide +kernel
theorem dX10_extend_43 : decode cX10_extend 43 = .ok (.ishl, 1) := by decide +kernel
theorem dX10_extend_44 : decode cX10_extend 44 = .ok (.ior, 1) := by decide +kernel
theorem dX10_extend_45 : decode cX10_extend 45 = .ok (.aload_n 0, 1) := by decide +kernel
theorem dX10_extend_46 : decode cX10_extend 46 = .ok (.iload 6, 2) := by decide +kernel
theorem dX10_extend_48 : decode cX10_extend 48 = .ok (.iload_n 3, 1) := by decide +kernel
theorem dX10_extend_49 : decode cX10_extend 49 = .ok (.iload 4, 2) := by decide +kernel
theorem dX10_extend_51 : decode cX10_extend 51 = .ok (.invokevirtual 63, 3) := by decide +kernel
theorem dX10_extend_54 : decode cX10_extend 54 = .ok (.iload 5, 2) := by decide +kernel
theorem dX10_extend_56 : decode cX10_extend 56 = .ok (.aload_n 0, 1) := by decide +kernel
theorem dX10_extend_57 : decode cX10_extend 57 = .ok (.getfield 25, 3) := by decide +kernel
theorem dX10_extend_60 : decode cX10_extend 60 = .ok (.iload 6, 2) := by decide +kernel
theorem dX10_extend_62 : decode cX10_extend 62 = .ok (.iaload, 1) := by decide +kernel
theorem dX10_extend_63 : decode cX10_extend 63 = .ok (.iadd, 1) := by decide +kernel
theorem dX10_extend_64 : decode cX10_extend 64 = .ok (.invokevirtual 67, 3) := by decide +kernel
theorem dX10_extend_67 : decode cX10_extend 67 = .ok (.iinc 6 1, 3) := by decide +kernel
theorem dX10_extend_70 : decode cX10_extend 70 = .ok (.goto (-67), 3) := by decide +kernel
theorem dX10_extend_73 : decode cX10_extend 73 = .ok (.return_, 1) := by decide +kernel
theorem dX10_goOnBehind_0 : decode cX10_goOnBehind 0 = .ok (.aload_n 0, 1) := by decide +kernel
theorem dX10_goOnBehind_1 : decode cX10_goOnBehind 1 = .ok (.aload_n 0, 1) := by decide +kernel
theorem dX10_goOnBehind_2 : decode cX10_goOnBehind 2 = .ok (.getfield 31, 3) := by decide +kernel
theorem dX10_goOnBehind_5 : decode cX10_goOnBehind 5 = .ok (.iload_n 1, 1) := by decide +kernel
theorem dX10_goOnBehind_6 : decode cX10_goOnBehind 6 = .ok (.iconst 1, 1) := by decide +kernel
theorem dX10_goOnBehind_7 : decode cX10_goOnBehind 7 = .ok (.isub, 1) := by decide +kernel
theorem dX10_goOnBehind_8 : decode cX10_goOnBehind 8 = .ok (.iaload, 1) := by decide +kernel
theorem dX10_goOnBehind_9 : decode cX10_goOnBehind 9 = .ok (.invokevirtual 71, 3) := by decide +kernel
theorem dX10_goOnBehind_12 : decode cX10_goOnBehind 12 = .ok (.istore 5, 2) := by decide +kernel
theorem dX10_goOnBehind_14 : decode cX10_goOnBehind 14 = .ok (.iload_n 3, 1) := by decide +kernel
theorem dX10_goOnBehind_15 : decode cX10_goOnBehind 15 = .ok (.aload_n 0, 1) := by decide +kernel
theorem dX10_goOnBehind_16 : decode cX10_goOnBehind 16 = .ok (.getfield 47, 3) := by decide +kernel
theorem dX10_goOnBehind_19 : decode cX10_goOnBehind 19 = .ok (.if_icmp .gt 32, 3) := by decide +kernel
theorem dX10_goOnBehind_22 : decode cX10_goOnBehind 22 = .ok (.aload_n 0, 1) := by decide +kernel
theorem dX10_goOnBehind_23 : decode cX10_goOnBehind 23 = .ok (.iload_n 1, 1) := by decide +kernel
theorem dX10_goOnBehind_24 : decode cX10_goOnBehind 24 = .ok (.iload 4, 2) := by decide +kernel
theorem dX10_goOnBehind_26 : decode cX10_goOnBehind 26 = .ok (.iload_n 3, 1) := by decide +kernel
theorem dX10_goOnBehind_27 : decode cX10_goOnBehind 27 = .ok (.iload 5, 2) := by decide +kernel
theorem dX10_goOnBehind_29 : decode cX10_goOnBehind 29 = .ok (.aload_n 0, 1) := by decide +kernel
theorem dX10_goOnBehind_30 : decode cX10_goOnBehind 30 = .ok (.getfield 53, 3) := by decide +kernel
theorem dX10_goOnBehind_33 : decode cX10_goOnBehind 33 = .ok (.invokestatic 75, 3) := by decide +kernel
theorem dX10_goOnBehind_36 : decode cX10_goOnBehind 36 = .ok (.iadd, 1) := by decide +kernel
theorem dX10_goOnBehind_37 : decode cX10_goOnBehind 37 = .ok (.invokevirtual 79, 3) := by decide +kernel
theorem dX10_goOnBehind_40 : decode cX10_goOnBehind 40 = .ok (.aload_n 0, 1) := by decide +kernel
theorem dX10_goOnBehind_41 : decode cX10_goOnBehind 41 = .ok (.iload_n 1, 1) := by decide +kernel
theorem dX10_goOnBehind_42 : decode cX10_goOnBehind 42 = .ok (.iload_n 2, 1) := by decide +kernel
theorem dX10_goOnBehind_43 : decode cX10_goOnBehind 43 = .ok (.iload 5, 2) := by decide +kernel
theorem dX10_goOnBehind_45 : decode cX10_goOnBehind 45 = .ok (.iload_n 3, 1) := by decide +kernel
theorem dX10_goOnBehind_46 : decode cX10_goOnBehind 46 = .ok (.iload 4, 2) := by decide +kernel
theorem dX10_goOnBehind_48 : decode cX10_goOnBehind 48 = .ok (.invokevirtual 56, 3) := by decide +kernel
theorem dX10_goOnBehind_51 : decode cX10_goOnBehind 51 = .ok (.return_, 1) := by decide +kernel
theorem dX10_cellOf_0 : decode cX10_cellOf 0 = .ok (.iload_n 1, 1) := by decide +kernel
theorem dX10_cellOf_1 : decode cX10_cellOf 1 = .ok (.ifCond .lt 11, 3) := by decide +kernel
theorem dX10_cellOf_4 : decode cX10_cellOf 4 = .ok (.iload_n 1, 1) := by decide +kernel
theorem dX10_cellOf_5 : decode cX10_cellOf 5 = .ok (.aload_n 0, 1) := by decide +kernel
theorem dX10_cellOf_6 : decode cX10_cellOf 6 = .ok (.getfield 37, 3) := by decide +kernel
theorem dX10_cellOf_9 : decode cX10_cellOf 9 = .ok (.if_icmp .lt 7, 3) := by decide +kernel
theorem dX10_cellOf_12 : decode cX10_cellOf 12 = .ok (.aconst_null, 1) := by decide +kernel
theorem dX10_cellOf_13 : decode cX10_cellOf 13 = .ok (.goto 9, 3) := by decide +kernel
theorem dX10_cellOf_16 : decode cX10_cellOf 16 = .ok (.aload_n 0, 1) := by decide +kernel
theorem dX10_cellOf_17 : decode cX10_cellOf 17 = .ok (.getfield 21, 3) := by decide +kernel
theorem dX10_cellOf_20 : decode cX10_cellOf 20 = .ok (.iload_n 1, 1) := by decide +kernel
theorem dX10_cellOf_21 : decode cX10_cellOf 21 = .ok (.aaload, 1) := by decide +kernel
theorem dX10_cellOf_22 : decode cX10_cellOf 22 = .ok (.astore_n 2, 1) := by decide +kernel
theorem dX10_cellOf_23 : decode cX10_cellOf 23 = .ok (.aload_n 2, 1) := by decide +kernel
theorem dX10_cellOf_24 : decode cX10_cellOf 24 = .ok (.ifnonnull 10, 3) := by decide +kernel
theorem dX10_cellOf_27 : decode cX10_cellOf 27 = .ok (.aload_n 0, 1) := by decide +kernel
theorem dX10_cellOf_28 : decode cX10_cellOf 28 = .ok (.getfield 53, 3) := by decide +kernel
theorem dX10_cellOf_31 : decode cX10_cellOf 31 = .ok (.goto 7, 3) := by decide +kernel
theorem dX10_cellOf_34 : decode cX10_cellOf 34 = .ok (.aload_n 2, 1) := by decide +kernel
theorem dX10_cellOf_35 : decode cX10_cellOf 35 = .ok (.invokevirtual 83, 3) := by decide +kernel
theorem dX10_cellOf_38 : decode cX10_cellOf 38 = .ok (.ireturn, 1) := by decide +kernel
theorem dX10_timeBehind_0 : decode cX10_timeBehind 0 = .ok (.iload_n 3, 1) := by decide +kernel
theorem dX10_timeBehind_1 : decode cX10_timeBehind 1 = .ok (.iload_n 2, 1) := by decide +kernel
theorem dX10_timeBehind_2 : decode cX10_timeBehind 2 = .ok (.aload_n 0, 1) := by decide +kernel
theorem dX10_timeBehind_3 : decode cX10_timeBehind 3 = .ok (.iload_n 1, 1) := by decide +kernel
theorem dX10_timeBehind_4 : decode cX10_timeBehind 4 = .ok (.invokevirtual 71, 3) := by decide +kernel
theorem dX10_timeBehind_7 : decode cX10_timeBehind 7 = .ok (.invokestatic 75, 3) := by decide +kernel
theorem dX10_timeBehind_10 : decode cX10_timeBehind 10 = .ok (.iadd, 1) := by decide +kernel
theorem dX10_timeBehind_11 : decode cX10_timeBehind 11 = .ok (.istore 4, 2) := by decide +kernel
theorem dX10_timeBehind_13 : decode cX10_timeBehind 13 = .ok (.aload_n 0, 1) := by decide +kernel
theorem dX10_timeBehind_14 : decode cX10_timeBehind 14 = .ok (.getfield 21, 3) := by decide +kernel
theorem dX10_timeBehind_17 : decode cX10_timeBehind 17 = .ok (.iload_n 1, 1) := by decide +kernel
theorem dX10_timeBehind_18 : decode cX10_timeBehind 18 = .ok (.aaload, 1) := by decide +kernel
theorem dX10_timeBehind_19 : decode cX10_timeBehind 19 = .ok (.astore 5, 2) := by decide +kernel
theorem dX10_timeBehind_21 : decode cX10_timeBehind 21 = .ok (.aload_n 0, 1) := by decide +kernel
theorem dX10_timeBehind_22 : decode cX10_timeBehind 22 = .ok (.getfield 60, 3) := by decide +kernel
theorem dX10_timeBehind_25 : decode cX10_timeBehind 25 = .ok (.iload 4, 2) := by decide +kernel
theorem dX10_timeBehind_27 : decode cX10_timeBehind 27 = .ok (.iadd, 1) := by decide +kernel
theorem dX10_timeBehind_28 : decode cX10_timeBehind 28 = .ok (.bipush 24, 2) := by decide +kernel
theorem dX10_timeBehind_30 : decode cX10_timeBehind 30 = .ok (.irem, 1) := by decide +kernel
theorem dX10_timeBehind_31 : decode cX10_timeBehind 31 = .ok (.istore 6, 2) := by decide +kernel
theorem dX10_timeBehind_33 : decode cX10_timeBehind 33 = .ok (.aload 5, 2) := by decide +kernel
theorem dX10_timeBehind_35 : decode cX10_timeBehind 35 = .ok (.ifnull 30, 3) := by decide +kernel
theorem dX10_timeBehind_38 : decode cX10_timeBehind 38 = .ok (.aload 5, 2) := by decide +kernel
theorem dX10_timeBehind_40 : decode cX10_timeBehind 40 = .ok (.getfield 87, 3) := by decide +kernel
theorem dX10_timeBehind_43 : decode cX10_timeBehind 43 = .ok (.iconst 5, 1) := by decide +kernel
theorem dX10_timeBehind_44 : decode cX10_timeBehind 44 = .ok (.if_icmp .ne 21, 3) := by decide +kernel
theorem dX10_timeBehind_47 : decode cX10_timeBehind 47 = .ok (.iload 6, 2) := by decide +kernel
theorem dX10_timeBehind_49 : decode cX10_timeBehind 49 = .ok (.invokestatic 90, 3) := by decide +kernel
theorem dX10_timeBehind_52 : decode cX10_timeBehind 52 = .ok (.ifCond .ne 13, 3) := by decide +kernel
theorem dX10_timeBehind_55 : decode cX10_timeBehind 55 = .ok (.iload 4, 2) := by decide +kernel
theorem dX10_timeBehind_57 : decode cX10_timeBehind 57 = .ok (.bipush 20, 2) := by decide +kernel
theorem dX10_timeBehind_59 : decode cX10_timeBehind 59 = .ok (.iload 6, 2) := by decide +kernel
theorem dX10_timeBehind_61 : decode cX10_timeBehind 61 = .ok (.isub, 1) := by decide +kernel
theorem dX10_timeBehind_62 : decode cX10_timeBehind 62 = .ok (.iadd, 1) := by decide +kernel
theorem dX10_timeBehind_63 : decode cX10_timeBehind 63 = .ok (.istore 4, 2) := by decide +kernel
theorem dX10_timeBehind_65 : decode cX10_timeBehind 65 = .ok (.iload 4, 2) := by decide +kernel
theorem dX10_timeBehind_67 : decode cX10_timeBehind 67 = .ok (.aload_n 0, 1) := by decide +kernel
theorem dX10_timeBehind_68 : decode cX10_timeBehind 68 = .ok (.getfield 28, 3) := by decide +kernel
theorem dX10_timeBehind_71 : decode cX10_timeBehind 71 = .ok (.iload_n 1, 1) := by decide +kernel
theorem dX10_timeBehind_72 : decode cX10_timeBehind 72 = .ok (.iaload, 1) := by decide +kernel
theorem dX10_timeBehind_73 : decode cX10_timeBehind 73 = .ok (.iadd, 1) := by decide +kernel
theorem dX10_timeBehind_74 : decode cX10_timeBehind 74 = .ok (.ireturn, 1) := by decide +kernel
theorem dX10_compare_0 : decode cX10_compare 0 = .ok (.iload_n 3, 1) := by decide +kernel
theorem dX10_compare_1 : decode cX10_compare 1 = .ok (.aload_n 0, 1) := by decide +kernel
theorem dX10_compare_2 : decode cX10_compare 2 = .ok (.getfield 47, 3) := by decide +kernel
theorem dX10_compare_5 : decode cX10_compare 5 = .ok (.if_icmp .gt 27, 3) := by decide +kernel
theorem dX10_compare_8 : decode cX10_compare 8 = .ok (.iload_n 2, 1) := by decide +kernel
theorem dX10_compare_9 : decode cX10_compare 9 = .ok (.aload_n 0, 1) := by decide +kernel
theorem dX10_compare_10 : decode cX10_compare 10 = .ok (.getfield 50, 3) := by decide +kernel
theorem dX10_compare_13 : decode cX10_compare 13 = .ok (.if_icmp .lt 19, 3) := by decide +kernel
theorem dX10_compare_16 : decode cX10_compare 16 = .ok (.iload_n 2, 1) := by decide +kernel
theorem dX10_compare_17 : decode cX10_compare 17 = .ok (.aload_n 0, 1) := by decide +kernel
theorem dX10_compare_18 : decode cX10_compare 18 = .ok (.getfield 50, 3) := by decide +kernel
theorem dX10_compare_21 : decode cX10_compare 21 = .ok (.if_icmp .ne 12, 3) := by decide +kernel
theorem dX10_compare_24 : decode cX10_compare 24 = .ok (.iload_n 3, 1) := by decide +kernel
theorem dX10_compare_25 : decode cX10_compare 25 = .ok (.aload_n 0, 1) := by decide +kernel
theorem dX10_compare_26 : decode cX10_compare 26 = .ok (.getfield 94, 3) := by decide +kernel
theorem dX10_compare_29 : decode cX10_compare 29 = .ok (.if_icmp .lt 4, 3) := by decide +kernel
theorem dX10_compare_32 : decode cX10_compare 32 = .ok (.return_, 1) := by decide +kernel
theorem dX10_compare_33 : decode cX10_compare 33 = .ok (.aload_n 0, 1) := by decide +kernel
theorem dX10_compare_34 : decode cX10_compare 34 = .ok (.iload_n 2, 1) := by decide +kernel
theorem dX10_compare_35 : decode cX10_compare 35 = .ok (.putfield 50, 3) := by decide +kernel
theorem dX10_compare_38 : decode cX10_compare 38 = .ok (.aload_n 0, 1) := by decide +kernel
theorem dX10_compare_39 : decode cX10_compare 39 = .ok (.iload_n 3, 1) := by decide +kernel
theorem dX10_compare_40 : decode cX10_compare 40 = .ok (.putfield 94, 3) := by decide +kernel
theorem dX10_compare_43 : decode cX10_compare 43 = .ok (.aload_n 0, 1) := by decide +kernel
theorem dX10_compare_44 : decode cX10_compare 44 = .ok (.iload_n 1, 1) := by decide +kernel
theorem dX10_compare_45 : decode cX10_compare 45 = .ok (.putfield 97, 3) := by decide +kernel
theorem dX10_compare_48 : decode cX10_compare 48 = .ok (.aload_n 0, 1) := by decide +kernel
theorem dX10_compare_49 : decode cX10_compare 49 = .ok (.getfield 31, 3) := by decide +kernel
theorem dX10_compare_52 : decode cX10_compare 52 = .ok (.iconst 0, 1) := by decide +kernel
theorem dX10_compare_53 : decode cX10_compare 53 = .ok (.aload_n 0, 1) := by decide +kernel
theorem dX10_compare_54 : decode cX10_compare 54 = .ok (.getfield 34, 3) := by decide +kernel
theorem dX10_compare_57 : decode cX10_compare 57 = .ok (.iconst 0, 1) := by decide +kernel
theorem dX10_compare_58 : decode cX10_compare 58 = .ok (.iload_n 1, 1) := by decide +kernel
theorem dX10_compare_59 : decode cX10_compare 59 = .ok (.invokestatic 100, 3) := by decide +kernel
theorem dX10_compare_62 : decode cX10_compare 62 = .ok (.return_, 1) := by decide +kernel
theorem dX10_takeBest_0 : decode cX10_takeBest 0 = .ok (.aload_n 0, 1) := by decide +kernel
theorem dX10_takeBest_1 : decode cX10_takeBest 1 = .ok (.aload_n 0, 1) := by decide +kernel
theorem dX10_takeBest_2 : decode cX10_takeBest 2 = .ok (.getfield 94, 3) := by decide +kernel
theorem dX10_takeBest_5 : decode cX10_takeBest 5 = .ok (.putfield 9, 3) := by decide +kernel
theorem dX10_takeBest_8 : decode cX10_takeBest 8 = .ok (.aload_n 0, 1) := by decide +kernel
theorem dX10_takeBest_9 : decode cX10_takeBest 9 = .ok (.aload_n 0, 1) := by decide +kernel
theorem dX10_takeBest_10 : decode cX10_takeBest 10 = .ok (.getfield 97, 3) := by decide +kernel
theorem dX10_takeBest_13 : decode cX10_takeBest 13 = .ok (.putfield 106, 3) := by decide +kernel
theorem dX10_takeBest_16 : decode cX10_takeBest 16 = .ok (.iconst 0, 1) := by decide +kernel
theorem dX10_takeBest_17 : decode cX10_takeBest 17 = .ok (.istore_n 1, 1) := by decide +kernel
theorem dX10_takeBest_18 : decode cX10_takeBest 18 = .ok (.iload_n 1, 1) := by decide +kernel
theorem dX10_takeBest_19 : decode cX10_takeBest 19 = .ok (.aload_n 0, 1) := by decide +kernel
theorem dX10_takeBest_20 : decode cX10_takeBest 20 = .ok (.getfield 97, 3) := by decide +kernel
theorem dX10_takeBest_23 : decode cX10_takeBest 23 = .ok (.if_icmp .ge 39, 3) := by decide +kernel
theorem dX10_takeBest_26 : decode cX10_takeBest 26 = .ok (.aload_n 0, 1) := by decide +kernel
theorem dX10_takeBest_27 : decode cX10_takeBest 27 = .ok (.getfield 21, 3) := by decide +kernel
theorem dX10_takeBest_30 : decode cX10_takeBest 30 = .ok (.aload_n 0, 1) := by decide +kernel
theorem dX10_takeBest_31 : decode cX10_takeBest 31 = .ok (.getfield 34, 3) := by decide +kernel
theorem dX10_takeBest_34 : decode cX10_takeBest 34 = .ok (.iload_n 1, 1) := by decide +kernel
theorem dX10_takeBest_35 : decode cX10_takeBest 35 = .ok (.iaload, 1) := by decide +kernel
theorem dX10_takeBest_36 : decode cX10_takeBest 36 = .ok (.aaload, 1) := by decide +kernel
theorem dX10_takeBest_37 : decode cX10_takeBest 37 = .ok (.astore_n 2, 1) := by decide +kernel
theorem dX10_takeBest_38 : decode cX10_takeBest 38 = .ok (.aload_n 0, 1) := by decide +kernel
theorem dX10_takeBest_39 : decode cX10_takeBest 39 = .ok (.getfield 15, 3) := by decide +kernel
theorem dX10_takeBest_42 : decode cX10_takeBest 42 = .ok (.iload_n 1, 1) := by decide +kernel
theorem dX10_takeBest_43 : decode cX10_takeBest 43 = .ok (.aload_n 2, 1) := by decide +kernel
theorem dX10_takeBest_44 : decode cX10_takeBest 44 = .ok (.ifnonnull 7, 3) := by decide +kernel
theorem dX10_takeBest_47 : decode cX10_takeBest 47 = .ok (.iconst (-1), 1) := by decide +kernel
theorem dX10_takeBest_48 : decode cX10_takeBest 48 = .ok (.goto 7, 3) := by decide +kernel
theorem dX10_takeBest_51 : decode cX10_takeBest 51 = .ok (.aload_n 2, 1) := by decide +kernel
theorem dX10_takeBest_52 : decode cX10_takeBest 52 = .ok (.getfield 40, 3) := by decide +kernel
theorem dX10_takeBest_55 : decode cX10_takeBest 55 = .ok (.iastore, 1) := by decide +kernel
theorem dX10_takeBest_56 : decode cX10_takeBest 56 = .ok (.iinc 1 1, 3) := by decide +kernel
theorem dX10_takeBest_59 : decode cX10_takeBest 59 = .ok (.goto (-41), 3) := by decide +kernel
theorem dX10_takeBest_62 : decode cX10_takeBest 62 = .ok (.aload_n 0, 1) := by decide +kernel
theorem dX10_takeBest_63 : decode cX10_takeBest 63 = .ok (.iconst 0, 1) := by decide +kernel
theorem dX10_takeBest_64 : decode cX10_takeBest 64 = .ok (.putfield 37, 3) := by decide +kernel
theorem dX10_takeBest_67 : decode cX10_takeBest 67 = .ok (.aload_n 0, 1) := by decide +kernel
theorem dX10_takeBest_68 : decode cX10_takeBest 68 = .ok (.getfield 50, 3) := by decide +kernel
theorem dX10_takeBest_71 : decode cX10_takeBest 71 = .ok (.ireturn, 1) := by decide +kernel
theorem dX10_readRow_0 : decode cX10_readRow 0 = .ok (.iconst 0, 1) := by decide +kernel
theorem dX10_readRow_1 : decode cX10_readRow 1 = .ok (.istore_n 2, 1) := by decide +kernel
theorem dX10_readRow_2 : decode cX10_readRow 2 = .ok (.iload_n 1, 1) := by decide +kernel
theorem dX10_readRow_3 : decode cX10_readRow 3 = .ok (.istore_n 3, 1) := by decide +kernel
theorem dX10_readRow_4 : decode cX10_readRow 4 = .ok (.aload_n 0, 1) := by decide +kernel
theorem dX10_readRow_5 : decode cX10_readRow 5 = .ok (.iconst 0, 1) := by decide +kernel
theorem dX10_readRow_6 : decode cX10_readRow 6 = .ok (.putfield 109, 3) := by decide +kernel
theorem dX10_readRow_9 : decode cX10_readRow 9 = .ok (.iconst 0, 1) := by decide +kernel
theorem dX10_readRow_10 : decode cX10_readRow 10 = .ok (.istore 4, 2) := by decide +kernel
theorem dX10_readRow_12 : decode cX10_readRow 12 = .ok (.iload 4, 2) := by decide +kernel
theorem dX10_readRow_14 : decode cX10_readRow 14 = .ok (.bipush 7, 2) := by decide +kernel
theorem dX10_readRow_16 : decode cX10_readRow 16 = .ok (.if_icmp .ge 75, 3) := by decide +kernel
theorem dX10_readRow_19 : decode cX10_readRow 19 = .ok (.iload_n 3, 1) := by decide +kernel
theorem dX10_readRow_20 : decode cX10_readRow 20 = .ok (.ifCond .le 71, 3) := by decide +kernel
theorem dX10_readRow_23 : decode cX10_readRow 23 = .ok (.iload_n 3, 1) := by decide +kernel
theorem dX10_readRow_24 : decode cX10_readRow 24 = .ok (.bipush 10, 2) := by decide +kernel
theorem dX10_readRow_26 : decode cX10_readRow 26 = .ok (.irem, 1) := by decide +kernel
theorem dX10_readRow_27 : decode cX10_readRow 27 = .ok (.iconst 1, 1) := by decide +kernel
theorem dX10_readRow_28 : decode cX10_readRow 28 = .ok (.isub, 1) := by decide +kernel
theorem dX10_readRow_29 : decode cX10_readRow 29 = .ok (.istore 5, 2) := by decide +kernel
theorem dX10_readRow_31 : decode cX10_readRow 31 = .ok (.iload 5, 2) := by decide +kernel
theorem dX10_readRow_33 : decode cX10_readRow 33 = .ok (.ifCond .lt 21, 3) := by decide +kernel
theorem dX10_readRow_36 : decode cX10_readRow 36 = .ok (.iload 5, 2) := by decide +kernel
theorem dX10_readRow_38 : decode cX10_readRow 38 = .ok (.aload_n 0, 1) := by decide +kernel
theorem dX10_readRow_39 : decode cX10_readRow 39 = .ok (.getfield 37, 3) := by decide +kernel
theorem dX10_readRow_42 : decode cX10_readRow 42 = .ok (.if_icmp .ge 12, 3) := by decide +kernel
theorem dX10_readRow_45 : decode cX10_readRow 45 = .ok (.iload_n 2, 1) := by decide +kernel
theorem dX10_readRow_46 : decode cX10_readRow 46 = .ok (.iload 5, 2) := by decide +kernel
theorem dX10_readRow_48 : decode cX10_readRow 48 = .ok (.ishr, 1) := by decide +kernel
theorem dX10_readRow_49 : decode cX10_readRow 49 = .ok (.iconst 1, 1) := by decide +kernel
theorem dX10_readRow_50 : decode cX10_readRow 50 = .ok (.iand, 1) := by decide +kernel
theorem dX10_readRow_51 : decode cX10_readRow 51 = .ok (.ifCond .eq 5, 3) := by decide +kernel
theorem dX10_readRow_54 : decode cX10_readRow 54 = .ok (.iconst 0, 1) := by decide +kernel
theorem dX10_readRow_55 : decode cX10_readRow 55 = .ok (.ireturn, 1) := by decide +kernel
theorem dX10_readRow_56 : decode cX10_readRow 56 = .ok (.iload_n 2, 1) := by decide +kernel
theorem dX10_readRow_57 : decode cX10_readRow 57 = .ok (.iconst 1, 1) := by decide +kernel
theorem dX10_readRow_58 : decode cX10_readRow 58 = .ok (.iload 5, 2) := by decide +kernel
theorem dX10_readRow_60 : decode cX10_readRow 60 = .ok (.ishl, 1) := by decide +kernel
theorem dX10_readRow_61 : decode cX10_readRow 61 = .ok (.ior, 1) := by decide +kernel
theorem dX10_readRow_62 : decode cX10_readRow 62 = .ok (.istore_n 2, 1) := by decide +kernel
theorem dX10_readRow_63 : decode cX10_readRow 63 = .ok (.aload_n 0, 1) := by decide +kernel
theorem dX10_readRow_64 : decode cX10_readRow 64 = .ok (.getfield 31, 3) := by decide +kernel
theorem dX10_readRow_67 : decode cX10_readRow 67 = .ok (.iload 4, 2) := by decide +kernel
theorem dX10_readRow_69 : decode cX10_readRow 69 = .ok (.iload 5, 2) := by decide +kernel
theorem dX10_readRow_71 : decode cX10_readRow 71 = .ok (.iastore, 1) := by decide +kernel
theorem dX10_readRow_72 : decode cX10_readRow 72 = .ok (.aload_n 0, 1) := by decide +kernel
theorem dX10_readRow_73 : decode cX10_readRow 73 = .ok (.iload 4, 2) := by decide +kernel
theorem dX10_readRow_75 : decode cX10_readRow 75 = .ok (.iconst 1, 1) := by decide +kernel
theorem dX10_readRow_76 : decode cX10_readRow 76 = .ok (.iadd, 1) := by decide +kernel
theorem dX10_readRow_77 : decode cX10_readRow 77 = .ok (.putfield 109, 3) := by decide +kernel
theorem dX10_readRow_80 : decode cX10_readRow 80 = .ok (.iload_n 3, 1) := by decide +kernel
theorem dX10_readRow_81 : decode cX10_readRow 81 = .ok (.bipush 10, 2) := by decide +kernel
theorem dX10_readRow_83 : decode cX10_readRow 83 = .ok (.idiv, 1) := by decide +kernel
theorem dX10_readRow_84 : decode cX10_readRow 84 = .ok (.istore_n 3, 1) := by decide +kernel
theorem dX10_readRow_85 : decode cX10_readRow 85 = .ok (.iinc 4 1, 3) := by decide +kernel
theorem dX10_readRow_88 : decode cX10_readRow 88 = .ok (.goto (-76), 3) := by decide +kernel
theorem dX10_readRow_91 : decode cX10_readRow 91 = .ok (.aload_n 0, 1) := by decide +kernel
theorem dX10_readRow_92 : decode cX10_readRow 92 = .ok (.getfield 109, 3) := by decide +kernel
theorem dX10_readRow_95 : decode cX10_readRow 95 = .ok (.ifCond .le 11, 3) := by decide +kernel
theorem dX10_readRow_98 : decode cX10_readRow 98 = .ok (.iload_n 3, 1) := by decide +kernel
theorem dX10_readRow_99 : decode cX10_readRow 99 = .ok (.ifCond .ne 7, 3) := by decide +kernel
theorem dX10_readRow_102 : decode cX10_readRow 102 = .ok (.iconst 1, 1) := by decide +kernel
theorem dX10_readRow_103 : decode cX10_readRow 103 = .ok (.goto 4, 3) := by decide +kernel
theorem dX10_readRow_106 : decode cX10_readRow 106 = .ok (.iconst 0, 1) := by decide +kernel
theorem dX10_readRow_107 : decode cX10_readRow 107 = .ok (.ireturn, 1) := by decide +kernel
theorem dX10_hoursOfRow_0 : decode cX10_hoursOfRow 0 = .ok (.aload_n 0, 1) := by decide +kernel
theorem dX10_hoursOfRow_1 : decode cX10_hoursOfRow 1 = .ok (.iload_n 1, 1) := by decide +kernel
theorem dX10_hoursOfRow_2 : decode cX10_hoursOfRow 2 = .ok (.invokevirtual 43, 3) := by decide +kernel
theorem dX10_hoursOfRow_5 : decode cX10_hoursOfRow 5 = .ok (.aload_n 0, 1) := by decide +kernel
theorem dX10_hoursOfRow_6 : decode cX10_hoursOfRow 6 = .ok (.getfield 53, 3) := by decide +kernel
theorem dX10_hoursOfRow_9 : decode cX10_hoursOfRow 9 = .ok (.istore_n 2, 1) := by decide +kernel
theorem dX10_hoursOfRow_10 : decode cX10_hoursOfRow 10 = .ok (.iconst 0, 1) := by decide +kernel
theorem dX10_hoursOfRow_11 : decode cX10_hoursOfRow 11 = .ok (.istore_n 3, 1) := by decide +kernel
theorem dX10_hoursOfRow_12 : decode cX10_hoursOfRow 12 = .ok (.aload_n 0, 1) := by decide +kernel
theorem dX10_hoursOfRow_13 : decode cX10_hoursOfRow 13 = .ok (.getfield 109, 3) := by decide +kernel
theorem dX10_hoursOfRow_16 : decode cX10_hoursOfRow 16 = .ok (.iconst 1, 1) := by decide +kernel
theorem dX10_hoursOfRow_17 : decode cX10_hoursOfRow 17 = .ok (.isub, 1) := by decide +kernel
theorem dX10_hoursOfRow_18 : decode cX10_hoursOfRow 18 = .ok (.istore 4, 2) := by decide +kernel
theorem dX10_hoursOfRow_20 : decode cX10_hoursOfRow 20 = .ok (.iload 4, 2) := by decide +kernel
theorem dX10_hoursOfRow_22 : decode cX10_hoursOfRow 22 = .ok (.ifCond .lt 35, 3) := by decide +kernel
theorem dX10_hoursOfRow_25 : decode cX10_hoursOfRow 25 = .ok (.aload_n 0, 1) := by decide +kernel
theorem dX10_hoursOfRow_26 : decode cX10_hoursOfRow 26 = .ok (.aload_n 0, 1) := by decide +kernel
theorem dX10_hoursOfRow_27 : decode cX10_hoursOfRow 27 = .ok (.getfield 31, 3) := by decide +kernel
theorem dX10_hoursOfRow_30 : decode cX10_hoursOfRow 30 = .ok (.iload 4, 2) := by decide +kernel
theorem dX10_hoursOfRow_32 : decode cX10_hoursOfRow 32 = .ok (.iaload, 1) := by decide +kernel
theorem dX10_hoursOfRow_33 : decode cX10_hoursOfRow 33 = .ok (.iload_n 2, 1) := by decide +kernel
theorem dX10_hoursOfRow_34 : decode cX10_hoursOfRow 34 = .ok (.iload_n 3, 1) := by decide +kernel
theorem dX10_hoursOfRow_35 : decode cX10_hoursOfRow 35 = .ok (.invokevirtual 63, 3) := by decide +kernel
theorem dX10_hoursOfRow_38 : decode cX10_hoursOfRow 38 = .ok (.istore_n 3, 1) := by decide +kernel
theorem dX10_hoursOfRow_39 : decode cX10_hoursOfRow 39 = .ok (.aload_n 0, 1) := by decide +kernel
theorem dX10_hoursOfRow_40 : decode cX10_hoursOfRow 40 = .ok (.aload_n 0, 1) := by decide +kernel
theorem dX10_hoursOfRow_41 : decode cX10_hoursOfRow 41 = .ok (.getfield 31, 3) := by decide +kernel
theorem dX10_hoursOfRow_44 : decode cX10_hoursOfRow 44 = .ok (.iload 4, 2) := by decide +kernel
theorem dX10_hoursOfRow_46 : decode cX10_hoursOfRow 46 = .ok (.iaload, 1) := by decide +kernel
theorem dX10_hoursOfRow_47 : decode cX10_hoursOfRow 47 = .ok (.invokevirtual 71, 3) := by decide +kernel
theorem dX10_hoursOfRow_50 : decode cX10_hoursOfRow 50 = .ok (.istore_n 2, 1) := by decide +kernel
theorem dX10_hoursOfRow_51 : decode cX10_hoursOfRow 51 = .ok (.iinc 4 (-1), 3) := by decide +kernel
theorem dX10_hoursOfRow_54 : decode cX10_hoursOfRow 54 = .ok (.goto (-34), 3) := by decide +kernel
theorem dX10_hoursOfRow_57 : decode cX10_hoursOfRow 57 = .ok (.iload_n 3, 1) := by decide +kernel
theorem dX10_hoursOfRow_58 : decode cX10_hoursOfRow 58 = .ok (.iload_n 2, 1) := by decide +kernel
theorem dX10_hoursOfRow_59 : decode cX10_hoursOfRow 59 = .ok (.aload_n 0, 1) := by decide +kernel
theorem dX10_hoursOfRow_60 : decode cX10_hoursOfRow 60 = .ok (.getfield 53, 3) := by decide +kernel
theorem dX10_hoursOfRow_63 : decode cX10_hoursOfRow 63 = .ok (.invokestatic 75, 3) := by decide +kernel
theorem dX10_hoursOfRow_66 : decode cX10_hoursOfRow 66 = .ok (.iadd, 1) := by decide +kernel
theorem dX10_hoursOfRow_67 : decode cX10_hoursOfRow 67 = .ok (.ireturn, 1) := by decide +kernel
theorem dX11_init_0 : decode cX11_init 0 = .ok (.aload_n 0, 1) := by decide +kernel
theorem dX11_init_1 : decode cX11_init 1 = .ok (.invokespecial 1, 3) := by decide +kernel
theorem dX11_init_4 : decode cX11_init 4 = .ok (.aload_n 0, 1) := by decide +kernel
theorem dX11_init_5 : decode cX11_init 5 = .ok (.new 7, 3) := by decide +kernel
theorem dX11_init_8 : decode cX11_init 8 = .ok (.dup, 1) := by decide +kernel
theorem dX11_init_9 : decode cX11_init 9 = .ok (.invokespecial 9, 3) := by decide +kernel
theorem dX11_init_12 : decode cX11_init 12 = .ok (.putfield 10, 3) := by decide +kernel
theorem dX11_init_15 : decode cX11_init 15 = .ok (.aload_n 0, 1) := by decide +kernel
theorem dX11_init_16 : decode cX11_init 16 = .ok (.new 16, 3) := by decide +kernel
theorem dX11_init_19 : decode cX11_init 19 = .ok (.dup, 1) := by decide +kernel
theorem dX11_init_20 : decode cX11_init 20 = .ok (.aload_n 0, 1) := by decide +kernel
theorem dX11_init_21 : decode cX11_init 21 = .ok (.getfield 10, 3) := by decide +kernel
theorem dX11_init_24 : decode cX11_init 24 = .ok (.invokespecial 18, 3) := by decide +kernel
theorem dX11_init_27 : decode cX11_init 27 = .ok (.putfield 21, 3) := by decide +kernel
theorem dX11_init_30 : decode cX11_init 30 = .ok (.aload_n 0, 1) := by decide +kernel
theorem dX11_init_31 : decode cX11_init 31 = .ok (.new 25, 3) := by decide +kernel
theorem dX11_init_34 : decode cX11_init 34 = .ok (.dup, 1) := by decide +kernel
theorem dX11_init_35 : decode cX11_init 35 = .ok (.aload_n 0, 1) := by decide +kernel
theorem dX11_init_36 : decode cX11_init 36 = .ok (.getfield 10, 3) := by decide +kernel
theorem dX11_init_39 : decode cX11_init 39 = .ok (.aload_n 0, 1) := by decide +kernel
theorem dX11_init_40 : decode cX11_init 40 = .ok (.getfield 21, 3) := by decide +kernel
theorem dX11_init_43 : decode cX11_init 43 = .ok (.invokespecial 27, 3) := by decide +kernel
theorem dX11_init_46 : decode cX11_init 46 = .ok (.putfield 30, 3) := by decide +kernel
theorem dX11_init_49 : decode cX11_init 49 = .ok (.aload_n 0, 1) := by decide +kernel
theorem dX11_init_50 : decode cX11_init 50 = .ok (.new 34, 3) := by decide +kernel
theorem dX11_init_53 : decode cX11_init 53 = .ok (.dup, 1) := by decide +kernel
theorem dX11_init_54 : decode cX11_init 54 = .ok (.invokespecial 36, 3) := by decide +kernel
theorem dX11_init_57 : decode cX11_init 57 = .ok (.putfield 37, 3) := by decide +kernel
theorem dX11_init_60 : decode cX11_init 60 = .ok (.aload_n 0, 1) := by decide +kernel
theorem dX11_init_61 : decode cX11_init 61 = .ok (.bipush 6, 2) := by decide +kernel
theorem dX11_init_63 : decode cX11_init 63 = .ok (.anewarray 41, 3) := by decide +kernel
theorem dX11_init_66 : decode cX11_init 66 = .ok (.putfield 43, 3) := by decide +kernel
theorem dX11_init_69 : decode cX11_init 69 = .ok (.iconst 0, 1) := by decide +kernel
theorem dX11_init_70 : decode cX11_init 70 = .ok (.istore_n 1, 1) := by decide +kernel
theorem dX11_init_71 : decode cX11_init 71 = .ok (.iload_n 1, 1) := by decide +kernel
theorem dX11_init_72 : decode cX11_init 72 = .ok (.bipush 6, 2) := by decide +kernel
theorem dX11_init_74 : decode cX11_init 74 = .ok (.if_icmp .ge 22, 3) := by decide +kernel
theorem dX11_init_77 : decode cX11_init 77 = .ok (.aload_n 0, 1) := by decide +kernel
theorem dX11_init_78 : decode cX11_init 78 = .ok (.getfield 43, 3) := by decide +kernel
theorem dX11_init_81 : decode cX11_init 81 = .ok (.iload_n 1, 1) := by decide +kernel
theorem dX11_init_82 : decode cX11_init 82 = .ok (.new 41, 3) := by decide +kernel
theorem dX11_init_85 : decode cX11_init 85 = .ok (.dup, 1) := by decide +kernel
theorem dX11_init_86 : decode cX11_init 86 = .ok (.invokespecial 47, 3) := by decide +kernel
theorem dX11_init_89 : decode cX11_init 89 = .ok (.aastore, 1) := by decide +kernel
theorem dX11_init_90 : decode cX11_init 90 = .ok (.iinc 1 1, 3) := by decide +kernel
theorem dX11_init_93 : decode cX11_init 93 = .ok (.goto (-22), 3) := by decide +kernel
theorem dX11_init_96 : decode cX11_init 96 = .ok (.aload_n 0, 1) := by decide +kernel
theorem dX11_init_97 : decode cX11_init 97 = .ok (.bipush 25, 2) := by decide +kernel
theorem dX11_init_99 : decode cX11_init 99 = .ok (.newarray .int, 2) := by decide +kernel
theorem dX11_init_101 : decode cX11_init 101 = .ok (.putfield 48, 3) := by decide +kernel
theorem dX11_init_104 : decode cX11_init 104 = .ok (.return_, 1) := by decide +kernel
theorem dX11_days_0 : decode cX11_days 0 = .ok (.iload_n 1, 1) := by decide +kernel
theorem dX11_days_1 : decode cX11_days 1 = .ok (.iconst 1, 1) := by decide +kernel
theorem dX11_days_2 : decode cX11_days 2 = .ok (.if_icmp .lt 24, 3) := by decide +kernel
theorem dX11_days_5 : decode cX11_days 5 = .ok (.iload_n 1, 1) := by decide +kernel
theorem dX11_days_6 : decode cX11_days 6 = .ok (.bipush 100, 2) := by decide +kernel
theorem dX11_days_8 : decode cX11_days 8 = .ok (.if_icmp .gt 18, 3) := by decide +kernel
theorem dX11_days_11 : decode cX11_days 11 = .ok (.aload_n 0, 1) := by decide +kernel
theorem dX11_days_12 : decode cX11_days 12 = .ok (.getfield 10, 3) := by decide +kernel
theorem dX11_days_15 : decode cX11_days 15 = .ok (.getfield 52, 3) := by decide +kernel
theorem dX11_days_18 : decode cX11_days 18 = .ok (.iload_n 1, 1) := by decide +kernel
theorem dX11_days_19 : decode cX11_days 19 = .ok (.iadd, 1) := by decide +kernel
theorem dX11_days_20 : decode cX11_days 20 = .ok (.sipush 999, 3) := by decide +kernel
theorem dX11_days_23 : decode cX11_days 23 = .ok (.if_icmp .le 5, 3) := by decide +kernel
theorem dX11_days_26 : decode cX11_days 26 = .ok (.iconst (-1), 1) := by decide +kernel
theorem dX11_days_27 : decode cX11_days 27 = .ok (.ireturn, 1) := by decide +kernel
theorem dX11_days_28 : decode cX11_days 28 = .ok (.aload_n 0, 1) := by decide +kernel
theorem dX11_days_29 : decode cX11_days 29 = .ok (.getfield 10, 3) := by decide +kernel
theorem dX11_days_32 : decode cX11_days 32 = .ok (.dup, 1) := by decide +kernel
theorem dX11_days_33 : decode cX11_days 33 = .ok (.getfield 52, 3) := by decide +kernel
theorem dX11_days_36 : decode cX11_days 36 = .ok (.iload_n 1, 1) := by decide +kernel
theorem dX11_days_37 : decode cX11_days 37 = .ok (.iadd, 1) := by decide +kernel
theorem dX11_days_38 : decode cX11_days 38 = .ok (.putfield 52, 3) := by decide +kernel
theorem dX11_days_41 : decode cX11_days 41 = .ok (.aload_n 0, 1) := by decide +kernel
theorem dX11_days_42 : decode cX11_days 42 = .ok (.getfield 10, 3) := by decide +kernel
theorem dX11_days_45 : decode cX11_days 45 = .ok (.getfield 52, 3) := by decide +kernel
theorem dX11_days_48 : decode cX11_days 48 = .ok (.ireturn, 1) := by decide +kernel
theorem dX11_owner_0 : decode cX11_owner 0 = .ok (.iload_n 1, 1) := by decide +kernel
theorem dX11_owner_1 : decode cX11_owner 1 = .ok (.invokestatic 56, 3) := by decide +kernel
theorem dX11_owner_4 : decode cX11_owner 4 = .ok (.ifCond .eq 14, 3) := by decide +kernel
theorem dX11_owner_7 : decode cX11_owner 7 = .ok (.iload_n 2, 1) := by decide +kernel
theorem dX11_owner_8 : decode cX11_owner 8 = .ok (.iconst (-1), 1) := by decide +kernel
theorem dX11_owner_9 : decode cX11_owner 9 = .ok (.if_icmp .lt 9, 3) := by decide +kernel
theorem dX11_owner_12 : decode cX11_owner 12 = .ok (.iload_n 2, 1) := by decide +kernel
theorem dX11_owner_13 : decode cX11_owner 13 = .ok (.bipush 10, 2) := by decide +kernel
theorem dX11_owner_15 : decode cX11_owner 15 = .ok (.if_icmp .lt 6, 3) := by decide +kernel
theorem dX11_owner_18 : decode cX11_owner 18 = .ok (.ldc 60, 2) := by decide +kernel
theorem dX11_owner_20 : decode cX11_owner 20 = .ok (.ireturn, 1) := by decide +kernel
theorem dX11_owner_21 : decode cX11_owner 21 = .ok (.aload_n 0, 1) := by decide +kernel
theorem dX11_owner_22 : decode cX11_owner 22 = .ok (.getfield 10, 3) := by decide +kernel
theorem dX11_owner_25 : decode cX11_owner 25 = .ok (.getfield 61, 3) := by decide +kernel
theorem dX11_owner_28 : decode cX11_owner 28 = .ok (.iload_n 1, 1) := by decide +kernel
theorem dX11_owner_29 : decode cX11_owner 29 = .ok (.iaload, 1) := by decide +kernel
theorem dX11_owner_30 : decode cX11_owner 30 = .ok (.istore_n 3, 1) := by decide +kernel
theorem dX11_owner_31 : decode cX11_owner 31 = .ok (.aload_n 0, 1) := by decide +kernel
theorem dX11_owner_32 : decode cX11_owner 32 = .ok (.getfield 10, 3) := by decide +kernel
theorem dX11_owner_35 : decode cX11_owner 35 = .ok (.getfield 61, 3) := by decide +kernel
theorem dX11_owner_38 : decode cX11_owner 38 = .ok (.iload_n 1, 1) := by decide +kernel
theorem dX11_owner_39 : decode cX11_owner 39 = .ok (.iload_n 2, 1) := by decide +kernel
theorem dX11_owner_40 : decode cX11_owner 40 = .ok (.iastore, 1) := by decide +kernel
theorem dX11_owner_41 : decode cX11_owner 41 = .ok (.iload_n 3, 1) := by decide +kernel
theorem dX11_owner_42 : decode cX11_owner 42 = .ok (.ireturn, 1) := by decide +kernel
theorem dX11_body_0 : decode cX11_body 0 = .ok (.iload_n 1, 1) := by decide +kernel
theorem dX11_body_1 : decode cX11_body 1 = .ok (.ifCond .eq 11, 3) := by decide +kernel
theorem dX11_body_4 : decode cX11_body 4 = .ok (.iload_n 1, 1) := by decide +kernel
theorem dX11_body_5 : decode cX11_body 5 = .ok (.bipush 6, 2) := by decide +kernel
theorem dX11_body_7 : decode cX11_body 7 = .ok (.if_icmp .eq 5, 3) := by decide +kernel
theorem dX11_body_10 : decode cX11_body 10 = .ok (.iconst (-1), 1) := by decide +kernel
theorem dX11_body_11 : decode cX11_body 11 = .ok (.ireturn, 1) := by decide +kernel
theorem dX11_body_12 : decode cX11_body 12 = .ok (.aload_n 0, 1) := by decide +kernel
theorem dX11_body_13 : decode cX11_body 13 = .ok (.getfield 10, 3) := by decide +kernel
theorem dX11_body_16 : decode cX11_body 16 = .ok (.invokevirtual 64, 3) := by decide +kernel
theorem dX11_body_19 : decode cX11_body 19 = .ok (.ifCond .eq 6, 3) := by decide +kernel
theorem dX11_body_22 : decode cX11_body 22 = .ok (.bipush (-3), 2) := by decide +kernel
theorem dX11_body_24 : decode cX11_body 24 = .ok (.ireturn, 1) := by decide +kernel
theorem dX11_body_25 : decode cX11_body 25 = .ok (.aload_n 0, 1) := by decide +kernel
theorem dX11_body_26 : decode cX11_body 26 = .ok (.getfield 10, 3) := by decide +kernel
theorem dX11_body_29 : decode cX11_body 29 = .ok (.iload_n 1, 1) := by decide +kernel
theorem dX11_body_30 : decode cX11_body 30 = .ok (.bipush 6, 2) := by decide +kernel
theorem dX11_body_32 : decode cX11_body 32 = .ok (.if_icmp .ne 20, 3) := by decide +kernel
theorem dX11_body_35 : decode cX11_body 35 = .ok (.new 68, 3) := by decide +kernel
theorem dX11_body_38 : decode cX11_body 38 = .ok (.dup, 1) := by decide +kernel
theorem dX11_body_39 : decode cX11_body 39 = .ok (.aload_n 0, 1) := by decide +kernel
theorem dX11_body_40 : decode cX11_body 40 = .ok (.getfield 10, 3) := by decide +kernel
theorem dX11_body_43 : decode cX11_body 43 = .ok (.getfield 70, 3) := by decide +kernel
theorem dX11_body_46 : decode cX11_body 46 = .ok (.invokespecial 73, 3) := by decide +kernel
theorem dX11_body_49 : decode cX11_body 49 = .ok (.goto 18, 3) := by decide +kernel
theorem dX11_body_52 : decode cX11_body 52 = .ok (.new 76, 3) := by decide +kernel
theorem dX11_body_55 : decode cX11_body 55 = .ok (.dup, 1) := by decide +kernel
theorem dX11_body_56 : decode cX11_body 56 = .ok (.aload_n 0, 1) := by decide +kernel
theorem dX11_body_57 : decode cX11_body 57 = .ok (.getfield 10, 3) := by decide +kernel
theorem dX11_body_60 : decode cX11_body 60 = .ok (.getfield 70, 3) := by decide +kernel
theorem dX11_body_63 : decode cX11_body 63 = .ok (.iload_n 1, 1) := by decide +kernel
theorem dX11_body_64 : decode cX11_body 64 = .ok (.invokespecial 78, 3) := by decide +kernel
theorem dX11_body_67 : decode cX11_body 67 = .ok (.invokevirtual 81, 3) := by decide +kernel
theorem dX11_body_70 : decode cX11_body 70 = .ok (.ireturn, 1) := by decide +kernel
theorem dX11_finder_0 : decode cX11_finder 0 = .ok (.iload_n 1, 1) := by decide +kernel
theorem dX11_finder_1 : decode cX11_finder 1 = .ok (.invokestatic 56, 3) := by decide +kernel
theorem dX11_finder_4 : decode cX11_finder 4 = .ok (.ifCond .ne 5, 3) := by decide +kernel
theorem dX11_finder_7 : decode cX11_finder 7 = .ok (.iconst (-1), 1) := by decide +kernel
theorem dX11_finder_8 : decode cX11_finder 8 = .ok (.ireturn, 1) := by decide +kernel
theorem dX11_finder_9 : decode cX11_finder 9 = .ok (.aload_n 0, 1) := by decide +kernel
theorem dX11_finder_10 : decode cX11_finder 10 = .ok (.getfield 10, 3) := by decide +kernel
theorem dX11_finder_13 : decode cX11_finder 13 = .ok (.invokevirtual 64, 3) := by decide +kernel
theorem dX11_finder_16 : decode cX11_finder 16 = .ok (.ifCond .eq 6, 3) := by decide +kernel
theorem dX11_finder_19 : decode cX11_finder 19 = .ok (.bipush (-3), 2) := by decide +kernel
theorem dX11_finder_21 : decode cX11_finder 21 = .ok (.ireturn, 1) := by decide +kernel
theorem dX11_finder_22 : decode cX11_finder 22 = .ok (.aload_n 0, 1) := by decide +kernel
theorem dX11_finder_23 : decode cX11_finder 23 = .ok (.getfield 10, 3) := by decide +kernel
theorem dX11_finder_26 : decode cX11_finder 26 = .ok (.new 85, 3) := by decide +kernel
theorem dX11_finder_29 : decode cX11_finder 29 = .ok (.dup, 1) := by decide +kernel
theorem dX11_finder_30 : decode cX11_finder 30 = .ok (.aload_n 0, 1) := by decide +kernel
theorem dX11_finder_31 : decode cX11_finder 31 = .ok (.getfield 10, 3) := by decide +kernel
theorem dX11_finder_34 : decode cX11_finder 34 = .ok (.getfield 70, 3) := by decide +kernel
theorem dX11_finder_37 : decode cX11_finder 37 = .ok (.iload_n 1, 1) := by decide +kernel
theorem dX11_finder_38 : decode cX11_finder 38 = .ok (.aload_n 0, 1) := by decide +kernel
theorem dX11_finder_39 : decode cX11_finder 39 = .ok (.getfield 10, 3) := by decide +kernel
theorem dX11_finder_42 : decode cX11_finder 42 = .ok (.getfield 52, 3) := by decide +kernel
theorem dX11_finder_45 : decode cX11_finder 45 = .ok (.invokespecial 87, 3) := by decide +kernel
theorem dX11_finder_48 : decode cX11_finder 48 = .ok (.invokevirtual 81, 3) := by decide +kernel
theorem dX11_finder_51 : decode cX11_finder 51 = .ok (.ireturn, 1) := by decide +kernel
theorem dX11_leaves_0 : decode cX11_leaves 0 = .ok (.aload_n 0, 1) := by decide +kernel
theorem dX11_leaves_1 : decode cX11_leaves 1 = .ok (.getfield 10, 3) := by decide +kernel
theorem dX11_leaves_4 : decode cX11_leaves 4 = .ok (.iload_n 1, 1) := by decide +kernel
theorem dX11_leaves_5 : decode cX11_leaves 5 = .ok (.invokevirtual 90, 3) := by decide +kernel
theorem dX11_leaves_8 : decode cX11_leaves 8 = .ok (.astore_n 2, 1) := by decide +kernel
theorem dX11_leaves_9 : decode cX11_leaves 9 = .ok (.aload_n 2, 1) := by decide +kernel
theorem dX11_leaves_10 : decode cX11_leaves 10 = .ok (.ifnonnull 5, 3) := by decide +kernel
theorem dX11_leaves_13 : decode cX11_leaves 13 = .ok (.iconst (-1), 1) := by decide +kernel
theorem dX11_leaves_14 : decode cX11_leaves 14 = .ok (.ireturn, 1) := by decide +kernel
theorem dX11_leaves_15 : decode cX11_leaves 15 = .ok (.aload_n 2, 1) := by decide +kernel
theorem dX11_leaves_16 : decode cX11_leaves 16 = .ok (.invokevirtual 94, 3) := by decide +kernel
theorem dX11_leaves_19 : decode cX11_leaves 19 = .ok (.ifCond .eq 6, 3) := by decide +kernel
theorem dX11_leaves_22 : decode cX11_leaves 22 = .ok (.bipush (-2), 2) := by decide +kernel
theorem dX11_leaves_24 : decode cX11_leaves 24 = .ok (.ireturn, 1) := by decide +kernel
theorem dX11_leaves_25 : decode cX11_leaves 25 = .ok (.aload_n 2, 1) := by decide +kernel
theorem dX11_leaves_26 : decode cX11_leaves 26 = .ok (.aload_n 0, 1) := by decide +kernel
theorem dX11_leaves_27 : decode cX11_leaves 27 = .ok (.getfield 10, 3) := by decide +kernel
theorem dX11_leaves_30 : decode cX11_leaves 30 = .ok (.getfield 52, 3) := by decide +kernel
theorem dX11_leaves_33 : decode cX11_leaves 33 = .ok (.putfield 97, 3) := by decide +kernel
theorem dX11_leaves_36 : decode cX11_leaves 36 = .ok (.iconst 1, 1) := by decide +kernel
theorem dX11_leaves_37 : decode cX11_leaves 37 = .ok (.ireturn, 1) := by decide +kernel
theorem dX11_step_0 : decode cX11_step 0 = .ok (.iload_n 1, 1) := by decide +kernel
theorem dX11_step_1 : decode cX11_step 1 = .ok (.invokestatic 56, 3) := by decide +kernel
theorem dX11_step_4 : decode cX11_step 4 = .ok (.ifCond .ne 5, 3) := by decide +kernel
theorem dX11_step_7 : decode cX11_step 7 = .ok (.iconst (-1), 1) := by decide +kernel
theorem dX11_step_8 : decode cX11_step 8 = .ok (.ireturn, 1) := by decide +kernel
theorem dX11_step_9 : decode cX11_step 9 = .ok (.aload_n 0, 1) := by decide +kernel
theorem dX11_step_10 : decode cX11_step 10 = .ok (.getfield 10, 3) := by decide +kernel
theorem dX11_step_13 : decode cX11_step 13 = .ok (.getfield 100, 3) := by decide +kernel
theorem dX11_step_16 : decode cX11_step 16 = .ok (.iconst 4, 1) := by decide +kernel
theorem dX11_step_17 : decode cX11_step 17 = .ok (.if_icmp .lt 6, 3) := by decide +kernel
theorem dX11_step_20 : decode cX11_step 20 = .ok (.bipush (-3), 2) := by decide +kernel
theorem dX11_step_22 : decode cX11_step 22 = .ok (.ireturn, 1) := by decide +kernel
theorem dX11_step_23 : decode cX11_step 23 = .ok (.aload_n 0, 1) := by decide +kernel
theorem dX11_step_24 : decode cX11_step 24 = .ok (.getfield 10, 3) := by decide +kernel
theorem dX11_step_27 : decode cX11_step 27 = .ok (.getfield 103, 3) := by decide +kernel
theorem dX11_step_30 : decode cX11_step 30 = .ok (.aload_n 0, 1) := by decide +kernel
theorem dX11_step_31 : decode cX11_step 31 = .ok (.getfield 10, 3) := by decide +kernel
theorem dX11_step_34 : decode cX11_step 34 = .ok (.getfield 100, 3) := by decide +kernel
theorem dX11_step_37 : decode cX11_step 37 = .ok (.iload_n 1, 1) := by decide +kernel
theorem dX11_step_38 : decode cX11_step 38 = .ok (.iastore, 1) := by decide +kernel
theorem dX11_step_39 : decode cX11_step 39 = .ok (.aload_n 0, 1) := by decide +kernel
theorem dX11_step_40 : decode cX11_step 40 = .ok (.getfield 10, 3) := by decide +kernel
theorem dX11_step_43 : decode cX11_step 43 = .ok (.dup, 1) := by decide +kernel
theorem dX11_step_44 : decode cX11_step 44 = .ok (.getfield 100, 3) := by decide +kernel
theorem dX11_step_47 : decode cX11_step 47 = .ok (.iconst 1, 1) := by decide +kernel
theorem dX11_step_48 : decode cX11_step 48 = .ok (.iadd, 1) := by decide +kernel
theorem dX11_step_49 : decode cX11_step 49 = .ok (.putfield 100, 3) := by decide +kernel
theorem dX11_step_52 : decode cX11_step 52 = .ok (.aload_n 0, 1) := by decide +kernel
theorem dX11_step_53 : decode cX11_step 53 = .ok (.getfield 10, 3) := by decide +kernel
theorem dX11_step_56 : decode cX11_step 56 = .ok (.getfield 100, 3) := by decide +kernel
theorem dX11_step_59 : decode cX11_step 59 = .ok (.ireturn, 1) := by decide +kernel
theorem dX11_why_0 : decode cX11_why 0 = .ok (.aload_n 0, 1) := by decide +kernel
theorem dX11_why_1 : decode cX11_why 1 = .ok (.getfield 10, 3) := by decide +kernel
theorem dX11_why_4 : decode cX11_why 4 = .ok (.iload_n 1, 1) := by decide +kernel
theorem dX11_why_5 : decode cX11_why 5 = .ok (.invokevirtual 90, 3) := by decide +kernel
theorem dX11_why_8 : decode cX11_why 8 = .ok (.astore 5, 2) := by decide +kernel
theorem dX11_why_10 : decode cX11_why 10 = .ok (.aload 5, 2) := by decide +kernel
theorem dX11_why_12 : decode cX11_why 12 = .ok (.ifnull 23, 3) := by decide +kernel
theorem dX11_why_15 : decode cX11_why 15 = .ok (.aload_n 0, 1) := by decide +kernel
theorem dX11_why_16 : decode cX11_why 16 = .ok (.iload_n 2, 1) := by decide +kernel
theorem dX11_why_17 : decode cX11_why 17 = .ok (.iload_n 3, 1) := by decide +kernel
theorem dX11_why_18 : decode cX11_why 18 = .ok (.invokevirtual 106, 3) := by decide +kernel
theorem dX11_why_21 : decode cX11_why 21 = .ok (.ifCond .eq 14, 3) := by decide +kernel
theorem dX11_why_24 : decode cX11_why 24 = .ok (.iload 4, 2) := by decide +kernel
theorem dX11_why_26 : decode cX11_why 26 = .ok (.ifCond .lt 9, 3) := by decide +kernel
theorem dX11_why_29 : decode cX11_why 29 = .ok (.iload 4, 2) := by decide +kernel
theorem dX11_why_31 : decode cX11_why 31 = .ok (.iconst 1, 1) := by decide +kernel
theorem dX11_why_32 : decode cX11_why 32 = .ok (.if_icmp .le 5, 3) := by decide +kernel
theorem dX11_why_35 : decode cX11_why 35 = .ok (.iconst (-1), 1) := by decide +kernel
theorem dX11_why_36 : decode cX11_why 36 = .ok (.ireturn, 1) := by decide +kernel
theorem dX11_why_37 : decode cX11_why 37 = .ok (.aload_n 0, 1) := by decide +kernel
theorem dX11_why_38 : decode cX11_why 38 = .ok (.getfield 21, 3) := by decide +kernel
theorem dX11_why_41 : decode cX11_why 41 = .ok (.aload 5, 2) := by decide +kernel
theorem dX11_why_43 : decode cX11_why 43 = .ok (.iload_n 2, 1) := by decide +kernel
theorem dX11_why_44 : decode cX11_why 44 = .ok (.iload_n 3, 1) := by decide +kernel
theorem dX11_why_45 : decode cX11_why 45 = .ok (.invokevirtual 110, 3) := by decide +kernel
theorem dX11_why_48 : decode cX11_why 48 = .ok (.istore 6, 2) := by decide +kernel
theorem dX11_why_50 : decode cX11_why 50 = .ok (.iload 4, 2) := by decide +kernel
theorem dX11_why_52 : decode cX11_why 52 = .ok (.ifCond .ne 11, 3) := by decide +kernel
theorem dX11_why_55 : decode cX11_why 55 = .ok (.iload 6, 2) := by decide +kernel
theorem dX11_why_57 : decode cX11_why 57 = .ok (.invokestatic 114, 3) := by decide +kernel
theorem dX11_why_60 : decode cX11_why 60 = .ok (.goto 5, 3) := by decide +kernel
theorem dX11_why_63 : decode cX11_why 63 = .ok (.iload 6, 2) := by decide +kernel
theorem dX11_why_65 : decode cX11_why 65 = .ok (.ireturn, 1) := by decide +kernel
theorem dX11_hide_0 : decode cX11_hide 0 = .ok (.aload_n 0, 1) := by decide +kernel
theorem dX11_hide_1 : decode cX11_hide 1 = .ok (.getfield 10, 3) := by decide +kernel
theorem dX11_hide_4 : decode cX11_hide 4 = .ok (.iload_n 1, 1) := by decide +kernel
theorem dX11_hide_5 : decode cX11_hide 5 = .ok (.invokevirtual 90, 3) := by decide +kernel
theorem dX11_hide_8 : decode cX11_hide 8 = .ok (.astore 4, 2) := by decide +kernel
theorem dX11_hide_10 : decode cX11_hide 10 = .ok (.aload 4, 2) := by decide +kernel
theorem dX11_hide_12 : decode cX11_hide 12 = .ok (.ifnull 12, 3) := by decide +kernel
theorem dX11_hide_15 : decode cX11_hide 15 = .ok (.aload_n 0, 1) := by decide +kernel
theorem dX11_hide_16 : decode cX11_hide 16 = .ok (.iload_n 2, 1) := by decide +kernel
theorem dX11_hide_17 : decode cX11_hide 17 = .ok (.iload_n 3, 1) := by decide +kernel
theorem dX11_hide_18 : decode cX11_hide 18 = .ok (.invokevirtual 106, 3) := by decide +kernel
theorem dX11_hide_21 : decode cX11_hide 21 = .ok (.ifCond .ne 5, 3) := by decide +kernel
theorem dX11_hide_24 : decode cX11_hide 24 = .ok (.iconst (-1), 1) := by decide +kernel
theorem dX11_hide_25 : decode cX11_hide 25 = .ok (.ireturn, 1) := by decide +kernel
theorem dX11_hide_26 : decode cX11_hide 26 = .ok (.aload_n 0, 1) := by decide +kernel
theorem dX11_hide_27 : decode cX11_hide 27 = .ok (.getfield 21, 3) := by decide +kernel
theorem dX11_hide_30 : decode cX11_hide 30 = .ok (.aload 4, 2) := by decide +kernel
theorem dX11_hide_32 : decode cX11_hide 32 = .ok (.iload_n 2, 1) := by decide +kernel
theorem dX11_hide_33 : decode cX11_hide 33 = .ok (.iload_n 3, 1) := by decide +kernel
theorem dX11_hide_34 : decode cX11_hide 34 = .ok (.invokevirtual 110, 3) := by decide +kernel
theorem dX11_hide_37 : decode cX11_hide 37 = .ok (.istore 5, 2) := by decide +kernel
theorem dX11_hide_39 : decode cX11_hide 39 = .ok (.iload 5, 2) := by decide +kernel
theorem dX11_hide_41 : decode cX11_hide 41 = .ok (.ifCond .eq 12, 3) := by decide +kernel
theorem dX11_hide_44 : decode cX11_hide 44 = .ok (.bipush (-20), 2) := by decide +kernel
theorem dX11_hide_46 : decode cX11_hide 46 = .ok (.iload 5, 2) := by decide +kernel
theorem dX11_hide_48 : decode cX11_hide 48 = .ok (.invokestatic 114, 3) := by decide +kernel
theorem dX11_hide_51 : decode cX11_hide 51 = .ok (.isub, 1) := by decide +kernel
theorem dX11_hide_52 : decode cX11_hide 52 = .ok (.ireturn, 1) := by decide +kernel
theorem dX11_hide_53 : decode cX11_hide 53 = .ok (.aload_n 0, 1) := by decide +kernel
theorem dX11_hide_54 : decode cX11_hide 54 = .ok (.getfield 10, 3) := by decide +kernel
theorem dX11_hide_57 : decode cX11_hide 57 = .ok (.invokevirtual 64, 3) := by decide +kernel
theorem dX11_hide_60 : decode cX11_hide 60 = .ok (.ifCond .eq 6, 3) := by decide +kernel
theorem dX11_hide_63 : decode cX11_hide 63 = .ok (.bipush (-3), 2) := by decide +kernel
theorem dX11_hide_65 : decode cX11_hide 65 = .ok (.ireturn, 1) := by decide +kernel
theorem dX11_hide_66 : decode cX11_hide 66 = .ok (.new 118, 3) := by decide +kernel
theorem dX11_hide_69 : decode cX11_hide 69 = .ok (.dup, 1) := by decide +kernel
theorem dX11_hide_70 : decode cX11_hide 70 = .ok (.aload_n 0, 1) := by decide +kernel
theorem dX11_hide_71 : decode cX11_hide 71 = .ok (.getfield 10, 3) := by decide +kernel
theorem dX11_hide_74 : decode cX11_hide 74 = .ok (.getfield 70, 3) := by decide +kernel
theorem dX11_hide_77 : decode cX11_hide 77 = .ok (.iload_n 2, 1) := by decide +kernel
theorem dX11_hide_78 : decode cX11_hide 78 = .ok (.aload 4, 2) := by decide +kernel
theorem dX11_hide_80 : decode cX11_hide 80 = .ok (.getfield 120, 3) := by decide +kernel
theorem dX11_hide_83 : decode cX11_hide 83 = .ok (.iload_n 3, 1) := by decide +kernel
theorem dX11_hide_84 : decode cX11_hide 84 = .ok (.aload_n 0, 1) := by decide +kernel
theorem dX11_hide_85 : decode cX11_hide 85 = .ok (.getfield 10, 3) := by decide +kernel
theorem dX11_hide_88 : decode cX11_hide 88 = .ok (.getfield 52, 3) := by decide +kernel
theorem dX11_hide_91 : decode cX11_hide 91 = .ok (.invokespecial 123, 3) := by decide +kernel
theorem dX11_hide_94 : decode cX11_hide 94 = .ok (.astore 6, 2) := by decide +kernel
theorem dX11_hide_96 : decode cX11_hide 96 = .ok (.iload_n 2, 1) := by decide +kernel
theorem dX11_hide_97 : decode cX11_hide 97 = .ok (.iconst 3, 1) := by decide +kernel
theorem dX11_hide_98 : decode cX11_hide 98 = .ok (.if_icmp .ne 22, 3) := by decide +kernel
theorem dX11_hide_101 : decode cX11_hide 101 = .ok (.aload 6, 2) := by decide +kernel
theorem dX11_hide_103 : decode cX11_hide 103 = .ok (.aload_n 0, 1) := by decide +kernel
theorem dX11_hide_104 : decode cX11_hide 104 = .ok (.getfield 10, 3) := by decide +kernel
theorem dX11_hide_107 : decode cX11_hide 107 = .ok (.getfield 103, 3) := by decide +kernel
theorem dX11_hide_110 : decode cX11_hide 110 = .ok (.aload_n 0, 1) := by decide +kernel
theorem dX11_hide_111 : decode cX11_hide 111 = .ok (.getfield 10, 3) := by decide +kernel
theorem dX11_hide_114 : decode cX11_hide 114 = .ok (.getfield 100, 3) := by decide +kernel
theorem dX11_hide_117 : decode cX11_hide 117 = .ok (.invokevirtual 126, 3) := by decide +kernel
theorem dX11_hide_120 : decode cX11_hide 120 = .ok (.aload_n 0, 1) := by decide +kernel
theorem dX11_hide_121 : decode cX11_hide 121 = .ok (.getfield 10, 3) := by decide +kernel
theorem dX11_hide_124 : decode cX11_hide 124 = .ok (.iconst 0, 1) := by decide +kernel
theorem dX11_hide_125 : decode cX11_hide 125 = .ok (.putfield 100, 3) := by decide +kernel
theorem dX11_hide_128 : decode cX11_hide 128 = .ok (.aload_n 0, 1) := by decide +kernel
theorem dX11_hide_129 : decode cX11_hide 129 = .ok (.getfield 10, 3) := by decide +kernel
theorem dX11_hide_132 : decode cX11_hide 132 = .ok (.aload 6, 2) := by decide +kernel
theorem dX11_hide_134 : decode cX11_hide 134 = .ok (.invokevirtual 81, 3) := by decide +kernel
theorem dX11_hide_137 : decode cX11_hide 137 = .ok (.ireturn, 1) := by decide +kernel
theorem dX11_move_0 : decode cX11_move 0 = .ok (.aload_n 0, 1) := by decide +kernel
theorem dX11_move_1 : decode cX11_move 1 = .ok (.getfield 10, 3) := by decide +kernel
theorem dX11_move_4 : decode cX11_move 4 = .ok (.iload_n 1, 1) := by decide +kernel
theorem dX11_move_5 : decode cX11_move 5 = .ok (.invokevirtual 130, 3) := by decide +kernel
theorem dX11_move_8 : decode cX11_move 8 = .ok (.astore 4, 2) := by decide +kernel
theorem dX11_move_10 : decode cX11_move 10 = .ok (.aload 4, 2) := by decide +kernel
theorem dX11_move_12 : decode cX11_move 12 = .ok (.ifnull 29, 3) := by decide +kernel
theorem dX11_move_15 : decode cX11_move 15 = .ok (.aload 4, 2) := by decide +kernel
theorem dX11_move_17 : decode cX11_move 17 = .ok (.getfield 134, 3) := by decide +kernel
theorem dX11_move_20 : decode cX11_move 20 = .ok (.iconst 4, 1) := by decide +kernel
theorem dX11_move_21 : decode cX11_move 21 = .ok (.if_icmp .ne 20, 3) := by decide +kernel
theorem dX11_move_24 : decode cX11_move 24 = .ok (.iload_n 2, 1) := by decide +kernel
theorem dX11_move_25 : decode cX11_move 25 = .ok (.invokestatic 56, 3) := by decide +kernel
theorem dX11_move_28 : decode cX11_move 28 = .ok (.ifCond .eq 13, 3) := by decide +kernel
theorem dX11_move_31 : decode cX11_move 31 = .ok (.iload_n 3, 1) := by decide +kernel
theorem dX11_move_32 : decode cX11_move 32 = .ok (.ifCond .lt 9, 3) := by decide +kernel
theorem dX11_move_35 : decode cX11_move 35 = .ok (.iload_n 3, 1) := by decide +kernel
theorem dX11_move_36 : decode cX11_move 36 = .ok (.bipush 24, 2) := by decide +kernel
theorem dX11_move_38 : decode cX11_move 38 = .ok (.if_icmp .lt 5, 3) := by decide +kernel
theorem dX11_move_41 : decode cX11_move 41 = .ok (.iconst (-1), 1) := by decide +kernel
theorem dX11_move_42 : decode cX11_move 42 = .ok (.ireturn, 1) := by decide +kernel
theorem dX11_move_43 : decode cX11_move 43 = .ok (.bipush 24, 2) := by decide +kernel
theorem dX11_move_45 : decode cX11_move 45 = .ok (.aload_n 0, 1) := by decide +kernel
theorem dX11_move_46 : decode cX11_move 46 = .ok (.getfield 10, 3) := by decide +kernel
theorem dX11_move_49 : decode cX11_move 49 = .ok (.getfield 52, 3) := by decide +kernel
theorem dX11_move_52 : decode cX11_move 52 = .ok (.imul, 1) := by decide +kernel
theorem dX11_move_53 : decode cX11_move 53 = .ok (.iload_n 3, 1) := by decide +kernel
theorem dX11_move_54 : decode cX11_move 54 = .ok (.iadd, 1) := by decide +kernel
theorem dX11_move_55 : decode cX11_move 55 = .ok (.istore 5, 2) := by decide +kernel
theorem dX11_move_57 : decode cX11_move 57 = .ok (.aload 4, 2) := by decide +kernel
theorem dX11_move_59 : decode cX11_move 59 = .ok (.invokevirtual 137, 3) := by decide +kernel
theorem dX11_move_62 : decode cX11_move 62 = .ok (.ifCond .ne 29, 3) := by decide +kernel
theorem dX11_move_65 : decode cX11_move 65 = .ok (.aload_n 0, 1) := by decide +kernel
theorem dX11_move_66 : decode cX11_move 66 = .ok (.getfield 10, 3) := by decide +kernel
theorem dX11_move_69 : decode cX11_move 69 = .ok (.iload_n 1, 1) := by decide +kernel
theorem dX11_move_70 : decode cX11_move 70 = .ok (.iload 5, 2) := by decide +kernel
theorem dX11_move_72 : decode cX11_move 72 = .ok (.invokevirtual 140, 3) := by decide +kernel
theorem dX11_move_75 : decode cX11_move 75 = .ok (.ifCond .ne 16, 3) := by decide +kernel
theorem dX11_move_78 : decode cX11_move 78 = .ok (.aload_n 0, 1) := by decide +kernel
theorem dX11_move_79 : decode cX11_move 79 = .ok (.getfield 30, 3) := by decide +kernel
theorem dX11_move_82 : decode cX11_move 82 = .ok (.iload_n 1, 1) := by decide +kernel
theorem dX11_move_83 : decode cX11_move 83 = .ok (.iload 5, 2) := by decide +kernel
theorem dX11_move_85 : decode cX11_move 85 = .ok (.invokevirtual 143, 3) := by decide +kernel
theorem dX11_move_88 : decode cX11_move 88 = .ok (.ifCond .eq 6, 3) := by decide +kernel
theorem dX11_move_91 : decode cX11_move 91 = .ok (.bipush (-5), 2) := by decide +kernel
theorem dX11_move_93 : decode cX11_move 93 = .ok (.ireturn, 1) := by decide +kernel
theorem dX11_move_94 : decode cX11_move 94 = .ok (.aload_n 0, 1) := by decide +kernel
theorem dX11_move_95 : decode cX11_move 95 = .ok (.getfield 10, 3) := by decide +kernel
theorem dX11_move_98 : decode cX11_move 98 = .ok (.getfield 146, 3) := by decide +kernel
theorem dX11_move_101 : decode cX11_move 101 = .ok (.sipush 200, 3) := by decide +kernel
theorem dX11_move_104 : decode cX11_move 104 = .ok (.if_icmp .lt 6, 3) := by decide +kernel
theorem dX11_move_107 : decode cX11_move 107 = .ok (.bipush (-3), 2) := by decide +kernel
theorem dX11_move_109 : decode cX11_move 109 = .ok (.ireturn, 1) := by decide +kernel
theorem dX11_move_110 : decode cX11_move 110 = .ok (.aload_n 0, 1) := by decide +kernel
theorem dX11_move_111 : decode cX11_move 111 = .ok (.getfield 10, 3) := by decide +kernel
theorem dX11_move_114 : decode cX11_move 114 = .ok (.aload 4, 2) := by decide +kernel
theorem dX11_move_116 : decode cX11_move 116 = .ok (.iload_n 2, 1) := by decide +kernel
theorem dX11_move_117 : decode cX11_move 117 = .ok (.iload 5, 2) := by decide +kernel
theorem dX11_move_119 : decode cX11_move 119 = .ok (.invokevirtual 149, 3) := by decide +kernel
theorem dX11_move_122 : decode cX11_move 122 = .ok (.iconst 1, 1) := by decide +kernel
theorem dX11_move_123 : decode cX11_move 123 = .ok (.ireturn, 1) := by decide +kernel
theorem dX11_down_0 : decode cX11_down 0 = .ok (.aload_n 0, 1) := by decide +kernel
theorem dX11_down_1 : decode cX11_down 1 = .ok (.getfield 10, 3) := by decide +kernel
theorem dX11_down_4 : decode cX11_down 4 = .ok (.iload_n 1, 1) := by decide +kernel
theorem dX11_down_5 : decode cX11_down 5 = .ok (.invokevirtual 130, 3) := by decide +kernel
theorem dX11_down_8 : decode cX11_down 8 = .ok (.astore_n 2, 1) := by decide +kernel
theorem dX11_down_9 : decode cX11_down 9 = .ok (.aload_n 2, 1) := by decide +kernel
theorem dX11_down_10 : decode cX11_down 10 = .ok (.ifnonnull 5, 3) := by decide +kernel
theorem dX11_down_13 : decode cX11_down 13 = .ok (.iconst (-1), 1) := by decide +kernel
theorem dX11_down_14 : decode cX11_down 14 = .ok (.ireturn, 1) := by decide +kernel
theorem dX11_down_15 : decode cX11_down 15 = .ok (.aload_n 2, 1) := by decide +kernel
theorem dX11_down_16 : decode cX11_down 16 = .ok (.invokevirtual 137, 3) := by decide +kernel
theorem dX11_down_19 : decode cX11_down 19 = .ok (.ifCond .eq 6, 3) := by decide +kernel
theorem dX11_down_22 : decode cX11_down 22 = .ok (.bipush (-2), 2) := by decide +kernel
theorem dX11_down_24 : decode cX11_down 24 = .ok (.ireturn, 1) := by decide +kernel
theorem dX11_down_25 : decode cX11_down 25 = .ok (.aload_n 2, 1) := by decide +kernel
theorem dX11_down_26 : decode cX11_down 26 = .ok (.aload_n 0, 1) := by decide +kernel
theorem dX11_down_27 : decode cX11_down 27 = .ok (.getfield 10, 3) := by decide +kernel
theorem dX11_down_30 : decode cX11_down 30 = .ok (.getfield 52, 3) := by decide +kernel
theorem dX11_down_33 : decode cX11_down 33 = .ok (.putfield 153, 3) := by decide +kernel
theorem dX11_down_36 : decode cX11_down 36 = .ok (.iconst 1, 1) := by decide +kernel
theorem dX11_down_37 : decode cX11_down 37 = .ok (.ireturn, 1) := by decide +kernel
theorem dX11_ofBody_0 : decode cX11_ofBody 0 = .ok (.aload_n 0, 1) := by decide +kernel
theorem dX11_ofBody_1 : decode cX11_ofBody 1 = .ok (.getfield 10, 3) := by decide +kernel
theorem dX11_ofBody_4 : decode cX11_ofBody 4 = .ok (.iload_n 1, 1) := by decide +kernel
theorem dX11_ofBody_5 : decode cX11_ofBody 5 = .ok (.invokevirtual 156, 3) := by decide +kernel
theorem dX11_ofBody_8 : decode cX11_ofBody 8 = .ok (.astore_n 3, 1) := by decide +kernel
theorem dX11_ofBody_9 : decode cX11_ofBody 9 = .ok (.aload_n 3, 1) := by decide +kernel
theorem dX11_ofBody_10 : decode cX11_ofBody 10 = .ok (.ifnonnull 6, 3) := by decide +kernel
theorem dX11_ofBody_13 : decode cX11_ofBody 13 = .ok (.ldc 60, 2) := by decide +kernel
theorem dX11_ofBody_15 : decode cX11_ofBody 15 = .ok (.ireturn, 1) := by decide +kernel
theorem dX11_ofBody_16 : decode cX11_ofBody 16 = .ok (.iload_n 2, 1) := by decide +kernel
theorem dX11_ofBody_17 : decode cX11_ofBody 17 = .ok (.ifCond .ne 8, 3) := by decide +kernel
theorem dX11_ofBody_20 : decode cX11_ofBody 20 = .ok (.aload_n 3, 1) := by decide +kernel
theorem dX11_ofBody_21 : decode cX11_ofBody 21 = .ok (.getfield 160, 3) := by decide +kernel
theorem dX11_ofBody_24 : decode cX11_ofBody 24 = .ok (.ireturn, 1) := by decide +kernel
theorem dX11_ofBody_25 : decode cX11_ofBody 25 = .ok (.aload_n 3, 1) := by decide +kernel
theorem dX11_ofBody_26 : decode cX11_ofBody 26 = .ok (.instanceof 85, 3) := by decide +kernel
theorem dX11_ofBody_29 : decode cX11_ofBody 29 = .ok (.ifCond .eq 13, 3) := by decide +kernel
theorem dX11_ofBody_32 : decode cX11_ofBody 32 = .ok (.aload_n 0, 1) := by decide +kernel
theorem dX11_ofBody_33 : decode cX11_ofBody 33 = .ok (.aload_n 3, 1) := by decide +kernel
theorem dX11_ofBody_34 : decode cX11_ofBody 34 = .ok (.checkcast 85, 3) := by decide +kernel
theorem dX11_ofBody_37 : decode cX11_ofBody 37 = .ok (.iload_n 2, 1) := by decide +kernel
theorem dX11_ofBody_38 : decode cX11_ofBody 38 = .ok (.invokevirtual 161, 3) := by decide +kernel
theorem dX11_ofBody_41 : decode cX11_ofBody 41 = .ok (.ireturn, 1) := by decide +kernel
theorem dX11_ofBody_42 : decode cX11_ofBody 42 = .ok (.aload_n 3, 1) := by decide +kernel
theorem dX11_ofBody_43 : decode cX11_ofBody 43 = .ok (.instanceof 118, 3) := by decide +kernel
theorem dX11_ofBody_46 : decode cX11_ofBody 46 = .ok (.ifCond .eq 12, 3) := by decide +kernel
theorem dX11_ofBody_49 : decode cX11_ofBody 49 = .ok (.aload_n 3, 1) := by decide +kernel
theorem dX11_ofBody_50 : decode cX11_ofBody 50 = .ok (.checkcast 118, 3) := by decide +kernel
theorem dX11_ofBody_53 : decode cX11_ofBody 53 = .ok (.iload_n 2, 1) := by decide +kernel
theorem dX11_ofBody_54 : decode cX11_ofBody 54 = .ok (.invokestatic 165, 3) := by decide +kernel
theorem dX11_ofBody_57 : decode cX11_ofBody 57 = .ok (.ireturn, 1) := by decide +kernel
theorem dX11_ofBody_58 : decode cX11_ofBody 58 = .ok (.aload_n 3, 1) := by decide +kernel
theorem dX11_ofBody_59 : decode cX11_ofBody 59 = .ok (.instanceof 68, 3) := by decide +kernel
theorem dX11_ofBody_62 : decode cX11_ofBody 62 = .ok (.ifCond .eq 13, 3) := by decide +kernel
theorem dX11_ofBody_65 : decode cX11_ofBody 65 = .ok (.aload_n 0, 1) := by decide +kernel
theorem dX11_ofBody_66 : decode cX11_ofBody 66 = .ok (.aload_n 3, 1) := by decide +kernel
theorem dX11_ofBody_67 : decode cX11_ofBody 67 = .ok (.checkcast 68, 3) := by decide +kernel
theorem dX11_ofBody_70 : decode cX11_ofBody 70 = .ok (.iload_n 2, 1) := by decide +kernel
theorem dX11_ofBody_71 : decode cX11_ofBody 71 = .ok (.invokevirtual 169, 3) := by decide +kernel
theorem dX11_ofBody_74 : decode cX11_ofBody 74 = .ok (.ireturn, 1) := by decide +kernel
theorem dX11_ofBody_75 : decode cX11_ofBody 75 = .ok (.ldc 60, 2) := by decide +kernel
theorem dX11_ofBody_77 : decode cX11_ofBody 77 = .ok (.ireturn, 1) := by decide +kernel
theorem dX11_liesAt_0 : decode cX11_liesAt 0 = .ok (.aload_n 0, 1) := by decide +kernel
theorem dX11_liesAt_1 : decode cX11_liesAt 1 = .ok (.getfield 10, 3) := by decide +kernel
theorem dX11_liesAt_4 : decode cX11_liesAt 4 = .ok (.iload_n 1, 1) := by decide +kernel
theorem dX11_liesAt_5 : decode cX11_liesAt 5 = .ok (.invokevirtual 130, 3) := by decide +kernel
theorem dX11_liesAt_8 : decode cX11_liesAt 8 = .ok (.astore 4, 2) := by decide +kernel
theorem dX11_liesAt_10 : decode cX11_liesAt 10 = .ok (.aload 4, 2) := by decide +kernel
theorem dX11_liesAt_12 : decode cX11_liesAt 12 = .ok (.ifnull 20, 3) := by decide +kernel
theorem dX11_liesAt_15 : decode cX11_liesAt 15 = .ok (.iload_n 2, 1) := by decide +kernel
theorem dX11_liesAt_16 : decode cX11_liesAt 16 = .ok (.invokestatic 173, 3) := by decide +kernel
theorem dX11_liesAt_19 : decode cX11_liesAt 19 = .ok (.ifCond .eq 13, 3) := by decide +kernel
theorem dX11_liesAt_22 : decode cX11_liesAt 22 = .ok (.iload_n 3, 1) := by decide +kernel
theorem dX11_liesAt_23 : decode cX11_liesAt 23 = .ok (.ifCond .lt 9, 3) := by decide +kernel
theorem dX11_liesAt_26 : decode cX11_liesAt 26 = .ok (.iload_n 3, 1) := by decide +kernel
theorem dX11_liesAt_27 : decode cX11_liesAt 27 = .ok (.bipush 24, 2) := by decide +kernel
theorem dX11_liesAt_29 : decode cX11_liesAt 29 = .ok (.if_icmp .lt 5, 3) := by decide +kernel
theorem dX11_liesAt_32 : decode cX11_liesAt 32 = .ok (.iconst (-1), 1) := by decide +kernel
theorem dX11_liesAt_33 : decode cX11_liesAt 33 = .ok (.ireturn, 1) := by decide +kernel
theorem dX11_liesAt_34 : decode cX11_liesAt 34 = .ok (.aload_n 0, 1) := by decide +kernel
theorem dX11_liesAt_35 : decode cX11_liesAt 35 = .ok (.getfield 10, 3) := by decide +kernel
theorem dX11_liesAt_38 : decode cX11_liesAt 38 = .ok (.aload 4, 2) := by decide +kernel
theorem dX11_liesAt_40 : decode cX11_liesAt 40 = .ok (.bipush 24, 2) := by decide +kernel
theorem dX11_liesAt_42 : decode cX11_liesAt 42 = .ok (.iload_n 2, 1) := by decide +kernel
theorem dX11_liesAt_43 : decode cX11_liesAt 43 = .ok (.imul, 1) := by decide +kernel
theorem dX11_liesAt_44 : decode cX11_liesAt 44 = .ok (.iload_n 3, 1) := by decide +kernel
theorem dX11_liesAt_45 : decode cX11_liesAt 45 = .ok (.iadd, 1) := by decide +kernel
theorem dX11_liesAt_46 : decode cX11_liesAt 46 = .ok (.invokevirtual 176, 3) := by decide +kernel
theorem dX11_liesAt_49 : decode cX11_liesAt 49 = .ok (.istore 5, 2) := by decide +kernel
theorem dX11_liesAt_51 : decode cX11_liesAt 51 = .ok (.iload 5, 2) := by decide +kernel
theorem dX11_liesAt_53 : decode cX11_liesAt 53 = .ok (.ifCond .ge 8, 3) := by decide +kernel
theorem dX11_liesAt_56 : decode cX11_liesAt 56 = .ok (.bipush (-2), 2) := by decide +kernel
theorem dX11_liesAt_58 : decode cX11_liesAt 58 = .ok (.goto 5, 3) := by decide +kernel
theorem dX11_liesAt_61 : decode cX11_liesAt 61 = .ok (.iload 5, 2) := by decide +kernel
theorem dX11_liesAt_63 : decode cX11_liesAt 63 = .ok (.ireturn, 1) := by decide +kernel
theorem dX11_feed_0 : decode cX11_feed 0 = .ok (.iload_n 1, 1) := by decide +kernel
theorem dX11_feed_1 : decode cX11_feed 1 = .ok (.iconst 1, 1) := by decide +kernel
theorem dX11_feed_2 : decode cX11_feed 2 = .ok (.if_icmp .lt 8, 3) := by decide +kernel
theorem dX11_feed_5 : decode cX11_feed 5 = .ok (.iload_n 1, 1) := by decide +kernel
theorem dX11_feed_6 : decode cX11_feed 6 = .ok (.iconst 4, 1) := by decide +kernel
theorem dX11_feed_7 : decode cX11_feed 7 = .ok (.if_icmp .le 5, 3) := by decide +kernel
theorem dX11_feed_10 : decode cX11_feed 10 = .ok (.iconst (-1), 1) := by decide +kernel
theorem dX11_feed_11 : decode cX11_feed 11 = .ok (.ireturn, 1) := by decide +kernel
theorem dX11_feed_12 : decode cX11_feed 12 = .ok (.aload_n 0, 1) := by decide +kernel
theorem dX11_feed_13 : decode cX11_feed 13 = .ok (.getfield 21, 3) := by decide +kernel
theorem dX11_feed_16 : decode cX11_feed 16 = .ok (.getfield 179, 3) := by decide +kernel
theorem dX11_feed_19 : decode cX11_feed 19 = .ok (.iload_n 1, 1) := by decide +kernel
theorem dX11_feed_20 : decode cX11_feed 20 = .ok (.invokevirtual 183, 3) := by decide +kernel
theorem dX11_feed_23 : decode cX11_feed 23 = .ok (.ifCond .ne 6, 3) := by decide +kernel
theorem dX11_feed_26 : decode cX11_feed 26 = .ok (.bipush (-3), 2) := by decide +kernel
theorem dX11_feed_28 : decode cX11_feed 28 = .ok (.ireturn, 1) := by decide +kernel
theorem dX11_feed_29 : decode cX11_feed 29 = .ok (.iconst 0, 1) := by decide +kernel
theorem dX11_feed_30 : decode cX11_feed 30 = .ok (.istore_n 3, 1) := by decide +kernel
theorem dX11_feed_31 : decode cX11_feed 31 = .ok (.iload_n 3, 1) := by decide +kernel
theorem dX11_feed_32 : decode cX11_feed 32 = .ok (.iload_n 1, 1) := by decide +kernel
theorem dX11_feed_33 : decode cX11_feed 33 = .ok (.if_icmp .ge 29, 3) := by decide +kernel
theorem dX11_feed_36 : decode cX11_feed 36 = .ok (.aload_n 0, 1) := by decide +kernel
theorem dX11_feed_37 : decode cX11_feed 37 = .ok (.getfield 21, 3) := by decide +kernel
theorem dX11_feed_40 : decode cX11_feed 40 = .ok (.getfield 179, 3) := by decide +kernel
theorem dX11_feed_43 : decode cX11_feed 43 = .ok (.iload_n 2, 1) := by decide +kernel
theorem dX11_feed_44 : decode cX11_feed 44 = .ok (.bipush 8, 2) := by decide +kernel
theorem dX11_feed_46 : decode cX11_feed 46 = .ok (.iload_n 3, 1) := by decide +kernel
theorem dX11_feed_47 : decode cX11_feed 47 = .ok (.imul, 1) := by decide +kernel
theorem dX11_feed_48 : decode cX11_feed 48 = .ok (.ishr, 1) := by decide +kernel
theorem dX11_feed_49 : decode cX11_feed 49 = .ok (.sipush 255, 3) := by decide +kernel
theorem dX11_feed_52 : decode cX11_feed 52 = .ok (.iand, 1) := by decide +kernel
theorem dX11_feed_53 : decode cX11_feed 53 = .ok (.invokevirtual 188, 3) := by decide +kernel
theorem dX11_feed_56 : decode cX11_feed 56 = .ok (.iinc 3 1, 3) := by decide +kernel
theorem dX11_feed_59 : decode cX11_feed 59 = .ok (.goto (-28), 3) := by decide +kernel
theorem dX11_feed_62 : decode cX11_feed 62 = .ok (.aload_n 0, 1) := by decide +kernel
theorem dX11_feed_63 : decode cX11_feed 63 = .ok (.getfield 21, 3) := by decide +kernel
theorem dX11_feed_66 : decode cX11_feed 66 = .ok (.getfield 179, 3) := by decide +kernel
theorem dX11_feed_69 : decode cX11_feed 69 = .ok (.getfield 191, 3) := by decide +kernel
theorem dX11_feed_72 : decode cX11_feed 72 = .ok (.ireturn, 1) := by decide +kernel
theorem dX11_rule_0 : decode cX11_rule 0 = .ok (.iload_n 1, 1) := by decide +kernel
theorem dX11_rule_1 : decode cX11_rule 1 = .ok (.invokestatic 194, 3) := by decide +kernel
theorem dX11_rule_4 : decode cX11_rule 4 = .ok (.ifCond .eq 10, 3) := by decide +kernel
theorem dX11_rule_7 : decode cX11_rule 7 = .ok (.iload_n 2, 1) := by decide +kernel
theorem dX11_rule_8 : decode cX11_rule 8 = .ok (.invokestatic 173, 3) := by decide +kernel
theorem dX11_rule_11 : decode cX11_rule 11 = .ok (.ifCond .ne 5, 3) := by decide +kernel
theorem dX11_rule_14 : decode cX11_rule 14 = .ok (.iconst (-1), 1) := by decide +kernel
theorem dX11_rule_15 : decode cX11_rule 15 = .ok (.ireturn, 1) := by decide +kernel
theorem dX11_rule_16 : decode cX11_rule 16 = .ok (.aload_n 0, 1) := by decide +kernel
theorem dX11_rule_17 : decode cX11_rule 17 = .ok (.getfield 21, 3) := by decide +kernel
theorem dX11_rule_20 : decode cX11_rule 20 = .ok (.invokevirtual 197, 3) := by decide +kernel
theorem dX11_rule_23 : decode cX11_rule 23 = .ok (.ifCond .eq 6, 3) := by decide +kernel
theorem dX11_rule_26 : decode cX11_rule 26 = .ok (.bipush (-3), 2) := by decide +kernel
theorem dX11_rule_28 : decode cX11_rule 28 = .ok (.ireturn, 1) := by decide +kernel
theorem dX11_rule_29 : decode cX11_rule 29 = .ok (.aload_n 0, 1) := by decide +kernel
theorem dX11_rule_30 : decode cX11_rule 30 = .ok (.getfield 21, 3) := by decide +kernel
theorem dX11_rule_33 : decode cX11_rule 33 = .ok (.iload_n 1, 1) := by decide +kernel
theorem dX11_rule_34 : decode cX11_rule 34 = .ok (.iload_n 2, 1) := by decide +kernel
theorem dX11_rule_35 : decode cX11_rule 35 = .ok (.invokevirtual 198, 3) := by decide +kernel
theorem dX11_rule_38 : decode cX11_rule 38 = .ok (.ireturn, 1) := by decide +kernel
theorem dX11_inForce_0 : decode cX11_inForce 0 = .ok (.iload_n 1, 1) := by decide +kernel
theorem dX11_inForce_1 : decode cX11_inForce 1 = .ok (.invokestatic 194, 3) := by decide +kernel
theorem dX11_inForce_4 : decode cX11_inForce 4 = .ok (.ifCond .eq 17, 3) := by decide +kernel
theorem dX11_inForce_7 : decode cX11_inForce 7 = .ok (.iload_n 2, 1) := by decide +kernel
theorem dX11_inForce_8 : decode cX11_inForce 8 = .ok (.invokestatic 173, 3) := by decide +kernel
theorem dX11_inForce_11 : decode cX11_inForce 11 = .ok (.ifCond .eq 10, 3) := by decide +kernel
theorem dX11_inForce_14 : decode cX11_inForce 14 = .ok (.iload_n 3, 1) := by decide +kernel
theorem dX11_inForce_15 : decode cX11_inForce 15 = .ok (.invokestatic 173, 3) := by decide +kernel
theorem dX11_inForce_18 : decode cX11_inForce 18 = .ok (.ifCond .ne 5, 3) := by decide +kernel
theorem dX11_inForce_21 : decode cX11_inForce 21 = .ok (.iconst (-1), 1) := by decide +kernel
theorem dX11_inForce_22 : decode cX11_inForce 22 = .ok (.ireturn, 1) := by decide +kernel
theorem dX11_inForce_23 : decode cX11_inForce 23 = .ok (.aload_n 0, 1) := by decide +kernel
theorem dX11_inForce_24 : decode cX11_inForce 24 = .ok (.getfield 21, 3) := by decide +kernel
theorem dX11_inForce_27 : decode cX11_inForce 27 = .ok (.iload_n 1, 1) := by decide +kernel
theorem dX11_inForce_28 : decode cX11_inForce 28 = .ok (.iload_n 2, 1) := by decide +kernel
theorem dX11_inForce_29 : decode cX11_inForce 29 = .ok (.iload_n 3, 1) := by decide +kernel
theorem dX11_inForce_30 : decode cX11_inForce 30 = .ok (.invokevirtual 202, 3) := by decide +kernel
theorem dX11_inForce_33 : decode cX11_inForce 33 = .ok (.istore 4, 2) := by decide +kernel
theorem dX11_inForce_35 : decode cX11_inForce 35 = .ok (.iload 4, 2) := by decide +kernel
theorem dX11_inForce_37 : decode cX11_inForce 37 = .ok (.ifCond .ge 8, 3) := by decide +kernel
theorem dX11_inForce_40 : decode cX11_inForce 40 = .ok (.bipush (-2), 2) := by decide +kernel
theorem dX11_inForce_42 : decode cX11_inForce 42 = .ok (.goto 5, 3) := by decide +kernel
theorem dX11_inForce_45 : decode cX11_inForce 45 = .ok (.iload 4, 2) := by decide +kernel
theorem dX11_inForce_47 : decode cX11_inForce 47 = .ok (.ireturn, 1) := by decide +kernel
theorem dX11_says_0 : decode cX11_says 0 = .ok (.iload 4, 2) := by decide +kernel
theorem dX11_says_2 : decode cX11_says 2 = .ok (.ifCond .lt 19, 3) := by decide +kernel
theorem dX11_says_5 : decode cX11_says 5 = .ok (.iload 4, 2) := by decide +kernel
theorem dX11_says_7 : decode cX11_says 7 = .ok (.iconst 1, 1) := by decide +kernel
theorem dX11_says_8 : decode cX11_says 8 = .ok (.if_icmp .gt 13, 3) := by decide +kernel
theorem dX11_says_11 : decode cX11_says 11 = .ok (.aload_n 0, 1) := by decide +kernel
theorem dX11_says_12 : decode cX11_says 12 = .ok (.iload_n 1, 1) := by decide +kernel
theorem dX11_says_13 : decode cX11_says 13 = .ok (.iload_n 2, 1) := by decide +kernel
theorem dX11_says_14 : decode cX11_says 14 = .ok (.iload_n 3, 1) := by decide +kernel
theorem dX11_says_15 : decode cX11_says 15 = .ok (.invokevirtual 206, 3) := by decide +kernel
theorem dX11_says_18 : decode cX11_says 18 = .ok (.ifCond .ne 6, 3) := by decide +kernel
theorem dX11_says_21 : decode cX11_says 21 = .ok (.ldc 60, 2) := by decide +kernel
theorem dX11_says_23 : decode cX11_says 23 = .ok (.ireturn, 1) := by decide +kernel
theorem dX11_says_24 : decode cX11_says 24 = .ok (.iload_n 1, 1) := by decide +kernel
theorem dX11_says_25 : decode cX11_says 25 = .ok (.iconst 1, 1) := by decide +kernel
theorem dX11_says_26 : decode cX11_says 26 = .ok (.if_icmp .ne 30, 3) := by decide +kernel
theorem dX11_says_29 : decode cX11_says 29 = .ok (.aload_n 0, 1) := by decide +kernel
theorem dX11_says_30 : decode cX11_says 30 = .ok (.getfield 21, 3) := by decide +kernel
theorem dX11_says_33 : decode cX11_says 33 = .ok (.aload_n 0, 1) := by decide +kernel
theorem dX11_says_34 : decode cX11_says 34 = .ok (.getfield 10, 3) := by decide +kernel
theorem dX11_says_37 : decode cX11_says 37 = .ok (.getfield 52, 3) := by decide +kernel
theorem dX11_says_40 : decode cX11_says 40 = .ok (.aload_n 0, 1) := by decide +kernel
theorem dX11_says_41 : decode cX11_says 41 = .ok (.getfield 10, 3) := by decide +kernel
theorem dX11_says_44 : decode cX11_says 44 = .ok (.iload_n 2, 1) := by decide +kernel
theorem dX11_says_45 : decode cX11_says 45 = .ok (.invokevirtual 90, 3) := by decide +kernel
theorem dX11_says_48 : decode cX11_says 48 = .ok (.iload_n 3, 1) := by decide +kernel
theorem dX11_says_49 : decode cX11_says 49 = .ok (.iconst (-1), 1) := by decide +kernel
theorem dX11_says_50 : decode cX11_says 50 = .ok (.invokevirtual 210, 3) := by decide +kernel
theorem dX11_says_53 : decode cX11_says 53 = .ok (.goto 34, 3) := by decide +kernel
theorem dX11_says_56 : decode cX11_says 56 = .ok (.aload_n 0, 1) := by decide +kernel
theorem dX11_says_57 : decode cX11_says 57 = .ok (.getfield 21, 3) := by decide +kernel
theorem dX11_says_60 : decode cX11_says 60 = .ok (.aload_n 0, 1) := by decide +kernel
theorem dX11_says_61 : decode cX11_says 61 = .ok (.getfield 10, 3) := by decide +kernel
theorem dX11_says_64 : decode cX11_says 64 = .ok (.getfield 52, 3) := by decide +kernel
theorem dX11_says_67 : decode cX11_says 67 = .ok (.aload_n 0, 1) := by decide +kernel
theorem dX11_says_68 : decode cX11_says 68 = .ok (.getfield 10, 3) := by decide +kernel
theorem dX11_says_71 : decode cX11_says 71 = .ok (.iload_n 2, 1) := by decide +kernel
theorem dX11_says_72 : decode cX11_says 72 = .ok (.invokevirtual 90, 3) := by decide +kernel
theorem dX11_says_75 : decode cX11_says 75 = .ok (.aload_n 0, 1) := by decide +kernel
theorem dX11_says_76 : decode cX11_says 76 = .ok (.getfield 10, 3) := by decide +kernel
theorem dX11_says_79 : decode cX11_says 79 = .ok (.iload_n 3, 1) := by decide +kernel
theorem dX11_says_80 : decode cX11_says 80 = .ok (.invokevirtual 130, 3) := by decide +kernel
theorem dX11_says_83 : decode cX11_says 83 = .ok (.iconst 0, 1) := by decide +kernel
theorem dX11_says_84 : decode cX11_says 84 = .ok (.invokevirtual 214, 3) := by decide +kernel
theorem dX11_says_87 : decode cX11_says 87 = .ok (.aload_n 0, 1) := by decide +kernel
theorem dX11_says_88 : decode cX11_says 88 = .ok (.getfield 21, 3) := by decide +kernel
theorem dX11_says_91 : decode cX11_says 91 = .ok (.iload_n 1, 1) := by decide +kernel
theorem dX11_says_92 : decode cX11_says 92 = .ok (.aload_n 0, 1) := by decide +kernel
theorem dX11_says_93 : decode cX11_says 93 = .ok (.getfield 10, 3) := by decide +kernel
theorem dX11_says_96 : decode cX11_says 96 = .ok (.getfield 52, 3) := by decide +kernel
theorem dX11_says_99 : decode cX11_says 99 = .ok (.invokevirtual 218, 3) := by decide +kernel
theorem dX11_says_102 : decode cX11_says 102 = .ok (.istore 5, 2) := by decide +kernel
theorem dX11_says_104 : decode cX11_says 104 = .ok (.iload 4, 2) := by decide +kernel
theorem dX11_says_106 : decode cX11_says 106 = .ok (.ifCond .ne 8, 3) := by decide +kernel
theorem dX11_says_109 : decode cX11_says 109 = .ok (.iload 5, 2) := by decide +kernel
theorem dX11_says_111 : decode cX11_says 111 = .ok (.goto 10, 3) := by decide +kernel
theorem dX11_says_114 : decode cX11_says 114 = .ok (.aload_n 0, 1) := by decide +kernel
theorem dX11_says_115 : decode cX11_says 115 = .ok (.getfield 21, 3) := by decide +kernel
theorem dX11_says_118 : decode cX11_says 118 = .ok (.getfield 221, 3) := by decide +kernel
theorem dX11_says_121 : decode cX11_says 121 = .ok (.ireturn, 1) := by decide +kernel
theorem dX11_nearest_0 : decode cX11_nearest 0 = .ok (.aload_n 0, 1) := by decide +kernel
theorem dX11_nearest_1 : decode cX11_nearest 1 = .ok (.getfield 10, 3) := by decide +kernel
theorem dX11_nearest_4 : decode cX11_nearest 4 = .ok (.iload_n 1, 1) := by decide +kernel
theorem dX11_nearest_5 : decode cX11_nearest 5 = .ok (.invokevirtual 90, 3) := by decide +kernel
theorem dX11_nearest_8 : decode cX11_nearest 8 = .ok (.astore_n 3, 1) := by decide +kernel
theorem dX11_nearest_9 : decode cX11_nearest 9 = .ok (.aload_n 3, 1) := by decide +kernel
theorem dX11_nearest_10 : decode cX11_nearest 10 = .ok (.ifnull 10, 3) := by decide +kernel
theorem dX11_nearest_13 : decode cX11_nearest 13 = .ok (.iload_n 2, 1) := by decide +kernel
theorem dX11_nearest_14 : decode cX11_nearest 14 = .ok (.invokestatic 56, 3) := by decide +kernel
theorem dX11_nearest_17 : decode cX11_nearest 17 = .ok (.ifCond .ne 5, 3) := by decide +kernel
theorem dX11_nearest_20 : decode cX11_nearest 20 = .ok (.iconst (-1), 1) := by decide +kernel
theorem dX11_nearest_21 : decode cX11_nearest 21 = .ok (.ireturn, 1) := by decide +kernel
theorem dX11_nearest_22 : decode cX11_nearest 22 = .ok (.bipush (-2), 2) := by decide +kernel
theorem dX11_nearest_24 : decode cX11_nearest 24 = .ok (.istore 4, 2) := by decide +kernel
theorem dX11_nearest_26 : decode cX11_nearest 26 = .ok (.iconst 0, 1) := by decide +kernel
theorem dX11_nearest_27 : decode cX11_nearest 27 = .ok (.istore 5, 2) := by decide +kernel
theorem dX11_nearest_29 : decode cX11_nearest 29 = .ok (.iload 5, 2) := by decide +kernel
theorem dX11_nearest_31 : decode cX11_nearest 31 = .ok (.aload_n 0, 1) := by decide +kernel
theorem dX11_nearest_32 : decode cX11_nearest 32 = .ok (.getfield 10, 3) := by decide +kernel
theorem dX11_nearest_35 : decode cX11_nearest 35 = .ok (.getfield 70, 3) := by decide +kernel
theorem dX11_nearest_38 : decode cX11_nearest 38 = .ok (.if_icmp .ge 78, 3) := by decide +kernel
theorem dX11_nearest_41 : decode cX11_nearest 41 = .ok (.aload_n 0, 1) := by decide +kernel
theorem dX11_nearest_42 : decode cX11_nearest 42 = .ok (.getfield 10, 3) := by decide +kernel
theorem dX11_nearest_45 : decode cX11_nearest 45 = .ok (.iload 5, 2) := by decide +kernel
theorem dX11_nearest_47 : decode cX11_nearest 47 = .ok (.invokevirtual 130, 3) := by decide +kernel
theorem dX11_nearest_50 : decode cX11_nearest 50 = .ok (.astore 6, 2) := by decide +kernel
theorem dX11_nearest_52 : decode cX11_nearest 52 = .ok (.aload 6, 2) := by decide +kernel
theorem dX11_nearest_54 : decode cX11_nearest 54 = .ok (.ifnull 56, 3) := by decide +kernel
theorem dX11_nearest_57 : decode cX11_nearest 57 = .ok (.aload 6, 2) := by decide +kernel
theorem dX11_nearest_59 : decode cX11_nearest 59 = .ok (.invokevirtual 137, 3) := by decide +kernel
theorem dX11_nearest_62 : decode cX11_nearest 62 = .ok (.ifCond .ne 48, 3) := by decide +kernel
theorem dX11_nearest_65 : decode cX11_nearest 65 = .ok (.aload_n 0, 1) := by decide +kernel
theorem dX11_nearest_66 : decode cX11_nearest 66 = .ok (.getfield 21, 3) := by decide +kernel
theorem dX11_nearest_69 : decode cX11_nearest 69 = .ok (.aload_n 3, 1) := by decide +kernel
theorem dX11_nearest_70 : decode cX11_nearest 70 = .ok (.aload 6, 2) := by decide +kernel
theorem dX11_nearest_72 : decode cX11_nearest 72 = .ok (.invokevirtual 224, 3) := by decide +kernel
theorem dX11_nearest_75 : decode cX11_nearest 75 = .ok (.ifCond .eq 35, 3) := by decide +kernel
theorem dX11_nearest_78 : decode cX11_nearest 78 = .ok (.iload_n 2, 1) := by decide +kernel
theorem dX11_nearest_79 : decode cX11_nearest 79 = .ok (.aload 6, 2) := by decide +kernel
theorem dX11_nearest_81 : decode cX11_nearest 81 = .ok (.getfield 228, 3) := by decide +kernel
theorem dX11_nearest_84 : decode cX11_nearest 84 = .ok (.invokestatic 231, 3) := by decide +kernel
theorem dX11_nearest_87 : decode cX11_nearest 87 = .ok (.istore 7, 2) := by decide +kernel
theorem dX11_nearest_89 : decode cX11_nearest 89 = .ok (.iload 4, 2) := by decide +kernel
theorem dX11_nearest_91 : decode cX11_nearest 91 = .ok (.ifCond .lt 10, 3) := by decide +kernel
theorem dX11_nearest_94 : decode cX11_nearest 94 = .ok (.iload 7, 2) := by decide +kernel
theorem dX11_nearest_96 : decode cX11_nearest 96 = .ok (.iload 4, 2) := by decide +kernel
theorem dX11_nearest_98 : decode cX11_nearest 98 = .ok (.if_icmp .ge 8, 3) := by decide +kernel
theorem dX11_nearest_101 : decode cX11_nearest 101 = .ok (.iload 7, 2) := by decide +kernel
theorem dX11_nearest_103 : decode cX11_nearest 103 = .ok (.goto 5, 3) := by decide +kernel
theorem dX11_nearest_106 : decode cX11_nearest 106 = .ok (.iload 4, 2) := by decide +kernel
theorem dX11_nearest_108 : decode cX11_nearest 108 = .ok (.istore 4, 2) := by decide +kernel
theorem dX11_nearest_110 : decode cX11_nearest 110 = .ok (.iinc 5 1, 3) := by decide +kernel
theorem dX11_nearest_113 : decode cX11_nearest 113 = .ok (.goto (-84), 3) := by decide +kernel
theorem dX11_nearest_116 : decode cX11_nearest 116 = .ok (.iload 4, 2) := by decide +kernel
theorem dX11_nearest_118 : decode cX11_nearest 118 = .ok (.ireturn, 1) := by decide +kernel
theorem dX11_riddle_0 : decode cX11_riddle 0 = .ok (.aload_n 0, 1) := by decide +kernel
theorem dX11_riddle_1 : decode cX11_riddle 1 = .ok (.iload_n 1, 1) := by decide +kernel
theorem dX11_riddle_2 : decode cX11_riddle 2 = .ok (.invokevirtual 234, 3) := by decide +kernel
theorem dX11_riddle_5 : decode cX11_riddle 5 = .ok (.astore 5, 2) := by decide +kernel
theorem dX11_riddle_7 : decode cX11_riddle 7 = .ok (.aload_n 0, 1) := by decide +kernel
theorem dX11_riddle_8 : decode cX11_riddle 8 = .ok (.iload_n 2, 1) := by decide +kernel
theorem dX11_riddle_9 : decode cX11_riddle 9 = .ok (.invokevirtual 238, 3) := by decide +kernel
theorem dX11_riddle_12 : decode cX11_riddle 12 = .ok (.astore 6, 2) := by decide +kernel
theorem dX11_riddle_14 : decode cX11_riddle 14 = .ok (.aload 5, 2) := by decide +kernel
theorem dX11_riddle_16 : decode cX11_riddle 16 = .ok (.ifnull 21, 3) := by decide +kernel
theorem dX11_riddle_19 : decode cX11_riddle 19 = .ok (.aload 6, 2) := by decide +kernel
theorem dX11_riddle_21 : decode cX11_riddle 21 = .ok (.ifnull 16, 3) := by decide +kernel
theorem dX11_riddle_24 : decode cX11_riddle 24 = .ok (.iload 4, 2) := by decide +kernel
theorem dX11_riddle_26 : decode cX11_riddle 26 = .ok (.iconst 1, 1) := by decide +kernel
theorem dX11_riddle_27 : decode cX11_riddle 27 = .ok (.if_icmp .lt 10, 3) := by decide +kernel
theorem dX11_riddle_30 : decode cX11_riddle 30 = .ok (.iload 4, 2) := by decide +kernel
theorem dX11_riddle_32 : decode cX11_riddle 32 = .ok (.bipush 8, 2) := by decide +kernel
theorem dX11_riddle_34 : decode cX11_riddle 34 = .ok (.if_icmp .le 5, 3) := by decide +kernel
theorem dX11_riddle_37 : decode cX11_riddle 37 = .ok (.iconst (-1), 1) := by decide +kernel
theorem dX11_riddle_38 : decode cX11_riddle 38 = .ok (.ireturn, 1) := by decide +kernel
theorem dX11_riddle_39 : decode cX11_riddle 39 = .ok (.aload 6, 2) := by decide +kernel
theorem dX11_riddle_41 : decode cX11_riddle 41 = .ok (.invokevirtual 244, 3) := by decide +kernel
theorem dX11_riddle_44 : decode cX11_riddle 44 = .ok (.ifCond .ne 15, 3) := by decide +kernel
theorem dX11_riddle_47 : decode cX11_riddle 47 = .ok (.aload 6, 2) := by decide +kernel
theorem dX11_riddle_49 : decode cX11_riddle 49 = .ok (.iconst 0, 1) := by decide +kernel
theorem dX11_riddle_50 : decode cX11_riddle 50 = .ok (.invokevirtual 247, 3) := by decide +kernel
theorem dX11_riddle_53 : decode cX11_riddle 53 = .ok (.ifCond .ne 6, 3) := by decide +kernel
theorem dX11_riddle_56 : decode cX11_riddle 56 = .ok (.bipush (-12), 2) := by decide +kernel
theorem dX11_riddle_58 : decode cX11_riddle 58 = .ok (.ireturn, 1) := by decide +kernel
theorem dX11_riddle_59 : decode cX11_riddle 59 = .ok (.aload 5, 2) := by decide +kernel
theorem dX11_riddle_61 : decode cX11_riddle 61 = .ok (.aload 6, 2) := by decide +kernel
theorem dX11_riddle_63 : decode cX11_riddle 63 = .ok (.iload_n 3, 1) := by decide +kernel
theorem dX11_riddle_64 : decode cX11_riddle 64 = .ok (.iload 4, 2) := by decide +kernel
theorem dX11_riddle_66 : decode cX11_riddle 66 = .ok (.invokevirtual 250, 3) := by decide +kernel
theorem dX11_riddle_69 : decode cX11_riddle 69 = .ok (.ireturn, 1) := by decide +kernel
theorem dX11_solve_0 : decode cX11_solve 0 = .ok (.aload_n 0, 1) := by decide +kernel
theorem dX11_solve_1 : decode cX11_solve 1 = .ok (.iload_n 1, 1) := by decide +kernel
theorem dX11_solve_2 : decode cX11_solve 2 = .ok (.invokevirtual 234, 3) := by decide +kernel
theorem dX11_solve_5 : decode cX11_solve 5 = .ok (.astore_n 3, 1) := by decide +kernel
theorem dX11_solve_6 : decode cX11_solve 6 = .ok (.aload_n 3, 1) := by decide +kernel
theorem dX11_solve_7 : decode cX11_solve 7 = .ok (.ifnull 8, 3) := by decide +kernel
theorem dX11_solve_10 : decode cX11_solve 10 = .ok (.iload_n 2, 1) := by decide +kernel
theorem dX11_solve_11 : decode cX11_solve 11 = .ok (.iconst (-1), 1) := by decide +kernel
theorem dX11_solve_12 : decode cX11_solve 12 = .ok (.if_icmp .ge 5, 3) := by decide +kernel
theorem dX11_solve_15 : decode cX11_solve 15 = .ok (.iconst (-1), 1) := by decide +kernel
theorem dX11_solve_16 : decode cX11_solve 16 = .ok (.ireturn, 1) := by decide +kernel
theorem dX11_solve_17 : decode cX11_solve 17 = .ok (.aload_n 3, 1) := by decide +kernel
theorem dX11_solve_18 : decode cX11_solve 18 = .ok (.invokevirtual 254, 3) := by decide +kernel
theorem dX11_solve_21 : decode cX11_solve 21 = .ok (.ifCond .ne 6, 3) := by decide +kernel
theorem dX11_solve_24 : decode cX11_solve 24 = .ok (.bipush (-2), 2) := by decide +kernel
theorem dX11_solve_26 : decode cX11_solve 26 = .ok (.ireturn, 1) := by decide +kernel
theorem dX11_solve_27 : decode cX11_solve 27 = .ok (.iload_n 2, 1) := by decide +kernel
theorem dX11_solve_28 : decode cX11_solve 28 = .ok (.iconst (-1), 1) := by decide +kernel
theorem dX11_solve_29 : decode cX11_solve 29 = .ok (.if_icmp .ne 8, 3) := by decide +kernel
theorem dX11_solve_32 : decode cX11_solve 32 = .ok (.aload_n 3, 1) := by decide +kernel
theorem dX11_solve_33 : decode cX11_solve 33 = .ok (.invokevirtual 257, 3) := by decide +kernel
theorem dX11_solve_36 : decode cX11_solve 36 = .ok (.ireturn, 1) := by decide +kernel
theorem dX11_solve_37 : decode cX11_solve 37 = .ok (.aload_n 3, 1) := by decide +kernel
theorem dX11_solve_38 : decode cX11_solve 38 = .ok (.iload_n 2, 1) := by decide +kernel
theorem dX11_solve_39 : decode cX11_solve 39 = .ok (.invokevirtual 261, 3) := by decide +kernel
theorem dX11_solve_42 : decode cX11_solve 42 = .ok (.ifCond .eq 10, 3) := by decide +kernel
theorem dX11_solve_45 : decode cX11_solve 45 = .ok (.aload_n 3, 1) := by decide +kernel
theorem dX11_solve_46 : decode cX11_solve 46 = .ok (.getfield 264, 3) := by decide +kernel
theorem dX11_solve_49 : decode cX11_solve 49 = .ok (.goto 4, 3) := by decide +kernel
theorem dX11_solve_52 : decode cX11_solve 52 = .ok (.iconst (-1), 1) := by decide +kernel
theorem dX11_solve_53 : decode cX11_solve 53 = .ok (.ireturn, 1) := by decide +kernel
theorem dX11_solved_0 : decode cX11_solved 0 = .ok (.aload_n 0, 1) := by decide +kernel
theorem dX11_solved_1 : decode cX11_solved 1 = .ok (.iload_n 1, 1) := by decide +kernel
theorem dX11_solved_2 : decode cX11_solved 2 = .ok (.invokevirtual 234, 3) := by decide +kernel
theorem dX11_solved_5 : decode cX11_solved 5 = .ok (.astore_n 3, 1) := by decide +kernel
theorem dX11_solved_6 : decode cX11_solved 6 = .ok (.aload_n 3, 1) := by decide +kernel
theorem dX11_solved_7 : decode cX11_solved 7 = .ok (.ifnull 7, 3) := by decide +kernel
theorem dX11_solved_10 : decode cX11_solved 10 = .ok (.iload_n 2, 1) := by decide +kernel
theorem dX11_solved_11 : decode cX11_solved 11 = .ok (.ifCond .ge 5, 3) := by decide +kernel
theorem dX11_solved_14 : decode cX11_solved 14 = .ok (.iconst (-1), 1) := by decide +kernel
theorem dX11_solved_15 : decode cX11_solved 15 = .ok (.ireturn, 1) := by decide +kernel
theorem dX11_solved_16 : decode cX11_solved 16 = .ok (.aload_n 3, 1) := by decide +kernel
theorem dX11_solved_17 : decode cX11_solved 17 = .ok (.invokevirtual 254, 3) := by decide +kernel
theorem dX11_solved_20 : decode cX11_solved 20 = .ok (.ifCond .ne 6, 3) := by decide +kernel
theorem dX11_solved_23 : decode cX11_solved 23 = .ok (.bipush (-2), 2) := by decide +kernel
theorem dX11_solved_25 : decode cX11_solved 25 = .ok (.ireturn, 1) := by decide +kernel
theorem dX11_solved_26 : decode cX11_solved 26 = .ok (.aload_n 3, 1) := by decide +kernel
theorem dX11_solved_27 : decode cX11_solved 27 = .ok (.iload_n 2, 1) := by decide +kernel
theorem dX11_solved_28 : decode cX11_solved 28 = .ok (.invokevirtual 261, 3) := by decide +kernel
theorem dX11_solved_31 : decode cX11_solved 31 = .ok (.ifCond .eq 10, 3) := by decide +kernel
theorem dX11_solved_34 : decode cX11_solved 34 = .ok (.aload_n 3, 1) := by decide +kernel
theorem dX11_solved_35 : decode cX11_solved 35 = .ok (.getfield 267, 3) := by decide +kernel
theorem dX11_solved_38 : decode cX11_solved 38 = .ok (.goto 4, 3) := by decide +kernel
theorem dX11_solved_41 : decode cX11_solved 41 = .ok (.iconst (-1), 1) := by decide +kernel
theorem dX11_solved_42 : decode cX11_solved 42 = .ok (.ireturn, 1) := by decide +kernel
theorem dX11_others_0 : decode cX11_others 0 = .ok (.aload_n 0, 1) := by decide +kernel
theorem dX11_others_1 : decode cX11_others 1 = .ok (.iload_n 1, 1) := by decide +kernel
theorem dX11_others_2 : decode cX11_others 2 = .ok (.invokevirtual 234, 3) := by decide +kernel
theorem dX11_others_5 : decode cX11_others 5 = .ok (.astore_n 3, 1) := by decide +kernel
theorem dX11_others_6 : decode cX11_others 6 = .ok (.aload_n 0, 1) := by decide +kernel
theorem dX11_others_7 : decode cX11_others 7 = .ok (.getfield 10, 3) := by decide +kernel
theorem dX11_others_10 : decode cX11_others 10 = .ok (.iload_n 1, 1) := by decide +kernel
theorem dX11_others_11 : decode cX11_others 11 = .ok (.invokevirtual 130, 3) := by decide +kernel
theorem dX11_others_14 : decode cX11_others 14 = .ok (.astore 4, 2) := by decide +kernel
theorem dX11_others_16 : decode cX11_others 16 = .ok (.aload_n 3, 1) := by decide +kernel
theorem dX11_others_17 : decode cX11_others 17 = .ok (.ifnull 19, 3) := by decide +kernel
theorem dX11_others_20 : decode cX11_others 20 = .ok (.aload 4, 2) := by decide +kernel
theorem dX11_others_22 : decode cX11_others 22 = .ok (.ifnull 14, 3) := by decide +kernel
theorem dX11_others_25 : decode cX11_others 25 = .ok (.aload_n 0, 1) := by decide +kernel
theorem dX11_others_26 : decode cX11_others 26 = .ok (.getfield 10, 3) := by decide +kernel
theorem dX11_others_29 : decode cX11_others 29 = .ok (.iload_n 2, 1) := by decide +kernel
theorem dX11_others_30 : decode cX11_others 30 = .ok (.invokevirtual 90, 3) := by decide +kernel
theorem dX11_others_33 : decode cX11_others 33 = .ok (.ifnonnull 7, 3) := by decide +kernel
theorem dX11_others_36 : decode cX11_others 36 = .ok (.ldc2_w 272, 3) := by decide +kernel
theorem dX11_others_39 : decode cX11_others 39 = .ok (.lreturn, 1) := by decide +kernel
theorem dX11_others_40 : decode cX11_others 40 = .ok (.aload 4, 2) := by decide +kernel
theorem dX11_others_42 : decode cX11_others 42 = .ok (.getfield 274, 3) := by decide +kernel
theorem dX11_others_45 : decode cX11_others 45 = .ok (.iload_n 2, 1) := by decide +kernel
theorem dX11_others_46 : decode cX11_others 46 = .ok (.if_icmp .ne 10, 3) := by decide +kernel
theorem dX11_others_49 : decode cX11_others 49 = .ok (.aload_n 3, 1) := by decide +kernel
theorem dX11_others_50 : decode cX11_others 50 = .ok (.invokevirtual 254, 3) := by decide +kernel
theorem dX11_others_53 : decode cX11_others 53 = .ok (.ifCond .ne 7, 3) := by decide +kernel
theorem dX11_others_56 : decode cX11_others 56 = .ok (.ldc2_w 277, 3) := by decide +kernel
theorem dX11_others_59 : decode cX11_others 59 = .ok (.lreturn, 1) := by decide +kernel
theorem dX11_others_60 : decode cX11_others 60 = .ok (.aload_n 3, 1) := by decide +kernel
theorem dX11_others_61 : decode cX11_others 61 = .ok (.invokevirtual 257, 3) := by decide +kernel
theorem dX11_others_64 : decode cX11_others 64 = .ok (.pop, 1) := by decide +kernel
theorem dX11_others_65 : decode cX11_others 65 = .ok (.aload_n 3, 1) := by decide +kernel
theorem dX11_others_66 : decode cX11_others 66 = .ok (.getfield 279, 3) := by decide +kernel
theorem dX11_others_69 : decode cX11_others 69 = .ok (.lconst 1, 1) := by decide +kernel
theorem dX11_others_70 : decode cX11_others 70 = .ok (.aload 4, 2) := by decide +kernel
theorem dX11_others_72 : decode cX11_others 72 = .ok (.getfield 228, 3) := by decide +kernel
theorem dX11_others_75 : decode cX11_others 75 = .ok (.lshl, 1) := by decide +kernel
theorem dX11_others_76 : decode cX11_others 76 = .ok (.ldc2_w 283, 3) := by decide +kernel
theorem dX11_others_79 : decode cX11_others 79 = .ok (.lxor, 1) := by decide +kernel
theorem dX11_others_80 : decode cX11_others 80 = .ok (.land, 1) := by decide +kernel
theorem dX11_others_81 : decode cX11_others 81 = .ok (.lreturn, 1) := by decide +kernel
theorem dX11_log_0 : decode cX11_log 0 = .ok (.aload_n 0, 1) := by decide +kernel
theorem dX11_log_1 : decode cX11_log 1 = .ok (.getfield 10, 3) := by decide +kernel
theorem dX11_log_4 : decode cX11_log 4 = .ok (.iload_n 1, 1) := by decide +kernel
theorem dX11_log_5 : decode cX11_log 5 = .ok (.invokevirtual 90, 3) := by decide +kernel
theorem dX11_log_8 : decode cX11_log 8 = .ok (.ifnull 14, 3) := by decide +kernel
theorem dX11_log_11 : decode cX11_log 11 = .ok (.aload_n 0, 1) := by decide +kernel
theorem dX11_log_12 : decode cX11_log 12 = .ok (.getfield 10, 3) := by decide +kernel
theorem dX11_log_15 : decode cX11_log 15 = .ok (.iload_n 2, 1) := by decide +kernel
theorem dX11_log_16 : decode cX11_log 16 = .ok (.invokevirtual 130, 3) := by decide +kernel
theorem dX11_log_19 : decode cX11_log 19 = .ok (.ifnonnull 5, 3) := by decide +kernel
theorem dX11_log_22 : decode cX11_log 22 = .ok (.iconst (-1), 1) := by decide +kernel
theorem dX11_log_23 : decode cX11_log 23 = .ok (.ireturn, 1) := by decide +kernel
theorem dX11_log_24 : decode cX11_log 24 = .ok (.iload_n 3, 1) := by decide +kernel
theorem dX11_log_25 : decode cX11_log 25 = .ok (.ifCond .lt 30, 3) := by decide +kernel
theorem dX11_log_28 : decode cX11_log 28 = .ok (.iload_n 3, 1) := by decide +kernel
theorem dX11_log_29 : decode cX11_log 29 = .ok (.bipush 24, 2) := by decide +kernel
theorem dX11_log_31 : decode cX11_log 31 = .ok (.aload_n 0, 1) := by decide +kernel
theorem dX11_log_32 : decode cX11_log 32 = .ok (.getfield 10, 3) := by decide +kernel
theorem dX11_log_35 : decode cX11_log 35 = .ok (.getfield 52, 3) := by decide +kernel
theorem dX11_log_38 : decode cX11_log 38 = .ok (.iconst 1, 1) := by decide +kernel
theorem dX11_log_39 : decode cX11_log 39 = .ok (.iadd, 1) := by decide +kernel
theorem dX11_log_40 : decode cX11_log 40 = .ok (.imul, 1) := by decide +kernel
theorem dX11_log_41 : decode cX11_log 41 = .ok (.if_icmp .ge 14, 3) := by decide +kernel
theorem dX11_log_44 : decode cX11_log 44 = .ok (.iload 4, 2) := by decide +kernel
theorem dX11_log_46 : decode cX11_log 46 = .ok (.ifCond .lt 9, 3) := by decide +kernel
theorem dX11_log_49 : decode cX11_log 49 = .ok (.iload 4, 2) := by decide +kernel
theorem dX11_log_51 : decode cX11_log 51 = .ok (.iconst 1, 1) := by decide +kernel
theorem dX11_log_52 : decode cX11_log 52 = .ok (.if_icmp .le 5, 3) := by decide +kernel
theorem dX11_log_55 : decode cX11_log 55 = .ok (.iconst (-1), 1) := by decide +kernel
theorem dX11_log_56 : decode cX11_log 56 = .ok (.ireturn, 1) := by decide +kernel
theorem dX11_log_57 : decode cX11_log 57 = .ok (.aload_n 0, 1) := by decide +kernel
theorem dX11_log_58 : decode cX11_log 58 = .ok (.getfield 30, 3) := by decide +kernel
theorem dX11_log_61 : decode cX11_log 61 = .ok (.getfield 285, 3) := by decide +kernel
theorem dX11_log_64 : decode cX11_log 64 = .ok (.sipush 300, 3) := by decide +kernel
theorem dX11_log_67 : decode cX11_log 67 = .ok (.if_icmp .lt 6, 3) := by decide +kernel
theorem dX11_log_70 : decode cX11_log 70 = .ok (.bipush (-3), 2) := by decide +kernel
theorem dX11_log_72 : decode cX11_log 72 = .ok (.ireturn, 1) := by decide +kernel
theorem dX11_log_73 : decode cX11_log 73 = .ok (.aload_n 0, 1) := by decide +kernel
theorem dX11_log_74 : decode cX11_log 74 = .ok (.getfield 30, 3) := by decide +kernel
theorem dX11_log_77 : decode cX11_log 77 = .ok (.iload_n 1, 1) := by decide +kernel
theorem dX11_log_78 : decode cX11_log 78 = .ok (.iload_n 2, 1) := by decide +kernel
theorem dX11_log_79 : decode cX11_log 79 = .ok (.iload_n 3, 1) := by decide +kernel
theorem dX11_log_80 : decode cX11_log 80 = .ok (.iload 4, 2) := by decide +kernel
theorem dX11_log_82 : decode cX11_log 82 = .ok (.iconst 1, 1) := by decide +kernel
theorem dX11_log_83 : decode cX11_log 83 = .ok (.if_icmp .ne 7, 3) := by decide +kernel
theorem dX11_log_86 : decode cX11_log 86 = .ok (.iconst 1, 1) := by decide +kernel
theorem dX11_log_87 : decode cX11_log 87 = .ok (.goto 4, 3) := by decide +kernel
theorem dX11_log_90 : decode cX11_log 90 = .ok (.iconst 0, 1) := by decide +kernel
theorem dX11_log_91 : decode cX11_log 91 = .ok (.invokevirtual 286, 3) := by decide +kernel
theorem dX11_log_94 : decode cX11_log 94 = .ok (.ireturn, 1) := by decide +kernel
theorem dX11_paper_0 : decode cX11_paper 0 = .ok (.aload_n 0, 1) := by decide +kernel
theorem dX11_paper_1 : decode cX11_paper 1 = .ok (.getfield 10, 3) := by decide +kernel
theorem dX11_paper_4 : decode cX11_paper 4 = .ok (.iload_n 1, 1) := by decide +kernel
theorem dX11_paper_5 : decode cX11_paper 5 = .ok (.invokevirtual 130, 3) := by decide +kernel
theorem dX11_paper_8 : decode cX11_paper 8 = .ok (.astore 5, 2) := by decide +kernel
theorem dX11_paper_10 : decode cX11_paper 10 = .ok (.aload_n 0, 1) := by decide +kernel
theorem dX11_paper_11 : decode cX11_paper 11 = .ok (.iload_n 2, 1) := by decide +kernel
theorem dX11_paper_12 : decode cX11_paper 12 = .ok (.invokevirtual 238, 3) := by decide +kernel
theorem dX11_paper_15 : decode cX11_paper 15 = .ok (.astore 6, 2) := by decide +kernel
theorem dX11_paper_17 : decode cX11_paper 17 = .ok (.aload 5, 2) := by decide +kernel
theorem dX11_paper_19 : decode cX11_paper 19 = .ok (.ifnull 21, 3) := by decide +kernel
theorem dX11_paper_22 : decode cX11_paper 22 = .ok (.aload 6, 2) := by decide +kernel
theorem dX11_paper_24 : decode cX11_paper 24 = .ok (.ifnull 16, 3) := by decide +kernel
theorem dX11_paper_27 : decode cX11_paper 27 = .ok (.iload 4, 2) := by decide +kernel
theorem dX11_paper_29 : decode cX11_paper 29 = .ok (.iconst 1, 1) := by decide +kernel
theorem dX11_paper_30 : decode cX11_paper 30 = .ok (.if_icmp .lt 10, 3) := by decide +kernel
theorem dX11_paper_33 : decode cX11_paper 33 = .ok (.iload 4, 2) := by decide +kernel
theorem dX11_paper_35 : decode cX11_paper 35 = .ok (.bipush 40, 2) := by decide +kernel
theorem dX11_paper_37 : decode cX11_paper 37 = .ok (.if_icmp .le 5, 3) := by decide +kernel
theorem dX11_paper_40 : decode cX11_paper 40 = .ok (.iconst (-1), 1) := by decide +kernel
theorem dX11_paper_41 : decode cX11_paper 41 = .ok (.ireturn, 1) := by decide +kernel
theorem dX11_paper_42 : decode cX11_paper 42 = .ok (.aload 6, 2) := by decide +kernel
theorem dX11_paper_44 : decode cX11_paper 44 = .ok (.invokevirtual 244, 3) := by decide +kernel
theorem dX11_paper_47 : decode cX11_paper 47 = .ok (.ifCond .ne 15, 3) := by decide +kernel
theorem dX11_paper_50 : decode cX11_paper 50 = .ok (.aload 6, 2) := by decide +kernel
theorem dX11_paper_52 : decode cX11_paper 52 = .ok (.iconst 1, 1) := by decide +kernel
theorem dX11_paper_53 : decode cX11_paper 53 = .ok (.invokevirtual 247, 3) := by decide +kernel
theorem dX11_paper_56 : decode cX11_paper 56 = .ok (.ifCond .ne 6, 3) := by decide +kernel
theorem dX11_paper_59 : decode cX11_paper 59 = .ok (.bipush (-12), 2) := by decide +kernel
theorem dX11_paper_61 : decode cX11_paper 61 = .ok (.ireturn, 1) := by decide +kernel
theorem dX11_paper_62 : decode cX11_paper 62 = .ok (.aload 5, 2) := by decide +kernel
theorem dX11_paper_64 : decode cX11_paper 64 = .ok (.iconst 0, 1) := by decide +kernel
theorem dX11_paper_65 : decode cX11_paper 65 = .ok (.putfield 289, 3) := by decide +kernel
theorem dX11_paper_68 : decode cX11_paper 68 = .ok (.aload 5, 2) := by decide +kernel
theorem dX11_paper_70 : decode cX11_paper 70 = .ok (.iconst 1, 1) := by decide +kernel
theorem dX11_paper_71 : decode cX11_paper 71 = .ok (.putfield 292, 3) := by decide +kernel
theorem dX11_paper_74 : decode cX11_paper 74 = .ok (.iconst 0, 1) := by decide +kernel
theorem dX11_paper_75 : decode cX11_paper 75 = .ok (.istore 7, 2) := by decide +kernel
theorem dX11_paper_77 : decode cX11_paper 77 = .ok (.iload 7, 2) := by decide +kernel
theorem dX11_paper_79 : decode cX11_paper 79 = .ok (.iload 4, 2) := by decide +kernel
theorem dX11_paper_81 : decode cX11_paper 81 = .ok (.if_icmp .ge 65, 3) := by decide +kernel
theorem dX11_paper_84 : decode cX11_paper 84 = .ok (.aload 6, 2) := by decide +kernel
theorem dX11_paper_86 : decode cX11_paper 86 = .ok (.iload_n 3, 1) := by decide +kernel
theorem dX11_paper_87 : decode cX11_paper 87 = .ok (.i2l, 1) := by decide +kernel
theorem dX11_paper_88 : decode cX11_paper 88 = .ok (.iload 7, 2) := by decide +kernel
theorem dX11_paper_90 : decode cX11_paper 90 = .ok (.i2l, 1) := by decide +kernel
theorem dX11_paper_91 : decode cX11_paper 91 = .ok (.ladd, 1) := by decide +kernel
theorem dX11_paper_92 : decode cX11_paper 92 = .ok (.ldc2_w 283, 3) := by decide +kernel
theorem dX11_paper_95 : decode cX11_paper 95 = .ok (.invokevirtual 296, 3) := by decide +kernel
theorem dX11_paper_98 : decode cX11_paper 98 = .ok (.l2i, 1) := by decide +kernel
theorem dX11_paper_99 : decode cX11_paper 99 = .ok (.istore 8, 2) := by decide +kernel
theorem dX11_paper_101 : decode cX11_paper 101 = .ok (.aload_n 0, 1) := by decide +kernel
theorem dX11_paper_102 : decode cX11_paper 102 = .ok (.getfield 10, 3) := by decide +kernel
theorem dX11_paper_105 : decode cX11_paper 105 = .ok (.iload 8, 2) := by decide +kernel
theorem dX11_paper_107 : decode cX11_paper 107 = .ok (.invokevirtual 90, 3) := by decide +kernel
theorem dX11_paper_110 : decode cX11_paper 110 = .ok (.ifnonnull 6, 3) := by decide +kernel
theorem dX11_paper_113 : decode cX11_paper 113 = .ok (.goto 33, 3) := by decide +kernel
theorem dX11_paper_116 : decode cX11_paper 116 = .ok (.aload 5, 2) := by decide +kernel
theorem dX11_paper_118 : decode cX11_paper 118 = .ok (.getfield 300, 3) := by decide +kernel
theorem dX11_paper_121 : decode cX11_paper 121 = .ok (.aload 5, 2) := by decide +kernel
theorem dX11_paper_123 : decode cX11_paper 123 = .ok (.getfield 289, 3) := by decide +kernel
theorem dX11_paper_126 : decode cX11_paper 126 = .ok (.iload 8, 2) := by decide +kernel
theorem dX11_paper_128 : decode cX11_paper 128 = .ok (.iastore, 1) := by decide +kernel
theorem dX11_paper_129 : decode cX11_paper 129 = .ok (.aload 5, 2) := by decide +kernel
theorem dX11_paper_131 : decode cX11_paper 131 = .ok (.dup, 1) := by decide +kernel
theorem dX11_paper_132 : decode cX11_paper 132 = .ok (.getfield 289, 3) := by decide +kernel
theorem dX11_paper_135 : decode cX11_paper 135 = .ok (.iconst 1, 1) := by decide +kernel
theorem dX11_paper_136 : decode cX11_paper 136 = .ok (.iadd, 1) := by decide +kernel
theorem dX11_paper_137 : decode cX11_paper 137 = .ok (.putfield 289, 3) := by decide +kernel
theorem dX11_paper_140 : decode cX11_paper 140 = .ok (.iinc 7 1, 3) := by decide +kernel
theorem dX11_paper_143 : decode cX11_paper 143 = .ok (.goto (-66), 3) := by decide +kernel
theorem dX11_paper_146 : decode cX11_paper 146 = .ok (.aload 5, 2) := by decide +kernel
theorem dX11_paper_148 : decode cX11_paper 148 = .ok (.getfield 289, 3) := by decide +kernel
theorem dX11_paper_151 : decode cX11_paper 151 = .ok (.ireturn, 1) := by decide +kernel
theorem dX11_join_0 : decode cX11_join 0 = .ok (.aload_n 0, 1) := by decide +kernel
theorem dX11_join_1 : decode cX11_join 1 = .ok (.getfield 10, 3) := by decide +kernel
theorem dX11_join_4 : decode cX11_join 4 = .ok (.iload_n 1, 1) := by decide +kernel
theorem dX11_join_5 : decode cX11_join 5 = .ok (.invokevirtual 130, 3) := by decide +kernel
theorem dX11_join_8 : decode cX11_join 8 = .ok (.astore 4, 2) := by decide +kernel
theorem dX11_join_10 : decode cX11_join 10 = .ok (.aload 4, 2) := by decide +kernel
theorem dX11_join_12 : decode cX11_join 12 = .ok (.ifnull 12, 3) := by decide +kernel
theorem dX11_join_15 : decode cX11_join 15 = .ok (.iload_n 2, 1) := by decide +kernel
theorem dX11_join_16 : decode cX11_join 16 = .ok (.ifCond .lt 8, 3) := by decide +kernel
theorem dX11_join_19 : decode cX11_join 19 = .ok (.iload_n 2, 1) := by decide +kernel
theorem dX11_join_20 : decode cX11_join 20 = .ok (.iconst 2, 1) := by decide +kernel
theorem dX11_join_21 : decode cX11_join 21 = .ok (.if_icmp .le 5, 3) := by decide +kernel
theorem dX11_join_24 : decode cX11_join 24 = .ok (.iconst (-1), 1) := by decide +kernel
theorem dX11_join_25 : decode cX11_join 25 = .ok (.ireturn, 1) := by decide +kernel
theorem dX11_join_26 : decode cX11_join 26 = .ok (.iconst 0, 1) := by decide +kernel
theorem dX11_join_27 : decode cX11_join 27 = .ok (.istore 5, 2) := by decide +kernel
theorem dX11_join_29 : decode cX11_join 29 = .ok (.iconst 0, 1) := by decide +kernel
theorem dX11_join_30 : decode cX11_join 30 = .ok (.istore 6, 2) := by decide +kernel
theorem dX11_join_32 : decode cX11_join 32 = .ok (.iload 6, 2) := by decide +kernel
theorem dX11_join_34 : decode cX11_join 34 = .ok (.aload_n 0, 1) := by decide +kernel
theorem dX11_join_35 : decode cX11_join 35 = .ok (.getfield 10, 3) := by decide +kernel
theorem dX11_join_38 : decode cX11_join 38 = .ok (.getfield 70, 3) := by decide +kernel
theorem dX11_join_41 : decode cX11_join 41 = .ok (.if_icmp .ge 48, 3) := by decide +kernel
theorem dX11_join_44 : decode cX11_join 44 = .ok (.aload_n 0, 1) := by decide +kernel
theorem dX11_join_45 : decode cX11_join 45 = .ok (.getfield 10, 3) := by decide +kernel
theorem dX11_join_48 : decode cX11_join 48 = .ok (.iload 6, 2) := by decide +kernel
theorem dX11_join_50 : decode cX11_join 50 = .ok (.invokevirtual 90, 3) := by decide +kernel
theorem dX11_join_53 : decode cX11_join 53 = .ok (.ifnull 30, 3) := by decide +kernel
theorem dX11_join_56 : decode cX11_join 56 = .ok (.aload_n 0, 1) := by decide +kernel
theorem dX11_join_57 : decode cX11_join 57 = .ok (.getfield 30, 3) := by decide +kernel
theorem dX11_join_60 : decode cX11_join 60 = .ok (.iload 6, 2) := by decide +kernel
theorem dX11_join_62 : decode cX11_join 62 = .ok (.aload 4, 2) := by decide +kernel
theorem dX11_join_64 : decode cX11_join 64 = .ok (.invokevirtual 303, 3) := by decide +kernel
theorem dX11_join_67 : decode cX11_join 67 = .ok (.iload_n 2, 1) := by decide +kernel
theorem dX11_join_68 : decode cX11_join 68 = .ok (.if_icmp .ne 15, 3) := by decide +kernel
theorem dX11_join_71 : decode cX11_join 71 = .ok (.iload 5, 2) := by decide +kernel
theorem dX11_join_73 : decode cX11_join 73 = .ok (.iload_n 3, 1) := by decide +kernel
theorem dX11_join_74 : decode cX11_join 74 = .ok (.if_icmp .ne 6, 3) := by decide +kernel
theorem dX11_join_77 : decode cX11_join 77 = .ok (.iload 6, 2) := by decide +kernel
theorem dX11_join_79 : decode cX11_join 79 = .ok (.ireturn, 1) := by decide +kernel
theorem dX11_join_80 : decode cX11_join 80 = .ok (.iinc 5 1, 3) := by decide +kernel
theorem dX11_join_83 : decode cX11_join 83 = .ok (.iinc 6 1, 3) := by decide +kernel
theorem dX11_join_86 : decode cX11_join 86 = .ok (.goto (-54), 3) := by decide +kernel
theorem dX11_join_89 : decode cX11_join 89 = .ok (.iload_n 3, 1) := by decide +kernel
theorem dX11_join_90 : decode cX11_join 90 = .ok (.iconst (-1), 1) := by decide +kernel
theorem dX11_join_91 : decode cX11_join 91 = .ok (.if_icmp .ne 8, 3) := by decide +kernel
theorem dX11_join_94 : decode cX11_join 94 = .ok (.iload 5, 2) := by decide +kernel
theorem dX11_join_96 : decode cX11_join 96 = .ok (.goto 4, 3) := by decide +kernel
theorem dX11_join_99 : decode cX11_join 99 = .ok (.iconst (-1), 1) := by decide +kernel
theorem dX11_join_100 : decode cX11_join 100 = .ok (.ireturn, 1) := by decide +kernel
theorem dX11_first_0 : decode cX11_first 0 = .ok (.aload_n 0, 1) := by decide +kernel
theorem dX11_first_1 : decode cX11_first 1 = .ok (.getfield 10, 3) := by decide +kernel
theorem dX11_first_4 : decode cX11_first 4 = .ok (.iload_n 1, 1) := by decide +kernel
theorem dX11_first_5 : decode cX11_first 5 = .ok (.invokevirtual 130, 3) := by decide +kernel
theorem dX11_first_8 : decode cX11_first 8 = .ok (.astore_n 2, 1) := by decide +kernel
theorem dX11_first_9 : decode cX11_first 9 = .ok (.aload_n 2, 1) := by decide +kernel
theorem dX11_first_10 : decode cX11_first 10 = .ok (.ifnonnull 5, 3) := by decide +kernel
theorem dX11_first_13 : decode cX11_first 13 = .ok (.iconst (-1), 1) := by decide +kernel
theorem dX11_first_14 : decode cX11_first 14 = .ok (.ireturn, 1) := by decide +kernel
theorem dX11_first_15 : decode cX11_first 15 = .ok (.aload_n 2, 1) := by decide +kernel
theorem dX11_first_16 : decode cX11_first 16 = .ok (.getfield 289, 3) := by decide +kernel
theorem dX11_first_19 : decode cX11_first 19 = .ok (.ifCond .le 10, 3) := by decide +kernel
theorem dX11_first_22 : decode cX11_first 22 = .ok (.aload_n 2, 1) := by decide +kernel
theorem dX11_first_23 : decode cX11_first 23 = .ok (.getfield 300, 3) := by decide +kernel
theorem dX11_first_26 : decode cX11_first 26 = .ok (.iconst 0, 1) := by decide +kernel
theorem dX11_first_27 : decode cX11_first 27 = .ok (.iaload, 1) := by decide +kernel
theorem dX11_first_28 : decode cX11_first 28 = .ok (.ireturn, 1) := by decide +kernel
theorem dX11_first_29 : decode cX11_first 29 = .ok (.aload_n 0, 1) := by decide +kernel
theorem dX11_first_30 : decode cX11_first 30 = .ok (.getfield 30, 3) := by decide +kernel
theorem dX11_first_33 : decode cX11_first 33 = .ok (.iload_n 1, 1) := by decide +kernel
theorem dX11_first_34 : decode cX11_first 34 = .ok (.invokevirtual 307, 3) := by decide +kernel
theorem dX11_first_37 : decode cX11_first 37 = .ok (.istore_n 3, 1) := by decide +kernel
theorem dX11_first_38 : decode cX11_first 38 = .ok (.iload_n 3, 1) := by decide +kernel
theorem dX11_first_39 : decode cX11_first 39 = .ok (.ifCond .ge 8, 3) := by decide +kernel
theorem dX11_first_42 : decode cX11_first 42 = .ok (.bipush (-2), 2) := by decide +kernel
theorem dX11_first_44 : decode cX11_first 44 = .ok (.goto 12, 3) := by decide +kernel
theorem dX11_first_47 : decode cX11_first 47 = .ok (.aload_n 0, 1) := by decide +kernel
theorem dX11_first_48 : decode cX11_first 48 = .ok (.getfield 30, 3) := by decide +kernel
theorem dX11_first_51 : decode cX11_first 51 = .ok (.getfield 310, 3) := by decide +kernel
theorem dX11_first_54 : decode cX11_first 54 = .ok (.iload_n 3, 1) := by decide +kernel
theorem dX11_first_55 : decode cX11_first 55 = .ok (.iaload, 1) := by decide +kernel
theorem dX11_first_56 : decode cX11_first 56 = .ok (.ireturn, 1) := by decide +kernel
theorem dX11_isFalse_0 : decode cX11_isFalse 0 = .ok (.aload_n 0, 1) := by decide +kernel
theorem dX11_isFalse_1 : decode cX11_isFalse 1 = .ok (.getfield 30, 3) := by decide +kernel
theorem dX11_isFalse_4 : decode cX11_isFalse 4 = .ok (.iload_n 1, 1) := by decide +kernel
theorem dX11_isFalse_5 : decode cX11_isFalse 5 = .ok (.invokevirtual 313, 3) := by decide +kernel
theorem dX11_isFalse_8 : decode cX11_isFalse 8 = .ok (.ifCond .eq 12, 3) := by decide +kernel
theorem dX11_isFalse_11 : decode cX11_isFalse 11 = .ok (.iload_n 2, 1) := by decide +kernel
theorem dX11_isFalse_12 : decode cX11_isFalse 12 = .ok (.ifCond .lt 8, 3) := by decide +kernel
theorem dX11_isFalse_15 : decode cX11_isFalse 15 = .ok (.iload_n 2, 1) := by decide +kernel
theorem dX11_isFalse_16 : decode cX11_isFalse 16 = .ok (.iconst 1, 1) := by decide +kernel
theorem dX11_isFalse_17 : decode cX11_isFalse 17 = .ok (.if_icmp .le 5, 3) := by decide +kernel
theorem dX11_isFalse_20 : decode cX11_isFalse 20 = .ok (.iconst (-1), 1) := by decide +kernel
theorem dX11_isFalse_21 : decode cX11_isFalse 21 = .ok (.ireturn, 1) := by decide +kernel
theorem dX11_isFalse_22 : decode cX11_isFalse 22 = .ok (.aload_n 0, 1) := by decide +kernel
theorem dX11_isFalse_23 : decode cX11_isFalse 23 = .ok (.getfield 30, 3) := by decide +kernel
theorem dX11_isFalse_26 : decode cX11_isFalse 26 = .ok (.iload_n 1, 1) := by decide +kernel
theorem dX11_isFalse_27 : decode cX11_isFalse 27 = .ok (.invokevirtual 316, 3) := by decide +kernel
theorem dX11_isFalse_30 : decode cX11_isFalse 30 = .ok (.istore_n 3, 1) := by decide +kernel
theorem dX11_isFalse_31 : decode cX11_isFalse 31 = .ok (.iload_n 2, 1) := by decide +kernel
theorem dX11_isFalse_32 : decode cX11_isFalse 32 = .ok (.ifCond .ne 5, 3) := by decide +kernel
theorem dX11_isFalse_35 : decode cX11_isFalse 35 = .ok (.iload_n 3, 1) := by decide +kernel
theorem dX11_isFalse_36 : decode cX11_isFalse 36 = .ok (.ireturn, 1) := by decide +kernel
theorem dX11_isFalse_37 : decode cX11_isFalse 37 = .ok (.iload_n 3, 1) := by decide +kernel
theorem dX11_isFalse_38 : decode cX11_isFalse 38 = .ok (.iconst 2, 1) := by decide +kernel
theorem dX11_isFalse_39 : decode cX11_isFalse 39 = .ok (.if_icmp .ne 14, 3) := by decide +kernel
theorem dX11_isFalse_42 : decode cX11_isFalse 42 = .ok (.aload_n 0, 1) := by decide +kernel
theorem dX11_isFalse_43 : decode cX11_isFalse 43 = .ok (.getfield 30, 3) := by decide +kernel
theorem dX11_isFalse_46 : decode cX11_isFalse 46 = .ok (.iload_n 1, 1) := by decide +kernel
theorem dX11_isFalse_47 : decode cX11_isFalse 47 = .ok (.invokevirtual 319, 3) := by decide +kernel
theorem dX11_isFalse_50 : decode cX11_isFalse 50 = .ok (.goto 4, 3) := by decide +kernel
theorem dX11_isFalse_53 : decode cX11_isFalse 53 = .ok (.iconst (-1), 1) := by decide +kernel
theorem dX11_isFalse_54 : decode cX11_isFalse 54 = .ok (.ireturn, 1) := by decide +kernel
theorem dX11_gone_0 : decode cX11_gone 0 = .ok (.aload_n 0, 1) := by decide +kernel
theorem dX11_gone_1 : decode cX11_gone 1 = .ok (.getfield 10, 3) := by decide +kernel
theorem dX11_gone_4 : decode cX11_gone 4 = .ok (.iload_n 1, 1) := by decide +kernel
theorem dX11_gone_5 : decode cX11_gone 5 = .ok (.invokevirtual 130, 3) := by decide +kernel
theorem dX11_gone_8 : decode cX11_gone 8 = .ok (.astore_n 3, 1) := by decide +kernel
theorem dX11_gone_9 : decode cX11_gone 9 = .ok (.aload_n 3, 1) := by decide +kernel
theorem dX11_gone_10 : decode cX11_gone 10 = .ok (.ifnull 12, 3) := by decide +kernel
theorem dX11_gone_13 : decode cX11_gone 13 = .ok (.iload_n 2, 1) := by decide +kernel
theorem dX11_gone_14 : decode cX11_gone 14 = .ok (.ifCond .lt 8, 3) := by decide +kernel
theorem dX11_gone_17 : decode cX11_gone 17 = .ok (.iload_n 2, 1) := by decide +kernel
theorem dX11_gone_18 : decode cX11_gone 18 = .ok (.iconst 2, 1) := by decide +kernel
theorem dX11_gone_19 : decode cX11_gone 19 = .ok (.if_icmp .le 5, 3) := by decide +kernel
theorem dX11_gone_22 : decode cX11_gone 22 = .ok (.iconst (-1), 1) := by decide +kernel
theorem dX11_gone_23 : decode cX11_gone 23 = .ok (.ireturn, 1) := by decide +kernel
theorem dX11_gone_24 : decode cX11_gone 24 = .ok (.aload_n 3, 1) := by decide +kernel
theorem dX11_gone_25 : decode cX11_gone 25 = .ok (.getfield 322, 3) := by decide +kernel
theorem dX11_gone_28 : decode cX11_gone 28 = .ok (.iconst 3, 1) := by decide +kernel
theorem dX11_gone_29 : decode cX11_gone 29 = .ok (.if_icmp .lt 7, 3) := by decide +kernel
theorem dX11_gone_32 : decode cX11_gone 32 = .ok (.iconst 2, 1) := by decide +kernel
theorem dX11_gone_33 : decode cX11_gone 33 = .ok (.goto 15, 3) := by decide +kernel
theorem dX11_gone_36 : decode cX11_gone 36 = .ok (.aload_n 3, 1) := by decide +kernel
theorem dX11_gone_37 : decode cX11_gone 37 = .ok (.getfield 322, 3) := by decide +kernel
theorem dX11_gone_40 : decode cX11_gone 40 = .ok (.ifCond .le 7, 3) := by decide +kernel
theorem dX11_gone_43 : decode cX11_gone 43 = .ok (.iconst 1, 1) := by decide +kernel
theorem dX11_gone_44 : decode cX11_gone 44 = .ok (.goto 4, 3) := by decide +kernel
theorem dX11_gone_47 : decode cX11_gone 47 = .ok (.iconst 0, 1) := by decide +kernel
theorem dX11_gone_48 : decode cX11_gone 48 = .ok (.istore 4, 2) := by decide +kernel
theorem dX11_gone_50 : decode cX11_gone 50 = .ok (.iload_n 2, 1) := by decide +kernel
theorem dX11_gone_51 : decode cX11_gone 51 = .ok (.ifCond .ne 6, 3) := by decide +kernel
theorem dX11_gone_54 : decode cX11_gone 54 = .ok (.iload 4, 2) := by decide +kernel
theorem dX11_gone_56 : decode cX11_gone 56 = .ok (.ireturn, 1) := by decide +kernel
theorem dX11_gone_57 : decode cX11_gone 57 = .ok (.iload 4, 2) := by decide +kernel
theorem dX11_gone_59 : decode cX11_gone 59 = .ok (.iconst 2, 1) := by decide +kernel
theorem dX11_gone_60 : decode cX11_gone 60 = .ok (.if_icmp .eq 6, 3) := by decide +kernel
theorem dX11_gone_63 : decode cX11_gone 63 = .ok (.bipush (-2), 2) := by decide +kernel
theorem dX11_gone_65 : decode cX11_gone 65 = .ok (.ireturn, 1) := by decide +kernel
theorem dX11_gone_66 : decode cX11_gone 66 = .ok (.iload_n 2, 1) := by decide +kernel
theorem dX11_gone_67 : decode cX11_gone 67 = .ok (.iconst 1, 1) := by decide +kernel
theorem dX11_gone_68 : decode cX11_gone 68 = .ok (.if_icmp .ne 14, 3) := by decide +kernel
theorem dX11_gone_71 : decode cX11_gone 71 = .ok (.aload_n 0, 1) := by decide +kernel
theorem dX11_gone_72 : decode cX11_gone 72 = .ok (.getfield 30, 3) := by decide +kernel
theorem dX11_gone_75 : decode cX11_gone 75 = .ok (.aload_n 3, 1) := by decide +kernel
theorem dX11_gone_76 : decode cX11_gone 76 = .ok (.invokevirtual 325, 3) := by decide +kernel
theorem dX11_gone_79 : decode cX11_gone 79 = .ok (.goto 11, 3) := by decide +kernel
theorem dX11_gone_82 : decode cX11_gone 82 = .ok (.aload_n 0, 1) := by decide +kernel
theorem dX11_gone_83 : decode cX11_gone 83 = .ok (.getfield 30, 3) := by decide +kernel
theorem dX11_gone_86 : decode cX11_gone 86 = .ok (.aload_n 3, 1) := by decide +kernel
theorem dX11_gone_87 : decode cX11_gone 87 = .ok (.invokevirtual 329, 3) := by decide +kernel
theorem dX11_gone_90 : decode cX11_gone 90 = .ok (.ireturn, 1) := by decide +kernel
theorem dX11_chance_0 : decode cX11_chance 0 = .ok (.iload_n 1, 1) := by decide +kernel
theorem dX11_chance_1 : decode cX11_chance 1 = .ok (.ifCond .lt 8, 3) := by decide +kernel
theorem dX11_chance_4 : decode cX11_chance 4 = .ok (.iload_n 1, 1) := by decide +kernel
theorem dX11_chance_5 : decode cX11_chance 5 = .ok (.iconst 1, 1) := by decide +kernel
theorem dX11_chance_6 : decode cX11_chance 6 = .ok (.if_icmp .le 5, 3) := by decide +kernel
theorem dX11_chance_9 : decode cX11_chance 9 = .ok (.iconst (-1), 1) := by decide +kernel
theorem dX11_chance_10 : decode cX11_chance 10 = .ok (.ireturn, 1) := by decide +kernel
theorem dX11_chance_11 : decode cX11_chance 11 = .ok (.aload_n 0, 1) := by decide +kernel
theorem dX11_chance_12 : decode cX11_chance 12 = .ok (.getfield 30, 3) := by decide +kernel
theorem dX11_chance_15 : decode cX11_chance 15 = .ok (.iload_n 1, 1) := by decide +kernel
theorem dX11_chance_16 : decode cX11_chance 16 = .ok (.iconst 1, 1) := by decide +kernel
theorem dX11_chance_17 : decode cX11_chance 17 = .ok (.if_icmp .ne 7, 3) := by decide +kernel
theorem dX11_chance_20 : decode cX11_chance 20 = .ok (.iconst 1, 1) := by decide +kernel
theorem dX11_chance_21 : decode cX11_chance 21 = .ok (.goto 4, 3) := by decide +kernel
theorem dX11_chance_24 : decode cX11_chance 24 = .ok (.iconst 0, 1) := by decide +kernel
theorem dX11_chance_25 : decode cX11_chance 25 = .ok (.invokevirtual 332, 3) := by decide +kernel
theorem dX11_chance_28 : decode cX11_chance 28 = .ok (.ireturn, 1) := by decide +kernel
theorem dX11_tell_0 : decode cX11_tell 0 = .ok (.aload_n 0, 1) := by decide +kernel
theorem dX11_tell_1 : decode cX11_tell 1 = .ok (.getfield 10, 3) := by decide +kernel
theorem dX11_tell_4 : decode cX11_tell 4 = .ok (.iload_n 1, 1) := by decide +kernel
theorem dX11_tell_5 : decode cX11_tell 5 = .ok (.invokevirtual 336, 3) := by decide +kernel
theorem dX11_tell_8 : decode cX11_tell 8 = .ok (.astore 4, 2) := by decide +kernel
theorem dX11_tell_10 : decode cX11_tell 10 = .ok (.aload 4, 2) := by decide +kernel
theorem dX11_tell_12 : decode cX11_tell 12 = .ok (.ifnull 35, 3) := by decide +kernel
theorem dX11_tell_15 : decode cX11_tell 15 = .ok (.aload_n 0, 1) := by decide +kernel
theorem dX11_tell_16 : decode cX11_tell 16 = .ok (.getfield 30, 3) := by decide +kernel
theorem dX11_tell_19 : decode cX11_tell 19 = .ok (.iload_n 2, 1) := by decide +kernel
theorem dX11_tell_20 : decode cX11_tell 20 = .ok (.invokevirtual 313, 3) := by decide +kernel
theorem dX11_tell_23 : decode cX11_tell 23 = .ok (.ifCond .eq 24, 3) := by decide +kernel
theorem dX11_tell_26 : decode cX11_tell 26 = .ok (.iload_n 3, 1) := by decide +kernel
theorem dX11_tell_27 : decode cX11_tell 27 = .ok (.ifCond .lt 20, 3) := by decide +kernel
theorem dX11_tell_30 : decode cX11_tell 30 = .ok (.iload_n 3, 1) := by decide +kernel
theorem dX11_tell_31 : decode cX11_tell 31 = .ok (.iconst 1, 1) := by decide +kernel
theorem dX11_tell_32 : decode cX11_tell 32 = .ok (.if_icmp .gt 15, 3) := by decide +kernel
theorem dX11_tell_35 : decode cX11_tell 35 = .ok (.aload_n 0, 1) := by decide +kernel
theorem dX11_tell_36 : decode cX11_tell 36 = .ok (.getfield 30, 3) := by decide +kernel
theorem dX11_tell_39 : decode cX11_tell 39 = .ok (.getfield 340, 3) := by decide +kernel
theorem dX11_tell_42 : decode cX11_tell 42 = .ok (.iload_n 2, 1) := by decide +kernel
theorem dX11_tell_43 : decode cX11_tell 43 = .ok (.baload, 1) := by decide +kernel
theorem dX11_tell_44 : decode cX11_tell 44 = .ok (.ifCond .ne 5, 3) := by decide +kernel
theorem dX11_tell_47 : decode cX11_tell 47 = .ok (.iconst (-1), 1) := by decide +kernel
theorem dX11_tell_48 : decode cX11_tell 48 = .ok (.ireturn, 1) := by decide +kernel
theorem dX11_tell_49 : decode cX11_tell 49 = .ok (.aload 4, 2) := by decide +kernel
theorem dX11_tell_51 : decode cX11_tell 51 = .ok (.getfield 344, 3) := by decide +kernel
theorem dX11_tell_54 : decode cX11_tell 54 = .ok (.bipush 12, 2) := by decide +kernel
theorem dX11_tell_56 : decode cX11_tell 56 = .ok (.if_icmp .lt 6, 3) := by decide +kernel
theorem dX11_tell_59 : decode cX11_tell 59 = .ok (.bipush (-3), 2) := by decide +kernel
theorem dX11_tell_61 : decode cX11_tell 61 = .ok (.ireturn, 1) := by decide +kernel
theorem dX11_tell_62 : decode cX11_tell 62 = .ok (.aload 4, 2) := by decide +kernel
theorem dX11_tell_64 : decode cX11_tell 64 = .ok (.getfield 347, 3) := by decide +kernel
theorem dX11_tell_67 : decode cX11_tell 67 = .ok (.aload 4, 2) := by decide +kernel
theorem dX11_tell_69 : decode cX11_tell 69 = .ok (.getfield 344, 3) := by decide +kernel
theorem dX11_tell_72 : decode cX11_tell 72 = .ok (.iload_n 2, 1) := by decide +kernel
theorem dX11_tell_73 : decode cX11_tell 73 = .ok (.iastore, 1) := by decide +kernel
theorem dX11_tell_74 : decode cX11_tell 74 = .ok (.aload 4, 2) := by decide +kernel
theorem dX11_tell_76 : decode cX11_tell 76 = .ok (.getfield 349, 3) := by decide +kernel
theorem dX11_tell_79 : decode cX11_tell 79 = .ok (.aload 4, 2) := by decide +kernel
theorem dX11_tell_81 : decode cX11_tell 81 = .ok (.getfield 344, 3) := by decide +kernel
theorem dX11_tell_84 : decode cX11_tell 84 = .ok (.iload_n 3, 1) := by decide +kernel
theorem dX11_tell_85 : decode cX11_tell 85 = .ok (.iconst 1, 1) := by decide +kernel
theorem dX11_tell_86 : decode cX11_tell 86 = .ok (.if_icmp .ne 7, 3) := by decide +kernel
theorem dX11_tell_89 : decode cX11_tell 89 = .ok (.iconst 1, 1) := by decide +kernel
theorem dX11_tell_90 : decode cX11_tell 90 = .ok (.goto 4, 3) := by decide +kernel
theorem dX11_tell_93 : decode cX11_tell 93 = .ok (.iconst 0, 1) := by decide +kernel
theorem dX11_tell_94 : decode cX11_tell 94 = .ok (.bastore, 1) := by decide +kernel
theorem dX11_tell_95 : decode cX11_tell 95 = .ok (.aload 4, 2) := by decide +kernel
theorem dX11_tell_97 : decode cX11_tell 97 = .ok (.dup, 1) := by decide +kernel
theorem dX11_tell_98 : decode cX11_tell 98 = .ok (.getfield 344, 3) := by decide +kernel
theorem dX11_tell_101 : decode cX11_tell 101 = .ok (.iconst 1, 1) := by decide +kernel
theorem dX11_tell_102 : decode cX11_tell 102 = .ok (.iadd, 1) := by decide +kernel
theorem dX11_tell_103 : decode cX11_tell 103 = .ok (.putfield 344, 3) := by decide +kernel
theorem dX11_tell_106 : decode cX11_tell 106 = .ok (.aload 4, 2) := by decide +kernel
theorem dX11_tell_108 : decode cX11_tell 108 = .ok (.getfield 344, 3) := by decide +kernel
theorem dX11_tell_111 : decode cX11_tell 111 = .ok (.ireturn, 1) := by decide +kernel
theorem dX11_jump_0 : decode cX11_jump 0 = .ok (.aload_n 0, 1) := by decide +kernel
theorem dX11_jump_1 : decode cX11_jump 1 = .ok (.getfield 10, 3) := by decide +kernel
theorem dX11_jump_4 : decode cX11_jump 4 = .ok (.iload_n 1, 1) := by decide +kernel
theorem dX11_jump_5 : decode cX11_jump 5 = .ok (.invokevirtual 336, 3) := by decide +kernel
theorem dX11_jump_8 : decode cX11_jump 8 = .ok (.astore_n 3, 1) := by decide +kernel
theorem dX11_jump_9 : decode cX11_jump 9 = .ok (.aload_n 3, 1) := by decide +kernel
theorem dX11_jump_10 : decode cX11_jump 10 = .ok (.ifnonnull 5, 3) := by decide +kernel
theorem dX11_jump_13 : decode cX11_jump 13 = .ok (.iconst (-1), 1) := by decide +kernel
theorem dX11_jump_14 : decode cX11_jump 14 = .ok (.ireturn, 1) := by decide +kernel
theorem dX11_jump_15 : decode cX11_jump 15 = .ok (.iconst 0, 1) := by decide +kernel
theorem dX11_jump_16 : decode cX11_jump 16 = .ok (.istore 4, 2) := by decide +kernel
theorem dX11_jump_18 : decode cX11_jump 18 = .ok (.iconst 0, 1) := by decide +kernel
theorem dX11_jump_19 : decode cX11_jump 19 = .ok (.istore 5, 2) := by decide +kernel
theorem dX11_jump_21 : decode cX11_jump 21 = .ok (.iload 5, 2) := by decide +kernel
theorem dX11_jump_23 : decode cX11_jump 23 = .ok (.aload_n 3, 1) := by decide +kernel
theorem dX11_jump_24 : decode cX11_jump 24 = .ok (.getfield 344, 3) := by decide +kernel
theorem dX11_jump_27 : decode cX11_jump 27 = .ok (.if_icmp .ge 34, 3) := by decide +kernel
theorem dX11_jump_30 : decode cX11_jump 30 = .ok (.aload_n 0, 1) := by decide +kernel
theorem dX11_jump_31 : decode cX11_jump 31 = .ok (.getfield 30, 3) := by decide +kernel
theorem dX11_jump_34 : decode cX11_jump 34 = .ok (.aload_n 3, 1) := by decide +kernel
theorem dX11_jump_35 : decode cX11_jump 35 = .ok (.iload 5, 2) := by decide +kernel
theorem dX11_jump_37 : decode cX11_jump 37 = .ok (.invokevirtual 352, 3) := by decide +kernel
theorem dX11_jump_40 : decode cX11_jump 40 = .ok (.ifCond .eq 15, 3) := by decide +kernel
theorem dX11_jump_43 : decode cX11_jump 43 = .ok (.iload 4, 2) := by decide +kernel
theorem dX11_jump_45 : decode cX11_jump 45 = .ok (.iload_n 2, 1) := by decide +kernel
theorem dX11_jump_46 : decode cX11_jump 46 = .ok (.if_icmp .ne 6, 3) := by decide +kernel
theorem dX11_jump_49 : decode cX11_jump 49 = .ok (.iload 5, 2) := by decide +kernel
theorem dX11_jump_51 : decode cX11_jump 51 = .ok (.ireturn, 1) := by decide +kernel
theorem dX11_jump_52 : decode cX11_jump 52 = .ok (.iinc 4 1, 3) := by decide +kernel
theorem dX11_jump_55 : decode cX11_jump 55 = .ok (.iinc 5 1, 3) := by decide +kernel
theorem dX11_jump_58 : decode cX11_jump 58 = .ok (.goto (-37), 3) := by decide +kernel
theorem dX11_jump_61 : decode cX11_jump 61 = .ok (.iload_n 2, 1) := by decide +kernel
theorem dX11_jump_62 : decode cX11_jump 62 = .ok (.iconst (-1), 1) := by decide +kernel
theorem dX11_jump_63 : decode cX11_jump 63 = .ok (.if_icmp .ne 8, 3) := by decide +kernel
theorem dX11_jump_66 : decode cX11_jump 66 = .ok (.iload 4, 2) := by decide +kernel
theorem dX11_jump_68 : decode cX11_jump 68 = .ok (.goto 4, 3) := by decide +kernel
theorem dX11_jump_71 : decode cX11_jump 71 = .ok (.iconst (-1), 1) := by decide +kernel
theorem dX11_jump_72 : decode cX11_jump 72 = .ok (.ireturn, 1) := by decide +kernel
theorem dX11_chain_0 : decode cX11_chain 0 = .ok (.aload_n 0, 1) := by decide +kernel
theorem dX11_chain_1 : decode cX11_chain 1 = .ok (.getfield 10, 3) := by decide +kernel
theorem dX11_chain_4 : decode cX11_chain 4 = .ok (.iload_n 1, 1) := by decide +kernel
theorem dX11_chain_5 : decode cX11_chain 5 = .ok (.invokevirtual 336, 3) := by decide +kernel
theorem dX11_chain_8 : decode cX11_chain 8 = .ok (.astore_n 2, 1) := by decide +kernel
theorem dX11_chain_9 : decode cX11_chain 9 = .ok (.aload_n 2, 1) := by decide +kernel
theorem dX11_chain_10 : decode cX11_chain 10 = .ok (.ifnonnull 7, 3) := by decide +kernel
theorem dX11_chain_13 : decode cX11_chain 13 = .ok (.iconst (-1), 1) := by decide +kernel
theorem dX11_chain_14 : decode cX11_chain 14 = .ok (.goto 11, 3) := by decide +kernel
theorem dX11_chain_17 : decode cX11_chain 17 = .ok (.aload_n 0, 1) := by decide +kernel
theorem dX11_chain_18 : decode cX11_chain 18 = .ok (.getfield 30, 3) := by decide +kernel
theorem dX11_chain_21 : decode cX11_chain 21 = .ok (.aload_n 2, 1) := by decide +kernel
theorem dX11_chain_22 : decode cX11_chain 22 = .ok (.invokevirtual 356, 3) := by decide +kernel
theorem dX11_chain_25 : decode cX11_chain 25 = .ok (.ireturn, 1) := by decide +kernel
theorem dX11_asks_0 : decode cX11_asks 0 = .ok (.aload_n 0, 1) := by decide +kernel
theorem dX11_asks_1 : decode cX11_asks 1 = .ok (.getfield 10, 3) := by decide +kernel
theorem dX11_asks_4 : decode cX11_asks 4 = .ok (.iload_n 1, 1) := by decide +kernel
theorem dX11_asks_5 : decode cX11_asks 5 = .ok (.invokevirtual 90, 3) := by decide +kernel
theorem dX11_asks_8 : decode cX11_asks 8 = .ok (.astore_n 3, 1) := by decide +kernel
theorem dX11_asks_9 : decode cX11_asks 9 = .ok (.aload_n 0, 1) := by decide +kernel
theorem dX11_asks_10 : decode cX11_asks 10 = .ok (.getfield 10, 3) := by decide +kernel
theorem dX11_asks_13 : decode cX11_asks 13 = .ok (.iload_n 2, 1) := by decide +kernel
theorem dX11_asks_14 : decode cX11_asks 14 = .ok (.invokevirtual 130, 3) := by decide +kernel
theorem dX11_asks_17 : decode cX11_asks 17 = .ok (.astore 4, 2) := by decide +kernel
theorem dX11_asks_19 : decode cX11_asks 19 = .ok (.aload_n 3, 1) := by decide +kernel
theorem dX11_asks_20 : decode cX11_asks 20 = .ok (.ifnull 24, 3) := by decide +kernel
theorem dX11_asks_23 : decode cX11_asks 23 = .ok (.aload 4, 2) := by decide +kernel
theorem dX11_asks_25 : decode cX11_asks 25 = .ok (.ifnull 19, 3) := by decide +kernel
theorem dX11_asks_28 : decode cX11_asks 28 = .ok (.aload_n 3, 1) := by decide +kernel
theorem dX11_asks_29 : decode cX11_asks 29 = .ok (.invokevirtual 94, 3) := by decide +kernel
theorem dX11_asks_32 : decode cX11_asks 32 = .ok (.ifCond .ne 12, 3) := by decide +kernel
theorem dX11_asks_35 : decode cX11_asks 35 = .ok (.aload 4, 2) := by decide +kernel
theorem dX11_asks_37 : decode cX11_asks 37 = .ok (.iload_n 1, 1) := by decide +kernel
theorem dX11_asks_38 : decode cX11_asks 38 = .ok (.invokevirtual 360, 3) := by decide +kernel
theorem dX11_asks_41 : decode cX11_asks 41 = .ok (.ifCond .eq 5, 3) := by decide +kernel
theorem dX11_asks_44 : decode cX11_asks 44 = .ok (.iconst (-1), 1) := by decide +kernel
theorem dX11_asks_45 : decode cX11_asks 45 = .ok (.ireturn, 1) := by decide +kernel
theorem dX11_asks_46 : decode cX11_asks 46 = .ok (.aload_n 0, 1) := by decide +kernel
theorem dX11_asks_47 : decode cX11_asks 47 = .ok (.getfield 10, 3) := by decide +kernel
theorem dX11_asks_50 : decode cX11_asks 50 = .ok (.aload 4, 2) := by decide +kernel
theorem dX11_asks_52 : decode cX11_asks 52 = .ok (.getfield 274, 3) := by decide +kernel
theorem dX11_asks_55 : decode cX11_asks 55 = .ok (.invokevirtual 90, 3) := by decide +kernel
theorem dX11_asks_58 : decode cX11_asks 58 = .ok (.astore 5, 2) := by decide +kernel
theorem dX11_asks_60 : decode cX11_asks 60 = .ok (.aload 5, 2) := by decide +kernel
theorem dX11_asks_62 : decode cX11_asks 62 = .ok (.ifnull 11, 3) := by decide +kernel
theorem dX11_asks_65 : decode cX11_asks 65 = .ok (.aload 5, 2) := by decide +kernel
theorem dX11_asks_67 : decode cX11_asks 67 = .ok (.invokevirtual 94, 3) := by decide +kernel
theorem dX11_asks_70 : decode cX11_asks 70 = .ok (.ifCond .ne 6, 3) := by decide +kernel
theorem dX11_asks_73 : decode cX11_asks 73 = .ok (.bipush (-2), 2) := by decide +kernel
theorem dX11_asks_75 : decode cX11_asks 75 = .ok (.ireturn, 1) := by decide +kernel
theorem dX11_asks_76 : decode cX11_asks 76 = .ok (.aload 4, 2) := by decide +kernel
theorem dX11_asks_78 : decode cX11_asks 78 = .ok (.getfield 363, 3) := by decide +kernel
theorem dX11_asks_81 : decode cX11_asks 81 = .ok (.bipush 8, 2) := by decide +kernel
theorem dX11_asks_83 : decode cX11_asks 83 = .ok (.if_icmp .lt 6, 3) := by decide +kernel
theorem dX11_asks_86 : decode cX11_asks 86 = .ok (.bipush (-3), 2) := by decide +kernel
theorem dX11_asks_88 : decode cX11_asks 88 = .ok (.ireturn, 1) := by decide +kernel
theorem dX11_asks_89 : decode cX11_asks 89 = .ok (.aload 4, 2) := by decide +kernel
theorem dX11_asks_91 : decode cX11_asks 91 = .ok (.getfield 366, 3) := by decide +kernel
theorem dX11_asks_94 : decode cX11_asks 94 = .ok (.aload 4, 2) := by decide +kernel
theorem dX11_asks_96 : decode cX11_asks 96 = .ok (.getfield 363, 3) := by decide +kernel
theorem dX11_asks_99 : decode cX11_asks 99 = .ok (.iload_n 1, 1) := by decide +kernel
theorem dX11_asks_100 : decode cX11_asks 100 = .ok (.iastore, 1) := by decide +kernel
theorem dX11_asks_101 : decode cX11_asks 101 = .ok (.aload 4, 2) := by decide +kernel
theorem dX11_asks_103 : decode cX11_asks 103 = .ok (.dup, 1) := by decide +kernel
theorem dX11_asks_104 : decode cX11_asks 104 = .ok (.getfield 363, 3) := by decide +kernel
theorem dX11_asks_107 : decode cX11_asks 107 = .ok (.iconst 1, 1) := by decide +kernel
theorem dX11_asks_108 : decode cX11_asks 108 = .ok (.iadd, 1) := by decide +kernel
theorem dX11_asks_109 : decode cX11_asks 109 = .ok (.putfield 363, 3) := by decide +kernel
theorem dX11_asks_112 : decode cX11_asks 112 = .ok (.aload 4, 2) := by decide +kernel
theorem dX11_asks_114 : decode cX11_asks 114 = .ok (.getfield 363, 3) := by decide +kernel
theorem dX11_asks_117 : decode cX11_asks 117 = .ok (.ireturn, 1) := by decide +kernel
theorem dX11_taker_0 : decode cX11_taker 0 = .ok (.aload_n 0, 1) := by decide +kernel
theorem dX11_taker_1 : decode cX11_taker 1 = .ok (.getfield 10, 3) := by decide +kernel
theorem dX11_taker_4 : decode cX11_taker 4 = .ok (.iload_n 1, 1) := by decide +kernel
theorem dX11_taker_5 : decode cX11_taker 5 = .ok (.invokevirtual 130, 3) := by decide +kernel
theorem dX11_taker_8 : decode cX11_taker 8 = .ok (.astore_n 2, 1) := by decide +kernel
theorem dX11_taker_9 : decode cX11_taker 9 = .ok (.aload_n 2, 1) := by decide +kernel
theorem dX11_taker_10 : decode cX11_taker 10 = .ok (.ifnonnull 7, 3) := by decide +kernel
theorem dX11_taker_13 : decode cX11_taker 13 = .ok (.iconst (-1), 1) := by decide +kernel
theorem dX11_taker_14 : decode cX11_taker 14 = .ok (.goto 8, 3) := by decide +kernel
theorem dX11_taker_17 : decode cX11_taker 17 = .ok (.aload_n 0, 1) := by decide +kernel
theorem dX11_taker_18 : decode cX11_taker 18 = .ok (.aload_n 2, 1) := by decide +kernel
theorem dX11_taker_19 : decode cX11_taker 19 = .ok (.invokevirtual 369, 3) := by decide +kernel
theorem dX11_taker_22 : decode cX11_taker 22 = .ok (.ireturn, 1) := by decide +kernel
theorem dX11_take_0 : decode cX11_take 0 = .ok (.aload_n 0, 1) := by decide +kernel
theorem dX11_take_1 : decode cX11_take 1 = .ok (.getfield 10, 3) := by decide +kernel
theorem dX11_take_4 : decode cX11_take 4 = .ok (.iload_n 1, 1) := by decide +kernel
theorem dX11_take_5 : decode cX11_take 5 = .ok (.invokevirtual 130, 3) := by decide +kernel
theorem dX11_take_8 : decode cX11_take 8 = .ok (.astore_n 2, 1) := by decide +kernel
theorem dX11_take_9 : decode cX11_take 9 = .ok (.aload_n 2, 1) := by decide +kernel
theorem dX11_take_10 : decode cX11_take 10 = .ok (.ifnonnull 5, 3) := by decide +kernel
theorem dX11_take_13 : decode cX11_take 13 = .ok (.iconst (-1), 1) := by decide +kernel
theorem dX11_take_14 : decode cX11_take 14 = .ok (.ireturn, 1) := by decide +kernel
theorem dX11_take_15 : decode cX11_take 15 = .ok (.aload_n 0, 1) := by decide +kernel
theorem dX11_take_16 : decode cX11_take 16 = .ok (.aload_n 2, 1) := by decide +kernel
theorem dX11_take_17 : decode cX11_take 17 = .ok (.invokevirtual 369, 3) := by decide +kernel
theorem dX11_take_20 : decode cX11_take 20 = .ok (.istore_n 3, 1) := by decide +kernel
theorem dX11_take_21 : decode cX11_take 21 = .ok (.iload_n 3, 1) := by decide +kernel
theorem dX11_take_22 : decode cX11_take 22 = .ok (.ifCond .lt 13, 3) := by decide +kernel
theorem dX11_take_25 : decode cX11_take 25 = .ok (.aload_n 2, 1) := by decide +kernel
theorem dX11_take_26 : decode cX11_take 26 = .ok (.iload_n 3, 1) := by decide +kernel
theorem dX11_take_27 : decode cX11_take 27 = .ok (.putfield 274, 3) := by decide +kernel
theorem dX11_take_30 : decode cX11_take 30 = .ok (.aload_n 2, 1) := by decide +kernel
theorem dX11_take_31 : decode cX11_take 31 = .ok (.iconst 0, 1) := by decide +kernel
theorem dX11_take_32 : decode cX11_take 32 = .ok (.putfield 363, 3) := by decide +kernel
theorem dX11_take_35 : decode cX11_take 35 = .ok (.iload_n 3, 1) := by decide +kernel
theorem dX11_take_36 : decode cX11_take 36 = .ok (.ireturn, 1) := by decide +kernel
theorem dX11_toPut_0 : decode cX11_toPut 0 = .ok (.iconst 0, 1) := by decide +kernel
theorem dX11_toPut_1 : decode cX11_toPut 1 = .ok (.istore_n 2, 1) := by decide +kernel
theorem dX11_toPut_2 : decode cX11_toPut 2 = .ok (.iconst 0, 1) := by decide +kernel
theorem dX11_toPut_3 : decode cX11_toPut 3 = .ok (.istore_n 3, 1) := by decide +kernel
theorem dX11_toPut_4 : decode cX11_toPut 4 = .ok (.iload_n 3, 1) := by decide +kernel
theorem dX11_toPut_5 : decode cX11_toPut 5 = .ok (.aload_n 0, 1) := by decide +kernel
theorem dX11_toPut_6 : decode cX11_toPut 6 = .ok (.getfield 10, 3) := by decide +kernel
theorem dX11_toPut_9 : decode cX11_toPut 9 = .ok (.getfield 70, 3) := by decide +kernel
theorem dX11_toPut_12 : decode cX11_toPut 12 = .ok (.if_icmp .ge 34, 3) := by decide +kernel
theorem dX11_toPut_15 : decode cX11_toPut 15 = .ok (.aload_n 0, 1) := by decide +kernel
theorem dX11_toPut_16 : decode cX11_toPut 16 = .ok (.aload_n 0, 1) := by decide +kernel
theorem dX11_toPut_17 : decode cX11_toPut 17 = .ok (.getfield 10, 3) := by decide +kernel
theorem dX11_toPut_20 : decode cX11_toPut 20 = .ok (.iload_n 3, 1) := by decide +kernel
theorem dX11_toPut_21 : decode cX11_toPut 21 = .ok (.invokevirtual 130, 3) := by decide +kernel
theorem dX11_toPut_24 : decode cX11_toPut 24 = .ok (.invokevirtual 372, 3) := by decide +kernel
theorem dX11_toPut_27 : decode cX11_toPut 27 = .ok (.ifCond .eq 13, 3) := by decide +kernel
theorem dX11_toPut_30 : decode cX11_toPut 30 = .ok (.iload_n 2, 1) := by decide +kernel
theorem dX11_toPut_31 : decode cX11_toPut 31 = .ok (.iload_n 1, 1) := by decide +kernel
theorem dX11_toPut_32 : decode cX11_toPut 32 = .ok (.if_icmp .ne 5, 3) := by decide +kernel
theorem dX11_toPut_35 : decode cX11_toPut 35 = .ok (.iload_n 3, 1) := by decide +kernel
theorem dX11_toPut_36 : decode cX11_toPut 36 = .ok (.ireturn, 1) := by decide +kernel
theorem dX11_toPut_37 : decode cX11_toPut 37 = .ok (.iinc 2 1, 3) := by decide +kernel
theorem dX11_toPut_40 : decode cX11_toPut 40 = .ok (.iinc 3 1, 3) := by decide +kernel
theorem dX11_toPut_43 : decode cX11_toPut 43 = .ok (.goto (-39), 3) := by decide +kernel
theorem dX11_toPut_46 : decode cX11_toPut 46 = .ok (.iload_n 1, 1) := by decide +kernel
theorem dX11_toPut_47 : decode cX11_toPut 47 = .ok (.iconst (-1), 1) := by decide +kernel
theorem dX11_toPut_48 : decode cX11_toPut 48 = .ok (.if_icmp .ne 7, 3) := by decide +kernel
theorem dX11_toPut_51 : decode cX11_toPut 51 = .ok (.iload_n 2, 1) := by decide +kernel
theorem dX11_toPut_52 : decode cX11_toPut 52 = .ok (.goto 4, 3) := by decide +kernel
theorem dX11_toPut_55 : decode cX11_toPut 55 = .ok (.iconst (-1), 1) := by decide +kernel
theorem dX11_toPut_56 : decode cX11_toPut 56 = .ok (.ireturn, 1) := by decide +kernel
theorem dX11_putAll_0 : decode cX11_putAll 0 = .ok (.iconst 0, 1) := by decide +kernel
theorem dX11_putAll_1 : decode cX11_putAll 1 = .ok (.istore_n 1, 1) := by decide +kernel
theorem dX11_putAll_2 : decode cX11_putAll 2 = .ok (.iconst 0, 1) := by decide +kernel
theorem dX11_putAll_3 : decode cX11_putAll 3 = .ok (.istore_n 2, 1) := by decide +kernel
theorem dX11_putAll_4 : decode cX11_putAll 4 = .ok (.iload_n 2, 1) := by decide +kernel
theorem dX11_putAll_5 : decode cX11_putAll 5 = .ok (.aload_n 0, 1) := by decide +kernel
theorem dX11_putAll_6 : decode cX11_putAll 6 = .ok (.getfield 10, 3) := by decide +kernel
theorem dX11_putAll_9 : decode cX11_putAll 9 = .ok (.getfield 70, 3) := by decide +kernel
theorem dX11_putAll_12 : decode cX11_putAll 12 = .ok (.if_icmp .ge 44, 3) := by decide +kernel
theorem dX11_putAll_15 : decode cX11_putAll 15 = .ok (.aload_n 0, 1) := by decide +kernel
theorem dX11_putAll_16 : decode cX11_putAll 16 = .ok (.getfield 10, 3) := by decide +kernel
theorem dX11_putAll_19 : decode cX11_putAll 19 = .ok (.iload_n 2, 1) := by decide +kernel
theorem dX11_putAll_20 : decode cX11_putAll 20 = .ok (.invokevirtual 130, 3) := by decide +kernel
theorem dX11_putAll_23 : decode cX11_putAll 23 = .ok (.astore_n 3, 1) := by decide +kernel
theorem dX11_putAll_24 : decode cX11_putAll 24 = .ok (.aload_n 3, 1) := by decide +kernel
theorem dX11_putAll_25 : decode cX11_putAll 25 = .ok (.ifnull 25, 3) := by decide +kernel
theorem dX11_putAll_28 : decode cX11_putAll 28 = .ok (.aload_n 0, 1) := by decide +kernel
theorem dX11_putAll_29 : decode cX11_putAll 29 = .ok (.aload_n 3, 1) := by decide +kernel
theorem dX11_putAll_30 : decode cX11_putAll 30 = .ok (.invokevirtual 372, 3) := by decide +kernel
theorem dX11_putAll_33 : decode cX11_putAll 33 = .ok (.ifCond .eq 17, 3) := by decide +kernel
theorem dX11_putAll_36 : decode cX11_putAll 36 = .ok (.aload_n 3, 1) := by decide +kernel
theorem dX11_putAll_37 : decode cX11_putAll 37 = .ok (.aload_n 0, 1) := by decide +kernel
theorem dX11_putAll_38 : decode cX11_putAll 38 = .ok (.getfield 10, 3) := by decide +kernel
theorem dX11_putAll_41 : decode cX11_putAll 41 = .ok (.getfield 52, 3) := by decide +kernel
theorem dX11_putAll_44 : decode cX11_putAll 44 = .ok (.putfield 153, 3) := by decide +kernel
theorem dX11_putAll_47 : decode cX11_putAll 47 = .ok (.iinc 1 1, 3) := by decide +kernel
theorem dX11_putAll_50 : decode cX11_putAll 50 = .ok (.iinc 2 1, 3) := by decide +kernel
theorem dX11_putAll_53 : decode cX11_putAll 53 = .ok (.goto (-49), 3) := by decide +kernel
theorem dX11_putAll_56 : decode cX11_putAll 56 = .ok (.iload_n 1, 1) := by decide +kernel
theorem dX11_putAll_57 : decode cX11_putAll 57 = .ok (.ireturn, 1) := by decide +kernel
theorem dX11_wish_0 : decode cX11_wish 0 = .ok (.aload_n 0, 1) := by decide +kernel
theorem dX11_wish_1 : decode cX11_wish 1 = .ok (.getfield 10, 3) := by decide +kernel
theorem dX11_wish_4 : decode cX11_wish 4 = .ok (.iload_n 1, 1) := by decide +kernel
theorem dX11_wish_5 : decode cX11_wish 5 = .ok (.invokevirtual 130, 3) := by decide +kernel
theorem dX11_wish_8 : decode cX11_wish 8 = .ok (.astore 4, 2) := by decide +kernel
theorem dX11_wish_10 : decode cX11_wish 10 = .ok (.aload 4, 2) := by decide +kernel
theorem dX11_wish_12 : decode cX11_wish 12 = .ok (.ifnull 43, 3) := by decide +kernel
theorem dX11_wish_15 : decode cX11_wish 15 = .ok (.aload 4, 2) := by decide +kernel
theorem dX11_wish_17 : decode cX11_wish 17 = .ok (.invokevirtual 137, 3) := by decide +kernel
theorem dX11_wish_20 : decode cX11_wish 20 = .ok (.ifCond .ne 35, 3) := by decide +kernel
theorem dX11_wish_23 : decode cX11_wish 23 = .ok (.aload_n 0, 1) := by decide +kernel
theorem dX11_wish_24 : decode cX11_wish 24 = .ok (.getfield 37, 3) := by decide +kernel
theorem dX11_wish_27 : decode cX11_wish 27 = .ok (.iload_n 1, 1) := by decide +kernel
theorem dX11_wish_28 : decode cX11_wish 28 = .ok (.invokevirtual 376, 3) := by decide +kernel
theorem dX11_wish_31 : decode cX11_wish 31 = .ok (.ifCond .ne 24, 3) := by decide +kernel
theorem dX11_wish_34 : decode cX11_wish 34 = .ok (.iload_n 2, 1) := by decide +kernel
theorem dX11_wish_35 : decode cX11_wish 35 = .ok (.iconst 1, 1) := by decide +kernel
theorem dX11_wish_36 : decode cX11_wish 36 = .ok (.if_icmp .lt 19, 3) := by decide +kernel
theorem dX11_wish_39 : decode cX11_wish 39 = .ok (.iload_n 2, 1) := by decide +kernel
theorem dX11_wish_40 : decode cX11_wish 40 = .ok (.bipush 99, 2) := by decide +kernel
theorem dX11_wish_42 : decode cX11_wish 42 = .ok (.if_icmp .gt 13, 3) := by decide +kernel
theorem dX11_wish_45 : decode cX11_wish 45 = .ok (.iload_n 3, 1) := by decide +kernel
theorem dX11_wish_46 : decode cX11_wish 46 = .ok (.ifCond .lt 9, 3) := by decide +kernel
theorem dX11_wish_49 : decode cX11_wish 49 = .ok (.iload_n 3, 1) := by decide +kernel
theorem dX11_wish_50 : decode cX11_wish 50 = .ok (.bipush 9, 2) := by decide +kernel
theorem dX11_wish_52 : decode cX11_wish 52 = .ok (.if_icmp .le 5, 3) := by decide +kernel
theorem dX11_wish_55 : decode cX11_wish 55 = .ok (.iconst (-1), 1) := by decide +kernel
theorem dX11_wish_56 : decode cX11_wish 56 = .ok (.ireturn, 1) := by decide +kernel
theorem dX11_wish_57 : decode cX11_wish 57 = .ok (.aload_n 0, 1) := by decide +kernel
theorem dX11_wish_58 : decode cX11_wish 58 = .ok (.getfield 37, 3) := by decide +kernel
theorem dX11_wish_61 : decode cX11_wish 61 = .ok (.getfield 379, 3) := by decide +kernel
theorem dX11_wish_64 : decode cX11_wish 64 = .ok (.bipush 7, 2) := by decide +kernel
theorem dX11_wish_66 : decode cX11_wish 66 = .ok (.if_icmp .lt 6, 3) := by decide +kernel
theorem dX11_wish_69 : decode cX11_wish 69 = .ok (.bipush (-3), 2) := by decide +kernel
theorem dX11_wish_71 : decode cX11_wish 71 = .ok (.ireturn, 1) := by decide +kernel
theorem dX11_wish_72 : decode cX11_wish 72 = .ok (.aload_n 0, 1) := by decide +kernel
theorem dX11_wish_73 : decode cX11_wish 73 = .ok (.getfield 37, 3) := by decide +kernel
theorem dX11_wish_76 : decode cX11_wish 76 = .ok (.aload 4, 2) := by decide +kernel
theorem dX11_wish_78 : decode cX11_wish 78 = .ok (.iload_n 2, 1) := by decide +kernel
theorem dX11_wish_79 : decode cX11_wish 79 = .ok (.iload_n 3, 1) := by decide +kernel
theorem dX11_wish_80 : decode cX11_wish 80 = .ok (.invokevirtual 382, 3) := by decide +kernel
theorem dX11_wish_83 : decode cX11_wish 83 = .ok (.ireturn, 1) := by decide +kernel
theorem dX11_walk_0 : decode cX11_walk 0 = .ok (.iload_n 1, 1) := by decide +kernel
theorem dX11_walk_1 : decode cX11_walk 1 = .ok (.iload_n 2, 1) := by decide +kernel
theorem dX11_walk_2 : decode cX11_walk 2 = .ok (.invokestatic 386, 3) := by decide +kernel
theorem dX11_walk_5 : decode cX11_walk 5 = .ok (.ifCond .ne 5, 3) := by decide +kernel
theorem dX11_walk_8 : decode cX11_walk 8 = .ok (.iconst (-1), 1) := by decide +kernel
theorem dX11_walk_9 : decode cX11_walk 9 = .ok (.ireturn, 1) := by decide +kernel
theorem dX11_walk_10 : decode cX11_walk 10 = .ok (.aload_n 0, 1) := by decide +kernel
theorem dX11_walk_11 : decode cX11_walk 11 = .ok (.getfield 37, 3) := by decide +kernel
theorem dX11_walk_14 : decode cX11_walk 14 = .ok (.iload_n 1, 1) := by decide +kernel
theorem dX11_walk_15 : decode cX11_walk 15 = .ok (.iload_n 2, 1) := by decide +kernel
theorem dX11_walk_16 : decode cX11_walk 16 = .ok (.invokevirtual 389, 3) := by decide +kernel
theorem dX11_walk_19 : decode cX11_walk 19 = .ok (.ifCond .eq 13, 3) := by decide +kernel
theorem dX11_walk_22 : decode cX11_walk 22 = .ok (.aload_n 0, 1) := by decide +kernel
theorem dX11_walk_23 : decode cX11_walk 23 = .ok (.getfield 37, 3) := by decide +kernel
theorem dX11_walk_26 : decode cX11_walk 26 = .ok (.invokevirtual 392, 3) := by decide +kernel
theorem dX11_walk_29 : decode cX11_walk 29 = .ok (.goto 5, 3) := by decide +kernel
theorem dX11_walk_32 : decode cX11_walk 32 = .ok (.bipush (-2), 2) := by decide +kernel
theorem dX11_walk_34 : decode cX11_walk 34 = .ok (.ireturn, 1) := by decide +kernel
theorem dX11_walked_0 : decode cX11_walked 0 = .ok (.iload_n 1, 1) := by decide +kernel
theorem dX11_walked_1 : decode cX11_walked 1 = .ok (.iconst (-1), 1) := by decide +kernel
theorem dX11_walked_2 : decode cX11_walked 2 = .ok (.if_icmp .lt 24, 3) := by decide +kernel
theorem dX11_walked_5 : decode cX11_walked 5 = .ok (.aload_n 0, 1) := by decide +kernel
theorem dX11_walked_6 : decode cX11_walked 6 = .ok (.getfield 37, 3) := by decide +kernel
theorem dX11_walked_9 : decode cX11_walked 9 = .ok (.getfield 395, 3) := by decide +kernel
theorem dX11_walked_12 : decode cX11_walked 12 = .ok (.ifCond .lt 14, 3) := by decide +kernel
theorem dX11_walked_15 : decode cX11_walked 15 = .ok (.iload_n 1, 1) := by decide +kernel
theorem dX11_walked_16 : decode cX11_walked 16 = .ok (.aload_n 0, 1) := by decide +kernel
theorem dX11_walked_17 : decode cX11_walked 17 = .ok (.getfield 37, 3) := by decide +kernel
theorem dX11_walked_20 : decode cX11_walked 20 = .ok (.getfield 398, 3) := by decide +kernel
theorem dX11_walked_23 : decode cX11_walked 23 = .ok (.if_icmp .lt 5, 3) := by decide +kernel
theorem dX11_walked_26 : decode cX11_walked 26 = .ok (.iconst (-1), 1) := by decide +kernel
theorem dX11_walked_27 : decode cX11_walked 27 = .ok (.ireturn, 1) := by decide +kernel
theorem dX11_walked_28 : decode cX11_walked 28 = .ok (.iload_n 1, 1) := by decide +kernel
theorem dX11_walked_29 : decode cX11_walked 29 = .ok (.iconst (-1), 1) := by decide +kernel
theorem dX11_walked_30 : decode cX11_walked 30 = .ok (.if_icmp .ne 13, 3) := by decide +kernel
theorem dX11_walked_33 : decode cX11_walked 33 = .ok (.aload_n 0, 1) := by decide +kernel
theorem dX11_walked_34 : decode cX11_walked 34 = .ok (.getfield 37, 3) := by decide +kernel
theorem dX11_walked_37 : decode cX11_walked 37 = .ok (.getfield 395, 3) := by decide +kernel
theorem dX11_walked_40 : decode cX11_walked 40 = .ok (.goto 12, 3) := by decide +kernel
theorem dX11_walked_43 : decode cX11_walked 43 = .ok (.aload_n 0, 1) := by decide +kernel
theorem dX11_walked_44 : decode cX11_walked 44 = .ok (.getfield 37, 3) := by decide +kernel
theorem dX11_walked_47 : decode cX11_walked 47 = .ok (.getfield 401, 3) := by decide +kernel
theorem dX11_walked_50 : decode cX11_walked 50 = .ok (.iload_n 1, 1) := by decide +kernel
theorem dX11_walked_51 : decode cX11_walked 51 = .ok (.iaload, 1) := by decide +kernel
theorem dX11_walked_52 : decode cX11_walked 52 = .ok (.ireturn, 1) := by decide +kernel
theorem dX11_judge_0 : decode cX11_judge 0 = .ok (.iload_n 1, 1) := by decide +kernel
theorem dX11_judge_1 : decode cX11_judge 1 = .ok (.iload_n 2, 1) := by decide +kernel
theorem dX11_judge_2 : decode cX11_judge 2 = .ok (.invokestatic 386, 3) := by decide +kernel
theorem dX11_judge_5 : decode cX11_judge 5 = .ok (.ifCond .eq 14, 3) := by decide +kernel
theorem dX11_judge_8 : decode cX11_judge 8 = .ok (.aload_n 0, 1) := by decide +kernel
theorem dX11_judge_9 : decode cX11_judge 9 = .ok (.getfield 37, 3) := by decide +kernel
theorem dX11_judge_12 : decode cX11_judge 12 = .ok (.iload_n 3, 1) := by decide +kernel
theorem dX11_judge_13 : decode cX11_judge 13 = .ok (.invokevirtual 404, 3) := by decide +kernel
theorem dX11_judge_16 : decode cX11_judge 16 = .ok (.ifCond .ne 5, 3) := by decide +kernel
theorem dX11_judge_19 : decode cX11_judge 19 = .ok (.iconst (-1), 1) := by decide +kernel
theorem dX11_judge_20 : decode cX11_judge 20 = .ok (.ireturn, 1) := by decide +kernel
theorem dX11_judge_21 : decode cX11_judge 21 = .ok (.aload_n 0, 1) := by decide +kernel
theorem dX11_judge_22 : decode cX11_judge 22 = .ok (.getfield 37, 3) := by decide +kernel
theorem dX11_judge_25 : decode cX11_judge 25 = .ok (.iload_n 1, 1) := by decide +kernel
theorem dX11_judge_26 : decode cX11_judge 26 = .ok (.invokevirtual 407, 3) := by decide +kernel
theorem dX11_judge_29 : decode cX11_judge 29 = .ok (.istore 4, 2) := by decide +kernel
theorem dX11_judge_31 : decode cX11_judge 31 = .ok (.iload 4, 2) := by decide +kernel
theorem dX11_judge_33 : decode cX11_judge 33 = .ok (.iload_n 2, 1) := by decide +kernel
theorem dX11_judge_34 : decode cX11_judge 34 = .ok (.if_icmp .le 8, 3) := by decide +kernel
theorem dX11_judge_37 : decode cX11_judge 37 = .ok (.bipush (-2), 2) := by decide +kernel
theorem dX11_judge_39 : decode cX11_judge 39 = .ok (.goto 5, 3) := by decide +kernel
theorem dX11_judge_42 : decode cX11_judge 42 = .ok (.iload 4, 2) := by decide +kernel
theorem dX11_judge_44 : decode cX11_judge 44 = .ok (.ireturn, 1) := by decide +kernel
theorem dX11_lookAt_0 : decode cX11_lookAt 0 = .ok (.aload_n 0, 1) := by decide +kernel
theorem dX11_lookAt_1 : decode cX11_lookAt 1 = .ok (.getfield 10, 3) := by decide +kernel
theorem dX11_lookAt_4 : decode cX11_lookAt 4 = .ok (.iload_n 1, 1) := by decide +kernel
theorem dX11_lookAt_5 : decode cX11_lookAt 5 = .ok (.invokevirtual 130, 3) := by decide +kernel
theorem dX11_lookAt_8 : decode cX11_lookAt 8 = .ok (.astore_n 3, 1) := by decide +kernel
theorem dX11_lookAt_9 : decode cX11_lookAt 9 = .ok (.aload_n 3, 1) := by decide +kernel
theorem dX11_lookAt_10 : decode cX11_lookAt 10 = .ok (.ifnull 12, 3) := by decide +kernel
theorem dX11_lookAt_13 : decode cX11_lookAt 13 = .ok (.iload_n 2, 1) := by decide +kernel
theorem dX11_lookAt_14 : decode cX11_lookAt 14 = .ok (.ifCond .lt 8, 3) := by decide +kernel
theorem dX11_lookAt_17 : decode cX11_lookAt 17 = .ok (.iload_n 2, 1) := by decide +kernel
theorem dX11_lookAt_18 : decode cX11_lookAt 18 = .ok (.iconst 1, 1) := by decide +kernel
theorem dX11_lookAt_19 : decode cX11_lookAt 19 = .ok (.if_icmp .le 5, 3) := by decide +kernel
theorem dX11_lookAt_22 : decode cX11_lookAt 22 = .ok (.iconst (-1), 1) := by decide +kernel
theorem dX11_lookAt_23 : decode cX11_lookAt 23 = .ok (.ireturn, 1) := by decide +kernel
theorem dX11_lookAt_24 : decode cX11_lookAt 24 = .ok (.aload_n 3, 1) := by decide +kernel
theorem dX11_lookAt_25 : decode cX11_lookAt 25 = .ok (.getfield 410, 3) := by decide +kernel
theorem dX11_lookAt_28 : decode cX11_lookAt 28 = .ok (.ifCond .gt 17, 3) := by decide +kernel
theorem dX11_lookAt_31 : decode cX11_lookAt 31 = .ok (.aload_n 3, 1) := by decide +kernel
theorem dX11_lookAt_32 : decode cX11_lookAt 32 = .ok (.invokevirtual 137, 3) := by decide +kernel
theorem dX11_lookAt_35 : decode cX11_lookAt 35 = .ok (.ifCond .ne 10, 3) := by decide +kernel
theorem dX11_lookAt_38 : decode cX11_lookAt 38 = .ok (.aload_n 3, 1) := by decide +kernel
theorem dX11_lookAt_39 : decode cX11_lookAt 39 = .ok (.invokevirtual 413, 3) := by decide +kernel
theorem dX11_lookAt_42 : decode cX11_lookAt 42 = .ok (.ifCond .eq 6, 3) := by decide +kernel
theorem dX11_lookAt_45 : decode cX11_lookAt 45 = .ok (.bipush (-2), 2) := by decide +kernel
theorem dX11_lookAt_47 : decode cX11_lookAt 47 = .ok (.ireturn, 1) := by decide +kernel
theorem dX11_lookAt_48 : decode cX11_lookAt 48 = .ok (.aload_n 3, 1) := by decide +kernel
theorem dX11_lookAt_49 : decode cX11_lookAt 49 = .ok (.iload_n 2, 1) := by decide +kernel
theorem dX11_lookAt_50 : decode cX11_lookAt 50 = .ok (.putfield 416, 3) := by decide +kernel
theorem dX11_lookAt_53 : decode cX11_lookAt 53 = .ok (.iconst 0, 1) := by decide +kernel
theorem dX11_lookAt_54 : decode cX11_lookAt 54 = .ok (.istore 4, 2) := by decide +kernel
theorem dX11_lookAt_56 : decode cX11_lookAt 56 = .ok (.iconst 0, 1) := by decide +kernel
theorem dX11_lookAt_57 : decode cX11_lookAt 57 = .ok (.istore 5, 2) := by decide +kernel
theorem dX11_lookAt_59 : decode cX11_lookAt 59 = .ok (.iload 5, 2) := by decide +kernel
theorem dX11_lookAt_61 : decode cX11_lookAt 61 = .ok (.aload_n 0, 1) := by decide +kernel
theorem dX11_lookAt_62 : decode cX11_lookAt 62 = .ok (.getfield 10, 3) := by decide +kernel
theorem dX11_lookAt_65 : decode cX11_lookAt 65 = .ok (.getfield 70, 3) := by decide +kernel
theorem dX11_lookAt_68 : decode cX11_lookAt 68 = .ok (.if_icmp .ge 36, 3) := by decide +kernel
theorem dX11_lookAt_71 : decode cX11_lookAt 71 = .ok (.aload_n 0, 1) := by decide +kernel
theorem dX11_lookAt_72 : decode cX11_lookAt 72 = .ok (.getfield 10, 3) := by decide +kernel
theorem dX11_lookAt_75 : decode cX11_lookAt 75 = .ok (.iload 5, 2) := by decide +kernel
theorem dX11_lookAt_77 : decode cX11_lookAt 77 = .ok (.invokevirtual 130, 3) := by decide +kernel
theorem dX11_lookAt_80 : decode cX11_lookAt 80 = .ok (.astore 6, 2) := by decide +kernel
theorem dX11_lookAt_82 : decode cX11_lookAt 82 = .ok (.aload 6, 2) := by decide +kernel
theorem dX11_lookAt_84 : decode cX11_lookAt 84 = .ok (.ifnull 14, 3) := by decide +kernel
theorem dX11_lookAt_87 : decode cX11_lookAt 87 = .ok (.aload 6, 2) := by decide +kernel
theorem dX11_lookAt_89 : decode cX11_lookAt 89 = .ok (.invokevirtual 413, 3) := by decide +kernel
theorem dX11_lookAt_92 : decode cX11_lookAt 92 = .ok (.ifCond .eq 6, 3) := by decide +kernel
theorem dX11_lookAt_95 : decode cX11_lookAt 95 = .ok (.iinc 4 1, 3) := by decide +kernel
theorem dX11_lookAt_98 : decode cX11_lookAt 98 = .ok (.iinc 5 1, 3) := by decide +kernel
theorem dX11_lookAt_101 : decode cX11_lookAt 101 = .ok (.goto (-42), 3) := by decide +kernel
theorem dX11_lookAt_104 : decode cX11_lookAt 104 = .ok (.iload 4, 2) := by decide +kernel
theorem dX11_lookAt_106 : decode cX11_lookAt 106 = .ok (.ireturn, 1) := by decide +kernel
theorem dX11_nobody_0 : decode cX11_nobody 0 = .ok (.iload_n 1, 1) := by decide +kernel
theorem dX11_nobody_1 : decode cX11_nobody 1 = .ok (.ifCond .lt 8, 3) := by decide +kernel
theorem dX11_nobody_4 : decode cX11_nobody 4 = .ok (.iload_n 1, 1) := by decide +kernel
theorem dX11_nobody_5 : decode cX11_nobody 5 = .ok (.iconst 3, 1) := by decide +kernel
theorem dX11_nobody_6 : decode cX11_nobody 6 = .ok (.if_icmp .le 5, 3) := by decide +kernel
theorem dX11_nobody_9 : decode cX11_nobody 9 = .ok (.iconst (-1), 1) := by decide +kernel
theorem dX11_nobody_10 : decode cX11_nobody 10 = .ok (.ireturn, 1) := by decide +kernel
theorem dX11_nobody_11 : decode cX11_nobody 11 = .ok (.iconst 0, 1) := by decide +kernel
theorem dX11_nobody_12 : decode cX11_nobody 12 = .ok (.istore_n 2, 1) := by decide +kernel
theorem dX11_nobody_13 : decode cX11_nobody 13 = .ok (.iconst 0, 1) := by decide +kernel
theorem dX11_nobody_14 : decode cX11_nobody 14 = .ok (.istore_n 3, 1) := by decide +kernel
theorem dX11_nobody_15 : decode cX11_nobody 15 = .ok (.iconst 0, 1) := by decide +kernel
theorem dX11_nobody_16 : decode cX11_nobody 16 = .ok (.istore 4, 2) := by decide +kernel
theorem dX11_nobody_18 : decode cX11_nobody 18 = .ok (.iconst 0, 1) := by decide +kernel
theorem dX11_nobody_19 : decode cX11_nobody 19 = .ok (.istore 5, 2) := by decide +kernel
theorem dX11_nobody_21 : decode cX11_nobody 21 = .ok (.iload 5, 2) := by decide +kernel
theorem dX11_nobody_23 : decode cX11_nobody 23 = .ok (.aload_n 0, 1) := by decide +kernel
theorem dX11_nobody_24 : decode cX11_nobody 24 = .ok (.getfield 10, 3) := by decide +kernel
theorem dX11_nobody_27 : decode cX11_nobody 27 = .ok (.getfield 70, 3) := by decide +kernel
theorem dX11_nobody_30 : decode cX11_nobody 30 = .ok (.if_icmp .ge 79, 3) := by decide +kernel
theorem dX11_nobody_33 : decode cX11_nobody 33 = .ok (.aload_n 0, 1) := by decide +kernel
theorem dX11_nobody_34 : decode cX11_nobody 34 = .ok (.getfield 10, 3) := by decide +kernel
theorem dX11_nobody_37 : decode cX11_nobody 37 = .ok (.iload 5, 2) := by decide +kernel
theorem dX11_nobody_39 : decode cX11_nobody 39 = .ok (.invokevirtual 130, 3) := by decide +kernel
theorem dX11_nobody_42 : decode cX11_nobody 42 = .ok (.astore 6, 2) := by decide +kernel
theorem dX11_nobody_44 : decode cX11_nobody 44 = .ok (.aload 6, 2) := by decide +kernel
theorem dX11_nobody_46 : decode cX11_nobody 46 = .ok (.ifnull 57, 3) := by decide +kernel
theorem dX11_nobody_49 : decode cX11_nobody 49 = .ok (.aload 6, 2) := by decide +kernel
theorem dX11_nobody_51 : decode cX11_nobody 51 = .ok (.invokevirtual 137, 3) := by decide +kernel
theorem dX11_nobody_54 : decode cX11_nobody 54 = .ok (.ifCond .ne 49, 3) := by decide +kernel
theorem dX11_nobody_57 : decode cX11_nobody 57 = .ok (.aload 6, 2) := by decide +kernel
theorem dX11_nobody_59 : decode cX11_nobody 59 = .ok (.getfield 410, 3) := by decide +kernel
theorem dX11_nobody_62 : decode cX11_nobody 62 = .ok (.ifCond .ne 41, 3) := by decide +kernel
theorem dX11_nobody_65 : decode cX11_nobody 65 = .ok (.iinc 2 1, 3) := by decide +kernel
theorem dX11_nobody_68 : decode cX11_nobody 68 = .ok (.iload_n 3, 1) := by decide +kernel
theorem dX11_nobody_69 : decode cX11_nobody 69 = .ok (.aload 6, 2) := by decide +kernel
theorem dX11_nobody_71 : decode cX11_nobody 71 = .ok (.invokevirtual 413, 3) := by decide +kernel
theorem dX11_nobody_74 : decode cX11_nobody 74 = .ok (.ifCond .eq 7, 3) := by decide +kernel
theorem dX11_nobody_77 : decode cX11_nobody 77 = .ok (.iconst 1, 1) := by decide +kernel
theorem dX11_nobody_78 : decode cX11_nobody 78 = .ok (.goto 4, 3) := by decide +kernel
theorem dX11_nobody_81 : decode cX11_nobody 81 = .ok (.iconst 0, 1) := by decide +kernel
theorem dX11_nobody_82 : decode cX11_nobody 82 = .ok (.iadd, 1) := by decide +kernel
theorem dX11_nobody_83 : decode cX11_nobody 83 = .ok (.istore_n 3, 1) := by decide +kernel
theorem dX11_nobody_84 : decode cX11_nobody 84 = .ok (.iload 4, 2) := by decide +kernel
theorem dX11_nobody_86 : decode cX11_nobody 86 = .ok (.aload 6, 2) := by decide +kernel
theorem dX11_nobody_88 : decode cX11_nobody 88 = .ok (.getfield 416, 3) := by decide +kernel
theorem dX11_nobody_91 : decode cX11_nobody 91 = .ok (.iconst 1, 1) := by decide +kernel
theorem dX11_nobody_92 : decode cX11_nobody 92 = .ok (.if_icmp .ne 7, 3) := by decide +kernel
theorem dX11_nobody_95 : decode cX11_nobody 95 = .ok (.iconst 1, 1) := by decide +kernel
theorem dX11_nobody_96 : decode cX11_nobody 96 = .ok (.goto 4, 3) := by decide +kernel
theorem dX11_nobody_99 : decode cX11_nobody 99 = .ok (.iconst 0, 1) := by decide +kernel
theorem dX11_nobody_100 : decode cX11_nobody 100 = .ok (.iadd, 1) := by decide +kernel
theorem dX11_nobody_101 : decode cX11_nobody 101 = .ok (.istore 4, 2) := by decide +kernel
theorem dX11_nobody_103 : decode cX11_nobody 103 = .ok (.iinc 5 1, 3) := by decide +kernel
theorem dX11_nobody_106 : decode cX11_nobody 106 = .ok (.goto (-85), 3) := by decide +kernel
theorem dX11_nobody_109 : decode cX11_nobody 109 = .ok (.iload_n 1, 1) := by decide +kernel
theorem dX11_nobody_110 : decode cX11_nobody 110 = .ok (.tableswitch 33 0 2 #[26, 28, 30], 26) := by decide +kernel
theorem dX11_nobody_136 : decode cX11_nobody 136 = .ok (.iload_n 2, 1) := by decide +kernel
theorem dX11_nobody_137 : decode cX11_nobody 137 = .ok (.ireturn, 1) := by decide +kernel
theorem dX11_nobody_138 : decode cX11_nobody 138 = .ok (.iload_n 3, 1) := by decide +kernel
theorem dX11_nobody_139 : decode cX11_nobody 139 = .ok (.ireturn, 1) := by decide +kernel
theorem dX11_nobody_140 : decode cX11_nobody 140 = .ok (.iload 4, 2) := by decide +kernel
theorem dX11_nobody_142 : decode cX11_nobody 142 = .ok (.ireturn, 1) := by decide +kernel
theorem dX11_nobody_143 : decode cX11_nobody 143 = .ok (.iload_n 2, 1) := by decide +kernel
theorem dX11_nobody_144 : decode cX11_nobody 144 = .ok (.bipush 30, 2) := by decide +kernel
theorem dX11_nobody_146 : decode cX11_nobody 146 = .ok (.if_icmp .le 8, 3) := by decide +kernel
theorem dX11_nobody_149 : decode cX11_nobody 149 = .ok (.bipush (-4), 2) := by decide +kernel
theorem dX11_nobody_151 : decode cX11_nobody 151 = .ok (.goto 10, 3) := by decide +kernel
theorem dX11_nobody_154 : decode cX11_nobody 154 = .ok (.iload_n 2, 1) := by decide +kernel
theorem dX11_nobody_155 : decode cX11_nobody 155 = .ok (.iload_n 3, 1) := by decide +kernel
theorem dX11_nobody_156 : decode cX11_nobody 156 = .ok (.iload 4, 2) := by decide +kernel
theorem dX11_nobody_158 : decode cX11_nobody 158 = .ok (.invokestatic 419, 3) := by decide +kernel
theorem dX11_nobody_161 : decode cX11_nobody 161 = .ok (.ireturn, 1) := by decide +kernel
theorem dX11_rank_0 : decode cX11_rank 0 = .ok (.aload_n 0, 1) := by decide +kernel
theorem dX11_rank_1 : decode cX11_rank 1 = .ok (.getfield 10, 3) := by decide +kernel
theorem dX11_rank_4 : decode cX11_rank 4 = .ok (.iload_n 1, 1) := by decide +kernel
theorem dX11_rank_5 : decode cX11_rank 5 = .ok (.invokevirtual 90, 3) := by decide +kernel
theorem dX11_rank_8 : decode cX11_rank 8 = .ok (.ifnull 21, 3) := by decide +kernel
theorem dX11_rank_11 : decode cX11_rank 11 = .ok (.iload_n 2, 1) := by decide +kernel
theorem dX11_rank_12 : decode cX11_rank 12 = .ok (.invokestatic 173, 3) := by decide +kernel
theorem dX11_rank_15 : decode cX11_rank 15 = .ok (.ifCond .eq 14, 3) := by decide +kernel
theorem dX11_rank_18 : decode cX11_rank 18 = .ok (.iload 4, 2) := by decide +kernel
theorem dX11_rank_20 : decode cX11_rank 20 = .ok (.ifCond .lt 9, 3) := by decide +kernel
theorem dX11_rank_23 : decode cX11_rank 23 = .ok (.iload 4, 2) := by decide +kernel
theorem dX11_rank_25 : decode cX11_rank 25 = .ok (.iconst 1, 1) := by decide +kernel
theorem dX11_rank_26 : decode cX11_rank 26 = .ok (.if_icmp .le 5, 3) := by decide +kernel
theorem dX11_rank_29 : decode cX11_rank 29 = .ok (.iconst (-1), 1) := by decide +kernel
theorem dX11_rank_30 : decode cX11_rank 30 = .ok (.ireturn, 1) := by decide +kernel
theorem dX11_rank_31 : decode cX11_rank 31 = .ok (.iload_n 3, 1) := by decide +kernel
theorem dX11_rank_32 : decode cX11_rank 32 = .ok (.iconst (-1), 1) := by decide +kernel
theorem dX11_rank_33 : decode cX11_rank 33 = .ok (.if_icmp .eq 17, 3) := by decide +kernel
theorem dX11_rank_36 : decode cX11_rank 36 = .ok (.aload_n 0, 1) := by decide +kernel
theorem dX11_rank_37 : decode cX11_rank 37 = .ok (.getfield 21, 3) := by decide +kernel
theorem dX11_rank_40 : decode cX11_rank 40 = .ok (.iload_n 3, 1) := by decide +kernel
theorem dX11_rank_41 : decode cX11_rank 41 = .ok (.iconst 2, 1) := by decide +kernel
theorem dX11_rank_42 : decode cX11_rank 42 = .ok (.invokevirtual 422, 3) := by decide +kernel
theorem dX11_rank_45 : decode cX11_rank 45 = .ok (.ifCond .ne 5, 3) := by decide +kernel
theorem dX11_rank_48 : decode cX11_rank 48 = .ok (.iconst (-1), 1) := by decide +kernel
theorem dX11_rank_49 : decode cX11_rank 49 = .ok (.ireturn, 1) := by decide +kernel
theorem dX11_rank_50 : decode cX11_rank 50 = .ok (.aload_n 0, 1) := by decide +kernel
theorem dX11_rank_51 : decode cX11_rank 51 = .ok (.getfield 30, 3) := by decide +kernel
theorem dX11_rank_54 : decode cX11_rank 54 = .ok (.iload_n 2, 1) := by decide +kernel
theorem dX11_rank_55 : decode cX11_rank 55 = .ok (.iload_n 3, 1) := by decide +kernel
theorem dX11_rank_56 : decode cX11_rank 56 = .ok (.invokevirtual 425, 3) := by decide +kernel
theorem dX11_rank_59 : decode cX11_rank 59 = .ok (.iload 4, 2) := by decide +kernel
theorem dX11_rank_61 : decode cX11_rank 61 = .ok (.ifCond .ne 15, 3) := by decide +kernel
theorem dX11_rank_64 : decode cX11_rank 64 = .ok (.aload_n 0, 1) := by decide +kernel
theorem dX11_rank_65 : decode cX11_rank 65 = .ok (.getfield 30, 3) := by decide +kernel
theorem dX11_rank_68 : decode cX11_rank 68 = .ok (.getfield 428, 3) := by decide +kernel
theorem dX11_rank_71 : decode cX11_rank 71 = .ok (.iload_n 1, 1) := by decide +kernel
theorem dX11_rank_72 : decode cX11_rank 72 = .ok (.iaload, 1) := by decide +kernel
theorem dX11_rank_73 : decode cX11_rank 73 = .ok (.goto 11, 3) := by decide +kernel
theorem dX11_rank_76 : decode cX11_rank 76 = .ok (.aload_n 0, 1) := by decide +kernel
theorem dX11_rank_77 : decode cX11_rank 77 = .ok (.getfield 30, 3) := by decide +kernel
theorem dX11_rank_80 : decode cX11_rank 80 = .ok (.iload_n 1, 1) := by decide +kernel
theorem dX11_rank_81 : decode cX11_rank 81 = .ok (.invokevirtual 431, 3) := by decide +kernel
theorem dX11_rank_84 : decode cX11_rank 84 = .ok (.ireturn, 1) := by decide +kernel
theorem dX11_act_0 : decode cX11_act 0 = .ok (.aload_n 0, 1) := by decide +kernel
theorem dX11_act_1 : decode cX11_act 1 = .ok (.getfield 48, 3) := by decide +kernel
theorem dX11_act_4 : decode cX11_act 4 = .ok (.bipush 24, 2) := by decide +kernel
theorem dX11_act_6 : decode cX11_act 6 = .ok (.iconst 0, 1) := by decide +kernel
theorem dX11_act_7 : decode cX11_act 7 = .ok (.iastore, 1) := by decide +kernel
theorem dX11_act_8 : decode cX11_act 8 = .ok (.aload_n 0, 1) := by decide +kernel
theorem dX11_act_9 : decode cX11_act 9 = .ok (.getfield 10, 3) := by decide +kernel
theorem dX11_act_12 : decode cX11_act 12 = .ok (.iload_n 1, 1) := by decide +kernel
theorem dX11_act_13 : decode cX11_act 13 = .ok (.invokevirtual 156, 3) := by decide +kernel
theorem dX11_act_16 : decode cX11_act 16 = .ok (.astore 4, 2) := by decide +kernel
theorem dX11_act_18 : decode cX11_act 18 = .ok (.aload 4, 2) := by decide +kernel
theorem dX11_act_20 : decode cX11_act 20 = .ok (.ifnull 12, 3) := by decide +kernel
theorem dX11_act_23 : decode cX11_act 23 = .ok (.iload_n 2, 1) := by decide +kernel
theorem dX11_act_24 : decode cX11_act 24 = .ok (.ifCond .lt 8, 3) := by decide +kernel
theorem dX11_act_27 : decode cX11_act 27 = .ok (.iload_n 2, 1) := by decide +kernel
theorem dX11_act_28 : decode cX11_act 28 = .ok (.iconst 4, 1) := by decide +kernel
theorem dX11_act_29 : decode cX11_act 29 = .ok (.if_icmp .lt 5, 3) := by decide +kernel
theorem dX11_act_32 : decode cX11_act 32 = .ok (.iconst 0, 1) := by decide +kernel
theorem dX11_act_33 : decode cX11_act 33 = .ok (.ireturn, 1) := by decide +kernel
theorem dX11_act_34 : decode cX11_act 34 = .ok (.aload 4, 2) := by decide +kernel
theorem dX11_act_36 : decode cX11_act 36 = .ok (.iload_n 2, 1) := by decide +kernel
theorem dX11_act_37 : decode cX11_act 37 = .ok (.iload_n 3, 1) := by decide +kernel
theorem dX11_act_38 : decode cX11_act 38 = .ok (.aload_n 0, 1) := by decide +kernel
theorem dX11_act_39 : decode cX11_act 39 = .ok (.getfield 48, 3) := by decide +kernel
theorem dX11_act_42 : decode cX11_act 42 = .ok (.invokevirtual 434, 3) := by decide +kernel
theorem dX11_act_45 : decode cX11_act 45 = .ok (.ireturn, 1) := by decide +kernel
theorem dX11_trace_0 : decode cX11_trace 0 = .ok (.iload_n 1, 1) := by decide +kernel
theorem dX11_trace_1 : decode cX11_trace 1 = .ok (.ifCond .lt 20, 3) := by decide +kernel
theorem dX11_trace_4 : decode cX11_trace 4 = .ok (.iload_n 1, 1) := by decide +kernel
theorem dX11_trace_5 : decode cX11_trace 5 = .ok (.bipush 24, 2) := by decide +kernel
theorem dX11_trace_7 : decode cX11_trace 7 = .ok (.if_icmp .ge 14, 3) := by decide +kernel
theorem dX11_trace_10 : decode cX11_trace 10 = .ok (.iload_n 1, 1) := by decide +kernel
theorem dX11_trace_11 : decode cX11_trace 11 = .ok (.aload_n 0, 1) := by decide +kernel
theorem dX11_trace_12 : decode cX11_trace 12 = .ok (.getfield 48, 3) := by decide +kernel
theorem dX11_trace_15 : decode cX11_trace 15 = .ok (.bipush 24, 2) := by decide +kernel
theorem dX11_trace_17 : decode cX11_trace 17 = .ok (.iaload, 1) := by decide +kernel
theorem dX11_trace_18 : decode cX11_trace 18 = .ok (.if_icmp .lt 5, 3) := by decide +kernel
theorem dX11_trace_21 : decode cX11_trace 21 = .ok (.iconst (-1), 1) := by decide +kernel
theorem dX11_trace_22 : decode cX11_trace 22 = .ok (.ireturn, 1) := by decide +kernel
theorem dX11_trace_23 : decode cX11_trace 23 = .ok (.aload_n 0, 1) := by decide +kernel
theorem dX11_trace_24 : decode cX11_trace 24 = .ok (.getfield 48, 3) := by decide +kernel
theorem dX11_trace_27 : decode cX11_trace 27 = .ok (.iload_n 1, 1) := by decide +kernel
theorem dX11_trace_28 : decode cX11_trace 28 = .ok (.iaload, 1) := by decide +kernel
theorem dX11_trace_29 : decode cX11_trace 29 = .ok (.ireturn, 1) := by decide +kernel
theorem dX11_keep_0 : decode cX11_keep 0 = .ok (.aload_n 0, 1) := by decide +kernel
theorem dX11_keep_1 : decode cX11_keep 1 = .ok (.iload_n 1, 1) := by decide +kernel
theorem dX11_keep_2 : decode cX11_keep 2 = .ok (.invokevirtual 238, 3) := by decide +kernel
theorem dX11_keep_5 : decode cX11_keep 5 = .ok (.astore_n 3, 1) := by decide +kernel
theorem dX11_keep_6 : decode cX11_keep 6 = .ok (.aload_n 0, 1) := by decide +kernel
theorem dX11_keep_7 : decode cX11_keep 7 = .ok (.getfield 10, 3) := by decide +kernel
theorem dX11_keep_10 : decode cX11_keep 10 = .ok (.iload_n 2, 1) := by decide +kernel
theorem dX11_keep_11 : decode cX11_keep 11 = .ok (.invokevirtual 156, 3) := by decide +kernel
theorem dX11_keep_14 : decode cX11_keep 14 = .ok (.astore 4, 2) := by decide +kernel
theorem dX11_keep_16 : decode cX11_keep 16 = .ok (.aload_n 3, 1) := by decide +kernel
theorem dX11_keep_17 : decode cX11_keep 17 = .ok (.ifnull 13, 3) := by decide +kernel
theorem dX11_keep_20 : decode cX11_keep 20 = .ok (.aload 4, 2) := by decide +kernel
theorem dX11_keep_22 : decode cX11_keep 22 = .ok (.ifnonnull 10, 3) := by decide +kernel
theorem dX11_keep_25 : decode cX11_keep 25 = .ok (.iload_n 2, 1) := by decide +kernel
theorem dX11_keep_26 : decode cX11_keep 26 = .ok (.iconst (-1), 1) := by decide +kernel
theorem dX11_keep_27 : decode cX11_keep 27 = .ok (.if_icmp .eq 5, 3) := by decide +kernel
theorem dX11_keep_30 : decode cX11_keep 30 = .ok (.iconst (-1), 1) := by decide +kernel
theorem dX11_keep_31 : decode cX11_keep 31 = .ok (.ireturn, 1) := by decide +kernel
theorem dX11_keep_32 : decode cX11_keep 32 = .ok (.aload_n 3, 1) := by decide +kernel
theorem dX11_keep_33 : decode cX11_keep 33 = .ok (.aload 4, 2) := by decide +kernel
theorem dX11_keep_35 : decode cX11_keep 35 = .ok (.invokevirtual 438, 3) := by decide +kernel
theorem dX11_keep_38 : decode cX11_keep 38 = .ok (.iconst 1, 1) := by decide +kernel
theorem dX11_keep_39 : decode cX11_keep 39 = .ok (.ireturn, 1) := by decide +kernel
theorem dX11_row_0 : decode cX11_row 0 = .ok (.aload_n 0, 1) := by decide +kernel
theorem dX11_row_1 : decode cX11_row 1 = .ok (.iload_n 1, 1) := by decide +kernel
theorem dX11_row_2 : decode cX11_row 2 = .ok (.invokevirtual 238, 3) := by decide +kernel
theorem dX11_row_5 : decode cX11_row 5 = .ok (.astore 4, 2) := by decide +kernel
theorem dX11_row_7 : decode cX11_row 7 = .ok (.aload 4, 2) := by decide +kernel
theorem dX11_row_9 : decode cX11_row 9 = .ok (.ifnull 18, 3) := by decide +kernel
theorem dX11_row_12 : decode cX11_row 12 = .ok (.iload_n 2, 1) := by decide +kernel
theorem dX11_row_13 : decode cX11_row 13 = .ok (.ifCond .lt 14, 3) := by decide +kernel
theorem dX11_row_16 : decode cX11_row 16 = .ok (.iload_n 2, 1) := by decide +kernel
theorem dX11_row_17 : decode cX11_row 17 = .ok (.iconst 4, 1) := by decide +kernel
theorem dX11_row_18 : decode cX11_row 18 = .ok (.if_icmp .gt 9, 3) := by decide +kernel
theorem dX11_row_21 : decode cX11_row 21 = .ok (.iload_n 3, 1) := by decide +kernel
theorem dX11_row_22 : decode cX11_row 22 = .ok (.bipush 60, 2) := by decide +kernel
theorem dX11_row_24 : decode cX11_row 24 = .ok (.if_icmp .le 5, 3) := by decide +kernel
theorem dX11_row_27 : decode cX11_row 27 = .ok (.iconst (-1), 1) := by decide +kernel
theorem dX11_row_28 : decode cX11_row 28 = .ok (.ireturn, 1) := by decide +kernel
theorem dX11_row_29 : decode cX11_row 29 = .ok (.iload_n 3, 1) := by decide +kernel
theorem dX11_row_30 : decode cX11_row 30 = .ok (.ifCond .ge 6, 3) := by decide +kernel
theorem dX11_row_33 : decode cX11_row 33 = .ok (.bipush (-14), 2) := by decide +kernel
theorem dX11_row_35 : decode cX11_row 35 = .ok (.ireturn, 1) := by decide +kernel
theorem dX11_row_36 : decode cX11_row 36 = .ok (.aload 4, 2) := by decide +kernel
theorem dX11_row_38 : decode cX11_row 38 = .ok (.iload_n 2, 1) := by decide +kernel
theorem dX11_row_39 : decode cX11_row 39 = .ok (.iload_n 3, 1) := by decide +kernel
theorem dX11_row_40 : decode cX11_row 40 = .ok (.invokevirtual 442, 3) := by decide +kernel
theorem dX11_row_43 : decode cX11_row 43 = .ok (.iconst 1, 1) := by decide +kernel
theorem dX11_row_44 : decode cX11_row 44 = .ok (.ireturn, 1) := by decide +kernel
theorem dX11_put_0 : decode cX11_put 0 = .ok (.aload_n 0, 1) := by decide +kernel
theorem dX11_put_1 : decode cX11_put 1 = .ok (.iload_n 1, 1) := by decide +kernel
theorem dX11_put_2 : decode cX11_put 2 = .ok (.invokevirtual 238, 3) := by decide +kernel
theorem dX11_put_5 : decode cX11_put 5 = .ok (.astore 5, 2) := by decide +kernel
theorem dX11_put_7 : decode cX11_put 7 = .ok (.aload 5, 2) := by decide +kernel
theorem dX11_put_9 : decode cX11_put 9 = .ok (.ifnonnull 5, 3) := by decide +kernel
theorem dX11_put_12 : decode cX11_put 12 = .ok (.iconst (-1), 1) := by decide +kernel
theorem dX11_put_13 : decode cX11_put 13 = .ok (.ireturn, 1) := by decide +kernel
theorem dX11_put_14 : decode cX11_put 14 = .ok (.aload 5, 2) := by decide +kernel
theorem dX11_put_16 : decode cX11_put 16 = .ok (.iload_n 2, 1) := by decide +kernel
theorem dX11_put_17 : decode cX11_put 17 = .ok (.invokevirtual 445, 3) := by decide +kernel
theorem dX11_put_20 : decode cX11_put 20 = .ok (.istore 6, 2) := by decide +kernel
theorem dX11_put_22 : decode cX11_put 22 = .ok (.iload 6, 2) := by decide +kernel
theorem dX11_put_24 : decode cX11_put 24 = .ok (.ifCond .eq 6, 3) := by decide +kernel
theorem dX11_put_27 : decode cX11_put 27 = .ok (.iload 6, 2) := by decide +kernel
theorem dX11_put_29 : decode cX11_put 29 = .ok (.ireturn, 1) := by decide +kernel
theorem dX11_put_30 : decode cX11_put 30 = .ok (.aload 5, 2) := by decide +kernel
theorem dX11_put_32 : decode cX11_put 32 = .ok (.iload_n 2, 1) := by decide +kernel
theorem dX11_put_33 : decode cX11_put 33 = .ok (.lload_n 3, 1) := by decide +kernel
theorem dX11_put_34 : decode cX11_put 34 = .ok (.invokevirtual 448, 3) := by decide +kernel
theorem dX11_put_37 : decode cX11_put 37 = .ok (.iconst 1, 1) := by decide +kernel
theorem dX11_put_38 : decode cX11_put 38 = .ok (.ireturn, 1) := by decide +kernel
theorem dX11_element_0 : decode cX11_element 0 = .ok (.aload_n 0, 1) := by decide +kernel
theorem dX11_element_1 : decode cX11_element 1 = .ok (.iload_n 1, 1) := by decide +kernel
theorem dX11_element_2 : decode cX11_element 2 = .ok (.invokevirtual 238, 3) := by decide +kernel
theorem dX11_element_5 : decode cX11_element 5 = .ok (.astore_n 3, 1) := by decide +kernel
theorem dX11_element_6 : decode cX11_element 6 = .ok (.aload_n 3, 1) := by decide +kernel
theorem dX11_element_7 : decode cX11_element 7 = .ok (.ifnonnull 9, 3) := by decide +kernel
theorem dX11_element_10 : decode cX11_element 10 = .ok (.ldc2_w 272, 3) := by decide +kernel
theorem dX11_element_13 : decode cX11_element 13 = .ok (.goto 12, 3) := by decide +kernel
theorem dX11_element_16 : decode cX11_element 16 = .ok (.aload_n 3, 1) := by decide +kernel
theorem dX11_element_17 : decode cX11_element 17 = .ok (.iload_n 2, 1) := by decide +kernel
theorem dX11_element_18 : decode cX11_element 18 = .ok (.i2l, 1) := by decide +kernel
theorem dX11_element_19 : decode cX11_element 19 = .ok (.ldc2_w 272, 3) := by decide +kernel
theorem dX11_element_22 : decode cX11_element 22 = .ok (.invokevirtual 296, 3) := by decide +kernel
theorem dX11_element_25 : decode cX11_element 25 = .ok (.lreturn, 1) := by decide +kernel
theorem dX11_shift_0 : decode cX11_shift 0 = .ok (.aload_n 0, 1) := by decide +kernel
theorem dX11_shift_1 : decode cX11_shift 1 = .ok (.iload_n 1, 1) := by decide +kernel
theorem dX11_shift_2 : decode cX11_shift 2 = .ok (.invokevirtual 238, 3) := by decide +kernel
theorem dX11_shift_5 : decode cX11_shift 5 = .ok (.astore 6, 2) := by decide +kernel
theorem dX11_shift_7 : decode cX11_shift 7 = .ok (.aload_n 0, 1) := by decide +kernel
theorem dX11_shift_8 : decode cX11_shift 8 = .ok (.iload_n 3, 1) := by decide +kernel
theorem dX11_shift_9 : decode cX11_shift 9 = .ok (.invokevirtual 238, 3) := by decide +kernel
theorem dX11_shift_12 : decode cX11_shift 12 = .ok (.astore 7, 2) := by decide +kernel
theorem dX11_shift_14 : decode cX11_shift 14 = .ok (.aload 6, 2) := by decide +kernel
theorem dX11_shift_16 : decode cX11_shift 16 = .ok (.ifnull 8, 3) := by decide +kernel
theorem dX11_shift_19 : decode cX11_shift 19 = .ok (.aload 7, 2) := by decide +kernel
theorem dX11_shift_21 : decode cX11_shift 21 = .ok (.ifnonnull 5, 3) := by decide +kernel
theorem dX11_shift_24 : decode cX11_shift 24 = .ok (.iconst (-1), 1) := by decide +kernel
theorem dX11_shift_25 : decode cX11_shift 25 = .ok (.ireturn, 1) := by decide +kernel
theorem dX11_shift_26 : decode cX11_shift 26 = .ok (.aload 6, 2) := by decide +kernel
theorem dX11_shift_28 : decode cX11_shift 28 = .ok (.invokevirtual 244, 3) := by decide +kernel
theorem dX11_shift_31 : decode cX11_shift 31 = .ok (.ifCond .ne 11, 3) := by decide +kernel
theorem dX11_shift_34 : decode cX11_shift 34 = .ok (.aload 7, 2) := by decide +kernel
theorem dX11_shift_36 : decode cX11_shift 36 = .ok (.invokevirtual 244, 3) := by decide +kernel
theorem dX11_shift_39 : decode cX11_shift 39 = .ok (.ifCond .eq 6, 3) := by decide +kernel
theorem dX11_shift_42 : decode cX11_shift 42 = .ok (.bipush (-11), 2) := by decide +kernel
theorem dX11_shift_44 : decode cX11_shift 44 = .ok (.ireturn, 1) := by decide +kernel
theorem dX11_shift_45 : decode cX11_shift 45 = .ok (.aload 6, 2) := by decide +kernel
theorem dX11_shift_47 : decode cX11_shift 47 = .ok (.getfield 452, 3) := by decide +kernel
theorem dX11_shift_50 : decode cX11_shift 50 = .ok (.ifCond .eq 24, 3) := by decide +kernel
theorem dX11_shift_53 : decode cX11_shift 53 = .ok (.aload 7, 2) := by decide +kernel
theorem dX11_shift_55 : decode cX11_shift 55 = .ok (.getfield 452, 3) := by decide +kernel
theorem dX11_shift_58 : decode cX11_shift 58 = .ok (.ifCond .eq 16, 3) := by decide +kernel
theorem dX11_shift_61 : decode cX11_shift 61 = .ok (.aload 6, 2) := by decide +kernel
theorem dX11_shift_63 : decode cX11_shift 63 = .ok (.getfield 455, 3) := by decide +kernel
theorem dX11_shift_66 : decode cX11_shift 66 = .ok (.aload 7, 2) := by decide +kernel
theorem dX11_shift_68 : decode cX11_shift 68 = .ok (.getfield 455, 3) := by decide +kernel
theorem dX11_shift_71 : decode cX11_shift 71 = .ok (.if_icmp .eq 6, 3) := by decide +kernel
theorem dX11_shift_74 : decode cX11_shift 74 = .ok (.bipush (-12), 2) := by decide +kernel
theorem dX11_shift_76 : decode cX11_shift 76 = .ok (.ireturn, 1) := by decide +kernel
theorem dX11_shift_77 : decode cX11_shift 77 = .ok (.aload 6, 2) := by decide +kernel
theorem dX11_shift_79 : decode cX11_shift 79 = .ok (.iload_n 2, 1) := by decide +kernel
theorem dX11_shift_80 : decode cX11_shift 80 = .ok (.i2l, 1) := by decide +kernel
theorem dX11_shift_81 : decode cX11_shift 81 = .ok (.iload 5, 2) := by decide +kernel
theorem dX11_shift_83 : decode cX11_shift 83 = .ok (.invokevirtual 458, 3) := by decide +kernel
theorem dX11_shift_86 : decode cX11_shift 86 = .ok (.ifCond .eq 16, 3) := by decide +kernel
theorem dX11_shift_89 : decode cX11_shift 89 = .ok (.aload 7, 2) := by decide +kernel
theorem dX11_shift_91 : decode cX11_shift 91 = .ok (.iload 4, 2) := by decide +kernel
theorem dX11_shift_93 : decode cX11_shift 93 = .ok (.i2l, 1) := by decide +kernel
theorem dX11_shift_94 : decode cX11_shift 94 = .ok (.iload 5, 2) := by decide +kernel
theorem dX11_shift_96 : decode cX11_shift 96 = .ok (.invokevirtual 458, 3) := by decide +kernel
theorem dX11_shift_99 : decode cX11_shift 99 = .ok (.ifCond .ne 6, 3) := by decide +kernel
theorem dX11_shift_102 : decode cX11_shift 102 = .ok (.bipush (-13), 2) := by decide +kernel
theorem dX11_shift_104 : decode cX11_shift 104 = .ok (.ireturn, 1) := by decide +kernel
theorem dX11_shift_105 : decode cX11_shift 105 = .ok (.aload 6, 2) := by decide +kernel
theorem dX11_shift_107 : decode cX11_shift 107 = .ok (.getfield 462, 3) := by decide +kernel
theorem dX11_shift_110 : decode cX11_shift 110 = .ok (.iload_n 2, 1) := by decide +kernel
theorem dX11_shift_111 : decode cX11_shift 111 = .ok (.aload 7, 2) := by decide +kernel
theorem dX11_shift_113 : decode cX11_shift 113 = .ok (.getfield 462, 3) := by decide +kernel
theorem dX11_shift_116 : decode cX11_shift 116 = .ok (.iload 4, 2) := by decide +kernel
theorem dX11_shift_118 : decode cX11_shift 118 = .ok (.iload 5, 2) := by decide +kernel
theorem dX11_shift_120 : decode cX11_shift 120 = .ok (.invokestatic 466, 3) := by decide +kernel
theorem dX11_shift_123 : decode cX11_shift 123 = .ok (.iload 5, 2) := by decide +kernel
theorem dX11_shift_125 : decode cX11_shift 125 = .ok (.ireturn, 1) := by decide +kernel
theorem dX11_taken_0 : decode cX11_taken 0 = .ok (.aload_n 0, 1) := by decide +kernel
theorem dX11_taken_1 : decode cX11_taken 1 = .ok (.iload_n 1, 1) := by decide +kernel
theorem dX11_taken_2 : decode cX11_taken 2 = .ok (.invokevirtual 238, 3) := by decide +kernel
theorem dX11_taken_5 : decode cX11_taken 5 = .ok (.astore_n 3, 1) := by decide +kernel
theorem dX11_taken_6 : decode cX11_taken 6 = .ok (.aload_n 3, 1) := by decide +kernel
theorem dX11_taken_7 : decode cX11_taken 7 = .ok (.ifnull 13, 3) := by decide +kernel
theorem dX11_taken_10 : decode cX11_taken 10 = .ok (.iload_n 2, 1) := by decide +kernel
theorem dX11_taken_11 : decode cX11_taken 11 = .ok (.ifCond .lt 9, 3) := by decide +kernel
theorem dX11_taken_14 : decode cX11_taken 14 = .ok (.iload_n 2, 1) := by decide +kernel
theorem dX11_taken_15 : decode cX11_taken 15 = .ok (.bipush 8, 2) := by decide +kernel
theorem dX11_taken_17 : decode cX11_taken 17 = .ok (.if_icmp .lt 5, 3) := by decide +kernel
theorem dX11_taken_20 : decode cX11_taken 20 = .ok (.iconst (-1), 1) := by decide +kernel
theorem dX11_taken_21 : decode cX11_taken 21 = .ok (.ireturn, 1) := by decide +kernel
theorem dX11_taken_22 : decode cX11_taken 22 = .ok (.aload_n 3, 1) := by decide +kernel
theorem dX11_taken_23 : decode cX11_taken 23 = .ok (.invokevirtual 244, 3) := by decide +kernel
theorem dX11_taken_26 : decode cX11_taken 26 = .ok (.ifCond .eq 6, 3) := by decide +kernel
theorem dX11_taken_29 : decode cX11_taken 29 = .ok (.bipush (-11), 2) := by decide +kernel
theorem dX11_taken_31 : decode cX11_taken 31 = .ok (.ireturn, 1) := by decide +kernel
theorem dX11_taken_32 : decode cX11_taken 32 = .ok (.aload_n 3, 1) := by decide +kernel
theorem dX11_taken_33 : decode cX11_taken 33 = .ok (.getfield 472, 3) := by decide +kernel
theorem dX11_taken_36 : decode cX11_taken 36 = .ok (.astore 4, 2) := by decide +kernel
theorem dX11_taken_38 : decode cX11_taken 38 = .ok (.aload 4, 2) := by decide +kernel
theorem dX11_taken_40 : decode cX11_taken 40 = .ok (.ifnull 12, 3) := by decide +kernel
theorem dX11_taken_43 : decode cX11_taken 43 = .ok (.aload 4, 2) := by decide +kernel
theorem dX11_taken_45 : decode cX11_taken 45 = .ok (.iload_n 2, 1) := by decide +kernel
theorem dX11_taken_46 : decode cX11_taken 46 = .ok (.invokevirtual 476, 3) := by decide +kernel
theorem dX11_taken_49 : decode cX11_taken 49 = .ok (.ifCond .ne 8, 3) := by decide +kernel
theorem dX11_taken_52 : decode cX11_taken 52 = .ok (.bipush (-12), 2) := by decide +kernel
theorem dX11_taken_54 : decode cX11_taken 54 = .ok (.goto 8, 3) := by decide +kernel
theorem dX11_taken_57 : decode cX11_taken 57 = .ok (.aload 4, 2) := by decide +kernel
theorem dX11_taken_59 : decode cX11_taken 59 = .ok (.getfield 160, 3) := by decide +kernel
theorem dX11_taken_62 : decode cX11_taken 62 = .ok (.ireturn, 1) := by decide +kernel
theorem dX11_count_0 : decode cX11_count 0 = .ok (.iload_n 1, 1) := by decide +kernel
theorem dX11_count_1 : decode cX11_count 1 = .ok (.tableswitch 142 0 10 #[59, 67, 73, 79, 85, 91, 99, 107, 118, 126, 134], 59) := by decide +kernel
theorem dX11_count_60 : decode cX11_count 60 = .ok (.aload_n 0, 1) := by decide +kernel
theorem dX11_count_61 : decode cX11_count 61 = .ok (.getfield 10, 3) := by decide +kernel
theorem dX11_count_64 : decode cX11_count 64 = .ok (.getfield 70, 3) := by decide +kernel
theorem dX11_count_67 : decode cX11_count 67 = .ok (.ireturn, 1) := by decide +kernel
theorem dX11_count_68 : decode cX11_count 68 = .ok (.aload_n 0, 1) := by decide +kernel
theorem dX11_count_69 : decode cX11_count 69 = .ok (.iconst 0, 1) := by decide +kernel
theorem dX11_count_70 : decode cX11_count 70 = .ok (.invokevirtual 479, 3) := by decide +kernel
theorem dX11_count_73 : decode cX11_count 73 = .ok (.ireturn, 1) := by decide +kernel
theorem dX11_count_74 : decode cX11_count 74 = .ok (.aload_n 0, 1) := by decide +kernel
theorem dX11_count_75 : decode cX11_count 75 = .ok (.iconst 1, 1) := by decide +kernel
theorem dX11_count_76 : decode cX11_count 76 = .ok (.invokevirtual 479, 3) := by decide +kernel
theorem dX11_count_79 : decode cX11_count 79 = .ok (.ireturn, 1) := by decide +kernel
theorem dX11_count_80 : decode cX11_count 80 = .ok (.aload_n 0, 1) := by decide +kernel
theorem dX11_count_81 : decode cX11_count 81 = .ok (.iconst 0, 1) := by decide +kernel
theorem dX11_count_82 : decode cX11_count 82 = .ok (.invokevirtual 482, 3) := by decide +kernel
theorem dX11_count_85 : decode cX11_count 85 = .ok (.ireturn, 1) := by decide +kernel
theorem dX11_count_86 : decode cX11_count 86 = .ok (.aload_n 0, 1) := by decide +kernel
theorem dX11_count_87 : decode cX11_count 87 = .ok (.iconst 1, 1) := by decide +kernel
theorem dX11_count_88 : decode cX11_count 88 = .ok (.invokevirtual 482, 3) := by decide +kernel
theorem dX11_count_91 : decode cX11_count 91 = .ok (.ireturn, 1) := by decide +kernel
theorem dX11_count_92 : decode cX11_count 92 = .ok (.aload_n 0, 1) := by decide +kernel
theorem dX11_count_93 : decode cX11_count 93 = .ok (.getfield 30, 3) := by decide +kernel
theorem dX11_count_96 : decode cX11_count 96 = .ok (.getfield 285, 3) := by decide +kernel
theorem dX11_count_99 : decode cX11_count 99 = .ok (.ireturn, 1) := by decide +kernel
theorem dX11_count_100 : decode cX11_count 100 = .ok (.aload_n 0, 1) := by decide +kernel
theorem dX11_count_101 : decode cX11_count 101 = .ok (.getfield 21, 3) := by decide +kernel
theorem dX11_count_104 : decode cX11_count 104 = .ok (.getfield 485, 3) := by decide +kernel
theorem dX11_count_107 : decode cX11_count 107 = .ok (.ireturn, 1) := by decide +kernel
theorem dX11_count_108 : decode cX11_count 108 = .ok (.aload_n 0, 1) := by decide +kernel
theorem dX11_count_109 : decode cX11_count 109 = .ok (.getfield 21, 3) := by decide +kernel
theorem dX11_count_112 : decode cX11_count 112 = .ok (.getfield 179, 3) := by decide +kernel
theorem dX11_count_115 : decode cX11_count 115 = .ok (.getfield 191, 3) := by decide +kernel
theorem dX11_count_118 : decode cX11_count 118 = .ok (.ireturn, 1) := by decide +kernel
theorem dX11_count_119 : decode cX11_count 119 = .ok (.aload_n 0, 1) := by decide +kernel
theorem dX11_count_120 : decode cX11_count 120 = .ok (.getfield 10, 3) := by decide +kernel
theorem dX11_count_123 : decode cX11_count 123 = .ok (.getfield 52, 3) := by decide +kernel
theorem dX11_count_126 : decode cX11_count 126 = .ok (.ireturn, 1) := by decide +kernel
theorem dX11_count_127 : decode cX11_count 127 = .ok (.aload_n 0, 1) := by decide +kernel
theorem dX11_count_128 : decode cX11_count 128 = .ok (.getfield 10, 3) := by decide +kernel
theorem dX11_count_131 : decode cX11_count 131 = .ok (.getfield 100, 3) := by decide +kernel
theorem dX11_count_134 : decode cX11_count 134 = .ok (.ireturn, 1) := by decide +kernel
theorem dX11_count_135 : decode cX11_count 135 = .ok (.aload_n 0, 1) := by decide +kernel
theorem dX11_count_136 : decode cX11_count 136 = .ok (.getfield 48, 3) := by decide +kernel
theorem dX11_count_139 : decode cX11_count 139 = .ok (.bipush 24, 2) := by decide +kernel
theorem dX11_count_141 : decode cX11_count 141 = .ok (.iaload, 1) := by decide +kernel
theorem dX11_count_142 : decode cX11_count 142 = .ok (.ireturn, 1) := by decide +kernel
theorem dX11_count_143 : decode cX11_count 143 = .ok (.iconst (-1), 1) := by decide +kernel
theorem dX11_count_144 : decode cX11_count 144 = .ok (.ireturn, 1) := by decide +kernel
theorem dX11_isCell_0 : decode cX11_isCell 0 = .ok (.iload_n 0, 1) := by decide +kernel
theorem dX11_isCell_1 : decode cX11_isCell 1 = .ok (.ifCond .lt 13, 3) := by decide +kernel
theorem dX11_isCell_4 : decode cX11_isCell 4 = .ok (.iload_n 0, 1) := by decide +kernel
theorem dX11_isCell_5 : decode cX11_isCell 5 = .ok (.bipush 60, 2) := by decide +kernel
theorem dX11_isCell_7 : decode cX11_isCell 7 = .ok (.if_icmp .ge 7, 3) := by decide +kernel
theorem dX11_isCell_10 : decode cX11_isCell 10 = .ok (.iconst 1, 1) := by decide +kernel
theorem dX11_isCell_11 : decode cX11_isCell 11 = .ok (.goto 4, 3) := by decide +kernel
theorem dX11_isCell_14 : decode cX11_isCell 14 = .ok (.iconst 0, 1) := by decide +kernel
theorem dX11_isCell_15 : decode cX11_isCell 15 = .ok (.ireturn, 1) := by decide +kernel
theorem dX11_isDay_0 : decode cX11_isDay 0 = .ok (.iload_n 0, 1) := by decide +kernel
theorem dX11_isDay_1 : decode cX11_isDay 1 = .ok (.ifCond .lt 14, 3) := by decide +kernel
theorem dX11_isDay_4 : decode cX11_isDay 4 = .ok (.iload_n 0, 1) := by decide +kernel
theorem dX11_isDay_5 : decode cX11_isDay 5 = .ok (.sipush 999, 3) := by decide +kernel
theorem dX11_isDay_8 : decode cX11_isDay 8 = .ok (.if_icmp .gt 7, 3) := by decide +kernel
theorem dX11_isDay_11 : decode cX11_isDay 11 = .ok (.iconst 1, 1) := by decide +kernel
theorem dX11_isDay_12 : decode cX11_isDay 12 = .ok (.goto 4, 3) := by decide +kernel
theorem dX11_isDay_15 : decode cX11_isDay 15 = .ok (.iconst 0, 1) := by decide +kernel
theorem dX11_isDay_16 : decode cX11_isDay 16 = .ok (.ireturn, 1) := by decide +kernel
theorem dX11_isUse_0 : decode cX11_isUse 0 = .ok (.iload_n 0, 1) := by decide +kernel
theorem dX11_isUse_1 : decode cX11_isUse 1 = .ok (.ifCond .lt 8, 3) := by decide +kernel
theorem dX11_isUse_4 : decode cX11_isUse 4 = .ok (.iload_n 0, 1) := by decide +kernel
theorem dX11_isUse_5 : decode cX11_isUse 5 = .ok (.iconst 4, 1) := by decide +kernel
theorem dX11_isUse_6 : decode cX11_isUse 6 = .ok (.if_icmp .le 15, 3) := by decide +kernel
theorem dX11_isUse_9 : decode cX11_isUse 9 = .ok (.iload_n 0, 1) := by decide +kernel
theorem dX11_isUse_10 : decode cX11_isUse 10 = .ok (.bipush 10, 2) := by decide +kernel
theorem dX11_isUse_12 : decode cX11_isUse 12 = .ok (.if_icmp .lt 13, 3) := by decide +kernel
theorem dX11_isUse_15 : decode cX11_isUse 15 = .ok (.iload_n 0, 1) := by decide +kernel
theorem dX11_isUse_16 : decode cX11_isUse 16 = .ok (.bipush 20, 2) := by decide +kernel
theorem dX11_isUse_18 : decode cX11_isUse 18 = .ok (.if_icmp .ge 7, 3) := by decide +kernel
theorem dX11_isUse_21 : decode cX11_isUse 21 = .ok (.iconst 1, 1) := by decide +kernel
theorem dX11_isUse_22 : decode cX11_isUse 22 = .ok (.goto 4, 3) := by decide +kernel
theorem dX11_isUse_25 : decode cX11_isUse 25 = .ok (.iconst 0, 1) := by decide +kernel
theorem dX11_isUse_26 : decode cX11_isUse 26 = .ok (.ireturn, 1) := by decide +kernel
theorem dX11_isKindOfBox_0 : decode cX11_isKindOfBox 0 = .ok (.iload_n 0, 1) := by decide +kernel
theorem dX11_isKindOfBox_1 : decode cX11_isKindOfBox 1 = .ok (.iconst 1, 1) := by decide +kernel
theorem dX11_isKindOfBox_2 : decode cX11_isKindOfBox 2 = .ok (.if_icmp .lt 12, 3) := by decide +kernel
theorem dX11_isKindOfBox_5 : decode cX11_isKindOfBox 5 = .ok (.iload_n 0, 1) := by decide +kernel
theorem dX11_isKindOfBox_6 : decode cX11_isKindOfBox 6 = .ok (.iconst 5, 1) := by decide +kernel
theorem dX11_isKindOfBox_7 : decode cX11_isKindOfBox 7 = .ok (.if_icmp .gt 7, 3) := by decide +kernel
theorem dX11_isKindOfBox_10 : decode cX11_isKindOfBox 10 = .ok (.iconst 1, 1) := by decide +kernel
theorem dX11_isKindOfBox_11 : decode cX11_isKindOfBox 11 = .ok (.goto 4, 3) := by decide +kernel
theorem dX11_isKindOfBox_14 : decode cX11_isKindOfBox 14 = .ok (.iconst 0, 1) := by decide +kernel
theorem dX11_isKindOfBox_15 : decode cX11_isKindOfBox 15 = .ok (.ireturn, 1) := by decide +kernel
theorem dX11_far_0 : decode cX11_far 0 = .ok (.iload_n 0, 1) := by decide +kernel
theorem dX11_far_1 : decode cX11_far 1 = .ok (.bipush 10, 2) := by decide +kernel
theorem dX11_far_3 : decode cX11_far 3 = .ok (.irem, 1) := by decide +kernel
theorem dX11_far_4 : decode cX11_far 4 = .ok (.iload_n 1, 1) := by decide +kernel
theorem dX11_far_5 : decode cX11_far 5 = .ok (.bipush 10, 2) := by decide +kernel
theorem dX11_far_7 : decode cX11_far 7 = .ok (.irem, 1) := by decide +kernel
theorem dX11_far_8 : decode cX11_far 8 = .ok (.isub, 1) := by decide +kernel
theorem dX11_far_9 : decode cX11_far 9 = .ok (.invokestatic 488, 3) := by decide +kernel
theorem dX11_far_12 : decode cX11_far 12 = .ok (.iload_n 0, 1) := by decide +kernel
theorem dX11_far_13 : decode cX11_far 13 = .ok (.bipush 10, 2) := by decide +kernel
theorem dX11_far_15 : decode cX11_far 15 = .ok (.idiv, 1) := by decide +kernel
theorem dX11_far_16 : decode cX11_far 16 = .ok (.iload_n 1, 1) := by decide +kernel
theorem dX11_far_17 : decode cX11_far 17 = .ok (.bipush 10, 2) := by decide +kernel
theorem dX11_far_19 : decode cX11_far 19 = .ok (.idiv, 1) := by decide +kernel
theorem dX11_far_20 : decode cX11_far 20 = .ok (.isub, 1) := by decide +kernel
theorem dX11_far_21 : decode cX11_far 21 = .ok (.invokestatic 488, 3) := by decide +kernel
theorem dX11_far_24 : decode cX11_far 24 = .ok (.iadd, 1) := by decide +kernel
theorem dX11_far_25 : decode cX11_far 25 = .ok (.ireturn, 1) := by decide +kernel
theorem dX11_hoursBetween_0 : decode cX11_hoursBetween 0 = .ok (.iload_n 0, 1) := by decide +kernel
theorem dX11_hoursBetween_1 : decode cX11_hoursBetween 1 = .ok (.iload_n 1, 1) := by decide +kernel
theorem dX11_hoursBetween_2 : decode cX11_hoursBetween 2 = .ok (.invokestatic 231, 3) := by decide +kernel
theorem dX11_hoursBetween_5 : decode cX11_hoursBetween 5 = .ok (.iconst 1, 1) := by decide +kernel
theorem dX11_hoursBetween_6 : decode cX11_hoursBetween 6 = .ok (.iadd, 1) := by decide +kernel
theorem dX11_hoursBetween_7 : decode cX11_hoursBetween 7 = .ok (.iconst 2, 1) := by decide +kernel
theorem dX11_hoursBetween_8 : decode cX11_hoursBetween 8 = .ok (.idiv, 1) := by decide +kernel
theorem dX11_hoursBetween_9 : decode cX11_hoursBetween 9 = .ok (.ireturn, 1) := by decide +kernel
theorem dX11_isNightHour_0 : decode cX11_isNightHour 0 = .ok (.iload_n 0, 1) := by decide +kernel
theorem dX11_isNightHour_1 : decode cX11_isNightHour 1 = .ok (.bipush 20, 2) := by decide +kernel
theorem dX11_isNightHour_3 : decode cX11_isNightHour 3 = .ok (.if_icmp .ge 9, 3) := by decide +kernel
theorem dX11_isNightHour_6 : decode cX11_isNightHour 6 = .ok (.iload_n 0, 1) := by decide +kernel
theorem dX11_isNightHour_7 : decode cX11_isNightHour 7 = .ok (.bipush 6, 2) := by decide +kernel
theorem dX11_isNightHour_9 : decode cX11_isNightHour 9 = .ok (.if_icmp .ge 7, 3) := by decide +kernel
theorem dX11_isNightHour_12 : decode cX11_isNightHour 12 = .ok (.iconst 1, 1) := by decide +kernel
theorem dX11_isNightHour_13 : decode cX11_isNightHour 13 = .ok (.goto 4, 3) := by decide +kernel
theorem dX11_isNightHour_16 : decode cX11_isNightHour 16 = .ok (.iconst 0, 1) := by decide +kernel
theorem dX11_isNightHour_17 : decode cX11_isNightHour 17 = .ok (.ireturn, 1) := by decide +kernel
theorem dX11_mayBeAsked_0 : decode cX11_mayBeAsked 0 = .ok (.iload_n 1, 1) := by decide +kernel
theorem dX11_mayBeAsked_1 : decode cX11_mayBeAsked 1 = .ok (.invokestatic 493, 3) := by decide +kernel
theorem dX11_mayBeAsked_4 : decode cX11_mayBeAsked 4 = .ok (.ifCond .eq 29, 3) := by decide +kernel
theorem dX11_mayBeAsked_7 : decode cX11_mayBeAsked 7 = .ok (.iload_n 2, 1) := by decide +kernel
theorem dX11_mayBeAsked_8 : decode cX11_mayBeAsked 8 = .ok (.invokestatic 56, 3) := by decide +kernel
theorem dX11_mayBeAsked_11 : decode cX11_mayBeAsked 11 = .ok (.ifCond .eq 22, 3) := by decide +kernel
theorem dX11_mayBeAsked_14 : decode cX11_mayBeAsked 14 = .ok (.iload_n 1, 1) := by decide +kernel
theorem dX11_mayBeAsked_15 : decode cX11_mayBeAsked 15 = .ok (.iconst 3, 1) := by decide +kernel
theorem dX11_mayBeAsked_16 : decode cX11_mayBeAsked 16 = .ok (.if_icmp .ne 13, 3) := by decide +kernel
theorem dX11_mayBeAsked_19 : decode cX11_mayBeAsked 19 = .ok (.aload_n 0, 1) := by decide +kernel
theorem dX11_mayBeAsked_20 : decode cX11_mayBeAsked 20 = .ok (.getfield 10, 3) := by decide +kernel
theorem dX11_mayBeAsked_23 : decode cX11_mayBeAsked 23 = .ok (.getfield 100, 3) := by decide +kernel
theorem dX11_mayBeAsked_26 : decode cX11_mayBeAsked 26 = .ok (.ifCond .le 7, 3) := by decide +kernel
theorem dX11_mayBeAsked_29 : decode cX11_mayBeAsked 29 = .ok (.iconst 1, 1) := by decide +kernel
theorem dX11_mayBeAsked_30 : decode cX11_mayBeAsked 30 = .ok (.goto 4, 3) := by decide +kernel
theorem dX11_mayBeAsked_33 : decode cX11_mayBeAsked 33 = .ok (.iconst 0, 1) := by decide +kernel
theorem dX11_mayBeAsked_34 : decode cX11_mayBeAsked 34 = .ok (.ireturn, 1) := by decide +kernel
theorem dX11_asToldToTheAsker_0 : decode cX11_asToldToTheAsker 0 = .ok (.iload_n 0, 1) := by decide +kernel
theorem dX11_asToldToTheAsker_1 : decode cX11_asToldToTheAsker 1 = .ok (.iconst 4, 1) := by decide +kernel
theorem dX11_asToldToTheAsker_2 : decode cX11_asToldToTheAsker 2 = .ok (.if_icmp .ne 7, 3) := by decide +kernel
theorem dX11_asToldToTheAsker_5 : decode cX11_asToldToTheAsker 5 = .ok (.iconst 3, 1) := by decide +kernel
theorem dX11_asToldToTheAsker_6 : decode cX11_asToldToTheAsker 6 = .ok (.goto 4, 3) := by decide +kernel
theorem dX11_asToldToTheAsker_9 : decode cX11_asToldToTheAsker 9 = .ok (.iload_n 0, 1) := by decide +kernel
theorem dX11_asToldToTheAsker_10 : decode cX11_asToldToTheAsker 10 = .ok (.ireturn, 1) := by decide +kernel
theorem dX11_canSay_0 : decode cX11_canSay 0 = .ok (.iload_n 2, 1) := by decide +kernel
theorem dX11_canSay_1 : decode cX11_canSay 1 = .ok (.iconst (-1), 1) := by decide +kernel
theorem dX11_canSay_2 : decode cX11_canSay 2 = .ok (.if_icmp .ne 7, 3) := by decide +kernel
theorem dX11_canSay_5 : decode cX11_canSay 5 = .ok (.iconst 1, 1) := by decide +kernel
theorem dX11_canSay_6 : decode cX11_canSay 6 = .ok (.goto 4, 3) := by decide +kernel
theorem dX11_canSay_9 : decode cX11_canSay 9 = .ok (.iconst 0, 1) := by decide +kernel
theorem dX11_canSay_10 : decode cX11_canSay 10 = .ok (.istore 4, 2) := by decide +kernel
theorem dX11_canSay_12 : decode cX11_canSay 12 = .ok (.aload_n 0, 1) := by decide +kernel
theorem dX11_canSay_13 : decode cX11_canSay 13 = .ok (.getfield 10, 3) := by decide +kernel
theorem dX11_canSay_16 : decode cX11_canSay 16 = .ok (.iload_n 2, 1) := by decide +kernel
theorem dX11_canSay_17 : decode cX11_canSay 17 = .ok (.invokevirtual 90, 3) := by decide +kernel
theorem dX11_canSay_20 : decode cX11_canSay 20 = .ok (.ifnull 7, 3) := by decide +kernel
theorem dX11_canSay_23 : decode cX11_canSay 23 = .ok (.iconst 1, 1) := by decide +kernel
theorem dX11_canSay_24 : decode cX11_canSay 24 = .ok (.goto 4, 3) := by decide +kernel
theorem dX11_canSay_27 : decode cX11_canSay 27 = .ok (.iconst 0, 1) := by decide +kernel
theorem dX11_canSay_28 : decode cX11_canSay 28 = .ok (.istore 5, 2) := by decide +kernel
theorem dX11_canSay_30 : decode cX11_canSay 30 = .ok (.aload_n 0, 1) := by decide +kernel
theorem dX11_canSay_31 : decode cX11_canSay 31 = .ok (.getfield 10, 3) := by decide +kernel
theorem dX11_canSay_34 : decode cX11_canSay 34 = .ok (.iload_n 3, 1) := by decide +kernel
theorem dX11_canSay_35 : decode cX11_canSay 35 = .ok (.invokevirtual 130, 3) := by decide +kernel
theorem dX11_canSay_38 : decode cX11_canSay 38 = .ok (.ifnull 7, 3) := by decide +kernel
theorem dX11_canSay_41 : decode cX11_canSay 41 = .ok (.iconst 1, 1) := by decide +kernel
theorem dX11_canSay_42 : decode cX11_canSay 42 = .ok (.goto 4, 3) := by decide +kernel
theorem dX11_canSay_45 : decode cX11_canSay 45 = .ok (.iconst 0, 1) := by decide +kernel
theorem dX11_canSay_46 : decode cX11_canSay 46 = .ok (.istore 6, 2) := by decide +kernel
theorem dX11_canSay_48 : decode cX11_canSay 48 = .ok (.iload_n 1, 1) := by decide +kernel
theorem dX11_canSay_49 : decode cX11_canSay 49 = .ok (.tableswitch 101 0 4 #[35, 51, 101, 69, 85], 35) := by decide +kernel
theorem dX11_canSay_84 : decode cX11_canSay 84 = .ok (.iload 4, 2) := by decide +kernel
theorem dX11_canSay_86 : decode cX11_canSay 86 = .ok (.ifCond .eq 12, 3) := by decide +kernel
theorem dX11_canSay_89 : decode cX11_canSay 89 = .ok (.iload_n 3, 1) := by decide +kernel
theorem dX11_canSay_90 : decode cX11_canSay 90 = .ok (.iconst (-1), 1) := by decide +kernel
theorem dX11_canSay_91 : decode cX11_canSay 91 = .ok (.if_icmp .ne 7, 3) := by decide +kernel
theorem dX11_canSay_94 : decode cX11_canSay 94 = .ok (.iconst 1, 1) := by decide +kernel
theorem dX11_canSay_95 : decode cX11_canSay 95 = .ok (.goto 4, 3) := by decide +kernel
theorem dX11_canSay_98 : decode cX11_canSay 98 = .ok (.iconst 0, 1) := by decide +kernel
theorem dX11_canSay_99 : decode cX11_canSay 99 = .ok (.ireturn, 1) := by decide +kernel
theorem dX11_canSay_100 : decode cX11_canSay 100 = .ok (.iload 5, 2) := by decide +kernel
theorem dX11_canSay_102 : decode cX11_canSay 102 = .ok (.ifCond .eq 14, 3) := by decide +kernel
theorem dX11_canSay_105 : decode cX11_canSay 105 = .ok (.iload_n 3, 1) := by decide +kernel
theorem dX11_canSay_106 : decode cX11_canSay 106 = .ok (.invokestatic 493, 3) := by decide +kernel
theorem dX11_canSay_109 : decode cX11_canSay 109 = .ok (.ifCond .eq 7, 3) := by decide +kernel
theorem dX11_canSay_112 : decode cX11_canSay 112 = .ok (.iconst 1, 1) := by decide +kernel
theorem dX11_canSay_113 : decode cX11_canSay 113 = .ok (.goto 4, 3) := by decide +kernel
theorem dX11_canSay_116 : decode cX11_canSay 116 = .ok (.iconst 0, 1) := by decide +kernel
theorem dX11_canSay_117 : decode cX11_canSay 117 = .ok (.ireturn, 1) := by decide +kernel
theorem dX11_canSay_118 : decode cX11_canSay 118 = .ok (.iload 4, 2) := by decide +kernel
theorem dX11_canSay_120 : decode cX11_canSay 120 = .ok (.ifCond .eq 12, 3) := by decide +kernel
theorem dX11_canSay_123 : decode cX11_canSay 123 = .ok (.iload 6, 2) := by decide +kernel
theorem dX11_canSay_125 : decode cX11_canSay 125 = .ok (.ifCond .eq 7, 3) := by decide +kernel
theorem dX11_canSay_128 : decode cX11_canSay 128 = .ok (.iconst 1, 1) := by decide +kernel
theorem dX11_canSay_129 : decode cX11_canSay 129 = .ok (.goto 4, 3) := by decide +kernel
theorem dX11_canSay_132 : decode cX11_canSay 132 = .ok (.iconst 0, 1) := by decide +kernel
theorem dX11_canSay_133 : decode cX11_canSay 133 = .ok (.ireturn, 1) := by decide +kernel
theorem dX11_canSay_134 : decode cX11_canSay 134 = .ok (.iload 5, 2) := by decide +kernel
theorem dX11_canSay_136 : decode cX11_canSay 136 = .ok (.ifCond .eq 12, 3) := by decide +kernel
theorem dX11_canSay_139 : decode cX11_canSay 139 = .ok (.iload 6, 2) := by decide +kernel
theorem dX11_canSay_141 : decode cX11_canSay 141 = .ok (.ifCond .eq 7, 3) := by decide +kernel
theorem dX11_canSay_144 : decode cX11_canSay 144 = .ok (.iconst 1, 1) := by decide +kernel
theorem dX11_canSay_145 : decode cX11_canSay 145 = .ok (.goto 4, 3) := by decide +kernel
theorem dX11_canSay_148 : decode cX11_canSay 148 = .ok (.iconst 0, 1) := by decide +kernel
theorem dX11_canSay_149 : decode cX11_canSay 149 = .ok (.ireturn, 1) := by decide +kernel
theorem dX11_canSay_150 : decode cX11_canSay 150 = .ok (.iconst 0, 1) := by decide +kernel
theorem dX11_canSay_151 : decode cX11_canSay 151 = .ok (.ireturn, 1) := by decide +kernel
theorem dX11_ofFinder_0 : decode cX11_ofFinder 0 = .ok (.iload_n 2, 1) := by decide +kernel
theorem dX11_ofFinder_1 : decode cX11_ofFinder 1 = .ok (.tableswitch 58 1 4 #[31, 36, 41, 46], 31) := by decide +kernel
theorem dX11_ofFinder_32 : decode cX11_ofFinder 32 = .ok (.aload_n 1, 1) := by decide +kernel
theorem dX11_ofFinder_33 : decode cX11_ofFinder 33 = .ok (.getfield 496, 3) := by decide +kernel
theorem dX11_ofFinder_36 : decode cX11_ofFinder 36 = .ok (.ireturn, 1) := by decide +kernel
theorem dX11_ofFinder_37 : decode cX11_ofFinder 37 = .ok (.aload_n 1, 1) := by decide +kernel
theorem dX11_ofFinder_38 : decode cX11_ofFinder 38 = .ok (.getfield 499, 3) := by decide +kernel
theorem dX11_ofFinder_41 : decode cX11_ofFinder 41 = .ok (.ireturn, 1) := by decide +kernel
theorem dX11_ofFinder_42 : decode cX11_ofFinder 42 = .ok (.aload_n 1, 1) := by decide +kernel
theorem dX11_ofFinder_43 : decode cX11_ofFinder 43 = .ok (.getfield 97, 3) := by decide +kernel
theorem dX11_ofFinder_46 : decode cX11_ofFinder 46 = .ok (.ireturn, 1) := by decide +kernel
theorem dX11_ofFinder_47 : decode cX11_ofFinder 47 = .ok (.aload_n 0, 1) := by decide +kernel
theorem dX11_ofFinder_48 : decode cX11_ofFinder 48 = .ok (.getfield 10, 3) := by decide +kernel
theorem dX11_ofFinder_51 : decode cX11_ofFinder 51 = .ok (.aload_n 1, 1) := by decide +kernel
theorem dX11_ofFinder_52 : decode cX11_ofFinder 52 = .ok (.getfield 120, 3) := by decide +kernel
theorem dX11_ofFinder_55 : decode cX11_ofFinder 55 = .ok (.invokevirtual 502, 3) := by decide +kernel
theorem dX11_ofFinder_58 : decode cX11_ofFinder 58 = .ok (.ireturn, 1) := by decide +kernel
theorem dX11_ofFinder_59 : decode cX11_ofFinder 59 = .ok (.ldc 60, 2) := by decide +kernel
theorem dX11_ofFinder_61 : decode cX11_ofFinder 61 = .ok (.ireturn, 1) := by decide +kernel
theorem dX11_ofBox_0 : decode cX11_ofBox 0 = .ok (.iload_n 1, 1) := by decide +kernel
theorem dX11_ofBox_1 : decode cX11_ofBox 1 = .ok (.tableswitch 78 1 7 #[43, 48, 53, 58, 63, 68, 73], 43) := by decide +kernel
theorem dX11_ofBox_44 : decode cX11_ofBox 44 = .ok (.aload_n 0, 1) := by decide +kernel
theorem dX11_ofBox_45 : decode cX11_ofBox 45 = .ok (.getfield 274, 3) := by decide +kernel
theorem dX11_ofBox_48 : decode cX11_ofBox 48 = .ok (.ireturn, 1) := by decide +kernel
theorem dX11_ofBox_49 : decode cX11_ofBox 49 = .ok (.aload_n 0, 1) := by decide +kernel
theorem dX11_ofBox_50 : decode cX11_ofBox 50 = .ok (.getfield 228, 3) := by decide +kernel
theorem dX11_ofBox_53 : decode cX11_ofBox 53 = .ok (.ireturn, 1) := by decide +kernel
theorem dX11_ofBox_54 : decode cX11_ofBox 54 = .ok (.aload_n 0, 1) := by decide +kernel
theorem dX11_ofBox_55 : decode cX11_ofBox 55 = .ok (.getfield 505, 3) := by decide +kernel
theorem dX11_ofBox_58 : decode cX11_ofBox 58 = .ok (.ireturn, 1) := by decide +kernel
theorem dX11_ofBox_59 : decode cX11_ofBox 59 = .ok (.aload_n 0, 1) := by decide +kernel
theorem dX11_ofBox_60 : decode cX11_ofBox 60 = .ok (.getfield 153, 3) := by decide +kernel
theorem dX11_ofBox_63 : decode cX11_ofBox 63 = .ok (.ireturn, 1) := by decide +kernel
theorem dX11_ofBox_64 : decode cX11_ofBox 64 = .ok (.aload_n 0, 1) := by decide +kernel
theorem dX11_ofBox_65 : decode cX11_ofBox 65 = .ok (.invokevirtual 508, 3) := by decide +kernel
theorem dX11_ofBox_68 : decode cX11_ofBox 68 = .ok (.ireturn, 1) := by decide +kernel
theorem dX11_ofBox_69 : decode cX11_ofBox 69 = .ok (.aload_n 0, 1) := by decide +kernel
theorem dX11_ofBox_70 : decode cX11_ofBox 70 = .ok (.getfield 410, 3) := by decide +kernel
theorem dX11_ofBox_73 : decode cX11_ofBox 73 = .ok (.ireturn, 1) := by decide +kernel
theorem dX11_ofBox_74 : decode cX11_ofBox 74 = .ok (.aload_n 0, 1) := by decide +kernel
theorem dX11_ofBox_75 : decode cX11_ofBox 75 = .ok (.getfield 322, 3) := by decide +kernel
theorem dX11_ofBox_78 : decode cX11_ofBox 78 = .ok (.ireturn, 1) := by decide +kernel
theorem dX11_ofBox_79 : decode cX11_ofBox 79 = .ok (.ldc 60, 2) := by decide +kernel
theorem dX11_ofBox_81 : decode cX11_ofBox 81 = .ok (.ireturn, 1) := by decide +kernel
theorem dX11_ofThing_0 : decode cX11_ofThing 0 = .ok (.iload_n 2, 1) := by decide +kernel
theorem dX11_ofThing_1 : decode cX11_ofThing 1 = .ok (.lookupswitch 47 #[(1, 27), (2, 42)], 27) := by decide +kernel
theorem dX11_ofThing_28 : decode cX11_ofThing 28 = .ok (.aload_n 0, 1) := by decide +kernel
theorem dX11_ofThing_29 : decode cX11_ofThing 29 = .ok (.getfield 30, 3) := by decide +kernel
theorem dX11_ofThing_32 : decode cX11_ofThing 32 = .ok (.aload_n 1, 1) := by decide +kernel
theorem dX11_ofThing_33 : decode cX11_ofThing 33 = .ok (.aload_n 1, 1) := by decide +kernel
theorem dX11_ofThing_34 : decode cX11_ofThing 34 = .ok (.getfield 344, 3) := by decide +kernel
theorem dX11_ofThing_37 : decode cX11_ofThing 37 = .ok (.iconst 1, 1) := by decide +kernel
theorem dX11_ofThing_38 : decode cX11_ofThing 38 = .ok (.isub, 1) := by decide +kernel
theorem dX11_ofThing_39 : decode cX11_ofThing 39 = .ok (.invokevirtual 511, 3) := by decide +kernel
theorem dX11_ofThing_42 : decode cX11_ofThing 42 = .ok (.ireturn, 1) := by decide +kernel
theorem dX11_ofThing_43 : decode cX11_ofThing 43 = .ok (.aload_n 1, 1) := by decide +kernel
theorem dX11_ofThing_44 : decode cX11_ofThing 44 = .ok (.getfield 344, 3) := by decide +kernel
theorem dX11_ofThing_47 : decode cX11_ofThing 47 = .ok (.ireturn, 1) := by decide +kernel
theorem dX11_ofThing_48 : decode cX11_ofThing 48 = .ok (.ldc 60, 2) := by decide +kernel
theorem dX11_ofThing_50 : decode cX11_ofThing 50 = .ok (.ireturn, 1) := by decide +kernel
theorem dX11_riddleOf_0 : decode cX11_riddleOf 0 = .ok (.aload_n 0, 1) := by decide +kernel
theorem dX11_riddleOf_1 : decode cX11_riddleOf 1 = .ok (.getfield 10, 3) := by decide +kernel
theorem dX11_riddleOf_4 : decode cX11_riddleOf 4 = .ok (.iload_n 1, 1) := by decide +kernel
theorem dX11_riddleOf_5 : decode cX11_riddleOf 5 = .ok (.invokevirtual 130, 3) := by decide +kernel
theorem dX11_riddleOf_8 : decode cX11_riddleOf 8 = .ok (.astore_n 2, 1) := by decide +kernel
theorem dX11_riddleOf_9 : decode cX11_riddleOf 9 = .ok (.aload_n 2, 1) := by decide +kernel
theorem dX11_riddleOf_10 : decode cX11_riddleOf 10 = .ok (.ifnonnull 7, 3) := by decide +kernel
theorem dX11_riddleOf_13 : decode cX11_riddleOf 13 = .ok (.aconst_null, 1) := by decide +kernel
theorem dX11_riddleOf_14 : decode cX11_riddleOf 14 = .ok (.goto 7, 3) := by decide +kernel
theorem dX11_riddleOf_17 : decode cX11_riddleOf 17 = .ok (.aload_n 2, 1) := by decide +kernel
theorem dX11_riddleOf_18 : decode cX11_riddleOf 18 = .ok (.getfield 514, 3) := by decide +kernel
theorem dX11_riddleOf_21 : decode cX11_riddleOf 21 = .ok (.areturn, 1) := by decide +kernel
theorem dX11_shelfAt_0 : decode cX11_shelfAt 0 = .ok (.iload_n 1, 1) := by decide +kernel
theorem dX11_shelfAt_1 : decode cX11_shelfAt 1 = .ok (.ifCond .lt 9, 3) := by decide +kernel
theorem dX11_shelfAt_4 : decode cX11_shelfAt 4 = .ok (.iload_n 1, 1) := by decide +kernel
theorem dX11_shelfAt_5 : decode cX11_shelfAt 5 = .ok (.bipush 6, 2) := by decide +kernel
theorem dX11_shelfAt_7 : decode cX11_shelfAt 7 = .ok (.if_icmp .lt 7, 3) := by decide +kernel
theorem dX11_shelfAt_10 : decode cX11_shelfAt 10 = .ok (.aconst_null, 1) := by decide +kernel
theorem dX11_shelfAt_11 : decode cX11_shelfAt 11 = .ok (.goto 9, 3) := by decide +kernel
theorem dX11_shelfAt_14 : decode cX11_shelfAt 14 = .ok (.aload_n 0, 1) := by decide +kernel
theorem dX11_shelfAt_15 : decode cX11_shelfAt 15 = .ok (.getfield 43, 3) := by decide +kernel
theorem dX11_shelfAt_18 : decode cX11_shelfAt 18 = .ok (.iload_n 1, 1) := by decide +kernel
theorem dX11_shelfAt_19 : decode cX11_shelfAt 19 = .ok (.aaload, 1) := by decide +kernel
theorem dX11_shelfAt_20 : decode cX11_shelfAt 20 = .ok (.areturn, 1) := by decide +kernel
theorem dX11_isToPut_0 : decode cX11_isToPut 0 = .ok (.aload_n 1, 1) := by decide +kernel
theorem dX11_isToPut_1 : decode cX11_isToPut 1 = .ok (.ifnull 25, 3) := by decide +kernel
theorem dX11_isToPut_4 : decode cX11_isToPut 4 = .ok (.aload_n 1, 1) := by decide +kernel
theorem dX11_isToPut_5 : decode cX11_isToPut 5 = .ok (.invokevirtual 137, 3) := by decide +kernel
theorem dX11_isToPut_8 : decode cX11_isToPut 8 = .ok (.ifCond .ne 18, 3) := by decide +kernel
theorem dX11_isToPut_11 : decode cX11_isToPut 11 = .ok (.aload_n 0, 1) := by decide +kernel
theorem dX11_isToPut_12 : decode cX11_isToPut 12 = .ok (.getfield 21, 3) := by decide +kernel
theorem dX11_isToPut_15 : decode cX11_isToPut 15 = .ok (.aload_n 1, 1) := by decide +kernel
theorem dX11_isToPut_16 : decode cX11_isToPut 16 = .ok (.invokevirtual 518, 3) := by decide +kernel
theorem dX11_isToPut_19 : decode cX11_isToPut 19 = .ok (.ifCond .eq 7, 3) := by decide +kernel
theorem dX11_isToPut_22 : decode cX11_isToPut 22 = .ok (.iconst 1, 1) := by decide +kernel
theorem dX11_isToPut_23 : decode cX11_isToPut 23 = .ok (.goto 4, 3) := by decide +kernel
theorem dX11_isToPut_26 : decode cX11_isToPut 26 = .ok (.iconst 0, 1) := by decide +kernel
theorem dX11_isToPut_27 : decode cX11_isToPut 27 = .ok (.ireturn, 1) := by decide +kernel
theorem dX11_takerOf_0 : decode cX11_takerOf 0 = .ok (.bipush (-2), 2) := by decide +kernel
theorem dX11_takerOf_2 : decode cX11_takerOf 2 = .ok (.istore_n 2, 1) := by decide +kernel
theorem dX11_takerOf_3 : decode cX11_takerOf 3 = .ok (.iconst 0, 1) := by decide +kernel
theorem dX11_takerOf_4 : decode cX11_takerOf 4 = .ok (.istore_n 3, 1) := by decide +kernel
theorem dX11_takerOf_5 : decode cX11_takerOf 5 = .ok (.iconst 0, 1) := by decide +kernel
theorem dX11_takerOf_6 : decode cX11_takerOf 6 = .ok (.istore 4, 2) := by decide +kernel
theorem dX11_takerOf_8 : decode cX11_takerOf 8 = .ok (.iload 4, 2) := by decide +kernel
theorem dX11_takerOf_10 : decode cX11_takerOf 10 = .ok (.aload_n 1, 1) := by decide +kernel
theorem dX11_takerOf_11 : decode cX11_takerOf 11 = .ok (.getfield 363, 3) := by decide +kernel
theorem dX11_takerOf_14 : decode cX11_takerOf 14 = .ok (.if_icmp .ge 106, 3) := by decide +kernel
theorem dX11_takerOf_17 : decode cX11_takerOf 17 = .ok (.aload_n 0, 1) := by decide +kernel
theorem dX11_takerOf_18 : decode cX11_takerOf 18 = .ok (.getfield 10, 3) := by decide +kernel
theorem dX11_takerOf_21 : decode cX11_takerOf 21 = .ok (.aload_n 1, 1) := by decide +kernel
theorem dX11_takerOf_22 : decode cX11_takerOf 22 = .ok (.getfield 366, 3) := by decide +kernel
theorem dX11_takerOf_25 : decode cX11_takerOf 25 = .ok (.iload 4, 2) := by decide +kernel
theorem dX11_takerOf_27 : decode cX11_takerOf 27 = .ok (.iaload, 1) := by decide +kernel
theorem dX11_takerOf_28 : decode cX11_takerOf 28 = .ok (.invokevirtual 90, 3) := by decide +kernel
theorem dX11_takerOf_31 : decode cX11_takerOf 31 = .ok (.astore 5, 2) := by decide +kernel
theorem dX11_takerOf_33 : decode cX11_takerOf 33 = .ok (.aload 5, 2) := by decide +kernel
theorem dX11_takerOf_35 : decode cX11_takerOf 35 = .ok (.ifnull 79, 3) := by decide +kernel
theorem dX11_takerOf_38 : decode cX11_takerOf 38 = .ok (.aload 5, 2) := by decide +kernel
theorem dX11_takerOf_40 : decode cX11_takerOf 40 = .ok (.invokevirtual 94, 3) := by decide +kernel
theorem dX11_takerOf_43 : decode cX11_takerOf 43 = .ok (.ifCond .ne 71, 3) := by decide +kernel
theorem dX11_takerOf_46 : decode cX11_takerOf 46 = .ok (.aload_n 0, 1) := by decide +kernel
theorem dX11_takerOf_47 : decode cX11_takerOf 47 = .ok (.getfield 21, 3) := by decide +kernel
theorem dX11_takerOf_50 : decode cX11_takerOf 50 = .ok (.aload 5, 2) := by decide +kernel
theorem dX11_takerOf_52 : decode cX11_takerOf 52 = .ok (.aload_n 1, 1) := by decide +kernel
theorem dX11_takerOf_53 : decode cX11_takerOf 53 = .ok (.getfield 134, 3) := by decide +kernel
theorem dX11_takerOf_56 : decode cX11_takerOf 56 = .ok (.aload_n 1, 1) := by decide +kernel
theorem dX11_takerOf_57 : decode cX11_takerOf 57 = .ok (.invokevirtual 508, 3) := by decide +kernel
theorem dX11_takerOf_60 : decode cX11_takerOf 60 = .ok (.invokevirtual 521, 3) := by decide +kernel
theorem dX11_takerOf_63 : decode cX11_takerOf 63 = .ok (.ifCond .eq 51, 3) := by decide +kernel
theorem dX11_takerOf_66 : decode cX11_takerOf 66 = .ok (.aload 5, 2) := by decide +kernel
theorem dX11_takerOf_68 : decode cX11_takerOf 68 = .ok (.getfield 496, 3) := by decide +kernel
theorem dX11_takerOf_71 : decode cX11_takerOf 71 = .ok (.aload_n 1, 1) := by decide +kernel
theorem dX11_takerOf_72 : decode cX11_takerOf 72 = .ok (.invokevirtual 508, 3) := by decide +kernel
theorem dX11_takerOf_75 : decode cX11_takerOf 75 = .ok (.invokestatic 231, 3) := by decide +kernel
theorem dX11_takerOf_78 : decode cX11_takerOf 78 = .ok (.istore 6, 2) := by decide +kernel
theorem dX11_takerOf_80 : decode cX11_takerOf 80 = .ok (.iload_n 2, 1) := by decide +kernel
theorem dX11_takerOf_81 : decode cX11_takerOf 81 = .ok (.ifCond .lt 24, 3) := by decide +kernel
theorem dX11_takerOf_84 : decode cX11_takerOf 84 = .ok (.iload 6, 2) := by decide +kernel
theorem dX11_takerOf_86 : decode cX11_takerOf 86 = .ok (.iload_n 3, 1) := by decide +kernel
theorem dX11_takerOf_87 : decode cX11_takerOf 87 = .ok (.if_icmp .lt 18, 3) := by decide +kernel
theorem dX11_takerOf_90 : decode cX11_takerOf 90 = .ok (.iload 6, 2) := by decide +kernel
theorem dX11_takerOf_92 : decode cX11_takerOf 92 = .ok (.iload_n 3, 1) := by decide +kernel
theorem dX11_takerOf_93 : decode cX11_takerOf 93 = .ok (.if_icmp .ne 21, 3) := by decide +kernel
theorem dX11_takerOf_96 : decode cX11_takerOf 96 = .ok (.aload 5, 2) := by decide +kernel
theorem dX11_takerOf_98 : decode cX11_takerOf 98 = .ok (.getfield 120, 3) := by decide +kernel
theorem dX11_takerOf_101 : decode cX11_takerOf 101 = .ok (.iload_n 2, 1) := by decide +kernel
theorem dX11_takerOf_102 : decode cX11_takerOf 102 = .ok (.if_icmp .ge 12, 3) := by decide +kernel
theorem dX11_takerOf_105 : decode cX11_takerOf 105 = .ok (.aload 5, 2) := by decide +kernel
theorem dX11_takerOf_107 : decode cX11_takerOf 107 = .ok (.getfield 120, 3) := by decide +kernel
theorem dX11_takerOf_110 : decode cX11_takerOf 110 = .ok (.istore_n 2, 1) := by decide +kernel
theorem dX11_takerOf_111 : decode cX11_takerOf 111 = .ok (.iload 6, 2) := by decide +kernel
theorem dX11_takerOf_113 : decode cX11_takerOf 113 = .ok (.istore_n 3, 1) := by decide +kernel
theorem dX11_takerOf_114 : decode cX11_takerOf 114 = .ok (.iinc 4 1, 3) := by decide +kernel
theorem dX11_takerOf_117 : decode cX11_takerOf 117 = .ok (.goto (-109), 3) := by decide +kernel
theorem dX11_takerOf_120 : decode cX11_takerOf 120 = .ok (.iload_n 2, 1) := by decide +kernel
theorem dX11_takerOf_121 : decode cX11_takerOf 121 = .ok (.ireturn, 1) := by decide +kernel
theorem dX11_countBoxes_0 : decode cX11_countBoxes 0 = .ok (.iconst 0, 1) := by decide +kernel
theorem dX11_countBoxes_1 : decode cX11_countBoxes 1 = .ok (.istore_n 2, 1) := by decide +kernel
theorem dX11_countBoxes_2 : decode cX11_countBoxes 2 = .ok (.iconst 0, 1) := by decide +kernel
theorem dX11_countBoxes_3 : decode cX11_countBoxes 3 = .ok (.istore_n 3, 1) := by decide +kernel
theorem dX11_countBoxes_4 : decode cX11_countBoxes 4 = .ok (.iload_n 3, 1) := by decide +kernel
theorem dX11_countBoxes_5 : decode cX11_countBoxes 5 = .ok (.aload_n 0, 1) := by decide +kernel
theorem dX11_countBoxes_6 : decode cX11_countBoxes 6 = .ok (.getfield 10, 3) := by decide +kernel
theorem dX11_countBoxes_9 : decode cX11_countBoxes 9 = .ok (.getfield 70, 3) := by decide +kernel
theorem dX11_countBoxes_12 : decode cX11_countBoxes 12 = .ok (.if_icmp .ge 39, 3) := by decide +kernel
theorem dX11_countBoxes_15 : decode cX11_countBoxes 15 = .ok (.aload_n 0, 1) := by decide +kernel
theorem dX11_countBoxes_16 : decode cX11_countBoxes 16 = .ok (.getfield 10, 3) := by decide +kernel
theorem dX11_countBoxes_19 : decode cX11_countBoxes 19 = .ok (.iload_n 3, 1) := by decide +kernel
theorem dX11_countBoxes_20 : decode cX11_countBoxes 20 = .ok (.invokevirtual 130, 3) := by decide +kernel
theorem dX11_countBoxes_23 : decode cX11_countBoxes 23 = .ok (.astore 4, 2) := by decide +kernel
theorem dX11_countBoxes_25 : decode cX11_countBoxes 25 = .ok (.aload 4, 2) := by decide +kernel
theorem dX11_countBoxes_27 : decode cX11_countBoxes 27 = .ok (.ifnull 18, 3) := by decide +kernel
theorem dX11_countBoxes_30 : decode cX11_countBoxes 30 = .ok (.iload_n 1, 1) := by decide +kernel
theorem dX11_countBoxes_31 : decode cX11_countBoxes 31 = .ok (.ifCond .eq 11, 3) := by decide +kernel
theorem dX11_countBoxes_34 : decode cX11_countBoxes 34 = .ok (.aload 4, 2) := by decide +kernel
theorem dX11_countBoxes_36 : decode cX11_countBoxes 36 = .ok (.invokevirtual 137, 3) := by decide +kernel
theorem dX11_countBoxes_39 : decode cX11_countBoxes 39 = .ok (.ifCond .ne 6, 3) := by decide +kernel
theorem dX11_countBoxes_42 : decode cX11_countBoxes 42 = .ok (.iinc 2 1, 3) := by decide +kernel
theorem dX11_countBoxes_45 : decode cX11_countBoxes 45 = .ok (.iinc 3 1, 3) := by decide +kernel
theorem dX11_countBoxes_48 : decode cX11_countBoxes 48 = .ok (.goto (-44), 3) := by decide +kernel
theorem dX11_countBoxes_51 : decode cX11_countBoxes 51 = .ok (.iload_n 2, 1) := by decide +kernel
theorem dX11_countBoxes_52 : decode cX11_countBoxes 52 = .ok (.ireturn, 1) := by decide +kernel
theorem dX11_countFinders_0 : decode cX11_countFinders 0 = .ok (.iconst 0, 1) := by decide +kernel
theorem dX11_countFinders_1 : decode cX11_countFinders 1 = .ok (.istore_n 2, 1) := by decide +kernel
theorem dX11_countFinders_2 : decode cX11_countFinders 2 = .ok (.iconst 0, 1) := by decide +kernel
theorem dX11_countFinders_3 : decode cX11_countFinders 3 = .ok (.istore_n 3, 1) := by decide +kernel
theorem dX11_countFinders_4 : decode cX11_countFinders 4 = .ok (.iload_n 3, 1) := by decide +kernel
theorem dX11_countFinders_5 : decode cX11_countFinders 5 = .ok (.aload_n 0, 1) := by decide +kernel
theorem dX11_countFinders_6 : decode cX11_countFinders 6 = .ok (.getfield 10, 3) := by decide +kernel
theorem dX11_countFinders_9 : decode cX11_countFinders 9 = .ok (.getfield 70, 3) := by decide +kernel
theorem dX11_countFinders_12 : decode cX11_countFinders 12 = .ok (.if_icmp .ge 39, 3) := by decide +kernel
theorem dX11_countFinders_15 : decode cX11_countFinders 15 = .ok (.aload_n 0, 1) := by decide +kernel
theorem dX11_countFinders_16 : decode cX11_countFinders 16 = .ok (.getfield 10, 3) := by decide +kernel
theorem dX11_countFinders_19 : decode cX11_countFinders 19 = .ok (.iload_n 3, 1) := by decide +kernel
theorem dX11_countFinders_20 : decode cX11_countFinders 20 = .ok (.invokevirtual 90, 3) := by decide +kernel
theorem dX11_countFinders_23 : decode cX11_countFinders 23 = .ok (.astore 4, 2) := by decide +kernel
theorem dX11_countFinders_25 : decode cX11_countFinders 25 = .ok (.aload 4, 2) := by decide +kernel
theorem dX11_countFinders_27 : decode cX11_countFinders 27 = .ok (.ifnull 18, 3) := by decide +kernel
theorem dX11_countFinders_30 : decode cX11_countFinders 30 = .ok (.iload_n 1, 1) := by decide +kernel
theorem dX11_countFinders_31 : decode cX11_countFinders 31 = .ok (.ifCond .eq 11, 3) := by decide +kernel
theorem dX11_countFinders_34 : decode cX11_countFinders 34 = .ok (.aload 4, 2) := by decide +kernel
theorem dX11_countFinders_36 : decode cX11_countFinders 36 = .ok (.invokevirtual 94, 3) := by decide +kernel
theorem dX11_countFinders_39 : decode cX11_countFinders 39 = .ok (.ifCond .ne 6, 3) := by decide +kernel
theorem dX11_countFinders_42 : decode cX11_countFinders 42 = .ok (.iinc 2 1, 3) := by decide +kernel
theorem dX11_countFinders_45 : decode cX11_countFinders 45 = .ok (.iinc 3 1, 3) := by decide +kernel
theorem dX11_countFinders_48 : decode cX11_countFinders 48 = .ok (.goto (-44), 3) := by decide +kernel
theorem dX11_countFinders_51 : decode cX11_countFinders 51 = .ok (.iload_n 2, 1) := by decide +kernel
theorem dX11_countFinders_52 : decode cX11_countFinders 52 = .ok (.ireturn, 1) := by decide +kernel
theorem dX11_boundOf_0 : decode cX11_boundOf 0 = .ok (.iload_n 0, 1) := by decide +kernel
theorem dX11_boundOf_1 : decode cX11_boundOf 1 = .ok (.iload_n 1, 1) := by decide +kernel
theorem dX11_boundOf_2 : decode cX11_boundOf 2 = .ok (.isub, 1) := by decide +kernel
theorem dX11_boundOf_3 : decode cX11_boundOf 3 = .ok (.iload_n 2, 1) := by decide +kernel
theorem dX11_boundOf_4 : decode cX11_boundOf 4 = .ok (.iadd, 1) := by decide +kernel
theorem dX11_boundOf_5 : decode cX11_boundOf 5 = .ok (.istore_n 3, 1) := by decide +kernel
theorem dX11_boundOf_6 : decode cX11_boundOf 6 = .ok (.iload_n 3, 1) := by decide +kernel
theorem dX11_boundOf_7 : decode cX11_boundOf 7 = .ok (.iload_n 2, 1) := by decide +kernel
theorem dX11_boundOf_8 : decode cX11_boundOf 8 = .ok (.if_icmp .le 31, 3) := by decide +kernel
theorem dX11_boundOf_11 : decode cX11_boundOf 11 = .ok (.ldc2_w 525, 3) := by decide +kernel
theorem dX11_boundOf_14 : decode cX11_boundOf 14 = .ok (.iload_n 2, 1) := by decide +kernel
theorem dX11_boundOf_15 : decode cX11_boundOf 15 = .ok (.iload_n 0, 1) := by decide +kernel
theorem dX11_boundOf_16 : decode cX11_boundOf 16 = .ok (.iload_n 1, 1) := by decide +kernel
theorem dX11_boundOf_17 : decode cX11_boundOf 17 = .ok (.iload_n 3, 1) := by decide +kernel
theorem dX11_boundOf_18 : decode cX11_boundOf 18 = .ok (.invokestatic 527, 3) := by decide +kernel
theorem dX11_boundOf_21 : decode cX11_boundOf 21 = .ok (.lmul, 1) := by decide +kernel
theorem dX11_boundOf_22 : decode cX11_boundOf 22 = .ok (.iload_n 0, 1) := by decide +kernel
theorem dX11_boundOf_23 : decode cX11_boundOf 23 = .ok (.iload_n 1, 1) := by decide +kernel
theorem dX11_boundOf_24 : decode cX11_boundOf 24 = .ok (.invokestatic 531, 3) := by decide +kernel
theorem dX11_boundOf_27 : decode cX11_boundOf 27 = .ok (.lcmp, 1) := by decide +kernel
theorem dX11_boundOf_28 : decode cX11_boundOf 28 = .ok (.ifCond .lt 5, 3) := by decide +kernel
theorem dX11_boundOf_31 : decode cX11_boundOf 31 = .ok (.iload_n 3, 1) := by decide +kernel
theorem dX11_boundOf_32 : decode cX11_boundOf 32 = .ok (.ireturn, 1) := by decide +kernel
theorem dX11_boundOf_33 : decode cX11_boundOf 33 = .ok (.iinc 3 (-1), 3) := by decide +kernel
theorem dX11_boundOf_36 : decode cX11_boundOf 36 = .ok (.goto (-30), 3) := by decide +kernel
theorem dX11_boundOf_39 : decode cX11_boundOf 39 = .ok (.iload_n 2, 1) := by decide +kernel
theorem dX11_boundOf_40 : decode cX11_boundOf 40 = .ok (.ireturn, 1) := by decide +kernel
theorem dX11_waysOfAtMost_0 : decode cX11_waysOfAtMost 0 = .ok (.lconst 0, 1) := by decide +kernel
theorem dX11_waysOfAtMost_1 : decode cX11_waysOfAtMost 1 = .ok (.lstore 4, 2) := by decide +kernel
theorem dX11_waysOfAtMost_3 : decode cX11_waysOfAtMost 3 = .ok (.iconst 0, 1) := by decide +kernel
theorem dX11_waysOfAtMost_4 : decode cX11_waysOfAtMost 4 = .ok (.istore 6, 2) := by decide +kernel
