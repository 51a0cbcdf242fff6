theorem dX8_emit_10 : decode cX8_emit 10 = .ok (.aload_n 0, 1) := by decide +kernel
theorem dX8_emit_11 : decode cX8_emit 11 = .ok (.getfield 22, 3) := by decide +kernel
theorem dX8_emit_14 : decode cX8_emit 14 = .ok (.aload_n 0, 1) := by decide +kernel
theorem dX8_emit_15 : decode cX8_emit 15 = .ok (.getfield 29, 3) := by decide +kernel
theorem dX8_emit_18 : decode cX8_emit 18 = .ok (.iload_n 1, 1) := by decide +kernel
theorem dX8_emit_19 : decode cX8_emit 19 = .ok (.iastore, 1) := by decide +kernel
theorem dX8_emit_20 : decode cX8_emit 20 = .ok (.aload_n 0, 1) := by decide +kernel
theorem dX8_emit_21 : decode cX8_emit 21 = .ok (.dup, 1) := by decide +kernel
theorem dX8_emit_22 : decode cX8_emit 22 = .ok (.getfield 29, 3) := by decide +kernel
theorem dX8_emit_25 : decode cX8_emit 25 = .ok (.iconst 1, 1) := by decide +kernel
theorem dX8_emit_26 : decode cX8_emit 26 = .ok (.iadd, 1) := by decide +kernel
theorem dX8_emit_27 : decode cX8_emit 27 = .ok (.putfield 29, 3) := by decide +kernel
theorem dX8_emit_30 : decode cX8_emit 30 = .ok (.return_, 1) := by decide +kernel
theorem dX8_readLine_0 : decode cX8_readLine 0 = .ok (.aload_n 0, 1) := by decide +kernel
theorem dX8_readLine_1 : decode cX8_readLine 1 = .ok (.getfield 47, 3) := by decide +kernel
theorem dX8_readLine_4 : decode cX8_readLine 4 = .ok (.sipush 314, 3) := by decide +kernel
theorem dX8_readLine_7 : decode cX8_readLine 7 = .ok (.if_icmp .ne 8, 3) := by decide +kernel
theorem dX8_readLine_10 : decode cX8_readLine 10 = .ok (.bipush (-33), 2) := by decide +kernel
theorem dX8_readLine_12 : decode cX8_readLine 12 = .ok (.goto 19, 3) := by decide +kernel
theorem dX8_readLine_15 : decode cX8_readLine 15 = .ok (.aload_n 0, 1) := by decide +kernel
theorem dX8_readLine_16 : decode cX8_readLine 16 = .ok (.getfield 47, 3) := by decide +kernel
theorem dX8_readLine_19 : decode cX8_readLine 19 = .ok (.sipush 315, 3) := by decide +kernel
theorem dX8_readLine_22 : decode cX8_readLine 22 = .ok (.if_icmp .ne 8, 3) := by decide +kernel
theorem dX8_readLine_25 : decode cX8_readLine 25 = .ok (.bipush (-34), 2) := by decide +kernel
theorem dX8_readLine_27 : decode cX8_readLine 27 = .ok (.goto 4, 3) := by decide +kernel
theorem dX8_readLine_30 : decode cX8_readLine 30 = .ok (.iconst 0, 1) := by decide +kernel
theorem dX8_readLine_31 : decode cX8_readLine 31 = .ok (.istore_n 1, 1) := by decide +kernel
theorem dX8_readLine_32 : decode cX8_readLine 32 = .ok (.iload_n 1, 1) := by decide +kernel
theorem dX8_readLine_33 : decode cX8_readLine 33 = .ok (.ifCond .eq 23, 3) := by decide +kernel
theorem dX8_readLine_36 : decode cX8_readLine 36 = .ok (.aload_n 0, 1) := by decide +kernel
theorem dX8_readLine_37 : decode cX8_readLine 37 = .ok (.invokevirtual 53, 3) := by decide +kernel
theorem dX8_readLine_40 : decode cX8_readLine 40 = .ok (.aload_n 0, 1) := by decide +kernel
theorem dX8_readLine_41 : decode cX8_readLine 41 = .ok (.iconst 0, 1) := by decide +kernel
theorem dX8_readLine_42 : decode cX8_readLine 42 = .ok (.invokevirtual 59, 3) := by decide +kernel
theorem dX8_readLine_45 : decode cX8_readLine 45 = .ok (.aload_n 0, 1) := by decide +kernel
theorem dX8_readLine_46 : decode cX8_readLine 46 = .ok (.iload_n 1, 1) := by decide +kernel
theorem dX8_readLine_47 : decode cX8_readLine 47 = .ok (.invokevirtual 63, 3) := by decide +kernel
theorem dX8_readLine_50 : decode cX8_readLine 50 = .ok (.aload_n 0, 1) := by decide +kernel
theorem dX8_readLine_51 : decode cX8_readLine 51 = .ok (.bipush 58, 2) := by decide +kernel
theorem dX8_readLine_53 : decode cX8_readLine 53 = .ok (.invokevirtual 66, 3) := by decide +kernel
theorem dX8_readLine_56 : decode cX8_readLine 56 = .ok (.aload_n 0, 1) := by decide +kernel
theorem dX8_readLine_57 : decode cX8_readLine 57 = .ok (.iconst 0, 1) := by decide +kernel
theorem dX8_readLine_58 : decode cX8_readLine 58 = .ok (.invokevirtual 59, 3) := by decide +kernel
theorem dX8_readLine_61 : decode cX8_readLine 61 = .ok (.aload_n 0, 1) := by decide +kernel
theorem dX8_readLine_62 : decode cX8_readLine 62 = .ok (.bipush (-35), 2) := by decide +kernel
theorem dX8_readLine_64 : decode cX8_readLine 64 = .ok (.invokevirtual 63, 3) := by decide +kernel
theorem dX8_readLine_67 : decode cX8_readLine 67 = .ok (.return_, 1) := by decide +kernel
theorem dX8_expect_0 : decode cX8_expect 0 = .ok (.aload_n 0, 1) := by decide +kernel
theorem dX8_expect_1 : decode cX8_expect 1 = .ok (.getfield 47, 3) := by decide +kernel
theorem dX8_expect_4 : decode cX8_expect 4 = .ok (.iload_n 1, 1) := by decide +kernel
theorem dX8_expect_5 : decode cX8_expect 5 = .ok (.if_icmp .ne 17, 3) := by decide +kernel
theorem dX8_expect_8 : decode cX8_expect 8 = .ok (.aload_n 0, 1) := by decide +kernel
theorem dX8_expect_9 : decode cX8_expect 9 = .ok (.getfield 41, 3) := by decide +kernel
theorem dX8_expect_12 : decode cX8_expect 12 = .ok (.ifCond .ge 10, 3) := by decide +kernel
theorem dX8_expect_15 : decode cX8_expect 15 = .ok (.aload_n 0, 1) := by decide +kernel
theorem dX8_expect_16 : decode cX8_expect 16 = .ok (.invokevirtual 53, 3) := by decide +kernel
theorem dX8_expect_19 : decode cX8_expect 19 = .ok (.goto 7, 3) := by decide +kernel
theorem dX8_expect_22 : decode cX8_expect 22 = .ok (.aload_n 0, 1) := by decide +kernel
theorem dX8_expect_23 : decode cX8_expect 23 = .ok (.invokevirtual 56, 3) := by decide +kernel
theorem dX8_expect_26 : decode cX8_expect 26 = .ok (.return_, 1) := by decide +kernel
theorem dX8_readEither_0 : decode cX8_readEither 0 = .ok (.aload_n 0, 1) := by decide +kernel
theorem dX8_readEither_1 : decode cX8_readEither 1 = .ok (.iload_n 1, 1) := by decide +kernel
theorem dX8_readEither_2 : decode cX8_readEither 2 = .ok (.invokevirtual 69, 3) := by decide +kernel
theorem dX8_readEither_5 : decode cX8_readEither 5 = .ok (.iconst 0, 1) := by decide +kernel
theorem dX8_readEither_6 : decode cX8_readEither 6 = .ok (.istore_n 2, 1) := by decide +kernel
theorem dX8_readEither_7 : decode cX8_readEither 7 = .ok (.iload_n 2, 1) := by decide +kernel
theorem dX8_readEither_8 : decode cX8_readEither 8 = .ok (.sipush 160, 3) := by decide +kernel
theorem dX8_readEither_11 : decode cX8_readEither 11 = .ok (.if_icmp .ge 41, 3) := by decide +kernel
theorem dX8_readEither_14 : decode cX8_readEither 14 = .ok (.aload_n 0, 1) := by decide +kernel
theorem dX8_readEither_15 : decode cX8_readEither 15 = .ok (.getfield 41, 3) := by decide +kernel
theorem dX8_readEither_18 : decode cX8_readEither 18 = .ok (.ifCond .ge 34, 3) := by decide +kernel
theorem dX8_readEither_21 : decode cX8_readEither 21 = .ok (.aload_n 0, 1) := by decide +kernel
theorem dX8_readEither_22 : decode cX8_readEither 22 = .ok (.getfield 47, 3) := by decide +kernel
theorem dX8_readEither_25 : decode cX8_readEither 25 = .ok (.sipush 311, 3) := by decide +kernel
theorem dX8_readEither_28 : decode cX8_readEither 28 = .ok (.if_icmp .ne 24, 3) := by decide +kernel
theorem dX8_readEither_31 : decode cX8_readEither 31 = .ok (.aload_n 0, 1) := by decide +kernel
theorem dX8_readEither_32 : decode cX8_readEither 32 = .ok (.invokevirtual 53, 3) := by decide +kernel
theorem dX8_readEither_35 : decode cX8_readEither 35 = .ok (.aload_n 0, 1) := by decide +kernel
theorem dX8_readEither_36 : decode cX8_readEither 36 = .ok (.iload_n 1, 1) := by decide +kernel
theorem dX8_readEither_37 : decode cX8_readEither 37 = .ok (.invokevirtual 69, 3) := by decide +kernel
theorem dX8_readEither_40 : decode cX8_readEither 40 = .ok (.aload_n 0, 1) := by decide +kernel
theorem dX8_readEither_41 : decode cX8_readEither 41 = .ok (.bipush (-21), 2) := by decide +kernel
theorem dX8_readEither_43 : decode cX8_readEither 43 = .ok (.invokevirtual 63, 3) := by decide +kernel
theorem dX8_readEither_46 : decode cX8_readEither 46 = .ok (.iinc 2 1, 3) := by decide +kernel
theorem dX8_readEither_49 : decode cX8_readEither 49 = .ok (.goto (-42), 3) := by decide +kernel
theorem dX8_readEither_52 : decode cX8_readEither 52 = .ok (.return_, 1) := by decide +kernel
theorem dX8_readBoth_0 : decode cX8_readBoth 0 = .ok (.aload_n 0, 1) := by decide +kernel
theorem dX8_readBoth_1 : decode cX8_readBoth 1 = .ok (.iload_n 1, 1) := by decide +kernel
theorem dX8_readBoth_2 : decode cX8_readBoth 2 = .ok (.invokevirtual 72, 3) := by decide +kernel
theorem dX8_readBoth_5 : decode cX8_readBoth 5 = .ok (.iconst 0, 1) := by decide +kernel
theorem dX8_readBoth_6 : decode cX8_readBoth 6 = .ok (.istore_n 2, 1) := by decide +kernel
theorem dX8_readBoth_7 : decode cX8_readBoth 7 = .ok (.iload_n 2, 1) := by decide +kernel
theorem dX8_readBoth_8 : decode cX8_readBoth 8 = .ok (.sipush 160, 3) := by decide +kernel
theorem dX8_readBoth_11 : decode cX8_readBoth 11 = .ok (.if_icmp .ge 41, 3) := by decide +kernel
theorem dX8_readBoth_14 : decode cX8_readBoth 14 = .ok (.aload_n 0, 1) := by decide +kernel
theorem dX8_readBoth_15 : decode cX8_readBoth 15 = .ok (.getfield 41, 3) := by decide +kernel
theorem dX8_readBoth_18 : decode cX8_readBoth 18 = .ok (.ifCond .ge 34, 3) := by decide +kernel
theorem dX8_readBoth_21 : decode cX8_readBoth 21 = .ok (.aload_n 0, 1) := by decide +kernel
theorem dX8_readBoth_22 : decode cX8_readBoth 22 = .ok (.getfield 47, 3) := by decide +kernel
theorem dX8_readBoth_25 : decode cX8_readBoth 25 = .ok (.sipush 312, 3) := by decide +kernel
theorem dX8_readBoth_28 : decode cX8_readBoth 28 = .ok (.if_icmp .ne 24, 3) := by decide +kernel
theorem dX8_readBoth_31 : decode cX8_readBoth 31 = .ok (.aload_n 0, 1) := by decide +kernel
theorem dX8_readBoth_32 : decode cX8_readBoth 32 = .ok (.invokevirtual 53, 3) := by decide +kernel
theorem dX8_readBoth_35 : decode cX8_readBoth 35 = .ok (.aload_n 0, 1) := by decide +kernel
theorem dX8_readBoth_36 : decode cX8_readBoth 36 = .ok (.iload_n 1, 1) := by decide +kernel
theorem dX8_readBoth_37 : decode cX8_readBoth 37 = .ok (.invokevirtual 72, 3) := by decide +kernel
theorem dX8_readBoth_40 : decode cX8_readBoth 40 = .ok (.aload_n 0, 1) := by decide +kernel
theorem dX8_readBoth_41 : decode cX8_readBoth 41 = .ok (.bipush (-22), 2) := by decide +kernel
theorem dX8_readBoth_43 : decode cX8_readBoth 43 = .ok (.invokevirtual 63, 3) := by decide +kernel
theorem dX8_readBoth_46 : decode cX8_readBoth 46 = .ok (.iinc 2 1, 3) := by decide +kernel
theorem dX8_readBoth_49 : decode cX8_readBoth 49 = .ok (.goto (-42), 3) := by decide +kernel
theorem dX8_readBoth_52 : decode cX8_readBoth 52 = .ok (.return_, 1) := by decide +kernel
theorem dX8_readDenied_0 : decode cX8_readDenied 0 = .ok (.iconst 0, 1) := by decide +kernel
theorem dX8_readDenied_1 : decode cX8_readDenied 1 = .ok (.istore_n 2, 1) := by decide +kernel
theorem dX8_readDenied_2 : decode cX8_readDenied 2 = .ok (.iload_n 2, 1) := by decide +kernel
theorem dX8_readDenied_3 : decode cX8_readDenied 3 = .ok (.bipush 6, 2) := by decide +kernel
theorem dX8_readDenied_5 : decode cX8_readDenied 5 = .ok (.if_icmp .gt 29, 3) := by decide +kernel
theorem dX8_readDenied_8 : decode cX8_readDenied 8 = .ok (.aload_n 0, 1) := by decide +kernel
theorem dX8_readDenied_9 : decode cX8_readDenied 9 = .ok (.getfield 47, 3) := by decide +kernel
theorem dX8_readDenied_12 : decode cX8_readDenied 12 = .ok (.sipush 313, 3) := by decide +kernel
theorem dX8_readDenied_15 : decode cX8_readDenied 15 = .ok (.if_icmp .ne 19, 3) := by decide +kernel
theorem dX8_readDenied_18 : decode cX8_readDenied 18 = .ok (.aload_n 0, 1) := by decide +kernel
theorem dX8_readDenied_19 : decode cX8_readDenied 19 = .ok (.iload_n 1, 1) := by decide +kernel
theorem dX8_readDenied_20 : decode cX8_readDenied 20 = .ok (.iload_n 2, 1) := by decide +kernel
theorem dX8_readDenied_21 : decode cX8_readDenied 21 = .ok (.iadd, 1) := by decide +kernel
theorem dX8_readDenied_22 : decode cX8_readDenied 22 = .ok (.invokevirtual 75, 3) := by decide +kernel
theorem dX8_readDenied_25 : decode cX8_readDenied 25 = .ok (.ifCond .eq 9, 3) := by decide +kernel
theorem dX8_readDenied_28 : decode cX8_readDenied 28 = .ok (.iinc 2 1, 3) := by decide +kernel
theorem dX8_readDenied_31 : decode cX8_readDenied 31 = .ok (.goto (-29), 3) := by decide +kernel
theorem dX8_readDenied_34 : decode cX8_readDenied 34 = .ok (.aload_n 0, 1) := by decide +kernel
theorem dX8_readDenied_35 : decode cX8_readDenied 35 = .ok (.iload_n 1, 1) := by decide +kernel
theorem dX8_readDenied_36 : decode cX8_readDenied 36 = .ok (.iload_n 2, 1) := by decide +kernel
theorem dX8_readDenied_37 : decode cX8_readDenied 37 = .ok (.iadd, 1) := by decide +kernel
theorem dX8_readDenied_38 : decode cX8_readDenied 38 = .ok (.invokevirtual 79, 3) := by decide +kernel
theorem dX8_readDenied_41 : decode cX8_readDenied 41 = .ok (.aload_n 0, 1) := by decide +kernel
theorem dX8_readDenied_42 : decode cX8_readDenied 42 = .ok (.getfield 47, 3) := by decide +kernel
theorem dX8_readDenied_45 : decode cX8_readDenied 45 = .ok (.bipush 60, 2) := by decide +kernel
theorem dX8_readDenied_47 : decode cX8_readDenied 47 = .ok (.if_icmp .ne 8, 3) := by decide +kernel
theorem dX8_readDenied_50 : decode cX8_readDenied 50 = .ok (.bipush (-23), 2) := by decide +kernel
theorem dX8_readDenied_52 : decode cX8_readDenied 52 = .ok (.goto 32, 3) := by decide +kernel
theorem dX8_readDenied_55 : decode cX8_readDenied 55 = .ok (.aload_n 0, 1) := by decide +kernel
theorem dX8_readDenied_56 : decode cX8_readDenied 56 = .ok (.getfield 47, 3) := by decide +kernel
theorem dX8_readDenied_59 : decode cX8_readDenied 59 = .ok (.bipush 61, 2) := by decide +kernel
theorem dX8_readDenied_61 : decode cX8_readDenied 61 = .ok (.if_icmp .ne 8, 3) := by decide +kernel
theorem dX8_readDenied_64 : decode cX8_readDenied 64 = .ok (.bipush (-24), 2) := by decide +kernel
theorem dX8_readDenied_66 : decode cX8_readDenied 66 = .ok (.goto 18, 3) := by decide +kernel
theorem dX8_readDenied_69 : decode cX8_readDenied 69 = .ok (.aload_n 0, 1) := by decide +kernel
theorem dX8_readDenied_70 : decode cX8_readDenied 70 = .ok (.getfield 47, 3) := by decide +kernel
theorem dX8_readDenied_73 : decode cX8_readDenied 73 = .ok (.bipush 62, 2) := by decide +kernel
theorem dX8_readDenied_75 : decode cX8_readDenied 75 = .ok (.if_icmp .ne 8, 3) := by decide +kernel
theorem dX8_readDenied_78 : decode cX8_readDenied 78 = .ok (.bipush (-25), 2) := by decide +kernel
theorem dX8_readDenied_80 : decode cX8_readDenied 80 = .ok (.goto 4, 3) := by decide +kernel
theorem dX8_readDenied_83 : decode cX8_readDenied 83 = .ok (.iconst 0, 1) := by decide +kernel
theorem dX8_readDenied_84 : decode cX8_readDenied 84 = .ok (.istore_n 3, 1) := by decide +kernel
theorem dX8_readDenied_85 : decode cX8_readDenied 85 = .ok (.iload_n 3, 1) := by decide +kernel
theorem dX8_readDenied_86 : decode cX8_readDenied 86 = .ok (.ifCond .eq 26, 3) := by decide +kernel
theorem dX8_readDenied_89 : decode cX8_readDenied 89 = .ok (.aload_n 0, 1) := by decide +kernel
theorem dX8_readDenied_90 : decode cX8_readDenied 90 = .ok (.getfield 41, 3) := by decide +kernel
theorem dX8_readDenied_93 : decode cX8_readDenied 93 = .ok (.ifCond .ge 19, 3) := by decide +kernel
theorem dX8_readDenied_96 : decode cX8_readDenied 96 = .ok (.aload_n 0, 1) := by decide +kernel
theorem dX8_readDenied_97 : decode cX8_readDenied 97 = .ok (.invokevirtual 53, 3) := by decide +kernel
theorem dX8_readDenied_100 : decode cX8_readDenied 100 = .ok (.aload_n 0, 1) := by decide +kernel
theorem dX8_readDenied_101 : decode cX8_readDenied 101 = .ok (.iload_n 1, 1) := by decide +kernel
theorem dX8_readDenied_102 : decode cX8_readDenied 102 = .ok (.iload_n 2, 1) := by decide +kernel
theorem dX8_readDenied_103 : decode cX8_readDenied 103 = .ok (.iadd, 1) := by decide +kernel
theorem dX8_readDenied_104 : decode cX8_readDenied 104 = .ok (.invokevirtual 79, 3) := by decide +kernel
theorem dX8_readDenied_107 : decode cX8_readDenied 107 = .ok (.aload_n 0, 1) := by decide +kernel
theorem dX8_readDenied_108 : decode cX8_readDenied 108 = .ok (.iload_n 3, 1) := by decide +kernel
theorem dX8_readDenied_109 : decode cX8_readDenied 109 = .ok (.invokevirtual 63, 3) := by decide +kernel
theorem dX8_readDenied_112 : decode cX8_readDenied 112 = .ok (.iconst 0, 1) := by decide +kernel
theorem dX8_readDenied_113 : decode cX8_readDenied 113 = .ok (.istore 4, 2) := by decide +kernel
theorem dX8_readDenied_115 : decode cX8_readDenied 115 = .ok (.iload 4, 2) := by decide +kernel
theorem dX8_readDenied_117 : decode cX8_readDenied 117 = .ok (.iload_n 2, 1) := by decide +kernel
theorem dX8_readDenied_118 : decode cX8_readDenied 118 = .ok (.if_icmp .ge 15, 3) := by decide +kernel
theorem dX8_readDenied_121 : decode cX8_readDenied 121 = .ok (.aload_n 0, 1) := by decide +kernel
theorem dX8_readDenied_122 : decode cX8_readDenied 122 = .ok (.bipush (-32), 2) := by decide +kernel
theorem dX8_readDenied_124 : decode cX8_readDenied 124 = .ok (.invokevirtual 63, 3) := by decide +kernel
theorem dX8_readDenied_127 : decode cX8_readDenied 127 = .ok (.iinc 4 1, 3) := by decide +kernel
theorem dX8_readDenied_130 : decode cX8_readDenied 130 = .ok (.goto (-15), 3) := by decide +kernel
theorem dX8_readDenied_133 : decode cX8_readDenied 133 = .ok (.return_, 1) := by decide +kernel
theorem dX8_readSum_0 : decode cX8_readSum 0 = .ok (.aload_n 0, 1) := by decide +kernel
theorem dX8_readSum_1 : decode cX8_readSum 1 = .ok (.iload_n 1, 1) := by decide +kernel
theorem dX8_readSum_2 : decode cX8_readSum 2 = .ok (.invokevirtual 82, 3) := by decide +kernel
theorem dX8_readSum_5 : decode cX8_readSum 5 = .ok (.iconst 0, 1) := by decide +kernel
theorem dX8_readSum_6 : decode cX8_readSum 6 = .ok (.istore_n 2, 1) := by decide +kernel
theorem dX8_readSum_7 : decode cX8_readSum 7 = .ok (.iload_n 2, 1) := by decide +kernel
theorem dX8_readSum_8 : decode cX8_readSum 8 = .ok (.sipush 160, 3) := by decide +kernel
theorem dX8_readSum_11 : decode cX8_readSum 11 = .ok (.if_icmp .ge 65, 3) := by decide +kernel
theorem dX8_readSum_14 : decode cX8_readSum 14 = .ok (.aload_n 0, 1) := by decide +kernel
theorem dX8_readSum_15 : decode cX8_readSum 15 = .ok (.getfield 41, 3) := by decide +kernel
theorem dX8_readSum_18 : decode cX8_readSum 18 = .ok (.ifCond .ge 58, 3) := by decide +kernel
theorem dX8_readSum_21 : decode cX8_readSum 21 = .ok (.aload_n 0, 1) := by decide +kernel
theorem dX8_readSum_22 : decode cX8_readSum 22 = .ok (.getfield 47, 3) := by decide +kernel
theorem dX8_readSum_25 : decode cX8_readSum 25 = .ok (.bipush 43, 2) := by decide +kernel
theorem dX8_readSum_27 : decode cX8_readSum 27 = .ok (.if_icmp .eq 12, 3) := by decide +kernel
theorem dX8_readSum_30 : decode cX8_readSum 30 = .ok (.aload_n 0, 1) := by decide +kernel
theorem dX8_readSum_31 : decode cX8_readSum 31 = .ok (.getfield 47, 3) := by decide +kernel
theorem dX8_readSum_34 : decode cX8_readSum 34 = .ok (.bipush 45, 2) := by decide +kernel
theorem dX8_readSum_36 : decode cX8_readSum 36 = .ok (.if_icmp .ne 40, 3) := by decide +kernel
theorem dX8_readSum_39 : decode cX8_readSum 39 = .ok (.aload_n 0, 1) := by decide +kernel
theorem dX8_readSum_40 : decode cX8_readSum 40 = .ok (.getfield 47, 3) := by decide +kernel
theorem dX8_readSum_43 : decode cX8_readSum 43 = .ok (.bipush 43, 2) := by decide +kernel
theorem dX8_readSum_45 : decode cX8_readSum 45 = .ok (.if_icmp .ne 8, 3) := by decide +kernel
theorem dX8_readSum_48 : decode cX8_readSum 48 = .ok (.bipush (-26), 2) := by decide +kernel
theorem dX8_readSum_50 : decode cX8_readSum 50 = .ok (.goto 5, 3) := by decide +kernel
theorem dX8_readSum_53 : decode cX8_readSum 53 = .ok (.bipush (-27), 2) := by decide +kernel
theorem dX8_readSum_55 : decode cX8_readSum 55 = .ok (.istore_n 3, 1) := by decide +kernel
theorem dX8_readSum_56 : decode cX8_readSum 56 = .ok (.aload_n 0, 1) := by decide +kernel
theorem dX8_readSum_57 : decode cX8_readSum 57 = .ok (.invokevirtual 53, 3) := by decide +kernel
theorem dX8_readSum_60 : decode cX8_readSum 60 = .ok (.aload_n 0, 1) := by decide +kernel
theorem dX8_readSum_61 : decode cX8_readSum 61 = .ok (.iload_n 1, 1) := by decide +kernel
theorem dX8_readSum_62 : decode cX8_readSum 62 = .ok (.invokevirtual 82, 3) := by decide +kernel
theorem dX8_readSum_65 : decode cX8_readSum 65 = .ok (.aload_n 0, 1) := by decide +kernel
theorem dX8_readSum_66 : decode cX8_readSum 66 = .ok (.iload_n 3, 1) := by decide +kernel
theorem dX8_readSum_67 : decode cX8_readSum 67 = .ok (.invokevirtual 63, 3) := by decide +kernel
theorem dX8_readSum_70 : decode cX8_readSum 70 = .ok (.iinc 2 1, 3) := by decide +kernel
theorem dX8_readSum_73 : decode cX8_readSum 73 = .ok (.goto (-66), 3) := by decide +kernel
theorem dX8_readSum_76 : decode cX8_readSum 76 = .ok (.return_, 1) := by decide +kernel
theorem dX8_readProduct_0 : decode cX8_readProduct 0 = .ok (.aload_n 0, 1) := by decide +kernel
theorem dX8_readProduct_1 : decode cX8_readProduct 1 = .ok (.iload_n 1, 1) := by decide +kernel
theorem dX8_readProduct_2 : decode cX8_readProduct 2 = .ok (.invokevirtual 85, 3) := by decide +kernel
theorem dX8_readProduct_5 : decode cX8_readProduct 5 = .ok (.iconst 0, 1) := by decide +kernel
theorem dX8_readProduct_6 : decode cX8_readProduct 6 = .ok (.istore_n 2, 1) := by decide +kernel
theorem dX8_readProduct_7 : decode cX8_readProduct 7 = .ok (.iload_n 2, 1) := by decide +kernel
theorem dX8_readProduct_8 : decode cX8_readProduct 8 = .ok (.sipush 160, 3) := by decide +kernel
theorem dX8_readProduct_11 : decode cX8_readProduct 11 = .ok (.if_icmp .ge 88, 3) := by decide +kernel
theorem dX8_readProduct_14 : decode cX8_readProduct 14 = .ok (.aload_n 0, 1) := by decide +kernel
theorem dX8_readProduct_15 : decode cX8_readProduct 15 = .ok (.getfield 41, 3) := by decide +kernel
theorem dX8_readProduct_18 : decode cX8_readProduct 18 = .ok (.ifCond .ge 81, 3) := by decide +kernel
theorem dX8_readProduct_21 : decode cX8_readProduct 21 = .ok (.aload_n 0, 1) := by decide +kernel
theorem dX8_readProduct_22 : decode cX8_readProduct 22 = .ok (.getfield 47, 3) := by decide +kernel
theorem dX8_readProduct_25 : decode cX8_readProduct 25 = .ok (.bipush 42, 2) := by decide +kernel
theorem dX8_readProduct_27 : decode cX8_readProduct 27 = .ok (.if_icmp .eq 21, 3) := by decide +kernel
theorem dX8_readProduct_30 : decode cX8_readProduct 30 = .ok (.aload_n 0, 1) := by decide +kernel
theorem dX8_readProduct_31 : decode cX8_readProduct 31 = .ok (.getfield 47, 3) := by decide +kernel
theorem dX8_readProduct_34 : decode cX8_readProduct 34 = .ok (.bipush 47, 2) := by decide +kernel
theorem dX8_readProduct_36 : decode cX8_readProduct 36 = .ok (.if_icmp .eq 12, 3) := by decide +kernel
theorem dX8_readProduct_39 : decode cX8_readProduct 39 = .ok (.aload_n 0, 1) := by decide +kernel
theorem dX8_readProduct_40 : decode cX8_readProduct 40 = .ok (.getfield 47, 3) := by decide +kernel
theorem dX8_readProduct_43 : decode cX8_readProduct 43 = .ok (.bipush 37, 2) := by decide +kernel
theorem dX8_readProduct_45 : decode cX8_readProduct 45 = .ok (.if_icmp .ne 54, 3) := by decide +kernel
theorem dX8_readProduct_48 : decode cX8_readProduct 48 = .ok (.aload_n 0, 1) := by decide +kernel
theorem dX8_readProduct_49 : decode cX8_readProduct 49 = .ok (.getfield 47, 3) := by decide +kernel
theorem dX8_readProduct_52 : decode cX8_readProduct 52 = .ok (.bipush 42, 2) := by decide +kernel
theorem dX8_readProduct_54 : decode cX8_readProduct 54 = .ok (.if_icmp .ne 8, 3) := by decide +kernel
theorem dX8_readProduct_57 : decode cX8_readProduct 57 = .ok (.bipush (-28), 2) := by decide +kernel
theorem dX8_readProduct_59 : decode cX8_readProduct 59 = .ok (.goto 19, 3) := by decide +kernel
theorem dX8_readProduct_62 : decode cX8_readProduct 62 = .ok (.aload_n 0, 1) := by decide +kernel
theorem dX8_readProduct_63 : decode cX8_readProduct 63 = .ok (.getfield 47, 3) := by decide +kernel
theorem dX8_readProduct_66 : decode cX8_readProduct 66 = .ok (.bipush 47, 2) := by decide +kernel
theorem dX8_readProduct_68 : decode cX8_readProduct 68 = .ok (.if_icmp .ne 8, 3) := by decide +kernel
theorem dX8_readProduct_71 : decode cX8_readProduct 71 = .ok (.bipush (-29), 2) := by decide +kernel
theorem dX8_readProduct_73 : decode cX8_readProduct 73 = .ok (.goto 5, 3) := by decide +kernel
theorem dX8_readProduct_76 : decode cX8_readProduct 76 = .ok (.bipush (-30), 2) := by decide +kernel
theorem dX8_readProduct_78 : decode cX8_readProduct 78 = .ok (.istore_n 3, 1) := by decide +kernel
theorem dX8_readProduct_79 : decode cX8_readProduct 79 = .ok (.aload_n 0, 1) := by decide +kernel
theorem dX8_readProduct_80 : decode cX8_readProduct 80 = .ok (.invokevirtual 53, 3) := by decide +kernel
theorem dX8_readProduct_83 : decode cX8_readProduct 83 = .ok (.aload_n 0, 1) := by decide +kernel
theorem dX8_readProduct_84 : decode cX8_readProduct 84 = .ok (.iload_n 1, 1) := by decide +kernel
theorem dX8_readProduct_85 : decode cX8_readProduct 85 = .ok (.invokevirtual 85, 3) := by decide +kernel
theorem dX8_readProduct_88 : decode cX8_readProduct 88 = .ok (.aload_n 0, 1) := by decide +kernel
theorem dX8_readProduct_89 : decode cX8_readProduct 89 = .ok (.iload_n 3, 1) := by decide +kernel
theorem dX8_readProduct_90 : decode cX8_readProduct 90 = .ok (.invokevirtual 63, 3) := by decide +kernel
theorem dX8_readProduct_93 : decode cX8_readProduct 93 = .ok (.iinc 2 1, 3) := by decide +kernel
theorem dX8_readProduct_96 : decode cX8_readProduct 96 = .ok (.goto (-89), 3) := by decide +kernel
theorem dX8_readProduct_99 : decode cX8_readProduct 99 = .ok (.return_, 1) := by decide +kernel
theorem dX8_readOne_0 : decode cX8_readOne 0 = .ok (.iconst 0, 1) := by decide +kernel
theorem dX8_readOne_1 : decode cX8_readOne 1 = .ok (.istore_n 2, 1) := by decide +kernel
theorem dX8_readOne_2 : decode cX8_readOne 2 = .ok (.iload_n 2, 1) := by decide +kernel
theorem dX8_readOne_3 : decode cX8_readOne 3 = .ok (.bipush 6, 2) := by decide +kernel
theorem dX8_readOne_5 : decode cX8_readOne 5 = .ok (.if_icmp .gt 28, 3) := by decide +kernel
theorem dX8_readOne_8 : decode cX8_readOne 8 = .ok (.aload_n 0, 1) := by decide +kernel
theorem dX8_readOne_9 : decode cX8_readOne 9 = .ok (.getfield 47, 3) := by decide +kernel
theorem dX8_readOne_12 : decode cX8_readOne 12 = .ok (.bipush 45, 2) := by decide +kernel
theorem dX8_readOne_14 : decode cX8_readOne 14 = .ok (.if_icmp .ne 19, 3) := by decide +kernel
theorem dX8_readOne_17 : decode cX8_readOne 17 = .ok (.aload_n 0, 1) := by decide +kernel
theorem dX8_readOne_18 : decode cX8_readOne 18 = .ok (.iload_n 1, 1) := by decide +kernel
theorem dX8_readOne_19 : decode cX8_readOne 19 = .ok (.iload_n 2, 1) := by decide +kernel
theorem dX8_readOne_20 : decode cX8_readOne 20 = .ok (.iadd, 1) := by decide +kernel
theorem dX8_readOne_21 : decode cX8_readOne 21 = .ok (.invokevirtual 75, 3) := by decide +kernel
theorem dX8_readOne_24 : decode cX8_readOne 24 = .ok (.ifCond .eq 9, 3) := by decide +kernel
theorem dX8_readOne_27 : decode cX8_readOne 27 = .ok (.iinc 2 1, 3) := by decide +kernel
theorem dX8_readOne_30 : decode cX8_readOne 30 = .ok (.goto (-28), 3) := by decide +kernel
theorem dX8_readOne_33 : decode cX8_readOne 33 = .ok (.aload_n 0, 1) := by decide +kernel
theorem dX8_readOne_34 : decode cX8_readOne 34 = .ok (.getfield 47, 3) := by decide +kernel
theorem dX8_readOne_37 : decode cX8_readOne 37 = .ok (.iconst 2, 1) := by decide +kernel
theorem dX8_readOne_38 : decode cX8_readOne 38 = .ok (.if_icmp .eq 11, 3) := by decide +kernel
theorem dX8_readOne_41 : decode cX8_readOne 41 = .ok (.aload_n 0, 1) := by decide +kernel
theorem dX8_readOne_42 : decode cX8_readOne 42 = .ok (.getfield 47, 3) := by decide +kernel
theorem dX8_readOne_45 : decode cX8_readOne 45 = .ok (.iconst 3, 1) := by decide +kernel
theorem dX8_readOne_46 : decode cX8_readOne 46 = .ok (.if_icmp .ne 23, 3) := by decide +kernel
theorem dX8_readOne_49 : decode cX8_readOne 49 = .ok (.aload_n 0, 1) := by decide +kernel
theorem dX8_readOne_50 : decode cX8_readOne 50 = .ok (.aload_n 0, 1) := by decide +kernel
theorem dX8_readOne_51 : decode cX8_readOne 51 = .ok (.getfield 19, 3) := by decide +kernel
theorem dX8_readOne_54 : decode cX8_readOne 54 = .ok (.aload_n 0, 1) := by decide +kernel
theorem dX8_readOne_55 : decode cX8_readOne 55 = .ok (.getfield 44, 3) := by decide +kernel
theorem dX8_readOne_58 : decode cX8_readOne 58 = .ok (.iaload, 1) := by decide +kernel
theorem dX8_readOne_59 : decode cX8_readOne 59 = .ok (.invokevirtual 63, 3) := by decide +kernel
theorem dX8_readOne_62 : decode cX8_readOne 62 = .ok (.aload_n 0, 1) := by decide +kernel
theorem dX8_readOne_63 : decode cX8_readOne 63 = .ok (.invokevirtual 53, 3) := by decide +kernel
theorem dX8_readOne_66 : decode cX8_readOne 66 = .ok (.goto 44, 3) := by decide +kernel
theorem dX8_readOne_69 : decode cX8_readOne 69 = .ok (.aload_n 0, 1) := by decide +kernel
theorem dX8_readOne_70 : decode cX8_readOne 70 = .ok (.getfield 47, 3) := by decide +kernel
theorem dX8_readOne_73 : decode cX8_readOne 73 = .ok (.bipush 40, 2) := by decide +kernel
theorem dX8_readOne_75 : decode cX8_readOne 75 = .ok (.if_icmp .ne 31, 3) := by decide +kernel
theorem dX8_readOne_78 : decode cX8_readOne 78 = .ok (.aload_n 0, 1) := by decide +kernel
theorem dX8_readOne_79 : decode cX8_readOne 79 = .ok (.iload_n 1, 1) := by decide +kernel
theorem dX8_readOne_80 : decode cX8_readOne 80 = .ok (.iload_n 2, 1) := by decide +kernel
theorem dX8_readOne_81 : decode cX8_readOne 81 = .ok (.iadd, 1) := by decide +kernel
theorem dX8_readOne_82 : decode cX8_readOne 82 = .ok (.invokevirtual 75, 3) := by decide +kernel
theorem dX8_readOne_85 : decode cX8_readOne 85 = .ok (.ifCond .eq 21, 3) := by decide +kernel
theorem dX8_readOne_88 : decode cX8_readOne 88 = .ok (.aload_n 0, 1) := by decide +kernel
theorem dX8_readOne_89 : decode cX8_readOne 89 = .ok (.iload_n 1, 1) := by decide +kernel
theorem dX8_readOne_90 : decode cX8_readOne 90 = .ok (.iload_n 2, 1) := by decide +kernel
theorem dX8_readOne_91 : decode cX8_readOne 91 = .ok (.iadd, 1) := by decide +kernel
theorem dX8_readOne_92 : decode cX8_readOne 92 = .ok (.iconst 1, 1) := by decide +kernel
theorem dX8_readOne_93 : decode cX8_readOne 93 = .ok (.iadd, 1) := by decide +kernel
theorem dX8_readOne_94 : decode cX8_readOne 94 = .ok (.invokevirtual 59, 3) := by decide +kernel
theorem dX8_readOne_97 : decode cX8_readOne 97 = .ok (.aload_n 0, 1) := by decide +kernel
theorem dX8_readOne_98 : decode cX8_readOne 98 = .ok (.bipush 41, 2) := by decide +kernel
theorem dX8_readOne_100 : decode cX8_readOne 100 = .ok (.invokevirtual 66, 3) := by decide +kernel
theorem dX8_readOne_103 : decode cX8_readOne 103 = .ok (.goto 7, 3) := by decide +kernel
theorem dX8_readOne_106 : decode cX8_readOne 106 = .ok (.aload_n 0, 1) := by decide +kernel
theorem dX8_readOne_107 : decode cX8_readOne 107 = .ok (.invokevirtual 56, 3) := by decide +kernel
theorem dX8_readOne_110 : decode cX8_readOne 110 = .ok (.iconst 0, 1) := by decide +kernel
theorem dX8_readOne_111 : decode cX8_readOne 111 = .ok (.istore_n 3, 1) := by decide +kernel
theorem dX8_readOne_112 : decode cX8_readOne 112 = .ok (.iload_n 3, 1) := by decide +kernel
theorem dX8_readOne_113 : decode cX8_readOne 113 = .ok (.iload_n 2, 1) := by decide +kernel
theorem dX8_readOne_114 : decode cX8_readOne 114 = .ok (.if_icmp .ge 15, 3) := by decide +kernel
theorem dX8_readOne_117 : decode cX8_readOne 117 = .ok (.aload_n 0, 1) := by decide +kernel
theorem dX8_readOne_118 : decode cX8_readOne 118 = .ok (.bipush (-31), 2) := by decide +kernel
theorem dX8_readOne_120 : decode cX8_readOne 120 = .ok (.invokevirtual 63, 3) := by decide +kernel
theorem dX8_readOne_123 : decode cX8_readOne 123 = .ok (.iinc 3 1, 3) := by decide +kernel
theorem dX8_readOne_126 : decode cX8_readOne 126 = .ok (.goto (-14), 3) := by decide +kernel
theorem dX8_readOne_129 : decode cX8_readOne 129 = .ok (.return_, 1) := by decide +kernel
theorem dX8_mayOpen_0 : decode cX8_mayOpen 0 = .ok (.iload_n 1, 1) := by decide +kernel
theorem dX8_mayOpen_1 : decode cX8_mayOpen 1 = .ok (.bipush 6, 2) := by decide +kernel
theorem dX8_mayOpen_3 : decode cX8_mayOpen 3 = .ok (.if_icmp .ge 10, 3) := by decide +kernel
theorem dX8_mayOpen_6 : decode cX8_mayOpen 6 = .ok (.aload_n 0, 1) := by decide +kernel
theorem dX8_mayOpen_7 : decode cX8_mayOpen 7 = .ok (.getfield 41, 3) := by decide +kernel
theorem dX8_mayOpen_10 : decode cX8_mayOpen 10 = .ok (.ifCond .lt 9, 3) := by decide +kernel
theorem dX8_mayOpen_13 : decode cX8_mayOpen 13 = .ok (.aload_n 0, 1) := by decide +kernel
theorem dX8_mayOpen_14 : decode cX8_mayOpen 14 = .ok (.invokevirtual 56, 3) := by decide +kernel
theorem dX8_mayOpen_17 : decode cX8_mayOpen 17 = .ok (.iconst 0, 1) := by decide +kernel
theorem dX8_mayOpen_18 : decode cX8_mayOpen 18 = .ok (.ireturn, 1) := by decide +kernel
theorem dX8_mayOpen_19 : decode cX8_mayOpen 19 = .ok (.aload_n 0, 1) := by decide +kernel
theorem dX8_mayOpen_20 : decode cX8_mayOpen 20 = .ok (.invokevirtual 53, 3) := by decide +kernel
theorem dX8_mayOpen_23 : decode cX8_mayOpen 23 = .ok (.iconst 1, 1) := by decide +kernel
theorem dX8_mayOpen_24 : decode cX8_mayOpen 24 = .ok (.ireturn, 1) := by decide +kernel
theorem dX8_advance_0 : decode cX8_advance 0 = .ok (.aload_n 0, 1) := by decide +kernel
theorem dX8_advance_1 : decode cX8_advance 1 = .ok (.getfield 44, 3) := by decide +kernel
theorem dX8_advance_4 : decode cX8_advance 4 = .ok (.sipush 160, 3) := by decide +kernel
theorem dX8_advance_7 : decode cX8_advance 7 = .ok (.if_icmp .ge 33, 3) := by decide +kernel
theorem dX8_advance_10 : decode cX8_advance 10 = .ok (.aload_n 0, 1) := by decide +kernel
theorem dX8_advance_11 : decode cX8_advance 11 = .ok (.getfield 47, 3) := by decide +kernel
theorem dX8_advance_14 : decode cX8_advance 14 = .ok (.ifCond .eq 26, 3) := by decide +kernel
theorem dX8_advance_17 : decode cX8_advance 17 = .ok (.aload_n 0, 1) := by decide +kernel
theorem dX8_advance_18 : decode cX8_advance 18 = .ok (.dup, 1) := by decide +kernel
theorem dX8_advance_19 : decode cX8_advance 19 = .ok (.getfield 44, 3) := by decide +kernel
theorem dX8_advance_22 : decode cX8_advance 22 = .ok (.iconst 1, 1) := by decide +kernel
theorem dX8_advance_23 : decode cX8_advance 23 = .ok (.iadd, 1) := by decide +kernel
theorem dX8_advance_24 : decode cX8_advance 24 = .ok (.putfield 44, 3) := by decide +kernel
theorem dX8_advance_27 : decode cX8_advance 27 = .ok (.aload_n 0, 1) := by decide +kernel
theorem dX8_advance_28 : decode cX8_advance 28 = .ok (.aload_n 0, 1) := by decide +kernel
theorem dX8_advance_29 : decode cX8_advance 29 = .ok (.getfield 13, 3) := by decide +kernel
theorem dX8_advance_32 : decode cX8_advance 32 = .ok (.aload_n 0, 1) := by decide +kernel
theorem dX8_advance_33 : decode cX8_advance 33 = .ok (.getfield 44, 3) := by decide +kernel
theorem dX8_advance_36 : decode cX8_advance 36 = .ok (.iaload, 1) := by decide +kernel
theorem dX8_advance_37 : decode cX8_advance 37 = .ok (.putfield 47, 3) := by decide +kernel
theorem dX8_advance_40 : decode cX8_advance 40 = .ok (.return_, 1) := by decide +kernel
theorem dX8_splitIntoTokens_0 : decode cX8_splitIntoTokens 0 = .ok (.aload_n 0, 1) := by decide +kernel
theorem dX8_splitIntoTokens_1 : decode cX8_splitIntoTokens 1 = .ok (.iconst 0, 1) := by decide +kernel
theorem dX8_splitIntoTokens_2 : decode cX8_splitIntoTokens 2 = .ok (.putfield 88, 3) := by decide +kernel
theorem dX8_splitIntoTokens_5 : decode cX8_splitIntoTokens 5 = .ok (.iconst 0, 1) := by decide +kernel
theorem dX8_splitIntoTokens_6 : decode cX8_splitIntoTokens 6 = .ok (.istore_n 1, 1) := by decide +kernel
theorem dX8_splitIntoTokens_7 : decode cX8_splitIntoTokens 7 = .ok (.iload_n 1, 1) := by decide +kernel
theorem dX8_splitIntoTokens_8 : decode cX8_splitIntoTokens 8 = .ok (.sipush 160, 3) := by decide +kernel
theorem dX8_splitIntoTokens_11 : decode cX8_splitIntoTokens 11 = .ok (.if_icmp .gt 105, 3) := by decide +kernel
theorem dX8_splitIntoTokens_14 : decode cX8_splitIntoTokens 14 = .ok (.aload_n 0, 1) := by decide +kernel
theorem dX8_splitIntoTokens_15 : decode cX8_splitIntoTokens 15 = .ok (.invokevirtual 91, 3) := by decide +kernel
theorem dX8_splitIntoTokens_18 : decode cX8_splitIntoTokens 18 = .ok (.aload_n 0, 1) := by decide +kernel
theorem dX8_splitIntoTokens_19 : decode cX8_splitIntoTokens 19 = .ok (.getfield 16, 3) := by decide +kernel
theorem dX8_splitIntoTokens_22 : decode cX8_splitIntoTokens 22 = .ok (.iload_n 1, 1) := by decide +kernel
theorem dX8_splitIntoTokens_23 : decode cX8_splitIntoTokens 23 = .ok (.aload_n 0, 1) := by decide +kernel
theorem dX8_splitIntoTokens_24 : decode cX8_splitIntoTokens 24 = .ok (.getfield 88, 3) := by decide +kernel
theorem dX8_splitIntoTokens_27 : decode cX8_splitIntoTokens 27 = .ok (.iastore, 1) := by decide +kernel
theorem dX8_splitIntoTokens_28 : decode cX8_splitIntoTokens 28 = .ok (.aload_n 0, 1) := by decide +kernel
theorem dX8_splitIntoTokens_29 : decode cX8_splitIntoTokens 29 = .ok (.aload_n 0, 1) := by decide +kernel
theorem dX8_splitIntoTokens_30 : decode cX8_splitIntoTokens 30 = .ok (.getfield 88, 3) := by decide +kernel
theorem dX8_splitIntoTokens_33 : decode cX8_splitIntoTokens 33 = .ok (.invokevirtual 94, 3) := by decide +kernel
theorem dX8_splitIntoTokens_36 : decode cX8_splitIntoTokens 36 = .ok (.istore_n 2, 1) := by decide +kernel
theorem dX8_splitIntoTokens_37 : decode cX8_splitIntoTokens 37 = .ok (.iload_n 2, 1) := by decide +kernel
theorem dX8_splitIntoTokens_38 : decode cX8_splitIntoTokens 38 = .ok (.ifCond .ge 11, 3) := by decide +kernel
theorem dX8_splitIntoTokens_41 : decode cX8_splitIntoTokens 41 = .ok (.aload_n 0, 1) := by decide +kernel
theorem dX8_splitIntoTokens_42 : decode cX8_splitIntoTokens 42 = .ok (.getfield 13, 3) := by decide +kernel
theorem dX8_splitIntoTokens_45 : decode cX8_splitIntoTokens 45 = .ok (.iload_n 1, 1) := by decide +kernel
theorem dX8_splitIntoTokens_46 : decode cX8_splitIntoTokens 46 = .ok (.iconst 0, 1) := by decide +kernel
theorem dX8_splitIntoTokens_47 : decode cX8_splitIntoTokens 47 = .ok (.iastore, 1) := by decide +kernel
theorem dX8_splitIntoTokens_48 : decode cX8_splitIntoTokens 48 = .ok (.return_, 1) := by decide +kernel
theorem dX8_splitIntoTokens_49 : decode cX8_splitIntoTokens 49 = .ok (.iload_n 2, 1) := by decide +kernel
theorem dX8_splitIntoTokens_50 : decode cX8_splitIntoTokens 50 = .ok (.invokestatic 98, 3) := by decide +kernel
theorem dX8_splitIntoTokens_53 : decode cX8_splitIntoTokens 53 = .ok (.ifCond .eq 11, 3) := by decide +kernel
theorem dX8_splitIntoTokens_56 : decode cX8_splitIntoTokens 56 = .ok (.aload_n 0, 1) := by decide +kernel
theorem dX8_splitIntoTokens_57 : decode cX8_splitIntoTokens 57 = .ok (.iload_n 1, 1) := by decide +kernel
theorem dX8_splitIntoTokens_58 : decode cX8_splitIntoTokens 58 = .ok (.invokevirtual 101, 3) := by decide +kernel
theorem dX8_splitIntoTokens_61 : decode cX8_splitIntoTokens 61 = .ok (.goto 49, 3) := by decide +kernel
theorem dX8_splitIntoTokens_64 : decode cX8_splitIntoTokens 64 = .ok (.iload_n 2, 1) := by decide +kernel
theorem dX8_splitIntoTokens_65 : decode cX8_splitIntoTokens 65 = .ok (.invokestatic 104, 3) := by decide +kernel
theorem dX8_splitIntoTokens_68 : decode cX8_splitIntoTokens 68 = .ok (.ifCond .eq 11, 3) := by decide +kernel
theorem dX8_splitIntoTokens_71 : decode cX8_splitIntoTokens 71 = .ok (.aload_n 0, 1) := by decide +kernel
theorem dX8_splitIntoTokens_72 : decode cX8_splitIntoTokens 72 = .ok (.iload_n 1, 1) := by decide +kernel
theorem dX8_splitIntoTokens_73 : decode cX8_splitIntoTokens 73 = .ok (.invokevirtual 107, 3) := by decide +kernel
theorem dX8_splitIntoTokens_76 : decode cX8_splitIntoTokens 76 = .ok (.goto 34, 3) := by decide +kernel
theorem dX8_splitIntoTokens_79 : decode cX8_splitIntoTokens 79 = .ok (.aload_n 0, 1) := by decide +kernel
theorem dX8_splitIntoTokens_80 : decode cX8_splitIntoTokens 80 = .ok (.getfield 13, 3) := by decide +kernel
theorem dX8_splitIntoTokens_83 : decode cX8_splitIntoTokens 83 = .ok (.iload_n 1, 1) := by decide +kernel
theorem dX8_splitIntoTokens_84 : decode cX8_splitIntoTokens 84 = .ok (.ldc 110, 2) := by decide +kernel
theorem dX8_splitIntoTokens_86 : decode cX8_splitIntoTokens 86 = .ok (.iload_n 2, 1) := by decide +kernel
theorem dX8_splitIntoTokens_87 : decode cX8_splitIntoTokens 87 = .ok (.i2c, 1) := by decide +kernel
theorem dX8_splitIntoTokens_88 : decode cX8_splitIntoTokens 88 = .ok (.invokevirtual 112, 3) := by decide +kernel
theorem dX8_splitIntoTokens_91 : decode cX8_splitIntoTokens 91 = .ok (.ifCond .lt 7, 3) := by decide +kernel
theorem dX8_splitIntoTokens_94 : decode cX8_splitIntoTokens 94 = .ok (.iload_n 2, 1) := by decide +kernel
theorem dX8_splitIntoTokens_95 : decode cX8_splitIntoTokens 95 = .ok (.goto 4, 3) := by decide +kernel
theorem dX8_splitIntoTokens_98 : decode cX8_splitIntoTokens 98 = .ok (.iconst 1, 1) := by decide +kernel
theorem dX8_splitIntoTokens_99 : decode cX8_splitIntoTokens 99 = .ok (.iastore, 1) := by decide +kernel
theorem dX8_splitIntoTokens_100 : decode cX8_splitIntoTokens 100 = .ok (.aload_n 0, 1) := by decide +kernel
theorem dX8_splitIntoTokens_101 : decode cX8_splitIntoTokens 101 = .ok (.dup, 1) := by decide +kernel
theorem dX8_splitIntoTokens_102 : decode cX8_splitIntoTokens 102 = .ok (.getfield 88, 3) := by decide +kernel
theorem dX8_splitIntoTokens_105 : decode cX8_splitIntoTokens 105 = .ok (.iconst 1, 1) := by decide +kernel
theorem dX8_splitIntoTokens_106 : decode cX8_splitIntoTokens 106 = .ok (.iadd, 1) := by decide +kernel
theorem dX8_splitIntoTokens_107 : decode cX8_splitIntoTokens 107 = .ok (.putfield 88, 3) := by decide +kernel
theorem dX8_splitIntoTokens_110 : decode cX8_splitIntoTokens 110 = .ok (.iinc 1 1, 3) := by decide +kernel
theorem dX8_splitIntoTokens_113 : decode cX8_splitIntoTokens 113 = .ok (.goto (-106), 3) := by decide +kernel
theorem dX8_splitIntoTokens_116 : decode cX8_splitIntoTokens 116 = .ok (.return_, 1) := by decide +kernel
theorem dX8_skipBlanks_0 : decode cX8_skipBlanks 0 = .ok (.iconst 0, 1) := by decide +kernel
theorem dX8_skipBlanks_1 : decode cX8_skipBlanks 1 = .ok (.istore_n 1, 1) := by decide +kernel
theorem dX8_skipBlanks_2 : decode cX8_skipBlanks 2 = .ok (.iload_n 1, 1) := by decide +kernel
theorem dX8_skipBlanks_3 : decode cX8_skipBlanks 3 = .ok (.sipush 160, 3) := by decide +kernel
theorem dX8_skipBlanks_6 : decode cX8_skipBlanks 6 = .ok (.if_icmp .ge 32, 3) := by decide +kernel
theorem dX8_skipBlanks_9 : decode cX8_skipBlanks 9 = .ok (.aload_n 0, 1) := by decide +kernel
theorem dX8_skipBlanks_10 : decode cX8_skipBlanks 10 = .ok (.aload_n 0, 1) := by decide +kernel
theorem dX8_skipBlanks_11 : decode cX8_skipBlanks 11 = .ok (.getfield 88, 3) := by decide +kernel
theorem dX8_skipBlanks_14 : decode cX8_skipBlanks 14 = .ok (.invokevirtual 94, 3) := by decide +kernel
theorem dX8_skipBlanks_17 : decode cX8_skipBlanks 17 = .ok (.bipush 32, 2) := by decide +kernel
theorem dX8_skipBlanks_19 : decode cX8_skipBlanks 19 = .ok (.if_icmp .ne 19, 3) := by decide +kernel
theorem dX8_skipBlanks_22 : decode cX8_skipBlanks 22 = .ok (.aload_n 0, 1) := by decide +kernel
theorem dX8_skipBlanks_23 : decode cX8_skipBlanks 23 = .ok (.dup, 1) := by decide +kernel
theorem dX8_skipBlanks_24 : decode cX8_skipBlanks 24 = .ok (.getfield 88, 3) := by decide +kernel
theorem dX8_skipBlanks_27 : decode cX8_skipBlanks 27 = .ok (.iconst 1, 1) := by decide +kernel
theorem dX8_skipBlanks_28 : decode cX8_skipBlanks 28 = .ok (.iadd, 1) := by decide +kernel
theorem dX8_skipBlanks_29 : decode cX8_skipBlanks 29 = .ok (.putfield 88, 3) := by decide +kernel
theorem dX8_skipBlanks_32 : decode cX8_skipBlanks 32 = .ok (.iinc 1 1, 3) := by decide +kernel
theorem dX8_skipBlanks_35 : decode cX8_skipBlanks 35 = .ok (.goto (-33), 3) := by decide +kernel
theorem dX8_skipBlanks_38 : decode cX8_skipBlanks 38 = .ok (.return_, 1) := by decide +kernel
theorem dX8_byteAt_0 : decode cX8_byteAt 0 = .ok (.iload_n 1, 1) := by decide +kernel
theorem dX8_byteAt_1 : decode cX8_byteAt 1 = .ok (.ifCond .lt 18, 3) := by decide +kernel
theorem dX8_byteAt_4 : decode cX8_byteAt 4 = .ok (.iload_n 1, 1) := by decide +kernel
theorem dX8_byteAt_5 : decode cX8_byteAt 5 = .ok (.aload_n 0, 1) := by decide +kernel
theorem dX8_byteAt_6 : decode cX8_byteAt 6 = .ok (.getfield 25, 3) := by decide +kernel
theorem dX8_byteAt_9 : decode cX8_byteAt 9 = .ok (.if_icmp .ge 10, 3) := by decide +kernel
theorem dX8_byteAt_12 : decode cX8_byteAt 12 = .ok (.iload_n 1, 1) := by decide +kernel
theorem dX8_byteAt_13 : decode cX8_byteAt 13 = .ok (.sipush 160, 3) := by decide +kernel
theorem dX8_byteAt_16 : decode cX8_byteAt 16 = .ok (.if_icmp .lt 7, 3) := by decide +kernel
theorem dX8_byteAt_19 : decode cX8_byteAt 19 = .ok (.iconst (-1), 1) := by decide +kernel
theorem dX8_byteAt_20 : decode cX8_byteAt 20 = .ok (.goto 9, 3) := by decide +kernel
theorem dX8_byteAt_23 : decode cX8_byteAt 23 = .ok (.aload_n 0, 1) := by decide +kernel
theorem dX8_byteAt_24 : decode cX8_byteAt 24 = .ok (.getfield 9, 3) := by decide +kernel
theorem dX8_byteAt_27 : decode cX8_byteAt 27 = .ok (.iload_n 1, 1) := by decide +kernel
theorem dX8_byteAt_28 : decode cX8_byteAt 28 = .ok (.iaload, 1) := by decide +kernel
theorem dX8_byteAt_29 : decode cX8_byteAt 29 = .ok (.ireturn, 1) := by decide +kernel
theorem dX8_isLetter_0 : decode cX8_isLetter 0 = .ok (.iload_n 0, 1) := by decide +kernel
theorem dX8_isLetter_1 : decode cX8_isLetter 1 = .ok (.bipush 97, 2) := by decide +kernel
theorem dX8_isLetter_3 : decode cX8_isLetter 3 = .ok (.if_icmp .lt 13, 3) := by decide +kernel
theorem dX8_isLetter_6 : decode cX8_isLetter 6 = .ok (.iload_n 0, 1) := by decide +kernel
theorem dX8_isLetter_7 : decode cX8_isLetter 7 = .ok (.bipush 122, 2) := by decide +kernel
theorem dX8_isLetter_9 : decode cX8_isLetter 9 = .ok (.if_icmp .gt 7, 3) := by decide +kernel
theorem dX8_isLetter_12 : decode cX8_isLetter 12 = .ok (.iconst 1, 1) := by decide +kernel
theorem dX8_isLetter_13 : decode cX8_isLetter 13 = .ok (.goto 4, 3) := by decide +kernel
theorem dX8_isLetter_16 : decode cX8_isLetter 16 = .ok (.iconst 0, 1) := by decide +kernel
theorem dX8_isLetter_17 : decode cX8_isLetter 17 = .ok (.ireturn, 1) := by decide +kernel
theorem dX8_isDigit_0 : decode cX8_isDigit 0 = .ok (.iload_n 0, 1) := by decide +kernel
theorem dX8_isDigit_1 : decode cX8_isDigit 1 = .ok (.bipush 48, 2) := by decide +kernel
theorem dX8_isDigit_3 : decode cX8_isDigit 3 = .ok (.if_icmp .lt 13, 3) := by decide +kernel
theorem dX8_isDigit_6 : decode cX8_isDigit 6 = .ok (.iload_n 0, 1) := by decide +kernel
theorem dX8_isDigit_7 : decode cX8_isDigit 7 = .ok (.bipush 57, 2) := by decide +kernel
theorem dX8_isDigit_9 : decode cX8_isDigit 9 = .ok (.if_icmp .gt 7, 3) := by decide +kernel
theorem dX8_isDigit_12 : decode cX8_isDigit 12 = .ok (.iconst 1, 1) := by decide +kernel
theorem dX8_isDigit_13 : decode cX8_isDigit 13 = .ok (.goto 4, 3) := by decide +kernel
theorem dX8_isDigit_16 : decode cX8_isDigit 16 = .ok (.iconst 0, 1) := by decide +kernel
theorem dX8_isDigit_17 : decode cX8_isDigit 17 = .ok (.ireturn, 1) := by decide +kernel
theorem dX8_readNumber_0 : decode cX8_readNumber 0 = .ok (.iconst 0, 1) := by decide +kernel
theorem dX8_readNumber_1 : decode cX8_readNumber 1 = .ok (.istore_n 2, 1) := by decide +kernel
theorem dX8_readNumber_2 : decode cX8_readNumber 2 = .ok (.aload_n 0, 1) := by decide +kernel
theorem dX8_readNumber_3 : decode cX8_readNumber 3 = .ok (.getfield 13, 3) := by decide +kernel
theorem dX8_readNumber_6 : decode cX8_readNumber 6 = .ok (.iload_n 1, 1) := by decide +kernel
theorem dX8_readNumber_7 : decode cX8_readNumber 7 = .ok (.iconst 2, 1) := by decide +kernel
theorem dX8_readNumber_8 : decode cX8_readNumber 8 = .ok (.iastore, 1) := by decide +kernel
theorem dX8_readNumber_9 : decode cX8_readNumber 9 = .ok (.iconst 0, 1) := by decide +kernel
theorem dX8_readNumber_10 : decode cX8_readNumber 10 = .ok (.istore_n 3, 1) := by decide +kernel
theorem dX8_readNumber_11 : decode cX8_readNumber 11 = .ok (.iload_n 3, 1) := by decide +kernel
theorem dX8_readNumber_12 : decode cX8_readNumber 12 = .ok (.sipush 160, 3) := by decide +kernel
theorem dX8_readNumber_15 : decode cX8_readNumber 15 = .ok (.if_icmp .ge 65, 3) := by decide +kernel
theorem dX8_readNumber_18 : decode cX8_readNumber 18 = .ok (.aload_n 0, 1) := by decide +kernel
theorem dX8_readNumber_19 : decode cX8_readNumber 19 = .ok (.aload_n 0, 1) := by decide +kernel
theorem dX8_readNumber_20 : decode cX8_readNumber 20 = .ok (.getfield 88, 3) := by decide +kernel
theorem dX8_readNumber_23 : decode cX8_readNumber 23 = .ok (.invokevirtual 94, 3) := by decide +kernel
theorem dX8_readNumber_26 : decode cX8_readNumber 26 = .ok (.invokestatic 104, 3) := by decide +kernel
theorem dX8_readNumber_29 : decode cX8_readNumber 29 = .ok (.ifCond .eq 51, 3) := by decide +kernel
theorem dX8_readNumber_32 : decode cX8_readNumber 32 = .ok (.iload_n 3, 1) := by decide +kernel
theorem dX8_readNumber_33 : decode cX8_readNumber 33 = .ok (.iconst 5, 1) := by decide +kernel
theorem dX8_readNumber_34 : decode cX8_readNumber 34 = .ok (.if_icmp .ge 23, 3) := by decide +kernel
theorem dX8_readNumber_37 : decode cX8_readNumber 37 = .ok (.bipush 10, 2) := by decide +kernel
theorem dX8_readNumber_39 : decode cX8_readNumber 39 = .ok (.iload_n 2, 1) := by decide +kernel
theorem dX8_readNumber_40 : decode cX8_readNumber 40 = .ok (.imul, 1) := by decide +kernel
theorem dX8_readNumber_41 : decode cX8_readNumber 41 = .ok (.aload_n 0, 1) := by decide +kernel
theorem dX8_readNumber_42 : decode cX8_readNumber 42 = .ok (.aload_n 0, 1) := by decide +kernel
theorem dX8_readNumber_43 : decode cX8_readNumber 43 = .ok (.getfield 88, 3) := by decide +kernel
theorem dX8_readNumber_46 : decode cX8_readNumber 46 = .ok (.invokevirtual 94, 3) := by decide +kernel
theorem dX8_readNumber_49 : decode cX8_readNumber 49 = .ok (.iadd, 1) := by decide +kernel
theorem dX8_readNumber_50 : decode cX8_readNumber 50 = .ok (.bipush 48, 2) := by decide +kernel
theorem dX8_readNumber_52 : decode cX8_readNumber 52 = .ok (.isub, 1) := by decide +kernel
theorem dX8_readNumber_53 : decode cX8_readNumber 53 = .ok (.istore_n 2, 1) := by decide +kernel
theorem dX8_readNumber_54 : decode cX8_readNumber 54 = .ok (.goto 10, 3) := by decide +kernel
theorem dX8_readNumber_57 : decode cX8_readNumber 57 = .ok (.aload_n 0, 1) := by decide +kernel
theorem dX8_readNumber_58 : decode cX8_readNumber 58 = .ok (.getfield 13, 3) := by decide +kernel
theorem dX8_readNumber_61 : decode cX8_readNumber 61 = .ok (.iload_n 1, 1) := by decide +kernel
theorem dX8_readNumber_62 : decode cX8_readNumber 62 = .ok (.iconst 1, 1) := by decide +kernel
theorem dX8_readNumber_63 : decode cX8_readNumber 63 = .ok (.iastore, 1) := by decide +kernel
theorem dX8_readNumber_64 : decode cX8_readNumber 64 = .ok (.aload_n 0, 1) := by decide +kernel
theorem dX8_readNumber_65 : decode cX8_readNumber 65 = .ok (.dup, 1) := by decide +kernel
theorem dX8_readNumber_66 : decode cX8_readNumber 66 = .ok (.getfield 88, 3) := by decide +kernel
theorem dX8_readNumber_69 : decode cX8_readNumber 69 = .ok (.iconst 1, 1) := by decide +kernel
theorem dX8_readNumber_70 : decode cX8_readNumber 70 = .ok (.iadd, 1) := by decide +kernel
theorem dX8_readNumber_71 : decode cX8_readNumber 71 = .ok (.putfield 88, 3) := by decide +kernel
theorem dX8_readNumber_74 : decode cX8_readNumber 74 = .ok (.iinc 3 1, 3) := by decide +kernel
theorem dX8_readNumber_77 : decode cX8_readNumber 77 = .ok (.goto (-66), 3) := by decide +kernel
theorem dX8_readNumber_80 : decode cX8_readNumber 80 = .ok (.aload_n 0, 1) := by decide +kernel
theorem dX8_readNumber_81 : decode cX8_readNumber 81 = .ok (.getfield 19, 3) := by decide +kernel
theorem dX8_readNumber_84 : decode cX8_readNumber 84 = .ok (.iload_n 1, 1) := by decide +kernel
theorem dX8_readNumber_85 : decode cX8_readNumber 85 = .ok (.iload_n 2, 1) := by decide +kernel
theorem dX8_readNumber_86 : decode cX8_readNumber 86 = .ok (.iastore, 1) := by decide +kernel
theorem dX8_readNumber_87 : decode cX8_readNumber 87 = .ok (.return_, 1) := by decide +kernel
theorem dX8_readWord_0 : decode cX8_readWord 0 = .ok (.iconst 0, 1) := by decide +kernel
theorem dX8_readWord_1 : decode cX8_readWord 1 = .ok (.istore_n 2, 1) := by decide +kernel
theorem dX8_readWord_2 : decode cX8_readWord 2 = .ok (.iload_n 2, 1) := by decide +kernel
theorem dX8_readWord_3 : decode cX8_readWord 3 = .ok (.sipush 160, 3) := by decide +kernel
theorem dX8_readWord_6 : decode cX8_readWord 6 = .ok (.if_icmp .ge 33, 3) := by decide +kernel
theorem dX8_readWord_9 : decode cX8_readWord 9 = .ok (.aload_n 0, 1) := by decide +kernel
theorem dX8_readWord_10 : decode cX8_readWord 10 = .ok (.aload_n 0, 1) := by decide +kernel
theorem dX8_readWord_11 : decode cX8_readWord 11 = .ok (.getfield 88, 3) := by decide +kernel
theorem dX8_readWord_14 : decode cX8_readWord 14 = .ok (.invokevirtual 94, 3) := by decide +kernel
theorem dX8_readWord_17 : decode cX8_readWord 17 = .ok (.invokestatic 98, 3) := by decide +kernel
theorem dX8_readWord_20 : decode cX8_readWord 20 = .ok (.ifCond .eq 19, 3) := by decide +kernel
theorem dX8_readWord_23 : decode cX8_readWord 23 = .ok (.aload_n 0, 1) := by decide +kernel
theorem dX8_readWord_24 : decode cX8_readWord 24 = .ok (.dup, 1) := by decide +kernel
theorem dX8_readWord_25 : decode cX8_readWord 25 = .ok (.getfield 88, 3) := by decide +kernel
theorem dX8_readWord_28 : decode cX8_readWord 28 = .ok (.iconst 1, 1) := by decide +kernel
theorem dX8_readWord_29 : decode cX8_readWord 29 = .ok (.iadd, 1) := by decide +kernel
theorem dX8_readWord_30 : decode cX8_readWord 30 = .ok (.putfield 88, 3) := by decide +kernel
theorem dX8_readWord_33 : decode cX8_readWord 33 = .ok (.iinc 2 1, 3) := by decide +kernel
theorem dX8_readWord_36 : decode cX8_readWord 36 = .ok (.goto (-34), 3) := by decide +kernel
theorem dX8_readWord_39 : decode cX8_readWord 39 = .ok (.aload_n 0, 1) := by decide +kernel
theorem dX8_readWord_40 : decode cX8_readWord 40 = .ok (.aload_n 0, 1) := by decide +kernel
theorem dX8_readWord_41 : decode cX8_readWord 41 = .ok (.getfield 16, 3) := by decide +kernel
theorem dX8_readWord_44 : decode cX8_readWord 44 = .ok (.iload_n 1, 1) := by decide +kernel
theorem dX8_readWord_45 : decode cX8_readWord 45 = .ok (.iaload, 1) := by decide +kernel
theorem dX8_readWord_46 : decode cX8_readWord 46 = .ok (.aload_n 0, 1) := by decide +kernel
theorem dX8_readWord_47 : decode cX8_readWord 47 = .ok (.getfield 88, 3) := by decide +kernel
theorem dX8_readWord_50 : decode cX8_readWord 50 = .ok (.aload_n 0, 1) := by decide +kernel
theorem dX8_readWord_51 : decode cX8_readWord 51 = .ok (.getfield 16, 3) := by decide +kernel
theorem dX8_readWord_54 : decode cX8_readWord 54 = .ok (.iload_n 1, 1) := by decide +kernel
theorem dX8_readWord_55 : decode cX8_readWord 55 = .ok (.iaload, 1) := by decide +kernel
theorem dX8_readWord_56 : decode cX8_readWord 56 = .ok (.isub, 1) := by decide +kernel
theorem dX8_readWord_57 : decode cX8_readWord 57 = .ok (.invokevirtual 117, 3) := by decide +kernel
theorem dX8_readWord_60 : decode cX8_readWord 60 = .ok (.istore_n 2, 1) := by decide +kernel
theorem dX8_readWord_61 : decode cX8_readWord 61 = .ok (.aload_n 0, 1) := by decide +kernel
theorem dX8_readWord_62 : decode cX8_readWord 62 = .ok (.getfield 13, 3) := by decide +kernel
theorem dX8_readWord_65 : decode cX8_readWord 65 = .ok (.iload_n 1, 1) := by decide +kernel
theorem dX8_readWord_66 : decode cX8_readWord 66 = .ok (.iload_n 2, 1) := by decide +kernel
theorem dX8_readWord_67 : decode cX8_readWord 67 = .ok (.ifCond .ge 7, 3) := by decide +kernel
theorem dX8_readWord_70 : decode cX8_readWord 70 = .ok (.iconst 1, 1) := by decide +kernel
theorem dX8_readWord_71 : decode cX8_readWord 71 = .ok (.goto 18, 3) := by decide +kernel
theorem dX8_readWord_74 : decode cX8_readWord 74 = .ok (.iload_n 2, 1) := by decide +kernel
theorem dX8_readWord_75 : decode cX8_readWord 75 = .ok (.bipush 11, 2) := by decide +kernel
theorem dX8_readWord_77 : decode cX8_readWord 77 = .ok (.if_icmp .ge 7, 3) := by decide +kernel
theorem dX8_readWord_80 : decode cX8_readWord 80 = .ok (.iconst 3, 1) := by decide +kernel
theorem dX8_readWord_81 : decode cX8_readWord 81 = .ok (.goto 8, 3) := by decide +kernel
theorem dX8_readWord_84 : decode cX8_readWord 84 = .ok (.sipush 300, 3) := by decide +kernel
theorem dX8_readWord_87 : decode cX8_readWord 87 = .ok (.iload_n 2, 1) := by decide +kernel
theorem dX8_readWord_88 : decode cX8_readWord 88 = .ok (.iadd, 1) := by decide +kernel
theorem dX8_readWord_89 : decode cX8_readWord 89 = .ok (.iastore, 1) := by decide +kernel
theorem dX8_readWord_90 : decode cX8_readWord 90 = .ok (.aload_n 0, 1) := by decide +kernel
theorem dX8_readWord_91 : decode cX8_readWord 91 = .ok (.getfield 19, 3) := by decide +kernel
theorem dX8_readWord_94 : decode cX8_readWord 94 = .ok (.iload_n 1, 1) := by decide +kernel
theorem dX8_readWord_95 : decode cX8_readWord 95 = .ok (.iconst (-1), 1) := by decide +kernel
theorem dX8_readWord_96 : decode cX8_readWord 96 = .ok (.iload_n 2, 1) := by decide +kernel
theorem dX8_readWord_97 : decode cX8_readWord 97 = .ok (.isub, 1) := by decide +kernel
theorem dX8_readWord_98 : decode cX8_readWord 98 = .ok (.iastore, 1) := by decide +kernel
theorem dX8_readWord_99 : decode cX8_readWord 99 = .ok (.return_, 1) := by decide +kernel
theorem dX8_wordNumber_0 : decode cX8_wordNumber 0 = .ok (.iconst 0, 1) := by decide +kernel
theorem dX8_wordNumber_1 : decode cX8_wordNumber 1 = .ok (.istore_n 3, 1) := by decide +kernel
theorem dX8_wordNumber_2 : decode cX8_wordNumber 2 = .ok (.iconst 0, 1) := by decide +kernel
theorem dX8_wordNumber_3 : decode cX8_wordNumber 3 = .ok (.istore 4, 2) := by decide +kernel
theorem dX8_wordNumber_5 : decode cX8_wordNumber 5 = .ok (.iconst 0, 1) := by decide +kernel
theorem dX8_wordNumber_6 : decode cX8_wordNumber 6 = .ok (.istore 5, 2) := by decide +kernel
theorem dX8_wordNumber_8 : decode cX8_wordNumber 8 = .ok (.iload 5, 2) := by decide +kernel
theorem dX8_wordNumber_10 : decode cX8_wordNumber 10 = .ok (.ldc 121, 2) := by decide +kernel
theorem dX8_wordNumber_12 : decode cX8_wordNumber 12 = .ok (.invokevirtual 123, 3) := by decide +kernel
theorem dX8_wordNumber_15 : decode cX8_wordNumber 15 = .ok (.if_icmp .ge 52, 3) := by decide +kernel
theorem dX8_wordNumber_18 : decode cX8_wordNumber 18 = .ok (.ldc 121, 2) := by decide +kernel
theorem dX8_wordNumber_20 : decode cX8_wordNumber 20 = .ok (.iload 5, 2) := by decide +kernel
theorem dX8_wordNumber_22 : decode cX8_wordNumber 22 = .ok (.invokevirtual 126, 3) := by decide +kernel
theorem dX8_wordNumber_25 : decode cX8_wordNumber 25 = .ok (.bipush 32, 2) := by decide +kernel
theorem dX8_wordNumber_27 : decode cX8_wordNumber 27 = .ok (.if_icmp .ne 34, 3) := by decide +kernel
theorem dX8_wordNumber_30 : decode cX8_wordNumber 30 = .ok (.iload 5, 2) := by decide +kernel
theorem dX8_wordNumber_32 : decode cX8_wordNumber 32 = .ok (.iload 4, 2) := by decide +kernel
theorem dX8_wordNumber_34 : decode cX8_wordNumber 34 = .ok (.isub, 1) := by decide +kernel
theorem dX8_wordNumber_35 : decode cX8_wordNumber 35 = .ok (.iload_n 2, 1) := by decide +kernel
theorem dX8_wordNumber_36 : decode cX8_wordNumber 36 = .ok (.if_icmp .ne 16, 3) := by decide +kernel
theorem dX8_wordNumber_39 : decode cX8_wordNumber 39 = .ok (.aload_n 0, 1) := by decide +kernel
theorem dX8_wordNumber_40 : decode cX8_wordNumber 40 = .ok (.iload 4, 2) := by decide +kernel
theorem dX8_wordNumber_42 : decode cX8_wordNumber 42 = .ok (.iload_n 1, 1) := by decide +kernel
theorem dX8_wordNumber_43 : decode cX8_wordNumber 43 = .ok (.iload_n 2, 1) := by decide +kernel
theorem dX8_wordNumber_44 : decode cX8_wordNumber 44 = .ok (.invokevirtual 130, 3) := by decide +kernel
theorem dX8_wordNumber_47 : decode cX8_wordNumber 47 = .ok (.ifCond .eq 5, 3) := by decide +kernel
theorem dX8_wordNumber_50 : decode cX8_wordNumber 50 = .ok (.iload_n 3, 1) := by decide +kernel
theorem dX8_wordNumber_51 : decode cX8_wordNumber 51 = .ok (.ireturn, 1) := by decide +kernel
theorem dX8_wordNumber_52 : decode cX8_wordNumber 52 = .ok (.iinc 3 1, 3) := by decide +kernel
theorem dX8_wordNumber_55 : decode cX8_wordNumber 55 = .ok (.iload 5, 2) := by decide +kernel
theorem dX8_wordNumber_57 : decode cX8_wordNumber 57 = .ok (.iconst 1, 1) := by decide +kernel
theorem dX8_wordNumber_58 : decode cX8_wordNumber 58 = .ok (.iadd, 1) := by decide +kernel
theorem dX8_wordNumber_59 : decode cX8_wordNumber 59 = .ok (.istore 4, 2) := by decide +kernel
theorem dX8_wordNumber_61 : decode cX8_wordNumber 61 = .ok (.iinc 5 1, 3) := by decide +kernel
theorem dX8_wordNumber_64 : decode cX8_wordNumber 64 = .ok (.goto (-56), 3) := by decide +kernel
theorem dX8_wordNumber_67 : decode cX8_wordNumber 67 = .ok (.iconst (-1), 1) := by decide +kernel
theorem dX8_wordNumber_68 : decode cX8_wordNumber 68 = .ok (.ireturn, 1) := by decide +kernel
theorem dX8_isWord_0 : decode cX8_isWord 0 = .ok (.iconst 0, 1) := by decide +kernel
theorem dX8_isWord_1 : decode cX8_isWord 1 = .ok (.istore 4, 2) := by decide +kernel
theorem dX8_isWord_3 : decode cX8_isWord 3 = .ok (.iload 4, 2) := by decide +kernel
theorem dX8_isWord_5 : decode cX8_isWord 5 = .ok (.iload_n 3, 1) := by decide +kernel
theorem dX8_isWord_6 : decode cX8_isWord 6 = .ok (.if_icmp .ge 43, 3) := by decide +kernel
theorem dX8_isWord_9 : decode cX8_isWord 9 = .ok (.iload_n 1, 1) := by decide +kernel
theorem dX8_isWord_10 : decode cX8_isWord 10 = .ok (.iload 4, 2) := by decide +kernel
theorem dX8_isWord_12 : decode cX8_isWord 12 = .ok (.iadd, 1) := by decide +kernel
theorem dX8_isWord_13 : decode cX8_isWord 13 = .ok (.ldc 121, 2) := by decide +kernel
theorem dX8_isWord_15 : decode cX8_isWord 15 = .ok (.invokevirtual 123, 3) := by decide +kernel
theorem dX8_isWord_18 : decode cX8_isWord 18 = .ok (.if_icmp .ge 31, 3) := by decide +kernel
theorem dX8_isWord_21 : decode cX8_isWord 21 = .ok (.ldc 121, 2) := by decide +kernel
theorem dX8_isWord_23 : decode cX8_isWord 23 = .ok (.iload_n 1, 1) := by decide +kernel
theorem dX8_isWord_24 : decode cX8_isWord 24 = .ok (.iload 4, 2) := by decide +kernel
theorem dX8_isWord_26 : decode cX8_isWord 26 = .ok (.iadd, 1) := by decide +kernel
theorem dX8_isWord_27 : decode cX8_isWord 27 = .ok (.invokevirtual 126, 3) := by decide +kernel
theorem dX8_isWord_30 : decode cX8_isWord 30 = .ok (.aload_n 0, 1) := by decide +kernel
theorem dX8_isWord_31 : decode cX8_isWord 31 = .ok (.iload_n 2, 1) := by decide +kernel
theorem dX8_isWord_32 : decode cX8_isWord 32 = .ok (.iload 4, 2) := by decide +kernel
theorem dX8_isWord_34 : decode cX8_isWord 34 = .ok (.iadd, 1) := by decide +kernel
