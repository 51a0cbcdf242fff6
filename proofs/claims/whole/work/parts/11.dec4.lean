theorem dX12_says_26 : decode cX12_says 26 = .ok (.iconst 2, 1) := by decide +kernel
theorem dX12_says_27 : decode cX12_says 27 = .ok (.if_icmp .ne 6, 3) := by decide +kernel
theorem dX12_says_30 : decode cX12_says 30 = .ok (.ldc 210, 2) := by decide +kernel
theorem dX12_says_32 : decode cX12_says 32 = .ok (.ireturn, 1) := by decide +kernel
theorem dX12_says_33 : decode cX12_says 33 = .ok (.iload_n 1, 1) := by decide +kernel
theorem dX12_says_34 : decode cX12_says 34 = .ok (.ifCond .ne 13, 3) := by decide +kernel
theorem dX12_says_37 : decode cX12_says 37 = .ok (.iload_n 2, 1) := by decide +kernel
theorem dX12_says_38 : decode cX12_says 38 = .ok (.iconst (-1), 1) := by decide +kernel
theorem dX12_says_39 : decode cX12_says 39 = .ok (.if_icmp .ne 69, 3) := by decide +kernel
theorem dX12_says_42 : decode cX12_says 42 = .ok (.iload_n 3, 1) := by decide +kernel
theorem dX12_says_43 : decode cX12_says 43 = .ok (.iconst (-1), 1) := by decide +kernel
theorem dX12_says_44 : decode cX12_says 44 = .ok (.if_icmp .ne 64, 3) := by decide +kernel
theorem dX12_says_47 : decode cX12_says 47 = .ok (.iload_n 1, 1) := by decide +kernel
theorem dX12_says_48 : decode cX12_says 48 = .ok (.iconst 1, 1) := by decide +kernel
theorem dX12_says_49 : decode cX12_says 49 = .ok (.if_icmp .ne 20, 3) := by decide +kernel
theorem dX12_says_52 : decode cX12_says 52 = .ok (.aload_n 0, 1) := by decide +kernel
theorem dX12_says_53 : decode cX12_says 53 = .ok (.iload_n 2, 1) := by decide +kernel
theorem dX12_says_54 : decode cX12_says 54 = .ok (.invokevirtual 230, 3) := by decide +kernel
theorem dX12_says_57 : decode cX12_says 57 = .ok (.ifCond .eq 51, 3) := by decide +kernel
theorem dX12_says_60 : decode cX12_says 60 = .ok (.iload_n 3, 1) := by decide +kernel
theorem dX12_says_61 : decode cX12_says 61 = .ok (.iconst 1, 1) := by decide +kernel
theorem dX12_says_62 : decode cX12_says 62 = .ok (.iconst 5, 1) := by decide +kernel
theorem dX12_says_63 : decode cX12_says 63 = .ok (.invokestatic 195, 3) := by decide +kernel
theorem dX12_says_66 : decode cX12_says 66 = .ok (.ifCond .eq 42, 3) := by decide +kernel
theorem dX12_says_69 : decode cX12_says 69 = .ok (.iload_n 1, 1) := by decide +kernel
theorem dX12_says_70 : decode cX12_says 70 = .ok (.iconst 3, 1) := by decide +kernel
theorem dX12_says_71 : decode cX12_says 71 = .ok (.if_icmp .ne 16, 3) := by decide +kernel
theorem dX12_says_74 : decode cX12_says 74 = .ok (.iload_n 2, 1) := by decide +kernel
theorem dX12_says_75 : decode cX12_says 75 = .ok (.iconst (-1), 1) := by decide +kernel
theorem dX12_says_76 : decode cX12_says 76 = .ok (.if_icmp .ne 32, 3) := by decide +kernel
theorem dX12_says_79 : decode cX12_says 79 = .ok (.aload_n 0, 1) := by decide +kernel
theorem dX12_says_80 : decode cX12_says 80 = .ok (.iload_n 3, 1) := by decide +kernel
theorem dX12_says_81 : decode cX12_says 81 = .ok (.invokevirtual 224, 3) := by decide +kernel
theorem dX12_says_84 : decode cX12_says 84 = .ok (.ifCond .eq 24, 3) := by decide +kernel
theorem dX12_says_87 : decode cX12_says 87 = .ok (.iload_n 1, 1) := by decide +kernel
theorem dX12_says_88 : decode cX12_says 88 = .ok (.iconst 4, 1) := by decide +kernel
theorem dX12_says_89 : decode cX12_says 89 = .ok (.if_icmp .ne 22, 3) := by decide +kernel
theorem dX12_says_92 : decode cX12_says 92 = .ok (.aload_n 0, 1) := by decide +kernel
theorem dX12_says_93 : decode cX12_says 93 = .ok (.iload_n 2, 1) := by decide +kernel
theorem dX12_says_94 : decode cX12_says 94 = .ok (.invokevirtual 230, 3) := by decide +kernel
theorem dX12_says_97 : decode cX12_says 97 = .ok (.ifCond .eq 11, 3) := by decide +kernel
theorem dX12_says_100 : decode cX12_says 100 = .ok (.aload_n 0, 1) := by decide +kernel
theorem dX12_says_101 : decode cX12_says 101 = .ok (.iload_n 3, 1) := by decide +kernel
theorem dX12_says_102 : decode cX12_says 102 = .ok (.invokevirtual 224, 3) := by decide +kernel
theorem dX12_says_105 : decode cX12_says 105 = .ok (.ifCond .ne 6, 3) := by decide +kernel
theorem dX12_says_108 : decode cX12_says 108 = .ok (.ldc 210, 2) := by decide +kernel
theorem dX12_says_110 : decode cX12_says 110 = .ok (.ireturn, 1) := by decide +kernel
theorem dX12_says_111 : decode cX12_says 111 = .ok (.iload_n 1, 1) := by decide +kernel
theorem dX12_says_112 : decode cX12_says 112 = .ok (.ifCond .ne 10, 3) := by decide +kernel
theorem dX12_says_115 : decode cX12_says 115 = .ok (.aload_n 0, 1) := by decide +kernel
theorem dX12_says_116 : decode cX12_says 116 = .ok (.invokevirtual 442, 3) := by decide +kernel
theorem dX12_says_119 : decode cX12_says 119 = .ok (.goto 37, 3) := by decide +kernel
theorem dX12_says_122 : decode cX12_says 122 = .ok (.iload_n 1, 1) := by decide +kernel
theorem dX12_says_123 : decode cX12_says 123 = .ok (.iconst 1, 1) := by decide +kernel
theorem dX12_says_124 : decode cX12_says 124 = .ok (.if_icmp .ne 13, 3) := by decide +kernel
theorem dX12_says_127 : decode cX12_says 127 = .ok (.aload_n 0, 1) := by decide +kernel
theorem dX12_says_128 : decode cX12_says 128 = .ok (.iload_n 2, 1) := by decide +kernel
theorem dX12_says_129 : decode cX12_says 129 = .ok (.iload_n 3, 1) := by decide +kernel
theorem dX12_says_130 : decode cX12_says 130 = .ok (.iconst 0, 1) := by decide +kernel
theorem dX12_says_131 : decode cX12_says 131 = .ok (.invokevirtual 445, 3) := by decide +kernel
theorem dX12_says_134 : decode cX12_says 134 = .ok (.goto 22, 3) := by decide +kernel
theorem dX12_says_137 : decode cX12_says 137 = .ok (.iload_n 1, 1) := by decide +kernel
theorem dX12_says_138 : decode cX12_says 138 = .ok (.iconst 3, 1) := by decide +kernel
theorem dX12_says_139 : decode cX12_says 139 = .ok (.if_icmp .ne 11, 3) := by decide +kernel
theorem dX12_says_142 : decode cX12_says 142 = .ok (.aload_n 0, 1) := by decide +kernel
theorem dX12_says_143 : decode cX12_says 143 = .ok (.iload_n 3, 1) := by decide +kernel
theorem dX12_says_144 : decode cX12_says 144 = .ok (.invokevirtual 448, 3) := by decide +kernel
theorem dX12_says_147 : decode cX12_says 147 = .ok (.goto 9, 3) := by decide +kernel
theorem dX12_says_150 : decode cX12_says 150 = .ok (.aload_n 0, 1) := by decide +kernel
theorem dX12_says_151 : decode cX12_says 151 = .ok (.iload_n 2, 1) := by decide +kernel
theorem dX12_says_152 : decode cX12_says 152 = .ok (.iload_n 3, 1) := by decide +kernel
theorem dX12_says_153 : decode cX12_says 153 = .ok (.invokevirtual 451, 3) := by decide +kernel
theorem dX12_says_156 : decode cX12_says 156 = .ok (.istore 5, 2) := by decide +kernel
theorem dX12_says_158 : decode cX12_says 158 = .ok (.iload 4, 2) := by decide +kernel
theorem dX12_says_160 : decode cX12_says 160 = .ok (.ifCond .ne 8, 3) := by decide +kernel
theorem dX12_says_163 : decode cX12_says 163 = .ok (.iload 5, 2) := by decide +kernel
theorem dX12_says_165 : decode cX12_says 165 = .ok (.goto 7, 3) := by decide +kernel
theorem dX12_says_168 : decode cX12_says 168 = .ok (.aload_n 0, 1) := by decide +kernel
theorem dX12_says_169 : decode cX12_says 169 = .ok (.getfield 435, 3) := by decide +kernel
theorem dX12_says_172 : decode cX12_says 172 = .ok (.ireturn, 1) := by decide +kernel
theorem dX12_nearest_0 : decode cX12_nearest 0 = .ok (.aload_n 0, 1) := by decide +kernel
theorem dX12_nearest_1 : decode cX12_nearest 1 = .ok (.iload_n 1, 1) := by decide +kernel
theorem dX12_nearest_2 : decode cX12_nearest 2 = .ok (.invokevirtual 230, 3) := by decide +kernel
theorem dX12_nearest_5 : decode cX12_nearest 5 = .ok (.ifCond .eq 10, 3) := by decide +kernel
theorem dX12_nearest_8 : decode cX12_nearest 8 = .ok (.iload_n 2, 1) := by decide +kernel
theorem dX12_nearest_9 : decode cX12_nearest 9 = .ok (.invokestatic 206, 3) := by decide +kernel
theorem dX12_nearest_12 : decode cX12_nearest 12 = .ok (.ifCond .ne 5, 3) := by decide +kernel
theorem dX12_nearest_15 : decode cX12_nearest 15 = .ok (.iconst (-1), 1) := by decide +kernel
theorem dX12_nearest_16 : decode cX12_nearest 16 = .ok (.ireturn, 1) := by decide +kernel
theorem dX12_nearest_17 : decode cX12_nearest 17 = .ok (.bipush (-2), 2) := by decide +kernel
theorem dX12_nearest_19 : decode cX12_nearest 19 = .ok (.istore_n 3, 1) := by decide +kernel
theorem dX12_nearest_20 : decode cX12_nearest 20 = .ok (.iconst 0, 1) := by decide +kernel
theorem dX12_nearest_21 : decode cX12_nearest 21 = .ok (.istore 4, 2) := by decide +kernel
theorem dX12_nearest_23 : decode cX12_nearest 23 = .ok (.iload 4, 2) := by decide +kernel
theorem dX12_nearest_25 : decode cX12_nearest 25 = .ok (.aload_n 0, 1) := by decide +kernel
theorem dX12_nearest_26 : decode cX12_nearest 26 = .ok (.getfield 214, 3) := by decide +kernel
theorem dX12_nearest_29 : decode cX12_nearest 29 = .ok (.if_icmp .ge 56, 3) := by decide +kernel
theorem dX12_nearest_32 : decode cX12_nearest 32 = .ok (.aload_n 0, 1) := by decide +kernel
theorem dX12_nearest_33 : decode cX12_nearest 33 = .ok (.iload 4, 2) := by decide +kernel
theorem dX12_nearest_35 : decode cX12_nearest 35 = .ok (.invokevirtual 255, 3) := by decide +kernel
theorem dX12_nearest_38 : decode cX12_nearest 38 = .ok (.ifCond .eq 41, 3) := by decide +kernel
theorem dX12_nearest_41 : decode cX12_nearest 41 = .ok (.aload_n 0, 1) := by decide +kernel
theorem dX12_nearest_42 : decode cX12_nearest 42 = .ok (.iload_n 1, 1) := by decide +kernel
theorem dX12_nearest_43 : decode cX12_nearest 43 = .ok (.iload 4, 2) := by decide +kernel
theorem dX12_nearest_45 : decode cX12_nearest 45 = .ok (.invokevirtual 451, 3) := by decide +kernel
theorem dX12_nearest_48 : decode cX12_nearest 48 = .ok (.ifCond .ne 6, 3) := by decide +kernel
theorem dX12_nearest_51 : decode cX12_nearest 51 = .ok (.goto 28, 3) := by decide +kernel
theorem dX12_nearest_54 : decode cX12_nearest 54 = .ok (.iload_n 2, 1) := by decide +kernel
theorem dX12_nearest_55 : decode cX12_nearest 55 = .ok (.aload_n 0, 1) := by decide +kernel
theorem dX12_nearest_56 : decode cX12_nearest 56 = .ok (.iload 4, 2) := by decide +kernel
theorem dX12_nearest_58 : decode cX12_nearest 58 = .ok (.invokevirtual 239, 3) := by decide +kernel
theorem dX12_nearest_61 : decode cX12_nearest 61 = .ok (.invokestatic 308, 3) := by decide +kernel
theorem dX12_nearest_64 : decode cX12_nearest 64 = .ok (.istore 5, 2) := by decide +kernel
theorem dX12_nearest_66 : decode cX12_nearest 66 = .ok (.iload_n 3, 1) := by decide +kernel
theorem dX12_nearest_67 : decode cX12_nearest 67 = .ok (.ifCond .lt 9, 3) := by decide +kernel
theorem dX12_nearest_70 : decode cX12_nearest 70 = .ok (.iload 5, 2) := by decide +kernel
theorem dX12_nearest_72 : decode cX12_nearest 72 = .ok (.iload_n 3, 1) := by decide +kernel
theorem dX12_nearest_73 : decode cX12_nearest 73 = .ok (.if_icmp .ge 6, 3) := by decide +kernel
theorem dX12_nearest_76 : decode cX12_nearest 76 = .ok (.iload 5, 2) := by decide +kernel
theorem dX12_nearest_78 : decode cX12_nearest 78 = .ok (.istore_n 3, 1) := by decide +kernel
theorem dX12_nearest_79 : decode cX12_nearest 79 = .ok (.iinc 4 1, 3) := by decide +kernel
theorem dX12_nearest_82 : decode cX12_nearest 82 = .ok (.goto (-59), 3) := by decide +kernel
theorem dX12_nearest_85 : decode cX12_nearest 85 = .ok (.iload_n 3, 1) := by decide +kernel
theorem dX12_nearest_86 : decode cX12_nearest 86 = .ok (.ireturn, 1) := by decide +kernel
theorem dX12_mayLeave_0 : decode cX12_mayLeave 0 = .ok (.aload_n 0, 1) := by decide +kernel
theorem dX12_mayLeave_1 : decode cX12_mayLeave 1 = .ok (.iload_n 3, 1) := by decide +kernel
theorem dX12_mayLeave_2 : decode cX12_mayLeave 2 = .ok (.invokevirtual 211, 3) := by decide +kernel
theorem dX12_mayLeave_5 : decode cX12_mayLeave 5 = .ok (.ifCond .ge 5, 3) := by decide +kernel
theorem dX12_mayLeave_8 : decode cX12_mayLeave 8 = .ok (.iconst 1, 1) := by decide +kernel
theorem dX12_mayLeave_9 : decode cX12_mayLeave 9 = .ok (.ireturn, 1) := by decide +kernel
theorem dX12_mayLeave_10 : decode cX12_mayLeave 10 = .ok (.aload_n 0, 1) := by decide +kernel
theorem dX12_mayLeave_11 : decode cX12_mayLeave 11 = .ok (.iload_n 1, 1) := by decide +kernel
theorem dX12_mayLeave_12 : decode cX12_mayLeave 12 = .ok (.aload_n 0, 1) := by decide +kernel
theorem dX12_mayLeave_13 : decode cX12_mayLeave 13 = .ok (.getfield 203, 3) := by decide +kernel
theorem dX12_mayLeave_16 : decode cX12_mayLeave 16 = .ok (.invokevirtual 288, 3) := by decide +kernel
theorem dX12_mayLeave_19 : decode cX12_mayLeave 19 = .ok (.aload_n 0, 1) := by decide +kernel
theorem dX12_mayLeave_20 : decode cX12_mayLeave 20 = .ok (.getfield 97, 3) := by decide +kernel
theorem dX12_mayLeave_23 : decode cX12_mayLeave 23 = .ok (.iconst 1, 1) := by decide +kernel
theorem dX12_mayLeave_24 : decode cX12_mayLeave 24 = .ok (.iload_n 2, 1) := by decide +kernel
theorem dX12_mayLeave_25 : decode cX12_mayLeave 25 = .ok (.iastore, 1) := by decide +kernel
theorem dX12_mayLeave_26 : decode cX12_mayLeave 26 = .ok (.aload_n 0, 1) := by decide +kernel
theorem dX12_mayLeave_27 : decode cX12_mayLeave 27 = .ok (.getfield 97, 3) := by decide +kernel
theorem dX12_mayLeave_30 : decode cX12_mayLeave 30 = .ok (.bipush 8, 2) := by decide +kernel
theorem dX12_mayLeave_32 : decode cX12_mayLeave 32 = .ok (.aload_n 0, 1) := by decide +kernel
theorem dX12_mayLeave_33 : decode cX12_mayLeave 33 = .ok (.getfield 16, 3) := by decide +kernel
theorem dX12_mayLeave_36 : decode cX12_mayLeave 36 = .ok (.iload_n 1, 1) := by decide +kernel
theorem dX12_mayLeave_37 : decode cX12_mayLeave 37 = .ok (.iaload, 1) := by decide +kernel
theorem dX12_mayLeave_38 : decode cX12_mayLeave 38 = .ok (.iload_n 3, 1) := by decide +kernel
theorem dX12_mayLeave_39 : decode cX12_mayLeave 39 = .ok (.invokestatic 308, 3) := by decide +kernel
theorem dX12_mayLeave_42 : decode cX12_mayLeave 42 = .ok (.iastore, 1) := by decide +kernel
theorem dX12_mayLeave_43 : decode cX12_mayLeave 43 = .ok (.aload_n 0, 1) := by decide +kernel
theorem dX12_mayLeave_44 : decode cX12_mayLeave 44 = .ok (.bipush 10, 2) := by decide +kernel
theorem dX12_mayLeave_46 : decode cX12_mayLeave 46 = .ok (.aload_n 0, 1) := by decide +kernel
theorem dX12_mayLeave_47 : decode cX12_mayLeave 47 = .ok (.iload_n 3, 1) := by decide +kernel
theorem dX12_mayLeave_48 : decode cX12_mayLeave 48 = .ok (.invokevirtual 211, 3) := by decide +kernel
theorem dX12_mayLeave_51 : decode cX12_mayLeave 51 = .ok (.iadd, 1) := by decide +kernel
theorem dX12_mayLeave_52 : decode cX12_mayLeave 52 = .ok (.aload_n 0, 1) := by decide +kernel
theorem dX12_mayLeave_53 : decode cX12_mayLeave 53 = .ok (.getfield 203, 3) := by decide +kernel
theorem dX12_mayLeave_56 : decode cX12_mayLeave 56 = .ok (.aload_n 0, 1) := by decide +kernel
theorem dX12_mayLeave_57 : decode cX12_mayLeave 57 = .ok (.getfield 203, 3) := by decide +kernel
theorem dX12_mayLeave_60 : decode cX12_mayLeave 60 = .ok (.iconst 0, 1) := by decide +kernel
theorem dX12_mayLeave_61 : decode cX12_mayLeave 61 = .ok (.invokevirtual 301, 3) := by decide +kernel
theorem dX12_mayLeave_64 : decode cX12_mayLeave 64 = .ok (.ifCond .eq 7, 3) := by decide +kernel
theorem dX12_mayLeave_67 : decode cX12_mayLeave 67 = .ok (.iconst 1, 1) := by decide +kernel
theorem dX12_mayLeave_68 : decode cX12_mayLeave 68 = .ok (.goto 4, 3) := by decide +kernel
theorem dX12_mayLeave_71 : decode cX12_mayLeave 71 = .ok (.iconst 0, 1) := by decide +kernel
theorem dX12_mayLeave_72 : decode cX12_mayLeave 72 = .ok (.ireturn, 1) := by decide +kernel
theorem dX12_whyNot_0 : decode cX12_whyNot 0 = .ok (.aload_n 0, 1) := by decide +kernel
theorem dX12_whyNot_1 : decode cX12_whyNot 1 = .ok (.getfield 22, 3) := by decide +kernel
theorem dX12_whyNot_4 : decode cX12_whyNot 4 = .ok (.iload_n 1, 1) := by decide +kernel
theorem dX12_whyNot_5 : decode cX12_whyNot 5 = .ok (.iaload, 1) := by decide +kernel
theorem dX12_whyNot_6 : decode cX12_whyNot 6 = .ok (.ifCond .ge 22, 3) := by decide +kernel
theorem dX12_whyNot_9 : decode cX12_whyNot 9 = .ok (.aload_n 0, 1) := by decide +kernel
theorem dX12_whyNot_10 : decode cX12_whyNot 10 = .ok (.iload_n 1, 1) := by decide +kernel
theorem dX12_whyNot_11 : decode cX12_whyNot 11 = .ok (.iload_n 2, 1) := by decide +kernel
theorem dX12_whyNot_12 : decode cX12_whyNot 12 = .ok (.aload_n 0, 1) := by decide +kernel
theorem dX12_whyNot_13 : decode cX12_whyNot 13 = .ok (.getfield 16, 3) := by decide +kernel
theorem dX12_whyNot_16 : decode cX12_whyNot 16 = .ok (.iload_n 1, 1) := by decide +kernel
theorem dX12_whyNot_17 : decode cX12_whyNot 17 = .ok (.iaload, 1) := by decide +kernel
theorem dX12_whyNot_18 : decode cX12_whyNot 18 = .ok (.iload_n 3, 1) := by decide +kernel
theorem dX12_whyNot_19 : decode cX12_whyNot 19 = .ok (.invokestatic 308, 3) := by decide +kernel
theorem dX12_whyNot_22 : decode cX12_whyNot 22 = .ok (.invokevirtual 445, 3) := by decide +kernel
theorem dX12_whyNot_25 : decode cX12_whyNot 25 = .ok (.ifCond .ne 5, 3) := by decide +kernel
theorem dX12_whyNot_28 : decode cX12_whyNot 28 = .ok (.iconst 1, 1) := by decide +kernel
theorem dX12_whyNot_29 : decode cX12_whyNot 29 = .ok (.ireturn, 1) := by decide +kernel
theorem dX12_whyNot_30 : decode cX12_whyNot 30 = .ok (.aload_n 0, 1) := by decide +kernel
theorem dX12_whyNot_31 : decode cX12_whyNot 31 = .ok (.iload_n 1, 1) := by decide +kernel
theorem dX12_whyNot_32 : decode cX12_whyNot 32 = .ok (.iload_n 2, 1) := by decide +kernel
theorem dX12_whyNot_33 : decode cX12_whyNot 33 = .ok (.iload_n 3, 1) := by decide +kernel
theorem dX12_whyNot_34 : decode cX12_whyNot 34 = .ok (.invokevirtual 454, 3) := by decide +kernel
theorem dX12_whyNot_37 : decode cX12_whyNot 37 = .ok (.ifCond .ne 5, 3) := by decide +kernel
theorem dX12_whyNot_40 : decode cX12_whyNot 40 = .ok (.iconst 2, 1) := by decide +kernel
theorem dX12_whyNot_41 : decode cX12_whyNot 41 = .ok (.ireturn, 1) := by decide +kernel
theorem dX12_whyNot_42 : decode cX12_whyNot 42 = .ok (.iconst 0, 1) := by decide +kernel
theorem dX12_whyNot_43 : decode cX12_whyNot 43 = .ok (.istore 4, 2) := by decide +kernel
theorem dX12_whyNot_45 : decode cX12_whyNot 45 = .ok (.iload 4, 2) := by decide +kernel
theorem dX12_whyNot_47 : decode cX12_whyNot 47 = .ok (.aload_n 0, 1) := by decide +kernel
theorem dX12_whyNot_48 : decode cX12_whyNot 48 = .ok (.getfield 233, 3) := by decide +kernel
theorem dX12_whyNot_51 : decode cX12_whyNot 51 = .ok (.if_icmp .ge 32, 3) := by decide +kernel
theorem dX12_whyNot_54 : decode cX12_whyNot 54 = .ok (.iload_n 2, 1) := by decide +kernel
theorem dX12_whyNot_55 : decode cX12_whyNot 55 = .ok (.iconst 3, 1) := by decide +kernel
theorem dX12_whyNot_56 : decode cX12_whyNot 56 = .ok (.if_icmp .ne 27, 3) := by decide +kernel
theorem dX12_whyNot_59 : decode cX12_whyNot 59 = .ok (.aload_n 0, 1) := by decide +kernel
theorem dX12_whyNot_60 : decode cX12_whyNot 60 = .ok (.iload_n 1, 1) := by decide +kernel
theorem dX12_whyNot_61 : decode cX12_whyNot 61 = .ok (.iload_n 2, 1) := by decide +kernel
theorem dX12_whyNot_62 : decode cX12_whyNot 62 = .ok (.aload_n 0, 1) := by decide +kernel
theorem dX12_whyNot_63 : decode cX12_whyNot 63 = .ok (.getfield 34, 3) := by decide +kernel
theorem dX12_whyNot_66 : decode cX12_whyNot 66 = .ok (.iload 4, 2) := by decide +kernel
theorem dX12_whyNot_68 : decode cX12_whyNot 68 = .ok (.iaload, 1) := by decide +kernel
theorem dX12_whyNot_69 : decode cX12_whyNot 69 = .ok (.invokevirtual 454, 3) := by decide +kernel
theorem dX12_whyNot_72 : decode cX12_whyNot 72 = .ok (.ifCond .ne 5, 3) := by decide +kernel
theorem dX12_whyNot_75 : decode cX12_whyNot 75 = .ok (.iconst 2, 1) := by decide +kernel
theorem dX12_whyNot_76 : decode cX12_whyNot 76 = .ok (.ireturn, 1) := by decide +kernel
theorem dX12_whyNot_77 : decode cX12_whyNot 77 = .ok (.iinc 4 1, 3) := by decide +kernel
theorem dX12_whyNot_80 : decode cX12_whyNot 80 = .ok (.goto (-35), 3) := by decide +kernel
theorem dX12_whyNot_83 : decode cX12_whyNot 83 = .ok (.iload_n 2, 1) := by decide +kernel
theorem dX12_whyNot_84 : decode cX12_whyNot 84 = .ok (.iconst 3, 1) := by decide +kernel
theorem dX12_whyNot_85 : decode cX12_whyNot 85 = .ok (.if_icmp .ne 17, 3) := by decide +kernel
theorem dX12_whyNot_88 : decode cX12_whyNot 88 = .ok (.aload_n 0, 1) := by decide +kernel
theorem dX12_whyNot_89 : decode cX12_whyNot 89 = .ok (.getfield 34, 3) := by decide +kernel
theorem dX12_whyNot_92 : decode cX12_whyNot 92 = .ok (.aload_n 0, 1) := by decide +kernel
theorem dX12_whyNot_93 : decode cX12_whyNot 93 = .ok (.getfield 233, 3) := by decide +kernel
theorem dX12_whyNot_96 : decode cX12_whyNot 96 = .ok (.iconst 1, 1) := by decide +kernel
theorem dX12_whyNot_97 : decode cX12_whyNot 97 = .ok (.isub, 1) := by decide +kernel
theorem dX12_whyNot_98 : decode cX12_whyNot 98 = .ok (.iaload, 1) := by decide +kernel
theorem dX12_whyNot_99 : decode cX12_whyNot 99 = .ok (.goto 4, 3) := by decide +kernel
theorem dX12_whyNot_102 : decode cX12_whyNot 102 = .ok (.iload_n 3, 1) := by decide +kernel
theorem dX12_whyNot_103 : decode cX12_whyNot 103 = .ok (.istore 4, 2) := by decide +kernel
theorem dX12_whyNot_105 : decode cX12_whyNot 105 = .ok (.aload_n 0, 1) := by decide +kernel
theorem dX12_whyNot_106 : decode cX12_whyNot 106 = .ok (.invokevirtual 442, 3) := by decide +kernel
theorem dX12_whyNot_109 : decode cX12_whyNot 109 = .ok (.istore 5, 2) := by decide +kernel
theorem dX12_whyNot_111 : decode cX12_whyNot 111 = .ok (.iconst 0, 1) := by decide +kernel
theorem dX12_whyNot_112 : decode cX12_whyNot 112 = .ok (.istore 6, 2) := by decide +kernel
theorem dX12_whyNot_114 : decode cX12_whyNot 114 = .ok (.iload 6, 2) := by decide +kernel
theorem dX12_whyNot_116 : decode cX12_whyNot 116 = .ok (.aload_n 0, 1) := by decide +kernel
theorem dX12_whyNot_117 : decode cX12_whyNot 117 = .ok (.getfield 214, 3) := by decide +kernel
theorem dX12_whyNot_120 : decode cX12_whyNot 120 = .ok (.if_icmp .ge 64, 3) := by decide +kernel
theorem dX12_whyNot_123 : decode cX12_whyNot 123 = .ok (.aload_n 0, 1) := by decide +kernel
theorem dX12_whyNot_124 : decode cX12_whyNot 124 = .ok (.iload 6, 2) := by decide +kernel
theorem dX12_whyNot_126 : decode cX12_whyNot 126 = .ok (.invokevirtual 255, 3) := by decide +kernel
theorem dX12_whyNot_129 : decode cX12_whyNot 129 = .ok (.ifCond .eq 49, 3) := by decide +kernel
theorem dX12_whyNot_132 : decode cX12_whyNot 132 = .ok (.iload 4, 2) := by decide +kernel
theorem dX12_whyNot_134 : decode cX12_whyNot 134 = .ok (.aload_n 0, 1) := by decide +kernel
theorem dX12_whyNot_135 : decode cX12_whyNot 135 = .ok (.iload 6, 2) := by decide +kernel
theorem dX12_whyNot_137 : decode cX12_whyNot 137 = .ok (.invokevirtual 242, 3) := by decide +kernel
theorem dX12_whyNot_140 : decode cX12_whyNot 140 = .ok (.invokestatic 308, 3) := by decide +kernel
theorem dX12_whyNot_143 : decode cX12_whyNot 143 = .ok (.iload 5, 2) := by decide +kernel
theorem dX12_whyNot_145 : decode cX12_whyNot 145 = .ok (.if_icmp .lt 31, 3) := by decide +kernel
theorem dX12_whyNot_148 : decode cX12_whyNot 148 = .ok (.aload_n 0, 1) := by decide +kernel
theorem dX12_whyNot_149 : decode cX12_whyNot 149 = .ok (.getfield 13, 3) := by decide +kernel
theorem dX12_whyNot_152 : decode cX12_whyNot 152 = .ok (.iload 6, 2) := by decide +kernel
theorem dX12_whyNot_154 : decode cX12_whyNot 154 = .ok (.iaload, 1) := by decide +kernel
theorem dX12_whyNot_155 : decode cX12_whyNot 155 = .ok (.iconst 3, 1) := by decide +kernel
theorem dX12_whyNot_156 : decode cX12_whyNot 156 = .ok (.if_icmp .ne 22, 3) := by decide +kernel
theorem dX12_whyNot_159 : decode cX12_whyNot 159 = .ok (.iload 4, 2) := by decide +kernel
theorem dX12_whyNot_161 : decode cX12_whyNot 161 = .ok (.aload_n 0, 1) := by decide +kernel
theorem dX12_whyNot_162 : decode cX12_whyNot 162 = .ok (.getfield 16, 3) := by decide +kernel
theorem dX12_whyNot_165 : decode cX12_whyNot 165 = .ok (.iload 6, 2) := by decide +kernel
theorem dX12_whyNot_167 : decode cX12_whyNot 167 = .ok (.iaload, 1) := by decide +kernel
theorem dX12_whyNot_168 : decode cX12_whyNot 168 = .ok (.invokestatic 308, 3) := by decide +kernel
theorem dX12_whyNot_171 : decode cX12_whyNot 171 = .ok (.iload 5, 2) := by decide +kernel
theorem dX12_whyNot_173 : decode cX12_whyNot 173 = .ok (.if_icmp .ge 5, 3) := by decide +kernel
theorem dX12_whyNot_176 : decode cX12_whyNot 176 = .ok (.iconst 3, 1) := by decide +kernel
theorem dX12_whyNot_177 : decode cX12_whyNot 177 = .ok (.ireturn, 1) := by decide +kernel
theorem dX12_whyNot_178 : decode cX12_whyNot 178 = .ok (.iinc 6 1, 3) := by decide +kernel
theorem dX12_whyNot_181 : decode cX12_whyNot 181 = .ok (.goto (-67), 3) := by decide +kernel
theorem dX12_whyNot_184 : decode cX12_whyNot 184 = .ok (.iconst 0, 1) := by decide +kernel
theorem dX12_whyNot_185 : decode cX12_whyNot 185 = .ok (.istore 6, 2) := by decide +kernel
theorem dX12_whyNot_187 : decode cX12_whyNot 187 = .ok (.iload 6, 2) := by decide +kernel
theorem dX12_whyNot_189 : decode cX12_whyNot 189 = .ok (.aload_n 0, 1) := by decide +kernel
theorem dX12_whyNot_190 : decode cX12_whyNot 190 = .ok (.getfield 214, 3) := by decide +kernel
theorem dX12_whyNot_193 : decode cX12_whyNot 193 = .ok (.if_icmp .ge 79, 3) := by decide +kernel
theorem dX12_whyNot_196 : decode cX12_whyNot 196 = .ok (.aload_n 0, 1) := by decide +kernel
theorem dX12_whyNot_197 : decode cX12_whyNot 197 = .ok (.iload 6, 2) := by decide +kernel
theorem dX12_whyNot_199 : decode cX12_whyNot 199 = .ok (.invokevirtual 255, 3) := by decide +kernel
theorem dX12_whyNot_202 : decode cX12_whyNot 202 = .ok (.ifCond .eq 64, 3) := by decide +kernel
theorem dX12_whyNot_205 : decode cX12_whyNot 205 = .ok (.aload_n 0, 1) := by decide +kernel
theorem dX12_whyNot_206 : decode cX12_whyNot 206 = .ok (.getfield 13, 3) := by decide +kernel
theorem dX12_whyNot_209 : decode cX12_whyNot 209 = .ok (.iload 6, 2) := by decide +kernel
theorem dX12_whyNot_211 : decode cX12_whyNot 211 = .ok (.iaload, 1) := by decide +kernel
theorem dX12_whyNot_212 : decode cX12_whyNot 212 = .ok (.iconst 3, 1) := by decide +kernel
theorem dX12_whyNot_213 : decode cX12_whyNot 213 = .ok (.if_icmp .eq 6, 3) := by decide +kernel
theorem dX12_whyNot_216 : decode cX12_whyNot 216 = .ok (.goto 50, 3) := by decide +kernel
theorem dX12_whyNot_219 : decode cX12_whyNot 219 = .ok (.iconst 0, 1) := by decide +kernel
theorem dX12_whyNot_220 : decode cX12_whyNot 220 = .ok (.istore 7, 2) := by decide +kernel
theorem dX12_whyNot_222 : decode cX12_whyNot 222 = .ok (.iload 7, 2) := by decide +kernel
theorem dX12_whyNot_224 : decode cX12_whyNot 224 = .ok (.iconst 1, 1) := by decide +kernel
theorem dX12_whyNot_225 : decode cX12_whyNot 225 = .ok (.iadd, 1) := by decide +kernel
theorem dX12_whyNot_226 : decode cX12_whyNot 226 = .ok (.aload_n 0, 1) := by decide +kernel
theorem dX12_whyNot_227 : decode cX12_whyNot 227 = .ok (.getfield 28, 3) := by decide +kernel
theorem dX12_whyNot_230 : decode cX12_whyNot 230 = .ok (.iload 6, 2) := by decide +kernel
theorem dX12_whyNot_232 : decode cX12_whyNot 232 = .ok (.iaload, 1) := by decide +kernel
theorem dX12_whyNot_233 : decode cX12_whyNot 233 = .ok (.if_icmp .ge 33, 3) := by decide +kernel
theorem dX12_whyNot_236 : decode cX12_whyNot 236 = .ok (.iload 4, 2) := by decide +kernel
theorem dX12_whyNot_238 : decode cX12_whyNot 238 = .ok (.aload_n 0, 1) := by decide +kernel
theorem dX12_whyNot_239 : decode cX12_whyNot 239 = .ok (.getfield 31, 3) := by decide +kernel
theorem dX12_whyNot_242 : decode cX12_whyNot 242 = .ok (.iconst 4, 1) := by decide +kernel
theorem dX12_whyNot_243 : decode cX12_whyNot 243 = .ok (.iload 6, 2) := by decide +kernel
theorem dX12_whyNot_245 : decode cX12_whyNot 245 = .ok (.imul, 1) := by decide +kernel
theorem dX12_whyNot_246 : decode cX12_whyNot 246 = .ok (.iload 7, 2) := by decide +kernel
theorem dX12_whyNot_248 : decode cX12_whyNot 248 = .ok (.iadd, 1) := by decide +kernel
theorem dX12_whyNot_249 : decode cX12_whyNot 249 = .ok (.iaload, 1) := by decide +kernel
theorem dX12_whyNot_250 : decode cX12_whyNot 250 = .ok (.invokestatic 308, 3) := by decide +kernel
theorem dX12_whyNot_253 : decode cX12_whyNot 253 = .ok (.iload 5, 2) := by decide +kernel
theorem dX12_whyNot_255 : decode cX12_whyNot 255 = .ok (.if_icmp .ge 5, 3) := by decide +kernel
theorem dX12_whyNot_258 : decode cX12_whyNot 258 = .ok (.iconst 4, 1) := by decide +kernel
theorem dX12_whyNot_259 : decode cX12_whyNot 259 = .ok (.ireturn, 1) := by decide +kernel
theorem dX12_whyNot_260 : decode cX12_whyNot 260 = .ok (.iinc 7 1, 3) := by decide +kernel
theorem dX12_whyNot_263 : decode cX12_whyNot 263 = .ok (.goto (-41), 3) := by decide +kernel
theorem dX12_whyNot_266 : decode cX12_whyNot 266 = .ok (.iinc 6 1, 3) := by decide +kernel
theorem dX12_whyNot_269 : decode cX12_whyNot 269 = .ok (.goto (-82), 3) := by decide +kernel
theorem dX12_whyNot_272 : decode cX12_whyNot 272 = .ok (.iconst 0, 1) := by decide +kernel
theorem dX12_whyNot_273 : decode cX12_whyNot 273 = .ok (.ireturn, 1) := by decide +kernel
theorem dX12_canAsk_0 : decode cX12_canAsk 0 = .ok (.aload_n 0, 1) := by decide +kernel
theorem dX12_canAsk_1 : decode cX12_canAsk 1 = .ok (.iload_n 1, 1) := by decide +kernel
theorem dX12_canAsk_2 : decode cX12_canAsk 2 = .ok (.invokevirtual 230, 3) := by decide +kernel
theorem dX12_canAsk_5 : decode cX12_canAsk 5 = .ok (.ifCond .eq 35, 3) := by decide +kernel
theorem dX12_canAsk_8 : decode cX12_canAsk 8 = .ok (.iload_n 2, 1) := by decide +kernel
theorem dX12_canAsk_9 : decode cX12_canAsk 9 = .ok (.iconst 1, 1) := by decide +kernel
theorem dX12_canAsk_10 : decode cX12_canAsk 10 = .ok (.iconst 5, 1) := by decide +kernel
theorem dX12_canAsk_11 : decode cX12_canAsk 11 = .ok (.invokestatic 195, 3) := by decide +kernel
theorem dX12_canAsk_14 : decode cX12_canAsk 14 = .ok (.ifCond .eq 26, 3) := by decide +kernel
theorem dX12_canAsk_17 : decode cX12_canAsk 17 = .ok (.iload_n 3, 1) := by decide +kernel
theorem dX12_canAsk_18 : decode cX12_canAsk 18 = .ok (.invokestatic 206, 3) := by decide +kernel
theorem dX12_canAsk_21 : decode cX12_canAsk 21 = .ok (.ifCond .eq 19, 3) := by decide +kernel
theorem dX12_canAsk_24 : decode cX12_canAsk 24 = .ok (.iload_n 2, 1) := by decide +kernel
theorem dX12_canAsk_25 : decode cX12_canAsk 25 = .ok (.iconst 3, 1) := by decide +kernel
theorem dX12_canAsk_26 : decode cX12_canAsk 26 = .ok (.if_icmp .ne 10, 3) := by decide +kernel
theorem dX12_canAsk_29 : decode cX12_canAsk 29 = .ok (.aload_n 0, 1) := by decide +kernel
theorem dX12_canAsk_30 : decode cX12_canAsk 30 = .ok (.getfield 233, 3) := by decide +kernel
theorem dX12_canAsk_33 : decode cX12_canAsk 33 = .ok (.ifCond .le 7, 3) := by decide +kernel
theorem dX12_canAsk_36 : decode cX12_canAsk 36 = .ok (.iconst 1, 1) := by decide +kernel
theorem dX12_canAsk_37 : decode cX12_canAsk 37 = .ok (.goto 4, 3) := by decide +kernel
theorem dX12_canAsk_40 : decode cX12_canAsk 40 = .ok (.iconst 0, 1) := by decide +kernel
theorem dX12_canAsk_41 : decode cX12_canAsk 41 = .ok (.ireturn, 1) := by decide +kernel
theorem dX12_why_0 : decode cX12_why 0 = .ok (.aload_n 0, 1) := by decide +kernel
theorem dX12_why_1 : decode cX12_why 1 = .ok (.iload_n 1, 1) := by decide +kernel
theorem dX12_why_2 : decode cX12_why 2 = .ok (.iload_n 2, 1) := by decide +kernel
theorem dX12_why_3 : decode cX12_why 3 = .ok (.iload_n 3, 1) := by decide +kernel
theorem dX12_why_4 : decode cX12_why 4 = .ok (.invokevirtual 457, 3) := by decide +kernel
theorem dX12_why_7 : decode cX12_why 7 = .ok (.ifCond .eq 13, 3) := by decide +kernel
theorem dX12_why_10 : decode cX12_why 10 = .ok (.iload 4, 2) := by decide +kernel
theorem dX12_why_12 : decode cX12_why 12 = .ok (.iconst 0, 1) := by decide +kernel
theorem dX12_why_13 : decode cX12_why 13 = .ok (.iconst 1, 1) := by decide +kernel
theorem dX12_why_14 : decode cX12_why 14 = .ok (.invokestatic 195, 3) := by decide +kernel
theorem dX12_why_17 : decode cX12_why 17 = .ok (.ifCond .ne 5, 3) := by decide +kernel
theorem dX12_why_20 : decode cX12_why 20 = .ok (.iconst (-1), 1) := by decide +kernel
theorem dX12_why_21 : decode cX12_why 21 = .ok (.ireturn, 1) := by decide +kernel
theorem dX12_why_22 : decode cX12_why 22 = .ok (.aload_n 0, 1) := by decide +kernel
theorem dX12_why_23 : decode cX12_why 23 = .ok (.iload_n 1, 1) := by decide +kernel
theorem dX12_why_24 : decode cX12_why 24 = .ok (.iload_n 2, 1) := by decide +kernel
theorem dX12_why_25 : decode cX12_why 25 = .ok (.iload_n 3, 1) := by decide +kernel
theorem dX12_why_26 : decode cX12_why 26 = .ok (.invokevirtual 460, 3) := by decide +kernel
theorem dX12_why_29 : decode cX12_why 29 = .ok (.istore 5, 2) := by decide +kernel
theorem dX12_why_31 : decode cX12_why 31 = .ok (.iload 4, 2) := by decide +kernel
theorem dX12_why_33 : decode cX12_why 33 = .ok (.ifCond .ne 13, 3) := by decide +kernel
theorem dX12_why_36 : decode cX12_why 36 = .ok (.iload 5, 2) := by decide +kernel
theorem dX12_why_38 : decode cX12_why 38 = .ok (.iconst 4, 1) := by decide +kernel
theorem dX12_why_39 : decode cX12_why 39 = .ok (.if_icmp .ne 7, 3) := by decide +kernel
theorem dX12_why_42 : decode cX12_why 42 = .ok (.iconst 3, 1) := by decide +kernel
theorem dX12_why_43 : decode cX12_why 43 = .ok (.goto 5, 3) := by decide +kernel
theorem dX12_why_46 : decode cX12_why 46 = .ok (.iload 5, 2) := by decide +kernel
theorem dX12_why_48 : decode cX12_why 48 = .ok (.ireturn, 1) := by decide +kernel
theorem dX12_hide_0 : decode cX12_hide 0 = .ok (.aload_n 0, 1) := by decide +kernel
theorem dX12_hide_1 : decode cX12_hide 1 = .ok (.iload_n 1, 1) := by decide +kernel
theorem dX12_hide_2 : decode cX12_hide 2 = .ok (.iload_n 2, 1) := by decide +kernel
theorem dX12_hide_3 : decode cX12_hide 3 = .ok (.iload_n 3, 1) := by decide +kernel
theorem dX12_hide_4 : decode cX12_hide 4 = .ok (.invokevirtual 457, 3) := by decide +kernel
theorem dX12_hide_7 : decode cX12_hide 7 = .ok (.ifCond .ne 5, 3) := by decide +kernel
theorem dX12_hide_10 : decode cX12_hide 10 = .ok (.iconst (-1), 1) := by decide +kernel
theorem dX12_hide_11 : decode cX12_hide 11 = .ok (.ireturn, 1) := by decide +kernel
theorem dX12_hide_12 : decode cX12_hide 12 = .ok (.aload_n 0, 1) := by decide +kernel
theorem dX12_hide_13 : decode cX12_hide 13 = .ok (.iload_n 1, 1) := by decide +kernel
theorem dX12_hide_14 : decode cX12_hide 14 = .ok (.iload_n 2, 1) := by decide +kernel
theorem dX12_hide_15 : decode cX12_hide 15 = .ok (.iload_n 3, 1) := by decide +kernel
theorem dX12_hide_16 : decode cX12_hide 16 = .ok (.invokevirtual 460, 3) := by decide +kernel
theorem dX12_hide_19 : decode cX12_hide 19 = .ok (.istore 4, 2) := by decide +kernel
theorem dX12_hide_21 : decode cX12_hide 21 = .ok (.iload 4, 2) := by decide +kernel
theorem dX12_hide_23 : decode cX12_hide 23 = .ok (.ifCond .le 19, 3) := by decide +kernel
theorem dX12_hide_26 : decode cX12_hide 26 = .ok (.bipush (-20), 2) := by decide +kernel
theorem dX12_hide_28 : decode cX12_hide 28 = .ok (.iload 4, 2) := by decide +kernel
theorem dX12_hide_30 : decode cX12_hide 30 = .ok (.iconst 4, 1) := by decide +kernel
theorem dX12_hide_31 : decode cX12_hide 31 = .ok (.if_icmp .ne 7, 3) := by decide +kernel
theorem dX12_hide_34 : decode cX12_hide 34 = .ok (.iconst 3, 1) := by decide +kernel
theorem dX12_hide_35 : decode cX12_hide 35 = .ok (.goto 5, 3) := by decide +kernel
theorem dX12_hide_38 : decode cX12_hide 38 = .ok (.iload 4, 2) := by decide +kernel
theorem dX12_hide_40 : decode cX12_hide 40 = .ok (.isub, 1) := by decide +kernel
theorem dX12_hide_41 : decode cX12_hide 41 = .ok (.ireturn, 1) := by decide +kernel
theorem dX12_hide_42 : decode cX12_hide 42 = .ok (.aload_n 0, 1) := by decide +kernel
theorem dX12_hide_43 : decode cX12_hide 43 = .ok (.getfield 214, 3) := by decide +kernel
theorem dX12_hide_46 : decode cX12_hide 46 = .ok (.sipush 150, 3) := by decide +kernel
theorem dX12_hide_49 : decode cX12_hide 49 = .ok (.if_icmp .ne 6, 3) := by decide +kernel
theorem dX12_hide_52 : decode cX12_hide 52 = .ok (.bipush (-3), 2) := by decide +kernel
theorem dX12_hide_54 : decode cX12_hide 54 = .ok (.ireturn, 1) := by decide +kernel
theorem dX12_hide_55 : decode cX12_hide 55 = .ok (.aload_n 0, 1) := by decide +kernel
theorem dX12_hide_56 : decode cX12_hide 56 = .ok (.iload_n 2, 1) := by decide +kernel
theorem dX12_hide_57 : decode cX12_hide 57 = .ok (.invokevirtual 227, 3) := by decide +kernel
theorem dX12_hide_60 : decode cX12_hide 60 = .ok (.istore 5, 2) := by decide +kernel
theorem dX12_hide_62 : decode cX12_hide 62 = .ok (.aload_n 0, 1) := by decide +kernel
theorem dX12_hide_63 : decode cX12_hide 63 = .ok (.getfield 25, 3) := by decide +kernel
theorem dX12_hide_66 : decode cX12_hide 66 = .ok (.iload 5, 2) := by decide +kernel
theorem dX12_hide_68 : decode cX12_hide 68 = .ok (.iload_n 1, 1) := by decide +kernel
theorem dX12_hide_69 : decode cX12_hide 69 = .ok (.iastore, 1) := by decide +kernel
theorem dX12_hide_70 : decode cX12_hide 70 = .ok (.aload_n 0, 1) := by decide +kernel
theorem dX12_hide_71 : decode cX12_hide 71 = .ok (.getfield 16, 3) := by decide +kernel
theorem dX12_hide_74 : decode cX12_hide 74 = .ok (.iload 5, 2) := by decide +kernel
theorem dX12_hide_76 : decode cX12_hide 76 = .ok (.iload_n 3, 1) := by decide +kernel
theorem dX12_hide_77 : decode cX12_hide 77 = .ok (.iastore, 1) := by decide +kernel
theorem dX12_hide_78 : decode cX12_hide 78 = .ok (.iconst 0, 1) := by decide +kernel
theorem dX12_hide_79 : decode cX12_hide 79 = .ok (.istore 6, 2) := by decide +kernel
theorem dX12_hide_81 : decode cX12_hide 81 = .ok (.iload 6, 2) := by decide +kernel
theorem dX12_hide_83 : decode cX12_hide 83 = .ok (.aload_n 0, 1) := by decide +kernel
theorem dX12_hide_84 : decode cX12_hide 84 = .ok (.getfield 233, 3) := by decide +kernel
theorem dX12_hide_87 : decode cX12_hide 87 = .ok (.if_icmp .ge 33, 3) := by decide +kernel
theorem dX12_hide_90 : decode cX12_hide 90 = .ok (.iload_n 2, 1) := by decide +kernel
theorem dX12_hide_91 : decode cX12_hide 91 = .ok (.iconst 3, 1) := by decide +kernel
theorem dX12_hide_92 : decode cX12_hide 92 = .ok (.if_icmp .ne 28, 3) := by decide +kernel
theorem dX12_hide_95 : decode cX12_hide 95 = .ok (.aload_n 0, 1) := by decide +kernel
theorem dX12_hide_96 : decode cX12_hide 96 = .ok (.getfield 31, 3) := by decide +kernel
theorem dX12_hide_99 : decode cX12_hide 99 = .ok (.iconst 4, 1) := by decide +kernel
theorem dX12_hide_100 : decode cX12_hide 100 = .ok (.iload 5, 2) := by decide +kernel
theorem dX12_hide_102 : decode cX12_hide 102 = .ok (.imul, 1) := by decide +kernel
theorem dX12_hide_103 : decode cX12_hide 103 = .ok (.iload 6, 2) := by decide +kernel
theorem dX12_hide_105 : decode cX12_hide 105 = .ok (.iadd, 1) := by decide +kernel
theorem dX12_hide_106 : decode cX12_hide 106 = .ok (.aload_n 0, 1) := by decide +kernel
theorem dX12_hide_107 : decode cX12_hide 107 = .ok (.getfield 34, 3) := by decide +kernel
theorem dX12_hide_110 : decode cX12_hide 110 = .ok (.iload 6, 2) := by decide +kernel
theorem dX12_hide_112 : decode cX12_hide 112 = .ok (.iaload, 1) := by decide +kernel
theorem dX12_hide_113 : decode cX12_hide 113 = .ok (.iastore, 1) := by decide +kernel
theorem dX12_hide_114 : decode cX12_hide 114 = .ok (.iinc 6 1, 3) := by decide +kernel
theorem dX12_hide_117 : decode cX12_hide 117 = .ok (.goto (-36), 3) := by decide +kernel
theorem dX12_hide_120 : decode cX12_hide 120 = .ok (.aload_n 0, 1) := by decide +kernel
theorem dX12_hide_121 : decode cX12_hide 121 = .ok (.getfield 28, 3) := by decide +kernel
theorem dX12_hide_124 : decode cX12_hide 124 = .ok (.iload 5, 2) := by decide +kernel
theorem dX12_hide_126 : decode cX12_hide 126 = .ok (.iload_n 2, 1) := by decide +kernel
theorem dX12_hide_127 : decode cX12_hide 127 = .ok (.iconst 3, 1) := by decide +kernel
theorem dX12_hide_128 : decode cX12_hide 128 = .ok (.if_icmp .ne 10, 3) := by decide +kernel
theorem dX12_hide_131 : decode cX12_hide 131 = .ok (.aload_n 0, 1) := by decide +kernel
theorem dX12_hide_132 : decode cX12_hide 132 = .ok (.getfield 233, 3) := by decide +kernel
theorem dX12_hide_135 : decode cX12_hide 135 = .ok (.goto 4, 3) := by decide +kernel
theorem dX12_hide_138 : decode cX12_hide 138 = .ok (.iconst 0, 1) := by decide +kernel
theorem dX12_hide_139 : decode cX12_hide 139 = .ok (.iastore, 1) := by decide +kernel
theorem dX12_hide_140 : decode cX12_hide 140 = .ok (.aload_n 0, 1) := by decide +kernel
theorem dX12_hide_141 : decode cX12_hide 141 = .ok (.iconst 0, 1) := by decide +kernel
theorem dX12_hide_142 : decode cX12_hide 142 = .ok (.putfield 233, 3) := by decide +kernel
theorem dX12_hide_145 : decode cX12_hide 145 = .ok (.iload 5, 2) := by decide +kernel
theorem dX12_hide_147 : decode cX12_hide 147 = .ok (.ireturn, 1) := by decide +kernel
theorem dX12_isTelling_0 : decode cX12_isTelling 0 = .ok (.iload_n 0, 1) := by decide +kernel
theorem dX12_isTelling_1 : decode cX12_isTelling 1 = .ok (.iconst 0, 1) := by decide +kernel
theorem dX12_isTelling_2 : decode cX12_isTelling 2 = .ok (.iconst 5, 1) := by decide +kernel
theorem dX12_isTelling_3 : decode cX12_isTelling 3 = .ok (.invokestatic 195, 3) := by decide +kernel
theorem dX12_isTelling_6 : decode cX12_isTelling 6 = .ok (.ifCond .ne 5, 3) := by decide +kernel
theorem dX12_isTelling_9 : decode cX12_isTelling 9 = .ok (.iconst 0, 1) := by decide +kernel
theorem dX12_isTelling_10 : decode cX12_isTelling 10 = .ok (.ireturn, 1) := by decide +kernel
theorem dX12_isTelling_11 : decode cX12_isTelling 11 = .ok (.iload_n 0, 1) := by decide +kernel
theorem dX12_isTelling_12 : decode cX12_isTelling 12 = .ok (.iconst 3, 1) := by decide +kernel
theorem dX12_isTelling_13 : decode cX12_isTelling 13 = .ok (.if_icmp .le 29, 3) := by decide +kernel
theorem dX12_isTelling_16 : decode cX12_isTelling 16 = .ok (.iload_n 1, 1) := by decide +kernel
theorem dX12_isTelling_17 : decode cX12_isTelling 17 = .ok (.iconst 0, 1) := by decide +kernel
theorem dX12_isTelling_18 : decode cX12_isTelling 18 = .ok (.bipush 6, 2) := by decide +kernel
theorem dX12_isTelling_20 : decode cX12_isTelling 20 = .ok (.invokestatic 195, 3) := by decide +kernel
theorem dX12_isTelling_23 : decode cX12_isTelling 23 = .ok (.ifCond .eq 17, 3) := by decide +kernel
theorem dX12_isTelling_26 : decode cX12_isTelling 26 = .ok (.iload_n 3, 1) := by decide +kernel
theorem dX12_isTelling_27 : decode cX12_isTelling 27 = .ok (.iconst 0, 1) := by decide +kernel
theorem dX12_isTelling_28 : decode cX12_isTelling 28 = .ok (.bipush 9, 2) := by decide +kernel
theorem dX12_isTelling_30 : decode cX12_isTelling 30 = .ok (.invokestatic 195, 3) := by decide +kernel
theorem dX12_isTelling_33 : decode cX12_isTelling 33 = .ok (.ifCond .eq 7, 3) := by decide +kernel
theorem dX12_isTelling_36 : decode cX12_isTelling 36 = .ok (.iconst 1, 1) := by decide +kernel
theorem dX12_isTelling_37 : decode cX12_isTelling 37 = .ok (.goto 4, 3) := by decide +kernel
theorem dX12_isTelling_40 : decode cX12_isTelling 40 = .ok (.iconst 0, 1) := by decide +kernel
theorem dX12_isTelling_41 : decode cX12_isTelling 41 = .ok (.ireturn, 1) := by decide +kernel
theorem dX12_isTelling_42 : decode cX12_isTelling 42 = .ok (.iload_n 1, 1) := by decide +kernel
theorem dX12_isTelling_43 : decode cX12_isTelling 43 = .ok (.iconst 0, 1) := by decide +kernel
theorem dX12_isTelling_44 : decode cX12_isTelling 44 = .ok (.iconst 5, 1) := by decide +kernel
theorem dX12_isTelling_45 : decode cX12_isTelling 45 = .ok (.invokestatic 195, 3) := by decide +kernel
theorem dX12_isTelling_48 : decode cX12_isTelling 48 = .ok (.ifCond .eq 17, 3) := by decide +kernel
theorem dX12_isTelling_51 : decode cX12_isTelling 51 = .ok (.iload_n 0, 1) := by decide +kernel
theorem dX12_isTelling_52 : decode cX12_isTelling 52 = .ok (.iconst 3, 1) := by decide +kernel
theorem dX12_isTelling_53 : decode cX12_isTelling 53 = .ok (.if_icmp .ge 14, 3) := by decide +kernel
theorem dX12_isTelling_56 : decode cX12_isTelling 56 = .ok (.iload_n 2, 1) := by decide +kernel
theorem dX12_isTelling_57 : decode cX12_isTelling 57 = .ok (.iconst 0, 1) := by decide +kernel
theorem dX12_isTelling_58 : decode cX12_isTelling 58 = .ok (.iconst 5, 1) := by decide +kernel
theorem dX12_isTelling_59 : decode cX12_isTelling 59 = .ok (.invokestatic 195, 3) := by decide +kernel
theorem dX12_isTelling_62 : decode cX12_isTelling 62 = .ok (.ifCond .ne 5, 3) := by decide +kernel
theorem dX12_isTelling_65 : decode cX12_isTelling 65 = .ok (.iconst 0, 1) := by decide +kernel
theorem dX12_isTelling_66 : decode cX12_isTelling 66 = .ok (.ireturn, 1) := by decide +kernel
theorem dX12_isTelling_67 : decode cX12_isTelling 67 = .ok (.iload_n 0, 1) := by decide +kernel
theorem dX12_isTelling_68 : decode cX12_isTelling 68 = .ok (.ifCond .ne 13, 3) := by decide +kernel
theorem dX12_isTelling_71 : decode cX12_isTelling 71 = .ok (.iload_n 3, 1) := by decide +kernel
theorem dX12_isTelling_72 : decode cX12_isTelling 72 = .ok (.iconst 0, 1) := by decide +kernel
theorem dX12_isTelling_73 : decode cX12_isTelling 73 = .ok (.bipush 18, 2) := by decide +kernel
theorem dX12_isTelling_75 : decode cX12_isTelling 75 = .ok (.invokestatic 195, 3) := by decide +kernel
theorem dX12_isTelling_78 : decode cX12_isTelling 78 = .ok (.goto 41, 3) := by decide +kernel
theorem dX12_isTelling_81 : decode cX12_isTelling 81 = .ok (.iload_n 0, 1) := by decide +kernel
theorem dX12_isTelling_82 : decode cX12_isTelling 82 = .ok (.iconst 1, 1) := by decide +kernel
theorem dX12_isTelling_83 : decode cX12_isTelling 83 = .ok (.if_icmp .ne 13, 3) := by decide +kernel
theorem dX12_isTelling_86 : decode cX12_isTelling 86 = .ok (.iload_n 3, 1) := by decide +kernel
theorem dX12_isTelling_87 : decode cX12_isTelling 87 = .ok (.iconst 0, 1) := by decide +kernel
theorem dX12_isTelling_88 : decode cX12_isTelling 88 = .ok (.bipush 81, 2) := by decide +kernel
theorem dX12_isTelling_90 : decode cX12_isTelling 90 = .ok (.invokestatic 195, 3) := by decide +kernel
theorem dX12_isTelling_93 : decode cX12_isTelling 93 = .ok (.goto 26, 3) := by decide +kernel
theorem dX12_isTelling_96 : decode cX12_isTelling 96 = .ok (.iload_n 0, 1) := by decide +kernel
theorem dX12_isTelling_97 : decode cX12_isTelling 97 = .ok (.iconst 2, 1) := by decide +kernel
theorem dX12_isTelling_98 : decode cX12_isTelling 98 = .ok (.if_icmp .ne 14, 3) := by decide +kernel
theorem dX12_isTelling_101 : decode cX12_isTelling 101 = .ok (.iload_n 3, 1) := by decide +kernel
theorem dX12_isTelling_102 : decode cX12_isTelling 102 = .ok (.bipush (-9), 2) := by decide +kernel
theorem dX12_isTelling_104 : decode cX12_isTelling 104 = .ok (.bipush 9, 2) := by decide +kernel
theorem dX12_isTelling_106 : decode cX12_isTelling 106 = .ok (.invokestatic 195, 3) := by decide +kernel
theorem dX12_isTelling_109 : decode cX12_isTelling 109 = .ok (.goto 10, 3) := by decide +kernel
theorem dX12_isTelling_112 : decode cX12_isTelling 112 = .ok (.iload_n 3, 1) := by decide +kernel
theorem dX12_isTelling_113 : decode cX12_isTelling 113 = .ok (.iconst 0, 1) := by decide +kernel
theorem dX12_isTelling_114 : decode cX12_isTelling 114 = .ok (.bipush 9, 2) := by decide +kernel
theorem dX12_isTelling_116 : decode cX12_isTelling 116 = .ok (.invokestatic 195, 3) := by decide +kernel
theorem dX12_isTelling_119 : decode cX12_isTelling 119 = .ok (.ireturn, 1) := by decide +kernel
theorem dX12_riddle_0 : decode cX12_riddle 0 = .ok (.aload_n 0, 1) := by decide +kernel
theorem dX12_riddle_1 : decode cX12_riddle 1 = .ok (.iload_n 1, 1) := by decide +kernel
theorem dX12_riddle_2 : decode cX12_riddle 2 = .ok (.invokevirtual 463, 3) := by decide +kernel
theorem dX12_riddle_5 : decode cX12_riddle 5 = .ok (.ifCond .eq 21, 3) := by decide +kernel
theorem dX12_riddle_8 : decode cX12_riddle 8 = .ok (.iload_n 2, 1) := by decide +kernel
theorem dX12_riddle_9 : decode cX12_riddle 9 = .ok (.invokestatic 276, 3) := by decide +kernel
theorem dX12_riddle_12 : decode cX12_riddle 12 = .ok (.ifCond .eq 14, 3) := by decide +kernel
theorem dX12_riddle_15 : decode cX12_riddle 15 = .ok (.iload 4, 2) := by decide +kernel
theorem dX12_riddle_17 : decode cX12_riddle 17 = .ok (.iconst 1, 1) := by decide +kernel
theorem dX12_riddle_18 : decode cX12_riddle 18 = .ok (.bipush 8, 2) := by decide +kernel
theorem dX12_riddle_20 : decode cX12_riddle 20 = .ok (.invokestatic 195, 3) := by decide +kernel
theorem dX12_riddle_23 : decode cX12_riddle 23 = .ok (.ifCond .ne 5, 3) := by decide +kernel
theorem dX12_riddle_26 : decode cX12_riddle 26 = .ok (.iconst (-1), 1) := by decide +kernel
theorem dX12_riddle_27 : decode cX12_riddle 27 = .ok (.ireturn, 1) := by decide +kernel
theorem dX12_riddle_28 : decode cX12_riddle 28 = .ok (.aload_n 0, 1) := by decide +kernel
theorem dX12_riddle_29 : decode cX12_riddle 29 = .ok (.getfield 180, 3) := by decide +kernel
theorem dX12_riddle_32 : decode cX12_riddle 32 = .ok (.iload_n 2, 1) := by decide +kernel
theorem dX12_riddle_33 : decode cX12_riddle 33 = .ok (.iaload, 1) := by decide +kernel
theorem dX12_riddle_34 : decode cX12_riddle 34 = .ok (.iconst (-1), 1) := by decide +kernel
theorem dX12_riddle_35 : decode cX12_riddle 35 = .ok (.if_icmp .eq 17, 3) := by decide +kernel
theorem dX12_riddle_38 : decode cX12_riddle 38 = .ok (.aload_n 0, 1) := by decide +kernel
theorem dX12_riddle_39 : decode cX12_riddle 39 = .ok (.getfield 180, 3) := by decide +kernel
theorem dX12_riddle_42 : decode cX12_riddle 42 = .ok (.iload_n 2, 1) := by decide +kernel
theorem dX12_riddle_43 : decode cX12_riddle 43 = .ok (.iaload, 1) := by decide +kernel
theorem dX12_riddle_44 : decode cX12_riddle 44 = .ok (.bipush (-2), 2) := by decide +kernel
theorem dX12_riddle_46 : decode cX12_riddle 46 = .ok (.if_icmp .eq 6, 3) := by decide +kernel
theorem dX12_riddle_49 : decode cX12_riddle 49 = .ok (.bipush (-12), 2) := by decide +kernel
theorem dX12_riddle_51 : decode cX12_riddle 51 = .ok (.ireturn, 1) := by decide +kernel
theorem dX12_riddle_52 : decode cX12_riddle 52 = .ok (.aload_n 0, 1) := by decide +kernel
theorem dX12_riddle_53 : decode cX12_riddle 53 = .ok (.getfield 103, 3) := by decide +kernel
theorem dX12_riddle_56 : decode cX12_riddle 56 = .ok (.iload_n 1, 1) := by decide +kernel
theorem dX12_riddle_57 : decode cX12_riddle 57 = .ok (.iconst 0, 1) := by decide +kernel
theorem dX12_riddle_58 : decode cX12_riddle 58 = .ok (.bastore, 1) := by decide +kernel
theorem dX12_riddle_59 : decode cX12_riddle 59 = .ok (.aload_n 0, 1) := by decide +kernel
theorem dX12_riddle_60 : decode cX12_riddle 60 = .ok (.getfield 180, 3) := by decide +kernel
theorem dX12_riddle_63 : decode cX12_riddle 63 = .ok (.iload_n 2, 1) := by decide +kernel
theorem dX12_riddle_64 : decode cX12_riddle 64 = .ok (.iaload, 1) := by decide +kernel
theorem dX12_riddle_65 : decode cX12_riddle 65 = .ok (.iconst (-1), 1) := by decide +kernel
theorem dX12_riddle_66 : decode cX12_riddle 66 = .ok (.if_icmp .ne 5, 3) := by decide +kernel
theorem dX12_riddle_69 : decode cX12_riddle 69 = .ok (.iconst 0, 1) := by decide +kernel
theorem dX12_riddle_70 : decode cX12_riddle 70 = .ok (.ireturn, 1) := by decide +kernel
theorem dX12_riddle_71 : decode cX12_riddle 71 = .ok (.iconst 0, 1) := by decide +kernel
theorem dX12_riddle_72 : decode cX12_riddle 72 = .ok (.istore 5, 2) := by decide +kernel
theorem dX12_riddle_74 : decode cX12_riddle 74 = .ok (.iload 5, 2) := by decide +kernel
theorem dX12_riddle_76 : decode cX12_riddle 76 = .ok (.iload 4, 2) := by decide +kernel
theorem dX12_riddle_78 : decode cX12_riddle 78 = .ok (.if_icmp .ge 207, 3) := by decide +kernel
theorem dX12_riddle_81 : decode cX12_riddle 81 = .ok (.iload_n 3, 1) := by decide +kernel
theorem dX12_riddle_82 : decode cX12_riddle 82 = .ok (.i2l, 1) := by decide +kernel
theorem dX12_riddle_83 : decode cX12_riddle 83 = .ok (.iconst 5, 1) := by decide +kernel
theorem dX12_riddle_84 : decode cX12_riddle 84 = .ok (.iload 5, 2) := by decide +kernel
theorem dX12_riddle_86 : decode cX12_riddle 86 = .ok (.imul, 1) := by decide +kernel
theorem dX12_riddle_87 : decode cX12_riddle 87 = .ok (.i2l, 1) := by decide +kernel
theorem dX12_riddle_88 : decode cX12_riddle 88 = .ok (.ladd, 1) := by decide +kernel
theorem dX12_riddle_89 : decode cX12_riddle 89 = .ok (.lstore 6, 2) := by decide +kernel
theorem dX12_riddle_91 : decode cX12_riddle 91 = .ok (.lload 6, 2) := by decide +kernel
theorem dX12_riddle_93 : decode cX12_riddle 93 = .ok (.lconst 0, 1) := by decide +kernel
theorem dX12_riddle_94 : decode cX12_riddle 94 = .ok (.lcmp, 1) := by decide +kernel
theorem dX12_riddle_95 : decode cX12_riddle 95 = .ok (.ifCond .lt 190, 3) := by decide +kernel
theorem dX12_riddle_98 : decode cX12_riddle 98 = .ok (.lload 6, 2) := by decide +kernel
theorem dX12_riddle_100 : decode cX12_riddle 100 = .ok (.ldc2_w 466, 3) := by decide +kernel
theorem dX12_riddle_103 : decode cX12_riddle 103 = .ok (.ladd, 1) := by decide +kernel
theorem dX12_riddle_104 : decode cX12_riddle 104 = .ok (.aload_n 0, 1) := by decide +kernel
theorem dX12_riddle_105 : decode cX12_riddle 105 = .ok (.getfield 183, 3) := by decide +kernel
theorem dX12_riddle_108 : decode cX12_riddle 108 = .ok (.iload_n 2, 1) := by decide +kernel
theorem dX12_riddle_109 : decode cX12_riddle 109 = .ok (.iaload, 1) := by decide +kernel
theorem dX12_riddle_110 : decode cX12_riddle 110 = .ok (.i2l, 1) := by decide +kernel
theorem dX12_riddle_111 : decode cX12_riddle 111 = .ok (.lcmp, 1) := by decide +kernel
theorem dX12_riddle_112 : decode cX12_riddle 112 = .ok (.ifCond .lt 6, 3) := by decide +kernel
theorem dX12_riddle_115 : decode cX12_riddle 115 = .ok (.goto 170, 3) := by decide +kernel
theorem dX12_riddle_118 : decode cX12_riddle 118 = .ok (.bipush 60, 2) := by decide +kernel
theorem dX12_riddle_120 : decode cX12_riddle 120 = .ok (.iload_n 2, 1) := by decide +kernel
theorem dX12_riddle_121 : decode cX12_riddle 121 = .ok (.imul, 1) := by decide +kernel
theorem dX12_riddle_122 : decode cX12_riddle 122 = .ok (.lload 6, 2) := by decide +kernel
theorem dX12_riddle_124 : decode cX12_riddle 124 = .ok (.l2i, 1) := by decide +kernel
theorem dX12_riddle_125 : decode cX12_riddle 125 = .ok (.iadd, 1) := by decide +kernel
theorem dX12_riddle_126 : decode cX12_riddle 126 = .ok (.istore 8, 2) := by decide +kernel
theorem dX12_riddle_128 : decode cX12_riddle 128 = .ok (.aload_n 0, 1) := by decide +kernel
theorem dX12_riddle_129 : decode cX12_riddle 129 = .ok (.getfield 186, 3) := by decide +kernel
theorem dX12_riddle_132 : decode cX12_riddle 132 = .ok (.iload 8, 2) := by decide +kernel
theorem dX12_riddle_134 : decode cX12_riddle 134 = .ok (.iconst 4, 1) := by decide +kernel
theorem dX12_riddle_135 : decode cX12_riddle 135 = .ok (.iadd, 1) := by decide +kernel
theorem dX12_riddle_136 : decode cX12_riddle 136 = .ok (.laload, 1) := by decide +kernel
theorem dX12_riddle_137 : decode cX12_riddle 137 = .ok (.lconst 0, 1) := by decide +kernel
theorem dX12_riddle_138 : decode cX12_riddle 138 = .ok (.lcmp, 1) := by decide +kernel
theorem dX12_riddle_139 : decode cX12_riddle 139 = .ok (.ifCond .ne 146, 3) := by decide +kernel
theorem dX12_riddle_142 : decode cX12_riddle 142 = .ok (.aload_n 0, 1) := by decide +kernel
theorem dX12_riddle_143 : decode cX12_riddle 143 = .ok (.getfield 186, 3) := by decide +kernel
theorem dX12_riddle_146 : decode cX12_riddle 146 = .ok (.iload 8, 2) := by decide +kernel
theorem dX12_riddle_148 : decode cX12_riddle 148 = .ok (.laload, 1) := by decide +kernel
theorem dX12_riddle_149 : decode cX12_riddle 149 = .ok (.l2i, 1) := by decide +kernel
theorem dX12_riddle_150 : decode cX12_riddle 150 = .ok (.aload_n 0, 1) := by decide +kernel
theorem dX12_riddle_151 : decode cX12_riddle 151 = .ok (.getfield 186, 3) := by decide +kernel
theorem dX12_riddle_154 : decode cX12_riddle 154 = .ok (.iload 8, 2) := by decide +kernel
theorem dX12_riddle_156 : decode cX12_riddle 156 = .ok (.iconst 1, 1) := by decide +kernel
theorem dX12_riddle_157 : decode cX12_riddle 157 = .ok (.iadd, 1) := by decide +kernel
theorem dX12_riddle_158 : decode cX12_riddle 158 = .ok (.laload, 1) := by decide +kernel
theorem dX12_riddle_159 : decode cX12_riddle 159 = .ok (.l2i, 1) := by decide +kernel
theorem dX12_riddle_160 : decode cX12_riddle 160 = .ok (.aload_n 0, 1) := by decide +kernel
theorem dX12_riddle_161 : decode cX12_riddle 161 = .ok (.getfield 186, 3) := by decide +kernel
theorem dX12_riddle_164 : decode cX12_riddle 164 = .ok (.iload 8, 2) := by decide +kernel
theorem dX12_riddle_166 : decode cX12_riddle 166 = .ok (.iconst 2, 1) := by decide +kernel
theorem dX12_riddle_167 : decode cX12_riddle 167 = .ok (.iadd, 1) := by decide +kernel
theorem dX12_riddle_168 : decode cX12_riddle 168 = .ok (.laload, 1) := by decide +kernel
theorem dX12_riddle_169 : decode cX12_riddle 169 = .ok (.l2i, 1) := by decide +kernel
theorem dX12_riddle_170 : decode cX12_riddle 170 = .ok (.aload_n 0, 1) := by decide +kernel
theorem dX12_riddle_171 : decode cX12_riddle 171 = .ok (.getfield 186, 3) := by decide +kernel
theorem dX12_riddle_174 : decode cX12_riddle 174 = .ok (.iload 8, 2) := by decide +kernel
theorem dX12_riddle_176 : decode cX12_riddle 176 = .ok (.iconst 3, 1) := by decide +kernel
theorem dX12_riddle_177 : decode cX12_riddle 177 = .ok (.iadd, 1) := by decide +kernel
theorem dX12_riddle_178 : decode cX12_riddle 178 = .ok (.laload, 1) := by decide +kernel
theorem dX12_riddle_179 : decode cX12_riddle 179 = .ok (.l2i, 1) := by decide +kernel
theorem dX12_riddle_180 : decode cX12_riddle 180 = .ok (.invokestatic 468, 3) := by decide +kernel
theorem dX12_riddle_183 : decode cX12_riddle 183 = .ok (.ifCond .ne 6, 3) := by decide +kernel
theorem dX12_riddle_186 : decode cX12_riddle 186 = .ok (.goto 99, 3) := by decide +kernel
theorem dX12_riddle_189 : decode cX12_riddle 189 = .ok (.bipush 8, 2) := by decide +kernel
theorem dX12_riddle_191 : decode cX12_riddle 191 = .ok (.iload_n 1, 1) := by decide +kernel
theorem dX12_riddle_192 : decode cX12_riddle 192 = .ok (.imul, 1) := by decide +kernel
theorem dX12_riddle_193 : decode cX12_riddle 193 = .ok (.iload 5, 2) := by decide +kernel
theorem dX12_riddle_195 : decode cX12_riddle 195 = .ok (.iadd, 1) := by decide +kernel
theorem dX12_riddle_196 : decode cX12_riddle 196 = .ok (.istore 9, 2) := by decide +kernel
theorem dX12_riddle_198 : decode cX12_riddle 198 = .ok (.aload_n 0, 1) := by decide +kernel
theorem dX12_riddle_199 : decode cX12_riddle 199 = .ok (.getfield 106, 3) := by decide +kernel
theorem dX12_riddle_202 : decode cX12_riddle 202 = .ok (.iload 9, 2) := by decide +kernel
theorem dX12_riddle_204 : decode cX12_riddle 204 = .ok (.aload_n 0, 1) := by decide +kernel
theorem dX12_riddle_205 : decode cX12_riddle 205 = .ok (.getfield 186, 3) := by decide +kernel
theorem dX12_riddle_208 : decode cX12_riddle 208 = .ok (.iload 8, 2) := by decide +kernel
theorem dX12_riddle_210 : decode cX12_riddle 210 = .ok (.laload, 1) := by decide +kernel
theorem dX12_riddle_211 : decode cX12_riddle 211 = .ok (.l2i, 1) := by decide +kernel
theorem dX12_riddle_212 : decode cX12_riddle 212 = .ok (.i2b, 1) := by decide +kernel
theorem dX12_riddle_213 : decode cX12_riddle 213 = .ok (.bastore, 1) := by decide +kernel
theorem dX12_riddle_214 : decode cX12_riddle 214 = .ok (.aload_n 0, 1) := by decide +kernel
theorem dX12_riddle_215 : decode cX12_riddle 215 = .ok (.getfield 109, 3) := by decide +kernel
theorem dX12_riddle_218 : decode cX12_riddle 218 = .ok (.iload 9, 2) := by decide +kernel
theorem dX12_riddle_220 : decode cX12_riddle 220 = .ok (.aload_n 0, 1) := by decide +kernel
theorem dX12_riddle_221 : decode cX12_riddle 221 = .ok (.getfield 186, 3) := by decide +kernel
theorem dX12_riddle_224 : decode cX12_riddle 224 = .ok (.iload 8, 2) := by decide +kernel
theorem dX12_riddle_226 : decode cX12_riddle 226 = .ok (.iconst 1, 1) := by decide +kernel
theorem dX12_riddle_227 : decode cX12_riddle 227 = .ok (.iadd, 1) := by decide +kernel
theorem dX12_riddle_228 : decode cX12_riddle 228 = .ok (.laload, 1) := by decide +kernel
theorem dX12_riddle_229 : decode cX12_riddle 229 = .ok (.l2i, 1) := by decide +kernel
theorem dX12_riddle_230 : decode cX12_riddle 230 = .ok (.i2b, 1) := by decide +kernel
theorem dX12_riddle_231 : decode cX12_riddle 231 = .ok (.bastore, 1) := by decide +kernel
theorem dX12_riddle_232 : decode cX12_riddle 232 = .ok (.aload_n 0, 1) := by decide +kernel
theorem dX12_riddle_233 : decode cX12_riddle 233 = .ok (.getfield 112, 3) := by decide +kernel
theorem dX12_riddle_236 : decode cX12_riddle 236 = .ok (.iload 9, 2) := by decide +kernel
theorem dX12_riddle_238 : decode cX12_riddle 238 = .ok (.aload_n 0, 1) := by decide +kernel
theorem dX12_riddle_239 : decode cX12_riddle 239 = .ok (.getfield 186, 3) := by decide +kernel
theorem dX12_riddle_242 : decode cX12_riddle 242 = .ok (.iload 8, 2) := by decide +kernel
theorem dX12_riddle_244 : decode cX12_riddle 244 = .ok (.iconst 2, 1) := by decide +kernel
theorem dX12_riddle_245 : decode cX12_riddle 245 = .ok (.iadd, 1) := by decide +kernel
theorem dX12_riddle_246 : decode cX12_riddle 246 = .ok (.laload, 1) := by decide +kernel
theorem dX12_riddle_247 : decode cX12_riddle 247 = .ok (.l2i, 1) := by decide +kernel
theorem dX12_riddle_248 : decode cX12_riddle 248 = .ok (.i2b, 1) := by decide +kernel
theorem dX12_riddle_249 : decode cX12_riddle 249 = .ok (.bastore, 1) := by decide +kernel
theorem dX12_riddle_250 : decode cX12_riddle 250 = .ok (.aload_n 0, 1) := by decide +kernel
theorem dX12_riddle_251 : decode cX12_riddle 251 = .ok (.getfield 115, 3) := by decide +kernel
theorem dX12_riddle_254 : decode cX12_riddle 254 = .ok (.iload 9, 2) := by decide +kernel
theorem dX12_riddle_256 : decode cX12_riddle 256 = .ok (.aload_n 0, 1) := by decide +kernel
theorem dX12_riddle_257 : decode cX12_riddle 257 = .ok (.getfield 186, 3) := by decide +kernel
theorem dX12_riddle_260 : decode cX12_riddle 260 = .ok (.iload 8, 2) := by decide +kernel
theorem dX12_riddle_262 : decode cX12_riddle 262 = .ok (.iconst 3, 1) := by decide +kernel
theorem dX12_riddle_263 : decode cX12_riddle 263 = .ok (.iadd, 1) := by decide +kernel
theorem dX12_riddle_264 : decode cX12_riddle 264 = .ok (.laload, 1) := by decide +kernel
theorem dX12_riddle_265 : decode cX12_riddle 265 = .ok (.l2i, 1) := by decide +kernel
theorem dX12_riddle_266 : decode cX12_riddle 266 = .ok (.i2b, 1) := by decide +kernel
theorem dX12_riddle_267 : decode cX12_riddle 267 = .ok (.bastore, 1) := by decide +kernel
theorem dX12_riddle_268 : decode cX12_riddle 268 = .ok (.aload_n 0, 1) := by decide +kernel
theorem dX12_riddle_269 : decode cX12_riddle 269 = .ok (.getfield 103, 3) := by decide +kernel
theorem dX12_riddle_272 : decode cX12_riddle 272 = .ok (.iload_n 1, 1) := by decide +kernel
theorem dX12_riddle_273 : decode cX12_riddle 273 = .ok (.dup2, 1) := by decide +kernel
theorem dX12_riddle_274 : decode cX12_riddle 274 = .ok (.baload, 1) := by decide +kernel
theorem dX12_riddle_275 : decode cX12_riddle 275 = .ok (.iconst 1, 1) := by decide +kernel
theorem dX12_riddle_276 : decode cX12_riddle 276 = .ok (.iadd, 1) := by decide +kernel
theorem dX12_riddle_277 : decode cX12_riddle 277 = .ok (.i2b, 1) := by decide +kernel
theorem dX12_riddle_278 : decode cX12_riddle 278 = .ok (.bastore, 1) := by decide +kernel
theorem dX12_riddle_279 : decode cX12_riddle 279 = .ok (.iinc 5 1, 3) := by decide +kernel
theorem dX12_riddle_282 : decode cX12_riddle 282 = .ok (.goto (-208), 3) := by decide +kernel
theorem dX12_riddle_285 : decode cX12_riddle 285 = .ok (.aload_n 0, 1) := by decide +kernel
theorem dX12_riddle_286 : decode cX12_riddle 286 = .ok (.getfield 103, 3) := by decide +kernel
theorem dX12_riddle_289 : decode cX12_riddle 289 = .ok (.iload_n 1, 1) := by decide +kernel
theorem dX12_riddle_290 : decode cX12_riddle 290 = .ok (.baload, 1) := by decide +kernel
theorem dX12_riddle_291 : decode cX12_riddle 291 = .ok (.ireturn, 1) := by decide +kernel
theorem dX12_placeTold_0 : decode cX12_placeTold 0 = .ok (.aload_n 0, 1) := by decide +kernel
theorem dX12_placeTold_1 : decode cX12_placeTold 1 = .ok (.getfield 103, 3) := by decide +kernel
theorem dX12_placeTold_4 : decode cX12_placeTold 4 = .ok (.iload_n 1, 1) := by decide +kernel
theorem dX12_placeTold_5 : decode cX12_placeTold 5 = .ok (.baload, 1) := by decide +kernel
theorem dX12_placeTold_6 : decode cX12_placeTold 6 = .ok (.iconst 1, 1) := by decide +kernel
theorem dX12_placeTold_7 : decode cX12_placeTold 7 = .ok (.isub, 1) := by decide +kernel
theorem dX12_placeTold_8 : decode cX12_placeTold 8 = .ok (.istore_n 3, 1) := by decide +kernel
theorem dX12_placeTold_9 : decode cX12_placeTold 9 = .ok (.iload_n 3, 1) := by decide +kernel
theorem dX12_placeTold_10 : decode cX12_placeTold 10 = .ok (.ifCond .lt 31, 3) := by decide +kernel
theorem dX12_placeTold_13 : decode cX12_placeTold 13 = .ok (.aload_n 0, 1) := by decide +kernel
theorem dX12_placeTold_14 : decode cX12_placeTold 14 = .ok (.getfield 106, 3) := by decide +kernel
theorem dX12_placeTold_17 : decode cX12_placeTold 17 = .ok (.bipush 8, 2) := by decide +kernel
theorem dX12_placeTold_19 : decode cX12_placeTold 19 = .ok (.iload_n 1, 1) := by decide +kernel
theorem dX12_placeTold_20 : decode cX12_placeTold 20 = .ok (.imul, 1) := by decide +kernel
theorem dX12_placeTold_21 : decode cX12_placeTold 21 = .ok (.iload_n 3, 1) := by decide +kernel
theorem dX12_placeTold_22 : decode cX12_placeTold 22 = .ok (.iadd, 1) := by decide +kernel
theorem dX12_placeTold_23 : decode cX12_placeTold 23 = .ok (.baload, 1) := by decide +kernel
theorem dX12_placeTold_24 : decode cX12_placeTold 24 = .ok (.iload_n 2, 1) := by decide +kernel
theorem dX12_placeTold_25 : decode cX12_placeTold 25 = .ok (.if_icmp .ne 10, 3) := by decide +kernel
theorem dX12_placeTold_28 : decode cX12_placeTold 28 = .ok (.bipush 8, 2) := by decide +kernel
theorem dX12_placeTold_30 : decode cX12_placeTold 30 = .ok (.iload_n 1, 1) := by decide +kernel
theorem dX12_placeTold_31 : decode cX12_placeTold 31 = .ok (.imul, 1) := by decide +kernel
theorem dX12_placeTold_32 : decode cX12_placeTold 32 = .ok (.iload_n 3, 1) := by decide +kernel
theorem dX12_placeTold_33 : decode cX12_placeTold 33 = .ok (.iadd, 1) := by decide +kernel
theorem dX12_placeTold_34 : decode cX12_placeTold 34 = .ok (.ireturn, 1) := by decide +kernel
theorem dX12_placeTold_35 : decode cX12_placeTold 35 = .ok (.iinc 3 (-1), 3) := by decide +kernel
theorem dX12_placeTold_38 : decode cX12_placeTold 38 = .ok (.goto (-29), 3) := by decide +kernel
theorem dX12_placeTold_41 : decode cX12_placeTold 41 = .ok (.iconst (-1), 1) := by decide +kernel
theorem dX12_placeTold_42 : decode cX12_placeTold 42 = .ok (.ireturn, 1) := by decide +kernel
theorem dX12_placeIs_0 : decode cX12_placeIs 0 = .ok (.aload_n 0, 1) := by decide +kernel
theorem dX12_placeIs_1 : decode cX12_placeIs 1 = .ok (.getfield 109, 3) := by decide +kernel
theorem dX12_placeIs_4 : decode cX12_placeIs 4 = .ok (.iload_n 1, 1) := by decide +kernel
theorem dX12_placeIs_5 : decode cX12_placeIs 5 = .ok (.baload, 1) := by decide +kernel
theorem dX12_placeIs_6 : decode cX12_placeIs 6 = .ok (.bipush 6, 2) := by decide +kernel
theorem dX12_placeIs_8 : decode cX12_placeIs 8 = .ok (.if_icmp .ne 12, 3) := by decide +kernel
theorem dX12_placeIs_11 : decode cX12_placeIs 11 = .ok (.aload_n 0, 1) := by decide +kernel
theorem dX12_placeIs_12 : decode cX12_placeIs 12 = .ok (.getfield 115, 3) := by decide +kernel
theorem dX12_placeIs_15 : decode cX12_placeIs 15 = .ok (.iload_n 1, 1) := by decide +kernel
theorem dX12_placeIs_16 : decode cX12_placeIs 16 = .ok (.baload, 1) := by decide +kernel
theorem dX12_placeIs_17 : decode cX12_placeIs 17 = .ok (.goto 21, 3) := by decide +kernel
theorem dX12_placeIs_20 : decode cX12_placeIs 20 = .ok (.aload_n 0, 1) := by decide +kernel
theorem dX12_placeIs_21 : decode cX12_placeIs 21 = .ok (.getfield 118, 3) := by decide +kernel
theorem dX12_placeIs_24 : decode cX12_placeIs 24 = .ok (.aload_n 0, 1) := by decide +kernel
theorem dX12_placeIs_25 : decode cX12_placeIs 25 = .ok (.getfield 109, 3) := by decide +kernel
theorem dX12_placeIs_28 : decode cX12_placeIs 28 = .ok (.iload_n 1, 1) := by decide +kernel
theorem dX12_placeIs_29 : decode cX12_placeIs 29 = .ok (.baload, 1) := by decide +kernel
theorem dX12_placeIs_30 : decode cX12_placeIs 30 = .ok (.iaload, 1) := by decide +kernel
theorem dX12_placeIs_31 : decode cX12_placeIs 31 = .ok (.aload_n 0, 1) := by decide +kernel
theorem dX12_placeIs_32 : decode cX12_placeIs 32 = .ok (.getfield 115, 3) := by decide +kernel
theorem dX12_placeIs_35 : decode cX12_placeIs 35 = .ok (.iload_n 1, 1) := by decide +kernel
theorem dX12_placeIs_36 : decode cX12_placeIs 36 = .ok (.baload, 1) := by decide +kernel
theorem dX12_placeIs_37 : decode cX12_placeIs 37 = .ok (.isub, 1) := by decide +kernel
theorem dX12_placeIs_38 : decode cX12_placeIs 38 = .ok (.ireturn, 1) := by decide +kernel
theorem dX12_findLetters_0 : decode cX12_findLetters 0 = .ok (.aload_n 0, 1) := by decide +kernel
theorem dX12_findLetters_1 : decode cX12_findLetters 1 = .ok (.iconst 0, 1) := by decide +kernel
theorem dX12_findLetters_2 : decode cX12_findLetters 2 = .ok (.putfield 472, 3) := by decide +kernel
theorem dX12_findLetters_5 : decode cX12_findLetters 5 = .ok (.bipush 8, 2) := by decide +kernel
theorem dX12_findLetters_7 : decode cX12_findLetters 7 = .ok (.iload_n 1, 1) := by decide +kernel
theorem dX12_findLetters_8 : decode cX12_findLetters 8 = .ok (.imul, 1) := by decide +kernel
theorem dX12_findLetters_9 : decode cX12_findLetters 9 = .ok (.istore_n 2, 1) := by decide +kernel
theorem dX12_findLetters_10 : decode cX12_findLetters 10 = .ok (.iload_n 2, 1) := by decide +kernel
theorem dX12_findLetters_11 : decode cX12_findLetters 11 = .ok (.bipush 8, 2) := by decide +kernel
theorem dX12_findLetters_13 : decode cX12_findLetters 13 = .ok (.iload_n 1, 1) := by decide +kernel
theorem dX12_findLetters_14 : decode cX12_findLetters 14 = .ok (.imul, 1) := by decide +kernel
theorem dX12_findLetters_15 : decode cX12_findLetters 15 = .ok (.aload_n 0, 1) := by decide +kernel
theorem dX12_findLetters_16 : decode cX12_findLetters 16 = .ok (.getfield 103, 3) := by decide +kernel
theorem dX12_findLetters_19 : decode cX12_findLetters 19 = .ok (.iload_n 1, 1) := by decide +kernel
theorem dX12_findLetters_20 : decode cX12_findLetters 20 = .ok (.baload, 1) := by decide +kernel
theorem dX12_findLetters_21 : decode cX12_findLetters 21 = .ok (.iadd, 1) := by decide +kernel
theorem dX12_findLetters_22 : decode cX12_findLetters 22 = .ok (.if_icmp .ge 64, 3) := by decide +kernel
theorem dX12_findLetters_25 : decode cX12_findLetters 25 = .ok (.aload_n 0, 1) := by decide +kernel
theorem dX12_findLetters_26 : decode cX12_findLetters 26 = .ok (.getfield 109, 3) := by decide +kernel
theorem dX12_findLetters_29 : decode cX12_findLetters 29 = .ok (.iload_n 2, 1) := by decide +kernel
theorem dX12_findLetters_30 : decode cX12_findLetters 30 = .ok (.baload, 1) := by decide +kernel
theorem dX12_findLetters_31 : decode cX12_findLetters 31 = .ok (.bipush 6, 2) := by decide +kernel
theorem dX12_findLetters_33 : decode cX12_findLetters 33 = .ok (.if_icmp .ge 20, 3) := by decide +kernel
theorem dX12_findLetters_36 : decode cX12_findLetters 36 = .ok (.aload_n 0, 1) := by decide +kernel
theorem dX12_findLetters_37 : decode cX12_findLetters 37 = .ok (.dup, 1) := by decide +kernel
theorem dX12_findLetters_38 : decode cX12_findLetters 38 = .ok (.getfield 472, 3) := by decide +kernel
theorem dX12_findLetters_41 : decode cX12_findLetters 41 = .ok (.iconst 1, 1) := by decide +kernel
theorem dX12_findLetters_42 : decode cX12_findLetters 42 = .ok (.aload_n 0, 1) := by decide +kernel
theorem dX12_findLetters_43 : decode cX12_findLetters 43 = .ok (.getfield 109, 3) := by decide +kernel
theorem dX12_findLetters_46 : decode cX12_findLetters 46 = .ok (.iload_n 2, 1) := by decide +kernel
theorem dX12_findLetters_47 : decode cX12_findLetters 47 = .ok (.baload, 1) := by decide +kernel
theorem dX12_findLetters_48 : decode cX12_findLetters 48 = .ok (.ishl, 1) := by decide +kernel
theorem dX12_findLetters_49 : decode cX12_findLetters 49 = .ok (.ior, 1) := by decide +kernel
theorem dX12_findLetters_50 : decode cX12_findLetters 50 = .ok (.putfield 472, 3) := by decide +kernel
theorem dX12_findLetters_53 : decode cX12_findLetters 53 = .ok (.aload_n 0, 1) := by decide +kernel
theorem dX12_findLetters_54 : decode cX12_findLetters 54 = .ok (.getfield 106, 3) := by decide +kernel
theorem dX12_findLetters_57 : decode cX12_findLetters 57 = .ok (.iload_n 2, 1) := by decide +kernel
theorem dX12_findLetters_58 : decode cX12_findLetters 58 = .ok (.baload, 1) := by decide +kernel
theorem dX12_findLetters_59 : decode cX12_findLetters 59 = .ok (.iconst 3, 1) := by decide +kernel
theorem dX12_findLetters_60 : decode cX12_findLetters 60 = .ok (.if_icmp .ge 20, 3) := by decide +kernel
theorem dX12_findLetters_63 : decode cX12_findLetters 63 = .ok (.aload_n 0, 1) := by decide +kernel
theorem dX12_findLetters_64 : decode cX12_findLetters 64 = .ok (.dup, 1) := by decide +kernel
theorem dX12_findLetters_65 : decode cX12_findLetters 65 = .ok (.getfield 472, 3) := by decide +kernel
theorem dX12_findLetters_68 : decode cX12_findLetters 68 = .ok (.iconst 1, 1) := by decide +kernel
theorem dX12_findLetters_69 : decode cX12_findLetters 69 = .ok (.aload_n 0, 1) := by decide +kernel
theorem dX12_findLetters_70 : decode cX12_findLetters 70 = .ok (.getfield 112, 3) := by decide +kernel
theorem dX12_findLetters_73 : decode cX12_findLetters 73 = .ok (.iload_n 2, 1) := by decide +kernel
theorem dX12_findLetters_74 : decode cX12_findLetters 74 = .ok (.baload, 1) := by decide +kernel
theorem dX12_findLetters_75 : decode cX12_findLetters 75 = .ok (.ishl, 1) := by decide +kernel
theorem dX12_findLetters_76 : decode cX12_findLetters 76 = .ok (.ior, 1) := by decide +kernel
theorem dX12_findLetters_77 : decode cX12_findLetters 77 = .ok (.putfield 472, 3) := by decide +kernel
theorem dX12_findLetters_80 : decode cX12_findLetters 80 = .ok (.iinc 2 1, 3) := by decide +kernel
theorem dX12_findLetters_83 : decode cX12_findLetters 83 = .ok (.goto (-73), 3) := by decide +kernel
theorem dX12_findLetters_86 : decode cX12_findLetters 86 = .ok (.return_, 1) := by decide +kernel
theorem dX12_holdsNow_0 : decode cX12_holdsNow 0 = .ok (.aload_n 0, 1) := by decide +kernel
theorem dX12_holdsNow_1 : decode cX12_holdsNow 1 = .ok (.getfield 118, 3) := by decide +kernel
theorem dX12_holdsNow_4 : decode cX12_holdsNow 4 = .ok (.aload_n 0, 1) := by decide +kernel
theorem dX12_holdsNow_5 : decode cX12_holdsNow 5 = .ok (.getfield 109, 3) := by decide +kernel
theorem dX12_holdsNow_8 : decode cX12_holdsNow 8 = .ok (.iload_n 1, 1) := by decide +kernel
theorem dX12_holdsNow_9 : decode cX12_holdsNow 9 = .ok (.baload, 1) := by decide +kernel
theorem dX12_holdsNow_10 : decode cX12_holdsNow 10 = .ok (.iaload, 1) := by decide +kernel
theorem dX12_holdsNow_11 : decode cX12_holdsNow 11 = .ok (.istore_n 2, 1) := by decide +kernel
theorem dX12_holdsNow_12 : decode cX12_holdsNow 12 = .ok (.aload_n 0, 1) := by decide +kernel
theorem dX12_holdsNow_13 : decode cX12_holdsNow 13 = .ok (.getfield 106, 3) := by decide +kernel
theorem dX12_holdsNow_16 : decode cX12_holdsNow 16 = .ok (.iload_n 1, 1) := by decide +kernel
theorem dX12_holdsNow_17 : decode cX12_holdsNow 17 = .ok (.baload, 1) := by decide +kernel
theorem dX12_holdsNow_18 : decode cX12_holdsNow 18 = .ok (.tableswitch 110 0 2 #[26, 54, 82], 26) := by decide +kernel
theorem dX12_holdsNow_44 : decode cX12_holdsNow 44 = .ok (.iload_n 2, 1) := by decide +kernel
theorem dX12_holdsNow_45 : decode cX12_holdsNow 45 = .ok (.aload_n 0, 1) := by decide +kernel
theorem dX12_holdsNow_46 : decode cX12_holdsNow 46 = .ok (.getfield 118, 3) := by decide +kernel
theorem dX12_holdsNow_49 : decode cX12_holdsNow 49 = .ok (.aload_n 0, 1) := by decide +kernel
theorem dX12_holdsNow_50 : decode cX12_holdsNow 50 = .ok (.getfield 112, 3) := by decide +kernel
theorem dX12_holdsNow_53 : decode cX12_holdsNow 53 = .ok (.iload_n 1, 1) := by decide +kernel
theorem dX12_holdsNow_54 : decode cX12_holdsNow 54 = .ok (.baload, 1) := by decide +kernel
theorem dX12_holdsNow_55 : decode cX12_holdsNow 55 = .ok (.iaload, 1) := by decide +kernel
theorem dX12_holdsNow_56 : decode cX12_holdsNow 56 = .ok (.iadd, 1) := by decide +kernel
theorem dX12_holdsNow_57 : decode cX12_holdsNow 57 = .ok (.aload_n 0, 1) := by decide +kernel
theorem dX12_holdsNow_58 : decode cX12_holdsNow 58 = .ok (.getfield 115, 3) := by decide +kernel
theorem dX12_holdsNow_61 : decode cX12_holdsNow 61 = .ok (.iload_n 1, 1) := by decide +kernel
theorem dX12_holdsNow_62 : decode cX12_holdsNow 62 = .ok (.baload, 1) := by decide +kernel
theorem dX12_holdsNow_63 : decode cX12_holdsNow 63 = .ok (.if_icmp .ne 7, 3) := by decide +kernel
theorem dX12_holdsNow_66 : decode cX12_holdsNow 66 = .ok (.iconst 1, 1) := by decide +kernel
theorem dX12_holdsNow_67 : decode cX12_holdsNow 67 = .ok (.goto 4, 3) := by decide +kernel
theorem dX12_holdsNow_70 : decode cX12_holdsNow 70 = .ok (.iconst 0, 1) := by decide +kernel
theorem dX12_holdsNow_71 : decode cX12_holdsNow 71 = .ok (.ireturn, 1) := by decide +kernel
theorem dX12_holdsNow_72 : decode cX12_holdsNow 72 = .ok (.iload_n 2, 1) := by decide +kernel
theorem dX12_holdsNow_73 : decode cX12_holdsNow 73 = .ok (.aload_n 0, 1) := by decide +kernel
theorem dX12_holdsNow_74 : decode cX12_holdsNow 74 = .ok (.getfield 118, 3) := by decide +kernel
theorem dX12_holdsNow_77 : decode cX12_holdsNow 77 = .ok (.aload_n 0, 1) := by decide +kernel
theorem dX12_holdsNow_78 : decode cX12_holdsNow 78 = .ok (.getfield 112, 3) := by decide +kernel
theorem dX12_holdsNow_81 : decode cX12_holdsNow 81 = .ok (.iload_n 1, 1) := by decide +kernel
theorem dX12_holdsNow_82 : decode cX12_holdsNow 82 = .ok (.baload, 1) := by decide +kernel
theorem dX12_holdsNow_83 : decode cX12_holdsNow 83 = .ok (.iaload, 1) := by decide +kernel
theorem dX12_holdsNow_84 : decode cX12_holdsNow 84 = .ok (.imul, 1) := by decide +kernel
theorem dX12_holdsNow_85 : decode cX12_holdsNow 85 = .ok (.aload_n 0, 1) := by decide +kernel
theorem dX12_holdsNow_86 : decode cX12_holdsNow 86 = .ok (.getfield 115, 3) := by decide +kernel
theorem dX12_holdsNow_89 : decode cX12_holdsNow 89 = .ok (.iload_n 1, 1) := by decide +kernel
theorem dX12_holdsNow_90 : decode cX12_holdsNow 90 = .ok (.baload, 1) := by decide +kernel
theorem dX12_holdsNow_91 : decode cX12_holdsNow 91 = .ok (.if_icmp .ne 7, 3) := by decide +kernel
theorem dX12_holdsNow_94 : decode cX12_holdsNow 94 = .ok (.iconst 1, 1) := by decide +kernel
theorem dX12_holdsNow_95 : decode cX12_holdsNow 95 = .ok (.goto 4, 3) := by decide +kernel
theorem dX12_holdsNow_98 : decode cX12_holdsNow 98 = .ok (.iconst 0, 1) := by decide +kernel
theorem dX12_holdsNow_99 : decode cX12_holdsNow 99 = .ok (.ireturn, 1) := by decide +kernel
theorem dX12_holdsNow_100 : decode cX12_holdsNow 100 = .ok (.iload_n 2, 1) := by decide +kernel
theorem dX12_holdsNow_101 : decode cX12_holdsNow 101 = .ok (.aload_n 0, 1) := by decide +kernel
theorem dX12_holdsNow_102 : decode cX12_holdsNow 102 = .ok (.getfield 118, 3) := by decide +kernel
theorem dX12_holdsNow_105 : decode cX12_holdsNow 105 = .ok (.aload_n 0, 1) := by decide +kernel
theorem dX12_holdsNow_106 : decode cX12_holdsNow 106 = .ok (.getfield 112, 3) := by decide +kernel
theorem dX12_holdsNow_109 : decode cX12_holdsNow 109 = .ok (.iload_n 1, 1) := by decide +kernel
theorem dX12_holdsNow_110 : decode cX12_holdsNow 110 = .ok (.baload, 1) := by decide +kernel
theorem dX12_holdsNow_111 : decode cX12_holdsNow 111 = .ok (.iaload, 1) := by decide +kernel
theorem dX12_holdsNow_112 : decode cX12_holdsNow 112 = .ok (.isub, 1) := by decide +kernel
theorem dX12_holdsNow_113 : decode cX12_holdsNow 113 = .ok (.aload_n 0, 1) := by decide +kernel
theorem dX12_holdsNow_114 : decode cX12_holdsNow 114 = .ok (.getfield 115, 3) := by decide +kernel
theorem dX12_holdsNow_117 : decode cX12_holdsNow 117 = .ok (.iload_n 1, 1) := by decide +kernel
theorem dX12_holdsNow_118 : decode cX12_holdsNow 118 = .ok (.baload, 1) := by decide +kernel
theorem dX12_holdsNow_119 : decode cX12_holdsNow 119 = .ok (.if_icmp .ne 7, 3) := by decide +kernel
theorem dX12_holdsNow_122 : decode cX12_holdsNow 122 = .ok (.iconst 1, 1) := by decide +kernel
theorem dX12_holdsNow_123 : decode cX12_holdsNow 123 = .ok (.goto 4, 3) := by decide +kernel
theorem dX12_holdsNow_126 : decode cX12_holdsNow 126 = .ok (.iconst 0, 1) := by decide +kernel
theorem dX12_holdsNow_127 : decode cX12_holdsNow 127 = .ok (.ireturn, 1) := by decide +kernel
theorem dX12_holdsNow_128 : decode cX12_holdsNow 128 = .ok (.iload_n 2, 1) := by decide +kernel
theorem dX12_holdsNow_129 : decode cX12_holdsNow 129 = .ok (.aload_n 0, 1) := by decide +kernel
theorem dX12_holdsNow_130 : decode cX12_holdsNow 130 = .ok (.getfield 115, 3) := by decide +kernel
theorem dX12_holdsNow_133 : decode cX12_holdsNow 133 = .ok (.iload_n 1, 1) := by decide +kernel
theorem dX12_holdsNow_134 : decode cX12_holdsNow 134 = .ok (.baload, 1) := by decide +kernel
theorem dX12_holdsNow_135 : decode cX12_holdsNow 135 = .ok (.if_icmp .ne 7, 3) := by decide +kernel
theorem dX12_holdsNow_138 : decode cX12_holdsNow 138 = .ok (.iconst 1, 1) := by decide +kernel
theorem dX12_holdsNow_139 : decode cX12_holdsNow 139 = .ok (.goto 4, 3) := by decide +kernel
theorem dX12_holdsNow_142 : decode cX12_holdsNow 142 = .ok (.iconst 0, 1) := by decide +kernel
theorem dX12_holdsNow_143 : decode cX12_holdsNow 143 = .ok (.ireturn, 1) := by decide +kernel
theorem dX12_isSolved_0 : decode cX12_isSolved 0 = .ok (.aload_n 0, 1) := by decide +kernel
theorem dX12_isSolved_1 : decode cX12_isSolved 1 = .ok (.getfield 475, 3) := by decide +kernel
theorem dX12_isSolved_4 : decode cX12_isSolved 4 = .ok (.istore_n 1, 1) := by decide +kernel
theorem dX12_isSolved_5 : decode cX12_isSolved 5 = .ok (.bipush 8, 2) := by decide +kernel
theorem dX12_isSolved_7 : decode cX12_isSolved 7 = .ok (.iload_n 1, 1) := by decide +kernel
theorem dX12_isSolved_8 : decode cX12_isSolved 8 = .ok (.imul, 1) := by decide +kernel
theorem dX12_isSolved_9 : decode cX12_isSolved 9 = .ok (.istore_n 2, 1) := by decide +kernel
theorem dX12_isSolved_10 : decode cX12_isSolved 10 = .ok (.iload_n 2, 1) := by decide +kernel
theorem dX12_isSolved_11 : decode cX12_isSolved 11 = .ok (.bipush 8, 2) := by decide +kernel
theorem dX12_isSolved_13 : decode cX12_isSolved 13 = .ok (.iload_n 1, 1) := by decide +kernel
theorem dX12_isSolved_14 : decode cX12_isSolved 14 = .ok (.imul, 1) := by decide +kernel
theorem dX12_isSolved_15 : decode cX12_isSolved 15 = .ok (.aload_n 0, 1) := by decide +kernel
theorem dX12_isSolved_16 : decode cX12_isSolved 16 = .ok (.getfield 103, 3) := by decide +kernel
theorem dX12_isSolved_19 : decode cX12_isSolved 19 = .ok (.iload_n 1, 1) := by decide +kernel
theorem dX12_isSolved_20 : decode cX12_isSolved 20 = .ok (.baload, 1) := by decide +kernel
theorem dX12_isSolved_21 : decode cX12_isSolved 21 = .ok (.iadd, 1) := by decide +kernel
theorem dX12_isSolved_22 : decode cX12_isSolved 22 = .ok (.if_icmp .ge 29, 3) := by decide +kernel
theorem dX12_isSolved_25 : decode cX12_isSolved 25 = .ok (.aload_n 0, 1) := by decide +kernel
theorem dX12_isSolved_26 : decode cX12_isSolved 26 = .ok (.getfield 106, 3) := by decide +kernel
theorem dX12_isSolved_29 : decode cX12_isSolved 29 = .ok (.iload_n 2, 1) := by decide +kernel
theorem dX12_isSolved_30 : decode cX12_isSolved 30 = .ok (.baload, 1) := by decide +kernel
theorem dX12_isSolved_31 : decode cX12_isSolved 31 = .ok (.iconst 4, 1) := by decide +kernel
theorem dX12_isSolved_32 : decode cX12_isSolved 32 = .ok (.if_icmp .ge 13, 3) := by decide +kernel
theorem dX12_isSolved_35 : decode cX12_isSolved 35 = .ok (.aload_n 0, 1) := by decide +kernel
theorem dX12_isSolved_36 : decode cX12_isSolved 36 = .ok (.iload_n 2, 1) := by decide +kernel
theorem dX12_isSolved_37 : decode cX12_isSolved 37 = .ok (.invokevirtual 478, 3) := by decide +kernel
theorem dX12_isSolved_40 : decode cX12_isSolved 40 = .ok (.ifCond .ne 5, 3) := by decide +kernel
theorem dX12_isSolved_43 : decode cX12_isSolved 43 = .ok (.iconst 0, 1) := by decide +kernel
theorem dX12_isSolved_44 : decode cX12_isSolved 44 = .ok (.ireturn, 1) := by decide +kernel
theorem dX12_isSolved_45 : decode cX12_isSolved 45 = .ok (.iinc 2 1, 3) := by decide +kernel
theorem dX12_isSolved_48 : decode cX12_isSolved 48 = .ok (.goto (-38), 3) := by decide +kernel
theorem dX12_isSolved_51 : decode cX12_isSolved 51 = .ok (.aload_n 0, 1) := by decide +kernel
theorem dX12_isSolved_52 : decode cX12_isSolved 52 = .ok (.aload_n 0, 1) := by decide +kernel
theorem dX12_isSolved_53 : decode cX12_isSolved 53 = .ok (.iload_n 1, 1) := by decide +kernel
theorem dX12_isSolved_54 : decode cX12_isSolved 54 = .ok (.iconst 4, 1) := by decide +kernel
theorem dX12_isSolved_55 : decode cX12_isSolved 55 = .ok (.invokevirtual 481, 3) := by decide +kernel
theorem dX12_isSolved_58 : decode cX12_isSolved 58 = .ok (.invokevirtual 484, 3) := by decide +kernel
theorem dX12_isSolved_61 : decode cX12_isSolved 61 = .ok (.iconst 0, 1) := by decide +kernel
theorem dX12_isSolved_62 : decode cX12_isSolved 62 = .ok (.bipush 9, 2) := by decide +kernel
theorem dX12_isSolved_64 : decode cX12_isSolved 64 = .ok (.invokestatic 195, 3) := by decide +kernel
theorem dX12_isSolved_67 : decode cX12_isSolved 67 = .ok (.ifCond .eq 25, 3) := by decide +kernel
theorem dX12_isSolved_70 : decode cX12_isSolved 70 = .ok (.aload_n 0, 1) := by decide +kernel
theorem dX12_isSolved_71 : decode cX12_isSolved 71 = .ok (.aload_n 0, 1) := by decide +kernel
theorem dX12_isSolved_72 : decode cX12_isSolved 72 = .ok (.iload_n 1, 1) := by decide +kernel
theorem dX12_isSolved_73 : decode cX12_isSolved 73 = .ok (.iconst 5, 1) := by decide +kernel
theorem dX12_isSolved_74 : decode cX12_isSolved 74 = .ok (.invokevirtual 481, 3) := by decide +kernel
theorem dX12_isSolved_77 : decode cX12_isSolved 77 = .ok (.invokevirtual 484, 3) := by decide +kernel
theorem dX12_isSolved_80 : decode cX12_isSolved 80 = .ok (.iconst 0, 1) := by decide +kernel
theorem dX12_isSolved_81 : decode cX12_isSolved 81 = .ok (.iconst 5, 1) := by decide +kernel
theorem dX12_isSolved_82 : decode cX12_isSolved 82 = .ok (.invokestatic 195, 3) := by decide +kernel
theorem dX12_isSolved_85 : decode cX12_isSolved 85 = .ok (.ifCond .eq 7, 3) := by decide +kernel
theorem dX12_isSolved_88 : decode cX12_isSolved 88 = .ok (.iconst 1, 1) := by decide +kernel
theorem dX12_isSolved_89 : decode cX12_isSolved 89 = .ok (.goto 4, 3) := by decide +kernel
theorem dX12_isSolved_92 : decode cX12_isSolved 92 = .ok (.iconst 0, 1) := by decide +kernel
theorem dX12_isSolved_93 : decode cX12_isSolved 93 = .ok (.ireturn, 1) := by decide +kernel
theorem dX12_solveOn_0 : decode cX12_solveOn 0 = .ok (.iload_n 1, 1) := by decide +kernel
theorem dX12_solveOn_1 : decode cX12_solveOn 1 = .ok (.bipush 6, 2) := by decide +kernel
theorem dX12_solveOn_3 : decode cX12_solveOn 3 = .ok (.if_icmp .ne 147, 3) := by decide +kernel
theorem dX12_solveOn_6 : decode cX12_solveOn 6 = .ok (.aload_n 0, 1) := by decide +kernel
theorem dX12_solveOn_7 : decode cX12_solveOn 7 = .ok (.invokevirtual 487, 3) := by decide +kernel
theorem dX12_solveOn_10 : decode cX12_solveOn 10 = .ok (.ifCond .ne 4, 3) := by decide +kernel
theorem dX12_solveOn_13 : decode cX12_solveOn 13 = .ok (.return_, 1) := by decide +kernel
theorem dX12_solveOn_14 : decode cX12_solveOn 14 = .ok (.bipush 10, 2) := by decide +kernel
theorem dX12_solveOn_16 : decode cX12_solveOn 16 = .ok (.aload_n 0, 1) := by decide +kernel
theorem dX12_solveOn_17 : decode cX12_solveOn 17 = .ok (.aload_n 0, 1) := by decide +kernel
theorem dX12_solveOn_18 : decode cX12_solveOn 18 = .ok (.aload_n 0, 1) := by decide +kernel
theorem dX12_solveOn_19 : decode cX12_solveOn 19 = .ok (.getfield 475, 3) := by decide +kernel
theorem dX12_solveOn_22 : decode cX12_solveOn 22 = .ok (.iconst 5, 1) := by decide +kernel
theorem dX12_solveOn_23 : decode cX12_solveOn 23 = .ok (.invokevirtual 481, 3) := by decide +kernel
theorem dX12_solveOn_26 : decode cX12_solveOn 26 = .ok (.invokevirtual 484, 3) := by decide +kernel
theorem dX12_solveOn_29 : decode cX12_solveOn 29 = .ok (.imul, 1) := by decide +kernel
theorem dX12_solveOn_30 : decode cX12_solveOn 30 = .ok (.aload_n 0, 1) := by decide +kernel
theorem dX12_solveOn_31 : decode cX12_solveOn 31 = .ok (.aload_n 0, 1) := by decide +kernel
theorem dX12_solveOn_32 : decode cX12_solveOn 32 = .ok (.aload_n 0, 1) := by decide +kernel
theorem dX12_solveOn_33 : decode cX12_solveOn 33 = .ok (.getfield 475, 3) := by decide +kernel
theorem dX12_solveOn_36 : decode cX12_solveOn 36 = .ok (.iconst 4, 1) := by decide +kernel
theorem dX12_solveOn_37 : decode cX12_solveOn 37 = .ok (.invokevirtual 481, 3) := by decide +kernel
theorem dX12_solveOn_40 : decode cX12_solveOn 40 = .ok (.invokevirtual 484, 3) := by decide +kernel
theorem dX12_solveOn_43 : decode cX12_solveOn 43 = .ok (.iadd, 1) := by decide +kernel
theorem dX12_solveOn_44 : decode cX12_solveOn 44 = .ok (.istore_n 3, 1) := by decide +kernel
theorem dX12_solveOn_45 : decode cX12_solveOn 45 = .ok (.aload_n 0, 1) := by decide +kernel
theorem dX12_solveOn_46 : decode cX12_solveOn 46 = .ok (.getfield 490, 3) := by decide +kernel
theorem dX12_solveOn_49 : decode cX12_solveOn 49 = .ok (.aload_n 0, 1) := by decide +kernel
theorem dX12_solveOn_50 : decode cX12_solveOn 50 = .ok (.getfield 493, 3) := by decide +kernel
theorem dX12_solveOn_53 : decode cX12_solveOn 53 = .ok (.if_icmp .ne 61, 3) := by decide +kernel
theorem dX12_solveOn_56 : decode cX12_solveOn 56 = .ok (.aload_n 0, 1) := by decide +kernel
theorem dX12_solveOn_57 : decode cX12_solveOn 57 = .ok (.iconst 0, 1) := by decide +kernel
theorem dX12_solveOn_58 : decode cX12_solveOn 58 = .ok (.putfield 496, 3) := by decide +kernel
theorem dX12_solveOn_61 : decode cX12_solveOn 61 = .ok (.iconst 0, 1) := by decide +kernel
theorem dX12_solveOn_62 : decode cX12_solveOn 62 = .ok (.istore 4, 2) := by decide +kernel
theorem dX12_solveOn_64 : decode cX12_solveOn 64 = .ok (.iload 4, 2) := by decide +kernel
theorem dX12_solveOn_66 : decode cX12_solveOn 66 = .ok (.bipush 6, 2) := by decide +kernel
theorem dX12_solveOn_68 : decode cX12_solveOn 68 = .ok (.if_icmp .ge 41, 3) := by decide +kernel
theorem dX12_solveOn_71 : decode cX12_solveOn 71 = .ok (.aload_n 0, 1) := by decide +kernel
theorem dX12_solveOn_72 : decode cX12_solveOn 72 = .ok (.getfield 472, 3) := by decide +kernel
theorem dX12_solveOn_75 : decode cX12_solveOn 75 = .ok (.iload 4, 2) := by decide +kernel
theorem dX12_solveOn_77 : decode cX12_solveOn 77 = .ok (.ishr, 1) := by decide +kernel
theorem dX12_solveOn_78 : decode cX12_solveOn 78 = .ok (.iconst 1, 1) := by decide +kernel
theorem dX12_solveOn_79 : decode cX12_solveOn 79 = .ok (.iand, 1) := by decide +kernel
theorem dX12_solveOn_80 : decode cX12_solveOn 80 = .ok (.iconst 1, 1) := by decide +kernel
theorem dX12_solveOn_81 : decode cX12_solveOn 81 = .ok (.if_icmp .ne 22, 3) := by decide +kernel
theorem dX12_solveOn_84 : decode cX12_solveOn 84 = .ok (.aload_n 0, 1) := by decide +kernel
theorem dX12_solveOn_85 : decode cX12_solveOn 85 = .ok (.bipush 10, 2) := by decide +kernel
theorem dX12_solveOn_87 : decode cX12_solveOn 87 = .ok (.aload_n 0, 1) := by decide +kernel
theorem dX12_solveOn_88 : decode cX12_solveOn 88 = .ok (.getfield 496, 3) := by decide +kernel
theorem dX12_solveOn_91 : decode cX12_solveOn 91 = .ok (.imul, 1) := by decide +kernel
theorem dX12_solveOn_92 : decode cX12_solveOn 92 = .ok (.aload_n 0, 1) := by decide +kernel
theorem dX12_solveOn_93 : decode cX12_solveOn 93 = .ok (.getfield 118, 3) := by decide +kernel
theorem dX12_solveOn_96 : decode cX12_solveOn 96 = .ok (.iload 4, 2) := by decide +kernel
theorem dX12_solveOn_98 : decode cX12_solveOn 98 = .ok (.iaload, 1) := by decide +kernel
theorem dX12_solveOn_99 : decode cX12_solveOn 99 = .ok (.iadd, 1) := by decide +kernel
theorem dX12_solveOn_100 : decode cX12_solveOn 100 = .ok (.putfield 496, 3) := by decide +kernel
theorem dX12_solveOn_103 : decode cX12_solveOn 103 = .ok (.iinc 4 1, 3) := by decide +kernel
theorem dX12_solveOn_106 : decode cX12_solveOn 106 = .ok (.goto (-42), 3) := by decide +kernel
theorem dX12_solveOn_109 : decode cX12_solveOn 109 = .ok (.aload_n 0, 1) := by decide +kernel
theorem dX12_solveOn_110 : decode cX12_solveOn 110 = .ok (.iload_n 3, 1) := by decide +kernel
theorem dX12_solveOn_111 : decode cX12_solveOn 111 = .ok (.putfield 499, 3) := by decide +kernel
theorem dX12_solveOn_114 : decode cX12_solveOn 114 = .ok (.iload_n 3, 1) := by decide +kernel
theorem dX12_solveOn_115 : decode cX12_solveOn 115 = .ok (.aload_n 0, 1) := by decide +kernel
theorem dX12_solveOn_116 : decode cX12_solveOn 116 = .ok (.getfield 16, 3) := by decide +kernel
theorem dX12_solveOn_119 : decode cX12_solveOn 119 = .ok (.aload_n 0, 1) := by decide +kernel
theorem dX12_solveOn_120 : decode cX12_solveOn 120 = .ok (.getfield 475, 3) := by decide +kernel
theorem dX12_solveOn_123 : decode cX12_solveOn 123 = .ok (.iaload, 1) := by decide +kernel
theorem dX12_solveOn_124 : decode cX12_solveOn 124 = .ok (.if_icmp .eq 15, 3) := by decide +kernel
theorem dX12_solveOn_127 : decode cX12_solveOn 127 = .ok (.aload_n 0, 1) := by decide +kernel
theorem dX12_solveOn_128 : decode cX12_solveOn 128 = .ok (.dup, 1) := by decide +kernel
theorem dX12_solveOn_129 : decode cX12_solveOn 129 = .ok (.getfield 502, 3) := by decide +kernel
theorem dX12_solveOn_132 : decode cX12_solveOn 132 = .ok (.lconst 1, 1) := by decide +kernel
theorem dX12_solveOn_133 : decode cX12_solveOn 133 = .ok (.iload_n 3, 1) := by decide +kernel
theorem dX12_solveOn_134 : decode cX12_solveOn 134 = .ok (.lshl, 1) := by decide +kernel
theorem dX12_solveOn_135 : decode cX12_solveOn 135 = .ok (.lor, 1) := by decide +kernel
theorem dX12_solveOn_136 : decode cX12_solveOn 136 = .ok (.putfield 502, 3) := by decide +kernel
theorem dX12_solveOn_139 : decode cX12_solveOn 139 = .ok (.aload_n 0, 1) := by decide +kernel
theorem dX12_solveOn_140 : decode cX12_solveOn 140 = .ok (.dup, 1) := by decide +kernel
theorem dX12_solveOn_141 : decode cX12_solveOn 141 = .ok (.getfield 490, 3) := by decide +kernel
theorem dX12_solveOn_144 : decode cX12_solveOn 144 = .ok (.iconst 1, 1) := by decide +kernel
theorem dX12_solveOn_145 : decode cX12_solveOn 145 = .ok (.iadd, 1) := by decide +kernel
theorem dX12_solveOn_146 : decode cX12_solveOn 146 = .ok (.putfield 490, 3) := by decide +kernel
theorem dX12_solveOn_149 : decode cX12_solveOn 149 = .ok (.return_, 1) := by decide +kernel
theorem dX12_solveOn_150 : decode cX12_solveOn 150 = .ok (.aload_n 0, 1) := by decide +kernel
theorem dX12_solveOn_151 : decode cX12_solveOn 151 = .ok (.getfield 472, 3) := by decide +kernel
theorem dX12_solveOn_154 : decode cX12_solveOn 154 = .ok (.iload_n 1, 1) := by decide +kernel
theorem dX12_solveOn_155 : decode cX12_solveOn 155 = .ok (.ishr, 1) := by decide +kernel
theorem dX12_solveOn_156 : decode cX12_solveOn 156 = .ok (.iconst 1, 1) := by decide +kernel
theorem dX12_solveOn_157 : decode cX12_solveOn 157 = .ok (.iand, 1) := by decide +kernel
theorem dX12_solveOn_158 : decode cX12_solveOn 158 = .ok (.ifCond .ne 12, 3) := by decide +kernel
theorem dX12_solveOn_161 : decode cX12_solveOn 161 = .ok (.aload_n 0, 1) := by decide +kernel
theorem dX12_solveOn_162 : decode cX12_solveOn 162 = .ok (.iload_n 1, 1) := by decide +kernel
theorem dX12_solveOn_163 : decode cX12_solveOn 163 = .ok (.iconst 1, 1) := by decide +kernel
theorem dX12_solveOn_164 : decode cX12_solveOn 164 = .ok (.iadd, 1) := by decide +kernel
theorem dX12_solveOn_165 : decode cX12_solveOn 165 = .ok (.iload_n 2, 1) := by decide +kernel
theorem dX12_solveOn_166 : decode cX12_solveOn 166 = .ok (.invokevirtual 506, 3) := by decide +kernel
theorem dX12_solveOn_169 : decode cX12_solveOn 169 = .ok (.return_, 1) := by decide +kernel
theorem dX12_solveOn_170 : decode cX12_solveOn 170 = .ok (.iconst 0, 1) := by decide +kernel
theorem dX12_solveOn_171 : decode cX12_solveOn 171 = .ok (.istore_n 3, 1) := by decide +kernel
theorem dX12_solveOn_172 : decode cX12_solveOn 172 = .ok (.iload_n 3, 1) := by decide +kernel
theorem dX12_solveOn_173 : decode cX12_solveOn 173 = .ok (.bipush 10, 2) := by decide +kernel
theorem dX12_solveOn_175 : decode cX12_solveOn 175 = .ok (.if_icmp .ge 40, 3) := by decide +kernel
theorem dX12_solveOn_178 : decode cX12_solveOn 178 = .ok (.iload_n 2, 1) := by decide +kernel
theorem dX12_solveOn_179 : decode cX12_solveOn 179 = .ok (.iload_n 3, 1) := by decide +kernel
theorem dX12_solveOn_180 : decode cX12_solveOn 180 = .ok (.ishr, 1) := by decide +kernel
theorem dX12_solveOn_181 : decode cX12_solveOn 181 = .ok (.iconst 1, 1) := by decide +kernel
theorem dX12_solveOn_182 : decode cX12_solveOn 182 = .ok (.iand, 1) := by decide +kernel
theorem dX12_solveOn_183 : decode cX12_solveOn 183 = .ok (.iconst 1, 1) := by decide +kernel
theorem dX12_solveOn_184 : decode cX12_solveOn 184 = .ok (.if_icmp .ne 6, 3) := by decide +kernel
theorem dX12_solveOn_187 : decode cX12_solveOn 187 = .ok (.goto 22, 3) := by decide +kernel
theorem dX12_solveOn_190 : decode cX12_solveOn 190 = .ok (.aload_n 0, 1) := by decide +kernel
theorem dX12_solveOn_191 : decode cX12_solveOn 191 = .ok (.getfield 118, 3) := by decide +kernel
theorem dX12_solveOn_194 : decode cX12_solveOn 194 = .ok (.iload_n 1, 1) := by decide +kernel
theorem dX12_solveOn_195 : decode cX12_solveOn 195 = .ok (.iload_n 3, 1) := by decide +kernel
theorem dX12_solveOn_196 : decode cX12_solveOn 196 = .ok (.iastore, 1) := by decide +kernel
theorem dX12_solveOn_197 : decode cX12_solveOn 197 = .ok (.aload_n 0, 1) := by decide +kernel
theorem dX12_solveOn_198 : decode cX12_solveOn 198 = .ok (.iload_n 1, 1) := by decide +kernel
theorem dX12_solveOn_199 : decode cX12_solveOn 199 = .ok (.iconst 1, 1) := by decide +kernel
theorem dX12_solveOn_200 : decode cX12_solveOn 200 = .ok (.iadd, 1) := by decide +kernel
theorem dX12_solveOn_201 : decode cX12_solveOn 201 = .ok (.iload_n 2, 1) := by decide +kernel
theorem dX12_solveOn_202 : decode cX12_solveOn 202 = .ok (.iconst 1, 1) := by decide +kernel
theorem dX12_solveOn_203 : decode cX12_solveOn 203 = .ok (.iload_n 3, 1) := by decide +kernel
theorem dX12_solveOn_204 : decode cX12_solveOn 204 = .ok (.ishl, 1) := by decide +kernel
theorem dX12_solveOn_205 : decode cX12_solveOn 205 = .ok (.ior, 1) := by decide +kernel
theorem dX12_solveOn_206 : decode cX12_solveOn 206 = .ok (.invokevirtual 506, 3) := by decide +kernel
theorem dX12_solveOn_209 : decode cX12_solveOn 209 = .ok (.iinc 3 1, 3) := by decide +kernel
theorem dX12_solveOn_212 : decode cX12_solveOn 212 = .ok (.goto (-40), 3) := by decide +kernel
theorem dX12_solveOn_215 : decode cX12_solveOn 215 = .ok (.return_, 1) := by decide +kernel
theorem dX12_canSolve_0 : decode cX12_canSolve 0 = .ok (.aload_n 0, 1) := by decide +kernel
theorem dX12_canSolve_1 : decode cX12_canSolve 1 = .ok (.iload_n 1, 1) := by decide +kernel
theorem dX12_canSolve_2 : decode cX12_canSolve 2 = .ok (.iconst 4, 1) := by decide +kernel
theorem dX12_canSolve_3 : decode cX12_canSolve 3 = .ok (.invokevirtual 481, 3) := by decide +kernel
theorem dX12_canSolve_6 : decode cX12_canSolve 6 = .ok (.ifCond .lt 16, 3) := by decide +kernel
theorem dX12_canSolve_9 : decode cX12_canSolve 9 = .ok (.aload_n 0, 1) := by decide +kernel
theorem dX12_canSolve_10 : decode cX12_canSolve 10 = .ok (.iload_n 1, 1) := by decide +kernel
theorem dX12_canSolve_11 : decode cX12_canSolve 11 = .ok (.iconst 5, 1) := by decide +kernel
theorem dX12_canSolve_12 : decode cX12_canSolve 12 = .ok (.invokevirtual 481, 3) := by decide +kernel
theorem dX12_canSolve_15 : decode cX12_canSolve 15 = .ok (.ifCond .lt 7, 3) := by decide +kernel
theorem dX12_canSolve_18 : decode cX12_canSolve 18 = .ok (.iconst 1, 1) := by decide +kernel
theorem dX12_canSolve_19 : decode cX12_canSolve 19 = .ok (.goto 4, 3) := by decide +kernel
theorem dX12_canSolve_22 : decode cX12_canSolve 22 = .ok (.iconst 0, 1) := by decide +kernel
theorem dX12_canSolve_23 : decode cX12_canSolve 23 = .ok (.ireturn, 1) := by decide +kernel
theorem dX12_solveAll_0 : decode cX12_solveAll 0 = .ok (.aload_n 0, 1) := by decide +kernel
theorem dX12_solveAll_1 : decode cX12_solveAll 1 = .ok (.iload_n 1, 1) := by decide +kernel
theorem dX12_solveAll_2 : decode cX12_solveAll 2 = .ok (.putfield 475, 3) := by decide +kernel
theorem dX12_solveAll_5 : decode cX12_solveAll 5 = .ok (.aload_n 0, 1) := by decide +kernel
theorem dX12_solveAll_6 : decode cX12_solveAll 6 = .ok (.iload_n 1, 1) := by decide +kernel
theorem dX12_solveAll_7 : decode cX12_solveAll 7 = .ok (.invokevirtual 509, 3) := by decide +kernel
theorem dX12_solveAll_10 : decode cX12_solveAll 10 = .ok (.aload_n 0, 1) := by decide +kernel
theorem dX12_solveAll_11 : decode cX12_solveAll 11 = .ok (.iconst 0, 1) := by decide +kernel
theorem dX12_solveAll_12 : decode cX12_solveAll 12 = .ok (.putfield 490, 3) := by decide +kernel
theorem dX12_solveAll_15 : decode cX12_solveAll 15 = .ok (.aload_n 0, 1) := by decide +kernel
theorem dX12_solveAll_16 : decode cX12_solveAll 16 = .ok (.iload_n 2, 1) := by decide +kernel
theorem dX12_solveAll_17 : decode cX12_solveAll 17 = .ok (.putfield 493, 3) := by decide +kernel
theorem dX12_solveAll_20 : decode cX12_solveAll 20 = .ok (.aload_n 0, 1) := by decide +kernel
theorem dX12_solveAll_21 : decode cX12_solveAll 21 = .ok (.lconst 0, 1) := by decide +kernel
theorem dX12_solveAll_22 : decode cX12_solveAll 22 = .ok (.putfield 502, 3) := by decide +kernel
theorem dX12_solveAll_25 : decode cX12_solveAll 25 = .ok (.aload_n 0, 1) := by decide +kernel
theorem dX12_solveAll_26 : decode cX12_solveAll 26 = .ok (.iconst 0, 1) := by decide +kernel
theorem dX12_solveAll_27 : decode cX12_solveAll 27 = .ok (.iconst 0, 1) := by decide +kernel
theorem dX12_solveAll_28 : decode cX12_solveAll 28 = .ok (.invokevirtual 506, 3) := by decide +kernel
theorem dX12_solveAll_31 : decode cX12_solveAll 31 = .ok (.return_, 1) := by decide +kernel
theorem dX12_solve_0 : decode cX12_solve 0 = .ok (.aload_n 0, 1) := by decide +kernel
theorem dX12_solve_1 : decode cX12_solve 1 = .ok (.iload_n 1, 1) := by decide +kernel
theorem dX12_solve_2 : decode cX12_solve 2 = .ok (.invokevirtual 463, 3) := by decide +kernel
theorem dX12_solve_5 : decode cX12_solve 5 = .ok (.ifCond .eq 8, 3) := by decide +kernel
theorem dX12_solve_8 : decode cX12_solve 8 = .ok (.iload_n 2, 1) := by decide +kernel
theorem dX12_solve_9 : decode cX12_solve 9 = .ok (.iconst (-1), 1) := by decide +kernel
theorem dX12_solve_10 : decode cX12_solve 10 = .ok (.if_icmp .ge 5, 3) := by decide +kernel
theorem dX12_solve_13 : decode cX12_solve 13 = .ok (.iconst (-1), 1) := by decide +kernel
theorem dX12_solve_14 : decode cX12_solve 14 = .ok (.ireturn, 1) := by decide +kernel
theorem dX12_solve_15 : decode cX12_solve 15 = .ok (.aload_n 0, 1) := by decide +kernel
theorem dX12_solve_16 : decode cX12_solve 16 = .ok (.iload_n 1, 1) := by decide +kernel
theorem dX12_solve_17 : decode cX12_solve 17 = .ok (.invokevirtual 512, 3) := by decide +kernel
theorem dX12_solve_20 : decode cX12_solve 20 = .ok (.ifCond .ne 6, 3) := by decide +kernel
theorem dX12_solve_23 : decode cX12_solve 23 = .ok (.bipush (-2), 2) := by decide +kernel
theorem dX12_solve_25 : decode cX12_solve 25 = .ok (.ireturn, 1) := by decide +kernel
theorem dX12_solve_26 : decode cX12_solve 26 = .ok (.aload_n 0, 1) := by decide +kernel
theorem dX12_solve_27 : decode cX12_solve 27 = .ok (.iload_n 1, 1) := by decide +kernel
theorem dX12_solve_28 : decode cX12_solve 28 = .ok (.iload_n 2, 1) := by decide +kernel
theorem dX12_solve_29 : decode cX12_solve 29 = .ok (.invokevirtual 515, 3) := by decide +kernel
theorem dX12_solve_32 : decode cX12_solve 32 = .ok (.iload_n 2, 1) := by decide +kernel
theorem dX12_solve_33 : decode cX12_solve 33 = .ok (.ifCond .ge 10, 3) := by decide +kernel
theorem dX12_solve_36 : decode cX12_solve 36 = .ok (.aload_n 0, 1) := by decide +kernel
theorem dX12_solve_37 : decode cX12_solve 37 = .ok (.getfield 490, 3) := by decide +kernel
theorem dX12_solve_40 : decode cX12_solve 40 = .ok (.goto 19, 3) := by decide +kernel
theorem dX12_solve_43 : decode cX12_solve 43 = .ok (.iload_n 2, 1) := by decide +kernel
theorem dX12_solve_44 : decode cX12_solve 44 = .ok (.aload_n 0, 1) := by decide +kernel
theorem dX12_solve_45 : decode cX12_solve 45 = .ok (.getfield 490, 3) := by decide +kernel
theorem dX12_solve_48 : decode cX12_solve 48 = .ok (.if_icmp .ge 10, 3) := by decide +kernel
theorem dX12_solve_51 : decode cX12_solve 51 = .ok (.aload_n 0, 1) := by decide +kernel
theorem dX12_solve_52 : decode cX12_solve 52 = .ok (.getfield 496, 3) := by decide +kernel
theorem dX12_solve_55 : decode cX12_solve 55 = .ok (.goto 4, 3) := by decide +kernel
theorem dX12_solve_58 : decode cX12_solve 58 = .ok (.iconst (-1), 1) := by decide +kernel
theorem dX12_solve_59 : decode cX12_solve 59 = .ok (.ireturn, 1) := by decide +kernel
theorem dX12_solved_0 : decode cX12_solved 0 = .ok (.aload_n 0, 1) := by decide +kernel
theorem dX12_solved_1 : decode cX12_solved 1 = .ok (.iload_n 1, 1) := by decide +kernel
theorem dX12_solved_2 : decode cX12_solved 2 = .ok (.invokevirtual 463, 3) := by decide +kernel
theorem dX12_solved_5 : decode cX12_solved 5 = .ok (.ifCond .eq 7, 3) := by decide +kernel
theorem dX12_solved_8 : decode cX12_solved 8 = .ok (.iload_n 2, 1) := by decide +kernel
theorem dX12_solved_9 : decode cX12_solved 9 = .ok (.ifCond .ge 5, 3) := by decide +kernel
theorem dX12_solved_12 : decode cX12_solved 12 = .ok (.iconst (-1), 1) := by decide +kernel
theorem dX12_solved_13 : decode cX12_solved 13 = .ok (.ireturn, 1) := by decide +kernel
theorem dX12_solved_14 : decode cX12_solved 14 = .ok (.aload_n 0, 1) := by decide +kernel
theorem dX12_solved_15 : decode cX12_solved 15 = .ok (.iload_n 1, 1) := by decide +kernel
theorem dX12_solved_16 : decode cX12_solved 16 = .ok (.invokevirtual 512, 3) := by decide +kernel
theorem dX12_solved_19 : decode cX12_solved 19 = .ok (.ifCond .ne 6, 3) := by decide +kernel
theorem dX12_solved_22 : decode cX12_solved 22 = .ok (.bipush (-2), 2) := by decide +kernel
theorem dX12_solved_24 : decode cX12_solved 24 = .ok (.ireturn, 1) := by decide +kernel
theorem dX12_solved_25 : decode cX12_solved 25 = .ok (.aload_n 0, 1) := by decide +kernel
theorem dX12_solved_26 : decode cX12_solved 26 = .ok (.iload_n 1, 1) := by decide +kernel
theorem dX12_solved_27 : decode cX12_solved 27 = .ok (.iload_n 2, 1) := by decide +kernel
theorem dX12_solved_28 : decode cX12_solved 28 = .ok (.invokevirtual 515, 3) := by decide +kernel
theorem dX12_solved_31 : decode cX12_solved 31 = .ok (.iload_n 2, 1) := by decide +kernel
theorem dX12_solved_32 : decode cX12_solved 32 = .ok (.aload_n 0, 1) := by decide +kernel
theorem dX12_solved_33 : decode cX12_solved 33 = .ok (.getfield 490, 3) := by decide +kernel
theorem dX12_solved_36 : decode cX12_solved 36 = .ok (.if_icmp .ge 10, 3) := by decide +kernel
theorem dX12_solved_39 : decode cX12_solved 39 = .ok (.aload_n 0, 1) := by decide +kernel
theorem dX12_solved_40 : decode cX12_solved 40 = .ok (.getfield 499, 3) := by decide +kernel
theorem dX12_solved_43 : decode cX12_solved 43 = .ok (.goto 4, 3) := by decide +kernel
theorem dX12_solved_46 : decode cX12_solved 46 = .ok (.iconst (-1), 1) := by decide +kernel
theorem dX12_solved_47 : decode cX12_solved 47 = .ok (.ireturn, 1) := by decide +kernel
theorem dX12_others_0 : decode cX12_others 0 = .ok (.aload_n 0, 1) := by decide +kernel
theorem dX12_others_1 : decode cX12_others 1 = .ok (.iload_n 1, 1) := by decide +kernel
theorem dX12_others_2 : decode cX12_others 2 = .ok (.invokevirtual 463, 3) := by decide +kernel
theorem dX12_others_5 : decode cX12_others 5 = .ok (.ifCond .eq 11, 3) := by decide +kernel
theorem dX12_others_8 : decode cX12_others 8 = .ok (.aload_n 0, 1) := by decide +kernel
theorem dX12_others_9 : decode cX12_others 9 = .ok (.iload_n 2, 1) := by decide +kernel
theorem dX12_others_10 : decode cX12_others 10 = .ok (.invokevirtual 230, 3) := by decide +kernel
theorem dX12_others_13 : decode cX12_others 13 = .ok (.ifCond .ne 7, 3) := by decide +kernel
theorem dX12_others_16 : decode cX12_others 16 = .ok (.ldc2_w 520, 3) := by decide +kernel
theorem dX12_others_19 : decode cX12_others 19 = .ok (.lreturn, 1) := by decide +kernel
theorem dX12_others_20 : decode cX12_others 20 = .ok (.aload_n 0, 1) := by decide +kernel
theorem dX12_others_21 : decode cX12_others 21 = .ok (.getfield 25, 3) := by decide +kernel
theorem dX12_others_24 : decode cX12_others 24 = .ok (.iload_n 1, 1) := by decide +kernel
theorem dX12_others_25 : decode cX12_others 25 = .ok (.iaload, 1) := by decide +kernel
theorem dX12_others_26 : decode cX12_others 26 = .ok (.iload_n 2, 1) := by decide +kernel
theorem dX12_others_27 : decode cX12_others 27 = .ok (.if_icmp .ne 11, 3) := by decide +kernel
theorem dX12_others_30 : decode cX12_others 30 = .ok (.aload_n 0, 1) := by decide +kernel
theorem dX12_others_31 : decode cX12_others 31 = .ok (.iload_n 1, 1) := by decide +kernel
theorem dX12_others_32 : decode cX12_others 32 = .ok (.invokevirtual 512, 3) := by decide +kernel
theorem dX12_others_35 : decode cX12_others 35 = .ok (.ifCond .ne 7, 3) := by decide +kernel
theorem dX12_others_38 : decode cX12_others 38 = .ok (.ldc2_w 522, 3) := by decide +kernel
theorem dX12_others_41 : decode cX12_others 41 = .ok (.lreturn, 1) := by decide +kernel
theorem dX12_others_42 : decode cX12_others 42 = .ok (.aload_n 0, 1) := by decide +kernel
theorem dX12_others_43 : decode cX12_others 43 = .ok (.iload_n 1, 1) := by decide +kernel
theorem dX12_others_44 : decode cX12_others 44 = .ok (.iconst (-1), 1) := by decide +kernel
theorem dX12_others_45 : decode cX12_others 45 = .ok (.invokevirtual 515, 3) := by decide +kernel
theorem dX12_others_48 : decode cX12_others 48 = .ok (.aload_n 0, 1) := by decide +kernel
theorem dX12_others_49 : decode cX12_others 49 = .ok (.getfield 502, 3) := by decide +kernel
theorem dX12_others_52 : decode cX12_others 52 = .ok (.lreturn, 1) := by decide +kernel
theorem dX12_whereOf_0 : decode cX12_whereOf 0 = .ok (.iload_n 2, 1) := by decide +kernel
theorem dX12_whereOf_1 : decode cX12_whereOf 1 = .ok (.ifCond .ne 5, 3) := by decide +kernel
theorem dX12_whereOf_4 : decode cX12_whereOf 4 = .ok (.iconst (-1), 1) := by decide +kernel
theorem dX12_whereOf_5 : decode cX12_whereOf 5 = .ok (.ireturn, 1) := by decide +kernel
theorem dX12_whereOf_6 : decode cX12_whereOf 6 = .ok (.bipush 12, 2) := by decide +kernel
theorem dX12_whereOf_8 : decode cX12_whereOf 8 = .ok (.iload_n 1, 1) := by decide +kernel
theorem dX12_whereOf_9 : decode cX12_whereOf 9 = .ok (.imul, 1) := by decide +kernel
theorem dX12_whereOf_10 : decode cX12_whereOf 10 = .ok (.iload_n 2, 1) := by decide +kernel
theorem dX12_whereOf_11 : decode cX12_whereOf 11 = .ok (.iadd, 1) := by decide +kernel
theorem dX12_whereOf_12 : decode cX12_whereOf 12 = .ok (.iconst 1, 1) := by decide +kernel
theorem dX12_whereOf_13 : decode cX12_whereOf 13 = .ok (.isub, 1) := by decide +kernel
theorem dX12_whereOf_14 : decode cX12_whereOf 14 = .ok (.istore_n 3, 1) := by decide +kernel
theorem dX12_whereOf_15 : decode cX12_whereOf 15 = .ok (.aload_n 0, 1) := by decide +kernel
theorem dX12_whereOf_16 : decode cX12_whereOf 16 = .ok (.getfield 127, 3) := by decide +kernel
theorem dX12_whereOf_19 : decode cX12_whereOf 19 = .ok (.iload_n 3, 1) := by decide +kernel
theorem dX12_whereOf_20 : decode cX12_whereOf 20 = .ok (.baload, 1) := by decide +kernel
theorem dX12_whereOf_21 : decode cX12_whereOf 21 = .ok (.ifCond .eq 17, 3) := by decide +kernel
theorem dX12_whereOf_24 : decode cX12_whereOf 24 = .ok (.aload_n 0, 1) := by decide +kernel
theorem dX12_whereOf_25 : decode cX12_whereOf 25 = .ok (.getfield 49, 3) := by decide +kernel
theorem dX12_whereOf_28 : decode cX12_whereOf 28 = .ok (.aload_n 0, 1) := by decide +kernel
theorem dX12_whereOf_29 : decode cX12_whereOf 29 = .ok (.getfield 124, 3) := by decide +kernel
theorem dX12_whereOf_32 : decode cX12_whereOf 32 = .ok (.iload_n 3, 1) := by decide +kernel
theorem dX12_whereOf_33 : decode cX12_whereOf 33 = .ok (.saload, 1) := by decide +kernel
theorem dX12_whereOf_34 : decode cX12_whereOf 34 = .ok (.iaload, 1) := by decide +kernel
theorem dX12_whereOf_35 : decode cX12_whereOf 35 = .ok (.goto 14, 3) := by decide +kernel
theorem dX12_whereOf_38 : decode cX12_whereOf 38 = .ok (.aload_n 0, 1) := by decide +kernel
theorem dX12_whereOf_39 : decode cX12_whereOf 39 = .ok (.getfield 46, 3) := by decide +kernel
theorem dX12_whereOf_42 : decode cX12_whereOf 42 = .ok (.aload_n 0, 1) := by decide +kernel
theorem dX12_whereOf_43 : decode cX12_whereOf 43 = .ok (.getfield 124, 3) := by decide +kernel
theorem dX12_whereOf_46 : decode cX12_whereOf 46 = .ok (.iload_n 3, 1) := by decide +kernel
theorem dX12_whereOf_47 : decode cX12_whereOf 47 = .ok (.saload, 1) := by decide +kernel
theorem dX12_whereOf_48 : decode cX12_whereOf 48 = .ok (.iaload, 1) := by decide +kernel
theorem dX12_whereOf_49 : decode cX12_whereOf 49 = .ok (.ireturn, 1) := by decide +kernel
theorem dX12_tell_0 : decode cX12_tell 0 = .ok (.aload_n 0, 1) := by decide +kernel
theorem dX12_tell_1 : decode cX12_tell 1 = .ok (.iload_n 1, 1) := by decide +kernel
theorem dX12_tell_2 : decode cX12_tell 2 = .ok (.invokevirtual 524, 3) := by decide +kernel
theorem dX12_tell_5 : decode cX12_tell 5 = .ok (.ifCond .eq 29, 3) := by decide +kernel
theorem dX12_tell_8 : decode cX12_tell 8 = .ok (.aload_n 0, 1) := by decide +kernel
theorem dX12_tell_9 : decode cX12_tell 9 = .ok (.iload_n 2, 1) := by decide +kernel
theorem dX12_tell_10 : decode cX12_tell 10 = .ok (.invokevirtual 318, 3) := by decide +kernel
theorem dX12_tell_13 : decode cX12_tell 13 = .ok (.ifCond .eq 21, 3) := by decide +kernel
theorem dX12_tell_16 : decode cX12_tell 16 = .ok (.aload_n 0, 1) := by decide +kernel
theorem dX12_tell_17 : decode cX12_tell 17 = .ok (.getfield 55, 3) := by decide +kernel
theorem dX12_tell_20 : decode cX12_tell 20 = .ok (.iload_n 2, 1) := by decide +kernel
theorem dX12_tell_21 : decode cX12_tell 21 = .ok (.baload, 1) := by decide +kernel
theorem dX12_tell_22 : decode cX12_tell 22 = .ok (.ifCond .eq 12, 3) := by decide +kernel
theorem dX12_tell_25 : decode cX12_tell 25 = .ok (.iload_n 3, 1) := by decide +kernel
theorem dX12_tell_26 : decode cX12_tell 26 = .ok (.iconst 0, 1) := by decide +kernel
theorem dX12_tell_27 : decode cX12_tell 27 = .ok (.iconst 1, 1) := by decide +kernel
theorem dX12_tell_28 : decode cX12_tell 28 = .ok (.invokestatic 195, 3) := by decide +kernel
theorem dX12_tell_31 : decode cX12_tell 31 = .ok (.ifCond .ne 5, 3) := by decide +kernel
theorem dX12_tell_34 : decode cX12_tell 34 = .ok (.iconst (-1), 1) := by decide +kernel
theorem dX12_tell_35 : decode cX12_tell 35 = .ok (.ireturn, 1) := by decide +kernel
theorem dX12_tell_36 : decode cX12_tell 36 = .ok (.aload_n 0, 1) := by decide +kernel
theorem dX12_tell_37 : decode cX12_tell 37 = .ok (.getfield 121, 3) := by decide +kernel
theorem dX12_tell_40 : decode cX12_tell 40 = .ok (.iload_n 1, 1) := by decide +kernel
theorem dX12_tell_41 : decode cX12_tell 41 = .ok (.iaload, 1) := by decide +kernel
theorem dX12_tell_42 : decode cX12_tell 42 = .ok (.bipush 12, 2) := by decide +kernel
theorem dX12_tell_44 : decode cX12_tell 44 = .ok (.if_icmp .ne 6, 3) := by decide +kernel
theorem dX12_tell_47 : decode cX12_tell 47 = .ok (.bipush (-3), 2) := by decide +kernel
theorem dX12_tell_49 : decode cX12_tell 49 = .ok (.ireturn, 1) := by decide +kernel
theorem dX12_tell_50 : decode cX12_tell 50 = .ok (.aload_n 0, 1) := by decide +kernel
theorem dX12_tell_51 : decode cX12_tell 51 = .ok (.getfield 124, 3) := by decide +kernel
theorem dX12_tell_54 : decode cX12_tell 54 = .ok (.bipush 12, 2) := by decide +kernel
theorem dX12_tell_56 : decode cX12_tell 56 = .ok (.iload_n 1, 1) := by decide +kernel
theorem dX12_tell_57 : decode cX12_tell 57 = .ok (.imul, 1) := by decide +kernel
theorem dX12_tell_58 : decode cX12_tell 58 = .ok (.aload_n 0, 1) := by decide +kernel
theorem dX12_tell_59 : decode cX12_tell 59 = .ok (.getfield 121, 3) := by decide +kernel
theorem dX12_tell_62 : decode cX12_tell 62 = .ok (.iload_n 1, 1) := by decide +kernel
theorem dX12_tell_63 : decode cX12_tell 63 = .ok (.iaload, 1) := by decide +kernel
theorem dX12_tell_64 : decode cX12_tell 64 = .ok (.iadd, 1) := by decide +kernel
theorem dX12_tell_65 : decode cX12_tell 65 = .ok (.iload_n 2, 1) := by decide +kernel
theorem dX12_tell_66 : decode cX12_tell 66 = .ok (.i2s, 1) := by decide +kernel
theorem dX12_tell_67 : decode cX12_tell 67 = .ok (.sastore, 1) := by decide +kernel
theorem dX12_tell_68 : decode cX12_tell 68 = .ok (.aload_n 0, 1) := by decide +kernel
theorem dX12_tell_69 : decode cX12_tell 69 = .ok (.getfield 127, 3) := by decide +kernel
theorem dX12_tell_72 : decode cX12_tell 72 = .ok (.bipush 12, 2) := by decide +kernel
theorem dX12_tell_74 : decode cX12_tell 74 = .ok (.iload_n 1, 1) := by decide +kernel
theorem dX12_tell_75 : decode cX12_tell 75 = .ok (.imul, 1) := by decide +kernel
theorem dX12_tell_76 : decode cX12_tell 76 = .ok (.aload_n 0, 1) := by decide +kernel
theorem dX12_tell_77 : decode cX12_tell 77 = .ok (.getfield 121, 3) := by decide +kernel
theorem dX12_tell_80 : decode cX12_tell 80 = .ok (.iload_n 1, 1) := by decide +kernel
theorem dX12_tell_81 : decode cX12_tell 81 = .ok (.iaload, 1) := by decide +kernel
theorem dX12_tell_82 : decode cX12_tell 82 = .ok (.iadd, 1) := by decide +kernel
theorem dX12_tell_83 : decode cX12_tell 83 = .ok (.iload_n 3, 1) := by decide +kernel
theorem dX12_tell_84 : decode cX12_tell 84 = .ok (.iconst 1, 1) := by decide +kernel
theorem dX12_tell_85 : decode cX12_tell 85 = .ok (.if_icmp .ne 7, 3) := by decide +kernel
theorem dX12_tell_88 : decode cX12_tell 88 = .ok (.iconst 1, 1) := by decide +kernel
theorem dX12_tell_89 : decode cX12_tell 89 = .ok (.goto 4, 3) := by decide +kernel
theorem dX12_tell_92 : decode cX12_tell 92 = .ok (.iconst 0, 1) := by decide +kernel
theorem dX12_tell_93 : decode cX12_tell 93 = .ok (.bastore, 1) := by decide +kernel
theorem dX12_tell_94 : decode cX12_tell 94 = .ok (.aload_n 0, 1) := by decide +kernel
theorem dX12_tell_95 : decode cX12_tell 95 = .ok (.getfield 121, 3) := by decide +kernel
theorem dX12_tell_98 : decode cX12_tell 98 = .ok (.iload_n 1, 1) := by decide +kernel
theorem dX12_tell_99 : decode cX12_tell 99 = .ok (.dup2, 1) := by decide +kernel
theorem dX12_tell_100 : decode cX12_tell 100 = .ok (.iaload, 1) := by decide +kernel
theorem dX12_tell_101 : decode cX12_tell 101 = .ok (.iconst 1, 1) := by decide +kernel
theorem dX12_tell_102 : decode cX12_tell 102 = .ok (.iadd, 1) := by decide +kernel
theorem dX12_tell_103 : decode cX12_tell 103 = .ok (.iastore, 1) := by decide +kernel
theorem dX12_tell_104 : decode cX12_tell 104 = .ok (.aload_n 0, 1) := by decide +kernel
theorem dX12_tell_105 : decode cX12_tell 105 = .ok (.getfield 121, 3) := by decide +kernel
theorem dX12_tell_108 : decode cX12_tell 108 = .ok (.iload_n 1, 1) := by decide +kernel
theorem dX12_tell_109 : decode cX12_tell 109 = .ok (.iaload, 1) := by decide +kernel
theorem dX12_tell_110 : decode cX12_tell 110 = .ok (.ireturn, 1) := by decide +kernel
theorem dX12_isJump_0 : decode cX12_isJump 0 = .ok (.bipush 12, 2) := by decide +kernel
theorem dX12_isJump_2 : decode cX12_isJump 2 = .ok (.iload_n 1, 1) := by decide +kernel
theorem dX12_isJump_3 : decode cX12_isJump 3 = .ok (.imul, 1) := by decide +kernel
theorem dX12_isJump_4 : decode cX12_isJump 4 = .ok (.iload_n 2, 1) := by decide +kernel
theorem dX12_isJump_5 : decode cX12_isJump 5 = .ok (.iadd, 1) := by decide +kernel
theorem dX12_isJump_6 : decode cX12_isJump 6 = .ok (.istore_n 3, 1) := by decide +kernel
theorem dX12_isJump_7 : decode cX12_isJump 7 = .ok (.aload_n 0, 1) := by decide +kernel
theorem dX12_isJump_8 : decode cX12_isJump 8 = .ok (.iload_n 1, 1) := by decide +kernel
theorem dX12_isJump_9 : decode cX12_isJump 9 = .ok (.iload_n 2, 1) := by decide +kernel
theorem dX12_isJump_10 : decode cX12_isJump 10 = .ok (.invokevirtual 261, 3) := by decide +kernel
theorem dX12_isJump_13 : decode cX12_isJump 13 = .ok (.istore 4, 2) := by decide +kernel
theorem dX12_isJump_15 : decode cX12_isJump 15 = .ok (.aload_n 0, 1) := by decide +kernel
theorem dX12_isJump_16 : decode cX12_isJump 16 = .ok (.getfield 127, 3) := by decide +kernel
theorem dX12_isJump_19 : decode cX12_isJump 19 = .ok (.iload_n 3, 1) := by decide +kernel
theorem dX12_isJump_20 : decode cX12_isJump 20 = .ok (.baload, 1) := by decide +kernel
theorem dX12_isJump_21 : decode cX12_isJump 21 = .ok (.ifCond .eq 27, 3) := by decide +kernel
theorem dX12_isJump_24 : decode cX12_isJump 24 = .ok (.iload 4, 2) := by decide +kernel
theorem dX12_isJump_26 : decode cX12_isJump 26 = .ok (.aload_n 0, 1) := by decide +kernel
theorem dX12_isJump_27 : decode cX12_isJump 27 = .ok (.getfield 46, 3) := by decide +kernel
theorem dX12_isJump_30 : decode cX12_isJump 30 = .ok (.aload_n 0, 1) := by decide +kernel
theorem dX12_isJump_31 : decode cX12_isJump 31 = .ok (.getfield 124, 3) := by decide +kernel
theorem dX12_isJump_34 : decode cX12_isJump 34 = .ok (.iload_n 3, 1) := by decide +kernel
theorem dX12_isJump_35 : decode cX12_isJump 35 = .ok (.saload, 1) := by decide +kernel
theorem dX12_isJump_36 : decode cX12_isJump 36 = .ok (.iaload, 1) := by decide +kernel
theorem dX12_isJump_37 : decode cX12_isJump 37 = .ok (.if_icmp .eq 7, 3) := by decide +kernel
theorem dX12_isJump_40 : decode cX12_isJump 40 = .ok (.iconst 1, 1) := by decide +kernel
theorem dX12_isJump_41 : decode cX12_isJump 41 = .ok (.goto 28, 3) := by decide +kernel
theorem dX12_isJump_44 : decode cX12_isJump 44 = .ok (.iconst 0, 1) := by decide +kernel
theorem dX12_isJump_45 : decode cX12_isJump 45 = .ok (.goto 24, 3) := by decide +kernel
theorem dX12_isJump_48 : decode cX12_isJump 48 = .ok (.iload 4, 2) := by decide +kernel
theorem dX12_isJump_50 : decode cX12_isJump 50 = .ok (.aload_n 0, 1) := by decide +kernel
theorem dX12_isJump_51 : decode cX12_isJump 51 = .ok (.getfield 49, 3) := by decide +kernel
theorem dX12_isJump_54 : decode cX12_isJump 54 = .ok (.aload_n 0, 1) := by decide +kernel
theorem dX12_isJump_55 : decode cX12_isJump 55 = .ok (.getfield 124, 3) := by decide +kernel
theorem dX12_isJump_58 : decode cX12_isJump 58 = .ok (.iload_n 3, 1) := by decide +kernel
theorem dX12_isJump_59 : decode cX12_isJump 59 = .ok (.saload, 1) := by decide +kernel
theorem dX12_isJump_60 : decode cX12_isJump 60 = .ok (.iaload, 1) := by decide +kernel
theorem dX12_isJump_61 : decode cX12_isJump 61 = .ok (.if_icmp .eq 7, 3) := by decide +kernel
theorem dX12_isJump_64 : decode cX12_isJump 64 = .ok (.iconst 1, 1) := by decide +kernel
theorem dX12_isJump_65 : decode cX12_isJump 65 = .ok (.goto 4, 3) := by decide +kernel
theorem dX12_isJump_68 : decode cX12_isJump 68 = .ok (.iconst 0, 1) := by decide +kernel
theorem dX12_isJump_69 : decode cX12_isJump 69 = .ok (.ireturn, 1) := by decide +kernel
theorem dX12_jump_0 : decode cX12_jump 0 = .ok (.aload_n 0, 1) := by decide +kernel
theorem dX12_jump_1 : decode cX12_jump 1 = .ok (.iload_n 1, 1) := by decide +kernel
theorem dX12_jump_2 : decode cX12_jump 2 = .ok (.invokevirtual 524, 3) := by decide +kernel
theorem dX12_jump_5 : decode cX12_jump 5 = .ok (.ifCond .eq 8, 3) := by decide +kernel
theorem dX12_jump_8 : decode cX12_jump 8 = .ok (.iload_n 2, 1) := by decide +kernel
theorem dX12_jump_9 : decode cX12_jump 9 = .ok (.iconst (-1), 1) := by decide +kernel
theorem dX12_jump_10 : decode cX12_jump 10 = .ok (.if_icmp .ge 5, 3) := by decide +kernel
theorem dX12_jump_13 : decode cX12_jump 13 = .ok (.iconst (-1), 1) := by decide +kernel
theorem dX12_jump_14 : decode cX12_jump 14 = .ok (.ireturn, 1) := by decide +kernel
theorem dX12_jump_15 : decode cX12_jump 15 = .ok (.iconst 0, 1) := by decide +kernel
theorem dX12_jump_16 : decode cX12_jump 16 = .ok (.istore_n 3, 1) := by decide +kernel
theorem dX12_jump_17 : decode cX12_jump 17 = .ok (.iconst 0, 1) := by decide +kernel
theorem dX12_jump_18 : decode cX12_jump 18 = .ok (.istore 4, 2) := by decide +kernel
theorem dX12_jump_20 : decode cX12_jump 20 = .ok (.iload 4, 2) := by decide +kernel
theorem dX12_jump_22 : decode cX12_jump 22 = .ok (.aload_n 0, 1) := by decide +kernel
theorem dX12_jump_23 : decode cX12_jump 23 = .ok (.getfield 121, 3) := by decide +kernel
theorem dX12_jump_26 : decode cX12_jump 26 = .ok (.iload_n 1, 1) := by decide +kernel
theorem dX12_jump_27 : decode cX12_jump 27 = .ok (.iaload, 1) := by decide +kernel
theorem dX12_jump_28 : decode cX12_jump 28 = .ok (.if_icmp .ge 33, 3) := by decide +kernel
theorem dX12_jump_31 : decode cX12_jump 31 = .ok (.aload_n 0, 1) := by decide +kernel
theorem dX12_jump_32 : decode cX12_jump 32 = .ok (.iload_n 1, 1) := by decide +kernel
theorem dX12_jump_33 : decode cX12_jump 33 = .ok (.iload 4, 2) := by decide +kernel
theorem dX12_jump_35 : decode cX12_jump 35 = .ok (.invokevirtual 527, 3) := by decide +kernel
theorem dX12_jump_38 : decode cX12_jump 38 = .ok (.ifCond .ne 6, 3) := by decide +kernel
theorem dX12_jump_41 : decode cX12_jump 41 = .ok (.goto 14, 3) := by decide +kernel
theorem dX12_jump_44 : decode cX12_jump 44 = .ok (.iload_n 3, 1) := by decide +kernel
theorem dX12_jump_45 : decode cX12_jump 45 = .ok (.iload_n 2, 1) := by decide +kernel
theorem dX12_jump_46 : decode cX12_jump 46 = .ok (.if_icmp .ne 6, 3) := by decide +kernel
theorem dX12_jump_49 : decode cX12_jump 49 = .ok (.iload 4, 2) := by decide +kernel
theorem dX12_jump_51 : decode cX12_jump 51 = .ok (.ireturn, 1) := by decide +kernel
theorem dX12_jump_52 : decode cX12_jump 52 = .ok (.iinc 3 1, 3) := by decide +kernel
theorem dX12_jump_55 : decode cX12_jump 55 = .ok (.iinc 4 1, 3) := by decide +kernel
theorem dX12_jump_58 : decode cX12_jump 58 = .ok (.goto (-38), 3) := by decide +kernel
theorem dX12_jump_61 : decode cX12_jump 61 = .ok (.iload_n 2, 1) := by decide +kernel
theorem dX12_jump_62 : decode cX12_jump 62 = .ok (.ifCond .ge 7, 3) := by decide +kernel
theorem dX12_jump_65 : decode cX12_jump 65 = .ok (.iload_n 3, 1) := by decide +kernel
theorem dX12_jump_66 : decode cX12_jump 66 = .ok (.goto 4, 3) := by decide +kernel
theorem dX12_jump_69 : decode cX12_jump 69 = .ok (.iconst (-1), 1) := by decide +kernel
theorem dX12_jump_70 : decode cX12_jump 70 = .ok (.ireturn, 1) := by decide +kernel
theorem dX12_chain_0 : decode cX12_chain 0 = .ok (.aload_n 0, 1) := by decide +kernel
theorem dX12_chain_1 : decode cX12_chain 1 = .ok (.iload_n 1, 1) := by decide +kernel
theorem dX12_chain_2 : decode cX12_chain 2 = .ok (.invokevirtual 524, 3) := by decide +kernel
theorem dX12_chain_5 : decode cX12_chain 5 = .ok (.ifCond .ne 5, 3) := by decide +kernel
theorem dX12_chain_8 : decode cX12_chain 8 = .ok (.iconst (-1), 1) := by decide +kernel
theorem dX12_chain_9 : decode cX12_chain 9 = .ok (.ireturn, 1) := by decide +kernel
theorem dX12_chain_10 : decode cX12_chain 10 = .ok (.iconst 0, 1) := by decide +kernel
theorem dX12_chain_11 : decode cX12_chain 11 = .ok (.istore_n 2, 1) := by decide +kernel
theorem dX12_chain_12 : decode cX12_chain 12 = .ok (.iconst (-1), 1) := by decide +kernel
theorem dX12_chain_13 : decode cX12_chain 13 = .ok (.istore_n 3, 1) := by decide +kernel
theorem dX12_chain_14 : decode cX12_chain 14 = .ok (.bipush 12, 2) := by decide +kernel
theorem dX12_chain_16 : decode cX12_chain 16 = .ok (.iload_n 1, 1) := by decide +kernel
theorem dX12_chain_17 : decode cX12_chain 17 = .ok (.imul, 1) := by decide +kernel
theorem dX12_chain_18 : decode cX12_chain 18 = .ok (.istore 4, 2) := by decide +kernel
theorem dX12_chain_20 : decode cX12_chain 20 = .ok (.iload 4, 2) := by decide +kernel
theorem dX12_chain_22 : decode cX12_chain 22 = .ok (.bipush 12, 2) := by decide +kernel
theorem dX12_chain_24 : decode cX12_chain 24 = .ok (.iload_n 1, 1) := by decide +kernel
theorem dX12_chain_25 : decode cX12_chain 25 = .ok (.imul, 1) := by decide +kernel
theorem dX12_chain_26 : decode cX12_chain 26 = .ok (.aload_n 0, 1) := by decide +kernel
theorem dX12_chain_27 : decode cX12_chain 27 = .ok (.getfield 121, 3) := by decide +kernel
theorem dX12_chain_30 : decode cX12_chain 30 = .ok (.iload_n 1, 1) := by decide +kernel
theorem dX12_chain_31 : decode cX12_chain 31 = .ok (.iaload, 1) := by decide +kernel
theorem dX12_chain_32 : decode cX12_chain 32 = .ok (.iadd, 1) := by decide +kernel
theorem dX12_chain_33 : decode cX12_chain 33 = .ok (.if_icmp .ge 100, 3) := by decide +kernel
theorem dX12_chain_36 : decode cX12_chain 36 = .ok (.aload_n 0, 1) := by decide +kernel
theorem dX12_chain_37 : decode cX12_chain 37 = .ok (.getfield 127, 3) := by decide +kernel
theorem dX12_chain_40 : decode cX12_chain 40 = .ok (.iload 4, 2) := by decide +kernel
theorem dX12_chain_42 : decode cX12_chain 42 = .ok (.baload, 1) := by decide +kernel
theorem dX12_chain_43 : decode cX12_chain 43 = .ok (.ifCond .ne 6, 3) := by decide +kernel
theorem dX12_chain_46 : decode cX12_chain 46 = .ok (.goto 81, 3) := by decide +kernel
theorem dX12_chain_49 : decode cX12_chain 49 = .ok (.aload_n 0, 1) := by decide +kernel
theorem dX12_chain_50 : decode cX12_chain 50 = .ok (.getfield 124, 3) := by decide +kernel
theorem dX12_chain_53 : decode cX12_chain 53 = .ok (.iload 4, 2) := by decide +kernel
theorem dX12_chain_55 : decode cX12_chain 55 = .ok (.saload, 1) := by decide +kernel
theorem dX12_chain_56 : decode cX12_chain 56 = .ok (.istore 5, 2) := by decide +kernel
theorem dX12_chain_58 : decode cX12_chain 58 = .ok (.iload_n 3, 1) := by decide +kernel
theorem dX12_chain_59 : decode cX12_chain 59 = .ok (.ifCond .lt 65, 3) := by decide +kernel
theorem dX12_chain_62 : decode cX12_chain 62 = .ok (.aload_n 0, 1) := by decide +kernel
theorem dX12_chain_63 : decode cX12_chain 63 = .ok (.aload_n 0, 1) := by decide +kernel
theorem dX12_chain_64 : decode cX12_chain 64 = .ok (.getfield 49, 3) := by decide +kernel
theorem dX12_chain_67 : decode cX12_chain 67 = .ok (.iload_n 3, 1) := by decide +kernel
theorem dX12_chain_68 : decode cX12_chain 68 = .ok (.iaload, 1) := by decide +kernel
theorem dX12_chain_69 : decode cX12_chain 69 = .ok (.aload_n 0, 1) := by decide +kernel
theorem dX12_chain_70 : decode cX12_chain 70 = .ok (.getfield 52, 3) := by decide +kernel
theorem dX12_chain_73 : decode cX12_chain 73 = .ok (.iload_n 3, 1) := by decide +kernel
theorem dX12_chain_74 : decode cX12_chain 74 = .ok (.iaload, 1) := by decide +kernel
theorem dX12_chain_75 : decode cX12_chain 75 = .ok (.invokevirtual 248, 3) := by decide +kernel
theorem dX12_chain_78 : decode cX12_chain 78 = .ok (.istore 6, 2) := by decide +kernel
theorem dX12_chain_80 : decode cX12_chain 80 = .ok (.aload_n 0, 1) := by decide +kernel
theorem dX12_chain_81 : decode cX12_chain 81 = .ok (.aload_n 0, 1) := by decide +kernel
theorem dX12_chain_82 : decode cX12_chain 82 = .ok (.getfield 49, 3) := by decide +kernel
theorem dX12_chain_85 : decode cX12_chain 85 = .ok (.iload 5, 2) := by decide +kernel
theorem dX12_chain_87 : decode cX12_chain 87 = .ok (.iaload, 1) := by decide +kernel
theorem dX12_chain_88 : decode cX12_chain 88 = .ok (.aload_n 0, 1) := by decide +kernel
theorem dX12_chain_89 : decode cX12_chain 89 = .ok (.getfield 52, 3) := by decide +kernel
theorem dX12_chain_92 : decode cX12_chain 92 = .ok (.iload 5, 2) := by decide +kernel
theorem dX12_chain_94 : decode cX12_chain 94 = .ok (.iaload, 1) := by decide +kernel
theorem dX12_chain_95 : decode cX12_chain 95 = .ok (.invokevirtual 248, 3) := by decide +kernel
theorem dX12_chain_98 : decode cX12_chain 98 = .ok (.istore 7, 2) := by decide +kernel
theorem dX12_chain_100 : decode cX12_chain 100 = .ok (.iload_n 2, 1) := by decide +kernel
theorem dX12_chain_101 : decode cX12_chain 101 = .ok (.iload 6, 2) := by decide +kernel
theorem dX12_chain_103 : decode cX12_chain 103 = .ok (.ifCond .lt 18, 3) := by decide +kernel
theorem dX12_chain_106 : decode cX12_chain 106 = .ok (.iload 7, 2) := by decide +kernel
theorem dX12_chain_108 : decode cX12_chain 108 = .ok (.ifCond .lt 13, 3) := by decide +kernel
theorem dX12_chain_111 : decode cX12_chain 111 = .ok (.iload 6, 2) := by decide +kernel
theorem dX12_chain_113 : decode cX12_chain 113 = .ok (.iload 7, 2) := by decide +kernel
theorem dX12_chain_115 : decode cX12_chain 115 = .ok (.invokestatic 308, 3) := by decide +kernel
theorem dX12_chain_118 : decode cX12_chain 118 = .ok (.goto 4, 3) := by decide +kernel
theorem dX12_chain_121 : decode cX12_chain 121 = .ok (.iconst 0, 1) := by decide +kernel
theorem dX12_chain_122 : decode cX12_chain 122 = .ok (.iadd, 1) := by decide +kernel
theorem dX12_chain_123 : decode cX12_chain 123 = .ok (.istore_n 2, 1) := by decide +kernel
theorem dX12_chain_124 : decode cX12_chain 124 = .ok (.iload 5, 2) := by decide +kernel
theorem dX12_chain_126 : decode cX12_chain 126 = .ok (.istore_n 3, 1) := by decide +kernel
theorem dX12_chain_127 : decode cX12_chain 127 = .ok (.iinc 4 1, 3) := by decide +kernel
theorem dX12_chain_130 : decode cX12_chain 130 = .ok (.goto (-110), 3) := by decide +kernel
theorem dX12_chain_133 : decode cX12_chain 133 = .ok (.iload_n 2, 1) := by decide +kernel
theorem dX12_chain_134 : decode cX12_chain 134 = .ok (.ireturn, 1) := by decide +kernel
theorem dX12_asks_0 : decode cX12_asks 0 = .ok (.aload_n 0, 1) := by decide +kernel
theorem dX12_asks_1 : decode cX12_asks 1 = .ok (.iload_n 1, 1) := by decide +kernel
theorem dX12_asks_2 : decode cX12_asks 2 = .ok (.invokevirtual 230, 3) := by decide +kernel
theorem dX12_asks_5 : decode cX12_asks 5 = .ok (.ifCond .eq 20, 3) := by decide +kernel
theorem dX12_asks_8 : decode cX12_asks 8 = .ok (.aload_n 0, 1) := by decide +kernel
theorem dX12_asks_9 : decode cX12_asks 9 = .ok (.getfield 22, 3) := by decide +kernel
theorem dX12_asks_12 : decode cX12_asks 12 = .ok (.iload_n 1, 1) := by decide +kernel
theorem dX12_asks_13 : decode cX12_asks 13 = .ok (.iaload, 1) := by decide +kernel
theorem dX12_asks_14 : decode cX12_asks 14 = .ok (.ifCond .ge 11, 3) := by decide +kernel
theorem dX12_asks_17 : decode cX12_asks 17 = .ok (.aload_n 0, 1) := by decide +kernel
theorem dX12_asks_18 : decode cX12_asks 18 = .ok (.iload_n 2, 1) := by decide +kernel
theorem dX12_asks_19 : decode cX12_asks 19 = .ok (.invokevirtual 224, 3) := by decide +kernel
theorem dX12_asks_22 : decode cX12_asks 22 = .ok (.ifCond .ne 5, 3) := by decide +kernel
theorem dX12_asks_25 : decode cX12_asks 25 = .ok (.iconst (-1), 1) := by decide +kernel
theorem dX12_asks_26 : decode cX12_asks 26 = .ok (.ireturn, 1) := by decide +kernel
theorem dX12_asks_27 : decode cX12_asks 27 = .ok (.iconst 0, 1) := by decide +kernel
theorem dX12_asks_28 : decode cX12_asks 28 = .ok (.istore_n 3, 1) := by decide +kernel
theorem dX12_asks_29 : decode cX12_asks 29 = .ok (.iload_n 3, 1) := by decide +kernel
theorem dX12_asks_30 : decode cX12_asks 30 = .ok (.aload_n 0, 1) := by decide +kernel
theorem dX12_asks_31 : decode cX12_asks 31 = .ok (.getfield 130, 3) := by decide +kernel
theorem dX12_asks_34 : decode cX12_asks 34 = .ok (.iload_n 2, 1) := by decide +kernel
theorem dX12_asks_35 : decode cX12_asks 35 = .ok (.baload, 1) := by decide +kernel
theorem dX12_asks_36 : decode cX12_asks 36 = .ok (.if_icmp .ge 26, 3) := by decide +kernel
theorem dX12_asks_39 : decode cX12_asks 39 = .ok (.aload_n 0, 1) := by decide +kernel
theorem dX12_asks_40 : decode cX12_asks 40 = .ok (.getfield 133, 3) := by decide +kernel
theorem dX12_asks_43 : decode cX12_asks 43 = .ok (.bipush 8, 2) := by decide +kernel
theorem dX12_asks_45 : decode cX12_asks 45 = .ok (.iload_n 2, 1) := by decide +kernel
theorem dX12_asks_46 : decode cX12_asks 46 = .ok (.imul, 1) := by decide +kernel
theorem dX12_asks_47 : decode cX12_asks 47 = .ok (.iload_n 3, 1) := by decide +kernel
theorem dX12_asks_48 : decode cX12_asks 48 = .ok (.iadd, 1) := by decide +kernel
theorem dX12_asks_49 : decode cX12_asks 49 = .ok (.saload, 1) := by decide +kernel
theorem dX12_asks_50 : decode cX12_asks 50 = .ok (.iload_n 1, 1) := by decide +kernel
theorem dX12_asks_51 : decode cX12_asks 51 = .ok (.if_icmp .ne 5, 3) := by decide +kernel
theorem dX12_asks_54 : decode cX12_asks 54 = .ok (.iconst (-1), 1) := by decide +kernel
theorem dX12_asks_55 : decode cX12_asks 55 = .ok (.ireturn, 1) := by decide +kernel
theorem dX12_asks_56 : decode cX12_asks 56 = .ok (.iinc 3 1, 3) := by decide +kernel
theorem dX12_asks_59 : decode cX12_asks 59 = .ok (.goto (-30), 3) := by decide +kernel
theorem dX12_asks_62 : decode cX12_asks 62 = .ok (.aload_n 0, 1) := by decide +kernel
theorem dX12_asks_63 : decode cX12_asks 63 = .ok (.getfield 22, 3) := by decide +kernel
theorem dX12_asks_66 : decode cX12_asks 66 = .ok (.aload_n 0, 1) := by decide +kernel
theorem dX12_asks_67 : decode cX12_asks 67 = .ok (.getfield 25, 3) := by decide +kernel
theorem dX12_asks_70 : decode cX12_asks 70 = .ok (.iload_n 2, 1) := by decide +kernel
theorem dX12_asks_71 : decode cX12_asks 71 = .ok (.iaload, 1) := by decide +kernel
theorem dX12_asks_72 : decode cX12_asks 72 = .ok (.iaload, 1) := by decide +kernel
theorem dX12_asks_73 : decode cX12_asks 73 = .ok (.ifCond .ge 6, 3) := by decide +kernel
theorem dX12_asks_76 : decode cX12_asks 76 = .ok (.bipush (-2), 2) := by decide +kernel
theorem dX12_asks_78 : decode cX12_asks 78 = .ok (.ireturn, 1) := by decide +kernel
theorem dX12_asks_79 : decode cX12_asks 79 = .ok (.aload_n 0, 1) := by decide +kernel
theorem dX12_asks_80 : decode cX12_asks 80 = .ok (.getfield 130, 3) := by decide +kernel
theorem dX12_asks_83 : decode cX12_asks 83 = .ok (.iload_n 2, 1) := by decide +kernel
theorem dX12_asks_84 : decode cX12_asks 84 = .ok (.baload, 1) := by decide +kernel
theorem dX12_asks_85 : decode cX12_asks 85 = .ok (.bipush 8, 2) := by decide +kernel
theorem dX12_asks_87 : decode cX12_asks 87 = .ok (.if_icmp .ne 6, 3) := by decide +kernel
theorem dX12_asks_90 : decode cX12_asks 90 = .ok (.bipush (-3), 2) := by decide +kernel
theorem dX12_asks_92 : decode cX12_asks 92 = .ok (.ireturn, 1) := by decide +kernel
theorem dX12_asks_93 : decode cX12_asks 93 = .ok (.aload_n 0, 1) := by decide +kernel
theorem dX12_asks_94 : decode cX12_asks 94 = .ok (.getfield 133, 3) := by decide +kernel
theorem dX12_asks_97 : decode cX12_asks 97 = .ok (.bipush 8, 2) := by decide +kernel
theorem dX12_asks_99 : decode cX12_asks 99 = .ok (.iload_n 2, 1) := by decide +kernel
theorem dX12_asks_100 : decode cX12_asks 100 = .ok (.imul, 1) := by decide +kernel
theorem dX12_asks_101 : decode cX12_asks 101 = .ok (.aload_n 0, 1) := by decide +kernel
theorem dX12_asks_102 : decode cX12_asks 102 = .ok (.getfield 130, 3) := by decide +kernel
theorem dX12_asks_105 : decode cX12_asks 105 = .ok (.iload_n 2, 1) := by decide +kernel
theorem dX12_asks_106 : decode cX12_asks 106 = .ok (.baload, 1) := by decide +kernel
theorem dX12_asks_107 : decode cX12_asks 107 = .ok (.iadd, 1) := by decide +kernel
theorem dX12_asks_108 : decode cX12_asks 108 = .ok (.iload_n 1, 1) := by decide +kernel
theorem dX12_asks_109 : decode cX12_asks 109 = .ok (.i2s, 1) := by decide +kernel
theorem dX12_asks_110 : decode cX12_asks 110 = .ok (.sastore, 1) := by decide +kernel
theorem dX12_asks_111 : decode cX12_asks 111 = .ok (.aload_n 0, 1) := by decide +kernel
theorem dX12_asks_112 : decode cX12_asks 112 = .ok (.getfield 130, 3) := by decide +kernel
theorem dX12_asks_115 : decode cX12_asks 115 = .ok (.iload_n 2, 1) := by decide +kernel
theorem dX12_asks_116 : decode cX12_asks 116 = .ok (.dup2, 1) := by decide +kernel
theorem dX12_asks_117 : decode cX12_asks 117 = .ok (.baload, 1) := by decide +kernel
theorem dX12_asks_118 : decode cX12_asks 118 = .ok (.iconst 1, 1) := by decide +kernel
theorem dX12_asks_119 : decode cX12_asks 119 = .ok (.iadd, 1) := by decide +kernel
theorem dX12_asks_120 : decode cX12_asks 120 = .ok (.i2b, 1) := by decide +kernel
theorem dX12_asks_121 : decode cX12_asks 121 = .ok (.bastore, 1) := by decide +kernel
theorem dX12_asks_122 : decode cX12_asks 122 = .ok (.aload_n 0, 1) := by decide +kernel
theorem dX12_asks_123 : decode cX12_asks 123 = .ok (.getfield 130, 3) := by decide +kernel
theorem dX12_asks_126 : decode cX12_asks 126 = .ok (.iload_n 2, 1) := by decide +kernel
theorem dX12_asks_127 : decode cX12_asks 127 = .ok (.baload, 1) := by decide +kernel
theorem dX12_asks_128 : decode cX12_asks 128 = .ok (.ireturn, 1) := by decide +kernel
theorem dX12_takerOf_0 : decode cX12_takerOf 0 = .ok (.bipush (-2), 2) := by decide +kernel
theorem dX12_takerOf_2 : decode cX12_takerOf 2 = .ok (.istore_n 2, 1) := by decide +kernel
theorem dX12_takerOf_3 : decode cX12_takerOf 3 = .ok (.iconst 0, 1) := by decide +kernel
theorem dX12_takerOf_4 : decode cX12_takerOf 4 = .ok (.istore_n 3, 1) := by decide +kernel
theorem dX12_takerOf_5 : decode cX12_takerOf 5 = .ok (.iconst 0, 1) := by decide +kernel
theorem dX12_takerOf_6 : decode cX12_takerOf 6 = .ok (.istore 4, 2) := by decide +kernel
theorem dX12_takerOf_8 : decode cX12_takerOf 8 = .ok (.iload 4, 2) := by decide +kernel
theorem dX12_takerOf_10 : decode cX12_takerOf 10 = .ok (.aload_n 0, 1) := by decide +kernel
theorem dX12_takerOf_11 : decode cX12_takerOf 11 = .ok (.getfield 130, 3) := by decide +kernel
theorem dX12_takerOf_14 : decode cX12_takerOf 14 = .ok (.iload_n 1, 1) := by decide +kernel
theorem dX12_takerOf_15 : decode cX12_takerOf 15 = .ok (.baload, 1) := by decide +kernel
theorem dX12_takerOf_16 : decode cX12_takerOf 16 = .ok (.if_icmp .ge 101, 3) := by decide +kernel
theorem dX12_takerOf_19 : decode cX12_takerOf 19 = .ok (.aload_n 0, 1) := by decide +kernel
theorem dX12_takerOf_20 : decode cX12_takerOf 20 = .ok (.getfield 133, 3) := by decide +kernel
theorem dX12_takerOf_23 : decode cX12_takerOf 23 = .ok (.bipush 8, 2) := by decide +kernel
theorem dX12_takerOf_25 : decode cX12_takerOf 25 = .ok (.iload_n 1, 1) := by decide +kernel
theorem dX12_takerOf_26 : decode cX12_takerOf 26 = .ok (.imul, 1) := by decide +kernel
theorem dX12_takerOf_27 : decode cX12_takerOf 27 = .ok (.iload 4, 2) := by decide +kernel
theorem dX12_takerOf_29 : decode cX12_takerOf 29 = .ok (.iadd, 1) := by decide +kernel
theorem dX12_takerOf_30 : decode cX12_takerOf 30 = .ok (.saload, 1) := by decide +kernel
theorem dX12_takerOf_31 : decode cX12_takerOf 31 = .ok (.istore 5, 2) := by decide +kernel
theorem dX12_takerOf_33 : decode cX12_takerOf 33 = .ok (.aload_n 0, 1) := by decide +kernel
theorem dX12_takerOf_34 : decode cX12_takerOf 34 = .ok (.getfield 16, 3) := by decide +kernel
theorem dX12_takerOf_37 : decode cX12_takerOf 37 = .ok (.iload 5, 2) := by decide +kernel
theorem dX12_takerOf_39 : decode cX12_takerOf 39 = .ok (.iaload, 1) := by decide +kernel
theorem dX12_takerOf_40 : decode cX12_takerOf 40 = .ok (.aload_n 0, 1) := by decide +kernel
theorem dX12_takerOf_41 : decode cX12_takerOf 41 = .ok (.iload_n 1, 1) := by decide +kernel
theorem dX12_takerOf_42 : decode cX12_takerOf 42 = .ok (.invokevirtual 242, 3) := by decide +kernel
theorem dX12_takerOf_45 : decode cX12_takerOf 45 = .ok (.invokestatic 308, 3) := by decide +kernel
theorem dX12_takerOf_48 : decode cX12_takerOf 48 = .ok (.istore 6, 2) := by decide +kernel
theorem dX12_takerOf_50 : decode cX12_takerOf 50 = .ok (.aload_n 0, 1) := by decide +kernel
theorem dX12_takerOf_51 : decode cX12_takerOf 51 = .ok (.getfield 22, 3) := by decide +kernel
theorem dX12_takerOf_54 : decode cX12_takerOf 54 = .ok (.iload 5, 2) := by decide +kernel
theorem dX12_takerOf_56 : decode cX12_takerOf 56 = .ok (.iaload, 1) := by decide +kernel
theorem dX12_takerOf_57 : decode cX12_takerOf 57 = .ok (.ifCond .ge 54, 3) := by decide +kernel
theorem dX12_takerOf_60 : decode cX12_takerOf 60 = .ok (.aload_n 0, 1) := by decide +kernel
theorem dX12_takerOf_61 : decode cX12_takerOf 61 = .ok (.iload 5, 2) := by decide +kernel
theorem dX12_takerOf_63 : decode cX12_takerOf 63 = .ok (.aload_n 0, 1) := by decide +kernel
theorem dX12_takerOf_64 : decode cX12_takerOf 64 = .ok (.getfield 13, 3) := by decide +kernel
theorem dX12_takerOf_67 : decode cX12_takerOf 67 = .ok (.iload_n 1, 1) := by decide +kernel
theorem dX12_takerOf_68 : decode cX12_takerOf 68 = .ok (.iaload, 1) := by decide +kernel
theorem dX12_takerOf_69 : decode cX12_takerOf 69 = .ok (.iload 6, 2) := by decide +kernel
theorem dX12_takerOf_71 : decode cX12_takerOf 71 = .ok (.invokevirtual 445, 3) := by decide +kernel
theorem dX12_takerOf_74 : decode cX12_takerOf 74 = .ok (.ifCond .ne 6, 3) := by decide +kernel
theorem dX12_takerOf_77 : decode cX12_takerOf 77 = .ok (.goto 34, 3) := by decide +kernel
theorem dX12_takerOf_80 : decode cX12_takerOf 80 = .ok (.iload_n 2, 1) := by decide +kernel
theorem dX12_takerOf_81 : decode cX12_takerOf 81 = .ok (.ifCond .lt 24, 3) := by decide +kernel
theorem dX12_takerOf_84 : decode cX12_takerOf 84 = .ok (.iload 6, 2) := by decide +kernel
theorem dX12_takerOf_86 : decode cX12_takerOf 86 = .ok (.iload_n 3, 1) := by decide +kernel
theorem dX12_takerOf_87 : decode cX12_takerOf 87 = .ok (.if_icmp .gt 24, 3) := by decide +kernel
theorem dX12_takerOf_90 : decode cX12_takerOf 90 = .ok (.iload 6, 2) := by decide +kernel
theorem dX12_takerOf_92 : decode cX12_takerOf 92 = .ok (.iload_n 3, 1) := by decide +kernel
theorem dX12_takerOf_93 : decode cX12_takerOf 93 = .ok (.if_icmp .ne 12, 3) := by decide +kernel
theorem dX12_takerOf_96 : decode cX12_takerOf 96 = .ok (.iload 5, 2) := by decide +kernel
theorem dX12_takerOf_98 : decode cX12_takerOf 98 = .ok (.iload_n 2, 1) := by decide +kernel
theorem dX12_takerOf_99 : decode cX12_takerOf 99 = .ok (.if_icmp .le 6, 3) := by decide +kernel
theorem dX12_takerOf_102 : decode cX12_takerOf 102 = .ok (.goto 9, 3) := by decide +kernel
theorem dX12_takerOf_105 : decode cX12_takerOf 105 = .ok (.iload 5, 2) := by decide +kernel
theorem dX12_takerOf_107 : decode cX12_takerOf 107 = .ok (.istore_n 2, 1) := by decide +kernel
theorem dX12_takerOf_108 : decode cX12_takerOf 108 = .ok (.iload 6, 2) := by decide +kernel
theorem dX12_takerOf_110 : decode cX12_takerOf 110 = .ok (.istore_n 3, 1) := by decide +kernel
theorem dX12_takerOf_111 : decode cX12_takerOf 111 = .ok (.iinc 4 1, 3) := by decide +kernel
theorem dX12_takerOf_114 : decode cX12_takerOf 114 = .ok (.goto (-106), 3) := by decide +kernel
theorem dX12_takerOf_117 : decode cX12_takerOf 117 = .ok (.iload_n 2, 1) := by decide +kernel
theorem dX12_takerOf_118 : decode cX12_takerOf 118 = .ok (.ireturn, 1) := by decide +kernel
theorem dX12_taker_0 : decode cX12_taker 0 = .ok (.aload_n 0, 1) := by decide +kernel
theorem dX12_taker_1 : decode cX12_taker 1 = .ok (.iload_n 1, 1) := by decide +kernel
theorem dX12_taker_2 : decode cX12_taker 2 = .ok (.invokevirtual 224, 3) := by decide +kernel
theorem dX12_taker_5 : decode cX12_taker 5 = .ok (.ifCond .eq 11, 3) := by decide +kernel
theorem dX12_taker_8 : decode cX12_taker 8 = .ok (.aload_n 0, 1) := by decide +kernel
theorem dX12_taker_9 : decode cX12_taker 9 = .ok (.iload_n 1, 1) := by decide +kernel
theorem dX12_taker_10 : decode cX12_taker 10 = .ok (.invokevirtual 530, 3) := by decide +kernel
theorem dX12_taker_13 : decode cX12_taker 13 = .ok (.goto 4, 3) := by decide +kernel
theorem dX12_taker_16 : decode cX12_taker 16 = .ok (.iconst (-1), 1) := by decide +kernel
theorem dX12_taker_17 : decode cX12_taker 17 = .ok (.ireturn, 1) := by decide +kernel
theorem dX12_take_0 : decode cX12_take 0 = .ok (.aload_n 0, 1) := by decide +kernel
theorem dX12_take_1 : decode cX12_take 1 = .ok (.iload_n 1, 1) := by decide +kernel
theorem dX12_take_2 : decode cX12_take 2 = .ok (.invokevirtual 224, 3) := by decide +kernel
theorem dX12_take_5 : decode cX12_take 5 = .ok (.ifCond .ne 5, 3) := by decide +kernel
theorem dX12_take_8 : decode cX12_take 8 = .ok (.iconst (-1), 1) := by decide +kernel
theorem dX12_take_9 : decode cX12_take 9 = .ok (.ireturn, 1) := by decide +kernel
theorem dX12_take_10 : decode cX12_take 10 = .ok (.aload_n 0, 1) := by decide +kernel
theorem dX12_take_11 : decode cX12_take 11 = .ok (.iload_n 1, 1) := by decide +kernel
theorem dX12_take_12 : decode cX12_take 12 = .ok (.invokevirtual 530, 3) := by decide +kernel
theorem dX12_take_15 : decode cX12_take 15 = .ok (.istore_n 2, 1) := by decide +kernel
theorem dX12_take_16 : decode cX12_take 16 = .ok (.iload_n 2, 1) := by decide +kernel
theorem dX12_take_17 : decode cX12_take 17 = .ok (.ifCond .ge 6, 3) := by decide +kernel
theorem dX12_take_20 : decode cX12_take 20 = .ok (.bipush (-2), 2) := by decide +kernel
theorem dX12_take_22 : decode cX12_take 22 = .ok (.ireturn, 1) := by decide +kernel
theorem dX12_take_23 : decode cX12_take 23 = .ok (.aload_n 0, 1) := by decide +kernel
theorem dX12_take_24 : decode cX12_take 24 = .ok (.getfield 25, 3) := by decide +kernel
theorem dX12_take_27 : decode cX12_take 27 = .ok (.iload_n 1, 1) := by decide +kernel
theorem dX12_take_28 : decode cX12_take 28 = .ok (.iload_n 2, 1) := by decide +kernel
theorem dX12_take_29 : decode cX12_take 29 = .ok (.iastore, 1) := by decide +kernel
theorem dX12_take_30 : decode cX12_take 30 = .ok (.aload_n 0, 1) := by decide +kernel
theorem dX12_take_31 : decode cX12_take 31 = .ok (.getfield 130, 3) := by decide +kernel
theorem dX12_take_34 : decode cX12_take 34 = .ok (.iload_n 1, 1) := by decide +kernel
theorem dX12_take_35 : decode cX12_take 35 = .ok (.iconst 0, 1) := by decide +kernel
theorem dX12_take_36 : decode cX12_take 36 = .ok (.bastore, 1) := by decide +kernel
theorem dX12_take_37 : decode cX12_take 37 = .ok (.iload_n 2, 1) := by decide +kernel
theorem dX12_take_38 : decode cX12_take 38 = .ok (.ireturn, 1) := by decide +kernel
theorem dX12_toPut_0 : decode cX12_toPut 0 = .ok (.iload_n 1, 1) := by decide +kernel
theorem dX12_toPut_1 : decode cX12_toPut 1 = .ok (.iconst (-1), 1) := by decide +kernel
theorem dX12_toPut_2 : decode cX12_toPut 2 = .ok (.if_icmp .ge 5, 3) := by decide +kernel
theorem dX12_toPut_5 : decode cX12_toPut 5 = .ok (.iconst (-1), 1) := by decide +kernel
theorem dX12_toPut_6 : decode cX12_toPut 6 = .ok (.ireturn, 1) := by decide +kernel
theorem dX12_toPut_7 : decode cX12_toPut 7 = .ok (.iconst 0, 1) := by decide +kernel
theorem dX12_toPut_8 : decode cX12_toPut 8 = .ok (.istore_n 2, 1) := by decide +kernel
theorem dX12_toPut_9 : decode cX12_toPut 9 = .ok (.iconst 0, 1) := by decide +kernel
theorem dX12_toPut_10 : decode cX12_toPut 10 = .ok (.istore_n 3, 1) := by decide +kernel
theorem dX12_toPut_11 : decode cX12_toPut 11 = .ok (.iload_n 3, 1) := by decide +kernel
theorem dX12_toPut_12 : decode cX12_toPut 12 = .ok (.aload_n 0, 1) := by decide +kernel
theorem dX12_toPut_13 : decode cX12_toPut 13 = .ok (.getfield 214, 3) := by decide +kernel
theorem dX12_toPut_16 : decode cX12_toPut 16 = .ok (.if_icmp .ge 38, 3) := by decide +kernel
theorem dX12_toPut_19 : decode cX12_toPut 19 = .ok (.aload_n 0, 1) := by decide +kernel
theorem dX12_toPut_20 : decode cX12_toPut 20 = .ok (.iload_n 3, 1) := by decide +kernel
theorem dX12_toPut_21 : decode cX12_toPut 21 = .ok (.invokevirtual 255, 3) := by decide +kernel
theorem dX12_toPut_24 : decode cX12_toPut 24 = .ok (.ifCond .eq 24, 3) := by decide +kernel
theorem dX12_toPut_27 : decode cX12_toPut 27 = .ok (.aload_n 0, 1) := by decide +kernel
theorem dX12_toPut_28 : decode cX12_toPut 28 = .ok (.iload_n 3, 1) := by decide +kernel
theorem dX12_toPut_29 : decode cX12_toPut 29 = .ok (.invokevirtual 448, 3) := by decide +kernel
theorem dX12_toPut_32 : decode cX12_toPut 32 = .ok (.ifCond .ne 6, 3) := by decide +kernel
theorem dX12_toPut_35 : decode cX12_toPut 35 = .ok (.goto 13, 3) := by decide +kernel
theorem dX12_toPut_38 : decode cX12_toPut 38 = .ok (.iload_n 2, 1) := by decide +kernel
theorem dX12_toPut_39 : decode cX12_toPut 39 = .ok (.iload_n 1, 1) := by decide +kernel
theorem dX12_toPut_40 : decode cX12_toPut 40 = .ok (.if_icmp .ne 5, 3) := by decide +kernel
theorem dX12_toPut_43 : decode cX12_toPut 43 = .ok (.iload_n 3, 1) := by decide +kernel
theorem dX12_toPut_44 : decode cX12_toPut 44 = .ok (.ireturn, 1) := by decide +kernel
theorem dX12_toPut_45 : decode cX12_toPut 45 = .ok (.iinc 2 1, 3) := by decide +kernel
theorem dX12_toPut_48 : decode cX12_toPut 48 = .ok (.iinc 3 1, 3) := by decide +kernel
theorem dX12_toPut_51 : decode cX12_toPut 51 = .ok (.goto (-40), 3) := by decide +kernel
theorem dX12_toPut_54 : decode cX12_toPut 54 = .ok (.iload_n 1, 1) := by decide +kernel
theorem dX12_toPut_55 : decode cX12_toPut 55 = .ok (.ifCond .ge 7, 3) := by decide +kernel
theorem dX12_toPut_58 : decode cX12_toPut 58 = .ok (.iload_n 2, 1) := by decide +kernel
theorem dX12_toPut_59 : decode cX12_toPut 59 = .ok (.goto 4, 3) := by decide +kernel
theorem dX12_toPut_62 : decode cX12_toPut 62 = .ok (.iconst (-1), 1) := by decide +kernel
theorem dX12_toPut_63 : decode cX12_toPut 63 = .ok (.ireturn, 1) := by decide +kernel
theorem dX12_putAll_0 : decode cX12_putAll 0 = .ok (.iconst 0, 1) := by decide +kernel
theorem dX12_putAll_1 : decode cX12_putAll 1 = .ok (.istore_n 1, 1) := by decide +kernel
theorem dX12_putAll_2 : decode cX12_putAll 2 = .ok (.iconst 0, 1) := by decide +kernel
theorem dX12_putAll_3 : decode cX12_putAll 3 = .ok (.istore_n 2, 1) := by decide +kernel
theorem dX12_putAll_4 : decode cX12_putAll 4 = .ok (.iload_n 2, 1) := by decide +kernel
theorem dX12_putAll_5 : decode cX12_putAll 5 = .ok (.aload_n 0, 1) := by decide +kernel
theorem dX12_putAll_6 : decode cX12_putAll 6 = .ok (.getfield 214, 3) := by decide +kernel
theorem dX12_putAll_9 : decode cX12_putAll 9 = .ok (.if_icmp .ge 36, 3) := by decide +kernel
theorem dX12_putAll_12 : decode cX12_putAll 12 = .ok (.aload_n 0, 1) := by decide +kernel
theorem dX12_putAll_13 : decode cX12_putAll 13 = .ok (.getfield 136, 3) := by decide +kernel
theorem dX12_putAll_16 : decode cX12_putAll 16 = .ok (.iload_n 2, 1) := by decide +kernel
theorem dX12_putAll_17 : decode cX12_putAll 17 = .ok (.aload_n 0, 1) := by decide +kernel
theorem dX12_putAll_18 : decode cX12_putAll 18 = .ok (.iload_n 2, 1) := by decide +kernel
theorem dX12_putAll_19 : decode cX12_putAll 19 = .ok (.invokevirtual 255, 3) := by decide +kernel
theorem dX12_putAll_22 : decode cX12_putAll 22 = .ok (.ifCond .eq 15, 3) := by decide +kernel
theorem dX12_putAll_25 : decode cX12_putAll 25 = .ok (.aload_n 0, 1) := by decide +kernel
theorem dX12_putAll_26 : decode cX12_putAll 26 = .ok (.iload_n 2, 1) := by decide +kernel
theorem dX12_putAll_27 : decode cX12_putAll 27 = .ok (.invokevirtual 448, 3) := by decide +kernel
theorem dX12_putAll_30 : decode cX12_putAll 30 = .ok (.ifCond .eq 7, 3) := by decide +kernel
theorem dX12_putAll_33 : decode cX12_putAll 33 = .ok (.iconst 1, 1) := by decide +kernel
theorem dX12_putAll_34 : decode cX12_putAll 34 = .ok (.goto 4, 3) := by decide +kernel
theorem dX12_putAll_37 : decode cX12_putAll 37 = .ok (.iconst 0, 1) := by decide +kernel
theorem dX12_putAll_38 : decode cX12_putAll 38 = .ok (.bastore, 1) := by decide +kernel
theorem dX12_putAll_39 : decode cX12_putAll 39 = .ok (.iinc 2 1, 3) := by decide +kernel
theorem dX12_putAll_42 : decode cX12_putAll 42 = .ok (.goto (-38), 3) := by decide +kernel
theorem dX12_putAll_45 : decode cX12_putAll 45 = .ok (.iconst 0, 1) := by decide +kernel
theorem dX12_putAll_46 : decode cX12_putAll 46 = .ok (.istore_n 2, 1) := by decide +kernel
theorem dX12_putAll_47 : decode cX12_putAll 47 = .ok (.iload_n 2, 1) := by decide +kernel
theorem dX12_putAll_48 : decode cX12_putAll 48 = .ok (.aload_n 0, 1) := by decide +kernel
theorem dX12_putAll_49 : decode cX12_putAll 49 = .ok (.getfield 214, 3) := by decide +kernel
theorem dX12_putAll_52 : decode cX12_putAll 52 = .ok (.if_icmp .ge 34, 3) := by decide +kernel
theorem dX12_putAll_55 : decode cX12_putAll 55 = .ok (.aload_n 0, 1) := by decide +kernel
theorem dX12_putAll_56 : decode cX12_putAll 56 = .ok (.getfield 136, 3) := by decide +kernel
theorem dX12_putAll_59 : decode cX12_putAll 59 = .ok (.iload_n 2, 1) := by decide +kernel
theorem dX12_putAll_60 : decode cX12_putAll 60 = .ok (.baload, 1) := by decide +kernel
theorem dX12_putAll_61 : decode cX12_putAll 61 = .ok (.ifCond .ne 6, 3) := by decide +kernel
theorem dX12_putAll_64 : decode cX12_putAll 64 = .ok (.goto 16, 3) := by decide +kernel
theorem dX12_putAll_67 : decode cX12_putAll 67 = .ok (.aload_n 0, 1) := by decide +kernel
theorem dX12_putAll_68 : decode cX12_putAll 68 = .ok (.getfield 22, 3) := by decide +kernel
theorem dX12_putAll_71 : decode cX12_putAll 71 = .ok (.iload_n 2, 1) := by decide +kernel
theorem dX12_putAll_72 : decode cX12_putAll 72 = .ok (.aload_n 0, 1) := by decide +kernel
theorem dX12_putAll_73 : decode cX12_putAll 73 = .ok (.getfield 203, 3) := by decide +kernel
theorem dX12_putAll_76 : decode cX12_putAll 76 = .ok (.iastore, 1) := by decide +kernel
theorem dX12_putAll_77 : decode cX12_putAll 77 = .ok (.iinc 1 1, 3) := by decide +kernel
theorem dX12_putAll_80 : decode cX12_putAll 80 = .ok (.iinc 2 1, 3) := by decide +kernel
theorem dX12_putAll_83 : decode cX12_putAll 83 = .ok (.goto (-36), 3) := by decide +kernel
theorem dX12_putAll_86 : decode cX12_putAll 86 = .ok (.iload_n 1, 1) := by decide +kernel
theorem dX12_putAll_87 : decode cX12_putAll 87 = .ok (.ireturn, 1) := by decide +kernel
theorem dX12_wish_0 : decode cX12_wish 0 = .ok (.aload_n 0, 1) := by decide +kernel
theorem dX12_wish_1 : decode cX12_wish 1 = .ok (.iload_n 1, 1) := by decide +kernel
theorem dX12_wish_2 : decode cX12_wish 2 = .ok (.invokevirtual 255, 3) := by decide +kernel
theorem dX12_wish_5 : decode cX12_wish 5 = .ok (.ifCond .eq 23, 3) := by decide +kernel
theorem dX12_wish_8 : decode cX12_wish 8 = .ok (.iload_n 2, 1) := by decide +kernel
theorem dX12_wish_9 : decode cX12_wish 9 = .ok (.iconst 1, 1) := by decide +kernel
theorem dX12_wish_10 : decode cX12_wish 10 = .ok (.bipush 99, 2) := by decide +kernel
theorem dX12_wish_12 : decode cX12_wish 12 = .ok (.invokestatic 195, 3) := by decide +kernel
theorem dX12_wish_15 : decode cX12_wish 15 = .ok (.ifCond .eq 13, 3) := by decide +kernel
theorem dX12_wish_18 : decode cX12_wish 18 = .ok (.iload_n 3, 1) := by decide +kernel
theorem dX12_wish_19 : decode cX12_wish 19 = .ok (.iconst 0, 1) := by decide +kernel
theorem dX12_wish_20 : decode cX12_wish 20 = .ok (.bipush 9, 2) := by decide +kernel
theorem dX12_wish_22 : decode cX12_wish 22 = .ok (.invokestatic 195, 3) := by decide +kernel
theorem dX12_wish_25 : decode cX12_wish 25 = .ok (.ifCond .ne 5, 3) := by decide +kernel
theorem dX12_wish_28 : decode cX12_wish 28 = .ok (.iconst (-1), 1) := by decide +kernel
theorem dX12_wish_29 : decode cX12_wish 29 = .ok (.ireturn, 1) := by decide +kernel
theorem dX12_wish_30 : decode cX12_wish 30 = .ok (.iconst 0, 1) := by decide +kernel
theorem dX12_wish_31 : decode cX12_wish 31 = .ok (.istore 4, 2) := by decide +kernel
theorem dX12_wish_33 : decode cX12_wish 33 = .ok (.iload 4, 2) := by decide +kernel
theorem dX12_wish_35 : decode cX12_wish 35 = .ok (.aload_n 0, 1) := by decide +kernel
theorem dX12_wish_36 : decode cX12_wish 36 = .ok (.getfield 533, 3) := by decide +kernel
theorem dX12_wish_39 : decode cX12_wish 39 = .ok (.if_icmp .ge 22, 3) := by decide +kernel
theorem dX12_wish_42 : decode cX12_wish 42 = .ok (.aload_n 0, 1) := by decide +kernel
theorem dX12_wish_43 : decode cX12_wish 43 = .ok (.getfield 139, 3) := by decide +kernel
theorem dX12_wish_46 : decode cX12_wish 46 = .ok (.iload 4, 2) := by decide +kernel
theorem dX12_wish_48 : decode cX12_wish 48 = .ok (.iaload, 1) := by decide +kernel
theorem dX12_wish_49 : decode cX12_wish 49 = .ok (.iload_n 1, 1) := by decide +kernel
theorem dX12_wish_50 : decode cX12_wish 50 = .ok (.if_icmp .ne 5, 3) := by decide +kernel
theorem dX12_wish_53 : decode cX12_wish 53 = .ok (.iconst (-1), 1) := by decide +kernel
theorem dX12_wish_54 : decode cX12_wish 54 = .ok (.ireturn, 1) := by decide +kernel
theorem dX12_wish_55 : decode cX12_wish 55 = .ok (.iinc 4 1, 3) := by decide +kernel
theorem dX12_wish_58 : decode cX12_wish 58 = .ok (.goto (-25), 3) := by decide +kernel
theorem dX12_wish_61 : decode cX12_wish 61 = .ok (.aload_n 0, 1) := by decide +kernel
theorem dX12_wish_62 : decode cX12_wish 62 = .ok (.getfield 533, 3) := by decide +kernel
theorem dX12_wish_65 : decode cX12_wish 65 = .ok (.bipush 7, 2) := by decide +kernel
theorem dX12_wish_67 : decode cX12_wish 67 = .ok (.if_icmp .ne 6, 3) := by decide +kernel
theorem dX12_wish_70 : decode cX12_wish 70 = .ok (.bipush (-3), 2) := by decide +kernel
theorem dX12_wish_72 : decode cX12_wish 72 = .ok (.ireturn, 1) := by decide +kernel
theorem dX12_wish_73 : decode cX12_wish 73 = .ok (.aload_n 0, 1) := by decide +kernel
theorem dX12_wish_74 : decode cX12_wish 74 = .ok (.getfield 139, 3) := by decide +kernel
theorem dX12_wish_77 : decode cX12_wish 77 = .ok (.aload_n 0, 1) := by decide +kernel
theorem dX12_wish_78 : decode cX12_wish 78 = .ok (.getfield 533, 3) := by decide +kernel
theorem dX12_wish_81 : decode cX12_wish 81 = .ok (.iload_n 1, 1) := by decide +kernel
theorem dX12_wish_82 : decode cX12_wish 82 = .ok (.iastore, 1) := by decide +kernel
theorem dX12_wish_83 : decode cX12_wish 83 = .ok (.aload_n 0, 1) := by decide +kernel
theorem dX12_wish_84 : decode cX12_wish 84 = .ok (.getfield 142, 3) := by decide +kernel
theorem dX12_wish_87 : decode cX12_wish 87 = .ok (.aload_n 0, 1) := by decide +kernel
theorem dX12_wish_88 : decode cX12_wish 88 = .ok (.getfield 533, 3) := by decide +kernel
theorem dX12_wish_91 : decode cX12_wish 91 = .ok (.iload_n 2, 1) := by decide +kernel
theorem dX12_wish_92 : decode cX12_wish 92 = .ok (.iastore, 1) := by decide +kernel
theorem dX12_wish_93 : decode cX12_wish 93 = .ok (.aload_n 0, 1) := by decide +kernel
theorem dX12_wish_94 : decode cX12_wish 94 = .ok (.getfield 145, 3) := by decide +kernel
theorem dX12_wish_97 : decode cX12_wish 97 = .ok (.aload_n 0, 1) := by decide +kernel
theorem dX12_wish_98 : decode cX12_wish 98 = .ok (.getfield 533, 3) := by decide +kernel
theorem dX12_wish_101 : decode cX12_wish 101 = .ok (.iload_n 3, 1) := by decide +kernel
theorem dX12_wish_102 : decode cX12_wish 102 = .ok (.iastore, 1) := by decide +kernel
theorem dX12_wish_103 : decode cX12_wish 103 = .ok (.aload_n 0, 1) := by decide +kernel
theorem dX12_wish_104 : decode cX12_wish 104 = .ok (.dup, 1) := by decide +kernel
theorem dX12_wish_105 : decode cX12_wish 105 = .ok (.getfield 533, 3) := by decide +kernel
theorem dX12_wish_108 : decode cX12_wish 108 = .ok (.iconst 1, 1) := by decide +kernel
theorem dX12_wish_109 : decode cX12_wish 109 = .ok (.iadd, 1) := by decide +kernel
theorem dX12_wish_110 : decode cX12_wish 110 = .ok (.putfield 533, 3) := by decide +kernel
theorem dX12_wish_113 : decode cX12_wish 113 = .ok (.aload_n 0, 1) := by decide +kernel
theorem dX12_wish_114 : decode cX12_wish 114 = .ok (.getfield 533, 3) := by decide +kernel
theorem dX12_wish_117 : decode cX12_wish 117 = .ok (.ireturn, 1) := by decide +kernel
theorem dX12_hoursFor_0 : decode cX12_hoursFor 0 = .ok (.iload_n 0, 1) := by decide +kernel
theorem dX12_hoursFor_1 : decode cX12_hoursFor 1 = .ok (.iload_n 1, 1) := by decide +kernel
theorem dX12_hoursFor_2 : decode cX12_hoursFor 2 = .ok (.invokestatic 308, 3) := by decide +kernel
theorem dX12_hoursFor_5 : decode cX12_hoursFor 5 = .ok (.iconst 1, 1) := by decide +kernel
theorem dX12_hoursFor_6 : decode cX12_hoursFor 6 = .ok (.iadd, 1) := by decide +kernel
theorem dX12_hoursFor_7 : decode cX12_hoursFor 7 = .ok (.iconst 2, 1) := by decide +kernel
theorem dX12_hoursFor_8 : decode cX12_hoursFor 8 = .ok (.idiv, 1) := by decide +kernel
theorem dX12_hoursFor_9 : decode cX12_hoursFor 9 = .ok (.ireturn, 1) := by decide +kernel
theorem dX12_hourBehind_0 : decode cX12_hourBehind 0 = .ok (.aload_n 0, 1) := by decide +kernel
theorem dX12_hourBehind_1 : decode cX12_hourBehind 1 = .ok (.getfield 139, 3) := by decide +kernel
theorem dX12_hourBehind_4 : decode cX12_hourBehind 4 = .ok (.iload_n 3, 1) := by decide +kernel
theorem dX12_hourBehind_5 : decode cX12_hourBehind 5 = .ok (.iaload, 1) := by decide +kernel
theorem dX12_hourBehind_6 : decode cX12_hourBehind 6 = .ok (.istore 4, 2) := by decide +kernel
theorem dX12_hourBehind_8 : decode cX12_hourBehind 8 = .ok (.iload_n 2, 1) := by decide +kernel
theorem dX12_hourBehind_9 : decode cX12_hourBehind 9 = .ok (.iload_n 1, 1) := by decide +kernel
theorem dX12_hourBehind_10 : decode cX12_hourBehind 10 = .ok (.aload_n 0, 1) := by decide +kernel
theorem dX12_hourBehind_11 : decode cX12_hourBehind 11 = .ok (.iload 4, 2) := by decide +kernel
theorem dX12_hourBehind_13 : decode cX12_hourBehind 13 = .ok (.invokevirtual 242, 3) := by decide +kernel
theorem dX12_hourBehind_16 : decode cX12_hourBehind 16 = .ok (.invokestatic 536, 3) := by decide +kernel
theorem dX12_hourBehind_19 : decode cX12_hourBehind 19 = .ok (.iadd, 1) := by decide +kernel
theorem dX12_hourBehind_20 : decode cX12_hourBehind 20 = .ok (.istore 5, 2) := by decide +kernel
theorem dX12_hourBehind_22 : decode cX12_hourBehind 22 = .ok (.aload_n 0, 1) := by decide +kernel
theorem dX12_hourBehind_23 : decode cX12_hourBehind 23 = .ok (.getfield 13, 3) := by decide +kernel
theorem dX12_hourBehind_26 : decode cX12_hourBehind 26 = .ok (.iload 4, 2) := by decide +kernel
theorem dX12_hourBehind_28 : decode cX12_hourBehind 28 = .ok (.iaload, 1) := by decide +kernel
theorem dX12_hourBehind_29 : decode cX12_hourBehind 29 = .ok (.iconst 5, 1) := by decide +kernel
theorem dX12_hourBehind_30 : decode cX12_hourBehind 30 = .ok (.if_icmp .ne 24, 3) := by decide +kernel
theorem dX12_hourBehind_33 : decode cX12_hourBehind 33 = .ok (.iload 5, 2) := by decide +kernel
theorem dX12_hourBehind_35 : decode cX12_hourBehind 35 = .ok (.bipush 24, 2) := by decide +kernel
theorem dX12_hourBehind_37 : decode cX12_hourBehind 37 = .ok (.irem, 1) := by decide +kernel
theorem dX12_hourBehind_38 : decode cX12_hourBehind 38 = .ok (.bipush 6, 2) := by decide +kernel
theorem dX12_hourBehind_40 : decode cX12_hourBehind 40 = .ok (.bipush 19, 2) := by decide +kernel
theorem dX12_hourBehind_42 : decode cX12_hourBehind 42 = .ok (.invokestatic 195, 3) := by decide +kernel
theorem dX12_hourBehind_45 : decode cX12_hourBehind 45 = .ok (.ifCond .eq 9, 3) := by decide +kernel
theorem dX12_hourBehind_48 : decode cX12_hourBehind 48 = .ok (.iinc 5 1, 3) := by decide +kernel
theorem dX12_hourBehind_51 : decode cX12_hourBehind 51 = .ok (.goto (-29), 3) := by decide +kernel
theorem dX12_hourBehind_54 : decode cX12_hourBehind 54 = .ok (.iload 5, 2) := by decide +kernel
theorem dX12_hourBehind_56 : decode cX12_hourBehind 56 = .ok (.aload_n 0, 1) := by decide +kernel
theorem dX12_hourBehind_57 : decode cX12_hourBehind 57 = .ok (.getfield 145, 3) := by decide +kernel
theorem dX12_hourBehind_60 : decode cX12_hourBehind 60 = .ok (.iload_n 3, 1) := by decide +kernel
theorem dX12_hourBehind_61 : decode cX12_hourBehind 61 = .ok (.iaload, 1) := by decide +kernel
theorem dX12_hourBehind_62 : decode cX12_hourBehind 62 = .ok (.iadd, 1) := by decide +kernel
theorem dX12_hourBehind_63 : decode cX12_hourBehind 63 = .ok (.ireturn, 1) := by decide +kernel
theorem dX12_walkOn_0 : decode cX12_walkOn 0 = .ok (.iload_n 1, 1) := by decide +kernel
theorem dX12_walkOn_1 : decode cX12_walkOn 1 = .ok (.ifCond .le 103, 3) := by decide +kernel
theorem dX12_walkOn_4 : decode cX12_walkOn 4 = .ok (.iload 4, 2) := by decide +kernel
theorem dX12_walkOn_6 : decode cX12_walkOn 6 = .ok (.iload_n 3, 1) := by decide +kernel
theorem dX12_walkOn_7 : decode cX12_walkOn 7 = .ok (.aload_n 0, 1) := by decide +kernel
theorem dX12_walkOn_8 : decode cX12_walkOn 8 = .ok (.getfield 539, 3) := by decide +kernel
theorem dX12_walkOn_11 : decode cX12_walkOn 11 = .ok (.invokestatic 536, 3) := by decide +kernel
theorem dX12_walkOn_14 : decode cX12_walkOn 14 = .ok (.iadd, 1) := by decide +kernel
theorem dX12_walkOn_15 : decode cX12_walkOn 15 = .ok (.aload_n 0, 1) := by decide +kernel
theorem dX12_walkOn_16 : decode cX12_walkOn 16 = .ok (.getfield 542, 3) := by decide +kernel
theorem dX12_walkOn_19 : decode cX12_walkOn 19 = .ok (.isub, 1) := by decide +kernel
theorem dX12_walkOn_20 : decode cX12_walkOn 20 = .ok (.istore 6, 2) := by decide +kernel
theorem dX12_walkOn_22 : decode cX12_walkOn 22 = .ok (.iload 6, 2) := by decide +kernel
theorem dX12_walkOn_24 : decode cX12_walkOn 24 = .ok (.aload_n 0, 1) := by decide +kernel
theorem dX12_walkOn_25 : decode cX12_walkOn 25 = .ok (.getfield 545, 3) := by decide +kernel
theorem dX12_walkOn_28 : decode cX12_walkOn 28 = .ok (.if_icmp .gt 76, 3) := by decide +kernel
theorem dX12_walkOn_31 : decode cX12_walkOn 31 = .ok (.iload 5, 2) := by decide +kernel
theorem dX12_walkOn_33 : decode cX12_walkOn 33 = .ok (.aload_n 0, 1) := by decide +kernel
theorem dX12_walkOn_34 : decode cX12_walkOn 34 = .ok (.getfield 548, 3) := by decide +kernel
theorem dX12_walkOn_37 : decode cX12_walkOn 37 = .ok (.if_icmp .gt 21, 3) := by decide +kernel
theorem dX12_walkOn_40 : decode cX12_walkOn 40 = .ok (.iload 5, 2) := by decide +kernel
theorem dX12_walkOn_42 : decode cX12_walkOn 42 = .ok (.aload_n 0, 1) := by decide +kernel
theorem dX12_walkOn_43 : decode cX12_walkOn 43 = .ok (.getfield 548, 3) := by decide +kernel
theorem dX12_walkOn_46 : decode cX12_walkOn 46 = .ok (.if_icmp .ne 58, 3) := by decide +kernel
theorem dX12_walkOn_49 : decode cX12_walkOn 49 = .ok (.iload 6, 2) := by decide +kernel
theorem dX12_walkOn_51 : decode cX12_walkOn 51 = .ok (.aload_n 0, 1) := by decide +kernel
theorem dX12_walkOn_52 : decode cX12_walkOn 52 = .ok (.getfield 551, 3) := by decide +kernel
theorem dX12_walkOn_55 : decode cX12_walkOn 55 = .ok (.if_icmp .ge 49, 3) := by decide +kernel
theorem dX12_walkOn_58 : decode cX12_walkOn 58 = .ok (.aload_n 0, 1) := by decide +kernel
theorem dX12_walkOn_59 : decode cX12_walkOn 59 = .ok (.iload 5, 2) := by decide +kernel
theorem dX12_walkOn_61 : decode cX12_walkOn 61 = .ok (.putfield 548, 3) := by decide +kernel
theorem dX12_walkOn_64 : decode cX12_walkOn 64 = .ok (.aload_n 0, 1) := by decide +kernel
theorem dX12_walkOn_65 : decode cX12_walkOn 65 = .ok (.iload 6, 2) := by decide +kernel
theorem dX12_walkOn_67 : decode cX12_walkOn 67 = .ok (.putfield 551, 3) := by decide +kernel
theorem dX12_walkOn_70 : decode cX12_walkOn 70 = .ok (.aload_n 0, 1) := by decide +kernel
theorem dX12_walkOn_71 : decode cX12_walkOn 71 = .ok (.iload_n 1, 1) := by decide +kernel
theorem dX12_walkOn_72 : decode cX12_walkOn 72 = .ok (.putfield 554, 3) := by decide +kernel
theorem dX12_walkOn_75 : decode cX12_walkOn 75 = .ok (.iconst 0, 1) := by decide +kernel
theorem dX12_walkOn_76 : decode cX12_walkOn 76 = .ok (.istore 7, 2) := by decide +kernel
theorem dX12_walkOn_78 : decode cX12_walkOn 78 = .ok (.iload 7, 2) := by decide +kernel
theorem dX12_walkOn_80 : decode cX12_walkOn 80 = .ok (.iload_n 1, 1) := by decide +kernel
theorem dX12_walkOn_81 : decode cX12_walkOn 81 = .ok (.if_icmp .ge 23, 3) := by decide +kernel
theorem dX12_walkOn_84 : decode cX12_walkOn 84 = .ok (.aload_n 0, 1) := by decide +kernel
theorem dX12_walkOn_85 : decode cX12_walkOn 85 = .ok (.getfield 151, 3) := by decide +kernel
theorem dX12_walkOn_88 : decode cX12_walkOn 88 = .ok (.iload 7, 2) := by decide +kernel
theorem dX12_walkOn_90 : decode cX12_walkOn 90 = .ok (.aload_n 0, 1) := by decide +kernel
theorem dX12_walkOn_91 : decode cX12_walkOn 91 = .ok (.getfield 148, 3) := by decide +kernel
theorem dX12_walkOn_94 : decode cX12_walkOn 94 = .ok (.iload 7, 2) := by decide +kernel
theorem dX12_walkOn_96 : decode cX12_walkOn 96 = .ok (.iaload, 1) := by decide +kernel
theorem dX12_walkOn_97 : decode cX12_walkOn 97 = .ok (.iastore, 1) := by decide +kernel
theorem dX12_walkOn_98 : decode cX12_walkOn 98 = .ok (.iinc 7 1, 3) := by decide +kernel
theorem dX12_walkOn_101 : decode cX12_walkOn 101 = .ok (.goto (-23), 3) := by decide +kernel
theorem dX12_walkOn_104 : decode cX12_walkOn 104 = .ok (.iload 4, 2) := by decide +kernel
theorem dX12_walkOn_106 : decode cX12_walkOn 106 = .ok (.aload_n 0, 1) := by decide +kernel
theorem dX12_walkOn_107 : decode cX12_walkOn 107 = .ok (.getfield 542, 3) := by decide +kernel
theorem dX12_walkOn_110 : decode cX12_walkOn 110 = .ok (.isub, 1) := by decide +kernel
theorem dX12_walkOn_111 : decode cX12_walkOn 111 = .ok (.aload_n 0, 1) := by decide +kernel
theorem dX12_walkOn_112 : decode cX12_walkOn 112 = .ok (.getfield 545, 3) := by decide +kernel
theorem dX12_walkOn_115 : decode cX12_walkOn 115 = .ok (.if_icmp .le 4, 3) := by decide +kernel
theorem dX12_walkOn_118 : decode cX12_walkOn 118 = .ok (.return_, 1) := by decide +kernel
theorem dX12_walkOn_119 : decode cX12_walkOn 119 = .ok (.iconst 0, 1) := by decide +kernel
theorem dX12_walkOn_120 : decode cX12_walkOn 120 = .ok (.istore 6, 2) := by decide +kernel
theorem dX12_walkOn_122 : decode cX12_walkOn 122 = .ok (.iload 6, 2) := by decide +kernel
theorem dX12_walkOn_124 : decode cX12_walkOn 124 = .ok (.aload_n 0, 1) := by decide +kernel
theorem dX12_walkOn_125 : decode cX12_walkOn 125 = .ok (.getfield 533, 3) := by decide +kernel
theorem dX12_walkOn_128 : decode cX12_walkOn 128 = .ok (.if_icmp .ge 73, 3) := by decide +kernel
theorem dX12_walkOn_131 : decode cX12_walkOn 131 = .ok (.iload_n 2, 1) := by decide +kernel
theorem dX12_walkOn_132 : decode cX12_walkOn 132 = .ok (.iload 6, 2) := by decide +kernel
theorem dX12_walkOn_134 : decode cX12_walkOn 134 = .ok (.ishr, 1) := by decide +kernel
theorem dX12_walkOn_135 : decode cX12_walkOn 135 = .ok (.iconst 1, 1) := by decide +kernel
theorem dX12_walkOn_136 : decode cX12_walkOn 136 = .ok (.iand, 1) := by decide +kernel
theorem dX12_walkOn_137 : decode cX12_walkOn 137 = .ok (.iconst 1, 1) := by decide +kernel
theorem dX12_walkOn_138 : decode cX12_walkOn 138 = .ok (.if_icmp .ne 6, 3) := by decide +kernel
theorem dX12_walkOn_141 : decode cX12_walkOn 141 = .ok (.goto 54, 3) := by decide +kernel
theorem dX12_walkOn_144 : decode cX12_walkOn 144 = .ok (.aload_n 0, 1) := by decide +kernel
theorem dX12_walkOn_145 : decode cX12_walkOn 145 = .ok (.getfield 148, 3) := by decide +kernel
theorem dX12_walkOn_148 : decode cX12_walkOn 148 = .ok (.iload_n 1, 1) := by decide +kernel
theorem dX12_walkOn_149 : decode cX12_walkOn 149 = .ok (.iload 6, 2) := by decide +kernel
theorem dX12_walkOn_151 : decode cX12_walkOn 151 = .ok (.iastore, 1) := by decide +kernel
theorem dX12_walkOn_152 : decode cX12_walkOn 152 = .ok (.aload_n 0, 1) := by decide +kernel
theorem dX12_walkOn_153 : decode cX12_walkOn 153 = .ok (.iload_n 1, 1) := by decide +kernel
theorem dX12_walkOn_154 : decode cX12_walkOn 154 = .ok (.iconst 1, 1) := by decide +kernel
theorem dX12_walkOn_155 : decode cX12_walkOn 155 = .ok (.iadd, 1) := by decide +kernel
theorem dX12_walkOn_156 : decode cX12_walkOn 156 = .ok (.iload_n 2, 1) := by decide +kernel
theorem dX12_walkOn_157 : decode cX12_walkOn 157 = .ok (.iconst 1, 1) := by decide +kernel
theorem dX12_walkOn_158 : decode cX12_walkOn 158 = .ok (.iload 6, 2) := by decide +kernel
theorem dX12_walkOn_160 : decode cX12_walkOn 160 = .ok (.ishl, 1) := by decide +kernel
theorem dX12_walkOn_161 : decode cX12_walkOn 161 = .ok (.ior, 1) := by decide +kernel
theorem dX12_walkOn_162 : decode cX12_walkOn 162 = .ok (.aload_n 0, 1) := by decide +kernel
theorem dX12_walkOn_163 : decode cX12_walkOn 163 = .ok (.aload_n 0, 1) := by decide +kernel
theorem dX12_walkOn_164 : decode cX12_walkOn 164 = .ok (.getfield 139, 3) := by decide +kernel
theorem dX12_walkOn_167 : decode cX12_walkOn 167 = .ok (.iload 6, 2) := by decide +kernel
theorem dX12_walkOn_169 : decode cX12_walkOn 169 = .ok (.iaload, 1) := by decide +kernel
theorem dX12_walkOn_170 : decode cX12_walkOn 170 = .ok (.invokevirtual 242, 3) := by decide +kernel
theorem dX12_walkOn_173 : decode cX12_walkOn 173 = .ok (.aload_n 0, 1) := by decide +kernel
theorem dX12_walkOn_174 : decode cX12_walkOn 174 = .ok (.iload_n 3, 1) := by decide +kernel
theorem dX12_walkOn_175 : decode cX12_walkOn 175 = .ok (.iload 4, 2) := by decide +kernel
theorem dX12_walkOn_177 : decode cX12_walkOn 177 = .ok (.iload 6, 2) := by decide +kernel
theorem dX12_walkOn_179 : decode cX12_walkOn 179 = .ok (.invokevirtual 557, 3) := by decide +kernel
theorem dX12_walkOn_182 : decode cX12_walkOn 182 = .ok (.iload 5, 2) := by decide +kernel
theorem dX12_walkOn_184 : decode cX12_walkOn 184 = .ok (.aload_n 0, 1) := by decide +kernel
theorem dX12_walkOn_185 : decode cX12_walkOn 185 = .ok (.getfield 142, 3) := by decide +kernel
theorem dX12_walkOn_188 : decode cX12_walkOn 188 = .ok (.iload 6, 2) := by decide +kernel
theorem dX12_walkOn_190 : decode cX12_walkOn 190 = .ok (.iaload, 1) := by decide +kernel
theorem dX12_walkOn_191 : decode cX12_walkOn 191 = .ok (.iadd, 1) := by decide +kernel
theorem dX12_walkOn_192 : decode cX12_walkOn 192 = .ok (.invokevirtual 560, 3) := by decide +kernel
theorem dX12_walkOn_195 : decode cX12_walkOn 195 = .ok (.iinc 6 1, 3) := by decide +kernel
theorem dX12_walkOn_198 : decode cX12_walkOn 198 = .ok (.goto (-76), 3) := by decide +kernel
theorem dX12_walkOn_201 : decode cX12_walkOn 201 = .ok (.return_, 1) := by decide +kernel
theorem dX12_isWalk_0 : decode cX12_isWalk 0 = .ok (.iload_n 1, 1) := by decide +kernel
theorem dX12_isWalk_1 : decode cX12_isWalk 1 = .ok (.iconst 0, 1) := by decide +kernel
theorem dX12_isWalk_2 : decode cX12_isWalk 2 = .ok (.sipush 1439, 3) := by decide +kernel
theorem dX12_isWalk_5 : decode cX12_isWalk 5 = .ok (.invokestatic 195, 3) := by decide +kernel
theorem dX12_isWalk_8 : decode cX12_isWalk 8 = .ok (.ifCond .eq 17, 3) := by decide +kernel
theorem dX12_isWalk_11 : decode cX12_isWalk 11 = .ok (.iload_n 2, 1) := by decide +kernel
theorem dX12_isWalk_12 : decode cX12_isWalk 12 = .ok (.iconst 1, 1) := by decide +kernel
theorem dX12_isWalk_13 : decode cX12_isWalk 13 = .ok (.bipush 48, 2) := by decide +kernel
theorem dX12_isWalk_15 : decode cX12_isWalk 15 = .ok (.invokestatic 195, 3) := by decide +kernel
theorem dX12_isWalk_18 : decode cX12_isWalk 18 = .ok (.ifCond .eq 7, 3) := by decide +kernel
theorem dX12_isWalk_21 : decode cX12_isWalk 21 = .ok (.iconst 1, 1) := by decide +kernel
theorem dX12_isWalk_22 : decode cX12_isWalk 22 = .ok (.goto 4, 3) := by decide +kernel
theorem dX12_isWalk_25 : decode cX12_isWalk 25 = .ok (.iconst 0, 1) := by decide +kernel
theorem dX12_isWalk_26 : decode cX12_isWalk 26 = .ok (.ireturn, 1) := by decide +kernel
theorem dX12_begin_0 : decode cX12_begin 0 = .ok (.aload_n 0, 1) := by decide +kernel
theorem dX12_begin_1 : decode cX12_begin 1 = .ok (.iload_n 1, 1) := by decide +kernel
theorem dX12_begin_2 : decode cX12_begin 2 = .ok (.bipush 24, 2) := by decide +kernel
theorem dX12_begin_4 : decode cX12_begin 4 = .ok (.idiv, 1) := by decide +kernel
theorem dX12_begin_5 : decode cX12_begin 5 = .ok (.putfield 539, 3) := by decide +kernel
theorem dX12_begin_8 : decode cX12_begin 8 = .ok (.aload_n 0, 1) := by decide +kernel
theorem dX12_begin_9 : decode cX12_begin 9 = .ok (.iload_n 1, 1) := by decide +kernel
theorem dX12_begin_10 : decode cX12_begin 10 = .ok (.bipush 24, 2) := by decide +kernel
theorem dX12_begin_12 : decode cX12_begin 12 = .ok (.irem, 1) := by decide +kernel
theorem dX12_begin_13 : decode cX12_begin 13 = .ok (.putfield 542, 3) := by decide +kernel
theorem dX12_begin_16 : decode cX12_begin 16 = .ok (.aload_n 0, 1) := by decide +kernel
theorem dX12_begin_17 : decode cX12_begin 17 = .ok (.iload_n 2, 1) := by decide +kernel
theorem dX12_begin_18 : decode cX12_begin 18 = .ok (.putfield 545, 3) := by decide +kernel
theorem dX12_begin_21 : decode cX12_begin 21 = .ok (.return_, 1) := by decide +kernel
theorem dX12_walk_0 : decode cX12_walk 0 = .ok (.aload_n 0, 1) := by decide +kernel
theorem dX12_walk_1 : decode cX12_walk 1 = .ok (.iload_n 1, 1) := by decide +kernel
theorem dX12_walk_2 : decode cX12_walk 2 = .ok (.iload_n 2, 1) := by decide +kernel
theorem dX12_walk_3 : decode cX12_walk 3 = .ok (.invokevirtual 564, 3) := by decide +kernel
theorem dX12_walk_6 : decode cX12_walk 6 = .ok (.ifCond .ne 5, 3) := by decide +kernel
theorem dX12_walk_9 : decode cX12_walk 9 = .ok (.iconst (-1), 1) := by decide +kernel
theorem dX12_walk_10 : decode cX12_walk 10 = .ok (.ireturn, 1) := by decide +kernel
theorem dX12_walk_11 : decode cX12_walk 11 = .ok (.aload_n 0, 1) := by decide +kernel
theorem dX12_walk_12 : decode cX12_walk 12 = .ok (.iload_n 1, 1) := by decide +kernel
theorem dX12_walk_13 : decode cX12_walk 13 = .ok (.iload_n 2, 1) := by decide +kernel
theorem dX12_walk_14 : decode cX12_walk 14 = .ok (.invokevirtual 567, 3) := by decide +kernel
theorem dX12_walk_17 : decode cX12_walk 17 = .ok (.aload_n 0, 1) := by decide +kernel
theorem dX12_walk_18 : decode cX12_walk 18 = .ok (.iconst 0, 1) := by decide +kernel
theorem dX12_walk_19 : decode cX12_walk 19 = .ok (.putfield 548, 3) := by decide +kernel
theorem dX12_walk_22 : decode cX12_walk 22 = .ok (.aload_n 0, 1) := by decide +kernel
theorem dX12_walk_23 : decode cX12_walk 23 = .ok (.iconst 0, 1) := by decide +kernel
theorem dX12_walk_24 : decode cX12_walk 24 = .ok (.putfield 551, 3) := by decide +kernel
theorem dX12_walk_27 : decode cX12_walk 27 = .ok (.aload_n 0, 1) := by decide +kernel
theorem dX12_walk_28 : decode cX12_walk 28 = .ok (.iconst 0, 1) := by decide +kernel
theorem dX12_walk_29 : decode cX12_walk 29 = .ok (.putfield 554, 3) := by decide +kernel
theorem dX12_walk_32 : decode cX12_walk 32 = .ok (.aload_n 0, 1) := by decide +kernel
theorem dX12_walk_33 : decode cX12_walk 33 = .ok (.iconst 0, 1) := by decide +kernel
theorem dX12_walk_34 : decode cX12_walk 34 = .ok (.iconst 0, 1) := by decide +kernel
theorem dX12_walk_35 : decode cX12_walk 35 = .ok (.aload_n 0, 1) := by decide +kernel
theorem dX12_walk_36 : decode cX12_walk 36 = .ok (.getfield 539, 3) := by decide +kernel
theorem dX12_walk_39 : decode cX12_walk 39 = .ok (.aload_n 0, 1) := by decide +kernel
theorem dX12_walk_40 : decode cX12_walk 40 = .ok (.getfield 542, 3) := by decide +kernel
theorem dX12_walk_43 : decode cX12_walk 43 = .ok (.iconst 0, 1) := by decide +kernel
theorem dX12_walk_44 : decode cX12_walk 44 = .ok (.invokevirtual 560, 3) := by decide +kernel
theorem dX12_walk_47 : decode cX12_walk 47 = .ok (.aload_n 0, 1) := by decide +kernel
theorem dX12_walk_48 : decode cX12_walk 48 = .ok (.getfield 554, 3) := by decide +kernel
theorem dX12_walk_51 : decode cX12_walk 51 = .ok (.ifCond .ne 6, 3) := by decide +kernel
theorem dX12_walk_54 : decode cX12_walk 54 = .ok (.bipush (-2), 2) := by decide +kernel
theorem dX12_walk_56 : decode cX12_walk 56 = .ok (.ireturn, 1) := by decide +kernel
theorem dX12_walk_57 : decode cX12_walk 57 = .ok (.aload_n 0, 1) := by decide +kernel
theorem dX12_walk_58 : decode cX12_walk 58 = .ok (.aload_n 0, 1) := by decide +kernel
theorem dX12_walk_59 : decode cX12_walk 59 = .ok (.getfield 554, 3) := by decide +kernel
theorem dX12_walk_62 : decode cX12_walk 62 = .ok (.putfield 157, 3) := by decide +kernel
theorem dX12_walk_65 : decode cX12_walk 65 = .ok (.aload_n 0, 1) := by decide +kernel
theorem dX12_walk_66 : decode cX12_walk 66 = .ok (.aload_n 0, 1) := by decide +kernel
theorem dX12_walk_67 : decode cX12_walk 67 = .ok (.getfield 551, 3) := by decide +kernel
theorem dX12_walk_70 : decode cX12_walk 70 = .ok (.putfield 161, 3) := by decide +kernel
theorem dX12_walk_73 : decode cX12_walk 73 = .ok (.iconst 0, 1) := by decide +kernel
theorem dX12_walk_74 : decode cX12_walk 74 = .ok (.istore_n 3, 1) := by decide +kernel
theorem dX12_walk_75 : decode cX12_walk 75 = .ok (.iload_n 3, 1) := by decide +kernel
theorem dX12_walk_76 : decode cX12_walk 76 = .ok (.aload_n 0, 1) := by decide +kernel
theorem dX12_walk_77 : decode cX12_walk 77 = .ok (.getfield 554, 3) := by decide +kernel
theorem dX12_walk_80 : decode cX12_walk 80 = .ok (.if_icmp .ge 26, 3) := by decide +kernel
theorem dX12_walk_83 : decode cX12_walk 83 = .ok (.aload_n 0, 1) := by decide +kernel
theorem dX12_walk_84 : decode cX12_walk 84 = .ok (.getfield 154, 3) := by decide +kernel
theorem dX12_walk_87 : decode cX12_walk 87 = .ok (.iload_n 3, 1) := by decide +kernel
theorem dX12_walk_88 : decode cX12_walk 88 = .ok (.aload_n 0, 1) := by decide +kernel
theorem dX12_walk_89 : decode cX12_walk 89 = .ok (.getfield 139, 3) := by decide +kernel
theorem dX12_walk_92 : decode cX12_walk 92 = .ok (.aload_n 0, 1) := by decide +kernel
theorem dX12_walk_93 : decode cX12_walk 93 = .ok (.getfield 151, 3) := by decide +kernel
theorem dX12_walk_96 : decode cX12_walk 96 = .ok (.iload_n 3, 1) := by decide +kernel
theorem dX12_walk_97 : decode cX12_walk 97 = .ok (.iaload, 1) := by decide +kernel
theorem dX12_walk_98 : decode cX12_walk 98 = .ok (.iaload, 1) := by decide +kernel
theorem dX12_walk_99 : decode cX12_walk 99 = .ok (.iastore, 1) := by decide +kernel
theorem dX12_walk_100 : decode cX12_walk 100 = .ok (.iinc 3 1, 3) := by decide +kernel
theorem dX12_walk_103 : decode cX12_walk 103 = .ok (.goto (-28), 3) := by decide +kernel
theorem dX12_walk_106 : decode cX12_walk 106 = .ok (.aload_n 0, 1) := by decide +kernel
theorem dX12_walk_107 : decode cX12_walk 107 = .ok (.iconst 0, 1) := by decide +kernel
theorem dX12_walk_108 : decode cX12_walk 108 = .ok (.putfield 533, 3) := by decide +kernel
theorem dX12_walk_111 : decode cX12_walk 111 = .ok (.aload_n 0, 1) := by decide +kernel
theorem dX12_walk_112 : decode cX12_walk 112 = .ok (.getfield 548, 3) := by decide +kernel
theorem dX12_walk_115 : decode cX12_walk 115 = .ok (.ireturn, 1) := by decide +kernel
theorem dX12_walked_0 : decode cX12_walked 0 = .ok (.iload_n 1, 1) := by decide +kernel
theorem dX12_walked_1 : decode cX12_walked 1 = .ok (.iconst (-1), 1) := by decide +kernel
theorem dX12_walked_2 : decode cX12_walked 2 = .ok (.if_icmp .ne 10, 3) := by decide +kernel
theorem dX12_walked_5 : decode cX12_walked 5 = .ok (.aload_n 0, 1) := by decide +kernel
theorem dX12_walked_6 : decode cX12_walked 6 = .ok (.getfield 161, 3) := by decide +kernel
theorem dX12_walked_9 : decode cX12_walked 9 = .ok (.goto 27, 3) := by decide +kernel
theorem dX12_walked_12 : decode cX12_walked 12 = .ok (.iload_n 1, 1) := by decide +kernel
theorem dX12_walked_13 : decode cX12_walked 13 = .ok (.iconst 0, 1) := by decide +kernel
theorem dX12_walked_14 : decode cX12_walked 14 = .ok (.aload_n 0, 1) := by decide +kernel
theorem dX12_walked_15 : decode cX12_walked 15 = .ok (.getfield 157, 3) := by decide +kernel
theorem dX12_walked_18 : decode cX12_walked 18 = .ok (.iconst 1, 1) := by decide +kernel
theorem dX12_walked_19 : decode cX12_walked 19 = .ok (.isub, 1) := by decide +kernel
theorem dX12_walked_20 : decode cX12_walked 20 = .ok (.invokestatic 195, 3) := by decide +kernel
theorem dX12_walked_23 : decode cX12_walked 23 = .ok (.ifCond .eq 12, 3) := by decide +kernel
theorem dX12_walked_26 : decode cX12_walked 26 = .ok (.aload_n 0, 1) := by decide +kernel
theorem dX12_walked_27 : decode cX12_walked 27 = .ok (.getfield 154, 3) := by decide +kernel
theorem dX12_walked_30 : decode cX12_walked 30 = .ok (.iload_n 1, 1) := by decide +kernel
theorem dX12_walked_31 : decode cX12_walked 31 = .ok (.iaload, 1) := by decide +kernel
theorem dX12_walked_32 : decode cX12_walked 32 = .ok (.goto 4, 3) := by decide +kernel
theorem dX12_walked_35 : decode cX12_walked 35 = .ok (.iconst (-1), 1) := by decide +kernel
theorem dX12_walked_36 : decode cX12_walked 36 = .ok (.ireturn, 1) := by decide +kernel
theorem dX12_judge_0 : decode cX12_judge 0 = .ok (.aload_n 0, 1) := by decide +kernel
theorem dX12_judge_1 : decode cX12_judge 1 = .ok (.iload_n 1, 1) := by decide +kernel
theorem dX12_judge_2 : decode cX12_judge 2 = .ok (.iload_n 2, 1) := by decide +kernel
theorem dX12_judge_3 : decode cX12_judge 3 = .ok (.invokevirtual 564, 3) := by decide +kernel
theorem dX12_judge_6 : decode cX12_judge 6 = .ok (.ifCond .eq 8, 3) := by decide +kernel
theorem dX12_judge_9 : decode cX12_judge 9 = .ok (.iload_n 3, 1) := by decide +kernel
theorem dX12_judge_10 : decode cX12_judge 10 = .ok (.iconst 1, 1) := by decide +kernel
theorem dX12_judge_11 : decode cX12_judge 11 = .ok (.if_icmp .ge 5, 3) := by decide +kernel
theorem dX12_judge_14 : decode cX12_judge 14 = .ok (.iconst (-1), 1) := by decide +kernel
theorem dX12_judge_15 : decode cX12_judge 15 = .ok (.ireturn, 1) := by decide +kernel
theorem dX12_judge_16 : decode cX12_judge 16 = .ok (.iconst 0, 1) := by decide +kernel
theorem dX12_judge_17 : decode cX12_judge 17 = .ok (.istore 4, 2) := by decide +kernel
theorem dX12_judge_19 : decode cX12_judge 19 = .ok (.iconst 0, 1) := by decide +kernel
theorem dX12_judge_20 : decode cX12_judge 20 = .ok (.istore 5, 2) := by decide +kernel
theorem dX12_judge_22 : decode cX12_judge 22 = .ok (.iload_n 3, 1) := by decide +kernel
theorem dX12_judge_23 : decode cX12_judge 23 = .ok (.istore 6, 2) := by decide +kernel
theorem dX12_judge_25 : decode cX12_judge 25 = .ok (.iload 6, 2) := by decide +kernel
theorem dX12_judge_27 : decode cX12_judge 27 = .ok (.ifCond .le 62, 3) := by decide +kernel
theorem dX12_judge_30 : decode cX12_judge 30 = .ok (.iload 6, 2) := by decide +kernel
theorem dX12_judge_32 : decode cX12_judge 32 = .ok (.bipush 10, 2) := by decide +kernel
theorem dX12_judge_34 : decode cX12_judge 34 = .ok (.irem, 1) := by decide +kernel
theorem dX12_judge_35 : decode cX12_judge 35 = .ok (.iconst 1, 1) := by decide +kernel
theorem dX12_judge_36 : decode cX12_judge 36 = .ok (.isub, 1) := by decide +kernel
theorem dX12_judge_37 : decode cX12_judge 37 = .ok (.istore 7, 2) := by decide +kernel
theorem dX12_judge_39 : decode cX12_judge 39 = .ok (.iload 7, 2) := by decide +kernel
theorem dX12_judge_41 : decode cX12_judge 41 = .ok (.iconst 0, 1) := by decide +kernel
theorem dX12_judge_42 : decode cX12_judge 42 = .ok (.aload_n 0, 1) := by decide +kernel
theorem dX12_judge_43 : decode cX12_judge 43 = .ok (.getfield 533, 3) := by decide +kernel
theorem dX12_judge_46 : decode cX12_judge 46 = .ok (.iconst 1, 1) := by decide +kernel
theorem dX12_judge_47 : decode cX12_judge 47 = .ok (.isub, 1) := by decide +kernel
theorem dX12_judge_48 : decode cX12_judge 48 = .ok (.invokestatic 195, 3) := by decide +kernel
theorem dX12_judge_51 : decode cX12_judge 51 = .ok (.ifCond .eq 14, 3) := by decide +kernel
theorem dX12_judge_54 : decode cX12_judge 54 = .ok (.iload 5, 2) := by decide +kernel
theorem dX12_judge_56 : decode cX12_judge 56 = .ok (.iload 7, 2) := by decide +kernel
theorem dX12_judge_58 : decode cX12_judge 58 = .ok (.ishr, 1) := by decide +kernel
theorem dX12_judge_59 : decode cX12_judge 59 = .ok (.iconst 1, 1) := by decide +kernel
theorem dX12_judge_60 : decode cX12_judge 60 = .ok (.iand, 1) := by decide +kernel
theorem dX12_judge_61 : decode cX12_judge 61 = .ok (.iconst 1, 1) := by decide +kernel
theorem dX12_judge_62 : decode cX12_judge 62 = .ok (.if_icmp .ne 5, 3) := by decide +kernel
theorem dX12_judge_65 : decode cX12_judge 65 = .ok (.iconst (-1), 1) := by decide +kernel
theorem dX12_judge_66 : decode cX12_judge 66 = .ok (.ireturn, 1) := by decide +kernel
theorem dX12_judge_67 : decode cX12_judge 67 = .ok (.iload 5, 2) := by decide +kernel
theorem dX12_judge_69 : decode cX12_judge 69 = .ok (.iconst 1, 1) := by decide +kernel
theorem dX12_judge_70 : decode cX12_judge 70 = .ok (.iload 7, 2) := by decide +kernel
theorem dX12_judge_72 : decode cX12_judge 72 = .ok (.ishl, 1) := by decide +kernel
theorem dX12_judge_73 : decode cX12_judge 73 = .ok (.ior, 1) := by decide +kernel
theorem dX12_judge_74 : decode cX12_judge 74 = .ok (.istore 5, 2) := by decide +kernel
theorem dX12_judge_76 : decode cX12_judge 76 = .ok (.iinc 4 1, 3) := by decide +kernel
theorem dX12_judge_79 : decode cX12_judge 79 = .ok (.iload 6, 2) := by decide +kernel
theorem dX12_judge_81 : decode cX12_judge 81 = .ok (.bipush 10, 2) := by decide +kernel
theorem dX12_judge_83 : decode cX12_judge 83 = .ok (.idiv, 1) := by decide +kernel
theorem dX12_judge_84 : decode cX12_judge 84 = .ok (.istore 6, 2) := by decide +kernel
theorem dX12_judge_86 : decode cX12_judge 86 = .ok (.goto (-61), 3) := by decide +kernel
theorem dX12_judge_89 : decode cX12_judge 89 = .ok (.iload_n 3, 1) := by decide +kernel
theorem dX12_judge_90 : decode cX12_judge 90 = .ok (.istore 6, 2) := by decide +kernel
theorem dX12_judge_92 : decode cX12_judge 92 = .ok (.iload 4, 2) := by decide +kernel
theorem dX12_judge_94 : decode cX12_judge 94 = .ok (.iconst 1, 1) := by decide +kernel
theorem dX12_judge_95 : decode cX12_judge 95 = .ok (.isub, 1) := by decide +kernel
theorem dX12_judge_96 : decode cX12_judge 96 = .ok (.istore 7, 2) := by decide +kernel
theorem dX12_judge_98 : decode cX12_judge 98 = .ok (.iload 7, 2) := by decide +kernel
theorem dX12_judge_100 : decode cX12_judge 100 = .ok (.ifCond .lt 30, 3) := by decide +kernel
theorem dX12_judge_103 : decode cX12_judge 103 = .ok (.aload_n 0, 1) := by decide +kernel
theorem dX12_judge_104 : decode cX12_judge 104 = .ok (.getfield 148, 3) := by decide +kernel
theorem dX12_judge_107 : decode cX12_judge 107 = .ok (.iload 7, 2) := by decide +kernel
theorem dX12_judge_109 : decode cX12_judge 109 = .ok (.iload 6, 2) := by decide +kernel
theorem dX12_judge_111 : decode cX12_judge 111 = .ok (.bipush 10, 2) := by decide +kernel
theorem dX12_judge_113 : decode cX12_judge 113 = .ok (.irem, 1) := by decide +kernel
theorem dX12_judge_114 : decode cX12_judge 114 = .ok (.iconst 1, 1) := by decide +kernel
theorem dX12_judge_115 : decode cX12_judge 115 = .ok (.isub, 1) := by decide +kernel
theorem dX12_judge_116 : decode cX12_judge 116 = .ok (.iastore, 1) := by decide +kernel
theorem dX12_judge_117 : decode cX12_judge 117 = .ok (.iload 6, 2) := by decide +kernel
theorem dX12_judge_119 : decode cX12_judge 119 = .ok (.bipush 10, 2) := by decide +kernel
theorem dX12_judge_121 : decode cX12_judge 121 = .ok (.idiv, 1) := by decide +kernel
theorem dX12_judge_122 : decode cX12_judge 122 = .ok (.istore 6, 2) := by decide +kernel
theorem dX12_judge_124 : decode cX12_judge 124 = .ok (.iinc 7 (-1), 3) := by decide +kernel
theorem dX12_judge_127 : decode cX12_judge 127 = .ok (.goto (-29), 3) := by decide +kernel
theorem dX12_judge_130 : decode cX12_judge 130 = .ok (.aload_n 0, 1) := by decide +kernel
theorem dX12_judge_131 : decode cX12_judge 131 = .ok (.iload_n 1, 1) := by decide +kernel
theorem dX12_judge_132 : decode cX12_judge 132 = .ok (.iload_n 2, 1) := by decide +kernel
theorem dX12_judge_133 : decode cX12_judge 133 = .ok (.invokevirtual 567, 3) := by decide +kernel
theorem dX12_judge_136 : decode cX12_judge 136 = .ok (.aload_n 0, 1) := by decide +kernel
theorem dX12_judge_137 : decode cX12_judge 137 = .ok (.getfield 539, 3) := by decide +kernel
theorem dX12_judge_140 : decode cX12_judge 140 = .ok (.istore 7, 2) := by decide +kernel
theorem dX12_judge_142 : decode cX12_judge 142 = .ok (.aload_n 0, 1) := by decide +kernel
theorem dX12_judge_143 : decode cX12_judge 143 = .ok (.getfield 542, 3) := by decide +kernel
theorem dX12_judge_146 : decode cX12_judge 146 = .ok (.istore 8, 2) := by decide +kernel
theorem dX12_judge_148 : decode cX12_judge 148 = .ok (.iconst 0, 1) := by decide +kernel
theorem dX12_judge_149 : decode cX12_judge 149 = .ok (.istore 9, 2) := by decide +kernel
theorem dX12_judge_151 : decode cX12_judge 151 = .ok (.iload 9, 2) := by decide +kernel
theorem dX12_judge_153 : decode cX12_judge 153 = .ok (.iload 4, 2) := by decide +kernel
theorem dX12_judge_155 : decode cX12_judge 155 = .ok (.if_icmp .ge 44, 3) := by decide +kernel
theorem dX12_judge_158 : decode cX12_judge 158 = .ok (.aload_n 0, 1) := by decide +kernel
theorem dX12_judge_159 : decode cX12_judge 159 = .ok (.iload 7, 2) := by decide +kernel
theorem dX12_judge_161 : decode cX12_judge 161 = .ok (.iload 8, 2) := by decide +kernel
theorem dX12_judge_163 : decode cX12_judge 163 = .ok (.aload_n 0, 1) := by decide +kernel
theorem dX12_judge_164 : decode cX12_judge 164 = .ok (.getfield 148, 3) := by decide +kernel
theorem dX12_judge_167 : decode cX12_judge 167 = .ok (.iload 9, 2) := by decide +kernel
theorem dX12_judge_169 : decode cX12_judge 169 = .ok (.iaload, 1) := by decide +kernel
theorem dX12_judge_170 : decode cX12_judge 170 = .ok (.invokevirtual 557, 3) := by decide +kernel
theorem dX12_judge_173 : decode cX12_judge 173 = .ok (.istore 8, 2) := by decide +kernel
theorem dX12_judge_175 : decode cX12_judge 175 = .ok (.aload_n 0, 1) := by decide +kernel
theorem dX12_judge_176 : decode cX12_judge 176 = .ok (.aload_n 0, 1) := by decide +kernel
theorem dX12_judge_177 : decode cX12_judge 177 = .ok (.getfield 139, 3) := by decide +kernel
theorem dX12_judge_180 : decode cX12_judge 180 = .ok (.aload_n 0, 1) := by decide +kernel
theorem dX12_judge_181 : decode cX12_judge 181 = .ok (.getfield 148, 3) := by decide +kernel
theorem dX12_judge_184 : decode cX12_judge 184 = .ok (.iload 9, 2) := by decide +kernel
theorem dX12_judge_186 : decode cX12_judge 186 = .ok (.iaload, 1) := by decide +kernel
theorem dX12_judge_187 : decode cX12_judge 187 = .ok (.iaload, 1) := by decide +kernel
theorem dX12_judge_188 : decode cX12_judge 188 = .ok (.invokevirtual 242, 3) := by decide +kernel
theorem dX12_judge_191 : decode cX12_judge 191 = .ok (.istore 7, 2) := by decide +kernel
theorem dX12_judge_193 : decode cX12_judge 193 = .ok (.iinc 9 1, 3) := by decide +kernel
theorem dX12_judge_196 : decode cX12_judge 196 = .ok (.goto (-45), 3) := by decide +kernel
theorem dX12_judge_199 : decode cX12_judge 199 = .ok (.iload 8, 2) := by decide +kernel
theorem dX12_judge_201 : decode cX12_judge 201 = .ok (.iload 7, 2) := by decide +kernel
theorem dX12_judge_203 : decode cX12_judge 203 = .ok (.aload_n 0, 1) := by decide +kernel
theorem dX12_judge_204 : decode cX12_judge 204 = .ok (.getfield 539, 3) := by decide +kernel
theorem dX12_judge_207 : decode cX12_judge 207 = .ok (.invokestatic 536, 3) := by decide +kernel
theorem dX12_judge_210 : decode cX12_judge 210 = .ok (.iadd, 1) := by decide +kernel
theorem dX12_judge_211 : decode cX12_judge 211 = .ok (.aload_n 0, 1) := by decide +kernel
theorem dX12_judge_212 : decode cX12_judge 212 = .ok (.getfield 542, 3) := by decide +kernel
theorem dX12_judge_215 : decode cX12_judge 215 = .ok (.isub, 1) := by decide +kernel
theorem dX12_judge_216 : decode cX12_judge 216 = .ok (.istore 9, 2) := by decide +kernel
theorem dX12_judge_218 : decode cX12_judge 218 = .ok (.iload 9, 2) := by decide +kernel
theorem dX12_judge_220 : decode cX12_judge 220 = .ok (.iload_n 2, 1) := by decide +kernel
theorem dX12_judge_221 : decode cX12_judge 221 = .ok (.if_icmp .gt 8, 3) := by decide +kernel
theorem dX12_judge_224 : decode cX12_judge 224 = .ok (.iload 9, 2) := by decide +kernel
theorem dX12_judge_226 : decode cX12_judge 226 = .ok (.goto 5, 3) := by decide +kernel
theorem dX12_judge_229 : decode cX12_judge 229 = .ok (.bipush (-2), 2) := by decide +kernel
theorem dX12_judge_231 : decode cX12_judge 231 = .ok (.ireturn, 1) := by decide +kernel
theorem dX12_isUnfound_0 : decode cX12_isUnfound 0 = .ok (.aload_n 0, 1) := by decide +kernel
theorem dX12_isUnfound_1 : decode cX12_isUnfound 1 = .ok (.iload_n 1, 1) := by decide +kernel
theorem dX12_isUnfound_2 : decode cX12_isUnfound 2 = .ok (.invokevirtual 255, 3) := by decide +kernel
theorem dX12_isUnfound_5 : decode cX12_isUnfound 5 = .ok (.ifCond .eq 15, 3) := by decide +kernel
theorem dX12_isUnfound_8 : decode cX12_isUnfound 8 = .ok (.aload_n 0, 1) := by decide +kernel
theorem dX12_isUnfound_9 : decode cX12_isUnfound 9 = .ok (.iload_n 1, 1) := by decide +kernel
theorem dX12_isUnfound_10 : decode cX12_isUnfound 10 = .ok (.invokevirtual 264, 3) := by decide +kernel
theorem dX12_isUnfound_13 : decode cX12_isUnfound 13 = .ok (.ifCond .ne 7, 3) := by decide +kernel
theorem dX12_isUnfound_16 : decode cX12_isUnfound 16 = .ok (.iconst 1, 1) := by decide +kernel
theorem dX12_isUnfound_17 : decode cX12_isUnfound 17 = .ok (.goto 4, 3) := by decide +kernel
theorem dX12_isUnfound_20 : decode cX12_isUnfound 20 = .ok (.iconst 0, 1) := by decide +kernel
theorem dX12_isUnfound_21 : decode cX12_isUnfound 21 = .ok (.ireturn, 1) := by decide +kernel
theorem dX12_lookAt_0 : decode cX12_lookAt 0 = .ok (.aload_n 0, 1) := by decide +kernel
theorem dX12_lookAt_1 : decode cX12_lookAt 1 = .ok (.iload_n 1, 1) := by decide +kernel
theorem dX12_lookAt_2 : decode cX12_lookAt 2 = .ok (.invokevirtual 224, 3) := by decide +kernel
theorem dX12_lookAt_5 : decode cX12_lookAt 5 = .ok (.ifCond .eq 12, 3) := by decide +kernel
theorem dX12_lookAt_8 : decode cX12_lookAt 8 = .ok (.iload_n 2, 1) := by decide +kernel
theorem dX12_lookAt_9 : decode cX12_lookAt 9 = .ok (.iconst 0, 1) := by decide +kernel
theorem dX12_lookAt_10 : decode cX12_lookAt 10 = .ok (.iconst 1, 1) := by decide +kernel
theorem dX12_lookAt_11 : decode cX12_lookAt 11 = .ok (.invokestatic 195, 3) := by decide +kernel
theorem dX12_lookAt_14 : decode cX12_lookAt 14 = .ok (.ifCond .ne 5, 3) := by decide +kernel
theorem dX12_lookAt_17 : decode cX12_lookAt 17 = .ok (.iconst (-1), 1) := by decide +kernel
theorem dX12_lookAt_18 : decode cX12_lookAt 18 = .ok (.ireturn, 1) := by decide +kernel
theorem dX12_lookAt_19 : decode cX12_lookAt 19 = .ok (.aload_n 0, 1) := by decide +kernel
theorem dX12_lookAt_20 : decode cX12_lookAt 20 = .ok (.iload_n 1, 1) := by decide +kernel
theorem dX12_lookAt_21 : decode cX12_lookAt 21 = .ok (.invokevirtual 570, 3) := by decide +kernel
theorem dX12_lookAt_24 : decode cX12_lookAt 24 = .ok (.ifCond .eq 12, 3) := by decide +kernel
theorem dX12_lookAt_27 : decode cX12_lookAt 27 = .ok (.aload_n 0, 1) := by decide +kernel
theorem dX12_lookAt_28 : decode cX12_lookAt 28 = .ok (.getfield 164, 3) := by decide +kernel
theorem dX12_lookAt_31 : decode cX12_lookAt 31 = .ok (.iload_n 1, 1) := by decide +kernel
theorem dX12_lookAt_32 : decode cX12_lookAt 32 = .ok (.baload, 1) := by decide +kernel
theorem dX12_lookAt_33 : decode cX12_lookAt 33 = .ok (.ifCond .le 6, 3) := by decide +kernel
theorem dX12_lookAt_36 : decode cX12_lookAt 36 = .ok (.bipush (-2), 2) := by decide +kernel
theorem dX12_lookAt_38 : decode cX12_lookAt 38 = .ok (.ireturn, 1) := by decide +kernel
theorem dX12_lookAt_39 : decode cX12_lookAt 39 = .ok (.aload_n 0, 1) := by decide +kernel
theorem dX12_lookAt_40 : decode cX12_lookAt 40 = .ok (.getfield 164, 3) := by decide +kernel
theorem dX12_lookAt_43 : decode cX12_lookAt 43 = .ok (.iload_n 1, 1) := by decide +kernel
theorem dX12_lookAt_44 : decode cX12_lookAt 44 = .ok (.iconst 1, 1) := by decide +kernel
theorem dX12_lookAt_45 : decode cX12_lookAt 45 = .ok (.iload_n 2, 1) := by decide +kernel
theorem dX12_lookAt_46 : decode cX12_lookAt 46 = .ok (.iadd, 1) := by decide +kernel
theorem dX12_lookAt_47 : decode cX12_lookAt 47 = .ok (.i2b, 1) := by decide +kernel
theorem dX12_lookAt_48 : decode cX12_lookAt 48 = .ok (.bastore, 1) := by decide +kernel
theorem dX12_lookAt_49 : decode cX12_lookAt 49 = .ok (.iconst 0, 1) := by decide +kernel
theorem dX12_lookAt_50 : decode cX12_lookAt 50 = .ok (.istore_n 3, 1) := by decide +kernel
theorem dX12_lookAt_51 : decode cX12_lookAt 51 = .ok (.iconst 0, 1) := by decide +kernel
theorem dX12_lookAt_52 : decode cX12_lookAt 52 = .ok (.istore 4, 2) := by decide +kernel
theorem dX12_lookAt_54 : decode cX12_lookAt 54 = .ok (.iload 4, 2) := by decide +kernel
theorem dX12_lookAt_56 : decode cX12_lookAt 56 = .ok (.aload_n 0, 1) := by decide +kernel
theorem dX12_lookAt_57 : decode cX12_lookAt 57 = .ok (.getfield 214, 3) := by decide +kernel
theorem dX12_lookAt_60 : decode cX12_lookAt 60 = .ok (.if_icmp .ge 27, 3) := by decide +kernel
theorem dX12_lookAt_63 : decode cX12_lookAt 63 = .ok (.iload_n 3, 1) := by decide +kernel
theorem dX12_lookAt_64 : decode cX12_lookAt 64 = .ok (.aload_n 0, 1) := by decide +kernel
theorem dX12_lookAt_65 : decode cX12_lookAt 65 = .ok (.getfield 164, 3) := by decide +kernel
theorem dX12_lookAt_68 : decode cX12_lookAt 68 = .ok (.iload 4, 2) := by decide +kernel
theorem dX12_lookAt_70 : decode cX12_lookAt 70 = .ok (.baload, 1) := by decide +kernel
theorem dX12_lookAt_71 : decode cX12_lookAt 71 = .ok (.ifCond .le 7, 3) := by decide +kernel
theorem dX12_lookAt_74 : decode cX12_lookAt 74 = .ok (.iconst 1, 1) := by decide +kernel
theorem dX12_lookAt_75 : decode cX12_lookAt 75 = .ok (.goto 4, 3) := by decide +kernel
theorem dX12_lookAt_78 : decode cX12_lookAt 78 = .ok (.iconst 0, 1) := by decide +kernel
theorem dX12_lookAt_79 : decode cX12_lookAt 79 = .ok (.iadd, 1) := by decide +kernel
theorem dX12_lookAt_80 : decode cX12_lookAt 80 = .ok (.istore_n 3, 1) := by decide +kernel
theorem dX12_lookAt_81 : decode cX12_lookAt 81 = .ok (.iinc 4 1, 3) := by decide +kernel
theorem dX12_lookAt_84 : decode cX12_lookAt 84 = .ok (.goto (-30), 3) := by decide +kernel
theorem dX12_lookAt_87 : decode cX12_lookAt 87 = .ok (.iload_n 3, 1) := by decide +kernel
theorem dX12_lookAt_88 : decode cX12_lookAt 88 = .ok (.ireturn, 1) := by decide +kernel
theorem dX12_findWays_0 : decode cX12_findWays 0 = .ok (.iconst 0, 1) := by decide +kernel
theorem dX12_findWays_1 : decode cX12_findWays 1 = .ok (.istore_n 1, 1) := by decide +kernel
theorem dX12_findWays_2 : decode cX12_findWays 2 = .ok (.iload_n 1, 1) := by decide +kernel
theorem dX12_findWays_3 : decode cX12_findWays 3 = .ok (.bipush 30, 2) := by decide +kernel
theorem dX12_findWays_5 : decode cX12_findWays 5 = .ok (.if_icmp .gt 75, 3) := by decide +kernel
theorem dX12_findWays_8 : decode cX12_findWays 8 = .ok (.iconst 0, 1) := by decide +kernel
theorem dX12_findWays_9 : decode cX12_findWays 9 = .ok (.istore_n 2, 1) := by decide +kernel
theorem dX12_findWays_10 : decode cX12_findWays 10 = .ok (.iload_n 2, 1) := by decide +kernel
theorem dX12_findWays_11 : decode cX12_findWays 11 = .ok (.iload_n 1, 1) := by decide +kernel
theorem dX12_findWays_12 : decode cX12_findWays 12 = .ok (.if_icmp .gt 62, 3) := by decide +kernel
theorem dX12_findWays_15 : decode cX12_findWays 15 = .ok (.aload_n 0, 1) := by decide +kernel
theorem dX12_findWays_16 : decode cX12_findWays 16 = .ok (.getfield 167, 3) := by decide +kernel
theorem dX12_findWays_19 : decode cX12_findWays 19 = .ok (.bipush 31, 2) := by decide +kernel
theorem dX12_findWays_21 : decode cX12_findWays 21 = .ok (.iload_n 1, 1) := by decide +kernel
theorem dX12_findWays_22 : decode cX12_findWays 22 = .ok (.imul, 1) := by decide +kernel
theorem dX12_findWays_23 : decode cX12_findWays 23 = .ok (.iload_n 2, 1) := by decide +kernel
theorem dX12_findWays_24 : decode cX12_findWays 24 = .ok (.iadd, 1) := by decide +kernel
theorem dX12_findWays_25 : decode cX12_findWays 25 = .ok (.iload_n 2, 1) := by decide +kernel
theorem dX12_findWays_26 : decode cX12_findWays 26 = .ok (.ifCond .eq 8, 3) := by decide +kernel
theorem dX12_findWays_29 : decode cX12_findWays 29 = .ok (.iload_n 2, 1) := by decide +kernel
theorem dX12_findWays_30 : decode cX12_findWays 30 = .ok (.iload_n 1, 1) := by decide +kernel
theorem dX12_findWays_31 : decode cX12_findWays 31 = .ok (.if_icmp .ne 7, 3) := by decide +kernel
theorem dX12_findWays_34 : decode cX12_findWays 34 = .ok (.lconst 1, 1) := by decide +kernel
theorem dX12_findWays_35 : decode cX12_findWays 35 = .ok (.goto 32, 3) := by decide +kernel
theorem dX12_findWays_38 : decode cX12_findWays 38 = .ok (.aload_n 0, 1) := by decide +kernel
theorem dX12_findWays_39 : decode cX12_findWays 39 = .ok (.getfield 167, 3) := by decide +kernel
theorem dX12_findWays_42 : decode cX12_findWays 42 = .ok (.bipush 31, 2) := by decide +kernel
theorem dX12_findWays_44 : decode cX12_findWays 44 = .ok (.iload_n 1, 1) := by decide +kernel
theorem dX12_findWays_45 : decode cX12_findWays 45 = .ok (.iconst 1, 1) := by decide +kernel
theorem dX12_findWays_46 : decode cX12_findWays 46 = .ok (.isub, 1) := by decide +kernel
theorem dX12_findWays_47 : decode cX12_findWays 47 = .ok (.imul, 1) := by decide +kernel
theorem dX12_findWays_48 : decode cX12_findWays 48 = .ok (.iload_n 2, 1) := by decide +kernel
theorem dX12_findWays_49 : decode cX12_findWays 49 = .ok (.iadd, 1) := by decide +kernel
theorem dX12_findWays_50 : decode cX12_findWays 50 = .ok (.iconst 1, 1) := by decide +kernel
theorem dX12_findWays_51 : decode cX12_findWays 51 = .ok (.isub, 1) := by decide +kernel
theorem dX12_findWays_52 : decode cX12_findWays 52 = .ok (.laload, 1) := by decide +kernel
theorem dX12_findWays_53 : decode cX12_findWays 53 = .ok (.aload_n 0, 1) := by decide +kernel
theorem dX12_findWays_54 : decode cX12_findWays 54 = .ok (.getfield 167, 3) := by decide +kernel
theorem dX12_findWays_57 : decode cX12_findWays 57 = .ok (.bipush 31, 2) := by decide +kernel
theorem dX12_findWays_59 : decode cX12_findWays 59 = .ok (.iload_n 1, 1) := by decide +kernel
theorem dX12_findWays_60 : decode cX12_findWays 60 = .ok (.iconst 1, 1) := by decide +kernel
theorem dX12_findWays_61 : decode cX12_findWays 61 = .ok (.isub, 1) := by decide +kernel
theorem dX12_findWays_62 : decode cX12_findWays 62 = .ok (.imul, 1) := by decide +kernel
theorem dX12_findWays_63 : decode cX12_findWays 63 = .ok (.iload_n 2, 1) := by decide +kernel
theorem dX12_findWays_64 : decode cX12_findWays 64 = .ok (.iadd, 1) := by decide +kernel
theorem dX12_findWays_65 : decode cX12_findWays 65 = .ok (.laload, 1) := by decide +kernel
theorem dX12_findWays_66 : decode cX12_findWays 66 = .ok (.ladd, 1) := by decide +kernel
theorem dX12_findWays_67 : decode cX12_findWays 67 = .ok (.lastore, 1) := by decide +kernel
theorem dX12_findWays_68 : decode cX12_findWays 68 = .ok (.iinc 2 1, 3) := by decide +kernel
theorem dX12_findWays_71 : decode cX12_findWays 71 = .ok (.goto (-61), 3) := by decide +kernel
theorem dX12_findWays_74 : decode cX12_findWays 74 = .ok (.iinc 1 1, 3) := by decide +kernel
theorem dX12_findWays_77 : decode cX12_findWays 77 = .ok (.goto (-75), 3) := by decide +kernel
theorem dX12_findWays_80 : decode cX12_findWays 80 = .ok (.return_, 1) := by decide +kernel
theorem dX12_boundOf_0 : decode cX12_boundOf 0 = .ok (.aload_n 0, 1) := by decide +kernel
theorem dX12_boundOf_1 : decode cX12_boundOf 1 = .ok (.invokevirtual 573, 3) := by decide +kernel
theorem dX12_boundOf_4 : decode cX12_boundOf 4 = .ok (.iload_n 1, 1) := by decide +kernel
theorem dX12_boundOf_5 : decode cX12_boundOf 5 = .ok (.iload_n 2, 1) := by decide +kernel
theorem dX12_boundOf_6 : decode cX12_boundOf 6 = .ok (.isub, 1) := by decide +kernel
theorem dX12_boundOf_7 : decode cX12_boundOf 7 = .ok (.iload_n 3, 1) := by decide +kernel
theorem dX12_boundOf_8 : decode cX12_boundOf 8 = .ok (.iadd, 1) := by decide +kernel
theorem dX12_boundOf_9 : decode cX12_boundOf 9 = .ok (.istore 4, 2) := by decide +kernel
theorem dX12_boundOf_11 : decode cX12_boundOf 11 = .ok (.iload 4, 2) := by decide +kernel
theorem dX12_boundOf_13 : decode cX12_boundOf 13 = .ok (.iload_n 3, 1) := by decide +kernel
theorem dX12_boundOf_14 : decode cX12_boundOf 14 = .ok (.if_icmp .le 115, 3) := by decide +kernel
theorem dX12_boundOf_17 : decode cX12_boundOf 17 = .ok (.lconst 0, 1) := by decide +kernel
theorem dX12_boundOf_18 : decode cX12_boundOf 18 = .ok (.lstore 5, 2) := by decide +kernel
theorem dX12_boundOf_20 : decode cX12_boundOf 20 = .ok (.iconst 0, 1) := by decide +kernel
theorem dX12_boundOf_21 : decode cX12_boundOf 21 = .ok (.istore 7, 2) := by decide +kernel
theorem dX12_boundOf_23 : decode cX12_boundOf 23 = .ok (.iload 7, 2) := by decide +kernel
theorem dX12_boundOf_25 : decode cX12_boundOf 25 = .ok (.iload_n 3, 1) := by decide +kernel
theorem dX12_boundOf_26 : decode cX12_boundOf 26 = .ok (.if_icmp .gt 69, 3) := by decide +kernel
theorem dX12_boundOf_29 : decode cX12_boundOf 29 = .ok (.iload 7, 2) := by decide +kernel
theorem dX12_boundOf_31 : decode cX12_boundOf 31 = .ok (.iload 4, 2) := by decide +kernel
theorem dX12_boundOf_33 : decode cX12_boundOf 33 = .ok (.if_icmp .gt 56, 3) := by decide +kernel
theorem dX12_boundOf_36 : decode cX12_boundOf 36 = .ok (.iload_n 2, 1) := by decide +kernel
theorem dX12_boundOf_37 : decode cX12_boundOf 37 = .ok (.iload 7, 2) := by decide +kernel
theorem dX12_boundOf_39 : decode cX12_boundOf 39 = .ok (.isub, 1) := by decide +kernel
theorem dX12_boundOf_40 : decode cX12_boundOf 40 = .ok (.iload_n 1, 1) := by decide +kernel
theorem dX12_boundOf_41 : decode cX12_boundOf 41 = .ok (.iload 4, 2) := by decide +kernel
theorem dX12_boundOf_43 : decode cX12_boundOf 43 = .ok (.isub, 1) := by decide +kernel
theorem dX12_boundOf_44 : decode cX12_boundOf 44 = .ok (.if_icmp .gt 45, 3) := by decide +kernel
theorem dX12_boundOf_47 : decode cX12_boundOf 47 = .ok (.iload 7, 2) := by decide +kernel
theorem dX12_boundOf_49 : decode cX12_boundOf 49 = .ok (.iload_n 2, 1) := by decide +kernel
theorem dX12_boundOf_50 : decode cX12_boundOf 50 = .ok (.if_icmp .gt 39, 3) := by decide +kernel
theorem dX12_boundOf_53 : decode cX12_boundOf 53 = .ok (.lload 5, 2) := by decide +kernel
theorem dX12_boundOf_55 : decode cX12_boundOf 55 = .ok (.aload_n 0, 1) := by decide +kernel
theorem dX12_boundOf_56 : decode cX12_boundOf 56 = .ok (.getfield 167, 3) := by decide +kernel
theorem dX12_boundOf_59 : decode cX12_boundOf 59 = .ok (.bipush 31, 2) := by decide +kernel
theorem dX12_boundOf_61 : decode cX12_boundOf 61 = .ok (.iload 4, 2) := by decide +kernel
theorem dX12_boundOf_63 : decode cX12_boundOf 63 = .ok (.imul, 1) := by decide +kernel
theorem dX12_boundOf_64 : decode cX12_boundOf 64 = .ok (.iload 7, 2) := by decide +kernel
theorem dX12_boundOf_66 : decode cX12_boundOf 66 = .ok (.iadd, 1) := by decide +kernel
theorem dX12_boundOf_67 : decode cX12_boundOf 67 = .ok (.laload, 1) := by decide +kernel
theorem dX12_boundOf_68 : decode cX12_boundOf 68 = .ok (.aload_n 0, 1) := by decide +kernel
theorem dX12_boundOf_69 : decode cX12_boundOf 69 = .ok (.getfield 167, 3) := by decide +kernel
theorem dX12_boundOf_72 : decode cX12_boundOf 72 = .ok (.bipush 31, 2) := by decide +kernel
theorem dX12_boundOf_74 : decode cX12_boundOf 74 = .ok (.iload_n 1, 1) := by decide +kernel
theorem dX12_boundOf_75 : decode cX12_boundOf 75 = .ok (.iload 4, 2) := by decide +kernel
theorem dX12_boundOf_77 : decode cX12_boundOf 77 = .ok (.isub, 1) := by decide +kernel
theorem dX12_boundOf_78 : decode cX12_boundOf 78 = .ok (.imul, 1) := by decide +kernel
theorem dX12_boundOf_79 : decode cX12_boundOf 79 = .ok (.iload_n 2, 1) := by decide +kernel
theorem dX12_boundOf_80 : decode cX12_boundOf 80 = .ok (.iadd, 1) := by decide +kernel
theorem dX12_boundOf_81 : decode cX12_boundOf 81 = .ok (.iload 7, 2) := by decide +kernel
theorem dX12_boundOf_83 : decode cX12_boundOf 83 = .ok (.isub, 1) := by decide +kernel
theorem dX12_boundOf_84 : decode cX12_boundOf 84 = .ok (.laload, 1) := by decide +kernel
theorem dX12_boundOf_85 : decode cX12_boundOf 85 = .ok (.lmul, 1) := by decide +kernel
theorem dX12_boundOf_86 : decode cX12_boundOf 86 = .ok (.ladd, 1) := by decide +kernel
theorem dX12_boundOf_87 : decode cX12_boundOf 87 = .ok (.lstore 5, 2) := by decide +kernel
theorem dX12_boundOf_89 : decode cX12_boundOf 89 = .ok (.iinc 7 1, 3) := by decide +kernel
theorem dX12_boundOf_92 : decode cX12_boundOf 92 = .ok (.goto (-69), 3) := by decide +kernel
theorem dX12_boundOf_95 : decode cX12_boundOf 95 = .ok (.ldc2_w 576, 3) := by decide +kernel
theorem dX12_boundOf_98 : decode cX12_boundOf 98 = .ok (.lload 5, 2) := by decide +kernel
theorem dX12_boundOf_100 : decode cX12_boundOf 100 = .ok (.lmul, 1) := by decide +kernel
theorem dX12_boundOf_101 : decode cX12_boundOf 101 = .ok (.ldc2_w 578, 3) := by decide +kernel
theorem dX12_boundOf_104 : decode cX12_boundOf 104 = .ok (.aload_n 0, 1) := by decide +kernel
theorem dX12_boundOf_105 : decode cX12_boundOf 105 = .ok (.getfield 167, 3) := by decide +kernel
theorem dX12_boundOf_108 : decode cX12_boundOf 108 = .ok (.bipush 31, 2) := by decide +kernel
theorem dX12_boundOf_110 : decode cX12_boundOf 110 = .ok (.iload_n 1, 1) := by decide +kernel
theorem dX12_boundOf_111 : decode cX12_boundOf 111 = .ok (.imul, 1) := by decide +kernel
theorem dX12_boundOf_112 : decode cX12_boundOf 112 = .ok (.iload_n 2, 1) := by decide +kernel
theorem dX12_boundOf_113 : decode cX12_boundOf 113 = .ok (.iadd, 1) := by decide +kernel
theorem dX12_boundOf_114 : decode cX12_boundOf 114 = .ok (.laload, 1) := by decide +kernel
theorem dX12_boundOf_115 : decode cX12_boundOf 115 = .ok (.lmul, 1) := by decide +kernel
theorem dX12_boundOf_116 : decode cX12_boundOf 116 = .ok (.lcmp, 1) := by decide +kernel
theorem dX12_boundOf_117 : decode cX12_boundOf 117 = .ok (.ifCond .lt 6, 3) := by decide +kernel
theorem dX12_boundOf_120 : decode cX12_boundOf 120 = .ok (.iload 4, 2) := by decide +kernel
theorem dX12_boundOf_122 : decode cX12_boundOf 122 = .ok (.ireturn, 1) := by decide +kernel
theorem dX12_boundOf_123 : decode cX12_boundOf 123 = .ok (.iinc 4 (-1), 3) := by decide +kernel
theorem dX12_boundOf_126 : decode cX12_boundOf 126 = .ok (.goto (-115), 3) := by decide +kernel
theorem dX12_boundOf_129 : decode cX12_boundOf 129 = .ok (.iload_n 3, 1) := by decide +kernel
theorem dX12_boundOf_130 : decode cX12_boundOf 130 = .ok (.ireturn, 1) := by decide +kernel
theorem dX12_nobody_0 : decode cX12_nobody 0 = .ok (.iload_n 1, 1) := by decide +kernel
theorem dX12_nobody_1 : decode cX12_nobody 1 = .ok (.iconst 0, 1) := by decide +kernel
theorem dX12_nobody_2 : decode cX12_nobody 2 = .ok (.iconst 3, 1) := by decide +kernel
theorem dX12_nobody_3 : decode cX12_nobody 3 = .ok (.invokestatic 195, 3) := by decide +kernel
theorem dX12_nobody_6 : decode cX12_nobody 6 = .ok (.ifCond .ne 5, 3) := by decide +kernel
theorem dX12_nobody_9 : decode cX12_nobody 9 = .ok (.iconst (-1), 1) := by decide +kernel
theorem dX12_nobody_10 : decode cX12_nobody 10 = .ok (.ireturn, 1) := by decide +kernel
theorem dX12_nobody_11 : decode cX12_nobody 11 = .ok (.iconst 0, 1) := by decide +kernel
theorem dX12_nobody_12 : decode cX12_nobody 12 = .ok (.istore_n 2, 1) := by decide +kernel
theorem dX12_nobody_13 : decode cX12_nobody 13 = .ok (.iconst 0, 1) := by decide +kernel
theorem dX12_nobody_14 : decode cX12_nobody 14 = .ok (.istore_n 3, 1) := by decide +kernel
theorem dX12_nobody_15 : decode cX12_nobody 15 = .ok (.iconst 0, 1) := by decide +kernel
theorem dX12_nobody_16 : decode cX12_nobody 16 = .ok (.istore 4, 2) := by decide +kernel
theorem dX12_nobody_18 : decode cX12_nobody 18 = .ok (.iconst 0, 1) := by decide +kernel
theorem dX12_nobody_19 : decode cX12_nobody 19 = .ok (.istore 5, 2) := by decide +kernel
theorem dX12_nobody_21 : decode cX12_nobody 21 = .ok (.iload 5, 2) := by decide +kernel
theorem dX12_nobody_23 : decode cX12_nobody 23 = .ok (.aload_n 0, 1) := by decide +kernel
theorem dX12_nobody_24 : decode cX12_nobody 24 = .ok (.getfield 214, 3) := by decide +kernel
theorem dX12_nobody_27 : decode cX12_nobody 27 = .ok (.if_icmp .ge 63, 3) := by decide +kernel
theorem dX12_nobody_30 : decode cX12_nobody 30 = .ok (.aload_n 0, 1) := by decide +kernel
theorem dX12_nobody_31 : decode cX12_nobody 31 = .ok (.iload 5, 2) := by decide +kernel
theorem dX12_nobody_33 : decode cX12_nobody 33 = .ok (.invokevirtual 570, 3) := by decide +kernel
theorem dX12_nobody_36 : decode cX12_nobody 36 = .ok (.ifCond .ne 6, 3) := by decide +kernel
theorem dX12_nobody_39 : decode cX12_nobody 39 = .ok (.goto 45, 3) := by decide +kernel
theorem dX12_nobody_42 : decode cX12_nobody 42 = .ok (.iinc 2 1, 3) := by decide +kernel
theorem dX12_nobody_45 : decode cX12_nobody 45 = .ok (.iload_n 3, 1) := by decide +kernel
theorem dX12_nobody_46 : decode cX12_nobody 46 = .ok (.aload_n 0, 1) := by decide +kernel
theorem dX12_nobody_47 : decode cX12_nobody 47 = .ok (.getfield 164, 3) := by decide +kernel
theorem dX12_nobody_50 : decode cX12_nobody 50 = .ok (.iload 5, 2) := by decide +kernel
theorem dX12_nobody_52 : decode cX12_nobody 52 = .ok (.baload, 1) := by decide +kernel
theorem dX12_nobody_53 : decode cX12_nobody 53 = .ok (.ifCond .le 7, 3) := by decide +kernel
theorem dX12_nobody_56 : decode cX12_nobody 56 = .ok (.iconst 1, 1) := by decide +kernel
theorem dX12_nobody_57 : decode cX12_nobody 57 = .ok (.goto 4, 3) := by decide +kernel
theorem dX12_nobody_60 : decode cX12_nobody 60 = .ok (.iconst 0, 1) := by decide +kernel
theorem dX12_nobody_61 : decode cX12_nobody 61 = .ok (.iadd, 1) := by decide +kernel
theorem dX12_nobody_62 : decode cX12_nobody 62 = .ok (.istore_n 3, 1) := by decide +kernel
theorem dX12_nobody_63 : decode cX12_nobody 63 = .ok (.iload 4, 2) := by decide +kernel
theorem dX12_nobody_65 : decode cX12_nobody 65 = .ok (.aload_n 0, 1) := by decide +kernel
theorem dX12_nobody_66 : decode cX12_nobody 66 = .ok (.getfield 164, 3) := by decide +kernel
theorem dX12_nobody_69 : decode cX12_nobody 69 = .ok (.iload 5, 2) := by decide +kernel
theorem dX12_nobody_71 : decode cX12_nobody 71 = .ok (.baload, 1) := by decide +kernel
theorem dX12_nobody_72 : decode cX12_nobody 72 = .ok (.iconst 2, 1) := by decide +kernel
theorem dX12_nobody_73 : decode cX12_nobody 73 = .ok (.if_icmp .ne 7, 3) := by decide +kernel
theorem dX12_nobody_76 : decode cX12_nobody 76 = .ok (.iconst 1, 1) := by decide +kernel
theorem dX12_nobody_77 : decode cX12_nobody 77 = .ok (.goto 4, 3) := by decide +kernel
theorem dX12_nobody_80 : decode cX12_nobody 80 = .ok (.iconst 0, 1) := by decide +kernel
theorem dX12_nobody_81 : decode cX12_nobody 81 = .ok (.iadd, 1) := by decide +kernel
theorem dX12_nobody_82 : decode cX12_nobody 82 = .ok (.istore 4, 2) := by decide +kernel
theorem dX12_nobody_84 : decode cX12_nobody 84 = .ok (.iinc 5 1, 3) := by decide +kernel
theorem dX12_nobody_87 : decode cX12_nobody 87 = .ok (.goto (-66), 3) := by decide +kernel
theorem dX12_nobody_90 : decode cX12_nobody 90 = .ok (.iload_n 1, 1) := by decide +kernel
theorem dX12_nobody_91 : decode cX12_nobody 91 = .ok (.iconst 3, 1) := by decide +kernel
theorem dX12_nobody_92 : decode cX12_nobody 92 = .ok (.if_icmp .ge 23, 3) := by decide +kernel
theorem dX12_nobody_95 : decode cX12_nobody 95 = .ok (.iload_n 1, 1) := by decide +kernel
theorem dX12_nobody_96 : decode cX12_nobody 96 = .ok (.ifCond .ne 7, 3) := by decide +kernel
theorem dX12_nobody_99 : decode cX12_nobody 99 = .ok (.iload_n 2, 1) := by decide +kernel
theorem dX12_nobody_100 : decode cX12_nobody 100 = .ok (.goto 14, 3) := by decide +kernel
theorem dX12_nobody_103 : decode cX12_nobody 103 = .ok (.iload_n 1, 1) := by decide +kernel
theorem dX12_nobody_104 : decode cX12_nobody 104 = .ok (.iconst 1, 1) := by decide +kernel
theorem dX12_nobody_105 : decode cX12_nobody 105 = .ok (.if_icmp .ne 7, 3) := by decide +kernel
theorem dX12_nobody_108 : decode cX12_nobody 108 = .ok (.iload_n 3, 1) := by decide +kernel
theorem dX12_nobody_109 : decode cX12_nobody 109 = .ok (.goto 5, 3) := by decide +kernel
theorem dX12_nobody_112 : decode cX12_nobody 112 = .ok (.iload 4, 2) := by decide +kernel
theorem dX12_nobody_114 : decode cX12_nobody 114 = .ok (.ireturn, 1) := by decide +kernel
theorem dX12_nobody_115 : decode cX12_nobody 115 = .ok (.iload_n 2, 1) := by decide +kernel
theorem dX12_nobody_116 : decode cX12_nobody 116 = .ok (.bipush 30, 2) := by decide +kernel
theorem dX12_nobody_118 : decode cX12_nobody 118 = .ok (.if_icmp .le 8, 3) := by decide +kernel
theorem dX12_nobody_121 : decode cX12_nobody 121 = .ok (.bipush (-4), 2) := by decide +kernel
theorem dX12_nobody_123 : decode cX12_nobody 123 = .ok (.goto 11, 3) := by decide +kernel
theorem dX12_nobody_126 : decode cX12_nobody 126 = .ok (.aload_n 0, 1) := by decide +kernel
theorem dX12_nobody_127 : decode cX12_nobody 127 = .ok (.iload_n 2, 1) := by decide +kernel
theorem dX12_nobody_128 : decode cX12_nobody 128 = .ok (.iload_n 3, 1) := by decide +kernel
theorem dX12_nobody_129 : decode cX12_nobody 129 = .ok (.iload 4, 2) := by decide +kernel
theorem dX12_nobody_131 : decode cX12_nobody 131 = .ok (.invokevirtual 580, 3) := by decide +kernel
theorem dX12_nobody_134 : decode cX12_nobody 134 = .ok (.ireturn, 1) := by decide +kernel
theorem dX12_findRanks_0 : decode cX12_findRanks 0 = .ok (.iconst 0, 1) := by decide +kernel
theorem dX12_findRanks_1 : decode cX12_findRanks 1 = .ok (.istore_n 3, 1) := by decide +kernel
theorem dX12_findRanks_2 : decode cX12_findRanks 2 = .ok (.iload_n 3, 1) := by decide +kernel
theorem dX12_findRanks_3 : decode cX12_findRanks 3 = .ok (.aload_n 0, 1) := by decide +kernel
theorem dX12_findRanks_4 : decode cX12_findRanks 4 = .ok (.getfield 252, 3) := by decide +kernel
theorem dX12_findRanks_7 : decode cX12_findRanks 7 = .ok (.if_icmp .ge 59, 3) := by decide +kernel
theorem dX12_findRanks_10 : decode cX12_findRanks 10 = .ok (.aload_n 0, 1) := by decide +kernel
theorem dX12_findRanks_11 : decode cX12_findRanks 11 = .ok (.getfield 174, 3) := by decide +kernel
theorem dX12_findRanks_14 : decode cX12_findRanks 14 = .ok (.iload_n 3, 1) := by decide +kernel
theorem dX12_findRanks_15 : decode cX12_findRanks 15 = .ok (.aload_n 0, 1) := by decide +kernel
theorem dX12_findRanks_16 : decode cX12_findRanks 16 = .ok (.getfield 55, 3) := by decide +kernel
theorem dX12_findRanks_19 : decode cX12_findRanks 19 = .ok (.iload_n 3, 1) := by decide +kernel
theorem dX12_findRanks_20 : decode cX12_findRanks 20 = .ok (.baload, 1) := by decide +kernel
theorem dX12_findRanks_21 : decode cX12_findRanks 21 = .ok (.ifCond .eq 37, 3) := by decide +kernel
theorem dX12_findRanks_24 : decode cX12_findRanks 24 = .ok (.aload_n 0, 1) := by decide +kernel
theorem dX12_findRanks_25 : decode cX12_findRanks 25 = .ok (.getfield 52, 3) := by decide +kernel
theorem dX12_findRanks_28 : decode cX12_findRanks 28 = .ok (.iload_n 3, 1) := by decide +kernel
theorem dX12_findRanks_29 : decode cX12_findRanks 29 = .ok (.iaload, 1) := by decide +kernel
theorem dX12_findRanks_30 : decode cX12_findRanks 30 = .ok (.bipush 24, 2) := by decide +kernel
theorem dX12_findRanks_32 : decode cX12_findRanks 32 = .ok (.idiv, 1) := by decide +kernel
theorem dX12_findRanks_33 : decode cX12_findRanks 33 = .ok (.iload_n 1, 1) := by decide +kernel
theorem dX12_findRanks_34 : decode cX12_findRanks 34 = .ok (.if_icmp .gt 24, 3) := by decide +kernel
theorem dX12_findRanks_37 : decode cX12_findRanks 37 = .ok (.aload_n 0, 1) := by decide +kernel
theorem dX12_findRanks_38 : decode cX12_findRanks 38 = .ok (.iload_n 3, 1) := by decide +kernel
theorem dX12_findRanks_39 : decode cX12_findRanks 39 = .ok (.invokevirtual 321, 3) := by decide +kernel
theorem dX12_findRanks_42 : decode cX12_findRanks 42 = .ok (.ifCond .ne 16, 3) := by decide +kernel
theorem dX12_findRanks_45 : decode cX12_findRanks 45 = .ok (.aload_n 0, 1) := by decide +kernel
theorem dX12_findRanks_46 : decode cX12_findRanks 46 = .ok (.iload_n 3, 1) := by decide +kernel
theorem dX12_findRanks_47 : decode cX12_findRanks 47 = .ok (.iload_n 2, 1) := by decide +kernel
theorem dX12_findRanks_48 : decode cX12_findRanks 48 = .ok (.invokevirtual 305, 3) := by decide +kernel
theorem dX12_findRanks_51 : decode cX12_findRanks 51 = .ok (.ifCond .eq 7, 3) := by decide +kernel
theorem dX12_findRanks_54 : decode cX12_findRanks 54 = .ok (.iconst 1, 1) := by decide +kernel
theorem dX12_findRanks_55 : decode cX12_findRanks 55 = .ok (.goto 4, 3) := by decide +kernel
theorem dX12_findRanks_58 : decode cX12_findRanks 58 = .ok (.iconst 0, 1) := by decide +kernel
theorem dX12_findRanks_59 : decode cX12_findRanks 59 = .ok (.bastore, 1) := by decide +kernel
theorem dX12_findRanks_60 : decode cX12_findRanks 60 = .ok (.iinc 3 1, 3) := by decide +kernel
theorem dX12_findRanks_63 : decode cX12_findRanks 63 = .ok (.goto (-61), 3) := by decide +kernel
theorem dX12_findRanks_66 : decode cX12_findRanks 66 = .ok (.iconst 0, 1) := by decide +kernel
theorem dX12_findRanks_67 : decode cX12_findRanks 67 = .ok (.istore_n 3, 1) := by decide +kernel
theorem dX12_findRanks_68 : decode cX12_findRanks 68 = .ok (.iload_n 3, 1) := by decide +kernel
theorem dX12_findRanks_69 : decode cX12_findRanks 69 = .ok (.aload_n 0, 1) := by decide +kernel
theorem dX12_findRanks_70 : decode cX12_findRanks 70 = .ok (.getfield 214, 3) := by decide +kernel
theorem dX12_findRanks_73 : decode cX12_findRanks 73 = .ok (.if_icmp .ge 16, 3) := by decide +kernel
theorem dX12_findRanks_76 : decode cX12_findRanks 76 = .ok (.aload_n 0, 1) := by decide +kernel
theorem dX12_findRanks_77 : decode cX12_findRanks 77 = .ok (.getfield 171, 3) := by decide +kernel
theorem dX12_findRanks_80 : decode cX12_findRanks 80 = .ok (.iload_n 3, 1) := by decide +kernel
theorem dX12_findRanks_81 : decode cX12_findRanks 81 = .ok (.iconst 0, 1) := by decide +kernel
theorem dX12_findRanks_82 : decode cX12_findRanks 82 = .ok (.iastore, 1) := by decide +kernel
theorem dX12_findRanks_83 : decode cX12_findRanks 83 = .ok (.iinc 3 1, 3) := by decide +kernel
theorem dX12_findRanks_86 : decode cX12_findRanks 86 = .ok (.goto (-18), 3) := by decide +kernel
theorem dX12_findRanks_89 : decode cX12_findRanks 89 = .ok (.iconst 0, 1) := by decide +kernel
theorem dX12_findRanks_90 : decode cX12_findRanks 90 = .ok (.istore_n 3, 1) := by decide +kernel
theorem dX12_findRanks_91 : decode cX12_findRanks 91 = .ok (.iload_n 3, 1) := by decide +kernel
theorem dX12_findRanks_92 : decode cX12_findRanks 92 = .ok (.aload_n 0, 1) := by decide +kernel
theorem dX12_findRanks_93 : decode cX12_findRanks 93 = .ok (.getfield 252, 3) := by decide +kernel
theorem dX12_findRanks_96 : decode cX12_findRanks 96 = .ok (.if_icmp .ge 117, 3) := by decide +kernel
theorem dX12_findRanks_99 : decode cX12_findRanks 99 = .ok (.aload_n 0, 1) := by decide +kernel
theorem dX12_findRanks_100 : decode cX12_findRanks 100 = .ok (.getfield 174, 3) := by decide +kernel
theorem dX12_findRanks_103 : decode cX12_findRanks 103 = .ok (.iload_n 3, 1) := by decide +kernel
theorem dX12_findRanks_104 : decode cX12_findRanks 104 = .ok (.baload, 1) := by decide +kernel
theorem dX12_findRanks_105 : decode cX12_findRanks 105 = .ok (.ifCond .ne 6, 3) := by decide +kernel
theorem dX12_findRanks_108 : decode cX12_findRanks 108 = .ok (.goto 99, 3) := by decide +kernel
theorem dX12_findRanks_111 : decode cX12_findRanks 111 = .ok (.iconst 1, 1) := by decide +kernel
theorem dX12_findRanks_112 : decode cX12_findRanks 112 = .ok (.istore 4, 2) := by decide +kernel
theorem dX12_findRanks_114 : decode cX12_findRanks 114 = .ok (.iconst 0, 1) := by decide +kernel
theorem dX12_findRanks_115 : decode cX12_findRanks 115 = .ok (.istore 5, 2) := by decide +kernel
theorem dX12_findRanks_117 : decode cX12_findRanks 117 = .ok (.iload 5, 2) := by decide +kernel
theorem dX12_findRanks_119 : decode cX12_findRanks 119 = .ok (.iload_n 3, 1) := by decide +kernel
theorem dX12_findRanks_120 : decode cX12_findRanks 120 = .ok (.if_icmp .ge 63, 3) := by decide +kernel
theorem dX12_findRanks_123 : decode cX12_findRanks 123 = .ok (.iload 4, 2) := by decide +kernel
theorem dX12_findRanks_125 : decode cX12_findRanks 125 = .ok (.ifCond .eq 58, 3) := by decide +kernel
theorem dX12_findRanks_128 : decode cX12_findRanks 128 = .ok (.aload_n 0, 1) := by decide +kernel
theorem dX12_findRanks_129 : decode cX12_findRanks 129 = .ok (.getfield 174, 3) := by decide +kernel
theorem dX12_findRanks_132 : decode cX12_findRanks 132 = .ok (.iload 5, 2) := by decide +kernel
theorem dX12_findRanks_134 : decode cX12_findRanks 134 = .ok (.baload, 1) := by decide +kernel
theorem dX12_findRanks_135 : decode cX12_findRanks 135 = .ok (.ifCond .eq 35, 3) := by decide +kernel
theorem dX12_findRanks_138 : decode cX12_findRanks 138 = .ok (.aload_n 0, 1) := by decide +kernel
theorem dX12_findRanks_139 : decode cX12_findRanks 139 = .ok (.getfield 46, 3) := by decide +kernel
theorem dX12_findRanks_142 : decode cX12_findRanks 142 = .ok (.iload 5, 2) := by decide +kernel
theorem dX12_findRanks_144 : decode cX12_findRanks 144 = .ok (.iaload, 1) := by decide +kernel
theorem dX12_findRanks_145 : decode cX12_findRanks 145 = .ok (.aload_n 0, 1) := by decide +kernel
theorem dX12_findRanks_146 : decode cX12_findRanks 146 = .ok (.getfield 46, 3) := by decide +kernel
theorem dX12_findRanks_149 : decode cX12_findRanks 149 = .ok (.iload_n 3, 1) := by decide +kernel
theorem dX12_findRanks_150 : decode cX12_findRanks 150 = .ok (.iaload, 1) := by decide +kernel
theorem dX12_findRanks_151 : decode cX12_findRanks 151 = .ok (.if_icmp .ne 19, 3) := by decide +kernel
theorem dX12_findRanks_154 : decode cX12_findRanks 154 = .ok (.aload_n 0, 1) := by decide +kernel
theorem dX12_findRanks_155 : decode cX12_findRanks 155 = .ok (.getfield 49, 3) := by decide +kernel
theorem dX12_findRanks_158 : decode cX12_findRanks 158 = .ok (.iload 5, 2) := by decide +kernel
theorem dX12_findRanks_160 : decode cX12_findRanks 160 = .ok (.iaload, 1) := by decide +kernel
theorem dX12_findRanks_161 : decode cX12_findRanks 161 = .ok (.aload_n 0, 1) := by decide +kernel
theorem dX12_findRanks_162 : decode cX12_findRanks 162 = .ok (.getfield 49, 3) := by decide +kernel
theorem dX12_findRanks_165 : decode cX12_findRanks 165 = .ok (.iload_n 3, 1) := by decide +kernel
theorem dX12_findRanks_166 : decode cX12_findRanks 166 = .ok (.iaload, 1) := by decide +kernel
theorem dX12_findRanks_167 : decode cX12_findRanks 167 = .ok (.if_icmp .eq 7, 3) := by decide +kernel
theorem dX12_findRanks_170 : decode cX12_findRanks 170 = .ok (.iconst 1, 1) := by decide +kernel
theorem dX12_findRanks_171 : decode cX12_findRanks 171 = .ok (.goto 4, 3) := by decide +kernel
theorem dX12_findRanks_174 : decode cX12_findRanks 174 = .ok (.iconst 0, 1) := by decide +kernel
theorem dX12_findRanks_175 : decode cX12_findRanks 175 = .ok (.istore 4, 2) := by decide +kernel
theorem dX12_findRanks_177 : decode cX12_findRanks 177 = .ok (.iinc 5 1, 3) := by decide +kernel
theorem dX12_findRanks_180 : decode cX12_findRanks 180 = .ok (.goto (-63), 3) := by decide +kernel
theorem dX12_findRanks_183 : decode cX12_findRanks 183 = .ok (.aload_n 0, 1) := by decide +kernel
theorem dX12_findRanks_184 : decode cX12_findRanks 184 = .ok (.getfield 171, 3) := by decide +kernel
theorem dX12_findRanks_187 : decode cX12_findRanks 187 = .ok (.aload_n 0, 1) := by decide +kernel
theorem dX12_findRanks_188 : decode cX12_findRanks 188 = .ok (.getfield 46, 3) := by decide +kernel
theorem dX12_findRanks_191 : decode cX12_findRanks 191 = .ok (.iload_n 3, 1) := by decide +kernel
theorem dX12_findRanks_192 : decode cX12_findRanks 192 = .ok (.iaload, 1) := by decide +kernel
theorem dX12_findRanks_193 : decode cX12_findRanks 193 = .ok (.dup2, 1) := by decide +kernel
theorem dX12_findRanks_194 : decode cX12_findRanks 194 = .ok (.iaload, 1) := by decide +kernel
theorem dX12_findRanks_195 : decode cX12_findRanks 195 = .ok (.iload 4, 2) := by decide +kernel
theorem dX12_findRanks_197 : decode cX12_findRanks 197 = .ok (.ifCond .eq 7, 3) := by decide +kernel
theorem dX12_findRanks_200 : decode cX12_findRanks 200 = .ok (.iconst 1, 1) := by decide +kernel
theorem dX12_findRanks_201 : decode cX12_findRanks 201 = .ok (.goto 4, 3) := by decide +kernel
theorem dX12_findRanks_204 : decode cX12_findRanks 204 = .ok (.iconst 0, 1) := by decide +kernel
theorem dX12_findRanks_205 : decode cX12_findRanks 205 = .ok (.iadd, 1) := by decide +kernel
theorem dX12_findRanks_206 : decode cX12_findRanks 206 = .ok (.iastore, 1) := by decide +kernel
theorem dX12_findRanks_207 : decode cX12_findRanks 207 = .ok (.iinc 3 1, 3) := by decide +kernel
theorem dX12_findRanks_210 : decode cX12_findRanks 210 = .ok (.goto (-119), 3) := by decide +kernel
theorem dX12_findRanks_213 : decode cX12_findRanks 213 = .ok (.return_, 1) := by decide +kernel
theorem dX12_rank_0 : decode cX12_rank 0 = .ok (.aload_n 0, 1) := by decide +kernel
theorem dX12_rank_1 : decode cX12_rank 1 = .ok (.iload_n 1, 1) := by decide +kernel
theorem dX12_rank_2 : decode cX12_rank 2 = .ok (.invokevirtual 230, 3) := by decide +kernel
theorem dX12_rank_5 : decode cX12_rank 5 = .ok (.ifCond .eq 49, 3) := by decide +kernel
theorem dX12_rank_8 : decode cX12_rank 8 = .ok (.iload_n 2, 1) := by decide +kernel
theorem dX12_rank_9 : decode cX12_rank 9 = .ok (.invokestatic 245, 3) := by decide +kernel
theorem dX12_rank_12 : decode cX12_rank 12 = .ok (.ifCond .eq 42, 3) := by decide +kernel
theorem dX12_rank_15 : decode cX12_rank 15 = .ok (.iload_n 3, 1) := by decide +kernel
theorem dX12_rank_16 : decode cX12_rank 16 = .ok (.iconst (-1), 1) := by decide +kernel
theorem dX12_rank_17 : decode cX12_rank 17 = .ok (.if_icmp .eq 27, 3) := by decide +kernel
theorem dX12_rank_20 : decode cX12_rank 20 = .ok (.iload_n 3, 1) := by decide +kernel
theorem dX12_rank_21 : decode cX12_rank 21 = .ok (.iconst 0, 1) := by decide +kernel
theorem dX12_rank_22 : decode cX12_rank 22 = .ok (.aload_n 0, 1) := by decide +kernel
theorem dX12_rank_23 : decode cX12_rank 23 = .ok (.getfield 358, 3) := by decide +kernel
theorem dX12_rank_26 : decode cX12_rank 26 = .ok (.iconst 1, 1) := by decide +kernel
theorem dX12_rank_27 : decode cX12_rank 27 = .ok (.isub, 1) := by decide +kernel
theorem dX12_rank_28 : decode cX12_rank 28 = .ok (.invokestatic 195, 3) := by decide +kernel
theorem dX12_rank_31 : decode cX12_rank 31 = .ok (.ifCond .eq 23, 3) := by decide +kernel
theorem dX12_rank_34 : decode cX12_rank 34 = .ok (.aload_n 0, 1) := by decide +kernel
theorem dX12_rank_35 : decode cX12_rank 35 = .ok (.getfield 70, 3) := by decide +kernel
theorem dX12_rank_38 : decode cX12_rank 38 = .ok (.iload_n 3, 1) := by decide +kernel
theorem dX12_rank_39 : decode cX12_rank 39 = .ok (.iaload, 1) := by decide +kernel
theorem dX12_rank_40 : decode cX12_rank 40 = .ok (.iconst 2, 1) := by decide +kernel
theorem dX12_rank_41 : decode cX12_rank 41 = .ok (.if_icmp .ne 13, 3) := by decide +kernel
theorem dX12_rank_44 : decode cX12_rank 44 = .ok (.iload 4, 2) := by decide +kernel
theorem dX12_rank_46 : decode cX12_rank 46 = .ok (.iconst 0, 1) := by decide +kernel
theorem dX12_rank_47 : decode cX12_rank 47 = .ok (.iconst 1, 1) := by decide +kernel
theorem dX12_rank_48 : decode cX12_rank 48 = .ok (.invokestatic 195, 3) := by decide +kernel
theorem dX12_rank_51 : decode cX12_rank 51 = .ok (.ifCond .ne 5, 3) := by decide +kernel
theorem dX12_rank_54 : decode cX12_rank 54 = .ok (.iconst (-1), 1) := by decide +kernel
theorem dX12_rank_55 : decode cX12_rank 55 = .ok (.ireturn, 1) := by decide +kernel
theorem dX12_rank_56 : decode cX12_rank 56 = .ok (.aload_n 0, 1) := by decide +kernel
theorem dX12_rank_57 : decode cX12_rank 57 = .ok (.iload_n 2, 1) := by decide +kernel
theorem dX12_rank_58 : decode cX12_rank 58 = .ok (.iload_n 3, 1) := by decide +kernel
theorem dX12_rank_59 : decode cX12_rank 59 = .ok (.invokevirtual 583, 3) := by decide +kernel
theorem dX12_rank_62 : decode cX12_rank 62 = .ok (.iload 4, 2) := by decide +kernel
theorem dX12_rank_64 : decode cX12_rank 64 = .ok (.ifCond .ne 10, 3) := by decide +kernel
theorem dX12_rank_67 : decode cX12_rank 67 = .ok (.aload_n 0, 1) := by decide +kernel
theorem dX12_rank_68 : decode cX12_rank 68 = .ok (.getfield 171, 3) := by decide +kernel
theorem dX12_rank_71 : decode cX12_rank 71 = .ok (.iload_n 1, 1) := by decide +kernel
theorem dX12_rank_72 : decode cX12_rank 72 = .ok (.iaload, 1) := by decide +kernel
theorem dX12_rank_73 : decode cX12_rank 73 = .ok (.ireturn, 1) := by decide +kernel
theorem dX12_rank_74 : decode cX12_rank 74 = .ok (.iconst 1, 1) := by decide +kernel
theorem dX12_rank_75 : decode cX12_rank 75 = .ok (.istore 5, 2) := by decide +kernel
theorem dX12_rank_77 : decode cX12_rank 77 = .ok (.iconst 0, 1) := by decide +kernel
theorem dX12_rank_78 : decode cX12_rank 78 = .ok (.istore 6, 2) := by decide +kernel
theorem dX12_rank_80 : decode cX12_rank 80 = .ok (.iload 6, 2) := by decide +kernel
theorem dX12_rank_82 : decode cX12_rank 82 = .ok (.aload_n 0, 1) := by decide +kernel
theorem dX12_rank_83 : decode cX12_rank 83 = .ok (.getfield 214, 3) := by decide +kernel
theorem dX12_rank_86 : decode cX12_rank 86 = .ok (.if_icmp .ge 47, 3) := by decide +kernel
theorem dX12_rank_89 : decode cX12_rank 89 = .ok (.iload 5, 2) := by decide +kernel
theorem dX12_rank_91 : decode cX12_rank 91 = .ok (.aload_n 0, 1) := by decide +kernel
theorem dX12_rank_92 : decode cX12_rank 92 = .ok (.getfield 13, 3) := by decide +kernel
theorem dX12_rank_95 : decode cX12_rank 95 = .ok (.iload 6, 2) := by decide +kernel
theorem dX12_rank_97 : decode cX12_rank 97 = .ok (.iaload, 1) := by decide +kernel
theorem dX12_rank_98 : decode cX12_rank 98 = .ok (.bipush 7, 2) := by decide +kernel
theorem dX12_rank_100 : decode cX12_rank 100 = .ok (.if_icmp .ne 23, 3) := by decide +kernel
theorem dX12_rank_103 : decode cX12_rank 103 = .ok (.aload_n 0, 1) := by decide +kernel
theorem dX12_rank_104 : decode cX12_rank 104 = .ok (.getfield 171, 3) := by decide +kernel
theorem dX12_rank_107 : decode cX12_rank 107 = .ok (.iload 6, 2) := by decide +kernel
theorem dX12_rank_109 : decode cX12_rank 109 = .ok (.iaload, 1) := by decide +kernel
theorem dX12_rank_110 : decode cX12_rank 110 = .ok (.aload_n 0, 1) := by decide +kernel
theorem dX12_rank_111 : decode cX12_rank 111 = .ok (.getfield 171, 3) := by decide +kernel
theorem dX12_rank_114 : decode cX12_rank 114 = .ok (.iload_n 1, 1) := by decide +kernel
theorem dX12_rank_115 : decode cX12_rank 115 = .ok (.iaload, 1) := by decide +kernel
theorem dX12_rank_116 : decode cX12_rank 116 = .ok (.if_icmp .le 7, 3) := by decide +kernel
theorem dX12_rank_119 : decode cX12_rank 119 = .ok (.iconst 1, 1) := by decide +kernel
theorem dX12_rank_120 : decode cX12_rank 120 = .ok (.goto 4, 3) := by decide +kernel
theorem dX12_rank_123 : decode cX12_rank 123 = .ok (.iconst 0, 1) := by decide +kernel
theorem dX12_rank_124 : decode cX12_rank 124 = .ok (.iadd, 1) := by decide +kernel
theorem dX12_rank_125 : decode cX12_rank 125 = .ok (.istore 5, 2) := by decide +kernel
theorem dX12_rank_127 : decode cX12_rank 127 = .ok (.iinc 6 1, 3) := by decide +kernel
theorem dX12_rank_130 : decode cX12_rank 130 = .ok (.goto (-50), 3) := by decide +kernel
theorem dX12_rank_133 : decode cX12_rank 133 = .ok (.iload 5, 2) := by decide +kernel
theorem dX12_rank_135 : decode cX12_rank 135 = .ok (.ireturn, 1) := by decide +kernel
theorem dX12_ran_0 : decode cX12_ran 0 = .ok (.aload_n 0, 1) := by decide +kernel
theorem dX12_ran_1 : decode cX12_ran 1 = .ok (.getfield 586, 3) := by decide +kernel
theorem dX12_ran_4 : decode cX12_ran 4 = .ok (.bipush 24, 2) := by decide +kernel
theorem dX12_ran_6 : decode cX12_ran 6 = .ok (.if_icmp .ge 13, 3) := by decide +kernel
theorem dX12_ran_9 : decode cX12_ran 9 = .ok (.aload_n 0, 1) := by decide +kernel
theorem dX12_ran_10 : decode cX12_ran 10 = .ok (.getfield 177, 3) := by decide +kernel
theorem dX12_ran_13 : decode cX12_ran 13 = .ok (.aload_n 0, 1) := by decide +kernel
theorem dX12_ran_14 : decode cX12_ran 14 = .ok (.getfield 586, 3) := by decide +kernel
theorem dX12_ran_17 : decode cX12_ran 17 = .ok (.iload_n 1, 1) := by decide +kernel
theorem dX12_ran_18 : decode cX12_ran 18 = .ok (.iastore, 1) := by decide +kernel
theorem dX12_ran_19 : decode cX12_ran 19 = .ok (.aload_n 0, 1) := by decide +kernel
theorem dX12_ran_20 : decode cX12_ran 20 = .ok (.dup, 1) := by decide +kernel
theorem dX12_ran_21 : decode cX12_ran 21 = .ok (.getfield 586, 3) := by decide +kernel
theorem dX12_ran_24 : decode cX12_ran 24 = .ok (.iconst 1, 1) := by decide +kernel
theorem dX12_ran_25 : decode cX12_ran 25 = .ok (.iadd, 1) := by decide +kernel
theorem dX12_ran_26 : decode cX12_ran 26 = .ok (.putfield 586, 3) := by decide +kernel
theorem dX12_ran_29 : decode cX12_ran 29 = .ok (.return_, 1) := by decide +kernel
theorem dX12_plainHides_0 : decode cX12_plainHides 0 = .ok (.aload_n 0, 1) := by decide +kernel
theorem dX12_plainHides_1 : decode cX12_plainHides 1 = .ok (.iconst 1, 1) := by decide +kernel
theorem dX12_plainHides_2 : decode cX12_plainHides 2 = .ok (.invokevirtual 589, 3) := by decide +kernel
theorem dX12_plainHides_5 : decode cX12_plainHides 5 = .ok (.iload_n 2, 1) := by decide +kernel
theorem dX12_plainHides_6 : decode cX12_plainHides 6 = .ok (.iload_n 1, 1) := by decide +kernel
theorem dX12_plainHides_7 : decode cX12_plainHides 7 = .ok (.iadd, 1) := by decide +kernel
theorem dX12_plainHides_8 : decode cX12_plainHides 8 = .ok (.ireturn, 1) := by decide +kernel
theorem dX12_boxHides_0 : decode cX12_boxHides 0 = .ok (.aload_n 0, 1) := by decide +kernel
theorem dX12_boxHides_1 : decode cX12_boxHides 1 = .ok (.bipush 20, 2) := by decide +kernel
theorem dX12_boxHides_3 : decode cX12_boxHides 3 = .ok (.invokevirtual 589, 3) := by decide +kernel
theorem dX12_boxHides_6 : decode cX12_boxHides 6 = .ok (.aload_n 0, 1) := by decide +kernel
theorem dX12_boxHides_7 : decode cX12_boxHides 7 = .ok (.iload_n 1, 1) := by decide +kernel
theorem dX12_boxHides_8 : decode cX12_boxHides 8 = .ok (.iload_n 2, 1) := by decide +kernel
theorem dX12_boxHides_9 : decode cX12_boxHides 9 = .ok (.invokevirtual 592, 3) := by decide +kernel
theorem dX12_boxHides_12 : decode cX12_boxHides 12 = .ok (.aload_n 0, 1) := by decide +kernel
theorem dX12_boxHides_13 : decode cX12_boxHides 13 = .ok (.iload_n 1, 1) := by decide +kernel
theorem dX12_boxHides_14 : decode cX12_boxHides 14 = .ok (.invokevirtual 239, 3) := by decide +kernel
theorem dX12_boxHides_17 : decode cX12_boxHides 17 = .ok (.isub, 1) := by decide +kernel
theorem dX12_boxHides_18 : decode cX12_boxHides 18 = .ok (.ireturn, 1) := by decide +kernel
theorem dX12_hides_0 : decode cX12_hides 0 = .ok (.aload_n 0, 1) := by decide +kernel
theorem dX12_hides_1 : decode cX12_hides 1 = .ok (.getfield 13, 3) := by decide +kernel
theorem dX12_hides_4 : decode cX12_hides 4 = .ok (.iload_n 1, 1) := by decide +kernel
theorem dX12_hides_5 : decode cX12_hides 5 = .ok (.iaload, 1) := by decide +kernel
theorem dX12_hides_6 : decode cX12_hides 6 = .ok (.iconst 4, 1) := by decide +kernel
theorem dX12_hides_7 : decode cX12_hides 7 = .ok (.if_icmp .ne 18, 3) := by decide +kernel
theorem dX12_hides_10 : decode cX12_hides 10 = .ok (.aload_n 0, 1) := by decide +kernel
theorem dX12_hides_11 : decode cX12_hides 11 = .ok (.bipush 50, 2) := by decide +kernel
theorem dX12_hides_13 : decode cX12_hides 13 = .ok (.invokevirtual 589, 3) := by decide +kernel
theorem dX12_hides_16 : decode cX12_hides 16 = .ok (.aload_n 0, 1) := by decide +kernel
theorem dX12_hides_17 : decode cX12_hides 17 = .ok (.iload_n 1, 1) := by decide +kernel
theorem dX12_hides_18 : decode cX12_hides 18 = .ok (.iload_n 2, 1) := by decide +kernel
theorem dX12_hides_19 : decode cX12_hides 19 = .ok (.invokevirtual 595, 3) := by decide +kernel
theorem dX12_hides_22 : decode cX12_hides 22 = .ok (.iconst 5, 1) := by decide +kernel
theorem dX12_hides_23 : decode cX12_hides 23 = .ok (.ixor, 1) := by decide +kernel
theorem dX12_hides_24 : decode cX12_hides 24 = .ok (.ireturn, 1) := by decide +kernel
theorem dX12_hides_25 : decode cX12_hides 25 = .ok (.aload_n 0, 1) := by decide +kernel
theorem dX12_hides_26 : decode cX12_hides 26 = .ok (.getfield 13, 3) := by decide +kernel
theorem dX12_hides_29 : decode cX12_hides 29 = .ok (.iload_n 1, 1) := by decide +kernel
theorem dX12_hides_30 : decode cX12_hides 30 = .ok (.iaload, 1) := by decide +kernel
theorem dX12_hides_31 : decode cX12_hides 31 = .ok (.iconst 1, 1) := by decide +kernel
theorem dX12_hides_32 : decode cX12_hides 32 = .ok (.invokestatic 220, 3) := by decide +kernel
theorem dX12_hides_35 : decode cX12_hides 35 = .ok (.ifCond .eq 12, 3) := by decide +kernel
theorem dX12_hides_38 : decode cX12_hides 38 = .ok (.aload_n 0, 1) := by decide +kernel
theorem dX12_hides_39 : decode cX12_hides 39 = .ok (.iload_n 1, 1) := by decide +kernel
theorem dX12_hides_40 : decode cX12_hides 40 = .ok (.iload_n 2, 1) := by decide +kernel
theorem dX12_hides_41 : decode cX12_hides 41 = .ok (.invokevirtual 595, 3) := by decide +kernel
theorem dX12_hides_44 : decode cX12_hides 44 = .ok (.goto 9, 3) := by decide +kernel
theorem dX12_hides_47 : decode cX12_hides 47 = .ok (.aload_n 0, 1) := by decide +kernel
theorem dX12_hides_48 : decode cX12_hides 48 = .ok (.iload_n 1, 1) := by decide +kernel
theorem dX12_hides_49 : decode cX12_hides 49 = .ok (.iload_n 2, 1) := by decide +kernel
theorem dX12_hides_50 : decode cX12_hides 50 = .ok (.invokevirtual 592, 3) := by decide +kernel
theorem dX12_hides_53 : decode cX12_hides 53 = .ok (.ireturn, 1) := by decide +kernel
theorem dX12_plainTells_0 : decode cX12_plainTells 0 = .ok (.aload_n 0, 1) := by decide +kernel
theorem dX12_plainTells_1 : decode cX12_plainTells 1 = .ok (.bipush 10, 2) := by decide +kernel
theorem dX12_plainTells_3 : decode cX12_plainTells 3 = .ok (.invokevirtual 589, 3) := by decide +kernel
theorem dX12_plainTells_6 : decode cX12_plainTells 6 = .ok (.aload_n 0, 1) := by decide +kernel
theorem dX12_plainTells_7 : decode cX12_plainTells 7 = .ok (.iload_n 1, 1) := by decide +kernel
theorem dX12_plainTells_8 : decode cX12_plainTells 8 = .ok (.iload_n 2, 1) := by decide +kernel
theorem dX12_plainTells_9 : decode cX12_plainTells 9 = .ok (.invokevirtual 598, 3) := by decide +kernel
theorem dX12_plainTells_12 : decode cX12_plainTells 12 = .ok (.iconst 2, 1) := by decide +kernel
theorem dX12_plainTells_13 : decode cX12_plainTells 13 = .ok (.imul, 1) := by decide +kernel
theorem dX12_plainTells_14 : decode cX12_plainTells 14 = .ok (.ireturn, 1) := by decide +kernel
theorem dX12_riddleTells_0 : decode cX12_riddleTells 0 = .ok (.aload_n 0, 1) := by decide +kernel
theorem dX12_riddleTells_1 : decode cX12_riddleTells 1 = .ok (.bipush 30, 2) := by decide +kernel
theorem dX12_riddleTells_3 : decode cX12_riddleTells 3 = .ok (.invokevirtual 589, 3) := by decide +kernel
theorem dX12_riddleTells_6 : decode cX12_riddleTells 6 = .ok (.aload_n 0, 1) := by decide +kernel
theorem dX12_riddleTells_7 : decode cX12_riddleTells 7 = .ok (.iload_n 1, 1) := by decide +kernel
theorem dX12_riddleTells_8 : decode cX12_riddleTells 8 = .ok (.iload_n 2, 1) := by decide +kernel
theorem dX12_riddleTells_9 : decode cX12_riddleTells 9 = .ok (.invokevirtual 601, 3) := by decide +kernel
theorem dX12_riddleTells_12 : decode cX12_riddleTells 12 = .ok (.istore_n 3, 1) := by decide +kernel
theorem dX12_riddleTells_13 : decode cX12_riddleTells 13 = .ok (.iload_n 3, 1) := by decide +kernel
theorem dX12_riddleTells_14 : decode cX12_riddleTells 14 = .ok (.aload_n 0, 1) := by decide +kernel
theorem dX12_riddleTells_15 : decode cX12_riddleTells 15 = .ok (.iload_n 1, 1) := by decide +kernel
theorem dX12_riddleTells_16 : decode cX12_riddleTells 16 = .ok (.iconst 2, 1) := by decide +kernel
theorem dX12_riddleTells_17 : decode cX12_riddleTells 17 = .ok (.invokevirtual 604, 3) := by decide +kernel
theorem dX12_riddleTells_20 : decode cX12_riddleTells 20 = .ok (.iadd, 1) := by decide +kernel
theorem dX12_riddleTells_21 : decode cX12_riddleTells 21 = .ok (.ireturn, 1) := by decide +kernel
theorem dX12_tells_0 : decode cX12_tells 0 = .ok (.aload_n 0, 1) := by decide +kernel
theorem dX12_tells_1 : decode cX12_tells 1 = .ok (.getfield 13, 3) := by decide +kernel
theorem dX12_tells_4 : decode cX12_tells 4 = .ok (.iload_n 1, 1) := by decide +kernel
theorem dX12_tells_5 : decode cX12_tells 5 = .ok (.iaload, 1) := by decide +kernel
theorem dX12_tells_6 : decode cX12_tells 6 = .ok (.iconst 5, 1) := by decide +kernel
theorem dX12_tells_7 : decode cX12_tells 7 = .ok (.if_icmp .ne 18, 3) := by decide +kernel
theorem dX12_tells_10 : decode cX12_tells 10 = .ok (.aload_n 0, 1) := by decide +kernel
theorem dX12_tells_11 : decode cX12_tells 11 = .ok (.bipush 61, 2) := by decide +kernel
theorem dX12_tells_13 : decode cX12_tells 13 = .ok (.invokevirtual 589, 3) := by decide +kernel
theorem dX12_tells_16 : decode cX12_tells 16 = .ok (.aload_n 0, 1) := by decide +kernel
theorem dX12_tells_17 : decode cX12_tells 17 = .ok (.iload_n 1, 1) := by decide +kernel
theorem dX12_tells_18 : decode cX12_tells 18 = .ok (.iload_n 2, 1) := by decide +kernel
theorem dX12_tells_19 : decode cX12_tells 19 = .ok (.invokevirtual 607, 3) := by decide +kernel
theorem dX12_tells_22 : decode cX12_tells 22 = .ok (.iconst 1, 1) := by decide +kernel
theorem dX12_tells_23 : decode cX12_tells 23 = .ok (.isub, 1) := by decide +kernel
theorem dX12_tells_24 : decode cX12_tells 24 = .ok (.ireturn, 1) := by decide +kernel
theorem dX12_tells_25 : decode cX12_tells 25 = .ok (.aload_n 0, 1) := by decide +kernel
theorem dX12_tells_26 : decode cX12_tells 26 = .ok (.getfield 13, 3) := by decide +kernel
theorem dX12_tells_29 : decode cX12_tells 29 = .ok (.iload_n 1, 1) := by decide +kernel
theorem dX12_tells_30 : decode cX12_tells 30 = .ok (.iaload, 1) := by decide +kernel
theorem dX12_tells_31 : decode cX12_tells 31 = .ok (.bipush 7, 2) := by decide +kernel
theorem dX12_tells_33 : decode cX12_tells 33 = .ok (.if_icmp .ne 25, 3) := by decide +kernel
theorem dX12_tells_36 : decode cX12_tells 36 = .ok (.aload_n 0, 1) := by decide +kernel
theorem dX12_tells_37 : decode cX12_tells 37 = .ok (.bipush 80, 2) := by decide +kernel
theorem dX12_tells_39 : decode cX12_tells 39 = .ok (.invokevirtual 589, 3) := by decide +kernel
theorem dX12_tells_42 : decode cX12_tells 42 = .ok (.aload_n 0, 1) := by decide +kernel
theorem dX12_tells_43 : decode cX12_tells 43 = .ok (.iload_n 1, 1) := by decide +kernel
theorem dX12_tells_44 : decode cX12_tells 44 = .ok (.iload_n 2, 1) := by decide +kernel
theorem dX12_tells_45 : decode cX12_tells 45 = .ok (.invokevirtual 601, 3) := by decide +kernel
theorem dX12_tells_48 : decode cX12_tells 48 = .ok (.istore_n 3, 1) := by decide +kernel
theorem dX12_tells_49 : decode cX12_tells 49 = .ok (.iload_n 3, 1) := by decide +kernel
theorem dX12_tells_50 : decode cX12_tells 50 = .ok (.aload_n 0, 1) := by decide +kernel
theorem dX12_tells_51 : decode cX12_tells 51 = .ok (.iload_n 1, 1) := by decide +kernel
theorem dX12_tells_52 : decode cX12_tells 52 = .ok (.iload_n 2, 1) := by decide +kernel
theorem dX12_tells_53 : decode cX12_tells 53 = .ok (.invokevirtual 610, 3) := by decide +kernel
theorem dX12_tells_56 : decode cX12_tells 56 = .ok (.iadd, 1) := by decide +kernel
theorem dX12_tells_57 : decode cX12_tells 57 = .ok (.ireturn, 1) := by decide +kernel
theorem dX12_tells_58 : decode cX12_tells 58 = .ok (.aload_n 0, 1) := by decide +kernel
theorem dX12_tells_59 : decode cX12_tells 59 = .ok (.getfield 13, 3) := by decide +kernel
theorem dX12_tells_62 : decode cX12_tells 62 = .ok (.iload_n 1, 1) := by decide +kernel
theorem dX12_tells_63 : decode cX12_tells 63 = .ok (.iaload, 1) := by decide +kernel
theorem dX12_tells_64 : decode cX12_tells 64 = .ok (.iconst 2, 1) := by decide +kernel
theorem dX12_tells_65 : decode cX12_tells 65 = .ok (.if_icmp .ne 12, 3) := by decide +kernel
theorem dX12_tells_68 : decode cX12_tells 68 = .ok (.aload_n 0, 1) := by decide +kernel
theorem dX12_tells_69 : decode cX12_tells 69 = .ok (.iload_n 1, 1) := by decide +kernel
theorem dX12_tells_70 : decode cX12_tells 70 = .ok (.iload_n 2, 1) := by decide +kernel
theorem dX12_tells_71 : decode cX12_tells 71 = .ok (.invokevirtual 607, 3) := by decide +kernel
theorem dX12_tells_74 : decode cX12_tells 74 = .ok (.goto 9, 3) := by decide +kernel
theorem dX12_tells_77 : decode cX12_tells 77 = .ok (.aload_n 0, 1) := by decide +kernel
theorem dX12_tells_78 : decode cX12_tells 78 = .ok (.iload_n 1, 1) := by decide +kernel
theorem dX12_tells_79 : decode cX12_tells 79 = .ok (.iload_n 2, 1) := by decide +kernel
theorem dX12_tells_80 : decode cX12_tells 80 = .ok (.invokevirtual 601, 3) := by decide +kernel
theorem dX12_tells_83 : decode cX12_tells 83 = .ok (.ireturn, 1) := by decide +kernel
theorem dX12_plainFinds_0 : decode cX12_plainFinds 0 = .ok (.aload_n 0, 1) := by decide +kernel
theorem dX12_plainFinds_1 : decode cX12_plainFinds 1 = .ok (.bipush 11, 2) := by decide +kernel
theorem dX12_plainFinds_3 : decode cX12_plainFinds 3 = .ok (.invokevirtual 589, 3) := by decide +kernel
theorem dX12_plainFinds_6 : decode cX12_plainFinds 6 = .ok (.iload_n 2, 1) := by decide +kernel
theorem dX12_plainFinds_7 : decode cX12_plainFinds 7 = .ok (.iload_n 1, 1) := by decide +kernel
theorem dX12_plainFinds_8 : decode cX12_plainFinds 8 = .ok (.ixor, 1) := by decide +kernel
theorem dX12_plainFinds_9 : decode cX12_plainFinds 9 = .ok (.ireturn, 1) := by decide +kernel
theorem dX12_finds_0 : decode cX12_finds 0 = .ok (.aload_n 0, 1) := by decide +kernel
theorem dX12_finds_1 : decode cX12_finds 1 = .ok (.getfield 13, 3) := by decide +kernel
theorem dX12_finds_4 : decode cX12_finds 4 = .ok (.iload_n 1, 1) := by decide +kernel
theorem dX12_finds_5 : decode cX12_finds 5 = .ok (.iaload, 1) := by decide +kernel
theorem dX12_finds_6 : decode cX12_finds 6 = .ok (.iconst 3, 1) := by decide +kernel
theorem dX12_finds_7 : decode cX12_finds 7 = .ok (.if_icmp .ne 18, 3) := by decide +kernel
theorem dX12_finds_10 : decode cX12_finds 10 = .ok (.aload_n 0, 1) := by decide +kernel
theorem dX12_finds_11 : decode cX12_finds 11 = .ok (.bipush 40, 2) := by decide +kernel
theorem dX12_finds_13 : decode cX12_finds 13 = .ok (.invokevirtual 589, 3) := by decide +kernel
theorem dX12_finds_16 : decode cX12_finds 16 = .ok (.aload_n 0, 1) := by decide +kernel
theorem dX12_finds_17 : decode cX12_finds 17 = .ok (.iload_n 1, 1) := by decide +kernel
theorem dX12_finds_18 : decode cX12_finds 18 = .ok (.iload_n 2, 1) := by decide +kernel
theorem dX12_finds_19 : decode cX12_finds 19 = .ok (.invokevirtual 610, 3) := by decide +kernel
theorem dX12_finds_22 : decode cX12_finds 22 = .ok (.iconst 3, 1) := by decide +kernel
theorem dX12_finds_23 : decode cX12_finds 23 = .ok (.imul, 1) := by decide +kernel
theorem dX12_finds_24 : decode cX12_finds 24 = .ok (.ireturn, 1) := by decide +kernel
theorem dX12_finds_25 : decode cX12_finds 25 = .ok (.aload_n 0, 1) := by decide +kernel
theorem dX12_finds_26 : decode cX12_finds 26 = .ok (.getfield 13, 3) := by decide +kernel
theorem dX12_finds_29 : decode cX12_finds 29 = .ok (.iload_n 1, 1) := by decide +kernel
theorem dX12_finds_30 : decode cX12_finds 30 = .ok (.iaload, 1) := by decide +kernel
theorem dX12_finds_31 : decode cX12_finds 31 = .ok (.iconst 5, 1) := by decide +kernel
theorem dX12_finds_32 : decode cX12_finds 32 = .ok (.if_icmp .ne 17, 3) := by decide +kernel
theorem dX12_finds_35 : decode cX12_finds 35 = .ok (.aload_n 0, 1) := by decide +kernel
theorem dX12_finds_36 : decode cX12_finds 36 = .ok (.bipush 60, 2) := by decide +kernel
theorem dX12_finds_38 : decode cX12_finds 38 = .ok (.invokevirtual 589, 3) := by decide +kernel
theorem dX12_finds_41 : decode cX12_finds 41 = .ok (.aload_n 0, 1) := by decide +kernel
theorem dX12_finds_42 : decode cX12_finds 42 = .ok (.iload_n 1, 1) := by decide +kernel
theorem dX12_finds_43 : decode cX12_finds 43 = .ok (.iload_n 2, 1) := by decide +kernel
theorem dX12_finds_44 : decode cX12_finds 44 = .ok (.invokevirtual 610, 3) := by decide +kernel
theorem dX12_finds_47 : decode cX12_finds 47 = .ok (.ineg, 1) := by decide +kernel
theorem dX12_finds_48 : decode cX12_finds 48 = .ok (.ireturn, 1) := by decide +kernel
theorem dX12_finds_49 : decode cX12_finds 49 = .ok (.aload_n 0, 1) := by decide +kernel
theorem dX12_finds_50 : decode cX12_finds 50 = .ok (.iload_n 1, 1) := by decide +kernel
theorem dX12_finds_51 : decode cX12_finds 51 = .ok (.iload_n 2, 1) := by decide +kernel
theorem dX12_finds_52 : decode cX12_finds 52 = .ok (.invokevirtual 610, 3) := by decide +kernel
theorem dX12_finds_55 : decode cX12_finds 55 = .ok (.ireturn, 1) := by decide +kernel
theorem dX12_plainEnds_0 : decode cX12_plainEnds 0 = .ok (.aload_n 0, 1) := by decide +kernel
theorem dX12_plainEnds_1 : decode cX12_plainEnds 1 = .ok (.iconst 2, 1) := by decide +kernel
theorem dX12_plainEnds_2 : decode cX12_plainEnds 2 = .ok (.invokevirtual 589, 3) := by decide +kernel
theorem dX12_plainEnds_5 : decode cX12_plainEnds 5 = .ok (.aload_n 0, 1) := by decide +kernel
theorem dX12_plainEnds_6 : decode cX12_plainEnds 6 = .ok (.iload_n 1, 1) := by decide +kernel
theorem dX12_plainEnds_7 : decode cX12_plainEnds 7 = .ok (.iload_n 2, 1) := by decide +kernel
theorem dX12_plainEnds_8 : decode cX12_plainEnds 8 = .ok (.invokevirtual 613, 3) := by decide +kernel
theorem dX12_plainEnds_11 : decode cX12_plainEnds 11 = .ok (.istore_n 3, 1) := by decide +kernel
theorem dX12_plainEnds_12 : decode cX12_plainEnds 12 = .ok (.iload_n 3, 1) := by decide +kernel
theorem dX12_plainEnds_13 : decode cX12_plainEnds 13 = .ok (.aload_n 0, 1) := by decide +kernel
theorem dX12_plainEnds_14 : decode cX12_plainEnds 14 = .ok (.iload_n 1, 1) := by decide +kernel
theorem dX12_plainEnds_15 : decode cX12_plainEnds 15 = .ok (.iconst 1, 1) := by decide +kernel
theorem dX12_plainEnds_16 : decode cX12_plainEnds 16 = .ok (.invokevirtual 604, 3) := by decide +kernel
theorem dX12_plainEnds_19 : decode cX12_plainEnds 19 = .ok (.isub, 1) := by decide +kernel
theorem dX12_plainEnds_20 : decode cX12_plainEnds 20 = .ok (.ireturn, 1) := by decide +kernel
theorem dX12_ends_0 : decode cX12_ends 0 = .ok (.aload_n 0, 1) := by decide +kernel
theorem dX12_ends_1 : decode cX12_ends 1 = .ok (.getfield 13, 3) := by decide +kernel
theorem dX12_ends_4 : decode cX12_ends 4 = .ok (.iload_n 1, 1) := by decide +kernel
theorem dX12_ends_5 : decode cX12_ends 5 = .ok (.iaload, 1) := by decide +kernel
theorem dX12_ends_6 : decode cX12_ends 6 = .ok (.iconst 4, 1) := by decide +kernel
theorem dX12_ends_7 : decode cX12_ends 7 = .ok (.if_icmp .ne 18, 3) := by decide +kernel
theorem dX12_ends_10 : decode cX12_ends 10 = .ok (.aload_n 0, 1) := by decide +kernel
theorem dX12_ends_11 : decode cX12_ends 11 = .ok (.bipush 51, 2) := by decide +kernel
theorem dX12_ends_13 : decode cX12_ends 13 = .ok (.invokevirtual 589, 3) := by decide +kernel
theorem dX12_ends_16 : decode cX12_ends 16 = .ok (.aload_n 0, 1) := by decide +kernel
theorem dX12_ends_17 : decode cX12_ends 17 = .ok (.iload_n 1, 1) := by decide +kernel
theorem dX12_ends_18 : decode cX12_ends 18 = .ok (.iload_n 2, 1) := by decide +kernel
theorem dX12_ends_19 : decode cX12_ends 19 = .ok (.iconst 1, 1) := by decide +kernel
theorem dX12_ends_20 : decode cX12_ends 20 = .ok (.iadd, 1) := by decide +kernel
theorem dX12_ends_21 : decode cX12_ends 21 = .ok (.invokevirtual 616, 3) := by decide +kernel
theorem dX12_ends_24 : decode cX12_ends 24 = .ok (.ireturn, 1) := by decide +kernel
theorem dX12_ends_25 : decode cX12_ends 25 = .ok (.aload_n 0, 1) := by decide +kernel
theorem dX12_ends_26 : decode cX12_ends 26 = .ok (.getfield 13, 3) := by decide +kernel
theorem dX12_ends_29 : decode cX12_ends 29 = .ok (.iload_n 1, 1) := by decide +kernel
theorem dX12_ends_30 : decode cX12_ends 30 = .ok (.iaload, 1) := by decide +kernel
theorem dX12_ends_31 : decode cX12_ends 31 = .ok (.bipush 6, 2) := by decide +kernel
theorem dX12_ends_33 : decode cX12_ends 33 = .ok (.if_icmp .ne 18, 3) := by decide +kernel
theorem dX12_ends_36 : decode cX12_ends 36 = .ok (.aload_n 0, 1) := by decide +kernel
theorem dX12_ends_37 : decode cX12_ends 37 = .ok (.bipush 70, 2) := by decide +kernel
theorem dX12_ends_39 : decode cX12_ends 39 = .ok (.invokevirtual 589, 3) := by decide +kernel
theorem dX12_ends_42 : decode cX12_ends 42 = .ok (.aload_n 0, 1) := by decide +kernel
theorem dX12_ends_43 : decode cX12_ends 43 = .ok (.iload_n 1, 1) := by decide +kernel
theorem dX12_ends_44 : decode cX12_ends 44 = .ok (.iload_n 2, 1) := by decide +kernel
theorem dX12_ends_45 : decode cX12_ends 45 = .ok (.invokevirtual 616, 3) := by decide +kernel
theorem dX12_ends_48 : decode cX12_ends 48 = .ok (.iconst 2, 1) := by decide +kernel
theorem dX12_ends_49 : decode cX12_ends 49 = .ok (.imul, 1) := by decide +kernel
theorem dX12_ends_50 : decode cX12_ends 50 = .ok (.ireturn, 1) := by decide +kernel
theorem dX12_ends_51 : decode cX12_ends 51 = .ok (.aload_n 0, 1) := by decide +kernel
theorem dX12_ends_52 : decode cX12_ends 52 = .ok (.iload_n 1, 1) := by decide +kernel
theorem dX12_ends_53 : decode cX12_ends 53 = .ok (.iload_n 2, 1) := by decide +kernel
theorem dX12_ends_54 : decode cX12_ends 54 = .ok (.invokevirtual 616, 3) := by decide +kernel
theorem dX12_ends_57 : decode cX12_ends 57 = .ok (.ireturn, 1) := by decide +kernel
theorem dX12_act_0 : decode cX12_act 0 = .ok (.aload_n 0, 1) := by decide +kernel
theorem dX12_act_1 : decode cX12_act 1 = .ok (.iconst 0, 1) := by decide +kernel
theorem dX12_act_2 : decode cX12_act 2 = .ok (.putfield 586, 3) := by decide +kernel
theorem dX12_act_5 : decode cX12_act 5 = .ok (.aload_n 0, 1) := by decide +kernel
theorem dX12_act_6 : decode cX12_act 6 = .ok (.iload_n 1, 1) := by decide +kernel
theorem dX12_act_7 : decode cX12_act 7 = .ok (.invokevirtual 217, 3) := by decide +kernel
theorem dX12_act_10 : decode cX12_act 10 = .ok (.ifCond .eq 12, 3) := by decide +kernel
theorem dX12_act_13 : decode cX12_act 13 = .ok (.iload_n 2, 1) := by decide +kernel
theorem dX12_act_14 : decode cX12_act 14 = .ok (.iconst 0, 1) := by decide +kernel
theorem dX12_act_15 : decode cX12_act 15 = .ok (.iconst 3, 1) := by decide +kernel
theorem dX12_act_16 : decode cX12_act 16 = .ok (.invokestatic 195, 3) := by decide +kernel
theorem dX12_act_19 : decode cX12_act 19 = .ok (.ifCond .ne 5, 3) := by decide +kernel
theorem dX12_act_22 : decode cX12_act 22 = .ok (.iconst 0, 1) := by decide +kernel
theorem dX12_act_23 : decode cX12_act 23 = .ok (.ireturn, 1) := by decide +kernel
theorem dX12_act_24 : decode cX12_act 24 = .ok (.iload_n 2, 1) := by decide +kernel
theorem dX12_act_25 : decode cX12_act 25 = .ok (.ifCond .ne 12, 3) := by decide +kernel
theorem dX12_act_28 : decode cX12_act 28 = .ok (.aload_n 0, 1) := by decide +kernel
theorem dX12_act_29 : decode cX12_act 29 = .ok (.iload_n 1, 1) := by decide +kernel
theorem dX12_act_30 : decode cX12_act 30 = .ok (.iload_n 3, 1) := by decide +kernel
theorem dX12_act_31 : decode cX12_act 31 = .ok (.invokevirtual 598, 3) := by decide +kernel
theorem dX12_act_34 : decode cX12_act 34 = .ok (.goto 37, 3) := by decide +kernel
theorem dX12_act_37 : decode cX12_act 37 = .ok (.iload_n 2, 1) := by decide +kernel
theorem dX12_act_38 : decode cX12_act 38 = .ok (.iconst 1, 1) := by decide +kernel
theorem dX12_act_39 : decode cX12_act 39 = .ok (.if_icmp .ne 12, 3) := by decide +kernel
theorem dX12_act_42 : decode cX12_act 42 = .ok (.aload_n 0, 1) := by decide +kernel
theorem dX12_act_43 : decode cX12_act 43 = .ok (.iload_n 1, 1) := by decide +kernel
theorem dX12_act_44 : decode cX12_act 44 = .ok (.iload_n 3, 1) := by decide +kernel
theorem dX12_act_45 : decode cX12_act 45 = .ok (.invokevirtual 613, 3) := by decide +kernel
theorem dX12_act_48 : decode cX12_act 48 = .ok (.goto 23, 3) := by decide +kernel
theorem dX12_act_51 : decode cX12_act 51 = .ok (.iload_n 2, 1) := by decide +kernel
theorem dX12_act_52 : decode cX12_act 52 = .ok (.iconst 2, 1) := by decide +kernel
theorem dX12_act_53 : decode cX12_act 53 = .ok (.if_icmp .ne 12, 3) := by decide +kernel
theorem dX12_act_56 : decode cX12_act 56 = .ok (.aload_n 0, 1) := by decide +kernel
theorem dX12_act_57 : decode cX12_act 57 = .ok (.iload_n 1, 1) := by decide +kernel
theorem dX12_act_58 : decode cX12_act 58 = .ok (.iload_n 3, 1) := by decide +kernel
theorem dX12_act_59 : decode cX12_act 59 = .ok (.invokevirtual 604, 3) := by decide +kernel
theorem dX12_act_62 : decode cX12_act 62 = .ok (.goto 9, 3) := by decide +kernel
theorem dX12_act_65 : decode cX12_act 65 = .ok (.aload_n 0, 1) := by decide +kernel
theorem dX12_act_66 : decode cX12_act 66 = .ok (.iload_n 1, 1) := by decide +kernel
theorem dX12_act_67 : decode cX12_act 67 = .ok (.iload_n 3, 1) := by decide +kernel
theorem dX12_act_68 : decode cX12_act 68 = .ok (.invokevirtual 619, 3) := by decide +kernel
theorem dX12_act_71 : decode cX12_act 71 = .ok (.ireturn, 1) := by decide +kernel
theorem dX12_trace_0 : decode cX12_trace 0 = .ok (.iload_n 1, 1) := by decide +kernel
theorem dX12_trace_1 : decode cX12_trace 1 = .ok (.ifCond .lt 26, 3) := by decide +kernel
theorem dX12_trace_4 : decode cX12_trace 4 = .ok (.iload_n 1, 1) := by decide +kernel
theorem dX12_trace_5 : decode cX12_trace 5 = .ok (.aload_n 0, 1) := by decide +kernel
theorem dX12_trace_6 : decode cX12_trace 6 = .ok (.getfield 586, 3) := by decide +kernel
theorem dX12_trace_9 : decode cX12_trace 9 = .ok (.if_icmp .ge 18, 3) := by decide +kernel
theorem dX12_trace_12 : decode cX12_trace 12 = .ok (.iload_n 1, 1) := by decide +kernel
theorem dX12_trace_13 : decode cX12_trace 13 = .ok (.bipush 24, 2) := by decide +kernel
theorem dX12_trace_15 : decode cX12_trace 15 = .ok (.if_icmp .ge 12, 3) := by decide +kernel
theorem dX12_trace_18 : decode cX12_trace 18 = .ok (.aload_n 0, 1) := by decide +kernel
theorem dX12_trace_19 : decode cX12_trace 19 = .ok (.getfield 177, 3) := by decide +kernel
theorem dX12_trace_22 : decode cX12_trace 22 = .ok (.iload_n 1, 1) := by decide +kernel
theorem dX12_trace_23 : decode cX12_trace 23 = .ok (.iaload, 1) := by decide +kernel
theorem dX12_trace_24 : decode cX12_trace 24 = .ok (.goto 4, 3) := by decide +kernel
theorem dX12_trace_27 : decode cX12_trace 27 = .ok (.iconst (-1), 1) := by decide +kernel
theorem dX12_trace_28 : decode cX12_trace 28 = .ok (.ireturn, 1) := by decide +kernel
theorem dX12_count_0 : decode cX12_count 0 = .ok (.iconst 0, 1) := by decide +kernel
theorem dX12_count_1 : decode cX12_count 1 = .ok (.istore_n 2, 1) := by decide +kernel
theorem dX12_count_2 : decode cX12_count 2 = .ok (.iload_n 1, 1) := by decide +kernel
theorem dX12_count_3 : decode cX12_count 3 = .ok (.tableswitch 198 0 10 #[57, 62, 62, 117, 117, 168, 173, 178, 183, 188, 193], 57) := by decide +kernel
theorem dX12_count_60 : decode cX12_count 60 = .ok (.aload_n 0, 1) := by decide +kernel
theorem dX12_count_61 : decode cX12_count 61 = .ok (.getfield 214, 3) := by decide +kernel
theorem dX12_count_64 : decode cX12_count 64 = .ok (.ireturn, 1) := by decide +kernel
theorem dX12_count_65 : decode cX12_count 65 = .ok (.iconst 0, 1) := by decide +kernel
theorem dX12_count_66 : decode cX12_count 66 = .ok (.istore_n 3, 1) := by decide +kernel
theorem dX12_count_67 : decode cX12_count 67 = .ok (.iload_n 3, 1) := by decide +kernel
theorem dX12_count_68 : decode cX12_count 68 = .ok (.aload_n 0, 1) := by decide +kernel
theorem dX12_count_69 : decode cX12_count 69 = .ok (.getfield 214, 3) := by decide +kernel
theorem dX12_count_72 : decode cX12_count 72 = .ok (.if_icmp .ge 46, 3) := by decide +kernel
theorem dX12_count_75 : decode cX12_count 75 = .ok (.iload_n 2, 1) := by decide +kernel
theorem dX12_count_76 : decode cX12_count 76 = .ok (.iload_n 1, 1) := by decide +kernel
theorem dX12_count_77 : decode cX12_count 77 = .ok (.iconst 1, 1) := by decide +kernel
theorem dX12_count_78 : decode cX12_count 78 = .ok (.if_icmp .ne 19, 3) := by decide +kernel
theorem dX12_count_81 : decode cX12_count 81 = .ok (.aload_n 0, 1) := by decide +kernel
theorem dX12_count_82 : decode cX12_count 82 = .ok (.iload_n 3, 1) := by decide +kernel
theorem dX12_count_83 : decode cX12_count 83 = .ok (.invokevirtual 224, 3) := by decide +kernel
theorem dX12_count_86 : decode cX12_count 86 = .ok (.ifCond .eq 7, 3) := by decide +kernel
theorem dX12_count_89 : decode cX12_count 89 = .ok (.iconst 1, 1) := by decide +kernel
theorem dX12_count_90 : decode cX12_count 90 = .ok (.goto 20, 3) := by decide +kernel
theorem dX12_count_93 : decode cX12_count 93 = .ok (.iconst 0, 1) := by decide +kernel
theorem dX12_count_94 : decode cX12_count 94 = .ok (.goto 16, 3) := by decide +kernel
theorem dX12_count_97 : decode cX12_count 97 = .ok (.aload_n 0, 1) := by decide +kernel
theorem dX12_count_98 : decode cX12_count 98 = .ok (.iload_n 3, 1) := by decide +kernel
theorem dX12_count_99 : decode cX12_count 99 = .ok (.invokevirtual 255, 3) := by decide +kernel
theorem dX12_count_102 : decode cX12_count 102 = .ok (.ifCond .eq 7, 3) := by decide +kernel
theorem dX12_count_105 : decode cX12_count 105 = .ok (.iconst 1, 1) := by decide +kernel
theorem dX12_count_106 : decode cX12_count 106 = .ok (.goto 4, 3) := by decide +kernel
theorem dX12_count_109 : decode cX12_count 109 = .ok (.iconst 0, 1) := by decide +kernel
theorem dX12_count_110 : decode cX12_count 110 = .ok (.iadd, 1) := by decide +kernel
theorem dX12_count_111 : decode cX12_count 111 = .ok (.istore_n 2, 1) := by decide +kernel
theorem dX12_count_112 : decode cX12_count 112 = .ok (.iinc 3 1, 3) := by decide +kernel
theorem dX12_count_115 : decode cX12_count 115 = .ok (.goto (-48), 3) := by decide +kernel
theorem dX12_count_118 : decode cX12_count 118 = .ok (.iload_n 2, 1) := by decide +kernel
theorem dX12_count_119 : decode cX12_count 119 = .ok (.ireturn, 1) := by decide +kernel
theorem dX12_count_120 : decode cX12_count 120 = .ok (.iconst 0, 1) := by decide +kernel
theorem dX12_count_121 : decode cX12_count 121 = .ok (.istore_n 3, 1) := by decide +kernel
theorem dX12_count_122 : decode cX12_count 122 = .ok (.iload_n 3, 1) := by decide +kernel
theorem dX12_count_123 : decode cX12_count 123 = .ok (.aload_n 0, 1) := by decide +kernel
theorem dX12_count_124 : decode cX12_count 124 = .ok (.getfield 214, 3) := by decide +kernel
theorem dX12_count_127 : decode cX12_count 127 = .ok (.if_icmp .ge 42, 3) := by decide +kernel
theorem dX12_count_130 : decode cX12_count 130 = .ok (.iload_n 2, 1) := by decide +kernel
theorem dX12_count_131 : decode cX12_count 131 = .ok (.aload_n 0, 1) := by decide +kernel
theorem dX12_count_132 : decode cX12_count 132 = .ok (.getfield 13, 3) := by decide +kernel
theorem dX12_count_135 : decode cX12_count 135 = .ok (.iload_n 3, 1) := by decide +kernel
theorem dX12_count_136 : decode cX12_count 136 = .ok (.iaload, 1) := by decide +kernel
theorem dX12_count_137 : decode cX12_count 137 = .ok (.bipush 7, 2) := by decide +kernel
theorem dX12_count_139 : decode cX12_count 139 = .ok (.if_icmp .ne 21, 3) := by decide +kernel
theorem dX12_count_142 : decode cX12_count 142 = .ok (.iload_n 1, 1) := by decide +kernel
theorem dX12_count_143 : decode cX12_count 143 = .ok (.iconst 3, 1) := by decide +kernel
theorem dX12_count_144 : decode cX12_count 144 = .ok (.if_icmp .eq 12, 3) := by decide +kernel
theorem dX12_count_147 : decode cX12_count 147 = .ok (.aload_n 0, 1) := by decide +kernel
theorem dX12_count_148 : decode cX12_count 148 = .ok (.getfield 22, 3) := by decide +kernel
theorem dX12_count_151 : decode cX12_count 151 = .ok (.iload_n 3, 1) := by decide +kernel
theorem dX12_count_152 : decode cX12_count 152 = .ok (.iaload, 1) := by decide +kernel
theorem dX12_count_153 : decode cX12_count 153 = .ok (.ifCond .ge 7, 3) := by decide +kernel
theorem dX12_count_156 : decode cX12_count 156 = .ok (.iconst 1, 1) := by decide +kernel
theorem dX12_count_157 : decode cX12_count 157 = .ok (.goto 4, 3) := by decide +kernel
theorem dX12_count_160 : decode cX12_count 160 = .ok (.iconst 0, 1) := by decide +kernel
theorem dX12_count_161 : decode cX12_count 161 = .ok (.iadd, 1) := by decide +kernel
theorem dX12_count_162 : decode cX12_count 162 = .ok (.istore_n 2, 1) := by decide +kernel
theorem dX12_count_163 : decode cX12_count 163 = .ok (.iinc 3 1, 3) := by decide +kernel
theorem dX12_count_166 : decode cX12_count 166 = .ok (.goto (-44), 3) := by decide +kernel
theorem dX12_count_169 : decode cX12_count 169 = .ok (.iload_n 2, 1) := by decide +kernel
theorem dX12_count_170 : decode cX12_count 170 = .ok (.ireturn, 1) := by decide +kernel
theorem dX12_count_171 : decode cX12_count 171 = .ok (.aload_n 0, 1) := by decide +kernel
theorem dX12_count_172 : decode cX12_count 172 = .ok (.getfield 252, 3) := by decide +kernel
theorem dX12_count_175 : decode cX12_count 175 = .ok (.ireturn, 1) := by decide +kernel
theorem dX12_count_176 : decode cX12_count 176 = .ok (.aload_n 0, 1) := by decide +kernel
theorem dX12_count_177 : decode cX12_count 177 = .ok (.getfield 358, 3) := by decide +kernel
theorem dX12_count_180 : decode cX12_count 180 = .ok (.ireturn, 1) := by decide +kernel
theorem dX12_count_181 : decode cX12_count 181 = .ok (.aload_n 0, 1) := by decide +kernel
theorem dX12_count_182 : decode cX12_count 182 = .ok (.getfield 327, 3) := by decide +kernel
theorem dX12_count_185 : decode cX12_count 185 = .ok (.ireturn, 1) := by decide +kernel
theorem dX12_count_186 : decode cX12_count 186 = .ok (.aload_n 0, 1) := by decide +kernel
theorem dX12_count_187 : decode cX12_count 187 = .ok (.getfield 203, 3) := by decide +kernel
theorem dX12_count_190 : decode cX12_count 190 = .ok (.ireturn, 1) := by decide +kernel
theorem dX12_count_191 : decode cX12_count 191 = .ok (.aload_n 0, 1) := by decide +kernel
theorem dX12_count_192 : decode cX12_count 192 = .ok (.getfield 233, 3) := by decide +kernel
theorem dX12_count_195 : decode cX12_count 195 = .ok (.ireturn, 1) := by decide +kernel
theorem dX12_count_196 : decode cX12_count 196 = .ok (.aload_n 0, 1) := by decide +kernel
theorem dX12_count_197 : decode cX12_count 197 = .ok (.getfield 586, 3) := by decide +kernel
theorem dX12_count_200 : decode cX12_count 200 = .ok (.ireturn, 1) := by decide +kernel
theorem dX12_count_201 : decode cX12_count 201 = .ok (.iconst (-1), 1) := by decide +kernel
theorem dX12_count_202 : decode cX12_count 202 = .ok (.ireturn, 1) := by decide +kernel
theorem dX12_isShelf_0 : decode cX12_isShelf 0 = .ok (.iload_n 0, 1) := by decide +kernel
theorem dX12_isShelf_1 : decode cX12_isShelf 1 = .ok (.iconst 0, 1) := by decide +kernel
theorem dX12_isShelf_2 : decode cX12_isShelf 2 = .ok (.iconst 5, 1) := by decide +kernel
theorem dX12_isShelf_3 : decode cX12_isShelf 3 = .ok (.invokestatic 195, 3) := by decide +kernel
theorem dX12_isShelf_6 : decode cX12_isShelf 6 = .ok (.ireturn, 1) := by decide +kernel
theorem dX12_keep_0 : decode cX12_keep 0 = .ok (.iload_n 1, 1) := by decide +kernel
theorem dX12_keep_1 : decode cX12_keep 1 = .ok (.invokestatic 276, 3) := by decide +kernel
theorem dX12_keep_4 : decode cX12_keep 4 = .ok (.ifCond .eq 16, 3) := by decide +kernel
theorem dX12_keep_7 : decode cX12_keep 7 = .ok (.iload_n 2, 1) := by decide +kernel
theorem dX12_keep_8 : decode cX12_keep 8 = .ok (.iconst (-1), 1) := by decide +kernel
theorem dX12_keep_9 : decode cX12_keep 9 = .ok (.if_icmp .eq 13, 3) := by decide +kernel
theorem dX12_keep_12 : decode cX12_keep 12 = .ok (.aload_n 0, 1) := by decide +kernel
theorem dX12_keep_13 : decode cX12_keep 13 = .ok (.iload_n 2, 1) := by decide +kernel
theorem dX12_keep_14 : decode cX12_keep 14 = .ok (.invokevirtual 217, 3) := by decide +kernel
theorem dX12_keep_17 : decode cX12_keep 17 = .ok (.ifCond .ne 5, 3) := by decide +kernel
theorem dX12_keep_20 : decode cX12_keep 20 = .ok (.iconst (-1), 1) := by decide +kernel
theorem dX12_keep_21 : decode cX12_keep 21 = .ok (.ireturn, 1) := by decide +kernel
theorem dX12_keep_22 : decode cX12_keep 22 = .ok (.aload_n 0, 1) := by decide +kernel
theorem dX12_keep_23 : decode cX12_keep 23 = .ok (.getfield 180, 3) := by decide +kernel
theorem dX12_keep_26 : decode cX12_keep 26 = .ok (.iload_n 1, 1) := by decide +kernel
theorem dX12_keep_27 : decode cX12_keep 27 = .ok (.iload_n 2, 1) := by decide +kernel
theorem dX12_keep_28 : decode cX12_keep 28 = .ok (.iastore, 1) := by decide +kernel
theorem dX12_keep_29 : decode cX12_keep 29 = .ok (.iconst 1, 1) := by decide +kernel
theorem dX12_keep_30 : decode cX12_keep 30 = .ok (.ireturn, 1) := by decide +kernel
theorem dX12_row_0 : decode cX12_row 0 = .ok (.iload_n 1, 1) := by decide +kernel
theorem dX12_row_1 : decode cX12_row 1 = .ok (.invokestatic 276, 3) := by decide +kernel
theorem dX12_row_4 : decode cX12_row 4 = .ok (.ifCond .eq 18, 3) := by decide +kernel
theorem dX12_row_7 : decode cX12_row 7 = .ok (.iload_n 2, 1) := by decide +kernel
theorem dX12_row_8 : decode cX12_row 8 = .ok (.iconst 0, 1) := by decide +kernel
theorem dX12_row_9 : decode cX12_row 9 = .ok (.iconst 4, 1) := by decide +kernel
theorem dX12_row_10 : decode cX12_row 10 = .ok (.invokestatic 195, 3) := by decide +kernel
theorem dX12_row_13 : decode cX12_row 13 = .ok (.ifCond .eq 9, 3) := by decide +kernel
theorem dX12_row_16 : decode cX12_row 16 = .ok (.iload_n 3, 1) := by decide +kernel
theorem dX12_row_17 : decode cX12_row 17 = .ok (.bipush 60, 2) := by decide +kernel
theorem dX12_row_19 : decode cX12_row 19 = .ok (.if_icmp .le 5, 3) := by decide +kernel
theorem dX12_row_22 : decode cX12_row 22 = .ok (.iconst (-1), 1) := by decide +kernel
theorem dX12_row_23 : decode cX12_row 23 = .ok (.ireturn, 1) := by decide +kernel
theorem dX12_row_24 : decode cX12_row 24 = .ok (.iload_n 3, 1) := by decide +kernel
theorem dX12_row_25 : decode cX12_row 25 = .ok (.ifCond .ge 6, 3) := by decide +kernel
theorem dX12_row_28 : decode cX12_row 28 = .ok (.bipush (-14), 2) := by decide +kernel
theorem dX12_row_30 : decode cX12_row 30 = .ok (.ireturn, 1) := by decide +kernel
theorem dX12_row_31 : decode cX12_row 31 = .ok (.aload_n 0, 1) := by decide +kernel
theorem dX12_row_32 : decode cX12_row 32 = .ok (.getfield 180, 3) := by decide +kernel
theorem dX12_row_35 : decode cX12_row 35 = .ok (.iload_n 1, 1) := by decide +kernel
theorem dX12_row_36 : decode cX12_row 36 = .ok (.bipush (-2), 2) := by decide +kernel
theorem dX12_row_38 : decode cX12_row 38 = .ok (.iload_n 2, 1) := by decide +kernel
theorem dX12_row_39 : decode cX12_row 39 = .ok (.isub, 1) := by decide +kernel
theorem dX12_row_40 : decode cX12_row 40 = .ok (.iastore, 1) := by decide +kernel
theorem dX12_row_41 : decode cX12_row 41 = .ok (.aload_n 0, 1) := by decide +kernel
theorem dX12_row_42 : decode cX12_row 42 = .ok (.getfield 183, 3) := by decide +kernel
theorem dX12_row_45 : decode cX12_row 45 = .ok (.iload_n 1, 1) := by decide +kernel
theorem dX12_row_46 : decode cX12_row 46 = .ok (.iload_n 3, 1) := by decide +kernel
theorem dX12_row_47 : decode cX12_row 47 = .ok (.iastore, 1) := by decide +kernel
theorem dX12_row_48 : decode cX12_row 48 = .ok (.bipush 60, 2) := by decide +kernel
theorem dX12_row_50 : decode cX12_row 50 = .ok (.iload_n 1, 1) := by decide +kernel
theorem dX12_row_51 : decode cX12_row 51 = .ok (.imul, 1) := by decide +kernel
theorem dX12_row_52 : decode cX12_row 52 = .ok (.istore 4, 2) := by decide +kernel
theorem dX12_row_54 : decode cX12_row 54 = .ok (.iload 4, 2) := by decide +kernel
theorem dX12_row_56 : decode cX12_row 56 = .ok (.bipush 60, 2) := by decide +kernel
theorem dX12_row_58 : decode cX12_row 58 = .ok (.iload_n 1, 1) := by decide +kernel
theorem dX12_row_59 : decode cX12_row 59 = .ok (.imul, 1) := by decide +kernel
theorem dX12_row_60 : decode cX12_row 60 = .ok (.bipush 60, 2) := by decide +kernel
theorem dX12_row_62 : decode cX12_row 62 = .ok (.iadd, 1) := by decide +kernel
theorem dX12_row_63 : decode cX12_row 63 = .ok (.if_icmp .ge 17, 3) := by decide +kernel
theorem dX12_row_66 : decode cX12_row 66 = .ok (.aload_n 0, 1) := by decide +kernel
theorem dX12_row_67 : decode cX12_row 67 = .ok (.getfield 186, 3) := by decide +kernel
theorem dX12_row_70 : decode cX12_row 70 = .ok (.iload 4, 2) := by decide +kernel
theorem dX12_row_72 : decode cX12_row 72 = .ok (.lconst 0, 1) := by decide +kernel
theorem dX12_row_73 : decode cX12_row 73 = .ok (.lastore, 1) := by decide +kernel
theorem dX12_row_74 : decode cX12_row 74 = .ok (.iinc 4 1, 3) := by decide +kernel
theorem dX12_row_77 : decode cX12_row 77 = .ok (.goto (-23), 3) := by decide +kernel
theorem dX12_row_80 : decode cX12_row 80 = .ok (.iconst 1, 1) := by decide +kernel
theorem dX12_row_81 : decode cX12_row 81 = .ok (.ireturn, 1) := by decide +kernel
theorem dX12_whyNoPlace_0 : decode cX12_whyNoPlace 0 = .ok (.iload_n 1, 1) := by decide +kernel
theorem dX12_whyNoPlace_1 : decode cX12_whyNoPlace 1 = .ok (.invokestatic 276, 3) := by decide +kernel
theorem dX12_whyNoPlace_4 : decode cX12_whyNoPlace 4 = .ok (.ifCond .ne 5, 3) := by decide +kernel
theorem dX12_whyNoPlace_7 : decode cX12_whyNoPlace 7 = .ok (.iconst (-1), 1) := by decide +kernel
theorem dX12_whyNoPlace_8 : decode cX12_whyNoPlace 8 = .ok (.ireturn, 1) := by decide +kernel
theorem dX12_whyNoPlace_9 : decode cX12_whyNoPlace 9 = .ok (.aload_n 0, 1) := by decide +kernel
theorem dX12_whyNoPlace_10 : decode cX12_whyNoPlace 10 = .ok (.getfield 180, 3) := by decide +kernel
theorem dX12_whyNoPlace_13 : decode cX12_whyNoPlace 13 = .ok (.iload_n 1, 1) := by decide +kernel
theorem dX12_whyNoPlace_14 : decode cX12_whyNoPlace 14 = .ok (.iaload, 1) := by decide +kernel
theorem dX12_whyNoPlace_15 : decode cX12_whyNoPlace 15 = .ok (.iconst (-1), 1) := by decide +kernel
theorem dX12_whyNoPlace_16 : decode cX12_whyNoPlace 16 = .ok (.if_icmp .ne 6, 3) := by decide +kernel
theorem dX12_whyNoPlace_19 : decode cX12_whyNoPlace 19 = .ok (.bipush (-11), 2) := by decide +kernel
theorem dX12_whyNoPlace_21 : decode cX12_whyNoPlace 21 = .ok (.ireturn, 1) := by decide +kernel
theorem dX12_whyNoPlace_22 : decode cX12_whyNoPlace 22 = .ok (.aload_n 0, 1) := by decide +kernel
theorem dX12_whyNoPlace_23 : decode cX12_whyNoPlace 23 = .ok (.getfield 180, 3) := by decide +kernel
theorem dX12_whyNoPlace_26 : decode cX12_whyNoPlace 26 = .ok (.iload_n 1, 1) := by decide +kernel
theorem dX12_whyNoPlace_27 : decode cX12_whyNoPlace 27 = .ok (.iaload, 1) := by decide +kernel
theorem dX12_whyNoPlace_28 : decode cX12_whyNoPlace 28 = .ok (.ifCond .lt 6, 3) := by decide +kernel
theorem dX12_whyNoPlace_31 : decode cX12_whyNoPlace 31 = .ok (.bipush (-12), 2) := by decide +kernel
theorem dX12_whyNoPlace_33 : decode cX12_whyNoPlace 33 = .ok (.ireturn, 1) := by decide +kernel
theorem dX12_whyNoPlace_34 : decode cX12_whyNoPlace 34 = .ok (.iload_n 2, 1) := by decide +kernel
theorem dX12_whyNoPlace_35 : decode cX12_whyNoPlace 35 = .ok (.iconst 0, 1) := by decide +kernel
theorem dX12_whyNoPlace_36 : decode cX12_whyNoPlace 36 = .ok (.aload_n 0, 1) := by decide +kernel
theorem dX12_whyNoPlace_37 : decode cX12_whyNoPlace 37 = .ok (.getfield 183, 3) := by decide +kernel
theorem dX12_whyNoPlace_40 : decode cX12_whyNoPlace 40 = .ok (.iload_n 1, 1) := by decide +kernel
theorem dX12_whyNoPlace_41 : decode cX12_whyNoPlace 41 = .ok (.iaload, 1) := by decide +kernel
theorem dX12_whyNoPlace_42 : decode cX12_whyNoPlace 42 = .ok (.iconst 1, 1) := by decide +kernel
theorem dX12_whyNoPlace_43 : decode cX12_whyNoPlace 43 = .ok (.isub, 1) := by decide +kernel
theorem dX12_whyNoPlace_44 : decode cX12_whyNoPlace 44 = .ok (.invokestatic 195, 3) := by decide +kernel
theorem dX12_whyNoPlace_47 : decode cX12_whyNoPlace 47 = .ok (.ifCond .eq 7, 3) := by decide +kernel
theorem dX12_whyNoPlace_50 : decode cX12_whyNoPlace 50 = .ok (.iconst 0, 1) := by decide +kernel
theorem dX12_whyNoPlace_51 : decode cX12_whyNoPlace 51 = .ok (.goto 5, 3) := by decide +kernel
theorem dX12_whyNoPlace_54 : decode cX12_whyNoPlace 54 = .ok (.bipush (-13), 2) := by decide +kernel
theorem dX12_whyNoPlace_56 : decode cX12_whyNoPlace 56 = .ok (.ireturn, 1) := by decide +kernel
theorem dX12_put_0 : decode cX12_put 0 = .ok (.aload_n 0, 1) := by decide +kernel
theorem dX12_put_1 : decode cX12_put 1 = .ok (.iload_n 1, 1) := by decide +kernel
theorem dX12_put_2 : decode cX12_put 2 = .ok (.iload_n 2, 1) := by decide +kernel
theorem dX12_put_3 : decode cX12_put 3 = .ok (.invokevirtual 622, 3) := by decide +kernel
theorem dX12_put_6 : decode cX12_put 6 = .ok (.istore 5, 2) := by decide +kernel
theorem dX12_put_8 : decode cX12_put 8 = .ok (.iload 5, 2) := by decide +kernel
theorem dX12_put_10 : decode cX12_put 10 = .ok (.ifCond .ge 6, 3) := by decide +kernel
theorem dX12_put_13 : decode cX12_put 13 = .ok (.iload 5, 2) := by decide +kernel
theorem dX12_put_15 : decode cX12_put 15 = .ok (.ireturn, 1) := by decide +kernel
theorem dX12_put_16 : decode cX12_put 16 = .ok (.bipush (-2), 2) := by decide +kernel
theorem dX12_put_18 : decode cX12_put 18 = .ok (.aload_n 0, 1) := by decide +kernel
theorem dX12_put_19 : decode cX12_put 19 = .ok (.getfield 180, 3) := by decide +kernel
theorem dX12_put_22 : decode cX12_put 22 = .ok (.iload_n 1, 1) := by decide +kernel
theorem dX12_put_23 : decode cX12_put 23 = .ok (.iaload, 1) := by decide +kernel
theorem dX12_put_24 : decode cX12_put 24 = .ok (.isub, 1) := by decide +kernel
theorem dX12_put_25 : decode cX12_put 25 = .ok (.istore 6, 2) := by decide +kernel
theorem dX12_put_27 : decode cX12_put 27 = .ok (.aload_n 0, 1) := by decide +kernel
theorem dX12_put_28 : decode cX12_put 28 = .ok (.getfield 186, 3) := by decide +kernel
theorem dX12_put_31 : decode cX12_put 31 = .ok (.bipush 60, 2) := by decide +kernel
theorem dX12_put_33 : decode cX12_put 33 = .ok (.iload_n 1, 1) := by decide +kernel
theorem dX12_put_34 : decode cX12_put 34 = .ok (.imul, 1) := by decide +kernel
theorem dX12_put_35 : decode cX12_put 35 = .ok (.iload_n 2, 1) := by decide +kernel
theorem dX12_put_36 : decode cX12_put 36 = .ok (.iadd, 1) := by decide +kernel
theorem dX12_put_37 : decode cX12_put 37 = .ok (.iload 6, 2) := by decide +kernel
theorem dX12_put_39 : decode cX12_put 39 = .ok (.ifCond .ne 10, 3) := by decide +kernel
theorem dX12_put_42 : decode cX12_put 42 = .ok (.lload_n 3, 1) := by decide +kernel
theorem dX12_put_43 : decode cX12_put 43 = .ok (.l2i, 1) := by decide +kernel
theorem dX12_put_44 : decode cX12_put 44 = .ok (.i2b, 1) := by decide +kernel
theorem dX12_put_45 : decode cX12_put 45 = .ok (.i2l, 1) := by decide +kernel
theorem dX12_put_46 : decode cX12_put 46 = .ok (.goto 49, 3) := by decide +kernel
theorem dX12_put_49 : decode cX12_put 49 = .ok (.iload 6, 2) := by decide +kernel
theorem dX12_put_51 : decode cX12_put 51 = .ok (.iconst 1, 1) := by decide +kernel
theorem dX12_put_52 : decode cX12_put 52 = .ok (.if_icmp .ne 10, 3) := by decide +kernel
theorem dX12_put_55 : decode cX12_put 55 = .ok (.lload_n 3, 1) := by decide +kernel
theorem dX12_put_56 : decode cX12_put 56 = .ok (.l2i, 1) := by decide +kernel
theorem dX12_put_57 : decode cX12_put 57 = .ok (.i2s, 1) := by decide +kernel
theorem dX12_put_58 : decode cX12_put 58 = .ok (.i2l, 1) := by decide +kernel
theorem dX12_put_59 : decode cX12_put 59 = .ok (.goto 36, 3) := by decide +kernel
theorem dX12_put_62 : decode cX12_put 62 = .ok (.iload 6, 2) := by decide +kernel
theorem dX12_put_64 : decode cX12_put 64 = .ok (.iconst 2, 1) := by decide +kernel
theorem dX12_put_65 : decode cX12_put 65 = .ok (.if_icmp .ne 9, 3) := by decide +kernel
theorem dX12_put_68 : decode cX12_put 68 = .ok (.lload_n 3, 1) := by decide +kernel
theorem dX12_put_69 : decode cX12_put 69 = .ok (.l2i, 1) := by decide +kernel
theorem dX12_put_70 : decode cX12_put 70 = .ok (.i2l, 1) := by decide +kernel
theorem dX12_put_71 : decode cX12_put 71 = .ok (.goto 24, 3) := by decide +kernel
theorem dX12_put_74 : decode cX12_put 74 = .ok (.iload 6, 2) := by decide +kernel
theorem dX12_put_76 : decode cX12_put 76 = .ok (.iconst 3, 1) := by decide +kernel
theorem dX12_put_77 : decode cX12_put 77 = .ok (.if_icmp .ne 7, 3) := by decide +kernel
theorem dX12_put_80 : decode cX12_put 80 = .ok (.lload_n 3, 1) := by decide +kernel
theorem dX12_put_81 : decode cX12_put 81 = .ok (.goto 14, 3) := by decide +kernel
theorem dX12_put_84 : decode cX12_put 84 = .ok (.lload_n 3, 1) := by decide +kernel
theorem dX12_put_85 : decode cX12_put 85 = .ok (.lconst 0, 1) := by decide +kernel
theorem dX12_put_86 : decode cX12_put 86 = .ok (.lcmp, 1) := by decide +kernel
theorem dX12_put_87 : decode cX12_put 87 = .ok (.ifCond .eq 7, 3) := by decide +kernel
theorem dX12_put_90 : decode cX12_put 90 = .ok (.lconst 1, 1) := by decide +kernel
theorem dX12_put_91 : decode cX12_put 91 = .ok (.goto 4, 3) := by decide +kernel
theorem dX12_put_94 : decode cX12_put 94 = .ok (.lconst 0, 1) := by decide +kernel
theorem dX12_put_95 : decode cX12_put 95 = .ok (.lastore, 1) := by decide +kernel
theorem dX12_put_96 : decode cX12_put 96 = .ok (.iconst 1, 1) := by decide +kernel
theorem dX12_put_97 : decode cX12_put 97 = .ok (.ireturn, 1) := by decide +kernel
theorem dX12_element_0 : decode cX12_element 0 = .ok (.aload_n 0, 1) := by decide +kernel
theorem dX12_element_1 : decode cX12_element 1 = .ok (.iload_n 1, 1) := by decide +kernel
theorem dX12_element_2 : decode cX12_element 2 = .ok (.iload_n 2, 1) := by decide +kernel
theorem dX12_element_3 : decode cX12_element 3 = .ok (.invokevirtual 622, 3) := by decide +kernel
theorem dX12_element_6 : decode cX12_element 6 = .ok (.ifCond .ge 9, 3) := by decide +kernel
theorem dX12_element_9 : decode cX12_element 9 = .ok (.ldc2_w 520, 3) := by decide +kernel
theorem dX12_element_12 : decode cX12_element 12 = .ok (.goto 14, 3) := by decide +kernel
theorem dX12_element_15 : decode cX12_element 15 = .ok (.aload_n 0, 1) := by decide +kernel
theorem dX12_element_16 : decode cX12_element 16 = .ok (.getfield 186, 3) := by decide +kernel
theorem dX12_element_19 : decode cX12_element 19 = .ok (.bipush 60, 2) := by decide +kernel
theorem dX12_element_21 : decode cX12_element 21 = .ok (.iload_n 1, 1) := by decide +kernel
theorem dX12_element_22 : decode cX12_element 22 = .ok (.imul, 1) := by decide +kernel
theorem dX12_element_23 : decode cX12_element 23 = .ok (.iload_n 2, 1) := by decide +kernel
theorem dX12_element_24 : decode cX12_element 24 = .ok (.iadd, 1) := by decide +kernel
theorem dX12_element_25 : decode cX12_element 25 = .ok (.laload, 1) := by decide +kernel
theorem dX12_element_26 : decode cX12_element 26 = .ok (.lreturn, 1) := by decide +kernel
theorem dX12_shift_0 : decode cX12_shift 0 = .ok (.iload_n 1, 1) := by decide +kernel
theorem dX12_shift_1 : decode cX12_shift 1 = .ok (.invokestatic 276, 3) := by decide +kernel
theorem dX12_shift_4 : decode cX12_shift 4 = .ok (.ifCond .eq 10, 3) := by decide +kernel
theorem dX12_shift_7 : decode cX12_shift 7 = .ok (.iload_n 3, 1) := by decide +kernel
theorem dX12_shift_8 : decode cX12_shift 8 = .ok (.invokestatic 276, 3) := by decide +kernel
theorem dX12_shift_11 : decode cX12_shift 11 = .ok (.ifCond .ne 5, 3) := by decide +kernel
theorem dX12_shift_14 : decode cX12_shift 14 = .ok (.iconst (-1), 1) := by decide +kernel
theorem dX12_shift_15 : decode cX12_shift 15 = .ok (.ireturn, 1) := by decide +kernel
theorem dX12_shift_16 : decode cX12_shift 16 = .ok (.aload_n 0, 1) := by decide +kernel
theorem dX12_shift_17 : decode cX12_shift 17 = .ok (.getfield 180, 3) := by decide +kernel
theorem dX12_shift_20 : decode cX12_shift 20 = .ok (.iload_n 1, 1) := by decide +kernel
theorem dX12_shift_21 : decode cX12_shift 21 = .ok (.iaload, 1) := by decide +kernel
theorem dX12_shift_22 : decode cX12_shift 22 = .ok (.iconst (-1), 1) := by decide +kernel
theorem dX12_shift_23 : decode cX12_shift 23 = .ok (.if_icmp .eq 13, 3) := by decide +kernel
theorem dX12_shift_26 : decode cX12_shift 26 = .ok (.aload_n 0, 1) := by decide +kernel
theorem dX12_shift_27 : decode cX12_shift 27 = .ok (.getfield 180, 3) := by decide +kernel
theorem dX12_shift_30 : decode cX12_shift 30 = .ok (.iload_n 3, 1) := by decide +kernel
theorem dX12_shift_31 : decode cX12_shift 31 = .ok (.iaload, 1) := by decide +kernel
theorem dX12_shift_32 : decode cX12_shift 32 = .ok (.iconst (-1), 1) := by decide +kernel
theorem dX12_shift_33 : decode cX12_shift 33 = .ok (.if_icmp .ne 6, 3) := by decide +kernel
theorem dX12_shift_36 : decode cX12_shift 36 = .ok (.bipush (-11), 2) := by decide +kernel
theorem dX12_shift_38 : decode cX12_shift 38 = .ok (.ireturn, 1) := by decide +kernel
theorem dX12_shift_39 : decode cX12_shift 39 = .ok (.aload_n 0, 1) := by decide +kernel
theorem dX12_shift_40 : decode cX12_shift 40 = .ok (.getfield 180, 3) := by decide +kernel
theorem dX12_shift_43 : decode cX12_shift 43 = .ok (.iload_n 1, 1) := by decide +kernel
theorem dX12_shift_44 : decode cX12_shift 44 = .ok (.iaload, 1) := by decide +kernel
theorem dX12_shift_45 : decode cX12_shift 45 = .ok (.ifCond .ge 18, 3) := by decide +kernel
theorem dX12_shift_48 : decode cX12_shift 48 = .ok (.aload_n 0, 1) := by decide +kernel
theorem dX12_shift_49 : decode cX12_shift 49 = .ok (.getfield 180, 3) := by decide +kernel
theorem dX12_shift_52 : decode cX12_shift 52 = .ok (.iload_n 1, 1) := by decide +kernel
theorem dX12_shift_53 : decode cX12_shift 53 = .ok (.iaload, 1) := by decide +kernel
theorem dX12_shift_54 : decode cX12_shift 54 = .ok (.aload_n 0, 1) := by decide +kernel
theorem dX12_shift_55 : decode cX12_shift 55 = .ok (.getfield 180, 3) := by decide +kernel
theorem dX12_shift_58 : decode cX12_shift 58 = .ok (.iload_n 3, 1) := by decide +kernel
theorem dX12_shift_59 : decode cX12_shift 59 = .ok (.iaload, 1) := by decide +kernel
theorem dX12_shift_60 : decode cX12_shift 60 = .ok (.if_icmp .eq 6, 3) := by decide +kernel
theorem dX12_shift_63 : decode cX12_shift 63 = .ok (.bipush (-12), 2) := by decide +kernel
theorem dX12_shift_65 : decode cX12_shift 65 = .ok (.ireturn, 1) := by decide +kernel
theorem dX12_shift_66 : decode cX12_shift 66 = .ok (.iload 5, 2) := by decide +kernel
theorem dX12_shift_68 : decode cX12_shift 68 = .ok (.ifCond .lt 39, 3) := by decide +kernel
theorem dX12_shift_71 : decode cX12_shift 71 = .ok (.iload_n 2, 1) := by decide +kernel
theorem dX12_shift_72 : decode cX12_shift 72 = .ok (.ifCond .lt 35, 3) := by decide +kernel
theorem dX12_shift_75 : decode cX12_shift 75 = .ok (.iload 4, 2) := by decide +kernel
theorem dX12_shift_77 : decode cX12_shift 77 = .ok (.ifCond .lt 30, 3) := by decide +kernel
theorem dX12_shift_80 : decode cX12_shift 80 = .ok (.iload_n 2, 1) := by decide +kernel
theorem dX12_shift_81 : decode cX12_shift 81 = .ok (.aload_n 0, 1) := by decide +kernel
theorem dX12_shift_82 : decode cX12_shift 82 = .ok (.getfield 183, 3) := by decide +kernel
theorem dX12_shift_85 : decode cX12_shift 85 = .ok (.iload_n 1, 1) := by decide +kernel
theorem dX12_shift_86 : decode cX12_shift 86 = .ok (.iaload, 1) := by decide +kernel
theorem dX12_shift_87 : decode cX12_shift 87 = .ok (.iload 5, 2) := by decide +kernel
theorem dX12_shift_89 : decode cX12_shift 89 = .ok (.isub, 1) := by decide +kernel
theorem dX12_shift_90 : decode cX12_shift 90 = .ok (.if_icmp .gt 17, 3) := by decide +kernel
theorem dX12_shift_93 : decode cX12_shift 93 = .ok (.iload 4, 2) := by decide +kernel
theorem dX12_shift_95 : decode cX12_shift 95 = .ok (.aload_n 0, 1) := by decide +kernel
theorem dX12_shift_96 : decode cX12_shift 96 = .ok (.getfield 183, 3) := by decide +kernel
theorem dX12_shift_99 : decode cX12_shift 99 = .ok (.iload_n 3, 1) := by decide +kernel
theorem dX12_shift_100 : decode cX12_shift 100 = .ok (.iaload, 1) := by decide +kernel
theorem dX12_shift_101 : decode cX12_shift 101 = .ok (.iload 5, 2) := by decide +kernel
theorem dX12_shift_103 : decode cX12_shift 103 = .ok (.isub, 1) := by decide +kernel
theorem dX12_shift_104 : decode cX12_shift 104 = .ok (.if_icmp .le 6, 3) := by decide +kernel
theorem dX12_shift_107 : decode cX12_shift 107 = .ok (.bipush (-13), 2) := by decide +kernel
theorem dX12_shift_109 : decode cX12_shift 109 = .ok (.ireturn, 1) := by decide +kernel
theorem dX12_shift_110 : decode cX12_shift 110 = .ok (.iconst 0, 1) := by decide +kernel
theorem dX12_shift_111 : decode cX12_shift 111 = .ok (.istore 6, 2) := by decide +kernel
theorem dX12_shift_113 : decode cX12_shift 113 = .ok (.iload 6, 2) := by decide +kernel
theorem dX12_shift_115 : decode cX12_shift 115 = .ok (.iload 5, 2) := by decide +kernel
theorem dX12_shift_117 : decode cX12_shift 117 = .ok (.if_icmp .ge 30, 3) := by decide +kernel
theorem dX12_shift_120 : decode cX12_shift 120 = .ok (.aload_n 0, 1) := by decide +kernel
theorem dX12_shift_121 : decode cX12_shift 121 = .ok (.getfield 189, 3) := by decide +kernel
theorem dX12_shift_124 : decode cX12_shift 124 = .ok (.iload 6, 2) := by decide +kernel
theorem dX12_shift_126 : decode cX12_shift 126 = .ok (.aload_n 0, 1) := by decide +kernel
theorem dX12_shift_127 : decode cX12_shift 127 = .ok (.getfield 186, 3) := by decide +kernel
theorem dX12_shift_130 : decode cX12_shift 130 = .ok (.bipush 60, 2) := by decide +kernel
theorem dX12_shift_132 : decode cX12_shift 132 = .ok (.iload_n 1, 1) := by decide +kernel
theorem dX12_shift_133 : decode cX12_shift 133 = .ok (.imul, 1) := by decide +kernel
theorem dX12_shift_134 : decode cX12_shift 134 = .ok (.iload_n 2, 1) := by decide +kernel
theorem dX12_shift_135 : decode cX12_shift 135 = .ok (.iadd, 1) := by decide +kernel
theorem dX12_shift_136 : decode cX12_shift 136 = .ok (.iload 6, 2) := by decide +kernel
theorem dX12_shift_138 : decode cX12_shift 138 = .ok (.iadd, 1) := by decide +kernel
theorem dX12_shift_139 : decode cX12_shift 139 = .ok (.laload, 1) := by decide +kernel
theorem dX12_shift_140 : decode cX12_shift 140 = .ok (.lastore, 1) := by decide +kernel
theorem dX12_shift_141 : decode cX12_shift 141 = .ok (.iinc 6 1, 3) := by decide +kernel
theorem dX12_shift_144 : decode cX12_shift 144 = .ok (.goto (-31), 3) := by decide +kernel
theorem dX12_shift_147 : decode cX12_shift 147 = .ok (.iconst 0, 1) := by decide +kernel
theorem dX12_shift_148 : decode cX12_shift 148 = .ok (.istore 6, 2) := by decide +kernel
theorem dX12_shift_150 : decode cX12_shift 150 = .ok (.iload 6, 2) := by decide +kernel
theorem dX12_shift_152 : decode cX12_shift 152 = .ok (.iload 5, 2) := by decide +kernel
theorem dX12_shift_154 : decode cX12_shift 154 = .ok (.if_icmp .ge 31, 3) := by decide +kernel
theorem dX12_shift_157 : decode cX12_shift 157 = .ok (.aload_n 0, 1) := by decide +kernel
theorem dX12_shift_158 : decode cX12_shift 158 = .ok (.getfield 186, 3) := by decide +kernel
theorem dX12_shift_161 : decode cX12_shift 161 = .ok (.bipush 60, 2) := by decide +kernel
theorem dX12_shift_163 : decode cX12_shift 163 = .ok (.iload_n 3, 1) := by decide +kernel
theorem dX12_shift_164 : decode cX12_shift 164 = .ok (.imul, 1) := by decide +kernel
theorem dX12_shift_165 : decode cX12_shift 165 = .ok (.iload 4, 2) := by decide +kernel
theorem dX12_shift_167 : decode cX12_shift 167 = .ok (.iadd, 1) := by decide +kernel
theorem dX12_shift_168 : decode cX12_shift 168 = .ok (.iload 6, 2) := by decide +kernel
theorem dX12_shift_170 : decode cX12_shift 170 = .ok (.iadd, 1) := by decide +kernel
theorem dX12_shift_171 : decode cX12_shift 171 = .ok (.aload_n 0, 1) := by decide +kernel
theorem dX12_shift_172 : decode cX12_shift 172 = .ok (.getfield 189, 3) := by decide +kernel
theorem dX12_shift_175 : decode cX12_shift 175 = .ok (.iload 6, 2) := by decide +kernel
theorem dX12_shift_177 : decode cX12_shift 177 = .ok (.laload, 1) := by decide +kernel
theorem dX12_shift_178 : decode cX12_shift 178 = .ok (.lastore, 1) := by decide +kernel
theorem dX12_shift_179 : decode cX12_shift 179 = .ok (.iinc 6 1, 3) := by decide +kernel
theorem dX12_shift_182 : decode cX12_shift 182 = .ok (.goto (-32), 3) := by decide +kernel
theorem dX12_shift_185 : decode cX12_shift 185 = .ok (.iload 5, 2) := by decide +kernel
theorem dX12_shift_187 : decode cX12_shift 187 = .ok (.ireturn, 1) := by decide +kernel
theorem dX12_taken_0 : decode cX12_taken 0 = .ok (.iload_n 1, 1) := by decide +kernel
theorem dX12_taken_1 : decode cX12_taken 1 = .ok (.invokestatic 276, 3) := by decide +kernel
theorem dX12_taken_4 : decode cX12_taken 4 = .ok (.ifCond .eq 13, 3) := by decide +kernel
theorem dX12_taken_7 : decode cX12_taken 7 = .ok (.iload_n 2, 1) := by decide +kernel
theorem dX12_taken_8 : decode cX12_taken 8 = .ok (.iconst 0, 1) := by decide +kernel
theorem dX12_taken_9 : decode cX12_taken 9 = .ok (.bipush 7, 2) := by decide +kernel
theorem dX12_taken_11 : decode cX12_taken 11 = .ok (.invokestatic 195, 3) := by decide +kernel
theorem dX12_taken_14 : decode cX12_taken 14 = .ok (.ifCond .ne 5, 3) := by decide +kernel
theorem dX12_taken_17 : decode cX12_taken 17 = .ok (.iconst (-1), 1) := by decide +kernel
theorem dX12_taken_18 : decode cX12_taken 18 = .ok (.ireturn, 1) := by decide +kernel
theorem dX12_taken_19 : decode cX12_taken 19 = .ok (.aload_n 0, 1) := by decide +kernel
theorem dX12_taken_20 : decode cX12_taken 20 = .ok (.getfield 180, 3) := by decide +kernel
theorem dX12_taken_23 : decode cX12_taken 23 = .ok (.iload_n 1, 1) := by decide +kernel
theorem dX12_taken_24 : decode cX12_taken 24 = .ok (.iaload, 1) := by decide +kernel
theorem dX12_taken_25 : decode cX12_taken 25 = .ok (.iconst (-1), 1) := by decide +kernel
theorem dX12_taken_26 : decode cX12_taken 26 = .ok (.if_icmp .ne 6, 3) := by decide +kernel
theorem dX12_taken_29 : decode cX12_taken 29 = .ok (.bipush (-11), 2) := by decide +kernel
theorem dX12_taken_31 : decode cX12_taken 31 = .ok (.ireturn, 1) := by decide +kernel
theorem dX12_taken_32 : decode cX12_taken 32 = .ok (.aload_n 0, 1) := by decide +kernel
theorem dX12_taken_33 : decode cX12_taken 33 = .ok (.getfield 180, 3) := by decide +kernel
theorem dX12_taken_36 : decode cX12_taken 36 = .ok (.iload_n 1, 1) := by decide +kernel
theorem dX12_taken_37 : decode cX12_taken 37 = .ok (.iaload, 1) := by decide +kernel
theorem dX12_taken_38 : decode cX12_taken 38 = .ok (.ifCond .lt 35, 3) := by decide +kernel
theorem dX12_taken_41 : decode cX12_taken 41 = .ok (.aload_n 0, 1) := by decide +kernel
theorem dX12_taken_42 : decode cX12_taken 42 = .ok (.getfield 13, 3) := by decide +kernel
theorem dX12_taken_45 : decode cX12_taken 45 = .ok (.aload_n 0, 1) := by decide +kernel
theorem dX12_taken_46 : decode cX12_taken 46 = .ok (.getfield 180, 3) := by decide +kernel
theorem dX12_taken_49 : decode cX12_taken 49 = .ok (.iload_n 1, 1) := by decide +kernel
theorem dX12_taken_50 : decode cX12_taken 50 = .ok (.iaload, 1) := by decide +kernel
theorem dX12_taken_51 : decode cX12_taken 51 = .ok (.iaload, 1) := by decide +kernel
theorem dX12_taken_52 : decode cX12_taken 52 = .ok (.iload_n 2, 1) := by decide +kernel
theorem dX12_taken_53 : decode cX12_taken 53 = .ok (.invokestatic 220, 3) := by decide +kernel
theorem dX12_taken_56 : decode cX12_taken 56 = .ok (.ifCond .eq 17, 3) := by decide +kernel
theorem dX12_taken_59 : decode cX12_taken 59 = .ok (.aload_n 0, 1) := by decide +kernel
theorem dX12_taken_60 : decode cX12_taken 60 = .ok (.getfield 13, 3) := by decide +kernel
theorem dX12_taken_63 : decode cX12_taken 63 = .ok (.aload_n 0, 1) := by decide +kernel
theorem dX12_taken_64 : decode cX12_taken 64 = .ok (.getfield 180, 3) := by decide +kernel
theorem dX12_taken_67 : decode cX12_taken 67 = .ok (.iload_n 1, 1) := by decide +kernel
theorem dX12_taken_68 : decode cX12_taken 68 = .ok (.iaload, 1) := by decide +kernel
theorem dX12_taken_69 : decode cX12_taken 69 = .ok (.iaload, 1) := by decide +kernel
theorem dX12_taken_70 : decode cX12_taken 70 = .ok (.goto 5, 3) := by decide +kernel
theorem dX12_taken_73 : decode cX12_taken 73 = .ok (.bipush (-12), 2) := by decide +kernel
theorem dX12_taken_75 : decode cX12_taken 75 = .ok (.ireturn, 1) := by decide +kernel
theorem dJ7_fill_d0a16_0 : decode cJ7_fill_d0a16 0 = .ok (.iconst 0, 1) := by decide +kernel
theorem dJ7_fill_d0a16_1 : decode cJ7_fill_d0a16 1 = .ok (.istore_n 3, 1) := by decide +kernel
theorem dJ7_fill_d0a16_2 : decode cJ7_fill_d0a16 2 = .ok (.aload_n 0, 1) := by decide +kernel
theorem dJ7_fill_d0a16_3 : decode cJ7_fill_d0a16 3 = .ok (.arraylength, 1) := by decide +kernel
theorem dJ7_fill_d0a16_4 : decode cJ7_fill_d0a16 4 = .ok (.istore 4, 2) := by decide +kernel
theorem dJ7_fill_d0a16_6 : decode cJ7_fill_d0a16 6 = .ok (.iload_n 3, 1) := by decide +kernel
theorem dJ7_fill_d0a16_7 : decode cJ7_fill_d0a16 7 = .ok (.iload 4, 2) := by decide +kernel
theorem dJ7_fill_d0a16_9 : decode cJ7_fill_d0a16 9 = .ok (.if_icmp .ge 13, 3) := by decide +kernel
theorem dJ7_fill_d0a16_12 : decode cJ7_fill_d0a16 12 = .ok (.aload_n 0, 1) := by decide +kernel
theorem dJ7_fill_d0a16_13 : decode cJ7_fill_d0a16 13 = .ok (.iload_n 3, 1) := by decide +kernel
theorem dJ7_fill_d0a16_14 : decode cJ7_fill_d0a16 14 = .ok (.lload_n 1, 1) := by decide +kernel
theorem dJ7_fill_d0a16_15 : decode cJ7_fill_d0a16 15 = .ok (.lastore, 1) := by decide +kernel
theorem dJ7_fill_d0a16_16 : decode cJ7_fill_d0a16 16 = .ok (.iinc 3 1, 3) := by decide +kernel
theorem dJ7_fill_d0a16_19 : decode cJ7_fill_d0a16 19 = .ok (.goto (-13), 3) := by decide +kernel
theorem dJ7_fill_d0a16_22 : decode cJ7_fill_d0a16 22 = .ok (.return_, 1) := by decide +kernel
theorem dJ7_fill_53178_0 : decode cJ7_fill_53178 0 = .ok (.iconst 0, 1) := by decide +kernel
theorem dJ7_fill_53178_1 : decode cJ7_fill_53178 1 = .ok (.istore_n 2, 1) := by decide +kernel
theorem dJ7_fill_53178_2 : decode cJ7_fill_53178 2 = .ok (.aload_n 0, 1) := by decide +kernel
theorem dJ7_fill_53178_3 : decode cJ7_fill_53178 3 = .ok (.arraylength, 1) := by decide +kernel
theorem dJ7_fill_53178_4 : decode cJ7_fill_53178 4 = .ok (.istore_n 3, 1) := by decide +kernel
theorem dJ7_fill_53178_5 : decode cJ7_fill_53178 5 = .ok (.iload_n 2, 1) := by decide +kernel
theorem dJ7_fill_53178_6 : decode cJ7_fill_53178 6 = .ok (.iload_n 3, 1) := by decide +kernel
theorem dJ7_fill_53178_7 : decode cJ7_fill_53178 7 = .ok (.if_icmp .ge 13, 3) := by decide +kernel
theorem dJ7_fill_53178_10 : decode cJ7_fill_53178 10 = .ok (.aload_n 0, 1) := by decide +kernel
theorem dJ7_fill_53178_11 : decode cJ7_fill_53178 11 = .ok (.iload_n 2, 1) := by decide +kernel
theorem dJ7_fill_53178_12 : decode cJ7_fill_53178 12 = .ok (.iload_n 1, 1) := by decide +kernel
theorem dJ7_fill_53178_13 : decode cJ7_fill_53178 13 = .ok (.iastore, 1) := by decide +kernel
theorem dJ7_fill_53178_14 : decode cJ7_fill_53178 14 = .ok (.iinc 2 1, 3) := by decide +kernel
theorem dJ7_fill_53178_17 : decode cJ7_fill_53178 17 = .ok (.goto (-12), 3) := by decide +kernel
theorem dJ7_fill_53178_20 : decode cJ7_fill_53178 20 = .ok (.return_, 1) := by decide +kernel
