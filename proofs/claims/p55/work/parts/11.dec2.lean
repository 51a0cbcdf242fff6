theorem dX6_whyNot_66 : decode cX6_whyNot 66 = .ok (.iconst 1, 1) := by decide +kernel
theorem dX6_whyNot_67 : decode cX6_whyNot 67 = .ok (.isub, 1) := by decide +kernel
theorem dX6_whyNot_68 : decode cX6_whyNot 68 = .ok (.istore 5, 2) := by decide +kernel
theorem dX6_whyNot_70 : decode cX6_whyNot 70 = .ok (.iload_n 2, 1) := by decide +kernel
theorem dX6_whyNot_71 : decode cX6_whyNot 71 = .ok (.iconst 3, 1) := by decide +kernel
theorem dX6_whyNot_72 : decode cX6_whyNot 72 = .ok (.if_icmp .ne 21, 3) := by decide +kernel
theorem dX6_whyNot_75 : decode cX6_whyNot 75 = .ok (.iload 5, 2) := by decide +kernel
theorem dX6_whyNot_77 : decode cX6_whyNot 77 = .ok (.ifCond .lt 16, 3) := by decide +kernel
theorem dX6_whyNot_80 : decode cX6_whyNot 80 = .ok (.aload_n 0, 1) := by decide +kernel
theorem dX6_whyNot_81 : decode cX6_whyNot 81 = .ok (.getfield 41, 3) := by decide +kernel
theorem dX6_whyNot_84 : decode cX6_whyNot 84 = .ok (.getfield 147, 3) := by decide +kernel
theorem dX6_whyNot_87 : decode cX6_whyNot 87 = .ok (.iload 5, 2) := by decide +kernel
theorem dX6_whyNot_89 : decode cX6_whyNot 89 = .ok (.iaload, 1) := by decide +kernel
theorem dX6_whyNot_90 : decode cX6_whyNot 90 = .ok (.goto 4, 3) := by decide +kernel
theorem dX6_whyNot_93 : decode cX6_whyNot 93 = .ok (.iload_n 3, 1) := by decide +kernel
theorem dX6_whyNot_94 : decode cX6_whyNot 94 = .ok (.istore 6, 2) := by decide +kernel
theorem dX6_whyNot_96 : decode cX6_whyNot 96 = .ok (.aload_n 0, 1) := by decide +kernel
theorem dX6_whyNot_97 : decode cX6_whyNot 97 = .ok (.iload 6, 2) := by decide +kernel
theorem dX6_whyNot_99 : decode cX6_whyNot 99 = .ok (.iload 4, 2) := by decide +kernel
theorem dX6_whyNot_101 : decode cX6_whyNot 101 = .ok (.invokevirtual 150, 3) := by decide +kernel
theorem dX6_whyNot_104 : decode cX6_whyNot 104 = .ok (.ifCond .eq 5, 3) := by decide +kernel
theorem dX6_whyNot_107 : decode cX6_whyNot 107 = .ok (.iconst 3, 1) := by decide +kernel
theorem dX6_whyNot_108 : decode cX6_whyNot 108 = .ok (.ireturn, 1) := by decide +kernel
theorem dX6_whyNot_109 : decode cX6_whyNot 109 = .ok (.aload_n 0, 1) := by decide +kernel
theorem dX6_whyNot_110 : decode cX6_whyNot 110 = .ok (.iload 6, 2) := by decide +kernel
theorem dX6_whyNot_112 : decode cX6_whyNot 112 = .ok (.iload 4, 2) := by decide +kernel
theorem dX6_whyNot_114 : decode cX6_whyNot 114 = .ok (.invokevirtual 154, 3) := by decide +kernel
theorem dX6_whyNot_117 : decode cX6_whyNot 117 = .ok (.ifCond .eq 7, 3) := by decide +kernel
theorem dX6_whyNot_120 : decode cX6_whyNot 120 = .ok (.iconst 4, 1) := by decide +kernel
theorem dX6_whyNot_121 : decode cX6_whyNot 121 = .ok (.goto 4, 3) := by decide +kernel
theorem dX6_whyNot_124 : decode cX6_whyNot 124 = .ok (.iconst 0, 1) := by decide +kernel
theorem dX6_whyNot_125 : decode cX6_whyNot 125 = .ok (.ireturn, 1) := by decide +kernel
theorem dX6_leavesLet_0 : decode cX6_leavesLet 0 = .ok (.iload_n 2, 1) := by decide +kernel
theorem dX6_leavesLet_1 : decode cX6_leavesLet 1 = .ok (.iconst 3, 1) := by decide +kernel
theorem dX6_leavesLet_2 : decode cX6_leavesLet 2 = .ok (.if_icmp .ne 13, 3) := by decide +kernel
theorem dX6_leavesLet_5 : decode cX6_leavesLet 5 = .ok (.aload_n 0, 1) := by decide +kernel
theorem dX6_leavesLet_6 : decode cX6_leavesLet 6 = .ok (.getfield 41, 3) := by decide +kernel
theorem dX6_leavesLet_9 : decode cX6_leavesLet 9 = .ok (.getfield 144, 3) := by decide +kernel
theorem dX6_leavesLet_12 : decode cX6_leavesLet 12 = .ok (.goto 4, 3) := by decide +kernel
theorem dX6_leavesLet_15 : decode cX6_leavesLet 15 = .ok (.iconst 0, 1) := by decide +kernel
theorem dX6_leavesLet_16 : decode cX6_leavesLet 16 = .ok (.istore 4, 2) := by decide +kernel
theorem dX6_leavesLet_18 : decode cX6_leavesLet 18 = .ok (.iconst (-1), 1) := by decide +kernel
theorem dX6_leavesLet_19 : decode cX6_leavesLet 19 = .ok (.istore 5, 2) := by decide +kernel
theorem dX6_leavesLet_21 : decode cX6_leavesLet 21 = .ok (.iload 5, 2) := by decide +kernel
theorem dX6_leavesLet_23 : decode cX6_leavesLet 23 = .ok (.iload 4, 2) := by decide +kernel
theorem dX6_leavesLet_25 : decode cX6_leavesLet 25 = .ok (.if_icmp .ge 83, 3) := by decide +kernel
theorem dX6_leavesLet_28 : decode cX6_leavesLet 28 = .ok (.iload 5, 2) := by decide +kernel
theorem dX6_leavesLet_30 : decode cX6_leavesLet 30 = .ok (.ifCond .ge 7, 3) := by decide +kernel
theorem dX6_leavesLet_33 : decode cX6_leavesLet 33 = .ok (.iload_n 3, 1) := by decide +kernel
theorem dX6_leavesLet_34 : decode cX6_leavesLet 34 = .ok (.goto 13, 3) := by decide +kernel
theorem dX6_leavesLet_37 : decode cX6_leavesLet 37 = .ok (.aload_n 0, 1) := by decide +kernel
theorem dX6_leavesLet_38 : decode cX6_leavesLet 38 = .ok (.getfield 41, 3) := by decide +kernel
theorem dX6_leavesLet_41 : decode cX6_leavesLet 41 = .ok (.getfield 147, 3) := by decide +kernel
theorem dX6_leavesLet_44 : decode cX6_leavesLet 44 = .ok (.iload 5, 2) := by decide +kernel
theorem dX6_leavesLet_46 : decode cX6_leavesLet 46 = .ok (.iaload, 1) := by decide +kernel
theorem dX6_leavesLet_47 : decode cX6_leavesLet 47 = .ok (.istore 6, 2) := by decide +kernel
theorem dX6_leavesLet_49 : decode cX6_leavesLet 49 = .ok (.aload_n 0, 1) := by decide +kernel
theorem dX6_leavesLet_50 : decode cX6_leavesLet 50 = .ok (.getfield 41, 3) := by decide +kernel
theorem dX6_leavesLet_53 : decode cX6_leavesLet 53 = .ok (.getfield 157, 3) := by decide +kernel
theorem dX6_leavesLet_56 : decode cX6_leavesLet 56 = .ok (.iload 6, 2) := by decide +kernel
theorem dX6_leavesLet_58 : decode cX6_leavesLet 58 = .ok (.iaload, 1) := by decide +kernel
theorem dX6_leavesLet_59 : decode cX6_leavesLet 59 = .ok (.istore 7, 2) := by decide +kernel
theorem dX6_leavesLet_61 : decode cX6_leavesLet 61 = .ok (.aload_n 0, 1) := by decide +kernel
theorem dX6_leavesLet_62 : decode cX6_leavesLet 62 = .ok (.aload_n 0, 1) := by decide +kernel
theorem dX6_leavesLet_63 : decode cX6_leavesLet 63 = .ok (.getfield 41, 3) := by decide +kernel
theorem dX6_leavesLet_66 : decode cX6_leavesLet 66 = .ok (.getfield 55, 3) := by decide +kernel
theorem dX6_leavesLet_69 : decode cX6_leavesLet 69 = .ok (.aload_n 1, 1) := by decide +kernel
theorem dX6_leavesLet_70 : decode cX6_leavesLet 70 = .ok (.iload_n 2, 1) := by decide +kernel
theorem dX6_leavesLet_71 : decode cX6_leavesLet 71 = .ok (.iload 6, 2) := by decide +kernel
theorem dX6_leavesLet_73 : decode cX6_leavesLet 73 = .ok (.invokevirtual 112, 3) := by decide +kernel
theorem dX6_leavesLet_76 : decode cX6_leavesLet 76 = .ok (.iload 7, 2) := by decide +kernel
theorem dX6_leavesLet_78 : decode cX6_leavesLet 78 = .ok (.ifCond .lt 24, 3) := by decide +kernel
theorem dX6_leavesLet_81 : decode cX6_leavesLet 81 = .ok (.aload_n 0, 1) := by decide +kernel
theorem dX6_leavesLet_82 : decode cX6_leavesLet 82 = .ok (.bipush 10, 2) := by decide +kernel
theorem dX6_leavesLet_84 : decode cX6_leavesLet 84 = .ok (.iload 7, 2) := by decide +kernel
theorem dX6_leavesLet_86 : decode cX6_leavesLet 86 = .ok (.iadd, 1) := by decide +kernel
theorem dX6_leavesLet_87 : decode cX6_leavesLet 87 = .ok (.aload_n 0, 1) := by decide +kernel
theorem dX6_leavesLet_88 : decode cX6_leavesLet 88 = .ok (.getfield 41, 3) := by decide +kernel
theorem dX6_leavesLet_91 : decode cX6_leavesLet 91 = .ok (.getfield 55, 3) := by decide +kernel
theorem dX6_leavesLet_94 : decode cX6_leavesLet 94 = .ok (.invokevirtual 116, 3) := by decide +kernel
theorem dX6_leavesLet_97 : decode cX6_leavesLet 97 = .ok (.ifCond .ne 5, 3) := by decide +kernel
theorem dX6_leavesLet_100 : decode cX6_leavesLet 100 = .ok (.iconst 0, 1) := by decide +kernel
theorem dX6_leavesLet_101 : decode cX6_leavesLet 101 = .ok (.ireturn, 1) := by decide +kernel
theorem dX6_leavesLet_102 : decode cX6_leavesLet 102 = .ok (.iinc 5 1, 3) := by decide +kernel
theorem dX6_leavesLet_105 : decode cX6_leavesLet 105 = .ok (.goto (-84), 3) := by decide +kernel
theorem dX6_leavesLet_108 : decode cX6_leavesLet 108 = .ok (.iconst 1, 1) := by decide +kernel
theorem dX6_leavesLet_109 : decode cX6_leavesLet 109 = .ok (.ireturn, 1) := by decide +kernel
theorem dX6_isNearKnown_0 : decode cX6_isNearKnown 0 = .ok (.iconst 0, 1) := by decide +kernel
theorem dX6_isNearKnown_1 : decode cX6_isNearKnown 1 = .ok (.istore_n 3, 1) := by decide +kernel
theorem dX6_isNearKnown_2 : decode cX6_isNearKnown 2 = .ok (.iload_n 3, 1) := by decide +kernel
theorem dX6_isNearKnown_3 : decode cX6_isNearKnown 3 = .ok (.aload_n 0, 1) := by decide +kernel
theorem dX6_isNearKnown_4 : decode cX6_isNearKnown 4 = .ok (.getfield 41, 3) := by decide +kernel
theorem dX6_isNearKnown_7 : decode cX6_isNearKnown 7 = .ok (.getfield 160, 3) := by decide +kernel
theorem dX6_isNearKnown_10 : decode cX6_isNearKnown 10 = .ok (.if_icmp .ge 60, 3) := by decide +kernel
theorem dX6_isNearKnown_13 : decode cX6_isNearKnown 13 = .ok (.aload_n 0, 1) := by decide +kernel
theorem dX6_isNearKnown_14 : decode cX6_isNearKnown 14 = .ok (.getfield 41, 3) := by decide +kernel
theorem dX6_isNearKnown_17 : decode cX6_isNearKnown 17 = .ok (.iload_n 3, 1) := by decide +kernel
theorem dX6_isNearKnown_18 : decode cX6_isNearKnown 18 = .ok (.invokevirtual 127, 3) := by decide +kernel
theorem dX6_isNearKnown_21 : decode cX6_isNearKnown 21 = .ok (.astore 4, 2) := by decide +kernel
theorem dX6_isNearKnown_23 : decode cX6_isNearKnown 23 = .ok (.aload 4, 2) := by decide +kernel
theorem dX6_isNearKnown_25 : decode cX6_isNearKnown 25 = .ok (.ifnull 39, 3) := by decide +kernel
theorem dX6_isNearKnown_28 : decode cX6_isNearKnown 28 = .ok (.aload 4, 2) := by decide +kernel
theorem dX6_isNearKnown_30 : decode cX6_isNearKnown 30 = .ok (.invokevirtual 163, 3) := by decide +kernel
theorem dX6_isNearKnown_33 : decode cX6_isNearKnown 33 = .ok (.ifCond .ne 31, 3) := by decide +kernel
theorem dX6_isNearKnown_36 : decode cX6_isNearKnown 36 = .ok (.iload_n 1, 1) := by decide +kernel
theorem dX6_isNearKnown_37 : decode cX6_isNearKnown 37 = .ok (.aload 4, 2) := by decide +kernel
theorem dX6_isNearKnown_39 : decode cX6_isNearKnown 39 = .ok (.invokevirtual 166, 3) := by decide +kernel
theorem dX6_isNearKnown_42 : decode cX6_isNearKnown 42 = .ok (.invokestatic 169, 3) := by decide +kernel
theorem dX6_isNearKnown_45 : decode cX6_isNearKnown 45 = .ok (.iload_n 2, 1) := by decide +kernel
theorem dX6_isNearKnown_46 : decode cX6_isNearKnown 46 = .ok (.if_icmp .lt 16, 3) := by decide +kernel
theorem dX6_isNearKnown_49 : decode cX6_isNearKnown 49 = .ok (.iload_n 1, 1) := by decide +kernel
theorem dX6_isNearKnown_50 : decode cX6_isNearKnown 50 = .ok (.aload 4, 2) := by decide +kernel
theorem dX6_isNearKnown_52 : decode cX6_isNearKnown 52 = .ok (.getfield 83, 3) := by decide +kernel
theorem dX6_isNearKnown_55 : decode cX6_isNearKnown 55 = .ok (.invokestatic 169, 3) := by decide +kernel
theorem dX6_isNearKnown_58 : decode cX6_isNearKnown 58 = .ok (.iload_n 2, 1) := by decide +kernel
theorem dX6_isNearKnown_59 : decode cX6_isNearKnown 59 = .ok (.if_icmp .ge 5, 3) := by decide +kernel
theorem dX6_isNearKnown_62 : decode cX6_isNearKnown 62 = .ok (.iconst 1, 1) := by decide +kernel
theorem dX6_isNearKnown_63 : decode cX6_isNearKnown 63 = .ok (.ireturn, 1) := by decide +kernel
theorem dX6_isNearKnown_64 : decode cX6_isNearKnown 64 = .ok (.iinc 3 1, 3) := by decide +kernel
theorem dX6_isNearKnown_67 : decode cX6_isNearKnown 67 = .ok (.goto (-65), 3) := by decide +kernel
theorem dX6_isNearKnown_70 : decode cX6_isNearKnown 70 = .ok (.iconst 0, 1) := by decide +kernel
theorem dX6_isNearKnown_71 : decode cX6_isNearKnown 71 = .ok (.ireturn, 1) := by decide +kernel
theorem dX6_isNearSecret_0 : decode cX6_isNearSecret 0 = .ok (.iconst 0, 1) := by decide +kernel
theorem dX6_isNearSecret_1 : decode cX6_isNearSecret 1 = .ok (.istore_n 3, 1) := by decide +kernel
theorem dX6_isNearSecret_2 : decode cX6_isNearSecret 2 = .ok (.iload_n 3, 1) := by decide +kernel
theorem dX6_isNearSecret_3 : decode cX6_isNearSecret 3 = .ok (.aload_n 0, 1) := by decide +kernel
theorem dX6_isNearSecret_4 : decode cX6_isNearSecret 4 = .ok (.getfield 41, 3) := by decide +kernel
theorem dX6_isNearSecret_7 : decode cX6_isNearSecret 7 = .ok (.getfield 160, 3) := by decide +kernel
theorem dX6_isNearSecret_10 : decode cX6_isNearSecret 10 = .ok (.if_icmp .ge 71, 3) := by decide +kernel
theorem dX6_isNearSecret_13 : decode cX6_isNearSecret 13 = .ok (.aload_n 0, 1) := by decide +kernel
theorem dX6_isNearSecret_14 : decode cX6_isNearSecret 14 = .ok (.getfield 41, 3) := by decide +kernel
theorem dX6_isNearSecret_17 : decode cX6_isNearSecret 17 = .ok (.iload_n 3, 1) := by decide +kernel
theorem dX6_isNearSecret_18 : decode cX6_isNearSecret 18 = .ok (.invokevirtual 127, 3) := by decide +kernel
theorem dX6_isNearSecret_21 : decode cX6_isNearSecret 21 = .ok (.astore 4, 2) := by decide +kernel
theorem dX6_isNearSecret_23 : decode cX6_isNearSecret 23 = .ok (.iconst 0, 1) := by decide +kernel
theorem dX6_isNearSecret_24 : decode cX6_isNearSecret 24 = .ok (.istore 5, 2) := by decide +kernel
theorem dX6_isNearSecret_26 : decode cX6_isNearSecret 26 = .ok (.aload 4, 2) := by decide +kernel
theorem dX6_isNearSecret_28 : decode cX6_isNearSecret 28 = .ok (.ifnull 47, 3) := by decide +kernel
theorem dX6_isNearSecret_31 : decode cX6_isNearSecret 31 = .ok (.aload 4, 2) := by decide +kernel
theorem dX6_isNearSecret_33 : decode cX6_isNearSecret 33 = .ok (.invokevirtual 163, 3) := by decide +kernel
theorem dX6_isNearSecret_36 : decode cX6_isNearSecret 36 = .ok (.ifCond .ne 39, 3) := by decide +kernel
theorem dX6_isNearSecret_39 : decode cX6_isNearSecret 39 = .ok (.iload 5, 2) := by decide +kernel
theorem dX6_isNearSecret_41 : decode cX6_isNearSecret 41 = .ok (.aload 4, 2) := by decide +kernel
theorem dX6_isNearSecret_43 : decode cX6_isNearSecret 43 = .ok (.getfield 172, 3) := by decide +kernel
theorem dX6_isNearSecret_46 : decode cX6_isNearSecret 46 = .ok (.iconst 1, 1) := by decide +kernel
theorem dX6_isNearSecret_47 : decode cX6_isNearSecret 47 = .ok (.isub, 1) := by decide +kernel
theorem dX6_isNearSecret_48 : decode cX6_isNearSecret 48 = .ok (.if_icmp .ge 27, 3) := by decide +kernel
theorem dX6_isNearSecret_51 : decode cX6_isNearSecret 51 = .ok (.iload_n 1, 1) := by decide +kernel
theorem dX6_isNearSecret_52 : decode cX6_isNearSecret 52 = .ok (.aload 4, 2) := by decide +kernel
theorem dX6_isNearSecret_54 : decode cX6_isNearSecret 54 = .ok (.getfield 173, 3) := by decide +kernel
theorem dX6_isNearSecret_57 : decode cX6_isNearSecret 57 = .ok (.iload 5, 2) := by decide +kernel
theorem dX6_isNearSecret_59 : decode cX6_isNearSecret 59 = .ok (.iaload, 1) := by decide +kernel
theorem dX6_isNearSecret_60 : decode cX6_isNearSecret 60 = .ok (.invokestatic 169, 3) := by decide +kernel
theorem dX6_isNearSecret_63 : decode cX6_isNearSecret 63 = .ok (.iload_n 2, 1) := by decide +kernel
theorem dX6_isNearSecret_64 : decode cX6_isNearSecret 64 = .ok (.if_icmp .ge 5, 3) := by decide +kernel
theorem dX6_isNearSecret_67 : decode cX6_isNearSecret 67 = .ok (.iconst 1, 1) := by decide +kernel
theorem dX6_isNearSecret_68 : decode cX6_isNearSecret 68 = .ok (.ireturn, 1) := by decide +kernel
theorem dX6_isNearSecret_69 : decode cX6_isNearSecret 69 = .ok (.iinc 5 1, 3) := by decide +kernel
theorem dX6_isNearSecret_72 : decode cX6_isNearSecret 72 = .ok (.goto (-46), 3) := by decide +kernel
theorem dX6_isNearSecret_75 : decode cX6_isNearSecret 75 = .ok (.iinc 3 1, 3) := by decide +kernel
theorem dX6_isNearSecret_78 : decode cX6_isNearSecret 78 = .ok (.goto (-76), 3) := by decide +kernel
theorem dX6_isNearSecret_81 : decode cX6_isNearSecret 81 = .ok (.iconst 0, 1) := by decide +kernel
theorem dX6_isNearSecret_82 : decode cX6_isNearSecret 82 = .ok (.ireturn, 1) := by decide +kernel
theorem dX6_work_0 : decode cX6_work 0 = .ok (.aload_n 0, 1) := by decide +kernel
theorem dX6_work_1 : decode cX6_work 1 = .ok (.iconst (-1), 1) := by decide +kernel
theorem dX6_work_2 : decode cX6_work 2 = .ok (.putfield 18, 3) := by decide +kernel
theorem dX6_work_5 : decode cX6_work 5 = .ok (.iload_n 1, 1) := by decide +kernel
theorem dX6_work_6 : decode cX6_work 6 = .ok (.ifCond .lt 11, 3) := by decide +kernel
theorem dX6_work_9 : decode cX6_work 9 = .ok (.iload_n 1, 1) := by decide +kernel
theorem dX6_work_10 : decode cX6_work 10 = .ok (.aload_n 0, 1) := by decide +kernel
theorem dX6_work_11 : decode cX6_work 11 = .ok (.getfield 45, 3) := by decide +kernel
theorem dX6_work_14 : decode cX6_work 14 = .ok (.if_icmp .lt 5, 3) := by decide +kernel
theorem dX6_work_17 : decode cX6_work 17 = .ok (.iconst 0, 1) := by decide +kernel
theorem dX6_work_18 : decode cX6_work 18 = .ok (.ireturn, 1) := by decide +kernel
theorem dX6_work_19 : decode cX6_work 19 = .ok (.iload_n 1, 1) := by decide +kernel
theorem dX6_work_20 : decode cX6_work 20 = .ok (.sipush 161, 3) := by decide +kernel
theorem dX6_work_23 : decode cX6_work 23 = .ok (.imul, 1) := by decide +kernel
theorem dX6_work_24 : decode cX6_work 24 = .ok (.istore_n 2, 1) := by decide +kernel
theorem dX6_work_25 : decode cX6_work 25 = .ok (.iload_n 2, 1) := by decide +kernel
theorem dX6_work_26 : decode cX6_work 26 = .ok (.aload_n 0, 1) := by decide +kernel
theorem dX6_work_27 : decode cX6_work 27 = .ok (.getfield 35, 3) := by decide +kernel
theorem dX6_work_30 : decode cX6_work 30 = .ok (.iload_n 1, 1) := by decide +kernel
theorem dX6_work_31 : decode cX6_work 31 = .ok (.iaload, 1) := by decide +kernel
theorem dX6_work_32 : decode cX6_work 32 = .ok (.iadd, 1) := by decide +kernel
theorem dX6_work_33 : decode cX6_work 33 = .ok (.istore_n 3, 1) := by decide +kernel
theorem dX6_work_34 : decode cX6_work 34 = .ok (.iconst 0, 1) := by decide +kernel
theorem dX6_work_35 : decode cX6_work 35 = .ok (.istore 4, 2) := by decide +kernel
theorem dX6_work_37 : decode cX6_work 37 = .ok (.iconst 0, 1) := by decide +kernel
theorem dX6_work_38 : decode cX6_work 38 = .ok (.istore 5, 2) := by decide +kernel
theorem dX6_work_40 : decode cX6_work 40 = .ok (.iconst 1, 1) := by decide +kernel
theorem dX6_work_41 : decode cX6_work 41 = .ok (.istore 6, 2) := by decide +kernel
theorem dX6_work_43 : decode cX6_work 43 = .ok (.iload_n 2, 1) := by decide +kernel
theorem dX6_work_44 : decode cX6_work 44 = .ok (.istore 7, 2) := by decide +kernel
theorem dX6_work_46 : decode cX6_work 46 = .ok (.iload 7, 2) := by decide +kernel
theorem dX6_work_48 : decode cX6_work 48 = .ok (.iload_n 3, 1) := by decide +kernel
theorem dX6_work_49 : decode cX6_work 49 = .ok (.if_icmp .ge 250, 3) := by decide +kernel
theorem dX6_work_52 : decode cX6_work 52 = .ok (.iload 7, 2) := by decide +kernel
theorem dX6_work_54 : decode cX6_work 54 = .ok (.aload_n 0, 1) := by decide +kernel
theorem dX6_work_55 : decode cX6_work 55 = .ok (.getfield 32, 3) := by decide +kernel
theorem dX6_work_58 : decode cX6_work 58 = .ok (.arraylength, 1) := by decide +kernel
theorem dX6_work_59 : decode cX6_work 59 = .ok (.if_icmp .ge 240, 3) := by decide +kernel
theorem dX6_work_62 : decode cX6_work 62 = .ok (.aload_n 0, 1) := by decide +kernel
theorem dX6_work_63 : decode cX6_work 63 = .ok (.getfield 32, 3) := by decide +kernel
theorem dX6_work_66 : decode cX6_work 66 = .ok (.iload 7, 2) := by decide +kernel
theorem dX6_work_68 : decode cX6_work 68 = .ok (.iaload, 1) := by decide +kernel
theorem dX6_work_69 : decode cX6_work 69 = .ok (.istore 8, 2) := by decide +kernel
theorem dX6_work_71 : decode cX6_work 71 = .ok (.iload 8, 2) := by decide +kernel
theorem dX6_work_73 : decode cX6_work 73 = .ok (.bipush (-20), 2) := by decide +kernel
theorem dX6_work_75 : decode cX6_work 75 = .ok (.if_icmp .le 32, 3) := by decide +kernel
theorem dX6_work_78 : decode cX6_work 78 = .ok (.aload_n 0, 1) := by decide +kernel
theorem dX6_work_79 : decode cX6_work 79 = .ok (.iload 4, 2) := by decide +kernel
theorem dX6_work_81 : decode cX6_work 81 = .ok (.iload 8, 2) := by decide +kernel
theorem dX6_work_83 : decode cX6_work 83 = .ok (.ifCond .lt 8, 3) := by decide +kernel
theorem dX6_work_86 : decode cX6_work 86 = .ok (.iload 8, 2) := by decide +kernel
theorem dX6_work_88 : decode cX6_work 88 = .ok (.goto 11, 3) := by decide +kernel
theorem dX6_work_91 : decode cX6_work 91 = .ok (.aload_n 0, 1) := by decide +kernel
theorem dX6_work_92 : decode cX6_work 92 = .ok (.iconst (-1), 1) := by decide +kernel
theorem dX6_work_93 : decode cX6_work 93 = .ok (.iload 8, 2) := by decide +kernel
theorem dX6_work_95 : decode cX6_work 95 = .ok (.isub, 1) := by decide +kernel
theorem dX6_work_96 : decode cX6_work 96 = .ok (.invokevirtual 174, 3) := by decide +kernel
theorem dX6_work_99 : decode cX6_work 99 = .ok (.invokevirtual 177, 3) := by decide +kernel
theorem dX6_work_102 : decode cX6_work 102 = .ok (.istore 4, 2) := by decide +kernel
theorem dX6_work_104 : decode cX6_work 104 = .ok (.goto 189, 3) := by decide +kernel
theorem dX6_work_107 : decode cX6_work 107 = .ok (.iload 8, 2) := by decide +kernel
theorem dX6_work_109 : decode cX6_work 109 = .ok (.bipush (-31), 2) := by decide +kernel
theorem dX6_work_111 : decode cX6_work 111 = .ok (.if_icmp .eq 10, 3) := by decide +kernel
theorem dX6_work_114 : decode cX6_work 114 = .ok (.iload 8, 2) := by decide +kernel
theorem dX6_work_116 : decode cX6_work 116 = .ok (.bipush (-32), 2) := by decide +kernel
theorem dX6_work_118 : decode cX6_work 118 = .ok (.if_icmp .ne 51, 3) := by decide +kernel
theorem dX6_work_121 : decode cX6_work 121 = .ok (.aload_n 0, 1) := by decide +kernel
theorem dX6_work_122 : decode cX6_work 122 = .ok (.iload 4, 2) := by decide +kernel
theorem dX6_work_124 : decode cX6_work 124 = .ok (.iconst 1, 1) := by decide +kernel
theorem dX6_work_125 : decode cX6_work 125 = .ok (.isub, 1) := by decide +kernel
theorem dX6_work_126 : decode cX6_work 126 = .ok (.iload 8, 2) := by decide +kernel
theorem dX6_work_128 : decode cX6_work 128 = .ok (.bipush (-31), 2) := by decide +kernel
theorem dX6_work_130 : decode cX6_work 130 = .ok (.if_icmp .ne 15, 3) := by decide +kernel
theorem dX6_work_133 : decode cX6_work 133 = .ok (.aload_n 0, 1) := by decide +kernel
theorem dX6_work_134 : decode cX6_work 134 = .ok (.iload 4, 2) := by decide +kernel
theorem dX6_work_136 : decode cX6_work 136 = .ok (.iconst 1, 1) := by decide +kernel
theorem dX6_work_137 : decode cX6_work 137 = .ok (.isub, 1) := by decide +kernel
theorem dX6_work_138 : decode cX6_work 138 = .ok (.invokevirtual 180, 3) := by decide +kernel
theorem dX6_work_141 : decode cX6_work 141 = .ok (.ineg, 1) := by decide +kernel
theorem dX6_work_142 : decode cX6_work 142 = .ok (.goto 19, 3) := by decide +kernel
theorem dX6_work_145 : decode cX6_work 145 = .ok (.aload_n 0, 1) := by decide +kernel
theorem dX6_work_146 : decode cX6_work 146 = .ok (.iload 4, 2) := by decide +kernel
theorem dX6_work_148 : decode cX6_work 148 = .ok (.iconst 1, 1) := by decide +kernel
theorem dX6_work_149 : decode cX6_work 149 = .ok (.isub, 1) := by decide +kernel
theorem dX6_work_150 : decode cX6_work 150 = .ok (.invokevirtual 180, 3) := by decide +kernel
theorem dX6_work_153 : decode cX6_work 153 = .ok (.ifCond .ne 7, 3) := by decide +kernel
theorem dX6_work_156 : decode cX6_work 156 = .ok (.iconst 1, 1) := by decide +kernel
theorem dX6_work_157 : decode cX6_work 157 = .ok (.goto 4, 3) := by decide +kernel
theorem dX6_work_160 : decode cX6_work 160 = .ok (.iconst 0, 1) := by decide +kernel
theorem dX6_work_161 : decode cX6_work 161 = .ok (.invokevirtual 177, 3) := by decide +kernel
theorem dX6_work_164 : decode cX6_work 164 = .ok (.istore 4, 2) := by decide +kernel
theorem dX6_work_166 : decode cX6_work 166 = .ok (.goto 127, 3) := by decide +kernel
theorem dX6_work_169 : decode cX6_work 169 = .ok (.iload 8, 2) := by decide +kernel
theorem dX6_work_171 : decode cX6_work 171 = .ok (.bipush (-33), 2) := by decide +kernel
theorem dX6_work_173 : decode cX6_work 173 = .ok (.if_icmp .eq 10, 3) := by decide +kernel
theorem dX6_work_176 : decode cX6_work 176 = .ok (.iload 8, 2) := by decide +kernel
theorem dX6_work_178 : decode cX6_work 178 = .ok (.bipush (-34), 2) := by decide +kernel
theorem dX6_work_180 : decode cX6_work 180 = .ok (.if_icmp .ne 45, 3) := by decide +kernel
theorem dX6_work_183 : decode cX6_work 183 = .ok (.iinc 4 (-1), 3) := by decide +kernel
theorem dX6_work_186 : decode cX6_work 186 = .ok (.aload_n 0, 1) := by decide +kernel
theorem dX6_work_187 : decode cX6_work 187 = .ok (.iload 4, 2) := by decide +kernel
theorem dX6_work_189 : decode cX6_work 189 = .ok (.invokevirtual 180, 3) := by decide +kernel
theorem dX6_work_192 : decode cX6_work 192 = .ok (.ifCond .eq 7, 3) := by decide +kernel
theorem dX6_work_195 : decode cX6_work 195 = .ok (.iconst 1, 1) := by decide +kernel
theorem dX6_work_196 : decode cX6_work 196 = .ok (.goto 4, 3) := by decide +kernel
theorem dX6_work_199 : decode cX6_work 199 = .ok (.iconst 0, 1) := by decide +kernel
theorem dX6_work_200 : decode cX6_work 200 = .ok (.iload 8, 2) := by decide +kernel
theorem dX6_work_202 : decode cX6_work 202 = .ok (.bipush (-33), 2) := by decide +kernel
theorem dX6_work_204 : decode cX6_work 204 = .ok (.if_icmp .ne 7, 3) := by decide +kernel
theorem dX6_work_207 : decode cX6_work 207 = .ok (.iconst 1, 1) := by decide +kernel
theorem dX6_work_208 : decode cX6_work 208 = .ok (.goto 4, 3) := by decide +kernel
theorem dX6_work_211 : decode cX6_work 211 = .ok (.iconst 0, 1) := by decide +kernel
theorem dX6_work_212 : decode cX6_work 212 = .ok (.if_icmp .ne 7, 3) := by decide +kernel
theorem dX6_work_215 : decode cX6_work 215 = .ok (.iconst 1, 1) := by decide +kernel
theorem dX6_work_216 : decode cX6_work 216 = .ok (.goto 4, 3) := by decide +kernel
theorem dX6_work_219 : decode cX6_work 219 = .ok (.iconst 0, 1) := by decide +kernel
theorem dX6_work_220 : decode cX6_work 220 = .ok (.istore 6, 2) := by decide +kernel
theorem dX6_work_222 : decode cX6_work 222 = .ok (.goto 71, 3) := by decide +kernel
theorem dX6_work_225 : decode cX6_work 225 = .ok (.iload 8, 2) := by decide +kernel
theorem dX6_work_227 : decode cX6_work 227 = .ok (.bipush (-35), 2) := by decide +kernel
theorem dX6_work_229 : decode cX6_work 229 = .ok (.if_icmp .ne 33, 3) := by decide +kernel
theorem dX6_work_232 : decode cX6_work 232 = .ok (.iinc 4 (-1), 3) := by decide +kernel
theorem dX6_work_235 : decode cX6_work 235 = .ok (.iload 6, 2) := by decide +kernel
theorem dX6_work_237 : decode cX6_work 237 = .ok (.ifCond .eq 16, 3) := by decide +kernel
theorem dX6_work_240 : decode cX6_work 240 = .ok (.aload_n 0, 1) := by decide +kernel
theorem dX6_work_241 : decode cX6_work 241 = .ok (.iload 5, 2) := by decide +kernel
theorem dX6_work_243 : decode cX6_work 243 = .ok (.putfield 18, 3) := by decide +kernel
theorem dX6_work_246 : decode cX6_work 246 = .ok (.aload_n 0, 1) := by decide +kernel
theorem dX6_work_247 : decode cX6_work 247 = .ok (.iload 4, 2) := by decide +kernel
theorem dX6_work_249 : decode cX6_work 249 = .ok (.invokevirtual 180, 3) := by decide +kernel
theorem dX6_work_252 : decode cX6_work 252 = .ok (.ireturn, 1) := by decide +kernel
theorem dX6_work_253 : decode cX6_work 253 = .ok (.iinc 5 1, 3) := by decide +kernel
theorem dX6_work_256 : decode cX6_work 256 = .ok (.iconst 1, 1) := by decide +kernel
theorem dX6_work_257 : decode cX6_work 257 = .ok (.istore 6, 2) := by decide +kernel
theorem dX6_work_259 : decode cX6_work 259 = .ok (.goto 34, 3) := by decide +kernel
theorem dX6_work_262 : decode cX6_work 262 = .ok (.aload_n 0, 1) := by decide +kernel
theorem dX6_work_263 : decode cX6_work 263 = .ok (.iload 4, 2) := by decide +kernel
theorem dX6_work_265 : decode cX6_work 265 = .ok (.iconst 2, 1) := by decide +kernel
theorem dX6_work_266 : decode cX6_work 266 = .ok (.isub, 1) := by decide +kernel
theorem dX6_work_267 : decode cX6_work 267 = .ok (.iload 8, 2) := by decide +kernel
theorem dX6_work_269 : decode cX6_work 269 = .ok (.aload_n 0, 1) := by decide +kernel
theorem dX6_work_270 : decode cX6_work 270 = .ok (.iload 4, 2) := by decide +kernel
theorem dX6_work_272 : decode cX6_work 272 = .ok (.iconst 2, 1) := by decide +kernel
theorem dX6_work_273 : decode cX6_work 273 = .ok (.isub, 1) := by decide +kernel
theorem dX6_work_274 : decode cX6_work 274 = .ok (.invokevirtual 180, 3) := by decide +kernel
theorem dX6_work_277 : decode cX6_work 277 = .ok (.aload_n 0, 1) := by decide +kernel
theorem dX6_work_278 : decode cX6_work 278 = .ok (.iload 4, 2) := by decide +kernel
theorem dX6_work_280 : decode cX6_work 280 = .ok (.iconst 1, 1) := by decide +kernel
theorem dX6_work_281 : decode cX6_work 281 = .ok (.isub, 1) := by decide +kernel
theorem dX6_work_282 : decode cX6_work 282 = .ok (.invokevirtual 180, 3) := by decide +kernel
theorem dX6_work_285 : decode cX6_work 285 = .ok (.invokestatic 183, 3) := by decide +kernel
theorem dX6_work_288 : decode cX6_work 288 = .ok (.invokevirtual 177, 3) := by decide +kernel
theorem dX6_work_291 : decode cX6_work 291 = .ok (.istore 4, 2) := by decide +kernel
theorem dX6_work_293 : decode cX6_work 293 = .ok (.iinc 7 1, 3) := by decide +kernel
theorem dX6_work_296 : decode cX6_work 296 = .ok (.goto (-250), 3) := by decide +kernel
theorem dX6_work_299 : decode cX6_work 299 = .ok (.iconst 0, 1) := by decide +kernel
theorem dX6_work_300 : decode cX6_work 300 = .ok (.ireturn, 1) := by decide +kernel
theorem dX6_push_0 : decode cX6_push 0 = .ok (.iload_n 1, 1) := by decide +kernel
theorem dX6_push_1 : decode cX6_push 1 = .ok (.ifCond .lt 16, 3) := by decide +kernel
theorem dX6_push_4 : decode cX6_push 4 = .ok (.iload_n 1, 1) := by decide +kernel
theorem dX6_push_5 : decode cX6_push 5 = .ok (.bipush 64, 2) := by decide +kernel
theorem dX6_push_7 : decode cX6_push 7 = .ok (.if_icmp .ge 10, 3) := by decide +kernel
theorem dX6_push_10 : decode cX6_push 10 = .ok (.aload_n 0, 1) := by decide +kernel
theorem dX6_push_11 : decode cX6_push 11 = .ok (.getfield 38, 3) := by decide +kernel
theorem dX6_push_14 : decode cX6_push 14 = .ok (.iload_n 1, 1) := by decide +kernel
theorem dX6_push_15 : decode cX6_push 15 = .ok (.iload_n 2, 1) := by decide +kernel
theorem dX6_push_16 : decode cX6_push 16 = .ok (.iastore, 1) := by decide +kernel
theorem dX6_push_17 : decode cX6_push 17 = .ok (.iload_n 1, 1) := by decide +kernel
theorem dX6_push_18 : decode cX6_push 18 = .ok (.iconst 1, 1) := by decide +kernel
theorem dX6_push_19 : decode cX6_push 19 = .ok (.iadd, 1) := by decide +kernel
theorem dX6_push_20 : decode cX6_push 20 = .ok (.ireturn, 1) := by decide +kernel
theorem dX6_read_0 : decode cX6_read 0 = .ok (.iload_n 1, 1) := by decide +kernel
theorem dX6_read_1 : decode cX6_read 1 = .ok (.ifCond .lt 9, 3) := by decide +kernel
theorem dX6_read_4 : decode cX6_read 4 = .ok (.iload_n 1, 1) := by decide +kernel
theorem dX6_read_5 : decode cX6_read 5 = .ok (.bipush 64, 2) := by decide +kernel
theorem dX6_read_7 : decode cX6_read 7 = .ok (.if_icmp .lt 7, 3) := by decide +kernel
theorem dX6_read_10 : decode cX6_read 10 = .ok (.iconst 0, 1) := by decide +kernel
theorem dX6_read_11 : decode cX6_read 11 = .ok (.goto 9, 3) := by decide +kernel
theorem dX6_read_14 : decode cX6_read 14 = .ok (.aload_n 0, 1) := by decide +kernel
theorem dX6_read_15 : decode cX6_read 15 = .ok (.getfield 38, 3) := by decide +kernel
theorem dX6_read_18 : decode cX6_read 18 = .ok (.iload_n 1, 1) := by decide +kernel
theorem dX6_read_19 : decode cX6_read 19 = .ok (.iaload, 1) := by decide +kernel
theorem dX6_read_20 : decode cX6_read 20 = .ok (.ireturn, 1) := by decide +kernel
theorem dX6_ofTwo_0 : decode cX6_ofTwo 0 = .ok (.iload_n 0, 1) := by decide +kernel
theorem dX6_ofTwo_1 : decode cX6_ofTwo 1 = .ok (.tableswitch 152 (-30) (-21) #[140, 128, 124, 120, 116, 105, 94, 83, 69, 55], 55) := by decide +kernel
theorem dX6_ofTwo_56 : decode cX6_ofTwo 56 = .ok (.iload_n 1, 1) := by decide +kernel
theorem dX6_ofTwo_57 : decode cX6_ofTwo 57 = .ok (.ifCond .ne 7, 3) := by decide +kernel
theorem dX6_ofTwo_60 : decode cX6_ofTwo 60 = .ok (.iload_n 2, 1) := by decide +kernel
theorem dX6_ofTwo_61 : decode cX6_ofTwo 61 = .ok (.ifCond .eq 7, 3) := by decide +kernel
theorem dX6_ofTwo_64 : decode cX6_ofTwo 64 = .ok (.iconst 1, 1) := by decide +kernel
theorem dX6_ofTwo_65 : decode cX6_ofTwo 65 = .ok (.goto 4, 3) := by decide +kernel
theorem dX6_ofTwo_68 : decode cX6_ofTwo 68 = .ok (.iconst 0, 1) := by decide +kernel
theorem dX6_ofTwo_69 : decode cX6_ofTwo 69 = .ok (.ireturn, 1) := by decide +kernel
theorem dX6_ofTwo_70 : decode cX6_ofTwo 70 = .ok (.iload_n 1, 1) := by decide +kernel
theorem dX6_ofTwo_71 : decode cX6_ofTwo 71 = .ok (.ifCond .eq 11, 3) := by decide +kernel
theorem dX6_ofTwo_74 : decode cX6_ofTwo 74 = .ok (.iload_n 2, 1) := by decide +kernel
theorem dX6_ofTwo_75 : decode cX6_ofTwo 75 = .ok (.ifCond .eq 7, 3) := by decide +kernel
theorem dX6_ofTwo_78 : decode cX6_ofTwo 78 = .ok (.iconst 1, 1) := by decide +kernel
theorem dX6_ofTwo_79 : decode cX6_ofTwo 79 = .ok (.goto 4, 3) := by decide +kernel
theorem dX6_ofTwo_82 : decode cX6_ofTwo 82 = .ok (.iconst 0, 1) := by decide +kernel
theorem dX6_ofTwo_83 : decode cX6_ofTwo 83 = .ok (.ireturn, 1) := by decide +kernel
theorem dX6_ofTwo_84 : decode cX6_ofTwo 84 = .ok (.iload_n 1, 1) := by decide +kernel
theorem dX6_ofTwo_85 : decode cX6_ofTwo 85 = .ok (.iload_n 2, 1) := by decide +kernel
theorem dX6_ofTwo_86 : decode cX6_ofTwo 86 = .ok (.if_icmp .ge 7, 3) := by decide +kernel
theorem dX6_ofTwo_89 : decode cX6_ofTwo 89 = .ok (.iconst 1, 1) := by decide +kernel
theorem dX6_ofTwo_90 : decode cX6_ofTwo 90 = .ok (.goto 4, 3) := by decide +kernel
theorem dX6_ofTwo_93 : decode cX6_ofTwo 93 = .ok (.iconst 0, 1) := by decide +kernel
theorem dX6_ofTwo_94 : decode cX6_ofTwo 94 = .ok (.ireturn, 1) := by decide +kernel
theorem dX6_ofTwo_95 : decode cX6_ofTwo 95 = .ok (.iload_n 1, 1) := by decide +kernel
theorem dX6_ofTwo_96 : decode cX6_ofTwo 96 = .ok (.iload_n 2, 1) := by decide +kernel
theorem dX6_ofTwo_97 : decode cX6_ofTwo 97 = .ok (.if_icmp .ne 7, 3) := by decide +kernel
theorem dX6_ofTwo_100 : decode cX6_ofTwo 100 = .ok (.iconst 1, 1) := by decide +kernel
theorem dX6_ofTwo_101 : decode cX6_ofTwo 101 = .ok (.goto 4, 3) := by decide +kernel
theorem dX6_ofTwo_104 : decode cX6_ofTwo 104 = .ok (.iconst 0, 1) := by decide +kernel
theorem dX6_ofTwo_105 : decode cX6_ofTwo 105 = .ok (.ireturn, 1) := by decide +kernel
theorem dX6_ofTwo_106 : decode cX6_ofTwo 106 = .ok (.iload_n 1, 1) := by decide +kernel
theorem dX6_ofTwo_107 : decode cX6_ofTwo 107 = .ok (.iload_n 2, 1) := by decide +kernel
theorem dX6_ofTwo_108 : decode cX6_ofTwo 108 = .ok (.if_icmp .le 7, 3) := by decide +kernel
theorem dX6_ofTwo_111 : decode cX6_ofTwo 111 = .ok (.iconst 1, 1) := by decide +kernel
theorem dX6_ofTwo_112 : decode cX6_ofTwo 112 = .ok (.goto 4, 3) := by decide +kernel
theorem dX6_ofTwo_115 : decode cX6_ofTwo 115 = .ok (.iconst 0, 1) := by decide +kernel
theorem dX6_ofTwo_116 : decode cX6_ofTwo 116 = .ok (.ireturn, 1) := by decide +kernel
theorem dX6_ofTwo_117 : decode cX6_ofTwo 117 = .ok (.iload_n 1, 1) := by decide +kernel
theorem dX6_ofTwo_118 : decode cX6_ofTwo 118 = .ok (.iload_n 2, 1) := by decide +kernel
theorem dX6_ofTwo_119 : decode cX6_ofTwo 119 = .ok (.iadd, 1) := by decide +kernel
theorem dX6_ofTwo_120 : decode cX6_ofTwo 120 = .ok (.ireturn, 1) := by decide +kernel
theorem dX6_ofTwo_121 : decode cX6_ofTwo 121 = .ok (.iload_n 1, 1) := by decide +kernel
theorem dX6_ofTwo_122 : decode cX6_ofTwo 122 = .ok (.iload_n 2, 1) := by decide +kernel
theorem dX6_ofTwo_123 : decode cX6_ofTwo 123 = .ok (.isub, 1) := by decide +kernel
theorem dX6_ofTwo_124 : decode cX6_ofTwo 124 = .ok (.ireturn, 1) := by decide +kernel
theorem dX6_ofTwo_125 : decode cX6_ofTwo 125 = .ok (.iload_n 1, 1) := by decide +kernel
theorem dX6_ofTwo_126 : decode cX6_ofTwo 126 = .ok (.iload_n 2, 1) := by decide +kernel
theorem dX6_ofTwo_127 : decode cX6_ofTwo 127 = .ok (.imul, 1) := by decide +kernel
theorem dX6_ofTwo_128 : decode cX6_ofTwo 128 = .ok (.ireturn, 1) := by decide +kernel
theorem dX6_ofTwo_129 : decode cX6_ofTwo 129 = .ok (.iload_n 2, 1) := by decide +kernel
theorem dX6_ofTwo_130 : decode cX6_ofTwo 130 = .ok (.ifCond .ne 7, 3) := by decide +kernel
theorem dX6_ofTwo_133 : decode cX6_ofTwo 133 = .ok (.iconst 0, 1) := by decide +kernel
theorem dX6_ofTwo_134 : decode cX6_ofTwo 134 = .ok (.goto 6, 3) := by decide +kernel
theorem dX6_ofTwo_137 : decode cX6_ofTwo 137 = .ok (.iload_n 1, 1) := by decide +kernel
theorem dX6_ofTwo_138 : decode cX6_ofTwo 138 = .ok (.iload_n 2, 1) := by decide +kernel
theorem dX6_ofTwo_139 : decode cX6_ofTwo 139 = .ok (.idiv, 1) := by decide +kernel
theorem dX6_ofTwo_140 : decode cX6_ofTwo 140 = .ok (.ireturn, 1) := by decide +kernel
theorem dX6_ofTwo_141 : decode cX6_ofTwo 141 = .ok (.iload_n 2, 1) := by decide +kernel
theorem dX6_ofTwo_142 : decode cX6_ofTwo 142 = .ok (.ifCond .ne 7, 3) := by decide +kernel
theorem dX6_ofTwo_145 : decode cX6_ofTwo 145 = .ok (.iconst 0, 1) := by decide +kernel
theorem dX6_ofTwo_146 : decode cX6_ofTwo 146 = .ok (.goto 6, 3) := by decide +kernel
theorem dX6_ofTwo_149 : decode cX6_ofTwo 149 = .ok (.iload_n 1, 1) := by decide +kernel
theorem dX6_ofTwo_150 : decode cX6_ofTwo 150 = .ok (.iload_n 2, 1) := by decide +kernel
theorem dX6_ofTwo_151 : decode cX6_ofTwo 151 = .ok (.irem, 1) := by decide +kernel
theorem dX6_ofTwo_152 : decode cX6_ofTwo 152 = .ok (.ireturn, 1) := by decide +kernel
theorem dX6_ofTwo_153 : decode cX6_ofTwo 153 = .ok (.iconst 0, 1) := by decide +kernel
theorem dX6_ofTwo_154 : decode cX6_ofTwo 154 = .ok (.ireturn, 1) := by decide +kernel
theorem dX6_numberOf_0 : decode cX6_numberOf 0 = .ok (.aload_n 0, 1) := by decide +kernel
theorem dX6_numberOf_1 : decode cX6_numberOf 1 = .ok (.getfield 67, 3) := by decide +kernel
theorem dX6_numberOf_4 : decode cX6_numberOf 4 = .ok (.astore_n 2, 1) := by decide +kernel
theorem dX6_numberOf_5 : decode cX6_numberOf 5 = .ok (.aload_n 0, 1) := by decide +kernel
theorem dX6_numberOf_6 : decode cX6_numberOf 6 = .ok (.getfield 71, 3) := by decide +kernel
theorem dX6_numberOf_9 : decode cX6_numberOf 9 = .ok (.astore_n 3, 1) := by decide +kernel
theorem dX6_numberOf_10 : decode cX6_numberOf 10 = .ok (.iload_n 1, 1) := by decide +kernel
theorem dX6_numberOf_11 : decode cX6_numberOf 11 = .ok (.tableswitch 231 0 10 #[57, 62, 67, 87, 105, 123, 136, 149, 154, 181, 206], 57) := by decide +kernel
theorem dX6_numberOf_68 : decode cX6_numberOf 68 = .ok (.aload_n 0, 1) := by decide +kernel
theorem dX6_numberOf_69 : decode cX6_numberOf 69 = .ok (.getfield 64, 3) := by decide +kernel
theorem dX6_numberOf_72 : decode cX6_numberOf 72 = .ok (.ireturn, 1) := by decide +kernel
theorem dX6_numberOf_73 : decode cX6_numberOf 73 = .ok (.aload_n 0, 1) := by decide +kernel
theorem dX6_numberOf_74 : decode cX6_numberOf 74 = .ok (.getfield 80, 3) := by decide +kernel
theorem dX6_numberOf_77 : decode cX6_numberOf 77 = .ok (.ireturn, 1) := by decide +kernel
theorem dX6_numberOf_78 : decode cX6_numberOf 78 = .ok (.aload_n 2, 1) := by decide +kernel
theorem dX6_numberOf_79 : decode cX6_numberOf 79 = .ok (.ifnonnull 7, 3) := by decide +kernel
theorem dX6_numberOf_82 : decode cX6_numberOf 82 = .ok (.iconst 0, 1) := by decide +kernel
theorem dX6_numberOf_83 : decode cX6_numberOf 83 = .ok (.goto 14, 3) := by decide +kernel
theorem dX6_numberOf_86 : decode cX6_numberOf 86 = .ok (.aload_n 0, 1) := by decide +kernel
theorem dX6_numberOf_87 : decode cX6_numberOf 87 = .ok (.getfield 41, 3) := by decide +kernel
theorem dX6_numberOf_90 : decode cX6_numberOf 90 = .ok (.aload_n 2, 1) := by decide +kernel
theorem dX6_numberOf_91 : decode cX6_numberOf 91 = .ok (.getfield 186, 3) := by decide +kernel
theorem dX6_numberOf_94 : decode cX6_numberOf 94 = .ok (.invokevirtual 189, 3) := by decide +kernel
theorem dX6_numberOf_97 : decode cX6_numberOf 97 = .ok (.ireturn, 1) := by decide +kernel
theorem dX6_numberOf_98 : decode cX6_numberOf 98 = .ok (.aload_n 2, 1) := by decide +kernel
theorem dX6_numberOf_99 : decode cX6_numberOf 99 = .ok (.ifnonnull 7, 3) := by decide +kernel
theorem dX6_numberOf_102 : decode cX6_numberOf 102 = .ok (.iconst 0, 1) := by decide +kernel
theorem dX6_numberOf_103 : decode cX6_numberOf 103 = .ok (.goto 12, 3) := by decide +kernel
theorem dX6_numberOf_106 : decode cX6_numberOf 106 = .ok (.aload_n 0, 1) := by decide +kernel
theorem dX6_numberOf_107 : decode cX6_numberOf 107 = .ok (.getfield 64, 3) := by decide +kernel
theorem dX6_numberOf_110 : decode cX6_numberOf 110 = .ok (.aload_n 2, 1) := by decide +kernel
theorem dX6_numberOf_111 : decode cX6_numberOf 111 = .ok (.getfield 192, 3) := by decide +kernel
theorem dX6_numberOf_114 : decode cX6_numberOf 114 = .ok (.isub, 1) := by decide +kernel
theorem dX6_numberOf_115 : decode cX6_numberOf 115 = .ok (.ireturn, 1) := by decide +kernel
theorem dX6_numberOf_116 : decode cX6_numberOf 116 = .ok (.aload_n 3, 1) := by decide +kernel
theorem dX6_numberOf_117 : decode cX6_numberOf 117 = .ok (.ifnonnull 7, 3) := by decide +kernel
theorem dX6_numberOf_120 : decode cX6_numberOf 120 = .ok (.iconst 0, 1) := by decide +kernel
theorem dX6_numberOf_121 : decode cX6_numberOf 121 = .ok (.goto 12, 3) := by decide +kernel
theorem dX6_numberOf_124 : decode cX6_numberOf 124 = .ok (.aload_n 0, 1) := by decide +kernel
theorem dX6_numberOf_125 : decode cX6_numberOf 125 = .ok (.getfield 64, 3) := by decide +kernel
theorem dX6_numberOf_128 : decode cX6_numberOf 128 = .ok (.aload_n 3, 1) := by decide +kernel
theorem dX6_numberOf_129 : decode cX6_numberOf 129 = .ok (.getfield 195, 3) := by decide +kernel
theorem dX6_numberOf_132 : decode cX6_numberOf 132 = .ok (.isub, 1) := by decide +kernel
theorem dX6_numberOf_133 : decode cX6_numberOf 133 = .ok (.ireturn, 1) := by decide +kernel
theorem dX6_numberOf_134 : decode cX6_numberOf 134 = .ok (.aload_n 3, 1) := by decide +kernel
theorem dX6_numberOf_135 : decode cX6_numberOf 135 = .ok (.ifnonnull 7, 3) := by decide +kernel
theorem dX6_numberOf_138 : decode cX6_numberOf 138 = .ok (.iconst 0, 1) := by decide +kernel
theorem dX6_numberOf_139 : decode cX6_numberOf 139 = .ok (.goto 7, 3) := by decide +kernel
theorem dX6_numberOf_142 : decode cX6_numberOf 142 = .ok (.aload_n 3, 1) := by decide +kernel
theorem dX6_numberOf_143 : decode cX6_numberOf 143 = .ok (.getfield 198, 3) := by decide +kernel
theorem dX6_numberOf_146 : decode cX6_numberOf 146 = .ok (.ireturn, 1) := by decide +kernel
theorem dX6_numberOf_147 : decode cX6_numberOf 147 = .ok (.aload_n 3, 1) := by decide +kernel
theorem dX6_numberOf_148 : decode cX6_numberOf 148 = .ok (.ifnonnull 7, 3) := by decide +kernel
theorem dX6_numberOf_151 : decode cX6_numberOf 151 = .ok (.iconst 0, 1) := by decide +kernel
theorem dX6_numberOf_152 : decode cX6_numberOf 152 = .ok (.goto 7, 3) := by decide +kernel
theorem dX6_numberOf_155 : decode cX6_numberOf 155 = .ok (.aload_n 3, 1) := by decide +kernel
theorem dX6_numberOf_156 : decode cX6_numberOf 156 = .ok (.getfield 201, 3) := by decide +kernel
theorem dX6_numberOf_159 : decode cX6_numberOf 159 = .ok (.ireturn, 1) := by decide +kernel
theorem dX6_numberOf_160 : decode cX6_numberOf 160 = .ok (.aload_n 0, 1) := by decide +kernel
theorem dX6_numberOf_161 : decode cX6_numberOf 161 = .ok (.getfield 89, 3) := by decide +kernel
theorem dX6_numberOf_164 : decode cX6_numberOf 164 = .ok (.ireturn, 1) := by decide +kernel
theorem dX6_numberOf_165 : decode cX6_numberOf 165 = .ok (.aload_n 2, 1) := by decide +kernel
theorem dX6_numberOf_166 : decode cX6_numberOf 166 = .ok (.ifnull 10, 3) := by decide +kernel
theorem dX6_numberOf_169 : decode cX6_numberOf 169 = .ok (.aload_n 0, 1) := by decide +kernel
theorem dX6_numberOf_170 : decode cX6_numberOf 170 = .ok (.getfield 86, 3) := by decide +kernel
theorem dX6_numberOf_173 : decode cX6_numberOf 173 = .ok (.ifCond .ge 7, 3) := by decide +kernel
theorem dX6_numberOf_176 : decode cX6_numberOf 176 = .ok (.iconst 0, 1) := by decide +kernel
theorem dX6_numberOf_177 : decode cX6_numberOf 177 = .ok (.goto 14, 3) := by decide +kernel
theorem dX6_numberOf_180 : decode cX6_numberOf 180 = .ok (.aload_n 2, 1) := by decide +kernel
theorem dX6_numberOf_181 : decode cX6_numberOf 181 = .ok (.getfield 204, 3) := by decide +kernel
theorem dX6_numberOf_184 : decode cX6_numberOf 184 = .ok (.aload_n 0, 1) := by decide +kernel
theorem dX6_numberOf_185 : decode cX6_numberOf 185 = .ok (.getfield 86, 3) := by decide +kernel
theorem dX6_numberOf_188 : decode cX6_numberOf 188 = .ok (.invokestatic 169, 3) := by decide +kernel
theorem dX6_numberOf_191 : decode cX6_numberOf 191 = .ok (.ireturn, 1) := by decide +kernel
theorem dX6_numberOf_192 : decode cX6_numberOf 192 = .ok (.aload_n 2, 1) := by decide +kernel
theorem dX6_numberOf_193 : decode cX6_numberOf 193 = .ok (.ifnull 22, 3) := by decide +kernel
theorem dX6_numberOf_196 : decode cX6_numberOf 196 = .ok (.aload_n 3, 1) := by decide +kernel
theorem dX6_numberOf_197 : decode cX6_numberOf 197 = .ok (.ifnull 18, 3) := by decide +kernel
theorem dX6_numberOf_200 : decode cX6_numberOf 200 = .ok (.aload_n 3, 1) := by decide +kernel
theorem dX6_numberOf_201 : decode cX6_numberOf 201 = .ok (.aload_n 2, 1) := by decide +kernel
theorem dX6_numberOf_202 : decode cX6_numberOf 202 = .ok (.getfield 186, 3) := by decide +kernel
theorem dX6_numberOf_205 : decode cX6_numberOf 205 = .ok (.invokevirtual 207, 3) := by decide +kernel
theorem dX6_numberOf_208 : decode cX6_numberOf 208 = .ok (.ifCond .eq 7, 3) := by decide +kernel
theorem dX6_numberOf_211 : decode cX6_numberOf 211 = .ok (.iconst 1, 1) := by decide +kernel
theorem dX6_numberOf_212 : decode cX6_numberOf 212 = .ok (.goto 4, 3) := by decide +kernel
theorem dX6_numberOf_215 : decode cX6_numberOf 215 = .ok (.iconst 0, 1) := by decide +kernel
theorem dX6_numberOf_216 : decode cX6_numberOf 216 = .ok (.ireturn, 1) := by decide +kernel
theorem dX6_numberOf_217 : decode cX6_numberOf 217 = .ok (.aload_n 2, 1) := by decide +kernel
theorem dX6_numberOf_218 : decode cX6_numberOf 218 = .ok (.ifnull 22, 3) := by decide +kernel
theorem dX6_numberOf_221 : decode cX6_numberOf 221 = .ok (.aload_n 3, 1) := by decide +kernel
theorem dX6_numberOf_222 : decode cX6_numberOf 222 = .ok (.ifnull 18, 3) := by decide +kernel
theorem dX6_numberOf_225 : decode cX6_numberOf 225 = .ok (.aload_n 3, 1) := by decide +kernel
theorem dX6_numberOf_226 : decode cX6_numberOf 226 = .ok (.getfield 211, 3) := by decide +kernel
theorem dX6_numberOf_229 : decode cX6_numberOf 229 = .ok (.aload_n 2, 1) := by decide +kernel
theorem dX6_numberOf_230 : decode cX6_numberOf 230 = .ok (.getfield 186, 3) := by decide +kernel
theorem dX6_numberOf_233 : decode cX6_numberOf 233 = .ok (.if_icmp .ne 7, 3) := by decide +kernel
theorem dX6_numberOf_236 : decode cX6_numberOf 236 = .ok (.iconst 1, 1) := by decide +kernel
theorem dX6_numberOf_237 : decode cX6_numberOf 237 = .ok (.goto 4, 3) := by decide +kernel
theorem dX6_numberOf_240 : decode cX6_numberOf 240 = .ok (.iconst 0, 1) := by decide +kernel
theorem dX6_numberOf_241 : decode cX6_numberOf 241 = .ok (.ireturn, 1) := by decide +kernel
theorem dX6_numberOf_242 : decode cX6_numberOf 242 = .ok (.iconst 0, 1) := by decide +kernel
theorem dX6_numberOf_243 : decode cX6_numberOf 243 = .ok (.ireturn, 1) := by decide +kernel
theorem dX7_init_0 : decode cX7_init 0 = .ok (.aload_n 0, 1) := by decide +kernel
theorem dX7_init_1 : decode cX7_init 1 = .ok (.invokespecial 3, 3) := by decide +kernel
theorem dX7_init_4 : decode cX7_init 4 = .ok (.aload_n 0, 1) := by decide +kernel
theorem dX7_init_5 : decode cX7_init 5 = .ok (.bipush 60, 2) := by decide +kernel
theorem dX7_init_7 : decode cX7_init 7 = .ok (.newarray .long, 2) := by decide +kernel
theorem dX7_init_9 : decode cX7_init 9 = .ok (.putfield 9, 3) := by decide +kernel
theorem dX7_init_12 : decode cX7_init 12 = .ok (.return_, 1) := by decide +kernel
theorem dX8_init_0 : decode cX8_init 0 = .ok (.aload_n 0, 1) := by decide +kernel
theorem dX8_init_1 : decode cX8_init 1 = .ok (.invokespecial 3, 3) := by decide +kernel
theorem dX8_init_4 : decode cX8_init 4 = .ok (.aload_n 0, 1) := by decide +kernel
theorem dX8_init_5 : decode cX8_init 5 = .ok (.sipush 160, 3) := by decide +kernel
theorem dX8_init_8 : decode cX8_init 8 = .ok (.newarray .int, 2) := by decide +kernel
theorem dX8_init_10 : decode cX8_init 10 = .ok (.putfield 9, 3) := by decide +kernel
theorem dX8_init_13 : decode cX8_init 13 = .ok (.aload_n 0, 1) := by decide +kernel
theorem dX8_init_14 : decode cX8_init 14 = .ok (.sipush 161, 3) := by decide +kernel
theorem dX8_init_17 : decode cX8_init 17 = .ok (.newarray .int, 2) := by decide +kernel
theorem dX8_init_19 : decode cX8_init 19 = .ok (.putfield 13, 3) := by decide +kernel
theorem dX8_init_22 : decode cX8_init 22 = .ok (.aload_n 0, 1) := by decide +kernel
theorem dX8_init_23 : decode cX8_init 23 = .ok (.sipush 161, 3) := by decide +kernel
theorem dX8_init_26 : decode cX8_init 26 = .ok (.newarray .int, 2) := by decide +kernel
theorem dX8_init_28 : decode cX8_init 28 = .ok (.putfield 16, 3) := by decide +kernel
theorem dX8_init_31 : decode cX8_init 31 = .ok (.aload_n 0, 1) := by decide +kernel
theorem dX8_init_32 : decode cX8_init 32 = .ok (.sipush 161, 3) := by decide +kernel
theorem dX8_init_35 : decode cX8_init 35 = .ok (.newarray .int, 2) := by decide +kernel
theorem dX8_init_37 : decode cX8_init 37 = .ok (.putfield 19, 3) := by decide +kernel
theorem dX8_init_40 : decode cX8_init 40 = .ok (.aload_n 0, 1) := by decide +kernel
theorem dX8_init_41 : decode cX8_init 41 = .ok (.sipush 161, 3) := by decide +kernel
theorem dX8_init_44 : decode cX8_init 44 = .ok (.newarray .int, 2) := by decide +kernel
theorem dX8_init_46 : decode cX8_init 46 = .ok (.putfield 22, 3) := by decide +kernel
theorem dX8_init_49 : decode cX8_init 49 = .ok (.return_, 1) := by decide +kernel
theorem dX8_hasRoomFor_0 : decode cX8_hasRoomFor 0 = .ok (.aload_n 0, 1) := by decide +kernel
theorem dX8_hasRoomFor_1 : decode cX8_hasRoomFor 1 = .ok (.getfield 25, 3) := by decide +kernel
theorem dX8_hasRoomFor_4 : decode cX8_hasRoomFor 4 = .ok (.sipush 160, 3) := by decide +kernel
theorem dX8_hasRoomFor_7 : decode cX8_hasRoomFor 7 = .ok (.iload_n 1, 1) := by decide +kernel
theorem dX8_hasRoomFor_8 : decode cX8_hasRoomFor 8 = .ok (.isub, 1) := by decide +kernel
theorem dX8_hasRoomFor_9 : decode cX8_hasRoomFor 9 = .ok (.if_icmp .gt 7, 3) := by decide +kernel
theorem dX8_hasRoomFor_12 : decode cX8_hasRoomFor 12 = .ok (.iconst 1, 1) := by decide +kernel
theorem dX8_hasRoomFor_13 : decode cX8_hasRoomFor 13 = .ok (.goto 4, 3) := by decide +kernel
theorem dX8_hasRoomFor_16 : decode cX8_hasRoomFor 16 = .ok (.iconst 0, 1) := by decide +kernel
theorem dX8_hasRoomFor_17 : decode cX8_hasRoomFor 17 = .ok (.ireturn, 1) := by decide +kernel
theorem dX8_append_0 : decode cX8_append 0 = .ok (.aload_n 0, 1) := by decide +kernel
theorem dX8_append_1 : decode cX8_append 1 = .ok (.getfield 25, 3) := by decide +kernel
theorem dX8_append_4 : decode cX8_append 4 = .ok (.sipush 160, 3) := by decide +kernel
theorem dX8_append_7 : decode cX8_append 7 = .ok (.if_icmp .ge 23, 3) := by decide +kernel
theorem dX8_append_10 : decode cX8_append 10 = .ok (.aload_n 0, 1) := by decide +kernel
theorem dX8_append_11 : decode cX8_append 11 = .ok (.getfield 9, 3) := by decide +kernel
theorem dX8_append_14 : decode cX8_append 14 = .ok (.aload_n 0, 1) := by decide +kernel
theorem dX8_append_15 : decode cX8_append 15 = .ok (.getfield 25, 3) := by decide +kernel
theorem dX8_append_18 : decode cX8_append 18 = .ok (.iload_n 1, 1) := by decide +kernel
theorem dX8_append_19 : decode cX8_append 19 = .ok (.iastore, 1) := by decide +kernel
theorem dX8_append_20 : decode cX8_append 20 = .ok (.aload_n 0, 1) := by decide +kernel
theorem dX8_append_21 : decode cX8_append 21 = .ok (.dup, 1) := by decide +kernel
theorem dX8_append_22 : decode cX8_append 22 = .ok (.getfield 25, 3) := by decide +kernel
theorem dX8_append_25 : decode cX8_append 25 = .ok (.iconst 1, 1) := by decide +kernel
theorem dX8_append_26 : decode cX8_append 26 = .ok (.iadd, 1) := by decide +kernel
theorem dX8_append_27 : decode cX8_append 27 = .ok (.putfield 25, 3) := by decide +kernel
theorem dX8_append_30 : decode cX8_append 30 = .ok (.return_, 1) := by decide +kernel
theorem dX8_copyCode_0 : decode cX8_copyCode 0 = .ok (.iload_n 2, 1) := by decide +kernel
theorem dX8_copyCode_1 : decode cX8_copyCode 1 = .ok (.ifCond .lt 14, 3) := by decide +kernel
theorem dX8_copyCode_4 : decode cX8_copyCode 4 = .ok (.iload_n 2, 1) := by decide +kernel
theorem dX8_copyCode_5 : decode cX8_copyCode 5 = .ok (.aload_n 1, 1) := by decide +kernel
theorem dX8_copyCode_6 : decode cX8_copyCode 6 = .ok (.arraylength, 1) := by decide +kernel
theorem dX8_copyCode_7 : decode cX8_copyCode 7 = .ok (.aload_n 0, 1) := by decide +kernel
theorem dX8_copyCode_8 : decode cX8_copyCode 8 = .ok (.getfield 29, 3) := by decide +kernel
theorem dX8_copyCode_11 : decode cX8_copyCode 11 = .ok (.isub, 1) := by decide +kernel
theorem dX8_copyCode_12 : decode cX8_copyCode 12 = .ok (.if_icmp .le 5, 3) := by decide +kernel
theorem dX8_copyCode_15 : decode cX8_copyCode 15 = .ok (.iconst 0, 1) := by decide +kernel
theorem dX8_copyCode_16 : decode cX8_copyCode 16 = .ok (.ireturn, 1) := by decide +kernel
theorem dX8_copyCode_17 : decode cX8_copyCode 17 = .ok (.aload_n 0, 1) := by decide +kernel
theorem dX8_copyCode_18 : decode cX8_copyCode 18 = .ok (.getfield 22, 3) := by decide +kernel
theorem dX8_copyCode_21 : decode cX8_copyCode 21 = .ok (.iconst 0, 1) := by decide +kernel
theorem dX8_copyCode_22 : decode cX8_copyCode 22 = .ok (.aload_n 1, 1) := by decide +kernel
theorem dX8_copyCode_23 : decode cX8_copyCode 23 = .ok (.iload_n 2, 1) := by decide +kernel
theorem dX8_copyCode_24 : decode cX8_copyCode 24 = .ok (.aload_n 0, 1) := by decide +kernel
theorem dX8_copyCode_25 : decode cX8_copyCode 25 = .ok (.getfield 29, 3) := by decide +kernel
theorem dX8_copyCode_28 : decode cX8_copyCode 28 = .ok (.invokestatic 32, 3) := by decide +kernel
theorem dX8_copyCode_31 : decode cX8_copyCode 31 = .ok (.aload_n 0, 1) := by decide +kernel
theorem dX8_copyCode_32 : decode cX8_copyCode 32 = .ok (.getfield 29, 3) := by decide +kernel
theorem dX8_copyCode_35 : decode cX8_copyCode 35 = .ok (.ireturn, 1) := by decide +kernel
theorem dX8_compile_0 : decode cX8_compile 0 = .ok (.aload_n 0, 1) := by decide +kernel
theorem dX8_compile_1 : decode cX8_compile 1 = .ok (.invokevirtual 38, 3) := by decide +kernel
theorem dX8_compile_4 : decode cX8_compile 4 = .ok (.aload_n 0, 1) := by decide +kernel
theorem dX8_compile_5 : decode cX8_compile 5 = .ok (.iconst 0, 1) := by decide +kernel
theorem dX8_compile_6 : decode cX8_compile 6 = .ok (.putfield 29, 3) := by decide +kernel
theorem dX8_compile_9 : decode cX8_compile 9 = .ok (.aload_n 0, 1) := by decide +kernel
theorem dX8_compile_10 : decode cX8_compile 10 = .ok (.iconst (-1), 1) := by decide +kernel
theorem dX8_compile_11 : decode cX8_compile 11 = .ok (.putfield 41, 3) := by decide +kernel
theorem dX8_compile_14 : decode cX8_compile 14 = .ok (.aload_n 0, 1) := by decide +kernel
theorem dX8_compile_15 : decode cX8_compile 15 = .ok (.iconst 0, 1) := by decide +kernel
theorem dX8_compile_16 : decode cX8_compile 16 = .ok (.putfield 44, 3) := by decide +kernel
theorem dX8_compile_19 : decode cX8_compile 19 = .ok (.aload_n 0, 1) := by decide +kernel
theorem dX8_compile_20 : decode cX8_compile 20 = .ok (.aload_n 0, 1) := by decide +kernel
theorem dX8_compile_21 : decode cX8_compile 21 = .ok (.getfield 13, 3) := by decide +kernel
theorem dX8_compile_24 : decode cX8_compile 24 = .ok (.iconst 0, 1) := by decide +kernel
theorem dX8_compile_25 : decode cX8_compile 25 = .ok (.iaload, 1) := by decide +kernel
theorem dX8_compile_26 : decode cX8_compile 26 = .ok (.putfield 47, 3) := by decide +kernel
theorem dX8_compile_29 : decode cX8_compile 29 = .ok (.aload_n 0, 1) := by decide +kernel
theorem dX8_compile_30 : decode cX8_compile 30 = .ok (.invokevirtual 50, 3) := by decide +kernel
theorem dX8_compile_33 : decode cX8_compile 33 = .ok (.iconst 0, 1) := by decide +kernel
theorem dX8_compile_34 : decode cX8_compile 34 = .ok (.istore_n 1, 1) := by decide +kernel
theorem dX8_compile_35 : decode cX8_compile 35 = .ok (.iload_n 1, 1) := by decide +kernel
theorem dX8_compile_36 : decode cX8_compile 36 = .ok (.sipush 160, 3) := by decide +kernel
theorem dX8_compile_39 : decode cX8_compile 39 = .ok (.if_icmp .ge 33, 3) := by decide +kernel
theorem dX8_compile_42 : decode cX8_compile 42 = .ok (.aload_n 0, 1) := by decide +kernel
theorem dX8_compile_43 : decode cX8_compile 43 = .ok (.getfield 41, 3) := by decide +kernel
theorem dX8_compile_46 : decode cX8_compile 46 = .ok (.ifCond .ge 26, 3) := by decide +kernel
theorem dX8_compile_49 : decode cX8_compile 49 = .ok (.aload_n 0, 1) := by decide +kernel
theorem dX8_compile_50 : decode cX8_compile 50 = .ok (.getfield 47, 3) := by decide +kernel
theorem dX8_compile_53 : decode cX8_compile 53 = .ok (.bipush 59, 2) := by decide +kernel
theorem dX8_compile_55 : decode cX8_compile 55 = .ok (.if_icmp .ne 17, 3) := by decide +kernel
theorem dX8_compile_58 : decode cX8_compile 58 = .ok (.aload_n 0, 1) := by decide +kernel
theorem dX8_compile_59 : decode cX8_compile 59 = .ok (.invokevirtual 53, 3) := by decide +kernel
theorem dX8_compile_62 : decode cX8_compile 62 = .ok (.aload_n 0, 1) := by decide +kernel
theorem dX8_compile_63 : decode cX8_compile 63 = .ok (.invokevirtual 50, 3) := by decide +kernel
theorem dX8_compile_66 : decode cX8_compile 66 = .ok (.iinc 1 1, 3) := by decide +kernel
theorem dX8_compile_69 : decode cX8_compile 69 = .ok (.goto (-34), 3) := by decide +kernel
theorem dX8_compile_72 : decode cX8_compile 72 = .ok (.aload_n 0, 1) := by decide +kernel
theorem dX8_compile_73 : decode cX8_compile 73 = .ok (.getfield 47, 3) := by decide +kernel
theorem dX8_compile_76 : decode cX8_compile 76 = .ok (.ifCond .eq 7, 3) := by decide +kernel
theorem dX8_compile_79 : decode cX8_compile 79 = .ok (.aload_n 0, 1) := by decide +kernel
theorem dX8_compile_80 : decode cX8_compile 80 = .ok (.invokevirtual 56, 3) := by decide +kernel
theorem dX8_compile_83 : decode cX8_compile 83 = .ok (.aload_n 0, 1) := by decide +kernel
theorem dX8_compile_84 : decode cX8_compile 84 = .ok (.getfield 41, 3) := by decide +kernel
theorem dX8_compile_87 : decode cX8_compile 87 = .ok (.ireturn, 1) := by decide +kernel
theorem dX8_blame_0 : decode cX8_blame 0 = .ok (.aload_n 0, 1) := by decide +kernel
theorem dX8_blame_1 : decode cX8_blame 1 = .ok (.getfield 41, 3) := by decide +kernel
theorem dX8_blame_4 : decode cX8_blame 4 = .ok (.ifCond .ge 16, 3) := by decide +kernel
theorem dX8_blame_7 : decode cX8_blame 7 = .ok (.aload_n 0, 1) := by decide +kernel
theorem dX8_blame_8 : decode cX8_blame 8 = .ok (.aload_n 0, 1) := by decide +kernel
theorem dX8_blame_9 : decode cX8_blame 9 = .ok (.getfield 16, 3) := by decide +kernel
theorem dX8_blame_12 : decode cX8_blame 12 = .ok (.aload_n 0, 1) := by decide +kernel
theorem dX8_blame_13 : decode cX8_blame 13 = .ok (.getfield 44, 3) := by decide +kernel
theorem dX8_blame_16 : decode cX8_blame 16 = .ok (.iaload, 1) := by decide +kernel
theorem dX8_blame_17 : decode cX8_blame 17 = .ok (.putfield 41, 3) := by decide +kernel
theorem dX8_blame_20 : decode cX8_blame 20 = .ok (.return_, 1) := by decide +kernel
theorem dX8_emit_0 : decode cX8_emit 0 = .ok (.aload_n 0, 1) := by decide +kernel
theorem dX8_emit_1 : decode cX8_emit 1 = .ok (.getfield 29, 3) := by decide +kernel
theorem dX8_emit_4 : decode cX8_emit 4 = .ok (.sipush 161, 3) := by decide +kernel
theorem dX8_emit_7 : decode cX8_emit 7 = .ok (.if_icmp .ge 23, 3) := by decide +kernel
