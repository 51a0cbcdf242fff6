theorem dX8_isWord_35 : decode cX8_isWord 35 = .ok (.invokevirtual 94, 3) := by decide +kernel
theorem dX8_isWord_38 : decode cX8_isWord 38 = .ok (.if_icmp .eq 5, 3) := by decide +kernel
theorem dX8_isWord_41 : decode cX8_isWord 41 = .ok (.iconst 0, 1) := by decide +kernel
theorem dX8_isWord_42 : decode cX8_isWord 42 = .ok (.ireturn, 1) := by decide +kernel
theorem dX8_isWord_43 : decode cX8_isWord 43 = .ok (.iinc 4 1, 3) := by decide +kernel
theorem dX8_isWord_46 : decode cX8_isWord 46 = .ok (.goto (-43), 3) := by decide +kernel
theorem dX8_isWord_49 : decode cX8_isWord 49 = .ok (.iconst 1, 1) := by decide +kernel
theorem dX8_isWord_50 : decode cX8_isWord 50 = .ok (.ireturn, 1) := by decide +kernel
theorem dX10_init_0 : decode cX10_init 0 = .ok (.aload_n 0, 1) := by decide +kernel
theorem dX10_init_1 : decode cX10_init 1 = .ok (.invokespecial 3, 3) := by decide +kernel
theorem dX10_init_4 : decode cX10_init 4 = .ok (.aload_n 0, 1) := by decide +kernel
theorem dX10_init_5 : decode cX10_init 5 = .ok (.iconst (-1), 1) := by decide +kernel
theorem dX10_init_6 : decode cX10_init 6 = .ok (.putfield 9, 3) := by decide +kernel
theorem dX10_init_9 : decode cX10_init 9 = .ok (.aload_n 0, 1) := by decide +kernel
theorem dX10_init_10 : decode cX10_init 10 = .ok (.bipush 7, 2) := by decide +kernel
theorem dX10_init_12 : decode cX10_init 12 = .ok (.newarray .int, 2) := by decide +kernel
theorem dX10_init_14 : decode cX10_init 14 = .ok (.putfield 15, 3) := by decide +kernel
theorem dX10_init_17 : decode cX10_init 17 = .ok (.aload_n 0, 1) := by decide +kernel
theorem dX10_init_18 : decode cX10_init 18 = .ok (.bipush 7, 2) := by decide +kernel
theorem dX10_init_20 : decode cX10_init 20 = .ok (.anewarray 19, 3) := by decide +kernel
theorem dX10_init_23 : decode cX10_init 23 = .ok (.putfield 21, 3) := by decide +kernel
theorem dX10_init_26 : decode cX10_init 26 = .ok (.aload_n 0, 1) := by decide +kernel
theorem dX10_init_27 : decode cX10_init 27 = .ok (.bipush 7, 2) := by decide +kernel
theorem dX10_init_29 : decode cX10_init 29 = .ok (.newarray .int, 2) := by decide +kernel
theorem dX10_init_31 : decode cX10_init 31 = .ok (.putfield 25, 3) := by decide +kernel
theorem dX10_init_34 : decode cX10_init 34 = .ok (.aload_n 0, 1) := by decide +kernel
theorem dX10_init_35 : decode cX10_init 35 = .ok (.bipush 7, 2) := by decide +kernel
theorem dX10_init_37 : decode cX10_init 37 = .ok (.newarray .int, 2) := by decide +kernel
theorem dX10_init_39 : decode cX10_init 39 = .ok (.putfield 28, 3) := by decide +kernel
theorem dX10_init_42 : decode cX10_init 42 = .ok (.aload_n 0, 1) := by decide +kernel
theorem dX10_init_43 : decode cX10_init 43 = .ok (.bipush 7, 2) := by decide +kernel
theorem dX10_init_45 : decode cX10_init 45 = .ok (.newarray .int, 2) := by decide +kernel
theorem dX10_init_47 : decode cX10_init 47 = .ok (.putfield 31, 3) := by decide +kernel
theorem dX10_init_50 : decode cX10_init 50 = .ok (.aload_n 0, 1) := by decide +kernel
theorem dX10_init_51 : decode cX10_init 51 = .ok (.bipush 7, 2) := by decide +kernel
theorem dX10_init_53 : decode cX10_init 53 = .ok (.newarray .int, 2) := by decide +kernel
theorem dX10_init_55 : decode cX10_init 55 = .ok (.putfield 34, 3) := by decide +kernel
theorem dX10_init_58 : decode cX10_init 58 = .ok (.return_, 1) := by decide +kernel
theorem dX11_init_0 : decode cX11_init 0 = .ok (.aload_n 0, 1) := by decide +kernel
theorem dX11_init_1 : decode cX11_init 1 = .ok (.invokespecial 1, 3) := by decide +kernel
theorem dX11_init_4 : decode cX11_init 4 = .ok (.aload_n 0, 1) := by decide +kernel
theorem dX11_init_5 : decode cX11_init 5 = .ok (.new 7, 3) := by decide +kernel
theorem dX11_init_8 : decode cX11_init 8 = .ok (.dup, 1) := by decide +kernel
theorem dX11_init_9 : decode cX11_init 9 = .ok (.invokespecial 9, 3) := by decide +kernel
theorem dX11_init_12 : decode cX11_init 12 = .ok (.putfield 10, 3) := by decide +kernel
theorem dX11_init_15 : decode cX11_init 15 = .ok (.aload_n 0, 1) := by decide +kernel
theorem dX11_init_16 : decode cX11_init 16 = .ok (.new 16, 3) := by decide +kernel
theorem dX11_init_19 : decode cX11_init 19 = .ok (.dup, 1) := by decide +kernel
theorem dX11_init_20 : decode cX11_init 20 = .ok (.aload_n 0, 1) := by decide +kernel
theorem dX11_init_21 : decode cX11_init 21 = .ok (.getfield 10, 3) := by decide +kernel
theorem dX11_init_24 : decode cX11_init 24 = .ok (.invokespecial 18, 3) := by decide +kernel
theorem dX11_init_27 : decode cX11_init 27 = .ok (.putfield 21, 3) := by decide +kernel
theorem dX11_init_30 : decode cX11_init 30 = .ok (.aload_n 0, 1) := by decide +kernel
theorem dX11_init_31 : decode cX11_init 31 = .ok (.new 25, 3) := by decide +kernel
theorem dX11_init_34 : decode cX11_init 34 = .ok (.dup, 1) := by decide +kernel
theorem dX11_init_35 : decode cX11_init 35 = .ok (.aload_n 0, 1) := by decide +kernel
theorem dX11_init_36 : decode cX11_init 36 = .ok (.getfield 10, 3) := by decide +kernel
theorem dX11_init_39 : decode cX11_init 39 = .ok (.aload_n 0, 1) := by decide +kernel
theorem dX11_init_40 : decode cX11_init 40 = .ok (.getfield 21, 3) := by decide +kernel
theorem dX11_init_43 : decode cX11_init 43 = .ok (.invokespecial 27, 3) := by decide +kernel
theorem dX11_init_46 : decode cX11_init 46 = .ok (.putfield 30, 3) := by decide +kernel
theorem dX11_init_49 : decode cX11_init 49 = .ok (.aload_n 0, 1) := by decide +kernel
theorem dX11_init_50 : decode cX11_init 50 = .ok (.new 34, 3) := by decide +kernel
theorem dX11_init_53 : decode cX11_init 53 = .ok (.dup, 1) := by decide +kernel
theorem dX11_init_54 : decode cX11_init 54 = .ok (.invokespecial 36, 3) := by decide +kernel
theorem dX11_init_57 : decode cX11_init 57 = .ok (.putfield 37, 3) := by decide +kernel
theorem dX11_init_60 : decode cX11_init 60 = .ok (.aload_n 0, 1) := by decide +kernel
theorem dX11_init_61 : decode cX11_init 61 = .ok (.bipush 6, 2) := by decide +kernel
theorem dX11_init_63 : decode cX11_init 63 = .ok (.anewarray 41, 3) := by decide +kernel
theorem dX11_init_66 : decode cX11_init 66 = .ok (.putfield 43, 3) := by decide +kernel
theorem dX11_init_69 : decode cX11_init 69 = .ok (.iconst 0, 1) := by decide +kernel
theorem dX11_init_70 : decode cX11_init 70 = .ok (.istore_n 1, 1) := by decide +kernel
theorem dX11_init_71 : decode cX11_init 71 = .ok (.iload_n 1, 1) := by decide +kernel
theorem dX11_init_72 : decode cX11_init 72 = .ok (.bipush 6, 2) := by decide +kernel
theorem dX11_init_74 : decode cX11_init 74 = .ok (.if_icmp .ge 22, 3) := by decide +kernel
theorem dX11_init_77 : decode cX11_init 77 = .ok (.aload_n 0, 1) := by decide +kernel
theorem dX11_init_78 : decode cX11_init 78 = .ok (.getfield 43, 3) := by decide +kernel
theorem dX11_init_81 : decode cX11_init 81 = .ok (.iload_n 1, 1) := by decide +kernel
theorem dX11_init_82 : decode cX11_init 82 = .ok (.new 41, 3) := by decide +kernel
theorem dX11_init_85 : decode cX11_init 85 = .ok (.dup, 1) := by decide +kernel
theorem dX11_init_86 : decode cX11_init 86 = .ok (.invokespecial 47, 3) := by decide +kernel
theorem dX11_init_89 : decode cX11_init 89 = .ok (.aastore, 1) := by decide +kernel
theorem dX11_init_90 : decode cX11_init 90 = .ok (.iinc 1 1, 3) := by decide +kernel
theorem dX11_init_93 : decode cX11_init 93 = .ok (.goto (-22), 3) := by decide +kernel
theorem dX11_init_96 : decode cX11_init 96 = .ok (.aload_n 0, 1) := by decide +kernel
theorem dX11_init_97 : decode cX11_init 97 = .ok (.bipush 25, 2) := by decide +kernel
theorem dX11_init_99 : decode cX11_init 99 = .ok (.newarray .int, 2) := by decide +kernel
theorem dX11_init_101 : decode cX11_init 101 = .ok (.putfield 48, 3) := by decide +kernel
theorem dX11_init_104 : decode cX11_init 104 = .ok (.return_, 1) := by decide +kernel
theorem dX11_owner_0 : decode cX11_owner 0 = .ok (.iload_n 1, 1) := by decide +kernel
theorem dX11_owner_1 : decode cX11_owner 1 = .ok (.invokestatic 56, 3) := by decide +kernel
theorem dX11_owner_4 : decode cX11_owner 4 = .ok (.ifCond .eq 14, 3) := by decide +kernel
theorem dX11_owner_7 : decode cX11_owner 7 = .ok (.iload_n 2, 1) := by decide +kernel
theorem dX11_owner_8 : decode cX11_owner 8 = .ok (.iconst (-1), 1) := by decide +kernel
theorem dX11_owner_9 : decode cX11_owner 9 = .ok (.if_icmp .lt 9, 3) := by decide +kernel
theorem dX11_owner_12 : decode cX11_owner 12 = .ok (.iload_n 2, 1) := by decide +kernel
theorem dX11_owner_13 : decode cX11_owner 13 = .ok (.bipush 10, 2) := by decide +kernel
theorem dX11_owner_15 : decode cX11_owner 15 = .ok (.if_icmp .lt 6, 3) := by decide +kernel
theorem dX11_owner_18 : decode cX11_owner 18 = .ok (.ldc 60, 2) := by decide +kernel
theorem dX11_owner_20 : decode cX11_owner 20 = .ok (.ireturn, 1) := by decide +kernel
theorem dX11_owner_21 : decode cX11_owner 21 = .ok (.aload_n 0, 1) := by decide +kernel
theorem dX11_owner_22 : decode cX11_owner 22 = .ok (.getfield 10, 3) := by decide +kernel
theorem dX11_owner_25 : decode cX11_owner 25 = .ok (.getfield 61, 3) := by decide +kernel
theorem dX11_owner_28 : decode cX11_owner 28 = .ok (.iload_n 1, 1) := by decide +kernel
theorem dX11_owner_29 : decode cX11_owner 29 = .ok (.iaload, 1) := by decide +kernel
theorem dX11_owner_30 : decode cX11_owner 30 = .ok (.istore_n 3, 1) := by decide +kernel
theorem dX11_owner_31 : decode cX11_owner 31 = .ok (.aload_n 0, 1) := by decide +kernel
theorem dX11_owner_32 : decode cX11_owner 32 = .ok (.getfield 10, 3) := by decide +kernel
theorem dX11_owner_35 : decode cX11_owner 35 = .ok (.getfield 61, 3) := by decide +kernel
theorem dX11_owner_38 : decode cX11_owner 38 = .ok (.iload_n 1, 1) := by decide +kernel
theorem dX11_owner_39 : decode cX11_owner 39 = .ok (.iload_n 2, 1) := by decide +kernel
theorem dX11_owner_40 : decode cX11_owner 40 = .ok (.iastore, 1) := by decide +kernel
theorem dX11_owner_41 : decode cX11_owner 41 = .ok (.iload_n 3, 1) := by decide +kernel
theorem dX11_owner_42 : decode cX11_owner 42 = .ok (.ireturn, 1) := by decide +kernel
theorem dX11_finder_0 : decode cX11_finder 0 = .ok (.iload_n 1, 1) := by decide +kernel
theorem dX11_finder_1 : decode cX11_finder 1 = .ok (.invokestatic 56, 3) := by decide +kernel
theorem dX11_finder_4 : decode cX11_finder 4 = .ok (.ifCond .ne 5, 3) := by decide +kernel
theorem dX11_finder_7 : decode cX11_finder 7 = .ok (.iconst (-1), 1) := by decide +kernel
theorem dX11_finder_8 : decode cX11_finder 8 = .ok (.ireturn, 1) := by decide +kernel
theorem dX11_finder_9 : decode cX11_finder 9 = .ok (.aload_n 0, 1) := by decide +kernel
theorem dX11_finder_10 : decode cX11_finder 10 = .ok (.getfield 10, 3) := by decide +kernel
theorem dX11_finder_13 : decode cX11_finder 13 = .ok (.invokevirtual 64, 3) := by decide +kernel
theorem dX11_finder_16 : decode cX11_finder 16 = .ok (.ifCond .eq 6, 3) := by decide +kernel
theorem dX11_finder_19 : decode cX11_finder 19 = .ok (.bipush (-3), 2) := by decide +kernel
theorem dX11_finder_21 : decode cX11_finder 21 = .ok (.ireturn, 1) := by decide +kernel
theorem dX11_finder_22 : decode cX11_finder 22 = .ok (.aload_n 0, 1) := by decide +kernel
theorem dX11_finder_23 : decode cX11_finder 23 = .ok (.getfield 10, 3) := by decide +kernel
theorem dX11_finder_26 : decode cX11_finder 26 = .ok (.new 85, 3) := by decide +kernel
theorem dX11_finder_29 : decode cX11_finder 29 = .ok (.dup, 1) := by decide +kernel
theorem dX11_finder_30 : decode cX11_finder 30 = .ok (.aload_n 0, 1) := by decide +kernel
theorem dX11_finder_31 : decode cX11_finder 31 = .ok (.getfield 10, 3) := by decide +kernel
theorem dX11_finder_34 : decode cX11_finder 34 = .ok (.getfield 70, 3) := by decide +kernel
theorem dX11_finder_37 : decode cX11_finder 37 = .ok (.iload_n 1, 1) := by decide +kernel
theorem dX11_finder_38 : decode cX11_finder 38 = .ok (.aload_n 0, 1) := by decide +kernel
theorem dX11_finder_39 : decode cX11_finder 39 = .ok (.getfield 10, 3) := by decide +kernel
theorem dX11_finder_42 : decode cX11_finder 42 = .ok (.getfield 52, 3) := by decide +kernel
theorem dX11_finder_45 : decode cX11_finder 45 = .ok (.invokespecial 87, 3) := by decide +kernel
theorem dX11_finder_48 : decode cX11_finder 48 = .ok (.invokevirtual 81, 3) := by decide +kernel
theorem dX11_finder_51 : decode cX11_finder 51 = .ok (.ireturn, 1) := by decide +kernel
theorem dX11_step_0 : decode cX11_step 0 = .ok (.iload_n 1, 1) := by decide +kernel
theorem dX11_step_1 : decode cX11_step 1 = .ok (.invokestatic 56, 3) := by decide +kernel
theorem dX11_step_4 : decode cX11_step 4 = .ok (.ifCond .ne 5, 3) := by decide +kernel
theorem dX11_step_7 : decode cX11_step 7 = .ok (.iconst (-1), 1) := by decide +kernel
theorem dX11_step_8 : decode cX11_step 8 = .ok (.ireturn, 1) := by decide +kernel
theorem dX11_step_9 : decode cX11_step 9 = .ok (.aload_n 0, 1) := by decide +kernel
theorem dX11_step_10 : decode cX11_step 10 = .ok (.getfield 10, 3) := by decide +kernel
theorem dX11_step_13 : decode cX11_step 13 = .ok (.getfield 100, 3) := by decide +kernel
theorem dX11_step_16 : decode cX11_step 16 = .ok (.iconst 4, 1) := by decide +kernel
theorem dX11_step_17 : decode cX11_step 17 = .ok (.if_icmp .lt 6, 3) := by decide +kernel
theorem dX11_step_20 : decode cX11_step 20 = .ok (.bipush (-3), 2) := by decide +kernel
theorem dX11_step_22 : decode cX11_step 22 = .ok (.ireturn, 1) := by decide +kernel
theorem dX11_step_23 : decode cX11_step 23 = .ok (.aload_n 0, 1) := by decide +kernel
theorem dX11_step_24 : decode cX11_step 24 = .ok (.getfield 10, 3) := by decide +kernel
theorem dX11_step_27 : decode cX11_step 27 = .ok (.getfield 103, 3) := by decide +kernel
theorem dX11_step_30 : decode cX11_step 30 = .ok (.aload_n 0, 1) := by decide +kernel
theorem dX11_step_31 : decode cX11_step 31 = .ok (.getfield 10, 3) := by decide +kernel
theorem dX11_step_34 : decode cX11_step 34 = .ok (.getfield 100, 3) := by decide +kernel
theorem dX11_step_37 : decode cX11_step 37 = .ok (.iload_n 1, 1) := by decide +kernel
theorem dX11_step_38 : decode cX11_step 38 = .ok (.iastore, 1) := by decide +kernel
theorem dX11_step_39 : decode cX11_step 39 = .ok (.aload_n 0, 1) := by decide +kernel
theorem dX11_step_40 : decode cX11_step 40 = .ok (.getfield 10, 3) := by decide +kernel
theorem dX11_step_43 : decode cX11_step 43 = .ok (.dup, 1) := by decide +kernel
theorem dX11_step_44 : decode cX11_step 44 = .ok (.getfield 100, 3) := by decide +kernel
theorem dX11_step_47 : decode cX11_step 47 = .ok (.iconst 1, 1) := by decide +kernel
theorem dX11_step_48 : decode cX11_step 48 = .ok (.iadd, 1) := by decide +kernel
theorem dX11_step_49 : decode cX11_step 49 = .ok (.putfield 100, 3) := by decide +kernel
theorem dX11_step_52 : decode cX11_step 52 = .ok (.aload_n 0, 1) := by decide +kernel
theorem dX11_step_53 : decode cX11_step 53 = .ok (.getfield 10, 3) := by decide +kernel
theorem dX11_step_56 : decode cX11_step 56 = .ok (.getfield 100, 3) := by decide +kernel
theorem dX11_step_59 : decode cX11_step 59 = .ok (.ireturn, 1) := by decide +kernel
theorem dX11_why_0 : decode cX11_why 0 = .ok (.aload_n 0, 1) := by decide +kernel
theorem dX11_why_1 : decode cX11_why 1 = .ok (.getfield 10, 3) := by decide +kernel
theorem dX11_why_4 : decode cX11_why 4 = .ok (.iload_n 1, 1) := by decide +kernel
theorem dX11_why_5 : decode cX11_why 5 = .ok (.invokevirtual 90, 3) := by decide +kernel
theorem dX11_why_8 : decode cX11_why 8 = .ok (.astore 5, 2) := by decide +kernel
theorem dX11_why_10 : decode cX11_why 10 = .ok (.aload 5, 2) := by decide +kernel
theorem dX11_why_12 : decode cX11_why 12 = .ok (.ifnull 23, 3) := by decide +kernel
theorem dX11_why_15 : decode cX11_why 15 = .ok (.aload_n 0, 1) := by decide +kernel
theorem dX11_why_16 : decode cX11_why 16 = .ok (.iload_n 2, 1) := by decide +kernel
theorem dX11_why_17 : decode cX11_why 17 = .ok (.iload_n 3, 1) := by decide +kernel
theorem dX11_why_18 : decode cX11_why 18 = .ok (.invokevirtual 106, 3) := by decide +kernel
theorem dX11_why_21 : decode cX11_why 21 = .ok (.ifCond .eq 14, 3) := by decide +kernel
theorem dX11_why_24 : decode cX11_why 24 = .ok (.iload 4, 2) := by decide +kernel
theorem dX11_why_26 : decode cX11_why 26 = .ok (.ifCond .lt 9, 3) := by decide +kernel
theorem dX11_why_29 : decode cX11_why 29 = .ok (.iload 4, 2) := by decide +kernel
theorem dX11_why_31 : decode cX11_why 31 = .ok (.iconst 1, 1) := by decide +kernel
theorem dX11_why_32 : decode cX11_why 32 = .ok (.if_icmp .le 5, 3) := by decide +kernel
theorem dX11_why_35 : decode cX11_why 35 = .ok (.iconst (-1), 1) := by decide +kernel
theorem dX11_why_36 : decode cX11_why 36 = .ok (.ireturn, 1) := by decide +kernel
theorem dX11_why_37 : decode cX11_why 37 = .ok (.aload_n 0, 1) := by decide +kernel
theorem dX11_why_38 : decode cX11_why 38 = .ok (.getfield 21, 3) := by decide +kernel
theorem dX11_why_41 : decode cX11_why 41 = .ok (.aload 5, 2) := by decide +kernel
theorem dX11_why_43 : decode cX11_why 43 = .ok (.iload_n 2, 1) := by decide +kernel
theorem dX11_why_44 : decode cX11_why 44 = .ok (.iload_n 3, 1) := by decide +kernel
theorem dX11_why_45 : decode cX11_why 45 = .ok (.invokevirtual 110, 3) := by decide +kernel
theorem dX11_why_48 : decode cX11_why 48 = .ok (.istore 6, 2) := by decide +kernel
theorem dX11_why_50 : decode cX11_why 50 = .ok (.iload 4, 2) := by decide +kernel
theorem dX11_why_52 : decode cX11_why 52 = .ok (.ifCond .ne 11, 3) := by decide +kernel
theorem dX11_why_55 : decode cX11_why 55 = .ok (.iload 6, 2) := by decide +kernel
theorem dX11_why_57 : decode cX11_why 57 = .ok (.invokestatic 114, 3) := by decide +kernel
theorem dX11_why_60 : decode cX11_why 60 = .ok (.goto 5, 3) := by decide +kernel
theorem dX11_why_63 : decode cX11_why 63 = .ok (.iload 6, 2) := by decide +kernel
theorem dX11_why_65 : decode cX11_why 65 = .ok (.ireturn, 1) := by decide +kernel
theorem dX11_hide_0 : decode cX11_hide 0 = .ok (.aload_n 0, 1) := by decide +kernel
theorem dX11_hide_1 : decode cX11_hide 1 = .ok (.getfield 10, 3) := by decide +kernel
theorem dX11_hide_4 : decode cX11_hide 4 = .ok (.iload_n 1, 1) := by decide +kernel
theorem dX11_hide_5 : decode cX11_hide 5 = .ok (.invokevirtual 90, 3) := by decide +kernel
theorem dX11_hide_8 : decode cX11_hide 8 = .ok (.astore 4, 2) := by decide +kernel
theorem dX11_hide_10 : decode cX11_hide 10 = .ok (.aload 4, 2) := by decide +kernel
theorem dX11_hide_12 : decode cX11_hide 12 = .ok (.ifnull 12, 3) := by decide +kernel
theorem dX11_hide_15 : decode cX11_hide 15 = .ok (.aload_n 0, 1) := by decide +kernel
theorem dX11_hide_16 : decode cX11_hide 16 = .ok (.iload_n 2, 1) := by decide +kernel
theorem dX11_hide_17 : decode cX11_hide 17 = .ok (.iload_n 3, 1) := by decide +kernel
theorem dX11_hide_18 : decode cX11_hide 18 = .ok (.invokevirtual 106, 3) := by decide +kernel
theorem dX11_hide_21 : decode cX11_hide 21 = .ok (.ifCond .ne 5, 3) := by decide +kernel
theorem dX11_hide_24 : decode cX11_hide 24 = .ok (.iconst (-1), 1) := by decide +kernel
theorem dX11_hide_25 : decode cX11_hide 25 = .ok (.ireturn, 1) := by decide +kernel
theorem dX11_hide_26 : decode cX11_hide 26 = .ok (.aload_n 0, 1) := by decide +kernel
theorem dX11_hide_27 : decode cX11_hide 27 = .ok (.getfield 21, 3) := by decide +kernel
theorem dX11_hide_30 : decode cX11_hide 30 = .ok (.aload 4, 2) := by decide +kernel
theorem dX11_hide_32 : decode cX11_hide 32 = .ok (.iload_n 2, 1) := by decide +kernel
theorem dX11_hide_33 : decode cX11_hide 33 = .ok (.iload_n 3, 1) := by decide +kernel
theorem dX11_hide_34 : decode cX11_hide 34 = .ok (.invokevirtual 110, 3) := by decide +kernel
theorem dX11_hide_37 : decode cX11_hide 37 = .ok (.istore 5, 2) := by decide +kernel
theorem dX11_hide_39 : decode cX11_hide 39 = .ok (.iload 5, 2) := by decide +kernel
theorem dX11_hide_41 : decode cX11_hide 41 = .ok (.ifCond .eq 12, 3) := by decide +kernel
theorem dX11_hide_44 : decode cX11_hide 44 = .ok (.bipush (-20), 2) := by decide +kernel
theorem dX11_hide_46 : decode cX11_hide 46 = .ok (.iload 5, 2) := by decide +kernel
theorem dX11_hide_48 : decode cX11_hide 48 = .ok (.invokestatic 114, 3) := by decide +kernel
theorem dX11_hide_51 : decode cX11_hide 51 = .ok (.isub, 1) := by decide +kernel
theorem dX11_hide_52 : decode cX11_hide 52 = .ok (.ireturn, 1) := by decide +kernel
theorem dX11_hide_53 : decode cX11_hide 53 = .ok (.aload_n 0, 1) := by decide +kernel
theorem dX11_hide_54 : decode cX11_hide 54 = .ok (.getfield 10, 3) := by decide +kernel
theorem dX11_hide_57 : decode cX11_hide 57 = .ok (.invokevirtual 64, 3) := by decide +kernel
theorem dX11_hide_60 : decode cX11_hide 60 = .ok (.ifCond .eq 6, 3) := by decide +kernel
theorem dX11_hide_63 : decode cX11_hide 63 = .ok (.bipush (-3), 2) := by decide +kernel
theorem dX11_hide_65 : decode cX11_hide 65 = .ok (.ireturn, 1) := by decide +kernel
theorem dX11_hide_66 : decode cX11_hide 66 = .ok (.new 118, 3) := by decide +kernel
theorem dX11_hide_69 : decode cX11_hide 69 = .ok (.dup, 1) := by decide +kernel
theorem dX11_hide_70 : decode cX11_hide 70 = .ok (.aload_n 0, 1) := by decide +kernel
theorem dX11_hide_71 : decode cX11_hide 71 = .ok (.getfield 10, 3) := by decide +kernel
theorem dX11_hide_74 : decode cX11_hide 74 = .ok (.getfield 70, 3) := by decide +kernel
theorem dX11_hide_77 : decode cX11_hide 77 = .ok (.iload_n 2, 1) := by decide +kernel
theorem dX11_hide_78 : decode cX11_hide 78 = .ok (.aload 4, 2) := by decide +kernel
theorem dX11_hide_80 : decode cX11_hide 80 = .ok (.getfield 120, 3) := by decide +kernel
theorem dX11_hide_83 : decode cX11_hide 83 = .ok (.iload_n 3, 1) := by decide +kernel
theorem dX11_hide_84 : decode cX11_hide 84 = .ok (.aload_n 0, 1) := by decide +kernel
theorem dX11_hide_85 : decode cX11_hide 85 = .ok (.getfield 10, 3) := by decide +kernel
theorem dX11_hide_88 : decode cX11_hide 88 = .ok (.getfield 52, 3) := by decide +kernel
theorem dX11_hide_91 : decode cX11_hide 91 = .ok (.invokespecial 123, 3) := by decide +kernel
theorem dX11_hide_94 : decode cX11_hide 94 = .ok (.astore 6, 2) := by decide +kernel
theorem dX11_hide_96 : decode cX11_hide 96 = .ok (.iload_n 2, 1) := by decide +kernel
theorem dX11_hide_97 : decode cX11_hide 97 = .ok (.iconst 3, 1) := by decide +kernel
theorem dX11_hide_98 : decode cX11_hide 98 = .ok (.if_icmp .ne 22, 3) := by decide +kernel
theorem dX11_hide_101 : decode cX11_hide 101 = .ok (.aload 6, 2) := by decide +kernel
theorem dX11_hide_103 : decode cX11_hide 103 = .ok (.aload_n 0, 1) := by decide +kernel
theorem dX11_hide_104 : decode cX11_hide 104 = .ok (.getfield 10, 3) := by decide +kernel
theorem dX11_hide_107 : decode cX11_hide 107 = .ok (.getfield 103, 3) := by decide +kernel
theorem dX11_hide_110 : decode cX11_hide 110 = .ok (.aload_n 0, 1) := by decide +kernel
theorem dX11_hide_111 : decode cX11_hide 111 = .ok (.getfield 10, 3) := by decide +kernel
theorem dX11_hide_114 : decode cX11_hide 114 = .ok (.getfield 100, 3) := by decide +kernel
theorem dX11_hide_117 : decode cX11_hide 117 = .ok (.invokevirtual 126, 3) := by decide +kernel
theorem dX11_hide_120 : decode cX11_hide 120 = .ok (.aload_n 0, 1) := by decide +kernel
theorem dX11_hide_121 : decode cX11_hide 121 = .ok (.getfield 10, 3) := by decide +kernel
theorem dX11_hide_124 : decode cX11_hide 124 = .ok (.iconst 0, 1) := by decide +kernel
theorem dX11_hide_125 : decode cX11_hide 125 = .ok (.putfield 100, 3) := by decide +kernel
theorem dX11_hide_128 : decode cX11_hide 128 = .ok (.aload_n 0, 1) := by decide +kernel
theorem dX11_hide_129 : decode cX11_hide 129 = .ok (.getfield 10, 3) := by decide +kernel
theorem dX11_hide_132 : decode cX11_hide 132 = .ok (.aload 6, 2) := by decide +kernel
theorem dX11_hide_134 : decode cX11_hide 134 = .ok (.invokevirtual 81, 3) := by decide +kernel
theorem dX11_hide_137 : decode cX11_hide 137 = .ok (.ireturn, 1) := by decide +kernel
theorem dX11_down_0 : decode cX11_down 0 = .ok (.aload_n 0, 1) := by decide +kernel
theorem dX11_down_1 : decode cX11_down 1 = .ok (.getfield 10, 3) := by decide +kernel
theorem dX11_down_4 : decode cX11_down 4 = .ok (.iload_n 1, 1) := by decide +kernel
theorem dX11_down_5 : decode cX11_down 5 = .ok (.invokevirtual 130, 3) := by decide +kernel
theorem dX11_down_8 : decode cX11_down 8 = .ok (.astore_n 2, 1) := by decide +kernel
theorem dX11_down_9 : decode cX11_down 9 = .ok (.aload_n 2, 1) := by decide +kernel
theorem dX11_down_10 : decode cX11_down 10 = .ok (.ifnonnull 5, 3) := by decide +kernel
theorem dX11_down_13 : decode cX11_down 13 = .ok (.iconst (-1), 1) := by decide +kernel
theorem dX11_down_14 : decode cX11_down 14 = .ok (.ireturn, 1) := by decide +kernel
theorem dX11_down_15 : decode cX11_down 15 = .ok (.aload_n 2, 1) := by decide +kernel
theorem dX11_down_16 : decode cX11_down 16 = .ok (.invokevirtual 137, 3) := by decide +kernel
theorem dX11_down_19 : decode cX11_down 19 = .ok (.ifCond .eq 6, 3) := by decide +kernel
theorem dX11_down_22 : decode cX11_down 22 = .ok (.bipush (-2), 2) := by decide +kernel
theorem dX11_down_24 : decode cX11_down 24 = .ok (.ireturn, 1) := by decide +kernel
theorem dX11_down_25 : decode cX11_down 25 = .ok (.aload_n 2, 1) := by decide +kernel
theorem dX11_down_26 : decode cX11_down 26 = .ok (.aload_n 0, 1) := by decide +kernel
theorem dX11_down_27 : decode cX11_down 27 = .ok (.getfield 10, 3) := by decide +kernel
theorem dX11_down_30 : decode cX11_down 30 = .ok (.getfield 52, 3) := by decide +kernel
theorem dX11_down_33 : decode cX11_down 33 = .ok (.putfield 153, 3) := by decide +kernel
theorem dX11_down_36 : decode cX11_down 36 = .ok (.iconst 1, 1) := by decide +kernel
theorem dX11_down_37 : decode cX11_down 37 = .ok (.ireturn, 1) := by decide +kernel
theorem dX11_ofBody_0 : decode cX11_ofBody 0 = .ok (.aload_n 0, 1) := by decide +kernel
theorem dX11_ofBody_1 : decode cX11_ofBody 1 = .ok (.getfield 10, 3) := by decide +kernel
theorem dX11_ofBody_4 : decode cX11_ofBody 4 = .ok (.iload_n 1, 1) := by decide +kernel
theorem dX11_ofBody_5 : decode cX11_ofBody 5 = .ok (.invokevirtual 156, 3) := by decide +kernel
theorem dX11_ofBody_8 : decode cX11_ofBody 8 = .ok (.astore_n 3, 1) := by decide +kernel
theorem dX11_ofBody_9 : decode cX11_ofBody 9 = .ok (.aload_n 3, 1) := by decide +kernel
theorem dX11_ofBody_10 : decode cX11_ofBody 10 = .ok (.ifnonnull 6, 3) := by decide +kernel
theorem dX11_ofBody_13 : decode cX11_ofBody 13 = .ok (.ldc 60, 2) := by decide +kernel
theorem dX11_ofBody_15 : decode cX11_ofBody 15 = .ok (.ireturn, 1) := by decide +kernel
theorem dX11_ofBody_16 : decode cX11_ofBody 16 = .ok (.iload_n 2, 1) := by decide +kernel
theorem dX11_ofBody_17 : decode cX11_ofBody 17 = .ok (.ifCond .ne 8, 3) := by decide +kernel
theorem dX11_ofBody_20 : decode cX11_ofBody 20 = .ok (.aload_n 3, 1) := by decide +kernel
theorem dX11_ofBody_21 : decode cX11_ofBody 21 = .ok (.getfield 160, 3) := by decide +kernel
theorem dX11_ofBody_24 : decode cX11_ofBody 24 = .ok (.ireturn, 1) := by decide +kernel
theorem dX11_ofBody_25 : decode cX11_ofBody 25 = .ok (.aload_n 3, 1) := by decide +kernel
theorem dX11_ofBody_26 : decode cX11_ofBody 26 = .ok (.instanceof 85, 3) := by decide +kernel
theorem dX11_ofBody_29 : decode cX11_ofBody 29 = .ok (.ifCond .eq 13, 3) := by decide +kernel
theorem dX11_ofBody_32 : decode cX11_ofBody 32 = .ok (.aload_n 0, 1) := by decide +kernel
theorem dX11_ofBody_33 : decode cX11_ofBody 33 = .ok (.aload_n 3, 1) := by decide +kernel
theorem dX11_ofBody_34 : decode cX11_ofBody 34 = .ok (.checkcast 85, 3) := by decide +kernel
theorem dX11_ofBody_37 : decode cX11_ofBody 37 = .ok (.iload_n 2, 1) := by decide +kernel
theorem dX11_ofBody_38 : decode cX11_ofBody 38 = .ok (.invokevirtual 161, 3) := by decide +kernel
theorem dX11_ofBody_41 : decode cX11_ofBody 41 = .ok (.ireturn, 1) := by decide +kernel
theorem dX11_ofBody_42 : decode cX11_ofBody 42 = .ok (.aload_n 3, 1) := by decide +kernel
theorem dX11_ofBody_43 : decode cX11_ofBody 43 = .ok (.instanceof 118, 3) := by decide +kernel
theorem dX11_ofBody_46 : decode cX11_ofBody 46 = .ok (.ifCond .eq 12, 3) := by decide +kernel
theorem dX11_ofBody_49 : decode cX11_ofBody 49 = .ok (.aload_n 3, 1) := by decide +kernel
theorem dX11_ofBody_50 : decode cX11_ofBody 50 = .ok (.checkcast 118, 3) := by decide +kernel
theorem dX11_ofBody_53 : decode cX11_ofBody 53 = .ok (.iload_n 2, 1) := by decide +kernel
theorem dX11_ofBody_54 : decode cX11_ofBody 54 = .ok (.invokestatic 165, 3) := by decide +kernel
theorem dX11_ofBody_57 : decode cX11_ofBody 57 = .ok (.ireturn, 1) := by decide +kernel
theorem dX11_ofBody_58 : decode cX11_ofBody 58 = .ok (.aload_n 3, 1) := by decide +kernel
theorem dX11_ofBody_59 : decode cX11_ofBody 59 = .ok (.instanceof 68, 3) := by decide +kernel
theorem dX11_ofBody_62 : decode cX11_ofBody 62 = .ok (.ifCond .eq 13, 3) := by decide +kernel
theorem dX11_ofBody_65 : decode cX11_ofBody 65 = .ok (.aload_n 0, 1) := by decide +kernel
theorem dX11_ofBody_66 : decode cX11_ofBody 66 = .ok (.aload_n 3, 1) := by decide +kernel
theorem dX11_ofBody_67 : decode cX11_ofBody 67 = .ok (.checkcast 68, 3) := by decide +kernel
theorem dX11_ofBody_70 : decode cX11_ofBody 70 = .ok (.iload_n 2, 1) := by decide +kernel
theorem dX11_ofBody_71 : decode cX11_ofBody 71 = .ok (.invokevirtual 169, 3) := by decide +kernel
theorem dX11_ofBody_74 : decode cX11_ofBody 74 = .ok (.ireturn, 1) := by decide +kernel
theorem dX11_ofBody_75 : decode cX11_ofBody 75 = .ok (.ldc 60, 2) := by decide +kernel
theorem dX11_ofBody_77 : decode cX11_ofBody 77 = .ok (.ireturn, 1) := by decide +kernel
theorem dX11_feed_0 : decode cX11_feed 0 = .ok (.iload_n 1, 1) := by decide +kernel
theorem dX11_feed_1 : decode cX11_feed 1 = .ok (.iconst 1, 1) := by decide +kernel
theorem dX11_feed_2 : decode cX11_feed 2 = .ok (.if_icmp .lt 8, 3) := by decide +kernel
theorem dX11_feed_5 : decode cX11_feed 5 = .ok (.iload_n 1, 1) := by decide +kernel
theorem dX11_feed_6 : decode cX11_feed 6 = .ok (.iconst 4, 1) := by decide +kernel
theorem dX11_feed_7 : decode cX11_feed 7 = .ok (.if_icmp .le 5, 3) := by decide +kernel
theorem dX11_feed_10 : decode cX11_feed 10 = .ok (.iconst (-1), 1) := by decide +kernel
theorem dX11_feed_11 : decode cX11_feed 11 = .ok (.ireturn, 1) := by decide +kernel
theorem dX11_feed_12 : decode cX11_feed 12 = .ok (.aload_n 0, 1) := by decide +kernel
theorem dX11_feed_13 : decode cX11_feed 13 = .ok (.getfield 21, 3) := by decide +kernel
theorem dX11_feed_16 : decode cX11_feed 16 = .ok (.getfield 179, 3) := by decide +kernel
theorem dX11_feed_19 : decode cX11_feed 19 = .ok (.iload_n 1, 1) := by decide +kernel
theorem dX11_feed_20 : decode cX11_feed 20 = .ok (.invokevirtual 183, 3) := by decide +kernel
theorem dX11_feed_23 : decode cX11_feed 23 = .ok (.ifCond .ne 6, 3) := by decide +kernel
theorem dX11_feed_26 : decode cX11_feed 26 = .ok (.bipush (-3), 2) := by decide +kernel
theorem dX11_feed_28 : decode cX11_feed 28 = .ok (.ireturn, 1) := by decide +kernel
theorem dX11_feed_29 : decode cX11_feed 29 = .ok (.iconst 0, 1) := by decide +kernel
theorem dX11_feed_30 : decode cX11_feed 30 = .ok (.istore_n 3, 1) := by decide +kernel
theorem dX11_feed_31 : decode cX11_feed 31 = .ok (.iload_n 3, 1) := by decide +kernel
theorem dX11_feed_32 : decode cX11_feed 32 = .ok (.iload_n 1, 1) := by decide +kernel
theorem dX11_feed_33 : decode cX11_feed 33 = .ok (.if_icmp .ge 29, 3) := by decide +kernel
theorem dX11_feed_36 : decode cX11_feed 36 = .ok (.aload_n 0, 1) := by decide +kernel
theorem dX11_feed_37 : decode cX11_feed 37 = .ok (.getfield 21, 3) := by decide +kernel
theorem dX11_feed_40 : decode cX11_feed 40 = .ok (.getfield 179, 3) := by decide +kernel
theorem dX11_feed_43 : decode cX11_feed 43 = .ok (.iload_n 2, 1) := by decide +kernel
theorem dX11_feed_44 : decode cX11_feed 44 = .ok (.bipush 8, 2) := by decide +kernel
theorem dX11_feed_46 : decode cX11_feed 46 = .ok (.iload_n 3, 1) := by decide +kernel
theorem dX11_feed_47 : decode cX11_feed 47 = .ok (.imul, 1) := by decide +kernel
theorem dX11_feed_48 : decode cX11_feed 48 = .ok (.ishr, 1) := by decide +kernel
theorem dX11_feed_49 : decode cX11_feed 49 = .ok (.sipush 255, 3) := by decide +kernel
theorem dX11_feed_52 : decode cX11_feed 52 = .ok (.iand, 1) := by decide +kernel
theorem dX11_feed_53 : decode cX11_feed 53 = .ok (.invokevirtual 188, 3) := by decide +kernel
theorem dX11_feed_56 : decode cX11_feed 56 = .ok (.iinc 3 1, 3) := by decide +kernel
theorem dX11_feed_59 : decode cX11_feed 59 = .ok (.goto (-28), 3) := by decide +kernel
theorem dX11_feed_62 : decode cX11_feed 62 = .ok (.aload_n 0, 1) := by decide +kernel
theorem dX11_feed_63 : decode cX11_feed 63 = .ok (.getfield 21, 3) := by decide +kernel
theorem dX11_feed_66 : decode cX11_feed 66 = .ok (.getfield 179, 3) := by decide +kernel
theorem dX11_feed_69 : decode cX11_feed 69 = .ok (.getfield 191, 3) := by decide +kernel
theorem dX11_feed_72 : decode cX11_feed 72 = .ok (.ireturn, 1) := by decide +kernel
theorem dX11_rule_0 : decode cX11_rule 0 = .ok (.iload_n 1, 1) := by decide +kernel
theorem dX11_rule_1 : decode cX11_rule 1 = .ok (.invokestatic 194, 3) := by decide +kernel
theorem dX11_rule_4 : decode cX11_rule 4 = .ok (.ifCond .eq 10, 3) := by decide +kernel
theorem dX11_rule_7 : decode cX11_rule 7 = .ok (.iload_n 2, 1) := by decide +kernel
theorem dX11_rule_8 : decode cX11_rule 8 = .ok (.invokestatic 173, 3) := by decide +kernel
theorem dX11_rule_11 : decode cX11_rule 11 = .ok (.ifCond .ne 5, 3) := by decide +kernel
theorem dX11_rule_14 : decode cX11_rule 14 = .ok (.iconst (-1), 1) := by decide +kernel
theorem dX11_rule_15 : decode cX11_rule 15 = .ok (.ireturn, 1) := by decide +kernel
theorem dX11_rule_16 : decode cX11_rule 16 = .ok (.aload_n 0, 1) := by decide +kernel
theorem dX11_rule_17 : decode cX11_rule 17 = .ok (.getfield 21, 3) := by decide +kernel
theorem dX11_rule_20 : decode cX11_rule 20 = .ok (.invokevirtual 197, 3) := by decide +kernel
theorem dX11_rule_23 : decode cX11_rule 23 = .ok (.ifCond .eq 6, 3) := by decide +kernel
theorem dX11_rule_26 : decode cX11_rule 26 = .ok (.bipush (-3), 2) := by decide +kernel
theorem dX11_rule_28 : decode cX11_rule 28 = .ok (.ireturn, 1) := by decide +kernel
theorem dX11_rule_29 : decode cX11_rule 29 = .ok (.aload_n 0, 1) := by decide +kernel
theorem dX11_rule_30 : decode cX11_rule 30 = .ok (.getfield 21, 3) := by decide +kernel
theorem dX11_rule_33 : decode cX11_rule 33 = .ok (.iload_n 1, 1) := by decide +kernel
theorem dX11_rule_34 : decode cX11_rule 34 = .ok (.iload_n 2, 1) := by decide +kernel
theorem dX11_rule_35 : decode cX11_rule 35 = .ok (.invokevirtual 198, 3) := by decide +kernel
theorem dX11_rule_38 : decode cX11_rule 38 = .ok (.ireturn, 1) := by decide +kernel
theorem dX11_count_0 : decode cX11_count 0 = .ok (.iload_n 1, 1) := by decide +kernel
theorem dX11_count_1 : decode cX11_count 1 = .ok (.tableswitch 142 0 10 #[59, 67, 73, 79, 85, 91, 99, 107, 118, 126, 134], 59) := by decide +kernel
theorem dX11_count_60 : decode cX11_count 60 = .ok (.aload_n 0, 1) := by decide +kernel
theorem dX11_count_61 : decode cX11_count 61 = .ok (.getfield 10, 3) := by decide +kernel
theorem dX11_count_64 : decode cX11_count 64 = .ok (.getfield 70, 3) := by decide +kernel
theorem dX11_count_67 : decode cX11_count 67 = .ok (.ireturn, 1) := by decide +kernel
theorem dX11_count_68 : decode cX11_count 68 = .ok (.aload_n 0, 1) := by decide +kernel
theorem dX11_count_69 : decode cX11_count 69 = .ok (.iconst 0, 1) := by decide +kernel
theorem dX11_count_70 : decode cX11_count 70 = .ok (.invokevirtual 479, 3) := by decide +kernel
theorem dX11_count_73 : decode cX11_count 73 = .ok (.ireturn, 1) := by decide +kernel
theorem dX11_count_74 : decode cX11_count 74 = .ok (.aload_n 0, 1) := by decide +kernel
theorem dX11_count_75 : decode cX11_count 75 = .ok (.iconst 1, 1) := by decide +kernel
theorem dX11_count_76 : decode cX11_count 76 = .ok (.invokevirtual 479, 3) := by decide +kernel
theorem dX11_count_79 : decode cX11_count 79 = .ok (.ireturn, 1) := by decide +kernel
theorem dX11_count_80 : decode cX11_count 80 = .ok (.aload_n 0, 1) := by decide +kernel
theorem dX11_count_81 : decode cX11_count 81 = .ok (.iconst 0, 1) := by decide +kernel
theorem dX11_count_82 : decode cX11_count 82 = .ok (.invokevirtual 482, 3) := by decide +kernel
theorem dX11_count_85 : decode cX11_count 85 = .ok (.ireturn, 1) := by decide +kernel
theorem dX11_count_86 : decode cX11_count 86 = .ok (.aload_n 0, 1) := by decide +kernel
theorem dX11_count_87 : decode cX11_count 87 = .ok (.iconst 1, 1) := by decide +kernel
theorem dX11_count_88 : decode cX11_count 88 = .ok (.invokevirtual 482, 3) := by decide +kernel
theorem dX11_count_91 : decode cX11_count 91 = .ok (.ireturn, 1) := by decide +kernel
theorem dX11_count_92 : decode cX11_count 92 = .ok (.aload_n 0, 1) := by decide +kernel
theorem dX11_count_93 : decode cX11_count 93 = .ok (.getfield 30, 3) := by decide +kernel
theorem dX11_count_96 : decode cX11_count 96 = .ok (.getfield 285, 3) := by decide +kernel
theorem dX11_count_99 : decode cX11_count 99 = .ok (.ireturn, 1) := by decide +kernel
theorem dX11_count_100 : decode cX11_count 100 = .ok (.aload_n 0, 1) := by decide +kernel
theorem dX11_count_101 : decode cX11_count 101 = .ok (.getfield 21, 3) := by decide +kernel
theorem dX11_count_104 : decode cX11_count 104 = .ok (.getfield 485, 3) := by decide +kernel
theorem dX11_count_107 : decode cX11_count 107 = .ok (.ireturn, 1) := by decide +kernel
theorem dX11_count_108 : decode cX11_count 108 = .ok (.aload_n 0, 1) := by decide +kernel
theorem dX11_count_109 : decode cX11_count 109 = .ok (.getfield 21, 3) := by decide +kernel
theorem dX11_count_112 : decode cX11_count 112 = .ok (.getfield 179, 3) := by decide +kernel
theorem dX11_count_115 : decode cX11_count 115 = .ok (.getfield 191, 3) := by decide +kernel
theorem dX11_count_118 : decode cX11_count 118 = .ok (.ireturn, 1) := by decide +kernel
theorem dX11_count_119 : decode cX11_count 119 = .ok (.aload_n 0, 1) := by decide +kernel
theorem dX11_count_120 : decode cX11_count 120 = .ok (.getfield 10, 3) := by decide +kernel
theorem dX11_count_123 : decode cX11_count 123 = .ok (.getfield 52, 3) := by decide +kernel
theorem dX11_count_126 : decode cX11_count 126 = .ok (.ireturn, 1) := by decide +kernel
theorem dX11_count_127 : decode cX11_count 127 = .ok (.aload_n 0, 1) := by decide +kernel
theorem dX11_count_128 : decode cX11_count 128 = .ok (.getfield 10, 3) := by decide +kernel
theorem dX11_count_131 : decode cX11_count 131 = .ok (.getfield 100, 3) := by decide +kernel
theorem dX11_count_134 : decode cX11_count 134 = .ok (.ireturn, 1) := by decide +kernel
theorem dX11_count_135 : decode cX11_count 135 = .ok (.aload_n 0, 1) := by decide +kernel
theorem dX11_count_136 : decode cX11_count 136 = .ok (.getfield 48, 3) := by decide +kernel
theorem dX11_count_139 : decode cX11_count 139 = .ok (.bipush 24, 2) := by decide +kernel
theorem dX11_count_141 : decode cX11_count 141 = .ok (.iaload, 1) := by decide +kernel
theorem dX11_count_142 : decode cX11_count 142 = .ok (.ireturn, 1) := by decide +kernel
theorem dX11_count_143 : decode cX11_count 143 = .ok (.iconst (-1), 1) := by decide +kernel
theorem dX11_count_144 : decode cX11_count 144 = .ok (.ireturn, 1) := by decide +kernel
theorem dX11_isCell_0 : decode cX11_isCell 0 = .ok (.iload_n 0, 1) := by decide +kernel
theorem dX11_isCell_1 : decode cX11_isCell 1 = .ok (.ifCond .lt 13, 3) := by decide +kernel
theorem dX11_isCell_4 : decode cX11_isCell 4 = .ok (.iload_n 0, 1) := by decide +kernel
theorem dX11_isCell_5 : decode cX11_isCell 5 = .ok (.bipush 60, 2) := by decide +kernel
theorem dX11_isCell_7 : decode cX11_isCell 7 = .ok (.if_icmp .ge 7, 3) := by decide +kernel
theorem dX11_isCell_10 : decode cX11_isCell 10 = .ok (.iconst 1, 1) := by decide +kernel
theorem dX11_isCell_11 : decode cX11_isCell 11 = .ok (.goto 4, 3) := by decide +kernel
theorem dX11_isCell_14 : decode cX11_isCell 14 = .ok (.iconst 0, 1) := by decide +kernel
theorem dX11_isCell_15 : decode cX11_isCell 15 = .ok (.ireturn, 1) := by decide +kernel
theorem dX11_isDay_0 : decode cX11_isDay 0 = .ok (.iload_n 0, 1) := by decide +kernel
theorem dX11_isDay_1 : decode cX11_isDay 1 = .ok (.ifCond .lt 14, 3) := by decide +kernel
theorem dX11_isDay_4 : decode cX11_isDay 4 = .ok (.iload_n 0, 1) := by decide +kernel
theorem dX11_isDay_5 : decode cX11_isDay 5 = .ok (.sipush 999, 3) := by decide +kernel
theorem dX11_isDay_8 : decode cX11_isDay 8 = .ok (.if_icmp .gt 7, 3) := by decide +kernel
theorem dX11_isDay_11 : decode cX11_isDay 11 = .ok (.iconst 1, 1) := by decide +kernel
theorem dX11_isDay_12 : decode cX11_isDay 12 = .ok (.goto 4, 3) := by decide +kernel
theorem dX11_isDay_15 : decode cX11_isDay 15 = .ok (.iconst 0, 1) := by decide +kernel
theorem dX11_isDay_16 : decode cX11_isDay 16 = .ok (.ireturn, 1) := by decide +kernel
theorem dX11_isUse_0 : decode cX11_isUse 0 = .ok (.iload_n 0, 1) := by decide +kernel
theorem dX11_isUse_1 : decode cX11_isUse 1 = .ok (.ifCond .lt 8, 3) := by decide +kernel
theorem dX11_isUse_4 : decode cX11_isUse 4 = .ok (.iload_n 0, 1) := by decide +kernel
theorem dX11_isUse_5 : decode cX11_isUse 5 = .ok (.iconst 4, 1) := by decide +kernel
theorem dX11_isUse_6 : decode cX11_isUse 6 = .ok (.if_icmp .le 15, 3) := by decide +kernel
theorem dX11_isUse_9 : decode cX11_isUse 9 = .ok (.iload_n 0, 1) := by decide +kernel
theorem dX11_isUse_10 : decode cX11_isUse 10 = .ok (.bipush 10, 2) := by decide +kernel
theorem dX11_isUse_12 : decode cX11_isUse 12 = .ok (.if_icmp .lt 13, 3) := by decide +kernel
theorem dX11_isUse_15 : decode cX11_isUse 15 = .ok (.iload_n 0, 1) := by decide +kernel
theorem dX11_isUse_16 : decode cX11_isUse 16 = .ok (.bipush 20, 2) := by decide +kernel
theorem dX11_isUse_18 : decode cX11_isUse 18 = .ok (.if_icmp .ge 7, 3) := by decide +kernel
theorem dX11_isUse_21 : decode cX11_isUse 21 = .ok (.iconst 1, 1) := by decide +kernel
theorem dX11_isUse_22 : decode cX11_isUse 22 = .ok (.goto 4, 3) := by decide +kernel
theorem dX11_isUse_25 : decode cX11_isUse 25 = .ok (.iconst 0, 1) := by decide +kernel
theorem dX11_isUse_26 : decode cX11_isUse 26 = .ok (.ireturn, 1) := by decide +kernel
theorem dX11_isKindOfBox_0 : decode cX11_isKindOfBox 0 = .ok (.iload_n 0, 1) := by decide +kernel
theorem dX11_isKindOfBox_1 : decode cX11_isKindOfBox 1 = .ok (.iconst 1, 1) := by decide +kernel
theorem dX11_isKindOfBox_2 : decode cX11_isKindOfBox 2 = .ok (.if_icmp .lt 12, 3) := by decide +kernel
theorem dX11_isKindOfBox_5 : decode cX11_isKindOfBox 5 = .ok (.iload_n 0, 1) := by decide +kernel
theorem dX11_isKindOfBox_6 : decode cX11_isKindOfBox 6 = .ok (.iconst 5, 1) := by decide +kernel
theorem dX11_isKindOfBox_7 : decode cX11_isKindOfBox 7 = .ok (.if_icmp .gt 7, 3) := by decide +kernel
theorem dX11_isKindOfBox_10 : decode cX11_isKindOfBox 10 = .ok (.iconst 1, 1) := by decide +kernel
theorem dX11_isKindOfBox_11 : decode cX11_isKindOfBox 11 = .ok (.goto 4, 3) := by decide +kernel
theorem dX11_isKindOfBox_14 : decode cX11_isKindOfBox 14 = .ok (.iconst 0, 1) := by decide +kernel
theorem dX11_isKindOfBox_15 : decode cX11_isKindOfBox 15 = .ok (.ireturn, 1) := by decide +kernel
theorem dX11_far_0 : decode cX11_far 0 = .ok (.iload_n 0, 1) := by decide +kernel
theorem dX11_far_1 : decode cX11_far 1 = .ok (.bipush 10, 2) := by decide +kernel
theorem dX11_far_3 : decode cX11_far 3 = .ok (.irem, 1) := by decide +kernel
theorem dX11_far_4 : decode cX11_far 4 = .ok (.iload_n 1, 1) := by decide +kernel
theorem dX11_far_5 : decode cX11_far 5 = .ok (.bipush 10, 2) := by decide +kernel
theorem dX11_far_7 : decode cX11_far 7 = .ok (.irem, 1) := by decide +kernel
theorem dX11_far_8 : decode cX11_far 8 = .ok (.isub, 1) := by decide +kernel
theorem dX11_far_9 : decode cX11_far 9 = .ok (.invokestatic 488, 3) := by decide +kernel
theorem dX11_far_12 : decode cX11_far 12 = .ok (.iload_n 0, 1) := by decide +kernel
theorem dX11_far_13 : decode cX11_far 13 = .ok (.bipush 10, 2) := by decide +kernel
theorem dX11_far_15 : decode cX11_far 15 = .ok (.idiv, 1) := by decide +kernel
theorem dX11_far_16 : decode cX11_far 16 = .ok (.iload_n 1, 1) := by decide +kernel
theorem dX11_far_17 : decode cX11_far 17 = .ok (.bipush 10, 2) := by decide +kernel
theorem dX11_far_19 : decode cX11_far 19 = .ok (.idiv, 1) := by decide +kernel
theorem dX11_far_20 : decode cX11_far 20 = .ok (.isub, 1) := by decide +kernel
theorem dX11_far_21 : decode cX11_far 21 = .ok (.invokestatic 488, 3) := by decide +kernel
theorem dX11_far_24 : decode cX11_far 24 = .ok (.iadd, 1) := by decide +kernel
theorem dX11_far_25 : decode cX11_far 25 = .ok (.ireturn, 1) := by decide +kernel
theorem dX11_mayBeAsked_0 : decode cX11_mayBeAsked 0 = .ok (.iload_n 1, 1) := by decide +kernel
theorem dX11_mayBeAsked_1 : decode cX11_mayBeAsked 1 = .ok (.invokestatic 493, 3) := by decide +kernel
theorem dX11_mayBeAsked_4 : decode cX11_mayBeAsked 4 = .ok (.ifCond .eq 29, 3) := by decide +kernel
theorem dX11_mayBeAsked_7 : decode cX11_mayBeAsked 7 = .ok (.iload_n 2, 1) := by decide +kernel
theorem dX11_mayBeAsked_8 : decode cX11_mayBeAsked 8 = .ok (.invokestatic 56, 3) := by decide +kernel
theorem dX11_mayBeAsked_11 : decode cX11_mayBeAsked 11 = .ok (.ifCond .eq 22, 3) := by decide +kernel
theorem dX11_mayBeAsked_14 : decode cX11_mayBeAsked 14 = .ok (.iload_n 1, 1) := by decide +kernel
theorem dX11_mayBeAsked_15 : decode cX11_mayBeAsked 15 = .ok (.iconst 3, 1) := by decide +kernel
theorem dX11_mayBeAsked_16 : decode cX11_mayBeAsked 16 = .ok (.if_icmp .ne 13, 3) := by decide +kernel
theorem dX11_mayBeAsked_19 : decode cX11_mayBeAsked 19 = .ok (.aload_n 0, 1) := by decide +kernel
theorem dX11_mayBeAsked_20 : decode cX11_mayBeAsked 20 = .ok (.getfield 10, 3) := by decide +kernel
theorem dX11_mayBeAsked_23 : decode cX11_mayBeAsked 23 = .ok (.getfield 100, 3) := by decide +kernel
theorem dX11_mayBeAsked_26 : decode cX11_mayBeAsked 26 = .ok (.ifCond .le 7, 3) := by decide +kernel
theorem dX11_mayBeAsked_29 : decode cX11_mayBeAsked 29 = .ok (.iconst 1, 1) := by decide +kernel
theorem dX11_mayBeAsked_30 : decode cX11_mayBeAsked 30 = .ok (.goto 4, 3) := by decide +kernel
theorem dX11_mayBeAsked_33 : decode cX11_mayBeAsked 33 = .ok (.iconst 0, 1) := by decide +kernel
theorem dX11_mayBeAsked_34 : decode cX11_mayBeAsked 34 = .ok (.ireturn, 1) := by decide +kernel
theorem dX11_asToldToTheAsker_0 : decode cX11_asToldToTheAsker 0 = .ok (.iload_n 0, 1) := by decide +kernel
theorem dX11_asToldToTheAsker_1 : decode cX11_asToldToTheAsker 1 = .ok (.iconst 4, 1) := by decide +kernel
theorem dX11_asToldToTheAsker_2 : decode cX11_asToldToTheAsker 2 = .ok (.if_icmp .ne 7, 3) := by decide +kernel
theorem dX11_asToldToTheAsker_5 : decode cX11_asToldToTheAsker 5 = .ok (.iconst 3, 1) := by decide +kernel
theorem dX11_asToldToTheAsker_6 : decode cX11_asToldToTheAsker 6 = .ok (.goto 4, 3) := by decide +kernel
theorem dX11_asToldToTheAsker_9 : decode cX11_asToldToTheAsker 9 = .ok (.iload_n 0, 1) := by decide +kernel
theorem dX11_asToldToTheAsker_10 : decode cX11_asToldToTheAsker 10 = .ok (.ireturn, 1) := by decide +kernel
theorem dX11_ofFinder_0 : decode cX11_ofFinder 0 = .ok (.iload_n 2, 1) := by decide +kernel
theorem dX11_ofFinder_1 : decode cX11_ofFinder 1 = .ok (.tableswitch 58 1 4 #[31, 36, 41, 46], 31) := by decide +kernel
theorem dX11_ofFinder_32 : decode cX11_ofFinder 32 = .ok (.aload_n 1, 1) := by decide +kernel
theorem dX11_ofFinder_33 : decode cX11_ofFinder 33 = .ok (.getfield 496, 3) := by decide +kernel
theorem dX11_ofFinder_36 : decode cX11_ofFinder 36 = .ok (.ireturn, 1) := by decide +kernel
theorem dX11_ofFinder_37 : decode cX11_ofFinder 37 = .ok (.aload_n 1, 1) := by decide +kernel
theorem dX11_ofFinder_38 : decode cX11_ofFinder 38 = .ok (.getfield 499, 3) := by decide +kernel
theorem dX11_ofFinder_41 : decode cX11_ofFinder 41 = .ok (.ireturn, 1) := by decide +kernel
theorem dX11_ofFinder_42 : decode cX11_ofFinder 42 = .ok (.aload_n 1, 1) := by decide +kernel
theorem dX11_ofFinder_43 : decode cX11_ofFinder 43 = .ok (.getfield 97, 3) := by decide +kernel
theorem dX11_ofFinder_46 : decode cX11_ofFinder 46 = .ok (.ireturn, 1) := by decide +kernel
theorem dX11_ofFinder_47 : decode cX11_ofFinder 47 = .ok (.aload_n 0, 1) := by decide +kernel
theorem dX11_ofFinder_48 : decode cX11_ofFinder 48 = .ok (.getfield 10, 3) := by decide +kernel
theorem dX11_ofFinder_51 : decode cX11_ofFinder 51 = .ok (.aload_n 1, 1) := by decide +kernel
theorem dX11_ofFinder_52 : decode cX11_ofFinder 52 = .ok (.getfield 120, 3) := by decide +kernel
theorem dX11_ofFinder_55 : decode cX11_ofFinder 55 = .ok (.invokevirtual 502, 3) := by decide +kernel
theorem dX11_ofFinder_58 : decode cX11_ofFinder 58 = .ok (.ireturn, 1) := by decide +kernel
theorem dX11_ofFinder_59 : decode cX11_ofFinder 59 = .ok (.ldc 60, 2) := by decide +kernel
theorem dX11_ofFinder_61 : decode cX11_ofFinder 61 = .ok (.ireturn, 1) := by decide +kernel
theorem dX11_ofBox_0 : decode cX11_ofBox 0 = .ok (.iload_n 1, 1) := by decide +kernel
theorem dX11_ofBox_1 : decode cX11_ofBox 1 = .ok (.tableswitch 78 1 7 #[43, 48, 53, 58, 63, 68, 73], 43) := by decide +kernel
theorem dX11_ofBox_44 : decode cX11_ofBox 44 = .ok (.aload_n 0, 1) := by decide +kernel
theorem dX11_ofBox_45 : decode cX11_ofBox 45 = .ok (.getfield 274, 3) := by decide +kernel
theorem dX11_ofBox_48 : decode cX11_ofBox 48 = .ok (.ireturn, 1) := by decide +kernel
theorem dX11_ofBox_49 : decode cX11_ofBox 49 = .ok (.aload_n 0, 1) := by decide +kernel
theorem dX11_ofBox_50 : decode cX11_ofBox 50 = .ok (.getfield 228, 3) := by decide +kernel
theorem dX11_ofBox_53 : decode cX11_ofBox 53 = .ok (.ireturn, 1) := by decide +kernel
theorem dX11_ofBox_54 : decode cX11_ofBox 54 = .ok (.aload_n 0, 1) := by decide +kernel
theorem dX11_ofBox_55 : decode cX11_ofBox 55 = .ok (.getfield 505, 3) := by decide +kernel
theorem dX11_ofBox_58 : decode cX11_ofBox 58 = .ok (.ireturn, 1) := by decide +kernel
theorem dX11_ofBox_59 : decode cX11_ofBox 59 = .ok (.aload_n 0, 1) := by decide +kernel
theorem dX11_ofBox_60 : decode cX11_ofBox 60 = .ok (.getfield 153, 3) := by decide +kernel
theorem dX11_ofBox_63 : decode cX11_ofBox 63 = .ok (.ireturn, 1) := by decide +kernel
theorem dX11_ofBox_64 : decode cX11_ofBox 64 = .ok (.aload_n 0, 1) := by decide +kernel
theorem dX11_ofBox_65 : decode cX11_ofBox 65 = .ok (.invokevirtual 508, 3) := by decide +kernel
theorem dX11_ofBox_68 : decode cX11_ofBox 68 = .ok (.ireturn, 1) := by decide +kernel
theorem dX11_ofBox_69 : decode cX11_ofBox 69 = .ok (.aload_n 0, 1) := by decide +kernel
theorem dX11_ofBox_70 : decode cX11_ofBox 70 = .ok (.getfield 410, 3) := by decide +kernel
theorem dX11_ofBox_73 : decode cX11_ofBox 73 = .ok (.ireturn, 1) := by decide +kernel
theorem dX11_ofBox_74 : decode cX11_ofBox 74 = .ok (.aload_n 0, 1) := by decide +kernel
theorem dX11_ofBox_75 : decode cX11_ofBox 75 = .ok (.getfield 322, 3) := by decide +kernel
theorem dX11_ofBox_78 : decode cX11_ofBox 78 = .ok (.ireturn, 1) := by decide +kernel
theorem dX11_ofBox_79 : decode cX11_ofBox 79 = .ok (.ldc 60, 2) := by decide +kernel
theorem dX11_ofBox_81 : decode cX11_ofBox 81 = .ok (.ireturn, 1) := by decide +kernel
theorem dX11_ofThing_0 : decode cX11_ofThing 0 = .ok (.iload_n 2, 1) := by decide +kernel
theorem dX11_ofThing_1 : decode cX11_ofThing 1 = .ok (.lookupswitch 47 #[(1, 27), (2, 42)], 27) := by decide +kernel
theorem dX11_ofThing_28 : decode cX11_ofThing 28 = .ok (.aload_n 0, 1) := by decide +kernel
theorem dX11_ofThing_29 : decode cX11_ofThing 29 = .ok (.getfield 30, 3) := by decide +kernel
theorem dX11_ofThing_32 : decode cX11_ofThing 32 = .ok (.aload_n 1, 1) := by decide +kernel
theorem dX11_ofThing_33 : decode cX11_ofThing 33 = .ok (.aload_n 1, 1) := by decide +kernel
theorem dX11_ofThing_34 : decode cX11_ofThing 34 = .ok (.getfield 344, 3) := by decide +kernel
theorem dX11_ofThing_37 : decode cX11_ofThing 37 = .ok (.iconst 1, 1) := by decide +kernel
theorem dX11_ofThing_38 : decode cX11_ofThing 38 = .ok (.isub, 1) := by decide +kernel
theorem dX11_ofThing_39 : decode cX11_ofThing 39 = .ok (.invokevirtual 511, 3) := by decide +kernel
theorem dX11_ofThing_42 : decode cX11_ofThing 42 = .ok (.ireturn, 1) := by decide +kernel
theorem dX11_ofThing_43 : decode cX11_ofThing 43 = .ok (.aload_n 1, 1) := by decide +kernel
theorem dX11_ofThing_44 : decode cX11_ofThing 44 = .ok (.getfield 344, 3) := by decide +kernel
theorem dX11_ofThing_47 : decode cX11_ofThing 47 = .ok (.ireturn, 1) := by decide +kernel
theorem dX11_ofThing_48 : decode cX11_ofThing 48 = .ok (.ldc 60, 2) := by decide +kernel
theorem dX11_ofThing_50 : decode cX11_ofThing 50 = .ok (.ireturn, 1) := by decide +kernel
theorem dX11_countBoxes_0 : decode cX11_countBoxes 0 = .ok (.iconst 0, 1) := by decide +kernel
theorem dX11_countBoxes_1 : decode cX11_countBoxes 1 = .ok (.istore_n 2, 1) := by decide +kernel
theorem dX11_countBoxes_2 : decode cX11_countBoxes 2 = .ok (.iconst 0, 1) := by decide +kernel
theorem dX11_countBoxes_3 : decode cX11_countBoxes 3 = .ok (.istore_n 3, 1) := by decide +kernel
theorem dX11_countBoxes_4 : decode cX11_countBoxes 4 = .ok (.iload_n 3, 1) := by decide +kernel
theorem dX11_countBoxes_5 : decode cX11_countBoxes 5 = .ok (.aload_n 0, 1) := by decide +kernel
theorem dX11_countBoxes_6 : decode cX11_countBoxes 6 = .ok (.getfield 10, 3) := by decide +kernel
theorem dX11_countBoxes_9 : decode cX11_countBoxes 9 = .ok (.getfield 70, 3) := by decide +kernel
theorem dX11_countBoxes_12 : decode cX11_countBoxes 12 = .ok (.if_icmp .ge 39, 3) := by decide +kernel
theorem dX11_countBoxes_15 : decode cX11_countBoxes 15 = .ok (.aload_n 0, 1) := by decide +kernel
theorem dX11_countBoxes_16 : decode cX11_countBoxes 16 = .ok (.getfield 10, 3) := by decide +kernel
theorem dX11_countBoxes_19 : decode cX11_countBoxes 19 = .ok (.iload_n 3, 1) := by decide +kernel
theorem dX11_countBoxes_20 : decode cX11_countBoxes 20 = .ok (.invokevirtual 130, 3) := by decide +kernel
theorem dX11_countBoxes_23 : decode cX11_countBoxes 23 = .ok (.astore 4, 2) := by decide +kernel
theorem dX11_countBoxes_25 : decode cX11_countBoxes 25 = .ok (.aload 4, 2) := by decide +kernel
theorem dX11_countBoxes_27 : decode cX11_countBoxes 27 = .ok (.ifnull 18, 3) := by decide +kernel
theorem dX11_countBoxes_30 : decode cX11_countBoxes 30 = .ok (.iload_n 1, 1) := by decide +kernel
theorem dX11_countBoxes_31 : decode cX11_countBoxes 31 = .ok (.ifCond .eq 11, 3) := by decide +kernel
theorem dX11_countBoxes_34 : decode cX11_countBoxes 34 = .ok (.aload 4, 2) := by decide +kernel
theorem dX11_countBoxes_36 : decode cX11_countBoxes 36 = .ok (.invokevirtual 137, 3) := by decide +kernel
theorem dX11_countBoxes_39 : decode cX11_countBoxes 39 = .ok (.ifCond .ne 6, 3) := by decide +kernel
theorem dX11_countBoxes_42 : decode cX11_countBoxes 42 = .ok (.iinc 2 1, 3) := by decide +kernel
theorem dX11_countBoxes_45 : decode cX11_countBoxes 45 = .ok (.iinc 3 1, 3) := by decide +kernel
theorem dX11_countBoxes_48 : decode cX11_countBoxes 48 = .ok (.goto (-44), 3) := by decide +kernel
theorem dX11_countBoxes_51 : decode cX11_countBoxes 51 = .ok (.iload_n 2, 1) := by decide +kernel
theorem dX11_countBoxes_52 : decode cX11_countBoxes 52 = .ok (.ireturn, 1) := by decide +kernel
theorem dX11_countFinders_0 : decode cX11_countFinders 0 = .ok (.iconst 0, 1) := by decide +kernel
theorem dX11_countFinders_1 : decode cX11_countFinders 1 = .ok (.istore_n 2, 1) := by decide +kernel
theorem dX11_countFinders_2 : decode cX11_countFinders 2 = .ok (.iconst 0, 1) := by decide +kernel
theorem dX11_countFinders_3 : decode cX11_countFinders 3 = .ok (.istore_n 3, 1) := by decide +kernel
theorem dX11_countFinders_4 : decode cX11_countFinders 4 = .ok (.iload_n 3, 1) := by decide +kernel
theorem dX11_countFinders_5 : decode cX11_countFinders 5 = .ok (.aload_n 0, 1) := by decide +kernel
theorem dX11_countFinders_6 : decode cX11_countFinders 6 = .ok (.getfield 10, 3) := by decide +kernel
theorem dX11_countFinders_9 : decode cX11_countFinders 9 = .ok (.getfield 70, 3) := by decide +kernel
theorem dX11_countFinders_12 : decode cX11_countFinders 12 = .ok (.if_icmp .ge 39, 3) := by decide +kernel
theorem dX11_countFinders_15 : decode cX11_countFinders 15 = .ok (.aload_n 0, 1) := by decide +kernel
theorem dX11_countFinders_16 : decode cX11_countFinders 16 = .ok (.getfield 10, 3) := by decide +kernel
theorem dX11_countFinders_19 : decode cX11_countFinders 19 = .ok (.iload_n 3, 1) := by decide +kernel
theorem dX11_countFinders_20 : decode cX11_countFinders 20 = .ok (.invokevirtual 90, 3) := by decide +kernel
theorem dX11_countFinders_23 : decode cX11_countFinders 23 = .ok (.astore 4, 2) := by decide +kernel
theorem dX11_countFinders_25 : decode cX11_countFinders 25 = .ok (.aload 4, 2) := by decide +kernel
theorem dX11_countFinders_27 : decode cX11_countFinders 27 = .ok (.ifnull 18, 3) := by decide +kernel
theorem dX11_countFinders_30 : decode cX11_countFinders 30 = .ok (.iload_n 1, 1) := by decide +kernel
theorem dX11_countFinders_31 : decode cX11_countFinders 31 = .ok (.ifCond .eq 11, 3) := by decide +kernel
theorem dX11_countFinders_34 : decode cX11_countFinders 34 = .ok (.aload 4, 2) := by decide +kernel
theorem dX11_countFinders_36 : decode cX11_countFinders 36 = .ok (.invokevirtual 94, 3) := by decide +kernel
theorem dX11_countFinders_39 : decode cX11_countFinders 39 = .ok (.ifCond .ne 6, 3) := by decide +kernel
theorem dX11_countFinders_42 : decode cX11_countFinders 42 = .ok (.iinc 2 1, 3) := by decide +kernel
theorem dX11_countFinders_45 : decode cX11_countFinders 45 = .ok (.iinc 3 1, 3) := by decide +kernel
theorem dX11_countFinders_48 : decode cX11_countFinders 48 = .ok (.goto (-44), 3) := by decide +kernel
theorem dX11_countFinders_51 : decode cX11_countFinders 51 = .ok (.iload_n 2, 1) := by decide +kernel
theorem dX11_countFinders_52 : decode cX11_countFinders 52 = .ok (.ireturn, 1) := by decide +kernel
theorem dJ7_fill_53178_0 : decode cJ7_fill_53178 0 = .ok (.iconst 0, 1) := by decide +kernel
theorem dJ7_fill_53178_1 : decode cJ7_fill_53178 1 = .ok (.istore_n 2, 1) := by decide +kernel
theorem dJ7_fill_53178_2 : decode cJ7_fill_53178 2 = .ok (.aload_n 0, 1) := by decide +kernel
theorem dJ7_fill_53178_3 : decode cJ7_fill_53178 3 = .ok (.arraylength, 1) := by decide +kernel
theorem dJ7_fill_53178_4 : decode cJ7_fill_53178 4 = .ok (.istore_n 3, 1) := by decide +kernel
theorem dJ7_fill_53178_5 : decode cJ7_fill_53178 5 = .ok (.iload_n 2, 1) := by decide +kernel
theorem dJ7_fill_53178_6 : decode cJ7_fill_53178 6 = .ok (.iload_n 3, 1) := by decide +kernel
theorem dJ7_fill_53178_7 : decode cJ7_fill_53178 7 = .ok (.if_icmp .ge 13, 3) := by decide +kernel
theorem dJ7_fill_53178_10 : decode cJ7_fill_53178 10 = .ok (.aload_n 0, 1) := by decide +kernel
theorem dJ7_fill_53178_11 : decode cJ7_fill_53178 11 = .ok (.iload_n 2, 1) := by decide +kernel
theorem dJ7_fill_53178_12 : decode cJ7_fill_53178 12 = .ok (.iload_n 1, 1) := by decide +kernel
theorem dJ7_fill_53178_13 : decode cJ7_fill_53178 13 = .ok (.iastore, 1) := by decide +kernel
theorem dJ7_fill_53178_14 : decode cJ7_fill_53178 14 = .ok (.iinc 2 1, 3) := by decide +kernel
theorem dJ7_fill_53178_17 : decode cJ7_fill_53178 17 = .ok (.goto (-12), 3) := by decide +kernel
theorem dJ7_fill_53178_20 : decode cJ7_fill_53178 20 = .ok (.return_, 1) := by decide +kernel
