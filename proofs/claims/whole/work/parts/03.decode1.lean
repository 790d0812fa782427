theorem dX7_begin_30 : decode cX7_begin 30 = .ok (.aload_n 0, 1) := by decide +kernel
theorem dX7_begin_31 : decode cX7_begin 31 = .ok (.bipush (-6), 2) := by decide +kernel
theorem dX7_begin_33 : decode cX7_begin 33 = .ok (.putfield 73, 3) := by decide +kernel
theorem dX7_begin_36 : decode cX7_begin 36 = .ok (.aload_n 0, 1) := by decide +kernel
theorem dX7_begin_37 : decode cX7_begin 37 = .ok (.bipush (-6), 2) := by decide +kernel
theorem dX7_begin_39 : decode cX7_begin 39 = .ok (.putfield 76, 3) := by decide +kernel
theorem dX7_begin_42 : decode cX7_begin 42 = .ok (.return_, 1) := by decide +kernel
theorem dX7_attempt_0 : decode cX7_attempt 0 = .ok (.aload_n 0, 1) := by decide +kernel
theorem dX7_attempt_1 : decode cX7_attempt 1 = .ok (.getfield 12, 3) := by decide +kernel
theorem dX7_attempt_4 : decode cX7_attempt 4 = .ok (.iload_n 1, 1) := by decide +kernel
theorem dX7_attempt_5 : decode cX7_attempt 5 = .ok (.iload_n 2, 1) := by decide +kernel
theorem dX7_attempt_6 : decode cX7_attempt 6 = .ok (.iload_n 3, 1) := by decide +kernel
theorem dX7_attempt_7 : decode cX7_attempt 7 = .ok (.invokevirtual 54, 3) := by decide +kernel
theorem dX7_attempt_10 : decode cX7_attempt 10 = .ok (.istore 4, 2) := by decide +kernel
theorem dX7_attempt_12 : decode cX7_attempt 12 = .ok (.iload 4, 2) := by decide +kernel
theorem dX7_attempt_14 : decode cX7_attempt 14 = .ok (.ifCond .eq 18, 3) := by decide +kernel
theorem dX7_attempt_17 : decode cX7_attempt 17 = .ok (.aload_n 0, 1) := by decide +kernel
theorem dX7_attempt_18 : decode cX7_attempt 18 = .ok (.aload_n 0, 1) := by decide +kernel
theorem dX7_attempt_19 : decode cX7_attempt 19 = .ok (.getfield 64, 3) := by decide +kernel
theorem dX7_attempt_22 : decode cX7_attempt 22 = .ok (.putfield 28, 3) := by decide +kernel
theorem dX7_attempt_25 : decode cX7_attempt 25 = .ok (.aload_n 0, 1) := by decide +kernel
theorem dX7_attempt_26 : decode cX7_attempt 26 = .ok (.iload 4, 2) := by decide +kernel
theorem dX7_attempt_28 : decode cX7_attempt 28 = .ok (.putfield 67, 3) := by decide +kernel
theorem dX7_attempt_31 : decode cX7_attempt 31 = .ok (.return_, 1) := by decide +kernel
theorem dX7_attempt_32 : decode cX7_attempt 32 = .ok (.iload_n 2, 1) := by decide +kernel
theorem dX7_attempt_33 : decode cX7_attempt 33 = .ok (.bipush 63, 2) := by decide +kernel
theorem dX7_attempt_35 : decode cX7_attempt 35 = .ok (.if_icmp .ne 24, 3) := by decide +kernel
theorem dX7_attempt_38 : decode cX7_attempt 38 = .ok (.aload_n 0, 1) := by decide +kernel
theorem dX7_attempt_39 : decode cX7_attempt 39 = .ok (.getfield 12, 3) := by decide +kernel
theorem dX7_attempt_42 : decode cX7_attempt 42 = .ok (.iload_n 1, 1) := by decide +kernel
theorem dX7_attempt_43 : decode cX7_attempt 43 = .ok (.invokevirtual 79, 3) := by decide +kernel
theorem dX7_attempt_46 : decode cX7_attempt 46 = .ok (.ifCond .eq 13, 3) := by decide +kernel
theorem dX7_attempt_49 : decode cX7_attempt 49 = .ok (.aload_n 0, 1) := by decide +kernel
theorem dX7_attempt_50 : decode cX7_attempt 50 = .ok (.dup, 1) := by decide +kernel
theorem dX7_attempt_51 : decode cX7_attempt 51 = .ok (.getfield 70, 3) := by decide +kernel
theorem dX7_attempt_54 : decode cX7_attempt 54 = .ok (.iconst 1, 1) := by decide +kernel
theorem dX7_attempt_55 : decode cX7_attempt 55 = .ok (.iadd, 1) := by decide +kernel
theorem dX7_attempt_56 : decode cX7_attempt 56 = .ok (.putfield 70, 3) := by decide +kernel
theorem dX7_attempt_59 : decode cX7_attempt 59 = .ok (.iload_n 2, 1) := by decide +kernel
theorem dX7_attempt_60 : decode cX7_attempt 60 = .ok (.bipush 33, 2) := by decide +kernel
theorem dX7_attempt_62 : decode cX7_attempt 62 = .ok (.if_icmp .ne 36, 3) := by decide +kernel
theorem dX7_attempt_65 : decode cX7_attempt 65 = .ok (.aload_n 0, 1) := by decide +kernel
theorem dX7_attempt_66 : decode cX7_attempt 66 = .ok (.getfield 73, 3) := by decide +kernel
theorem dX7_attempt_69 : decode cX7_attempt 69 = .ok (.bipush (-6), 2) := by decide +kernel
theorem dX7_attempt_71 : decode cX7_attempt 71 = .ok (.if_icmp .ne 27, 3) := by decide +kernel
theorem dX7_attempt_74 : decode cX7_attempt 74 = .ok (.aload_n 0, 1) := by decide +kernel
theorem dX7_attempt_75 : decode cX7_attempt 75 = .ok (.getfield 12, 3) := by decide +kernel
theorem dX7_attempt_78 : decode cX7_attempt 78 = .ok (.iload_n 1, 1) := by decide +kernel
theorem dX7_attempt_79 : decode cX7_attempt 79 = .ok (.invokevirtual 82, 3) := by decide +kernel
theorem dX7_attempt_82 : decode cX7_attempt 82 = .ok (.ifCond .ne 16, 3) := by decide +kernel
theorem dX7_attempt_85 : decode cX7_attempt 85 = .ok (.aload_n 0, 1) := by decide +kernel
theorem dX7_attempt_86 : decode cX7_attempt 86 = .ok (.aload_n 0, 1) := by decide +kernel
theorem dX7_attempt_87 : decode cX7_attempt 87 = .ok (.getfield 64, 3) := by decide +kernel
theorem dX7_attempt_90 : decode cX7_attempt 90 = .ok (.putfield 73, 3) := by decide +kernel
theorem dX7_attempt_93 : decode cX7_attempt 93 = .ok (.aload_n 0, 1) := by decide +kernel
theorem dX7_attempt_94 : decode cX7_attempt 94 = .ok (.iload_n 1, 1) := by decide +kernel
theorem dX7_attempt_95 : decode cX7_attempt 95 = .ok (.putfield 76, 3) := by decide +kernel
theorem dX7_attempt_98 : decode cX7_attempt 98 = .ok (.aload_n 0, 1) := by decide +kernel
theorem dX7_attempt_99 : decode cX7_attempt 99 = .ok (.getfield 12, 3) := by decide +kernel
theorem dX7_attempt_102 : decode cX7_attempt 102 = .ok (.iload_n 1, 1) := by decide +kernel
theorem dX7_attempt_103 : decode cX7_attempt 103 = .ok (.iload_n 2, 1) := by decide +kernel
theorem dX7_attempt_104 : decode cX7_attempt 104 = .ok (.iload_n 3, 1) := by decide +kernel
theorem dX7_attempt_105 : decode cX7_attempt 105 = .ok (.invokevirtual 58, 3) := by decide +kernel
theorem dX7_attempt_108 : decode cX7_attempt 108 = .ok (.aload_n 0, 1) := by decide +kernel
theorem dX7_attempt_109 : decode cX7_attempt 109 = .ok (.dup, 1) := by decide +kernel
theorem dX7_attempt_110 : decode cX7_attempt 110 = .ok (.getfield 64, 3) := by decide +kernel
theorem dX7_attempt_113 : decode cX7_attempt 113 = .ok (.iconst 1, 1) := by decide +kernel
theorem dX7_attempt_114 : decode cX7_attempt 114 = .ok (.iadd, 1) := by decide +kernel
theorem dX7_attempt_115 : decode cX7_attempt 115 = .ok (.putfield 64, 3) := by decide +kernel
theorem dX7_attempt_118 : decode cX7_attempt 118 = .ok (.return_, 1) := by decide +kernel
theorem dX8_init_0 : decode cX8_init 0 = .ok (.aload_n 0, 1) := by decide +kernel
theorem dX8_init_1 : decode cX8_init 1 = .ok (.invokespecial 1, 3) := by decide +kernel
theorem dX8_init_4 : decode cX8_init 4 = .ok (.aload_n 0, 1) := by decide +kernel
theorem dX8_init_5 : decode cX8_init 5 = .ok (.new 7, 3) := by decide +kernel
theorem dX8_init_8 : decode cX8_init 8 = .ok (.dup, 1) := by decide +kernel
theorem dX8_init_9 : decode cX8_init 9 = .ok (.invokespecial 9, 3) := by decide +kernel
theorem dX8_init_12 : decode cX8_init 12 = .ok (.putfield 10, 3) := by decide +kernel
theorem dX8_init_15 : decode cX8_init 15 = .ok (.aload_n 0, 1) := by decide +kernel
theorem dX8_init_16 : decode cX8_init 16 = .ok (.new 16, 3) := by decide +kernel
theorem dX8_init_19 : decode cX8_init 19 = .ok (.dup, 1) := by decide +kernel
theorem dX8_init_20 : decode cX8_init 20 = .ok (.invokespecial 18, 3) := by decide +kernel
theorem dX8_init_23 : decode cX8_init 23 = .ok (.putfield 19, 3) := by decide +kernel
theorem dX8_init_26 : decode cX8_init 26 = .ok (.aload_n 0, 1) := by decide +kernel
theorem dX8_init_27 : decode cX8_init 27 = .ok (.new 23, 3) := by decide +kernel
theorem dX8_init_30 : decode cX8_init 30 = .ok (.dup, 1) := by decide +kernel
theorem dX8_init_31 : decode cX8_init 31 = .ok (.invokespecial 25, 3) := by decide +kernel
theorem dX8_init_34 : decode cX8_init 34 = .ok (.putfield 26, 3) := by decide +kernel
theorem dX8_init_37 : decode cX8_init 37 = .ok (.aload_n 0, 1) := by decide +kernel
theorem dX8_init_38 : decode cX8_init 38 = .ok (.new 30, 3) := by decide +kernel
theorem dX8_init_41 : decode cX8_init 41 = .ok (.dup, 1) := by decide +kernel
theorem dX8_init_42 : decode cX8_init 42 = .ok (.invokespecial 32, 3) := by decide +kernel
theorem dX8_init_45 : decode cX8_init 45 = .ok (.putfield 33, 3) := by decide +kernel
theorem dX8_init_48 : decode cX8_init 48 = .ok (.aload_n 0, 1) := by decide +kernel
theorem dX8_init_49 : decode cX8_init 49 = .ok (.new 37, 3) := by decide +kernel
theorem dX8_init_52 : decode cX8_init 52 = .ok (.dup, 1) := by decide +kernel
theorem dX8_init_53 : decode cX8_init 53 = .ok (.invokespecial 39, 3) := by decide +kernel
theorem dX8_init_56 : decode cX8_init 56 = .ok (.putfield 40, 3) := by decide +kernel
theorem dX8_init_59 : decode cX8_init 59 = .ok (.aload_n 0, 1) := by decide +kernel
theorem dX8_init_60 : decode cX8_init 60 = .ok (.iconst 2, 1) := by decide +kernel
theorem dX8_init_61 : decode cX8_init 61 = .ok (.anewarray 7, 3) := by decide +kernel
theorem dX8_init_64 : decode cX8_init 64 = .ok (.putfield 44, 3) := by decide +kernel
theorem dX8_init_67 : decode cX8_init 67 = .ok (.aload_n 0, 1) := by decide +kernel
theorem dX8_init_68 : decode cX8_init 68 = .ok (.iconst 2, 1) := by decide +kernel
theorem dX8_init_69 : decode cX8_init 69 = .ok (.anewarray 16, 3) := by decide +kernel
theorem dX8_init_72 : decode cX8_init 72 = .ok (.putfield 48, 3) := by decide +kernel
theorem dX8_init_75 : decode cX8_init 75 = .ok (.aload_n 0, 1) := by decide +kernel
theorem dX8_init_76 : decode cX8_init 76 = .ok (.iconst 2, 1) := by decide +kernel
theorem dX8_init_77 : decode cX8_init 77 = .ok (.newarray .boolean, 2) := by decide +kernel
theorem dX8_init_79 : decode cX8_init 79 = .ok (.putfield 52, 3) := by decide +kernel
theorem dX8_init_82 : decode cX8_init 82 = .ok (.iconst 0, 1) := by decide +kernel
theorem dX8_init_83 : decode cX8_init 83 = .ok (.istore_n 1, 1) := by decide +kernel
theorem dX8_init_84 : decode cX8_init 84 = .ok (.iload_n 1, 1) := by decide +kernel
theorem dX8_init_85 : decode cX8_init 85 = .ok (.iconst 2, 1) := by decide +kernel
theorem dX8_init_86 : decode cX8_init 86 = .ok (.if_icmp .ge 35, 3) := by decide +kernel
theorem dX8_init_89 : decode cX8_init 89 = .ok (.aload_n 0, 1) := by decide +kernel
theorem dX8_init_90 : decode cX8_init 90 = .ok (.getfield 44, 3) := by decide +kernel
theorem dX8_init_93 : decode cX8_init 93 = .ok (.iload_n 1, 1) := by decide +kernel
theorem dX8_init_94 : decode cX8_init 94 = .ok (.new 7, 3) := by decide +kernel
theorem dX8_init_97 : decode cX8_init 97 = .ok (.dup, 1) := by decide +kernel
theorem dX8_init_98 : decode cX8_init 98 = .ok (.invokespecial 9, 3) := by decide +kernel
theorem dX8_init_101 : decode cX8_init 101 = .ok (.aastore, 1) := by decide +kernel
theorem dX8_init_102 : decode cX8_init 102 = .ok (.aload_n 0, 1) := by decide +kernel
theorem dX8_init_103 : decode cX8_init 103 = .ok (.getfield 48, 3) := by decide +kernel
theorem dX8_init_106 : decode cX8_init 106 = .ok (.iload_n 1, 1) := by decide +kernel
theorem dX8_init_107 : decode cX8_init 107 = .ok (.new 16, 3) := by decide +kernel
theorem dX8_init_110 : decode cX8_init 110 = .ok (.dup, 1) := by decide +kernel
theorem dX8_init_111 : decode cX8_init 111 = .ok (.invokespecial 18, 3) := by decide +kernel
theorem dX8_init_114 : decode cX8_init 114 = .ok (.aastore, 1) := by decide +kernel
theorem dX8_init_115 : decode cX8_init 115 = .ok (.iinc 1 1, 3) := by decide +kernel
theorem dX8_init_118 : decode cX8_init 118 = .ok (.goto (-34), 3) := by decide +kernel
theorem dX8_init_121 : decode cX8_init 121 = .ok (.return_, 1) := by decide +kernel
theorem dX8_cradle_0 : decode cX8_cradle 0 = .ok (.iload_n 1, 1) := by decide +kernel
theorem dX8_cradle_1 : decode cX8_cradle 1 = .ok (.invokestatic 56, 3) := by decide +kernel
theorem dX8_cradle_4 : decode cX8_cradle 4 = .ok (.ifCond .eq 17, 3) := by decide +kernel
theorem dX8_cradle_7 : decode cX8_cradle 7 = .ok (.iload 4, 2) := by decide +kernel
theorem dX8_cradle_9 : decode cX8_cradle 9 = .ok (.iconst (-1), 1) := by decide +kernel
theorem dX8_cradle_10 : decode cX8_cradle 10 = .ok (.if_icmp .eq 13, 3) := by decide +kernel
theorem dX8_cradle_13 : decode cX8_cradle 13 = .ok (.iload 4, 2) := by decide +kernel
theorem dX8_cradle_15 : decode cX8_cradle 15 = .ok (.invokestatic 60, 3) := by decide +kernel
theorem dX8_cradle_18 : decode cX8_cradle 18 = .ok (.ifCond .ne 5, 3) := by decide +kernel
theorem dX8_cradle_21 : decode cX8_cradle 21 = .ok (.iconst (-1), 1) := by decide +kernel
theorem dX8_cradle_22 : decode cX8_cradle 22 = .ok (.ireturn, 1) := by decide +kernel
theorem dX8_cradle_23 : decode cX8_cradle 23 = .ok (.iload_n 2, 1) := by decide +kernel
theorem dX8_cradle_24 : decode cX8_cradle 24 = .ok (.invokestatic 63, 3) := by decide +kernel
theorem dX8_cradle_27 : decode cX8_cradle 27 = .ok (.ifCond .eq 12, 3) := by decide +kernel
theorem dX8_cradle_30 : decode cX8_cradle 30 = .ok (.iload_n 3, 1) := by decide +kernel
theorem dX8_cradle_31 : decode cX8_cradle 31 = .ok (.iconst 0, 1) := by decide +kernel
theorem dX8_cradle_32 : decode cX8_cradle 32 = .ok (.iconst 1, 1) := by decide +kernel
theorem dX8_cradle_33 : decode cX8_cradle 33 = .ok (.invokestatic 66, 3) := by decide +kernel
theorem dX8_cradle_36 : decode cX8_cradle 36 = .ok (.ifCond .ne 6, 3) := by decide +kernel
theorem dX8_cradle_39 : decode cX8_cradle 39 = .ok (.bipush (-2), 2) := by decide +kernel
theorem dX8_cradle_41 : decode cX8_cradle 41 = .ok (.ireturn, 1) := by decide +kernel
theorem dX8_cradle_42 : decode cX8_cradle 42 = .ok (.aload_n 0, 1) := by decide +kernel
theorem dX8_cradle_43 : decode cX8_cradle 43 = .ok (.getfield 10, 3) := by decide +kernel
theorem dX8_cradle_46 : decode cX8_cradle 46 = .ok (.getfield 70, 3) := by decide +kernel
theorem dX8_cradle_49 : decode cX8_cradle 49 = .ok (.iload_n 1, 1) := by decide +kernel
theorem dX8_cradle_50 : decode cX8_cradle 50 = .ok (.iaload, 1) := by decide +kernel
theorem dX8_cradle_51 : decode cX8_cradle 51 = .ok (.istore 5, 2) := by decide +kernel
theorem dX8_cradle_53 : decode cX8_cradle 53 = .ok (.aload_n 0, 1) := by decide +kernel
theorem dX8_cradle_54 : decode cX8_cradle 54 = .ok (.getfield 10, 3) := by decide +kernel
theorem dX8_cradle_57 : decode cX8_cradle 57 = .ok (.getfield 70, 3) := by decide +kernel
theorem dX8_cradle_60 : decode cX8_cradle 60 = .ok (.iload_n 1, 1) := by decide +kernel
theorem dX8_cradle_61 : decode cX8_cradle 61 = .ok (.iload_n 2, 1) := by decide +kernel
theorem dX8_cradle_62 : decode cX8_cradle 62 = .ok (.iastore, 1) := by decide +kernel
theorem dX8_cradle_63 : decode cX8_cradle 63 = .ok (.aload_n 0, 1) := by decide +kernel
theorem dX8_cradle_64 : decode cX8_cradle 64 = .ok (.getfield 10, 3) := by decide +kernel
theorem dX8_cradle_67 : decode cX8_cradle 67 = .ok (.getfield 74, 3) := by decide +kernel
theorem dX8_cradle_70 : decode cX8_cradle 70 = .ok (.iload_n 1, 1) := by decide +kernel
theorem dX8_cradle_71 : decode cX8_cradle 71 = .ok (.iload_n 3, 1) := by decide +kernel
theorem dX8_cradle_72 : decode cX8_cradle 72 = .ok (.iastore, 1) := by decide +kernel
theorem dX8_cradle_73 : decode cX8_cradle 73 = .ok (.aload_n 0, 1) := by decide +kernel
theorem dX8_cradle_74 : decode cX8_cradle 74 = .ok (.getfield 10, 3) := by decide +kernel
theorem dX8_cradle_77 : decode cX8_cradle 77 = .ok (.getfield 77, 3) := by decide +kernel
theorem dX8_cradle_80 : decode cX8_cradle 80 = .ok (.iload_n 1, 1) := by decide +kernel
theorem dX8_cradle_81 : decode cX8_cradle 81 = .ok (.iload 4, 2) := by decide +kernel
theorem dX8_cradle_83 : decode cX8_cradle 83 = .ok (.iconst (-1), 1) := by decide +kernel
theorem dX8_cradle_84 : decode cX8_cradle 84 = .ok (.if_icmp .ne 8, 3) := by decide +kernel
theorem dX8_cradle_87 : decode cX8_cradle 87 = .ok (.bipush (-6), 2) := by decide +kernel
theorem dX8_cradle_89 : decode cX8_cradle 89 = .ok (.goto 5, 3) := by decide +kernel
theorem dX8_cradle_92 : decode cX8_cradle 92 = .ok (.iload 4, 2) := by decide +kernel
theorem dX8_cradle_94 : decode cX8_cradle 94 = .ok (.iastore, 1) := by decide +kernel
theorem dX8_cradle_95 : decode cX8_cradle 95 = .ok (.iload 5, 2) := by decide +kernel
theorem dX8_cradle_97 : decode cX8_cradle 97 = .ok (.ireturn, 1) := by decide +kernel
theorem dX8_heir_0 : decode cX8_heir 0 = .ok (.iload_n 1, 1) := by decide +kernel
theorem dX8_heir_1 : decode cX8_heir 1 = .ok (.invokestatic 60, 3) := by decide +kernel
theorem dX8_heir_4 : decode cX8_heir 4 = .ok (.ifCond .eq 10, 3) := by decide +kernel
theorem dX8_heir_7 : decode cX8_heir 7 = .ok (.iload_n 2, 1) := by decide +kernel
theorem dX8_heir_8 : decode cX8_heir 8 = .ok (.invokestatic 56, 3) := by decide +kernel
theorem dX8_heir_11 : decode cX8_heir 11 = .ok (.ifCond .ne 5, 3) := by decide +kernel
theorem dX8_heir_14 : decode cX8_heir 14 = .ok (.iconst (-1), 1) := by decide +kernel
theorem dX8_heir_15 : decode cX8_heir 15 = .ok (.ireturn, 1) := by decide +kernel
theorem dX8_heir_16 : decode cX8_heir 16 = .ok (.iload_n 3, 1) := by decide +kernel
theorem dX8_heir_17 : decode cX8_heir 17 = .ok (.invokestatic 63, 3) := by decide +kernel
theorem dX8_heir_20 : decode cX8_heir 20 = .ok (.ifCond .ne 6, 3) := by decide +kernel
theorem dX8_heir_23 : decode cX8_heir 23 = .ok (.bipush (-2), 2) := by decide +kernel
theorem dX8_heir_25 : decode cX8_heir 25 = .ok (.ireturn, 1) := by decide +kernel
theorem dX8_heir_26 : decode cX8_heir 26 = .ok (.aload_n 0, 1) := by decide +kernel
theorem dX8_heir_27 : decode cX8_heir 27 = .ok (.getfield 10, 3) := by decide +kernel
theorem dX8_heir_30 : decode cX8_heir 30 = .ok (.getfield 80, 3) := by decide +kernel
theorem dX8_heir_33 : decode cX8_heir 33 = .ok (.iload_n 1, 1) := by decide +kernel
theorem dX8_heir_34 : decode cX8_heir 34 = .ok (.iaload, 1) := by decide +kernel
theorem dX8_heir_35 : decode cX8_heir 35 = .ok (.istore 4, 2) := by decide +kernel
theorem dX8_heir_37 : decode cX8_heir 37 = .ok (.aload_n 0, 1) := by decide +kernel
theorem dX8_heir_38 : decode cX8_heir 38 = .ok (.getfield 10, 3) := by decide +kernel
theorem dX8_heir_41 : decode cX8_heir 41 = .ok (.getfield 80, 3) := by decide +kernel
theorem dX8_heir_44 : decode cX8_heir 44 = .ok (.iload_n 1, 1) := by decide +kernel
theorem dX8_heir_45 : decode cX8_heir 45 = .ok (.iload_n 2, 1) := by decide +kernel
theorem dX8_heir_46 : decode cX8_heir 46 = .ok (.iastore, 1) := by decide +kernel
theorem dX8_heir_47 : decode cX8_heir 47 = .ok (.aload_n 0, 1) := by decide +kernel
theorem dX8_heir_48 : decode cX8_heir 48 = .ok (.getfield 10, 3) := by decide +kernel
theorem dX8_heir_51 : decode cX8_heir 51 = .ok (.getfield 83, 3) := by decide +kernel
theorem dX8_heir_54 : decode cX8_heir 54 = .ok (.iload_n 1, 1) := by decide +kernel
theorem dX8_heir_55 : decode cX8_heir 55 = .ok (.iload_n 3, 1) := by decide +kernel
theorem dX8_heir_56 : decode cX8_heir 56 = .ok (.iastore, 1) := by decide +kernel
theorem dX8_heir_57 : decode cX8_heir 57 = .ok (.aload_n 0, 1) := by decide +kernel
theorem dX8_heir_58 : decode cX8_heir 58 = .ok (.getfield 10, 3) := by decide +kernel
theorem dX8_heir_61 : decode cX8_heir 61 = .ok (.getfield 86, 3) := by decide +kernel
theorem dX8_heir_64 : decode cX8_heir 64 = .ok (.iload_n 1, 1) := by decide +kernel
theorem dX8_heir_65 : decode cX8_heir 65 = .ok (.iconst 0, 1) := by decide +kernel
theorem dX8_heir_66 : decode cX8_heir 66 = .ok (.iastore, 1) := by decide +kernel
theorem dX8_heir_67 : decode cX8_heir 67 = .ok (.aload_n 0, 1) := by decide +kernel
theorem dX8_heir_68 : decode cX8_heir 68 = .ok (.getfield 10, 3) := by decide +kernel
theorem dX8_heir_71 : decode cX8_heir 71 = .ok (.getfield 89, 3) := by decide +kernel
theorem dX8_heir_74 : decode cX8_heir 74 = .ok (.iload_n 1, 1) := by decide +kernel
theorem dX8_heir_75 : decode cX8_heir 75 = .ok (.bipush (-6), 2) := by decide +kernel
theorem dX8_heir_77 : decode cX8_heir 77 = .ok (.iastore, 1) := by decide +kernel
theorem dX8_heir_78 : decode cX8_heir 78 = .ok (.iload 4, 2) := by decide +kernel
theorem dX8_heir_80 : decode cX8_heir 80 = .ok (.ireturn, 1) := by decide +kernel
theorem dX8_say_0 : decode cX8_say 0 = .ok (.iload_n 1, 1) := by decide +kernel
theorem dX8_say_1 : decode cX8_say 1 = .ok (.bipush 33, 2) := by decide +kernel
theorem dX8_say_3 : decode cX8_say 3 = .ok (.bipush 126, 2) := by decide +kernel
theorem dX8_say_5 : decode cX8_say 5 = .ok (.invokestatic 66, 3) := by decide +kernel
theorem dX8_say_8 : decode cX8_say 8 = .ok (.ifCond .ne 6, 3) := by decide +kernel
theorem dX8_say_11 : decode cX8_say 11 = .ok (.bipush (-2), 2) := by decide +kernel
theorem dX8_say_13 : decode cX8_say 13 = .ok (.ireturn, 1) := by decide +kernel
theorem dX8_say_14 : decode cX8_say 14 = .ok (.aload_n 0, 1) := by decide +kernel
theorem dX8_say_15 : decode cX8_say 15 = .ok (.getfield 26, 3) := by decide +kernel
theorem dX8_say_18 : decode cX8_say 18 = .ok (.iload_n 1, 1) := by decide +kernel
theorem dX8_say_19 : decode cX8_say 19 = .ok (.invokevirtual 92, 3) := by decide +kernel
theorem dX8_say_22 : decode cX8_say 22 = .ok (.ireturn, 1) := by decide +kernel
theorem dX8_wipe_0 : decode cX8_wipe 0 = .ok (.aload_n 0, 1) := by decide +kernel
theorem dX8_wipe_1 : decode cX8_wipe 1 = .ok (.getfield 26, 3) := by decide +kernel
theorem dX8_wipe_4 : decode cX8_wipe 4 = .ok (.invokevirtual 96, 3) := by decide +kernel
theorem dX8_wipe_7 : decode cX8_wipe 7 = .ok (.ireturn, 1) := by decide +kernel
theorem dX8_fault_0 : decode cX8_fault 0 = .ok (.aload_n 0, 1) := by decide +kernel
theorem dX8_fault_1 : decode cX8_fault 1 = .ok (.getfield 26, 3) := by decide +kernel
theorem dX8_fault_4 : decode cX8_fault 4 = .ok (.invokevirtual 100, 3) := by decide +kernel
theorem dX8_fault_7 : decode cX8_fault 7 = .ok (.ireturn, 1) := by decide +kernel
theorem dX8_judge_0 : decode cX8_judge 0 = .ok (.iload_n 1, 1) := by decide +kernel
theorem dX8_judge_1 : decode cX8_judge 1 = .ok (.iconst 0, 1) := by decide +kernel
theorem dX8_judge_2 : decode cX8_judge 2 = .ok (.iconst 2, 1) := by decide +kernel
theorem dX8_judge_3 : decode cX8_judge 3 = .ok (.invokestatic 66, 3) := by decide +kernel
theorem dX8_judge_6 : decode cX8_judge 6 = .ok (.ifCond .ne 6, 3) := by decide +kernel
theorem dX8_judge_9 : decode cX8_judge 9 = .ok (.bipush (-2), 2) := by decide +kernel
theorem dX8_judge_11 : decode cX8_judge 11 = .ok (.ireturn, 1) := by decide +kernel
theorem dX8_judge_12 : decode cX8_judge 12 = .ok (.aload_n 0, 1) := by decide +kernel
theorem dX8_judge_13 : decode cX8_judge 13 = .ok (.invokevirtual 103, 3) := by decide +kernel
theorem dX8_judge_16 : decode cX8_judge 16 = .ok (.istore_n 2, 1) := by decide +kernel
theorem dX8_judge_17 : decode cX8_judge 17 = .ok (.iload_n 2, 1) := by decide +kernel
theorem dX8_judge_18 : decode cX8_judge 18 = .ok (.bipush (-5), 2) := by decide +kernel
theorem dX8_judge_20 : decode cX8_judge 20 = .ok (.if_icmp .eq 14, 3) := by decide +kernel
theorem dX8_judge_23 : decode cX8_judge 23 = .ok (.iload_n 2, 1) := by decide +kernel
theorem dX8_judge_24 : decode cX8_judge 24 = .ok (.bipush (-3), 2) := by decide +kernel
theorem dX8_judge_26 : decode cX8_judge 26 = .ok (.if_icmp .ne 10, 3) := by decide +kernel
theorem dX8_judge_29 : decode cX8_judge 29 = .ok (.iload_n 1, 1) := by decide +kernel
theorem dX8_judge_30 : decode cX8_judge 30 = .ok (.iconst 2, 1) := by decide +kernel
theorem dX8_judge_31 : decode cX8_judge 31 = .ok (.if_icmp .ne 5, 3) := by decide +kernel
theorem dX8_judge_34 : decode cX8_judge 34 = .ok (.iload_n 2, 1) := by decide +kernel
theorem dX8_judge_35 : decode cX8_judge 35 = .ok (.ireturn, 1) := by decide +kernel
theorem dX8_judge_36 : decode cX8_judge 36 = .ok (.iload_n 1, 1) := by decide +kernel
theorem dX8_judge_37 : decode cX8_judge 37 = .ok (.ifCond .ne 11, 3) := by decide +kernel
theorem dX8_judge_40 : decode cX8_judge 40 = .ok (.aload_n 0, 1) := by decide +kernel
theorem dX8_judge_41 : decode cX8_judge 41 = .ok (.getfield 33, 3) := by decide +kernel
theorem dX8_judge_44 : decode cX8_judge 44 = .ok (.getfield 106, 3) := by decide +kernel
theorem dX8_judge_47 : decode cX8_judge 47 = .ok (.ireturn, 1) := by decide +kernel
theorem dX8_judge_48 : decode cX8_judge 48 = .ok (.iload_n 1, 1) := by decide +kernel
theorem dX8_judge_49 : decode cX8_judge 49 = .ok (.iconst 1, 1) := by decide +kernel
theorem dX8_judge_50 : decode cX8_judge 50 = .ok (.if_icmp .ne 13, 3) := by decide +kernel
theorem dX8_judge_53 : decode cX8_judge 53 = .ok (.aload_n 0, 1) := by decide +kernel
theorem dX8_judge_54 : decode cX8_judge 54 = .ok (.getfield 33, 3) := by decide +kernel
theorem dX8_judge_57 : decode cX8_judge 57 = .ok (.getfield 110, 3) := by decide +kernel
theorem dX8_judge_60 : decode cX8_judge 60 = .ok (.goto 10, 3) := by decide +kernel
theorem dX8_judge_63 : decode cX8_judge 63 = .ok (.aload_n 0, 1) := by decide +kernel
theorem dX8_judge_64 : decode cX8_judge 64 = .ok (.getfield 33, 3) := by decide +kernel
theorem dX8_judge_67 : decode cX8_judge 67 = .ok (.getfield 113, 3) := by decide +kernel
theorem dX8_judge_70 : decode cX8_judge 70 = .ok (.ireturn, 1) := by decide +kernel
theorem dX8_behind_0 : decode cX8_behind 0 = .ok (.iload_n 1, 1) := by decide +kernel
theorem dX8_behind_1 : decode cX8_behind 1 = .ok (.invokestatic 60, 3) := by decide +kernel
theorem dX8_behind_4 : decode cX8_behind 4 = .ok (.ifCond .ne 5, 3) := by decide +kernel
theorem dX8_behind_7 : decode cX8_behind 7 = .ok (.iconst (-1), 1) := by decide +kernel
theorem dX8_behind_8 : decode cX8_behind 8 = .ok (.ireturn, 1) := by decide +kernel
theorem dX8_behind_9 : decode cX8_behind 9 = .ok (.iload_n 2, 1) := by decide +kernel
theorem dX8_behind_10 : decode cX8_behind 10 = .ok (.iconst 0, 1) := by decide +kernel
theorem dX8_behind_11 : decode cX8_behind 11 = .ok (.iconst 2, 1) := by decide +kernel
theorem dX8_behind_12 : decode cX8_behind 12 = .ok (.invokestatic 66, 3) := by decide +kernel
theorem dX8_behind_15 : decode cX8_behind 15 = .ok (.ifCond .ne 6, 3) := by decide +kernel
theorem dX8_behind_18 : decode cX8_behind 18 = .ok (.bipush (-2), 2) := by decide +kernel
theorem dX8_behind_20 : decode cX8_behind 20 = .ok (.ireturn, 1) := by decide +kernel
theorem dX8_behind_21 : decode cX8_behind 21 = .ok (.aload_n 0, 1) := by decide +kernel
theorem dX8_behind_22 : decode cX8_behind 22 = .ok (.invokevirtual 103, 3) := by decide +kernel
theorem dX8_behind_25 : decode cX8_behind 25 = .ok (.istore_n 3, 1) := by decide +kernel
theorem dX8_behind_26 : decode cX8_behind 26 = .ok (.iload_n 3, 1) := by decide +kernel
theorem dX8_behind_27 : decode cX8_behind 27 = .ok (.ifCond .eq 5, 3) := by decide +kernel
theorem dX8_behind_30 : decode cX8_behind 30 = .ok (.iload_n 3, 1) := by decide +kernel
theorem dX8_behind_31 : decode cX8_behind 31 = .ok (.ireturn, 1) := by decide +kernel
theorem dX8_behind_32 : decode cX8_behind 32 = .ok (.iload_n 2, 1) := by decide +kernel
theorem dX8_behind_33 : decode cX8_behind 33 = .ok (.ifCond .ne 16, 3) := by decide +kernel
theorem dX8_behind_36 : decode cX8_behind 36 = .ok (.aload_n 0, 1) := by decide +kernel
theorem dX8_behind_37 : decode cX8_behind 37 = .ok (.getfield 33, 3) := by decide +kernel
theorem dX8_behind_40 : decode cX8_behind 40 = .ok (.getfield 116, 3) := by decide +kernel
theorem dX8_behind_43 : decode cX8_behind 43 = .ok (.getfield 80, 3) := by decide +kernel
theorem dX8_behind_46 : decode cX8_behind 46 = .ok (.iload_n 1, 1) := by decide +kernel
theorem dX8_behind_47 : decode cX8_behind 47 = .ok (.iaload, 1) := by decide +kernel
theorem dX8_behind_48 : decode cX8_behind 48 = .ok (.ireturn, 1) := by decide +kernel
theorem dX8_behind_49 : decode cX8_behind 49 = .ok (.iload_n 2, 1) := by decide +kernel
theorem dX8_behind_50 : decode cX8_behind 50 = .ok (.iconst 1, 1) := by decide +kernel
theorem dX8_behind_51 : decode cX8_behind 51 = .ok (.if_icmp .ne 18, 3) := by decide +kernel
theorem dX8_behind_54 : decode cX8_behind 54 = .ok (.aload_n 0, 1) := by decide +kernel
theorem dX8_behind_55 : decode cX8_behind 55 = .ok (.getfield 33, 3) := by decide +kernel
theorem dX8_behind_58 : decode cX8_behind 58 = .ok (.getfield 116, 3) := by decide +kernel
theorem dX8_behind_61 : decode cX8_behind 61 = .ok (.getfield 86, 3) := by decide +kernel
theorem dX8_behind_64 : decode cX8_behind 64 = .ok (.iload_n 1, 1) := by decide +kernel
theorem dX8_behind_65 : decode cX8_behind 65 = .ok (.iaload, 1) := by decide +kernel
theorem dX8_behind_66 : decode cX8_behind 66 = .ok (.goto 15, 3) := by decide +kernel
theorem dX8_behind_69 : decode cX8_behind 69 = .ok (.aload_n 0, 1) := by decide +kernel
theorem dX8_behind_70 : decode cX8_behind 70 = .ok (.getfield 33, 3) := by decide +kernel
theorem dX8_behind_73 : decode cX8_behind 73 = .ok (.getfield 116, 3) := by decide +kernel
theorem dX8_behind_76 : decode cX8_behind 76 = .ok (.getfield 89, 3) := by decide +kernel
theorem dX8_behind_79 : decode cX8_behind 79 = .ok (.iload_n 1, 1) := by decide +kernel
theorem dX8_behind_80 : decode cX8_behind 80 = .ok (.iaload, 1) := by decide +kernel
theorem dX8_behind_81 : decode cX8_behind 81 = .ok (.ireturn, 1) := by decide +kernel
theorem dX8_stands_0 : decode cX8_stands 0 = .ok (.iload_n 1, 1) := by decide +kernel
theorem dX8_stands_1 : decode cX8_stands 1 = .ok (.invokestatic 56, 3) := by decide +kernel
theorem dX8_stands_4 : decode cX8_stands 4 = .ok (.ifCond .ne 5, 3) := by decide +kernel
theorem dX8_stands_7 : decode cX8_stands 7 = .ok (.iconst (-1), 1) := by decide +kernel
theorem dX8_stands_8 : decode cX8_stands 8 = .ok (.ireturn, 1) := by decide +kernel
theorem dX8_stands_9 : decode cX8_stands 9 = .ok (.iload_n 2, 1) := by decide +kernel
theorem dX8_stands_10 : decode cX8_stands 10 = .ok (.iconst 0, 1) := by decide +kernel
theorem dX8_stands_11 : decode cX8_stands 11 = .ok (.iconst 2, 1) := by decide +kernel
theorem dX8_stands_12 : decode cX8_stands 12 = .ok (.invokestatic 66, 3) := by decide +kernel
theorem dX8_stands_15 : decode cX8_stands 15 = .ok (.ifCond .ne 6, 3) := by decide +kernel
theorem dX8_stands_18 : decode cX8_stands 18 = .ok (.bipush (-2), 2) := by decide +kernel
theorem dX8_stands_20 : decode cX8_stands 20 = .ok (.ireturn, 1) := by decide +kernel
theorem dX8_stands_21 : decode cX8_stands 21 = .ok (.aload_n 0, 1) := by decide +kernel
theorem dX8_stands_22 : decode cX8_stands 22 = .ok (.invokevirtual 103, 3) := by decide +kernel
theorem dX8_stands_25 : decode cX8_stands 25 = .ok (.istore_n 3, 1) := by decide +kernel
theorem dX8_stands_26 : decode cX8_stands 26 = .ok (.iload_n 3, 1) := by decide +kernel
theorem dX8_stands_27 : decode cX8_stands 27 = .ok (.ifCond .eq 5, 3) := by decide +kernel
theorem dX8_stands_30 : decode cX8_stands 30 = .ok (.iload_n 3, 1) := by decide +kernel
theorem dX8_stands_31 : decode cX8_stands 31 = .ok (.ireturn, 1) := by decide +kernel
theorem dX8_stands_32 : decode cX8_stands 32 = .ok (.iload_n 2, 1) := by decide +kernel
theorem dX8_stands_33 : decode cX8_stands 33 = .ok (.ifCond .ne 16, 3) := by decide +kernel
theorem dX8_stands_36 : decode cX8_stands 36 = .ok (.aload_n 0, 1) := by decide +kernel
theorem dX8_stands_37 : decode cX8_stands 37 = .ok (.getfield 33, 3) := by decide +kernel
theorem dX8_stands_40 : decode cX8_stands 40 = .ok (.getfield 116, 3) := by decide +kernel
theorem dX8_stands_43 : decode cX8_stands 43 = .ok (.getfield 70, 3) := by decide +kernel
theorem dX8_stands_46 : decode cX8_stands 46 = .ok (.iload_n 1, 1) := by decide +kernel
theorem dX8_stands_47 : decode cX8_stands 47 = .ok (.iaload, 1) := by decide +kernel
theorem dX8_stands_48 : decode cX8_stands 48 = .ok (.ireturn, 1) := by decide +kernel
theorem dX8_stands_49 : decode cX8_stands 49 = .ok (.iload_n 2, 1) := by decide +kernel
theorem dX8_stands_50 : decode cX8_stands 50 = .ok (.iconst 1, 1) := by decide +kernel
theorem dX8_stands_51 : decode cX8_stands 51 = .ok (.if_icmp .ne 18, 3) := by decide +kernel
theorem dX8_stands_54 : decode cX8_stands 54 = .ok (.aload_n 0, 1) := by decide +kernel
theorem dX8_stands_55 : decode cX8_stands 55 = .ok (.getfield 33, 3) := by decide +kernel
theorem dX8_stands_58 : decode cX8_stands 58 = .ok (.getfield 116, 3) := by decide +kernel
theorem dX8_stands_61 : decode cX8_stands 61 = .ok (.getfield 74, 3) := by decide +kernel
theorem dX8_stands_64 : decode cX8_stands 64 = .ok (.iload_n 1, 1) := by decide +kernel
theorem dX8_stands_65 : decode cX8_stands 65 = .ok (.iaload, 1) := by decide +kernel
theorem dX8_stands_66 : decode cX8_stands 66 = .ok (.goto 15, 3) := by decide +kernel
theorem dX8_stands_69 : decode cX8_stands 69 = .ok (.aload_n 0, 1) := by decide +kernel
theorem dX8_stands_70 : decode cX8_stands 70 = .ok (.getfield 33, 3) := by decide +kernel
theorem dX8_stands_73 : decode cX8_stands 73 = .ok (.getfield 116, 3) := by decide +kernel
theorem dX8_stands_76 : decode cX8_stands 76 = .ok (.getfield 77, 3) := by decide +kernel
theorem dX8_stands_79 : decode cX8_stands 79 = .ok (.iload_n 1, 1) := by decide +kernel
theorem dX8_stands_80 : decode cX8_stands 80 = .ok (.iaload, 1) := by decide +kernel
theorem dX8_stands_81 : decode cX8_stands 81 = .ok (.ireturn, 1) := by decide +kernel
theorem dX8_house_0 : decode cX8_house 0 = .ok (.iload_n 1, 1) := by decide +kernel
theorem dX8_house_1 : decode cX8_house 1 = .ok (.iconst 0, 1) := by decide +kernel
theorem dX8_house_2 : decode cX8_house 2 = .ok (.iconst 3, 1) := by decide +kernel
theorem dX8_house_3 : decode cX8_house 3 = .ok (.invokestatic 66, 3) := by decide +kernel
theorem dX8_house_6 : decode cX8_house 6 = .ok (.ifCond .ne 6, 3) := by decide +kernel
theorem dX8_house_9 : decode cX8_house 9 = .ok (.bipush (-2), 2) := by decide +kernel
theorem dX8_house_11 : decode cX8_house 11 = .ok (.ireturn, 1) := by decide +kernel
theorem dX8_house_12 : decode cX8_house 12 = .ok (.aload_n 0, 1) := by decide +kernel
theorem dX8_house_13 : decode cX8_house 13 = .ok (.invokevirtual 103, 3) := by decide +kernel
theorem dX8_house_16 : decode cX8_house 16 = .ok (.istore_n 2, 1) := by decide +kernel
theorem dX8_house_17 : decode cX8_house 17 = .ok (.iload_n 2, 1) := by decide +kernel
theorem dX8_house_18 : decode cX8_house 18 = .ok (.ifCond .eq 5, 3) := by decide +kernel
theorem dX8_house_21 : decode cX8_house 21 = .ok (.iload_n 2, 1) := by decide +kernel
theorem dX8_house_22 : decode cX8_house 22 = .ok (.ireturn, 1) := by decide +kernel
theorem dX8_house_23 : decode cX8_house 23 = .ok (.iload_n 1, 1) := by decide +kernel
theorem dX8_house_24 : decode cX8_house 24 = .ok (.tableswitch 61 0 2 #[28, 39, 50], 28) := by decide +kernel
theorem dX8_house_52 : decode cX8_house 52 = .ok (.aload_n 0, 1) := by decide +kernel
theorem dX8_house_53 : decode cX8_house 53 = .ok (.getfield 33, 3) := by decide +kernel
theorem dX8_house_56 : decode cX8_house 56 = .ok (.getfield 116, 3) := by decide +kernel
theorem dX8_house_59 : decode cX8_house 59 = .ok (.invokevirtual 119, 3) := by decide +kernel
theorem dX8_house_62 : decode cX8_house 62 = .ok (.ireturn, 1) := by decide +kernel
theorem dX8_house_63 : decode cX8_house 63 = .ok (.aload_n 0, 1) := by decide +kernel
theorem dX8_house_64 : decode cX8_house 64 = .ok (.getfield 33, 3) := by decide +kernel
theorem dX8_house_67 : decode cX8_house 67 = .ok (.getfield 116, 3) := by decide +kernel
theorem dX8_house_70 : decode cX8_house 70 = .ok (.invokevirtual 122, 3) := by decide +kernel
theorem dX8_house_73 : decode cX8_house 73 = .ok (.ireturn, 1) := by decide +kernel
theorem dX8_house_74 : decode cX8_house 74 = .ok (.aload_n 0, 1) := by decide +kernel
theorem dX8_house_75 : decode cX8_house 75 = .ok (.getfield 33, 3) := by decide +kernel
theorem dX8_house_78 : decode cX8_house 78 = .ok (.getfield 116, 3) := by decide +kernel
theorem dX8_house_81 : decode cX8_house 81 = .ok (.invokevirtual 125, 3) := by decide +kernel
theorem dX8_house_84 : decode cX8_house 84 = .ok (.ireturn, 1) := by decide +kernel
theorem dX8_house_85 : decode cX8_house 85 = .ok (.aload_n 0, 1) := by decide +kernel
theorem dX8_house_86 : decode cX8_house 86 = .ok (.getfield 33, 3) := by decide +kernel
theorem dX8_house_89 : decode cX8_house 89 = .ok (.getfield 116, 3) := by decide +kernel
theorem dX8_house_92 : decode cX8_house 92 = .ok (.getfield 128, 3) := by decide +kernel
theorem dX8_house_95 : decode cX8_house 95 = .ok (.ireturn, 1) := by decide +kernel
theorem dX8_wrong_0 : decode cX8_wrong 0 = .ok (.iload_n 1, 1) := by decide +kernel
theorem dX8_wrong_1 : decode cX8_wrong 1 = .ok (.iconst 0, 1) := by decide +kernel
theorem dX8_wrong_2 : decode cX8_wrong 2 = .ok (.iconst 1, 1) := by decide +kernel
theorem dX8_wrong_3 : decode cX8_wrong 3 = .ok (.invokestatic 66, 3) := by decide +kernel
theorem dX8_wrong_6 : decode cX8_wrong 6 = .ok (.ifCond .ne 6, 3) := by decide +kernel
theorem dX8_wrong_9 : decode cX8_wrong 9 = .ok (.bipush (-2), 2) := by decide +kernel
theorem dX8_wrong_11 : decode cX8_wrong 11 = .ok (.ireturn, 1) := by decide +kernel
theorem dX8_wrong_12 : decode cX8_wrong 12 = .ok (.aload_n 0, 1) := by decide +kernel
theorem dX8_wrong_13 : decode cX8_wrong 13 = .ok (.invokevirtual 103, 3) := by decide +kernel
theorem dX8_wrong_16 : decode cX8_wrong 16 = .ok (.istore_n 2, 1) := by decide +kernel
theorem dX8_wrong_17 : decode cX8_wrong 17 = .ok (.iload_n 2, 1) := by decide +kernel
theorem dX8_wrong_18 : decode cX8_wrong 18 = .ok (.ifCond .eq 5, 3) := by decide +kernel
theorem dX8_wrong_21 : decode cX8_wrong 21 = .ok (.iload_n 2, 1) := by decide +kernel
theorem dX8_wrong_22 : decode cX8_wrong 22 = .ok (.ireturn, 1) := by decide +kernel
theorem dX8_wrong_23 : decode cX8_wrong 23 = .ok (.iload_n 1, 1) := by decide +kernel
theorem dX8_wrong_24 : decode cX8_wrong 24 = .ok (.ifCond .ne 13, 3) := by decide +kernel
theorem dX8_wrong_27 : decode cX8_wrong 27 = .ok (.aload_n 0, 1) := by decide +kernel
theorem dX8_wrong_28 : decode cX8_wrong 28 = .ok (.getfield 33, 3) := by decide +kernel
theorem dX8_wrong_31 : decode cX8_wrong 31 = .ok (.getfield 131, 3) := by decide +kernel
theorem dX8_wrong_34 : decode cX8_wrong 34 = .ok (.goto 10, 3) := by decide +kernel
theorem dX8_wrong_37 : decode cX8_wrong 37 = .ok (.aload_n 0, 1) := by decide +kernel
theorem dX8_wrong_38 : decode cX8_wrong 38 = .ok (.getfield 33, 3) := by decide +kernel
theorem dX8_wrong_41 : decode cX8_wrong 41 = .ok (.getfield 134, 3) := by decide +kernel
theorem dX8_wrong_44 : decode cX8_wrong 44 = .ok (.ireturn, 1) := by decide +kernel
theorem dX8_done_0 : decode cX8_done 0 = .ok (.aload_n 0, 1) := by decide +kernel
theorem dX8_done_1 : decode cX8_done 1 = .ok (.invokevirtual 103, 3) := by decide +kernel
theorem dX8_done_4 : decode cX8_done 4 = .ok (.istore_n 1, 1) := by decide +kernel
theorem dX8_done_5 : decode cX8_done 5 = .ok (.iload_n 1, 1) := by decide +kernel
theorem dX8_done_6 : decode cX8_done 6 = .ok (.ifCond .eq 5, 3) := by decide +kernel
theorem dX8_done_9 : decode cX8_done 9 = .ok (.iload_n 1, 1) := by decide +kernel
theorem dX8_done_10 : decode cX8_done 10 = .ok (.ireturn, 1) := by decide +kernel
theorem dX8_done_11 : decode cX8_done 11 = .ok (.aload_n 0, 1) := by decide +kernel
theorem dX8_done_12 : decode cX8_done 12 = .ok (.getfield 10, 3) := by decide +kernel
theorem dX8_done_15 : decode cX8_done 15 = .ok (.aload_n 0, 1) := by decide +kernel
theorem dX8_done_16 : decode cX8_done 16 = .ok (.getfield 33, 3) := by decide +kernel
theorem dX8_done_19 : decode cX8_done 19 = .ok (.getfield 116, 3) := by decide +kernel
theorem dX8_done_22 : decode cX8_done 22 = .ok (.invokevirtual 137, 3) := by decide +kernel
theorem dX8_done_25 : decode cX8_done 25 = .ok (.aload_n 0, 1) := by decide +kernel
theorem dX8_done_26 : decode cX8_done 26 = .ok (.getfield 26, 3) := by decide +kernel
theorem dX8_done_29 : decode cX8_done 29 = .ok (.invokevirtual 96, 3) := by decide +kernel
theorem dX8_done_32 : decode cX8_done 32 = .ok (.pop, 1) := by decide +kernel
theorem dX8_done_33 : decode cX8_done 33 = .ok (.aload_n 0, 1) := by decide +kernel
theorem dX8_done_34 : decode cX8_done 34 = .ok (.getfield 33, 3) := by decide +kernel
theorem dX8_done_37 : decode cX8_done 37 = .ok (.getfield 141, 3) := by decide +kernel
theorem dX8_done_40 : decode cX8_done 40 = .ok (.ireturn, 1) := by decide +kernel
theorem dX8_seek_0 : decode cX8_seek 0 = .ok (.iload_n 1, 1) := by decide +kernel
theorem dX8_seek_1 : decode cX8_seek 1 = .ok (.iload_n 2, 1) := by decide +kernel
theorem dX8_seek_2 : decode cX8_seek 2 = .ok (.iload_n 3, 1) := by decide +kernel
theorem dX8_seek_3 : decode cX8_seek 3 = .ok (.invokestatic 144, 3) := by decide +kernel
theorem dX8_seek_6 : decode cX8_seek 6 = .ok (.ifCond .eq 13, 3) := by decide +kernel
theorem dX8_seek_9 : decode cX8_seek 9 = .ok (.iload 4, 2) := by decide +kernel
theorem dX8_seek_11 : decode cX8_seek 11 = .ok (.iconst 0, 1) := by decide +kernel
theorem dX8_seek_12 : decode cX8_seek 12 = .ok (.iconst 1, 1) := by decide +kernel
theorem dX8_seek_13 : decode cX8_seek 13 = .ok (.invokestatic 66, 3) := by decide +kernel
theorem dX8_seek_16 : decode cX8_seek 16 = .ok (.ifCond .ne 7, 3) := by decide +kernel
theorem dX8_seek_19 : decode cX8_seek 19 = .ok (.ldc2_w 149, 3) := by decide +kernel
theorem dX8_seek_22 : decode cX8_seek 22 = .ok (.lreturn, 1) := by decide +kernel
theorem dX8_seek_23 : decode cX8_seek 23 = .ok (.iload_n 1, 1) := by decide +kernel
theorem dX8_seek_24 : decode cX8_seek 24 = .ok (.iload_n 2, 1) := by decide +kernel
theorem dX8_seek_25 : decode cX8_seek 25 = .ok (.iload_n 3, 1) := by decide +kernel
theorem dX8_seek_26 : decode cX8_seek 26 = .ok (.invokestatic 151, 3) := by decide +kernel
theorem dX8_seek_29 : decode cX8_seek 29 = .ok (.iload_n 1, 1) := by decide +kernel
theorem dX8_seek_30 : decode cX8_seek 30 = .ok (.iload_n 3, 1) := by decide +kernel
theorem dX8_seek_31 : decode cX8_seek 31 = .ok (.invokestatic 155, 3) := by decide +kernel
theorem dX8_seek_34 : decode cX8_seek 34 = .ok (.iload 4, 2) := by decide +kernel
theorem dX8_seek_36 : decode cX8_seek 36 = .ok (.invokestatic 159, 3) := by decide +kernel
theorem dX8_seek_39 : decode cX8_seek 39 = .ok (.lreturn, 1) := by decide +kernel
theorem dX8_looks_0 : decode cX8_looks 0 = .ok (.iload_n 1, 1) := by decide +kernel
theorem dX8_looks_1 : decode cX8_looks 1 = .ok (.iload_n 2, 1) := by decide +kernel
theorem dX8_looks_2 : decode cX8_looks 2 = .ok (.iload_n 3, 1) := by decide +kernel
theorem dX8_looks_3 : decode cX8_looks 3 = .ok (.invokestatic 144, 3) := by decide +kernel
theorem dX8_looks_6 : decode cX8_looks 6 = .ok (.ifCond .ne 6, 3) := by decide +kernel
theorem dX8_looks_9 : decode cX8_looks 9 = .ok (.bipush (-2), 2) := by decide +kernel
theorem dX8_looks_11 : decode cX8_looks 11 = .ok (.ireturn, 1) := by decide +kernel
theorem dX8_looks_12 : decode cX8_looks 12 = .ok (.iload_n 1, 1) := by decide +kernel
theorem dX8_looks_13 : decode cX8_looks 13 = .ok (.iload_n 2, 1) := by decide +kernel
theorem dX8_looks_14 : decode cX8_looks 14 = .ok (.iload_n 3, 1) := by decide +kernel
theorem dX8_looks_15 : decode cX8_looks 15 = .ok (.invokestatic 163, 3) := by decide +kernel
theorem dX8_looks_18 : decode cX8_looks 18 = .ok (.ireturn, 1) := by decide +kernel
theorem dX8_mix_0 : decode cX8_mix 0 = .ok (.iload_n 1, 1) := by decide +kernel
theorem dX8_mix_1 : decode cX8_mix 1 = .ok (.iconst 2, 1) := by decide +kernel
theorem dX8_mix_2 : decode cX8_mix 2 = .ok (.sipush 998, 3) := by decide +kernel
theorem dX8_mix_5 : decode cX8_mix 5 = .ok (.invokestatic 66, 3) := by decide +kernel
theorem dX8_mix_8 : decode cX8_mix 8 = .ok (.ifCond .eq 20, 3) := by decide +kernel
theorem dX8_mix_11 : decode cX8_mix 11 = .ok (.iload_n 1, 1) := by decide +kernel
theorem dX8_mix_12 : decode cX8_mix 12 = .ok (.iconst 2, 1) := by decide +kernel
theorem dX8_mix_13 : decode cX8_mix 13 = .ok (.irem, 1) := by decide +kernel
theorem dX8_mix_14 : decode cX8_mix 14 = .ok (.ifCond .ne 14, 3) := by decide +kernel
theorem dX8_mix_17 : decode cX8_mix 17 = .ok (.iload_n 2, 1) := by decide +kernel
theorem dX8_mix_18 : decode cX8_mix 18 = .ok (.iconst 0, 1) := by decide +kernel
theorem dX8_mix_19 : decode cX8_mix 19 = .ok (.iload_n 1, 1) := by decide +kernel
theorem dX8_mix_20 : decode cX8_mix 20 = .ok (.iconst 1, 1) := by decide +kernel
theorem dX8_mix_21 : decode cX8_mix 21 = .ok (.isub, 1) := by decide +kernel
theorem dX8_mix_22 : decode cX8_mix 22 = .ok (.invokestatic 66, 3) := by decide +kernel
theorem dX8_mix_25 : decode cX8_mix 25 = .ok (.ifCond .ne 6, 3) := by decide +kernel
theorem dX8_mix_28 : decode cX8_mix 28 = .ok (.bipush (-2), 2) := by decide +kernel
theorem dX8_mix_30 : decode cX8_mix 30 = .ok (.ireturn, 1) := by decide +kernel
theorem dX8_mix_31 : decode cX8_mix 31 = .ok (.iload_n 3, 1) := by decide +kernel
theorem dX8_mix_32 : decode cX8_mix 32 = .ok (.iconst 0, 1) := by decide +kernel
theorem dX8_mix_33 : decode cX8_mix 33 = .ok (.ldc 167, 2) := by decide +kernel
theorem dX8_mix_35 : decode cX8_mix 35 = .ok (.invokestatic 66, 3) := by decide +kernel
theorem dX8_mix_38 : decode cX8_mix 38 = .ok (.ifCond .eq 13, 3) := by decide +kernel
theorem dX8_mix_41 : decode cX8_mix 41 = .ok (.iload 4, 2) := by decide +kernel
theorem dX8_mix_43 : decode cX8_mix 43 = .ok (.iconst 0, 1) := by decide +kernel
theorem dX8_mix_44 : decode cX8_mix 44 = .ok (.iconst 1, 1) := by decide +kernel
theorem dX8_mix_45 : decode cX8_mix 45 = .ok (.invokestatic 66, 3) := by decide +kernel
theorem dX8_mix_48 : decode cX8_mix 48 = .ok (.ifCond .ne 6, 3) := by decide +kernel
theorem dX8_mix_51 : decode cX8_mix 51 = .ok (.bipush (-2), 2) := by decide +kernel
theorem dX8_mix_53 : decode cX8_mix 53 = .ok (.ireturn, 1) := by decide +kernel
theorem dX8_mix_54 : decode cX8_mix 54 = .ok (.iload 4, 2) := by decide +kernel
theorem dX8_mix_56 : decode cX8_mix 56 = .ok (.ifCond .ne 12, 3) := by decide +kernel
theorem dX8_mix_59 : decode cX8_mix 59 = .ok (.iload_n 1, 1) := by decide +kernel
theorem dX8_mix_60 : decode cX8_mix 60 = .ok (.iload_n 2, 1) := by decide +kernel
theorem dX8_mix_61 : decode cX8_mix 61 = .ok (.iload_n 3, 1) := by decide +kernel
theorem dX8_mix_62 : decode cX8_mix 62 = .ok (.invokestatic 168, 3) := by decide +kernel
theorem dX8_mix_65 : decode cX8_mix 65 = .ok (.goto 7, 3) := by decide +kernel
theorem dX8_mix_68 : decode cX8_mix 68 = .ok (.iload_n 1, 1) := by decide +kernel
theorem dX8_mix_69 : decode cX8_mix 69 = .ok (.invokestatic 173, 3) := by decide +kernel
theorem dX8_mix_72 : decode cX8_mix 72 = .ok (.ireturn, 1) := by decide +kernel
theorem dX8_rises_0 : decode cX8_rises 0 = .ok (.iload_n 1, 1) := by decide +kernel
theorem dX8_rises_1 : decode cX8_rises 1 = .ok (.invokestatic 56, 3) := by decide +kernel
theorem dX8_rises_4 : decode cX8_rises 4 = .ok (.ifCond .ne 5, 3) := by decide +kernel
theorem dX8_rises_7 : decode cX8_rises 7 = .ok (.iconst (-1), 1) := by decide +kernel
theorem dX8_rises_8 : decode cX8_rises 8 = .ok (.ireturn, 1) := by decide +kernel
theorem dX8_rises_9 : decode cX8_rises 9 = .ok (.iload_n 2, 1) := by decide +kernel
theorem dX8_rises_10 : decode cX8_rises 10 = .ok (.iconst 0, 1) := by decide +kernel
theorem dX8_rises_11 : decode cX8_rises 11 = .ok (.iconst 1, 1) := by decide +kernel
theorem dX8_rises_12 : decode cX8_rises 12 = .ok (.invokestatic 66, 3) := by decide +kernel
theorem dX8_rises_15 : decode cX8_rises 15 = .ok (.ifCond .ne 6, 3) := by decide +kernel
theorem dX8_rises_18 : decode cX8_rises 18 = .ok (.bipush (-2), 2) := by decide +kernel
theorem dX8_rises_20 : decode cX8_rises 20 = .ok (.ireturn, 1) := by decide +kernel
theorem dX8_rises_21 : decode cX8_rises 21 = .ok (.aload_n 0, 1) := by decide +kernel
theorem dX8_rises_22 : decode cX8_rises 22 = .ok (.getfield 40, 3) := by decide +kernel
theorem dX8_rises_25 : decode cX8_rises 25 = .ok (.aload_n 0, 1) := by decide +kernel
theorem dX8_rises_26 : decode cX8_rises 26 = .ok (.getfield 10, 3) := by decide +kernel
theorem dX8_rises_29 : decode cX8_rises 29 = .ok (.getfield 70, 3) := by decide +kernel
theorem dX8_rises_32 : decode cX8_rises 32 = .ok (.iload_n 1, 1) := by decide +kernel
theorem dX8_rises_33 : decode cX8_rises 33 = .ok (.invokevirtual 176, 3) := by decide +kernel
theorem dX8_rises_36 : decode cX8_rises 36 = .ok (.iload_n 2, 1) := by decide +kernel
theorem dX8_rises_37 : decode cX8_rises 37 = .ok (.ifCond .ne 13, 3) := by decide +kernel
theorem dX8_rises_40 : decode cX8_rises 40 = .ok (.aload_n 0, 1) := by decide +kernel
theorem dX8_rises_41 : decode cX8_rises 41 = .ok (.getfield 40, 3) := by decide +kernel
theorem dX8_rises_44 : decode cX8_rises 44 = .ok (.getfield 180, 3) := by decide +kernel
theorem dX8_rises_47 : decode cX8_rises 47 = .ok (.goto 10, 3) := by decide +kernel
theorem dX8_rises_50 : decode cX8_rises 50 = .ok (.aload_n 0, 1) := by decide +kernel
theorem dX8_rises_51 : decode cX8_rises 51 = .ok (.getfield 40, 3) := by decide +kernel
theorem dX8_rises_54 : decode cX8_rises 54 = .ok (.getfield 183, 3) := by decide +kernel
theorem dX8_rises_57 : decode cX8_rises 57 = .ok (.ireturn, 1) := by decide +kernel
theorem dX8_like_0 : decode cX8_like 0 = .ok (.iload_n 1, 1) := by decide +kernel
theorem dX8_like_1 : decode cX8_like 1 = .ok (.invokestatic 63, 3) := by decide +kernel
theorem dX8_like_4 : decode cX8_like 4 = .ok (.ifCond .eq 13, 3) := by decide +kernel
theorem dX8_like_7 : decode cX8_like 7 = .ok (.iload_n 2, 1) := by decide +kernel
theorem dX8_like_8 : decode cX8_like 8 = .ok (.iconst 0, 1) := by decide +kernel
theorem dX8_like_9 : decode cX8_like 9 = .ok (.bipush 8, 2) := by decide +kernel
theorem dX8_like_11 : decode cX8_like 11 = .ok (.invokestatic 66, 3) := by decide +kernel
theorem dX8_like_14 : decode cX8_like 14 = .ok (.ifCond .ne 6, 3) := by decide +kernel
theorem dX8_like_17 : decode cX8_like 17 = .ok (.bipush (-2), 2) := by decide +kernel
theorem dX8_like_19 : decode cX8_like 19 = .ok (.ireturn, 1) := by decide +kernel
theorem dX8_like_20 : decode cX8_like 20 = .ok (.aload_n 0, 1) := by decide +kernel
theorem dX8_like_21 : decode cX8_like 21 = .ok (.getfield 19, 3) := by decide +kernel
theorem dX8_like_24 : decode cX8_like 24 = .ok (.iload_n 1, 1) := by decide +kernel
theorem dX8_like_25 : decode cX8_like 25 = .ok (.iload_n 2, 1) := by decide +kernel
theorem dX8_like_26 : decode cX8_like 26 = .ok (.iload_n 3, 1) := by decide +kernel
theorem dX8_like_27 : decode cX8_like 27 = .ok (.invokevirtual 185, 3) := by decide +kernel
theorem dX8_like_30 : decode cX8_like 30 = .ok (.ireturn, 1) := by decide +kernel
theorem dX8_forget_0 : decode cX8_forget 0 = .ok (.aload_n 0, 1) := by decide +kernel
theorem dX8_forget_1 : decode cX8_forget 1 = .ok (.getfield 19, 3) := by decide +kernel
theorem dX8_forget_4 : decode cX8_forget 4 = .ok (.invokevirtual 188, 3) := by decide +kernel
theorem dX8_forget_7 : decode cX8_forget 7 = .ok (.ireturn, 1) := by decide +kernel
theorem dX8_own_0 : decode cX8_own 0 = .ok (.iload_n 1, 1) := by decide +kernel
theorem dX8_own_1 : decode cX8_own 1 = .ok (.iconst (-1), 1) := by decide +kernel
theorem dX8_own_2 : decode cX8_own 2 = .ok (.if_icmp .ge 6, 3) := by decide +kernel
theorem dX8_own_5 : decode cX8_own 5 = .ok (.bipush (-6), 2) := by decide +kernel
theorem dX8_own_7 : decode cX8_own 7 = .ok (.ireturn, 1) := by decide +kernel
theorem dX8_own_8 : decode cX8_own 8 = .ok (.iconst 0, 1) := by decide +kernel
theorem dX8_own_9 : decode cX8_own 9 = .ok (.istore_n 2, 1) := by decide +kernel
theorem dX8_own_10 : decode cX8_own 10 = .ok (.iconst 0, 1) := by decide +kernel
theorem dX8_own_11 : decode cX8_own 11 = .ok (.istore_n 3, 1) := by decide +kernel
theorem dX8_own_12 : decode cX8_own 12 = .ok (.iload_n 3, 1) := by decide +kernel
theorem dX8_own_13 : decode cX8_own 13 = .ok (.bipush 40, 2) := by decide +kernel
theorem dX8_own_15 : decode cX8_own 15 = .ok (.if_icmp .ge 38, 3) := by decide +kernel
theorem dX8_own_18 : decode cX8_own 18 = .ok (.aload_n 0, 1) := by decide +kernel
theorem dX8_own_19 : decode cX8_own 19 = .ok (.getfield 19, 3) := by decide +kernel
theorem dX8_own_22 : decode cX8_own 22 = .ok (.aload_n 0, 1) := by decide +kernel
theorem dX8_own_23 : decode cX8_own 23 = .ok (.getfield 10, 3) := by decide +kernel
theorem dX8_own_26 : decode cX8_own 26 = .ok (.getfield 70, 3) := by decide +kernel
theorem dX8_own_29 : decode cX8_own 29 = .ok (.iload_n 3, 1) := by decide +kernel
theorem dX8_own_30 : decode cX8_own 30 = .ok (.iaload, 1) := by decide +kernel
theorem dX8_own_31 : decode cX8_own 31 = .ok (.invokevirtual 189, 3) := by decide +kernel
theorem dX8_own_34 : decode cX8_own 34 = .ok (.ifCond .eq 13, 3) := by decide +kernel
theorem dX8_own_37 : decode cX8_own 37 = .ok (.iload_n 2, 1) := by decide +kernel
theorem dX8_own_38 : decode cX8_own 38 = .ok (.iload_n 1, 1) := by decide +kernel
theorem dX8_own_39 : decode cX8_own 39 = .ok (.if_icmp .ne 5, 3) := by decide +kernel
theorem dX8_own_42 : decode cX8_own 42 = .ok (.iload_n 3, 1) := by decide +kernel
theorem dX8_own_43 : decode cX8_own 43 = .ok (.ireturn, 1) := by decide +kernel
theorem dX8_own_44 : decode cX8_own 44 = .ok (.iinc 2 1, 3) := by decide +kernel
theorem dX8_own_47 : decode cX8_own 47 = .ok (.iinc 3 1, 3) := by decide +kernel
theorem dX8_own_50 : decode cX8_own 50 = .ok (.goto (-38), 3) := by decide +kernel
theorem dX8_own_53 : decode cX8_own 53 = .ok (.iload_n 1, 1) := by decide +kernel
theorem dX8_own_54 : decode cX8_own 54 = .ok (.iconst (-1), 1) := by decide +kernel
theorem dX8_own_55 : decode cX8_own 55 = .ok (.if_icmp .ne 7, 3) := by decide +kernel
theorem dX8_own_58 : decode cX8_own 58 = .ok (.iload_n 2, 1) := by decide +kernel
theorem dX8_own_59 : decode cX8_own 59 = .ok (.goto 5, 3) := by decide +kernel
theorem dX8_own_62 : decode cX8_own 62 = .ok (.bipush (-6), 2) := by decide +kernel
theorem dX8_own_64 : decode cX8_own 64 = .ok (.ireturn, 1) := by decide +kernel
theorem dX8_ask_0 : decode cX8_ask 0 = .ok (.iload_n 1, 1) := by decide +kernel
theorem dX8_ask_1 : decode cX8_ask 1 = .ok (.iconst 0, 1) := by decide +kernel
theorem dX8_ask_2 : decode cX8_ask 2 = .ok (.iconst 1, 1) := by decide +kernel
theorem dX8_ask_3 : decode cX8_ask 3 = .ok (.invokestatic 66, 3) := by decide +kernel
theorem dX8_ask_6 : decode cX8_ask 6 = .ok (.ifCond .ne 6, 3) := by decide +kernel
theorem dX8_ask_9 : decode cX8_ask 9 = .ok (.bipush (-2), 2) := by decide +kernel
theorem dX8_ask_11 : decode cX8_ask 11 = .ok (.ireturn, 1) := by decide +kernel
theorem dX8_ask_12 : decode cX8_ask 12 = .ok (.aload_n 0, 1) := by decide +kernel
theorem dX8_ask_13 : decode cX8_ask 13 = .ok (.getfield 19, 3) := by decide +kernel
theorem dX8_ask_16 : decode cX8_ask 16 = .ok (.aload_n 0, 1) := by decide +kernel
theorem dX8_ask_17 : decode cX8_ask 17 = .ok (.getfield 10, 3) := by decide +kernel
theorem dX8_ask_20 : decode cX8_ask 20 = .ok (.getfield 70, 3) := by decide +kernel
theorem dX8_ask_23 : decode cX8_ask 23 = .ok (.invokevirtual 192, 3) := by decide +kernel
theorem dX8_ask_26 : decode cX8_ask 26 = .ok (.iload_n 1, 1) := by decide +kernel
theorem dX8_ask_27 : decode cX8_ask 27 = .ok (.ifCond .ne 13, 3) := by decide +kernel
theorem dX8_ask_30 : decode cX8_ask 30 = .ok (.aload_n 0, 1) := by decide +kernel
theorem dX8_ask_31 : decode cX8_ask 31 = .ok (.getfield 19, 3) := by decide +kernel
theorem dX8_ask_34 : decode cX8_ask 34 = .ok (.getfield 196, 3) := by decide +kernel
theorem dX8_ask_37 : decode cX8_ask 37 = .ok (.goto 10, 3) := by decide +kernel
theorem dX8_ask_40 : decode cX8_ask 40 = .ok (.aload_n 0, 1) := by decide +kernel
theorem dX8_ask_41 : decode cX8_ask 41 = .ok (.getfield 19, 3) := by decide +kernel
theorem dX8_ask_44 : decode cX8_ask 44 = .ok (.getfield 199, 3) := by decide +kernel
theorem dX8_ask_47 : decode cX8_ask 47 = .ok (.ireturn, 1) := by decide +kernel
theorem dX8_take_0 : decode cX8_take 0 = .ok (.iload_n 1, 1) := by decide +kernel
theorem dX8_take_1 : decode cX8_take 1 = .ok (.iconst 1, 1) := by decide +kernel
theorem dX8_take_2 : decode cX8_take 2 = .ok (.sipush 999, 3) := by decide +kernel
theorem dX8_take_5 : decode cX8_take 5 = .ok (.invokestatic 66, 3) := by decide +kernel
theorem dX8_take_8 : decode cX8_take 8 = .ok (.ifCond .eq 12, 3) := by decide +kernel
theorem dX8_take_11 : decode cX8_take 11 = .ok (.iload_n 2, 1) := by decide +kernel
theorem dX8_take_12 : decode cX8_take 12 = .ok (.iconst 0, 1) := by decide +kernel
theorem dX8_take_13 : decode cX8_take 13 = .ok (.iconst 1, 1) := by decide +kernel
theorem dX8_take_14 : decode cX8_take 14 = .ok (.invokestatic 66, 3) := by decide +kernel
theorem dX8_take_17 : decode cX8_take 17 = .ok (.ifCond .ne 6, 3) := by decide +kernel
theorem dX8_take_20 : decode cX8_take 20 = .ok (.bipush (-2), 2) := by decide +kernel
theorem dX8_take_22 : decode cX8_take 22 = .ok (.ireturn, 1) := by decide +kernel
theorem dX8_take_23 : decode cX8_take 23 = .ok (.iload_n 1, 1) := by decide +kernel
theorem dX8_take_24 : decode cX8_take 24 = .ok (.invokestatic 202, 3) := by decide +kernel
theorem dX8_take_27 : decode cX8_take 27 = .ok (.istore_n 3, 1) := by decide +kernel
theorem dX8_take_28 : decode cX8_take 28 = .ok (.iload_n 2, 1) := by decide +kernel
theorem dX8_take_29 : decode cX8_take 29 = .ok (.ifCond .ne 13, 3) := by decide +kernel
theorem dX8_take_32 : decode cX8_take 32 = .ok (.iload_n 3, 1) := by decide +kernel
theorem dX8_take_33 : decode cX8_take 33 = .ok (.ifCond .ne 7, 3) := by decide +kernel
theorem dX8_take_36 : decode cX8_take 36 = .ok (.iconst 0, 1) := by decide +kernel
theorem dX8_take_37 : decode cX8_take 37 = .ok (.goto 4, 3) := by decide +kernel
theorem dX8_take_40 : decode cX8_take 40 = .ok (.iconst 1, 1) := by decide +kernel
theorem dX8_take_41 : decode cX8_take 41 = .ok (.ireturn, 1) := by decide +kernel
theorem dX8_take_42 : decode cX8_take 42 = .ok (.iload_n 3, 1) := by decide +kernel
theorem dX8_take_43 : decode cX8_take 43 = .ok (.ifCond .ne 8, 3) := by decide +kernel
theorem dX8_take_46 : decode cX8_take 46 = .ok (.bipush (-6), 2) := by decide +kernel
theorem dX8_take_48 : decode cX8_take 48 = .ok (.goto 4, 3) := by decide +kernel
theorem dX8_take_51 : decode cX8_take 51 = .ok (.iload_n 3, 1) := by decide +kernel
theorem dX8_take_52 : decode cX8_take 52 = .ok (.ireturn, 1) := by decide +kernel
theorem dX8_pass_0 : decode cX8_pass 0 = .ok (.iload_n 1, 1) := by decide +kernel
theorem dX8_pass_1 : decode cX8_pass 1 = .ok (.iconst 1, 1) := by decide +kernel
theorem dX8_pass_2 : decode cX8_pass 2 = .ok (.bipush 20, 2) := by decide +kernel
theorem dX8_pass_4 : decode cX8_pass 4 = .ok (.invokestatic 66, 3) := by decide +kernel
theorem dX8_pass_7 : decode cX8_pass 7 = .ok (.ifCond .eq 23, 3) := by decide +kernel
theorem dX8_pass_10 : decode cX8_pass 10 = .ok (.iload_n 2, 1) := by decide +kernel
theorem dX8_pass_11 : decode cX8_pass 11 = .ok (.iconst 0, 1) := by decide +kernel
theorem dX8_pass_12 : decode cX8_pass 12 = .ok (.iload_n 1, 1) := by decide +kernel
theorem dX8_pass_13 : decode cX8_pass 13 = .ok (.iconst 1, 1) := by decide +kernel
theorem dX8_pass_14 : decode cX8_pass 14 = .ok (.isub, 1) := by decide +kernel
theorem dX8_pass_15 : decode cX8_pass 15 = .ok (.invokestatic 66, 3) := by decide +kernel
theorem dX8_pass_18 : decode cX8_pass 18 = .ok (.ifCond .eq 12, 3) := by decide +kernel
theorem dX8_pass_21 : decode cX8_pass 21 = .ok (.iload_n 3, 1) := by decide +kernel
theorem dX8_pass_22 : decode cX8_pass 22 = .ok (.iconst 0, 1) := by decide +kernel
theorem dX8_pass_23 : decode cX8_pass 23 = .ok (.iconst 1, 1) := by decide +kernel
theorem dX8_pass_24 : decode cX8_pass 24 = .ok (.invokestatic 66, 3) := by decide +kernel
theorem dX8_pass_27 : decode cX8_pass 27 = .ok (.ifCond .ne 7, 3) := by decide +kernel
theorem dX8_pass_30 : decode cX8_pass 30 = .ok (.ldc2_w 149, 3) := by decide +kernel
theorem dX8_pass_33 : decode cX8_pass 33 = .ok (.lreturn, 1) := by decide +kernel
theorem dX8_pass_34 : decode cX8_pass 34 = .ok (.iload_n 1, 1) := by decide +kernel
theorem dX8_pass_35 : decode cX8_pass 35 = .ok (.iload_n 2, 1) := by decide +kernel
theorem dX8_pass_36 : decode cX8_pass 36 = .ok (.invokestatic 207, 3) := by decide +kernel
theorem dX8_pass_39 : decode cX8_pass 39 = .ok (.iload_n 1, 1) := by decide +kernel
theorem dX8_pass_40 : decode cX8_pass 40 = .ok (.invokestatic 210, 3) := by decide +kernel
theorem dX8_pass_43 : decode cX8_pass 43 = .ok (.iload_n 3, 1) := by decide +kernel
theorem dX8_pass_44 : decode cX8_pass 44 = .ok (.invokestatic 159, 3) := by decide +kernel
theorem dX8_pass_47 : decode cX8_pass 47 = .ok (.lreturn, 1) := by decide +kernel
theorem dX8_passes_0 : decode cX8_passes 0 = .ok (.iload_n 1, 1) := by decide +kernel
theorem dX8_passes_1 : decode cX8_passes 1 = .ok (.iconst 1, 1) := by decide +kernel
theorem dX8_passes_2 : decode cX8_passes 2 = .ok (.bipush 20, 2) := by decide +kernel
theorem dX8_passes_4 : decode cX8_passes 4 = .ok (.invokestatic 66, 3) := by decide +kernel
theorem dX8_passes_7 : decode cX8_passes 7 = .ok (.ifCond .ne 6, 3) := by decide +kernel
theorem dX8_passes_10 : decode cX8_passes 10 = .ok (.bipush (-2), 2) := by decide +kernel
theorem dX8_passes_12 : decode cX8_passes 12 = .ok (.ireturn, 1) := by decide +kernel
theorem dX8_passes_13 : decode cX8_passes 13 = .ok (.iload_n 1, 1) := by decide +kernel
theorem dX8_passes_14 : decode cX8_passes 14 = .ok (.invokestatic 214, 3) := by decide +kernel
theorem dX8_passes_17 : decode cX8_passes 17 = .ok (.ireturn, 1) := by decide +kernel
theorem dX8_hour_0 : decode cX8_hour 0 = .ok (.iload_n 1, 1) := by decide +kernel
theorem dX8_hour_1 : decode cX8_hour 1 = .ok (.iconst 0, 1) := by decide +kernel
theorem dX8_hour_2 : decode cX8_hour 2 = .ok (.sipush 9999, 3) := by decide +kernel
theorem dX8_hour_5 : decode cX8_hour 5 = .ok (.invokestatic 66, 3) := by decide +kernel
theorem dX8_hour_8 : decode cX8_hour 8 = .ok (.ifCond .eq 22, 3) := by decide +kernel
theorem dX8_hour_11 : decode cX8_hour 11 = .ok (.iload_n 2, 1) := by decide +kernel
theorem dX8_hour_12 : decode cX8_hour 12 = .ok (.iconst 1, 1) := by decide +kernel
theorem dX8_hour_13 : decode cX8_hour 13 = .ok (.bipush 99, 2) := by decide +kernel
theorem dX8_hour_15 : decode cX8_hour 15 = .ok (.invokestatic 66, 3) := by decide +kernel
theorem dX8_hour_18 : decode cX8_hour 18 = .ok (.ifCond .eq 12, 3) := by decide +kernel
theorem dX8_hour_21 : decode cX8_hour 21 = .ok (.iload_n 3, 1) := by decide +kernel
theorem dX8_hour_22 : decode cX8_hour 22 = .ok (.iconst 0, 1) := by decide +kernel
theorem dX8_hour_23 : decode cX8_hour 23 = .ok (.iconst 2, 1) := by decide +kernel
theorem dX8_hour_24 : decode cX8_hour 24 = .ok (.invokestatic 66, 3) := by decide +kernel
theorem dX8_hour_27 : decode cX8_hour 27 = .ok (.ifCond .ne 6, 3) := by decide +kernel
theorem dX8_hour_30 : decode cX8_hour 30 = .ok (.bipush (-2), 2) := by decide +kernel
theorem dX8_hour_32 : decode cX8_hour 32 = .ok (.ireturn, 1) := by decide +kernel
theorem dX8_hour_33 : decode cX8_hour 33 = .ok (.aload_n 0, 1) := by decide +kernel
theorem dX8_hour_34 : decode cX8_hour 34 = .ok (.getfield 33, 3) := by decide +kernel
theorem dX8_hour_37 : decode cX8_hour 37 = .ok (.aload_n 0, 1) := by decide +kernel
theorem dX8_hour_38 : decode cX8_hour 38 = .ok (.getfield 10, 3) := by decide +kernel
theorem dX8_hour_41 : decode cX8_hour 41 = .ok (.iload_n 1, 1) := by decide +kernel
theorem dX8_hour_42 : decode cX8_hour 42 = .ok (.iload_n 2, 1) := by decide +kernel
theorem dX8_hour_43 : decode cX8_hour 43 = .ok (.invokevirtual 217, 3) := by decide +kernel
theorem dX8_hour_46 : decode cX8_hour 46 = .ok (.iload_n 3, 1) := by decide +kernel
theorem dX8_hour_47 : decode cX8_hour 47 = .ok (.ifCond .ne 16, 3) := by decide +kernel
theorem dX8_hour_50 : decode cX8_hour 50 = .ok (.aload_n 0, 1) := by decide +kernel
theorem dX8_hour_51 : decode cX8_hour 51 = .ok (.getfield 33, 3) := by decide +kernel
theorem dX8_hour_54 : decode cX8_hour 54 = .ok (.getfield 116, 3) := by decide +kernel
theorem dX8_hour_57 : decode cX8_hour 57 = .ok (.getfield 80, 3) := by decide +kernel
theorem dX8_hour_60 : decode cX8_hour 60 = .ok (.iconst 0, 1) := by decide +kernel
theorem dX8_hour_61 : decode cX8_hour 61 = .ok (.iaload, 1) := by decide +kernel
theorem dX8_hour_62 : decode cX8_hour 62 = .ok (.ireturn, 1) := by decide +kernel
theorem dX8_hour_63 : decode cX8_hour 63 = .ok (.iload_n 3, 1) := by decide +kernel
theorem dX8_hour_64 : decode cX8_hour 64 = .ok (.iconst 1, 1) := by decide +kernel
theorem dX8_hour_65 : decode cX8_hour 65 = .ok (.if_icmp .ne 16, 3) := by decide +kernel
theorem dX8_hour_68 : decode cX8_hour 68 = .ok (.aload_n 0, 1) := by decide +kernel
theorem dX8_hour_69 : decode cX8_hour 69 = .ok (.getfield 33, 3) := by decide +kernel
theorem dX8_hour_72 : decode cX8_hour 72 = .ok (.getfield 116, 3) := by decide +kernel
theorem dX8_hour_75 : decode cX8_hour 75 = .ok (.invokevirtual 125, 3) := by decide +kernel
theorem dX8_hour_78 : decode cX8_hour 78 = .ok (.goto 13, 3) := by decide +kernel
theorem dX8_hour_81 : decode cX8_hour 81 = .ok (.aload_n 0, 1) := by decide +kernel
theorem dX8_hour_82 : decode cX8_hour 82 = .ok (.getfield 33, 3) := by decide +kernel
theorem dX8_hour_85 : decode cX8_hour 85 = .ok (.getfield 116, 3) := by decide +kernel
theorem dX8_hour_88 : decode cX8_hour 88 = .ok (.invokevirtual 119, 3) := by decide +kernel
theorem dX8_hour_91 : decode cX8_hour 91 = .ok (.ireturn, 1) := by decide +kernel
theorem dX8_image_0 : decode cX8_image 0 = .ok (.iload_n 1, 1) := by decide +kernel
theorem dX8_image_1 : decode cX8_image 1 = .ok (.iconst 0, 1) := by decide +kernel
theorem dX8_image_2 : decode cX8_image 2 = .ok (.iconst 1, 1) := by decide +kernel
theorem dX8_image_3 : decode cX8_image 3 = .ok (.invokestatic 66, 3) := by decide +kernel
theorem dX8_image_6 : decode cX8_image 6 = .ok (.ifCond .ne 6, 3) := by decide +kernel
theorem dX8_image_9 : decode cX8_image 9 = .ok (.bipush (-2), 2) := by decide +kernel
theorem dX8_image_11 : decode cX8_image 11 = .ok (.ireturn, 1) := by decide +kernel
theorem dX8_image_12 : decode cX8_image 12 = .ok (.aload_n 0, 1) := by decide +kernel
theorem dX8_image_13 : decode cX8_image 13 = .ok (.getfield 44, 3) := by decide +kernel
theorem dX8_image_16 : decode cX8_image 16 = .ok (.iload_n 1, 1) := by decide +kernel
theorem dX8_image_17 : decode cX8_image 17 = .ok (.aaload, 1) := by decide +kernel
theorem dX8_image_18 : decode cX8_image 18 = .ok (.aload_n 0, 1) := by decide +kernel
theorem dX8_image_19 : decode cX8_image 19 = .ok (.getfield 10, 3) := by decide +kernel
theorem dX8_image_22 : decode cX8_image 22 = .ok (.invokevirtual 137, 3) := by decide +kernel
theorem dX8_image_25 : decode cX8_image 25 = .ok (.aload_n 0, 1) := by decide +kernel
theorem dX8_image_26 : decode cX8_image 26 = .ok (.getfield 48, 3) := by decide +kernel
theorem dX8_image_29 : decode cX8_image 29 = .ok (.iload_n 1, 1) := by decide +kernel
theorem dX8_image_30 : decode cX8_image 30 = .ok (.aaload, 1) := by decide +kernel
theorem dX8_image_31 : decode cX8_image 31 = .ok (.aload_n 0, 1) := by decide +kernel
theorem dX8_image_32 : decode cX8_image 32 = .ok (.getfield 19, 3) := by decide +kernel
theorem dX8_image_35 : decode cX8_image 35 = .ok (.invokevirtual 221, 3) := by decide +kernel
theorem dX8_image_38 : decode cX8_image 38 = .ok (.aload_n 0, 1) := by decide +kernel
theorem dX8_image_39 : decode cX8_image 39 = .ok (.getfield 52, 3) := by decide +kernel
theorem dX8_image_42 : decode cX8_image 42 = .ok (.iload_n 1, 1) := by decide +kernel
theorem dX8_image_43 : decode cX8_image 43 = .ok (.iconst 1, 1) := by decide +kernel
theorem dX8_image_44 : decode cX8_image 44 = .ok (.bastore, 1) := by decide +kernel
theorem dX8_image_45 : decode cX8_image 45 = .ok (.iconst 1, 1) := by decide +kernel
theorem dX8_image_46 : decode cX8_image 46 = .ok (.ireturn, 1) := by decide +kernel
theorem dX8_restore_0 : decode cX8_restore 0 = .ok (.iload_n 1, 1) := by decide +kernel
theorem dX8_restore_1 : decode cX8_restore 1 = .ok (.iconst 0, 1) := by decide +kernel
theorem dX8_restore_2 : decode cX8_restore 2 = .ok (.iconst 1, 1) := by decide +kernel
theorem dX8_restore_3 : decode cX8_restore 3 = .ok (.invokestatic 66, 3) := by decide +kernel
theorem dX8_restore_6 : decode cX8_restore 6 = .ok (.ifCond .ne 6, 3) := by decide +kernel
theorem dX8_restore_9 : decode cX8_restore 9 = .ok (.bipush (-2), 2) := by decide +kernel
theorem dX8_restore_11 : decode cX8_restore 11 = .ok (.ireturn, 1) := by decide +kernel
theorem dX8_restore_12 : decode cX8_restore 12 = .ok (.aload_n 0, 1) := by decide +kernel
theorem dX8_restore_13 : decode cX8_restore 13 = .ok (.getfield 52, 3) := by decide +kernel
theorem dX8_restore_16 : decode cX8_restore 16 = .ok (.iload_n 1, 1) := by decide +kernel
theorem dX8_restore_17 : decode cX8_restore 17 = .ok (.baload, 1) := by decide +kernel
theorem dX8_restore_18 : decode cX8_restore 18 = .ok (.ifCond .ne 6, 3) := by decide +kernel
theorem dX8_restore_21 : decode cX8_restore 21 = .ok (.bipush (-3), 2) := by decide +kernel
theorem dX8_restore_23 : decode cX8_restore 23 = .ok (.ireturn, 1) := by decide +kernel
theorem dX8_restore_24 : decode cX8_restore 24 = .ok (.aload_n 0, 1) := by decide +kernel
theorem dX8_restore_25 : decode cX8_restore 25 = .ok (.getfield 10, 3) := by decide +kernel
theorem dX8_restore_28 : decode cX8_restore 28 = .ok (.aload_n 0, 1) := by decide +kernel
theorem dX8_restore_29 : decode cX8_restore 29 = .ok (.getfield 44, 3) := by decide +kernel
theorem dX8_restore_32 : decode cX8_restore 32 = .ok (.iload_n 1, 1) := by decide +kernel
theorem dX8_restore_33 : decode cX8_restore 33 = .ok (.aaload, 1) := by decide +kernel
theorem dX8_restore_34 : decode cX8_restore 34 = .ok (.invokevirtual 137, 3) := by decide +kernel
theorem dX8_restore_37 : decode cX8_restore 37 = .ok (.aload_n 0, 1) := by decide +kernel
theorem dX8_restore_38 : decode cX8_restore 38 = .ok (.getfield 19, 3) := by decide +kernel
theorem dX8_restore_41 : decode cX8_restore 41 = .ok (.aload_n 0, 1) := by decide +kernel
theorem dX8_restore_42 : decode cX8_restore 42 = .ok (.getfield 48, 3) := by decide +kernel
theorem dX8_restore_45 : decode cX8_restore 45 = .ok (.iload_n 1, 1) := by decide +kernel
theorem dX8_restore_46 : decode cX8_restore 46 = .ok (.aaload, 1) := by decide +kernel
theorem dX8_restore_47 : decode cX8_restore 47 = .ok (.invokevirtual 221, 3) := by decide +kernel
theorem dX8_restore_50 : decode cX8_restore 50 = .ok (.iconst 1, 1) := by decide +kernel
theorem dX8_restore_51 : decode cX8_restore 51 = .ok (.ireturn, 1) := by decide +kernel
theorem dX8_told_0 : decode cX8_told 0 = .ok (.iload_n 1, 1) := by decide +kernel
theorem dX8_told_1 : decode cX8_told 1 = .ok (.bipush 100, 2) := by decide +kernel
theorem dX8_told_3 : decode cX8_told 3 = .ok (.sipush 399, 3) := by decide +kernel
theorem dX8_told_6 : decode cX8_told 6 = .ok (.invokestatic 66, 3) := by decide +kernel
theorem dX8_told_9 : decode cX8_told 9 = .ok (.ifCond .eq 16, 3) := by decide +kernel
theorem dX8_told_12 : decode cX8_told 12 = .ok (.aload_n 0, 1) := by decide +kernel
theorem dX8_told_13 : decode cX8_told 13 = .ok (.iload_n 1, 1) := by decide +kernel
theorem dX8_told_14 : decode cX8_told 14 = .ok (.bipush 100, 2) := by decide +kernel
theorem dX8_told_16 : decode cX8_told 16 = .ok (.idiv, 1) := by decide +kernel
theorem dX8_told_17 : decode cX8_told 17 = .ok (.iload_n 1, 1) := by decide +kernel
theorem dX8_told_18 : decode cX8_told 18 = .ok (.bipush 100, 2) := by decide +kernel
theorem dX8_told_20 : decode cX8_told 20 = .ok (.irem, 1) := by decide +kernel
theorem dX8_told_21 : decode cX8_told 21 = .ok (.invokevirtual 224, 3) := by decide +kernel
theorem dX8_told_24 : decode cX8_told 24 = .ok (.ireturn, 1) := by decide +kernel
theorem dX8_told_25 : decode cX8_told 25 = .ok (.iload_n 1, 1) := by decide +kernel
theorem dX8_told_26 : decode cX8_told 26 = .ok (.bipush 10, 2) := by decide +kernel
theorem dX8_told_28 : decode cX8_told 28 = .ok (.bipush 49, 2) := by decide +kernel
theorem dX8_told_30 : decode cX8_told 30 = .ok (.invokestatic 66, 3) := by decide +kernel
theorem dX8_told_33 : decode cX8_told 33 = .ok (.ifCond .eq 16, 3) := by decide +kernel
theorem dX8_told_36 : decode cX8_told 36 = .ok (.aload_n 0, 1) := by decide +kernel
theorem dX8_told_37 : decode cX8_told 37 = .ok (.iload_n 1, 1) := by decide +kernel
theorem dX8_told_38 : decode cX8_told 38 = .ok (.bipush 10, 2) := by decide +kernel
theorem dX8_told_40 : decode cX8_told 40 = .ok (.idiv, 1) := by decide +kernel
theorem dX8_told_41 : decode cX8_told 41 = .ok (.iload_n 1, 1) := by decide +kernel
theorem dX8_told_42 : decode cX8_told 42 = .ok (.bipush 10, 2) := by decide +kernel
theorem dX8_told_44 : decode cX8_told 44 = .ok (.irem, 1) := by decide +kernel
theorem dX8_told_45 : decode cX8_told 45 = .ok (.invokevirtual 228, 3) := by decide +kernel
theorem dX8_told_48 : decode cX8_told 48 = .ok (.ireturn, 1) := by decide +kernel
theorem dX8_told_49 : decode cX8_told 49 = .ok (.iload_n 1, 1) := by decide +kernel
theorem dX8_told_50 : decode cX8_told 50 = .ok (.tableswitch 74 0 4 #[34, 42, 50, 58, 66], 34) := by decide +kernel
theorem dX8_told_84 : decode cX8_told 84 = .ok (.aload_n 0, 1) := by decide +kernel
theorem dX8_told_85 : decode cX8_told 85 = .ok (.getfield 26, 3) := by decide +kernel
theorem dX8_told_88 : decode cX8_told 88 = .ok (.getfield 231, 3) := by decide +kernel
theorem dX8_told_91 : decode cX8_told 91 = .ok (.ireturn, 1) := by decide +kernel
theorem dX8_told_92 : decode cX8_told 92 = .ok (.aload_n 0, 1) := by decide +kernel
theorem dX8_told_93 : decode cX8_told 93 = .ok (.getfield 10, 3) := by decide +kernel
theorem dX8_told_96 : decode cX8_told 96 = .ok (.invokevirtual 119, 3) := by decide +kernel
theorem dX8_told_99 : decode cX8_told 99 = .ok (.ireturn, 1) := by decide +kernel
theorem dX8_told_100 : decode cX8_told 100 = .ok (.aload_n 0, 1) := by decide +kernel
theorem dX8_told_101 : decode cX8_told 101 = .ok (.getfield 10, 3) := by decide +kernel
theorem dX8_told_104 : decode cX8_told 104 = .ok (.invokevirtual 125, 3) := by decide +kernel
theorem dX8_told_107 : decode cX8_told 107 = .ok (.ireturn, 1) := by decide +kernel
theorem dX8_told_108 : decode cX8_told 108 = .ok (.aload_n 0, 1) := by decide +kernel
theorem dX8_told_109 : decode cX8_told 109 = .ok (.getfield 10, 3) := by decide +kernel
theorem dX8_told_112 : decode cX8_told 112 = .ok (.getfield 128, 3) := by decide +kernel
theorem dX8_told_115 : decode cX8_told 115 = .ok (.ireturn, 1) := by decide +kernel
theorem dX8_told_116 : decode cX8_told 116 = .ok (.aload_n 0, 1) := by decide +kernel
theorem dX8_told_117 : decode cX8_told 117 = .ok (.getfield 19, 3) := by decide +kernel
theorem dX8_told_120 : decode cX8_told 120 = .ok (.getfield 234, 3) := by decide +kernel
theorem dX8_told_123 : decode cX8_told 123 = .ok (.ireturn, 1) := by decide +kernel
theorem dX8_told_124 : decode cX8_told 124 = .ok (.bipush (-2), 2) := by decide +kernel
theorem dX8_told_126 : decode cX8_told 126 = .ok (.ireturn, 1) := by decide +kernel
theorem dX8_toldOfPlace_0 : decode cX8_toldOfPlace 0 = .ok (.iload_n 2, 1) := by decide +kernel
theorem dX8_toldOfPlace_1 : decode cX8_toldOfPlace 1 = .ok (.invokestatic 56, 3) := by decide +kernel
theorem dX8_toldOfPlace_4 : decode cX8_toldOfPlace 4 = .ok (.ifCond .ne 6, 3) := by decide +kernel
theorem dX8_toldOfPlace_7 : decode cX8_toldOfPlace 7 = .ok (.bipush (-2), 2) := by decide +kernel
theorem dX8_toldOfPlace_9 : decode cX8_toldOfPlace 9 = .ok (.ireturn, 1) := by decide +kernel
theorem dX8_toldOfPlace_10 : decode cX8_toldOfPlace 10 = .ok (.iload_n 1, 1) := by decide +kernel
theorem dX8_toldOfPlace_11 : decode cX8_toldOfPlace 11 = .ok (.lookupswitch 45 #[(1, 25), (2, 35)], 25) := by decide +kernel
theorem dX8_toldOfPlace_36 : decode cX8_toldOfPlace 36 = .ok (.aload_n 0, 1) := by decide +kernel
theorem dX8_toldOfPlace_37 : decode cX8_toldOfPlace 37 = .ok (.getfield 10, 3) := by decide +kernel
theorem dX8_toldOfPlace_40 : decode cX8_toldOfPlace 40 = .ok (.getfield 70, 3) := by decide +kernel
theorem dX8_toldOfPlace_43 : decode cX8_toldOfPlace 43 = .ok (.iload_n 2, 1) := by decide +kernel
theorem dX8_toldOfPlace_44 : decode cX8_toldOfPlace 44 = .ok (.iaload, 1) := by decide +kernel
theorem dX8_toldOfPlace_45 : decode cX8_toldOfPlace 45 = .ok (.ireturn, 1) := by decide +kernel
theorem dX8_toldOfPlace_46 : decode cX8_toldOfPlace 46 = .ok (.aload_n 0, 1) := by decide +kernel
theorem dX8_toldOfPlace_47 : decode cX8_toldOfPlace 47 = .ok (.getfield 10, 3) := by decide +kernel
theorem dX8_toldOfPlace_50 : decode cX8_toldOfPlace 50 = .ok (.getfield 74, 3) := by decide +kernel
theorem dX8_toldOfPlace_53 : decode cX8_toldOfPlace 53 = .ok (.iload_n 2, 1) := by decide +kernel
theorem dX8_toldOfPlace_54 : decode cX8_toldOfPlace 54 = .ok (.iaload, 1) := by decide +kernel
theorem dX8_toldOfPlace_55 : decode cX8_toldOfPlace 55 = .ok (.ireturn, 1) := by decide +kernel
theorem dX8_toldOfPlace_56 : decode cX8_toldOfPlace 56 = .ok (.aload_n 0, 1) := by decide +kernel
theorem dX8_toldOfPlace_57 : decode cX8_toldOfPlace 57 = .ok (.getfield 10, 3) := by decide +kernel
theorem dX8_toldOfPlace_60 : decode cX8_toldOfPlace 60 = .ok (.getfield 77, 3) := by decide +kernel
theorem dX8_toldOfPlace_63 : decode cX8_toldOfPlace 63 = .ok (.iload_n 2, 1) := by decide +kernel
theorem dX8_toldOfPlace_64 : decode cX8_toldOfPlace 64 = .ok (.iaload, 1) := by decide +kernel
theorem dX8_toldOfPlace_65 : decode cX8_toldOfPlace 65 = .ok (.ireturn, 1) := by decide +kernel
theorem dX8_toldOfHeir_0 : decode cX8_toldOfHeir 0 = .ok (.iload_n 2, 1) := by decide +kernel
theorem dX8_toldOfHeir_1 : decode cX8_toldOfHeir 1 = .ok (.invokestatic 60, 3) := by decide +kernel
theorem dX8_toldOfHeir_4 : decode cX8_toldOfHeir 4 = .ok (.ifCond .ne 6, 3) := by decide +kernel
theorem dX8_toldOfHeir_7 : decode cX8_toldOfHeir 7 = .ok (.bipush (-2), 2) := by decide +kernel
theorem dX8_toldOfHeir_9 : decode cX8_toldOfHeir 9 = .ok (.ireturn, 1) := by decide +kernel
theorem dX8_toldOfHeir_10 : decode cX8_toldOfHeir 10 = .ok (.iload_n 1, 1) := by decide +kernel
theorem dX8_toldOfHeir_11 : decode cX8_toldOfHeir 11 = .ok (.tableswitch 55 1 3 #[25, 35, 45], 25) := by decide +kernel
theorem dX8_toldOfHeir_36 : decode cX8_toldOfHeir 36 = .ok (.aload_n 0, 1) := by decide +kernel
theorem dX8_toldOfHeir_37 : decode cX8_toldOfHeir 37 = .ok (.getfield 10, 3) := by decide +kernel
theorem dX8_toldOfHeir_40 : decode cX8_toldOfHeir 40 = .ok (.getfield 80, 3) := by decide +kernel
theorem dX8_toldOfHeir_43 : decode cX8_toldOfHeir 43 = .ok (.iload_n 2, 1) := by decide +kernel
theorem dX8_toldOfHeir_44 : decode cX8_toldOfHeir 44 = .ok (.iaload, 1) := by decide +kernel
theorem dX8_toldOfHeir_45 : decode cX8_toldOfHeir 45 = .ok (.ireturn, 1) := by decide +kernel
theorem dX8_toldOfHeir_46 : decode cX8_toldOfHeir 46 = .ok (.aload_n 0, 1) := by decide +kernel
theorem dX8_toldOfHeir_47 : decode cX8_toldOfHeir 47 = .ok (.getfield 10, 3) := by decide +kernel
theorem dX8_toldOfHeir_50 : decode cX8_toldOfHeir 50 = .ok (.getfield 83, 3) := by decide +kernel
theorem dX8_toldOfHeir_53 : decode cX8_toldOfHeir 53 = .ok (.iload_n 2, 1) := by decide +kernel
theorem dX8_toldOfHeir_54 : decode cX8_toldOfHeir 54 = .ok (.iaload, 1) := by decide +kernel
theorem dX8_toldOfHeir_55 : decode cX8_toldOfHeir 55 = .ok (.ireturn, 1) := by decide +kernel
theorem dX8_toldOfHeir_56 : decode cX8_toldOfHeir 56 = .ok (.aload_n 0, 1) := by decide +kernel
theorem dX8_toldOfHeir_57 : decode cX8_toldOfHeir 57 = .ok (.getfield 10, 3) := by decide +kernel
theorem dX8_toldOfHeir_60 : decode cX8_toldOfHeir 60 = .ok (.getfield 86, 3) := by decide +kernel
theorem dX8_toldOfHeir_63 : decode cX8_toldOfHeir 63 = .ok (.iload_n 2, 1) := by decide +kernel
theorem dX8_toldOfHeir_64 : decode cX8_toldOfHeir 64 = .ok (.iaload, 1) := by decide +kernel
theorem dX8_toldOfHeir_65 : decode cX8_toldOfHeir 65 = .ok (.ireturn, 1) := by decide +kernel
theorem dX8_toldOfHeir_66 : decode cX8_toldOfHeir 66 = .ok (.aload_n 0, 1) := by decide +kernel
theorem dX8_toldOfHeir_67 : decode cX8_toldOfHeir 67 = .ok (.getfield 10, 3) := by decide +kernel
theorem dX8_toldOfHeir_70 : decode cX8_toldOfHeir 70 = .ok (.getfield 89, 3) := by decide +kernel
theorem dX8_toldOfHeir_73 : decode cX8_toldOfHeir 73 = .ok (.iload_n 2, 1) := by decide +kernel
theorem dX8_toldOfHeir_74 : decode cX8_toldOfHeir 74 = .ok (.iaload, 1) := by decide +kernel
theorem dX8_toldOfHeir_75 : decode cX8_toldOfHeir 75 = .ok (.ireturn, 1) := by decide +kernel
theorem dX8_followText_0 : decode cX8_followText 0 = .ok (.aload_n 0, 1) := by decide +kernel
theorem dX8_followText_1 : decode cX8_followText 1 = .ok (.getfield 26, 3) := by decide +kernel
theorem dX8_followText_4 : decode cX8_followText 4 = .ok (.invokevirtual 100, 3) := by decide +kernel
theorem dX8_followText_7 : decode cX8_followText 7 = .ok (.bipush (-6), 2) := by decide +kernel
theorem dX8_followText_9 : decode cX8_followText 9 = .ok (.if_icmp .eq 6, 3) := by decide +kernel
theorem dX8_followText_12 : decode cX8_followText 12 = .ok (.bipush (-5), 2) := by decide +kernel
theorem dX8_followText_14 : decode cX8_followText 14 = .ok (.ireturn, 1) := by decide +kernel
theorem dX8_followText_15 : decode cX8_followText 15 = .ok (.aload_n 0, 1) := by decide +kernel
theorem dX8_followText_16 : decode cX8_followText 16 = .ok (.getfield 33, 3) := by decide +kernel
theorem dX8_followText_19 : decode cX8_followText 19 = .ok (.aload_n 0, 1) := by decide +kernel
theorem dX8_followText_20 : decode cX8_followText 20 = .ok (.getfield 10, 3) := by decide +kernel
theorem dX8_followText_23 : decode cX8_followText 23 = .ok (.aload_n 0, 1) := by decide +kernel
theorem dX8_followText_24 : decode cX8_followText 24 = .ok (.getfield 26, 3) := by decide +kernel
theorem dX8_followText_27 : decode cX8_followText 27 = .ok (.invokevirtual 235, 3) := by decide +kernel
theorem dX8_followText_30 : decode cX8_followText 30 = .ok (.aload_n 0, 1) := by decide +kernel
theorem dX8_followText_31 : decode cX8_followText 31 = .ok (.getfield 33, 3) := by decide +kernel
theorem dX8_followText_34 : decode cX8_followText 34 = .ok (.getfield 106, 3) := by decide +kernel
theorem dX8_followText_37 : decode cX8_followText 37 = .ok (.bipush (-6), 2) := by decide +kernel
theorem dX8_followText_39 : decode cX8_followText 39 = .ok (.if_icmp .ne 7, 3) := by decide +kernel
theorem dX8_followText_42 : decode cX8_followText 42 = .ok (.iconst 0, 1) := by decide +kernel
theorem dX8_followText_43 : decode cX8_followText 43 = .ok (.goto 5, 3) := by decide +kernel
theorem dX8_followText_46 : decode cX8_followText 46 = .ok (.bipush (-3), 2) := by decide +kernel
theorem dX8_followText_48 : decode cX8_followText 48 = .ok (.ireturn, 1) := by decide +kernel
theorem dX8_isWithin_0 : decode cX8_isWithin 0 = .ok (.iload_n 0, 1) := by decide +kernel
theorem dX8_isWithin_1 : decode cX8_isWithin 1 = .ok (.iload_n 1, 1) := by decide +kernel
theorem dX8_isWithin_2 : decode cX8_isWithin 2 = .ok (.if_icmp .lt 12, 3) := by decide +kernel
theorem dX8_isWithin_5 : decode cX8_isWithin 5 = .ok (.iload_n 0, 1) := by decide +kernel
theorem dX8_isWithin_6 : decode cX8_isWithin 6 = .ok (.iload_n 2, 1) := by decide +kernel
theorem dX8_isWithin_7 : decode cX8_isWithin 7 = .ok (.if_icmp .gt 7, 3) := by decide +kernel
theorem dX8_isWithin_10 : decode cX8_isWithin 10 = .ok (.iconst 1, 1) := by decide +kernel
theorem dX8_isWithin_11 : decode cX8_isWithin 11 = .ok (.goto 4, 3) := by decide +kernel
theorem dX8_isWithin_14 : decode cX8_isWithin 14 = .ok (.iconst 0, 1) := by decide +kernel
theorem dX8_isWithin_15 : decode cX8_isWithin 15 = .ok (.ireturn, 1) := by decide +kernel
theorem dX8_isPlace_0 : decode cX8_isPlace 0 = .ok (.iload_n 0, 1) := by decide +kernel
theorem dX8_isPlace_1 : decode cX8_isPlace 1 = .ok (.ifCond .lt 13, 3) := by decide +kernel
theorem dX8_isPlace_4 : decode cX8_isPlace 4 = .ok (.iload_n 0, 1) := by decide +kernel
theorem dX8_isPlace_5 : decode cX8_isPlace 5 = .ok (.bipush 40, 2) := by decide +kernel
theorem dX8_isPlace_7 : decode cX8_isPlace 7 = .ok (.if_icmp .ge 7, 3) := by decide +kernel
theorem dX8_isPlace_10 : decode cX8_isPlace 10 = .ok (.iconst 1, 1) := by decide +kernel
theorem dX8_isPlace_11 : decode cX8_isPlace 11 = .ok (.goto 4, 3) := by decide +kernel
theorem dX8_isPlace_14 : decode cX8_isPlace 14 = .ok (.iconst 0, 1) := by decide +kernel
theorem dX8_isPlace_15 : decode cX8_isPlace 15 = .ok (.ireturn, 1) := by decide +kernel
theorem dX8_isHeir_0 : decode cX8_isHeir 0 = .ok (.iload_n 0, 1) := by decide +kernel
theorem dX8_isHeir_1 : decode cX8_isHeir 1 = .ok (.ifCond .lt 13, 3) := by decide +kernel
theorem dX8_isHeir_4 : decode cX8_isHeir 4 = .ok (.iload_n 0, 1) := by decide +kernel
theorem dX8_isHeir_5 : decode cX8_isHeir 5 = .ok (.bipush 6, 2) := by decide +kernel
theorem dX8_isHeir_7 : decode cX8_isHeir 7 = .ok (.if_icmp .ge 7, 3) := by decide +kernel
theorem dX8_isHeir_10 : decode cX8_isHeir 10 = .ok (.iconst 1, 1) := by decide +kernel
theorem dX8_isHeir_11 : decode cX8_isHeir 11 = .ok (.goto 4, 3) := by decide +kernel
theorem dX8_isHeir_14 : decode cX8_isHeir 14 = .ok (.iconst 0, 1) := by decide +kernel
theorem dX8_isHeir_15 : decode cX8_isHeir 15 = .ok (.ireturn, 1) := by decide +kernel
theorem dX8_isBeat_0 : decode cX8_isBeat 0 = .ok (.iload_n 0, 1) := by decide +kernel
theorem dX8_isBeat_1 : decode cX8_isBeat 1 = .ok (.iconst 1, 1) := by decide +kernel
theorem dX8_isBeat_2 : decode cX8_isBeat 2 = .ok (.bipush 9, 2) := by decide +kernel
theorem dX8_isBeat_4 : decode cX8_isBeat 4 = .ok (.invokestatic 66, 3) := by decide +kernel
theorem dX8_isBeat_7 : decode cX8_isBeat 7 = .ok (.ireturn, 1) := by decide +kernel
theorem dX8_lowestTerm_0 : decode cX8_lowestTerm 0 = .ok (.lload_n 0, 1) := by decide +kernel
theorem dX8_lowestTerm_1 : decode cX8_lowestTerm 1 = .ok (.lload_n 2, 1) := by decide +kernel
theorem dX8_lowestTerm_2 : decode cX8_lowestTerm 2 = .ok (.invokestatic 239, 3) := by decide +kernel
theorem dX8_lowestTerm_5 : decode cX8_lowestTerm 5 = .ok (.lstore 5, 2) := by decide +kernel
theorem dX8_lowestTerm_7 : decode cX8_lowestTerm 7 = .ok (.iload 4, 2) := by decide +kernel
theorem dX8_lowestTerm_9 : decode cX8_lowestTerm 9 = .ok (.ifCond .ne 7, 3) := by decide +kernel
theorem dX8_lowestTerm_12 : decode cX8_lowestTerm 12 = .ok (.lload_n 0, 1) := by decide +kernel
theorem dX8_lowestTerm_13 : decode cX8_lowestTerm 13 = .ok (.goto 4, 3) := by decide +kernel
theorem dX8_lowestTerm_16 : decode cX8_lowestTerm 16 = .ok (.lload_n 2, 1) := by decide +kernel
theorem dX8_lowestTerm_17 : decode cX8_lowestTerm 17 = .ok (.lstore 7, 2) := by decide +kernel
theorem dX8_lowestTerm_19 : decode cX8_lowestTerm 19 = .ok (.lload 5, 2) := by decide +kernel
theorem dX8_lowestTerm_21 : decode cX8_lowestTerm 21 = .ok (.lconst 0, 1) := by decide +kernel
theorem dX8_lowestTerm_22 : decode cX8_lowestTerm 22 = .ok (.lcmp, 1) := by decide +kernel
theorem dX8_lowestTerm_23 : decode cX8_lowestTerm 23 = .ok (.ifCond .le 11, 3) := by decide +kernel
theorem dX8_lowestTerm_26 : decode cX8_lowestTerm 26 = .ok (.lload 7, 2) := by decide +kernel
theorem dX8_lowestTerm_28 : decode cX8_lowestTerm 28 = .ok (.lload 5, 2) := by decide +kernel
theorem dX8_lowestTerm_30 : decode cX8_lowestTerm 30 = .ok (.ldiv, 1) := by decide +kernel
theorem dX8_lowestTerm_31 : decode cX8_lowestTerm 31 = .ok (.goto 5, 3) := by decide +kernel
theorem dX8_lowestTerm_34 : decode cX8_lowestTerm 34 = .ok (.lload 7, 2) := by decide +kernel
theorem dX8_lowestTerm_36 : decode cX8_lowestTerm 36 = .ok (.lreturn, 1) := by decide +kernel
theorem dX8_commonDivisor_0 : decode cX8_commonDivisor 0 = .ok (.lload_n 0, 1) := by decide +kernel
theorem dX8_commonDivisor_1 : decode cX8_commonDivisor 1 = .ok (.lstore 4, 2) := by decide +kernel
theorem dX8_commonDivisor_3 : decode cX8_commonDivisor 3 = .ok (.lload_n 2, 1) := by decide +kernel
theorem dX8_commonDivisor_4 : decode cX8_commonDivisor 4 = .ok (.lstore 6, 2) := by decide +kernel
theorem dX8_commonDivisor_6 : decode cX8_commonDivisor 6 = .ok (.iconst 0, 1) := by decide +kernel
theorem dX8_commonDivisor_7 : decode cX8_commonDivisor 7 = .ok (.istore 8, 2) := by decide +kernel
theorem dX8_commonDivisor_9 : decode cX8_commonDivisor 9 = .ok (.iload 8, 2) := by decide +kernel
theorem dX8_commonDivisor_11 : decode cX8_commonDivisor 11 = .ok (.sipush 128, 3) := by decide +kernel
theorem dX8_commonDivisor_14 : decode cX8_commonDivisor 14 = .ok (.if_icmp .ge 31, 3) := by decide +kernel
theorem dX8_commonDivisor_17 : decode cX8_commonDivisor 17 = .ok (.lload 6, 2) := by decide +kernel
theorem dX8_commonDivisor_19 : decode cX8_commonDivisor 19 = .ok (.lconst 0, 1) := by decide +kernel
theorem dX8_commonDivisor_20 : decode cX8_commonDivisor 20 = .ok (.lcmp, 1) := by decide +kernel
theorem dX8_commonDivisor_21 : decode cX8_commonDivisor 21 = .ok (.ifCond .eq 24, 3) := by decide +kernel
theorem dX8_commonDivisor_24 : decode cX8_commonDivisor 24 = .ok (.lload 4, 2) := by decide +kernel
theorem dX8_commonDivisor_26 : decode cX8_commonDivisor 26 = .ok (.lload 6, 2) := by decide +kernel
theorem dX8_commonDivisor_28 : decode cX8_commonDivisor 28 = .ok (.lrem, 1) := by decide +kernel
theorem dX8_commonDivisor_29 : decode cX8_commonDivisor 29 = .ok (.lstore 9, 2) := by decide +kernel
theorem dX8_commonDivisor_31 : decode cX8_commonDivisor 31 = .ok (.lload 6, 2) := by decide +kernel
theorem dX8_commonDivisor_33 : decode cX8_commonDivisor 33 = .ok (.lstore 4, 2) := by decide +kernel
theorem dX8_commonDivisor_35 : decode cX8_commonDivisor 35 = .ok (.lload 9, 2) := by decide +kernel
theorem dX8_commonDivisor_37 : decode cX8_commonDivisor 37 = .ok (.lstore 6, 2) := by decide +kernel
theorem dX8_commonDivisor_39 : decode cX8_commonDivisor 39 = .ok (.iinc 8 1, 3) := by decide +kernel
theorem dX8_commonDivisor_42 : decode cX8_commonDivisor 42 = .ok (.goto (-33), 3) := by decide +kernel
theorem dX8_commonDivisor_45 : decode cX8_commonDivisor 45 = .ok (.lload 4, 2) := by decide +kernel
theorem dX8_commonDivisor_47 : decode cX8_commonDivisor 47 = .ok (.lreturn, 1) := by decide +kernel
theorem dX8_firstTaking_0 : decode cX8_firstTaking 0 = .ok (.iconst 1, 1) := by decide +kernel
theorem dX8_firstTaking_1 : decode cX8_firstTaking 1 = .ok (.istore_n 1, 1) := by decide +kernel
theorem dX8_firstTaking_2 : decode cX8_firstTaking 2 = .ok (.iconst 1, 1) := by decide +kernel
theorem dX8_firstTaking_3 : decode cX8_firstTaking 3 = .ok (.istore_n 2, 1) := by decide +kernel
theorem dX8_firstTaking_4 : decode cX8_firstTaking 4 = .ok (.iload_n 2, 1) := by decide +kernel
theorem dX8_firstTaking_5 : decode cX8_firstTaking 5 = .ok (.iload_n 0, 1) := by decide +kernel
theorem dX8_firstTaking_6 : decode cX8_firstTaking 6 = .ok (.if_icmp .gt 21, 3) := by decide +kernel
theorem dX8_firstTaking_9 : decode cX8_firstTaking 9 = .ok (.iload_n 2, 1) := by decide +kernel
theorem dX8_firstTaking_10 : decode cX8_firstTaking 10 = .ok (.sipush 999, 3) := by decide +kernel
theorem dX8_firstTaking_13 : decode cX8_firstTaking 13 = .ok (.if_icmp .gt 14, 3) := by decide +kernel
theorem dX8_firstTaking_16 : decode cX8_firstTaking 16 = .ok (.iload_n 2, 1) := by decide +kernel
theorem dX8_firstTaking_17 : decode cX8_firstTaking 17 = .ok (.istore_n 1, 1) := by decide +kernel
theorem dX8_firstTaking_18 : decode cX8_firstTaking 18 = .ok (.iconst 2, 1) := by decide +kernel
theorem dX8_firstTaking_19 : decode cX8_firstTaking 19 = .ok (.iload_n 2, 1) := by decide +kernel
theorem dX8_firstTaking_20 : decode cX8_firstTaking 20 = .ok (.imul, 1) := by decide +kernel
theorem dX8_firstTaking_21 : decode cX8_firstTaking 21 = .ok (.iconst 1, 1) := by decide +kernel
theorem dX8_firstTaking_22 : decode cX8_firstTaking 22 = .ok (.iadd, 1) := by decide +kernel
theorem dX8_firstTaking_23 : decode cX8_firstTaking 23 = .ok (.istore_n 2, 1) := by decide +kernel
theorem dX8_firstTaking_24 : decode cX8_firstTaking 24 = .ok (.goto (-20), 3) := by decide +kernel
theorem dX8_firstTaking_27 : decode cX8_firstTaking 27 = .ok (.iload_n 0, 1) := by decide +kernel
theorem dX8_firstTaking_28 : decode cX8_firstTaking 28 = .ok (.iload_n 1, 1) := by decide +kernel
theorem dX8_firstTaking_29 : decode cX8_firstTaking 29 = .ok (.isub, 1) := by decide +kernel
theorem dX8_firstTaking_30 : decode cX8_firstTaking 30 = .ok (.ireturn, 1) := by decide +kernel
theorem dX9_init_0 : decode cX9_init 0 = .ok (.aload_n 0, 1) := by decide +kernel
theorem dX9_init_1 : decode cX9_init 1 = .ok (.invokespecial 1, 3) := by decide +kernel
theorem dX9_init_4 : decode cX9_init 4 = .ok (.aload_n 0, 1) := by decide +kernel
theorem dX9_init_5 : decode cX9_init 5 = .ok (.bipush 40, 2) := by decide +kernel
theorem dX9_init_7 : decode cX9_init 7 = .ok (.newarray .int, 2) := by decide +kernel
theorem dX9_init_9 : decode cX9_init 9 = .ok (.putfield 7, 3) := by decide +kernel
theorem dX9_init_12 : decode cX9_init 12 = .ok (.aload_n 0, 1) := by decide +kernel
theorem dX9_init_13 : decode cX9_init 13 = .ok (.bipush 40, 2) := by decide +kernel
theorem dX9_init_15 : decode cX9_init 15 = .ok (.newarray .int, 2) := by decide +kernel
theorem dX9_init_17 : decode cX9_init 17 = .ok (.putfield 13, 3) := by decide +kernel
theorem dX9_init_20 : decode cX9_init 20 = .ok (.aload_n 0, 1) := by decide +kernel
theorem dX9_init_21 : decode cX9_init 21 = .ok (.bipush 40, 2) := by decide +kernel
theorem dX9_init_23 : decode cX9_init 23 = .ok (.newarray .int, 2) := by decide +kernel
theorem dX9_init_25 : decode cX9_init 25 = .ok (.putfield 16, 3) := by decide +kernel
theorem dX9_init_28 : decode cX9_init 28 = .ok (.aload_n 0, 1) := by decide +kernel
theorem dX9_init_29 : decode cX9_init 29 = .ok (.bipush 6, 2) := by decide +kernel
theorem dX9_init_31 : decode cX9_init 31 = .ok (.newarray .int, 2) := by decide +kernel
theorem dX9_init_33 : decode cX9_init 33 = .ok (.putfield 19, 3) := by decide +kernel
theorem dX9_init_36 : decode cX9_init 36 = .ok (.aload_n 0, 1) := by decide +kernel
theorem dX9_init_37 : decode cX9_init 37 = .ok (.bipush 6, 2) := by decide +kernel
theorem dX9_init_39 : decode cX9_init 39 = .ok (.newarray .int, 2) := by decide +kernel
theorem dX9_init_41 : decode cX9_init 41 = .ok (.putfield 22, 3) := by decide +kernel
theorem dX9_init_44 : decode cX9_init 44 = .ok (.aload_n 0, 1) := by decide +kernel
theorem dX9_init_45 : decode cX9_init 45 = .ok (.bipush 6, 2) := by decide +kernel
theorem dX9_init_47 : decode cX9_init 47 = .ok (.newarray .int, 2) := by decide +kernel
theorem dX9_init_49 : decode cX9_init 49 = .ok (.putfield 25, 3) := by decide +kernel
theorem dX9_init_52 : decode cX9_init 52 = .ok (.aload_n 0, 1) := by decide +kernel
theorem dX9_init_53 : decode cX9_init 53 = .ok (.bipush 6, 2) := by decide +kernel
theorem dX9_init_55 : decode cX9_init 55 = .ok (.newarray .int, 2) := by decide +kernel
theorem dX9_init_57 : decode cX9_init 57 = .ok (.putfield 28, 3) := by decide +kernel
theorem dX9_init_60 : decode cX9_init 60 = .ok (.aload_n 0, 1) := by decide +kernel
theorem dX9_init_61 : decode cX9_init 61 = .ok (.bipush 8, 2) := by decide +kernel
theorem dX9_init_63 : decode cX9_init 63 = .ok (.newarray .int, 2) := by decide +kernel
theorem dX9_init_65 : decode cX9_init 65 = .ok (.putfield 31, 3) := by decide +kernel
theorem dX9_init_68 : decode cX9_init 68 = .ok (.aload_n 0, 1) := by decide +kernel
theorem dX9_init_69 : decode cX9_init 69 = .ok (.bipush 8, 2) := by decide +kernel
theorem dX9_init_71 : decode cX9_init 71 = .ok (.newarray .int, 2) := by decide +kernel
theorem dX9_init_73 : decode cX9_init 73 = .ok (.putfield 34, 3) := by decide +kernel
theorem dX9_init_76 : decode cX9_init 76 = .ok (.aload_n 0, 1) := by decide +kernel
theorem dX9_init_77 : decode cX9_init 77 = .ok (.bipush 8, 2) := by decide +kernel
theorem dX9_init_79 : decode cX9_init 79 = .ok (.newarray .int, 2) := by decide +kernel
theorem dX9_init_81 : decode cX9_init 81 = .ok (.putfield 37, 3) := by decide +kernel
theorem dX9_init_84 : decode cX9_init 84 = .ok (.aload_n 0, 1) := by decide +kernel
theorem dX9_init_85 : decode cX9_init 85 = .ok (.bipush 60, 2) := by decide +kernel
theorem dX9_init_87 : decode cX9_init 87 = .ok (.newarray .int, 2) := by decide +kernel
theorem dX9_init_89 : decode cX9_init 89 = .ok (.putfield 40, 3) := by decide +kernel
theorem dX9_init_92 : decode cX9_init 92 = .ok (.aload_n 0, 1) := by decide +kernel
theorem dX9_init_93 : decode cX9_init 93 = .ok (.bipush 60, 2) := by decide +kernel
theorem dX9_init_95 : decode cX9_init 95 = .ok (.newarray .int, 2) := by decide +kernel
theorem dX9_init_97 : decode cX9_init 97 = .ok (.putfield 43, 3) := by decide +kernel
theorem dX9_init_100 : decode cX9_init 100 = .ok (.aload_n 0, 1) := by decide +kernel
theorem dX9_init_101 : decode cX9_init 101 = .ok (.bipush 60, 2) := by decide +kernel
theorem dX9_init_103 : decode cX9_init 103 = .ok (.newarray .int, 2) := by decide +kernel
theorem dX9_init_105 : decode cX9_init 105 = .ok (.putfield 46, 3) := by decide +kernel
theorem dX9_init_108 : decode cX9_init 108 = .ok (.aload_n 0, 1) := by decide +kernel
theorem dX9_init_109 : decode cX9_init 109 = .ok (.bipush 60, 2) := by decide +kernel
theorem dX9_init_111 : decode cX9_init 111 = .ok (.newarray .int, 2) := by decide +kernel
theorem dX9_init_113 : decode cX9_init 113 = .ok (.putfield 49, 3) := by decide +kernel
theorem dX9_init_116 : decode cX9_init 116 = .ok (.aload_n 0, 1) := by decide +kernel
theorem dX9_init_117 : decode cX9_init 117 = .ok (.sipush 139, 3) := by decide +kernel
theorem dX9_init_120 : decode cX9_init 120 = .ok (.newarray .int, 2) := by decide +kernel
theorem dX9_init_122 : decode cX9_init 122 = .ok (.putfield 52, 3) := by decide +kernel
theorem dX9_init_125 : decode cX9_init 125 = .ok (.aload_n 0, 1) := by decide +kernel
theorem dX9_init_126 : decode cX9_init 126 = .ok (.bipush 9, 2) := by decide +kernel
theorem dX9_init_128 : decode cX9_init 128 = .ok (.newarray .int, 2) := by decide +kernel
theorem dX9_init_130 : decode cX9_init 130 = .ok (.putfield 55, 3) := by decide +kernel
theorem dX9_init_133 : decode cX9_init 133 = .ok (.aload_n 0, 1) := by decide +kernel
theorem dX9_init_134 : decode cX9_init 134 = .ok (.bipush 9, 2) := by decide +kernel
theorem dX9_init_136 : decode cX9_init 136 = .ok (.newarray .int, 2) := by decide +kernel
theorem dX9_init_138 : decode cX9_init 138 = .ok (.putfield 58, 3) := by decide +kernel
theorem dX9_init_141 : decode cX9_init 141 = .ok (.aload_n 0, 1) := by decide +kernel
theorem dX9_init_142 : decode cX9_init 142 = .ok (.bipush 40, 2) := by decide +kernel
theorem dX9_init_144 : decode cX9_init 144 = .ok (.newarray .int, 2) := by decide +kernel
theorem dX9_init_146 : decode cX9_init 146 = .ok (.putfield 61, 3) := by decide +kernel
theorem dX9_init_149 : decode cX9_init 149 = .ok (.aload_n 0, 1) := by decide +kernel
theorem dX9_init_150 : decode cX9_init 150 = .ok (.sipush 1000, 3) := by decide +kernel
theorem dX9_init_153 : decode cX9_init 153 = .ok (.newarray .boolean, 2) := by decide +kernel
theorem dX9_init_155 : decode cX9_init 155 = .ok (.putfield 64, 3) := by decide +kernel
theorem dX9_init_158 : decode cX9_init 158 = .ok (.aload_n 0, 1) := by decide +kernel
theorem dX9_init_159 : decode cX9_init 159 = .ok (.sipush 340, 3) := by decide +kernel
theorem dX9_init_162 : decode cX9_init 162 = .ok (.newarray .int, 2) := by decide +kernel
theorem dX9_init_164 : decode cX9_init 164 = .ok (.putfield 68, 3) := by decide +kernel
theorem dX9_init_167 : decode cX9_init 167 = .ok (.aload_n 0, 1) := by decide +kernel
theorem dX9_init_168 : decode cX9_init 168 = .ok (.iconst 2, 1) := by decide +kernel
theorem dX9_init_169 : decode cX9_init 169 = .ok (.newarray .boolean, 2) := by decide +kernel
theorem dX9_init_171 : decode cX9_init 171 = .ok (.putfield 71, 3) := by decide +kernel
theorem dX9_init_174 : decode cX9_init 174 = .ok (.iconst 0, 1) := by decide +kernel
theorem dX9_init_175 : decode cX9_init 175 = .ok (.istore_n 1, 1) := by decide +kernel
theorem dX9_init_176 : decode cX9_init 176 = .ok (.iload_n 1, 1) := by decide +kernel
theorem dX9_init_177 : decode cX9_init 177 = .ok (.bipush 40, 2) := by decide +kernel
theorem dX9_init_179 : decode cX9_init 179 = .ok (.if_icmp .ge 29, 3) := by decide +kernel
theorem dX9_init_182 : decode cX9_init 182 = .ok (.aload_n 0, 1) := by decide +kernel
theorem dX9_init_183 : decode cX9_init 183 = .ok (.getfield 7, 3) := by decide +kernel
theorem dX9_init_186 : decode cX9_init 186 = .ok (.iload_n 1, 1) := by decide +kernel
theorem dX9_init_187 : decode cX9_init 187 = .ok (.iload_n 1, 1) := by decide +kernel
theorem dX9_init_188 : decode cX9_init 188 = .ok (.bipush 9, 2) := by decide +kernel
theorem dX9_init_190 : decode cX9_init 190 = .ok (.irem, 1) := by decide +kernel
theorem dX9_init_191 : decode cX9_init 191 = .ok (.iconst 1, 1) := by decide +kernel
theorem dX9_init_192 : decode cX9_init 192 = .ok (.iadd, 1) := by decide +kernel
theorem dX9_init_193 : decode cX9_init 193 = .ok (.iastore, 1) := by decide +kernel
theorem dX9_init_194 : decode cX9_init 194 = .ok (.aload_n 0, 1) := by decide +kernel
theorem dX9_init_195 : decode cX9_init 195 = .ok (.getfield 16, 3) := by decide +kernel
theorem dX9_init_198 : decode cX9_init 198 = .ok (.iload_n 1, 1) := by decide +kernel
theorem dX9_init_199 : decode cX9_init 199 = .ok (.bipush (-6), 2) := by decide +kernel
theorem dX9_init_201 : decode cX9_init 201 = .ok (.iastore, 1) := by decide +kernel
theorem dX9_init_202 : decode cX9_init 202 = .ok (.iinc 1 1, 3) := by decide +kernel
theorem dX9_init_205 : decode cX9_init 205 = .ok (.goto (-29), 3) := by decide +kernel
theorem dX9_init_208 : decode cX9_init 208 = .ok (.iconst 0, 1) := by decide +kernel
theorem dX9_init_209 : decode cX9_init 209 = .ok (.istore_n 1, 1) := by decide +kernel
theorem dX9_init_210 : decode cX9_init 210 = .ok (.iload_n 1, 1) := by decide +kernel
theorem dX9_init_211 : decode cX9_init 211 = .ok (.bipush 6, 2) := by decide +kernel
theorem dX9_init_213 : decode cX9_init 213 = .ok (.if_icmp .ge 24, 3) := by decide +kernel
theorem dX9_init_216 : decode cX9_init 216 = .ok (.aload_n 0, 1) := by decide +kernel
theorem dX9_init_217 : decode cX9_init 217 = .ok (.getfield 22, 3) := by decide +kernel
theorem dX9_init_220 : decode cX9_init 220 = .ok (.iload_n 1, 1) := by decide +kernel
theorem dX9_init_221 : decode cX9_init 221 = .ok (.iconst 5, 1) := by decide +kernel
theorem dX9_init_222 : decode cX9_init 222 = .ok (.iastore, 1) := by decide +kernel
theorem dX9_init_223 : decode cX9_init 223 = .ok (.aload_n 0, 1) := by decide +kernel
theorem dX9_init_224 : decode cX9_init 224 = .ok (.getfield 28, 3) := by decide +kernel
theorem dX9_init_227 : decode cX9_init 227 = .ok (.iload_n 1, 1) := by decide +kernel
theorem dX9_init_228 : decode cX9_init 228 = .ok (.bipush (-6), 2) := by decide +kernel
theorem dX9_init_230 : decode cX9_init 230 = .ok (.iastore, 1) := by decide +kernel
theorem dX9_init_231 : decode cX9_init 231 = .ok (.iinc 1 1, 3) := by decide +kernel
theorem dX9_init_234 : decode cX9_init 234 = .ok (.goto (-24), 3) := by decide +kernel
theorem dX9_init_237 : decode cX9_init 237 = .ok (.return_, 1) := by decide +kernel
theorem dX9_in_0 : decode cX9_in 0 = .ok (.lload_n 0, 1) := by decide +kernel
theorem dX9_in_1 : decode cX9_in 1 = .ok (.lload_n 2, 1) := by decide +kernel
theorem dX9_in_2 : decode cX9_in 2 = .ok (.lcmp, 1) := by decide +kernel
theorem dX9_in_3 : decode cX9_in 3 = .ok (.ifCond .lt 14, 3) := by decide +kernel
theorem dX9_in_6 : decode cX9_in 6 = .ok (.lload_n 0, 1) := by decide +kernel
theorem dX9_in_7 : decode cX9_in 7 = .ok (.lload 4, 2) := by decide +kernel
theorem dX9_in_9 : decode cX9_in 9 = .ok (.lcmp, 1) := by decide +kernel
theorem dX9_in_10 : decode cX9_in 10 = .ok (.ifCond .gt 7, 3) := by decide +kernel
theorem dX9_in_13 : decode cX9_in 13 = .ok (.iconst 1, 1) := by decide +kernel
theorem dX9_in_14 : decode cX9_in 14 = .ok (.goto 4, 3) := by decide +kernel
theorem dX9_in_17 : decode cX9_in 17 = .ok (.iconst 0, 1) := by decide +kernel
theorem dX9_in_18 : decode cX9_in 18 = .ok (.ireturn, 1) := by decide +kernel
theorem dX9_isPlace_0 : decode cX9_isPlace 0 = .ok (.iload_n 0, 1) := by decide +kernel
theorem dX9_isPlace_1 : decode cX9_isPlace 1 = .ok (.i2l, 1) := by decide +kernel
theorem dX9_isPlace_2 : decode cX9_isPlace 2 = .ok (.lconst 0, 1) := by decide +kernel
theorem dX9_isPlace_3 : decode cX9_isPlace 3 = .ok (.ldc2_w 74, 3) := by decide +kernel
theorem dX9_isPlace_6 : decode cX9_isPlace 6 = .ok (.invokestatic 76, 3) := by decide +kernel
theorem dX9_isPlace_9 : decode cX9_isPlace 9 = .ok (.ireturn, 1) := by decide +kernel
theorem dX9_isHeir_0 : decode cX9_isHeir 0 = .ok (.iload_n 0, 1) := by decide +kernel
theorem dX9_isHeir_1 : decode cX9_isHeir 1 = .ok (.i2l, 1) := by decide +kernel
theorem dX9_isHeir_2 : decode cX9_isHeir 2 = .ok (.lconst 0, 1) := by decide +kernel
theorem dX9_isHeir_3 : decode cX9_isHeir 3 = .ok (.ldc2_w 80, 3) := by decide +kernel
theorem dX9_isHeir_6 : decode cX9_isHeir 6 = .ok (.invokestatic 76, 3) := by decide +kernel
theorem dX9_isHeir_9 : decode cX9_isHeir 9 = .ok (.ireturn, 1) := by decide +kernel
theorem dX9_less_0 : decode cX9_less 0 = .ok (.iload_n 0, 1) := by decide +kernel
theorem dX9_less_1 : decode cX9_less 1 = .ok (.iload_n 1, 1) := by decide +kernel
theorem dX9_less_2 : decode cX9_less 2 = .ok (.if_icmp .ge 7, 3) := by decide +kernel
theorem dX9_less_5 : decode cX9_less 5 = .ok (.iload_n 0, 1) := by decide +kernel
theorem dX9_less_6 : decode cX9_less 6 = .ok (.goto 4, 3) := by decide +kernel
theorem dX9_less_9 : decode cX9_less 9 = .ok (.iload_n 1, 1) := by decide +kernel
theorem dX9_less_10 : decode cX9_less 10 = .ok (.ireturn, 1) := by decide +kernel
theorem dX9_cradle_0 : decode cX9_cradle 0 = .ok (.iload_n 1, 1) := by decide +kernel
theorem dX9_cradle_1 : decode cX9_cradle 1 = .ok (.invokestatic 82, 3) := by decide +kernel
theorem dX9_cradle_4 : decode cX9_cradle 4 = .ok (.ifCond .eq 18, 3) := by decide +kernel
theorem dX9_cradle_7 : decode cX9_cradle 7 = .ok (.iload 4, 2) := by decide +kernel
theorem dX9_cradle_9 : decode cX9_cradle 9 = .ok (.i2l, 1) := by decide +kernel
theorem dX9_cradle_10 : decode cX9_cradle 10 = .ok (.ldc2_w 86, 3) := by decide +kernel
theorem dX9_cradle_13 : decode cX9_cradle 13 = .ok (.ldc2_w 80, 3) := by decide +kernel
theorem dX9_cradle_16 : decode cX9_cradle 16 = .ok (.invokestatic 76, 3) := by decide +kernel
theorem dX9_cradle_19 : decode cX9_cradle 19 = .ok (.ifCond .ne 5, 3) := by decide +kernel
theorem dX9_cradle_22 : decode cX9_cradle 22 = .ok (.iconst (-1), 1) := by decide +kernel
theorem dX9_cradle_23 : decode cX9_cradle 23 = .ok (.ireturn, 1) := by decide +kernel
theorem dX9_cradle_24 : decode cX9_cradle 24 = .ok (.iload_n 2, 1) := by decide +kernel
theorem dX9_cradle_25 : decode cX9_cradle 25 = .ok (.i2l, 1) := by decide +kernel
theorem dX9_cradle_26 : decode cX9_cradle 26 = .ok (.lconst 1, 1) := by decide +kernel
theorem dX9_cradle_27 : decode cX9_cradle 27 = .ok (.ldc2_w 88, 3) := by decide +kernel
theorem dX9_cradle_30 : decode cX9_cradle 30 = .ok (.invokestatic 76, 3) := by decide +kernel
theorem dX9_cradle_33 : decode cX9_cradle 33 = .ok (.ifCond .eq 13, 3) := by decide +kernel
theorem dX9_cradle_36 : decode cX9_cradle 36 = .ok (.iload_n 3, 1) := by decide +kernel
theorem dX9_cradle_37 : decode cX9_cradle 37 = .ok (.i2l, 1) := by decide +kernel
theorem dX9_cradle_38 : decode cX9_cradle 38 = .ok (.lconst 0, 1) := by decide +kernel
theorem dX9_cradle_39 : decode cX9_cradle 39 = .ok (.lconst 1, 1) := by decide +kernel
theorem dX9_cradle_40 : decode cX9_cradle 40 = .ok (.invokestatic 76, 3) := by decide +kernel
theorem dX9_cradle_43 : decode cX9_cradle 43 = .ok (.ifCond .ne 6, 3) := by decide +kernel
theorem dX9_cradle_46 : decode cX9_cradle 46 = .ok (.bipush (-2), 2) := by decide +kernel
theorem dX9_cradle_48 : decode cX9_cradle 48 = .ok (.ireturn, 1) := by decide +kernel
theorem dX9_cradle_49 : decode cX9_cradle 49 = .ok (.aload_n 0, 1) := by decide +kernel
theorem dX9_cradle_50 : decode cX9_cradle 50 = .ok (.getfield 7, 3) := by decide +kernel
theorem dX9_cradle_53 : decode cX9_cradle 53 = .ok (.iload_n 1, 1) := by decide +kernel
theorem dX9_cradle_54 : decode cX9_cradle 54 = .ok (.iaload, 1) := by decide +kernel
theorem dX9_cradle_55 : decode cX9_cradle 55 = .ok (.istore 5, 2) := by decide +kernel
theorem dX9_cradle_57 : decode cX9_cradle 57 = .ok (.aload_n 0, 1) := by decide +kernel
theorem dX9_cradle_58 : decode cX9_cradle 58 = .ok (.getfield 7, 3) := by decide +kernel
theorem dX9_cradle_61 : decode cX9_cradle 61 = .ok (.iload_n 1, 1) := by decide +kernel
theorem dX9_cradle_62 : decode cX9_cradle 62 = .ok (.iload_n 2, 1) := by decide +kernel
theorem dX9_cradle_63 : decode cX9_cradle 63 = .ok (.iastore, 1) := by decide +kernel
theorem dX9_cradle_64 : decode cX9_cradle 64 = .ok (.aload_n 0, 1) := by decide +kernel
theorem dX9_cradle_65 : decode cX9_cradle 65 = .ok (.getfield 13, 3) := by decide +kernel
theorem dX9_cradle_68 : decode cX9_cradle 68 = .ok (.iload_n 1, 1) := by decide +kernel
theorem dX9_cradle_69 : decode cX9_cradle 69 = .ok (.iload_n 3, 1) := by decide +kernel
theorem dX9_cradle_70 : decode cX9_cradle 70 = .ok (.iastore, 1) := by decide +kernel
theorem dX9_cradle_71 : decode cX9_cradle 71 = .ok (.aload_n 0, 1) := by decide +kernel
theorem dX9_cradle_72 : decode cX9_cradle 72 = .ok (.getfield 16, 3) := by decide +kernel
theorem dX9_cradle_75 : decode cX9_cradle 75 = .ok (.iload_n 1, 1) := by decide +kernel
theorem dX9_cradle_76 : decode cX9_cradle 76 = .ok (.iload 4, 2) := by decide +kernel
theorem dX9_cradle_78 : decode cX9_cradle 78 = .ok (.ifCond .ge 8, 3) := by decide +kernel
theorem dX9_cradle_81 : decode cX9_cradle 81 = .ok (.bipush (-6), 2) := by decide +kernel
theorem dX9_cradle_83 : decode cX9_cradle 83 = .ok (.goto 5, 3) := by decide +kernel
theorem dX9_cradle_86 : decode cX9_cradle 86 = .ok (.iload 4, 2) := by decide +kernel
theorem dX9_cradle_88 : decode cX9_cradle 88 = .ok (.iastore, 1) := by decide +kernel
theorem dX9_cradle_89 : decode cX9_cradle 89 = .ok (.iload 5, 2) := by decide +kernel
theorem dX9_cradle_91 : decode cX9_cradle 91 = .ok (.ireturn, 1) := by decide +kernel
theorem dX9_heir_0 : decode cX9_heir 0 = .ok (.iload_n 1, 1) := by decide +kernel
theorem dX9_heir_1 : decode cX9_heir 1 = .ok (.invokestatic 90, 3) := by decide +kernel
theorem dX9_heir_4 : decode cX9_heir 4 = .ok (.ifCond .eq 10, 3) := by decide +kernel
theorem dX9_heir_7 : decode cX9_heir 7 = .ok (.iload_n 2, 1) := by decide +kernel
theorem dX9_heir_8 : decode cX9_heir 8 = .ok (.invokestatic 82, 3) := by decide +kernel
theorem dX9_heir_11 : decode cX9_heir 11 = .ok (.ifCond .ne 5, 3) := by decide +kernel
theorem dX9_heir_14 : decode cX9_heir 14 = .ok (.iconst (-1), 1) := by decide +kernel
theorem dX9_heir_15 : decode cX9_heir 15 = .ok (.ireturn, 1) := by decide +kernel
theorem dX9_heir_16 : decode cX9_heir 16 = .ok (.iload_n 3, 1) := by decide +kernel
theorem dX9_heir_17 : decode cX9_heir 17 = .ok (.i2l, 1) := by decide +kernel
theorem dX9_heir_18 : decode cX9_heir 18 = .ok (.lconst 1, 1) := by decide +kernel
theorem dX9_heir_19 : decode cX9_heir 19 = .ok (.ldc2_w 88, 3) := by decide +kernel
theorem dX9_heir_22 : decode cX9_heir 22 = .ok (.invokestatic 76, 3) := by decide +kernel
theorem dX9_heir_25 : decode cX9_heir 25 = .ok (.ifCond .ne 6, 3) := by decide +kernel
theorem dX9_heir_28 : decode cX9_heir 28 = .ok (.bipush (-2), 2) := by decide +kernel
theorem dX9_heir_30 : decode cX9_heir 30 = .ok (.ireturn, 1) := by decide +kernel
theorem dX9_heir_31 : decode cX9_heir 31 = .ok (.aload_n 0, 1) := by decide +kernel
theorem dX9_heir_32 : decode cX9_heir 32 = .ok (.getfield 19, 3) := by decide +kernel
theorem dX9_heir_35 : decode cX9_heir 35 = .ok (.iload_n 1, 1) := by decide +kernel
theorem dX9_heir_36 : decode cX9_heir 36 = .ok (.iaload, 1) := by decide +kernel
theorem dX9_heir_37 : decode cX9_heir 37 = .ok (.istore 4, 2) := by decide +kernel
theorem dX9_heir_39 : decode cX9_heir 39 = .ok (.aload_n 0, 1) := by decide +kernel
theorem dX9_heir_40 : decode cX9_heir 40 = .ok (.getfield 19, 3) := by decide +kernel
theorem dX9_heir_43 : decode cX9_heir 43 = .ok (.iload_n 1, 1) := by decide +kernel
theorem dX9_heir_44 : decode cX9_heir 44 = .ok (.iload_n 2, 1) := by decide +kernel
theorem dX9_heir_45 : decode cX9_heir 45 = .ok (.iastore, 1) := by decide +kernel
theorem dX9_heir_46 : decode cX9_heir 46 = .ok (.aload_n 0, 1) := by decide +kernel
theorem dX9_heir_47 : decode cX9_heir 47 = .ok (.getfield 22, 3) := by decide +kernel
theorem dX9_heir_50 : decode cX9_heir 50 = .ok (.iload_n 1, 1) := by decide +kernel
theorem dX9_heir_51 : decode cX9_heir 51 = .ok (.iload_n 3, 1) := by decide +kernel
theorem dX9_heir_52 : decode cX9_heir 52 = .ok (.iastore, 1) := by decide +kernel
theorem dX9_heir_53 : decode cX9_heir 53 = .ok (.aload_n 0, 1) := by decide +kernel
theorem dX9_heir_54 : decode cX9_heir 54 = .ok (.getfield 25, 3) := by decide +kernel
theorem dX9_heir_57 : decode cX9_heir 57 = .ok (.iload_n 1, 1) := by decide +kernel
theorem dX9_heir_58 : decode cX9_heir 58 = .ok (.iconst 0, 1) := by decide +kernel
theorem dX9_heir_59 : decode cX9_heir 59 = .ok (.iastore, 1) := by decide +kernel
theorem dX9_heir_60 : decode cX9_heir 60 = .ok (.aload_n 0, 1) := by decide +kernel
theorem dX9_heir_61 : decode cX9_heir 61 = .ok (.getfield 28, 3) := by decide +kernel
theorem dX9_heir_64 : decode cX9_heir 64 = .ok (.iload_n 1, 1) := by decide +kernel
theorem dX9_heir_65 : decode cX9_heir 65 = .ok (.bipush (-6), 2) := by decide +kernel
theorem dX9_heir_67 : decode cX9_heir 67 = .ok (.iastore, 1) := by decide +kernel
theorem dX9_heir_68 : decode cX9_heir 68 = .ok (.iload 4, 2) := by decide +kernel
theorem dX9_heir_70 : decode cX9_heir 70 = .ok (.ireturn, 1) := by decide +kernel
theorem dX9_say_0 : decode cX9_say 0 = .ok (.iload_n 1, 1) := by decide +kernel
theorem dX9_say_1 : decode cX9_say 1 = .ok (.i2l, 1) := by decide +kernel
theorem dX9_say_2 : decode cX9_say 2 = .ok (.ldc2_w 93, 3) := by decide +kernel
theorem dX9_say_5 : decode cX9_say 5 = .ok (.ldc2_w 95, 3) := by decide +kernel
theorem dX9_say_8 : decode cX9_say 8 = .ok (.invokestatic 76, 3) := by decide +kernel
theorem dX9_say_11 : decode cX9_say 11 = .ok (.ifCond .ne 6, 3) := by decide +kernel
theorem dX9_say_14 : decode cX9_say 14 = .ok (.bipush (-2), 2) := by decide +kernel
theorem dX9_say_16 : decode cX9_say 16 = .ok (.ireturn, 1) := by decide +kernel
theorem dX9_say_17 : decode cX9_say 17 = .ok (.aload_n 0, 1) := by decide +kernel
theorem dX9_say_18 : decode cX9_say 18 = .ok (.getfield 97, 3) := by decide +kernel
theorem dX9_say_21 : decode cX9_say 21 = .ok (.bipush 60, 2) := by decide +kernel
theorem dX9_say_23 : decode cX9_say 23 = .ok (.if_icmp .ne 6, 3) := by decide +kernel
theorem dX9_say_26 : decode cX9_say 26 = .ok (.bipush (-4), 2) := by decide +kernel
theorem dX9_say_28 : decode cX9_say 28 = .ok (.ireturn, 1) := by decide +kernel
theorem dX9_say_29 : decode cX9_say 29 = .ok (.aload_n 0, 1) := by decide +kernel
theorem dX9_say_30 : decode cX9_say 30 = .ok (.getfield 40, 3) := by decide +kernel
theorem dX9_say_33 : decode cX9_say 33 = .ok (.aload_n 0, 1) := by decide +kernel
theorem dX9_say_34 : decode cX9_say 34 = .ok (.getfield 97, 3) := by decide +kernel
theorem dX9_say_37 : decode cX9_say 37 = .ok (.iload_n 1, 1) := by decide +kernel
theorem dX9_say_38 : decode cX9_say 38 = .ok (.iastore, 1) := by decide +kernel
theorem dX9_say_39 : decode cX9_say 39 = .ok (.aload_n 0, 1) := by decide +kernel
theorem dX9_say_40 : decode cX9_say 40 = .ok (.dup, 1) := by decide +kernel
theorem dX9_say_41 : decode cX9_say 41 = .ok (.getfield 97, 3) := by decide +kernel
theorem dX9_say_44 : decode cX9_say 44 = .ok (.iconst 1, 1) := by decide +kernel
theorem dX9_say_45 : decode cX9_say 45 = .ok (.iadd, 1) := by decide +kernel
theorem dX9_say_46 : decode cX9_say 46 = .ok (.putfield 97, 3) := by decide +kernel
theorem dX9_say_49 : decode cX9_say 49 = .ok (.aload_n 0, 1) := by decide +kernel
theorem dX9_say_50 : decode cX9_say 50 = .ok (.getfield 97, 3) := by decide +kernel
theorem dX9_say_53 : decode cX9_say 53 = .ok (.ireturn, 1) := by decide +kernel
theorem dX9_wipe_0 : decode cX9_wipe 0 = .ok (.aload_n 0, 1) := by decide +kernel
theorem dX9_wipe_1 : decode cX9_wipe 1 = .ok (.getfield 97, 3) := by decide +kernel
theorem dX9_wipe_4 : decode cX9_wipe 4 = .ok (.istore_n 1, 1) := by decide +kernel
theorem dX9_wipe_5 : decode cX9_wipe 5 = .ok (.aload_n 0, 1) := by decide +kernel
theorem dX9_wipe_6 : decode cX9_wipe 6 = .ok (.iconst 0, 1) := by decide +kernel
theorem dX9_wipe_7 : decode cX9_wipe 7 = .ok (.putfield 97, 3) := by decide +kernel
theorem dX9_wipe_10 : decode cX9_wipe 10 = .ok (.iload_n 1, 1) := by decide +kernel
theorem dX9_wipe_11 : decode cX9_wipe 11 = .ok (.ireturn, 1) := by decide +kernel
theorem dX9_close_0 : decode cX9_close 0 = .ok (.aload_n 0, 1) := by decide +kernel
theorem dX9_close_1 : decode cX9_close 1 = .ok (.getfield 43, 3) := by decide +kernel
theorem dX9_close_4 : decode cX9_close 4 = .ok (.aload_n 0, 1) := by decide +kernel
theorem dX9_close_5 : decode cX9_close 5 = .ok (.getfield 101, 3) := by decide +kernel
theorem dX9_close_8 : decode cX9_close 8 = .ok (.iload_n 1, 1) := by decide +kernel
theorem dX9_close_9 : decode cX9_close 9 = .ok (.iastore, 1) := by decide +kernel
theorem dX9_close_10 : decode cX9_close 10 = .ok (.aload_n 0, 1) := by decide +kernel
theorem dX9_close_11 : decode cX9_close 11 = .ok (.dup, 1) := by decide +kernel
theorem dX9_close_12 : decode cX9_close 12 = .ok (.getfield 101, 3) := by decide +kernel
theorem dX9_close_15 : decode cX9_close 15 = .ok (.iconst 1, 1) := by decide +kernel
theorem dX9_close_16 : decode cX9_close 16 = .ok (.iadd, 1) := by decide +kernel
theorem dX9_close_17 : decode cX9_close 17 = .ok (.putfield 101, 3) := by decide +kernel
theorem dX9_close_20 : decode cX9_close 20 = .ok (.iconst 0, 1) := by decide +kernel
theorem dX9_close_21 : decode cX9_close 21 = .ok (.ireturn, 1) := by decide +kernel
theorem dX9_begin_0 : decode cX9_begin 0 = .ok (.iload_n 1, 1) := by decide +kernel
theorem dX9_begin_1 : decode cX9_begin 1 = .ok (.i2l, 1) := by decide +kernel
theorem dX9_begin_2 : decode cX9_begin 2 = .ok (.ldc2_w 104, 3) := by decide +kernel
theorem dX9_begin_5 : decode cX9_begin 5 = .ok (.ldc2_w 106, 3) := by decide +kernel
theorem dX9_begin_8 : decode cX9_begin 8 = .ok (.invokestatic 76, 3) := by decide +kernel
theorem dX9_begin_11 : decode cX9_begin 11 = .ok (.istore_n 2, 1) := by decide +kernel
theorem dX9_begin_12 : decode cX9_begin 12 = .ok (.aload_n 0, 1) := by decide +kernel
theorem dX9_begin_13 : decode cX9_begin 13 = .ok (.getfield 46, 3) := by decide +kernel
theorem dX9_begin_16 : decode cX9_begin 16 = .ok (.aload_n 0, 1) := by decide +kernel
theorem dX9_begin_17 : decode cX9_begin 17 = .ok (.getfield 101, 3) := by decide +kernel
theorem dX9_begin_20 : decode cX9_begin 20 = .ok (.iload_n 2, 1) := by decide +kernel
theorem dX9_begin_21 : decode cX9_begin 21 = .ok (.ifCond .eq 10, 3) := by decide +kernel
theorem dX9_begin_24 : decode cX9_begin 24 = .ok (.iload_n 1, 1) := by decide +kernel
theorem dX9_begin_25 : decode cX9_begin 25 = .ok (.bipush 65, 2) := by decide +kernel
theorem dX9_begin_27 : decode cX9_begin 27 = .ok (.isub, 1) := by decide +kernel
theorem dX9_begin_28 : decode cX9_begin 28 = .ok (.goto 4, 3) := by decide +kernel
theorem dX9_begin_31 : decode cX9_begin 31 = .ok (.iconst 0, 1) := by decide +kernel
theorem dX9_begin_32 : decode cX9_begin 32 = .ok (.iastore, 1) := by decide +kernel
theorem dX9_begin_33 : decode cX9_begin 33 = .ok (.aload_n 0, 1) := by decide +kernel
theorem dX9_begin_34 : decode cX9_begin 34 = .ok (.getfield 49, 3) := by decide +kernel
theorem dX9_begin_37 : decode cX9_begin 37 = .ok (.aload_n 0, 1) := by decide +kernel
theorem dX9_begin_38 : decode cX9_begin 38 = .ok (.getfield 101, 3) := by decide +kernel
theorem dX9_begin_41 : decode cX9_begin 41 = .ok (.iconst 0, 1) := by decide +kernel
theorem dX9_begin_42 : decode cX9_begin 42 = .ok (.iastore, 1) := by decide +kernel
theorem dX9_begin_43 : decode cX9_begin 43 = .ok (.iload_n 2, 1) := by decide +kernel
theorem dX9_begin_44 : decode cX9_begin 44 = .ok (.ifCond .eq 7, 3) := by decide +kernel
theorem dX9_begin_47 : decode cX9_begin 47 = .ok (.iconst 1, 1) := by decide +kernel
theorem dX9_begin_48 : decode cX9_begin 48 = .ok (.goto 20, 3) := by decide +kernel
theorem dX9_begin_51 : decode cX9_begin 51 = .ok (.iload_n 1, 1) := by decide +kernel
theorem dX9_begin_52 : decode cX9_begin 52 = .ok (.bipush 46, 2) := by decide +kernel
theorem dX9_begin_54 : decode cX9_begin 54 = .ok (.if_icmp .ne 12, 3) := by decide +kernel
theorem dX9_begin_57 : decode cX9_begin 57 = .ok (.aload_n 0, 1) := by decide +kernel
theorem dX9_begin_58 : decode cX9_begin 58 = .ok (.bipush 7, 2) := by decide +kernel
theorem dX9_begin_60 : decode cX9_begin 60 = .ok (.invokevirtual 108, 3) := by decide +kernel
theorem dX9_begin_63 : decode cX9_begin 63 = .ok (.goto 5, 3) := by decide +kernel
theorem dX9_begin_66 : decode cX9_begin 66 = .ok (.bipush (-6), 2) := by decide +kernel
theorem dX9_begin_68 : decode cX9_begin 68 = .ok (.ireturn, 1) := by decide +kernel
theorem dX9_count_0 : decode cX9_count 0 = .ok (.aload_n 0, 1) := by decide +kernel
theorem dX9_count_1 : decode cX9_count 1 = .ok (.getfield 49, 3) := by decide +kernel
theorem dX9_count_4 : decode cX9_count 4 = .ok (.aload_n 0, 1) := by decide +kernel
theorem dX9_count_5 : decode cX9_count 5 = .ok (.getfield 101, 3) := by decide +kernel
theorem dX9_count_8 : decode cX9_count 8 = .ok (.iload_n 2, 1) := by decide +kernel
theorem dX9_count_9 : decode cX9_count 9 = .ok (.bipush 48, 2) := by decide +kernel
theorem dX9_count_11 : decode cX9_count 11 = .ok (.isub, 1) := by decide +kernel
theorem dX9_count_12 : decode cX9_count 12 = .ok (.iastore, 1) := by decide +kernel
theorem dX9_count_13 : decode cX9_count 13 = .ok (.iload_n 2, 1) := by decide +kernel
theorem dX9_count_14 : decode cX9_count 14 = .ok (.i2l, 1) := by decide +kernel
theorem dX9_count_15 : decode cX9_count 15 = .ok (.ldc2_w 112, 3) := by decide +kernel
theorem dX9_count_18 : decode cX9_count 18 = .ok (.ldc2_w 114, 3) := by decide +kernel
theorem dX9_count_21 : decode cX9_count 21 = .ok (.invokestatic 76, 3) := by decide +kernel
theorem dX9_count_24 : decode cX9_count 24 = .ok (.ifCond .eq 11, 3) := by decide +kernel
theorem dX9_count_27 : decode cX9_count 27 = .ok (.aload_n 0, 1) := by decide +kernel
theorem dX9_count_28 : decode cX9_count 28 = .ok (.iload_n 1, 1) := by decide +kernel
theorem dX9_count_29 : decode cX9_count 29 = .ok (.invokevirtual 108, 3) := by decide +kernel
theorem dX9_count_32 : decode cX9_count 32 = .ok (.goto 5, 3) := by decide +kernel
theorem dX9_count_35 : decode cX9_count 35 = .ok (.bipush (-6), 2) := by decide +kernel
theorem dX9_count_37 : decode cX9_count 37 = .ok (.ireturn, 1) := by decide +kernel
theorem dX9_deed_0 : decode cX9_deed 0 = .ok (.iload_n 1, 1) := by decide +kernel
theorem dX9_deed_1 : decode cX9_deed 1 = .ok (.lookupswitch 88 #[(33, 81), (42, 69), (60, 61), (62, 59), (63, 63), (126, 75)], 59) := by decide +kernel
theorem dX9_deed_60 : decode cX9_deed 60 = .ok (.iconst 2, 1) := by decide +kernel
theorem dX9_deed_61 : decode cX9_deed 61 = .ok (.ireturn, 1) := by decide +kernel
theorem dX9_deed_62 : decode cX9_deed 62 = .ok (.iconst 3, 1) := by decide +kernel
theorem dX9_deed_63 : decode cX9_deed 63 = .ok (.ireturn, 1) := by decide +kernel
theorem dX9_deed_64 : decode cX9_deed 64 = .ok (.aload_n 0, 1) := by decide +kernel
theorem dX9_deed_65 : decode cX9_deed 65 = .ok (.iconst 2, 1) := by decide +kernel
theorem dX9_deed_66 : decode cX9_deed 66 = .ok (.invokevirtual 108, 3) := by decide +kernel
theorem dX9_deed_69 : decode cX9_deed 69 = .ok (.ireturn, 1) := by decide +kernel
theorem dX9_deed_70 : decode cX9_deed 70 = .ok (.aload_n 0, 1) := by decide +kernel
theorem dX9_deed_71 : decode cX9_deed 71 = .ok (.iconst 3, 1) := by decide +kernel
theorem dX9_deed_72 : decode cX9_deed 72 = .ok (.invokevirtual 108, 3) := by decide +kernel
theorem dX9_deed_75 : decode cX9_deed 75 = .ok (.ireturn, 1) := by decide +kernel
theorem dX9_deed_76 : decode cX9_deed 76 = .ok (.aload_n 0, 1) := by decide +kernel
theorem dX9_deed_77 : decode cX9_deed 77 = .ok (.iconst 5, 1) := by decide +kernel
theorem dX9_deed_78 : decode cX9_deed 78 = .ok (.invokevirtual 108, 3) := by decide +kernel
theorem dX9_deed_81 : decode cX9_deed 81 = .ok (.ireturn, 1) := by decide +kernel
theorem dX9_deed_82 : decode cX9_deed 82 = .ok (.aload_n 0, 1) := by decide +kernel
theorem dX9_deed_83 : decode cX9_deed 83 = .ok (.bipush 6, 2) := by decide +kernel
theorem dX9_deed_85 : decode cX9_deed 85 = .ok (.invokevirtual 108, 3) := by decide +kernel
theorem dX9_deed_88 : decode cX9_deed 88 = .ok (.ireturn, 1) := by decide +kernel
theorem dX9_deed_89 : decode cX9_deed 89 = .ok (.aload_n 0, 1) := by decide +kernel
theorem dX9_deed_90 : decode cX9_deed 90 = .ok (.iconst 4, 1) := by decide +kernel
theorem dX9_deed_91 : decode cX9_deed 91 = .ok (.iload_n 1, 1) := by decide +kernel
theorem dX9_deed_92 : decode cX9_deed 92 = .ok (.invokevirtual 116, 3) := by decide +kernel
theorem dX9_deed_95 : decode cX9_deed 95 = .ok (.ireturn, 1) := by decide +kernel
theorem dX9_readOn_0 : decode cX9_readOn 0 = .ok (.iload_n 1, 1) := by decide +kernel
theorem dX9_readOn_1 : decode cX9_readOn 1 = .ok (.lookupswitch 39 #[(0, 27), (1, 33)], 27) := by decide +kernel
theorem dX9_readOn_28 : decode cX9_readOn 28 = .ok (.aload_n 0, 1) := by decide +kernel
theorem dX9_readOn_29 : decode cX9_readOn 29 = .ok (.iload_n 2, 1) := by decide +kernel
theorem dX9_readOn_30 : decode cX9_readOn 30 = .ok (.invokevirtual 120, 3) := by decide +kernel
theorem dX9_readOn_33 : decode cX9_readOn 33 = .ok (.ireturn, 1) := by decide +kernel
theorem dX9_readOn_34 : decode cX9_readOn 34 = .ok (.aload_n 0, 1) := by decide +kernel
theorem dX9_readOn_35 : decode cX9_readOn 35 = .ok (.iload_n 2, 1) := by decide +kernel
theorem dX9_readOn_36 : decode cX9_readOn 36 = .ok (.invokevirtual 123, 3) := by decide +kernel
theorem dX9_readOn_39 : decode cX9_readOn 39 = .ok (.ireturn, 1) := by decide +kernel
theorem dX9_readOn_40 : decode cX9_readOn 40 = .ok (.aload_n 0, 1) := by decide +kernel
theorem dX9_readOn_41 : decode cX9_readOn 41 = .ok (.iload_n 1, 1) := by decide +kernel
theorem dX9_readOn_42 : decode cX9_readOn 42 = .ok (.iconst 2, 1) := by decide +kernel
theorem dX9_readOn_43 : decode cX9_readOn 43 = .ok (.if_icmp .ne 7, 3) := by decide +kernel
theorem dX9_readOn_46 : decode cX9_readOn 46 = .ok (.iconst 0, 1) := by decide +kernel
theorem dX9_readOn_47 : decode cX9_readOn 47 = .ok (.goto 4, 3) := by decide +kernel
theorem dX9_readOn_50 : decode cX9_readOn 50 = .ok (.iconst 1, 1) := by decide +kernel
theorem dX9_readOn_51 : decode cX9_readOn 51 = .ok (.iload_n 2, 1) := by decide +kernel
theorem dX9_readOn_52 : decode cX9_readOn 52 = .ok (.invokevirtual 116, 3) := by decide +kernel
theorem dX9_readOn_55 : decode cX9_readOn 55 = .ok (.ireturn, 1) := by decide +kernel
theorem dX9_fault_0 : decode cX9_fault 0 = .ok (.aload_n 0, 1) := by decide +kernel
theorem dX9_fault_1 : decode cX9_fault 1 = .ok (.iconst 0, 1) := by decide +kernel
theorem dX9_fault_2 : decode cX9_fault 2 = .ok (.putfield 101, 3) := by decide +kernel
theorem dX9_fault_5 : decode cX9_fault 5 = .ok (.iconst 0, 1) := by decide +kernel
theorem dX9_fault_6 : decode cX9_fault 6 = .ok (.istore_n 1, 1) := by decide +kernel
theorem dX9_fault_7 : decode cX9_fault 7 = .ok (.iconst 0, 1) := by decide +kernel
theorem dX9_fault_8 : decode cX9_fault 8 = .ok (.istore_n 2, 1) := by decide +kernel
theorem dX9_fault_9 : decode cX9_fault 9 = .ok (.iload_n 2, 1) := by decide +kernel
theorem dX9_fault_10 : decode cX9_fault 10 = .ok (.aload_n 0, 1) := by decide +kernel
theorem dX9_fault_11 : decode cX9_fault 11 = .ok (.getfield 97, 3) := by decide +kernel
theorem dX9_fault_14 : decode cX9_fault 14 = .ok (.if_icmp .ge 27, 3) := by decide +kernel
theorem dX9_fault_17 : decode cX9_fault 17 = .ok (.aload_n 0, 1) := by decide +kernel
theorem dX9_fault_18 : decode cX9_fault 18 = .ok (.iload_n 1, 1) := by decide +kernel
theorem dX9_fault_19 : decode cX9_fault 19 = .ok (.aload_n 0, 1) := by decide +kernel
theorem dX9_fault_20 : decode cX9_fault 20 = .ok (.getfield 40, 3) := by decide +kernel
theorem dX9_fault_23 : decode cX9_fault 23 = .ok (.iload_n 2, 1) := by decide +kernel
theorem dX9_fault_24 : decode cX9_fault 24 = .ok (.iaload, 1) := by decide +kernel
theorem dX9_fault_25 : decode cX9_fault 25 = .ok (.invokevirtual 126, 3) := by decide +kernel
theorem dX9_fault_28 : decode cX9_fault 28 = .ok (.istore_n 1, 1) := by decide +kernel
theorem dX9_fault_29 : decode cX9_fault 29 = .ok (.iload_n 1, 1) := by decide +kernel
theorem dX9_fault_30 : decode cX9_fault 30 = .ok (.ifCond .ge 5, 3) := by decide +kernel
theorem dX9_fault_33 : decode cX9_fault 33 = .ok (.iload_n 2, 1) := by decide +kernel
theorem dX9_fault_34 : decode cX9_fault 34 = .ok (.ireturn, 1) := by decide +kernel
theorem dX9_fault_35 : decode cX9_fault 35 = .ok (.iinc 2 1, 3) := by decide +kernel
theorem dX9_fault_38 : decode cX9_fault 38 = .ok (.goto (-29), 3) := by decide +kernel
theorem dX9_fault_41 : decode cX9_fault 41 = .ok (.iload_n 1, 1) := by decide +kernel
theorem dX9_fault_42 : decode cX9_fault 42 = .ok (.ifCond .ne 8, 3) := by decide +kernel
theorem dX9_fault_45 : decode cX9_fault 45 = .ok (.bipush (-6), 2) := by decide +kernel
theorem dX9_fault_47 : decode cX9_fault 47 = .ok (.goto 7, 3) := by decide +kernel
theorem dX9_fault_50 : decode cX9_fault 50 = .ok (.aload_n 0, 1) := by decide +kernel
theorem dX9_fault_51 : decode cX9_fault 51 = .ok (.getfield 97, 3) := by decide +kernel
theorem dX9_fault_54 : decode cX9_fault 54 = .ok (.ireturn, 1) := by decide +kernel
theorem dX9_isChosen_0 : decode cX9_isChosen 0 = .ok (.iconst 0, 1) := by decide +kernel
theorem dX9_isChosen_1 : decode cX9_isChosen 1 = .ok (.istore_n 2, 1) := by decide +kernel
theorem dX9_isChosen_2 : decode cX9_isChosen 2 = .ok (.iconst 0, 1) := by decide +kernel
theorem dX9_isChosen_3 : decode cX9_isChosen 3 = .ok (.istore_n 3, 1) := by decide +kernel
theorem dX9_isChosen_4 : decode cX9_isChosen 4 = .ok (.iload_n 3, 1) := by decide +kernel
theorem dX9_isChosen_5 : decode cX9_isChosen 5 = .ok (.bipush 6, 2) := by decide +kernel
theorem dX9_isChosen_7 : decode cX9_isChosen 7 = .ok (.if_icmp .ge 29, 3) := by decide +kernel
theorem dX9_isChosen_10 : decode cX9_isChosen 10 = .ok (.iload_n 2, 1) := by decide +kernel
theorem dX9_isChosen_11 : decode cX9_isChosen 11 = .ok (.ifCond .ne 13, 3) := by decide +kernel
theorem dX9_isChosen_14 : decode cX9_isChosen 14 = .ok (.aload_n 0, 1) := by decide +kernel
theorem dX9_isChosen_15 : decode cX9_isChosen 15 = .ok (.getfield 28, 3) := by decide +kernel
theorem dX9_isChosen_18 : decode cX9_isChosen 18 = .ok (.iload_n 3, 1) := by decide +kernel
theorem dX9_isChosen_19 : decode cX9_isChosen 19 = .ok (.iaload, 1) := by decide +kernel
theorem dX9_isChosen_20 : decode cX9_isChosen 20 = .ok (.iload_n 1, 1) := by decide +kernel
theorem dX9_isChosen_21 : decode cX9_isChosen 21 = .ok (.if_icmp .ne 7, 3) := by decide +kernel
theorem dX9_isChosen_24 : decode cX9_isChosen 24 = .ok (.iconst 1, 1) := by decide +kernel
theorem dX9_isChosen_25 : decode cX9_isChosen 25 = .ok (.goto 4, 3) := by decide +kernel
theorem dX9_isChosen_28 : decode cX9_isChosen 28 = .ok (.iconst 0, 1) := by decide +kernel
theorem dX9_isChosen_29 : decode cX9_isChosen 29 = .ok (.istore_n 2, 1) := by decide +kernel
theorem dX9_isChosen_30 : decode cX9_isChosen 30 = .ok (.iinc 3 1, 3) := by decide +kernel
theorem dX9_isChosen_33 : decode cX9_isChosen 33 = .ok (.goto (-29), 3) := by decide +kernel
