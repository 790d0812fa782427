theorem dX0_init_0 : decode cX0_init 0 = .ok (.aload_n 0, 1) := by decide +kernel
theorem dX0_init_1 : decode cX0_init 1 = .ok (.invokespecial 3, 3) := by decide +kernel
theorem dX0_init_4 : decode cX0_init 4 = .ok (.aload_n 0, 1) := by decide +kernel
theorem dX0_init_5 : decode cX0_init 5 = .ok (.bipush 40, 2) := by decide +kernel
theorem dX0_init_7 : decode cX0_init 7 = .ok (.newarray .int, 2) := by decide +kernel
theorem dX0_init_9 : decode cX0_init 9 = .ok (.putfield 9, 3) := by decide +kernel
theorem dX0_init_12 : decode cX0_init 12 = .ok (.aload_n 0, 1) := by decide +kernel
theorem dX0_init_13 : decode cX0_init 13 = .ok (.bipush 40, 2) := by decide +kernel
theorem dX0_init_15 : decode cX0_init 15 = .ok (.newarray .int, 2) := by decide +kernel
theorem dX0_init_17 : decode cX0_init 17 = .ok (.putfield 15, 3) := by decide +kernel
theorem dX0_init_20 : decode cX0_init 20 = .ok (.aload_n 0, 1) := by decide +kernel
theorem dX0_init_21 : decode cX0_init 21 = .ok (.bipush 40, 2) := by decide +kernel
theorem dX0_init_23 : decode cX0_init 23 = .ok (.newarray .int, 2) := by decide +kernel
theorem dX0_init_25 : decode cX0_init 25 = .ok (.putfield 18, 3) := by decide +kernel
theorem dX0_init_28 : decode cX0_init 28 = .ok (.aload_n 0, 1) := by decide +kernel
theorem dX0_init_29 : decode cX0_init 29 = .ok (.bipush 6, 2) := by decide +kernel
theorem dX0_init_31 : decode cX0_init 31 = .ok (.newarray .int, 2) := by decide +kernel
theorem dX0_init_33 : decode cX0_init 33 = .ok (.putfield 21, 3) := by decide +kernel
theorem dX0_init_36 : decode cX0_init 36 = .ok (.aload_n 0, 1) := by decide +kernel
theorem dX0_init_37 : decode cX0_init 37 = .ok (.bipush 6, 2) := by decide +kernel
theorem dX0_init_39 : decode cX0_init 39 = .ok (.newarray .int, 2) := by decide +kernel
theorem dX0_init_41 : decode cX0_init 41 = .ok (.putfield 24, 3) := by decide +kernel
theorem dX0_init_44 : decode cX0_init 44 = .ok (.aload_n 0, 1) := by decide +kernel
theorem dX0_init_45 : decode cX0_init 45 = .ok (.bipush 6, 2) := by decide +kernel
theorem dX0_init_47 : decode cX0_init 47 = .ok (.newarray .int, 2) := by decide +kernel
theorem dX0_init_49 : decode cX0_init 49 = .ok (.putfield 27, 3) := by decide +kernel
theorem dX0_init_52 : decode cX0_init 52 = .ok (.aload_n 0, 1) := by decide +kernel
theorem dX0_init_53 : decode cX0_init 53 = .ok (.bipush 6, 2) := by decide +kernel
theorem dX0_init_55 : decode cX0_init 55 = .ok (.newarray .int, 2) := by decide +kernel
theorem dX0_init_57 : decode cX0_init 57 = .ok (.putfield 30, 3) := by decide +kernel
theorem dX0_init_60 : decode cX0_init 60 = .ok (.iconst 0, 1) := by decide +kernel
theorem dX0_init_61 : decode cX0_init 61 = .ok (.istore_n 1, 1) := by decide +kernel
theorem dX0_init_62 : decode cX0_init 62 = .ok (.iload_n 1, 1) := by decide +kernel
theorem dX0_init_63 : decode cX0_init 63 = .ok (.bipush 40, 2) := by decide +kernel
theorem dX0_init_65 : decode cX0_init 65 = .ok (.if_icmp .ge 29, 3) := by decide +kernel
theorem dX0_init_68 : decode cX0_init 68 = .ok (.aload_n 0, 1) := by decide +kernel
theorem dX0_init_69 : decode cX0_init 69 = .ok (.getfield 9, 3) := by decide +kernel
theorem dX0_init_72 : decode cX0_init 72 = .ok (.iload_n 1, 1) := by decide +kernel
theorem dX0_init_73 : decode cX0_init 73 = .ok (.iload_n 1, 1) := by decide +kernel
theorem dX0_init_74 : decode cX0_init 74 = .ok (.bipush 9, 2) := by decide +kernel
theorem dX0_init_76 : decode cX0_init 76 = .ok (.irem, 1) := by decide +kernel
theorem dX0_init_77 : decode cX0_init 77 = .ok (.iconst 1, 1) := by decide +kernel
theorem dX0_init_78 : decode cX0_init 78 = .ok (.iadd, 1) := by decide +kernel
theorem dX0_init_79 : decode cX0_init 79 = .ok (.iastore, 1) := by decide +kernel
theorem dX0_init_80 : decode cX0_init 80 = .ok (.aload_n 0, 1) := by decide +kernel
theorem dX0_init_81 : decode cX0_init 81 = .ok (.getfield 18, 3) := by decide +kernel
theorem dX0_init_84 : decode cX0_init 84 = .ok (.iload_n 1, 1) := by decide +kernel
theorem dX0_init_85 : decode cX0_init 85 = .ok (.bipush (-6), 2) := by decide +kernel
theorem dX0_init_87 : decode cX0_init 87 = .ok (.iastore, 1) := by decide +kernel
theorem dX0_init_88 : decode cX0_init 88 = .ok (.iinc 1 1, 3) := by decide +kernel
theorem dX0_init_91 : decode cX0_init 91 = .ok (.goto (-29), 3) := by decide +kernel
theorem dX0_init_94 : decode cX0_init 94 = .ok (.iconst 0, 1) := by decide +kernel
theorem dX0_init_95 : decode cX0_init 95 = .ok (.istore_n 1, 1) := by decide +kernel
theorem dX0_init_96 : decode cX0_init 96 = .ok (.iload_n 1, 1) := by decide +kernel
theorem dX0_init_97 : decode cX0_init 97 = .ok (.bipush 6, 2) := by decide +kernel
theorem dX0_init_99 : decode cX0_init 99 = .ok (.if_icmp .ge 24, 3) := by decide +kernel
theorem dX0_init_102 : decode cX0_init 102 = .ok (.aload_n 0, 1) := by decide +kernel
theorem dX0_init_103 : decode cX0_init 103 = .ok (.getfield 24, 3) := by decide +kernel
theorem dX0_init_106 : decode cX0_init 106 = .ok (.iload_n 1, 1) := by decide +kernel
theorem dX0_init_107 : decode cX0_init 107 = .ok (.iconst 5, 1) := by decide +kernel
theorem dX0_init_108 : decode cX0_init 108 = .ok (.iastore, 1) := by decide +kernel
theorem dX0_init_109 : decode cX0_init 109 = .ok (.aload_n 0, 1) := by decide +kernel
theorem dX0_init_110 : decode cX0_init 110 = .ok (.getfield 30, 3) := by decide +kernel
theorem dX0_init_113 : decode cX0_init 113 = .ok (.iload_n 1, 1) := by decide +kernel
theorem dX0_init_114 : decode cX0_init 114 = .ok (.bipush (-6), 2) := by decide +kernel
theorem dX0_init_116 : decode cX0_init 116 = .ok (.iastore, 1) := by decide +kernel
theorem dX0_init_117 : decode cX0_init 117 = .ok (.iinc 1 1, 3) := by decide +kernel
theorem dX0_init_120 : decode cX0_init 120 = .ok (.goto (-24), 3) := by decide +kernel
theorem dX0_init_123 : decode cX0_init 123 = .ok (.return_, 1) := by decide +kernel
theorem dX0_copyFrom_0 : decode cX0_copyFrom 0 = .ok (.aload_n 1, 1) := by decide +kernel
theorem dX0_copyFrom_1 : decode cX0_copyFrom 1 = .ok (.getfield 9, 3) := by decide +kernel
theorem dX0_copyFrom_4 : decode cX0_copyFrom 4 = .ok (.iconst 0, 1) := by decide +kernel
theorem dX0_copyFrom_5 : decode cX0_copyFrom 5 = .ok (.aload_n 0, 1) := by decide +kernel
theorem dX0_copyFrom_6 : decode cX0_copyFrom 6 = .ok (.getfield 9, 3) := by decide +kernel
theorem dX0_copyFrom_9 : decode cX0_copyFrom 9 = .ok (.iconst 0, 1) := by decide +kernel
theorem dX0_copyFrom_10 : decode cX0_copyFrom 10 = .ok (.bipush 40, 2) := by decide +kernel
theorem dX0_copyFrom_12 : decode cX0_copyFrom 12 = .ok (.invokestatic 33, 3) := by decide +kernel
theorem dX0_copyFrom_15 : decode cX0_copyFrom 15 = .ok (.aload_n 1, 1) := by decide +kernel
theorem dX0_copyFrom_16 : decode cX0_copyFrom 16 = .ok (.getfield 15, 3) := by decide +kernel
theorem dX0_copyFrom_19 : decode cX0_copyFrom 19 = .ok (.iconst 0, 1) := by decide +kernel
theorem dX0_copyFrom_20 : decode cX0_copyFrom 20 = .ok (.aload_n 0, 1) := by decide +kernel
theorem dX0_copyFrom_21 : decode cX0_copyFrom 21 = .ok (.getfield 15, 3) := by decide +kernel
theorem dX0_copyFrom_24 : decode cX0_copyFrom 24 = .ok (.iconst 0, 1) := by decide +kernel
theorem dX0_copyFrom_25 : decode cX0_copyFrom 25 = .ok (.bipush 40, 2) := by decide +kernel
theorem dX0_copyFrom_27 : decode cX0_copyFrom 27 = .ok (.invokestatic 33, 3) := by decide +kernel
theorem dX0_copyFrom_30 : decode cX0_copyFrom 30 = .ok (.aload_n 1, 1) := by decide +kernel
theorem dX0_copyFrom_31 : decode cX0_copyFrom 31 = .ok (.getfield 18, 3) := by decide +kernel
theorem dX0_copyFrom_34 : decode cX0_copyFrom 34 = .ok (.iconst 0, 1) := by decide +kernel
theorem dX0_copyFrom_35 : decode cX0_copyFrom 35 = .ok (.aload_n 0, 1) := by decide +kernel
theorem dX0_copyFrom_36 : decode cX0_copyFrom 36 = .ok (.getfield 18, 3) := by decide +kernel
theorem dX0_copyFrom_39 : decode cX0_copyFrom 39 = .ok (.iconst 0, 1) := by decide +kernel
theorem dX0_copyFrom_40 : decode cX0_copyFrom 40 = .ok (.bipush 40, 2) := by decide +kernel
theorem dX0_copyFrom_42 : decode cX0_copyFrom 42 = .ok (.invokestatic 33, 3) := by decide +kernel
theorem dX0_copyFrom_45 : decode cX0_copyFrom 45 = .ok (.aload_n 1, 1) := by decide +kernel
theorem dX0_copyFrom_46 : decode cX0_copyFrom 46 = .ok (.getfield 21, 3) := by decide +kernel
theorem dX0_copyFrom_49 : decode cX0_copyFrom 49 = .ok (.iconst 0, 1) := by decide +kernel
theorem dX0_copyFrom_50 : decode cX0_copyFrom 50 = .ok (.aload_n 0, 1) := by decide +kernel
theorem dX0_copyFrom_51 : decode cX0_copyFrom 51 = .ok (.getfield 21, 3) := by decide +kernel
theorem dX0_copyFrom_54 : decode cX0_copyFrom 54 = .ok (.iconst 0, 1) := by decide +kernel
theorem dX0_copyFrom_55 : decode cX0_copyFrom 55 = .ok (.bipush 6, 2) := by decide +kernel
theorem dX0_copyFrom_57 : decode cX0_copyFrom 57 = .ok (.invokestatic 33, 3) := by decide +kernel
theorem dX0_copyFrom_60 : decode cX0_copyFrom 60 = .ok (.aload_n 1, 1) := by decide +kernel
theorem dX0_copyFrom_61 : decode cX0_copyFrom 61 = .ok (.getfield 24, 3) := by decide +kernel
theorem dX0_copyFrom_64 : decode cX0_copyFrom 64 = .ok (.iconst 0, 1) := by decide +kernel
theorem dX0_copyFrom_65 : decode cX0_copyFrom 65 = .ok (.aload_n 0, 1) := by decide +kernel
theorem dX0_copyFrom_66 : decode cX0_copyFrom 66 = .ok (.getfield 24, 3) := by decide +kernel
theorem dX0_copyFrom_69 : decode cX0_copyFrom 69 = .ok (.iconst 0, 1) := by decide +kernel
theorem dX0_copyFrom_70 : decode cX0_copyFrom 70 = .ok (.bipush 6, 2) := by decide +kernel
theorem dX0_copyFrom_72 : decode cX0_copyFrom 72 = .ok (.invokestatic 33, 3) := by decide +kernel
theorem dX0_copyFrom_75 : decode cX0_copyFrom 75 = .ok (.aload_n 1, 1) := by decide +kernel
theorem dX0_copyFrom_76 : decode cX0_copyFrom 76 = .ok (.getfield 27, 3) := by decide +kernel
theorem dX0_copyFrom_79 : decode cX0_copyFrom 79 = .ok (.iconst 0, 1) := by decide +kernel
theorem dX0_copyFrom_80 : decode cX0_copyFrom 80 = .ok (.aload_n 0, 1) := by decide +kernel
theorem dX0_copyFrom_81 : decode cX0_copyFrom 81 = .ok (.getfield 27, 3) := by decide +kernel
theorem dX0_copyFrom_84 : decode cX0_copyFrom 84 = .ok (.iconst 0, 1) := by decide +kernel
theorem dX0_copyFrom_85 : decode cX0_copyFrom 85 = .ok (.bipush 6, 2) := by decide +kernel
theorem dX0_copyFrom_87 : decode cX0_copyFrom 87 = .ok (.invokestatic 33, 3) := by decide +kernel
theorem dX0_copyFrom_90 : decode cX0_copyFrom 90 = .ok (.aload_n 1, 1) := by decide +kernel
theorem dX0_copyFrom_91 : decode cX0_copyFrom 91 = .ok (.getfield 30, 3) := by decide +kernel
theorem dX0_copyFrom_94 : decode cX0_copyFrom 94 = .ok (.iconst 0, 1) := by decide +kernel
theorem dX0_copyFrom_95 : decode cX0_copyFrom 95 = .ok (.aload_n 0, 1) := by decide +kernel
theorem dX0_copyFrom_96 : decode cX0_copyFrom 96 = .ok (.getfield 30, 3) := by decide +kernel
theorem dX0_copyFrom_99 : decode cX0_copyFrom 99 = .ok (.iconst 0, 1) := by decide +kernel
theorem dX0_copyFrom_100 : decode cX0_copyFrom 100 = .ok (.bipush 6, 2) := by decide +kernel
theorem dX0_copyFrom_102 : decode cX0_copyFrom 102 = .ok (.invokestatic 33, 3) := by decide +kernel
theorem dX0_copyFrom_105 : decode cX0_copyFrom 105 = .ok (.aload_n 0, 1) := by decide +kernel
theorem dX0_copyFrom_106 : decode cX0_copyFrom 106 = .ok (.aload_n 1, 1) := by decide +kernel
theorem dX0_copyFrom_107 : decode cX0_copyFrom 107 = .ok (.getfield 39, 3) := by decide +kernel
theorem dX0_copyFrom_110 : decode cX0_copyFrom 110 = .ok (.putfield 39, 3) := by decide +kernel
theorem dX0_copyFrom_113 : decode cX0_copyFrom 113 = .ok (.return_, 1) := by decide +kernel
theorem dX0_chosenBits_0 : decode cX0_chosenBits 0 = .ok (.iconst 0, 1) := by decide +kernel
theorem dX0_chosenBits_1 : decode cX0_chosenBits 1 = .ok (.istore_n 1, 1) := by decide +kernel
theorem dX0_chosenBits_2 : decode cX0_chosenBits 2 = .ok (.iconst 0, 1) := by decide +kernel
theorem dX0_chosenBits_3 : decode cX0_chosenBits 3 = .ok (.istore_n 2, 1) := by decide +kernel
theorem dX0_chosenBits_4 : decode cX0_chosenBits 4 = .ok (.iload_n 2, 1) := by decide +kernel
theorem dX0_chosenBits_5 : decode cX0_chosenBits 5 = .ok (.bipush 6, 2) := by decide +kernel
theorem dX0_chosenBits_7 : decode cX0_chosenBits 7 = .ok (.if_icmp .ge 26, 3) := by decide +kernel
theorem dX0_chosenBits_10 : decode cX0_chosenBits 10 = .ok (.aload_n 0, 1) := by decide +kernel
theorem dX0_chosenBits_11 : decode cX0_chosenBits 11 = .ok (.getfield 30, 3) := by decide +kernel
theorem dX0_chosenBits_14 : decode cX0_chosenBits 14 = .ok (.iload_n 2, 1) := by decide +kernel
theorem dX0_chosenBits_15 : decode cX0_chosenBits 15 = .ok (.iaload, 1) := by decide +kernel
theorem dX0_chosenBits_16 : decode cX0_chosenBits 16 = .ok (.bipush (-6), 2) := by decide +kernel
theorem dX0_chosenBits_18 : decode cX0_chosenBits 18 = .ok (.if_icmp .eq 9, 3) := by decide +kernel
theorem dX0_chosenBits_21 : decode cX0_chosenBits 21 = .ok (.iload_n 1, 1) := by decide +kernel
theorem dX0_chosenBits_22 : decode cX0_chosenBits 22 = .ok (.iconst 1, 1) := by decide +kernel
theorem dX0_chosenBits_23 : decode cX0_chosenBits 23 = .ok (.iload_n 2, 1) := by decide +kernel
theorem dX0_chosenBits_24 : decode cX0_chosenBits 24 = .ok (.ishl, 1) := by decide +kernel
theorem dX0_chosenBits_25 : decode cX0_chosenBits 25 = .ok (.ior, 1) := by decide +kernel
theorem dX0_chosenBits_26 : decode cX0_chosenBits 26 = .ok (.istore_n 1, 1) := by decide +kernel
theorem dX0_chosenBits_27 : decode cX0_chosenBits 27 = .ok (.iinc 2 1, 3) := by decide +kernel
theorem dX0_chosenBits_30 : decode cX0_chosenBits 30 = .ok (.goto (-26), 3) := by decide +kernel
theorem dX0_chosenBits_33 : decode cX0_chosenBits 33 = .ok (.iload_n 1, 1) := by decide +kernel
theorem dX0_chosenBits_34 : decode cX0_chosenBits 34 = .ok (.ireturn, 1) := by decide +kernel
theorem dX0_rightBits_0 : decode cX0_rightBits 0 = .ok (.iconst 0, 1) := by decide +kernel
theorem dX0_rightBits_1 : decode cX0_rightBits 1 = .ok (.istore_n 1, 1) := by decide +kernel
theorem dX0_rightBits_2 : decode cX0_rightBits 2 = .ok (.iconst 0, 1) := by decide +kernel
theorem dX0_rightBits_3 : decode cX0_rightBits 3 = .ok (.istore_n 2, 1) := by decide +kernel
theorem dX0_rightBits_4 : decode cX0_rightBits 4 = .ok (.iload_n 2, 1) := by decide +kernel
theorem dX0_rightBits_5 : decode cX0_rightBits 5 = .ok (.bipush 6, 2) := by decide +kernel
theorem dX0_rightBits_7 : decode cX0_rightBits 7 = .ok (.if_icmp .ge 42, 3) := by decide +kernel
theorem dX0_rightBits_10 : decode cX0_rightBits 10 = .ok (.aload_n 0, 1) := by decide +kernel
theorem dX0_rightBits_11 : decode cX0_rightBits 11 = .ok (.getfield 30, 3) := by decide +kernel
theorem dX0_rightBits_14 : decode cX0_rightBits 14 = .ok (.iload_n 2, 1) := by decide +kernel
theorem dX0_rightBits_15 : decode cX0_rightBits 15 = .ok (.iaload, 1) := by decide +kernel
theorem dX0_rightBits_16 : decode cX0_rightBits 16 = .ok (.invokestatic 43, 3) := by decide +kernel
theorem dX0_rightBits_19 : decode cX0_rightBits 19 = .ok (.ifCond .eq 24, 3) := by decide +kernel
theorem dX0_rightBits_22 : decode cX0_rightBits 22 = .ok (.aload_n 0, 1) := by decide +kernel
theorem dX0_rightBits_23 : decode cX0_rightBits 23 = .ok (.getfield 18, 3) := by decide +kernel
theorem dX0_rightBits_26 : decode cX0_rightBits 26 = .ok (.aload_n 0, 1) := by decide +kernel
theorem dX0_rightBits_27 : decode cX0_rightBits 27 = .ok (.getfield 30, 3) := by decide +kernel
theorem dX0_rightBits_30 : decode cX0_rightBits 30 = .ok (.iload_n 2, 1) := by decide +kernel
theorem dX0_rightBits_31 : decode cX0_rightBits 31 = .ok (.iaload, 1) := by decide +kernel
theorem dX0_rightBits_32 : decode cX0_rightBits 32 = .ok (.iaload, 1) := by decide +kernel
theorem dX0_rightBits_33 : decode cX0_rightBits 33 = .ok (.iload_n 2, 1) := by decide +kernel
theorem dX0_rightBits_34 : decode cX0_rightBits 34 = .ok (.if_icmp .ne 9, 3) := by decide +kernel
theorem dX0_rightBits_37 : decode cX0_rightBits 37 = .ok (.iload_n 1, 1) := by decide +kernel
theorem dX0_rightBits_38 : decode cX0_rightBits 38 = .ok (.iconst 1, 1) := by decide +kernel
theorem dX0_rightBits_39 : decode cX0_rightBits 39 = .ok (.iload_n 2, 1) := by decide +kernel
theorem dX0_rightBits_40 : decode cX0_rightBits 40 = .ok (.ishl, 1) := by decide +kernel
theorem dX0_rightBits_41 : decode cX0_rightBits 41 = .ok (.ior, 1) := by decide +kernel
theorem dX0_rightBits_42 : decode cX0_rightBits 42 = .ok (.istore_n 1, 1) := by decide +kernel
theorem dX0_rightBits_43 : decode cX0_rightBits 43 = .ok (.iinc 2 1, 3) := by decide +kernel
theorem dX0_rightBits_46 : decode cX0_rightBits 46 = .ok (.goto (-42), 3) := by decide +kernel
theorem dX0_rightBits_49 : decode cX0_rightBits 49 = .ok (.iload_n 1, 1) := by decide +kernel
theorem dX0_rightBits_50 : decode cX0_rightBits 50 = .ok (.ireturn, 1) := by decide +kernel
theorem dX0_nickCount_0 : decode cX0_nickCount 0 = .ok (.iconst 0, 1) := by decide +kernel
theorem dX0_nickCount_1 : decode cX0_nickCount 1 = .ok (.istore_n 1, 1) := by decide +kernel
theorem dX0_nickCount_2 : decode cX0_nickCount 2 = .ok (.iconst 0, 1) := by decide +kernel
theorem dX0_nickCount_3 : decode cX0_nickCount 3 = .ok (.istore_n 2, 1) := by decide +kernel
theorem dX0_nickCount_4 : decode cX0_nickCount 4 = .ok (.iload_n 2, 1) := by decide +kernel
theorem dX0_nickCount_5 : decode cX0_nickCount 5 = .ok (.bipush 40, 2) := by decide +kernel
theorem dX0_nickCount_7 : decode cX0_nickCount 7 = .ok (.if_icmp .ge 18, 3) := by decide +kernel
theorem dX0_nickCount_10 : decode cX0_nickCount 10 = .ok (.iload_n 1, 1) := by decide +kernel
theorem dX0_nickCount_11 : decode cX0_nickCount 11 = .ok (.aload_n 0, 1) := by decide +kernel
theorem dX0_nickCount_12 : decode cX0_nickCount 12 = .ok (.getfield 15, 3) := by decide +kernel
theorem dX0_nickCount_15 : decode cX0_nickCount 15 = .ok (.iload_n 2, 1) := by decide +kernel
theorem dX0_nickCount_16 : decode cX0_nickCount 16 = .ok (.iaload, 1) := by decide +kernel
theorem dX0_nickCount_17 : decode cX0_nickCount 17 = .ok (.iadd, 1) := by decide +kernel
theorem dX0_nickCount_18 : decode cX0_nickCount 18 = .ok (.istore_n 1, 1) := by decide +kernel
theorem dX0_nickCount_19 : decode cX0_nickCount 19 = .ok (.iinc 2 1, 3) := by decide +kernel
theorem dX0_nickCount_22 : decode cX0_nickCount 22 = .ok (.goto (-18), 3) := by decide +kernel
theorem dX0_nickCount_25 : decode cX0_nickCount 25 = .ok (.iload_n 1, 1) := by decide +kernel
theorem dX0_nickCount_26 : decode cX0_nickCount 26 = .ok (.ireturn, 1) := by decide +kernel
theorem dX0_isStanding_0 : decode cX0_isStanding 0 = .ok (.iload_n 1, 1) := by decide +kernel
theorem dX0_isStanding_1 : decode cX0_isStanding 1 = .ok (.invokestatic 47, 3) := by decide +kernel
theorem dX0_isStanding_4 : decode cX0_isStanding 4 = .ok (.ifCond .eq 19, 3) := by decide +kernel
theorem dX0_isStanding_7 : decode cX0_isStanding 7 = .ok (.aload_n 0, 1) := by decide +kernel
theorem dX0_isStanding_8 : decode cX0_isStanding 8 = .ok (.getfield 21, 3) := by decide +kernel
theorem dX0_isStanding_11 : decode cX0_isStanding 11 = .ok (.iload_n 1, 1) := by decide +kernel
theorem dX0_isStanding_12 : decode cX0_isStanding 12 = .ok (.iaload, 1) := by decide +kernel
theorem dX0_isStanding_13 : decode cX0_isStanding 13 = .ok (.invokestatic 43, 3) := by decide +kernel
theorem dX0_isStanding_16 : decode cX0_isStanding 16 = .ok (.ifCond .eq 7, 3) := by decide +kernel
theorem dX0_isStanding_19 : decode cX0_isStanding 19 = .ok (.iconst 1, 1) := by decide +kernel
theorem dX0_isStanding_20 : decode cX0_isStanding 20 = .ok (.goto 4, 3) := by decide +kernel
theorem dX0_isStanding_23 : decode cX0_isStanding 23 = .ok (.iconst 0, 1) := by decide +kernel
theorem dX0_isStanding_24 : decode cX0_isStanding 24 = .ok (.ireturn, 1) := by decide +kernel
theorem dX0_standsAtOwn_0 : decode cX0_standsAtOwn 0 = .ok (.aload_n 0, 1) := by decide +kernel
theorem dX0_standsAtOwn_1 : decode cX0_standsAtOwn 1 = .ok (.iload_n 1, 1) := by decide +kernel
theorem dX0_standsAtOwn_2 : decode cX0_standsAtOwn 2 = .ok (.invokevirtual 50, 3) := by decide +kernel
theorem dX0_standsAtOwn_5 : decode cX0_standsAtOwn 5 = .ok (.ifCond .eq 22, 3) := by decide +kernel
theorem dX0_standsAtOwn_8 : decode cX0_standsAtOwn 8 = .ok (.aload_n 0, 1) := by decide +kernel
theorem dX0_standsAtOwn_9 : decode cX0_standsAtOwn 9 = .ok (.getfield 18, 3) := by decide +kernel
theorem dX0_standsAtOwn_12 : decode cX0_standsAtOwn 12 = .ok (.aload_n 0, 1) := by decide +kernel
theorem dX0_standsAtOwn_13 : decode cX0_standsAtOwn 13 = .ok (.getfield 21, 3) := by decide +kernel
theorem dX0_standsAtOwn_16 : decode cX0_standsAtOwn 16 = .ok (.iload_n 1, 1) := by decide +kernel
theorem dX0_standsAtOwn_17 : decode cX0_standsAtOwn 17 = .ok (.iaload, 1) := by decide +kernel
theorem dX0_standsAtOwn_18 : decode cX0_standsAtOwn 18 = .ok (.iaload, 1) := by decide +kernel
theorem dX0_standsAtOwn_19 : decode cX0_standsAtOwn 19 = .ok (.iload_n 1, 1) := by decide +kernel
theorem dX0_standsAtOwn_20 : decode cX0_standsAtOwn 20 = .ok (.if_icmp .ne 7, 3) := by decide +kernel
theorem dX0_standsAtOwn_23 : decode cX0_standsAtOwn 23 = .ok (.iconst 1, 1) := by decide +kernel
theorem dX0_standsAtOwn_24 : decode cX0_standsAtOwn 24 = .ok (.goto 4, 3) := by decide +kernel
theorem dX0_standsAtOwn_27 : decode cX0_standsAtOwn 27 = .ok (.iconst 0, 1) := by decide +kernel
theorem dX0_standsAtOwn_28 : decode cX0_standsAtOwn 28 = .ok (.ireturn, 1) := by decide +kernel
theorem dX0_hearsOwnBeat_0 : decode cX0_hearsOwnBeat 0 = .ok (.aload_n 0, 1) := by decide +kernel
theorem dX0_hearsOwnBeat_1 : decode cX0_hearsOwnBeat 1 = .ok (.iload_n 1, 1) := by decide +kernel
theorem dX0_hearsOwnBeat_2 : decode cX0_hearsOwnBeat 2 = .ok (.invokevirtual 50, 3) := by decide +kernel
theorem dX0_hearsOwnBeat_5 : decode cX0_hearsOwnBeat 5 = .ok (.ifCond .eq 27, 3) := by decide +kernel
theorem dX0_hearsOwnBeat_8 : decode cX0_hearsOwnBeat 8 = .ok (.aload_n 0, 1) := by decide +kernel
theorem dX0_hearsOwnBeat_9 : decode cX0_hearsOwnBeat 9 = .ok (.getfield 9, 3) := by decide +kernel
theorem dX0_hearsOwnBeat_12 : decode cX0_hearsOwnBeat 12 = .ok (.aload_n 0, 1) := by decide +kernel
theorem dX0_hearsOwnBeat_13 : decode cX0_hearsOwnBeat 13 = .ok (.getfield 21, 3) := by decide +kernel
theorem dX0_hearsOwnBeat_16 : decode cX0_hearsOwnBeat 16 = .ok (.iload_n 1, 1) := by decide +kernel
theorem dX0_hearsOwnBeat_17 : decode cX0_hearsOwnBeat 17 = .ok (.iaload, 1) := by decide +kernel
theorem dX0_hearsOwnBeat_18 : decode cX0_hearsOwnBeat 18 = .ok (.iaload, 1) := by decide +kernel
theorem dX0_hearsOwnBeat_19 : decode cX0_hearsOwnBeat 19 = .ok (.aload_n 0, 1) := by decide +kernel
theorem dX0_hearsOwnBeat_20 : decode cX0_hearsOwnBeat 20 = .ok (.getfield 24, 3) := by decide +kernel
theorem dX0_hearsOwnBeat_23 : decode cX0_hearsOwnBeat 23 = .ok (.iload_n 1, 1) := by decide +kernel
theorem dX0_hearsOwnBeat_24 : decode cX0_hearsOwnBeat 24 = .ok (.iaload, 1) := by decide +kernel
theorem dX0_hearsOwnBeat_25 : decode cX0_hearsOwnBeat 25 = .ok (.if_icmp .ne 7, 3) := by decide +kernel
theorem dX0_hearsOwnBeat_28 : decode cX0_hearsOwnBeat 28 = .ok (.iconst 1, 1) := by decide +kernel
theorem dX0_hearsOwnBeat_29 : decode cX0_hearsOwnBeat 29 = .ok (.goto 4, 3) := by decide +kernel
theorem dX0_hearsOwnBeat_32 : decode cX0_hearsOwnBeat 32 = .ok (.iconst 0, 1) := by decide +kernel
theorem dX0_hearsOwnBeat_33 : decode cX0_hearsOwnBeat 33 = .ok (.ireturn, 1) := by decide +kernel
theorem dX0_bar_0 : decode cX0_bar 0 = .ok (.iload_n 2, 1) := by decide +kernel
theorem dX0_bar_1 : decode cX0_bar 1 = .ok (.bipush 46, 2) := by decide +kernel
theorem dX0_bar_3 : decode cX0_bar 3 = .ok (.if_icmp .ne 18, 3) := by decide +kernel
theorem dX0_bar_6 : decode cX0_bar 6 = .ok (.aload_n 0, 1) := by decide +kernel
theorem dX0_bar_7 : decode cX0_bar 7 = .ok (.getfield 39, 3) := by decide +kernel
theorem dX0_bar_10 : decode cX0_bar 10 = .ok (.bipush 60, 2) := by decide +kernel
theorem dX0_bar_12 : decode cX0_bar 12 = .ok (.if_icmp .lt 7, 3) := by decide +kernel
theorem dX0_bar_15 : decode cX0_bar 15 = .ok (.iconst 5, 1) := by decide +kernel
theorem dX0_bar_16 : decode cX0_bar 16 = .ok (.goto 4, 3) := by decide +kernel
theorem dX0_bar_19 : decode cX0_bar 19 = .ok (.iconst 0, 1) := by decide +kernel
theorem dX0_bar_20 : decode cX0_bar 20 = .ok (.ireturn, 1) := by decide +kernel
theorem dX0_bar_21 : decode cX0_bar 21 = .ok (.aload_n 0, 1) := by decide +kernel
theorem dX0_bar_22 : decode cX0_bar 22 = .ok (.iload_n 1, 1) := by decide +kernel
theorem dX0_bar_23 : decode cX0_bar 23 = .ok (.invokevirtual 50, 3) := by decide +kernel
theorem dX0_bar_26 : decode cX0_bar 26 = .ok (.ifCond .ne 5, 3) := by decide +kernel
theorem dX0_bar_29 : decode cX0_bar 29 = .ok (.iconst 2, 1) := by decide +kernel
theorem dX0_bar_30 : decode cX0_bar 30 = .ok (.ireturn, 1) := by decide +kernel
theorem dX0_bar_31 : decode cX0_bar 31 = .ok (.aload_n 0, 1) := by decide +kernel
theorem dX0_bar_32 : decode cX0_bar 32 = .ok (.getfield 30, 3) := by decide +kernel
theorem dX0_bar_35 : decode cX0_bar 35 = .ok (.iload_n 1, 1) := by decide +kernel
theorem dX0_bar_36 : decode cX0_bar 36 = .ok (.iaload, 1) := by decide +kernel
theorem dX0_bar_37 : decode cX0_bar 37 = .ok (.bipush (-6), 2) := by decide +kernel
theorem dX0_bar_39 : decode cX0_bar 39 = .ok (.if_icmp .eq 5, 3) := by decide +kernel
theorem dX0_bar_42 : decode cX0_bar 42 = .ok (.iconst 1, 1) := by decide +kernel
theorem dX0_bar_43 : decode cX0_bar 43 = .ok (.ireturn, 1) := by decide +kernel
theorem dX0_bar_44 : decode cX0_bar 44 = .ok (.aload_n 0, 1) := by decide +kernel
theorem dX0_bar_45 : decode cX0_bar 45 = .ok (.getfield 21, 3) := by decide +kernel
theorem dX0_bar_48 : decode cX0_bar 48 = .ok (.iload_n 1, 1) := by decide +kernel
theorem dX0_bar_49 : decode cX0_bar 49 = .ok (.iaload, 1) := by decide +kernel
theorem dX0_bar_50 : decode cX0_bar 50 = .ok (.istore 4, 2) := by decide +kernel
theorem dX0_bar_52 : decode cX0_bar 52 = .ok (.iload_n 2, 1) := by decide +kernel
theorem dX0_bar_53 : decode cX0_bar 53 = .ok (.lookupswitch 131 #[(33, 116), (48, 99), (60, 67), (62, 51), (126, 83)], 51) := by decide +kernel
theorem dX0_bar_104 : decode cX0_bar 104 = .ok (.iload 4, 2) := by decide +kernel
theorem dX0_bar_106 : decode cX0_bar 106 = .ok (.iload_n 3, 1) := by decide +kernel
theorem dX0_bar_107 : decode cX0_bar 107 = .ok (.iadd, 1) := by decide +kernel
theorem dX0_bar_108 : decode cX0_bar 108 = .ok (.invokestatic 43, 3) := by decide +kernel
theorem dX0_bar_111 : decode cX0_bar 111 = .ok (.ifCond .eq 7, 3) := by decide +kernel
theorem dX0_bar_114 : decode cX0_bar 114 = .ok (.iconst 0, 1) := by decide +kernel
theorem dX0_bar_115 : decode cX0_bar 115 = .ok (.goto 4, 3) := by decide +kernel
theorem dX0_bar_118 : decode cX0_bar 118 = .ok (.iconst 2, 1) := by decide +kernel
theorem dX0_bar_119 : decode cX0_bar 119 = .ok (.ireturn, 1) := by decide +kernel
theorem dX0_bar_120 : decode cX0_bar 120 = .ok (.iload 4, 2) := by decide +kernel
theorem dX0_bar_122 : decode cX0_bar 122 = .ok (.iload_n 3, 1) := by decide +kernel
theorem dX0_bar_123 : decode cX0_bar 123 = .ok (.isub, 1) := by decide +kernel
theorem dX0_bar_124 : decode cX0_bar 124 = .ok (.invokestatic 43, 3) := by decide +kernel
theorem dX0_bar_127 : decode cX0_bar 127 = .ok (.ifCond .eq 7, 3) := by decide +kernel
theorem dX0_bar_130 : decode cX0_bar 130 = .ok (.iconst 0, 1) := by decide +kernel
theorem dX0_bar_131 : decode cX0_bar 131 = .ok (.goto 4, 3) := by decide +kernel
theorem dX0_bar_134 : decode cX0_bar 134 = .ok (.iconst 2, 1) := by decide +kernel
theorem dX0_bar_135 : decode cX0_bar 135 = .ok (.ireturn, 1) := by decide +kernel
theorem dX0_bar_136 : decode cX0_bar 136 = .ok (.iload 4, 2) := by decide +kernel
theorem dX0_bar_138 : decode cX0_bar 138 = .ok (.iconst 1, 1) := by decide +kernel
theorem dX0_bar_139 : decode cX0_bar 139 = .ok (.iadd, 1) := by decide +kernel
theorem dX0_bar_140 : decode cX0_bar 140 = .ok (.invokestatic 43, 3) := by decide +kernel
theorem dX0_bar_143 : decode cX0_bar 143 = .ok (.ifCond .eq 7, 3) := by decide +kernel
theorem dX0_bar_146 : decode cX0_bar 146 = .ok (.iconst 0, 1) := by decide +kernel
theorem dX0_bar_147 : decode cX0_bar 147 = .ok (.goto 4, 3) := by decide +kernel
theorem dX0_bar_150 : decode cX0_bar 150 = .ok (.iconst 2, 1) := by decide +kernel
theorem dX0_bar_151 : decode cX0_bar 151 = .ok (.ireturn, 1) := by decide +kernel
theorem dX0_bar_152 : decode cX0_bar 152 = .ok (.aload_n 0, 1) := by decide +kernel
theorem dX0_bar_153 : decode cX0_bar 153 = .ok (.getfield 9, 3) := by decide +kernel
theorem dX0_bar_156 : decode cX0_bar 156 = .ok (.iload 4, 2) := by decide +kernel
theorem dX0_bar_158 : decode cX0_bar 158 = .ok (.iaload, 1) := by decide +kernel
theorem dX0_bar_159 : decode cX0_bar 159 = .ok (.iload_n 3, 1) := by decide +kernel
theorem dX0_bar_160 : decode cX0_bar 160 = .ok (.if_icmp .ne 7, 3) := by decide +kernel
theorem dX0_bar_163 : decode cX0_bar 163 = .ok (.iconst 3, 1) := by decide +kernel
theorem dX0_bar_164 : decode cX0_bar 164 = .ok (.goto 4, 3) := by decide +kernel
theorem dX0_bar_167 : decode cX0_bar 167 = .ok (.iconst 0, 1) := by decide +kernel
theorem dX0_bar_168 : decode cX0_bar 168 = .ok (.ireturn, 1) := by decide +kernel
theorem dX0_bar_169 : decode cX0_bar 169 = .ok (.aload_n 0, 1) := by decide +kernel
theorem dX0_bar_170 : decode cX0_bar 170 = .ok (.iload 4, 2) := by decide +kernel
theorem dX0_bar_172 : decode cX0_bar 172 = .ok (.invokevirtual 53, 3) := by decide +kernel
theorem dX0_bar_175 : decode cX0_bar 175 = .ok (.ifCond .eq 7, 3) := by decide +kernel
theorem dX0_bar_178 : decode cX0_bar 178 = .ok (.iconst 4, 1) := by decide +kernel
theorem dX0_bar_179 : decode cX0_bar 179 = .ok (.goto 4, 3) := by decide +kernel
theorem dX0_bar_182 : decode cX0_bar 182 = .ok (.iconst 0, 1) := by decide +kernel
theorem dX0_bar_183 : decode cX0_bar 183 = .ok (.ireturn, 1) := by decide +kernel
theorem dX0_bar_184 : decode cX0_bar 184 = .ok (.iconst 0, 1) := by decide +kernel
theorem dX0_bar_185 : decode cX0_bar 185 = .ok (.ireturn, 1) := by decide +kernel
theorem dX0_act_0 : decode cX0_act 0 = .ok (.aload_n 0, 1) := by decide +kernel
theorem dX0_act_1 : decode cX0_act 1 = .ok (.iload_n 1, 1) := by decide +kernel
theorem dX0_act_2 : decode cX0_act 2 = .ok (.invokevirtual 50, 3) := by decide +kernel
theorem dX0_act_5 : decode cX0_act 5 = .ok (.ifCond .ne 4, 3) := by decide +kernel
theorem dX0_act_8 : decode cX0_act 8 = .ok (.return_, 1) := by decide +kernel
theorem dX0_act_9 : decode cX0_act 9 = .ok (.aload_n 0, 1) := by decide +kernel
theorem dX0_act_10 : decode cX0_act 10 = .ok (.getfield 21, 3) := by decide +kernel
theorem dX0_act_13 : decode cX0_act 13 = .ok (.iload_n 1, 1) := by decide +kernel
theorem dX0_act_14 : decode cX0_act 14 = .ok (.iaload, 1) := by decide +kernel
theorem dX0_act_15 : decode cX0_act 15 = .ok (.istore 4, 2) := by decide +kernel
theorem dX0_act_17 : decode cX0_act 17 = .ok (.iload_n 2, 1) := by decide +kernel
theorem dX0_act_18 : decode cX0_act 18 = .ok (.lookupswitch 195 #[(33, 177), (42, 138), (46, 188), (48, 157), (60, 87), (62, 74), (63, 100), (126, 168)], 74) := by decide +kernel
theorem dX0_act_92 : decode cX0_act 92 = .ok (.aload_n 0, 1) := by decide +kernel
theorem dX0_act_93 : decode cX0_act 93 = .ok (.getfield 21, 3) := by decide +kernel
theorem dX0_act_96 : decode cX0_act 96 = .ok (.iload_n 1, 1) := by decide +kernel
theorem dX0_act_97 : decode cX0_act 97 = .ok (.iload 4, 2) := by decide +kernel
theorem dX0_act_99 : decode cX0_act 99 = .ok (.iload_n 3, 1) := by decide +kernel
theorem dX0_act_100 : decode cX0_act 100 = .ok (.iadd, 1) := by decide +kernel
theorem dX0_act_101 : decode cX0_act 101 = .ok (.iastore, 1) := by decide +kernel
theorem dX0_act_102 : decode cX0_act 102 = .ok (.goto 111, 3) := by decide +kernel
theorem dX0_act_105 : decode cX0_act 105 = .ok (.aload_n 0, 1) := by decide +kernel
theorem dX0_act_106 : decode cX0_act 106 = .ok (.getfield 21, 3) := by decide +kernel
theorem dX0_act_109 : decode cX0_act 109 = .ok (.iload_n 1, 1) := by decide +kernel
theorem dX0_act_110 : decode cX0_act 110 = .ok (.iload 4, 2) := by decide +kernel
theorem dX0_act_112 : decode cX0_act 112 = .ok (.iload_n 3, 1) := by decide +kernel
theorem dX0_act_113 : decode cX0_act 113 = .ok (.isub, 1) := by decide +kernel
theorem dX0_act_114 : decode cX0_act 114 = .ok (.iastore, 1) := by decide +kernel
theorem dX0_act_115 : decode cX0_act 115 = .ok (.goto 98, 3) := by decide +kernel
theorem dX0_act_118 : decode cX0_act 118 = .ok (.aload_n 0, 1) := by decide +kernel
theorem dX0_act_119 : decode cX0_act 119 = .ok (.getfield 9, 3) := by decide +kernel
theorem dX0_act_122 : decode cX0_act 122 = .ok (.iload 4, 2) := by decide +kernel
theorem dX0_act_124 : decode cX0_act 124 = .ok (.iaload, 1) := by decide +kernel
theorem dX0_act_125 : decode cX0_act 125 = .ok (.aload_n 0, 1) := by decide +kernel
theorem dX0_act_126 : decode cX0_act 126 = .ok (.getfield 24, 3) := by decide +kernel
theorem dX0_act_129 : decode cX0_act 129 = .ok (.iload_n 1, 1) := by decide +kernel
theorem dX0_act_130 : decode cX0_act 130 = .ok (.iaload, 1) := by decide +kernel
theorem dX0_act_131 : decode cX0_act 131 = .ok (.if_icmp .ne 82, 3) := by decide +kernel
theorem dX0_act_134 : decode cX0_act 134 = .ok (.aload_n 0, 1) := by decide +kernel
theorem dX0_act_135 : decode cX0_act 135 = .ok (.getfield 27, 3) := by decide +kernel
theorem dX0_act_138 : decode cX0_act 138 = .ok (.iload_n 1, 1) := by decide +kernel
theorem dX0_act_139 : decode cX0_act 139 = .ok (.aload_n 0, 1) := by decide +kernel
theorem dX0_act_140 : decode cX0_act 140 = .ok (.getfield 27, 3) := by decide +kernel
theorem dX0_act_143 : decode cX0_act 143 = .ok (.iload_n 1, 1) := by decide +kernel
theorem dX0_act_144 : decode cX0_act 144 = .ok (.iaload, 1) := by decide +kernel
theorem dX0_act_145 : decode cX0_act 145 = .ok (.iconst 1, 1) := by decide +kernel
theorem dX0_act_146 : decode cX0_act 146 = .ok (.iadd, 1) := by decide +kernel
theorem dX0_act_147 : decode cX0_act 147 = .ok (.bipush 99, 2) := by decide +kernel
theorem dX0_act_149 : decode cX0_act 149 = .ok (.invokestatic 56, 3) := by decide +kernel
theorem dX0_act_152 : decode cX0_act 152 = .ok (.iastore, 1) := by decide +kernel
theorem dX0_act_153 : decode cX0_act 153 = .ok (.goto 60, 3) := by decide +kernel
theorem dX0_act_156 : decode cX0_act 156 = .ok (.aload_n 0, 1) := by decide +kernel
theorem dX0_act_157 : decode cX0_act 157 = .ok (.getfield 15, 3) := by decide +kernel
theorem dX0_act_160 : decode cX0_act 160 = .ok (.iload 4, 2) := by decide +kernel
theorem dX0_act_162 : decode cX0_act 162 = .ok (.iconst 1, 1) := by decide +kernel
theorem dX0_act_163 : decode cX0_act 163 = .ok (.aload_n 0, 1) := by decide +kernel
theorem dX0_act_164 : decode cX0_act 164 = .ok (.getfield 15, 3) := by decide +kernel
theorem dX0_act_167 : decode cX0_act 167 = .ok (.iload 4, 2) := by decide +kernel
theorem dX0_act_169 : decode cX0_act 169 = .ok (.iaload, 1) := by decide +kernel
theorem dX0_act_170 : decode cX0_act 170 = .ok (.isub, 1) := by decide +kernel
theorem dX0_act_171 : decode cX0_act 171 = .ok (.iastore, 1) := by decide +kernel
theorem dX0_act_172 : decode cX0_act 172 = .ok (.goto 41, 3) := by decide +kernel
theorem dX0_act_175 : decode cX0_act 175 = .ok (.aload_n 0, 1) := by decide +kernel
theorem dX0_act_176 : decode cX0_act 176 = .ok (.getfield 9, 3) := by decide +kernel
theorem dX0_act_179 : decode cX0_act 179 = .ok (.iload 4, 2) := by decide +kernel
theorem dX0_act_181 : decode cX0_act 181 = .ok (.iload_n 3, 1) := by decide +kernel
theorem dX0_act_182 : decode cX0_act 182 = .ok (.iastore, 1) := by decide +kernel
theorem dX0_act_183 : decode cX0_act 183 = .ok (.goto 30, 3) := by decide +kernel
theorem dX0_act_186 : decode cX0_act 186 = .ok (.aload_n 0, 1) := by decide +kernel
theorem dX0_act_187 : decode cX0_act 187 = .ok (.iload 4, 2) := by decide +kernel
theorem dX0_act_189 : decode cX0_act 189 = .ok (.invokevirtual 62, 3) := by decide +kernel
theorem dX0_act_192 : decode cX0_act 192 = .ok (.goto 21, 3) := by decide +kernel
theorem dX0_act_195 : decode cX0_act 195 = .ok (.aload_n 0, 1) := by decide +kernel
theorem dX0_act_196 : decode cX0_act 196 = .ok (.getfield 30, 3) := by decide +kernel
theorem dX0_act_199 : decode cX0_act 199 = .ok (.iload_n 1, 1) := by decide +kernel
theorem dX0_act_200 : decode cX0_act 200 = .ok (.iload 4, 2) := by decide +kernel
theorem dX0_act_202 : decode cX0_act 202 = .ok (.iastore, 1) := by decide +kernel
theorem dX0_act_203 : decode cX0_act 203 = .ok (.goto 10, 3) := by decide +kernel
theorem dX0_act_206 : decode cX0_act 206 = .ok (.aload_n 0, 1) := by decide +kernel
theorem dX0_act_207 : decode cX0_act 207 = .ok (.invokevirtual 66, 3) := by decide +kernel
theorem dX0_act_210 : decode cX0_act 210 = .ok (.goto 3, 3) := by decide +kernel
theorem dX0_act_213 : decode cX0_act 213 = .ok (.return_, 1) := by decide +kernel
theorem dX0_isChosen_0 : decode cX0_isChosen 0 = .ok (.iconst 0, 1) := by decide +kernel
theorem dX0_isChosen_1 : decode cX0_isChosen 1 = .ok (.istore_n 2, 1) := by decide +kernel
theorem dX0_isChosen_2 : decode cX0_isChosen 2 = .ok (.iload_n 2, 1) := by decide +kernel
theorem dX0_isChosen_3 : decode cX0_isChosen 3 = .ok (.bipush 6, 2) := by decide +kernel
theorem dX0_isChosen_5 : decode cX0_isChosen 5 = .ok (.if_icmp .ge 21, 3) := by decide +kernel
theorem dX0_isChosen_8 : decode cX0_isChosen 8 = .ok (.aload_n 0, 1) := by decide +kernel
theorem dX0_isChosen_9 : decode cX0_isChosen 9 = .ok (.getfield 30, 3) := by decide +kernel
theorem dX0_isChosen_12 : decode cX0_isChosen 12 = .ok (.iload_n 2, 1) := by decide +kernel
theorem dX0_isChosen_13 : decode cX0_isChosen 13 = .ok (.iaload, 1) := by decide +kernel
theorem dX0_isChosen_14 : decode cX0_isChosen 14 = .ok (.iload_n 1, 1) := by decide +kernel
theorem dX0_isChosen_15 : decode cX0_isChosen 15 = .ok (.if_icmp .ne 5, 3) := by decide +kernel
theorem dX0_isChosen_18 : decode cX0_isChosen 18 = .ok (.iconst 1, 1) := by decide +kernel
theorem dX0_isChosen_19 : decode cX0_isChosen 19 = .ok (.ireturn, 1) := by decide +kernel
theorem dX0_isChosen_20 : decode cX0_isChosen 20 = .ok (.iinc 2 1, 3) := by decide +kernel
theorem dX0_isChosen_23 : decode cX0_isChosen 23 = .ok (.goto (-21), 3) := by decide +kernel
theorem dX0_isChosen_26 : decode cX0_isChosen 26 = .ok (.iconst 0, 1) := by decide +kernel
theorem dX0_isChosen_27 : decode cX0_isChosen 27 = .ok (.ireturn, 1) := by decide +kernel
theorem dX0_changeWithNext_0 : decode cX0_changeWithNext 0 = .ok (.aload_n 0, 1) := by decide +kernel
theorem dX0_changeWithNext_1 : decode cX0_changeWithNext 1 = .ok (.getfield 9, 3) := by decide +kernel
theorem dX0_changeWithNext_4 : decode cX0_changeWithNext 4 = .ok (.iload_n 1, 1) := by decide +kernel
theorem dX0_changeWithNext_5 : decode cX0_changeWithNext 5 = .ok (.invokestatic 69, 3) := by decide +kernel
theorem dX0_changeWithNext_8 : decode cX0_changeWithNext 8 = .ok (.aload_n 0, 1) := by decide +kernel
theorem dX0_changeWithNext_9 : decode cX0_changeWithNext 9 = .ok (.getfield 15, 3) := by decide +kernel
theorem dX0_changeWithNext_12 : decode cX0_changeWithNext 12 = .ok (.iload_n 1, 1) := by decide +kernel
theorem dX0_changeWithNext_13 : decode cX0_changeWithNext 13 = .ok (.invokestatic 69, 3) := by decide +kernel
theorem dX0_changeWithNext_16 : decode cX0_changeWithNext 16 = .ok (.aload_n 0, 1) := by decide +kernel
theorem dX0_changeWithNext_17 : decode cX0_changeWithNext 17 = .ok (.getfield 18, 3) := by decide +kernel
theorem dX0_changeWithNext_20 : decode cX0_changeWithNext 20 = .ok (.iload_n 1, 1) := by decide +kernel
theorem dX0_changeWithNext_21 : decode cX0_changeWithNext 21 = .ok (.invokestatic 69, 3) := by decide +kernel
theorem dX0_changeWithNext_24 : decode cX0_changeWithNext 24 = .ok (.return_, 1) := by decide +kernel
theorem dX0_swapWithNext_0 : decode cX0_swapWithNext 0 = .ok (.iload_n 1, 1) := by decide +kernel
theorem dX0_swapWithNext_1 : decode cX0_swapWithNext 1 = .ok (.ifCond .lt 11, 3) := by decide +kernel
theorem dX0_swapWithNext_4 : decode cX0_swapWithNext 4 = .ok (.iload_n 1, 1) := by decide +kernel
theorem dX0_swapWithNext_5 : decode cX0_swapWithNext 5 = .ok (.iconst 1, 1) := by decide +kernel
theorem dX0_swapWithNext_6 : decode cX0_swapWithNext 6 = .ok (.iadd, 1) := by decide +kernel
theorem dX0_swapWithNext_7 : decode cX0_swapWithNext 7 = .ok (.aload_n 0, 1) := by decide +kernel
theorem dX0_swapWithNext_8 : decode cX0_swapWithNext 8 = .ok (.arraylength, 1) := by decide +kernel
theorem dX0_swapWithNext_9 : decode cX0_swapWithNext 9 = .ok (.if_icmp .lt 4, 3) := by decide +kernel
theorem dX0_swapWithNext_12 : decode cX0_swapWithNext 12 = .ok (.return_, 1) := by decide +kernel
theorem dX0_swapWithNext_13 : decode cX0_swapWithNext 13 = .ok (.aload_n 0, 1) := by decide +kernel
theorem dX0_swapWithNext_14 : decode cX0_swapWithNext 14 = .ok (.iload_n 1, 1) := by decide +kernel
theorem dX0_swapWithNext_15 : decode cX0_swapWithNext 15 = .ok (.iaload, 1) := by decide +kernel
theorem dX0_swapWithNext_16 : decode cX0_swapWithNext 16 = .ok (.istore_n 2, 1) := by decide +kernel
theorem dX0_swapWithNext_17 : decode cX0_swapWithNext 17 = .ok (.aload_n 0, 1) := by decide +kernel
theorem dX0_swapWithNext_18 : decode cX0_swapWithNext 18 = .ok (.iload_n 1, 1) := by decide +kernel
theorem dX0_swapWithNext_19 : decode cX0_swapWithNext 19 = .ok (.aload_n 0, 1) := by decide +kernel
theorem dX0_swapWithNext_20 : decode cX0_swapWithNext 20 = .ok (.iload_n 1, 1) := by decide +kernel
theorem dX0_swapWithNext_21 : decode cX0_swapWithNext 21 = .ok (.iconst 1, 1) := by decide +kernel
theorem dX0_swapWithNext_22 : decode cX0_swapWithNext 22 = .ok (.iadd, 1) := by decide +kernel
theorem dX0_swapWithNext_23 : decode cX0_swapWithNext 23 = .ok (.iaload, 1) := by decide +kernel
theorem dX0_swapWithNext_24 : decode cX0_swapWithNext 24 = .ok (.iastore, 1) := by decide +kernel
theorem dX0_swapWithNext_25 : decode cX0_swapWithNext 25 = .ok (.aload_n 0, 1) := by decide +kernel
theorem dX0_swapWithNext_26 : decode cX0_swapWithNext 26 = .ok (.iload_n 1, 1) := by decide +kernel
theorem dX0_swapWithNext_27 : decode cX0_swapWithNext 27 = .ok (.iconst 1, 1) := by decide +kernel
theorem dX0_swapWithNext_28 : decode cX0_swapWithNext 28 = .ok (.iadd, 1) := by decide +kernel
theorem dX0_swapWithNext_29 : decode cX0_swapWithNext 29 = .ok (.iload_n 2, 1) := by decide +kernel
theorem dX0_swapWithNext_30 : decode cX0_swapWithNext 30 = .ok (.iastore, 1) := by decide +kernel
theorem dX0_swapWithNext_31 : decode cX0_swapWithNext 31 = .ok (.return_, 1) := by decide +kernel
theorem dX0_hasNick_0 : decode cX0_hasNick 0 = .ok (.iload_n 1, 1) := by decide +kernel
theorem dX0_hasNick_1 : decode cX0_hasNick 1 = .ok (.invokestatic 43, 3) := by decide +kernel
theorem dX0_hasNick_4 : decode cX0_hasNick 4 = .ok (.ifCond .eq 17, 3) := by decide +kernel
theorem dX0_hasNick_7 : decode cX0_hasNick 7 = .ok (.aload_n 0, 1) := by decide +kernel
theorem dX0_hasNick_8 : decode cX0_hasNick 8 = .ok (.getfield 15, 3) := by decide +kernel
theorem dX0_hasNick_11 : decode cX0_hasNick 11 = .ok (.iload_n 1, 1) := by decide +kernel
theorem dX0_hasNick_12 : decode cX0_hasNick 12 = .ok (.iaload, 1) := by decide +kernel
theorem dX0_hasNick_13 : decode cX0_hasNick 13 = .ok (.iconst 1, 1) := by decide +kernel
theorem dX0_hasNick_14 : decode cX0_hasNick 14 = .ok (.if_icmp .ne 7, 3) := by decide +kernel
theorem dX0_hasNick_17 : decode cX0_hasNick 17 = .ok (.iconst 1, 1) := by decide +kernel
theorem dX0_hasNick_18 : decode cX0_hasNick 18 = .ok (.goto 4, 3) := by decide +kernel
theorem dX0_hasNick_21 : decode cX0_hasNick 21 = .ok (.iconst 0, 1) := by decide +kernel
theorem dX0_hasNick_22 : decode cX0_hasNick 22 = .ok (.ireturn, 1) := by decide +kernel
theorem dX0_letMinutePass_0 : decode cX0_letMinutePass 0 = .ok (.aload_n 0, 1) := by decide +kernel
theorem dX0_letMinutePass_1 : decode cX0_letMinutePass 1 = .ok (.dup, 1) := by decide +kernel
theorem dX0_letMinutePass_2 : decode cX0_letMinutePass 2 = .ok (.getfield 39, 3) := by decide +kernel
theorem dX0_letMinutePass_5 : decode cX0_letMinutePass 5 = .ok (.iconst 1, 1) := by decide +kernel
theorem dX0_letMinutePass_6 : decode cX0_letMinutePass 6 = .ok (.iadd, 1) := by decide +kernel
theorem dX0_letMinutePass_7 : decode cX0_letMinutePass 7 = .ok (.putfield 39, 3) := by decide +kernel
theorem dX0_letMinutePass_10 : decode cX0_letMinutePass 10 = .ok (.iconst 0, 1) := by decide +kernel
theorem dX0_letMinutePass_11 : decode cX0_letMinutePass 11 = .ok (.istore_n 1, 1) := by decide +kernel
theorem dX0_letMinutePass_12 : decode cX0_letMinutePass 12 = .ok (.iload_n 1, 1) := by decide +kernel
theorem dX0_letMinutePass_13 : decode cX0_letMinutePass 13 = .ok (.bipush 6, 2) := by decide +kernel
theorem dX0_letMinutePass_15 : decode cX0_letMinutePass 15 = .ok (.if_icmp .ge 53, 3) := by decide +kernel
theorem dX0_letMinutePass_18 : decode cX0_letMinutePass 18 = .ok (.aload_n 0, 1) := by decide +kernel
theorem dX0_letMinutePass_19 : decode cX0_letMinutePass 19 = .ok (.getfield 21, 3) := by decide +kernel
theorem dX0_letMinutePass_22 : decode cX0_letMinutePass 22 = .ok (.iload_n 1, 1) := by decide +kernel
theorem dX0_letMinutePass_23 : decode cX0_letMinutePass 23 = .ok (.iaload, 1) := by decide +kernel
theorem dX0_letMinutePass_24 : decode cX0_letMinutePass 24 = .ok (.istore_n 2, 1) := by decide +kernel
theorem dX0_letMinutePass_25 : decode cX0_letMinutePass 25 = .ok (.aload_n 0, 1) := by decide +kernel
theorem dX0_letMinutePass_26 : decode cX0_letMinutePass 26 = .ok (.getfield 30, 3) := by decide +kernel
theorem dX0_letMinutePass_29 : decode cX0_letMinutePass 29 = .ok (.iload_n 1, 1) := by decide +kernel
theorem dX0_letMinutePass_30 : decode cX0_letMinutePass 30 = .ok (.iaload, 1) := by decide +kernel
theorem dX0_letMinutePass_31 : decode cX0_letMinutePass 31 = .ok (.bipush (-6), 2) := by decide +kernel
theorem dX0_letMinutePass_33 : decode cX0_letMinutePass 33 = .ok (.if_icmp .ne 29, 3) := by decide +kernel
theorem dX0_letMinutePass_36 : decode cX0_letMinutePass 36 = .ok (.aload_n 0, 1) := by decide +kernel
theorem dX0_letMinutePass_37 : decode cX0_letMinutePass 37 = .ok (.iload_n 2, 1) := by decide +kernel
theorem dX0_letMinutePass_38 : decode cX0_letMinutePass 38 = .ok (.invokevirtual 73, 3) := by decide +kernel
theorem dX0_letMinutePass_41 : decode cX0_letMinutePass 41 = .ok (.ifCond .eq 21, 3) := by decide +kernel
theorem dX0_letMinutePass_44 : decode cX0_letMinutePass 44 = .ok (.iload_n 2, 1) := by decide +kernel
theorem dX0_letMinutePass_45 : decode cX0_letMinutePass 45 = .ok (.iconst 1, 1) := by decide +kernel
theorem dX0_letMinutePass_46 : decode cX0_letMinutePass 46 = .ok (.iadd, 1) := by decide +kernel
theorem dX0_letMinutePass_47 : decode cX0_letMinutePass 47 = .ok (.invokestatic 43, 3) := by decide +kernel
theorem dX0_letMinutePass_50 : decode cX0_letMinutePass 50 = .ok (.ifCond .eq 12, 3) := by decide +kernel
theorem dX0_letMinutePass_53 : decode cX0_letMinutePass 53 = .ok (.aload_n 0, 1) := by decide +kernel
theorem dX0_letMinutePass_54 : decode cX0_letMinutePass 54 = .ok (.getfield 21, 3) := by decide +kernel
theorem dX0_letMinutePass_57 : decode cX0_letMinutePass 57 = .ok (.iload_n 1, 1) := by decide +kernel
theorem dX0_letMinutePass_58 : decode cX0_letMinutePass 58 = .ok (.iload_n 2, 1) := by decide +kernel
theorem dX0_letMinutePass_59 : decode cX0_letMinutePass 59 = .ok (.iconst 1, 1) := by decide +kernel
theorem dX0_letMinutePass_60 : decode cX0_letMinutePass 60 = .ok (.iadd, 1) := by decide +kernel
theorem dX0_letMinutePass_61 : decode cX0_letMinutePass 61 = .ok (.iastore, 1) := by decide +kernel
theorem dX0_letMinutePass_62 : decode cX0_letMinutePass 62 = .ok (.iinc 1 1, 3) := by decide +kernel
theorem dX0_letMinutePass_65 : decode cX0_letMinutePass 65 = .ok (.goto (-53), 3) := by decide +kernel
theorem dX0_letMinutePass_68 : decode cX0_letMinutePass 68 = .ok (.return_, 1) := by decide +kernel
theorem dX1_placeBehind_0 : decode cX1_placeBehind 0 = .ok (.iload_n 0, 1) := by decide +kernel
theorem dX1_placeBehind_1 : decode cX1_placeBehind 1 = .ok (.iconst 1, 1) := by decide +kernel
theorem dX1_placeBehind_2 : decode cX1_placeBehind 2 = .ok (.isub, 1) := by decide +kernel
theorem dX1_placeBehind_3 : decode cX1_placeBehind 3 = .ok (.istore_n 3, 1) := by decide +kernel
theorem dX1_placeBehind_4 : decode cX1_placeBehind 4 = .ok (.iload_n 3, 1) := by decide +kernel
theorem dX1_placeBehind_5 : decode cX1_placeBehind 5 = .ok (.iconst 1, 1) := by decide +kernel
theorem dX1_placeBehind_6 : decode cX1_placeBehind 6 = .ok (.if_icmp .lt 8, 3) := by decide +kernel
theorem dX1_placeBehind_9 : decode cX1_placeBehind 9 = .ok (.iload_n 1, 1) := by decide +kernel
theorem dX1_placeBehind_10 : decode cX1_placeBehind 10 = .ok (.iload_n 3, 1) := by decide +kernel
theorem dX1_placeBehind_11 : decode cX1_placeBehind 11 = .ok (.if_icmp .lt 5, 3) := by decide +kernel
theorem dX1_placeBehind_14 : decode cX1_placeBehind 14 = .ok (.iload_n 1, 1) := by decide +kernel
theorem dX1_placeBehind_15 : decode cX1_placeBehind 15 = .ok (.ireturn, 1) := by decide +kernel
theorem dX1_placeBehind_16 : decode cX1_placeBehind 16 = .ok (.iload_n 1, 1) := by decide +kernel
theorem dX1_placeBehind_17 : decode cX1_placeBehind 17 = .ok (.istore 4, 2) := by decide +kernel
theorem dX1_placeBehind_19 : decode cX1_placeBehind 19 = .ok (.iconst 2, 1) := by decide +kernel
theorem dX1_placeBehind_20 : decode cX1_placeBehind 20 = .ok (.iload_n 3, 1) := by decide +kernel
theorem dX1_placeBehind_21 : decode cX1_placeBehind 21 = .ok (.irem, 1) := by decide +kernel
theorem dX1_placeBehind_22 : decode cX1_placeBehind 22 = .ok (.istore 5, 2) := by decide +kernel
theorem dX1_placeBehind_24 : decode cX1_placeBehind 24 = .ok (.iload_n 2, 1) := by decide +kernel
theorem dX1_placeBehind_25 : decode cX1_placeBehind 25 = .ok (.istore 6, 2) := by decide +kernel
theorem dX1_placeBehind_27 : decode cX1_placeBehind 27 = .ok (.iload 6, 2) := by decide +kernel
theorem dX1_placeBehind_29 : decode cX1_placeBehind 29 = .ok (.ifCond .le 38, 3) := by decide +kernel
theorem dX1_placeBehind_32 : decode cX1_placeBehind 32 = .ok (.iload 6, 2) := by decide +kernel
theorem dX1_placeBehind_34 : decode cX1_placeBehind 34 = .ok (.iconst 2, 1) := by decide +kernel
theorem dX1_placeBehind_35 : decode cX1_placeBehind 35 = .ok (.irem, 1) := by decide +kernel
theorem dX1_placeBehind_36 : decode cX1_placeBehind 36 = .ok (.iconst 1, 1) := by decide +kernel
theorem dX1_placeBehind_37 : decode cX1_placeBehind 37 = .ok (.if_icmp .ne 12, 3) := by decide +kernel
theorem dX1_placeBehind_40 : decode cX1_placeBehind 40 = .ok (.iload 4, 2) := by decide +kernel
theorem dX1_placeBehind_42 : decode cX1_placeBehind 42 = .ok (.iload 5, 2) := by decide +kernel
theorem dX1_placeBehind_44 : decode cX1_placeBehind 44 = .ok (.imul, 1) := by decide +kernel
theorem dX1_placeBehind_45 : decode cX1_placeBehind 45 = .ok (.iload_n 3, 1) := by decide +kernel
theorem dX1_placeBehind_46 : decode cX1_placeBehind 46 = .ok (.irem, 1) := by decide +kernel
theorem dX1_placeBehind_47 : decode cX1_placeBehind 47 = .ok (.istore 4, 2) := by decide +kernel
theorem dX1_placeBehind_49 : decode cX1_placeBehind 49 = .ok (.iload 5, 2) := by decide +kernel
theorem dX1_placeBehind_51 : decode cX1_placeBehind 51 = .ok (.iload 5, 2) := by decide +kernel
theorem dX1_placeBehind_53 : decode cX1_placeBehind 53 = .ok (.imul, 1) := by decide +kernel
theorem dX1_placeBehind_54 : decode cX1_placeBehind 54 = .ok (.iload_n 3, 1) := by decide +kernel
theorem dX1_placeBehind_55 : decode cX1_placeBehind 55 = .ok (.irem, 1) := by decide +kernel
theorem dX1_placeBehind_56 : decode cX1_placeBehind 56 = .ok (.istore 5, 2) := by decide +kernel
theorem dX1_placeBehind_58 : decode cX1_placeBehind 58 = .ok (.iload 6, 2) := by decide +kernel
theorem dX1_placeBehind_60 : decode cX1_placeBehind 60 = .ok (.iconst 2, 1) := by decide +kernel
theorem dX1_placeBehind_61 : decode cX1_placeBehind 61 = .ok (.idiv, 1) := by decide +kernel
theorem dX1_placeBehind_62 : decode cX1_placeBehind 62 = .ok (.istore 6, 2) := by decide +kernel
theorem dX1_placeBehind_64 : decode cX1_placeBehind 64 = .ok (.goto (-37), 3) := by decide +kernel
theorem dX1_placeBehind_67 : decode cX1_placeBehind 67 = .ok (.iload 4, 2) := by decide +kernel
theorem dX1_placeBehind_69 : decode cX1_placeBehind 69 = .ok (.ireturn, 1) := by decide +kernel
theorem dX1_round_0 : decode cX1_round 0 = .ok (.iload_n 0, 1) := by decide +kernel
theorem dX1_round_1 : decode cX1_round 1 = .ok (.iconst 1, 1) := by decide +kernel
theorem dX1_round_2 : decode cX1_round 2 = .ok (.isub, 1) := by decide +kernel
theorem dX1_round_3 : decode cX1_round 3 = .ok (.istore_n 1, 1) := by decide +kernel
theorem dX1_round_4 : decode cX1_round 4 = .ok (.iload_n 1, 1) := by decide +kernel
theorem dX1_round_5 : decode cX1_round 5 = .ok (.iconst 1, 1) := by decide +kernel
theorem dX1_round_6 : decode cX1_round 6 = .ok (.if_icmp .ge 5, 3) := by decide +kernel
theorem dX1_round_9 : decode cX1_round 9 = .ok (.iconst 1, 1) := by decide +kernel
theorem dX1_round_10 : decode cX1_round 10 = .ok (.ireturn, 1) := by decide +kernel
theorem dX1_round_11 : decode cX1_round 11 = .ok (.iconst 2, 1) := by decide +kernel
theorem dX1_round_12 : decode cX1_round 12 = .ok (.iload_n 1, 1) := by decide +kernel
theorem dX1_round_13 : decode cX1_round 13 = .ok (.irem, 1) := by decide +kernel
theorem dX1_round_14 : decode cX1_round 14 = .ok (.istore_n 2, 1) := by decide +kernel
theorem dX1_round_15 : decode cX1_round 15 = .ok (.iconst 1, 1) := by decide +kernel
theorem dX1_round_16 : decode cX1_round 16 = .ok (.istore_n 3, 1) := by decide +kernel
theorem dX1_round_17 : decode cX1_round 17 = .ok (.iconst 0, 1) := by decide +kernel
theorem dX1_round_18 : decode cX1_round 18 = .ok (.istore 4, 2) := by decide +kernel
theorem dX1_round_20 : decode cX1_round 20 = .ok (.iload 4, 2) := by decide +kernel
theorem dX1_round_22 : decode cX1_round 22 = .ok (.iload_n 0, 1) := by decide +kernel
theorem dX1_round_23 : decode cX1_round 23 = .ok (.if_icmp .ge 25, 3) := by decide +kernel
theorem dX1_round_26 : decode cX1_round 26 = .ok (.iload_n 2, 1) := by decide +kernel
theorem dX1_round_27 : decode cX1_round 27 = .ok (.iconst 1, 1) := by decide +kernel
theorem dX1_round_28 : decode cX1_round 28 = .ok (.iload_n 1, 1) := by decide +kernel
theorem dX1_round_29 : decode cX1_round 29 = .ok (.irem, 1) := by decide +kernel
theorem dX1_round_30 : decode cX1_round 30 = .ok (.if_icmp .eq 18, 3) := by decide +kernel
theorem dX1_round_33 : decode cX1_round 33 = .ok (.iload_n 2, 1) := by decide +kernel
theorem dX1_round_34 : decode cX1_round 34 = .ok (.iconst 2, 1) := by decide +kernel
theorem dX1_round_35 : decode cX1_round 35 = .ok (.imul, 1) := by decide +kernel
theorem dX1_round_36 : decode cX1_round 36 = .ok (.iload_n 1, 1) := by decide +kernel
theorem dX1_round_37 : decode cX1_round 37 = .ok (.irem, 1) := by decide +kernel
theorem dX1_round_38 : decode cX1_round 38 = .ok (.istore_n 2, 1) := by decide +kernel
theorem dX1_round_39 : decode cX1_round 39 = .ok (.iinc 3 1, 3) := by decide +kernel
theorem dX1_round_42 : decode cX1_round 42 = .ok (.iinc 4 1, 3) := by decide +kernel
theorem dX1_round_45 : decode cX1_round 45 = .ok (.goto (-25), 3) := by decide +kernel
theorem dX1_round_48 : decode cX1_round 48 = .ok (.iload_n 3, 1) := by decide +kernel
theorem dX1_round_49 : decode cX1_round 49 = .ok (.ireturn, 1) := by decide +kernel
theorem dX2_init_0 : decode cX2_init 0 = .ok (.aload_n 0, 1) := by decide +kernel
theorem dX2_init_1 : decode cX2_init 1 = .ok (.invokespecial 3, 3) := by decide +kernel
theorem dX2_init_4 : decode cX2_init 4 = .ok (.aload_n 0, 1) := by decide +kernel
theorem dX2_init_5 : decode cX2_init 5 = .ok (.bipush 60, 2) := by decide +kernel
theorem dX2_init_7 : decode cX2_init 7 = .ok (.newarray .int, 2) := by decide +kernel
theorem dX2_init_9 : decode cX2_init 9 = .ok (.putfield 11, 3) := by decide +kernel
theorem dX2_init_12 : decode cX2_init 12 = .ok (.return_, 1) := by decide +kernel
theorem dX2_add_0 : decode cX2_add 0 = .ok (.aload_n 0, 1) := by decide +kernel
theorem dX2_add_1 : decode cX2_add 1 = .ok (.getfield 15, 3) := by decide +kernel
theorem dX2_add_4 : decode cX2_add 4 = .ok (.bipush 60, 2) := by decide +kernel
theorem dX2_add_6 : decode cX2_add 6 = .ok (.if_icmp .lt 6, 3) := by decide +kernel
theorem dX2_add_9 : decode cX2_add 9 = .ok (.bipush (-4), 2) := by decide +kernel
theorem dX2_add_11 : decode cX2_add 11 = .ok (.ireturn, 1) := by decide +kernel
theorem dX2_add_12 : decode cX2_add 12 = .ok (.aload_n 0, 1) := by decide +kernel
theorem dX2_add_13 : decode cX2_add 13 = .ok (.getfield 11, 3) := by decide +kernel
theorem dX2_add_16 : decode cX2_add 16 = .ok (.aload_n 0, 1) := by decide +kernel
theorem dX2_add_17 : decode cX2_add 17 = .ok (.getfield 15, 3) := by decide +kernel
theorem dX2_add_20 : decode cX2_add 20 = .ok (.iload_n 1, 1) := by decide +kernel
theorem dX2_add_21 : decode cX2_add 21 = .ok (.iastore, 1) := by decide +kernel
theorem dX2_add_22 : decode cX2_add 22 = .ok (.aload_n 0, 1) := by decide +kernel
theorem dX2_add_23 : decode cX2_add 23 = .ok (.dup, 1) := by decide +kernel
theorem dX2_add_24 : decode cX2_add 24 = .ok (.getfield 15, 3) := by decide +kernel
theorem dX2_add_27 : decode cX2_add 27 = .ok (.iconst 1, 1) := by decide +kernel
theorem dX2_add_28 : decode cX2_add 28 = .ok (.iadd, 1) := by decide +kernel
theorem dX2_add_29 : decode cX2_add 29 = .ok (.putfield 15, 3) := by decide +kernel
theorem dX2_add_32 : decode cX2_add 32 = .ok (.aload_n 0, 1) := by decide +kernel
theorem dX2_add_33 : decode cX2_add 33 = .ok (.getfield 15, 3) := by decide +kernel
theorem dX2_add_36 : decode cX2_add 36 = .ok (.ireturn, 1) := by decide +kernel
theorem dX2_clear_0 : decode cX2_clear 0 = .ok (.aload_n 0, 1) := by decide +kernel
theorem dX2_clear_1 : decode cX2_clear 1 = .ok (.getfield 15, 3) := by decide +kernel
theorem dX2_clear_4 : decode cX2_clear 4 = .ok (.istore_n 1, 1) := by decide +kernel
theorem dX2_clear_5 : decode cX2_clear 5 = .ok (.aload_n 0, 1) := by decide +kernel
theorem dX2_clear_6 : decode cX2_clear 6 = .ok (.iconst 0, 1) := by decide +kernel
theorem dX2_clear_7 : decode cX2_clear 7 = .ok (.putfield 15, 3) := by decide +kernel
theorem dX2_clear_10 : decode cX2_clear 10 = .ok (.iload_n 1, 1) := by decide +kernel
theorem dX2_clear_11 : decode cX2_clear 11 = .ok (.ireturn, 1) := by decide +kernel
theorem dX2_flaw_0 : decode cX2_flaw 0 = .ok (.iconst 0, 1) := by decide +kernel
theorem dX2_flaw_1 : decode cX2_flaw 1 = .ok (.istore_n 1, 1) := by decide +kernel
theorem dX2_flaw_2 : decode cX2_flaw 2 = .ok (.iconst 0, 1) := by decide +kernel
theorem dX2_flaw_3 : decode cX2_flaw 3 = .ok (.istore_n 2, 1) := by decide +kernel
theorem dX2_flaw_4 : decode cX2_flaw 4 = .ok (.iload_n 2, 1) := by decide +kernel
theorem dX2_flaw_5 : decode cX2_flaw 5 = .ok (.aload_n 0, 1) := by decide +kernel
theorem dX2_flaw_6 : decode cX2_flaw 6 = .ok (.getfield 15, 3) := by decide +kernel
theorem dX2_flaw_9 : decode cX2_flaw 9 = .ok (.if_icmp .ge 33, 3) := by decide +kernel
theorem dX2_flaw_12 : decode cX2_flaw 12 = .ok (.iload_n 2, 1) := by decide +kernel
theorem dX2_flaw_13 : decode cX2_flaw 13 = .ok (.bipush 60, 2) := by decide +kernel
theorem dX2_flaw_15 : decode cX2_flaw 15 = .ok (.if_icmp .ge 27, 3) := by decide +kernel
theorem dX2_flaw_18 : decode cX2_flaw 18 = .ok (.iload_n 1, 1) := by decide +kernel
theorem dX2_flaw_19 : decode cX2_flaw 19 = .ok (.aload_n 0, 1) := by decide +kernel
theorem dX2_flaw_20 : decode cX2_flaw 20 = .ok (.getfield 11, 3) := by decide +kernel
theorem dX2_flaw_23 : decode cX2_flaw 23 = .ok (.iload_n 2, 1) := by decide +kernel
theorem dX2_flaw_24 : decode cX2_flaw 24 = .ok (.iaload, 1) := by decide +kernel
theorem dX2_flaw_25 : decode cX2_flaw 25 = .ok (.invokestatic 19, 3) := by decide +kernel
theorem dX2_flaw_28 : decode cX2_flaw 28 = .ok (.istore_n 1, 1) := by decide +kernel
theorem dX2_flaw_29 : decode cX2_flaw 29 = .ok (.iload_n 1, 1) := by decide +kernel
theorem dX2_flaw_30 : decode cX2_flaw 30 = .ok (.iconst (-1), 1) := by decide +kernel
theorem dX2_flaw_31 : decode cX2_flaw 31 = .ok (.if_icmp .ne 5, 3) := by decide +kernel
theorem dX2_flaw_34 : decode cX2_flaw 34 = .ok (.iload_n 2, 1) := by decide +kernel
theorem dX2_flaw_35 : decode cX2_flaw 35 = .ok (.ireturn, 1) := by decide +kernel
theorem dX2_flaw_36 : decode cX2_flaw 36 = .ok (.iinc 2 1, 3) := by decide +kernel
theorem dX2_flaw_39 : decode cX2_flaw 39 = .ok (.goto (-35), 3) := by decide +kernel
theorem dX2_flaw_42 : decode cX2_flaw 42 = .ok (.iload_n 1, 1) := by decide +kernel
theorem dX2_flaw_43 : decode cX2_flaw 43 = .ok (.ifCond .ne 8, 3) := by decide +kernel
theorem dX2_flaw_46 : decode cX2_flaw 46 = .ok (.bipush (-6), 2) := by decide +kernel
theorem dX2_flaw_48 : decode cX2_flaw 48 = .ok (.goto 7, 3) := by decide +kernel
theorem dX2_flaw_51 : decode cX2_flaw 51 = .ok (.aload_n 0, 1) := by decide +kernel
theorem dX2_flaw_52 : decode cX2_flaw 52 = .ok (.getfield 15, 3) := by decide +kernel
theorem dX2_flaw_55 : decode cX2_flaw 55 = .ok (.ireturn, 1) := by decide +kernel
theorem dX2_awaitedBehind_0 : decode cX2_awaitedBehind 0 = .ok (.iload_n 0, 1) := by decide +kernel
theorem dX2_awaitedBehind_1 : decode cX2_awaitedBehind 1 = .ok (.ifCond .ne 24, 3) := by decide +kernel
theorem dX2_awaitedBehind_4 : decode cX2_awaitedBehind 4 = .ok (.iload_n 1, 1) := by decide +kernel
theorem dX2_awaitedBehind_5 : decode cX2_awaitedBehind 5 = .ok (.bipush 46, 2) := by decide +kernel
theorem dX2_awaitedBehind_7 : decode cX2_awaitedBehind 7 = .ok (.if_icmp .ne 5, 3) := by decide +kernel
theorem dX2_awaitedBehind_10 : decode cX2_awaitedBehind 10 = .ok (.iconst 0, 1) := by decide +kernel
theorem dX2_awaitedBehind_11 : decode cX2_awaitedBehind 11 = .ok (.ireturn, 1) := by decide +kernel
theorem dX2_awaitedBehind_12 : decode cX2_awaitedBehind 12 = .ok (.iload_n 1, 1) := by decide +kernel
theorem dX2_awaitedBehind_13 : decode cX2_awaitedBehind 13 = .ok (.invokestatic 23, 3) := by decide +kernel
theorem dX2_awaitedBehind_16 : decode cX2_awaitedBehind 16 = .ok (.ifCond .eq 7, 3) := by decide +kernel
theorem dX2_awaitedBehind_19 : decode cX2_awaitedBehind 19 = .ok (.iconst 1, 1) := by decide +kernel
theorem dX2_awaitedBehind_20 : decode cX2_awaitedBehind 20 = .ok (.goto 4, 3) := by decide +kernel
theorem dX2_awaitedBehind_23 : decode cX2_awaitedBehind 23 = .ok (.iconst (-1), 1) := by decide +kernel
theorem dX2_awaitedBehind_24 : decode cX2_awaitedBehind 24 = .ok (.ireturn, 1) := by decide +kernel
theorem dX2_awaitedBehind_25 : decode cX2_awaitedBehind 25 = .ok (.iload_n 1, 1) := by decide +kernel
theorem dX2_awaitedBehind_26 : decode cX2_awaitedBehind 26 = .ok (.invokestatic 27, 3) := by decide +kernel
theorem dX2_awaitedBehind_29 : decode cX2_awaitedBehind 29 = .ok (.ifCond .eq 5, 3) := by decide +kernel
theorem dX2_awaitedBehind_32 : decode cX2_awaitedBehind 32 = .ok (.iconst 0, 1) := by decide +kernel
theorem dX2_awaitedBehind_33 : decode cX2_awaitedBehind 33 = .ok (.ireturn, 1) := by decide +kernel
theorem dX2_awaitedBehind_34 : decode cX2_awaitedBehind 34 = .ok (.iload_n 0, 1) := by decide +kernel
theorem dX2_awaitedBehind_35 : decode cX2_awaitedBehind 35 = .ok (.iconst 2, 1) := by decide +kernel
theorem dX2_awaitedBehind_36 : decode cX2_awaitedBehind 36 = .ok (.if_icmp .ne 5, 3) := by decide +kernel
theorem dX2_awaitedBehind_39 : decode cX2_awaitedBehind 39 = .ok (.iconst (-1), 1) := by decide +kernel
theorem dX2_awaitedBehind_40 : decode cX2_awaitedBehind 40 = .ok (.ireturn, 1) := by decide +kernel
theorem dX2_awaitedBehind_41 : decode cX2_awaitedBehind 41 = .ok (.iload_n 1, 1) := by decide +kernel
theorem dX2_awaitedBehind_42 : decode cX2_awaitedBehind 42 = .ok (.invokestatic 30, 3) := by decide +kernel
theorem dX2_awaitedBehind_45 : decode cX2_awaitedBehind 45 = .ok (.ifCond .eq 5, 3) := by decide +kernel
theorem dX2_awaitedBehind_48 : decode cX2_awaitedBehind 48 = .ok (.iconst 2, 1) := by decide +kernel
theorem dX2_awaitedBehind_49 : decode cX2_awaitedBehind 49 = .ok (.ireturn, 1) := by decide +kernel
theorem dX2_awaitedBehind_50 : decode cX2_awaitedBehind 50 = .ok (.iload_n 1, 1) := by decide +kernel
theorem dX2_awaitedBehind_51 : decode cX2_awaitedBehind 51 = .ok (.invokestatic 33, 3) := by decide +kernel
theorem dX2_awaitedBehind_54 : decode cX2_awaitedBehind 54 = .ok (.ifCond .eq 7, 3) := by decide +kernel
theorem dX2_awaitedBehind_57 : decode cX2_awaitedBehind 57 = .ok (.iconst 0, 1) := by decide +kernel
theorem dX2_awaitedBehind_58 : decode cX2_awaitedBehind 58 = .ok (.goto 4, 3) := by decide +kernel
theorem dX2_awaitedBehind_61 : decode cX2_awaitedBehind 61 = .ok (.iconst (-1), 1) := by decide +kernel
theorem dX2_awaitedBehind_62 : decode cX2_awaitedBehind 62 = .ok (.ireturn, 1) := by decide +kernel
theorem dX2_isLetter_0 : decode cX2_isLetter 0 = .ok (.iload_n 0, 1) := by decide +kernel
theorem dX2_isLetter_1 : decode cX2_isLetter 1 = .ok (.bipush 65, 2) := by decide +kernel
theorem dX2_isLetter_3 : decode cX2_isLetter 3 = .ok (.bipush 70, 2) := by decide +kernel
theorem dX2_isLetter_5 : decode cX2_isLetter 5 = .ok (.invokestatic 36, 3) := by decide +kernel
theorem dX2_isLetter_8 : decode cX2_isLetter 8 = .ok (.ireturn, 1) := by decide +kernel
theorem dX2_isDigit_0 : decode cX2_isDigit 0 = .ok (.iload_n 0, 1) := by decide +kernel
theorem dX2_isDigit_1 : decode cX2_isDigit 1 = .ok (.bipush 49, 2) := by decide +kernel
theorem dX2_isDigit_3 : decode cX2_isDigit 3 = .ok (.bipush 57, 2) := by decide +kernel
theorem dX2_isDigit_5 : decode cX2_isDigit 5 = .ok (.invokestatic 36, 3) := by decide +kernel
theorem dX2_isDigit_8 : decode cX2_isDigit 8 = .ok (.ireturn, 1) := by decide +kernel
theorem dX2_isWay_0 : decode cX2_isWay 0 = .ok (.iload_n 0, 1) := by decide +kernel
theorem dX2_isWay_1 : decode cX2_isWay 1 = .ok (.bipush 62, 2) := by decide +kernel
theorem dX2_isWay_3 : decode cX2_isWay 3 = .ok (.if_icmp .eq 9, 3) := by decide +kernel
theorem dX2_isWay_6 : decode cX2_isWay 6 = .ok (.iload_n 0, 1) := by decide +kernel
theorem dX2_isWay_7 : decode cX2_isWay 7 = .ok (.bipush 60, 2) := by decide +kernel
theorem dX2_isWay_9 : decode cX2_isWay 9 = .ok (.if_icmp .ne 7, 3) := by decide +kernel
theorem dX2_isWay_12 : decode cX2_isWay 12 = .ok (.iconst 1, 1) := by decide +kernel
theorem dX2_isWay_13 : decode cX2_isWay 13 = .ok (.goto 4, 3) := by decide +kernel
theorem dX2_isWay_16 : decode cX2_isWay 16 = .ok (.iconst 0, 1) := by decide +kernel
theorem dX2_isWay_17 : decode cX2_isWay 17 = .ok (.ireturn, 1) := by decide +kernel
theorem dX2_isPlainDeed_0 : decode cX2_isPlainDeed 0 = .ok (.iload_n 0, 1) := by decide +kernel
theorem dX2_isPlainDeed_1 : decode cX2_isPlainDeed 1 = .ok (.bipush 63, 2) := by decide +kernel
theorem dX2_isPlainDeed_3 : decode cX2_isPlainDeed 3 = .ok (.if_icmp .eq 21, 3) := by decide +kernel
theorem dX2_isPlainDeed_6 : decode cX2_isPlainDeed 6 = .ok (.iload_n 0, 1) := by decide +kernel
theorem dX2_isPlainDeed_7 : decode cX2_isPlainDeed 7 = .ok (.bipush 42, 2) := by decide +kernel
theorem dX2_isPlainDeed_9 : decode cX2_isPlainDeed 9 = .ok (.if_icmp .eq 15, 3) := by decide +kernel
theorem dX2_isPlainDeed_12 : decode cX2_isPlainDeed 12 = .ok (.iload_n 0, 1) := by decide +kernel
theorem dX2_isPlainDeed_13 : decode cX2_isPlainDeed 13 = .ok (.bipush 126, 2) := by decide +kernel
theorem dX2_isPlainDeed_15 : decode cX2_isPlainDeed 15 = .ok (.if_icmp .eq 9, 3) := by decide +kernel
theorem dX2_isPlainDeed_18 : decode cX2_isPlainDeed 18 = .ok (.iload_n 0, 1) := by decide +kernel
theorem dX2_isPlainDeed_19 : decode cX2_isPlainDeed 19 = .ok (.bipush 33, 2) := by decide +kernel
theorem dX2_isPlainDeed_21 : decode cX2_isPlainDeed 21 = .ok (.if_icmp .ne 7, 3) := by decide +kernel
theorem dX2_isPlainDeed_24 : decode cX2_isPlainDeed 24 = .ok (.iconst 1, 1) := by decide +kernel
theorem dX2_isPlainDeed_25 : decode cX2_isPlainDeed 25 = .ok (.goto 4, 3) := by decide +kernel
theorem dX2_isPlainDeed_28 : decode cX2_isPlainDeed 28 = .ok (.iconst 0, 1) := by decide +kernel
theorem dX2_isPlainDeed_29 : decode cX2_isPlainDeed 29 = .ok (.ireturn, 1) := by decide +kernel
theorem dX3_whole_0 : decode cX3_whole 0 = .ok (.iload_n 0, 1) := by decide +kernel
theorem dX3_whole_1 : decode cX3_whole 1 = .ok (.i2l, 1) := by decide +kernel
theorem dX3_whole_2 : decode cX3_whole 2 = .ok (.ldc2_w 9, 3) := by decide +kernel
theorem dX3_whole_5 : decode cX3_whole 5 = .ok (.lmul, 1) := by decide +kernel
theorem dX3_whole_6 : decode cX3_whole 6 = .ok (.lreturn, 1) := by decide +kernel
theorem dX3_weight_0 : decode cX3_weight 0 = .ok (.iload_n 1, 1) := by decide +kernel
theorem dX3_weight_1 : decode cX3_weight 1 = .ok (.iconst 1, 1) := by decide +kernel
theorem dX3_weight_2 : decode cX3_weight 2 = .ok (.if_icmp .ge 7, 3) := by decide +kernel
theorem dX3_weight_5 : decode cX3_weight 5 = .ok (.ldc2_w 9, 3) := by decide +kernel
theorem dX3_weight_8 : decode cX3_weight 8 = .ok (.lreturn, 1) := by decide +kernel
theorem dX3_weight_9 : decode cX3_weight 9 = .ok (.lconst 0, 1) := by decide +kernel
theorem dX3_weight_10 : decode cX3_weight 10 = .ok (.lstore_n 2, 1) := by decide +kernel
theorem dX3_weight_11 : decode cX3_weight 11 = .ok (.iload_n 1, 1) := by decide +kernel
theorem dX3_weight_12 : decode cX3_weight 12 = .ok (.istore 4, 2) := by decide +kernel
theorem dX3_weight_14 : decode cX3_weight 14 = .ok (.iload 4, 2) := by decide +kernel
theorem dX3_weight_16 : decode cX3_weight 16 = .ok (.iload_n 0, 1) := by decide +kernel
theorem dX3_weight_17 : decode cX3_weight 17 = .ok (.if_icmp .ge 19, 3) := by decide +kernel
theorem dX3_weight_20 : decode cX3_weight 20 = .ok (.lload_n 2, 1) := by decide +kernel
theorem dX3_weight_21 : decode cX3_weight 21 = .ok (.ldc2_w 9, 3) := by decide +kernel
theorem dX3_weight_24 : decode cX3_weight 24 = .ok (.iload 4, 2) := by decide +kernel
theorem dX3_weight_26 : decode cX3_weight 26 = .ok (.i2l, 1) := by decide +kernel
theorem dX3_weight_27 : decode cX3_weight 27 = .ok (.ldiv, 1) := by decide +kernel
theorem dX3_weight_28 : decode cX3_weight 28 = .ok (.ladd, 1) := by decide +kernel
theorem dX3_weight_29 : decode cX3_weight 29 = .ok (.lstore_n 2, 1) := by decide +kernel
theorem dX3_weight_30 : decode cX3_weight 30 = .ok (.iinc 4 1, 3) := by decide +kernel
theorem dX3_weight_33 : decode cX3_weight 33 = .ok (.goto (-19), 3) := by decide +kernel
theorem dX3_weight_36 : decode cX3_weight 36 = .ok (.iload_n 1, 1) := by decide +kernel
theorem dX3_weight_37 : decode cX3_weight 37 = .ok (.i2l, 1) := by decide +kernel
theorem dX3_weight_38 : decode cX3_weight 38 = .ok (.lload_n 2, 1) := by decide +kernel
theorem dX3_weight_39 : decode cX3_weight 39 = .ok (.lmul, 1) := by decide +kernel
theorem dX3_weight_40 : decode cX3_weight 40 = .ok (.lreturn, 1) := by decide +kernel
theorem dX3_best_0 : decode cX3_best 0 = .ok (.iconst 0, 1) := by decide +kernel
theorem dX3_best_1 : decode cX3_best 1 = .ok (.istore_n 1, 1) := by decide +kernel
theorem dX3_best_2 : decode cX3_best 2 = .ok (.iconst 1, 1) := by decide +kernel
theorem dX3_best_3 : decode cX3_best 3 = .ok (.istore_n 2, 1) := by decide +kernel
theorem dX3_best_4 : decode cX3_best 4 = .ok (.iload_n 2, 1) := by decide +kernel
theorem dX3_best_5 : decode cX3_best 5 = .ok (.iload_n 0, 1) := by decide +kernel
theorem dX3_best_6 : decode cX3_best 6 = .ok (.if_icmp .ge 25, 3) := by decide +kernel
theorem dX3_best_9 : decode cX3_best 9 = .ok (.iload_n 0, 1) := by decide +kernel
theorem dX3_best_10 : decode cX3_best 10 = .ok (.iload_n 2, 1) := by decide +kernel
theorem dX3_best_11 : decode cX3_best 11 = .ok (.invokestatic 11, 3) := by decide +kernel
theorem dX3_best_14 : decode cX3_best 14 = .ok (.iload_n 0, 1) := by decide +kernel
theorem dX3_best_15 : decode cX3_best 15 = .ok (.iload_n 1, 1) := by decide +kernel
theorem dX3_best_16 : decode cX3_best 16 = .ok (.invokestatic 11, 3) := by decide +kernel
theorem dX3_best_19 : decode cX3_best 19 = .ok (.lcmp, 1) := by decide +kernel
theorem dX3_best_20 : decode cX3_best 20 = .ok (.ifCond .le 5, 3) := by decide +kernel
theorem dX3_best_23 : decode cX3_best 23 = .ok (.iload_n 2, 1) := by decide +kernel
theorem dX3_best_24 : decode cX3_best 24 = .ok (.istore_n 1, 1) := by decide +kernel
theorem dX3_best_25 : decode cX3_best 25 = .ok (.iinc 2 1, 3) := by decide +kernel
theorem dX3_best_28 : decode cX3_best 28 = .ok (.goto (-24), 3) := by decide +kernel
theorem dX3_best_31 : decode cX3_best 31 = .ok (.iload_n 1, 1) := by decide +kernel
theorem dX3_best_32 : decode cX3_best 32 = .ok (.ireturn, 1) := by decide +kernel
theorem dX4_init_0 : decode cX4_init 0 = .ok (.aload_n 0, 1) := by decide +kernel
theorem dX4_init_1 : decode cX4_init 1 = .ok (.invokespecial 3, 3) := by decide +kernel
theorem dX4_init_4 : decode cX4_init 4 = .ok (.aload_n 0, 1) := by decide +kernel
theorem dX4_init_5 : decode cX4_init 5 = .ok (.bipush 10, 2) := by decide +kernel
theorem dX4_init_7 : decode cX4_init 7 = .ok (.newarray .int, 2) := by decide +kernel
theorem dX4_init_9 : decode cX4_init 9 = .ok (.putfield 9, 3) := by decide +kernel
theorem dX4_init_12 : decode cX4_init 12 = .ok (.return_, 1) := by decide +kernel
theorem dX4_measure_0 : decode cX4_measure 0 = .ok (.iconst 0, 1) := by decide +kernel
theorem dX4_measure_1 : decode cX4_measure 1 = .ok (.istore_n 3, 1) := by decide +kernel
theorem dX4_measure_2 : decode cX4_measure 2 = .ok (.iload_n 3, 1) := by decide +kernel
theorem dX4_measure_3 : decode cX4_measure 3 = .ok (.bipush 9, 2) := by decide +kernel
theorem dX4_measure_5 : decode cX4_measure 5 = .ok (.if_icmp .gt 16, 3) := by decide +kernel
theorem dX4_measure_8 : decode cX4_measure 8 = .ok (.aload_n 0, 1) := by decide +kernel
theorem dX4_measure_9 : decode cX4_measure 9 = .ok (.getfield 9, 3) := by decide +kernel
theorem dX4_measure_12 : decode cX4_measure 12 = .ok (.iload_n 3, 1) := by decide +kernel
theorem dX4_measure_13 : decode cX4_measure 13 = .ok (.iconst 0, 1) := by decide +kernel
theorem dX4_measure_14 : decode cX4_measure 14 = .ok (.iastore, 1) := by decide +kernel
theorem dX4_measure_15 : decode cX4_measure 15 = .ok (.iinc 3 1, 3) := by decide +kernel
theorem dX4_measure_18 : decode cX4_measure 18 = .ok (.goto (-16), 3) := by decide +kernel
theorem dX4_measure_21 : decode cX4_measure 21 = .ok (.aload_n 0, 1) := by decide +kernel
theorem dX4_measure_22 : decode cX4_measure 22 = .ok (.iconst 0, 1) := by decide +kernel
theorem dX4_measure_23 : decode cX4_measure 23 = .ok (.putfield 15, 3) := by decide +kernel
theorem dX4_measure_26 : decode cX4_measure 26 = .ok (.aload_n 0, 1) := by decide +kernel
theorem dX4_measure_27 : decode cX4_measure 27 = .ok (.iload_n 2, 1) := by decide +kernel
theorem dX4_measure_28 : decode cX4_measure 28 = .ok (.putfield 19, 3) := by decide +kernel
theorem dX4_measure_31 : decode cX4_measure 31 = .ok (.aload_n 1, 1) := by decide +kernel
theorem dX4_measure_32 : decode cX4_measure 32 = .ok (.arraylength, 1) := by decide +kernel
theorem dX4_measure_33 : decode cX4_measure 33 = .ok (.iconst 1, 1) := by decide +kernel
theorem dX4_measure_34 : decode cX4_measure 34 = .ok (.isub, 1) := by decide +kernel
theorem dX4_measure_35 : decode cX4_measure 35 = .ok (.istore_n 3, 1) := by decide +kernel
theorem dX4_measure_36 : decode cX4_measure 36 = .ok (.iload_n 3, 1) := by decide +kernel
theorem dX4_measure_37 : decode cX4_measure 37 = .ok (.iload_n 2, 1) := by decide +kernel
theorem dX4_measure_38 : decode cX4_measure 38 = .ok (.if_icmp .lt 68, 3) := by decide +kernel
theorem dX4_measure_41 : decode cX4_measure 41 = .ok (.iload_n 3, 1) := by decide +kernel
theorem dX4_measure_42 : decode cX4_measure 42 = .ok (.ifCond .lt 64, 3) := by decide +kernel
theorem dX4_measure_45 : decode cX4_measure 45 = .ok (.aload_n 1, 1) := by decide +kernel
theorem dX4_measure_46 : decode cX4_measure 46 = .ok (.iload_n 3, 1) := by decide +kernel
theorem dX4_measure_47 : decode cX4_measure 47 = .ok (.iaload, 1) := by decide +kernel
theorem dX4_measure_48 : decode cX4_measure 48 = .ok (.istore 4, 2) := by decide +kernel
theorem dX4_measure_50 : decode cX4_measure 50 = .ok (.iload 4, 2) := by decide +kernel
theorem dX4_measure_52 : decode cX4_measure 52 = .ok (.invokestatic 22, 3) := by decide +kernel
theorem dX4_measure_55 : decode cX4_measure 55 = .ok (.ifCond .ne 6, 3) := by decide +kernel
theorem dX4_measure_58 : decode cX4_measure 58 = .ok (.goto 42, 3) := by decide +kernel
theorem dX4_measure_61 : decode cX4_measure 61 = .ok (.iconst 1, 1) := by decide +kernel
theorem dX4_measure_62 : decode cX4_measure 62 = .ok (.aload_n 0, 1) := by decide +kernel
theorem dX4_measure_63 : decode cX4_measure 63 = .ok (.iload 4, 2) := by decide +kernel
theorem dX4_measure_65 : decode cX4_measure 65 = .ok (.invokevirtual 26, 3) := by decide +kernel
theorem dX4_measure_68 : decode cX4_measure 68 = .ok (.iadd, 1) := by decide +kernel
theorem dX4_measure_69 : decode cX4_measure 69 = .ok (.istore 5, 2) := by decide +kernel
theorem dX4_measure_71 : decode cX4_measure 71 = .ok (.aload_n 0, 1) := by decide +kernel
theorem dX4_measure_72 : decode cX4_measure 72 = .ok (.getfield 9, 3) := by decide +kernel
theorem dX4_measure_75 : decode cX4_measure 75 = .ok (.iload 4, 2) := by decide +kernel
theorem dX4_measure_77 : decode cX4_measure 77 = .ok (.iload 5, 2) := by decide +kernel
theorem dX4_measure_79 : decode cX4_measure 79 = .ok (.iastore, 1) := by decide +kernel
theorem dX4_measure_80 : decode cX4_measure 80 = .ok (.iload 5, 2) := by decide +kernel
theorem dX4_measure_82 : decode cX4_measure 82 = .ok (.aload_n 0, 1) := by decide +kernel
theorem dX4_measure_83 : decode cX4_measure 83 = .ok (.getfield 15, 3) := by decide +kernel
theorem dX4_measure_86 : decode cX4_measure 86 = .ok (.if_icmp .lt 14, 3) := by decide +kernel
theorem dX4_measure_89 : decode cX4_measure 89 = .ok (.aload_n 0, 1) := by decide +kernel
theorem dX4_measure_90 : decode cX4_measure 90 = .ok (.iload 5, 2) := by decide +kernel
theorem dX4_measure_92 : decode cX4_measure 92 = .ok (.putfield 15, 3) := by decide +kernel
theorem dX4_measure_95 : decode cX4_measure 95 = .ok (.aload_n 0, 1) := by decide +kernel
theorem dX4_measure_96 : decode cX4_measure 96 = .ok (.iload_n 3, 1) := by decide +kernel
theorem dX4_measure_97 : decode cX4_measure 97 = .ok (.putfield 19, 3) := by decide +kernel
theorem dX4_measure_100 : decode cX4_measure 100 = .ok (.iinc 3 (-1), 3) := by decide +kernel
theorem dX4_measure_103 : decode cX4_measure 103 = .ok (.goto (-67), 3) := by decide +kernel
theorem dX4_measure_106 : decode cX4_measure 106 = .ok (.return_, 1) := by decide +kernel
theorem dX4_longestFrom_0 : decode cX4_longestFrom 0 = .ok (.iconst 0, 1) := by decide +kernel
theorem dX4_longestFrom_1 : decode cX4_longestFrom 1 = .ok (.istore_n 2, 1) := by decide +kernel
theorem dX4_longestFrom_2 : decode cX4_longestFrom 2 = .ok (.iload_n 1, 1) := by decide +kernel
theorem dX4_longestFrom_3 : decode cX4_longestFrom 3 = .ok (.istore_n 3, 1) := by decide +kernel
theorem dX4_longestFrom_4 : decode cX4_longestFrom 4 = .ok (.iload_n 3, 1) := by decide +kernel
theorem dX4_longestFrom_5 : decode cX4_longestFrom 5 = .ok (.bipush 9, 2) := by decide +kernel
theorem dX4_longestFrom_7 : decode cX4_longestFrom 7 = .ok (.if_icmp .gt 20, 3) := by decide +kernel
theorem dX4_longestFrom_10 : decode cX4_longestFrom 10 = .ok (.iload_n 2, 1) := by decide +kernel
theorem dX4_longestFrom_11 : decode cX4_longestFrom 11 = .ok (.aload_n 0, 1) := by decide +kernel
theorem dX4_longestFrom_12 : decode cX4_longestFrom 12 = .ok (.getfield 9, 3) := by decide +kernel
theorem dX4_longestFrom_15 : decode cX4_longestFrom 15 = .ok (.iload_n 3, 1) := by decide +kernel
theorem dX4_longestFrom_16 : decode cX4_longestFrom 16 = .ok (.iaload, 1) := by decide +kernel
theorem dX4_longestFrom_17 : decode cX4_longestFrom 17 = .ok (.invokestatic 30, 3) := by decide +kernel
theorem dX4_longestFrom_20 : decode cX4_longestFrom 20 = .ok (.istore_n 2, 1) := by decide +kernel
theorem dX4_longestFrom_21 : decode cX4_longestFrom 21 = .ok (.iinc 3 1, 3) := by decide +kernel
theorem dX4_longestFrom_24 : decode cX4_longestFrom 24 = .ok (.goto (-20), 3) := by decide +kernel
theorem dX4_longestFrom_27 : decode cX4_longestFrom 27 = .ok (.iload_n 2, 1) := by decide +kernel
theorem dX4_longestFrom_28 : decode cX4_longestFrom 28 = .ok (.ireturn, 1) := by decide +kernel
theorem dX5_isAsTold_0 : decode cX5_isAsTold 0 = .ok (.iload_n 0, 1) := by decide +kernel
theorem dX5_isAsTold_1 : decode cX5_isAsTold 1 = .ok (.iload_n 2, 1) := by decide +kernel
theorem dX5_isAsTold_2 : decode cX5_isAsTold 2 = .ok (.invokestatic 7, 3) := by decide +kernel
theorem dX5_isAsTold_5 : decode cX5_isAsTold 5 = .ok (.ifCond .eq 15, 3) := by decide +kernel
theorem dX5_isAsTold_8 : decode cX5_isAsTold 8 = .ok (.iload_n 1, 1) := by decide +kernel
theorem dX5_isAsTold_9 : decode cX5_isAsTold 9 = .ok (.iload_n 2, 1) := by decide +kernel
theorem dX5_isAsTold_10 : decode cX5_isAsTold 10 = .ok (.invokestatic 7, 3) := by decide +kernel
theorem dX5_isAsTold_13 : decode cX5_isAsTold 13 = .ok (.ifCond .eq 7, 3) := by decide +kernel
theorem dX5_isAsTold_16 : decode cX5_isAsTold 16 = .ok (.iconst 1, 1) := by decide +kernel
theorem dX5_isAsTold_17 : decode cX5_isAsTold 17 = .ok (.goto 4, 3) := by decide +kernel
theorem dX5_isAsTold_20 : decode cX5_isAsTold 20 = .ok (.iconst 0, 1) := by decide +kernel
theorem dX5_isAsTold_21 : decode cX5_isAsTold 21 = .ok (.ireturn, 1) := by decide +kernel
theorem dX5_isRow_0 : decode cX5_isRow 0 = .ok (.iload_n 1, 1) := by decide +kernel
theorem dX5_isRow_1 : decode cX5_isRow 1 = .ok (.iconst 1, 1) := by decide +kernel
theorem dX5_isRow_2 : decode cX5_isRow 2 = .ok (.bipush 9, 2) := by decide +kernel
theorem dX5_isRow_4 : decode cX5_isRow 4 = .ok (.invokestatic 13, 3) := by decide +kernel
theorem dX5_isRow_7 : decode cX5_isRow 7 = .ok (.ifCond .eq 24, 3) := by decide +kernel
theorem dX5_isRow_10 : decode cX5_isRow 10 = .ok (.iload_n 0, 1) := by decide +kernel
theorem dX5_isRow_11 : decode cX5_isRow 11 = .ok (.getstatic 19, 3) := by decide +kernel
theorem dX5_isRow_14 : decode cX5_isRow 14 = .ok (.iload_n 1, 1) := by decide +kernel
theorem dX5_isRow_15 : decode cX5_isRow 15 = .ok (.iconst 1, 1) := by decide +kernel
theorem dX5_isRow_16 : decode cX5_isRow 16 = .ok (.isub, 1) := by decide +kernel
theorem dX5_isRow_17 : decode cX5_isRow 17 = .ok (.iaload, 1) := by decide +kernel
theorem dX5_isRow_18 : decode cX5_isRow 18 = .ok (.if_icmp .lt 13, 3) := by decide +kernel
theorem dX5_isRow_21 : decode cX5_isRow 21 = .ok (.iload_n 0, 1) := by decide +kernel
theorem dX5_isRow_22 : decode cX5_isRow 22 = .ok (.getstatic 19, 3) := by decide +kernel
theorem dX5_isRow_25 : decode cX5_isRow 25 = .ok (.iload_n 1, 1) := by decide +kernel
theorem dX5_isRow_26 : decode cX5_isRow 26 = .ok (.iaload, 1) := by decide +kernel
theorem dX5_isRow_27 : decode cX5_isRow 27 = .ok (.idiv, 1) := by decide +kernel
theorem dX5_isRow_28 : decode cX5_isRow 28 = .ok (.ifCond .eq 5, 3) := by decide +kernel
theorem dX5_isRow_31 : decode cX5_isRow 31 = .ok (.iconst 0, 1) := by decide +kernel
theorem dX5_isRow_32 : decode cX5_isRow 32 = .ok (.ireturn, 1) := by decide +kernel
theorem dX5_isRow_33 : decode cX5_isRow 33 = .ok (.iconst 0, 1) := by decide +kernel
theorem dX5_isRow_34 : decode cX5_isRow 34 = .ok (.istore_n 2, 1) := by decide +kernel
theorem dX5_isRow_35 : decode cX5_isRow 35 = .ok (.iload_n 2, 1) := by decide +kernel
theorem dX5_isRow_36 : decode cX5_isRow 36 = .ok (.iload_n 1, 1) := by decide +kernel
theorem dX5_isRow_37 : decode cX5_isRow 37 = .ok (.if_icmp .ge 20, 3) := by decide +kernel
theorem dX5_isRow_40 : decode cX5_isRow 40 = .ok (.iload_n 0, 1) := by decide +kernel
theorem dX5_isRow_41 : decode cX5_isRow 41 = .ok (.iload_n 1, 1) := by decide +kernel
theorem dX5_isRow_42 : decode cX5_isRow 42 = .ok (.iload_n 2, 1) := by decide +kernel
theorem dX5_isRow_43 : decode cX5_isRow 43 = .ok (.invokestatic 23, 3) := by decide +kernel
theorem dX5_isRow_46 : decode cX5_isRow 46 = .ok (.ifCond .ne 5, 3) := by decide +kernel
theorem dX5_isRow_49 : decode cX5_isRow 49 = .ok (.iconst 0, 1) := by decide +kernel
theorem dX5_isRow_50 : decode cX5_isRow 50 = .ok (.ireturn, 1) := by decide +kernel
theorem dX5_isRow_51 : decode cX5_isRow 51 = .ok (.iinc 2 1, 3) := by decide +kernel
theorem dX5_isRow_54 : decode cX5_isRow 54 = .ok (.goto (-19), 3) := by decide +kernel
theorem dX5_isRow_57 : decode cX5_isRow 57 = .ok (.iconst 1, 1) := by decide +kernel
theorem dX5_isRow_58 : decode cX5_isRow 58 = .ok (.ireturn, 1) := by decide +kernel
theorem dX5_digit_0 : decode cX5_digit 0 = .ok (.iload_n 1, 1) := by decide +kernel
theorem dX5_digit_1 : decode cX5_digit 1 = .ok (.iconst 1, 1) := by decide +kernel
theorem dX5_digit_2 : decode cX5_digit 2 = .ok (.isub, 1) := by decide +kernel
theorem dX5_digit_3 : decode cX5_digit 3 = .ok (.iload_n 2, 1) := by decide +kernel
theorem dX5_digit_4 : decode cX5_digit 4 = .ok (.isub, 1) := by decide +kernel
theorem dX5_digit_5 : decode cX5_digit 5 = .ok (.istore_n 3, 1) := by decide +kernel
theorem dX5_digit_6 : decode cX5_digit 6 = .ok (.iload_n 3, 1) := by decide +kernel
theorem dX5_digit_7 : decode cX5_digit 7 = .ok (.iconst 0, 1) := by decide +kernel
theorem dX5_digit_8 : decode cX5_digit 8 = .ok (.bipush 9, 2) := by decide +kernel
theorem dX5_digit_10 : decode cX5_digit 10 = .ok (.invokestatic 13, 3) := by decide +kernel
theorem dX5_digit_13 : decode cX5_digit 13 = .ok (.ifCond .eq 16, 3) := by decide +kernel
theorem dX5_digit_16 : decode cX5_digit 16 = .ok (.iload_n 0, 1) := by decide +kernel
theorem dX5_digit_17 : decode cX5_digit 17 = .ok (.getstatic 19, 3) := by decide +kernel
theorem dX5_digit_20 : decode cX5_digit 20 = .ok (.iload_n 3, 1) := by decide +kernel
theorem dX5_digit_21 : decode cX5_digit 21 = .ok (.iaload, 1) := by decide +kernel
theorem dX5_digit_22 : decode cX5_digit 22 = .ok (.idiv, 1) := by decide +kernel
theorem dX5_digit_23 : decode cX5_digit 23 = .ok (.bipush 10, 2) := by decide +kernel
theorem dX5_digit_25 : decode cX5_digit 25 = .ok (.irem, 1) := by decide +kernel
theorem dX5_digit_26 : decode cX5_digit 26 = .ok (.goto 4, 3) := by decide +kernel
theorem dX5_digit_29 : decode cX5_digit 29 = .ok (.iconst 0, 1) := by decide +kernel
theorem dX5_digit_30 : decode cX5_digit 30 = .ok (.ireturn, 1) := by decide +kernel
theorem dX5_digitSum_0 : decode cX5_digitSum 0 = .ok (.lconst 0, 1) := by decide +kernel
theorem dX5_digitSum_1 : decode cX5_digitSum 1 = .ok (.lstore_n 2, 1) := by decide +kernel
theorem dX5_digitSum_2 : decode cX5_digitSum 2 = .ok (.iconst 0, 1) := by decide +kernel
theorem dX5_digitSum_3 : decode cX5_digitSum 3 = .ok (.istore 4, 2) := by decide +kernel
theorem dX5_digitSum_5 : decode cX5_digitSum 5 = .ok (.iload 4, 2) := by decide +kernel
theorem dX5_digitSum_7 : decode cX5_digitSum 7 = .ok (.iload_n 1, 1) := by decide +kernel
theorem dX5_digitSum_8 : decode cX5_digitSum 8 = .ok (.if_icmp .ge 20, 3) := by decide +kernel
theorem dX5_digitSum_11 : decode cX5_digitSum 11 = .ok (.lload_n 2, 1) := by decide +kernel
theorem dX5_digitSum_12 : decode cX5_digitSum 12 = .ok (.iload_n 0, 1) := by decide +kernel
theorem dX5_digitSum_13 : decode cX5_digitSum 13 = .ok (.iload_n 1, 1) := by decide +kernel
theorem dX5_digitSum_14 : decode cX5_digitSum 14 = .ok (.iload 4, 2) := by decide +kernel
theorem dX5_digitSum_16 : decode cX5_digitSum 16 = .ok (.invokestatic 23, 3) := by decide +kernel
theorem dX5_digitSum_19 : decode cX5_digitSum 19 = .ok (.i2l, 1) := by decide +kernel
theorem dX5_digitSum_20 : decode cX5_digitSum 20 = .ok (.ladd, 1) := by decide +kernel
theorem dX5_digitSum_21 : decode cX5_digitSum 21 = .ok (.lstore_n 2, 1) := by decide +kernel
theorem dX5_digitSum_22 : decode cX5_digitSum 22 = .ok (.iinc 4 1, 3) := by decide +kernel
theorem dX5_digitSum_25 : decode cX5_digitSum 25 = .ok (.goto (-20), 3) := by decide +kernel
theorem dX5_digitSum_28 : decode cX5_digitSum 28 = .ok (.lload_n 2, 1) := by decide +kernel
theorem dX5_digitSum_29 : decode cX5_digitSum 29 = .ok (.lreturn, 1) := by decide +kernel
theorem dX5_leastSum_0 : decode cX5_leastSum 0 = .ok (.lconst 0, 1) := by decide +kernel
theorem dX5_leastSum_1 : decode cX5_leastSum 1 = .ok (.lstore_n 3, 1) := by decide +kernel
theorem dX5_leastSum_2 : decode cX5_leastSum 2 = .ok (.iconst 0, 1) := by decide +kernel
theorem dX5_leastSum_3 : decode cX5_leastSum 3 = .ok (.istore 5, 2) := by decide +kernel
theorem dX5_leastSum_5 : decode cX5_leastSum 5 = .ok (.iload 5, 2) := by decide +kernel
theorem dX5_leastSum_7 : decode cX5_leastSum 7 = .ok (.iload_n 2, 1) := by decide +kernel
theorem dX5_leastSum_8 : decode cX5_leastSum 8 = .ok (.if_icmp .ge 91, 3) := by decide +kernel
theorem dX5_leastSum_11 : decode cX5_leastSum 11 = .ok (.lload_n 3, 1) := by decide +kernel
theorem dX5_leastSum_12 : decode cX5_leastSum 12 = .ok (.iload_n 0, 1) := by decide +kernel
theorem dX5_leastSum_13 : decode cX5_leastSum 13 = .ok (.iload_n 2, 1) := by decide +kernel
theorem dX5_leastSum_14 : decode cX5_leastSum 14 = .ok (.iload 5, 2) := by decide +kernel
theorem dX5_leastSum_16 : decode cX5_leastSum 16 = .ok (.invokestatic 23, 3) := by decide +kernel
theorem dX5_leastSum_19 : decode cX5_leastSum 19 = .ok (.iload_n 1, 1) := by decide +kernel
theorem dX5_leastSum_20 : decode cX5_leastSum 20 = .ok (.iload_n 2, 1) := by decide +kernel
theorem dX5_leastSum_21 : decode cX5_leastSum 21 = .ok (.iload 5, 2) := by decide +kernel
theorem dX5_leastSum_23 : decode cX5_leastSum 23 = .ok (.invokestatic 23, 3) := by decide +kernel
theorem dX5_leastSum_26 : decode cX5_leastSum 26 = .ok (.imul, 1) := by decide +kernel
theorem dX5_leastSum_27 : decode cX5_leastSum 27 = .ok (.i2l, 1) := by decide +kernel
theorem dX5_leastSum_28 : decode cX5_leastSum 28 = .ok (.ladd, 1) := by decide +kernel
theorem dX5_leastSum_29 : decode cX5_leastSum 29 = .ok (.lstore_n 3, 1) := by decide +kernel
theorem dX5_leastSum_30 : decode cX5_leastSum 30 = .ok (.iload 5, 2) := by decide +kernel
theorem dX5_leastSum_32 : decode cX5_leastSum 32 = .ok (.iconst 1, 1) := by decide +kernel
theorem dX5_leastSum_33 : decode cX5_leastSum 33 = .ok (.iadd, 1) := by decide +kernel
theorem dX5_leastSum_34 : decode cX5_leastSum 34 = .ok (.istore 6, 2) := by decide +kernel
theorem dX5_leastSum_36 : decode cX5_leastSum 36 = .ok (.iload 6, 2) := by decide +kernel
theorem dX5_leastSum_38 : decode cX5_leastSum 38 = .ok (.iload_n 2, 1) := by decide +kernel
theorem dX5_leastSum_39 : decode cX5_leastSum 39 = .ok (.if_icmp .ge 54, 3) := by decide +kernel
theorem dX5_leastSum_42 : decode cX5_leastSum 42 = .ok (.iload_n 0, 1) := by decide +kernel
theorem dX5_leastSum_43 : decode cX5_leastSum 43 = .ok (.iload_n 2, 1) := by decide +kernel
theorem dX5_leastSum_44 : decode cX5_leastSum 44 = .ok (.iload 5, 2) := by decide +kernel
theorem dX5_leastSum_46 : decode cX5_leastSum 46 = .ok (.invokestatic 23, 3) := by decide +kernel
theorem dX5_leastSum_49 : decode cX5_leastSum 49 = .ok (.iload_n 1, 1) := by decide +kernel
theorem dX5_leastSum_50 : decode cX5_leastSum 50 = .ok (.iload_n 2, 1) := by decide +kernel
theorem dX5_leastSum_51 : decode cX5_leastSum 51 = .ok (.iload 6, 2) := by decide +kernel
theorem dX5_leastSum_53 : decode cX5_leastSum 53 = .ok (.invokestatic 23, 3) := by decide +kernel
theorem dX5_leastSum_56 : decode cX5_leastSum 56 = .ok (.imul, 1) := by decide +kernel
theorem dX5_leastSum_57 : decode cX5_leastSum 57 = .ok (.istore 7, 2) := by decide +kernel
theorem dX5_leastSum_59 : decode cX5_leastSum 59 = .ok (.iload_n 0, 1) := by decide +kernel
theorem dX5_leastSum_60 : decode cX5_leastSum 60 = .ok (.iload_n 2, 1) := by decide +kernel
theorem dX5_leastSum_61 : decode cX5_leastSum 61 = .ok (.iload 6, 2) := by decide +kernel
theorem dX5_leastSum_63 : decode cX5_leastSum 63 = .ok (.invokestatic 23, 3) := by decide +kernel
theorem dX5_leastSum_66 : decode cX5_leastSum 66 = .ok (.iload_n 1, 1) := by decide +kernel
theorem dX5_leastSum_67 : decode cX5_leastSum 67 = .ok (.iload_n 2, 1) := by decide +kernel
theorem dX5_leastSum_68 : decode cX5_leastSum 68 = .ok (.iload 5, 2) := by decide +kernel
theorem dX5_leastSum_70 : decode cX5_leastSum 70 = .ok (.invokestatic 23, 3) := by decide +kernel
theorem dX5_leastSum_73 : decode cX5_leastSum 73 = .ok (.imul, 1) := by decide +kernel
theorem dX5_leastSum_74 : decode cX5_leastSum 74 = .ok (.istore 8, 2) := by decide +kernel
theorem dX5_leastSum_76 : decode cX5_leastSum 76 = .ok (.lload_n 3, 1) := by decide +kernel
theorem dX5_leastSum_77 : decode cX5_leastSum 77 = .ok (.iload 7, 2) := by decide +kernel
theorem dX5_leastSum_79 : decode cX5_leastSum 79 = .ok (.iload 8, 2) := by decide +kernel
theorem dX5_leastSum_81 : decode cX5_leastSum 81 = .ok (.invokestatic 27, 3) := by decide +kernel
theorem dX5_leastSum_84 : decode cX5_leastSum 84 = .ok (.i2l, 1) := by decide +kernel
theorem dX5_leastSum_85 : decode cX5_leastSum 85 = .ok (.ladd, 1) := by decide +kernel
theorem dX5_leastSum_86 : decode cX5_leastSum 86 = .ok (.lstore_n 3, 1) := by decide +kernel
theorem dX5_leastSum_87 : decode cX5_leastSum 87 = .ok (.iinc 6 1, 3) := by decide +kernel
theorem dX5_leastSum_90 : decode cX5_leastSum 90 = .ok (.goto (-54), 3) := by decide +kernel
theorem dX5_leastSum_93 : decode cX5_leastSum 93 = .ok (.iinc 5 1, 3) := by decide +kernel
theorem dX5_leastSum_96 : decode cX5_leastSum 96 = .ok (.goto (-91), 3) := by decide +kernel
theorem dX5_leastSum_99 : decode cX5_leastSum 99 = .ok (.lload_n 3, 1) := by decide +kernel
theorem dX5_leastSum_100 : decode cX5_leastSum 100 = .ok (.lreturn, 1) := by decide +kernel
theorem dX5_first_0 : decode cX5_first 0 = .ok (.iconst 0, 1) := by decide +kernel
theorem dX5_first_1 : decode cX5_first 1 = .ok (.istore_n 3, 1) := by decide +kernel
theorem dX5_first_2 : decode cX5_first 2 = .ok (.iconst 1, 1) := by decide +kernel
theorem dX5_first_3 : decode cX5_first 3 = .ok (.istore 4, 2) := by decide +kernel
theorem dX5_first_5 : decode cX5_first 5 = .ok (.iload 4, 2) := by decide +kernel
theorem dX5_first_7 : decode cX5_first 7 = .ok (.iload_n 2, 1) := by decide +kernel
theorem dX5_first_8 : decode cX5_first 8 = .ok (.if_icmp .ge 51, 3) := by decide +kernel
theorem dX5_first_11 : decode cX5_first 11 = .ok (.iload_n 0, 1) := by decide +kernel
theorem dX5_first_12 : decode cX5_first 12 = .ok (.iload_n 2, 1) := by decide +kernel
theorem dX5_first_13 : decode cX5_first 13 = .ok (.iload 4, 2) := by decide +kernel
theorem dX5_first_15 : decode cX5_first 15 = .ok (.invokestatic 23, 3) := by decide +kernel
theorem dX5_first_18 : decode cX5_first 18 = .ok (.iload_n 1, 1) := by decide +kernel
theorem dX5_first_19 : decode cX5_first 19 = .ok (.iload_n 2, 1) := by decide +kernel
theorem dX5_first_20 : decode cX5_first 20 = .ok (.iload_n 3, 1) := by decide +kernel
theorem dX5_first_21 : decode cX5_first 21 = .ok (.invokestatic 23, 3) := by decide +kernel
theorem dX5_first_24 : decode cX5_first 24 = .ok (.imul, 1) := by decide +kernel
theorem dX5_first_25 : decode cX5_first 25 = .ok (.istore 5, 2) := by decide +kernel
theorem dX5_first_27 : decode cX5_first 27 = .ok (.iload_n 0, 1) := by decide +kernel
theorem dX5_first_28 : decode cX5_first 28 = .ok (.iload_n 2, 1) := by decide +kernel
theorem dX5_first_29 : decode cX5_first 29 = .ok (.iload_n 3, 1) := by decide +kernel
theorem dX5_first_30 : decode cX5_first 30 = .ok (.invokestatic 23, 3) := by decide +kernel
theorem dX5_first_33 : decode cX5_first 33 = .ok (.iload_n 1, 1) := by decide +kernel
theorem dX5_first_34 : decode cX5_first 34 = .ok (.iload_n 2, 1) := by decide +kernel
theorem dX5_first_35 : decode cX5_first 35 = .ok (.iload 4, 2) := by decide +kernel
theorem dX5_first_37 : decode cX5_first 37 = .ok (.invokestatic 23, 3) := by decide +kernel
theorem dX5_first_40 : decode cX5_first 40 = .ok (.imul, 1) := by decide +kernel
theorem dX5_first_41 : decode cX5_first 41 = .ok (.istore 6, 2) := by decide +kernel
theorem dX5_first_43 : decode cX5_first 43 = .ok (.iload 5, 2) := by decide +kernel
theorem dX5_first_45 : decode cX5_first 45 = .ok (.iload 6, 2) := by decide +kernel
theorem dX5_first_47 : decode cX5_first 47 = .ok (.if_icmp .le 6, 3) := by decide +kernel
theorem dX5_first_50 : decode cX5_first 50 = .ok (.iload 4, 2) := by decide +kernel
theorem dX5_first_52 : decode cX5_first 52 = .ok (.istore_n 3, 1) := by decide +kernel
theorem dX5_first_53 : decode cX5_first 53 = .ok (.iinc 4 1, 3) := by decide +kernel
theorem dX5_first_56 : decode cX5_first 56 = .ok (.goto (-51), 3) := by decide +kernel
theorem dX5_first_59 : decode cX5_first 59 = .ok (.iload_n 3, 1) := by decide +kernel
theorem dX5_first_60 : decode cX5_first 60 = .ok (.ireturn, 1) := by decide +kernel
theorem dX6_init_0 : decode cX6_init 0 = .ok (.aload_n 0, 1) := by decide +kernel
theorem dX6_init_1 : decode cX6_init 1 = .ok (.invokespecial 3, 3) := by decide +kernel
theorem dX6_init_4 : decode cX6_init 4 = .ok (.aload_n 0, 1) := by decide +kernel
theorem dX6_init_5 : decode cX6_init 5 = .ok (.bipush 8, 2) := by decide +kernel
theorem dX6_init_7 : decode cX6_init 7 = .ok (.newarray .int, 2) := by decide +kernel
theorem dX6_init_9 : decode cX6_init 9 = .ok (.putfield 11, 3) := by decide +kernel
theorem dX6_init_12 : decode cX6_init 12 = .ok (.aload_n 0, 1) := by decide +kernel
theorem dX6_init_13 : decode cX6_init 13 = .ok (.bipush 8, 2) := by decide +kernel
theorem dX6_init_15 : decode cX6_init 15 = .ok (.newarray .int, 2) := by decide +kernel
theorem dX6_init_17 : decode cX6_init 17 = .ok (.putfield 15, 3) := by decide +kernel
theorem dX6_init_20 : decode cX6_init 20 = .ok (.aload_n 0, 1) := by decide +kernel
theorem dX6_init_21 : decode cX6_init 21 = .ok (.bipush 8, 2) := by decide +kernel
theorem dX6_init_23 : decode cX6_init 23 = .ok (.newarray .boolean, 2) := by decide +kernel
theorem dX6_init_25 : decode cX6_init 25 = .ok (.putfield 18, 3) := by decide +kernel
theorem dX6_init_28 : decode cX6_init 28 = .ok (.aload_n 0, 1) := by decide +kernel
theorem dX6_init_29 : decode cX6_init 29 = .ok (.bipush 10, 2) := by decide +kernel
theorem dX6_init_31 : decode cX6_init 31 = .ok (.newarray .int, 2) := by decide +kernel
theorem dX6_init_33 : decode cX6_init 33 = .ok (.putfield 22, 3) := by decide +kernel
theorem dX6_init_36 : decode cX6_init 36 = .ok (.return_, 1) := by decide +kernel
theorem dX6_copyFrom_0 : decode cX6_copyFrom 0 = .ok (.iconst 0, 1) := by decide +kernel
theorem dX6_copyFrom_1 : decode cX6_copyFrom 1 = .ok (.istore_n 2, 1) := by decide +kernel
theorem dX6_copyFrom_2 : decode cX6_copyFrom 2 = .ok (.iload_n 2, 1) := by decide +kernel
theorem dX6_copyFrom_3 : decode cX6_copyFrom 3 = .ok (.bipush 8, 2) := by decide +kernel
theorem dX6_copyFrom_5 : decode cX6_copyFrom 5 = .ok (.if_icmp .ge 45, 3) := by decide +kernel
theorem dX6_copyFrom_8 : decode cX6_copyFrom 8 = .ok (.aload_n 0, 1) := by decide +kernel
theorem dX6_copyFrom_9 : decode cX6_copyFrom 9 = .ok (.getfield 11, 3) := by decide +kernel
theorem dX6_copyFrom_12 : decode cX6_copyFrom 12 = .ok (.iload_n 2, 1) := by decide +kernel
theorem dX6_copyFrom_13 : decode cX6_copyFrom 13 = .ok (.aload_n 1, 1) := by decide +kernel
theorem dX6_copyFrom_14 : decode cX6_copyFrom 14 = .ok (.getfield 11, 3) := by decide +kernel
theorem dX6_copyFrom_17 : decode cX6_copyFrom 17 = .ok (.iload_n 2, 1) := by decide +kernel
theorem dX6_copyFrom_18 : decode cX6_copyFrom 18 = .ok (.iaload, 1) := by decide +kernel
theorem dX6_copyFrom_19 : decode cX6_copyFrom 19 = .ok (.iastore, 1) := by decide +kernel
theorem dX6_copyFrom_20 : decode cX6_copyFrom 20 = .ok (.aload_n 0, 1) := by decide +kernel
theorem dX6_copyFrom_21 : decode cX6_copyFrom 21 = .ok (.getfield 15, 3) := by decide +kernel
theorem dX6_copyFrom_24 : decode cX6_copyFrom 24 = .ok (.iload_n 2, 1) := by decide +kernel
theorem dX6_copyFrom_25 : decode cX6_copyFrom 25 = .ok (.aload_n 1, 1) := by decide +kernel
theorem dX6_copyFrom_26 : decode cX6_copyFrom 26 = .ok (.getfield 15, 3) := by decide +kernel
theorem dX6_copyFrom_29 : decode cX6_copyFrom 29 = .ok (.iload_n 2, 1) := by decide +kernel
theorem dX6_copyFrom_30 : decode cX6_copyFrom 30 = .ok (.iaload, 1) := by decide +kernel
theorem dX6_copyFrom_31 : decode cX6_copyFrom 31 = .ok (.iastore, 1) := by decide +kernel
theorem dX6_copyFrom_32 : decode cX6_copyFrom 32 = .ok (.aload_n 0, 1) := by decide +kernel
theorem dX6_copyFrom_33 : decode cX6_copyFrom 33 = .ok (.getfield 18, 3) := by decide +kernel
theorem dX6_copyFrom_36 : decode cX6_copyFrom 36 = .ok (.iload_n 2, 1) := by decide +kernel
theorem dX6_copyFrom_37 : decode cX6_copyFrom 37 = .ok (.aload_n 1, 1) := by decide +kernel
theorem dX6_copyFrom_38 : decode cX6_copyFrom 38 = .ok (.getfield 18, 3) := by decide +kernel
theorem dX6_copyFrom_41 : decode cX6_copyFrom 41 = .ok (.iload_n 2, 1) := by decide +kernel
theorem dX6_copyFrom_42 : decode cX6_copyFrom 42 = .ok (.baload, 1) := by decide +kernel
theorem dX6_copyFrom_43 : decode cX6_copyFrom 43 = .ok (.bastore, 1) := by decide +kernel
theorem dX6_copyFrom_44 : decode cX6_copyFrom 44 = .ok (.iinc 2 1, 3) := by decide +kernel
theorem dX6_copyFrom_47 : decode cX6_copyFrom 47 = .ok (.goto (-45), 3) := by decide +kernel
theorem dX6_copyFrom_50 : decode cX6_copyFrom 50 = .ok (.aload_n 0, 1) := by decide +kernel
theorem dX6_copyFrom_51 : decode cX6_copyFrom 51 = .ok (.aload_n 1, 1) := by decide +kernel
theorem dX6_copyFrom_52 : decode cX6_copyFrom 52 = .ok (.getfield 25, 3) := by decide +kernel
theorem dX6_copyFrom_55 : decode cX6_copyFrom 55 = .ok (.putfield 25, 3) := by decide +kernel
theorem dX6_copyFrom_58 : decode cX6_copyFrom 58 = .ok (.return_, 1) := by decide +kernel
theorem dX6_add_0 : decode cX6_add 0 = .ok (.aload_n 0, 1) := by decide +kernel
theorem dX6_add_1 : decode cX6_add 1 = .ok (.getfield 25, 3) := by decide +kernel
theorem dX6_add_4 : decode cX6_add 4 = .ok (.bipush 8, 2) := by decide +kernel
theorem dX6_add_6 : decode cX6_add 6 = .ok (.if_icmp .lt 6, 3) := by decide +kernel
theorem dX6_add_9 : decode cX6_add 9 = .ok (.bipush (-4), 2) := by decide +kernel
theorem dX6_add_11 : decode cX6_add 11 = .ok (.ireturn, 1) := by decide +kernel
theorem dX6_add_12 : decode cX6_add 12 = .ok (.aload_n 0, 1) := by decide +kernel
theorem dX6_add_13 : decode cX6_add 13 = .ok (.getfield 11, 3) := by decide +kernel
theorem dX6_add_16 : decode cX6_add 16 = .ok (.aload_n 0, 1) := by decide +kernel
theorem dX6_add_17 : decode cX6_add 17 = .ok (.getfield 25, 3) := by decide +kernel
theorem dX6_add_20 : decode cX6_add 20 = .ok (.iload_n 1, 1) := by decide +kernel
theorem dX6_add_21 : decode cX6_add 21 = .ok (.iastore, 1) := by decide +kernel
theorem dX6_add_22 : decode cX6_add 22 = .ok (.aload_n 0, 1) := by decide +kernel
theorem dX6_add_23 : decode cX6_add 23 = .ok (.getfield 15, 3) := by decide +kernel
theorem dX6_add_26 : decode cX6_add 26 = .ok (.aload_n 0, 1) := by decide +kernel
theorem dX6_add_27 : decode cX6_add 27 = .ok (.getfield 25, 3) := by decide +kernel
theorem dX6_add_30 : decode cX6_add 30 = .ok (.iload_n 2, 1) := by decide +kernel
theorem dX6_add_31 : decode cX6_add 31 = .ok (.iastore, 1) := by decide +kernel
theorem dX6_add_32 : decode cX6_add 32 = .ok (.aload_n 0, 1) := by decide +kernel
theorem dX6_add_33 : decode cX6_add 33 = .ok (.getfield 18, 3) := by decide +kernel
theorem dX6_add_36 : decode cX6_add 36 = .ok (.aload_n 0, 1) := by decide +kernel
theorem dX6_add_37 : decode cX6_add 37 = .ok (.getfield 25, 3) := by decide +kernel
theorem dX6_add_40 : decode cX6_add 40 = .ok (.iload_n 3, 1) := by decide +kernel
theorem dX6_add_41 : decode cX6_add 41 = .ok (.bastore, 1) := by decide +kernel
theorem dX6_add_42 : decode cX6_add 42 = .ok (.aload_n 0, 1) := by decide +kernel
theorem dX6_add_43 : decode cX6_add 43 = .ok (.dup, 1) := by decide +kernel
theorem dX6_add_44 : decode cX6_add 44 = .ok (.getfield 25, 3) := by decide +kernel
theorem dX6_add_47 : decode cX6_add 47 = .ok (.iconst 1, 1) := by decide +kernel
theorem dX6_add_48 : decode cX6_add 48 = .ok (.iadd, 1) := by decide +kernel
theorem dX6_add_49 : decode cX6_add 49 = .ok (.putfield 25, 3) := by decide +kernel
theorem dX6_add_52 : decode cX6_add 52 = .ok (.aload_n 0, 1) := by decide +kernel
theorem dX6_add_53 : decode cX6_add 53 = .ok (.getfield 25, 3) := by decide +kernel
theorem dX6_add_56 : decode cX6_add 56 = .ok (.ireturn, 1) := by decide +kernel
theorem dX6_clear_0 : decode cX6_clear 0 = .ok (.aload_n 0, 1) := by decide +kernel
theorem dX6_clear_1 : decode cX6_clear 1 = .ok (.getfield 25, 3) := by decide +kernel
theorem dX6_clear_4 : decode cX6_clear 4 = .ok (.istore_n 1, 1) := by decide +kernel
theorem dX6_clear_5 : decode cX6_clear 5 = .ok (.aload_n 0, 1) := by decide +kernel
theorem dX6_clear_6 : decode cX6_clear 6 = .ok (.iconst 0, 1) := by decide +kernel
theorem dX6_clear_7 : decode cX6_clear 7 = .ok (.putfield 25, 3) := by decide +kernel
theorem dX6_clear_10 : decode cX6_clear 10 = .ok (.iload_n 1, 1) := by decide +kernel
theorem dX6_clear_11 : decode cX6_clear 11 = .ok (.ireturn, 1) := by decide +kernel
theorem dX6_fit_0 : decode cX6_fit 0 = .ok (.iconst 0, 1) := by decide +kernel
theorem dX6_fit_1 : decode cX6_fit 1 = .ok (.istore_n 2, 1) := by decide +kernel
theorem dX6_fit_2 : decode cX6_fit 2 = .ok (.iload_n 2, 1) := by decide +kernel
theorem dX6_fit_3 : decode cX6_fit 3 = .ok (.aload_n 0, 1) := by decide +kernel
theorem dX6_fit_4 : decode cX6_fit 4 = .ok (.getfield 25, 3) := by decide +kernel
theorem dX6_fit_7 : decode cX6_fit 7 = .ok (.if_icmp .ge 42, 3) := by decide +kernel
theorem dX6_fit_10 : decode cX6_fit 10 = .ok (.iload_n 2, 1) := by decide +kernel
theorem dX6_fit_11 : decode cX6_fit 11 = .ok (.bipush 8, 2) := by decide +kernel
theorem dX6_fit_13 : decode cX6_fit 13 = .ok (.if_icmp .ge 36, 3) := by decide +kernel
theorem dX6_fit_16 : decode cX6_fit 16 = .ok (.iload_n 1, 1) := by decide +kernel
theorem dX6_fit_17 : decode cX6_fit 17 = .ok (.aload_n 0, 1) := by decide +kernel
theorem dX6_fit_18 : decode cX6_fit 18 = .ok (.getfield 11, 3) := by decide +kernel
theorem dX6_fit_21 : decode cX6_fit 21 = .ok (.iload_n 2, 1) := by decide +kernel
theorem dX6_fit_22 : decode cX6_fit 22 = .ok (.iaload, 1) := by decide +kernel
theorem dX6_fit_23 : decode cX6_fit 23 = .ok (.aload_n 0, 1) := by decide +kernel
theorem dX6_fit_24 : decode cX6_fit 24 = .ok (.getfield 15, 3) := by decide +kernel
theorem dX6_fit_27 : decode cX6_fit 27 = .ok (.iload_n 2, 1) := by decide +kernel
theorem dX6_fit_28 : decode cX6_fit 28 = .ok (.iaload, 1) := by decide +kernel
theorem dX6_fit_29 : decode cX6_fit 29 = .ok (.invokestatic 29, 3) := by decide +kernel
theorem dX6_fit_32 : decode cX6_fit 32 = .ok (.aload_n 0, 1) := by decide +kernel
theorem dX6_fit_33 : decode cX6_fit 33 = .ok (.getfield 18, 3) := by decide +kernel
theorem dX6_fit_36 : decode cX6_fit 36 = .ok (.iload_n 2, 1) := by decide +kernel
theorem dX6_fit_37 : decode cX6_fit 37 = .ok (.baload, 1) := by decide +kernel
theorem dX6_fit_38 : decode cX6_fit 38 = .ok (.if_icmp .eq 5, 3) := by decide +kernel
theorem dX6_fit_41 : decode cX6_fit 41 = .ok (.iconst 0, 1) := by decide +kernel
theorem dX6_fit_42 : decode cX6_fit 42 = .ok (.ireturn, 1) := by decide +kernel
theorem dX6_fit_43 : decode cX6_fit 43 = .ok (.iinc 2 1, 3) := by decide +kernel
theorem dX6_fit_46 : decode cX6_fit 46 = .ok (.goto (-44), 3) := by decide +kernel
theorem dX6_fit_49 : decode cX6_fit 49 = .ok (.iconst 1, 1) := by decide +kernel
theorem dX6_fit_50 : decode cX6_fit 50 = .ok (.ireturn, 1) := by decide +kernel
theorem dX6_findQuestion_0 : decode cX6_findQuestion 0 = .ok (.aload_n 0, 1) := by decide +kernel
theorem dX6_findQuestion_1 : decode cX6_findQuestion 1 = .ok (.bipush (-6), 2) := by decide +kernel
theorem dX6_findQuestion_3 : decode cX6_findQuestion 3 = .ok (.putfield 33, 3) := by decide +kernel
theorem dX6_findQuestion_6 : decode cX6_findQuestion 6 = .ok (.aload_n 0, 1) := by decide +kernel
theorem dX6_findQuestion_7 : decode cX6_findQuestion 7 = .ok (.bipush (-6), 2) := by decide +kernel
theorem dX6_findQuestion_9 : decode cX6_findQuestion 9 = .ok (.putfield 36, 3) := by decide +kernel
theorem dX6_findQuestion_12 : decode cX6_findQuestion 12 = .ok (.aload_n 0, 1) := by decide +kernel
theorem dX6_findQuestion_13 : decode cX6_findQuestion 13 = .ok (.aload_n 1, 1) := by decide +kernel
theorem dX6_findQuestion_14 : decode cX6_findQuestion 14 = .ok (.invokevirtual 39, 3) := by decide +kernel
theorem dX6_findQuestion_17 : decode cX6_findQuestion 17 = .ok (.istore_n 2, 1) := by decide +kernel
theorem dX6_findQuestion_18 : decode cX6_findQuestion 18 = .ok (.iload_n 2, 1) := by decide +kernel
theorem dX6_findQuestion_19 : decode cX6_findQuestion 19 = .ok (.ifCond .ne 4, 3) := by decide +kernel
theorem dX6_findQuestion_22 : decode cX6_findQuestion 22 = .ok (.return_, 1) := by decide +kernel
theorem dX6_findQuestion_23 : decode cX6_findQuestion 23 = .ok (.iconst 1, 1) := by decide +kernel
theorem dX6_findQuestion_24 : decode cX6_findQuestion 24 = .ok (.istore_n 3, 1) := by decide +kernel
theorem dX6_findQuestion_25 : decode cX6_findQuestion 25 = .ok (.iload_n 3, 1) := by decide +kernel
theorem dX6_findQuestion_26 : decode cX6_findQuestion 26 = .ok (.bipush 9, 2) := by decide +kernel
theorem dX6_findQuestion_28 : decode cX6_findQuestion 28 = .ok (.if_icmp .gt 80, 3) := by decide +kernel
theorem dX6_findQuestion_31 : decode cX6_findQuestion 31 = .ok (.iconst 0, 1) := by decide +kernel
theorem dX6_findQuestion_32 : decode cX6_findQuestion 32 = .ok (.istore 4, 2) := by decide +kernel
theorem dX6_findQuestion_34 : decode cX6_findQuestion 34 = .ok (.iload 4, 2) := by decide +kernel
theorem dX6_findQuestion_36 : decode cX6_findQuestion 36 = .ok (.bipush 9, 2) := by decide +kernel
theorem dX6_findQuestion_38 : decode cX6_findQuestion 38 = .ok (.if_icmp .ge 64, 3) := by decide +kernel
theorem dX6_findQuestion_41 : decode cX6_findQuestion 41 = .ok (.aload_n 0, 1) := by decide +kernel
theorem dX6_findQuestion_42 : decode cX6_findQuestion 42 = .ok (.iload_n 3, 1) := by decide +kernel
theorem dX6_findQuestion_43 : decode cX6_findQuestion 43 = .ok (.iload 4, 2) := by decide +kernel
theorem dX6_findQuestion_45 : decode cX6_findQuestion 45 = .ok (.invokevirtual 43, 3) := by decide +kernel
theorem dX6_findQuestion_48 : decode cX6_findQuestion 48 = .ok (.istore 5, 2) := by decide +kernel
theorem dX6_findQuestion_50 : decode cX6_findQuestion 50 = .ok (.iload 5, 2) := by decide +kernel
theorem dX6_findQuestion_52 : decode cX6_findQuestion 52 = .ok (.iload_n 2, 1) := by decide +kernel
theorem dX6_findQuestion_53 : decode cX6_findQuestion 53 = .ok (.iload 5, 2) := by decide +kernel
theorem dX6_findQuestion_55 : decode cX6_findQuestion 55 = .ok (.isub, 1) := by decide +kernel
theorem dX6_findQuestion_56 : decode cX6_findQuestion 56 = .ok (.invokestatic 47, 3) := by decide +kernel
theorem dX6_findQuestion_59 : decode cX6_findQuestion 59 = .ok (.istore 6, 2) := by decide +kernel
theorem dX6_findQuestion_61 : decode cX6_findQuestion 61 = .ok (.aload_n 0, 1) := by decide +kernel
theorem dX6_findQuestion_62 : decode cX6_findQuestion 62 = .ok (.getfield 33, 3) := by decide +kernel
theorem dX6_findQuestion_65 : decode cX6_findQuestion 65 = .ok (.bipush (-6), 2) := by decide +kernel
theorem dX6_findQuestion_67 : decode cX6_findQuestion 67 = .ok (.if_icmp .eq 12, 3) := by decide +kernel
theorem dX6_findQuestion_70 : decode cX6_findQuestion 70 = .ok (.iload 6, 2) := by decide +kernel
theorem dX6_findQuestion_72 : decode cX6_findQuestion 72 = .ok (.aload_n 0, 1) := by decide +kernel
theorem dX6_findQuestion_73 : decode cX6_findQuestion 73 = .ok (.getfield 36, 3) := by decide +kernel
theorem dX6_findQuestion_76 : decode cX6_findQuestion 76 = .ok (.if_icmp .ge 20, 3) := by decide +kernel
theorem dX6_findQuestion_79 : decode cX6_findQuestion 79 = .ok (.aload_n 0, 1) := by decide +kernel
theorem dX6_findQuestion_80 : decode cX6_findQuestion 80 = .ok (.bipush 10, 2) := by decide +kernel
theorem dX6_findQuestion_82 : decode cX6_findQuestion 82 = .ok (.iload_n 3, 1) := by decide +kernel
theorem dX6_findQuestion_83 : decode cX6_findQuestion 83 = .ok (.imul, 1) := by decide +kernel
theorem dX6_findQuestion_84 : decode cX6_findQuestion 84 = .ok (.iload 4, 2) := by decide +kernel
theorem dX6_findQuestion_86 : decode cX6_findQuestion 86 = .ok (.iadd, 1) := by decide +kernel
theorem dX6_findQuestion_87 : decode cX6_findQuestion 87 = .ok (.putfield 33, 3) := by decide +kernel
theorem dX6_findQuestion_90 : decode cX6_findQuestion 90 = .ok (.aload_n 0, 1) := by decide +kernel
theorem dX6_findQuestion_91 : decode cX6_findQuestion 91 = .ok (.iload 6, 2) := by decide +kernel
theorem dX6_findQuestion_93 : decode cX6_findQuestion 93 = .ok (.putfield 36, 3) := by decide +kernel
theorem dX6_findQuestion_96 : decode cX6_findQuestion 96 = .ok (.iinc 4 1, 3) := by decide +kernel
theorem dX6_findQuestion_99 : decode cX6_findQuestion 99 = .ok (.goto (-65), 3) := by decide +kernel
theorem dX6_findQuestion_102 : decode cX6_findQuestion 102 = .ok (.iinc 3 1, 3) := by decide +kernel
theorem dX6_findQuestion_105 : decode cX6_findQuestion 105 = .ok (.goto (-80), 3) := by decide +kernel
theorem dX6_findQuestion_108 : decode cX6_findQuestion 108 = .ok (.return_, 1) := by decide +kernel
theorem dX6_countFitting_0 : decode cX6_countFitting 0 = .ok (.iconst 0, 1) := by decide +kernel
theorem dX6_countFitting_1 : decode cX6_countFitting 1 = .ok (.istore_n 2, 1) := by decide +kernel
theorem dX6_countFitting_2 : decode cX6_countFitting 2 = .ok (.iload_n 2, 1) := by decide +kernel
theorem dX6_countFitting_3 : decode cX6_countFitting 3 = .ok (.bipush 9, 2) := by decide +kernel
theorem dX6_countFitting_5 : decode cX6_countFitting 5 = .ok (.if_icmp .gt 16, 3) := by decide +kernel
theorem dX6_countFitting_8 : decode cX6_countFitting 8 = .ok (.aload_n 0, 1) := by decide +kernel
theorem dX6_countFitting_9 : decode cX6_countFitting 9 = .ok (.getfield 22, 3) := by decide +kernel
theorem dX6_countFitting_12 : decode cX6_countFitting 12 = .ok (.iload_n 2, 1) := by decide +kernel
theorem dX6_countFitting_13 : decode cX6_countFitting 13 = .ok (.iconst 0, 1) := by decide +kernel
theorem dX6_countFitting_14 : decode cX6_countFitting 14 = .ok (.iastore, 1) := by decide +kernel
theorem dX6_countFitting_15 : decode cX6_countFitting 15 = .ok (.iinc 2 1, 3) := by decide +kernel
theorem dX6_countFitting_18 : decode cX6_countFitting 18 = .ok (.goto (-16), 3) := by decide +kernel
theorem dX6_countFitting_21 : decode cX6_countFitting 21 = .ok (.iconst 0, 1) := by decide +kernel
theorem dX6_countFitting_22 : decode cX6_countFitting 22 = .ok (.istore_n 2, 1) := by decide +kernel
theorem dX6_countFitting_23 : decode cX6_countFitting 23 = .ok (.iconst 0, 1) := by decide +kernel
theorem dX6_countFitting_24 : decode cX6_countFitting 24 = .ok (.istore_n 3, 1) := by decide +kernel
theorem dX6_countFitting_25 : decode cX6_countFitting 25 = .ok (.iload_n 3, 1) := by decide +kernel
theorem dX6_countFitting_26 : decode cX6_countFitting 26 = .ok (.aload_n 1, 1) := by decide +kernel
theorem dX6_countFitting_27 : decode cX6_countFitting 27 = .ok (.arraylength, 1) := by decide +kernel
theorem dX6_countFitting_28 : decode cX6_countFitting 28 = .ok (.if_icmp .ge 45, 3) := by decide +kernel
theorem dX6_countFitting_31 : decode cX6_countFitting 31 = .ok (.aload_n 1, 1) := by decide +kernel
theorem dX6_countFitting_32 : decode cX6_countFitting 32 = .ok (.iload_n 3, 1) := by decide +kernel
theorem dX6_countFitting_33 : decode cX6_countFitting 33 = .ok (.iaload, 1) := by decide +kernel
theorem dX6_countFitting_34 : decode cX6_countFitting 34 = .ok (.istore 4, 2) := by decide +kernel
theorem dX6_countFitting_36 : decode cX6_countFitting 36 = .ok (.iload 4, 2) := by decide +kernel
theorem dX6_countFitting_38 : decode cX6_countFitting 38 = .ok (.invokestatic 52, 3) := by decide +kernel
theorem dX6_countFitting_41 : decode cX6_countFitting 41 = .ok (.ifCond .eq 26, 3) := by decide +kernel
theorem dX6_countFitting_44 : decode cX6_countFitting 44 = .ok (.aload_n 0, 1) := by decide +kernel
theorem dX6_countFitting_45 : decode cX6_countFitting 45 = .ok (.iload 4, 2) := by decide +kernel
theorem dX6_countFitting_47 : decode cX6_countFitting 47 = .ok (.invokevirtual 56, 3) := by decide +kernel
theorem dX6_countFitting_50 : decode cX6_countFitting 50 = .ok (.ifCond .eq 17, 3) := by decide +kernel
theorem dX6_countFitting_53 : decode cX6_countFitting 53 = .ok (.aload_n 0, 1) := by decide +kernel
theorem dX6_countFitting_54 : decode cX6_countFitting 54 = .ok (.getfield 22, 3) := by decide +kernel
theorem dX6_countFitting_57 : decode cX6_countFitting 57 = .ok (.iload 4, 2) := by decide +kernel
theorem dX6_countFitting_59 : decode cX6_countFitting 59 = .ok (.dup2, 1) := by decide +kernel
theorem dX6_countFitting_60 : decode cX6_countFitting 60 = .ok (.iaload, 1) := by decide +kernel
theorem dX6_countFitting_61 : decode cX6_countFitting 61 = .ok (.iconst 1, 1) := by decide +kernel
theorem dX6_countFitting_62 : decode cX6_countFitting 62 = .ok (.iadd, 1) := by decide +kernel
theorem dX6_countFitting_63 : decode cX6_countFitting 63 = .ok (.iastore, 1) := by decide +kernel
theorem dX6_countFitting_64 : decode cX6_countFitting 64 = .ok (.iinc 2 1, 3) := by decide +kernel
theorem dX6_countFitting_67 : decode cX6_countFitting 67 = .ok (.iinc 3 1, 3) := by decide +kernel
theorem dX6_countFitting_70 : decode cX6_countFitting 70 = .ok (.goto (-45), 3) := by decide +kernel
theorem dX6_countFitting_73 : decode cX6_countFitting 73 = .ok (.iload_n 2, 1) := by decide +kernel
theorem dX6_countFitting_74 : decode cX6_countFitting 74 = .ok (.ireturn, 1) := by decide +kernel
theorem dX6_countNear_0 : decode cX6_countNear 0 = .ok (.iconst 0, 1) := by decide +kernel
theorem dX6_countNear_1 : decode cX6_countNear 1 = .ok (.istore_n 3, 1) := by decide +kernel
theorem dX6_countNear_2 : decode cX6_countNear 2 = .ok (.iconst 1, 1) := by decide +kernel
theorem dX6_countNear_3 : decode cX6_countNear 3 = .ok (.istore 4, 2) := by decide +kernel
theorem dX6_countNear_5 : decode cX6_countNear 5 = .ok (.iload 4, 2) := by decide +kernel
theorem dX6_countNear_7 : decode cX6_countNear 7 = .ok (.bipush 9, 2) := by decide +kernel
theorem dX6_countNear_9 : decode cX6_countNear 9 = .ok (.if_icmp .gt 29, 3) := by decide +kernel
theorem dX6_countNear_12 : decode cX6_countNear 12 = .ok (.iload 4, 2) := by decide +kernel
theorem dX6_countNear_14 : decode cX6_countNear 14 = .ok (.iload_n 1, 1) := by decide +kernel
theorem dX6_countNear_15 : decode cX6_countNear 15 = .ok (.iload_n 2, 1) := by decide +kernel
theorem dX6_countNear_16 : decode cX6_countNear 16 = .ok (.invokestatic 29, 3) := by decide +kernel
theorem dX6_countNear_19 : decode cX6_countNear 19 = .ok (.ifCond .eq 13, 3) := by decide +kernel
theorem dX6_countNear_22 : decode cX6_countNear 22 = .ok (.iload_n 3, 1) := by decide +kernel
theorem dX6_countNear_23 : decode cX6_countNear 23 = .ok (.aload_n 0, 1) := by decide +kernel
theorem dX6_countNear_24 : decode cX6_countNear 24 = .ok (.getfield 22, 3) := by decide +kernel
theorem dX6_countNear_27 : decode cX6_countNear 27 = .ok (.iload 4, 2) := by decide +kernel
theorem dX6_countNear_29 : decode cX6_countNear 29 = .ok (.iaload, 1) := by decide +kernel
theorem dX6_countNear_30 : decode cX6_countNear 30 = .ok (.iadd, 1) := by decide +kernel
theorem dX6_countNear_31 : decode cX6_countNear 31 = .ok (.istore_n 3, 1) := by decide +kernel
theorem dX6_countNear_32 : decode cX6_countNear 32 = .ok (.iinc 4 1, 3) := by decide +kernel
theorem dX6_countNear_35 : decode cX6_countNear 35 = .ok (.goto (-30), 3) := by decide +kernel
theorem dX6_countNear_38 : decode cX6_countNear 38 = .ok (.iload_n 3, 1) := by decide +kernel
theorem dX6_countNear_39 : decode cX6_countNear 39 = .ok (.ireturn, 1) := by decide +kernel
theorem dX6_isNear_0 : decode cX6_isNear 0 = .ok (.iload_n 0, 1) := by decide +kernel
theorem dX6_isNear_1 : decode cX6_isNear 1 = .ok (.iload_n 1, 1) := by decide +kernel
theorem dX6_isNear_2 : decode cX6_isNear 2 = .ok (.isub, 1) := by decide +kernel
theorem dX6_isNear_3 : decode cX6_isNear 3 = .ok (.invokestatic 59, 3) := by decide +kernel
theorem dX6_isNear_6 : decode cX6_isNear 6 = .ok (.iload_n 2, 1) := by decide +kernel
theorem dX6_isNear_7 : decode cX6_isNear 7 = .ok (.if_icmp .gt 7, 3) := by decide +kernel
theorem dX6_isNear_10 : decode cX6_isNear 10 = .ok (.iconst 1, 1) := by decide +kernel
theorem dX6_isNear_11 : decode cX6_isNear 11 = .ok (.goto 4, 3) := by decide +kernel
theorem dX6_isNear_14 : decode cX6_isNear 14 = .ok (.iconst 0, 1) := by decide +kernel
theorem dX6_isNear_15 : decode cX6_isNear 15 = .ok (.ireturn, 1) := by decide +kernel
theorem dX7_init_0 : decode cX7_init 0 = .ok (.aload_n 0, 1) := by decide +kernel
theorem dX7_init_1 : decode cX7_init 1 = .ok (.invokespecial 3, 3) := by decide +kernel
theorem dX7_init_4 : decode cX7_init 4 = .ok (.aload_n 0, 1) := by decide +kernel
theorem dX7_init_5 : decode cX7_init 5 = .ok (.new 9, 3) := by decide +kernel
theorem dX7_init_8 : decode cX7_init 8 = .ok (.dup, 1) := by decide +kernel
theorem dX7_init_9 : decode cX7_init 9 = .ok (.invokespecial 11, 3) := by decide +kernel
theorem dX7_init_12 : decode cX7_init 12 = .ok (.putfield 12, 3) := by decide +kernel
theorem dX7_init_15 : decode cX7_init 15 = .ok (.return_, 1) := by decide +kernel
theorem dX7_follow_0 : decode cX7_follow 0 = .ok (.aload_n 0, 1) := by decide +kernel
theorem dX7_follow_1 : decode cX7_follow 1 = .ok (.aload_n 1, 1) := by decide +kernel
theorem dX7_follow_2 : decode cX7_follow 2 = .ok (.invokevirtual 18, 3) := by decide +kernel
theorem dX7_follow_5 : decode cX7_follow 5 = .ok (.iconst 0, 1) := by decide +kernel
theorem dX7_follow_6 : decode cX7_follow 6 = .ok (.istore_n 3, 1) := by decide +kernel
theorem dX7_follow_7 : decode cX7_follow 7 = .ok (.iconst 0, 1) := by decide +kernel
theorem dX7_follow_8 : decode cX7_follow 8 = .ok (.istore 4, 2) := by decide +kernel
theorem dX7_follow_10 : decode cX7_follow 10 = .ok (.iconst 0, 1) := by decide +kernel
theorem dX7_follow_11 : decode cX7_follow 11 = .ok (.istore 5, 2) := by decide +kernel
theorem dX7_follow_13 : decode cX7_follow 13 = .ok (.iload 5, 2) := by decide +kernel
theorem dX7_follow_15 : decode cX7_follow 15 = .ok (.aload_n 2, 1) := by decide +kernel
theorem dX7_follow_16 : decode cX7_follow 16 = .ok (.getfield 22, 3) := by decide +kernel
theorem dX7_follow_19 : decode cX7_follow 19 = .ok (.if_icmp .ge 120, 3) := by decide +kernel
theorem dX7_follow_22 : decode cX7_follow 22 = .ok (.iload 5, 2) := by decide +kernel
theorem dX7_follow_24 : decode cX7_follow 24 = .ok (.bipush 60, 2) := by decide +kernel
theorem dX7_follow_26 : decode cX7_follow 26 = .ok (.if_icmp .ge 113, 3) := by decide +kernel
theorem dX7_follow_29 : decode cX7_follow 29 = .ok (.aload_n 0, 1) := by decide +kernel
theorem dX7_follow_30 : decode cX7_follow 30 = .ok (.getfield 28, 3) := by decide +kernel
theorem dX7_follow_33 : decode cX7_follow 33 = .ok (.bipush (-6), 2) := by decide +kernel
theorem dX7_follow_35 : decode cX7_follow 35 = .ok (.if_icmp .ne 104, 3) := by decide +kernel
theorem dX7_follow_38 : decode cX7_follow 38 = .ok (.aload_n 2, 1) := by decide +kernel
theorem dX7_follow_39 : decode cX7_follow 39 = .ok (.getfield 31, 3) := by decide +kernel
theorem dX7_follow_42 : decode cX7_follow 42 = .ok (.iload 5, 2) := by decide +kernel
theorem dX7_follow_44 : decode cX7_follow 44 = .ok (.iaload, 1) := by decide +kernel
theorem dX7_follow_45 : decode cX7_follow 45 = .ok (.istore 6, 2) := by decide +kernel
theorem dX7_follow_47 : decode cX7_follow 47 = .ok (.iload 4, 2) := by decide +kernel
theorem dX7_follow_49 : decode cX7_follow 49 = .ok (.ifCond .eq 21, 3) := by decide +kernel
theorem dX7_follow_52 : decode cX7_follow 52 = .ok (.aload_n 0, 1) := by decide +kernel
theorem dX7_follow_53 : decode cX7_follow 53 = .ok (.iload_n 3, 1) := by decide +kernel
theorem dX7_follow_54 : decode cX7_follow 54 = .ok (.iload 4, 2) := by decide +kernel
theorem dX7_follow_56 : decode cX7_follow 56 = .ok (.iload 6, 2) := by decide +kernel
theorem dX7_follow_58 : decode cX7_follow 58 = .ok (.bipush 48, 2) := by decide +kernel
theorem dX7_follow_60 : decode cX7_follow 60 = .ok (.isub, 1) := by decide +kernel
theorem dX7_follow_61 : decode cX7_follow 61 = .ok (.invokevirtual 35, 3) := by decide +kernel
theorem dX7_follow_64 : decode cX7_follow 64 = .ok (.iconst 0, 1) := by decide +kernel
theorem dX7_follow_65 : decode cX7_follow 65 = .ok (.istore 4, 2) := by decide +kernel
theorem dX7_follow_67 : decode cX7_follow 67 = .ok (.goto 66, 3) := by decide +kernel
theorem dX7_follow_70 : decode cX7_follow 70 = .ok (.iload 6, 2) := by decide +kernel
theorem dX7_follow_72 : decode cX7_follow 72 = .ok (.invokestatic 39, 3) := by decide +kernel
theorem dX7_follow_75 : decode cX7_follow 75 = .ok (.ifCond .eq 12, 3) := by decide +kernel
theorem dX7_follow_78 : decode cX7_follow 78 = .ok (.iload 6, 2) := by decide +kernel
theorem dX7_follow_80 : decode cX7_follow 80 = .ok (.bipush 65, 2) := by decide +kernel
theorem dX7_follow_82 : decode cX7_follow 82 = .ok (.isub, 1) := by decide +kernel
theorem dX7_follow_83 : decode cX7_follow 83 = .ok (.istore_n 3, 1) := by decide +kernel
theorem dX7_follow_84 : decode cX7_follow 84 = .ok (.goto 49, 3) := by decide +kernel
theorem dX7_follow_87 : decode cX7_follow 87 = .ok (.iload 6, 2) := by decide +kernel
theorem dX7_follow_89 : decode cX7_follow 89 = .ok (.invokestatic 43, 3) := by decide +kernel
theorem dX7_follow_92 : decode cX7_follow 92 = .ok (.ifCond .eq 10, 3) := by decide +kernel
theorem dX7_follow_95 : decode cX7_follow 95 = .ok (.iload 6, 2) := by decide +kernel
theorem dX7_follow_97 : decode cX7_follow 97 = .ok (.istore 4, 2) := by decide +kernel
theorem dX7_follow_99 : decode cX7_follow 99 = .ok (.goto 34, 3) := by decide +kernel
theorem dX7_follow_102 : decode cX7_follow 102 = .ok (.iload 6, 2) := by decide +kernel
theorem dX7_follow_104 : decode cX7_follow 104 = .ok (.invokestatic 46, 3) := by decide +kernel
theorem dX7_follow_107 : decode cX7_follow 107 = .ok (.ifCond .eq 18, 3) := by decide +kernel
theorem dX7_follow_110 : decode cX7_follow 110 = .ok (.aload_n 0, 1) := by decide +kernel
theorem dX7_follow_111 : decode cX7_follow 111 = .ok (.iload_n 3, 1) := by decide +kernel
theorem dX7_follow_112 : decode cX7_follow 112 = .ok (.bipush 48, 2) := by decide +kernel
theorem dX7_follow_114 : decode cX7_follow 114 = .ok (.iload 6, 2) := by decide +kernel
theorem dX7_follow_116 : decode cX7_follow 116 = .ok (.bipush 48, 2) := by decide +kernel
theorem dX7_follow_118 : decode cX7_follow 118 = .ok (.isub, 1) := by decide +kernel
theorem dX7_follow_119 : decode cX7_follow 119 = .ok (.invokevirtual 35, 3) := by decide +kernel
theorem dX7_follow_122 : decode cX7_follow 122 = .ok (.goto 11, 3) := by decide +kernel
theorem dX7_follow_125 : decode cX7_follow 125 = .ok (.aload_n 0, 1) := by decide +kernel
theorem dX7_follow_126 : decode cX7_follow 126 = .ok (.iload_n 3, 1) := by decide +kernel
theorem dX7_follow_127 : decode cX7_follow 127 = .ok (.iload 6, 2) := by decide +kernel
theorem dX7_follow_129 : decode cX7_follow 129 = .ok (.iconst 0, 1) := by decide +kernel
theorem dX7_follow_130 : decode cX7_follow 130 = .ok (.invokevirtual 35, 3) := by decide +kernel
theorem dX7_follow_133 : decode cX7_follow 133 = .ok (.iinc 5 1, 3) := by decide +kernel
theorem dX7_follow_136 : decode cX7_follow 136 = .ok (.goto (-123), 3) := by decide +kernel
theorem dX7_follow_139 : decode cX7_follow 139 = .ok (.return_, 1) := by decide +kernel
theorem dX7_draw_0 : decode cX7_draw 0 = .ok (.aload_n 0, 1) := by decide +kernel
theorem dX7_draw_1 : decode cX7_draw 1 = .ok (.aload_n 1, 1) := by decide +kernel
theorem dX7_draw_2 : decode cX7_draw 2 = .ok (.invokevirtual 18, 3) := by decide +kernel
theorem dX7_draw_5 : decode cX7_draw 5 = .ok (.iload_n 2, 1) := by decide +kernel
theorem dX7_draw_6 : decode cX7_draw 6 = .ok (.istore 4, 2) := by decide +kernel
theorem dX7_draw_8 : decode cX7_draw 8 = .ok (.iconst 0, 1) := by decide +kernel
theorem dX7_draw_9 : decode cX7_draw 9 = .ok (.istore 5, 2) := by decide +kernel
theorem dX7_draw_11 : decode cX7_draw 11 = .ok (.iload 5, 2) := by decide +kernel
theorem dX7_draw_13 : decode cX7_draw 13 = .ok (.iload_n 3, 1) := by decide +kernel
theorem dX7_draw_14 : decode cX7_draw 14 = .ok (.if_icmp .ge 87, 3) := by decide +kernel
theorem dX7_draw_17 : decode cX7_draw 17 = .ok (.bipush 75, 2) := by decide +kernel
theorem dX7_draw_19 : decode cX7_draw 19 = .ok (.iload 4, 2) := by decide +kernel
theorem dX7_draw_21 : decode cX7_draw 21 = .ok (.imul, 1) := by decide +kernel
theorem dX7_draw_22 : decode cX7_draw 22 = .ok (.bipush 74, 2) := by decide +kernel
theorem dX7_draw_24 : decode cX7_draw 24 = .ok (.iadd, 1) := by decide +kernel
theorem dX7_draw_25 : decode cX7_draw 25 = .ok (.ldc 49, 2) := by decide +kernel
theorem dX7_draw_27 : decode cX7_draw 27 = .ok (.irem, 1) := by decide +kernel
theorem dX7_draw_28 : decode cX7_draw 28 = .ok (.istore 4, 2) := by decide +kernel
theorem dX7_draw_30 : decode cX7_draw 30 = .ok (.iload 4, 2) := by decide +kernel
theorem dX7_draw_32 : decode cX7_draw 32 = .ok (.bipush 6, 2) := by decide +kernel
theorem dX7_draw_34 : decode cX7_draw 34 = .ok (.idiv, 1) := by decide +kernel
theorem dX7_draw_35 : decode cX7_draw 35 = .ok (.bipush 8, 2) := by decide +kernel
theorem dX7_draw_37 : decode cX7_draw 37 = .ok (.irem, 1) := by decide +kernel
theorem dX7_draw_38 : decode cX7_draw 38 = .ok (.iload 4, 2) := by decide +kernel
theorem dX7_draw_40 : decode cX7_draw 40 = .ok (.bipush 48, 2) := by decide +kernel
theorem dX7_draw_42 : decode cX7_draw 42 = .ok (.idiv, 1) := by decide +kernel
theorem dX7_draw_43 : decode cX7_draw 43 = .ok (.invokestatic 50, 3) := by decide +kernel
theorem dX7_draw_46 : decode cX7_draw 46 = .ok (.istore 6, 2) := by decide +kernel
theorem dX7_draw_48 : decode cX7_draw 48 = .ok (.iload 4, 2) := by decide +kernel
theorem dX7_draw_50 : decode cX7_draw 50 = .ok (.bipush 48, 2) := by decide +kernel
theorem dX7_draw_52 : decode cX7_draw 52 = .ok (.idiv, 1) := by decide +kernel
theorem dX7_draw_53 : decode cX7_draw 53 = .ok (.bipush 9, 2) := by decide +kernel
theorem dX7_draw_55 : decode cX7_draw 55 = .ok (.irem, 1) := by decide +kernel
theorem dX7_draw_56 : decode cX7_draw 56 = .ok (.iconst 1, 1) := by decide +kernel
theorem dX7_draw_57 : decode cX7_draw 57 = .ok (.iadd, 1) := by decide +kernel
theorem dX7_draw_58 : decode cX7_draw 58 = .ok (.istore 7, 2) := by decide +kernel
theorem dX7_draw_60 : decode cX7_draw 60 = .ok (.aload_n 0, 1) := by decide +kernel
theorem dX7_draw_61 : decode cX7_draw 61 = .ok (.getfield 12, 3) := by decide +kernel
theorem dX7_draw_64 : decode cX7_draw 64 = .ok (.iload 4, 2) := by decide +kernel
theorem dX7_draw_66 : decode cX7_draw 66 = .ok (.bipush 6, 2) := by decide +kernel
theorem dX7_draw_68 : decode cX7_draw 68 = .ok (.irem, 1) := by decide +kernel
theorem dX7_draw_69 : decode cX7_draw 69 = .ok (.iload 6, 2) := by decide +kernel
theorem dX7_draw_71 : decode cX7_draw 71 = .ok (.iload 7, 2) := by decide +kernel
theorem dX7_draw_73 : decode cX7_draw 73 = .ok (.invokevirtual 54, 3) := by decide +kernel
theorem dX7_draw_76 : decode cX7_draw 76 = .ok (.ifCond .ne 19, 3) := by decide +kernel
theorem dX7_draw_79 : decode cX7_draw 79 = .ok (.aload_n 0, 1) := by decide +kernel
theorem dX7_draw_80 : decode cX7_draw 80 = .ok (.getfield 12, 3) := by decide +kernel
theorem dX7_draw_83 : decode cX7_draw 83 = .ok (.iload 4, 2) := by decide +kernel
theorem dX7_draw_85 : decode cX7_draw 85 = .ok (.bipush 6, 2) := by decide +kernel
theorem dX7_draw_87 : decode cX7_draw 87 = .ok (.irem, 1) := by decide +kernel
theorem dX7_draw_88 : decode cX7_draw 88 = .ok (.iload 6, 2) := by decide +kernel
theorem dX7_draw_90 : decode cX7_draw 90 = .ok (.iload 7, 2) := by decide +kernel
theorem dX7_draw_92 : decode cX7_draw 92 = .ok (.invokevirtual 58, 3) := by decide +kernel
theorem dX7_draw_95 : decode cX7_draw 95 = .ok (.iinc 5 1, 3) := by decide +kernel
theorem dX7_draw_98 : decode cX7_draw 98 = .ok (.goto (-87), 3) := by decide +kernel
theorem dX7_draw_101 : decode cX7_draw 101 = .ok (.return_, 1) := by decide +kernel
theorem dX7_drawnKind_0 : decode cX7_drawnKind 0 = .ok (.iload_n 0, 1) := by decide +kernel
theorem dX7_drawnKind_1 : decode cX7_drawnKind 1 = .ok (.tableswitch 61 0 6 #[43, 43, 46, 49, 52, 55, 58], 43) := by decide +kernel
theorem dX7_drawnKind_44 : decode cX7_drawnKind 44 = .ok (.bipush 62, 2) := by decide +kernel
theorem dX7_drawnKind_46 : decode cX7_drawnKind 46 = .ok (.ireturn, 1) := by decide +kernel
theorem dX7_drawnKind_47 : decode cX7_drawnKind 47 = .ok (.bipush 60, 2) := by decide +kernel
theorem dX7_drawnKind_49 : decode cX7_drawnKind 49 = .ok (.ireturn, 1) := by decide +kernel
theorem dX7_drawnKind_50 : decode cX7_drawnKind 50 = .ok (.bipush 63, 2) := by decide +kernel
theorem dX7_drawnKind_52 : decode cX7_drawnKind 52 = .ok (.ireturn, 1) := by decide +kernel
theorem dX7_drawnKind_53 : decode cX7_drawnKind 53 = .ok (.bipush 42, 2) := by decide +kernel
theorem dX7_drawnKind_55 : decode cX7_drawnKind 55 = .ok (.ireturn, 1) := by decide +kernel
theorem dX7_drawnKind_56 : decode cX7_drawnKind 56 = .ok (.bipush 48, 2) := by decide +kernel
theorem dX7_drawnKind_58 : decode cX7_drawnKind 58 = .ok (.ireturn, 1) := by decide +kernel
theorem dX7_drawnKind_59 : decode cX7_drawnKind 59 = .ok (.bipush 126, 2) := by decide +kernel
theorem dX7_drawnKind_61 : decode cX7_drawnKind 61 = .ok (.ireturn, 1) := by decide +kernel
theorem dX7_drawnKind_62 : decode cX7_drawnKind 62 = .ok (.iload_n 1, 1) := by decide +kernel
theorem dX7_drawnKind_63 : decode cX7_drawnKind 63 = .ok (.bipush 8, 2) := by decide +kernel
theorem dX7_drawnKind_65 : decode cX7_drawnKind 65 = .ok (.irem, 1) := by decide +kernel
theorem dX7_drawnKind_66 : decode cX7_drawnKind 66 = .ok (.ifCond .ne 8, 3) := by decide +kernel
theorem dX7_drawnKind_69 : decode cX7_drawnKind 69 = .ok (.bipush 33, 2) := by decide +kernel
theorem dX7_drawnKind_71 : decode cX7_drawnKind 71 = .ok (.goto 5, 3) := by decide +kernel
theorem dX7_drawnKind_74 : decode cX7_drawnKind 74 = .ok (.bipush 46, 2) := by decide +kernel
theorem dX7_drawnKind_76 : decode cX7_drawnKind 76 = .ok (.ireturn, 1) := by decide +kernel
theorem dX7_begin_0 : decode cX7_begin 0 = .ok (.aload_n 0, 1) := by decide +kernel
theorem dX7_begin_1 : decode cX7_begin 1 = .ok (.getfield 12, 3) := by decide +kernel
theorem dX7_begin_4 : decode cX7_begin 4 = .ok (.aload_n 1, 1) := by decide +kernel
theorem dX7_begin_5 : decode cX7_begin 5 = .ok (.invokevirtual 61, 3) := by decide +kernel
theorem dX7_begin_8 : decode cX7_begin 8 = .ok (.aload_n 0, 1) := by decide +kernel
theorem dX7_begin_9 : decode cX7_begin 9 = .ok (.iconst 0, 1) := by decide +kernel
theorem dX7_begin_10 : decode cX7_begin 10 = .ok (.putfield 64, 3) := by decide +kernel
theorem dX7_begin_13 : decode cX7_begin 13 = .ok (.aload_n 0, 1) := by decide +kernel
theorem dX7_begin_14 : decode cX7_begin 14 = .ok (.bipush (-6), 2) := by decide +kernel
theorem dX7_begin_16 : decode cX7_begin 16 = .ok (.putfield 28, 3) := by decide +kernel
theorem dX7_begin_19 : decode cX7_begin 19 = .ok (.aload_n 0, 1) := by decide +kernel
theorem dX7_begin_20 : decode cX7_begin 20 = .ok (.bipush (-6), 2) := by decide +kernel
theorem dX7_begin_22 : decode cX7_begin 22 = .ok (.putfield 67, 3) := by decide +kernel
theorem dX7_begin_25 : decode cX7_begin 25 = .ok (.aload_n 0, 1) := by decide +kernel
theorem dX7_begin_26 : decode cX7_begin 26 = .ok (.iconst 0, 1) := by decide +kernel
theorem dX7_begin_27 : decode cX7_begin 27 = .ok (.putfield 70, 3) := by decide +kernel
