theorem dX9_isChosen_36 : decode cX9_isChosen 36 = .ok (.iload_n 2, 1) := by decide +kernel
theorem dX9_isChosen_37 : decode cX9_isChosen 37 = .ok (.ireturn, 1) := by decide +kernel
theorem dX9_whyNot_0 : decode cX9_whyNot 0 = .ok (.iload_n 1, 1) := by decide +kernel
theorem dX9_whyNot_1 : decode cX9_whyNot 1 = .ok (.bipush 7, 2) := by decide +kernel
theorem dX9_whyNot_3 : decode cX9_whyNot 3 = .ok (.if_icmp .ne 18, 3) := by decide +kernel
theorem dX9_whyNot_6 : decode cX9_whyNot 6 = .ok (.aload_n 0, 1) := by decide +kernel
theorem dX9_whyNot_7 : decode cX9_whyNot 7 = .ok (.getfield 129, 3) := by decide +kernel
theorem dX9_whyNot_10 : decode cX9_whyNot 10 = .ok (.bipush 60, 2) := by decide +kernel
theorem dX9_whyNot_12 : decode cX9_whyNot 12 = .ok (.if_icmp .ne 7, 3) := by decide +kernel
theorem dX9_whyNot_15 : decode cX9_whyNot 15 = .ok (.iconst 5, 1) := by decide +kernel
theorem dX9_whyNot_16 : decode cX9_whyNot 16 = .ok (.goto 4, 3) := by decide +kernel
theorem dX9_whyNot_19 : decode cX9_whyNot 19 = .ok (.iconst 0, 1) := by decide +kernel
theorem dX9_whyNot_20 : decode cX9_whyNot 20 = .ok (.ireturn, 1) := by decide +kernel
theorem dX9_whyNot_21 : decode cX9_whyNot 21 = .ok (.aload_n 0, 1) := by decide +kernel
theorem dX9_whyNot_22 : decode cX9_whyNot 22 = .ok (.getfield 28, 3) := by decide +kernel
theorem dX9_whyNot_25 : decode cX9_whyNot 25 = .ok (.iload_n 2, 1) := by decide +kernel
theorem dX9_whyNot_26 : decode cX9_whyNot 26 = .ok (.iaload, 1) := by decide +kernel
theorem dX9_whyNot_27 : decode cX9_whyNot 27 = .ok (.ifCond .lt 5, 3) := by decide +kernel
theorem dX9_whyNot_30 : decode cX9_whyNot 30 = .ok (.iconst 1, 1) := by decide +kernel
theorem dX9_whyNot_31 : decode cX9_whyNot 31 = .ok (.ireturn, 1) := by decide +kernel
theorem dX9_whyNot_32 : decode cX9_whyNot 32 = .ok (.iload_n 1, 1) := by decide +kernel
theorem dX9_whyNot_33 : decode cX9_whyNot 33 = .ok (.tableswitch 143 0 6 #[43, 63, 143, 143, 83, 104, 124], 43) := by decide +kernel
theorem dX9_whyNot_76 : decode cX9_whyNot 76 = .ok (.aload_n 0, 1) := by decide +kernel
theorem dX9_whyNot_77 : decode cX9_whyNot 77 = .ok (.getfield 19, 3) := by decide +kernel
theorem dX9_whyNot_80 : decode cX9_whyNot 80 = .ok (.iload_n 2, 1) := by decide +kernel
theorem dX9_whyNot_81 : decode cX9_whyNot 81 = .ok (.iaload, 1) := by decide +kernel
theorem dX9_whyNot_82 : decode cX9_whyNot 82 = .ok (.iload_n 3, 1) := by decide +kernel
theorem dX9_whyNot_83 : decode cX9_whyNot 83 = .ok (.iadd, 1) := by decide +kernel
theorem dX9_whyNot_84 : decode cX9_whyNot 84 = .ok (.invokestatic 82, 3) := by decide +kernel
theorem dX9_whyNot_87 : decode cX9_whyNot 87 = .ok (.ifCond .eq 7, 3) := by decide +kernel
theorem dX9_whyNot_90 : decode cX9_whyNot 90 = .ok (.iconst 0, 1) := by decide +kernel
theorem dX9_whyNot_91 : decode cX9_whyNot 91 = .ok (.goto 4, 3) := by decide +kernel
theorem dX9_whyNot_94 : decode cX9_whyNot 94 = .ok (.iconst 2, 1) := by decide +kernel
theorem dX9_whyNot_95 : decode cX9_whyNot 95 = .ok (.ireturn, 1) := by decide +kernel
theorem dX9_whyNot_96 : decode cX9_whyNot 96 = .ok (.aload_n 0, 1) := by decide +kernel
theorem dX9_whyNot_97 : decode cX9_whyNot 97 = .ok (.getfield 19, 3) := by decide +kernel
theorem dX9_whyNot_100 : decode cX9_whyNot 100 = .ok (.iload_n 2, 1) := by decide +kernel
theorem dX9_whyNot_101 : decode cX9_whyNot 101 = .ok (.iaload, 1) := by decide +kernel
theorem dX9_whyNot_102 : decode cX9_whyNot 102 = .ok (.iload_n 3, 1) := by decide +kernel
theorem dX9_whyNot_103 : decode cX9_whyNot 103 = .ok (.isub, 1) := by decide +kernel
theorem dX9_whyNot_104 : decode cX9_whyNot 104 = .ok (.invokestatic 82, 3) := by decide +kernel
theorem dX9_whyNot_107 : decode cX9_whyNot 107 = .ok (.ifCond .eq 7, 3) := by decide +kernel
theorem dX9_whyNot_110 : decode cX9_whyNot 110 = .ok (.iconst 0, 1) := by decide +kernel
theorem dX9_whyNot_111 : decode cX9_whyNot 111 = .ok (.goto 4, 3) := by decide +kernel
theorem dX9_whyNot_114 : decode cX9_whyNot 114 = .ok (.iconst 2, 1) := by decide +kernel
theorem dX9_whyNot_115 : decode cX9_whyNot 115 = .ok (.ireturn, 1) := by decide +kernel
theorem dX9_whyNot_116 : decode cX9_whyNot 116 = .ok (.aload_n 0, 1) := by decide +kernel
theorem dX9_whyNot_117 : decode cX9_whyNot 117 = .ok (.getfield 7, 3) := by decide +kernel
theorem dX9_whyNot_120 : decode cX9_whyNot 120 = .ok (.aload_n 0, 1) := by decide +kernel
theorem dX9_whyNot_121 : decode cX9_whyNot 121 = .ok (.getfield 19, 3) := by decide +kernel
theorem dX9_whyNot_124 : decode cX9_whyNot 124 = .ok (.iload_n 2, 1) := by decide +kernel
theorem dX9_whyNot_125 : decode cX9_whyNot 125 = .ok (.iaload, 1) := by decide +kernel
theorem dX9_whyNot_126 : decode cX9_whyNot 126 = .ok (.iaload, 1) := by decide +kernel
theorem dX9_whyNot_127 : decode cX9_whyNot 127 = .ok (.iload_n 3, 1) := by decide +kernel
theorem dX9_whyNot_128 : decode cX9_whyNot 128 = .ok (.if_icmp .ne 7, 3) := by decide +kernel
theorem dX9_whyNot_131 : decode cX9_whyNot 131 = .ok (.iconst 3, 1) := by decide +kernel
theorem dX9_whyNot_132 : decode cX9_whyNot 132 = .ok (.goto 4, 3) := by decide +kernel
theorem dX9_whyNot_135 : decode cX9_whyNot 135 = .ok (.iconst 0, 1) := by decide +kernel
theorem dX9_whyNot_136 : decode cX9_whyNot 136 = .ok (.ireturn, 1) := by decide +kernel
theorem dX9_whyNot_137 : decode cX9_whyNot 137 = .ok (.aload_n 0, 1) := by decide +kernel
theorem dX9_whyNot_138 : decode cX9_whyNot 138 = .ok (.getfield 19, 3) := by decide +kernel
theorem dX9_whyNot_141 : decode cX9_whyNot 141 = .ok (.iload_n 2, 1) := by decide +kernel
theorem dX9_whyNot_142 : decode cX9_whyNot 142 = .ok (.iaload, 1) := by decide +kernel
theorem dX9_whyNot_143 : decode cX9_whyNot 143 = .ok (.iconst 1, 1) := by decide +kernel
theorem dX9_whyNot_144 : decode cX9_whyNot 144 = .ok (.iadd, 1) := by decide +kernel
theorem dX9_whyNot_145 : decode cX9_whyNot 145 = .ok (.invokestatic 82, 3) := by decide +kernel
theorem dX9_whyNot_148 : decode cX9_whyNot 148 = .ok (.ifCond .eq 7, 3) := by decide +kernel
theorem dX9_whyNot_151 : decode cX9_whyNot 151 = .ok (.iconst 0, 1) := by decide +kernel
theorem dX9_whyNot_152 : decode cX9_whyNot 152 = .ok (.goto 4, 3) := by decide +kernel
theorem dX9_whyNot_155 : decode cX9_whyNot 155 = .ok (.iconst 2, 1) := by decide +kernel
theorem dX9_whyNot_156 : decode cX9_whyNot 156 = .ok (.ireturn, 1) := by decide +kernel
theorem dX9_whyNot_157 : decode cX9_whyNot 157 = .ok (.aload_n 0, 1) := by decide +kernel
theorem dX9_whyNot_158 : decode cX9_whyNot 158 = .ok (.aload_n 0, 1) := by decide +kernel
theorem dX9_whyNot_159 : decode cX9_whyNot 159 = .ok (.getfield 19, 3) := by decide +kernel
theorem dX9_whyNot_162 : decode cX9_whyNot 162 = .ok (.iload_n 2, 1) := by decide +kernel
theorem dX9_whyNot_163 : decode cX9_whyNot 163 = .ok (.iaload, 1) := by decide +kernel
theorem dX9_whyNot_164 : decode cX9_whyNot 164 = .ok (.invokevirtual 132, 3) := by decide +kernel
theorem dX9_whyNot_167 : decode cX9_whyNot 167 = .ok (.ifCond .eq 7, 3) := by decide +kernel
theorem dX9_whyNot_170 : decode cX9_whyNot 170 = .ok (.iconst 4, 1) := by decide +kernel
theorem dX9_whyNot_171 : decode cX9_whyNot 171 = .ok (.goto 4, 3) := by decide +kernel
theorem dX9_whyNot_174 : decode cX9_whyNot 174 = .ok (.iconst 0, 1) := by decide +kernel
theorem dX9_whyNot_175 : decode cX9_whyNot 175 = .ok (.ireturn, 1) := by decide +kernel
theorem dX9_whyNot_176 : decode cX9_whyNot 176 = .ok (.iconst 0, 1) := by decide +kernel
theorem dX9_whyNot_177 : decode cX9_whyNot 177 = .ok (.ireturn, 1) := by decide +kernel
theorem dX9_listen_0 : decode cX9_listen 0 = .ok (.aload_n 0, 1) := by decide +kernel
theorem dX9_listen_1 : decode cX9_listen 1 = .ok (.getfield 7, 3) := by decide +kernel
theorem dX9_listen_4 : decode cX9_listen 4 = .ok (.aload_n 0, 1) := by decide +kernel
theorem dX9_listen_5 : decode cX9_listen 5 = .ok (.getfield 19, 3) := by decide +kernel
theorem dX9_listen_8 : decode cX9_listen 8 = .ok (.iload_n 1, 1) := by decide +kernel
theorem dX9_listen_9 : decode cX9_listen 9 = .ok (.iaload, 1) := by decide +kernel
theorem dX9_listen_10 : decode cX9_listen 10 = .ok (.iaload, 1) := by decide +kernel
theorem dX9_listen_11 : decode cX9_listen 11 = .ok (.aload_n 0, 1) := by decide +kernel
theorem dX9_listen_12 : decode cX9_listen 12 = .ok (.getfield 22, 3) := by decide +kernel
theorem dX9_listen_15 : decode cX9_listen 15 = .ok (.iload_n 1, 1) := by decide +kernel
theorem dX9_listen_16 : decode cX9_listen 16 = .ok (.iaload, 1) := by decide +kernel
theorem dX9_listen_17 : decode cX9_listen 17 = .ok (.if_icmp .ne 32, 3) := by decide +kernel
theorem dX9_listen_20 : decode cX9_listen 20 = .ok (.aload_n 0, 1) := by decide +kernel
theorem dX9_listen_21 : decode cX9_listen 21 = .ok (.dup, 1) := by decide +kernel
theorem dX9_listen_22 : decode cX9_listen 22 = .ok (.getfield 135, 3) := by decide +kernel
theorem dX9_listen_25 : decode cX9_listen 25 = .ok (.iconst 1, 1) := by decide +kernel
theorem dX9_listen_26 : decode cX9_listen 26 = .ok (.iadd, 1) := by decide +kernel
theorem dX9_listen_27 : decode cX9_listen 27 = .ok (.putfield 135, 3) := by decide +kernel
theorem dX9_listen_30 : decode cX9_listen 30 = .ok (.aload_n 0, 1) := by decide +kernel
theorem dX9_listen_31 : decode cX9_listen 31 = .ok (.getfield 25, 3) := by decide +kernel
theorem dX9_listen_34 : decode cX9_listen 34 = .ok (.iload_n 1, 1) := by decide +kernel
theorem dX9_listen_35 : decode cX9_listen 35 = .ok (.bipush 99, 2) := by decide +kernel
theorem dX9_listen_37 : decode cX9_listen 37 = .ok (.aload_n 0, 1) := by decide +kernel
theorem dX9_listen_38 : decode cX9_listen 38 = .ok (.getfield 25, 3) := by decide +kernel
theorem dX9_listen_41 : decode cX9_listen 41 = .ok (.iload_n 1, 1) := by decide +kernel
theorem dX9_listen_42 : decode cX9_listen 42 = .ok (.iaload, 1) := by decide +kernel
theorem dX9_listen_43 : decode cX9_listen 43 = .ok (.iconst 1, 1) := by decide +kernel
theorem dX9_listen_44 : decode cX9_listen 44 = .ok (.iadd, 1) := by decide +kernel
theorem dX9_listen_45 : decode cX9_listen 45 = .ok (.invokestatic 138, 3) := by decide +kernel
theorem dX9_listen_48 : decode cX9_listen 48 = .ok (.iastore, 1) := by decide +kernel
theorem dX9_listen_49 : decode cX9_listen 49 = .ok (.return_, 1) := by decide +kernel
theorem dX9_swap_0 : decode cX9_swap 0 = .ok (.aload_n 0, 1) := by decide +kernel
theorem dX9_swap_1 : decode cX9_swap 1 = .ok (.getfield 7, 3) := by decide +kernel
theorem dX9_swap_4 : decode cX9_swap 4 = .ok (.iload_n 1, 1) := by decide +kernel
theorem dX9_swap_5 : decode cX9_swap 5 = .ok (.iaload, 1) := by decide +kernel
theorem dX9_swap_6 : decode cX9_swap 6 = .ok (.istore_n 2, 1) := by decide +kernel
theorem dX9_swap_7 : decode cX9_swap 7 = .ok (.aload_n 0, 1) := by decide +kernel
theorem dX9_swap_8 : decode cX9_swap 8 = .ok (.getfield 13, 3) := by decide +kernel
theorem dX9_swap_11 : decode cX9_swap 11 = .ok (.iload_n 1, 1) := by decide +kernel
theorem dX9_swap_12 : decode cX9_swap 12 = .ok (.iaload, 1) := by decide +kernel
theorem dX9_swap_13 : decode cX9_swap 13 = .ok (.istore_n 3, 1) := by decide +kernel
theorem dX9_swap_14 : decode cX9_swap 14 = .ok (.aload_n 0, 1) := by decide +kernel
theorem dX9_swap_15 : decode cX9_swap 15 = .ok (.getfield 16, 3) := by decide +kernel
theorem dX9_swap_18 : decode cX9_swap 18 = .ok (.iload_n 1, 1) := by decide +kernel
theorem dX9_swap_19 : decode cX9_swap 19 = .ok (.iaload, 1) := by decide +kernel
theorem dX9_swap_20 : decode cX9_swap 20 = .ok (.istore 4, 2) := by decide +kernel
theorem dX9_swap_22 : decode cX9_swap 22 = .ok (.aload_n 0, 1) := by decide +kernel
theorem dX9_swap_23 : decode cX9_swap 23 = .ok (.getfield 7, 3) := by decide +kernel
theorem dX9_swap_26 : decode cX9_swap 26 = .ok (.iload_n 1, 1) := by decide +kernel
theorem dX9_swap_27 : decode cX9_swap 27 = .ok (.aload_n 0, 1) := by decide +kernel
theorem dX9_swap_28 : decode cX9_swap 28 = .ok (.getfield 7, 3) := by decide +kernel
theorem dX9_swap_31 : decode cX9_swap 31 = .ok (.iload_n 1, 1) := by decide +kernel
theorem dX9_swap_32 : decode cX9_swap 32 = .ok (.iconst 1, 1) := by decide +kernel
theorem dX9_swap_33 : decode cX9_swap 33 = .ok (.iadd, 1) := by decide +kernel
theorem dX9_swap_34 : decode cX9_swap 34 = .ok (.iaload, 1) := by decide +kernel
theorem dX9_swap_35 : decode cX9_swap 35 = .ok (.iastore, 1) := by decide +kernel
theorem dX9_swap_36 : decode cX9_swap 36 = .ok (.aload_n 0, 1) := by decide +kernel
theorem dX9_swap_37 : decode cX9_swap 37 = .ok (.getfield 13, 3) := by decide +kernel
theorem dX9_swap_40 : decode cX9_swap 40 = .ok (.iload_n 1, 1) := by decide +kernel
theorem dX9_swap_41 : decode cX9_swap 41 = .ok (.aload_n 0, 1) := by decide +kernel
theorem dX9_swap_42 : decode cX9_swap 42 = .ok (.getfield 13, 3) := by decide +kernel
theorem dX9_swap_45 : decode cX9_swap 45 = .ok (.iload_n 1, 1) := by decide +kernel
theorem dX9_swap_46 : decode cX9_swap 46 = .ok (.iconst 1, 1) := by decide +kernel
theorem dX9_swap_47 : decode cX9_swap 47 = .ok (.iadd, 1) := by decide +kernel
theorem dX9_swap_48 : decode cX9_swap 48 = .ok (.iaload, 1) := by decide +kernel
theorem dX9_swap_49 : decode cX9_swap 49 = .ok (.iastore, 1) := by decide +kernel
theorem dX9_swap_50 : decode cX9_swap 50 = .ok (.aload_n 0, 1) := by decide +kernel
theorem dX9_swap_51 : decode cX9_swap 51 = .ok (.getfield 16, 3) := by decide +kernel
theorem dX9_swap_54 : decode cX9_swap 54 = .ok (.iload_n 1, 1) := by decide +kernel
theorem dX9_swap_55 : decode cX9_swap 55 = .ok (.aload_n 0, 1) := by decide +kernel
theorem dX9_swap_56 : decode cX9_swap 56 = .ok (.getfield 16, 3) := by decide +kernel
theorem dX9_swap_59 : decode cX9_swap 59 = .ok (.iload_n 1, 1) := by decide +kernel
theorem dX9_swap_60 : decode cX9_swap 60 = .ok (.iconst 1, 1) := by decide +kernel
theorem dX9_swap_61 : decode cX9_swap 61 = .ok (.iadd, 1) := by decide +kernel
theorem dX9_swap_62 : decode cX9_swap 62 = .ok (.iaload, 1) := by decide +kernel
theorem dX9_swap_63 : decode cX9_swap 63 = .ok (.iastore, 1) := by decide +kernel
theorem dX9_swap_64 : decode cX9_swap 64 = .ok (.aload_n 0, 1) := by decide +kernel
theorem dX9_swap_65 : decode cX9_swap 65 = .ok (.getfield 7, 3) := by decide +kernel
theorem dX9_swap_68 : decode cX9_swap 68 = .ok (.iload_n 1, 1) := by decide +kernel
theorem dX9_swap_69 : decode cX9_swap 69 = .ok (.iconst 1, 1) := by decide +kernel
theorem dX9_swap_70 : decode cX9_swap 70 = .ok (.iadd, 1) := by decide +kernel
theorem dX9_swap_71 : decode cX9_swap 71 = .ok (.iload_n 2, 1) := by decide +kernel
theorem dX9_swap_72 : decode cX9_swap 72 = .ok (.iastore, 1) := by decide +kernel
theorem dX9_swap_73 : decode cX9_swap 73 = .ok (.aload_n 0, 1) := by decide +kernel
theorem dX9_swap_74 : decode cX9_swap 74 = .ok (.getfield 13, 3) := by decide +kernel
theorem dX9_swap_77 : decode cX9_swap 77 = .ok (.iload_n 1, 1) := by decide +kernel
theorem dX9_swap_78 : decode cX9_swap 78 = .ok (.iconst 1, 1) := by decide +kernel
theorem dX9_swap_79 : decode cX9_swap 79 = .ok (.iadd, 1) := by decide +kernel
theorem dX9_swap_80 : decode cX9_swap 80 = .ok (.iload_n 3, 1) := by decide +kernel
theorem dX9_swap_81 : decode cX9_swap 81 = .ok (.iastore, 1) := by decide +kernel
theorem dX9_swap_82 : decode cX9_swap 82 = .ok (.aload_n 0, 1) := by decide +kernel
theorem dX9_swap_83 : decode cX9_swap 83 = .ok (.getfield 16, 3) := by decide +kernel
theorem dX9_swap_86 : decode cX9_swap 86 = .ok (.iload_n 1, 1) := by decide +kernel
theorem dX9_swap_87 : decode cX9_swap 87 = .ok (.iconst 1, 1) := by decide +kernel
theorem dX9_swap_88 : decode cX9_swap 88 = .ok (.iadd, 1) := by decide +kernel
theorem dX9_swap_89 : decode cX9_swap 89 = .ok (.iload 4, 2) := by decide +kernel
theorem dX9_swap_91 : decode cX9_swap 91 = .ok (.iastore, 1) := by decide +kernel
theorem dX9_swap_92 : decode cX9_swap 92 = .ok (.return_, 1) := by decide +kernel
theorem dX9_choose_0 : decode cX9_choose 0 = .ok (.aload_n 0, 1) := by decide +kernel
theorem dX9_choose_1 : decode cX9_choose 1 = .ok (.getfield 28, 3) := by decide +kernel
theorem dX9_choose_4 : decode cX9_choose 4 = .ok (.iload_n 1, 1) := by decide +kernel
theorem dX9_choose_5 : decode cX9_choose 5 = .ok (.aload_n 0, 1) := by decide +kernel
theorem dX9_choose_6 : decode cX9_choose 6 = .ok (.getfield 19, 3) := by decide +kernel
theorem dX9_choose_9 : decode cX9_choose 9 = .ok (.iload_n 1, 1) := by decide +kernel
theorem dX9_choose_10 : decode cX9_choose 10 = .ok (.iaload, 1) := by decide +kernel
theorem dX9_choose_11 : decode cX9_choose 11 = .ok (.iastore, 1) := by decide +kernel
theorem dX9_choose_12 : decode cX9_choose 12 = .ok (.aload_n 0, 1) := by decide +kernel
theorem dX9_choose_13 : decode cX9_choose 13 = .ok (.aload_n 0, 1) := by decide +kernel
theorem dX9_choose_14 : decode cX9_choose 14 = .ok (.getfield 16, 3) := by decide +kernel
theorem dX9_choose_17 : decode cX9_choose 17 = .ok (.aload_n 0, 1) := by decide +kernel
theorem dX9_choose_18 : decode cX9_choose 18 = .ok (.getfield 19, 3) := by decide +kernel
theorem dX9_choose_21 : decode cX9_choose 21 = .ok (.iload_n 1, 1) := by decide +kernel
theorem dX9_choose_22 : decode cX9_choose 22 = .ok (.iaload, 1) := by decide +kernel
theorem dX9_choose_23 : decode cX9_choose 23 = .ok (.iaload, 1) := by decide +kernel
theorem dX9_choose_24 : decode cX9_choose 24 = .ok (.iload_n 1, 1) := by decide +kernel
theorem dX9_choose_25 : decode cX9_choose 25 = .ok (.if_icmp .ne 8, 3) := by decide +kernel
theorem dX9_choose_28 : decode cX9_choose 28 = .ok (.bipush (-6), 2) := by decide +kernel
theorem dX9_choose_30 : decode cX9_choose 30 = .ok (.goto 4, 3) := by decide +kernel
theorem dX9_choose_33 : decode cX9_choose 33 = .ok (.iload_n 1, 1) := by decide +kernel
theorem dX9_choose_34 : decode cX9_choose 34 = .ok (.putfield 141, 3) := by decide +kernel
theorem dX9_choose_37 : decode cX9_choose 37 = .ok (.return_, 1) := by decide +kernel
theorem dX9_passMinute_0 : decode cX9_passMinute 0 = .ok (.iconst 0, 1) := by decide +kernel
theorem dX9_passMinute_1 : decode cX9_passMinute 1 = .ok (.istore_n 1, 1) := by decide +kernel
theorem dX9_passMinute_2 : decode cX9_passMinute 2 = .ok (.iload_n 1, 1) := by decide +kernel
theorem dX9_passMinute_3 : decode cX9_passMinute 3 = .ok (.bipush 6, 2) := by decide +kernel
theorem dX9_passMinute_5 : decode cX9_passMinute 5 = .ok (.if_icmp .ge 68, 3) := by decide +kernel
theorem dX9_passMinute_8 : decode cX9_passMinute 8 = .ok (.aload_n 0, 1) := by decide +kernel
theorem dX9_passMinute_9 : decode cX9_passMinute 9 = .ok (.getfield 28, 3) := by decide +kernel
theorem dX9_passMinute_12 : decode cX9_passMinute 12 = .ok (.iload_n 1, 1) := by decide +kernel
theorem dX9_passMinute_13 : decode cX9_passMinute 13 = .ok (.iaload, 1) := by decide +kernel
theorem dX9_passMinute_14 : decode cX9_passMinute 14 = .ok (.ifCond .ge 33, 3) := by decide +kernel
theorem dX9_passMinute_17 : decode cX9_passMinute 17 = .ok (.aload_n 0, 1) := by decide +kernel
theorem dX9_passMinute_18 : decode cX9_passMinute 18 = .ok (.getfield 13, 3) := by decide +kernel
theorem dX9_passMinute_21 : decode cX9_passMinute 21 = .ok (.aload_n 0, 1) := by decide +kernel
theorem dX9_passMinute_22 : decode cX9_passMinute 22 = .ok (.getfield 19, 3) := by decide +kernel
theorem dX9_passMinute_25 : decode cX9_passMinute 25 = .ok (.iload_n 1, 1) := by decide +kernel
theorem dX9_passMinute_26 : decode cX9_passMinute 26 = .ok (.iaload, 1) := by decide +kernel
theorem dX9_passMinute_27 : decode cX9_passMinute 27 = .ok (.iaload, 1) := by decide +kernel
theorem dX9_passMinute_28 : decode cX9_passMinute 28 = .ok (.iconst 1, 1) := by decide +kernel
theorem dX9_passMinute_29 : decode cX9_passMinute 29 = .ok (.if_icmp .ne 18, 3) := by decide +kernel
theorem dX9_passMinute_32 : decode cX9_passMinute 32 = .ok (.aload_n 0, 1) := by decide +kernel
theorem dX9_passMinute_33 : decode cX9_passMinute 33 = .ok (.getfield 19, 3) := by decide +kernel
theorem dX9_passMinute_36 : decode cX9_passMinute 36 = .ok (.iload_n 1, 1) := by decide +kernel
theorem dX9_passMinute_37 : decode cX9_passMinute 37 = .ok (.iaload, 1) := by decide +kernel
theorem dX9_passMinute_38 : decode cX9_passMinute 38 = .ok (.bipush 39, 2) := by decide +kernel
theorem dX9_passMinute_40 : decode cX9_passMinute 40 = .ok (.if_icmp .ge 7, 3) := by decide +kernel
theorem dX9_passMinute_43 : decode cX9_passMinute 43 = .ok (.iconst 1, 1) := by decide +kernel
theorem dX9_passMinute_44 : decode cX9_passMinute 44 = .ok (.goto 4, 3) := by decide +kernel
theorem dX9_passMinute_47 : decode cX9_passMinute 47 = .ok (.iconst 0, 1) := by decide +kernel
theorem dX9_passMinute_48 : decode cX9_passMinute 48 = .ok (.istore_n 2, 1) := by decide +kernel
theorem dX9_passMinute_49 : decode cX9_passMinute 49 = .ok (.aload_n 0, 1) := by decide +kernel
theorem dX9_passMinute_50 : decode cX9_passMinute 50 = .ok (.getfield 19, 3) := by decide +kernel
theorem dX9_passMinute_53 : decode cX9_passMinute 53 = .ok (.iload_n 1, 1) := by decide +kernel
theorem dX9_passMinute_54 : decode cX9_passMinute 54 = .ok (.dup2, 1) := by decide +kernel
theorem dX9_passMinute_55 : decode cX9_passMinute 55 = .ok (.iaload, 1) := by decide +kernel
theorem dX9_passMinute_56 : decode cX9_passMinute 56 = .ok (.iload_n 2, 1) := by decide +kernel
theorem dX9_passMinute_57 : decode cX9_passMinute 57 = .ok (.ifCond .eq 7, 3) := by decide +kernel
theorem dX9_passMinute_60 : decode cX9_passMinute 60 = .ok (.iconst 1, 1) := by decide +kernel
theorem dX9_passMinute_61 : decode cX9_passMinute 61 = .ok (.goto 4, 3) := by decide +kernel
theorem dX9_passMinute_64 : decode cX9_passMinute 64 = .ok (.iconst 0, 1) := by decide +kernel
theorem dX9_passMinute_65 : decode cX9_passMinute 65 = .ok (.iadd, 1) := by decide +kernel
theorem dX9_passMinute_66 : decode cX9_passMinute 66 = .ok (.iastore, 1) := by decide +kernel
theorem dX9_passMinute_67 : decode cX9_passMinute 67 = .ok (.iinc 1 1, 3) := by decide +kernel
theorem dX9_passMinute_70 : decode cX9_passMinute 70 = .ok (.goto (-68), 3) := by decide +kernel
theorem dX9_passMinute_73 : decode cX9_passMinute 73 = .ok (.aload_n 0, 1) := by decide +kernel
theorem dX9_passMinute_74 : decode cX9_passMinute 74 = .ok (.dup, 1) := by decide +kernel
theorem dX9_passMinute_75 : decode cX9_passMinute 75 = .ok (.getfield 129, 3) := by decide +kernel
theorem dX9_passMinute_78 : decode cX9_passMinute 78 = .ok (.iconst 1, 1) := by decide +kernel
theorem dX9_passMinute_79 : decode cX9_passMinute 79 = .ok (.iadd, 1) := by decide +kernel
theorem dX9_passMinute_80 : decode cX9_passMinute 80 = .ok (.putfield 129, 3) := by decide +kernel
theorem dX9_passMinute_83 : decode cX9_passMinute 83 = .ok (.return_, 1) := by decide +kernel
theorem dX9_happen_0 : decode cX9_happen 0 = .ok (.aload_n 0, 1) := by decide +kernel
theorem dX9_happen_1 : decode cX9_happen 1 = .ok (.bipush (-6), 2) := by decide +kernel
theorem dX9_happen_3 : decode cX9_happen 3 = .ok (.putfield 141, 3) := by decide +kernel
theorem dX9_happen_6 : decode cX9_happen 6 = .ok (.iload_n 1, 1) := by decide +kernel
theorem dX9_happen_7 : decode cX9_happen 7 = .ok (.tableswitch 138 0 6 #[41, 54, 67, 75, 102, 117, 130], 41) := by decide +kernel
theorem dX9_happen_48 : decode cX9_happen 48 = .ok (.aload_n 0, 1) := by decide +kernel
theorem dX9_happen_49 : decode cX9_happen 49 = .ok (.getfield 19, 3) := by decide +kernel
theorem dX9_happen_52 : decode cX9_happen 52 = .ok (.iload_n 2, 1) := by decide +kernel
theorem dX9_happen_53 : decode cX9_happen 53 = .ok (.dup2, 1) := by decide +kernel
theorem dX9_happen_54 : decode cX9_happen 54 = .ok (.iaload, 1) := by decide +kernel
theorem dX9_happen_55 : decode cX9_happen 55 = .ok (.iload_n 3, 1) := by decide +kernel
theorem dX9_happen_56 : decode cX9_happen 56 = .ok (.iadd, 1) := by decide +kernel
theorem dX9_happen_57 : decode cX9_happen 57 = .ok (.iastore, 1) := by decide +kernel
theorem dX9_happen_58 : decode cX9_happen 58 = .ok (.goto 91, 3) := by decide +kernel
theorem dX9_happen_61 : decode cX9_happen 61 = .ok (.aload_n 0, 1) := by decide +kernel
theorem dX9_happen_62 : decode cX9_happen 62 = .ok (.getfield 19, 3) := by decide +kernel
theorem dX9_happen_65 : decode cX9_happen 65 = .ok (.iload_n 2, 1) := by decide +kernel
theorem dX9_happen_66 : decode cX9_happen 66 = .ok (.dup2, 1) := by decide +kernel
theorem dX9_happen_67 : decode cX9_happen 67 = .ok (.iaload, 1) := by decide +kernel
theorem dX9_happen_68 : decode cX9_happen 68 = .ok (.iload_n 3, 1) := by decide +kernel
theorem dX9_happen_69 : decode cX9_happen 69 = .ok (.isub, 1) := by decide +kernel
theorem dX9_happen_70 : decode cX9_happen 70 = .ok (.iastore, 1) := by decide +kernel
theorem dX9_happen_71 : decode cX9_happen 71 = .ok (.goto 78, 3) := by decide +kernel
theorem dX9_happen_74 : decode cX9_happen 74 = .ok (.aload_n 0, 1) := by decide +kernel
theorem dX9_happen_75 : decode cX9_happen 75 = .ok (.iload_n 2, 1) := by decide +kernel
theorem dX9_happen_76 : decode cX9_happen 76 = .ok (.invokevirtual 144, 3) := by decide +kernel
theorem dX9_happen_79 : decode cX9_happen 79 = .ok (.goto 70, 3) := by decide +kernel
theorem dX9_happen_82 : decode cX9_happen 82 = .ok (.aload_n 0, 1) := by decide +kernel
theorem dX9_happen_83 : decode cX9_happen 83 = .ok (.getfield 13, 3) := by decide +kernel
theorem dX9_happen_86 : decode cX9_happen 86 = .ok (.aload_n 0, 1) := by decide +kernel
theorem dX9_happen_87 : decode cX9_happen 87 = .ok (.getfield 19, 3) := by decide +kernel
theorem dX9_happen_90 : decode cX9_happen 90 = .ok (.iload_n 2, 1) := by decide +kernel
theorem dX9_happen_91 : decode cX9_happen 91 = .ok (.iaload, 1) := by decide +kernel
theorem dX9_happen_92 : decode cX9_happen 92 = .ok (.iconst 1, 1) := by decide +kernel
theorem dX9_happen_93 : decode cX9_happen 93 = .ok (.aload_n 0, 1) := by decide +kernel
theorem dX9_happen_94 : decode cX9_happen 94 = .ok (.getfield 13, 3) := by decide +kernel
theorem dX9_happen_97 : decode cX9_happen 97 = .ok (.aload_n 0, 1) := by decide +kernel
theorem dX9_happen_98 : decode cX9_happen 98 = .ok (.getfield 19, 3) := by decide +kernel
theorem dX9_happen_101 : decode cX9_happen 101 = .ok (.iload_n 2, 1) := by decide +kernel
theorem dX9_happen_102 : decode cX9_happen 102 = .ok (.iaload, 1) := by decide +kernel
theorem dX9_happen_103 : decode cX9_happen 103 = .ok (.iaload, 1) := by decide +kernel
theorem dX9_happen_104 : decode cX9_happen 104 = .ok (.isub, 1) := by decide +kernel
theorem dX9_happen_105 : decode cX9_happen 105 = .ok (.iastore, 1) := by decide +kernel
theorem dX9_happen_106 : decode cX9_happen 106 = .ok (.goto 43, 3) := by decide +kernel
theorem dX9_happen_109 : decode cX9_happen 109 = .ok (.aload_n 0, 1) := by decide +kernel
theorem dX9_happen_110 : decode cX9_happen 110 = .ok (.getfield 7, 3) := by decide +kernel
theorem dX9_happen_113 : decode cX9_happen 113 = .ok (.aload_n 0, 1) := by decide +kernel
theorem dX9_happen_114 : decode cX9_happen 114 = .ok (.getfield 19, 3) := by decide +kernel
theorem dX9_happen_117 : decode cX9_happen 117 = .ok (.iload_n 2, 1) := by decide +kernel
theorem dX9_happen_118 : decode cX9_happen 118 = .ok (.iaload, 1) := by decide +kernel
theorem dX9_happen_119 : decode cX9_happen 119 = .ok (.iload_n 3, 1) := by decide +kernel
theorem dX9_happen_120 : decode cX9_happen 120 = .ok (.iastore, 1) := by decide +kernel
theorem dX9_happen_121 : decode cX9_happen 121 = .ok (.goto 28, 3) := by decide +kernel
theorem dX9_happen_124 : decode cX9_happen 124 = .ok (.aload_n 0, 1) := by decide +kernel
theorem dX9_happen_125 : decode cX9_happen 125 = .ok (.aload_n 0, 1) := by decide +kernel
theorem dX9_happen_126 : decode cX9_happen 126 = .ok (.getfield 19, 3) := by decide +kernel
theorem dX9_happen_129 : decode cX9_happen 129 = .ok (.iload_n 2, 1) := by decide +kernel
theorem dX9_happen_130 : decode cX9_happen 130 = .ok (.iaload, 1) := by decide +kernel
theorem dX9_happen_131 : decode cX9_happen 131 = .ok (.invokevirtual 148, 3) := by decide +kernel
theorem dX9_happen_134 : decode cX9_happen 134 = .ok (.goto 15, 3) := by decide +kernel
theorem dX9_happen_137 : decode cX9_happen 137 = .ok (.aload_n 0, 1) := by decide +kernel
theorem dX9_happen_138 : decode cX9_happen 138 = .ok (.iload_n 2, 1) := by decide +kernel
theorem dX9_happen_139 : decode cX9_happen 139 = .ok (.invokevirtual 151, 3) := by decide +kernel
theorem dX9_happen_142 : decode cX9_happen 142 = .ok (.goto 7, 3) := by decide +kernel
theorem dX9_happen_145 : decode cX9_happen 145 = .ok (.aload_n 0, 1) := by decide +kernel
theorem dX9_happen_146 : decode cX9_happen 146 = .ok (.invokevirtual 154, 3) := by decide +kernel
theorem dX9_happen_149 : decode cX9_happen 149 = .ok (.return_, 1) := by decide +kernel
theorem dX9_keepNow_0 : decode cX9_keepNow 0 = .ok (.iconst 0, 1) := by decide +kernel
theorem dX9_keepNow_1 : decode cX9_keepNow 1 = .ok (.istore_n 1, 1) := by decide +kernel
theorem dX9_keepNow_2 : decode cX9_keepNow 2 = .ok (.iload_n 1, 1) := by decide +kernel
theorem dX9_keepNow_3 : decode cX9_keepNow 3 = .ok (.bipush 40, 2) := by decide +kernel
theorem dX9_keepNow_5 : decode cX9_keepNow 5 = .ok (.if_icmp .ge 51, 3) := by decide +kernel
theorem dX9_keepNow_8 : decode cX9_keepNow 8 = .ok (.aload_n 0, 1) := by decide +kernel
theorem dX9_keepNow_9 : decode cX9_keepNow 9 = .ok (.getfield 52, 3) := by decide +kernel
theorem dX9_keepNow_12 : decode cX9_keepNow 12 = .ok (.iload_n 1, 1) := by decide +kernel
theorem dX9_keepNow_13 : decode cX9_keepNow 13 = .ok (.aload_n 0, 1) := by decide +kernel
theorem dX9_keepNow_14 : decode cX9_keepNow 14 = .ok (.getfield 7, 3) := by decide +kernel
theorem dX9_keepNow_17 : decode cX9_keepNow 17 = .ok (.iload_n 1, 1) := by decide +kernel
theorem dX9_keepNow_18 : decode cX9_keepNow 18 = .ok (.iaload, 1) := by decide +kernel
theorem dX9_keepNow_19 : decode cX9_keepNow 19 = .ok (.iastore, 1) := by decide +kernel
theorem dX9_keepNow_20 : decode cX9_keepNow 20 = .ok (.aload_n 0, 1) := by decide +kernel
theorem dX9_keepNow_21 : decode cX9_keepNow 21 = .ok (.getfield 52, 3) := by decide +kernel
theorem dX9_keepNow_24 : decode cX9_keepNow 24 = .ok (.bipush 40, 2) := by decide +kernel
theorem dX9_keepNow_26 : decode cX9_keepNow 26 = .ok (.iload_n 1, 1) := by decide +kernel
theorem dX9_keepNow_27 : decode cX9_keepNow 27 = .ok (.iadd, 1) := by decide +kernel
theorem dX9_keepNow_28 : decode cX9_keepNow 28 = .ok (.aload_n 0, 1) := by decide +kernel
theorem dX9_keepNow_29 : decode cX9_keepNow 29 = .ok (.getfield 13, 3) := by decide +kernel
theorem dX9_keepNow_32 : decode cX9_keepNow 32 = .ok (.iload_n 1, 1) := by decide +kernel
theorem dX9_keepNow_33 : decode cX9_keepNow 33 = .ok (.iaload, 1) := by decide +kernel
theorem dX9_keepNow_34 : decode cX9_keepNow 34 = .ok (.iastore, 1) := by decide +kernel
theorem dX9_keepNow_35 : decode cX9_keepNow 35 = .ok (.aload_n 0, 1) := by decide +kernel
theorem dX9_keepNow_36 : decode cX9_keepNow 36 = .ok (.getfield 52, 3) := by decide +kernel
theorem dX9_keepNow_39 : decode cX9_keepNow 39 = .ok (.bipush 80, 2) := by decide +kernel
theorem dX9_keepNow_41 : decode cX9_keepNow 41 = .ok (.iload_n 1, 1) := by decide +kernel
theorem dX9_keepNow_42 : decode cX9_keepNow 42 = .ok (.iadd, 1) := by decide +kernel
theorem dX9_keepNow_43 : decode cX9_keepNow 43 = .ok (.aload_n 0, 1) := by decide +kernel
theorem dX9_keepNow_44 : decode cX9_keepNow 44 = .ok (.getfield 16, 3) := by decide +kernel
theorem dX9_keepNow_47 : decode cX9_keepNow 47 = .ok (.iload_n 1, 1) := by decide +kernel
theorem dX9_keepNow_48 : decode cX9_keepNow 48 = .ok (.iaload, 1) := by decide +kernel
theorem dX9_keepNow_49 : decode cX9_keepNow 49 = .ok (.iastore, 1) := by decide +kernel
theorem dX9_keepNow_50 : decode cX9_keepNow 50 = .ok (.iinc 1 1, 3) := by decide +kernel
theorem dX9_keepNow_53 : decode cX9_keepNow 53 = .ok (.goto (-51), 3) := by decide +kernel
theorem dX9_keepNow_56 : decode cX9_keepNow 56 = .ok (.iconst 0, 1) := by decide +kernel
theorem dX9_keepNow_57 : decode cX9_keepNow 57 = .ok (.istore_n 1, 1) := by decide +kernel
theorem dX9_keepNow_58 : decode cX9_keepNow 58 = .ok (.iload_n 1, 1) := by decide +kernel
theorem dX9_keepNow_59 : decode cX9_keepNow 59 = .ok (.bipush 6, 2) := by decide +kernel
theorem dX9_keepNow_61 : decode cX9_keepNow 61 = .ok (.if_icmp .ge 55, 3) := by decide +kernel
theorem dX9_keepNow_64 : decode cX9_keepNow 64 = .ok (.aload_n 0, 1) := by decide +kernel
theorem dX9_keepNow_65 : decode cX9_keepNow 65 = .ok (.getfield 52, 3) := by decide +kernel
theorem dX9_keepNow_68 : decode cX9_keepNow 68 = .ok (.bipush 120, 2) := by decide +kernel
theorem dX9_keepNow_70 : decode cX9_keepNow 70 = .ok (.iload_n 1, 1) := by decide +kernel
theorem dX9_keepNow_71 : decode cX9_keepNow 71 = .ok (.iadd, 1) := by decide +kernel
theorem dX9_keepNow_72 : decode cX9_keepNow 72 = .ok (.aload_n 0, 1) := by decide +kernel
theorem dX9_keepNow_73 : decode cX9_keepNow 73 = .ok (.getfield 19, 3) := by decide +kernel
theorem dX9_keepNow_76 : decode cX9_keepNow 76 = .ok (.iload_n 1, 1) := by decide +kernel
theorem dX9_keepNow_77 : decode cX9_keepNow 77 = .ok (.iaload, 1) := by decide +kernel
theorem dX9_keepNow_78 : decode cX9_keepNow 78 = .ok (.iastore, 1) := by decide +kernel
theorem dX9_keepNow_79 : decode cX9_keepNow 79 = .ok (.aload_n 0, 1) := by decide +kernel
theorem dX9_keepNow_80 : decode cX9_keepNow 80 = .ok (.getfield 52, 3) := by decide +kernel
theorem dX9_keepNow_83 : decode cX9_keepNow 83 = .ok (.bipush 126, 2) := by decide +kernel
theorem dX9_keepNow_85 : decode cX9_keepNow 85 = .ok (.iload_n 1, 1) := by decide +kernel
theorem dX9_keepNow_86 : decode cX9_keepNow 86 = .ok (.iadd, 1) := by decide +kernel
theorem dX9_keepNow_87 : decode cX9_keepNow 87 = .ok (.aload_n 0, 1) := by decide +kernel
theorem dX9_keepNow_88 : decode cX9_keepNow 88 = .ok (.getfield 25, 3) := by decide +kernel
theorem dX9_keepNow_91 : decode cX9_keepNow 91 = .ok (.iload_n 1, 1) := by decide +kernel
theorem dX9_keepNow_92 : decode cX9_keepNow 92 = .ok (.iaload, 1) := by decide +kernel
theorem dX9_keepNow_93 : decode cX9_keepNow 93 = .ok (.iastore, 1) := by decide +kernel
theorem dX9_keepNow_94 : decode cX9_keepNow 94 = .ok (.aload_n 0, 1) := by decide +kernel
theorem dX9_keepNow_95 : decode cX9_keepNow 95 = .ok (.getfield 52, 3) := by decide +kernel
theorem dX9_keepNow_98 : decode cX9_keepNow 98 = .ok (.sipush 132, 3) := by decide +kernel
theorem dX9_keepNow_101 : decode cX9_keepNow 101 = .ok (.iload_n 1, 1) := by decide +kernel
theorem dX9_keepNow_102 : decode cX9_keepNow 102 = .ok (.iadd, 1) := by decide +kernel
theorem dX9_keepNow_103 : decode cX9_keepNow 103 = .ok (.aload_n 0, 1) := by decide +kernel
theorem dX9_keepNow_104 : decode cX9_keepNow 104 = .ok (.getfield 28, 3) := by decide +kernel
theorem dX9_keepNow_107 : decode cX9_keepNow 107 = .ok (.iload_n 1, 1) := by decide +kernel
theorem dX9_keepNow_108 : decode cX9_keepNow 108 = .ok (.iaload, 1) := by decide +kernel
theorem dX9_keepNow_109 : decode cX9_keepNow 109 = .ok (.iastore, 1) := by decide +kernel
theorem dX9_keepNow_110 : decode cX9_keepNow 110 = .ok (.iinc 1 1, 3) := by decide +kernel
theorem dX9_keepNow_113 : decode cX9_keepNow 113 = .ok (.goto (-55), 3) := by decide +kernel
theorem dX9_keepNow_116 : decode cX9_keepNow 116 = .ok (.aload_n 0, 1) := by decide +kernel
theorem dX9_keepNow_117 : decode cX9_keepNow 117 = .ok (.getfield 52, 3) := by decide +kernel
theorem dX9_keepNow_120 : decode cX9_keepNow 120 = .ok (.sipush 138, 3) := by decide +kernel
theorem dX9_keepNow_123 : decode cX9_keepNow 123 = .ok (.aload_n 0, 1) := by decide +kernel
theorem dX9_keepNow_124 : decode cX9_keepNow 124 = .ok (.getfield 129, 3) := by decide +kernel
theorem dX9_keepNow_127 : decode cX9_keepNow 127 = .ok (.iastore, 1) := by decide +kernel
theorem dX9_keepNow_128 : decode cX9_keepNow 128 = .ok (.return_, 1) := by decide +kernel
theorem dX9_back_0 : decode cX9_back 0 = .ok (.iconst 0, 1) := by decide +kernel
theorem dX9_back_1 : decode cX9_back 1 = .ok (.istore_n 2, 1) := by decide +kernel
theorem dX9_back_2 : decode cX9_back 2 = .ok (.iload_n 2, 1) := by decide +kernel
theorem dX9_back_3 : decode cX9_back 3 = .ok (.bipush 40, 2) := by decide +kernel
theorem dX9_back_5 : decode cX9_back 5 = .ok (.if_icmp .ge 51, 3) := by decide +kernel
theorem dX9_back_8 : decode cX9_back 8 = .ok (.aload_n 0, 1) := by decide +kernel
theorem dX9_back_9 : decode cX9_back 9 = .ok (.getfield 7, 3) := by decide +kernel
theorem dX9_back_12 : decode cX9_back 12 = .ok (.iload_n 2, 1) := by decide +kernel
theorem dX9_back_13 : decode cX9_back 13 = .ok (.aload_n 0, 1) := by decide +kernel
theorem dX9_back_14 : decode cX9_back 14 = .ok (.getfield 52, 3) := by decide +kernel
theorem dX9_back_17 : decode cX9_back 17 = .ok (.iload_n 2, 1) := by decide +kernel
theorem dX9_back_18 : decode cX9_back 18 = .ok (.iaload, 1) := by decide +kernel
theorem dX9_back_19 : decode cX9_back 19 = .ok (.iastore, 1) := by decide +kernel
theorem dX9_back_20 : decode cX9_back 20 = .ok (.aload_n 0, 1) := by decide +kernel
theorem dX9_back_21 : decode cX9_back 21 = .ok (.getfield 13, 3) := by decide +kernel
theorem dX9_back_24 : decode cX9_back 24 = .ok (.iload_n 2, 1) := by decide +kernel
theorem dX9_back_25 : decode cX9_back 25 = .ok (.aload_n 0, 1) := by decide +kernel
theorem dX9_back_26 : decode cX9_back 26 = .ok (.getfield 52, 3) := by decide +kernel
theorem dX9_back_29 : decode cX9_back 29 = .ok (.bipush 40, 2) := by decide +kernel
theorem dX9_back_31 : decode cX9_back 31 = .ok (.iload_n 2, 1) := by decide +kernel
theorem dX9_back_32 : decode cX9_back 32 = .ok (.iadd, 1) := by decide +kernel
theorem dX9_back_33 : decode cX9_back 33 = .ok (.iaload, 1) := by decide +kernel
theorem dX9_back_34 : decode cX9_back 34 = .ok (.iastore, 1) := by decide +kernel
theorem dX9_back_35 : decode cX9_back 35 = .ok (.aload_n 0, 1) := by decide +kernel
theorem dX9_back_36 : decode cX9_back 36 = .ok (.getfield 16, 3) := by decide +kernel
theorem dX9_back_39 : decode cX9_back 39 = .ok (.iload_n 2, 1) := by decide +kernel
theorem dX9_back_40 : decode cX9_back 40 = .ok (.aload_n 0, 1) := by decide +kernel
theorem dX9_back_41 : decode cX9_back 41 = .ok (.getfield 52, 3) := by decide +kernel
theorem dX9_back_44 : decode cX9_back 44 = .ok (.bipush 80, 2) := by decide +kernel
theorem dX9_back_46 : decode cX9_back 46 = .ok (.iload_n 2, 1) := by decide +kernel
theorem dX9_back_47 : decode cX9_back 47 = .ok (.iadd, 1) := by decide +kernel
theorem dX9_back_48 : decode cX9_back 48 = .ok (.iaload, 1) := by decide +kernel
theorem dX9_back_49 : decode cX9_back 49 = .ok (.iastore, 1) := by decide +kernel
theorem dX9_back_50 : decode cX9_back 50 = .ok (.iinc 2 1, 3) := by decide +kernel
theorem dX9_back_53 : decode cX9_back 53 = .ok (.goto (-51), 3) := by decide +kernel
theorem dX9_back_56 : decode cX9_back 56 = .ok (.iconst 0, 1) := by decide +kernel
theorem dX9_back_57 : decode cX9_back 57 = .ok (.istore_n 2, 1) := by decide +kernel
theorem dX9_back_58 : decode cX9_back 58 = .ok (.iload_n 2, 1) := by decide +kernel
theorem dX9_back_59 : decode cX9_back 59 = .ok (.bipush 6, 2) := by decide +kernel
theorem dX9_back_61 : decode cX9_back 61 = .ok (.if_icmp .ge 55, 3) := by decide +kernel
theorem dX9_back_64 : decode cX9_back 64 = .ok (.aload_n 0, 1) := by decide +kernel
theorem dX9_back_65 : decode cX9_back 65 = .ok (.getfield 19, 3) := by decide +kernel
theorem dX9_back_68 : decode cX9_back 68 = .ok (.iload_n 2, 1) := by decide +kernel
theorem dX9_back_69 : decode cX9_back 69 = .ok (.aload_n 0, 1) := by decide +kernel
theorem dX9_back_70 : decode cX9_back 70 = .ok (.getfield 52, 3) := by decide +kernel
theorem dX9_back_73 : decode cX9_back 73 = .ok (.bipush 120, 2) := by decide +kernel
theorem dX9_back_75 : decode cX9_back 75 = .ok (.iload_n 2, 1) := by decide +kernel
theorem dX9_back_76 : decode cX9_back 76 = .ok (.iadd, 1) := by decide +kernel
theorem dX9_back_77 : decode cX9_back 77 = .ok (.iaload, 1) := by decide +kernel
theorem dX9_back_78 : decode cX9_back 78 = .ok (.iastore, 1) := by decide +kernel
theorem dX9_back_79 : decode cX9_back 79 = .ok (.aload_n 0, 1) := by decide +kernel
theorem dX9_back_80 : decode cX9_back 80 = .ok (.getfield 25, 3) := by decide +kernel
theorem dX9_back_83 : decode cX9_back 83 = .ok (.iload_n 2, 1) := by decide +kernel
theorem dX9_back_84 : decode cX9_back 84 = .ok (.aload_n 0, 1) := by decide +kernel
theorem dX9_back_85 : decode cX9_back 85 = .ok (.getfield 52, 3) := by decide +kernel
theorem dX9_back_88 : decode cX9_back 88 = .ok (.bipush 126, 2) := by decide +kernel
theorem dX9_back_90 : decode cX9_back 90 = .ok (.iload_n 2, 1) := by decide +kernel
theorem dX9_back_91 : decode cX9_back 91 = .ok (.iadd, 1) := by decide +kernel
theorem dX9_back_92 : decode cX9_back 92 = .ok (.iaload, 1) := by decide +kernel
theorem dX9_back_93 : decode cX9_back 93 = .ok (.iastore, 1) := by decide +kernel
theorem dX9_back_94 : decode cX9_back 94 = .ok (.aload_n 0, 1) := by decide +kernel
theorem dX9_back_95 : decode cX9_back 95 = .ok (.getfield 28, 3) := by decide +kernel
theorem dX9_back_98 : decode cX9_back 98 = .ok (.iload_n 2, 1) := by decide +kernel
theorem dX9_back_99 : decode cX9_back 99 = .ok (.aload_n 0, 1) := by decide +kernel
theorem dX9_back_100 : decode cX9_back 100 = .ok (.getfield 52, 3) := by decide +kernel
theorem dX9_back_103 : decode cX9_back 103 = .ok (.sipush 132, 3) := by decide +kernel
theorem dX9_back_106 : decode cX9_back 106 = .ok (.iload_n 2, 1) := by decide +kernel
theorem dX9_back_107 : decode cX9_back 107 = .ok (.iadd, 1) := by decide +kernel
theorem dX9_back_108 : decode cX9_back 108 = .ok (.iaload, 1) := by decide +kernel
theorem dX9_back_109 : decode cX9_back 109 = .ok (.iastore, 1) := by decide +kernel
theorem dX9_back_110 : decode cX9_back 110 = .ok (.iinc 2 1, 3) := by decide +kernel
theorem dX9_back_113 : decode cX9_back 113 = .ok (.goto (-55), 3) := by decide +kernel
theorem dX9_back_116 : decode cX9_back 116 = .ok (.aload_n 0, 1) := by decide +kernel
theorem dX9_back_117 : decode cX9_back 117 = .ok (.aload_n 0, 1) := by decide +kernel
theorem dX9_back_118 : decode cX9_back 118 = .ok (.getfield 52, 3) := by decide +kernel
theorem dX9_back_121 : decode cX9_back 121 = .ok (.sipush 138, 3) := by decide +kernel
theorem dX9_back_124 : decode cX9_back 124 = .ok (.iaload, 1) := by decide +kernel
theorem dX9_back_125 : decode cX9_back 125 = .ok (.putfield 129, 3) := by decide +kernel
theorem dX9_back_128 : decode cX9_back 128 = .ok (.iload_n 1, 1) := by decide +kernel
theorem dX9_back_129 : decode cX9_back 129 = .ok (.ireturn, 1) := by decide +kernel
theorem dX9_goOne_0 : decode cX9_goOne 0 = .ok (.aload_n 0, 1) := by decide +kernel
theorem dX9_goOne_1 : decode cX9_goOne 1 = .ok (.aload_n 0, 1) := by decide +kernel
theorem dX9_goOne_2 : decode cX9_goOne 2 = .ok (.getfield 43, 3) := by decide +kernel
theorem dX9_goOne_5 : decode cX9_goOne 5 = .ok (.iload_n 1, 1) := by decide +kernel
theorem dX9_goOne_6 : decode cX9_goOne 6 = .ok (.iaload, 1) := by decide +kernel
theorem dX9_goOne_7 : decode cX9_goOne 7 = .ok (.aload_n 0, 1) := by decide +kernel
theorem dX9_goOne_8 : decode cX9_goOne 8 = .ok (.getfield 46, 3) := by decide +kernel
theorem dX9_goOne_11 : decode cX9_goOne 11 = .ok (.iload_n 1, 1) := by decide +kernel
theorem dX9_goOne_12 : decode cX9_goOne 12 = .ok (.iaload, 1) := by decide +kernel
theorem dX9_goOne_13 : decode cX9_goOne 13 = .ok (.aload_n 0, 1) := by decide +kernel
theorem dX9_goOne_14 : decode cX9_goOne 14 = .ok (.getfield 49, 3) := by decide +kernel
theorem dX9_goOne_17 : decode cX9_goOne 17 = .ok (.iload_n 1, 1) := by decide +kernel
theorem dX9_goOne_18 : decode cX9_goOne 18 = .ok (.iaload, 1) := by decide +kernel
theorem dX9_goOne_19 : decode cX9_goOne 19 = .ok (.invokevirtual 157, 3) := by decide +kernel
theorem dX9_goOne_22 : decode cX9_goOne 22 = .ok (.aload_n 0, 1) := by decide +kernel
theorem dX9_goOne_23 : decode cX9_goOne 23 = .ok (.getfield 141, 3) := by decide +kernel
theorem dX9_goOne_26 : decode cX9_goOne 26 = .ok (.ifCond .lt 23, 3) := by decide +kernel
theorem dX9_goOne_29 : decode cX9_goOne 29 = .ok (.aload_n 0, 1) := by decide +kernel
theorem dX9_goOne_30 : decode cX9_goOne 30 = .ok (.getfield 161, 3) := by decide +kernel
theorem dX9_goOne_33 : decode cX9_goOne 33 = .ok (.ifCond .ge 16, 3) := by decide +kernel
theorem dX9_goOne_36 : decode cX9_goOne 36 = .ok (.aload_n 0, 1) := by decide +kernel
theorem dX9_goOne_37 : decode cX9_goOne 37 = .ok (.iload_n 1, 1) := by decide +kernel
theorem dX9_goOne_38 : decode cX9_goOne 38 = .ok (.putfield 161, 3) := by decide +kernel
theorem dX9_goOne_41 : decode cX9_goOne 41 = .ok (.aload_n 0, 1) := by decide +kernel
theorem dX9_goOne_42 : decode cX9_goOne 42 = .ok (.aload_n 0, 1) := by decide +kernel
theorem dX9_goOne_43 : decode cX9_goOne 43 = .ok (.getfield 141, 3) := by decide +kernel
theorem dX9_goOne_46 : decode cX9_goOne 46 = .ok (.putfield 164, 3) := by decide +kernel
theorem dX9_goOne_49 : decode cX9_goOne 49 = .ok (.return_, 1) := by decide +kernel
theorem dX9_goHours_0 : decode cX9_goHours 0 = .ok (.aload_n 0, 1) := by decide +kernel
theorem dX9_goHours_1 : decode cX9_goHours 1 = .ok (.bipush (-6), 2) := by decide +kernel
theorem dX9_goHours_3 : decode cX9_goHours 3 = .ok (.putfield 167, 3) := by decide +kernel
theorem dX9_goHours_6 : decode cX9_goHours 6 = .ok (.aload_n 0, 1) := by decide +kernel
theorem dX9_goHours_7 : decode cX9_goHours 7 = .ok (.bipush (-6), 2) := by decide +kernel
theorem dX9_goHours_9 : decode cX9_goHours 9 = .ok (.putfield 170, 3) := by decide +kernel
theorem dX9_goHours_12 : decode cX9_goHours 12 = .ok (.aload_n 0, 1) := by decide +kernel
theorem dX9_goHours_13 : decode cX9_goHours 13 = .ok (.bipush (-6), 2) := by decide +kernel
theorem dX9_goHours_15 : decode cX9_goHours 15 = .ok (.putfield 161, 3) := by decide +kernel
theorem dX9_goHours_18 : decode cX9_goHours 18 = .ok (.aload_n 0, 1) := by decide +kernel
theorem dX9_goHours_19 : decode cX9_goHours 19 = .ok (.bipush (-6), 2) := by decide +kernel
theorem dX9_goHours_21 : decode cX9_goHours 21 = .ok (.putfield 164, 3) := by decide +kernel
theorem dX9_goHours_24 : decode cX9_goHours 24 = .ok (.aload_n 0, 1) := by decide +kernel
theorem dX9_goHours_25 : decode cX9_goHours 25 = .ok (.iconst 0, 1) := by decide +kernel
theorem dX9_goHours_26 : decode cX9_goHours 26 = .ok (.putfield 135, 3) := by decide +kernel
theorem dX9_goHours_29 : decode cX9_goHours 29 = .ok (.iconst 0, 1) := by decide +kernel
theorem dX9_goHours_30 : decode cX9_goHours 30 = .ok (.istore_n 1, 1) := by decide +kernel
theorem dX9_goHours_31 : decode cX9_goHours 31 = .ok (.iload_n 1, 1) := by decide +kernel
theorem dX9_goHours_32 : decode cX9_goHours 32 = .ok (.aload_n 0, 1) := by decide +kernel
theorem dX9_goHours_33 : decode cX9_goHours 33 = .ok (.getfield 101, 3) := by decide +kernel
theorem dX9_goHours_36 : decode cX9_goHours 36 = .ok (.if_icmp .ge 76, 3) := by decide +kernel
theorem dX9_goHours_39 : decode cX9_goHours 39 = .ok (.aload_n 0, 1) := by decide +kernel
theorem dX9_goHours_40 : decode cX9_goHours 40 = .ok (.getfield 167, 3) := by decide +kernel
theorem dX9_goHours_43 : decode cX9_goHours 43 = .ok (.ifCond .ge 69, 3) := by decide +kernel
theorem dX9_goHours_46 : decode cX9_goHours 46 = .ok (.aload_n 0, 1) := by decide +kernel
theorem dX9_goHours_47 : decode cX9_goHours 47 = .ok (.aload_n 0, 1) := by decide +kernel
theorem dX9_goHours_48 : decode cX9_goHours 48 = .ok (.getfield 43, 3) := by decide +kernel
theorem dX9_goHours_51 : decode cX9_goHours 51 = .ok (.iload_n 1, 1) := by decide +kernel
theorem dX9_goHours_52 : decode cX9_goHours 52 = .ok (.iaload, 1) := by decide +kernel
theorem dX9_goHours_53 : decode cX9_goHours 53 = .ok (.aload_n 0, 1) := by decide +kernel
theorem dX9_goHours_54 : decode cX9_goHours 54 = .ok (.getfield 46, 3) := by decide +kernel
theorem dX9_goHours_57 : decode cX9_goHours 57 = .ok (.iload_n 1, 1) := by decide +kernel
theorem dX9_goHours_58 : decode cX9_goHours 58 = .ok (.iaload, 1) := by decide +kernel
theorem dX9_goHours_59 : decode cX9_goHours 59 = .ok (.aload_n 0, 1) := by decide +kernel
theorem dX9_goHours_60 : decode cX9_goHours 60 = .ok (.getfield 49, 3) := by decide +kernel
theorem dX9_goHours_63 : decode cX9_goHours 63 = .ok (.iload_n 1, 1) := by decide +kernel
theorem dX9_goHours_64 : decode cX9_goHours 64 = .ok (.iaload, 1) := by decide +kernel
theorem dX9_goHours_65 : decode cX9_goHours 65 = .ok (.invokevirtual 173, 3) := by decide +kernel
theorem dX9_goHours_68 : decode cX9_goHours 68 = .ok (.istore_n 2, 1) := by decide +kernel
theorem dX9_goHours_69 : decode cX9_goHours 69 = .ok (.aload_n 0, 1) := by decide +kernel
theorem dX9_goHours_70 : decode cX9_goHours 70 = .ok (.iload_n 2, 1) := by decide +kernel
theorem dX9_goHours_71 : decode cX9_goHours 71 = .ok (.ifCond .le 7, 3) := by decide +kernel
theorem dX9_goHours_74 : decode cX9_goHours 74 = .ok (.iload_n 1, 1) := by decide +kernel
theorem dX9_goHours_75 : decode cX9_goHours 75 = .ok (.goto 5, 3) := by decide +kernel
theorem dX9_goHours_78 : decode cX9_goHours 78 = .ok (.bipush (-6), 2) := by decide +kernel
theorem dX9_goHours_80 : decode cX9_goHours 80 = .ok (.putfield 167, 3) := by decide +kernel
theorem dX9_goHours_83 : decode cX9_goHours 83 = .ok (.aload_n 0, 1) := by decide +kernel
theorem dX9_goHours_84 : decode cX9_goHours 84 = .ok (.iload_n 2, 1) := by decide +kernel
theorem dX9_goHours_85 : decode cX9_goHours 85 = .ok (.ifCond .le 7, 3) := by decide +kernel
theorem dX9_goHours_88 : decode cX9_goHours 88 = .ok (.iload_n 2, 1) := by decide +kernel
theorem dX9_goHours_89 : decode cX9_goHours 89 = .ok (.goto 5, 3) := by decide +kernel
theorem dX9_goHours_92 : decode cX9_goHours 92 = .ok (.bipush (-6), 2) := by decide +kernel
theorem dX9_goHours_94 : decode cX9_goHours 94 = .ok (.putfield 170, 3) := by decide +kernel
theorem dX9_goHours_97 : decode cX9_goHours 97 = .ok (.iload_n 2, 1) := by decide +kernel
theorem dX9_goHours_98 : decode cX9_goHours 98 = .ok (.ifCond .ne 8, 3) := by decide +kernel
theorem dX9_goHours_101 : decode cX9_goHours 101 = .ok (.aload_n 0, 1) := by decide +kernel
theorem dX9_goHours_102 : decode cX9_goHours 102 = .ok (.iload_n 1, 1) := by decide +kernel
theorem dX9_goHours_103 : decode cX9_goHours 103 = .ok (.invokevirtual 177, 3) := by decide +kernel
theorem dX9_goHours_106 : decode cX9_goHours 106 = .ok (.iinc 1 1, 3) := by decide +kernel
theorem dX9_goHours_109 : decode cX9_goHours 109 = .ok (.goto (-78), 3) := by decide +kernel
theorem dX9_goHours_112 : decode cX9_goHours 112 = .ok (.return_, 1) := by decide +kernel
theorem dX9_refusal_0 : decode cX9_refusal 0 = .ok (.aload_n 0, 1) := by decide +kernel
theorem dX9_refusal_1 : decode cX9_refusal 1 = .ok (.invokevirtual 180, 3) := by decide +kernel
theorem dX9_refusal_4 : decode cX9_refusal 4 = .ok (.aload_n 0, 1) := by decide +kernel
theorem dX9_refusal_5 : decode cX9_refusal 5 = .ok (.invokevirtual 183, 3) := by decide +kernel
theorem dX9_refusal_8 : decode cX9_refusal 8 = .ok (.ifCond .lt 6, 3) := by decide +kernel
theorem dX9_refusal_11 : decode cX9_refusal 11 = .ok (.bipush (-5), 2) := by decide +kernel
theorem dX9_refusal_13 : decode cX9_refusal 13 = .ok (.ireturn, 1) := by decide +kernel
theorem dX9_refusal_14 : decode cX9_refusal 14 = .ok (.aload_n 0, 1) := by decide +kernel
theorem dX9_refusal_15 : decode cX9_refusal 15 = .ok (.invokevirtual 187, 3) := by decide +kernel
theorem dX9_refusal_18 : decode cX9_refusal 18 = .ok (.aload_n 0, 1) := by decide +kernel
theorem dX9_refusal_19 : decode cX9_refusal 19 = .ok (.getfield 167, 3) := by decide +kernel
theorem dX9_refusal_22 : decode cX9_refusal 22 = .ok (.ifCond .lt 8, 3) := by decide +kernel
theorem dX9_refusal_25 : decode cX9_refusal 25 = .ok (.bipush (-3), 2) := by decide +kernel
theorem dX9_refusal_27 : decode cX9_refusal 27 = .ok (.goto 5, 3) := by decide +kernel
theorem dX9_refusal_30 : decode cX9_refusal 30 = .ok (.bipush (-6), 2) := by decide +kernel
theorem dX9_refusal_32 : decode cX9_refusal 32 = .ok (.ireturn, 1) := by decide +kernel
theorem dX9_judge_0 : decode cX9_judge 0 = .ok (.iload_n 1, 1) := by decide +kernel
theorem dX9_judge_1 : decode cX9_judge 1 = .ok (.i2l, 1) := by decide +kernel
theorem dX9_judge_2 : decode cX9_judge 2 = .ok (.lconst 0, 1) := by decide +kernel
theorem dX9_judge_3 : decode cX9_judge 3 = .ok (.ldc2_w 190, 3) := by decide +kernel
theorem dX9_judge_6 : decode cX9_judge 6 = .ok (.invokestatic 76, 3) := by decide +kernel
theorem dX9_judge_9 : decode cX9_judge 9 = .ok (.ifCond .ne 6, 3) := by decide +kernel
theorem dX9_judge_12 : decode cX9_judge 12 = .ok (.bipush (-2), 2) := by decide +kernel
theorem dX9_judge_14 : decode cX9_judge 14 = .ok (.ireturn, 1) := by decide +kernel
theorem dX9_judge_15 : decode cX9_judge 15 = .ok (.aload_n 0, 1) := by decide +kernel
theorem dX9_judge_16 : decode cX9_judge 16 = .ok (.aload_n 0, 1) := by decide +kernel
theorem dX9_judge_17 : decode cX9_judge 17 = .ok (.invokevirtual 192, 3) := by decide +kernel
theorem dX9_judge_20 : decode cX9_judge 20 = .ok (.invokevirtual 195, 3) := by decide +kernel
theorem dX9_judge_23 : decode cX9_judge 23 = .ok (.istore_n 2, 1) := by decide +kernel
theorem dX9_judge_24 : decode cX9_judge 24 = .ok (.iload_n 2, 1) := by decide +kernel
theorem dX9_judge_25 : decode cX9_judge 25 = .ok (.bipush (-5), 2) := by decide +kernel
theorem dX9_judge_27 : decode cX9_judge 27 = .ok (.if_icmp .eq 14, 3) := by decide +kernel
theorem dX9_judge_30 : decode cX9_judge 30 = .ok (.iload_n 1, 1) := by decide +kernel
theorem dX9_judge_31 : decode cX9_judge 31 = .ok (.iconst 1, 1) := by decide +kernel
theorem dX9_judge_32 : decode cX9_judge 32 = .ok (.if_icmp .le 11, 3) := by decide +kernel
theorem dX9_judge_35 : decode cX9_judge 35 = .ok (.iload_n 2, 1) := by decide +kernel
theorem dX9_judge_36 : decode cX9_judge 36 = .ok (.bipush (-3), 2) := by decide +kernel
theorem dX9_judge_38 : decode cX9_judge 38 = .ok (.if_icmp .ne 5, 3) := by decide +kernel
theorem dX9_judge_41 : decode cX9_judge 41 = .ok (.iload_n 2, 1) := by decide +kernel
theorem dX9_judge_42 : decode cX9_judge 42 = .ok (.ireturn, 1) := by decide +kernel
theorem dX9_judge_43 : decode cX9_judge 43 = .ok (.iload_n 1, 1) := by decide +kernel
theorem dX9_judge_44 : decode cX9_judge 44 = .ok (.ifCond .ne 10, 3) := by decide +kernel
theorem dX9_judge_47 : decode cX9_judge 47 = .ok (.aload_n 0, 1) := by decide +kernel
theorem dX9_judge_48 : decode cX9_judge 48 = .ok (.getfield 167, 3) := by decide +kernel
theorem dX9_judge_51 : decode cX9_judge 51 = .ok (.goto 19, 3) := by decide +kernel
theorem dX9_judge_54 : decode cX9_judge 54 = .ok (.iload_n 1, 1) := by decide +kernel
theorem dX9_judge_55 : decode cX9_judge 55 = .ok (.iconst 1, 1) := by decide +kernel
theorem dX9_judge_56 : decode cX9_judge 56 = .ok (.if_icmp .ne 10, 3) := by decide +kernel
theorem dX9_judge_59 : decode cX9_judge 59 = .ok (.aload_n 0, 1) := by decide +kernel
theorem dX9_judge_60 : decode cX9_judge 60 = .ok (.getfield 170, 3) := by decide +kernel
theorem dX9_judge_63 : decode cX9_judge 63 = .ok (.goto 7, 3) := by decide +kernel
theorem dX9_judge_66 : decode cX9_judge 66 = .ok (.aload_n 0, 1) := by decide +kernel
theorem dX9_judge_67 : decode cX9_judge 67 = .ok (.getfield 135, 3) := by decide +kernel
theorem dX9_judge_70 : decode cX9_judge 70 = .ok (.ireturn, 1) := by decide +kernel
theorem dX9_behind_0 : decode cX9_behind 0 = .ok (.iload_n 1, 1) := by decide +kernel
theorem dX9_behind_1 : decode cX9_behind 1 = .ok (.invokestatic 90, 3) := by decide +kernel
theorem dX9_behind_4 : decode cX9_behind 4 = .ok (.ifCond .ne 5, 3) := by decide +kernel
theorem dX9_behind_7 : decode cX9_behind 7 = .ok (.iconst (-1), 1) := by decide +kernel
theorem dX9_behind_8 : decode cX9_behind 8 = .ok (.ireturn, 1) := by decide +kernel
theorem dX9_behind_9 : decode cX9_behind 9 = .ok (.iload_n 2, 1) := by decide +kernel
theorem dX9_behind_10 : decode cX9_behind 10 = .ok (.i2l, 1) := by decide +kernel
theorem dX9_behind_11 : decode cX9_behind 11 = .ok (.lconst 0, 1) := by decide +kernel
theorem dX9_behind_12 : decode cX9_behind 12 = .ok (.ldc2_w 190, 3) := by decide +kernel
theorem dX9_behind_15 : decode cX9_behind 15 = .ok (.invokestatic 76, 3) := by decide +kernel
theorem dX9_behind_18 : decode cX9_behind 18 = .ok (.ifCond .ne 6, 3) := by decide +kernel
theorem dX9_behind_21 : decode cX9_behind 21 = .ok (.bipush (-2), 2) := by decide +kernel
theorem dX9_behind_23 : decode cX9_behind 23 = .ok (.ireturn, 1) := by decide +kernel
theorem dX9_behind_24 : decode cX9_behind 24 = .ok (.aload_n 0, 1) := by decide +kernel
theorem dX9_behind_25 : decode cX9_behind 25 = .ok (.invokevirtual 192, 3) := by decide +kernel
theorem dX9_behind_28 : decode cX9_behind 28 = .ok (.istore_n 3, 1) := by decide +kernel
theorem dX9_behind_29 : decode cX9_behind 29 = .ok (.aload_n 0, 1) := by decide +kernel
theorem dX9_behind_30 : decode cX9_behind 30 = .ok (.iload_n 3, 1) := by decide +kernel
theorem dX9_behind_31 : decode cX9_behind 31 = .ok (.bipush (-6), 2) := by decide +kernel
theorem dX9_behind_33 : decode cX9_behind 33 = .ok (.if_icmp .eq 7, 3) := by decide +kernel
theorem dX9_behind_36 : decode cX9_behind 36 = .ok (.iload_n 3, 1) := by decide +kernel
theorem dX9_behind_37 : decode cX9_behind 37 = .ok (.goto 36, 3) := by decide +kernel
theorem dX9_behind_40 : decode cX9_behind 40 = .ok (.iload_n 2, 1) := by decide +kernel
theorem dX9_behind_41 : decode cX9_behind 41 = .ok (.ifCond .ne 12, 3) := by decide +kernel
theorem dX9_behind_44 : decode cX9_behind 44 = .ok (.aload_n 0, 1) := by decide +kernel
theorem dX9_behind_45 : decode cX9_behind 45 = .ok (.getfield 19, 3) := by decide +kernel
theorem dX9_behind_48 : decode cX9_behind 48 = .ok (.iload_n 1, 1) := by decide +kernel
theorem dX9_behind_49 : decode cX9_behind 49 = .ok (.iaload, 1) := by decide +kernel
theorem dX9_behind_50 : decode cX9_behind 50 = .ok (.goto 23, 3) := by decide +kernel
theorem dX9_behind_53 : decode cX9_behind 53 = .ok (.iload_n 2, 1) := by decide +kernel
theorem dX9_behind_54 : decode cX9_behind 54 = .ok (.iconst 1, 1) := by decide +kernel
theorem dX9_behind_55 : decode cX9_behind 55 = .ok (.if_icmp .ne 12, 3) := by decide +kernel
theorem dX9_behind_58 : decode cX9_behind 58 = .ok (.aload_n 0, 1) := by decide +kernel
theorem dX9_behind_59 : decode cX9_behind 59 = .ok (.getfield 25, 3) := by decide +kernel
theorem dX9_behind_62 : decode cX9_behind 62 = .ok (.iload_n 1, 1) := by decide +kernel
theorem dX9_behind_63 : decode cX9_behind 63 = .ok (.iaload, 1) := by decide +kernel
theorem dX9_behind_64 : decode cX9_behind 64 = .ok (.goto 9, 3) := by decide +kernel
theorem dX9_behind_67 : decode cX9_behind 67 = .ok (.aload_n 0, 1) := by decide +kernel
theorem dX9_behind_68 : decode cX9_behind 68 = .ok (.getfield 28, 3) := by decide +kernel
theorem dX9_behind_71 : decode cX9_behind 71 = .ok (.iload_n 1, 1) := by decide +kernel
theorem dX9_behind_72 : decode cX9_behind 72 = .ok (.iaload, 1) := by decide +kernel
theorem dX9_behind_73 : decode cX9_behind 73 = .ok (.invokevirtual 195, 3) := by decide +kernel
theorem dX9_behind_76 : decode cX9_behind 76 = .ok (.ireturn, 1) := by decide +kernel
theorem dX9_stands_0 : decode cX9_stands 0 = .ok (.iload_n 1, 1) := by decide +kernel
theorem dX9_stands_1 : decode cX9_stands 1 = .ok (.invokestatic 82, 3) := by decide +kernel
theorem dX9_stands_4 : decode cX9_stands 4 = .ok (.ifCond .ne 5, 3) := by decide +kernel
theorem dX9_stands_7 : decode cX9_stands 7 = .ok (.iconst (-1), 1) := by decide +kernel
theorem dX9_stands_8 : decode cX9_stands 8 = .ok (.ireturn, 1) := by decide +kernel
theorem dX9_stands_9 : decode cX9_stands 9 = .ok (.iload_n 2, 1) := by decide +kernel
theorem dX9_stands_10 : decode cX9_stands 10 = .ok (.i2l, 1) := by decide +kernel
theorem dX9_stands_11 : decode cX9_stands 11 = .ok (.lconst 0, 1) := by decide +kernel
theorem dX9_stands_12 : decode cX9_stands 12 = .ok (.ldc2_w 190, 3) := by decide +kernel
theorem dX9_stands_15 : decode cX9_stands 15 = .ok (.invokestatic 76, 3) := by decide +kernel
theorem dX9_stands_18 : decode cX9_stands 18 = .ok (.ifCond .ne 6, 3) := by decide +kernel
theorem dX9_stands_21 : decode cX9_stands 21 = .ok (.bipush (-2), 2) := by decide +kernel
theorem dX9_stands_23 : decode cX9_stands 23 = .ok (.ireturn, 1) := by decide +kernel
theorem dX9_stands_24 : decode cX9_stands 24 = .ok (.aload_n 0, 1) := by decide +kernel
theorem dX9_stands_25 : decode cX9_stands 25 = .ok (.invokevirtual 192, 3) := by decide +kernel
theorem dX9_stands_28 : decode cX9_stands 28 = .ok (.istore_n 3, 1) := by decide +kernel
theorem dX9_stands_29 : decode cX9_stands 29 = .ok (.aload_n 0, 1) := by decide +kernel
theorem dX9_stands_30 : decode cX9_stands 30 = .ok (.iload_n 3, 1) := by decide +kernel
theorem dX9_stands_31 : decode cX9_stands 31 = .ok (.bipush (-6), 2) := by decide +kernel
theorem dX9_stands_33 : decode cX9_stands 33 = .ok (.if_icmp .eq 7, 3) := by decide +kernel
theorem dX9_stands_36 : decode cX9_stands 36 = .ok (.iload_n 3, 1) := by decide +kernel
theorem dX9_stands_37 : decode cX9_stands 37 = .ok (.goto 36, 3) := by decide +kernel
theorem dX9_stands_40 : decode cX9_stands 40 = .ok (.iload_n 2, 1) := by decide +kernel
theorem dX9_stands_41 : decode cX9_stands 41 = .ok (.ifCond .ne 12, 3) := by decide +kernel
theorem dX9_stands_44 : decode cX9_stands 44 = .ok (.aload_n 0, 1) := by decide +kernel
theorem dX9_stands_45 : decode cX9_stands 45 = .ok (.getfield 7, 3) := by decide +kernel
theorem dX9_stands_48 : decode cX9_stands 48 = .ok (.iload_n 1, 1) := by decide +kernel
theorem dX9_stands_49 : decode cX9_stands 49 = .ok (.iaload, 1) := by decide +kernel
theorem dX9_stands_50 : decode cX9_stands 50 = .ok (.goto 23, 3) := by decide +kernel
theorem dX9_stands_53 : decode cX9_stands 53 = .ok (.iload_n 2, 1) := by decide +kernel
theorem dX9_stands_54 : decode cX9_stands 54 = .ok (.iconst 1, 1) := by decide +kernel
theorem dX9_stands_55 : decode cX9_stands 55 = .ok (.if_icmp .ne 12, 3) := by decide +kernel
theorem dX9_stands_58 : decode cX9_stands 58 = .ok (.aload_n 0, 1) := by decide +kernel
theorem dX9_stands_59 : decode cX9_stands 59 = .ok (.getfield 13, 3) := by decide +kernel
theorem dX9_stands_62 : decode cX9_stands 62 = .ok (.iload_n 1, 1) := by decide +kernel
theorem dX9_stands_63 : decode cX9_stands 63 = .ok (.iaload, 1) := by decide +kernel
theorem dX9_stands_64 : decode cX9_stands 64 = .ok (.goto 9, 3) := by decide +kernel
theorem dX9_stands_67 : decode cX9_stands 67 = .ok (.aload_n 0, 1) := by decide +kernel
theorem dX9_stands_68 : decode cX9_stands 68 = .ok (.getfield 16, 3) := by decide +kernel
theorem dX9_stands_71 : decode cX9_stands 71 = .ok (.iload_n 1, 1) := by decide +kernel
theorem dX9_stands_72 : decode cX9_stands 72 = .ok (.iaload, 1) := by decide +kernel
theorem dX9_stands_73 : decode cX9_stands 73 = .ok (.invokevirtual 195, 3) := by decide +kernel
theorem dX9_stands_76 : decode cX9_stands 76 = .ok (.ireturn, 1) := by decide +kernel
theorem dX9_whoChose_0 : decode cX9_whoChose 0 = .ok (.iconst 0, 1) := by decide +kernel
theorem dX9_whoChose_1 : decode cX9_whoChose 1 = .ok (.istore_n 1, 1) := by decide +kernel
theorem dX9_whoChose_2 : decode cX9_whoChose 2 = .ok (.iconst 0, 1) := by decide +kernel
theorem dX9_whoChose_3 : decode cX9_whoChose 3 = .ok (.istore_n 2, 1) := by decide +kernel
theorem dX9_whoChose_4 : decode cX9_whoChose 4 = .ok (.iload_n 2, 1) := by decide +kernel
theorem dX9_whoChose_5 : decode cX9_whoChose 5 = .ok (.bipush 6, 2) := by decide +kernel
theorem dX9_whoChose_7 : decode cX9_whoChose 7 = .ok (.if_icmp .ge 28, 3) := by decide +kernel
theorem dX9_whoChose_10 : decode cX9_whoChose 10 = .ok (.iload_n 1, 1) := by decide +kernel
theorem dX9_whoChose_11 : decode cX9_whoChose 11 = .ok (.aload_n 0, 1) := by decide +kernel
theorem dX9_whoChose_12 : decode cX9_whoChose 12 = .ok (.getfield 28, 3) := by decide +kernel
theorem dX9_whoChose_15 : decode cX9_whoChose 15 = .ok (.iload_n 2, 1) := by decide +kernel
theorem dX9_whoChose_16 : decode cX9_whoChose 16 = .ok (.iaload, 1) := by decide +kernel
theorem dX9_whoChose_17 : decode cX9_whoChose 17 = .ok (.ifCond .ge 7, 3) := by decide +kernel
theorem dX9_whoChose_20 : decode cX9_whoChose 20 = .ok (.iconst 0, 1) := by decide +kernel
theorem dX9_whoChose_21 : decode cX9_whoChose 21 = .ok (.goto 6, 3) := by decide +kernel
theorem dX9_whoChose_24 : decode cX9_whoChose 24 = .ok (.iconst 1, 1) := by decide +kernel
theorem dX9_whoChose_25 : decode cX9_whoChose 25 = .ok (.iload_n 2, 1) := by decide +kernel
theorem dX9_whoChose_26 : decode cX9_whoChose 26 = .ok (.ishl, 1) := by decide +kernel
theorem dX9_whoChose_27 : decode cX9_whoChose 27 = .ok (.ior, 1) := by decide +kernel
theorem dX9_whoChose_28 : decode cX9_whoChose 28 = .ok (.istore_n 1, 1) := by decide +kernel
theorem dX9_whoChose_29 : decode cX9_whoChose 29 = .ok (.iinc 2 1, 3) := by decide +kernel
theorem dX9_whoChose_32 : decode cX9_whoChose 32 = .ok (.goto (-28), 3) := by decide +kernel
theorem dX9_whoChose_35 : decode cX9_whoChose 35 = .ok (.iload_n 1, 1) := by decide +kernel
theorem dX9_whoChose_36 : decode cX9_whoChose 36 = .ok (.ireturn, 1) := by decide +kernel
theorem dX9_whoRight_0 : decode cX9_whoRight 0 = .ok (.iconst 0, 1) := by decide +kernel
theorem dX9_whoRight_1 : decode cX9_whoRight 1 = .ok (.istore_n 1, 1) := by decide +kernel
theorem dX9_whoRight_2 : decode cX9_whoRight 2 = .ok (.iconst 0, 1) := by decide +kernel
theorem dX9_whoRight_3 : decode cX9_whoRight 3 = .ok (.istore_n 2, 1) := by decide +kernel
theorem dX9_whoRight_4 : decode cX9_whoRight 4 = .ok (.iload_n 2, 1) := by decide +kernel
theorem dX9_whoRight_5 : decode cX9_whoRight 5 = .ok (.bipush 6, 2) := by decide +kernel
theorem dX9_whoRight_7 : decode cX9_whoRight 7 = .ok (.if_icmp .ge 53, 3) := by decide +kernel
theorem dX9_whoRight_10 : decode cX9_whoRight 10 = .ok (.aload_n 0, 1) := by decide +kernel
theorem dX9_whoRight_11 : decode cX9_whoRight 11 = .ok (.getfield 28, 3) := by decide +kernel
theorem dX9_whoRight_14 : decode cX9_whoRight 14 = .ok (.iload_n 2, 1) := by decide +kernel
theorem dX9_whoRight_15 : decode cX9_whoRight 15 = .ok (.iaload, 1) := by decide +kernel
theorem dX9_whoRight_16 : decode cX9_whoRight 16 = .ok (.ifCond .lt 22, 3) := by decide +kernel
theorem dX9_whoRight_19 : decode cX9_whoRight 19 = .ok (.aload_n 0, 1) := by decide +kernel
theorem dX9_whoRight_20 : decode cX9_whoRight 20 = .ok (.getfield 16, 3) := by decide +kernel
theorem dX9_whoRight_23 : decode cX9_whoRight 23 = .ok (.aload_n 0, 1) := by decide +kernel
theorem dX9_whoRight_24 : decode cX9_whoRight 24 = .ok (.getfield 28, 3) := by decide +kernel
theorem dX9_whoRight_27 : decode cX9_whoRight 27 = .ok (.iload_n 2, 1) := by decide +kernel
theorem dX9_whoRight_28 : decode cX9_whoRight 28 = .ok (.iaload, 1) := by decide +kernel
theorem dX9_whoRight_29 : decode cX9_whoRight 29 = .ok (.iaload, 1) := by decide +kernel
theorem dX9_whoRight_30 : decode cX9_whoRight 30 = .ok (.iload_n 2, 1) := by decide +kernel
theorem dX9_whoRight_31 : decode cX9_whoRight 31 = .ok (.if_icmp .ne 7, 3) := by decide +kernel
theorem dX9_whoRight_34 : decode cX9_whoRight 34 = .ok (.iconst 1, 1) := by decide +kernel
theorem dX9_whoRight_35 : decode cX9_whoRight 35 = .ok (.goto 4, 3) := by decide +kernel
theorem dX9_whoRight_38 : decode cX9_whoRight 38 = .ok (.iconst 0, 1) := by decide +kernel
theorem dX9_whoRight_39 : decode cX9_whoRight 39 = .ok (.istore_n 3, 1) := by decide +kernel
theorem dX9_whoRight_40 : decode cX9_whoRight 40 = .ok (.iload_n 1, 1) := by decide +kernel
theorem dX9_whoRight_41 : decode cX9_whoRight 41 = .ok (.iload_n 3, 1) := by decide +kernel
theorem dX9_whoRight_42 : decode cX9_whoRight 42 = .ok (.ifCond .eq 9, 3) := by decide +kernel
theorem dX9_whoRight_45 : decode cX9_whoRight 45 = .ok (.iconst 1, 1) := by decide +kernel
theorem dX9_whoRight_46 : decode cX9_whoRight 46 = .ok (.iload_n 2, 1) := by decide +kernel
theorem dX9_whoRight_47 : decode cX9_whoRight 47 = .ok (.ishl, 1) := by decide +kernel
theorem dX9_whoRight_48 : decode cX9_whoRight 48 = .ok (.goto 4, 3) := by decide +kernel
theorem dX9_whoRight_51 : decode cX9_whoRight 51 = .ok (.iconst 0, 1) := by decide +kernel
theorem dX9_whoRight_52 : decode cX9_whoRight 52 = .ok (.ior, 1) := by decide +kernel
theorem dX9_whoRight_53 : decode cX9_whoRight 53 = .ok (.istore_n 1, 1) := by decide +kernel
theorem dX9_whoRight_54 : decode cX9_whoRight 54 = .ok (.iinc 2 1, 3) := by decide +kernel
theorem dX9_whoRight_57 : decode cX9_whoRight 57 = .ok (.goto (-53), 3) := by decide +kernel
theorem dX9_whoRight_60 : decode cX9_whoRight 60 = .ok (.iload_n 1, 1) := by decide +kernel
theorem dX9_whoRight_61 : decode cX9_whoRight 61 = .ok (.ireturn, 1) := by decide +kernel
theorem dX9_nickMany_0 : decode cX9_nickMany 0 = .ok (.iconst 0, 1) := by decide +kernel
theorem dX9_nickMany_1 : decode cX9_nickMany 1 = .ok (.istore_n 1, 1) := by decide +kernel
theorem dX9_nickMany_2 : decode cX9_nickMany 2 = .ok (.iconst 0, 1) := by decide +kernel
theorem dX9_nickMany_3 : decode cX9_nickMany 3 = .ok (.istore_n 2, 1) := by decide +kernel
theorem dX9_nickMany_4 : decode cX9_nickMany 4 = .ok (.iload_n 2, 1) := by decide +kernel
theorem dX9_nickMany_5 : decode cX9_nickMany 5 = .ok (.bipush 40, 2) := by decide +kernel
theorem dX9_nickMany_7 : decode cX9_nickMany 7 = .ok (.if_icmp .ge 18, 3) := by decide +kernel
theorem dX9_nickMany_10 : decode cX9_nickMany 10 = .ok (.iload_n 1, 1) := by decide +kernel
theorem dX9_nickMany_11 : decode cX9_nickMany 11 = .ok (.aload_n 0, 1) := by decide +kernel
theorem dX9_nickMany_12 : decode cX9_nickMany 12 = .ok (.getfield 13, 3) := by decide +kernel
theorem dX9_nickMany_15 : decode cX9_nickMany 15 = .ok (.iload_n 2, 1) := by decide +kernel
theorem dX9_nickMany_16 : decode cX9_nickMany 16 = .ok (.iaload, 1) := by decide +kernel
theorem dX9_nickMany_17 : decode cX9_nickMany 17 = .ok (.iadd, 1) := by decide +kernel
theorem dX9_nickMany_18 : decode cX9_nickMany 18 = .ok (.istore_n 1, 1) := by decide +kernel
theorem dX9_nickMany_19 : decode cX9_nickMany 19 = .ok (.iinc 2 1, 3) := by decide +kernel
theorem dX9_nickMany_22 : decode cX9_nickMany 22 = .ok (.goto (-18), 3) := by decide +kernel
theorem dX9_nickMany_25 : decode cX9_nickMany 25 = .ok (.iload_n 1, 1) := by decide +kernel
theorem dX9_nickMany_26 : decode cX9_nickMany 26 = .ok (.ireturn, 1) := by decide +kernel
theorem dX9_ofHouse_0 : decode cX9_ofHouse 0 = .ok (.iload_n 1, 1) := by decide +kernel
theorem dX9_ofHouse_1 : decode cX9_ofHouse 1 = .ok (.ifCond .ne 10, 3) := by decide +kernel
theorem dX9_ofHouse_4 : decode cX9_ofHouse 4 = .ok (.aload_n 0, 1) := by decide +kernel
theorem dX9_ofHouse_5 : decode cX9_ofHouse 5 = .ok (.invokevirtual 198, 3) := by decide +kernel
theorem dX9_ofHouse_8 : decode cX9_ofHouse 8 = .ok (.goto 31, 3) := by decide +kernel
theorem dX9_ofHouse_11 : decode cX9_ofHouse 11 = .ok (.iload_n 1, 1) := by decide +kernel
theorem dX9_ofHouse_12 : decode cX9_ofHouse 12 = .ok (.iconst 1, 1) := by decide +kernel
theorem dX9_ofHouse_13 : decode cX9_ofHouse 13 = .ok (.if_icmp .ne 10, 3) := by decide +kernel
theorem dX9_ofHouse_16 : decode cX9_ofHouse 16 = .ok (.aload_n 0, 1) := by decide +kernel
theorem dX9_ofHouse_17 : decode cX9_ofHouse 17 = .ok (.invokevirtual 201, 3) := by decide +kernel
theorem dX9_ofHouse_20 : decode cX9_ofHouse 20 = .ok (.goto 19, 3) := by decide +kernel
theorem dX9_ofHouse_23 : decode cX9_ofHouse 23 = .ok (.iload_n 1, 1) := by decide +kernel
theorem dX9_ofHouse_24 : decode cX9_ofHouse 24 = .ok (.iconst 2, 1) := by decide +kernel
theorem dX9_ofHouse_25 : decode cX9_ofHouse 25 = .ok (.if_icmp .ne 10, 3) := by decide +kernel
theorem dX9_ofHouse_28 : decode cX9_ofHouse 28 = .ok (.aload_n 0, 1) := by decide +kernel
theorem dX9_ofHouse_29 : decode cX9_ofHouse 29 = .ok (.invokevirtual 204, 3) := by decide +kernel
theorem dX9_ofHouse_32 : decode cX9_ofHouse 32 = .ok (.goto 7, 3) := by decide +kernel
theorem dX9_ofHouse_35 : decode cX9_ofHouse 35 = .ok (.aload_n 0, 1) := by decide +kernel
theorem dX9_ofHouse_36 : decode cX9_ofHouse 36 = .ok (.getfield 129, 3) := by decide +kernel
theorem dX9_ofHouse_39 : decode cX9_ofHouse 39 = .ok (.ireturn, 1) := by decide +kernel
theorem dX9_house_0 : decode cX9_house 0 = .ok (.iload_n 1, 1) := by decide +kernel
theorem dX9_house_1 : decode cX9_house 1 = .ok (.i2l, 1) := by decide +kernel
theorem dX9_house_2 : decode cX9_house 2 = .ok (.lconst 0, 1) := by decide +kernel
theorem dX9_house_3 : decode cX9_house 3 = .ok (.ldc2_w 207, 3) := by decide +kernel
theorem dX9_house_6 : decode cX9_house 6 = .ok (.invokestatic 76, 3) := by decide +kernel
theorem dX9_house_9 : decode cX9_house 9 = .ok (.ifCond .ne 6, 3) := by decide +kernel
theorem dX9_house_12 : decode cX9_house 12 = .ok (.bipush (-2), 2) := by decide +kernel
theorem dX9_house_14 : decode cX9_house 14 = .ok (.ireturn, 1) := by decide +kernel
theorem dX9_house_15 : decode cX9_house 15 = .ok (.aload_n 0, 1) := by decide +kernel
theorem dX9_house_16 : decode cX9_house 16 = .ok (.invokevirtual 192, 3) := by decide +kernel
theorem dX9_house_19 : decode cX9_house 19 = .ok (.istore_n 2, 1) := by decide +kernel
theorem dX9_house_20 : decode cX9_house 20 = .ok (.aload_n 0, 1) := by decide +kernel
theorem dX9_house_21 : decode cX9_house 21 = .ok (.iload_n 2, 1) := by decide +kernel
theorem dX9_house_22 : decode cX9_house 22 = .ok (.bipush (-6), 2) := by decide +kernel
theorem dX9_house_24 : decode cX9_house 24 = .ok (.if_icmp .eq 7, 3) := by decide +kernel
theorem dX9_house_27 : decode cX9_house 27 = .ok (.iload_n 2, 1) := by decide +kernel
theorem dX9_house_28 : decode cX9_house 28 = .ok (.goto 8, 3) := by decide +kernel
theorem dX9_house_31 : decode cX9_house 31 = .ok (.aload_n 0, 1) := by decide +kernel
theorem dX9_house_32 : decode cX9_house 32 = .ok (.iload_n 1, 1) := by decide +kernel
theorem dX9_house_33 : decode cX9_house 33 = .ok (.invokevirtual 209, 3) := by decide +kernel
theorem dX9_house_36 : decode cX9_house 36 = .ok (.invokevirtual 195, 3) := by decide +kernel
theorem dX9_house_39 : decode cX9_house 39 = .ok (.ireturn, 1) := by decide +kernel
theorem dX9_wrong_0 : decode cX9_wrong 0 = .ok (.iload_n 1, 1) := by decide +kernel
theorem dX9_wrong_1 : decode cX9_wrong 1 = .ok (.i2l, 1) := by decide +kernel
theorem dX9_wrong_2 : decode cX9_wrong 2 = .ok (.lconst 0, 1) := by decide +kernel
theorem dX9_wrong_3 : decode cX9_wrong 3 = .ok (.lconst 1, 1) := by decide +kernel
theorem dX9_wrong_4 : decode cX9_wrong 4 = .ok (.invokestatic 76, 3) := by decide +kernel
theorem dX9_wrong_7 : decode cX9_wrong 7 = .ok (.ifCond .ne 6, 3) := by decide +kernel
theorem dX9_wrong_10 : decode cX9_wrong 10 = .ok (.bipush (-2), 2) := by decide +kernel
theorem dX9_wrong_12 : decode cX9_wrong 12 = .ok (.ireturn, 1) := by decide +kernel
theorem dX9_wrong_13 : decode cX9_wrong 13 = .ok (.aload_n 0, 1) := by decide +kernel
theorem dX9_wrong_14 : decode cX9_wrong 14 = .ok (.aload_n 0, 1) := by decide +kernel
theorem dX9_wrong_15 : decode cX9_wrong 15 = .ok (.invokevirtual 192, 3) := by decide +kernel
theorem dX9_wrong_18 : decode cX9_wrong 18 = .ok (.invokevirtual 195, 3) := by decide +kernel
theorem dX9_wrong_21 : decode cX9_wrong 21 = .ok (.istore_n 2, 1) := by decide +kernel
theorem dX9_wrong_22 : decode cX9_wrong 22 = .ok (.iload_n 2, 1) := by decide +kernel
theorem dX9_wrong_23 : decode cX9_wrong 23 = .ok (.bipush (-6), 2) := by decide +kernel
theorem dX9_wrong_25 : decode cX9_wrong 25 = .ok (.if_icmp .eq 7, 3) := by decide +kernel
theorem dX9_wrong_28 : decode cX9_wrong 28 = .ok (.iload_n 2, 1) := by decide +kernel
theorem dX9_wrong_29 : decode cX9_wrong 29 = .ok (.goto 18, 3) := by decide +kernel
theorem dX9_wrong_32 : decode cX9_wrong 32 = .ok (.iload_n 1, 1) := by decide +kernel
theorem dX9_wrong_33 : decode cX9_wrong 33 = .ok (.ifCond .ne 10, 3) := by decide +kernel
theorem dX9_wrong_36 : decode cX9_wrong 36 = .ok (.aload_n 0, 1) := by decide +kernel
theorem dX9_wrong_37 : decode cX9_wrong 37 = .ok (.getfield 161, 3) := by decide +kernel
theorem dX9_wrong_40 : decode cX9_wrong 40 = .ok (.goto 7, 3) := by decide +kernel
theorem dX9_wrong_43 : decode cX9_wrong 43 = .ok (.aload_n 0, 1) := by decide +kernel
theorem dX9_wrong_44 : decode cX9_wrong 44 = .ok (.getfield 164, 3) := by decide +kernel
theorem dX9_wrong_47 : decode cX9_wrong 47 = .ok (.ireturn, 1) := by decide +kernel
theorem dX9_done_0 : decode cX9_done 0 = .ok (.aload_n 0, 1) := by decide +kernel
theorem dX9_done_1 : decode cX9_done 1 = .ok (.invokevirtual 192, 3) := by decide +kernel
theorem dX9_done_4 : decode cX9_done 4 = .ok (.istore_n 1, 1) := by decide +kernel
theorem dX9_done_5 : decode cX9_done 5 = .ok (.iload_n 1, 1) := by decide +kernel
theorem dX9_done_6 : decode cX9_done 6 = .ok (.bipush (-6), 2) := by decide +kernel
theorem dX9_done_8 : decode cX9_done 8 = .ok (.if_icmp .eq 9, 3) := by decide +kernel
theorem dX9_done_11 : decode cX9_done 11 = .ok (.aload_n 0, 1) := by decide +kernel
theorem dX9_done_12 : decode cX9_done 12 = .ok (.iload_n 1, 1) := by decide +kernel
theorem dX9_done_13 : decode cX9_done 13 = .ok (.invokevirtual 195, 3) := by decide +kernel
theorem dX9_done_16 : decode cX9_done 16 = .ok (.ireturn, 1) := by decide +kernel
theorem dX9_done_17 : decode cX9_done 17 = .ok (.aload_n 0, 1) := by decide +kernel
theorem dX9_done_18 : decode cX9_done 18 = .ok (.iconst 0, 1) := by decide +kernel
theorem dX9_done_19 : decode cX9_done 19 = .ok (.putfield 97, 3) := by decide +kernel
theorem dX9_done_22 : decode cX9_done 22 = .ok (.aload_n 0, 1) := by decide +kernel
theorem dX9_done_23 : decode cX9_done 23 = .ok (.getfield 101, 3) := by decide +kernel
theorem dX9_done_26 : decode cX9_done 26 = .ok (.ireturn, 1) := by decide +kernel
theorem dX9_isRow_0 : decode cX9_isRow 0 = .ok (.iload_n 0, 1) := by decide +kernel
theorem dX9_isRow_1 : decode cX9_isRow 1 = .ok (.istore_n 2, 1) := by decide +kernel
theorem dX9_isRow_2 : decode cX9_isRow 2 = .ok (.iload_n 0, 1) := by decide +kernel
theorem dX9_isRow_3 : decode cX9_isRow 3 = .ok (.ifCond .le 7, 3) := by decide +kernel
theorem dX9_isRow_6 : decode cX9_isRow 6 = .ok (.iconst 1, 1) := by decide +kernel
theorem dX9_isRow_7 : decode cX9_isRow 7 = .ok (.goto 4, 3) := by decide +kernel
theorem dX9_isRow_10 : decode cX9_isRow 10 = .ok (.iconst 0, 1) := by decide +kernel
theorem dX9_isRow_11 : decode cX9_isRow 11 = .ok (.istore_n 3, 1) := by decide +kernel
theorem dX9_isRow_12 : decode cX9_isRow 12 = .ok (.iconst 0, 1) := by decide +kernel
theorem dX9_isRow_13 : decode cX9_isRow 13 = .ok (.istore 4, 2) := by decide +kernel
theorem dX9_isRow_15 : decode cX9_isRow 15 = .ok (.iload 4, 2) := by decide +kernel
theorem dX9_isRow_17 : decode cX9_isRow 17 = .ok (.iload_n 1, 1) := by decide +kernel
theorem dX9_isRow_18 : decode cX9_isRow 18 = .ok (.if_icmp .ge 31, 3) := by decide +kernel
theorem dX9_isRow_21 : decode cX9_isRow 21 = .ok (.iload_n 3, 1) := by decide +kernel
theorem dX9_isRow_22 : decode cX9_isRow 22 = .ok (.ifCond .eq 14, 3) := by decide +kernel
theorem dX9_isRow_25 : decode cX9_isRow 25 = .ok (.iload_n 2, 1) := by decide +kernel
theorem dX9_isRow_26 : decode cX9_isRow 26 = .ok (.bipush 10, 2) := by decide +kernel
theorem dX9_isRow_28 : decode cX9_isRow 28 = .ok (.irem, 1) := by decide +kernel
theorem dX9_isRow_29 : decode cX9_isRow 29 = .ok (.ifCond .le 7, 3) := by decide +kernel
theorem dX9_isRow_32 : decode cX9_isRow 32 = .ok (.iconst 1, 1) := by decide +kernel
theorem dX9_isRow_33 : decode cX9_isRow 33 = .ok (.goto 4, 3) := by decide +kernel
theorem dX9_isRow_36 : decode cX9_isRow 36 = .ok (.iconst 0, 1) := by decide +kernel
theorem dX9_isRow_37 : decode cX9_isRow 37 = .ok (.istore_n 3, 1) := by decide +kernel
theorem dX9_isRow_38 : decode cX9_isRow 38 = .ok (.iload_n 2, 1) := by decide +kernel
theorem dX9_isRow_39 : decode cX9_isRow 39 = .ok (.bipush 10, 2) := by decide +kernel
theorem dX9_isRow_41 : decode cX9_isRow 41 = .ok (.idiv, 1) := by decide +kernel
theorem dX9_isRow_42 : decode cX9_isRow 42 = .ok (.istore_n 2, 1) := by decide +kernel
theorem dX9_isRow_43 : decode cX9_isRow 43 = .ok (.iinc 4 1, 3) := by decide +kernel
theorem dX9_isRow_46 : decode cX9_isRow 46 = .ok (.goto (-31), 3) := by decide +kernel
theorem dX9_isRow_49 : decode cX9_isRow 49 = .ok (.iload_n 3, 1) := by decide +kernel
theorem dX9_isRow_50 : decode cX9_isRow 50 = .ok (.ifCond .eq 11, 3) := by decide +kernel
theorem dX9_isRow_53 : decode cX9_isRow 53 = .ok (.iload_n 2, 1) := by decide +kernel
theorem dX9_isRow_54 : decode cX9_isRow 54 = .ok (.ifCond .ne 7, 3) := by decide +kernel
theorem dX9_isRow_57 : decode cX9_isRow 57 = .ok (.iconst 1, 1) := by decide +kernel
theorem dX9_isRow_58 : decode cX9_isRow 58 = .ok (.goto 4, 3) := by decide +kernel
theorem dX9_isRow_61 : decode cX9_isRow 61 = .ok (.iconst 0, 1) := by decide +kernel
theorem dX9_isRow_62 : decode cX9_isRow 62 = .ok (.ireturn, 1) := by decide +kernel
theorem dX9_readBoth_0 : decode cX9_readBoth 0 = .ok (.iload_n 3, 1) := by decide +kernel
theorem dX9_readBoth_1 : decode cX9_readBoth 1 = .ok (.i2l, 1) := by decide +kernel
theorem dX9_readBoth_2 : decode cX9_readBoth 2 = .ok (.lconst 1, 1) := by decide +kernel
theorem dX9_readBoth_3 : decode cX9_readBoth 3 = .ok (.ldc2_w 88, 3) := by decide +kernel
theorem dX9_readBoth_6 : decode cX9_readBoth 6 = .ok (.invokestatic 76, 3) := by decide +kernel
theorem dX9_readBoth_9 : decode cX9_readBoth 9 = .ok (.ifCond .eq 19, 3) := by decide +kernel
theorem dX9_readBoth_12 : decode cX9_readBoth 12 = .ok (.iload_n 1, 1) := by decide +kernel
theorem dX9_readBoth_13 : decode cX9_readBoth 13 = .ok (.iload_n 3, 1) := by decide +kernel
theorem dX9_readBoth_14 : decode cX9_readBoth 14 = .ok (.invokestatic 212, 3) := by decide +kernel
theorem dX9_readBoth_17 : decode cX9_readBoth 17 = .ok (.ifCond .eq 11, 3) := by decide +kernel
theorem dX9_readBoth_20 : decode cX9_readBoth 20 = .ok (.iload_n 2, 1) := by decide +kernel
theorem dX9_readBoth_21 : decode cX9_readBoth 21 = .ok (.iload_n 3, 1) := by decide +kernel
theorem dX9_readBoth_22 : decode cX9_readBoth 22 = .ok (.invokestatic 212, 3) := by decide +kernel
theorem dX9_readBoth_25 : decode cX9_readBoth 25 = .ok (.ifCond .ne 5, 3) := by decide +kernel
theorem dX9_readBoth_28 : decode cX9_readBoth 28 = .ok (.iconst 0, 1) := by decide +kernel
theorem dX9_readBoth_29 : decode cX9_readBoth 29 = .ok (.ireturn, 1) := by decide +kernel
theorem dX9_readBoth_30 : decode cX9_readBoth 30 = .ok (.iload_n 1, 1) := by decide +kernel
theorem dX9_readBoth_31 : decode cX9_readBoth 31 = .ok (.istore 4, 2) := by decide +kernel
theorem dX9_readBoth_33 : decode cX9_readBoth 33 = .ok (.iload_n 2, 1) := by decide +kernel
theorem dX9_readBoth_34 : decode cX9_readBoth 34 = .ok (.istore 5, 2) := by decide +kernel
theorem dX9_readBoth_36 : decode cX9_readBoth 36 = .ok (.iload_n 3, 1) := by decide +kernel
theorem dX9_readBoth_37 : decode cX9_readBoth 37 = .ok (.iconst 1, 1) := by decide +kernel
theorem dX9_readBoth_38 : decode cX9_readBoth 38 = .ok (.isub, 1) := by decide +kernel
theorem dX9_readBoth_39 : decode cX9_readBoth 39 = .ok (.istore 6, 2) := by decide +kernel
theorem dX9_readBoth_41 : decode cX9_readBoth 41 = .ok (.iload 6, 2) := by decide +kernel
theorem dX9_readBoth_43 : decode cX9_readBoth 43 = .ok (.ifCond .lt 47, 3) := by decide +kernel
theorem dX9_readBoth_46 : decode cX9_readBoth 46 = .ok (.aload_n 0, 1) := by decide +kernel
theorem dX9_readBoth_47 : decode cX9_readBoth 47 = .ok (.getfield 55, 3) := by decide +kernel
theorem dX9_readBoth_50 : decode cX9_readBoth 50 = .ok (.iload 6, 2) := by decide +kernel
theorem dX9_readBoth_52 : decode cX9_readBoth 52 = .ok (.iload 4, 2) := by decide +kernel
theorem dX9_readBoth_54 : decode cX9_readBoth 54 = .ok (.bipush 10, 2) := by decide +kernel
theorem dX9_readBoth_56 : decode cX9_readBoth 56 = .ok (.irem, 1) := by decide +kernel
theorem dX9_readBoth_57 : decode cX9_readBoth 57 = .ok (.iastore, 1) := by decide +kernel
theorem dX9_readBoth_58 : decode cX9_readBoth 58 = .ok (.aload_n 0, 1) := by decide +kernel
theorem dX9_readBoth_59 : decode cX9_readBoth 59 = .ok (.getfield 58, 3) := by decide +kernel
theorem dX9_readBoth_62 : decode cX9_readBoth 62 = .ok (.iload 6, 2) := by decide +kernel
theorem dX9_readBoth_64 : decode cX9_readBoth 64 = .ok (.iload 5, 2) := by decide +kernel
theorem dX9_readBoth_66 : decode cX9_readBoth 66 = .ok (.bipush 10, 2) := by decide +kernel
theorem dX9_readBoth_68 : decode cX9_readBoth 68 = .ok (.irem, 1) := by decide +kernel
theorem dX9_readBoth_69 : decode cX9_readBoth 69 = .ok (.iastore, 1) := by decide +kernel
theorem dX9_readBoth_70 : decode cX9_readBoth 70 = .ok (.iload 4, 2) := by decide +kernel
theorem dX9_readBoth_72 : decode cX9_readBoth 72 = .ok (.bipush 10, 2) := by decide +kernel
theorem dX9_readBoth_74 : decode cX9_readBoth 74 = .ok (.idiv, 1) := by decide +kernel
theorem dX9_readBoth_75 : decode cX9_readBoth 75 = .ok (.istore 4, 2) := by decide +kernel
theorem dX9_readBoth_77 : decode cX9_readBoth 77 = .ok (.iload 5, 2) := by decide +kernel
theorem dX9_readBoth_79 : decode cX9_readBoth 79 = .ok (.bipush 10, 2) := by decide +kernel
theorem dX9_readBoth_81 : decode cX9_readBoth 81 = .ok (.idiv, 1) := by decide +kernel
theorem dX9_readBoth_82 : decode cX9_readBoth 82 = .ok (.istore 5, 2) := by decide +kernel
theorem dX9_readBoth_84 : decode cX9_readBoth 84 = .ok (.iinc 6 (-1), 3) := by decide +kernel
theorem dX9_readBoth_87 : decode cX9_readBoth 87 = .ok (.goto (-46), 3) := by decide +kernel
theorem dX9_readBoth_90 : decode cX9_readBoth 90 = .ok (.iconst 1, 1) := by decide +kernel
theorem dX9_readBoth_91 : decode cX9_readBoth 91 = .ok (.ireturn, 1) := by decide +kernel
theorem dX9_sumOf_0 : decode cX9_sumOf 0 = .ok (.iconst 0, 1) := by decide +kernel
theorem dX9_sumOf_1 : decode cX9_sumOf 1 = .ok (.istore_n 2, 1) := by decide +kernel
theorem dX9_sumOf_2 : decode cX9_sumOf 2 = .ok (.iconst 0, 1) := by decide +kernel
theorem dX9_sumOf_3 : decode cX9_sumOf 3 = .ok (.istore_n 3, 1) := by decide +kernel
theorem dX9_sumOf_4 : decode cX9_sumOf 4 = .ok (.iload_n 3, 1) := by decide +kernel
theorem dX9_sumOf_5 : decode cX9_sumOf 5 = .ok (.iload_n 1, 1) := by decide +kernel
theorem dX9_sumOf_6 : decode cX9_sumOf 6 = .ok (.if_icmp .ge 18, 3) := by decide +kernel
theorem dX9_sumOf_9 : decode cX9_sumOf 9 = .ok (.iload_n 2, 1) := by decide +kernel
theorem dX9_sumOf_10 : decode cX9_sumOf 10 = .ok (.aload_n 0, 1) := by decide +kernel
theorem dX9_sumOf_11 : decode cX9_sumOf 11 = .ok (.getfield 55, 3) := by decide +kernel
theorem dX9_sumOf_14 : decode cX9_sumOf 14 = .ok (.iload_n 3, 1) := by decide +kernel
theorem dX9_sumOf_15 : decode cX9_sumOf 15 = .ok (.iaload, 1) := by decide +kernel
theorem dX9_sumOf_16 : decode cX9_sumOf 16 = .ok (.iadd, 1) := by decide +kernel
theorem dX9_sumOf_17 : decode cX9_sumOf 17 = .ok (.istore_n 2, 1) := by decide +kernel
theorem dX9_sumOf_18 : decode cX9_sumOf 18 = .ok (.iinc 3 1, 3) := by decide +kernel
theorem dX9_sumOf_21 : decode cX9_sumOf 21 = .ok (.goto (-17), 3) := by decide +kernel
theorem dX9_sumOf_24 : decode cX9_sumOf 24 = .ok (.iload_n 2, 1) := by decide +kernel
theorem dX9_sumOf_25 : decode cX9_sumOf 25 = .ok (.ireturn, 1) := by decide +kernel
theorem dX9_nextOf_0 : decode cX9_nextOf 0 = .ok (.bipush (-6), 2) := by decide +kernel
theorem dX9_nextOf_2 : decode cX9_nextOf 2 = .ok (.istore_n 3, 1) := by decide +kernel
theorem dX9_nextOf_3 : decode cX9_nextOf 3 = .ok (.iconst 0, 1) := by decide +kernel
theorem dX9_nextOf_4 : decode cX9_nextOf 4 = .ok (.istore 4, 2) := by decide +kernel
theorem dX9_nextOf_6 : decode cX9_nextOf 6 = .ok (.iload 4, 2) := by decide +kernel
theorem dX9_nextOf_8 : decode cX9_nextOf 8 = .ok (.iload_n 2, 1) := by decide +kernel
theorem dX9_nextOf_9 : decode cX9_nextOf 9 = .ok (.if_icmp .ge 85, 3) := by decide +kernel
theorem dX9_nextOf_12 : decode cX9_nextOf 12 = .ok (.iload_n 1, 1) := by decide +kernel
theorem dX9_nextOf_13 : decode cX9_nextOf 13 = .ok (.iload 4, 2) := by decide +kernel
theorem dX9_nextOf_15 : decode cX9_nextOf 15 = .ok (.ishr, 1) := by decide +kernel
theorem dX9_nextOf_16 : decode cX9_nextOf 16 = .ok (.iconst 1, 1) := by decide +kernel
theorem dX9_nextOf_17 : decode cX9_nextOf 17 = .ok (.iand, 1) := by decide +kernel
theorem dX9_nextOf_18 : decode cX9_nextOf 18 = .ok (.iconst 1, 1) := by decide +kernel
theorem dX9_nextOf_19 : decode cX9_nextOf 19 = .ok (.if_icmp .ne 7, 3) := by decide +kernel
theorem dX9_nextOf_22 : decode cX9_nextOf 22 = .ok (.iconst 1, 1) := by decide +kernel
theorem dX9_nextOf_23 : decode cX9_nextOf 23 = .ok (.goto 4, 3) := by decide +kernel
theorem dX9_nextOf_26 : decode cX9_nextOf 26 = .ok (.iconst 0, 1) := by decide +kernel
theorem dX9_nextOf_27 : decode cX9_nextOf 27 = .ok (.istore 5, 2) := by decide +kernel
theorem dX9_nextOf_29 : decode cX9_nextOf 29 = .ok (.iload 5, 2) := by decide +kernel
theorem dX9_nextOf_31 : decode cX9_nextOf 31 = .ok (.ifCond .eq 42, 3) := by decide +kernel
theorem dX9_nextOf_34 : decode cX9_nextOf 34 = .ok (.iload_n 3, 1) := by decide +kernel
theorem dX9_nextOf_35 : decode cX9_nextOf 35 = .ok (.ifCond .lt 34, 3) := by decide +kernel
theorem dX9_nextOf_38 : decode cX9_nextOf 38 = .ok (.aload_n 0, 1) := by decide +kernel
theorem dX9_nextOf_39 : decode cX9_nextOf 39 = .ok (.getfield 55, 3) := by decide +kernel
theorem dX9_nextOf_42 : decode cX9_nextOf 42 = .ok (.iload 4, 2) := by decide +kernel
theorem dX9_nextOf_44 : decode cX9_nextOf 44 = .ok (.iaload, 1) := by decide +kernel
theorem dX9_nextOf_45 : decode cX9_nextOf 45 = .ok (.aload_n 0, 1) := by decide +kernel
theorem dX9_nextOf_46 : decode cX9_nextOf 46 = .ok (.getfield 58, 3) := by decide +kernel
theorem dX9_nextOf_49 : decode cX9_nextOf 49 = .ok (.iload_n 3, 1) := by decide +kernel
theorem dX9_nextOf_50 : decode cX9_nextOf 50 = .ok (.iaload, 1) := by decide +kernel
theorem dX9_nextOf_51 : decode cX9_nextOf 51 = .ok (.imul, 1) := by decide +kernel
theorem dX9_nextOf_52 : decode cX9_nextOf 52 = .ok (.aload_n 0, 1) := by decide +kernel
theorem dX9_nextOf_53 : decode cX9_nextOf 53 = .ok (.getfield 55, 3) := by decide +kernel
theorem dX9_nextOf_56 : decode cX9_nextOf 56 = .ok (.iload_n 3, 1) := by decide +kernel
theorem dX9_nextOf_57 : decode cX9_nextOf 57 = .ok (.iaload, 1) := by decide +kernel
theorem dX9_nextOf_58 : decode cX9_nextOf 58 = .ok (.aload_n 0, 1) := by decide +kernel
theorem dX9_nextOf_59 : decode cX9_nextOf 59 = .ok (.getfield 58, 3) := by decide +kernel
theorem dX9_nextOf_62 : decode cX9_nextOf 62 = .ok (.iload 4, 2) := by decide +kernel
theorem dX9_nextOf_64 : decode cX9_nextOf 64 = .ok (.iaload, 1) := by decide +kernel
theorem dX9_nextOf_65 : decode cX9_nextOf 65 = .ok (.imul, 1) := by decide +kernel
theorem dX9_nextOf_66 : decode cX9_nextOf 66 = .ok (.if_icmp .le 7, 3) := by decide +kernel
theorem dX9_nextOf_69 : decode cX9_nextOf 69 = .ok (.iconst 1, 1) := by decide +kernel
theorem dX9_nextOf_70 : decode cX9_nextOf 70 = .ok (.goto 4, 3) := by decide +kernel
theorem dX9_nextOf_73 : decode cX9_nextOf 73 = .ok (.iconst 0, 1) := by decide +kernel
theorem dX9_nextOf_74 : decode cX9_nextOf 74 = .ok (.istore 6, 2) := by decide +kernel
theorem dX9_nextOf_76 : decode cX9_nextOf 76 = .ok (.iload 6, 2) := by decide +kernel
theorem dX9_nextOf_78 : decode cX9_nextOf 78 = .ok (.ifCond .eq 8, 3) := by decide +kernel
theorem dX9_nextOf_81 : decode cX9_nextOf 81 = .ok (.iload 4, 2) := by decide +kernel
theorem dX9_nextOf_83 : decode cX9_nextOf 83 = .ok (.goto 4, 3) := by decide +kernel
theorem dX9_nextOf_86 : decode cX9_nextOf 86 = .ok (.iload_n 3, 1) := by decide +kernel
theorem dX9_nextOf_87 : decode cX9_nextOf 87 = .ok (.istore_n 3, 1) := by decide +kernel
theorem dX9_nextOf_88 : decode cX9_nextOf 88 = .ok (.iinc 4 1, 3) := by decide +kernel
theorem dX9_nextOf_91 : decode cX9_nextOf 91 = .ok (.goto (-85), 3) := by decide +kernel
theorem dX9_nextOf_94 : decode cX9_nextOf 94 = .ok (.iload_n 3, 1) := by decide +kernel
theorem dX9_nextOf_95 : decode cX9_nextOf 95 = .ok (.ireturn, 1) := by decide +kernel
theorem dX9_timeOf_0 : decode cX9_timeOf 0 = .ok (.iconst 0, 1) := by decide +kernel
theorem dX9_timeOf_1 : decode cX9_timeOf 1 = .ok (.istore_n 2, 1) := by decide +kernel
theorem dX9_timeOf_2 : decode cX9_timeOf 2 = .ok (.iconst 0, 1) := by decide +kernel
theorem dX9_timeOf_3 : decode cX9_timeOf 3 = .ok (.istore_n 3, 1) := by decide +kernel
theorem dX9_timeOf_4 : decode cX9_timeOf 4 = .ok (.iconst 1, 1) := by decide +kernel
theorem dX9_timeOf_5 : decode cX9_timeOf 5 = .ok (.iload_n 1, 1) := by decide +kernel
theorem dX9_timeOf_6 : decode cX9_timeOf 6 = .ok (.ishl, 1) := by decide +kernel
theorem dX9_timeOf_7 : decode cX9_timeOf 7 = .ok (.iconst 1, 1) := by decide +kernel
theorem dX9_timeOf_8 : decode cX9_timeOf 8 = .ok (.isub, 1) := by decide +kernel
theorem dX9_timeOf_9 : decode cX9_timeOf 9 = .ok (.istore 4, 2) := by decide +kernel
theorem dX9_timeOf_11 : decode cX9_timeOf 11 = .ok (.iload 4, 2) := by decide +kernel
theorem dX9_timeOf_13 : decode cX9_timeOf 13 = .ok (.ifCond .eq 48, 3) := by decide +kernel
theorem dX9_timeOf_16 : decode cX9_timeOf 16 = .ok (.aload_n 0, 1) := by decide +kernel
theorem dX9_timeOf_17 : decode cX9_timeOf 17 = .ok (.iload 4, 2) := by decide +kernel
theorem dX9_timeOf_19 : decode cX9_timeOf 19 = .ok (.iload_n 1, 1) := by decide +kernel
theorem dX9_timeOf_20 : decode cX9_timeOf 20 = .ok (.invokevirtual 216, 3) := by decide +kernel
theorem dX9_timeOf_23 : decode cX9_timeOf 23 = .ok (.istore 5, 2) := by decide +kernel
theorem dX9_timeOf_25 : decode cX9_timeOf 25 = .ok (.iload_n 2, 1) := by decide +kernel
theorem dX9_timeOf_26 : decode cX9_timeOf 26 = .ok (.aload_n 0, 1) := by decide +kernel
theorem dX9_timeOf_27 : decode cX9_timeOf 27 = .ok (.getfield 58, 3) := by decide +kernel
theorem dX9_timeOf_30 : decode cX9_timeOf 30 = .ok (.iload 5, 2) := by decide +kernel
theorem dX9_timeOf_32 : decode cX9_timeOf 32 = .ok (.iaload, 1) := by decide +kernel
theorem dX9_timeOf_33 : decode cX9_timeOf 33 = .ok (.iadd, 1) := by decide +kernel
theorem dX9_timeOf_34 : decode cX9_timeOf 34 = .ok (.istore_n 2, 1) := by decide +kernel
theorem dX9_timeOf_35 : decode cX9_timeOf 35 = .ok (.iload_n 3, 1) := by decide +kernel
theorem dX9_timeOf_36 : decode cX9_timeOf 36 = .ok (.iload_n 2, 1) := by decide +kernel
theorem dX9_timeOf_37 : decode cX9_timeOf 37 = .ok (.aload_n 0, 1) := by decide +kernel
theorem dX9_timeOf_38 : decode cX9_timeOf 38 = .ok (.getfield 55, 3) := by decide +kernel
theorem dX9_timeOf_41 : decode cX9_timeOf 41 = .ok (.iload 5, 2) := by decide +kernel
theorem dX9_timeOf_43 : decode cX9_timeOf 43 = .ok (.iaload, 1) := by decide +kernel
theorem dX9_timeOf_44 : decode cX9_timeOf 44 = .ok (.imul, 1) := by decide +kernel
theorem dX9_timeOf_45 : decode cX9_timeOf 45 = .ok (.iadd, 1) := by decide +kernel
theorem dX9_timeOf_46 : decode cX9_timeOf 46 = .ok (.istore_n 3, 1) := by decide +kernel
theorem dX9_timeOf_47 : decode cX9_timeOf 47 = .ok (.iload 4, 2) := by decide +kernel
theorem dX9_timeOf_49 : decode cX9_timeOf 49 = .ok (.iconst 1, 1) := by decide +kernel
theorem dX9_timeOf_50 : decode cX9_timeOf 50 = .ok (.iload 5, 2) := by decide +kernel
theorem dX9_timeOf_52 : decode cX9_timeOf 52 = .ok (.ishl, 1) := by decide +kernel
theorem dX9_timeOf_53 : decode cX9_timeOf 53 = .ok (.iconst (-1), 1) := by decide +kernel
theorem dX9_timeOf_54 : decode cX9_timeOf 54 = .ok (.ixor, 1) := by decide +kernel
theorem dX9_timeOf_55 : decode cX9_timeOf 55 = .ok (.iand, 1) := by decide +kernel
theorem dX9_timeOf_56 : decode cX9_timeOf 56 = .ok (.istore 4, 2) := by decide +kernel
theorem dX9_timeOf_58 : decode cX9_timeOf 58 = .ok (.goto (-47), 3) := by decide +kernel
theorem dX9_timeOf_61 : decode cX9_timeOf 61 = .ok (.iload_n 3, 1) := by decide +kernel
theorem dX9_timeOf_62 : decode cX9_timeOf 62 = .ok (.ireturn, 1) := by decide +kernel
theorem dX9_lowest_0 : decode cX9_lowest 0 = .ok (.lload_n 2, 1) := by decide +kernel
theorem dX9_lowest_1 : decode cX9_lowest 1 = .ok (.lstore 5, 2) := by decide +kernel
theorem dX9_lowest_3 : decode cX9_lowest 3 = .ok (.lload_n 0, 1) := by decide +kernel
theorem dX9_lowest_4 : decode cX9_lowest 4 = .ok (.lstore 7, 2) := by decide +kernel
theorem dX9_lowest_6 : decode cX9_lowest 6 = .ok (.lload 7, 2) := by decide +kernel
theorem dX9_lowest_8 : decode cX9_lowest 8 = .ok (.lconst 0, 1) := by decide +kernel
theorem dX9_lowest_9 : decode cX9_lowest 9 = .ok (.lcmp, 1) := by decide +kernel
theorem dX9_lowest_10 : decode cX9_lowest 10 = .ok (.ifCond .eq 21, 3) := by decide +kernel
theorem dX9_lowest_13 : decode cX9_lowest 13 = .ok (.lload 5, 2) := by decide +kernel
theorem dX9_lowest_15 : decode cX9_lowest 15 = .ok (.lload 7, 2) := by decide +kernel
theorem dX9_lowest_17 : decode cX9_lowest 17 = .ok (.lrem, 1) := by decide +kernel
theorem dX9_lowest_18 : decode cX9_lowest 18 = .ok (.lstore 9, 2) := by decide +kernel
theorem dX9_lowest_20 : decode cX9_lowest 20 = .ok (.lload 7, 2) := by decide +kernel
theorem dX9_lowest_22 : decode cX9_lowest 22 = .ok (.lstore 5, 2) := by decide +kernel
theorem dX9_lowest_24 : decode cX9_lowest 24 = .ok (.lload 9, 2) := by decide +kernel
theorem dX9_lowest_26 : decode cX9_lowest 26 = .ok (.lstore 7, 2) := by decide +kernel
theorem dX9_lowest_28 : decode cX9_lowest 28 = .ok (.goto (-22), 3) := by decide +kernel
theorem dX9_lowest_31 : decode cX9_lowest 31 = .ok (.iload 4, 2) := by decide +kernel
theorem dX9_lowest_33 : decode cX9_lowest 33 = .ok (.ifCond .ne 10, 3) := by decide +kernel
theorem dX9_lowest_36 : decode cX9_lowest 36 = .ok (.lload_n 0, 1) := by decide +kernel
theorem dX9_lowest_37 : decode cX9_lowest 37 = .ok (.lload 5, 2) := by decide +kernel
theorem dX9_lowest_39 : decode cX9_lowest 39 = .ok (.ldiv, 1) := by decide +kernel
theorem dX9_lowest_40 : decode cX9_lowest 40 = .ok (.goto 7, 3) := by decide +kernel
theorem dX9_lowest_43 : decode cX9_lowest 43 = .ok (.lload_n 2, 1) := by decide +kernel
theorem dX9_lowest_44 : decode cX9_lowest 44 = .ok (.lload 5, 2) := by decide +kernel
theorem dX9_lowest_46 : decode cX9_lowest 46 = .ok (.ldiv, 1) := by decide +kernel
theorem dX9_lowest_47 : decode cX9_lowest 47 = .ok (.lreturn, 1) := by decide +kernel
theorem dX9_seek_0 : decode cX9_seek 0 = .ok (.aload_n 0, 1) := by decide +kernel
theorem dX9_seek_1 : decode cX9_seek 1 = .ok (.iload_n 1, 1) := by decide +kernel
theorem dX9_seek_2 : decode cX9_seek 2 = .ok (.iload_n 2, 1) := by decide +kernel
theorem dX9_seek_3 : decode cX9_seek 3 = .ok (.iload_n 3, 1) := by decide +kernel
theorem dX9_seek_4 : decode cX9_seek 4 = .ok (.invokevirtual 219, 3) := by decide +kernel
theorem dX9_seek_7 : decode cX9_seek 7 = .ok (.ifCond .eq 14, 3) := by decide +kernel
theorem dX9_seek_10 : decode cX9_seek 10 = .ok (.iload 4, 2) := by decide +kernel
theorem dX9_seek_12 : decode cX9_seek 12 = .ok (.i2l, 1) := by decide +kernel
theorem dX9_seek_13 : decode cX9_seek 13 = .ok (.lconst 0, 1) := by decide +kernel
theorem dX9_seek_14 : decode cX9_seek 14 = .ok (.lconst 1, 1) := by decide +kernel
theorem dX9_seek_15 : decode cX9_seek 15 = .ok (.invokestatic 76, 3) := by decide +kernel
theorem dX9_seek_18 : decode cX9_seek 18 = .ok (.ifCond .ne 7, 3) := by decide +kernel
theorem dX9_seek_21 : decode cX9_seek 21 = .ok (.ldc2_w 223, 3) := by decide +kernel
theorem dX9_seek_24 : decode cX9_seek 24 = .ok (.lreturn, 1) := by decide +kernel
theorem dX9_seek_25 : decode cX9_seek 25 = .ok (.aload_n 0, 1) := by decide +kernel
theorem dX9_seek_26 : decode cX9_seek 26 = .ok (.iload_n 3, 1) := by decide +kernel
theorem dX9_seek_27 : decode cX9_seek 27 = .ok (.invokevirtual 225, 3) := by decide +kernel
theorem dX9_seek_30 : decode cX9_seek 30 = .ok (.i2l, 1) := by decide +kernel
theorem dX9_seek_31 : decode cX9_seek 31 = .ok (.aload_n 0, 1) := by decide +kernel
theorem dX9_seek_32 : decode cX9_seek 32 = .ok (.iload_n 3, 1) := by decide +kernel
theorem dX9_seek_33 : decode cX9_seek 33 = .ok (.invokevirtual 228, 3) := by decide +kernel
theorem dX9_seek_36 : decode cX9_seek 36 = .ok (.i2l, 1) := by decide +kernel
theorem dX9_seek_37 : decode cX9_seek 37 = .ok (.iload 4, 2) := by decide +kernel
theorem dX9_seek_39 : decode cX9_seek 39 = .ok (.invokestatic 231, 3) := by decide +kernel
theorem dX9_seek_42 : decode cX9_seek 42 = .ok (.lreturn, 1) := by decide +kernel
theorem dX9_looks_0 : decode cX9_looks 0 = .ok (.aload_n 0, 1) := by decide +kernel
theorem dX9_looks_1 : decode cX9_looks 1 = .ok (.iload_n 1, 1) := by decide +kernel
theorem dX9_looks_2 : decode cX9_looks 2 = .ok (.iload_n 2, 1) := by decide +kernel
theorem dX9_looks_3 : decode cX9_looks 3 = .ok (.iload_n 3, 1) := by decide +kernel
theorem dX9_looks_4 : decode cX9_looks 4 = .ok (.invokevirtual 219, 3) := by decide +kernel
theorem dX9_looks_7 : decode cX9_looks 7 = .ok (.ifCond .eq 16, 3) := by decide +kernel
theorem dX9_looks_10 : decode cX9_looks 10 = .ok (.aload_n 0, 1) := by decide +kernel
theorem dX9_looks_11 : decode cX9_looks 11 = .ok (.iconst 1, 1) := by decide +kernel
theorem dX9_looks_12 : decode cX9_looks 12 = .ok (.iload_n 3, 1) := by decide +kernel
theorem dX9_looks_13 : decode cX9_looks 13 = .ok (.ishl, 1) := by decide +kernel
theorem dX9_looks_14 : decode cX9_looks 14 = .ok (.iconst 1, 1) := by decide +kernel
theorem dX9_looks_15 : decode cX9_looks 15 = .ok (.isub, 1) := by decide +kernel
theorem dX9_looks_16 : decode cX9_looks 16 = .ok (.iload_n 3, 1) := by decide +kernel
theorem dX9_looks_17 : decode cX9_looks 17 = .ok (.invokevirtual 216, 3) := by decide +kernel
theorem dX9_looks_20 : decode cX9_looks 20 = .ok (.goto 5, 3) := by decide +kernel
theorem dX9_looks_23 : decode cX9_looks 23 = .ok (.bipush (-2), 2) := by decide +kernel
theorem dX9_looks_25 : decode cX9_looks 25 = .ok (.ireturn, 1) := by decide +kernel
theorem dX9_mixedOnce_0 : decode cX9_mixedOnce 0 = .ok (.iload_n 1, 1) := by decide +kernel
theorem dX9_mixedOnce_1 : decode cX9_mixedOnce 1 = .ok (.iload_n 0, 1) := by decide +kernel
theorem dX9_mixedOnce_2 : decode cX9_mixedOnce 2 = .ok (.iconst 2, 1) := by decide +kernel
theorem dX9_mixedOnce_3 : decode cX9_mixedOnce 3 = .ok (.idiv, 1) := by decide +kernel
theorem dX9_mixedOnce_4 : decode cX9_mixedOnce 4 = .ok (.if_icmp .ge 9, 3) := by decide +kernel
theorem dX9_mixedOnce_7 : decode cX9_mixedOnce 7 = .ok (.iconst 2, 1) := by decide +kernel
theorem dX9_mixedOnce_8 : decode cX9_mixedOnce 8 = .ok (.iload_n 1, 1) := by decide +kernel
theorem dX9_mixedOnce_9 : decode cX9_mixedOnce 9 = .ok (.imul, 1) := by decide +kernel
theorem dX9_mixedOnce_10 : decode cX9_mixedOnce 10 = .ok (.goto 10, 3) := by decide +kernel
theorem dX9_mixedOnce_13 : decode cX9_mixedOnce 13 = .ok (.iconst 2, 1) := by decide +kernel
theorem dX9_mixedOnce_14 : decode cX9_mixedOnce 14 = .ok (.iload_n 1, 1) := by decide +kernel
theorem dX9_mixedOnce_15 : decode cX9_mixedOnce 15 = .ok (.imul, 1) := by decide +kernel
theorem dX9_mixedOnce_16 : decode cX9_mixedOnce 16 = .ok (.iload_n 0, 1) := by decide +kernel
theorem dX9_mixedOnce_17 : decode cX9_mixedOnce 17 = .ok (.isub, 1) := by decide +kernel
theorem dX9_mixedOnce_18 : decode cX9_mixedOnce 18 = .ok (.iconst 1, 1) := by decide +kernel
theorem dX9_mixedOnce_19 : decode cX9_mixedOnce 19 = .ok (.iadd, 1) := by decide +kernel
theorem dX9_mixedOnce_20 : decode cX9_mixedOnce 20 = .ok (.ireturn, 1) := by decide +kernel
theorem dX9_orderOf_0 : decode cX9_orderOf 0 = .ok (.iconst 1, 1) := by decide +kernel
theorem dX9_orderOf_1 : decode cX9_orderOf 1 = .ok (.istore_n 1, 1) := by decide +kernel
theorem dX9_orderOf_2 : decode cX9_orderOf 2 = .ok (.iload_n 0, 1) := by decide +kernel
theorem dX9_orderOf_3 : decode cX9_orderOf 3 = .ok (.iconst 2, 1) := by decide +kernel
theorem dX9_orderOf_4 : decode cX9_orderOf 4 = .ok (.if_icmp .le 11, 3) := by decide +kernel
theorem dX9_orderOf_7 : decode cX9_orderOf 7 = .ok (.iload_n 0, 1) := by decide +kernel
theorem dX9_orderOf_8 : decode cX9_orderOf 8 = .ok (.iconst 1, 1) := by decide +kernel
theorem dX9_orderOf_9 : decode cX9_orderOf 9 = .ok (.invokestatic 235, 3) := by decide +kernel
theorem dX9_orderOf_12 : decode cX9_orderOf 12 = .ok (.goto 4, 3) := by decide +kernel
theorem dX9_orderOf_15 : decode cX9_orderOf 15 = .ok (.iconst 1, 1) := by decide +kernel
theorem dX9_orderOf_16 : decode cX9_orderOf 16 = .ok (.istore_n 2, 1) := by decide +kernel
theorem dX9_orderOf_17 : decode cX9_orderOf 17 = .ok (.iload_n 2, 1) := by decide +kernel
theorem dX9_orderOf_18 : decode cX9_orderOf 18 = .ok (.iconst 1, 1) := by decide +kernel
theorem dX9_orderOf_19 : decode cX9_orderOf 19 = .ok (.if_icmp .eq 15, 3) := by decide +kernel
theorem dX9_orderOf_22 : decode cX9_orderOf 22 = .ok (.iload_n 0, 1) := by decide +kernel
theorem dX9_orderOf_23 : decode cX9_orderOf 23 = .ok (.iload_n 2, 1) := by decide +kernel
theorem dX9_orderOf_24 : decode cX9_orderOf 24 = .ok (.invokestatic 235, 3) := by decide +kernel
theorem dX9_orderOf_27 : decode cX9_orderOf 27 = .ok (.istore_n 2, 1) := by decide +kernel
theorem dX9_orderOf_28 : decode cX9_orderOf 28 = .ok (.iinc 1 1, 3) := by decide +kernel
theorem dX9_orderOf_31 : decode cX9_orderOf 31 = .ok (.goto (-14), 3) := by decide +kernel
theorem dX9_orderOf_34 : decode cX9_orderOf 34 = .ok (.iload_n 1, 1) := by decide +kernel
theorem dX9_orderOf_35 : decode cX9_orderOf 35 = .ok (.ireturn, 1) := by decide +kernel
theorem dX9_mix_0 : decode cX9_mix 0 = .ok (.iload_n 1, 1) := by decide +kernel
theorem dX9_mix_1 : decode cX9_mix 1 = .ok (.i2l, 1) := by decide +kernel
theorem dX9_mix_2 : decode cX9_mix 2 = .ok (.ldc2_w 190, 3) := by decide +kernel
theorem dX9_mix_5 : decode cX9_mix 5 = .ok (.ldc2_w 238, 3) := by decide +kernel
theorem dX9_mix_8 : decode cX9_mix 8 = .ok (.invokestatic 76, 3) := by decide +kernel
theorem dX9_mix_11 : decode cX9_mix 11 = .ok (.ifCond .eq 46, 3) := by decide +kernel
theorem dX9_mix_14 : decode cX9_mix 14 = .ok (.iload_n 1, 1) := by decide +kernel
theorem dX9_mix_15 : decode cX9_mix 15 = .ok (.iconst 2, 1) := by decide +kernel
theorem dX9_mix_16 : decode cX9_mix 16 = .ok (.irem, 1) := by decide +kernel
theorem dX9_mix_17 : decode cX9_mix 17 = .ok (.iconst 1, 1) := by decide +kernel
theorem dX9_mix_18 : decode cX9_mix 18 = .ok (.if_icmp .eq 39, 3) := by decide +kernel
theorem dX9_mix_21 : decode cX9_mix 21 = .ok (.iload_n 2, 1) := by decide +kernel
theorem dX9_mix_22 : decode cX9_mix 22 = .ok (.i2l, 1) := by decide +kernel
theorem dX9_mix_23 : decode cX9_mix 23 = .ok (.lconst 0, 1) := by decide +kernel
theorem dX9_mix_24 : decode cX9_mix 24 = .ok (.iload_n 1, 1) := by decide +kernel
theorem dX9_mix_25 : decode cX9_mix 25 = .ok (.iconst 1, 1) := by decide +kernel
theorem dX9_mix_26 : decode cX9_mix 26 = .ok (.isub, 1) := by decide +kernel
theorem dX9_mix_27 : decode cX9_mix 27 = .ok (.i2l, 1) := by decide +kernel
theorem dX9_mix_28 : decode cX9_mix 28 = .ok (.invokestatic 76, 3) := by decide +kernel
theorem dX9_mix_31 : decode cX9_mix 31 = .ok (.ifCond .eq 26, 3) := by decide +kernel
theorem dX9_mix_34 : decode cX9_mix 34 = .ok (.iload_n 3, 1) := by decide +kernel
theorem dX9_mix_35 : decode cX9_mix 35 = .ok (.i2l, 1) := by decide +kernel
theorem dX9_mix_36 : decode cX9_mix 36 = .ok (.lconst 0, 1) := by decide +kernel
theorem dX9_mix_37 : decode cX9_mix 37 = .ok (.ldc2_w 240, 3) := by decide +kernel
theorem dX9_mix_40 : decode cX9_mix 40 = .ok (.invokestatic 76, 3) := by decide +kernel
theorem dX9_mix_43 : decode cX9_mix 43 = .ok (.ifCond .eq 14, 3) := by decide +kernel
theorem dX9_mix_46 : decode cX9_mix 46 = .ok (.iload 4, 2) := by decide +kernel
theorem dX9_mix_48 : decode cX9_mix 48 = .ok (.i2l, 1) := by decide +kernel
theorem dX9_mix_49 : decode cX9_mix 49 = .ok (.lconst 0, 1) := by decide +kernel
theorem dX9_mix_50 : decode cX9_mix 50 = .ok (.lconst 1, 1) := by decide +kernel
theorem dX9_mix_51 : decode cX9_mix 51 = .ok (.invokestatic 76, 3) := by decide +kernel
theorem dX9_mix_54 : decode cX9_mix 54 = .ok (.ifCond .ne 6, 3) := by decide +kernel
theorem dX9_mix_57 : decode cX9_mix 57 = .ok (.bipush (-2), 2) := by decide +kernel
theorem dX9_mix_59 : decode cX9_mix 59 = .ok (.ireturn, 1) := by decide +kernel
theorem dX9_mix_60 : decode cX9_mix 60 = .ok (.iload_n 1, 1) := by decide +kernel
theorem dX9_mix_61 : decode cX9_mix 61 = .ok (.invokestatic 242, 3) := by decide +kernel
theorem dX9_mix_64 : decode cX9_mix 64 = .ok (.istore 5, 2) := by decide +kernel
theorem dX9_mix_66 : decode cX9_mix 66 = .ok (.iload_n 2, 1) := by decide +kernel
theorem dX9_mix_67 : decode cX9_mix 67 = .ok (.istore 6, 2) := by decide +kernel
theorem dX9_mix_69 : decode cX9_mix 69 = .ok (.iconst 0, 1) := by decide +kernel
theorem dX9_mix_70 : decode cX9_mix 70 = .ok (.istore 7, 2) := by decide +kernel
theorem dX9_mix_72 : decode cX9_mix 72 = .ok (.iload 7, 2) := by decide +kernel
theorem dX9_mix_74 : decode cX9_mix 74 = .ok (.iload_n 3, 1) := by decide +kernel
theorem dX9_mix_75 : decode cX9_mix 75 = .ok (.iload 5, 2) := by decide +kernel
theorem dX9_mix_77 : decode cX9_mix 77 = .ok (.irem, 1) := by decide +kernel
theorem dX9_mix_78 : decode cX9_mix 78 = .ok (.if_icmp .ge 17, 3) := by decide +kernel
theorem dX9_mix_81 : decode cX9_mix 81 = .ok (.iload_n 1, 1) := by decide +kernel
theorem dX9_mix_82 : decode cX9_mix 82 = .ok (.iload 6, 2) := by decide +kernel
theorem dX9_mix_84 : decode cX9_mix 84 = .ok (.invokestatic 235, 3) := by decide +kernel
theorem dX9_mix_87 : decode cX9_mix 87 = .ok (.istore 6, 2) := by decide +kernel
theorem dX9_mix_89 : decode cX9_mix 89 = .ok (.iinc 7 1, 3) := by decide +kernel
theorem dX9_mix_92 : decode cX9_mix 92 = .ok (.goto (-20), 3) := by decide +kernel
theorem dX9_mix_95 : decode cX9_mix 95 = .ok (.iload 4, 2) := by decide +kernel
theorem dX9_mix_97 : decode cX9_mix 97 = .ok (.ifCond .ne 8, 3) := by decide +kernel
theorem dX9_mix_100 : decode cX9_mix 100 = .ok (.iload 6, 2) := by decide +kernel
theorem dX9_mix_102 : decode cX9_mix 102 = .ok (.goto 5, 3) := by decide +kernel
theorem dX9_mix_105 : decode cX9_mix 105 = .ok (.iload 5, 2) := by decide +kernel
theorem dX9_mix_107 : decode cX9_mix 107 = .ok (.ireturn, 1) := by decide +kernel
theorem dX9_riseFrom_0 : decode cX9_riseFrom 0 = .ok (.iconst 0, 1) := by decide +kernel
theorem dX9_riseFrom_1 : decode cX9_riseFrom 1 = .ok (.istore_n 2, 1) := by decide +kernel
theorem dX9_riseFrom_2 : decode cX9_riseFrom 2 = .ok (.iload_n 1, 1) := by decide +kernel
theorem dX9_riseFrom_3 : decode cX9_riseFrom 3 = .ok (.iconst 1, 1) := by decide +kernel
theorem dX9_riseFrom_4 : decode cX9_riseFrom 4 = .ok (.iadd, 1) := by decide +kernel
theorem dX9_riseFrom_5 : decode cX9_riseFrom 5 = .ok (.istore_n 3, 1) := by decide +kernel
theorem dX9_riseFrom_6 : decode cX9_riseFrom 6 = .ok (.iload_n 3, 1) := by decide +kernel
theorem dX9_riseFrom_7 : decode cX9_riseFrom 7 = .ok (.bipush 40, 2) := by decide +kernel
theorem dX9_riseFrom_9 : decode cX9_riseFrom 9 = .ok (.if_icmp .ge 45, 3) := by decide +kernel
theorem dX9_riseFrom_12 : decode cX9_riseFrom 12 = .ok (.aload_n 0, 1) := by decide +kernel
theorem dX9_riseFrom_13 : decode cX9_riseFrom 13 = .ok (.getfield 7, 3) := by decide +kernel
theorem dX9_riseFrom_16 : decode cX9_riseFrom 16 = .ok (.iload_n 3, 1) := by decide +kernel
theorem dX9_riseFrom_17 : decode cX9_riseFrom 17 = .ok (.iaload, 1) := by decide +kernel
theorem dX9_riseFrom_18 : decode cX9_riseFrom 18 = .ok (.aload_n 0, 1) := by decide +kernel
theorem dX9_riseFrom_19 : decode cX9_riseFrom 19 = .ok (.getfield 7, 3) := by decide +kernel
theorem dX9_riseFrom_22 : decode cX9_riseFrom 22 = .ok (.iload_n 1, 1) := by decide +kernel
theorem dX9_riseFrom_23 : decode cX9_riseFrom 23 = .ok (.iaload, 1) := by decide +kernel
theorem dX9_riseFrom_24 : decode cX9_riseFrom 24 = .ok (.if_icmp .lt 22, 3) := by decide +kernel
theorem dX9_riseFrom_27 : decode cX9_riseFrom 27 = .ok (.aload_n 0, 1) := by decide +kernel
theorem dX9_riseFrom_28 : decode cX9_riseFrom 28 = .ok (.getfield 61, 3) := by decide +kernel
theorem dX9_riseFrom_31 : decode cX9_riseFrom 31 = .ok (.iload_n 3, 1) := by decide +kernel
theorem dX9_riseFrom_32 : decode cX9_riseFrom 32 = .ok (.iaload, 1) := by decide +kernel
theorem dX9_riseFrom_33 : decode cX9_riseFrom 33 = .ok (.iload_n 2, 1) := by decide +kernel
theorem dX9_riseFrom_34 : decode cX9_riseFrom 34 = .ok (.if_icmp .le 12, 3) := by decide +kernel
theorem dX9_riseFrom_37 : decode cX9_riseFrom 37 = .ok (.aload_n 0, 1) := by decide +kernel
theorem dX9_riseFrom_38 : decode cX9_riseFrom 38 = .ok (.getfield 61, 3) := by decide +kernel
theorem dX9_riseFrom_41 : decode cX9_riseFrom 41 = .ok (.iload_n 3, 1) := by decide +kernel
theorem dX9_riseFrom_42 : decode cX9_riseFrom 42 = .ok (.iaload, 1) := by decide +kernel
theorem dX9_riseFrom_43 : decode cX9_riseFrom 43 = .ok (.goto 4, 3) := by decide +kernel
theorem dX9_riseFrom_46 : decode cX9_riseFrom 46 = .ok (.iload_n 2, 1) := by decide +kernel
theorem dX9_riseFrom_47 : decode cX9_riseFrom 47 = .ok (.istore_n 2, 1) := by decide +kernel
theorem dX9_riseFrom_48 : decode cX9_riseFrom 48 = .ok (.iinc 3 1, 3) := by decide +kernel
theorem dX9_riseFrom_51 : decode cX9_riseFrom 51 = .ok (.goto (-45), 3) := by decide +kernel
theorem dX9_riseFrom_54 : decode cX9_riseFrom 54 = .ok (.iload_n 2, 1) := by decide +kernel
theorem dX9_riseFrom_55 : decode cX9_riseFrom 55 = .ok (.iconst 1, 1) := by decide +kernel
theorem dX9_riseFrom_56 : decode cX9_riseFrom 56 = .ok (.iadd, 1) := by decide +kernel
theorem dX9_riseFrom_57 : decode cX9_riseFrom 57 = .ok (.ireturn, 1) := by decide +kernel
theorem dX9_rises_0 : decode cX9_rises 0 = .ok (.iload_n 1, 1) := by decide +kernel
theorem dX9_rises_1 : decode cX9_rises 1 = .ok (.invokestatic 82, 3) := by decide +kernel
theorem dX9_rises_4 : decode cX9_rises 4 = .ok (.ifCond .ne 5, 3) := by decide +kernel
theorem dX9_rises_7 : decode cX9_rises 7 = .ok (.iconst (-1), 1) := by decide +kernel
theorem dX9_rises_8 : decode cX9_rises 8 = .ok (.ireturn, 1) := by decide +kernel
theorem dX9_rises_9 : decode cX9_rises 9 = .ok (.iload_n 2, 1) := by decide +kernel
theorem dX9_rises_10 : decode cX9_rises 10 = .ok (.i2l, 1) := by decide +kernel
theorem dX9_rises_11 : decode cX9_rises 11 = .ok (.lconst 0, 1) := by decide +kernel
theorem dX9_rises_12 : decode cX9_rises 12 = .ok (.lconst 1, 1) := by decide +kernel
theorem dX9_rises_13 : decode cX9_rises 13 = .ok (.invokestatic 76, 3) := by decide +kernel
theorem dX9_rises_16 : decode cX9_rises 16 = .ok (.ifCond .ne 6, 3) := by decide +kernel
theorem dX9_rises_19 : decode cX9_rises 19 = .ok (.bipush (-2), 2) := by decide +kernel
theorem dX9_rises_21 : decode cX9_rises 21 = .ok (.ireturn, 1) := by decide +kernel
theorem dX9_rises_22 : decode cX9_rises 22 = .ok (.bipush 39, 2) := by decide +kernel
theorem dX9_rises_24 : decode cX9_rises 24 = .ok (.istore_n 3, 1) := by decide +kernel
theorem dX9_rises_25 : decode cX9_rises 25 = .ok (.bipush 39, 2) := by decide +kernel
theorem dX9_rises_27 : decode cX9_rises 27 = .ok (.istore 4, 2) := by decide +kernel
theorem dX9_rises_29 : decode cX9_rises 29 = .ok (.iload 4, 2) := by decide +kernel
theorem dX9_rises_31 : decode cX9_rises 31 = .ok (.iload_n 1, 1) := by decide +kernel
theorem dX9_rises_32 : decode cX9_rises 32 = .ok (.if_icmp .lt 45, 3) := by decide +kernel
theorem dX9_rises_35 : decode cX9_rises 35 = .ok (.aload_n 0, 1) := by decide +kernel
theorem dX9_rises_36 : decode cX9_rises 36 = .ok (.getfield 61, 3) := by decide +kernel
theorem dX9_rises_39 : decode cX9_rises 39 = .ok (.iload 4, 2) := by decide +kernel
theorem dX9_rises_41 : decode cX9_rises 41 = .ok (.aload_n 0, 1) := by decide +kernel
theorem dX9_rises_42 : decode cX9_rises 42 = .ok (.iload 4, 2) := by decide +kernel
theorem dX9_rises_44 : decode cX9_rises 44 = .ok (.invokevirtual 245, 3) := by decide +kernel
theorem dX9_rises_47 : decode cX9_rises 47 = .ok (.iastore, 1) := by decide +kernel
theorem dX9_rises_48 : decode cX9_rises 48 = .ok (.aload_n 0, 1) := by decide +kernel
theorem dX9_rises_49 : decode cX9_rises 49 = .ok (.getfield 61, 3) := by decide +kernel
theorem dX9_rises_52 : decode cX9_rises 52 = .ok (.iload 4, 2) := by decide +kernel
theorem dX9_rises_54 : decode cX9_rises 54 = .ok (.iaload, 1) := by decide +kernel
theorem dX9_rises_55 : decode cX9_rises 55 = .ok (.aload_n 0, 1) := by decide +kernel
theorem dX9_rises_56 : decode cX9_rises 56 = .ok (.getfield 61, 3) := by decide +kernel
theorem dX9_rises_59 : decode cX9_rises 59 = .ok (.iload_n 3, 1) := by decide +kernel
theorem dX9_rises_60 : decode cX9_rises 60 = .ok (.iaload, 1) := by decide +kernel
theorem dX9_rises_61 : decode cX9_rises 61 = .ok (.if_icmp .lt 8, 3) := by decide +kernel
theorem dX9_rises_64 : decode cX9_rises 64 = .ok (.iload 4, 2) := by decide +kernel
theorem dX9_rises_66 : decode cX9_rises 66 = .ok (.goto 4, 3) := by decide +kernel
theorem dX9_rises_69 : decode cX9_rises 69 = .ok (.iload_n 3, 1) := by decide +kernel
theorem dX9_rises_70 : decode cX9_rises 70 = .ok (.istore_n 3, 1) := by decide +kernel
theorem dX9_rises_71 : decode cX9_rises 71 = .ok (.iinc 4 (-1), 3) := by decide +kernel
theorem dX9_rises_74 : decode cX9_rises 74 = .ok (.goto (-45), 3) := by decide +kernel
theorem dX9_rises_77 : decode cX9_rises 77 = .ok (.iload_n 2, 1) := by decide +kernel
theorem dX9_rises_78 : decode cX9_rises 78 = .ok (.ifCond .ne 12, 3) := by decide +kernel
theorem dX9_rises_81 : decode cX9_rises 81 = .ok (.aload_n 0, 1) := by decide +kernel
theorem dX9_rises_82 : decode cX9_rises 82 = .ok (.getfield 61, 3) := by decide +kernel
theorem dX9_rises_85 : decode cX9_rises 85 = .ok (.iload_n 3, 1) := by decide +kernel
theorem dX9_rises_86 : decode cX9_rises 86 = .ok (.iaload, 1) := by decide +kernel
theorem dX9_rises_87 : decode cX9_rises 87 = .ok (.goto 4, 3) := by decide +kernel
theorem dX9_rises_90 : decode cX9_rises 90 = .ok (.iload_n 3, 1) := by decide +kernel
theorem dX9_rises_91 : decode cX9_rises 91 = .ok (.ireturn, 1) := by decide +kernel
theorem dX9_like_0 : decode cX9_like 0 = .ok (.iload_n 1, 1) := by decide +kernel
theorem dX9_like_1 : decode cX9_like 1 = .ok (.i2l, 1) := by decide +kernel
theorem dX9_like_2 : decode cX9_like 2 = .ok (.lconst 1, 1) := by decide +kernel
theorem dX9_like_3 : decode cX9_like 3 = .ok (.ldc2_w 88, 3) := by decide +kernel
theorem dX9_like_6 : decode cX9_like 6 = .ok (.invokestatic 76, 3) := by decide +kernel
theorem dX9_like_9 : decode cX9_like 9 = .ok (.ifCond .eq 15, 3) := by decide +kernel
theorem dX9_like_12 : decode cX9_like 12 = .ok (.iload_n 2, 1) := by decide +kernel
theorem dX9_like_13 : decode cX9_like 13 = .ok (.i2l, 1) := by decide +kernel
theorem dX9_like_14 : decode cX9_like 14 = .ok (.lconst 0, 1) := by decide +kernel
theorem dX9_like_15 : decode cX9_like 15 = .ok (.ldc2_w 248, 3) := by decide +kernel
theorem dX9_like_18 : decode cX9_like 18 = .ok (.invokestatic 76, 3) := by decide +kernel
theorem dX9_like_21 : decode cX9_like 21 = .ok (.ifCond .ne 6, 3) := by decide +kernel
theorem dX9_like_24 : decode cX9_like 24 = .ok (.bipush (-2), 2) := by decide +kernel
theorem dX9_like_26 : decode cX9_like 26 = .ok (.ireturn, 1) := by decide +kernel
theorem dX9_like_27 : decode cX9_like 27 = .ok (.aload_n 0, 1) := by decide +kernel
theorem dX9_like_28 : decode cX9_like 28 = .ok (.getfield 250, 3) := by decide +kernel
theorem dX9_like_31 : decode cX9_like 31 = .ok (.bipush 8, 2) := by decide +kernel
theorem dX9_like_33 : decode cX9_like 33 = .ok (.if_icmp .ne 6, 3) := by decide +kernel
theorem dX9_like_36 : decode cX9_like 36 = .ok (.bipush (-4), 2) := by decide +kernel
theorem dX9_like_38 : decode cX9_like 38 = .ok (.ireturn, 1) := by decide +kernel
theorem dX9_like_39 : decode cX9_like 39 = .ok (.aload_n 0, 1) := by decide +kernel
theorem dX9_like_40 : decode cX9_like 40 = .ok (.getfield 31, 3) := by decide +kernel
theorem dX9_like_43 : decode cX9_like 43 = .ok (.aload_n 0, 1) := by decide +kernel
theorem dX9_like_44 : decode cX9_like 44 = .ok (.getfield 250, 3) := by decide +kernel
theorem dX9_like_47 : decode cX9_like 47 = .ok (.iload_n 1, 1) := by decide +kernel
theorem dX9_like_48 : decode cX9_like 48 = .ok (.iastore, 1) := by decide +kernel
theorem dX9_like_49 : decode cX9_like 49 = .ok (.aload_n 0, 1) := by decide +kernel
theorem dX9_like_50 : decode cX9_like 50 = .ok (.getfield 34, 3) := by decide +kernel
theorem dX9_like_53 : decode cX9_like 53 = .ok (.aload_n 0, 1) := by decide +kernel
theorem dX9_like_54 : decode cX9_like 54 = .ok (.getfield 250, 3) := by decide +kernel
theorem dX9_like_57 : decode cX9_like 57 = .ok (.iload_n 2, 1) := by decide +kernel
theorem dX9_like_58 : decode cX9_like 58 = .ok (.iastore, 1) := by decide +kernel
theorem dX9_like_59 : decode cX9_like 59 = .ok (.aload_n 0, 1) := by decide +kernel
theorem dX9_like_60 : decode cX9_like 60 = .ok (.getfield 37, 3) := by decide +kernel
theorem dX9_like_63 : decode cX9_like 63 = .ok (.aload_n 0, 1) := by decide +kernel
theorem dX9_like_64 : decode cX9_like 64 = .ok (.getfield 250, 3) := by decide +kernel
theorem dX9_like_67 : decode cX9_like 67 = .ok (.iload_n 3, 1) := by decide +kernel
theorem dX9_like_68 : decode cX9_like 68 = .ok (.ifCond .eq 7, 3) := by decide +kernel
theorem dX9_like_71 : decode cX9_like 71 = .ok (.iconst 1, 1) := by decide +kernel
theorem dX9_like_72 : decode cX9_like 72 = .ok (.goto 4, 3) := by decide +kernel
theorem dX9_like_75 : decode cX9_like 75 = .ok (.iconst 0, 1) := by decide +kernel
theorem dX9_like_76 : decode cX9_like 76 = .ok (.iastore, 1) := by decide +kernel
theorem dX9_like_77 : decode cX9_like 77 = .ok (.aload_n 0, 1) := by decide +kernel
theorem dX9_like_78 : decode cX9_like 78 = .ok (.dup, 1) := by decide +kernel
theorem dX9_like_79 : decode cX9_like 79 = .ok (.getfield 250, 3) := by decide +kernel
theorem dX9_like_82 : decode cX9_like 82 = .ok (.iconst 1, 1) := by decide +kernel
theorem dX9_like_83 : decode cX9_like 83 = .ok (.iadd, 1) := by decide +kernel
theorem dX9_like_84 : decode cX9_like 84 = .ok (.putfield 250, 3) := by decide +kernel
theorem dX9_like_87 : decode cX9_like 87 = .ok (.aload_n 0, 1) := by decide +kernel
theorem dX9_like_88 : decode cX9_like 88 = .ok (.getfield 250, 3) := by decide +kernel
theorem dX9_like_91 : decode cX9_like 91 = .ok (.ireturn, 1) := by decide +kernel
theorem dX9_forget_0 : decode cX9_forget 0 = .ok (.aload_n 0, 1) := by decide +kernel
theorem dX9_forget_1 : decode cX9_forget 1 = .ok (.getfield 250, 3) := by decide +kernel
theorem dX9_forget_4 : decode cX9_forget 4 = .ok (.istore_n 1, 1) := by decide +kernel
theorem dX9_forget_5 : decode cX9_forget 5 = .ok (.aload_n 0, 1) := by decide +kernel
theorem dX9_forget_6 : decode cX9_forget 6 = .ok (.iconst 0, 1) := by decide +kernel
theorem dX9_forget_7 : decode cX9_forget 7 = .ok (.putfield 250, 3) := by decide +kernel
theorem dX9_forget_10 : decode cX9_forget 10 = .ok (.iload_n 1, 1) := by decide +kernel
theorem dX9_forget_11 : decode cX9_forget 11 = .ok (.ireturn, 1) := by decide +kernel
theorem dX9_isLike_0 : decode cX9_isLike 0 = .ok (.iload_n 0, 1) := by decide +kernel
theorem dX9_isLike_1 : decode cX9_isLike 1 = .ok (.i2l, 1) := by decide +kernel
theorem dX9_isLike_2 : decode cX9_isLike 2 = .ok (.iload_n 1, 1) := by decide +kernel
theorem dX9_isLike_3 : decode cX9_isLike 3 = .ok (.iload_n 2, 1) := by decide +kernel
theorem dX9_isLike_4 : decode cX9_isLike 4 = .ok (.isub, 1) := by decide +kernel
theorem dX9_isLike_5 : decode cX9_isLike 5 = .ok (.i2l, 1) := by decide +kernel
theorem dX9_isLike_6 : decode cX9_isLike 6 = .ok (.iload_n 1, 1) := by decide +kernel
theorem dX9_isLike_7 : decode cX9_isLike 7 = .ok (.iload_n 2, 1) := by decide +kernel
theorem dX9_isLike_8 : decode cX9_isLike 8 = .ok (.iadd, 1) := by decide +kernel
theorem dX9_isLike_9 : decode cX9_isLike 9 = .ok (.i2l, 1) := by decide +kernel
theorem dX9_isLike_10 : decode cX9_isLike 10 = .ok (.invokestatic 76, 3) := by decide +kernel
theorem dX9_isLike_13 : decode cX9_isLike 13 = .ok (.ireturn, 1) := by decide +kernel
theorem dX9_isFit_0 : decode cX9_isFit 0 = .ok (.iconst 1, 1) := by decide +kernel
theorem dX9_isFit_1 : decode cX9_isFit 1 = .ok (.istore_n 2, 1) := by decide +kernel
theorem dX9_isFit_2 : decode cX9_isFit 2 = .ok (.iconst 0, 1) := by decide +kernel
theorem dX9_isFit_3 : decode cX9_isFit 3 = .ok (.istore_n 3, 1) := by decide +kernel
theorem dX9_isFit_4 : decode cX9_isFit 4 = .ok (.iload_n 3, 1) := by decide +kernel
theorem dX9_isFit_5 : decode cX9_isFit 5 = .ok (.aload_n 0, 1) := by decide +kernel
theorem dX9_isFit_6 : decode cX9_isFit 6 = .ok (.getfield 250, 3) := by decide +kernel
theorem dX9_isFit_9 : decode cX9_isFit 9 = .ok (.if_icmp .ge 58, 3) := by decide +kernel
theorem dX9_isFit_12 : decode cX9_isFit 12 = .ok (.iload_n 2, 1) := by decide +kernel
theorem dX9_isFit_13 : decode cX9_isFit 13 = .ok (.ifCond .eq 46, 3) := by decide +kernel
theorem dX9_isFit_16 : decode cX9_isFit 16 = .ok (.aload_n 0, 1) := by decide +kernel
theorem dX9_isFit_17 : decode cX9_isFit 17 = .ok (.getfield 7, 3) := by decide +kernel
theorem dX9_isFit_20 : decode cX9_isFit 20 = .ok (.iload_n 1, 1) := by decide +kernel
theorem dX9_isFit_21 : decode cX9_isFit 21 = .ok (.iaload, 1) := by decide +kernel
theorem dX9_isFit_22 : decode cX9_isFit 22 = .ok (.aload_n 0, 1) := by decide +kernel
theorem dX9_isFit_23 : decode cX9_isFit 23 = .ok (.getfield 31, 3) := by decide +kernel
theorem dX9_isFit_26 : decode cX9_isFit 26 = .ok (.iload_n 3, 1) := by decide +kernel
theorem dX9_isFit_27 : decode cX9_isFit 27 = .ok (.iaload, 1) := by decide +kernel
theorem dX9_isFit_28 : decode cX9_isFit 28 = .ok (.aload_n 0, 1) := by decide +kernel
theorem dX9_isFit_29 : decode cX9_isFit 29 = .ok (.getfield 34, 3) := by decide +kernel
theorem dX9_isFit_32 : decode cX9_isFit 32 = .ok (.iload_n 3, 1) := by decide +kernel
theorem dX9_isFit_33 : decode cX9_isFit 33 = .ok (.iaload, 1) := by decide +kernel
theorem dX9_isFit_34 : decode cX9_isFit 34 = .ok (.invokestatic 253, 3) := by decide +kernel
theorem dX9_isFit_37 : decode cX9_isFit 37 = .ok (.aload_n 0, 1) := by decide +kernel
theorem dX9_isFit_38 : decode cX9_isFit 38 = .ok (.getfield 37, 3) := by decide +kernel
theorem dX9_isFit_41 : decode cX9_isFit 41 = .ok (.iload_n 3, 1) := by decide +kernel
theorem dX9_isFit_42 : decode cX9_isFit 42 = .ok (.iaload, 1) := by decide +kernel
theorem dX9_isFit_43 : decode cX9_isFit 43 = .ok (.iconst 1, 1) := by decide +kernel
theorem dX9_isFit_44 : decode cX9_isFit 44 = .ok (.if_icmp .ne 7, 3) := by decide +kernel
theorem dX9_isFit_47 : decode cX9_isFit 47 = .ok (.iconst 1, 1) := by decide +kernel
theorem dX9_isFit_48 : decode cX9_isFit 48 = .ok (.goto 4, 3) := by decide +kernel
theorem dX9_isFit_51 : decode cX9_isFit 51 = .ok (.iconst 0, 1) := by decide +kernel
theorem dX9_isFit_52 : decode cX9_isFit 52 = .ok (.if_icmp .ne 7, 3) := by decide +kernel
theorem dX9_isFit_55 : decode cX9_isFit 55 = .ok (.iconst 1, 1) := by decide +kernel
theorem dX9_isFit_56 : decode cX9_isFit 56 = .ok (.goto 4, 3) := by decide +kernel
theorem dX9_isFit_59 : decode cX9_isFit 59 = .ok (.iconst 0, 1) := by decide +kernel
theorem dX9_isFit_60 : decode cX9_isFit 60 = .ok (.istore_n 2, 1) := by decide +kernel
theorem dX9_isFit_61 : decode cX9_isFit 61 = .ok (.iinc 3 1, 3) := by decide +kernel
theorem dX9_isFit_64 : decode cX9_isFit 64 = .ok (.goto (-60), 3) := by decide +kernel
theorem dX9_isFit_67 : decode cX9_isFit 67 = .ok (.iload_n 2, 1) := by decide +kernel
theorem dX9_isFit_68 : decode cX9_isFit 68 = .ok (.ireturn, 1) := by decide +kernel
theorem dX9_own_0 : decode cX9_own 0 = .ok (.iconst 0, 1) := by decide +kernel
theorem dX9_own_1 : decode cX9_own 1 = .ok (.istore_n 2, 1) := by decide +kernel
theorem dX9_own_2 : decode cX9_own 2 = .ok (.iconst 0, 1) := by decide +kernel
theorem dX9_own_3 : decode cX9_own 3 = .ok (.istore_n 3, 1) := by decide +kernel
theorem dX9_own_4 : decode cX9_own 4 = .ok (.iload_n 3, 1) := by decide +kernel
theorem dX9_own_5 : decode cX9_own 5 = .ok (.bipush 40, 2) := by decide +kernel
theorem dX9_own_7 : decode cX9_own 7 = .ok (.if_icmp .ge 27, 3) := by decide +kernel
theorem dX9_own_10 : decode cX9_own 10 = .ok (.aload_n 0, 1) := by decide +kernel
theorem dX9_own_11 : decode cX9_own 11 = .ok (.iload_n 3, 1) := by decide +kernel
theorem dX9_own_12 : decode cX9_own 12 = .ok (.invokevirtual 256, 3) := by decide +kernel
theorem dX9_own_15 : decode cX9_own 15 = .ok (.ifCond .eq 13, 3) := by decide +kernel
theorem dX9_own_18 : decode cX9_own 18 = .ok (.iload_n 2, 1) := by decide +kernel
theorem dX9_own_19 : decode cX9_own 19 = .ok (.iload_n 1, 1) := by decide +kernel
theorem dX9_own_20 : decode cX9_own 20 = .ok (.if_icmp .ne 5, 3) := by decide +kernel
theorem dX9_own_23 : decode cX9_own 23 = .ok (.iload_n 3, 1) := by decide +kernel
theorem dX9_own_24 : decode cX9_own 24 = .ok (.ireturn, 1) := by decide +kernel
theorem dX9_own_25 : decode cX9_own 25 = .ok (.iinc 2 1, 3) := by decide +kernel
theorem dX9_own_28 : decode cX9_own 28 = .ok (.iinc 3 1, 3) := by decide +kernel
theorem dX9_own_31 : decode cX9_own 31 = .ok (.goto (-27), 3) := by decide +kernel
theorem dX9_own_34 : decode cX9_own 34 = .ok (.iload_n 1, 1) := by decide +kernel
theorem dX9_own_35 : decode cX9_own 35 = .ok (.iconst (-1), 1) := by decide +kernel
theorem dX9_own_36 : decode cX9_own 36 = .ok (.if_icmp .ne 7, 3) := by decide +kernel
theorem dX9_own_39 : decode cX9_own 39 = .ok (.iload_n 2, 1) := by decide +kernel
theorem dX9_own_40 : decode cX9_own 40 = .ok (.goto 5, 3) := by decide +kernel
theorem dX9_own_43 : decode cX9_own 43 = .ok (.bipush (-6), 2) := by decide +kernel
theorem dX9_own_45 : decode cX9_own 45 = .ok (.ireturn, 1) := by decide +kernel
theorem dX9_mostLeft_0 : decode cX9_mostLeft 0 = .ok (.iconst 0, 1) := by decide +kernel
theorem dX9_mostLeft_1 : decode cX9_mostLeft 1 = .ok (.istore_n 3, 1) := by decide +kernel
theorem dX9_mostLeft_2 : decode cX9_mostLeft 2 = .ok (.iconst 0, 1) := by decide +kernel
theorem dX9_mostLeft_3 : decode cX9_mostLeft 3 = .ok (.istore 4, 2) := by decide +kernel
theorem dX9_mostLeft_5 : decode cX9_mostLeft 5 = .ok (.iconst 0, 1) := by decide +kernel
theorem dX9_mostLeft_6 : decode cX9_mostLeft 6 = .ok (.istore 5, 2) := by decide +kernel
theorem dX9_mostLeft_8 : decode cX9_mostLeft 8 = .ok (.iload 5, 2) := by decide +kernel
theorem dX9_mostLeft_10 : decode cX9_mostLeft 10 = .ok (.bipush 40, 2) := by decide +kernel
theorem dX9_mostLeft_12 : decode cX9_mostLeft 12 = .ok (.if_icmp .ge 60, 3) := by decide +kernel
theorem dX9_mostLeft_15 : decode cX9_mostLeft 15 = .ok (.aload_n 0, 1) := by decide +kernel
theorem dX9_mostLeft_16 : decode cX9_mostLeft 16 = .ok (.iload 5, 2) := by decide +kernel
theorem dX9_mostLeft_18 : decode cX9_mostLeft 18 = .ok (.invokevirtual 256, 3) := by decide +kernel
theorem dX9_mostLeft_21 : decode cX9_mostLeft 21 = .ok (.istore 6, 2) := by decide +kernel
theorem dX9_mostLeft_23 : decode cX9_mostLeft 23 = .ok (.iload 4, 2) := by decide +kernel
theorem dX9_mostLeft_25 : decode cX9_mostLeft 25 = .ok (.iload 6, 2) := by decide +kernel
theorem dX9_mostLeft_27 : decode cX9_mostLeft 27 = .ok (.ifCond .eq 7, 3) := by decide +kernel
theorem dX9_mostLeft_30 : decode cX9_mostLeft 30 = .ok (.iconst 1, 1) := by decide +kernel
theorem dX9_mostLeft_31 : decode cX9_mostLeft 31 = .ok (.goto 4, 3) := by decide +kernel
theorem dX9_mostLeft_34 : decode cX9_mostLeft 34 = .ok (.iconst 0, 1) := by decide +kernel
theorem dX9_mostLeft_35 : decode cX9_mostLeft 35 = .ok (.iadd, 1) := by decide +kernel
theorem dX9_mostLeft_36 : decode cX9_mostLeft 36 = .ok (.istore 4, 2) := by decide +kernel
theorem dX9_mostLeft_38 : decode cX9_mostLeft 38 = .ok (.iload_n 3, 1) := by decide +kernel
theorem dX9_mostLeft_39 : decode cX9_mostLeft 39 = .ok (.iload 6, 2) := by decide +kernel
theorem dX9_mostLeft_41 : decode cX9_mostLeft 41 = .ok (.ifCond .eq 22, 3) := by decide +kernel
theorem dX9_mostLeft_44 : decode cX9_mostLeft 44 = .ok (.aload_n 0, 1) := by decide +kernel
theorem dX9_mostLeft_45 : decode cX9_mostLeft 45 = .ok (.getfield 7, 3) := by decide +kernel
theorem dX9_mostLeft_48 : decode cX9_mostLeft 48 = .ok (.iload 5, 2) := by decide +kernel
