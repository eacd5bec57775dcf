theorem dX10_init_0 : decode cX10_init 0 = .ok (.aload_n 0, 1) := by decide +kernel
theorem dX10_init_1 : decode cX10_init 1 = .ok (.invokespecial 1, 3) := by decide +kernel
theorem dX10_init_4 : decode cX10_init 4 = .ok (.aload_n 0, 1) := by decide +kernel
theorem dX10_init_5 : decode cX10_init 5 = .ok (.bipush 40, 2) := by decide +kernel
theorem dX10_init_7 : decode cX10_init 7 = .ok (.newarray .int, 2) := by decide +kernel
theorem dX10_init_9 : decode cX10_init 9 = .ok (.putfield 7, 3) := by decide +kernel
theorem dX10_init_12 : decode cX10_init 12 = .ok (.aload_n 0, 1) := by decide +kernel
theorem dX10_init_13 : decode cX10_init 13 = .ok (.bipush 40, 2) := by decide +kernel
theorem dX10_init_15 : decode cX10_init 15 = .ok (.newarray .int, 2) := by decide +kernel
theorem dX10_init_17 : decode cX10_init 17 = .ok (.putfield 13, 3) := by decide +kernel
theorem dX10_init_20 : decode cX10_init 20 = .ok (.aload_n 0, 1) := by decide +kernel
theorem dX10_init_21 : decode cX10_init 21 = .ok (.bipush 7, 2) := by decide +kernel
theorem dX10_init_23 : decode cX10_init 23 = .ok (.newarray .int, 2) := by decide +kernel
theorem dX10_init_25 : decode cX10_init 25 = .ok (.putfield 16, 3) := by decide +kernel
theorem dX10_init_28 : decode cX10_init 28 = .ok (.aload_n 0, 1) := by decide +kernel
theorem dX10_init_29 : decode cX10_init 29 = .ok (.bipush 16, 2) := by decide +kernel
theorem dX10_init_31 : decode cX10_init 31 = .ok (.newarray .int, 2) := by decide +kernel
theorem dX10_init_33 : decode cX10_init 33 = .ok (.putfield 19, 3) := by decide +kernel
theorem dX10_init_36 : decode cX10_init 36 = .ok (.aload_n 0, 1) := by decide +kernel
theorem dX10_init_37 : decode cX10_init 37 = .ok (.bipush 60, 2) := by decide +kernel
theorem dX10_init_39 : decode cX10_init 39 = .ok (.newarray .int, 2) := by decide +kernel
theorem dX10_init_41 : decode cX10_init 41 = .ok (.putfield 22, 3) := by decide +kernel
theorem dX10_init_44 : decode cX10_init 44 = .ok (.aload_n 0, 1) := by decide +kernel
theorem dX10_init_45 : decode cX10_init 45 = .ok (.bipush 100, 2) := by decide +kernel
theorem dX10_init_47 : decode cX10_init 47 = .ok (.newarray .int, 2) := by decide +kernel
theorem dX10_init_49 : decode cX10_init 49 = .ok (.putfield 25, 3) := by decide +kernel
theorem dX10_init_52 : decode cX10_init 52 = .ok (.aload_n 0, 1) := by decide +kernel
theorem dX10_init_53 : decode cX10_init 53 = .ok (.sipush 3800, 3) := by decide +kernel
theorem dX10_init_56 : decode cX10_init 56 = .ok (.newarray .int, 2) := by decide +kernel
theorem dX10_init_58 : decode cX10_init 58 = .ok (.putfield 28, 3) := by decide +kernel
theorem dX10_init_61 : decode cX10_init 61 = .ok (.aload_n 0, 1) := by decide +kernel
theorem dX10_init_62 : decode cX10_init 62 = .ok (.sipush 201, 3) := by decide +kernel
theorem dX10_init_65 : decode cX10_init 65 = .ok (.newarray .int, 2) := by decide +kernel
theorem dX10_init_67 : decode cX10_init 67 = .ok (.putfield 31, 3) := by decide +kernel
theorem dX10_init_70 : decode cX10_init 70 = .ok (.aload_n 0, 1) := by decide +kernel
theorem dX10_init_71 : decode cX10_init 71 = .ok (.bipush 6, 2) := by decide +kernel
theorem dX10_init_73 : decode cX10_init 73 = .ok (.newarray .int, 2) := by decide +kernel
theorem dX10_init_75 : decode cX10_init 75 = .ok (.putfield 34, 3) := by decide +kernel
theorem dX10_init_78 : decode cX10_init 78 = .ok (.aload_n 0, 1) := by decide +kernel
theorem dX10_init_79 : decode cX10_init 79 = .ok (.bipush 6, 2) := by decide +kernel
theorem dX10_init_81 : decode cX10_init 81 = .ok (.newarray .int, 2) := by decide +kernel
theorem dX10_init_83 : decode cX10_init 83 = .ok (.putfield 37, 3) := by decide +kernel
theorem dX10_init_86 : decode cX10_init 86 = .ok (.aload_n 0, 1) := by decide +kernel
theorem dX10_init_87 : decode cX10_init 87 = .ok (.sipush 201, 3) := by decide +kernel
theorem dX10_init_90 : decode cX10_init 90 = .ok (.newarray .boolean, 2) := by decide +kernel
theorem dX10_init_92 : decode cX10_init 92 = .ok (.putfield 40, 3) := by decide +kernel
theorem dX10_init_95 : decode cX10_init 95 = .ok (.aload_n 0, 1) := by decide +kernel
theorem dX10_init_96 : decode cX10_init 96 = .ok (.bipush 27, 2) := by decide +kernel
theorem dX10_init_98 : decode cX10_init 98 = .ok (.newarray .long, 2) := by decide +kernel
theorem dX10_init_100 : decode cX10_init 100 = .ok (.putfield 44, 3) := by decide +kernel
theorem dX10_init_103 : decode cX10_init 103 = .ok (.aload_n 0, 1) := by decide +kernel
theorem dX10_init_104 : decode cX10_init 104 = .ok (.bipush 27, 2) := by decide +kernel
theorem dX10_init_106 : decode cX10_init 106 = .ok (.newarray .long, 2) := by decide +kernel
theorem dX10_init_108 : decode cX10_init 108 = .ok (.putfield 48, 3) := by decide +kernel
theorem dX10_init_111 : decode cX10_init 111 = .ok (.aload_n 0, 1) := by decide +kernel
theorem dX10_init_112 : decode cX10_init 112 = .ok (.sipush 140, 3) := by decide +kernel
theorem dX10_init_115 : decode cX10_init 115 = .ok (.newarray .int, 2) := by decide +kernel
theorem dX10_init_117 : decode cX10_init 117 = .ok (.putfield 51, 3) := by decide +kernel
theorem dX10_init_120 : decode cX10_init 120 = .ok (.aload_n 0, 1) := by decide +kernel
theorem dX10_init_121 : decode cX10_init 121 = .ok (.iconst 2, 1) := by decide +kernel
theorem dX10_init_122 : decode cX10_init 122 = .ok (.newarray .boolean, 2) := by decide +kernel
theorem dX10_init_124 : decode cX10_init 124 = .ok (.putfield 54, 3) := by decide +kernel
theorem dX10_init_127 : decode cX10_init 127 = .ok (.iconst 0, 1) := by decide +kernel
theorem dX10_init_128 : decode cX10_init 128 = .ok (.istore_n 1, 1) := by decide +kernel
theorem dX10_init_129 : decode cX10_init 129 = .ok (.iload_n 1, 1) := by decide +kernel
theorem dX10_init_130 : decode cX10_init 130 = .ok (.bipush 6, 2) := by decide +kernel
theorem dX10_init_132 : decode cX10_init 132 = .ok (.if_icmp .ge 17, 3) := by decide +kernel
theorem dX10_init_135 : decode cX10_init 135 = .ok (.aload_n 0, 1) := by decide +kernel
theorem dX10_init_136 : decode cX10_init 136 = .ok (.getfield 7, 3) := by decide +kernel
theorem dX10_init_139 : decode cX10_init 139 = .ok (.iload_n 1, 1) := by decide +kernel
theorem dX10_init_140 : decode cX10_init 140 = .ok (.bipush 100, 2) := by decide +kernel
theorem dX10_init_142 : decode cX10_init 142 = .ok (.iastore, 1) := by decide +kernel
theorem dX10_init_143 : decode cX10_init 143 = .ok (.iinc 1 1, 3) := by decide +kernel
theorem dX10_init_146 : decode cX10_init 146 = .ok (.goto (-17), 3) := by decide +kernel
theorem dX10_init_149 : decode cX10_init 149 = .ok (.iconst 0, 1) := by decide +kernel
theorem dX10_init_150 : decode cX10_init 150 = .ok (.istore_n 1, 1) := by decide +kernel
theorem dX10_init_151 : decode cX10_init 151 = .ok (.iload_n 1, 1) := by decide +kernel
theorem dX10_init_152 : decode cX10_init 152 = .ok (.iconst 4, 1) := by decide +kernel
theorem dX10_init_153 : decode cX10_init 153 = .ok (.if_icmp .ge 21, 3) := by decide +kernel
theorem dX10_init_156 : decode cX10_init 156 = .ok (.aload_n 0, 1) := by decide +kernel
theorem dX10_init_157 : decode cX10_init 157 = .ok (.getfield 7, 3) := by decide +kernel
theorem dX10_init_160 : decode cX10_init 160 = .ok (.bipush 34, 2) := by decide +kernel
theorem dX10_init_162 : decode cX10_init 162 = .ok (.iload_n 1, 1) := by decide +kernel
theorem dX10_init_163 : decode cX10_init 163 = .ok (.iadd, 1) := by decide +kernel
theorem dX10_init_164 : decode cX10_init 164 = .ok (.sipush 600, 3) := by decide +kernel
theorem dX10_init_167 : decode cX10_init 167 = .ok (.iastore, 1) := by decide +kernel
theorem dX10_init_168 : decode cX10_init 168 = .ok (.iinc 1 1, 3) := by decide +kernel
theorem dX10_init_171 : decode cX10_init 171 = .ok (.goto (-20), 3) := by decide +kernel
theorem dX10_init_174 : decode cX10_init 174 = .ok (.aload_n 0, 1) := by decide +kernel
theorem dX10_init_175 : decode cX10_init 175 = .ok (.getfield 7, 3) := by decide +kernel
theorem dX10_init_178 : decode cX10_init 178 = .ok (.bipush 38, 2) := by decide +kernel
theorem dX10_init_180 : decode cX10_init 180 = .ok (.bipush 60, 2) := by decide +kernel
theorem dX10_init_182 : decode cX10_init 182 = .ok (.iastore, 1) := by decide +kernel
theorem dX10_init_183 : decode cX10_init 183 = .ok (.return_, 1) := by decide +kernel
theorem dX10_in_0 : decode cX10_in 0 = .ok (.iload_n 0, 1) := by decide +kernel
theorem dX10_in_1 : decode cX10_in 1 = .ok (.iload_n 1, 1) := by decide +kernel
theorem dX10_in_2 : decode cX10_in 2 = .ok (.if_icmp .lt 12, 3) := by decide +kernel
theorem dX10_in_5 : decode cX10_in 5 = .ok (.iload_n 0, 1) := by decide +kernel
theorem dX10_in_6 : decode cX10_in 6 = .ok (.iload_n 2, 1) := by decide +kernel
theorem dX10_in_7 : decode cX10_in 7 = .ok (.if_icmp .gt 7, 3) := by decide +kernel
theorem dX10_in_10 : decode cX10_in 10 = .ok (.iconst 1, 1) := by decide +kernel
theorem dX10_in_11 : decode cX10_in 11 = .ok (.goto 4, 3) := by decide +kernel
theorem dX10_in_14 : decode cX10_in 14 = .ok (.iconst 0, 1) := by decide +kernel
theorem dX10_in_15 : decode cX10_in 15 = .ok (.ireturn, 1) := by decide +kernel
theorem dX10_clamp_0 : decode cX10_clamp 0 = .ok (.iload_n 0, 1) := by decide +kernel
theorem dX10_clamp_1 : decode cX10_clamp 1 = .ok (.iconst 1, 1) := by decide +kernel
theorem dX10_clamp_2 : decode cX10_clamp 2 = .ok (.if_icmp .ge 7, 3) := by decide +kernel
theorem dX10_clamp_5 : decode cX10_clamp 5 = .ok (.iconst 1, 1) := by decide +kernel
theorem dX10_clamp_6 : decode cX10_clamp 6 = .ok (.goto 17, 3) := by decide +kernel
theorem dX10_clamp_9 : decode cX10_clamp 9 = .ok (.iload_n 0, 1) := by decide +kernel
theorem dX10_clamp_10 : decode cX10_clamp 10 = .ok (.sipush 200, 3) := by decide +kernel
theorem dX10_clamp_13 : decode cX10_clamp 13 = .ok (.if_icmp .le 9, 3) := by decide +kernel
theorem dX10_clamp_16 : decode cX10_clamp 16 = .ok (.sipush 200, 3) := by decide +kernel
theorem dX10_clamp_19 : decode cX10_clamp 19 = .ok (.goto 4, 3) := by decide +kernel
theorem dX10_clamp_22 : decode cX10_clamp 22 = .ok (.iload_n 0, 1) := by decide +kernel
theorem dX10_clamp_23 : decode cX10_clamp 23 = .ok (.ireturn, 1) := by decide +kernel
theorem dX10_isOne_0 : decode cX10_isOne 0 = .ok (.iload_n 0, 1) := by decide +kernel
theorem dX10_isOne_1 : decode cX10_isOne 1 = .ok (.iconst 0, 1) := by decide +kernel
theorem dX10_isOne_2 : decode cX10_isOne 2 = .ok (.iconst 5, 1) := by decide +kernel
theorem dX10_isOne_3 : decode cX10_isOne 3 = .ok (.invokestatic 57, 3) := by decide +kernel
theorem dX10_isOne_6 : decode cX10_isOne 6 = .ok (.ireturn, 1) := by decide +kernel
theorem dX10_isStick_0 : decode cX10_isStick 0 = .ok (.iload_n 0, 1) := by decide +kernel
theorem dX10_isStick_1 : decode cX10_isStick 1 = .ok (.iconst 0, 1) := by decide +kernel
theorem dX10_isStick_2 : decode cX10_isStick 2 = .ok (.bipush 7, 2) := by decide +kernel
theorem dX10_isStick_4 : decode cX10_isStick 4 = .ok (.invokestatic 57, 3) := by decide +kernel
theorem dX10_isStick_7 : decode cX10_isStick 7 = .ok (.ireturn, 1) := by decide +kernel
theorem dX10_isBridge_0 : decode cX10_isBridge 0 = .ok (.iload_n 0, 1) := by decide +kernel
theorem dX10_isBridge_1 : decode cX10_isBridge 1 = .ok (.iconst 0, 1) := by decide +kernel
theorem dX10_isBridge_2 : decode cX10_isBridge 2 = .ok (.iconst 3, 1) := by decide +kernel
theorem dX10_isBridge_3 : decode cX10_isBridge 3 = .ok (.invokestatic 57, 3) := by decide +kernel
theorem dX10_isBridge_6 : decode cX10_isBridge 6 = .ok (.ireturn, 1) := by decide +kernel
theorem dX10_inch_0 : decode cX10_inch 0 = .ok (.iload_n 1, 1) := by decide +kernel
theorem dX10_inch_1 : decode cX10_inch 1 = .ok (.iconst 1, 1) := by decide +kernel
theorem dX10_inch_2 : decode cX10_inch 2 = .ok (.sipush 200, 3) := by decide +kernel
theorem dX10_inch_5 : decode cX10_inch 5 = .ok (.invokestatic 57, 3) := by decide +kernel
theorem dX10_inch_8 : decode cX10_inch 8 = .ok (.ifCond .ne 6, 3) := by decide +kernel
theorem dX10_inch_11 : decode cX10_inch 11 = .ok (.bipush (-2), 2) := by decide +kernel
theorem dX10_inch_13 : decode cX10_inch 13 = .ok (.ireturn, 1) := by decide +kernel
theorem dX10_inch_14 : decode cX10_inch 14 = .ok (.aload_n 0, 1) := by decide +kernel
theorem dX10_inch_15 : decode cX10_inch 15 = .ok (.getfield 7, 3) := by decide +kernel
theorem dX10_inch_18 : decode cX10_inch 18 = .ok (.bipush 38, 2) := by decide +kernel
theorem dX10_inch_20 : decode cX10_inch 20 = .ok (.iaload, 1) := by decide +kernel
theorem dX10_inch_21 : decode cX10_inch 21 = .ok (.istore_n 2, 1) := by decide +kernel
theorem dX10_inch_22 : decode cX10_inch 22 = .ok (.aload_n 0, 1) := by decide +kernel
theorem dX10_inch_23 : decode cX10_inch 23 = .ok (.getfield 7, 3) := by decide +kernel
theorem dX10_inch_26 : decode cX10_inch 26 = .ok (.bipush 38, 2) := by decide +kernel
theorem dX10_inch_28 : decode cX10_inch 28 = .ok (.iload_n 1, 1) := by decide +kernel
theorem dX10_inch_29 : decode cX10_inch 29 = .ok (.iastore, 1) := by decide +kernel
theorem dX10_inch_30 : decode cX10_inch 30 = .ok (.iload_n 2, 1) := by decide +kernel
theorem dX10_inch_31 : decode cX10_inch 31 = .ok (.ireturn, 1) := by decide +kernel
theorem dX10_week_0 : decode cX10_week 0 = .ok (.iload_n 1, 1) := by decide +kernel
theorem dX10_week_1 : decode cX10_week 1 = .ok (.iconst 0, 1) := by decide +kernel
theorem dX10_week_2 : decode cX10_week 2 = .ok (.bipush 6, 2) := by decide +kernel
theorem dX10_week_4 : decode cX10_week 4 = .ok (.invokestatic 57, 3) := by decide +kernel
theorem dX10_week_7 : decode cX10_week 7 = .ok (.ifCond .eq 14, 3) := by decide +kernel
theorem dX10_week_10 : decode cX10_week 10 = .ok (.iload_n 2, 1) := by decide +kernel
theorem dX10_week_11 : decode cX10_week 11 = .ok (.bipush (-9), 2) := by decide +kernel
theorem dX10_week_13 : decode cX10_week 13 = .ok (.bipush 9, 2) := by decide +kernel
theorem dX10_week_15 : decode cX10_week 15 = .ok (.invokestatic 57, 3) := by decide +kernel
theorem dX10_week_18 : decode cX10_week 18 = .ok (.ifCond .ne 6, 3) := by decide +kernel
theorem dX10_week_21 : decode cX10_week 21 = .ok (.bipush (-2), 2) := by decide +kernel
theorem dX10_week_23 : decode cX10_week 23 = .ok (.ireturn, 1) := by decide +kernel
theorem dX10_week_24 : decode cX10_week 24 = .ok (.aload_n 0, 1) := by decide +kernel
theorem dX10_week_25 : decode cX10_week 25 = .ok (.getfield 16, 3) := by decide +kernel
theorem dX10_week_28 : decode cX10_week 28 = .ok (.iload_n 1, 1) := by decide +kernel
theorem dX10_week_29 : decode cX10_week 29 = .ok (.iaload, 1) := by decide +kernel
theorem dX10_week_30 : decode cX10_week 30 = .ok (.istore_n 3, 1) := by decide +kernel
theorem dX10_week_31 : decode cX10_week 31 = .ok (.aload_n 0, 1) := by decide +kernel
theorem dX10_week_32 : decode cX10_week 32 = .ok (.getfield 16, 3) := by decide +kernel
theorem dX10_week_35 : decode cX10_week 35 = .ok (.iload_n 1, 1) := by decide +kernel
theorem dX10_week_36 : decode cX10_week 36 = .ok (.iload_n 2, 1) := by decide +kernel
theorem dX10_week_37 : decode cX10_week 37 = .ok (.iastore, 1) := by decide +kernel
theorem dX10_week_38 : decode cX10_week 38 = .ok (.iload_n 3, 1) := by decide +kernel
theorem dX10_week_39 : decode cX10_week 39 = .ok (.bipush 9, 2) := by decide +kernel
theorem dX10_week_41 : decode cX10_week 41 = .ok (.iadd, 1) := by decide +kernel
theorem dX10_week_42 : decode cX10_week 42 = .ok (.ireturn, 1) := by decide +kernel
theorem dX10_one_0 : decode cX10_one 0 = .ok (.iload_n 1, 1) := by decide +kernel
theorem dX10_one_1 : decode cX10_one 1 = .ok (.invokestatic 61, 3) := by decide +kernel
theorem dX10_one_4 : decode cX10_one 4 = .ok (.ifCond .ne 5, 3) := by decide +kernel
theorem dX10_one_7 : decode cX10_one 7 = .ok (.iconst (-1), 1) := by decide +kernel
theorem dX10_one_8 : decode cX10_one 8 = .ok (.ireturn, 1) := by decide +kernel
theorem dX10_one_9 : decode cX10_one 9 = .ok (.iload_n 2, 1) := by decide +kernel
theorem dX10_one_10 : decode cX10_one 10 = .ok (.iconst 0, 1) := by decide +kernel
theorem dX10_one_11 : decode cX10_one 11 = .ok (.sipush 9999, 3) := by decide +kernel
theorem dX10_one_14 : decode cX10_one 14 = .ok (.invokestatic 57, 3) := by decide +kernel
theorem dX10_one_17 : decode cX10_one 17 = .ok (.ifCond .eq 25, 3) := by decide +kernel
theorem dX10_one_20 : decode cX10_one 20 = .ok (.iload_n 3, 1) := by decide +kernel
theorem dX10_one_21 : decode cX10_one 21 = .ok (.iconst 0, 1) := by decide +kernel
theorem dX10_one_22 : decode cX10_one 22 = .ok (.ldc 65, 2) := by decide +kernel
theorem dX10_one_24 : decode cX10_one 24 = .ok (.invokestatic 57, 3) := by decide +kernel
theorem dX10_one_27 : decode cX10_one 27 = .ok (.ifCond .eq 15, 3) := by decide +kernel
theorem dX10_one_30 : decode cX10_one 30 = .ok (.iload 4, 2) := by decide +kernel
theorem dX10_one_32 : decode cX10_one 32 = .ok (.iconst 0, 1) := by decide +kernel
theorem dX10_one_33 : decode cX10_one 33 = .ok (.sipush 200, 3) := by decide +kernel
theorem dX10_one_36 : decode cX10_one 36 = .ok (.invokestatic 57, 3) := by decide +kernel
theorem dX10_one_39 : decode cX10_one 39 = .ok (.ifCond .ne 6, 3) := by decide +kernel
theorem dX10_one_42 : decode cX10_one 42 = .ok (.bipush (-2), 2) := by decide +kernel
theorem dX10_one_44 : decode cX10_one 44 = .ok (.ireturn, 1) := by decide +kernel
theorem dX10_one_45 : decode cX10_one 45 = .ok (.aload_n 0, 1) := by decide +kernel
theorem dX10_one_46 : decode cX10_one 46 = .ok (.getfield 7, 3) := by decide +kernel
theorem dX10_one_49 : decode cX10_one 49 = .ok (.iload_n 1, 1) := by decide +kernel
theorem dX10_one_50 : decode cX10_one 50 = .ok (.iaload, 1) := by decide +kernel
theorem dX10_one_51 : decode cX10_one 51 = .ok (.istore 5, 2) := by decide +kernel
theorem dX10_one_53 : decode cX10_one 53 = .ok (.aload_n 0, 1) := by decide +kernel
theorem dX10_one_54 : decode cX10_one 54 = .ok (.getfield 7, 3) := by decide +kernel
theorem dX10_one_57 : decode cX10_one 57 = .ok (.iload_n 1, 1) := by decide +kernel
theorem dX10_one_58 : decode cX10_one 58 = .ok (.iload_n 2, 1) := by decide +kernel
theorem dX10_one_59 : decode cX10_one 59 = .ok (.iastore, 1) := by decide +kernel
theorem dX10_one_60 : decode cX10_one 60 = .ok (.aload_n 0, 1) := by decide +kernel
theorem dX10_one_61 : decode cX10_one 61 = .ok (.getfield 7, 3) := by decide +kernel
theorem dX10_one_64 : decode cX10_one 64 = .ok (.bipush 6, 2) := by decide +kernel
theorem dX10_one_66 : decode cX10_one 66 = .ok (.iload_n 1, 1) := by decide +kernel
theorem dX10_one_67 : decode cX10_one 67 = .ok (.iadd, 1) := by decide +kernel
theorem dX10_one_68 : decode cX10_one 68 = .ok (.iload_n 3, 1) := by decide +kernel
theorem dX10_one_69 : decode cX10_one 69 = .ok (.iastore, 1) := by decide +kernel
theorem dX10_one_70 : decode cX10_one 70 = .ok (.aload_n 0, 1) := by decide +kernel
theorem dX10_one_71 : decode cX10_one 71 = .ok (.getfield 7, 3) := by decide +kernel
theorem dX10_one_74 : decode cX10_one 74 = .ok (.bipush 12, 2) := by decide +kernel
theorem dX10_one_76 : decode cX10_one 76 = .ok (.iload_n 1, 1) := by decide +kernel
theorem dX10_one_77 : decode cX10_one 77 = .ok (.iadd, 1) := by decide +kernel
theorem dX10_one_78 : decode cX10_one 78 = .ok (.iload 4, 2) := by decide +kernel
theorem dX10_one_80 : decode cX10_one 80 = .ok (.iastore, 1) := by decide +kernel
theorem dX10_one_81 : decode cX10_one 81 = .ok (.iload 5, 2) := by decide +kernel
theorem dX10_one_83 : decode cX10_one 83 = .ok (.ireturn, 1) := by decide +kernel
theorem dX10_stick_0 : decode cX10_stick 0 = .ok (.iload_n 1, 1) := by decide +kernel
theorem dX10_stick_1 : decode cX10_stick 1 = .ok (.invokestatic 66, 3) := by decide +kernel
theorem dX10_stick_4 : decode cX10_stick 4 = .ok (.ifCond .ne 5, 3) := by decide +kernel
theorem dX10_stick_7 : decode cX10_stick 7 = .ok (.iconst (-1), 1) := by decide +kernel
theorem dX10_stick_8 : decode cX10_stick 8 = .ok (.ireturn, 1) := by decide +kernel
theorem dX10_stick_9 : decode cX10_stick 9 = .ok (.iload_n 2, 1) := by decide +kernel
theorem dX10_stick_10 : decode cX10_stick 10 = .ok (.iconst 0, 1) := by decide +kernel
theorem dX10_stick_11 : decode cX10_stick 11 = .ok (.sipush 1800, 3) := by decide +kernel
theorem dX10_stick_14 : decode cX10_stick 14 = .ok (.invokestatic 57, 3) := by decide +kernel
theorem dX10_stick_17 : decode cX10_stick 17 = .ok (.ifCond .ne 6, 3) := by decide +kernel
theorem dX10_stick_20 : decode cX10_stick 20 = .ok (.bipush (-2), 2) := by decide +kernel
theorem dX10_stick_22 : decode cX10_stick 22 = .ok (.ireturn, 1) := by decide +kernel
theorem dX10_stick_23 : decode cX10_stick 23 = .ok (.aload_n 0, 1) := by decide +kernel
theorem dX10_stick_24 : decode cX10_stick 24 = .ok (.getfield 7, 3) := by decide +kernel
theorem dX10_stick_27 : decode cX10_stick 27 = .ok (.bipush 18, 2) := by decide +kernel
theorem dX10_stick_29 : decode cX10_stick 29 = .ok (.iload_n 1, 1) := by decide +kernel
theorem dX10_stick_30 : decode cX10_stick 30 = .ok (.iadd, 1) := by decide +kernel
theorem dX10_stick_31 : decode cX10_stick 31 = .ok (.iaload, 1) := by decide +kernel
theorem dX10_stick_32 : decode cX10_stick 32 = .ok (.istore_n 3, 1) := by decide +kernel
theorem dX10_stick_33 : decode cX10_stick 33 = .ok (.aload_n 0, 1) := by decide +kernel
theorem dX10_stick_34 : decode cX10_stick 34 = .ok (.getfield 7, 3) := by decide +kernel
theorem dX10_stick_37 : decode cX10_stick 37 = .ok (.bipush 18, 2) := by decide +kernel
theorem dX10_stick_39 : decode cX10_stick 39 = .ok (.iload_n 1, 1) := by decide +kernel
theorem dX10_stick_40 : decode cX10_stick 40 = .ok (.iadd, 1) := by decide +kernel
theorem dX10_stick_41 : decode cX10_stick 41 = .ok (.iload_n 2, 1) := by decide +kernel
theorem dX10_stick_42 : decode cX10_stick 42 = .ok (.iastore, 1) := by decide +kernel
theorem dX10_stick_43 : decode cX10_stick 43 = .ok (.iload_n 3, 1) := by decide +kernel
theorem dX10_stick_44 : decode cX10_stick 44 = .ok (.ireturn, 1) := by decide +kernel
theorem dX10_bridge_0 : decode cX10_bridge 0 = .ok (.iload_n 1, 1) := by decide +kernel
theorem dX10_bridge_1 : decode cX10_bridge 1 = .ok (.invokestatic 69, 3) := by decide +kernel
theorem dX10_bridge_4 : decode cX10_bridge 4 = .ok (.ifCond .ne 5, 3) := by decide +kernel
theorem dX10_bridge_7 : decode cX10_bridge 7 = .ok (.iconst (-1), 1) := by decide +kernel
theorem dX10_bridge_8 : decode cX10_bridge 8 = .ok (.ireturn, 1) := by decide +kernel
theorem dX10_bridge_9 : decode cX10_bridge 9 = .ok (.iload_n 2, 1) := by decide +kernel
theorem dX10_bridge_10 : decode cX10_bridge 10 = .ok (.iconst 1, 1) := by decide +kernel
theorem dX10_bridge_11 : decode cX10_bridge 11 = .ok (.ldc 65, 2) := by decide +kernel
theorem dX10_bridge_13 : decode cX10_bridge 13 = .ok (.invokestatic 57, 3) := by decide +kernel
theorem dX10_bridge_16 : decode cX10_bridge 16 = .ok (.ifCond .ne 6, 3) := by decide +kernel
theorem dX10_bridge_19 : decode cX10_bridge 19 = .ok (.bipush (-2), 2) := by decide +kernel
theorem dX10_bridge_21 : decode cX10_bridge 21 = .ok (.ireturn, 1) := by decide +kernel
theorem dX10_bridge_22 : decode cX10_bridge 22 = .ok (.aload_n 0, 1) := by decide +kernel
theorem dX10_bridge_23 : decode cX10_bridge 23 = .ok (.getfield 7, 3) := by decide +kernel
theorem dX10_bridge_26 : decode cX10_bridge 26 = .ok (.bipush 34, 2) := by decide +kernel
theorem dX10_bridge_28 : decode cX10_bridge 28 = .ok (.iload_n 1, 1) := by decide +kernel
theorem dX10_bridge_29 : decode cX10_bridge 29 = .ok (.iadd, 1) := by decide +kernel
theorem dX10_bridge_30 : decode cX10_bridge 30 = .ok (.iaload, 1) := by decide +kernel
theorem dX10_bridge_31 : decode cX10_bridge 31 = .ok (.istore_n 3, 1) := by decide +kernel
theorem dX10_bridge_32 : decode cX10_bridge 32 = .ok (.aload_n 0, 1) := by decide +kernel
theorem dX10_bridge_33 : decode cX10_bridge 33 = .ok (.getfield 7, 3) := by decide +kernel
theorem dX10_bridge_36 : decode cX10_bridge 36 = .ok (.bipush 34, 2) := by decide +kernel
theorem dX10_bridge_38 : decode cX10_bridge 38 = .ok (.iload_n 1, 1) := by decide +kernel
theorem dX10_bridge_39 : decode cX10_bridge 39 = .ok (.iadd, 1) := by decide +kernel
theorem dX10_bridge_40 : decode cX10_bridge 40 = .ok (.iload_n 2, 1) := by decide +kernel
theorem dX10_bridge_41 : decode cX10_bridge 41 = .ok (.iastore, 1) := by decide +kernel
theorem dX10_bridge_42 : decode cX10_bridge 42 = .ok (.aload_n 0, 1) := by decide +kernel
theorem dX10_bridge_43 : decode cX10_bridge 43 = .ok (.getfield 7, 3) := by decide +kernel
theorem dX10_bridge_46 : decode cX10_bridge 46 = .ok (.bipush 26, 2) := by decide +kernel
theorem dX10_bridge_48 : decode cX10_bridge 48 = .ok (.iload_n 1, 1) := by decide +kernel
theorem dX10_bridge_49 : decode cX10_bridge 49 = .ok (.iadd, 1) := by decide +kernel
theorem dX10_bridge_50 : decode cX10_bridge 50 = .ok (.iconst 0, 1) := by decide +kernel
theorem dX10_bridge_51 : decode cX10_bridge 51 = .ok (.iastore, 1) := by decide +kernel
theorem dX10_bridge_52 : decode cX10_bridge 52 = .ok (.aload_n 0, 1) := by decide +kernel
theorem dX10_bridge_53 : decode cX10_bridge 53 = .ok (.getfield 7, 3) := by decide +kernel
theorem dX10_bridge_56 : decode cX10_bridge 56 = .ok (.bipush 30, 2) := by decide +kernel
theorem dX10_bridge_58 : decode cX10_bridge 58 = .ok (.iload_n 1, 1) := by decide +kernel
theorem dX10_bridge_59 : decode cX10_bridge 59 = .ok (.iadd, 1) := by decide +kernel
theorem dX10_bridge_60 : decode cX10_bridge 60 = .ok (.iconst 0, 1) := by decide +kernel
theorem dX10_bridge_61 : decode cX10_bridge 61 = .ok (.iastore, 1) := by decide +kernel
theorem dX10_bridge_62 : decode cX10_bridge 62 = .ok (.iload_n 3, 1) := by decide +kernel
theorem dX10_bridge_63 : decode cX10_bridge 63 = .ok (.ireturn, 1) := by decide +kernel
theorem dX10_say_0 : decode cX10_say 0 = .ok (.iload_n 1, 1) := by decide +kernel
theorem dX10_say_1 : decode cX10_say 1 = .ok (.bipush 33, 2) := by decide +kernel
theorem dX10_say_3 : decode cX10_say 3 = .ok (.bipush 126, 2) := by decide +kernel
theorem dX10_say_5 : decode cX10_say 5 = .ok (.invokestatic 57, 3) := by decide +kernel
theorem dX10_say_8 : decode cX10_say 8 = .ok (.ifCond .ne 6, 3) := by decide +kernel
theorem dX10_say_11 : decode cX10_say 11 = .ok (.bipush (-2), 2) := by decide +kernel
theorem dX10_say_13 : decode cX10_say 13 = .ok (.ireturn, 1) := by decide +kernel
theorem dX10_say_14 : decode cX10_say 14 = .ok (.aload_n 0, 1) := by decide +kernel
theorem dX10_say_15 : decode cX10_say 15 = .ok (.getfield 72, 3) := by decide +kernel
theorem dX10_say_18 : decode cX10_say 18 = .ok (.bipush 60, 2) := by decide +kernel
theorem dX10_say_20 : decode cX10_say 20 = .ok (.if_icmp .ne 6, 3) := by decide +kernel
theorem dX10_say_23 : decode cX10_say 23 = .ok (.bipush (-4), 2) := by decide +kernel
theorem dX10_say_25 : decode cX10_say 25 = .ok (.ireturn, 1) := by decide +kernel
theorem dX10_say_26 : decode cX10_say 26 = .ok (.aload_n 0, 1) := by decide +kernel
theorem dX10_say_27 : decode cX10_say 27 = .ok (.getfield 22, 3) := by decide +kernel
theorem dX10_say_30 : decode cX10_say 30 = .ok (.aload_n 0, 1) := by decide +kernel
theorem dX10_say_31 : decode cX10_say 31 = .ok (.getfield 72, 3) := by decide +kernel
theorem dX10_say_34 : decode cX10_say 34 = .ok (.iload_n 1, 1) := by decide +kernel
theorem dX10_say_35 : decode cX10_say 35 = .ok (.iastore, 1) := by decide +kernel
theorem dX10_say_36 : decode cX10_say 36 = .ok (.aload_n 0, 1) := by decide +kernel
theorem dX10_say_37 : decode cX10_say 37 = .ok (.dup, 1) := by decide +kernel
theorem dX10_say_38 : decode cX10_say 38 = .ok (.getfield 72, 3) := by decide +kernel
theorem dX10_say_41 : decode cX10_say 41 = .ok (.iconst 1, 1) := by decide +kernel
theorem dX10_say_42 : decode cX10_say 42 = .ok (.iadd, 1) := by decide +kernel
theorem dX10_say_43 : decode cX10_say 43 = .ok (.putfield 72, 3) := by decide +kernel
theorem dX10_say_46 : decode cX10_say 46 = .ok (.aload_n 0, 1) := by decide +kernel
theorem dX10_say_47 : decode cX10_say 47 = .ok (.getfield 72, 3) := by decide +kernel
theorem dX10_say_50 : decode cX10_say 50 = .ok (.ireturn, 1) := by decide +kernel
theorem dX10_wipe_0 : decode cX10_wipe 0 = .ok (.aload_n 0, 1) := by decide +kernel
theorem dX10_wipe_1 : decode cX10_wipe 1 = .ok (.getfield 72, 3) := by decide +kernel
theorem dX10_wipe_4 : decode cX10_wipe 4 = .ok (.istore_n 1, 1) := by decide +kernel
theorem dX10_wipe_5 : decode cX10_wipe 5 = .ok (.aload_n 0, 1) := by decide +kernel
theorem dX10_wipe_6 : decode cX10_wipe 6 = .ok (.iconst 0, 1) := by decide +kernel
theorem dX10_wipe_7 : decode cX10_wipe 7 = .ok (.putfield 72, 3) := by decide +kernel
theorem dX10_wipe_10 : decode cX10_wipe 10 = .ok (.iload_n 1, 1) := by decide +kernel
theorem dX10_wipe_11 : decode cX10_wipe 11 = .ok (.ireturn, 1) := by decide +kernel
theorem dX10_step_0 : decode cX10_step 0 = .ok (.iload_n 0, 1) := by decide +kernel
theorem dX10_step_1 : decode cX10_step 1 = .ok (.tableswitch 172 0 3 #[31, 75, 136, 154], 31) := by decide +kernel
theorem dX10_step_32 : decode cX10_step 32 = .ok (.iload_n 1, 1) := by decide +kernel
theorem dX10_step_33 : decode cX10_step 33 = .ok (.bipush 65, 2) := by decide +kernel
theorem dX10_step_35 : decode cX10_step 35 = .ok (.bipush 70, 2) := by decide +kernel
theorem dX10_step_37 : decode cX10_step 37 = .ok (.invokestatic 57, 3) := by decide +kernel
theorem dX10_step_40 : decode cX10_step 40 = .ok (.ifCond .eq 7, 3) := by decide +kernel
theorem dX10_step_43 : decode cX10_step 43 = .ok (.iconst 1, 1) := by decide +kernel
theorem dX10_step_44 : decode cX10_step 44 = .ok (.goto 31, 3) := by decide +kernel
theorem dX10_step_47 : decode cX10_step 47 = .ok (.iload_n 1, 1) := by decide +kernel
theorem dX10_step_48 : decode cX10_step 48 = .ok (.bipush 60, 2) := by decide +kernel
theorem dX10_step_50 : decode cX10_step 50 = .ok (.if_icmp .eq 9, 3) := by decide +kernel
theorem dX10_step_53 : decode cX10_step 53 = .ok (.iload_n 1, 1) := by decide +kernel
theorem dX10_step_54 : decode cX10_step 54 = .ok (.bipush 62, 2) := by decide +kernel
theorem dX10_step_56 : decode cX10_step 56 = .ok (.if_icmp .ne 7, 3) := by decide +kernel
theorem dX10_step_59 : decode cX10_step 59 = .ok (.iconst 2, 1) := by decide +kernel
theorem dX10_step_60 : decode cX10_step 60 = .ok (.goto 15, 3) := by decide +kernel
theorem dX10_step_63 : decode cX10_step 63 = .ok (.iload_n 1, 1) := by decide +kernel
theorem dX10_step_64 : decode cX10_step 64 = .ok (.bipush 46, 2) := by decide +kernel
theorem dX10_step_66 : decode cX10_step 66 = .ok (.if_icmp .ne 7, 3) := by decide +kernel
theorem dX10_step_69 : decode cX10_step 69 = .ok (.iconst 0, 1) := by decide +kernel
theorem dX10_step_70 : decode cX10_step 70 = .ok (.goto 5, 3) := by decide +kernel
theorem dX10_step_73 : decode cX10_step 73 = .ok (.bipush (-6), 2) := by decide +kernel
theorem dX10_step_75 : decode cX10_step 75 = .ok (.ireturn, 1) := by decide +kernel
theorem dX10_step_76 : decode cX10_step 76 = .ok (.iload_n 1, 1) := by decide +kernel
theorem dX10_step_77 : decode cX10_step 77 = .ok (.bipush 43, 2) := by decide +kernel
theorem dX10_step_79 : decode cX10_step 79 = .ok (.if_icmp .eq 9, 3) := by decide +kernel
theorem dX10_step_82 : decode cX10_step 82 = .ok (.iload_n 1, 1) := by decide +kernel
theorem dX10_step_83 : decode cX10_step 83 = .ok (.bipush 45, 2) := by decide +kernel
theorem dX10_step_85 : decode cX10_step 85 = .ok (.if_icmp .ne 7, 3) := by decide +kernel
theorem dX10_step_88 : decode cX10_step 88 = .ok (.iconst 2, 1) := by decide +kernel
theorem dX10_step_89 : decode cX10_step 89 = .ok (.goto 47, 3) := by decide +kernel
theorem dX10_step_92 : decode cX10_step 92 = .ok (.iload_n 1, 1) := by decide +kernel
theorem dX10_step_93 : decode cX10_step 93 = .ok (.bipush 47, 2) := by decide +kernel
theorem dX10_step_95 : decode cX10_step 95 = .ok (.if_icmp .ne 7, 3) := by decide +kernel
theorem dX10_step_98 : decode cX10_step 98 = .ok (.iconst 3, 1) := by decide +kernel
theorem dX10_step_99 : decode cX10_step 99 = .ok (.goto 37, 3) := by decide +kernel
theorem dX10_step_102 : decode cX10_step 102 = .ok (.iload_n 1, 1) := by decide +kernel
theorem dX10_step_103 : decode cX10_step 103 = .ok (.bipush 40, 2) := by decide +kernel
theorem dX10_step_105 : decode cX10_step 105 = .ok (.if_icmp .eq 9, 3) := by decide +kernel
theorem dX10_step_108 : decode cX10_step 108 = .ok (.iload_n 1, 1) := by decide +kernel
theorem dX10_step_109 : decode cX10_step 109 = .ok (.bipush 41, 2) := by decide +kernel
theorem dX10_step_111 : decode cX10_step 111 = .ok (.if_icmp .ne 7, 3) := by decide +kernel
theorem dX10_step_114 : decode cX10_step 114 = .ok (.iconst 4, 1) := by decide +kernel
theorem dX10_step_115 : decode cX10_step 115 = .ok (.goto 21, 3) := by decide +kernel
theorem dX10_step_118 : decode cX10_step 118 = .ok (.iload_n 1, 1) := by decide +kernel
theorem dX10_step_119 : decode cX10_step 119 = .ok (.bipush 61, 2) := by decide +kernel
theorem dX10_step_121 : decode cX10_step 121 = .ok (.if_icmp .eq 9, 3) := by decide +kernel
theorem dX10_step_124 : decode cX10_step 124 = .ok (.iload_n 1, 1) := by decide +kernel
theorem dX10_step_125 : decode cX10_step 125 = .ok (.bipush 120, 2) := by decide +kernel
theorem dX10_step_127 : decode cX10_step 127 = .ok (.if_icmp .ne 7, 3) := by decide +kernel
theorem dX10_step_130 : decode cX10_step 130 = .ok (.iconst 0, 1) := by decide +kernel
theorem dX10_step_131 : decode cX10_step 131 = .ok (.goto 5, 3) := by decide +kernel
theorem dX10_step_134 : decode cX10_step 134 = .ok (.bipush (-6), 2) := by decide +kernel
theorem dX10_step_136 : decode cX10_step 136 = .ok (.ireturn, 1) := by decide +kernel
theorem dX10_step_137 : decode cX10_step 137 = .ok (.iload_n 1, 1) := by decide +kernel
theorem dX10_step_138 : decode cX10_step 138 = .ok (.bipush 49, 2) := by decide +kernel
theorem dX10_step_140 : decode cX10_step 140 = .ok (.bipush 57, 2) := by decide +kernel
theorem dX10_step_142 : decode cX10_step 142 = .ok (.invokestatic 57, 3) := by decide +kernel
theorem dX10_step_145 : decode cX10_step 145 = .ok (.ifCond .eq 7, 3) := by decide +kernel
theorem dX10_step_148 : decode cX10_step 148 = .ok (.iconst 0, 1) := by decide +kernel
theorem dX10_step_149 : decode cX10_step 149 = .ok (.goto 5, 3) := by decide +kernel
theorem dX10_step_152 : decode cX10_step 152 = .ok (.bipush (-6), 2) := by decide +kernel
theorem dX10_step_154 : decode cX10_step 154 = .ok (.ireturn, 1) := by decide +kernel
theorem dX10_step_155 : decode cX10_step 155 = .ok (.iload_n 1, 1) := by decide +kernel
theorem dX10_step_156 : decode cX10_step 156 = .ok (.bipush 48, 2) := by decide +kernel
theorem dX10_step_158 : decode cX10_step 158 = .ok (.bipush 55, 2) := by decide +kernel
theorem dX10_step_160 : decode cX10_step 160 = .ok (.invokestatic 57, 3) := by decide +kernel
theorem dX10_step_163 : decode cX10_step 163 = .ok (.ifCond .eq 7, 3) := by decide +kernel
theorem dX10_step_166 : decode cX10_step 166 = .ok (.iconst 2, 1) := by decide +kernel
theorem dX10_step_167 : decode cX10_step 167 = .ok (.goto 5, 3) := by decide +kernel
theorem dX10_step_170 : decode cX10_step 170 = .ok (.bipush (-6), 2) := by decide +kernel
theorem dX10_step_172 : decode cX10_step 172 = .ok (.ireturn, 1) := by decide +kernel
theorem dX10_step_173 : decode cX10_step 173 = .ok (.iload_n 1, 1) := by decide +kernel
theorem dX10_step_174 : decode cX10_step 174 = .ok (.bipush 48, 2) := by decide +kernel
theorem dX10_step_176 : decode cX10_step 176 = .ok (.bipush 51, 2) := by decide +kernel
theorem dX10_step_178 : decode cX10_step 178 = .ok (.invokestatic 57, 3) := by decide +kernel
theorem dX10_step_181 : decode cX10_step 181 = .ok (.ifCond .eq 7, 3) := by decide +kernel
theorem dX10_step_184 : decode cX10_step 184 = .ok (.iconst 2, 1) := by decide +kernel
theorem dX10_step_185 : decode cX10_step 185 = .ok (.goto 5, 3) := by decide +kernel
theorem dX10_step_188 : decode cX10_step 188 = .ok (.bipush (-6), 2) := by decide +kernel
theorem dX10_step_190 : decode cX10_step 190 = .ok (.ireturn, 1) := by decide +kernel
theorem dX10_faultOf_0 : decode cX10_faultOf 0 = .ok (.iconst 0, 1) := by decide +kernel
theorem dX10_faultOf_1 : decode cX10_faultOf 1 = .ok (.istore_n 1, 1) := by decide +kernel
theorem dX10_faultOf_2 : decode cX10_faultOf 2 = .ok (.iconst 0, 1) := by decide +kernel
theorem dX10_faultOf_3 : decode cX10_faultOf 3 = .ok (.istore_n 2, 1) := by decide +kernel
theorem dX10_faultOf_4 : decode cX10_faultOf 4 = .ok (.iload_n 2, 1) := by decide +kernel
theorem dX10_faultOf_5 : decode cX10_faultOf 5 = .ok (.aload_n 0, 1) := by decide +kernel
theorem dX10_faultOf_6 : decode cX10_faultOf 6 = .ok (.getfield 72, 3) := by decide +kernel
theorem dX10_faultOf_9 : decode cX10_faultOf 9 = .ok (.if_icmp .ge 26, 3) := by decide +kernel
theorem dX10_faultOf_12 : decode cX10_faultOf 12 = .ok (.iload_n 1, 1) := by decide +kernel
theorem dX10_faultOf_13 : decode cX10_faultOf 13 = .ok (.aload_n 0, 1) := by decide +kernel
theorem dX10_faultOf_14 : decode cX10_faultOf 14 = .ok (.getfield 22, 3) := by decide +kernel
theorem dX10_faultOf_17 : decode cX10_faultOf 17 = .ok (.iload_n 2, 1) := by decide +kernel
theorem dX10_faultOf_18 : decode cX10_faultOf 18 = .ok (.iaload, 1) := by decide +kernel
theorem dX10_faultOf_19 : decode cX10_faultOf 19 = .ok (.invokestatic 76, 3) := by decide +kernel
theorem dX10_faultOf_22 : decode cX10_faultOf 22 = .ok (.istore_n 1, 1) := by decide +kernel
theorem dX10_faultOf_23 : decode cX10_faultOf 23 = .ok (.iload_n 1, 1) := by decide +kernel
theorem dX10_faultOf_24 : decode cX10_faultOf 24 = .ok (.ifCond .ge 5, 3) := by decide +kernel
theorem dX10_faultOf_27 : decode cX10_faultOf 27 = .ok (.iload_n 2, 1) := by decide +kernel
theorem dX10_faultOf_28 : decode cX10_faultOf 28 = .ok (.ireturn, 1) := by decide +kernel
theorem dX10_faultOf_29 : decode cX10_faultOf 29 = .ok (.iinc 2 1, 3) := by decide +kernel
theorem dX10_faultOf_32 : decode cX10_faultOf 32 = .ok (.goto (-28), 3) := by decide +kernel
theorem dX10_faultOf_35 : decode cX10_faultOf 35 = .ok (.iload_n 1, 1) := by decide +kernel
theorem dX10_faultOf_36 : decode cX10_faultOf 36 = .ok (.ifCond .ne 8, 3) := by decide +kernel
theorem dX10_faultOf_39 : decode cX10_faultOf 39 = .ok (.bipush (-6), 2) := by decide +kernel
theorem dX10_faultOf_41 : decode cX10_faultOf 41 = .ok (.goto 7, 3) := by decide +kernel
theorem dX10_faultOf_44 : decode cX10_faultOf 44 = .ok (.aload_n 0, 1) := by decide +kernel
theorem dX10_faultOf_45 : decode cX10_faultOf 45 = .ok (.getfield 72, 3) := by decide +kernel
theorem dX10_faultOf_48 : decode cX10_faultOf 48 = .ok (.ireturn, 1) := by decide +kernel
theorem dX10_fault_0 : decode cX10_fault 0 = .ok (.aload_n 0, 1) := by decide +kernel
theorem dX10_fault_1 : decode cX10_fault 1 = .ok (.invokevirtual 80, 3) := by decide +kernel
theorem dX10_fault_4 : decode cX10_fault 4 = .ok (.ireturn, 1) := by decide +kernel
theorem dX10_asNow_0 : decode cX10_asNow 0 = .ok (.iconst 0, 1) := by decide +kernel
theorem dX10_asNow_1 : decode cX10_asNow 1 = .ok (.istore_n 1, 1) := by decide +kernel
theorem dX10_asNow_2 : decode cX10_asNow 2 = .ok (.iload_n 1, 1) := by decide +kernel
theorem dX10_asNow_3 : decode cX10_asNow 3 = .ok (.bipush 40, 2) := by decide +kernel
theorem dX10_asNow_5 : decode cX10_asNow 5 = .ok (.if_icmp .ge 21, 3) := by decide +kernel
theorem dX10_asNow_8 : decode cX10_asNow 8 = .ok (.aload_n 0, 1) := by decide +kernel
theorem dX10_asNow_9 : decode cX10_asNow 9 = .ok (.getfield 13, 3) := by decide +kernel
theorem dX10_asNow_12 : decode cX10_asNow 12 = .ok (.iload_n 1, 1) := by decide +kernel
theorem dX10_asNow_13 : decode cX10_asNow 13 = .ok (.aload_n 0, 1) := by decide +kernel
theorem dX10_asNow_14 : decode cX10_asNow 14 = .ok (.getfield 7, 3) := by decide +kernel
theorem dX10_asNow_17 : decode cX10_asNow 17 = .ok (.iload_n 1, 1) := by decide +kernel
theorem dX10_asNow_18 : decode cX10_asNow 18 = .ok (.iaload, 1) := by decide +kernel
theorem dX10_asNow_19 : decode cX10_asNow 19 = .ok (.iastore, 1) := by decide +kernel
theorem dX10_asNow_20 : decode cX10_asNow 20 = .ok (.iinc 1 1, 3) := by decide +kernel
theorem dX10_asNow_23 : decode cX10_asNow 23 = .ok (.goto (-21), 3) := by decide +kernel
theorem dX10_asNow_26 : decode cX10_asNow 26 = .ok (.aload_n 0, 1) := by decide +kernel
theorem dX10_asNow_27 : decode cX10_asNow 27 = .ok (.bipush (-6), 2) := by decide +kernel
theorem dX10_asNow_29 : decode cX10_asNow 29 = .ok (.putfield 84, 3) := by decide +kernel
theorem dX10_asNow_32 : decode cX10_asNow 32 = .ok (.aload_n 0, 1) := by decide +kernel
theorem dX10_asNow_33 : decode cX10_asNow 33 = .ok (.bipush (-6), 2) := by decide +kernel
theorem dX10_asNow_35 : decode cX10_asNow 35 = .ok (.putfield 87, 3) := by decide +kernel
theorem dX10_asNow_38 : decode cX10_asNow 38 = .ok (.return_, 1) := by decide +kernel
theorem dX10_measureOf_0 : decode cX10_measureOf 0 = .ok (.aload_n 0, 1) := by decide +kernel
theorem dX10_measureOf_1 : decode cX10_measureOf 1 = .ok (.getfield 13, 3) := by decide +kernel
theorem dX10_measureOf_4 : decode cX10_measureOf 4 = .ok (.bipush 12, 2) := by decide +kernel
theorem dX10_measureOf_6 : decode cX10_measureOf 6 = .ok (.iload_n 1, 1) := by decide +kernel
theorem dX10_measureOf_7 : decode cX10_measureOf 7 = .ok (.iadd, 1) := by decide +kernel
theorem dX10_measureOf_8 : decode cX10_measureOf 8 = .ok (.iaload, 1) := by decide +kernel
theorem dX10_measureOf_9 : decode cX10_measureOf 9 = .ok (.ifCond .ne 13, 3) := by decide +kernel
theorem dX10_measureOf_12 : decode cX10_measureOf 12 = .ok (.aload_n 0, 1) := by decide +kernel
theorem dX10_measureOf_13 : decode cX10_measureOf 13 = .ok (.getfield 13, 3) := by decide +kernel
theorem dX10_measureOf_16 : decode cX10_measureOf 16 = .ok (.bipush 38, 2) := by decide +kernel
theorem dX10_measureOf_18 : decode cX10_measureOf 18 = .ok (.iaload, 1) := by decide +kernel
theorem dX10_measureOf_19 : decode cX10_measureOf 19 = .ok (.goto 12, 3) := by decide +kernel
theorem dX10_measureOf_22 : decode cX10_measureOf 22 = .ok (.aload_n 0, 1) := by decide +kernel
theorem dX10_measureOf_23 : decode cX10_measureOf 23 = .ok (.getfield 13, 3) := by decide +kernel
theorem dX10_measureOf_26 : decode cX10_measureOf 26 = .ok (.bipush 12, 2) := by decide +kernel
theorem dX10_measureOf_28 : decode cX10_measureOf 28 = .ok (.iload_n 1, 1) := by decide +kernel
theorem dX10_measureOf_29 : decode cX10_measureOf 29 = .ok (.iadd, 1) := by decide +kernel
theorem dX10_measureOf_30 : decode cX10_measureOf 30 = .ok (.iaload, 1) := by decide +kernel
theorem dX10_measureOf_31 : decode cX10_measureOf 31 = .ok (.ireturn, 1) := by decide +kernel
theorem dX10_hasMet_0 : decode cX10_hasMet 0 = .ok (.aload_n 0, 1) := by decide +kernel
theorem dX10_hasMet_1 : decode cX10_hasMet 1 = .ok (.getfield 13, 3) := by decide +kernel
theorem dX10_hasMet_4 : decode cX10_hasMet 4 = .ok (.bipush 26, 2) := by decide +kernel
theorem dX10_hasMet_6 : decode cX10_hasMet 6 = .ok (.iload_n 1, 1) := by decide +kernel
theorem dX10_hasMet_7 : decode cX10_hasMet 7 = .ok (.iadd, 1) := by decide +kernel
theorem dX10_hasMet_8 : decode cX10_hasMet 8 = .ok (.iaload, 1) := by decide +kernel
theorem dX10_hasMet_9 : decode cX10_hasMet 9 = .ok (.aload_n 0, 1) := by decide +kernel
theorem dX10_hasMet_10 : decode cX10_hasMet 10 = .ok (.getfield 13, 3) := by decide +kernel
theorem dX10_hasMet_13 : decode cX10_hasMet 13 = .ok (.bipush 30, 2) := by decide +kernel
theorem dX10_hasMet_15 : decode cX10_hasMet 15 = .ok (.iload_n 1, 1) := by decide +kernel
theorem dX10_hasMet_16 : decode cX10_hasMet 16 = .ok (.iadd, 1) := by decide +kernel
theorem dX10_hasMet_17 : decode cX10_hasMet 17 = .ok (.iaload, 1) := by decide +kernel
theorem dX10_hasMet_18 : decode cX10_hasMet 18 = .ok (.iadd, 1) := by decide +kernel
theorem dX10_hasMet_19 : decode cX10_hasMet 19 = .ok (.aload_n 0, 1) := by decide +kernel
theorem dX10_hasMet_20 : decode cX10_hasMet 20 = .ok (.getfield 13, 3) := by decide +kernel
theorem dX10_hasMet_23 : decode cX10_hasMet 23 = .ok (.bipush 34, 2) := by decide +kernel
theorem dX10_hasMet_25 : decode cX10_hasMet 25 = .ok (.iload_n 1, 1) := by decide +kernel
theorem dX10_hasMet_26 : decode cX10_hasMet 26 = .ok (.iadd, 1) := by decide +kernel
theorem dX10_hasMet_27 : decode cX10_hasMet 27 = .ok (.iaload, 1) := by decide +kernel
theorem dX10_hasMet_28 : decode cX10_hasMet 28 = .ok (.if_icmp .lt 7, 3) := by decide +kernel
theorem dX10_hasMet_31 : decode cX10_hasMet 31 = .ok (.iconst 1, 1) := by decide +kernel
theorem dX10_hasMet_32 : decode cX10_hasMet 32 = .ok (.goto 4, 3) := by decide +kernel
theorem dX10_hasMet_35 : decode cX10_hasMet 35 = .ok (.iconst 0, 1) := by decide +kernel
theorem dX10_hasMet_36 : decode cX10_hasMet 36 = .ok (.ireturn, 1) := by decide +kernel
theorem dX10_buy_0 : decode cX10_buy 0 = .ok (.aload_n 0, 1) := by decide +kernel
theorem dX10_buy_1 : decode cX10_buy 1 = .ok (.getfield 13, 3) := by decide +kernel
theorem dX10_buy_4 : decode cX10_buy 4 = .ok (.iload_n 1, 1) := by decide +kernel
theorem dX10_buy_5 : decode cX10_buy 5 = .ok (.iaload, 1) := by decide +kernel
theorem dX10_buy_6 : decode cX10_buy 6 = .ok (.iload_n 2, 1) := by decide +kernel
theorem dX10_buy_7 : decode cX10_buy 7 = .ok (.if_icmp .ge 5, 3) := by decide +kernel
theorem dX10_buy_10 : decode cX10_buy 10 = .ok (.iconst 1, 1) := by decide +kernel
theorem dX10_buy_11 : decode cX10_buy 11 = .ok (.ireturn, 1) := by decide +kernel
theorem dX10_buy_12 : decode cX10_buy 12 = .ok (.aload_n 0, 1) := by decide +kernel
theorem dX10_buy_13 : decode cX10_buy 13 = .ok (.getfield 13, 3) := by decide +kernel
theorem dX10_buy_16 : decode cX10_buy 16 = .ok (.bipush 6, 2) := by decide +kernel
theorem dX10_buy_18 : decode cX10_buy 18 = .ok (.iload_n 1, 1) := by decide +kernel
theorem dX10_buy_19 : decode cX10_buy 19 = .ok (.iadd, 1) := by decide +kernel
theorem dX10_buy_20 : decode cX10_buy 20 = .ok (.iaload, 1) := by decide +kernel
theorem dX10_buy_21 : decode cX10_buy 21 = .ok (.iload_n 2, 1) := by decide +kernel
theorem dX10_buy_22 : decode cX10_buy 22 = .ok (.aload_n 0, 1) := by decide +kernel
theorem dX10_buy_23 : decode cX10_buy 23 = .ok (.getfield 13, 3) := by decide +kernel
theorem dX10_buy_26 : decode cX10_buy 26 = .ok (.bipush 38, 2) := by decide +kernel
theorem dX10_buy_28 : decode cX10_buy 28 = .ok (.iaload, 1) := by decide +kernel
theorem dX10_buy_29 : decode cX10_buy 29 = .ok (.imul, 1) := by decide +kernel
theorem dX10_buy_30 : decode cX10_buy 30 = .ok (.iadd, 1) := by decide +kernel
theorem dX10_buy_31 : decode cX10_buy 31 = .ok (.ldc 65, 2) := by decide +kernel
theorem dX10_buy_33 : decode cX10_buy 33 = .ok (.if_icmp .le 5, 3) := by decide +kernel
theorem dX10_buy_36 : decode cX10_buy 36 = .ok (.iconst 2, 1) := by decide +kernel
theorem dX10_buy_37 : decode cX10_buy 37 = .ok (.ireturn, 1) := by decide +kernel
theorem dX10_buy_38 : decode cX10_buy 38 = .ok (.aload_n 0, 1) := by decide +kernel
theorem dX10_buy_39 : decode cX10_buy 39 = .ok (.getfield 13, 3) := by decide +kernel
theorem dX10_buy_42 : decode cX10_buy 42 = .ok (.iload_n 1, 1) := by decide +kernel
theorem dX10_buy_43 : decode cX10_buy 43 = .ok (.dup2, 1) := by decide +kernel
theorem dX10_buy_44 : decode cX10_buy 44 = .ok (.iaload, 1) := by decide +kernel
theorem dX10_buy_45 : decode cX10_buy 45 = .ok (.iload_n 2, 1) := by decide +kernel
theorem dX10_buy_46 : decode cX10_buy 46 = .ok (.isub, 1) := by decide +kernel
theorem dX10_buy_47 : decode cX10_buy 47 = .ok (.iastore, 1) := by decide +kernel
theorem dX10_buy_48 : decode cX10_buy 48 = .ok (.aload_n 0, 1) := by decide +kernel
theorem dX10_buy_49 : decode cX10_buy 49 = .ok (.getfield 13, 3) := by decide +kernel
theorem dX10_buy_52 : decode cX10_buy 52 = .ok (.bipush 6, 2) := by decide +kernel
theorem dX10_buy_54 : decode cX10_buy 54 = .ok (.iload_n 1, 1) := by decide +kernel
theorem dX10_buy_55 : decode cX10_buy 55 = .ok (.iadd, 1) := by decide +kernel
theorem dX10_buy_56 : decode cX10_buy 56 = .ok (.dup2, 1) := by decide +kernel
theorem dX10_buy_57 : decode cX10_buy 57 = .ok (.iaload, 1) := by decide +kernel
theorem dX10_buy_58 : decode cX10_buy 58 = .ok (.iload_n 2, 1) := by decide +kernel
theorem dX10_buy_59 : decode cX10_buy 59 = .ok (.aload_n 0, 1) := by decide +kernel
theorem dX10_buy_60 : decode cX10_buy 60 = .ok (.getfield 13, 3) := by decide +kernel
theorem dX10_buy_63 : decode cX10_buy 63 = .ok (.bipush 38, 2) := by decide +kernel
theorem dX10_buy_65 : decode cX10_buy 65 = .ok (.iaload, 1) := by decide +kernel
theorem dX10_buy_66 : decode cX10_buy 66 = .ok (.imul, 1) := by decide +kernel
theorem dX10_buy_67 : decode cX10_buy 67 = .ok (.iadd, 1) := by decide +kernel
theorem dX10_buy_68 : decode cX10_buy 68 = .ok (.iastore, 1) := by decide +kernel
theorem dX10_buy_69 : decode cX10_buy 69 = .ok (.iconst 0, 1) := by decide +kernel
theorem dX10_buy_70 : decode cX10_buy 70 = .ok (.ireturn, 1) := by decide +kernel
theorem dX10_sell_0 : decode cX10_sell 0 = .ok (.aload_n 0, 1) := by decide +kernel
theorem dX10_sell_1 : decode cX10_sell 1 = .ok (.getfield 13, 3) := by decide +kernel
theorem dX10_sell_4 : decode cX10_sell 4 = .ok (.bipush 6, 2) := by decide +kernel
theorem dX10_sell_6 : decode cX10_sell 6 = .ok (.iload_n 1, 1) := by decide +kernel
theorem dX10_sell_7 : decode cX10_sell 7 = .ok (.iadd, 1) := by decide +kernel
theorem dX10_sell_8 : decode cX10_sell 8 = .ok (.iaload, 1) := by decide +kernel
theorem dX10_sell_9 : decode cX10_sell 9 = .ok (.iload_n 2, 1) := by decide +kernel
theorem dX10_sell_10 : decode cX10_sell 10 = .ok (.aload_n 0, 1) := by decide +kernel
theorem dX10_sell_11 : decode cX10_sell 11 = .ok (.iload_n 1, 1) := by decide +kernel
theorem dX10_sell_12 : decode cX10_sell 12 = .ok (.invokevirtual 90, 3) := by decide +kernel
theorem dX10_sell_15 : decode cX10_sell 15 = .ok (.imul, 1) := by decide +kernel
theorem dX10_sell_16 : decode cX10_sell 16 = .ok (.if_icmp .ge 5, 3) := by decide +kernel
theorem dX10_sell_19 : decode cX10_sell 19 = .ok (.iconst 1, 1) := by decide +kernel
theorem dX10_sell_20 : decode cX10_sell 20 = .ok (.ireturn, 1) := by decide +kernel
theorem dX10_sell_21 : decode cX10_sell 21 = .ok (.aload_n 0, 1) := by decide +kernel
theorem dX10_sell_22 : decode cX10_sell 22 = .ok (.getfield 13, 3) := by decide +kernel
theorem dX10_sell_25 : decode cX10_sell 25 = .ok (.iload_n 1, 1) := by decide +kernel
theorem dX10_sell_26 : decode cX10_sell 26 = .ok (.iaload, 1) := by decide +kernel
theorem dX10_sell_27 : decode cX10_sell 27 = .ok (.iload_n 2, 1) := by decide +kernel
theorem dX10_sell_28 : decode cX10_sell 28 = .ok (.iadd, 1) := by decide +kernel
theorem dX10_sell_29 : decode cX10_sell 29 = .ok (.sipush 9999, 3) := by decide +kernel
theorem dX10_sell_32 : decode cX10_sell 32 = .ok (.if_icmp .le 5, 3) := by decide +kernel
theorem dX10_sell_35 : decode cX10_sell 35 = .ok (.iconst 2, 1) := by decide +kernel
theorem dX10_sell_36 : decode cX10_sell 36 = .ok (.ireturn, 1) := by decide +kernel
theorem dX10_sell_37 : decode cX10_sell 37 = .ok (.aload_n 0, 1) := by decide +kernel
theorem dX10_sell_38 : decode cX10_sell 38 = .ok (.getfield 13, 3) := by decide +kernel
theorem dX10_sell_41 : decode cX10_sell 41 = .ok (.iload_n 1, 1) := by decide +kernel
theorem dX10_sell_42 : decode cX10_sell 42 = .ok (.dup2, 1) := by decide +kernel
theorem dX10_sell_43 : decode cX10_sell 43 = .ok (.iaload, 1) := by decide +kernel
theorem dX10_sell_44 : decode cX10_sell 44 = .ok (.iload_n 2, 1) := by decide +kernel
theorem dX10_sell_45 : decode cX10_sell 45 = .ok (.iadd, 1) := by decide +kernel
theorem dX10_sell_46 : decode cX10_sell 46 = .ok (.iastore, 1) := by decide +kernel
theorem dX10_sell_47 : decode cX10_sell 47 = .ok (.aload_n 0, 1) := by decide +kernel
theorem dX10_sell_48 : decode cX10_sell 48 = .ok (.getfield 13, 3) := by decide +kernel
theorem dX10_sell_51 : decode cX10_sell 51 = .ok (.bipush 6, 2) := by decide +kernel
theorem dX10_sell_53 : decode cX10_sell 53 = .ok (.iload_n 1, 1) := by decide +kernel
theorem dX10_sell_54 : decode cX10_sell 54 = .ok (.iadd, 1) := by decide +kernel
theorem dX10_sell_55 : decode cX10_sell 55 = .ok (.dup2, 1) := by decide +kernel
theorem dX10_sell_56 : decode cX10_sell 56 = .ok (.iaload, 1) := by decide +kernel
theorem dX10_sell_57 : decode cX10_sell 57 = .ok (.iload_n 2, 1) := by decide +kernel
theorem dX10_sell_58 : decode cX10_sell 58 = .ok (.aload_n 0, 1) := by decide +kernel
theorem dX10_sell_59 : decode cX10_sell 59 = .ok (.iload_n 1, 1) := by decide +kernel
theorem dX10_sell_60 : decode cX10_sell 60 = .ok (.invokevirtual 90, 3) := by decide +kernel
theorem dX10_sell_63 : decode cX10_sell 63 = .ok (.imul, 1) := by decide +kernel
theorem dX10_sell_64 : decode cX10_sell 64 = .ok (.isub, 1) := by decide +kernel
theorem dX10_sell_65 : decode cX10_sell 65 = .ok (.iastore, 1) := by decide +kernel
theorem dX10_sell_66 : decode cX10_sell 66 = .ok (.iconst 0, 1) := by decide +kernel
theorem dX10_sell_67 : decode cX10_sell 67 = .ok (.ireturn, 1) := by decide +kernel
theorem dX10_build_0 : decode cX10_build 0 = .ok (.aload_n 0, 1) := by decide +kernel
theorem dX10_build_1 : decode cX10_build 1 = .ok (.iload_n 2, 1) := by decide +kernel
theorem dX10_build_2 : decode cX10_build 2 = .ok (.invokevirtual 94, 3) := by decide +kernel
theorem dX10_build_5 : decode cX10_build 5 = .ok (.ifCond .eq 5, 3) := by decide +kernel
theorem dX10_build_8 : decode cX10_build 8 = .ok (.iconst 3, 1) := by decide +kernel
theorem dX10_build_9 : decode cX10_build 9 = .ok (.ireturn, 1) := by decide +kernel
theorem dX10_build_10 : decode cX10_build 10 = .ok (.aload_n 0, 1) := by decide +kernel
theorem dX10_build_11 : decode cX10_build 11 = .ok (.getfield 13, 3) := by decide +kernel
theorem dX10_build_14 : decode cX10_build 14 = .ok (.iload_n 3, 1) := by decide +kernel
theorem dX10_build_15 : decode cX10_build 15 = .ok (.iload_n 2, 1) := by decide +kernel
theorem dX10_build_16 : decode cX10_build 16 = .ok (.iadd, 1) := by decide +kernel
theorem dX10_build_17 : decode cX10_build 17 = .ok (.dup2, 1) := by decide +kernel
theorem dX10_build_18 : decode cX10_build 18 = .ok (.iaload, 1) := by decide +kernel
theorem dX10_build_19 : decode cX10_build 19 = .ok (.iload 4, 2) := by decide +kernel
theorem dX10_build_21 : decode cX10_build 21 = .ok (.aload_n 0, 1) := by decide +kernel
theorem dX10_build_22 : decode cX10_build 22 = .ok (.iload_n 1, 1) := by decide +kernel
theorem dX10_build_23 : decode cX10_build 23 = .ok (.invokevirtual 90, 3) := by decide +kernel
theorem dX10_build_26 : decode cX10_build 26 = .ok (.imul, 1) := by decide +kernel
theorem dX10_build_27 : decode cX10_build 27 = .ok (.iadd, 1) := by decide +kernel
theorem dX10_build_28 : decode cX10_build 28 = .ok (.iastore, 1) := by decide +kernel
theorem dX10_build_29 : decode cX10_build 29 = .ok (.iconst 0, 1) := by decide +kernel
theorem dX10_build_30 : decode cX10_build 30 = .ok (.ireturn, 1) := by decide +kernel
theorem dX10_change_0 : decode cX10_change 0 = .ok (.aload_n 0, 1) := by decide +kernel
theorem dX10_change_1 : decode cX10_change 1 = .ok (.getfield 13, 3) := by decide +kernel
theorem dX10_change_4 : decode cX10_change 4 = .ok (.bipush 38, 2) := by decide +kernel
theorem dX10_change_6 : decode cX10_change 6 = .ok (.iaload, 1) := by decide +kernel
theorem dX10_change_7 : decode cX10_change 7 = .ok (.iload_n 1, 1) := by decide +kernel
theorem dX10_change_8 : decode cX10_change 8 = .ok (.ifCond .ge 7, 3) := by decide +kernel
theorem dX10_change_11 : decode cX10_change 11 = .ok (.iconst 1, 1) := by decide +kernel
theorem dX10_change_12 : decode cX10_change 12 = .ok (.goto 6, 3) := by decide +kernel
theorem dX10_change_15 : decode cX10_change 15 = .ok (.sipush 200, 3) := by decide +kernel
theorem dX10_change_18 : decode cX10_change 18 = .ok (.if_icmp .ne 5, 3) := by decide +kernel
theorem dX10_change_21 : decode cX10_change 21 = .ok (.iconst 4, 1) := by decide +kernel
theorem dX10_change_22 : decode cX10_change 22 = .ok (.ireturn, 1) := by decide +kernel
theorem dX10_change_23 : decode cX10_change 23 = .ok (.aload_n 0, 1) := by decide +kernel
theorem dX10_change_24 : decode cX10_change 24 = .ok (.getfield 13, 3) := by decide +kernel
theorem dX10_change_27 : decode cX10_change 27 = .ok (.bipush 38, 2) := by decide +kernel
theorem dX10_change_29 : decode cX10_change 29 = .ok (.aload_n 0, 1) := by decide +kernel
theorem dX10_change_30 : decode cX10_change 30 = .ok (.getfield 13, 3) := by decide +kernel
theorem dX10_change_33 : decode cX10_change 33 = .ok (.bipush 38, 2) := by decide +kernel
theorem dX10_change_35 : decode cX10_change 35 = .ok (.iaload, 1) := by decide +kernel
theorem dX10_change_36 : decode cX10_change 36 = .ok (.iload_n 1, 1) := by decide +kernel
theorem dX10_change_37 : decode cX10_change 37 = .ok (.iadd, 1) := by decide +kernel
theorem dX10_change_38 : decode cX10_change 38 = .ok (.invokestatic 97, 3) := by decide +kernel
theorem dX10_change_41 : decode cX10_change 41 = .ok (.iastore, 1) := by decide +kernel
theorem dX10_change_42 : decode cX10_change 42 = .ok (.iconst 0, 1) := by decide +kernel
theorem dX10_change_43 : decode cX10_change 43 = .ok (.ireturn, 1) := by decide +kernel
theorem dX10_copy_0 : decode cX10_copy 0 = .ok (.aload_n 0, 1) := by decide +kernel
theorem dX10_copy_1 : decode cX10_copy 1 = .ok (.getfield 13, 3) := by decide +kernel
theorem dX10_copy_4 : decode cX10_copy 4 = .ok (.bipush 12, 2) := by decide +kernel
theorem dX10_copy_6 : decode cX10_copy 6 = .ok (.iload_n 1, 1) := by decide +kernel
theorem dX10_copy_7 : decode cX10_copy 7 = .ok (.iadd, 1) := by decide +kernel
theorem dX10_copy_8 : decode cX10_copy 8 = .ok (.iaload, 1) := by decide +kernel
theorem dX10_copy_9 : decode cX10_copy 9 = .ok (.aload_n 0, 1) := by decide +kernel
theorem dX10_copy_10 : decode cX10_copy 10 = .ok (.getfield 13, 3) := by decide +kernel
theorem dX10_copy_13 : decode cX10_copy 13 = .ok (.bipush 38, 2) := by decide +kernel
theorem dX10_copy_15 : decode cX10_copy 15 = .ok (.iaload, 1) := by decide +kernel
theorem dX10_copy_16 : decode cX10_copy 16 = .ok (.if_icmp .ne 5, 3) := by decide +kernel
theorem dX10_copy_19 : decode cX10_copy 19 = .ok (.iconst 5, 1) := by decide +kernel
theorem dX10_copy_20 : decode cX10_copy 20 = .ok (.ireturn, 1) := by decide +kernel
theorem dX10_copy_21 : decode cX10_copy 21 = .ok (.aload_n 0, 1) := by decide +kernel
theorem dX10_copy_22 : decode cX10_copy 22 = .ok (.getfield 13, 3) := by decide +kernel
theorem dX10_copy_25 : decode cX10_copy 25 = .ok (.bipush 12, 2) := by decide +kernel
theorem dX10_copy_27 : decode cX10_copy 27 = .ok (.iload_n 1, 1) := by decide +kernel
theorem dX10_copy_28 : decode cX10_copy 28 = .ok (.iadd, 1) := by decide +kernel
theorem dX10_copy_29 : decode cX10_copy 29 = .ok (.aload_n 0, 1) := by decide +kernel
theorem dX10_copy_30 : decode cX10_copy 30 = .ok (.getfield 13, 3) := by decide +kernel
theorem dX10_copy_33 : decode cX10_copy 33 = .ok (.bipush 38, 2) := by decide +kernel
theorem dX10_copy_35 : decode cX10_copy 35 = .ok (.iaload, 1) := by decide +kernel
theorem dX10_copy_36 : decode cX10_copy 36 = .ok (.iastore, 1) := by decide +kernel
theorem dX10_copy_37 : decode cX10_copy 37 = .ok (.iconst 0, 1) := by decide +kernel
theorem dX10_copy_38 : decode cX10_copy 38 = .ok (.ireturn, 1) := by decide +kernel
theorem dX10_lay_0 : decode cX10_lay 0 = .ok (.aload_n 0, 1) := by decide +kernel
theorem dX10_lay_1 : decode cX10_lay 1 = .ok (.getfield 13, 3) := by decide +kernel
theorem dX10_lay_4 : decode cX10_lay 4 = .ok (.bipush 12, 2) := by decide +kernel
theorem dX10_lay_6 : decode cX10_lay 6 = .ok (.iload_n 1, 1) := by decide +kernel
theorem dX10_lay_7 : decode cX10_lay 7 = .ok (.iadd, 1) := by decide +kernel
theorem dX10_lay_8 : decode cX10_lay 8 = .ok (.iaload, 1) := by decide +kernel
theorem dX10_lay_9 : decode cX10_lay 9 = .ok (.ifCond .ne 5, 3) := by decide +kernel
theorem dX10_lay_12 : decode cX10_lay 12 = .ok (.iconst 5, 1) := by decide +kernel
theorem dX10_lay_13 : decode cX10_lay 13 = .ok (.ireturn, 1) := by decide +kernel
theorem dX10_lay_14 : decode cX10_lay 14 = .ok (.aload_n 0, 1) := by decide +kernel
theorem dX10_lay_15 : decode cX10_lay 15 = .ok (.getfield 13, 3) := by decide +kernel
theorem dX10_lay_18 : decode cX10_lay 18 = .ok (.bipush 12, 2) := by decide +kernel
theorem dX10_lay_20 : decode cX10_lay 20 = .ok (.iload_n 1, 1) := by decide +kernel
theorem dX10_lay_21 : decode cX10_lay 21 = .ok (.iadd, 1) := by decide +kernel
theorem dX10_lay_22 : decode cX10_lay 22 = .ok (.iconst 0, 1) := by decide +kernel
theorem dX10_lay_23 : decode cX10_lay 23 = .ok (.iastore, 1) := by decide +kernel
theorem dX10_lay_24 : decode cX10_lay 24 = .ok (.iconst 0, 1) := by decide +kernel
theorem dX10_lay_25 : decode cX10_lay 25 = .ok (.ireturn, 1) := by decide +kernel
theorem dX10_endDay_0 : decode cX10_endDay 0 = .ok (.aload_n 0, 1) := by decide +kernel
theorem dX10_endDay_1 : decode cX10_endDay 1 = .ok (.getfield 13, 3) := by decide +kernel
theorem dX10_endDay_4 : decode cX10_endDay 4 = .ok (.bipush 39, 2) := by decide +kernel
theorem dX10_endDay_6 : decode cX10_endDay 6 = .ok (.iaload, 1) := by decide +kernel
theorem dX10_endDay_7 : decode cX10_endDay 7 = .ok (.sipush 999, 3) := by decide +kernel
theorem dX10_endDay_10 : decode cX10_endDay 10 = .ok (.if_icmp .ne 6, 3) := by decide +kernel
theorem dX10_endDay_13 : decode cX10_endDay 13 = .ok (.bipush 6, 2) := by decide +kernel
theorem dX10_endDay_15 : decode cX10_endDay 15 = .ok (.ireturn, 1) := by decide +kernel
theorem dX10_endDay_16 : decode cX10_endDay 16 = .ok (.aload_n 0, 1) := by decide +kernel
theorem dX10_endDay_17 : decode cX10_endDay 17 = .ok (.getfield 13, 3) := by decide +kernel
theorem dX10_endDay_20 : decode cX10_endDay 20 = .ok (.bipush 38, 2) := by decide +kernel
theorem dX10_endDay_22 : decode cX10_endDay 22 = .ok (.aload_n 0, 1) := by decide +kernel
theorem dX10_endDay_23 : decode cX10_endDay 23 = .ok (.getfield 13, 3) := by decide +kernel
theorem dX10_endDay_26 : decode cX10_endDay 26 = .ok (.bipush 38, 2) := by decide +kernel
theorem dX10_endDay_28 : decode cX10_endDay 28 = .ok (.iaload, 1) := by decide +kernel
theorem dX10_endDay_29 : decode cX10_endDay 29 = .ok (.aload_n 0, 1) := by decide +kernel
theorem dX10_endDay_30 : decode cX10_endDay 30 = .ok (.getfield 16, 3) := by decide +kernel
theorem dX10_endDay_33 : decode cX10_endDay 33 = .ok (.aload_n 0, 1) := by decide +kernel
theorem dX10_endDay_34 : decode cX10_endDay 34 = .ok (.getfield 13, 3) := by decide +kernel
theorem dX10_endDay_37 : decode cX10_endDay 37 = .ok (.bipush 39, 2) := by decide +kernel
theorem dX10_endDay_39 : decode cX10_endDay 39 = .ok (.iaload, 1) := by decide +kernel
theorem dX10_endDay_40 : decode cX10_endDay 40 = .ok (.bipush 7, 2) := by decide +kernel
theorem dX10_endDay_42 : decode cX10_endDay 42 = .ok (.irem, 1) := by decide +kernel
theorem dX10_endDay_43 : decode cX10_endDay 43 = .ok (.iaload, 1) := by decide +kernel
theorem dX10_endDay_44 : decode cX10_endDay 44 = .ok (.iadd, 1) := by decide +kernel
theorem dX10_endDay_45 : decode cX10_endDay 45 = .ok (.invokestatic 97, 3) := by decide +kernel
theorem dX10_endDay_48 : decode cX10_endDay 48 = .ok (.iastore, 1) := by decide +kernel
theorem dX10_endDay_49 : decode cX10_endDay 49 = .ok (.aload_n 0, 1) := by decide +kernel
theorem dX10_endDay_50 : decode cX10_endDay 50 = .ok (.getfield 13, 3) := by decide +kernel
theorem dX10_endDay_53 : decode cX10_endDay 53 = .ok (.bipush 39, 2) := by decide +kernel
theorem dX10_endDay_55 : decode cX10_endDay 55 = .ok (.dup2, 1) := by decide +kernel
theorem dX10_endDay_56 : decode cX10_endDay 56 = .ok (.iaload, 1) := by decide +kernel
theorem dX10_endDay_57 : decode cX10_endDay 57 = .ok (.iconst 1, 1) := by decide +kernel
theorem dX10_endDay_58 : decode cX10_endDay 58 = .ok (.iadd, 1) := by decide +kernel
theorem dX10_endDay_59 : decode cX10_endDay 59 = .ok (.iastore, 1) := by decide +kernel
theorem dX10_endDay_60 : decode cX10_endDay 60 = .ok (.iconst 0, 1) := by decide +kernel
theorem dX10_endDay_61 : decode cX10_endDay 61 = .ok (.ireturn, 1) := by decide +kernel
theorem dX10_numberAt_0 : decode cX10_numberAt 0 = .ok (.aload_n 0, 1) := by decide +kernel
theorem dX10_numberAt_1 : decode cX10_numberAt 1 = .ok (.getfield 22, 3) := by decide +kernel
theorem dX10_numberAt_4 : decode cX10_numberAt 4 = .ok (.iload_n 1, 1) := by decide +kernel
theorem dX10_numberAt_5 : decode cX10_numberAt 5 = .ok (.iaload, 1) := by decide +kernel
theorem dX10_numberAt_6 : decode cX10_numberAt 6 = .ok (.bipush 48, 2) := by decide +kernel
theorem dX10_numberAt_8 : decode cX10_numberAt 8 = .ok (.isub, 1) := by decide +kernel
theorem dX10_numberAt_9 : decode cX10_numberAt 9 = .ok (.ireturn, 1) := by decide +kernel
theorem dX10_oneAct_0 : decode cX10_oneAct 0 = .ok (.aload_n 0, 1) := by decide +kernel
theorem dX10_oneAct_1 : decode cX10_oneAct 1 = .ok (.getfield 22, 3) := by decide +kernel
theorem dX10_oneAct_4 : decode cX10_oneAct 4 = .ok (.aload_n 0, 1) := by decide +kernel
theorem dX10_oneAct_5 : decode cX10_oneAct 5 = .ok (.getfield 100, 3) := by decide +kernel
theorem dX10_oneAct_8 : decode cX10_oneAct 8 = .ok (.iconst 1, 1) := by decide +kernel
theorem dX10_oneAct_9 : decode cX10_oneAct 9 = .ok (.iadd, 1) := by decide +kernel
theorem dX10_oneAct_10 : decode cX10_oneAct 10 = .ok (.iaload, 1) := by decide +kernel
theorem dX10_oneAct_11 : decode cX10_oneAct 11 = .ok (.istore_n 2, 1) := by decide +kernel
theorem dX10_oneAct_12 : decode cX10_oneAct 12 = .ok (.iload_n 2, 1) := by decide +kernel
theorem dX10_oneAct_13 : decode cX10_oneAct 13 = .ok (.bipush 61, 2) := by decide +kernel
theorem dX10_oneAct_15 : decode cX10_oneAct 15 = .ok (.if_icmp .eq 9, 3) := by decide +kernel
theorem dX10_oneAct_18 : decode cX10_oneAct 18 = .ok (.iload_n 2, 1) := by decide +kernel
theorem dX10_oneAct_19 : decode cX10_oneAct 19 = .ok (.bipush 120, 2) := by decide +kernel
theorem dX10_oneAct_21 : decode cX10_oneAct 21 = .ok (.if_icmp .ne 33, 3) := by decide +kernel
theorem dX10_oneAct_24 : decode cX10_oneAct 24 = .ok (.aload_n 0, 1) := by decide +kernel
theorem dX10_oneAct_25 : decode cX10_oneAct 25 = .ok (.dup, 1) := by decide +kernel
theorem dX10_oneAct_26 : decode cX10_oneAct 26 = .ok (.getfield 100, 3) := by decide +kernel
theorem dX10_oneAct_29 : decode cX10_oneAct 29 = .ok (.iconst 2, 1) := by decide +kernel
theorem dX10_oneAct_30 : decode cX10_oneAct 30 = .ok (.iadd, 1) := by decide +kernel
theorem dX10_oneAct_31 : decode cX10_oneAct 31 = .ok (.putfield 100, 3) := by decide +kernel
theorem dX10_oneAct_34 : decode cX10_oneAct 34 = .ok (.iload_n 2, 1) := by decide +kernel
theorem dX10_oneAct_35 : decode cX10_oneAct 35 = .ok (.bipush 61, 2) := by decide +kernel
theorem dX10_oneAct_37 : decode cX10_oneAct 37 = .ok (.if_icmp .ne 11, 3) := by decide +kernel
theorem dX10_oneAct_40 : decode cX10_oneAct 40 = .ok (.aload_n 0, 1) := by decide +kernel
theorem dX10_oneAct_41 : decode cX10_oneAct 41 = .ok (.iload_n 1, 1) := by decide +kernel
theorem dX10_oneAct_42 : decode cX10_oneAct 42 = .ok (.invokevirtual 103, 3) := by decide +kernel
theorem dX10_oneAct_45 : decode cX10_oneAct 45 = .ok (.goto 8, 3) := by decide +kernel
theorem dX10_oneAct_48 : decode cX10_oneAct 48 = .ok (.aload_n 0, 1) := by decide +kernel
theorem dX10_oneAct_49 : decode cX10_oneAct 49 = .ok (.iload_n 1, 1) := by decide +kernel
theorem dX10_oneAct_50 : decode cX10_oneAct 50 = .ok (.invokevirtual 106, 3) := by decide +kernel
theorem dX10_oneAct_53 : decode cX10_oneAct 53 = .ok (.ireturn, 1) := by decide +kernel
theorem dX10_oneAct_54 : decode cX10_oneAct 54 = .ok (.iload_n 2, 1) := by decide +kernel
theorem dX10_oneAct_55 : decode cX10_oneAct 55 = .ok (.bipush 43, 2) := by decide +kernel
theorem dX10_oneAct_57 : decode cX10_oneAct 57 = .ok (.if_icmp .eq 9, 3) := by decide +kernel
theorem dX10_oneAct_60 : decode cX10_oneAct 60 = .ok (.iload_n 2, 1) := by decide +kernel
theorem dX10_oneAct_61 : decode cX10_oneAct 61 = .ok (.bipush 45, 2) := by decide +kernel
theorem dX10_oneAct_63 : decode cX10_oneAct 63 = .ok (.if_icmp .ne 53, 3) := by decide +kernel
theorem dX10_oneAct_66 : decode cX10_oneAct 66 = .ok (.aload_n 0, 1) := by decide +kernel
theorem dX10_oneAct_67 : decode cX10_oneAct 67 = .ok (.dup, 1) := by decide +kernel
theorem dX10_oneAct_68 : decode cX10_oneAct 68 = .ok (.getfield 100, 3) := by decide +kernel
theorem dX10_oneAct_71 : decode cX10_oneAct 71 = .ok (.iconst 3, 1) := by decide +kernel
theorem dX10_oneAct_72 : decode cX10_oneAct 72 = .ok (.iadd, 1) := by decide +kernel
theorem dX10_oneAct_73 : decode cX10_oneAct 73 = .ok (.putfield 100, 3) := by decide +kernel
theorem dX10_oneAct_76 : decode cX10_oneAct 76 = .ok (.iload_n 2, 1) := by decide +kernel
theorem dX10_oneAct_77 : decode cX10_oneAct 77 = .ok (.bipush 43, 2) := by decide +kernel
theorem dX10_oneAct_79 : decode cX10_oneAct 79 = .ok (.if_icmp .ne 21, 3) := by decide +kernel
theorem dX10_oneAct_82 : decode cX10_oneAct 82 = .ok (.aload_n 0, 1) := by decide +kernel
theorem dX10_oneAct_83 : decode cX10_oneAct 83 = .ok (.iload_n 1, 1) := by decide +kernel
theorem dX10_oneAct_84 : decode cX10_oneAct 84 = .ok (.aload_n 0, 1) := by decide +kernel
theorem dX10_oneAct_85 : decode cX10_oneAct 85 = .ok (.aload_n 0, 1) := by decide +kernel
theorem dX10_oneAct_86 : decode cX10_oneAct 86 = .ok (.getfield 100, 3) := by decide +kernel
theorem dX10_oneAct_89 : decode cX10_oneAct 89 = .ok (.iconst 1, 1) := by decide +kernel
theorem dX10_oneAct_90 : decode cX10_oneAct 90 = .ok (.isub, 1) := by decide +kernel
theorem dX10_oneAct_91 : decode cX10_oneAct 91 = .ok (.invokevirtual 109, 3) := by decide +kernel
theorem dX10_oneAct_94 : decode cX10_oneAct 94 = .ok (.invokevirtual 112, 3) := by decide +kernel
theorem dX10_oneAct_97 : decode cX10_oneAct 97 = .ok (.goto 18, 3) := by decide +kernel
theorem dX10_oneAct_100 : decode cX10_oneAct 100 = .ok (.aload_n 0, 1) := by decide +kernel
theorem dX10_oneAct_101 : decode cX10_oneAct 101 = .ok (.iload_n 1, 1) := by decide +kernel
theorem dX10_oneAct_102 : decode cX10_oneAct 102 = .ok (.aload_n 0, 1) := by decide +kernel
theorem dX10_oneAct_103 : decode cX10_oneAct 103 = .ok (.aload_n 0, 1) := by decide +kernel
theorem dX10_oneAct_104 : decode cX10_oneAct 104 = .ok (.getfield 100, 3) := by decide +kernel
theorem dX10_oneAct_107 : decode cX10_oneAct 107 = .ok (.iconst 1, 1) := by decide +kernel
theorem dX10_oneAct_108 : decode cX10_oneAct 108 = .ok (.isub, 1) := by decide +kernel
theorem dX10_oneAct_109 : decode cX10_oneAct 109 = .ok (.invokevirtual 109, 3) := by decide +kernel
theorem dX10_oneAct_112 : decode cX10_oneAct 112 = .ok (.invokevirtual 115, 3) := by decide +kernel
theorem dX10_oneAct_115 : decode cX10_oneAct 115 = .ok (.ireturn, 1) := by decide +kernel
theorem dX10_oneAct_116 : decode cX10_oneAct 116 = .ok (.aload_n 0, 1) := by decide +kernel
theorem dX10_oneAct_117 : decode cX10_oneAct 117 = .ok (.dup, 1) := by decide +kernel
theorem dX10_oneAct_118 : decode cX10_oneAct 118 = .ok (.getfield 100, 3) := by decide +kernel
theorem dX10_oneAct_121 : decode cX10_oneAct 121 = .ok (.iconst 4, 1) := by decide +kernel
theorem dX10_oneAct_122 : decode cX10_oneAct 122 = .ok (.iadd, 1) := by decide +kernel
theorem dX10_oneAct_123 : decode cX10_oneAct 123 = .ok (.putfield 100, 3) := by decide +kernel
theorem dX10_oneAct_126 : decode cX10_oneAct 126 = .ok (.iload_n 2, 1) := by decide +kernel
theorem dX10_oneAct_127 : decode cX10_oneAct 127 = .ok (.bipush 47, 2) := by decide +kernel
theorem dX10_oneAct_129 : decode cX10_oneAct 129 = .ok (.if_icmp .ne 39, 3) := by decide +kernel
theorem dX10_oneAct_132 : decode cX10_oneAct 132 = .ok (.aload_n 0, 1) := by decide +kernel
theorem dX10_oneAct_133 : decode cX10_oneAct 133 = .ok (.getfield 13, 3) := by decide +kernel
theorem dX10_oneAct_136 : decode cX10_oneAct 136 = .ok (.bipush 18, 2) := by decide +kernel
theorem dX10_oneAct_138 : decode cX10_oneAct 138 = .ok (.aload_n 0, 1) := by decide +kernel
theorem dX10_oneAct_139 : decode cX10_oneAct 139 = .ok (.aload_n 0, 1) := by decide +kernel
theorem dX10_oneAct_140 : decode cX10_oneAct 140 = .ok (.getfield 100, 3) := by decide +kernel
theorem dX10_oneAct_143 : decode cX10_oneAct 143 = .ok (.iconst 2, 1) := by decide +kernel
theorem dX10_oneAct_144 : decode cX10_oneAct 144 = .ok (.isub, 1) := by decide +kernel
theorem dX10_oneAct_145 : decode cX10_oneAct 145 = .ok (.invokevirtual 109, 3) := by decide +kernel
theorem dX10_oneAct_148 : decode cX10_oneAct 148 = .ok (.iadd, 1) := by decide +kernel
theorem dX10_oneAct_149 : decode cX10_oneAct 149 = .ok (.aload_n 0, 1) := by decide +kernel
theorem dX10_oneAct_150 : decode cX10_oneAct 150 = .ok (.aload_n 0, 1) := by decide +kernel
theorem dX10_oneAct_151 : decode cX10_oneAct 151 = .ok (.getfield 100, 3) := by decide +kernel
theorem dX10_oneAct_154 : decode cX10_oneAct 154 = .ok (.iconst 1, 1) := by decide +kernel
theorem dX10_oneAct_155 : decode cX10_oneAct 155 = .ok (.isub, 1) := by decide +kernel
theorem dX10_oneAct_156 : decode cX10_oneAct 156 = .ok (.invokevirtual 109, 3) := by decide +kernel
theorem dX10_oneAct_159 : decode cX10_oneAct 159 = .ok (.aload_n 0, 1) := by decide +kernel
theorem dX10_oneAct_160 : decode cX10_oneAct 160 = .ok (.iload_n 1, 1) := by decide +kernel
theorem dX10_oneAct_161 : decode cX10_oneAct 161 = .ok (.invokevirtual 90, 3) := by decide +kernel
theorem dX10_oneAct_164 : decode cX10_oneAct 164 = .ok (.imul, 1) := by decide +kernel
theorem dX10_oneAct_165 : decode cX10_oneAct 165 = .ok (.iastore, 1) := by decide +kernel
theorem dX10_oneAct_166 : decode cX10_oneAct 166 = .ok (.iconst 0, 1) := by decide +kernel
theorem dX10_oneAct_167 : decode cX10_oneAct 167 = .ok (.ireturn, 1) := by decide +kernel
theorem dX10_oneAct_168 : decode cX10_oneAct 168 = .ok (.aload_n 0, 1) := by decide +kernel
theorem dX10_oneAct_169 : decode cX10_oneAct 169 = .ok (.iload_n 1, 1) := by decide +kernel
theorem dX10_oneAct_170 : decode cX10_oneAct 170 = .ok (.aload_n 0, 1) := by decide +kernel
theorem dX10_oneAct_171 : decode cX10_oneAct 171 = .ok (.aload_n 0, 1) := by decide +kernel
theorem dX10_oneAct_172 : decode cX10_oneAct 172 = .ok (.getfield 100, 3) := by decide +kernel
theorem dX10_oneAct_175 : decode cX10_oneAct 175 = .ok (.iconst 2, 1) := by decide +kernel
theorem dX10_oneAct_176 : decode cX10_oneAct 176 = .ok (.isub, 1) := by decide +kernel
theorem dX10_oneAct_177 : decode cX10_oneAct 177 = .ok (.invokevirtual 109, 3) := by decide +kernel
theorem dX10_oneAct_180 : decode cX10_oneAct 180 = .ok (.iload_n 2, 1) := by decide +kernel
theorem dX10_oneAct_181 : decode cX10_oneAct 181 = .ok (.bipush 40, 2) := by decide +kernel
theorem dX10_oneAct_183 : decode cX10_oneAct 183 = .ok (.if_icmp .ne 8, 3) := by decide +kernel
theorem dX10_oneAct_186 : decode cX10_oneAct 186 = .ok (.bipush 26, 2) := by decide +kernel
theorem dX10_oneAct_188 : decode cX10_oneAct 188 = .ok (.goto 5, 3) := by decide +kernel
theorem dX10_oneAct_191 : decode cX10_oneAct 191 = .ok (.bipush 30, 2) := by decide +kernel
theorem dX10_oneAct_193 : decode cX10_oneAct 193 = .ok (.aload_n 0, 1) := by decide +kernel
theorem dX10_oneAct_194 : decode cX10_oneAct 194 = .ok (.aload_n 0, 1) := by decide +kernel
theorem dX10_oneAct_195 : decode cX10_oneAct 195 = .ok (.getfield 100, 3) := by decide +kernel
theorem dX10_oneAct_198 : decode cX10_oneAct 198 = .ok (.iconst 1, 1) := by decide +kernel
theorem dX10_oneAct_199 : decode cX10_oneAct 199 = .ok (.isub, 1) := by decide +kernel
theorem dX10_oneAct_200 : decode cX10_oneAct 200 = .ok (.invokevirtual 109, 3) := by decide +kernel
theorem dX10_oneAct_203 : decode cX10_oneAct 203 = .ok (.invokevirtual 118, 3) := by decide +kernel
theorem dX10_oneAct_206 : decode cX10_oneAct 206 = .ok (.ireturn, 1) := by decide +kernel
theorem dX10_met_0 : decode cX10_met 0 = .ok (.iconst 0, 1) := by decide +kernel
theorem dX10_met_1 : decode cX10_met 1 = .ok (.istore_n 1, 1) := by decide +kernel
theorem dX10_met_2 : decode cX10_met 2 = .ok (.iconst 0, 1) := by decide +kernel
theorem dX10_met_3 : decode cX10_met 3 = .ok (.istore_n 2, 1) := by decide +kernel
theorem dX10_met_4 : decode cX10_met 4 = .ok (.iload_n 2, 1) := by decide +kernel
theorem dX10_met_5 : decode cX10_met 5 = .ok (.iconst 4, 1) := by decide +kernel
theorem dX10_met_6 : decode cX10_met 6 = .ok (.if_icmp .ge 27, 3) := by decide +kernel
theorem dX10_met_9 : decode cX10_met 9 = .ok (.iload_n 1, 1) := by decide +kernel
theorem dX10_met_10 : decode cX10_met 10 = .ok (.aload_n 0, 1) := by decide +kernel
theorem dX10_met_11 : decode cX10_met 11 = .ok (.iload_n 2, 1) := by decide +kernel
theorem dX10_met_12 : decode cX10_met 12 = .ok (.invokevirtual 94, 3) := by decide +kernel
theorem dX10_met_15 : decode cX10_met 15 = .ok (.ifCond .eq 9, 3) := by decide +kernel
theorem dX10_met_18 : decode cX10_met 18 = .ok (.iconst 1, 1) := by decide +kernel
theorem dX10_met_19 : decode cX10_met 19 = .ok (.iload_n 2, 1) := by decide +kernel
theorem dX10_met_20 : decode cX10_met 20 = .ok (.ishl, 1) := by decide +kernel
theorem dX10_met_21 : decode cX10_met 21 = .ok (.goto 4, 3) := by decide +kernel
theorem dX10_met_24 : decode cX10_met 24 = .ok (.iconst 0, 1) := by decide +kernel
theorem dX10_met_25 : decode cX10_met 25 = .ok (.ior, 1) := by decide +kernel
theorem dX10_met_26 : decode cX10_met 26 = .ok (.istore_n 1, 1) := by decide +kernel
theorem dX10_met_27 : decode cX10_met 27 = .ok (.iinc 2 1, 3) := by decide +kernel
theorem dX10_met_30 : decode cX10_met 30 = .ok (.goto (-26), 3) := by decide +kernel
theorem dX10_met_33 : decode cX10_met 33 = .ok (.iload_n 1, 1) := by decide +kernel
theorem dX10_met_34 : decode cX10_met 34 = .ok (.ireturn, 1) := by decide +kernel
theorem dX10_goWeeks_0 : decode cX10_goWeeks 0 = .ok (.aload_n 0, 1) := by decide +kernel
theorem dX10_goWeeks_1 : decode cX10_goWeeks 1 = .ok (.invokevirtual 122, 3) := by decide +kernel
theorem dX10_goWeeks_4 : decode cX10_goWeeks 4 = .ok (.aload_n 0, 1) := by decide +kernel
theorem dX10_goWeeks_5 : decode cX10_goWeeks 5 = .ok (.iconst 0, 1) := by decide +kernel
theorem dX10_goWeeks_6 : decode cX10_goWeeks 6 = .ok (.putfield 125, 3) := by decide +kernel
theorem dX10_goWeeks_9 : decode cX10_goWeeks 9 = .ok (.aload_n 0, 1) := by decide +kernel
theorem dX10_goWeeks_10 : decode cX10_goWeeks 10 = .ok (.iconst 0, 1) := by decide +kernel
theorem dX10_goWeeks_11 : decode cX10_goWeeks 11 = .ok (.putfield 100, 3) := by decide +kernel
theorem dX10_goWeeks_14 : decode cX10_goWeeks 14 = .ok (.aload_n 0, 1) := by decide +kernel
theorem dX10_goWeeks_15 : decode cX10_goWeeks 15 = .ok (.getfield 100, 3) := by decide +kernel
theorem dX10_goWeeks_18 : decode cX10_goWeeks 18 = .ok (.aload_n 0, 1) := by decide +kernel
theorem dX10_goWeeks_19 : decode cX10_goWeeks 19 = .ok (.getfield 72, 3) := by decide +kernel
theorem dX10_goWeeks_22 : decode cX10_goWeeks 22 = .ok (.if_icmp .ge 200, 3) := by decide +kernel
theorem dX10_goWeeks_25 : decode cX10_goWeeks 25 = .ok (.aload_n 0, 1) := by decide +kernel
theorem dX10_goWeeks_26 : decode cX10_goWeeks 26 = .ok (.getfield 22, 3) := by decide +kernel
theorem dX10_goWeeks_29 : decode cX10_goWeeks 29 = .ok (.aload_n 0, 1) := by decide +kernel
theorem dX10_goWeeks_30 : decode cX10_goWeeks 30 = .ok (.getfield 100, 3) := by decide +kernel
theorem dX10_goWeeks_33 : decode cX10_goWeeks 33 = .ok (.iaload, 1) := by decide +kernel
theorem dX10_goWeeks_34 : decode cX10_goWeeks 34 = .ok (.istore_n 1, 1) := by decide +kernel
theorem dX10_goWeeks_35 : decode cX10_goWeeks 35 = .ok (.aload_n 0, 1) := by decide +kernel
theorem dX10_goWeeks_36 : decode cX10_goWeeks 36 = .ok (.invokevirtual 128, 3) := by decide +kernel
theorem dX10_goWeeks_39 : decode cX10_goWeeks 39 = .ok (.istore_n 2, 1) := by decide +kernel
theorem dX10_goWeeks_40 : decode cX10_goWeeks 40 = .ok (.iload_n 1, 1) := by decide +kernel
theorem dX10_goWeeks_41 : decode cX10_goWeeks 41 = .ok (.bipush 46, 2) := by decide +kernel
theorem dX10_goWeeks_43 : decode cX10_goWeeks 43 = .ok (.if_icmp .ne 24, 3) := by decide +kernel
theorem dX10_goWeeks_46 : decode cX10_goWeeks 46 = .ok (.aload_n 0, 1) := by decide +kernel
theorem dX10_goWeeks_47 : decode cX10_goWeeks 47 = .ok (.dup, 1) := by decide +kernel
theorem dX10_goWeeks_48 : decode cX10_goWeeks 48 = .ok (.getfield 100, 3) := by decide +kernel
theorem dX10_goWeeks_51 : decode cX10_goWeeks 51 = .ok (.iconst 1, 1) := by decide +kernel
theorem dX10_goWeeks_52 : decode cX10_goWeeks 52 = .ok (.iadd, 1) := by decide +kernel
theorem dX10_goWeeks_53 : decode cX10_goWeeks 53 = .ok (.putfield 100, 3) := by decide +kernel
theorem dX10_goWeeks_56 : decode cX10_goWeeks 56 = .ok (.aload_n 0, 1) := by decide +kernel
theorem dX10_goWeeks_57 : decode cX10_goWeeks 57 = .ok (.aload_n 0, 1) := by decide +kernel
theorem dX10_goWeeks_58 : decode cX10_goWeeks 58 = .ok (.invokevirtual 131, 3) := by decide +kernel
theorem dX10_goWeeks_61 : decode cX10_goWeeks 61 = .ok (.putfield 134, 3) := by decide +kernel
theorem dX10_goWeeks_64 : decode cX10_goWeeks 64 = .ok (.goto 78, 3) := by decide +kernel
theorem dX10_goWeeks_67 : decode cX10_goWeeks 67 = .ok (.iload_n 1, 1) := by decide +kernel
theorem dX10_goWeeks_68 : decode cX10_goWeeks 68 = .ok (.bipush 60, 2) := by decide +kernel
theorem dX10_goWeeks_70 : decode cX10_goWeeks 70 = .ok (.if_icmp .eq 9, 3) := by decide +kernel
theorem dX10_goWeeks_73 : decode cX10_goWeeks 73 = .ok (.iload_n 1, 1) := by decide +kernel
theorem dX10_goWeeks_74 : decode cX10_goWeeks 74 = .ok (.bipush 62, 2) := by decide +kernel
theorem dX10_goWeeks_76 : decode cX10_goWeeks 76 = .ok (.if_icmp .ne 54, 3) := by decide +kernel
theorem dX10_goWeeks_79 : decode cX10_goWeeks 79 = .ok (.aload_n 0, 1) := by decide +kernel
theorem dX10_goWeeks_80 : decode cX10_goWeeks 80 = .ok (.dup, 1) := by decide +kernel
theorem dX10_goWeeks_81 : decode cX10_goWeeks 81 = .ok (.getfield 100, 3) := by decide +kernel
theorem dX10_goWeeks_84 : decode cX10_goWeeks 84 = .ok (.iconst 2, 1) := by decide +kernel
theorem dX10_goWeeks_85 : decode cX10_goWeeks 85 = .ok (.iadd, 1) := by decide +kernel
theorem dX10_goWeeks_86 : decode cX10_goWeeks 86 = .ok (.putfield 100, 3) := by decide +kernel
theorem dX10_goWeeks_89 : decode cX10_goWeeks 89 = .ok (.aload_n 0, 1) := by decide +kernel
theorem dX10_goWeeks_90 : decode cX10_goWeeks 90 = .ok (.aload_n 0, 1) := by decide +kernel
theorem dX10_goWeeks_91 : decode cX10_goWeeks 91 = .ok (.iload_n 1, 1) := by decide +kernel
theorem dX10_goWeeks_92 : decode cX10_goWeeks 92 = .ok (.bipush 60, 2) := by decide +kernel
theorem dX10_goWeeks_94 : decode cX10_goWeeks 94 = .ok (.if_icmp .ne 17, 3) := by decide +kernel
theorem dX10_goWeeks_97 : decode cX10_goWeeks 97 = .ok (.aload_n 0, 1) := by decide +kernel
theorem dX10_goWeeks_98 : decode cX10_goWeeks 98 = .ok (.aload_n 0, 1) := by decide +kernel
theorem dX10_goWeeks_99 : decode cX10_goWeeks 99 = .ok (.getfield 100, 3) := by decide +kernel
theorem dX10_goWeeks_102 : decode cX10_goWeeks 102 = .ok (.iconst 1, 1) := by decide +kernel
theorem dX10_goWeeks_103 : decode cX10_goWeeks 103 = .ok (.isub, 1) := by decide +kernel
theorem dX10_goWeeks_104 : decode cX10_goWeeks 104 = .ok (.invokevirtual 109, 3) := by decide +kernel
theorem dX10_goWeeks_107 : decode cX10_goWeeks 107 = .ok (.ineg, 1) := by decide +kernel
theorem dX10_goWeeks_108 : decode cX10_goWeeks 108 = .ok (.goto 13, 3) := by decide +kernel
theorem dX10_goWeeks_111 : decode cX10_goWeeks 111 = .ok (.aload_n 0, 1) := by decide +kernel
theorem dX10_goWeeks_112 : decode cX10_goWeeks 112 = .ok (.aload_n 0, 1) := by decide +kernel
theorem dX10_goWeeks_113 : decode cX10_goWeeks 113 = .ok (.getfield 100, 3) := by decide +kernel
theorem dX10_goWeeks_116 : decode cX10_goWeeks 116 = .ok (.iconst 1, 1) := by decide +kernel
theorem dX10_goWeeks_117 : decode cX10_goWeeks 117 = .ok (.isub, 1) := by decide +kernel
theorem dX10_goWeeks_118 : decode cX10_goWeeks 118 = .ok (.invokevirtual 109, 3) := by decide +kernel
theorem dX10_goWeeks_121 : decode cX10_goWeeks 121 = .ok (.invokevirtual 137, 3) := by decide +kernel
theorem dX10_goWeeks_124 : decode cX10_goWeeks 124 = .ok (.putfield 134, 3) := by decide +kernel
theorem dX10_goWeeks_127 : decode cX10_goWeeks 127 = .ok (.goto 15, 3) := by decide +kernel
theorem dX10_goWeeks_130 : decode cX10_goWeeks 130 = .ok (.aload_n 0, 1) := by decide +kernel
theorem dX10_goWeeks_131 : decode cX10_goWeeks 131 = .ok (.aload_n 0, 1) := by decide +kernel
theorem dX10_goWeeks_132 : decode cX10_goWeeks 132 = .ok (.iload_n 1, 1) := by decide +kernel
theorem dX10_goWeeks_133 : decode cX10_goWeeks 133 = .ok (.bipush 65, 2) := by decide +kernel
theorem dX10_goWeeks_135 : decode cX10_goWeeks 135 = .ok (.isub, 1) := by decide +kernel
theorem dX10_goWeeks_136 : decode cX10_goWeeks 136 = .ok (.invokevirtual 140, 3) := by decide +kernel
theorem dX10_goWeeks_139 : decode cX10_goWeeks 139 = .ok (.putfield 134, 3) := by decide +kernel
theorem dX10_goWeeks_142 : decode cX10_goWeeks 142 = .ok (.aload_n 0, 1) := by decide +kernel
theorem dX10_goWeeks_143 : decode cX10_goWeeks 143 = .ok (.getfield 134, 3) := by decide +kernel
theorem dX10_goWeeks_146 : decode cX10_goWeeks 146 = .ok (.ifCond .le 8, 3) := by decide +kernel
theorem dX10_goWeeks_149 : decode cX10_goWeeks 149 = .ok (.aload_n 0, 1) := by decide +kernel
theorem dX10_goWeeks_150 : decode cX10_goWeeks 150 = .ok (.getfield 125, 3) := by decide +kernel
theorem dX10_goWeeks_153 : decode cX10_goWeeks 153 = .ok (.ireturn, 1) := by decide +kernel
theorem dX10_goWeeks_154 : decode cX10_goWeeks 154 = .ok (.aload_n 0, 1) := by decide +kernel
theorem dX10_goWeeks_155 : decode cX10_goWeeks 155 = .ok (.invokevirtual 128, 3) := by decide +kernel
theorem dX10_goWeeks_158 : decode cX10_goWeeks 158 = .ok (.iload_n 2, 1) := by decide +kernel
theorem dX10_goWeeks_159 : decode cX10_goWeeks 159 = .ok (.iconst (-1), 1) := by decide +kernel
theorem dX10_goWeeks_160 : decode cX10_goWeeks 160 = .ok (.ixor, 1) := by decide +kernel
theorem dX10_goWeeks_161 : decode cX10_goWeeks 161 = .ok (.iand, 1) := by decide +kernel
theorem dX10_goWeeks_162 : decode cX10_goWeeks 162 = .ok (.istore_n 3, 1) := by decide +kernel
theorem dX10_goWeeks_163 : decode cX10_goWeeks 163 = .ok (.iconst 0, 1) := by decide +kernel
theorem dX10_goWeeks_164 : decode cX10_goWeeks 164 = .ok (.istore 4, 2) := by decide +kernel
theorem dX10_goWeeks_166 : decode cX10_goWeeks 166 = .ok (.iload 4, 2) := by decide +kernel
theorem dX10_goWeeks_168 : decode cX10_goWeeks 168 = .ok (.iconst 4, 1) := by decide +kernel
theorem dX10_goWeeks_169 : decode cX10_goWeeks 169 = .ok (.if_icmp .ge 40, 3) := by decide +kernel
theorem dX10_goWeeks_172 : decode cX10_goWeeks 172 = .ok (.aload_n 0, 1) := by decide +kernel
theorem dX10_goWeeks_173 : decode cX10_goWeeks 173 = .ok (.getfield 84, 3) := by decide +kernel
theorem dX10_goWeeks_176 : decode cX10_goWeeks 176 = .ok (.ifCond .ge 33, 3) := by decide +kernel
theorem dX10_goWeeks_179 : decode cX10_goWeeks 179 = .ok (.iload_n 3, 1) := by decide +kernel
theorem dX10_goWeeks_180 : decode cX10_goWeeks 180 = .ok (.iload 4, 2) := by decide +kernel
theorem dX10_goWeeks_182 : decode cX10_goWeeks 182 = .ok (.ishr, 1) := by decide +kernel
theorem dX10_goWeeks_183 : decode cX10_goWeeks 183 = .ok (.iconst 1, 1) := by decide +kernel
theorem dX10_goWeeks_184 : decode cX10_goWeeks 184 = .ok (.iand, 1) := by decide +kernel
theorem dX10_goWeeks_185 : decode cX10_goWeeks 185 = .ok (.iconst 1, 1) := by decide +kernel
theorem dX10_goWeeks_186 : decode cX10_goWeeks 186 = .ok (.if_icmp .ne 17, 3) := by decide +kernel
theorem dX10_goWeeks_189 : decode cX10_goWeeks 189 = .ok (.aload_n 0, 1) := by decide +kernel
theorem dX10_goWeeks_190 : decode cX10_goWeeks 190 = .ok (.aload_n 0, 1) := by decide +kernel
theorem dX10_goWeeks_191 : decode cX10_goWeeks 191 = .ok (.getfield 125, 3) := by decide +kernel
theorem dX10_goWeeks_194 : decode cX10_goWeeks 194 = .ok (.putfield 84, 3) := by decide +kernel
theorem dX10_goWeeks_197 : decode cX10_goWeeks 197 = .ok (.aload_n 0, 1) := by decide +kernel
theorem dX10_goWeeks_198 : decode cX10_goWeeks 198 = .ok (.iload 4, 2) := by decide +kernel
theorem dX10_goWeeks_200 : decode cX10_goWeeks 200 = .ok (.putfield 87, 3) := by decide +kernel
theorem dX10_goWeeks_203 : decode cX10_goWeeks 203 = .ok (.iinc 4 1, 3) := by decide +kernel
theorem dX10_goWeeks_206 : decode cX10_goWeeks 206 = .ok (.goto (-40), 3) := by decide +kernel
theorem dX10_goWeeks_209 : decode cX10_goWeeks 209 = .ok (.aload_n 0, 1) := by decide +kernel
theorem dX10_goWeeks_210 : decode cX10_goWeeks 210 = .ok (.dup, 1) := by decide +kernel
theorem dX10_goWeeks_211 : decode cX10_goWeeks 211 = .ok (.getfield 125, 3) := by decide +kernel
theorem dX10_goWeeks_214 : decode cX10_goWeeks 214 = .ok (.iconst 1, 1) := by decide +kernel
theorem dX10_goWeeks_215 : decode cX10_goWeeks 215 = .ok (.iadd, 1) := by decide +kernel
theorem dX10_goWeeks_216 : decode cX10_goWeeks 216 = .ok (.putfield 125, 3) := by decide +kernel
theorem dX10_goWeeks_219 : decode cX10_goWeeks 219 = .ok (.goto (-205), 3) := by decide +kernel
theorem dX10_goWeeks_222 : decode cX10_goWeeks 222 = .ok (.bipush (-6), 2) := by decide +kernel
theorem dX10_goWeeks_224 : decode cX10_goWeeks 224 = .ok (.ireturn, 1) := by decide +kernel
theorem dX10_judge_0 : decode cX10_judge 0 = .ok (.iload_n 1, 1) := by decide +kernel
theorem dX10_judge_1 : decode cX10_judge 1 = .ok (.iconst 0, 1) := by decide +kernel
theorem dX10_judge_2 : decode cX10_judge 2 = .ok (.iconst 1, 1) := by decide +kernel
theorem dX10_judge_3 : decode cX10_judge 3 = .ok (.invokestatic 57, 3) := by decide +kernel
theorem dX10_judge_6 : decode cX10_judge 6 = .ok (.ifCond .ne 6, 3) := by decide +kernel
theorem dX10_judge_9 : decode cX10_judge 9 = .ok (.bipush (-2), 2) := by decide +kernel
theorem dX10_judge_11 : decode cX10_judge 11 = .ok (.ireturn, 1) := by decide +kernel
theorem dX10_judge_12 : decode cX10_judge 12 = .ok (.aload_n 0, 1) := by decide +kernel
theorem dX10_judge_13 : decode cX10_judge 13 = .ok (.invokevirtual 80, 3) := by decide +kernel
theorem dX10_judge_16 : decode cX10_judge 16 = .ok (.ifCond .lt 6, 3) := by decide +kernel
theorem dX10_judge_19 : decode cX10_judge 19 = .ok (.bipush (-5), 2) := by decide +kernel
theorem dX10_judge_21 : decode cX10_judge 21 = .ok (.ireturn, 1) := by decide +kernel
theorem dX10_judge_22 : decode cX10_judge 22 = .ok (.aload_n 0, 1) := by decide +kernel
theorem dX10_judge_23 : decode cX10_judge 23 = .ok (.invokevirtual 143, 3) := by decide +kernel
theorem dX10_judge_26 : decode cX10_judge 26 = .ok (.istore_n 2, 1) := by decide +kernel
theorem dX10_judge_27 : decode cX10_judge 27 = .ok (.iload_n 2, 1) := by decide +kernel
theorem dX10_judge_28 : decode cX10_judge 28 = .ok (.ifCond .lt 7, 3) := by decide +kernel
theorem dX10_judge_31 : decode cX10_judge 31 = .ok (.iload_n 1, 1) := by decide +kernel
theorem dX10_judge_32 : decode cX10_judge 32 = .ok (.ifCond .ne 7, 3) := by decide +kernel
theorem dX10_judge_35 : decode cX10_judge 35 = .ok (.iload_n 2, 1) := by decide +kernel
theorem dX10_judge_36 : decode cX10_judge 36 = .ok (.goto 7, 3) := by decide +kernel
theorem dX10_judge_39 : decode cX10_judge 39 = .ok (.aload_n 0, 1) := by decide +kernel
theorem dX10_judge_40 : decode cX10_judge 40 = .ok (.getfield 134, 3) := by decide +kernel
theorem dX10_judge_43 : decode cX10_judge 43 = .ok (.ireturn, 1) := by decide +kernel
theorem dX10_barOfWeeks_0 : decode cX10_barOfWeeks 0 = .ok (.aload_n 0, 1) := by decide +kernel
theorem dX10_barOfWeeks_1 : decode cX10_barOfWeeks 1 = .ok (.invokevirtual 80, 3) := by decide +kernel
theorem dX10_barOfWeeks_4 : decode cX10_barOfWeeks 4 = .ok (.ifCond .ge 10, 3) := by decide +kernel
theorem dX10_barOfWeeks_7 : decode cX10_barOfWeeks 7 = .ok (.aload_n 0, 1) := by decide +kernel
theorem dX10_barOfWeeks_8 : decode cX10_barOfWeeks 8 = .ok (.invokevirtual 143, 3) := by decide +kernel
theorem dX10_barOfWeeks_11 : decode cX10_barOfWeeks 11 = .ok (.ifCond .lt 8, 3) := by decide +kernel
theorem dX10_barOfWeeks_14 : decode cX10_barOfWeeks 14 = .ok (.bipush (-5), 2) := by decide +kernel
theorem dX10_barOfWeeks_16 : decode cX10_barOfWeeks 16 = .ok (.goto 4, 3) := by decide +kernel
theorem dX10_barOfWeeks_19 : decode cX10_barOfWeeks 19 = .ok (.iconst 0, 1) := by decide +kernel
theorem dX10_barOfWeeks_20 : decode cX10_barOfWeeks 20 = .ok (.ireturn, 1) := by decide +kernel
theorem dX10_done_0 : decode cX10_done 0 = .ok (.aload_n 0, 1) := by decide +kernel
theorem dX10_done_1 : decode cX10_done 1 = .ok (.invokevirtual 146, 3) := by decide +kernel
theorem dX10_done_4 : decode cX10_done 4 = .ok (.ifCond .ge 6, 3) := by decide +kernel
theorem dX10_done_7 : decode cX10_done 7 = .ok (.bipush (-5), 2) := by decide +kernel
theorem dX10_done_9 : decode cX10_done 9 = .ok (.ireturn, 1) := by decide +kernel
theorem dX10_done_10 : decode cX10_done 10 = .ok (.iconst 0, 1) := by decide +kernel
theorem dX10_done_11 : decode cX10_done 11 = .ok (.istore_n 1, 1) := by decide +kernel
theorem dX10_done_12 : decode cX10_done 12 = .ok (.iload_n 1, 1) := by decide +kernel
theorem dX10_done_13 : decode cX10_done 13 = .ok (.bipush 40, 2) := by decide +kernel
theorem dX10_done_15 : decode cX10_done 15 = .ok (.if_icmp .ge 21, 3) := by decide +kernel
theorem dX10_done_18 : decode cX10_done 18 = .ok (.aload_n 0, 1) := by decide +kernel
theorem dX10_done_19 : decode cX10_done 19 = .ok (.getfield 7, 3) := by decide +kernel
theorem dX10_done_22 : decode cX10_done 22 = .ok (.iload_n 1, 1) := by decide +kernel
theorem dX10_done_23 : decode cX10_done 23 = .ok (.aload_n 0, 1) := by decide +kernel
theorem dX10_done_24 : decode cX10_done 24 = .ok (.getfield 13, 3) := by decide +kernel
theorem dX10_done_27 : decode cX10_done 27 = .ok (.iload_n 1, 1) := by decide +kernel
theorem dX10_done_28 : decode cX10_done 28 = .ok (.iaload, 1) := by decide +kernel
theorem dX10_done_29 : decode cX10_done 29 = .ok (.iastore, 1) := by decide +kernel
theorem dX10_done_30 : decode cX10_done 30 = .ok (.iinc 1 1, 3) := by decide +kernel
theorem dX10_done_33 : decode cX10_done 33 = .ok (.goto (-21), 3) := by decide +kernel
theorem dX10_done_36 : decode cX10_done 36 = .ok (.aload_n 0, 1) := by decide +kernel
theorem dX10_done_37 : decode cX10_done 37 = .ok (.iconst 0, 1) := by decide +kernel
theorem dX10_done_38 : decode cX10_done 38 = .ok (.putfield 72, 3) := by decide +kernel
theorem dX10_done_41 : decode cX10_done 41 = .ok (.aload_n 0, 1) := by decide +kernel
theorem dX10_done_42 : decode cX10_done 42 = .ok (.getfield 125, 3) := by decide +kernel
theorem dX10_done_45 : decode cX10_done 45 = .ok (.ireturn, 1) := by decide +kernel
theorem dX10_behind_0 : decode cX10_behind 0 = .ok (.iload_n 1, 1) := by decide +kernel
theorem dX10_behind_1 : decode cX10_behind 1 = .ok (.invokestatic 61, 3) := by decide +kernel
theorem dX10_behind_4 : decode cX10_behind 4 = .ok (.ifCond .ne 5, 3) := by decide +kernel
theorem dX10_behind_7 : decode cX10_behind 7 = .ok (.iconst (-1), 1) := by decide +kernel
theorem dX10_behind_8 : decode cX10_behind 8 = .ok (.ireturn, 1) := by decide +kernel
theorem dX10_behind_9 : decode cX10_behind 9 = .ok (.iload_n 2, 1) := by decide +kernel
theorem dX10_behind_10 : decode cX10_behind 10 = .ok (.iconst 0, 1) := by decide +kernel
theorem dX10_behind_11 : decode cX10_behind 11 = .ok (.iconst 2, 1) := by decide +kernel
theorem dX10_behind_12 : decode cX10_behind 12 = .ok (.invokestatic 57, 3) := by decide +kernel
theorem dX10_behind_15 : decode cX10_behind 15 = .ok (.ifCond .ne 6, 3) := by decide +kernel
theorem dX10_behind_18 : decode cX10_behind 18 = .ok (.bipush (-2), 2) := by decide +kernel
theorem dX10_behind_20 : decode cX10_behind 20 = .ok (.ireturn, 1) := by decide +kernel
theorem dX10_behind_21 : decode cX10_behind 21 = .ok (.aload_n 0, 1) := by decide +kernel
theorem dX10_behind_22 : decode cX10_behind 22 = .ok (.invokevirtual 146, 3) := by decide +kernel
theorem dX10_behind_25 : decode cX10_behind 25 = .ok (.ifCond .ge 8, 3) := by decide +kernel
theorem dX10_behind_28 : decode cX10_behind 28 = .ok (.bipush (-5), 2) := by decide +kernel
theorem dX10_behind_30 : decode cX10_behind 30 = .ok (.goto 14, 3) := by decide +kernel
theorem dX10_behind_33 : decode cX10_behind 33 = .ok (.aload_n 0, 1) := by decide +kernel
theorem dX10_behind_34 : decode cX10_behind 34 = .ok (.getfield 13, 3) := by decide +kernel
theorem dX10_behind_37 : decode cX10_behind 37 = .ok (.bipush 6, 2) := by decide +kernel
theorem dX10_behind_39 : decode cX10_behind 39 = .ok (.iload_n 2, 1) := by decide +kernel
theorem dX10_behind_40 : decode cX10_behind 40 = .ok (.imul, 1) := by decide +kernel
theorem dX10_behind_41 : decode cX10_behind 41 = .ok (.iload_n 1, 1) := by decide +kernel
theorem dX10_behind_42 : decode cX10_behind 42 = .ok (.iadd, 1) := by decide +kernel
theorem dX10_behind_43 : decode cX10_behind 43 = .ok (.iaload, 1) := by decide +kernel
theorem dX10_behind_44 : decode cX10_behind 44 = .ok (.ireturn, 1) := by decide +kernel
theorem dX10_lies_0 : decode cX10_lies 0 = .ok (.iload_n 1, 1) := by decide +kernel
theorem dX10_lies_1 : decode cX10_lies 1 = .ok (.invokestatic 66, 3) := by decide +kernel
theorem dX10_lies_4 : decode cX10_lies 4 = .ok (.ifCond .ne 5, 3) := by decide +kernel
theorem dX10_lies_7 : decode cX10_lies 7 = .ok (.iconst (-1), 1) := by decide +kernel
theorem dX10_lies_8 : decode cX10_lies 8 = .ok (.ireturn, 1) := by decide +kernel
theorem dX10_lies_9 : decode cX10_lies 9 = .ok (.aload_n 0, 1) := by decide +kernel
theorem dX10_lies_10 : decode cX10_lies 10 = .ok (.invokevirtual 146, 3) := by decide +kernel
theorem dX10_lies_13 : decode cX10_lies 13 = .ok (.ifCond .ge 8, 3) := by decide +kernel
theorem dX10_lies_16 : decode cX10_lies 16 = .ok (.bipush (-5), 2) := by decide +kernel
theorem dX10_lies_18 : decode cX10_lies 18 = .ok (.goto 12, 3) := by decide +kernel
theorem dX10_lies_21 : decode cX10_lies 21 = .ok (.aload_n 0, 1) := by decide +kernel
theorem dX10_lies_22 : decode cX10_lies 22 = .ok (.getfield 13, 3) := by decide +kernel
theorem dX10_lies_25 : decode cX10_lies 25 = .ok (.bipush 18, 2) := by decide +kernel
theorem dX10_lies_27 : decode cX10_lies 27 = .ok (.iload_n 1, 1) := by decide +kernel
theorem dX10_lies_28 : decode cX10_lies 28 = .ok (.iadd, 1) := by decide +kernel
theorem dX10_lies_29 : decode cX10_lies 29 = .ok (.iaload, 1) := by decide +kernel
theorem dX10_lies_30 : decode cX10_lies 30 = .ok (.ireturn, 1) := by decide +kernel
theorem dX10_built_0 : decode cX10_built 0 = .ok (.iload_n 1, 1) := by decide +kernel
theorem dX10_built_1 : decode cX10_built 1 = .ok (.invokestatic 69, 3) := by decide +kernel
theorem dX10_built_4 : decode cX10_built 4 = .ok (.ifCond .ne 5, 3) := by decide +kernel
theorem dX10_built_7 : decode cX10_built 7 = .ok (.iconst (-1), 1) := by decide +kernel
theorem dX10_built_8 : decode cX10_built 8 = .ok (.ireturn, 1) := by decide +kernel
theorem dX10_built_9 : decode cX10_built 9 = .ok (.iload_n 2, 1) := by decide +kernel
theorem dX10_built_10 : decode cX10_built 10 = .ok (.iconst 0, 1) := by decide +kernel
theorem dX10_built_11 : decode cX10_built 11 = .ok (.iconst 2, 1) := by decide +kernel
theorem dX10_built_12 : decode cX10_built 12 = .ok (.invokestatic 57, 3) := by decide +kernel
theorem dX10_built_15 : decode cX10_built 15 = .ok (.ifCond .ne 6, 3) := by decide +kernel
theorem dX10_built_18 : decode cX10_built 18 = .ok (.bipush (-2), 2) := by decide +kernel
theorem dX10_built_20 : decode cX10_built 20 = .ok (.ireturn, 1) := by decide +kernel
theorem dX10_built_21 : decode cX10_built 21 = .ok (.aload_n 0, 1) := by decide +kernel
theorem dX10_built_22 : decode cX10_built 22 = .ok (.invokevirtual 146, 3) := by decide +kernel
theorem dX10_built_25 : decode cX10_built 25 = .ok (.ifCond .ge 6, 3) := by decide +kernel
theorem dX10_built_28 : decode cX10_built 28 = .ok (.bipush (-5), 2) := by decide +kernel
theorem dX10_built_30 : decode cX10_built 30 = .ok (.ireturn, 1) := by decide +kernel
theorem dX10_built_31 : decode cX10_built 31 = .ok (.iload_n 2, 1) := by decide +kernel
theorem dX10_built_32 : decode cX10_built 32 = .ok (.iconst 2, 1) := by decide +kernel
theorem dX10_built_33 : decode cX10_built 33 = .ok (.if_icmp .ge 17, 3) := by decide +kernel
theorem dX10_built_36 : decode cX10_built 36 = .ok (.aload_n 0, 1) := by decide +kernel
theorem dX10_built_37 : decode cX10_built 37 = .ok (.getfield 13, 3) := by decide +kernel
theorem dX10_built_40 : decode cX10_built 40 = .ok (.bipush 26, 2) := by decide +kernel
theorem dX10_built_42 : decode cX10_built 42 = .ok (.iconst 4, 1) := by decide +kernel
theorem dX10_built_43 : decode cX10_built 43 = .ok (.iload_n 2, 1) := by decide +kernel
theorem dX10_built_44 : decode cX10_built 44 = .ok (.imul, 1) := by decide +kernel
theorem dX10_built_45 : decode cX10_built 45 = .ok (.iadd, 1) := by decide +kernel
theorem dX10_built_46 : decode cX10_built 46 = .ok (.iload_n 1, 1) := by decide +kernel
theorem dX10_built_47 : decode cX10_built 47 = .ok (.iadd, 1) := by decide +kernel
theorem dX10_built_48 : decode cX10_built 48 = .ok (.iaload, 1) := by decide +kernel
theorem dX10_built_49 : decode cX10_built 49 = .ok (.ireturn, 1) := by decide +kernel
theorem dX10_built_50 : decode cX10_built 50 = .ok (.aload_n 0, 1) := by decide +kernel
theorem dX10_built_51 : decode cX10_built 51 = .ok (.iload_n 1, 1) := by decide +kernel
theorem dX10_built_52 : decode cX10_built 52 = .ok (.invokevirtual 94, 3) := by decide +kernel
theorem dX10_built_55 : decode cX10_built 55 = .ok (.ifCond .eq 35, 3) := by decide +kernel
theorem dX10_built_58 : decode cX10_built 58 = .ok (.aload_n 0, 1) := by decide +kernel
theorem dX10_built_59 : decode cX10_built 59 = .ok (.getfield 13, 3) := by decide +kernel
theorem dX10_built_62 : decode cX10_built 62 = .ok (.bipush 26, 2) := by decide +kernel
theorem dX10_built_64 : decode cX10_built 64 = .ok (.iload_n 1, 1) := by decide +kernel
theorem dX10_built_65 : decode cX10_built 65 = .ok (.iadd, 1) := by decide +kernel
theorem dX10_built_66 : decode cX10_built 66 = .ok (.iaload, 1) := by decide +kernel
theorem dX10_built_67 : decode cX10_built 67 = .ok (.aload_n 0, 1) := by decide +kernel
theorem dX10_built_68 : decode cX10_built 68 = .ok (.getfield 13, 3) := by decide +kernel
theorem dX10_built_71 : decode cX10_built 71 = .ok (.bipush 30, 2) := by decide +kernel
theorem dX10_built_73 : decode cX10_built 73 = .ok (.iload_n 1, 1) := by decide +kernel
theorem dX10_built_74 : decode cX10_built 74 = .ok (.iadd, 1) := by decide +kernel
theorem dX10_built_75 : decode cX10_built 75 = .ok (.iaload, 1) := by decide +kernel
theorem dX10_built_76 : decode cX10_built 76 = .ok (.iadd, 1) := by decide +kernel
theorem dX10_built_77 : decode cX10_built 77 = .ok (.aload_n 0, 1) := by decide +kernel
theorem dX10_built_78 : decode cX10_built 78 = .ok (.getfield 13, 3) := by decide +kernel
theorem dX10_built_81 : decode cX10_built 81 = .ok (.bipush 34, 2) := by decide +kernel
theorem dX10_built_83 : decode cX10_built 83 = .ok (.iload_n 1, 1) := by decide +kernel
theorem dX10_built_84 : decode cX10_built 84 = .ok (.iadd, 1) := by decide +kernel
theorem dX10_built_85 : decode cX10_built 85 = .ok (.iaload, 1) := by decide +kernel
theorem dX10_built_86 : decode cX10_built 86 = .ok (.isub, 1) := by decide +kernel
theorem dX10_built_87 : decode cX10_built 87 = .ok (.goto 5, 3) := by decide +kernel
theorem dX10_built_90 : decode cX10_built 90 = .ok (.bipush (-6), 2) := by decide +kernel
theorem dX10_built_92 : decode cX10_built 92 = .ok (.ireturn, 1) := by decide +kernel
theorem dX10_then_0 : decode cX10_then 0 = .ok (.iload_n 1, 1) := by decide +kernel
theorem dX10_then_1 : decode cX10_then 1 = .ok (.iconst 0, 1) := by decide +kernel
theorem dX10_then_2 : decode cX10_then 2 = .ok (.iconst 3, 1) := by decide +kernel
theorem dX10_then_3 : decode cX10_then 3 = .ok (.invokestatic 57, 3) := by decide +kernel
theorem dX10_then_6 : decode cX10_then 6 = .ok (.ifCond .ne 6, 3) := by decide +kernel
theorem dX10_then_9 : decode cX10_then 9 = .ok (.bipush (-2), 2) := by decide +kernel
theorem dX10_then_11 : decode cX10_then 11 = .ok (.ireturn, 1) := by decide +kernel
theorem dX10_then_12 : decode cX10_then 12 = .ok (.aload_n 0, 1) := by decide +kernel
theorem dX10_then_13 : decode cX10_then 13 = .ok (.invokevirtual 146, 3) := by decide +kernel
theorem dX10_then_16 : decode cX10_then 16 = .ok (.ifCond .ge 6, 3) := by decide +kernel
theorem dX10_then_19 : decode cX10_then 19 = .ok (.bipush (-5), 2) := by decide +kernel
theorem dX10_then_21 : decode cX10_then 21 = .ok (.ireturn, 1) := by decide +kernel
theorem dX10_then_22 : decode cX10_then 22 = .ok (.iload_n 1, 1) := by decide +kernel
theorem dX10_then_23 : decode cX10_then 23 = .ok (.iconst 2, 1) := by decide +kernel
theorem dX10_then_24 : decode cX10_then 24 = .ok (.if_icmp .ge 15, 3) := by decide +kernel
theorem dX10_then_27 : decode cX10_then 27 = .ok (.aload_n 0, 1) := by decide +kernel
theorem dX10_then_28 : decode cX10_then 28 = .ok (.getfield 13, 3) := by decide +kernel
theorem dX10_then_31 : decode cX10_then 31 = .ok (.bipush 38, 2) := by decide +kernel
theorem dX10_then_33 : decode cX10_then 33 = .ok (.iload_n 1, 1) := by decide +kernel
theorem dX10_then_34 : decode cX10_then 34 = .ok (.iadd, 1) := by decide +kernel
theorem dX10_then_35 : decode cX10_then 35 = .ok (.iaload, 1) := by decide +kernel
theorem dX10_then_36 : decode cX10_then 36 = .ok (.goto 19, 3) := by decide +kernel
theorem dX10_then_39 : decode cX10_then 39 = .ok (.iload_n 1, 1) := by decide +kernel
theorem dX10_then_40 : decode cX10_then 40 = .ok (.iconst 2, 1) := by decide +kernel
theorem dX10_then_41 : decode cX10_then 41 = .ok (.if_icmp .ne 10, 3) := by decide +kernel
theorem dX10_then_44 : decode cX10_then 44 = .ok (.aload_n 0, 1) := by decide +kernel
theorem dX10_then_45 : decode cX10_then 45 = .ok (.getfield 84, 3) := by decide +kernel
theorem dX10_then_48 : decode cX10_then 48 = .ok (.goto 7, 3) := by decide +kernel
theorem dX10_then_51 : decode cX10_then 51 = .ok (.aload_n 0, 1) := by decide +kernel
theorem dX10_then_52 : decode cX10_then 52 = .ok (.getfield 87, 3) := by decide +kernel
theorem dX10_then_55 : decode cX10_then 55 = .ok (.ireturn, 1) := by decide +kernel
theorem dX10_lowest_0 : decode cX10_lowest 0 = .ok (.lload_n 0, 1) := by decide +kernel
theorem dX10_lowest_1 : decode cX10_lowest 1 = .ok (.lstore 5, 2) := by decide +kernel
theorem dX10_lowest_3 : decode cX10_lowest 3 = .ok (.lload_n 2, 1) := by decide +kernel
theorem dX10_lowest_4 : decode cX10_lowest 4 = .ok (.lstore 7, 2) := by decide +kernel
theorem dX10_lowest_6 : decode cX10_lowest 6 = .ok (.lload 7, 2) := by decide +kernel
theorem dX10_lowest_8 : decode cX10_lowest 8 = .ok (.lconst 0, 1) := by decide +kernel
theorem dX10_lowest_9 : decode cX10_lowest 9 = .ok (.lcmp, 1) := by decide +kernel
theorem dX10_lowest_10 : decode cX10_lowest 10 = .ok (.ifCond .eq 21, 3) := by decide +kernel
theorem dX10_lowest_13 : decode cX10_lowest 13 = .ok (.lload 5, 2) := by decide +kernel
theorem dX10_lowest_15 : decode cX10_lowest 15 = .ok (.lload 7, 2) := by decide +kernel
theorem dX10_lowest_17 : decode cX10_lowest 17 = .ok (.lrem, 1) := by decide +kernel
theorem dX10_lowest_18 : decode cX10_lowest 18 = .ok (.lstore 9, 2) := by decide +kernel
theorem dX10_lowest_20 : decode cX10_lowest 20 = .ok (.lload 7, 2) := by decide +kernel
theorem dX10_lowest_22 : decode cX10_lowest 22 = .ok (.lstore 5, 2) := by decide +kernel
theorem dX10_lowest_24 : decode cX10_lowest 24 = .ok (.lload 9, 2) := by decide +kernel
theorem dX10_lowest_26 : decode cX10_lowest 26 = .ok (.lstore 7, 2) := by decide +kernel
theorem dX10_lowest_28 : decode cX10_lowest 28 = .ok (.goto (-22), 3) := by decide +kernel
theorem dX10_lowest_31 : decode cX10_lowest 31 = .ok (.iload 4, 2) := by decide +kernel
theorem dX10_lowest_33 : decode cX10_lowest 33 = .ok (.ifCond .ne 10, 3) := by decide +kernel
theorem dX10_lowest_36 : decode cX10_lowest 36 = .ok (.lload_n 0, 1) := by decide +kernel
theorem dX10_lowest_37 : decode cX10_lowest 37 = .ok (.lload 5, 2) := by decide +kernel
theorem dX10_lowest_39 : decode cX10_lowest 39 = .ok (.ldiv, 1) := by decide +kernel
theorem dX10_lowest_40 : decode cX10_lowest 40 = .ok (.goto 7, 3) := by decide +kernel
theorem dX10_lowest_43 : decode cX10_lowest 43 = .ok (.lload_n 2, 1) := by decide +kernel
theorem dX10_lowest_44 : decode cX10_lowest 44 = .ok (.lload 5, 2) := by decide +kernel
theorem dX10_lowest_46 : decode cX10_lowest 46 = .ok (.ldiv, 1) := by decide +kernel
theorem dX10_lowest_47 : decode cX10_lowest 47 = .ok (.lreturn, 1) := by decide +kernel
theorem dX10_inches_0 : decode cX10_inches 0 = .ok (.iload_n 1, 1) := by decide +kernel
theorem dX10_inches_1 : decode cX10_inches 1 = .ok (.invokestatic 66, 3) := by decide +kernel
theorem dX10_inches_4 : decode cX10_inches 4 = .ok (.ifCond .eq 10, 3) := by decide +kernel
theorem dX10_inches_7 : decode cX10_inches 7 = .ok (.iload_n 2, 1) := by decide +kernel
theorem dX10_inches_8 : decode cX10_inches 8 = .ok (.invokestatic 61, 3) := by decide +kernel
theorem dX10_inches_11 : decode cX10_inches 11 = .ok (.ifCond .ne 7, 3) := by decide +kernel
theorem dX10_inches_14 : decode cX10_inches 14 = .ok (.ldc2_w 149, 3) := by decide +kernel
theorem dX10_inches_17 : decode cX10_inches 17 = .ok (.lreturn, 1) := by decide +kernel
theorem dX10_inches_18 : decode cX10_inches 18 = .ok (.iload_n 3, 1) := by decide +kernel
theorem dX10_inches_19 : decode cX10_inches 19 = .ok (.iconst 0, 1) := by decide +kernel
theorem dX10_inches_20 : decode cX10_inches 20 = .ok (.iconst 1, 1) := by decide +kernel
theorem dX10_inches_21 : decode cX10_inches 21 = .ok (.invokestatic 57, 3) := by decide +kernel
theorem dX10_inches_24 : decode cX10_inches 24 = .ok (.ifCond .ne 7, 3) := by decide +kernel
theorem dX10_inches_27 : decode cX10_inches 27 = .ok (.ldc2_w 151, 3) := by decide +kernel
theorem dX10_inches_30 : decode cX10_inches 30 = .ok (.lreturn, 1) := by decide +kernel
theorem dX10_inches_31 : decode cX10_inches 31 = .ok (.aload_n 0, 1) := by decide +kernel
theorem dX10_inches_32 : decode cX10_inches 32 = .ok (.invokevirtual 122, 3) := by decide +kernel
theorem dX10_inches_35 : decode cX10_inches 35 = .ok (.aload_n 0, 1) := by decide +kernel
theorem dX10_inches_36 : decode cX10_inches 36 = .ok (.getfield 7, 3) := by decide +kernel
theorem dX10_inches_39 : decode cX10_inches 39 = .ok (.bipush 18, 2) := by decide +kernel
theorem dX10_inches_41 : decode cX10_inches 41 = .ok (.iload_n 1, 1) := by decide +kernel
theorem dX10_inches_42 : decode cX10_inches 42 = .ok (.iadd, 1) := by decide +kernel
theorem dX10_inches_43 : decode cX10_inches 43 = .ok (.iaload, 1) := by decide +kernel
theorem dX10_inches_44 : decode cX10_inches 44 = .ok (.i2l, 1) := by decide +kernel
theorem dX10_inches_45 : decode cX10_inches 45 = .ok (.aload_n 0, 1) := by decide +kernel
theorem dX10_inches_46 : decode cX10_inches 46 = .ok (.iload_n 2, 1) := by decide +kernel
theorem dX10_inches_47 : decode cX10_inches 47 = .ok (.invokevirtual 90, 3) := by decide +kernel
theorem dX10_inches_50 : decode cX10_inches 50 = .ok (.i2l, 1) := by decide +kernel
theorem dX10_inches_51 : decode cX10_inches 51 = .ok (.iload_n 3, 1) := by decide +kernel
theorem dX10_inches_52 : decode cX10_inches 52 = .ok (.invokestatic 153, 3) := by decide +kernel
theorem dX10_inches_55 : decode cX10_inches 55 = .ok (.lreturn, 1) := by decide +kernel
theorem dX10_layWill_0 : decode cX10_layWill 0 = .ok (.aload_n 0, 1) := by decide +kernel
theorem dX10_layWill_1 : decode cX10_layWill 1 = .ok (.getfield 25, 3) := by decide +kernel
theorem dX10_layWill_4 : decode cX10_layWill 4 = .ok (.iconst 0, 1) := by decide +kernel
theorem dX10_layWill_5 : decode cX10_layWill 5 = .ok (.aload_n 0, 1) := by decide +kernel
theorem dX10_layWill_6 : decode cX10_layWill 6 = .ok (.getfield 7, 3) := by decide +kernel
theorem dX10_layWill_9 : decode cX10_layWill 9 = .ok (.bipush 38, 2) := by decide +kernel
theorem dX10_layWill_11 : decode cX10_layWill 11 = .ok (.iaload, 1) := by decide +kernel
theorem dX10_layWill_12 : decode cX10_layWill 12 = .ok (.iastore, 1) := by decide +kernel
theorem dX10_layWill_13 : decode cX10_layWill 13 = .ok (.iconst 1, 1) := by decide +kernel
theorem dX10_layWill_14 : decode cX10_layWill 14 = .ok (.istore_n 1, 1) := by decide +kernel
theorem dX10_layWill_15 : decode cX10_layWill 15 = .ok (.iload_n 1, 1) := by decide +kernel
theorem dX10_layWill_16 : decode cX10_layWill 16 = .ok (.bipush 100, 2) := by decide +kernel
theorem dX10_layWill_18 : decode cX10_layWill 18 = .ok (.if_icmp .ge 46, 3) := by decide +kernel
theorem dX10_layWill_21 : decode cX10_layWill 21 = .ok (.aload_n 0, 1) := by decide +kernel
theorem dX10_layWill_22 : decode cX10_layWill 22 = .ok (.getfield 25, 3) := by decide +kernel
theorem dX10_layWill_25 : decode cX10_layWill 25 = .ok (.iload_n 1, 1) := by decide +kernel
theorem dX10_layWill_26 : decode cX10_layWill 26 = .ok (.aload_n 0, 1) := by decide +kernel
theorem dX10_layWill_27 : decode cX10_layWill 27 = .ok (.getfield 25, 3) := by decide +kernel
theorem dX10_layWill_30 : decode cX10_layWill 30 = .ok (.iload_n 1, 1) := by decide +kernel
theorem dX10_layWill_31 : decode cX10_layWill 31 = .ok (.iconst 1, 1) := by decide +kernel
theorem dX10_layWill_32 : decode cX10_layWill 32 = .ok (.isub, 1) := by decide +kernel
theorem dX10_layWill_33 : decode cX10_layWill 33 = .ok (.iaload, 1) := by decide +kernel
theorem dX10_layWill_34 : decode cX10_layWill 34 = .ok (.aload_n 0, 1) := by decide +kernel
theorem dX10_layWill_35 : decode cX10_layWill 35 = .ok (.getfield 16, 3) := by decide +kernel
theorem dX10_layWill_38 : decode cX10_layWill 38 = .ok (.aload_n 0, 1) := by decide +kernel
theorem dX10_layWill_39 : decode cX10_layWill 39 = .ok (.getfield 7, 3) := by decide +kernel
theorem dX10_layWill_42 : decode cX10_layWill 42 = .ok (.bipush 39, 2) := by decide +kernel
theorem dX10_layWill_44 : decode cX10_layWill 44 = .ok (.iaload, 1) := by decide +kernel
theorem dX10_layWill_45 : decode cX10_layWill 45 = .ok (.iload_n 1, 1) := by decide +kernel
theorem dX10_layWill_46 : decode cX10_layWill 46 = .ok (.iadd, 1) := by decide +kernel
theorem dX10_layWill_47 : decode cX10_layWill 47 = .ok (.iconst 1, 1) := by decide +kernel
theorem dX10_layWill_48 : decode cX10_layWill 48 = .ok (.isub, 1) := by decide +kernel
theorem dX10_layWill_49 : decode cX10_layWill 49 = .ok (.bipush 7, 2) := by decide +kernel
theorem dX10_layWill_51 : decode cX10_layWill 51 = .ok (.irem, 1) := by decide +kernel
theorem dX10_layWill_52 : decode cX10_layWill 52 = .ok (.iaload, 1) := by decide +kernel
theorem dX10_layWill_53 : decode cX10_layWill 53 = .ok (.iadd, 1) := by decide +kernel
theorem dX10_layWill_54 : decode cX10_layWill 54 = .ok (.invokestatic 97, 3) := by decide +kernel
theorem dX10_layWill_57 : decode cX10_layWill 57 = .ok (.iastore, 1) := by decide +kernel
theorem dX10_layWill_58 : decode cX10_layWill 58 = .ok (.iinc 1 1, 3) := by decide +kernel
theorem dX10_layWill_61 : decode cX10_layWill 61 = .ok (.goto (-46), 3) := by decide +kernel
theorem dX10_layWill_64 : decode cX10_layWill 64 = .ok (.return_, 1) := by decide +kernel
theorem dX10_will_0 : decode cX10_will 0 = .ok (.iload_n 1, 1) := by decide +kernel
theorem dX10_will_1 : decode cX10_will 1 = .ok (.iconst 0, 1) := by decide +kernel
theorem dX10_will_2 : decode cX10_will 2 = .ok (.bipush 99, 2) := by decide +kernel
theorem dX10_will_4 : decode cX10_will 4 = .ok (.invokestatic 57, 3) := by decide +kernel
theorem dX10_will_7 : decode cX10_will 7 = .ok (.ifCond .ne 6, 3) := by decide +kernel
theorem dX10_will_10 : decode cX10_will 10 = .ok (.bipush (-2), 2) := by decide +kernel
theorem dX10_will_12 : decode cX10_will 12 = .ok (.ireturn, 1) := by decide +kernel
theorem dX10_will_13 : decode cX10_will 13 = .ok (.aload_n 0, 1) := by decide +kernel
theorem dX10_will_14 : decode cX10_will 14 = .ok (.invokevirtual 157, 3) := by decide +kernel
theorem dX10_will_17 : decode cX10_will 17 = .ok (.aload_n 0, 1) := by decide +kernel
theorem dX10_will_18 : decode cX10_will 18 = .ok (.getfield 25, 3) := by decide +kernel
theorem dX10_will_21 : decode cX10_will 21 = .ok (.iload_n 1, 1) := by decide +kernel
theorem dX10_will_22 : decode cX10_will 22 = .ok (.iaload, 1) := by decide +kernel
theorem dX10_will_23 : decode cX10_will 23 = .ok (.ireturn, 1) := by decide +kernel
theorem dX10_best_0 : decode cX10_best 0 = .ok (.aload_n 0, 1) := by decide +kernel
theorem dX10_best_1 : decode cX10_best 1 = .ok (.invokevirtual 157, 3) := by decide +kernel
theorem dX10_best_4 : decode cX10_best 4 = .ok (.iconst 1, 1) := by decide +kernel
theorem dX10_best_5 : decode cX10_best 5 = .ok (.istore_n 2, 1) := by decide +kernel
theorem dX10_best_6 : decode cX10_best 6 = .ok (.iconst 0, 1) := by decide +kernel
theorem dX10_best_7 : decode cX10_best 7 = .ok (.istore_n 3, 1) := by decide +kernel
theorem dX10_best_8 : decode cX10_best 8 = .ok (.iload_n 3, 1) := by decide +kernel
theorem dX10_best_9 : decode cX10_best 9 = .ok (.iload_n 1, 1) := by decide +kernel
theorem dX10_best_10 : decode cX10_best 10 = .ok (.if_icmp .ge 86, 3) := by decide +kernel
theorem dX10_best_13 : decode cX10_best 13 = .ok (.iload_n 3, 1) := by decide +kernel
theorem dX10_best_14 : decode cX10_best 14 = .ok (.iconst 1, 1) := by decide +kernel
theorem dX10_best_15 : decode cX10_best 15 = .ok (.iadd, 1) := by decide +kernel
theorem dX10_best_16 : decode cX10_best 16 = .ok (.istore 4, 2) := by decide +kernel
theorem dX10_best_18 : decode cX10_best 18 = .ok (.iload 4, 2) := by decide +kernel
theorem dX10_best_20 : decode cX10_best 20 = .ok (.iload_n 1, 1) := by decide +kernel
theorem dX10_best_21 : decode cX10_best 21 = .ok (.if_icmp .gt 69, 3) := by decide +kernel
theorem dX10_best_24 : decode cX10_best 24 = .ok (.aload_n 0, 1) := by decide +kernel
theorem dX10_best_25 : decode cX10_best 25 = .ok (.getfield 25, 3) := by decide +kernel
theorem dX10_best_28 : decode cX10_best 28 = .ok (.iload_n 3, 1) := by decide +kernel
theorem dX10_best_29 : decode cX10_best 29 = .ok (.iaload, 1) := by decide +kernel
theorem dX10_best_30 : decode cX10_best 30 = .ok (.aload_n 0, 1) := by decide +kernel
theorem dX10_best_31 : decode cX10_best 31 = .ok (.getfield 25, 3) := by decide +kernel
theorem dX10_best_34 : decode cX10_best 34 = .ok (.iload_n 2, 1) := by decide +kernel
theorem dX10_best_35 : decode cX10_best 35 = .ok (.bipush 100, 2) := by decide +kernel
theorem dX10_best_37 : decode cX10_best 37 = .ok (.irem, 1) := by decide +kernel
theorem dX10_best_38 : decode cX10_best 38 = .ok (.iaload, 1) := by decide +kernel
theorem dX10_best_39 : decode cX10_best 39 = .ok (.imul, 1) := by decide +kernel
theorem dX10_best_40 : decode cX10_best 40 = .ok (.aload_n 0, 1) := by decide +kernel
theorem dX10_best_41 : decode cX10_best 41 = .ok (.getfield 25, 3) := by decide +kernel
theorem dX10_best_44 : decode cX10_best 44 = .ok (.iload_n 2, 1) := by decide +kernel
theorem dX10_best_45 : decode cX10_best 45 = .ok (.bipush 100, 2) := by decide +kernel
theorem dX10_best_47 : decode cX10_best 47 = .ok (.idiv, 1) := by decide +kernel
theorem dX10_best_48 : decode cX10_best 48 = .ok (.iaload, 1) := by decide +kernel
theorem dX10_best_49 : decode cX10_best 49 = .ok (.aload_n 0, 1) := by decide +kernel
theorem dX10_best_50 : decode cX10_best 50 = .ok (.getfield 25, 3) := by decide +kernel
theorem dX10_best_53 : decode cX10_best 53 = .ok (.iload 4, 2) := by decide +kernel
theorem dX10_best_55 : decode cX10_best 55 = .ok (.iaload, 1) := by decide +kernel
theorem dX10_best_56 : decode cX10_best 56 = .ok (.imul, 1) := by decide +kernel
theorem dX10_best_57 : decode cX10_best 57 = .ok (.if_icmp .le 7, 3) := by decide +kernel
theorem dX10_best_60 : decode cX10_best 60 = .ok (.iconst 1, 1) := by decide +kernel
theorem dX10_best_61 : decode cX10_best 61 = .ok (.goto 4, 3) := by decide +kernel
theorem dX10_best_64 : decode cX10_best 64 = .ok (.iconst 0, 1) := by decide +kernel
theorem dX10_best_65 : decode cX10_best 65 = .ok (.istore 5, 2) := by decide +kernel
theorem dX10_best_67 : decode cX10_best 67 = .ok (.iload 5, 2) := by decide +kernel
theorem dX10_best_69 : decode cX10_best 69 = .ok (.ifCond .eq 13, 3) := by decide +kernel
theorem dX10_best_72 : decode cX10_best 72 = .ok (.bipush 100, 2) := by decide +kernel
theorem dX10_best_74 : decode cX10_best 74 = .ok (.iload_n 3, 1) := by decide +kernel
theorem dX10_best_75 : decode cX10_best 75 = .ok (.imul, 1) := by decide +kernel
theorem dX10_best_76 : decode cX10_best 76 = .ok (.iload 4, 2) := by decide +kernel
theorem dX10_best_78 : decode cX10_best 78 = .ok (.iadd, 1) := by decide +kernel
theorem dX10_best_79 : decode cX10_best 79 = .ok (.goto 4, 3) := by decide +kernel
theorem dX10_best_82 : decode cX10_best 82 = .ok (.iload_n 2, 1) := by decide +kernel
theorem dX10_best_83 : decode cX10_best 83 = .ok (.istore_n 2, 1) := by decide +kernel
theorem dX10_best_84 : decode cX10_best 84 = .ok (.iinc 4 1, 3) := by decide +kernel
theorem dX10_best_87 : decode cX10_best 87 = .ok (.goto (-69), 3) := by decide +kernel
theorem dX10_best_90 : decode cX10_best 90 = .ok (.iinc 3 1, 3) := by decide +kernel
theorem dX10_best_93 : decode cX10_best 93 = .ok (.goto (-85), 3) := by decide +kernel
theorem dX10_best_96 : decode cX10_best 96 = .ok (.iload_n 2, 1) := by decide +kernel
theorem dX10_best_97 : decode cX10_best 97 = .ok (.ireturn, 1) := by decide +kernel
theorem dX10_sure_0 : decode cX10_sure 0 = .ok (.iload_n 1, 1) := by decide +kernel
theorem dX10_sure_1 : decode cX10_sure 1 = .ok (.iconst 1, 1) := by decide +kernel
theorem dX10_sure_2 : decode cX10_sure 2 = .ok (.bipush 60, 2) := by decide +kernel
theorem dX10_sure_4 : decode cX10_sure 4 = .ok (.invokestatic 57, 3) := by decide +kernel
theorem dX10_sure_7 : decode cX10_sure 7 = .ok (.ifCond .eq 12, 3) := by decide +kernel
theorem dX10_sure_10 : decode cX10_sure 10 = .ok (.iload_n 2, 1) := by decide +kernel
theorem dX10_sure_11 : decode cX10_sure 11 = .ok (.iconst 0, 1) := by decide +kernel
theorem dX10_sure_12 : decode cX10_sure 12 = .ok (.iconst 1, 1) := by decide +kernel
theorem dX10_sure_13 : decode cX10_sure 13 = .ok (.invokestatic 57, 3) := by decide +kernel
theorem dX10_sure_16 : decode cX10_sure 16 = .ok (.ifCond .ne 7, 3) := by decide +kernel
theorem dX10_sure_19 : decode cX10_sure 19 = .ok (.ldc2_w 151, 3) := by decide +kernel
theorem dX10_sure_22 : decode cX10_sure 22 = .ok (.lreturn, 1) := by decide +kernel
theorem dX10_sure_23 : decode cX10_sure 23 = .ok (.aload_n 0, 1) := by decide +kernel
theorem dX10_sure_24 : decode cX10_sure 24 = .ok (.iload_n 1, 1) := by decide +kernel
theorem dX10_sure_25 : decode cX10_sure 25 = .ok (.invokevirtual 160, 3) := by decide +kernel
theorem dX10_sure_28 : decode cX10_sure 28 = .ok (.istore_n 3, 1) := by decide +kernel
theorem dX10_sure_29 : decode cX10_sure 29 = .ok (.aload_n 0, 1) := by decide +kernel
theorem dX10_sure_30 : decode cX10_sure 30 = .ok (.getfield 25, 3) := by decide +kernel
theorem dX10_sure_33 : decode cX10_sure 33 = .ok (.iload_n 3, 1) := by decide +kernel
theorem dX10_sure_34 : decode cX10_sure 34 = .ok (.bipush 100, 2) := by decide +kernel
theorem dX10_sure_36 : decode cX10_sure 36 = .ok (.idiv, 1) := by decide +kernel
theorem dX10_sure_37 : decode cX10_sure 37 = .ok (.iaload, 1) := by decide +kernel
theorem dX10_sure_38 : decode cX10_sure 38 = .ok (.i2l, 1) := by decide +kernel
theorem dX10_sure_39 : decode cX10_sure 39 = .ok (.aload_n 0, 1) := by decide +kernel
theorem dX10_sure_40 : decode cX10_sure 40 = .ok (.getfield 25, 3) := by decide +kernel
theorem dX10_sure_43 : decode cX10_sure 43 = .ok (.iload_n 3, 1) := by decide +kernel
theorem dX10_sure_44 : decode cX10_sure 44 = .ok (.bipush 100, 2) := by decide +kernel
theorem dX10_sure_46 : decode cX10_sure 46 = .ok (.irem, 1) := by decide +kernel
theorem dX10_sure_47 : decode cX10_sure 47 = .ok (.iaload, 1) := by decide +kernel
theorem dX10_sure_48 : decode cX10_sure 48 = .ok (.i2l, 1) := by decide +kernel
theorem dX10_sure_49 : decode cX10_sure 49 = .ok (.iload_n 2, 1) := by decide +kernel
theorem dX10_sure_50 : decode cX10_sure 50 = .ok (.invokestatic 153, 3) := by decide +kernel
theorem dX10_sure_53 : decode cX10_sure 53 = .ok (.lreturn, 1) := by decide +kernel
theorem dX10_when_0 : decode cX10_when 0 = .ok (.iload_n 1, 1) := by decide +kernel
theorem dX10_when_1 : decode cX10_when 1 = .ok (.iconst 1, 1) := by decide +kernel
theorem dX10_when_2 : decode cX10_when 2 = .ok (.bipush 60, 2) := by decide +kernel
theorem dX10_when_4 : decode cX10_when 4 = .ok (.invokestatic 57, 3) := by decide +kernel
theorem dX10_when_7 : decode cX10_when 7 = .ok (.ifCond .eq 11, 3) := by decide +kernel
theorem dX10_when_10 : decode cX10_when 10 = .ok (.aload_n 0, 1) := by decide +kernel
theorem dX10_when_11 : decode cX10_when 11 = .ok (.iload_n 1, 1) := by decide +kernel
theorem dX10_when_12 : decode cX10_when 12 = .ok (.invokevirtual 160, 3) := by decide +kernel
theorem dX10_when_15 : decode cX10_when 15 = .ok (.goto 5, 3) := by decide +kernel
theorem dX10_when_18 : decode cX10_when 18 = .ok (.bipush (-2), 2) := by decide +kernel
theorem dX10_when_20 : decode cX10_when 20 = .ok (.ireturn, 1) := by decide +kernel
theorem dX10_meet_0 : decode cX10_meet 0 = .ok (.iload_n 1, 1) := by decide +kernel
theorem dX10_meet_1 : decode cX10_meet 1 = .ok (.iconst 1, 1) := by decide +kernel
theorem dX10_meet_2 : decode cX10_meet 2 = .ok (.ldc 65, 2) := by decide +kernel
theorem dX10_meet_4 : decode cX10_meet 4 = .ok (.invokestatic 57, 3) := by decide +kernel
theorem dX10_meet_7 : decode cX10_meet 7 = .ok (.ifCond .eq 45, 3) := by decide +kernel
theorem dX10_meet_10 : decode cX10_meet 10 = .ok (.iload_n 2, 1) := by decide +kernel
theorem dX10_meet_11 : decode cX10_meet 11 = .ok (.iconst 0, 1) := by decide +kernel
theorem dX10_meet_12 : decode cX10_meet 12 = .ok (.bipush 20, 2) := by decide +kernel
theorem dX10_meet_14 : decode cX10_meet 14 = .ok (.invokestatic 57, 3) := by decide +kernel
theorem dX10_meet_17 : decode cX10_meet 17 = .ok (.ifCond .eq 35, 3) := by decide +kernel
theorem dX10_meet_20 : decode cX10_meet 20 = .ok (.iload_n 3, 1) := by decide +kernel
theorem dX10_meet_21 : decode cX10_meet 21 = .ok (.iconst 0, 1) := by decide +kernel
theorem dX10_meet_22 : decode cX10_meet 22 = .ok (.bipush 20, 2) := by decide +kernel
theorem dX10_meet_24 : decode cX10_meet 24 = .ok (.invokestatic 57, 3) := by decide +kernel
theorem dX10_meet_27 : decode cX10_meet 27 = .ok (.ifCond .eq 25, 3) := by decide +kernel
theorem dX10_meet_30 : decode cX10_meet 30 = .ok (.iload 4, 2) := by decide +kernel
theorem dX10_meet_32 : decode cX10_meet 32 = .ok (.iconst 1, 1) := by decide +kernel
theorem dX10_meet_33 : decode cX10_meet 33 = .ok (.sipush 200, 3) := by decide +kernel
theorem dX10_meet_36 : decode cX10_meet 36 = .ok (.invokestatic 57, 3) := by decide +kernel
theorem dX10_meet_39 : decode cX10_meet 39 = .ok (.ifCond .eq 13, 3) := by decide +kernel
theorem dX10_meet_42 : decode cX10_meet 42 = .ok (.iload 5, 2) := by decide +kernel
theorem dX10_meet_44 : decode cX10_meet 44 = .ok (.iconst 0, 1) := by decide +kernel
theorem dX10_meet_45 : decode cX10_meet 45 = .ok (.iconst 1, 1) := by decide +kernel
theorem dX10_meet_46 : decode cX10_meet 46 = .ok (.invokestatic 57, 3) := by decide +kernel
theorem dX10_meet_49 : decode cX10_meet 49 = .ok (.ifCond .ne 6, 3) := by decide +kernel
theorem dX10_meet_52 : decode cX10_meet 52 = .ok (.bipush (-2), 2) := by decide +kernel
theorem dX10_meet_54 : decode cX10_meet 54 = .ok (.ireturn, 1) := by decide +kernel
theorem dX10_meet_55 : decode cX10_meet 55 = .ok (.aload_n 0, 1) := by decide +kernel
theorem dX10_meet_56 : decode cX10_meet 56 = .ok (.invokevirtual 157, 3) := by decide +kernel
theorem dX10_meet_59 : decode cX10_meet 59 = .ok (.iconst 0, 1) := by decide +kernel
theorem dX10_meet_60 : decode cX10_meet 60 = .ok (.istore 6, 2) := by decide +kernel
theorem dX10_meet_62 : decode cX10_meet 62 = .ok (.iconst 0, 1) := by decide +kernel
theorem dX10_meet_63 : decode cX10_meet 63 = .ok (.istore 7, 2) := by decide +kernel
theorem dX10_meet_65 : decode cX10_meet 65 = .ok (.iload 7, 2) := by decide +kernel
theorem dX10_meet_67 : decode cX10_meet 67 = .ok (.bipush 99, 2) := by decide +kernel
theorem dX10_meet_69 : decode cX10_meet 69 = .ok (.if_icmp .ge 51, 3) := by decide +kernel
theorem dX10_meet_72 : decode cX10_meet 72 = .ok (.iload 6, 2) := by decide +kernel
theorem dX10_meet_74 : decode cX10_meet 74 = .ok (.iload_n 2, 1) := by decide +kernel
theorem dX10_meet_75 : decode cX10_meet 75 = .ok (.aload_n 0, 1) := by decide +kernel
theorem dX10_meet_76 : decode cX10_meet 76 = .ok (.getfield 25, 3) := by decide +kernel
theorem dX10_meet_79 : decode cX10_meet 79 = .ok (.iload 7, 2) := by decide +kernel
theorem dX10_meet_81 : decode cX10_meet 81 = .ok (.iaload, 1) := by decide +kernel
theorem dX10_meet_82 : decode cX10_meet 82 = .ok (.imul, 1) := by decide +kernel
theorem dX10_meet_83 : decode cX10_meet 83 = .ok (.iload_n 3, 1) := by decide +kernel
theorem dX10_meet_84 : decode cX10_meet 84 = .ok (.iload 4, 2) := by decide +kernel
theorem dX10_meet_86 : decode cX10_meet 86 = .ok (.imul, 1) := by decide +kernel
theorem dX10_meet_87 : decode cX10_meet 87 = .ok (.iadd, 1) := by decide +kernel
theorem dX10_meet_88 : decode cX10_meet 88 = .ok (.iadd, 1) := by decide +kernel
theorem dX10_meet_89 : decode cX10_meet 89 = .ok (.istore 6, 2) := by decide +kernel
theorem dX10_meet_91 : decode cX10_meet 91 = .ok (.iload 6, 2) := by decide +kernel
theorem dX10_meet_93 : decode cX10_meet 93 = .ok (.iload_n 1, 1) := by decide +kernel
theorem dX10_meet_94 : decode cX10_meet 94 = .ok (.if_icmp .lt 20, 3) := by decide +kernel
theorem dX10_meet_97 : decode cX10_meet 97 = .ok (.iload 5, 2) := by decide +kernel
theorem dX10_meet_99 : decode cX10_meet 99 = .ok (.ifCond .ne 10, 3) := by decide +kernel
theorem dX10_meet_102 : decode cX10_meet 102 = .ok (.iload 7, 2) := by decide +kernel
theorem dX10_meet_104 : decode cX10_meet 104 = .ok (.iconst 1, 1) := by decide +kernel
theorem dX10_meet_105 : decode cX10_meet 105 = .ok (.iadd, 1) := by decide +kernel
theorem dX10_meet_106 : decode cX10_meet 106 = .ok (.goto 7, 3) := by decide +kernel
theorem dX10_meet_109 : decode cX10_meet 109 = .ok (.iload 6, 2) := by decide +kernel
theorem dX10_meet_111 : decode cX10_meet 111 = .ok (.iload_n 1, 1) := by decide +kernel
theorem dX10_meet_112 : decode cX10_meet 112 = .ok (.isub, 1) := by decide +kernel
theorem dX10_meet_113 : decode cX10_meet 113 = .ok (.ireturn, 1) := by decide +kernel
theorem dX10_meet_114 : decode cX10_meet 114 = .ok (.iinc 7 1, 3) := by decide +kernel
theorem dX10_meet_117 : decode cX10_meet 117 = .ok (.goto (-52), 3) := by decide +kernel
theorem dX10_meet_120 : decode cX10_meet 120 = .ok (.bipush (-6), 2) := by decide +kernel
theorem dX10_meet_122 : decode cX10_meet 122 = .ok (.ireturn, 1) := by decide +kernel
theorem dX10_waste_0 : decode cX10_waste 0 = .ok (.iload_n 1, 1) := by decide +kernel
theorem dX10_waste_1 : decode cX10_waste 1 = .ok (.invokestatic 66, 3) := by decide +kernel
theorem dX10_waste_4 : decode cX10_waste 4 = .ok (.ifCond .ne 5, 3) := by decide +kernel
theorem dX10_waste_7 : decode cX10_waste 7 = .ok (.iconst (-1), 1) := by decide +kernel
theorem dX10_waste_8 : decode cX10_waste 8 = .ok (.ireturn, 1) := by decide +kernel
theorem dX10_waste_9 : decode cX10_waste 9 = .ok (.iload_n 2, 1) := by decide +kernel
theorem dX10_waste_10 : decode cX10_waste 10 = .ok (.iconst 1, 1) := by decide +kernel
theorem dX10_waste_11 : decode cX10_waste 11 = .ok (.bipush 20, 2) := by decide +kernel
theorem dX10_waste_13 : decode cX10_waste 13 = .ok (.invokestatic 57, 3) := by decide +kernel
theorem dX10_waste_16 : decode cX10_waste 16 = .ok (.ifCond .eq 23, 3) := by decide +kernel
theorem dX10_waste_19 : decode cX10_waste 19 = .ok (.iload_n 3, 1) := by decide +kernel
theorem dX10_waste_20 : decode cX10_waste 20 = .ok (.iconst 1, 1) := by decide +kernel
theorem dX10_waste_21 : decode cX10_waste 21 = .ok (.bipush 20, 2) := by decide +kernel
theorem dX10_waste_23 : decode cX10_waste 23 = .ok (.invokestatic 57, 3) := by decide +kernel
theorem dX10_waste_26 : decode cX10_waste 26 = .ok (.ifCond .eq 13, 3) := by decide +kernel
theorem dX10_waste_29 : decode cX10_waste 29 = .ok (.iload 4, 2) := by decide +kernel
theorem dX10_waste_31 : decode cX10_waste 31 = .ok (.iconst 0, 1) := by decide +kernel
theorem dX10_waste_32 : decode cX10_waste 32 = .ok (.iconst 1, 1) := by decide +kernel
theorem dX10_waste_33 : decode cX10_waste 33 = .ok (.invokestatic 57, 3) := by decide +kernel
theorem dX10_waste_36 : decode cX10_waste 36 = .ok (.ifCond .ne 6, 3) := by decide +kernel
theorem dX10_waste_39 : decode cX10_waste 39 = .ok (.bipush (-2), 2) := by decide +kernel
theorem dX10_waste_41 : decode cX10_waste 41 = .ok (.ireturn, 1) := by decide +kernel
theorem dX10_waste_42 : decode cX10_waste 42 = .ok (.ldc 163, 2) := by decide +kernel
theorem dX10_waste_44 : decode cX10_waste 44 = .ok (.istore 5, 2) := by decide +kernel
theorem dX10_waste_46 : decode cX10_waste 46 = .ok (.iconst 0, 1) := by decide +kernel
theorem dX10_waste_47 : decode cX10_waste 47 = .ok (.istore 6, 2) := by decide +kernel
theorem dX10_waste_49 : decode cX10_waste 49 = .ok (.iconst 0, 1) := by decide +kernel
theorem dX10_waste_50 : decode cX10_waste 50 = .ok (.istore 7, 2) := by decide +kernel
theorem dX10_waste_52 : decode cX10_waste 52 = .ok (.aload_n 0, 1) := by decide +kernel
theorem dX10_waste_53 : decode cX10_waste 53 = .ok (.getfield 7, 3) := by decide +kernel
theorem dX10_waste_56 : decode cX10_waste 56 = .ok (.bipush 18, 2) := by decide +kernel
theorem dX10_waste_58 : decode cX10_waste 58 = .ok (.iload_n 1, 1) := by decide +kernel
theorem dX10_waste_59 : decode cX10_waste 59 = .ok (.iadd, 1) := by decide +kernel
theorem dX10_waste_60 : decode cX10_waste 60 = .ok (.iaload, 1) := by decide +kernel
theorem dX10_waste_61 : decode cX10_waste 61 = .ok (.istore 8, 2) := by decide +kernel
theorem dX10_waste_63 : decode cX10_waste 63 = .ok (.iload 8, 2) := by decide +kernel
theorem dX10_waste_65 : decode cX10_waste 65 = .ok (.ifCond .lt 69, 3) := by decide +kernel
theorem dX10_waste_68 : decode cX10_waste 68 = .ok (.iload 8, 2) := by decide +kernel
theorem dX10_waste_70 : decode cX10_waste 70 = .ok (.iload_n 3, 1) := by decide +kernel
theorem dX10_waste_71 : decode cX10_waste 71 = .ok (.aload_n 0, 1) := by decide +kernel
theorem dX10_waste_72 : decode cX10_waste 72 = .ok (.getfield 7, 3) := by decide +kernel
theorem dX10_waste_75 : decode cX10_waste 75 = .ok (.bipush 38, 2) := by decide +kernel
theorem dX10_waste_77 : decode cX10_waste 77 = .ok (.iaload, 1) := by decide +kernel
theorem dX10_waste_78 : decode cX10_waste 78 = .ok (.imul, 1) := by decide +kernel
theorem dX10_waste_79 : decode cX10_waste 79 = .ok (.irem, 1) := by decide +kernel
theorem dX10_waste_80 : decode cX10_waste 80 = .ok (.istore 9, 2) := by decide +kernel
theorem dX10_waste_82 : decode cX10_waste 82 = .ok (.iload 9, 2) := by decide +kernel
theorem dX10_waste_84 : decode cX10_waste 84 = .ok (.iload 5, 2) := by decide +kernel
theorem dX10_waste_86 : decode cX10_waste 86 = .ok (.if_icmp .ge 8, 3) := by decide +kernel
theorem dX10_waste_89 : decode cX10_waste 89 = .ok (.iload 7, 2) := by decide +kernel
theorem dX10_waste_91 : decode cX10_waste 91 = .ok (.goto 5, 3) := by decide +kernel
theorem dX10_waste_94 : decode cX10_waste 94 = .ok (.iload 6, 2) := by decide +kernel
theorem dX10_waste_96 : decode cX10_waste 96 = .ok (.istore 6, 2) := by decide +kernel
theorem dX10_waste_98 : decode cX10_waste 98 = .ok (.iload 9, 2) := by decide +kernel
theorem dX10_waste_100 : decode cX10_waste 100 = .ok (.iload 5, 2) := by decide +kernel
theorem dX10_waste_102 : decode cX10_waste 102 = .ok (.if_icmp .ge 8, 3) := by decide +kernel
theorem dX10_waste_105 : decode cX10_waste 105 = .ok (.iload 9, 2) := by decide +kernel
theorem dX10_waste_107 : decode cX10_waste 107 = .ok (.goto 5, 3) := by decide +kernel
theorem dX10_waste_110 : decode cX10_waste 110 = .ok (.iload 5, 2) := by decide +kernel
theorem dX10_waste_112 : decode cX10_waste 112 = .ok (.istore 5, 2) := by decide +kernel
theorem dX10_waste_114 : decode cX10_waste 114 = .ok (.iinc 7 1, 3) := by decide +kernel
theorem dX10_waste_117 : decode cX10_waste 117 = .ok (.iload 8, 2) := by decide +kernel
theorem dX10_waste_119 : decode cX10_waste 119 = .ok (.iload_n 2, 1) := by decide +kernel
theorem dX10_waste_120 : decode cX10_waste 120 = .ok (.aload_n 0, 1) := by decide +kernel
theorem dX10_waste_121 : decode cX10_waste 121 = .ok (.getfield 7, 3) := by decide +kernel
theorem dX10_waste_124 : decode cX10_waste 124 = .ok (.bipush 38, 2) := by decide +kernel
theorem dX10_waste_126 : decode cX10_waste 126 = .ok (.iaload, 1) := by decide +kernel
theorem dX10_waste_127 : decode cX10_waste 127 = .ok (.imul, 1) := by decide +kernel
theorem dX10_waste_128 : decode cX10_waste 128 = .ok (.isub, 1) := by decide +kernel
theorem dX10_waste_129 : decode cX10_waste 129 = .ok (.istore 8, 2) := by decide +kernel
theorem dX10_waste_131 : decode cX10_waste 131 = .ok (.goto (-68), 3) := by decide +kernel
theorem dX10_waste_134 : decode cX10_waste 134 = .ok (.iload 4, 2) := by decide +kernel
theorem dX10_waste_136 : decode cX10_waste 136 = .ok (.ifCond .ne 8, 3) := by decide +kernel
theorem dX10_waste_139 : decode cX10_waste 139 = .ok (.iload 5, 2) := by decide +kernel
theorem dX10_waste_141 : decode cX10_waste 141 = .ok (.goto 5, 3) := by decide +kernel
theorem dX10_waste_144 : decode cX10_waste 144 = .ok (.iload 6, 2) := by decide +kernel
theorem dX10_waste_146 : decode cX10_waste 146 = .ok (.ireturn, 1) := by decide +kernel
theorem dX10_countDays_0 : decode cX10_countDays 0 = .ok (.iconst 0, 1) := by decide +kernel
theorem dX10_countDays_1 : decode cX10_countDays 1 = .ok (.istore 5, 2) := by decide +kernel
theorem dX10_countDays_3 : decode cX10_countDays 3 = .ok (.iload_n 1, 1) := by decide +kernel
theorem dX10_countDays_4 : decode cX10_countDays 4 = .ok (.istore 6, 2) := by decide +kernel
theorem dX10_countDays_6 : decode cX10_countDays 6 = .ok (.iload 6, 2) := by decide +kernel
theorem dX10_countDays_8 : decode cX10_countDays 8 = .ok (.iload_n 2, 1) := by decide +kernel
theorem dX10_countDays_9 : decode cX10_countDays 9 = .ok (.if_icmp .gt 35, 3) := by decide +kernel
theorem dX10_countDays_12 : decode cX10_countDays 12 = .ok (.iload 5, 2) := by decide +kernel
theorem dX10_countDays_14 : decode cX10_countDays 14 = .ok (.aload_n 0, 1) := by decide +kernel
theorem dX10_countDays_15 : decode cX10_countDays 15 = .ok (.getfield 25, 3) := by decide +kernel
theorem dX10_countDays_18 : decode cX10_countDays 18 = .ok (.iload 6, 2) := by decide +kernel
theorem dX10_countDays_20 : decode cX10_countDays 20 = .ok (.iaload, 1) := by decide +kernel
theorem dX10_countDays_21 : decode cX10_countDays 21 = .ok (.iload_n 3, 1) := by decide +kernel
theorem dX10_countDays_22 : decode cX10_countDays 22 = .ok (.iload 4, 2) := by decide +kernel
theorem dX10_countDays_24 : decode cX10_countDays 24 = .ok (.invokestatic 57, 3) := by decide +kernel
theorem dX10_countDays_27 : decode cX10_countDays 27 = .ok (.ifCond .eq 7, 3) := by decide +kernel
theorem dX10_countDays_30 : decode cX10_countDays 30 = .ok (.iconst 1, 1) := by decide +kernel
theorem dX10_countDays_31 : decode cX10_countDays 31 = .ok (.goto 4, 3) := by decide +kernel
theorem dX10_countDays_34 : decode cX10_countDays 34 = .ok (.iconst 0, 1) := by decide +kernel
theorem dX10_countDays_35 : decode cX10_countDays 35 = .ok (.iadd, 1) := by decide +kernel
theorem dX10_countDays_36 : decode cX10_countDays 36 = .ok (.istore 5, 2) := by decide +kernel
theorem dX10_countDays_38 : decode cX10_countDays 38 = .ok (.iinc 6 1, 3) := by decide +kernel
theorem dX10_countDays_41 : decode cX10_countDays 41 = .ok (.goto (-35), 3) := by decide +kernel
theorem dX10_countDays_44 : decode cX10_countDays 44 = .ok (.iload 5, 2) := by decide +kernel
theorem dX10_countDays_46 : decode cX10_countDays 46 = .ok (.ireturn, 1) := by decide +kernel
theorem dX10_days_0 : decode cX10_days 0 = .ok (.iload_n 1, 1) := by decide +kernel
theorem dX10_days_1 : decode cX10_days 1 = .ok (.iconst 0, 1) := by decide +kernel
theorem dX10_days_2 : decode cX10_days 2 = .ok (.bipush 60, 2) := by decide +kernel
theorem dX10_days_4 : decode cX10_days 4 = .ok (.invokestatic 57, 3) := by decide +kernel
theorem dX10_days_7 : decode cX10_days 7 = .ok (.ifCond .eq 29, 3) := by decide +kernel
theorem dX10_days_10 : decode cX10_days 10 = .ok (.iload_n 2, 1) := by decide +kernel
theorem dX10_days_11 : decode cX10_days 11 = .ok (.iconst 1, 1) := by decide +kernel
theorem dX10_days_12 : decode cX10_days 12 = .ok (.bipush 10, 2) := by decide +kernel
theorem dX10_days_14 : decode cX10_days 14 = .ok (.invokestatic 57, 3) := by decide +kernel
theorem dX10_days_17 : decode cX10_days 17 = .ok (.ifCond .eq 19, 3) := by decide +kernel
theorem dX10_days_20 : decode cX10_days 20 = .ok (.iload_n 2, 1) := by decide +kernel
theorem dX10_days_21 : decode cX10_days 21 = .ok (.iload_n 1, 1) := by decide +kernel
theorem dX10_days_22 : decode cX10_days 22 = .ok (.iconst 1, 1) := by decide +kernel
theorem dX10_days_23 : decode cX10_days 23 = .ok (.iadd, 1) := by decide +kernel
theorem dX10_days_24 : decode cX10_days 24 = .ok (.if_icmp .gt 12, 3) := by decide +kernel
theorem dX10_days_27 : decode cX10_days 27 = .ok (.iload_n 3, 1) := by decide +kernel
theorem dX10_days_28 : decode cX10_days 28 = .ok (.iconst 0, 1) := by decide +kernel
theorem dX10_days_29 : decode cX10_days 29 = .ok (.iconst 1, 1) := by decide +kernel
theorem dX10_days_30 : decode cX10_days 30 = .ok (.invokestatic 57, 3) := by decide +kernel
theorem dX10_days_33 : decode cX10_days 33 = .ok (.ifCond .ne 6, 3) := by decide +kernel
theorem dX10_days_36 : decode cX10_days 36 = .ok (.bipush (-2), 2) := by decide +kernel
theorem dX10_days_38 : decode cX10_days 38 = .ok (.ireturn, 1) := by decide +kernel
theorem dX10_days_39 : decode cX10_days 39 = .ok (.aload_n 0, 1) := by decide +kernel
theorem dX10_days_40 : decode cX10_days 40 = .ok (.invokevirtual 157, 3) := by decide +kernel
theorem dX10_days_43 : decode cX10_days 43 = .ok (.iconst (-1), 1) := by decide +kernel
theorem dX10_days_44 : decode cX10_days 44 = .ok (.istore 4, 2) := by decide +kernel
theorem dX10_days_46 : decode cX10_days 46 = .ok (.iconst 0, 1) := by decide +kernel
theorem dX10_days_47 : decode cX10_days 47 = .ok (.istore 5, 2) := by decide +kernel
theorem dX10_days_49 : decode cX10_days 49 = .ok (.iload 5, 2) := by decide +kernel
theorem dX10_days_51 : decode cX10_days 51 = .ok (.ifCond .ne 63, 3) := by decide +kernel
theorem dX10_days_54 : decode cX10_days 54 = .ok (.iinc 4 1, 3) := by decide +kernel
theorem dX10_days_57 : decode cX10_days 57 = .ok (.iconst 0, 1) := by decide +kernel
theorem dX10_days_58 : decode cX10_days 58 = .ok (.istore 6, 2) := by decide +kernel
theorem dX10_days_60 : decode cX10_days 60 = .ok (.iload 6, 2) := by decide +kernel
theorem dX10_days_62 : decode cX10_days 62 = .ok (.iload_n 1, 1) := by decide +kernel
theorem dX10_days_63 : decode cX10_days 63 = .ok (.if_icmp .gt 48, 3) := by decide +kernel
theorem dX10_days_66 : decode cX10_days 66 = .ok (.iload 5, 2) := by decide +kernel
theorem dX10_days_68 : decode cX10_days 68 = .ok (.ifCond .ne 30, 3) := by decide +kernel
theorem dX10_days_71 : decode cX10_days 71 = .ok (.aload_n 0, 1) := by decide +kernel
theorem dX10_days_72 : decode cX10_days 72 = .ok (.iconst 0, 1) := by decide +kernel
theorem dX10_days_73 : decode cX10_days 73 = .ok (.iload_n 1, 1) := by decide +kernel
theorem dX10_days_74 : decode cX10_days 74 = .ok (.aload_n 0, 1) := by decide +kernel
theorem dX10_days_75 : decode cX10_days 75 = .ok (.getfield 25, 3) := by decide +kernel
theorem dX10_days_78 : decode cX10_days 78 = .ok (.iload 6, 2) := by decide +kernel
theorem dX10_days_80 : decode cX10_days 80 = .ok (.iaload, 1) := by decide +kernel
theorem dX10_days_81 : decode cX10_days 81 = .ok (.aload_n 0, 1) := by decide +kernel
theorem dX10_days_82 : decode cX10_days 82 = .ok (.getfield 25, 3) := by decide +kernel
theorem dX10_days_85 : decode cX10_days 85 = .ok (.iload 6, 2) := by decide +kernel
theorem dX10_days_87 : decode cX10_days 87 = .ok (.iaload, 1) := by decide +kernel
theorem dX10_days_88 : decode cX10_days 88 = .ok (.iload 4, 2) := by decide +kernel
theorem dX10_days_90 : decode cX10_days 90 = .ok (.iadd, 1) := by decide +kernel
theorem dX10_days_91 : decode cX10_days 91 = .ok (.invokevirtual 164, 3) := by decide +kernel
theorem dX10_days_94 : decode cX10_days 94 = .ok (.iload_n 2, 1) := by decide +kernel
theorem dX10_days_95 : decode cX10_days 95 = .ok (.if_icmp .lt 7, 3) := by decide +kernel
theorem dX10_days_98 : decode cX10_days 98 = .ok (.iconst 1, 1) := by decide +kernel
theorem dX10_days_99 : decode cX10_days 99 = .ok (.goto 4, 3) := by decide +kernel
theorem dX10_days_102 : decode cX10_days 102 = .ok (.iconst 0, 1) := by decide +kernel
theorem dX10_days_103 : decode cX10_days 103 = .ok (.istore 5, 2) := by decide +kernel
theorem dX10_days_105 : decode cX10_days 105 = .ok (.iinc 6 1, 3) := by decide +kernel
theorem dX10_days_108 : decode cX10_days 108 = .ok (.goto (-48), 3) := by decide +kernel
theorem dX10_days_111 : decode cX10_days 111 = .ok (.goto (-62), 3) := by decide +kernel
theorem dX10_days_114 : decode cX10_days 114 = .ok (.iload_n 3, 1) := by decide +kernel
theorem dX10_days_115 : decode cX10_days 115 = .ok (.ifCond .ne 6, 3) := by decide +kernel
theorem dX10_days_118 : decode cX10_days 118 = .ok (.iload 4, 2) := by decide +kernel
theorem dX10_days_120 : decode cX10_days 120 = .ok (.ireturn, 1) := by decide +kernel
theorem dX10_days_121 : decode cX10_days 121 = .ok (.iconst 0, 1) := by decide +kernel
theorem dX10_days_122 : decode cX10_days 122 = .ok (.istore 6, 2) := by decide +kernel
theorem dX10_days_124 : decode cX10_days 124 = .ok (.iload 6, 2) := by decide +kernel
theorem dX10_days_126 : decode cX10_days 126 = .ok (.iload_n 1, 1) := by decide +kernel
theorem dX10_days_127 : decode cX10_days 127 = .ok (.if_icmp .gt 60, 3) := by decide +kernel
theorem dX10_days_130 : decode cX10_days 130 = .ok (.aload_n 0, 1) := by decide +kernel
theorem dX10_days_131 : decode cX10_days 131 = .ok (.getfield 25, 3) := by decide +kernel
theorem dX10_days_134 : decode cX10_days 134 = .ok (.iload 6, 2) := by decide +kernel
theorem dX10_days_136 : decode cX10_days 136 = .ok (.iaload, 1) := by decide +kernel
theorem dX10_days_137 : decode cX10_days 137 = .ok (.iload 4, 2) := by decide +kernel
theorem dX10_days_139 : decode cX10_days 139 = .ok (.isub, 1) := by decide +kernel
theorem dX10_days_140 : decode cX10_days 140 = .ok (.istore 7, 2) := by decide +kernel
theorem dX10_days_142 : decode cX10_days 142 = .ok (.iload 7, 2) := by decide +kernel
theorem dX10_days_144 : decode cX10_days 144 = .ok (.aload_n 0, 1) := by decide +kernel
theorem dX10_days_145 : decode cX10_days 145 = .ok (.getfield 25, 3) := by decide +kernel
theorem dX10_days_148 : decode cX10_days 148 = .ok (.iload 6, 2) := by decide +kernel
theorem dX10_days_150 : decode cX10_days 150 = .ok (.iaload, 1) := by decide +kernel
theorem dX10_days_151 : decode cX10_days 151 = .ok (.if_icmp .gt 30, 3) := by decide +kernel
theorem dX10_days_154 : decode cX10_days 154 = .ok (.aload_n 0, 1) := by decide +kernel
theorem dX10_days_155 : decode cX10_days 155 = .ok (.iload 6, 2) := by decide +kernel
theorem dX10_days_157 : decode cX10_days 157 = .ok (.iload_n 1, 1) := by decide +kernel
theorem dX10_days_158 : decode cX10_days 158 = .ok (.iload 7, 2) := by decide +kernel
theorem dX10_days_160 : decode cX10_days 160 = .ok (.iload 7, 2) := by decide +kernel
theorem dX10_days_162 : decode cX10_days 162 = .ok (.iload 4, 2) := by decide +kernel
theorem dX10_days_164 : decode cX10_days 164 = .ok (.iadd, 1) := by decide +kernel
theorem dX10_days_165 : decode cX10_days 165 = .ok (.invokevirtual 164, 3) := by decide +kernel
theorem dX10_days_168 : decode cX10_days 168 = .ok (.iload_n 2, 1) := by decide +kernel
theorem dX10_days_169 : decode cX10_days 169 = .ok (.if_icmp .lt 6, 3) := by decide +kernel
theorem dX10_days_172 : decode cX10_days 172 = .ok (.iload 6, 2) := by decide +kernel
theorem dX10_days_174 : decode cX10_days 174 = .ok (.ireturn, 1) := by decide +kernel
theorem dX10_days_175 : decode cX10_days 175 = .ok (.iinc 7 1, 3) := by decide +kernel
theorem dX10_days_178 : decode cX10_days 178 = .ok (.goto (-36), 3) := by decide +kernel
theorem dX10_days_181 : decode cX10_days 181 = .ok (.iinc 6 1, 3) := by decide +kernel
theorem dX10_days_184 : decode cX10_days 184 = .ok (.goto (-60), 3) := by decide +kernel
theorem dX10_days_187 : decode cX10_days 187 = .ok (.bipush (-6), 2) := by decide +kernel
theorem dX10_days_189 : decode cX10_days 189 = .ok (.ireturn, 1) := by decide +kernel
theorem dX10_seen_0 : decode cX10_seen 0 = .ok (.iload_n 1, 1) := by decide +kernel
theorem dX10_seen_1 : decode cX10_seen 1 = .ok (.iconst 0, 1) := by decide +kernel
theorem dX10_seen_2 : decode cX10_seen 2 = .ok (.bipush 60, 2) := by decide +kernel
theorem dX10_seen_4 : decode cX10_seen 4 = .ok (.invokestatic 57, 3) := by decide +kernel
theorem dX10_seen_7 : decode cX10_seen 7 = .ok (.ifCond .eq 14, 3) := by decide +kernel
theorem dX10_seen_10 : decode cX10_seen 10 = .ok (.iload_n 2, 1) := by decide +kernel
theorem dX10_seen_11 : decode cX10_seen 11 = .ok (.iconst 1, 1) := by decide +kernel
theorem dX10_seen_12 : decode cX10_seen 12 = .ok (.sipush 200, 3) := by decide +kernel
theorem dX10_seen_15 : decode cX10_seen 15 = .ok (.invokestatic 57, 3) := by decide +kernel
theorem dX10_seen_18 : decode cX10_seen 18 = .ok (.ifCond .ne 6, 3) := by decide +kernel
theorem dX10_seen_21 : decode cX10_seen 21 = .ok (.bipush (-2), 2) := by decide +kernel
theorem dX10_seen_23 : decode cX10_seen 23 = .ok (.ireturn, 1) := by decide +kernel
theorem dX10_seen_24 : decode cX10_seen 24 = .ok (.aload_n 0, 1) := by decide +kernel
theorem dX10_seen_25 : decode cX10_seen 25 = .ok (.getfield 167, 3) := by decide +kernel
theorem dX10_seen_28 : decode cX10_seen 28 = .ok (.bipush 8, 2) := by decide +kernel
theorem dX10_seen_30 : decode cX10_seen 30 = .ok (.if_icmp .ne 6, 3) := by decide +kernel
theorem dX10_seen_33 : decode cX10_seen 33 = .ok (.bipush (-4), 2) := by decide +kernel
theorem dX10_seen_35 : decode cX10_seen 35 = .ok (.ireturn, 1) := by decide +kernel
theorem dX10_seen_36 : decode cX10_seen 36 = .ok (.aload_n 0, 1) := by decide +kernel
theorem dX10_seen_37 : decode cX10_seen 37 = .ok (.getfield 19, 3) := by decide +kernel
theorem dX10_seen_40 : decode cX10_seen 40 = .ok (.iconst 2, 1) := by decide +kernel
theorem dX10_seen_41 : decode cX10_seen 41 = .ok (.aload_n 0, 1) := by decide +kernel
theorem dX10_seen_42 : decode cX10_seen 42 = .ok (.getfield 167, 3) := by decide +kernel
theorem dX10_seen_45 : decode cX10_seen 45 = .ok (.imul, 1) := by decide +kernel
theorem dX10_seen_46 : decode cX10_seen 46 = .ok (.iload_n 1, 1) := by decide +kernel
theorem dX10_seen_47 : decode cX10_seen 47 = .ok (.iastore, 1) := by decide +kernel
theorem dX10_seen_48 : decode cX10_seen 48 = .ok (.aload_n 0, 1) := by decide +kernel
theorem dX10_seen_49 : decode cX10_seen 49 = .ok (.getfield 19, 3) := by decide +kernel
theorem dX10_seen_52 : decode cX10_seen 52 = .ok (.iconst 2, 1) := by decide +kernel
theorem dX10_seen_53 : decode cX10_seen 53 = .ok (.aload_n 0, 1) := by decide +kernel
theorem dX10_seen_54 : decode cX10_seen 54 = .ok (.getfield 167, 3) := by decide +kernel
theorem dX10_seen_57 : decode cX10_seen 57 = .ok (.imul, 1) := by decide +kernel
theorem dX10_seen_58 : decode cX10_seen 58 = .ok (.iconst 1, 1) := by decide +kernel
theorem dX10_seen_59 : decode cX10_seen 59 = .ok (.iadd, 1) := by decide +kernel
theorem dX10_seen_60 : decode cX10_seen 60 = .ok (.iload_n 2, 1) := by decide +kernel
theorem dX10_seen_61 : decode cX10_seen 61 = .ok (.iastore, 1) := by decide +kernel
theorem dX10_seen_62 : decode cX10_seen 62 = .ok (.aload_n 0, 1) := by decide +kernel
theorem dX10_seen_63 : decode cX10_seen 63 = .ok (.dup, 1) := by decide +kernel
theorem dX10_seen_64 : decode cX10_seen 64 = .ok (.getfield 167, 3) := by decide +kernel
theorem dX10_seen_67 : decode cX10_seen 67 = .ok (.iconst 1, 1) := by decide +kernel
theorem dX10_seen_68 : decode cX10_seen 68 = .ok (.iadd, 1) := by decide +kernel
theorem dX10_seen_69 : decode cX10_seen 69 = .ok (.putfield 167, 3) := by decide +kernel
theorem dX10_seen_72 : decode cX10_seen 72 = .ok (.aload_n 0, 1) := by decide +kernel
theorem dX10_seen_73 : decode cX10_seen 73 = .ok (.getfield 167, 3) := by decide +kernel
theorem dX10_seen_76 : decode cX10_seen 76 = .ok (.ireturn, 1) := by decide +kernel
theorem dX10_forget_0 : decode cX10_forget 0 = .ok (.aload_n 0, 1) := by decide +kernel
theorem dX10_forget_1 : decode cX10_forget 1 = .ok (.getfield 167, 3) := by decide +kernel
theorem dX10_forget_4 : decode cX10_forget 4 = .ok (.istore_n 1, 1) := by decide +kernel
theorem dX10_forget_5 : decode cX10_forget 5 = .ok (.aload_n 0, 1) := by decide +kernel
theorem dX10_forget_6 : decode cX10_forget 6 = .ok (.iconst 0, 1) := by decide +kernel
theorem dX10_forget_7 : decode cX10_forget 7 = .ok (.putfield 167, 3) := by decide +kernel
theorem dX10_forget_10 : decode cX10_forget 10 = .ok (.iload_n 1, 1) := by decide +kernel
theorem dX10_forget_11 : decode cX10_forget 11 = .ok (.ireturn, 1) := by decide +kernel
theorem dX10_byLaw_0 : decode cX10_byLaw 0 = .ok (.iload_n 0, 1) := by decide +kernel
theorem dX10_byLaw_1 : decode cX10_byLaw 1 = .ok (.bipush 100, 2) := by decide +kernel
theorem dX10_byLaw_3 : decode cX10_byLaw 3 = .ok (.idiv, 1) := by decide +kernel
theorem dX10_byLaw_4 : decode cX10_byLaw 4 = .ok (.iload_n 0, 1) := by decide +kernel
theorem dX10_byLaw_5 : decode cX10_byLaw 5 = .ok (.bipush 100, 2) := by decide +kernel
theorem dX10_byLaw_7 : decode cX10_byLaw 7 = .ok (.irem, 1) := by decide +kernel
theorem dX10_byLaw_8 : decode cX10_byLaw 8 = .ok (.bipush 9, 2) := by decide +kernel
theorem dX10_byLaw_10 : decode cX10_byLaw 10 = .ok (.isub, 1) := by decide +kernel
theorem dX10_byLaw_11 : decode cX10_byLaw 11 = .ok (.iload_n 1, 1) := by decide +kernel
theorem dX10_byLaw_12 : decode cX10_byLaw 12 = .ok (.imul, 1) := by decide +kernel
theorem dX10_byLaw_13 : decode cX10_byLaw 13 = .ok (.iadd, 1) := by decide +kernel
theorem dX10_byLaw_14 : decode cX10_byLaw 14 = .ok (.invokestatic 97, 3) := by decide +kernel
theorem dX10_byLaw_17 : decode cX10_byLaw 17 = .ok (.ireturn, 1) := by decide +kernel
theorem dX10_isLaw_0 : decode cX10_isLaw 0 = .ok (.iload_n 1, 1) := by decide +kernel
theorem dX10_isLaw_1 : decode cX10_isLaw 1 = .ok (.bipush 100, 2) := by decide +kernel
theorem dX10_isLaw_3 : decode cX10_isLaw 3 = .ok (.idiv, 1) := by decide +kernel
theorem dX10_isLaw_4 : decode cX10_isLaw 4 = .ok (.iconst 1, 1) := by decide +kernel
theorem dX10_isLaw_5 : decode cX10_isLaw 5 = .ok (.sipush 200, 3) := by decide +kernel
theorem dX10_isLaw_8 : decode cX10_isLaw 8 = .ok (.invokestatic 57, 3) := by decide +kernel
theorem dX10_isLaw_11 : decode cX10_isLaw 11 = .ok (.ifCond .eq 16, 3) := by decide +kernel
theorem dX10_isLaw_14 : decode cX10_isLaw 14 = .ok (.iload_n 1, 1) := by decide +kernel
theorem dX10_isLaw_15 : decode cX10_isLaw 15 = .ok (.bipush 100, 2) := by decide +kernel
theorem dX10_isLaw_17 : decode cX10_isLaw 17 = .ok (.irem, 1) := by decide +kernel
theorem dX10_isLaw_18 : decode cX10_isLaw 18 = .ok (.bipush 19, 2) := by decide +kernel
theorem dX10_isLaw_20 : decode cX10_isLaw 20 = .ok (.if_icmp .ge 7, 3) := by decide +kernel
theorem dX10_isLaw_23 : decode cX10_isLaw 23 = .ok (.iconst 1, 1) := by decide +kernel
theorem dX10_isLaw_24 : decode cX10_isLaw 24 = .ok (.goto 4, 3) := by decide +kernel
theorem dX10_isLaw_27 : decode cX10_isLaw 27 = .ok (.iconst 0, 1) := by decide +kernel
theorem dX10_isLaw_28 : decode cX10_isLaw 28 = .ok (.istore_n 2, 1) := by decide +kernel
theorem dX10_isLaw_29 : decode cX10_isLaw 29 = .ok (.iconst 0, 1) := by decide +kernel
theorem dX10_isLaw_30 : decode cX10_isLaw 30 = .ok (.istore_n 3, 1) := by decide +kernel
theorem dX10_isLaw_31 : decode cX10_isLaw 31 = .ok (.iload_n 3, 1) := by decide +kernel
theorem dX10_isLaw_32 : decode cX10_isLaw 32 = .ok (.aload_n 0, 1) := by decide +kernel
theorem dX10_isLaw_33 : decode cX10_isLaw 33 = .ok (.getfield 167, 3) := by decide +kernel
theorem dX10_isLaw_36 : decode cX10_isLaw 36 = .ok (.if_icmp .ge 44, 3) := by decide +kernel
theorem dX10_isLaw_39 : decode cX10_isLaw 39 = .ok (.iload_n 2, 1) := by decide +kernel
theorem dX10_isLaw_40 : decode cX10_isLaw 40 = .ok (.ifCond .eq 40, 3) := by decide +kernel
theorem dX10_isLaw_43 : decode cX10_isLaw 43 = .ok (.iload_n 1, 1) := by decide +kernel
theorem dX10_isLaw_44 : decode cX10_isLaw 44 = .ok (.aload_n 0, 1) := by decide +kernel
theorem dX10_isLaw_45 : decode cX10_isLaw 45 = .ok (.getfield 19, 3) := by decide +kernel
theorem dX10_isLaw_48 : decode cX10_isLaw 48 = .ok (.iconst 2, 1) := by decide +kernel
theorem dX10_isLaw_49 : decode cX10_isLaw 49 = .ok (.iload_n 3, 1) := by decide +kernel
theorem dX10_isLaw_50 : decode cX10_isLaw 50 = .ok (.imul, 1) := by decide +kernel
theorem dX10_isLaw_51 : decode cX10_isLaw 51 = .ok (.iaload, 1) := by decide +kernel
theorem dX10_isLaw_52 : decode cX10_isLaw 52 = .ok (.invokestatic 170, 3) := by decide +kernel
theorem dX10_isLaw_55 : decode cX10_isLaw 55 = .ok (.aload_n 0, 1) := by decide +kernel
theorem dX10_isLaw_56 : decode cX10_isLaw 56 = .ok (.getfield 19, 3) := by decide +kernel
theorem dX10_isLaw_59 : decode cX10_isLaw 59 = .ok (.iconst 2, 1) := by decide +kernel
theorem dX10_isLaw_60 : decode cX10_isLaw 60 = .ok (.iload_n 3, 1) := by decide +kernel
theorem dX10_isLaw_61 : decode cX10_isLaw 61 = .ok (.imul, 1) := by decide +kernel
theorem dX10_isLaw_62 : decode cX10_isLaw 62 = .ok (.iconst 1, 1) := by decide +kernel
theorem dX10_isLaw_63 : decode cX10_isLaw 63 = .ok (.iadd, 1) := by decide +kernel
theorem dX10_isLaw_64 : decode cX10_isLaw 64 = .ok (.iaload, 1) := by decide +kernel
theorem dX10_isLaw_65 : decode cX10_isLaw 65 = .ok (.if_icmp .ne 7, 3) := by decide +kernel
theorem dX10_isLaw_68 : decode cX10_isLaw 68 = .ok (.iconst 1, 1) := by decide +kernel
theorem dX10_isLaw_69 : decode cX10_isLaw 69 = .ok (.goto 4, 3) := by decide +kernel
theorem dX10_isLaw_72 : decode cX10_isLaw 72 = .ok (.iconst 0, 1) := by decide +kernel
theorem dX10_isLaw_73 : decode cX10_isLaw 73 = .ok (.istore_n 2, 1) := by decide +kernel
theorem dX10_isLaw_74 : decode cX10_isLaw 74 = .ok (.iinc 3 1, 3) := by decide +kernel
theorem dX10_isLaw_77 : decode cX10_isLaw 77 = .ok (.goto (-46), 3) := by decide +kernel
theorem dX10_isLaw_80 : decode cX10_isLaw 80 = .ok (.iload_n 2, 1) := by decide +kernel
theorem dX10_isLaw_81 : decode cX10_isLaw 81 = .ok (.ireturn, 1) := by decide +kernel
theorem dX10_fits_0 : decode cX10_fits 0 = .ok (.iconst 0, 1) := by decide +kernel
theorem dX10_fits_1 : decode cX10_fits 1 = .ok (.istore_n 2, 1) := by decide +kernel
theorem dX10_fits_2 : decode cX10_fits 2 = .ok (.bipush 100, 2) := by decide +kernel
theorem dX10_fits_4 : decode cX10_fits 4 = .ok (.istore_n 3, 1) := by decide +kernel
theorem dX10_fits_5 : decode cX10_fits 5 = .ok (.iload_n 3, 1) := by decide +kernel
theorem dX10_fits_6 : decode cX10_fits 6 = .ok (.sipush 20100, 3) := by decide +kernel
theorem dX10_fits_9 : decode cX10_fits 9 = .ok (.if_icmp .ge 27, 3) := by decide +kernel
theorem dX10_fits_12 : decode cX10_fits 12 = .ok (.aload_n 0, 1) := by decide +kernel
theorem dX10_fits_13 : decode cX10_fits 13 = .ok (.iload_n 3, 1) := by decide +kernel
theorem dX10_fits_14 : decode cX10_fits 14 = .ok (.invokevirtual 173, 3) := by decide +kernel
theorem dX10_fits_17 : decode cX10_fits 17 = .ok (.ifCond .eq 13, 3) := by decide +kernel
theorem dX10_fits_20 : decode cX10_fits 20 = .ok (.iload_n 2, 1) := by decide +kernel
theorem dX10_fits_21 : decode cX10_fits 21 = .ok (.iload_n 1, 1) := by decide +kernel
theorem dX10_fits_22 : decode cX10_fits 22 = .ok (.if_icmp .ne 5, 3) := by decide +kernel
theorem dX10_fits_25 : decode cX10_fits 25 = .ok (.iload_n 3, 1) := by decide +kernel
theorem dX10_fits_26 : decode cX10_fits 26 = .ok (.ireturn, 1) := by decide +kernel
theorem dX10_fits_27 : decode cX10_fits 27 = .ok (.iinc 2 1, 3) := by decide +kernel
theorem dX10_fits_30 : decode cX10_fits 30 = .ok (.iinc 3 1, 3) := by decide +kernel
theorem dX10_fits_33 : decode cX10_fits 33 = .ok (.goto (-28), 3) := by decide +kernel
theorem dX10_fits_36 : decode cX10_fits 36 = .ok (.iload_n 1, 1) := by decide +kernel
theorem dX10_fits_37 : decode cX10_fits 37 = .ok (.iconst (-1), 1) := by decide +kernel
theorem dX10_fits_38 : decode cX10_fits 38 = .ok (.if_icmp .ne 7, 3) := by decide +kernel
theorem dX10_fits_41 : decode cX10_fits 41 = .ok (.iload_n 2, 1) := by decide +kernel
theorem dX10_fits_42 : decode cX10_fits 42 = .ok (.goto 5, 3) := by decide +kernel
theorem dX10_fits_45 : decode cX10_fits 45 = .ok (.bipush (-6), 2) := by decide +kernel
theorem dX10_fits_47 : decode cX10_fits 47 = .ok (.ireturn, 1) := by decide +kernel
theorem dX10_ask_0 : decode cX10_ask 0 = .ok (.iload_n 1, 1) := by decide +kernel
theorem dX10_ask_1 : decode cX10_ask 1 = .ok (.iconst 0, 1) := by decide +kernel
theorem dX10_ask_2 : decode cX10_ask 2 = .ok (.iconst 1, 1) := by decide +kernel
theorem dX10_ask_3 : decode cX10_ask 3 = .ok (.invokestatic 57, 3) := by decide +kernel
theorem dX10_ask_6 : decode cX10_ask 6 = .ok (.ifCond .ne 6, 3) := by decide +kernel
theorem dX10_ask_9 : decode cX10_ask 9 = .ok (.bipush (-2), 2) := by decide +kernel
theorem dX10_ask_11 : decode cX10_ask 11 = .ok (.ireturn, 1) := by decide +kernel
theorem dX10_ask_12 : decode cX10_ask 12 = .ok (.iconst 0, 1) := by decide +kernel
theorem dX10_ask_13 : decode cX10_ask 13 = .ok (.istore_n 2, 1) := by decide +kernel
theorem dX10_ask_14 : decode cX10_ask 14 = .ok (.bipush 100, 2) := by decide +kernel
theorem dX10_ask_16 : decode cX10_ask 16 = .ok (.istore_n 3, 1) := by decide +kernel
theorem dX10_ask_17 : decode cX10_ask 17 = .ok (.iload_n 3, 1) := by decide +kernel
theorem dX10_ask_18 : decode cX10_ask 18 = .ok (.sipush 20100, 3) := by decide +kernel
theorem dX10_ask_21 : decode cX10_ask 21 = .ok (.if_icmp .ge 27, 3) := by decide +kernel
theorem dX10_ask_24 : decode cX10_ask 24 = .ok (.aload_n 0, 1) := by decide +kernel
theorem dX10_ask_25 : decode cX10_ask 25 = .ok (.iload_n 3, 1) := by decide +kernel
theorem dX10_ask_26 : decode cX10_ask 26 = .ok (.invokevirtual 173, 3) := by decide +kernel
theorem dX10_ask_29 : decode cX10_ask 29 = .ok (.ifCond .eq 13, 3) := by decide +kernel
theorem dX10_ask_32 : decode cX10_ask 32 = .ok (.aload_n 0, 1) := by decide +kernel
theorem dX10_ask_33 : decode cX10_ask 33 = .ok (.getfield 28, 3) := by decide +kernel
theorem dX10_ask_36 : decode cX10_ask 36 = .ok (.iload_n 2, 1) := by decide +kernel
theorem dX10_ask_37 : decode cX10_ask 37 = .ok (.iload_n 3, 1) := by decide +kernel
theorem dX10_ask_38 : decode cX10_ask 38 = .ok (.iastore, 1) := by decide +kernel
theorem dX10_ask_39 : decode cX10_ask 39 = .ok (.iinc 2 1, 3) := by decide +kernel
theorem dX10_ask_42 : decode cX10_ask 42 = .ok (.iinc 3 1, 3) := by decide +kernel
theorem dX10_ask_45 : decode cX10_ask 45 = .ok (.goto (-28), 3) := by decide +kernel
theorem dX10_ask_48 : decode cX10_ask 48 = .ok (.bipush (-6), 2) := by decide +kernel
theorem dX10_ask_50 : decode cX10_ask 50 = .ok (.istore_n 3, 1) := by decide +kernel
theorem dX10_ask_51 : decode cX10_ask 51 = .ok (.ldc 163, 2) := by decide +kernel
theorem dX10_ask_53 : decode cX10_ask 53 = .ok (.istore 4, 2) := by decide +kernel
theorem dX10_ask_55 : decode cX10_ask 55 = .ok (.iconst 0, 1) := by decide +kernel
theorem dX10_ask_56 : decode cX10_ask 56 = .ok (.istore 5, 2) := by decide +kernel
theorem dX10_ask_58 : decode cX10_ask 58 = .ok (.iload 5, 2) := by decide +kernel
theorem dX10_ask_60 : decode cX10_ask 60 = .ok (.bipush 61, 2) := by decide +kernel
theorem dX10_ask_62 : decode cX10_ask 62 = .ok (.if_icmp .ge 137, 3) := by decide +kernel
theorem dX10_ask_65 : decode cX10_ask 65 = .ok (.iload_n 2, 1) := by decide +kernel
theorem dX10_ask_66 : decode cX10_ask 66 = .ok (.ifCond .le 133, 3) := by decide +kernel
theorem dX10_ask_69 : decode cX10_ask 69 = .ok (.iconst 0, 1) := by decide +kernel
theorem dX10_ask_70 : decode cX10_ask 70 = .ok (.istore 6, 2) := by decide +kernel
theorem dX10_ask_72 : decode cX10_ask 72 = .ok (.iconst 0, 1) := by decide +kernel
theorem dX10_ask_73 : decode cX10_ask 73 = .ok (.istore 7, 2) := by decide +kernel
theorem dX10_ask_75 : decode cX10_ask 75 = .ok (.iload 7, 2) := by decide +kernel
theorem dX10_ask_77 : decode cX10_ask 77 = .ok (.sipush 201, 3) := by decide +kernel
theorem dX10_ask_80 : decode cX10_ask 80 = .ok (.if_icmp .ge 17, 3) := by decide +kernel
theorem dX10_ask_83 : decode cX10_ask 83 = .ok (.aload_n 0, 1) := by decide +kernel
theorem dX10_ask_84 : decode cX10_ask 84 = .ok (.getfield 31, 3) := by decide +kernel
theorem dX10_ask_87 : decode cX10_ask 87 = .ok (.iload 7, 2) := by decide +kernel
theorem dX10_ask_89 : decode cX10_ask 89 = .ok (.iconst 0, 1) := by decide +kernel
theorem dX10_ask_90 : decode cX10_ask 90 = .ok (.iastore, 1) := by decide +kernel
theorem dX10_ask_91 : decode cX10_ask 91 = .ok (.iinc 7 1, 3) := by decide +kernel
theorem dX10_ask_94 : decode cX10_ask 94 = .ok (.goto (-19), 3) := by decide +kernel
theorem dX10_ask_97 : decode cX10_ask 97 = .ok (.iconst 0, 1) := by decide +kernel
theorem dX10_ask_98 : decode cX10_ask 98 = .ok (.istore 7, 2) := by decide +kernel
theorem dX10_ask_100 : decode cX10_ask 100 = .ok (.iload 7, 2) := by decide +kernel
theorem dX10_ask_102 : decode cX10_ask 102 = .ok (.iload_n 2, 1) := by decide +kernel
theorem dX10_ask_103 : decode cX10_ask 103 = .ok (.if_icmp .ge 60, 3) := by decide +kernel
theorem dX10_ask_106 : decode cX10_ask 106 = .ok (.aload_n 0, 1) := by decide +kernel
theorem dX10_ask_107 : decode cX10_ask 107 = .ok (.getfield 28, 3) := by decide +kernel
theorem dX10_ask_110 : decode cX10_ask 110 = .ok (.iload 7, 2) := by decide +kernel
theorem dX10_ask_112 : decode cX10_ask 112 = .ok (.iaload, 1) := by decide +kernel
theorem dX10_ask_113 : decode cX10_ask 113 = .ok (.iload 5, 2) := by decide +kernel
theorem dX10_ask_115 : decode cX10_ask 115 = .ok (.invokestatic 170, 3) := by decide +kernel
theorem dX10_ask_118 : decode cX10_ask 118 = .ok (.istore 8, 2) := by decide +kernel
theorem dX10_ask_120 : decode cX10_ask 120 = .ok (.aload_n 0, 1) := by decide +kernel
theorem dX10_ask_121 : decode cX10_ask 121 = .ok (.getfield 31, 3) := by decide +kernel
theorem dX10_ask_124 : decode cX10_ask 124 = .ok (.iload 8, 2) := by decide +kernel
theorem dX10_ask_126 : decode cX10_ask 126 = .ok (.dup2, 1) := by decide +kernel
theorem dX10_ask_127 : decode cX10_ask 127 = .ok (.iaload, 1) := by decide +kernel
theorem dX10_ask_128 : decode cX10_ask 128 = .ok (.iconst 1, 1) := by decide +kernel
theorem dX10_ask_129 : decode cX10_ask 129 = .ok (.iadd, 1) := by decide +kernel
theorem dX10_ask_130 : decode cX10_ask 130 = .ok (.iastore, 1) := by decide +kernel
theorem dX10_ask_131 : decode cX10_ask 131 = .ok (.aload_n 0, 1) := by decide +kernel
theorem dX10_ask_132 : decode cX10_ask 132 = .ok (.getfield 31, 3) := by decide +kernel
theorem dX10_ask_135 : decode cX10_ask 135 = .ok (.iload 8, 2) := by decide +kernel
theorem dX10_ask_137 : decode cX10_ask 137 = .ok (.iaload, 1) := by decide +kernel
theorem dX10_ask_138 : decode cX10_ask 138 = .ok (.iload 6, 2) := by decide +kernel
theorem dX10_ask_140 : decode cX10_ask 140 = .ok (.if_icmp .le 13, 3) := by decide +kernel
theorem dX10_ask_143 : decode cX10_ask 143 = .ok (.aload_n 0, 1) := by decide +kernel
theorem dX10_ask_144 : decode cX10_ask 144 = .ok (.getfield 31, 3) := by decide +kernel
theorem dX10_ask_147 : decode cX10_ask 147 = .ok (.iload 8, 2) := by decide +kernel
theorem dX10_ask_149 : decode cX10_ask 149 = .ok (.iaload, 1) := by decide +kernel
theorem dX10_ask_150 : decode cX10_ask 150 = .ok (.goto 5, 3) := by decide +kernel
theorem dX10_ask_153 : decode cX10_ask 153 = .ok (.iload 6, 2) := by decide +kernel
theorem dX10_ask_155 : decode cX10_ask 155 = .ok (.istore 6, 2) := by decide +kernel
theorem dX10_ask_157 : decode cX10_ask 157 = .ok (.iinc 7 1, 3) := by decide +kernel
theorem dX10_ask_160 : decode cX10_ask 160 = .ok (.goto (-60), 3) := by decide +kernel
theorem dX10_ask_163 : decode cX10_ask 163 = .ok (.iload 6, 2) := by decide +kernel
theorem dX10_ask_165 : decode cX10_ask 165 = .ok (.iload 4, 2) := by decide +kernel
theorem dX10_ask_167 : decode cX10_ask 167 = .ok (.if_icmp .ge 8, 3) := by decide +kernel
theorem dX10_ask_170 : decode cX10_ask 170 = .ok (.iload 5, 2) := by decide +kernel
theorem dX10_ask_172 : decode cX10_ask 172 = .ok (.goto 4, 3) := by decide +kernel
theorem dX10_ask_175 : decode cX10_ask 175 = .ok (.iload_n 3, 1) := by decide +kernel
theorem dX10_ask_176 : decode cX10_ask 176 = .ok (.istore_n 3, 1) := by decide +kernel
theorem dX10_ask_177 : decode cX10_ask 177 = .ok (.iload 6, 2) := by decide +kernel
theorem dX10_ask_179 : decode cX10_ask 179 = .ok (.iload 4, 2) := by decide +kernel
theorem dX10_ask_181 : decode cX10_ask 181 = .ok (.if_icmp .ge 8, 3) := by decide +kernel
theorem dX10_ask_184 : decode cX10_ask 184 = .ok (.iload 6, 2) := by decide +kernel
theorem dX10_ask_186 : decode cX10_ask 186 = .ok (.goto 5, 3) := by decide +kernel
theorem dX10_ask_189 : decode cX10_ask 189 = .ok (.iload 4, 2) := by decide +kernel
theorem dX10_ask_191 : decode cX10_ask 191 = .ok (.istore 4, 2) := by decide +kernel
theorem dX10_ask_193 : decode cX10_ask 193 = .ok (.iinc 5 1, 3) := by decide +kernel
theorem dX10_ask_196 : decode cX10_ask 196 = .ok (.goto (-138), 3) := by decide +kernel
theorem dX10_ask_199 : decode cX10_ask 199 = .ok (.iload_n 3, 1) := by decide +kernel
theorem dX10_ask_200 : decode cX10_ask 200 = .ok (.ifCond .lt 7, 3) := by decide +kernel
theorem dX10_ask_203 : decode cX10_ask 203 = .ok (.iload_n 1, 1) := by decide +kernel
theorem dX10_ask_204 : decode cX10_ask 204 = .ok (.ifCond .ne 7, 3) := by decide +kernel
theorem dX10_ask_207 : decode cX10_ask 207 = .ok (.iload_n 3, 1) := by decide +kernel
theorem dX10_ask_208 : decode cX10_ask 208 = .ok (.goto 5, 3) := by decide +kernel
theorem dX10_ask_211 : decode cX10_ask 211 = .ok (.iload 4, 2) := by decide +kernel
theorem dX10_ask_213 : decode cX10_ask 213 = .ok (.ireturn, 1) := by decide +kernel
theorem dX10_layRing_0 : decode cX10_layRing 0 = .ok (.aload_n 0, 1) := by decide +kernel
theorem dX10_layRing_1 : decode cX10_layRing 1 = .ok (.invokevirtual 122, 3) := by decide +kernel
theorem dX10_layRing_4 : decode cX10_layRing 4 = .ok (.iconst 0, 1) := by decide +kernel
theorem dX10_layRing_5 : decode cX10_layRing 5 = .ok (.istore_n 1, 1) := by decide +kernel
theorem dX10_layRing_6 : decode cX10_layRing 6 = .ok (.iload_n 1, 1) := by decide +kernel
theorem dX10_layRing_7 : decode cX10_layRing 7 = .ok (.bipush 6, 2) := by decide +kernel
theorem dX10_layRing_9 : decode cX10_layRing 9 = .ok (.if_icmp .ge 20, 3) := by decide +kernel
theorem dX10_layRing_12 : decode cX10_layRing 12 = .ok (.aload_n 0, 1) := by decide +kernel
theorem dX10_layRing_13 : decode cX10_layRing 13 = .ok (.getfield 34, 3) := by decide +kernel
theorem dX10_layRing_16 : decode cX10_layRing 16 = .ok (.iload_n 1, 1) := by decide +kernel
theorem dX10_layRing_17 : decode cX10_layRing 17 = .ok (.aload_n 0, 1) := by decide +kernel
theorem dX10_layRing_18 : decode cX10_layRing 18 = .ok (.iload_n 1, 1) := by decide +kernel
theorem dX10_layRing_19 : decode cX10_layRing 19 = .ok (.invokevirtual 90, 3) := by decide +kernel
theorem dX10_layRing_22 : decode cX10_layRing 22 = .ok (.iastore, 1) := by decide +kernel
theorem dX10_layRing_23 : decode cX10_layRing 23 = .ok (.iinc 1 1, 3) := by decide +kernel
theorem dX10_layRing_26 : decode cX10_layRing 26 = .ok (.goto (-20), 3) := by decide +kernel
theorem dX10_layRing_29 : decode cX10_layRing 29 = .ok (.return_, 1) := by decide +kernel
theorem dX10_takeMeans_0 : decode cX10_takeMeans 0 = .ok (.iconst 0, 1) := by decide +kernel
theorem dX10_takeMeans_1 : decode cX10_takeMeans 1 = .ok (.istore_n 1, 1) := by decide +kernel
theorem dX10_takeMeans_2 : decode cX10_takeMeans 2 = .ok (.iconst 0, 1) := by decide +kernel
theorem dX10_takeMeans_3 : decode cX10_takeMeans 3 = .ok (.istore_n 2, 1) := by decide +kernel
theorem dX10_takeMeans_4 : decode cX10_takeMeans 4 = .ok (.iload_n 2, 1) := by decide +kernel
theorem dX10_takeMeans_5 : decode cX10_takeMeans 5 = .ok (.bipush 6, 2) := by decide +kernel
theorem dX10_takeMeans_7 : decode cX10_takeMeans 7 = .ok (.if_icmp .ge 72, 3) := by decide +kernel
theorem dX10_takeMeans_10 : decode cX10_takeMeans 10 = .ok (.aload_n 0, 1) := by decide +kernel
theorem dX10_takeMeans_11 : decode cX10_takeMeans 11 = .ok (.getfield 37, 3) := by decide +kernel
theorem dX10_takeMeans_14 : decode cX10_takeMeans 14 = .ok (.iload_n 2, 1) := by decide +kernel
theorem dX10_takeMeans_15 : decode cX10_takeMeans 15 = .ok (.aload_n 0, 1) := by decide +kernel
theorem dX10_takeMeans_16 : decode cX10_takeMeans 16 = .ok (.getfield 34, 3) := by decide +kernel
theorem dX10_takeMeans_19 : decode cX10_takeMeans 19 = .ok (.iload_n 2, 1) := by decide +kernel
theorem dX10_takeMeans_20 : decode cX10_takeMeans 20 = .ok (.iconst 5, 1) := by decide +kernel
theorem dX10_takeMeans_21 : decode cX10_takeMeans 21 = .ok (.iadd, 1) := by decide +kernel
theorem dX10_takeMeans_22 : decode cX10_takeMeans 22 = .ok (.bipush 6, 2) := by decide +kernel
theorem dX10_takeMeans_24 : decode cX10_takeMeans 24 = .ok (.irem, 1) := by decide +kernel
theorem dX10_takeMeans_25 : decode cX10_takeMeans 25 = .ok (.iaload, 1) := by decide +kernel
theorem dX10_takeMeans_26 : decode cX10_takeMeans 26 = .ok (.aload_n 0, 1) := by decide +kernel
theorem dX10_takeMeans_27 : decode cX10_takeMeans 27 = .ok (.getfield 34, 3) := by decide +kernel
theorem dX10_takeMeans_30 : decode cX10_takeMeans 30 = .ok (.iload_n 2, 1) := by decide +kernel
theorem dX10_takeMeans_31 : decode cX10_takeMeans 31 = .ok (.iaload, 1) := by decide +kernel
theorem dX10_takeMeans_32 : decode cX10_takeMeans 32 = .ok (.iadd, 1) := by decide +kernel
theorem dX10_takeMeans_33 : decode cX10_takeMeans 33 = .ok (.aload_n 0, 1) := by decide +kernel
theorem dX10_takeMeans_34 : decode cX10_takeMeans 34 = .ok (.getfield 34, 3) := by decide +kernel
theorem dX10_takeMeans_37 : decode cX10_takeMeans 37 = .ok (.iload_n 2, 1) := by decide +kernel
theorem dX10_takeMeans_38 : decode cX10_takeMeans 38 = .ok (.iconst 1, 1) := by decide +kernel
theorem dX10_takeMeans_39 : decode cX10_takeMeans 39 = .ok (.iadd, 1) := by decide +kernel
theorem dX10_takeMeans_40 : decode cX10_takeMeans 40 = .ok (.bipush 6, 2) := by decide +kernel
theorem dX10_takeMeans_42 : decode cX10_takeMeans 42 = .ok (.irem, 1) := by decide +kernel
theorem dX10_takeMeans_43 : decode cX10_takeMeans 43 = .ok (.iaload, 1) := by decide +kernel
theorem dX10_takeMeans_44 : decode cX10_takeMeans 44 = .ok (.iadd, 1) := by decide +kernel
theorem dX10_takeMeans_45 : decode cX10_takeMeans 45 = .ok (.iconst 3, 1) := by decide +kernel
theorem dX10_takeMeans_46 : decode cX10_takeMeans 46 = .ok (.idiv, 1) := by decide +kernel
theorem dX10_takeMeans_47 : decode cX10_takeMeans 47 = .ok (.iastore, 1) := by decide +kernel
theorem dX10_takeMeans_48 : decode cX10_takeMeans 48 = .ok (.iload_n 1, 1) := by decide +kernel
theorem dX10_takeMeans_49 : decode cX10_takeMeans 49 = .ok (.ifCond .ne 18, 3) := by decide +kernel
theorem dX10_takeMeans_52 : decode cX10_takeMeans 52 = .ok (.aload_n 0, 1) := by decide +kernel
theorem dX10_takeMeans_53 : decode cX10_takeMeans 53 = .ok (.getfield 37, 3) := by decide +kernel
theorem dX10_takeMeans_56 : decode cX10_takeMeans 56 = .ok (.iload_n 2, 1) := by decide +kernel
theorem dX10_takeMeans_57 : decode cX10_takeMeans 57 = .ok (.iaload, 1) := by decide +kernel
theorem dX10_takeMeans_58 : decode cX10_takeMeans 58 = .ok (.aload_n 0, 1) := by decide +kernel
theorem dX10_takeMeans_59 : decode cX10_takeMeans 59 = .ok (.getfield 34, 3) := by decide +kernel
theorem dX10_takeMeans_62 : decode cX10_takeMeans 62 = .ok (.iload_n 2, 1) := by decide +kernel
theorem dX10_takeMeans_63 : decode cX10_takeMeans 63 = .ok (.iaload, 1) := by decide +kernel
theorem dX10_takeMeans_64 : decode cX10_takeMeans 64 = .ok (.if_icmp .eq 7, 3) := by decide +kernel
theorem dX10_takeMeans_67 : decode cX10_takeMeans 67 = .ok (.iconst 1, 1) := by decide +kernel
theorem dX10_takeMeans_68 : decode cX10_takeMeans 68 = .ok (.goto 4, 3) := by decide +kernel
theorem dX10_takeMeans_71 : decode cX10_takeMeans 71 = .ok (.iconst 0, 1) := by decide +kernel
theorem dX10_takeMeans_72 : decode cX10_takeMeans 72 = .ok (.istore_n 1, 1) := by decide +kernel
theorem dX10_takeMeans_73 : decode cX10_takeMeans 73 = .ok (.iinc 2 1, 3) := by decide +kernel
theorem dX10_takeMeans_76 : decode cX10_takeMeans 76 = .ok (.goto (-72), 3) := by decide +kernel
theorem dX10_takeMeans_79 : decode cX10_takeMeans 79 = .ok (.iconst 0, 1) := by decide +kernel
theorem dX10_takeMeans_80 : decode cX10_takeMeans 80 = .ok (.istore_n 2, 1) := by decide +kernel
theorem dX10_takeMeans_81 : decode cX10_takeMeans 81 = .ok (.iload_n 2, 1) := by decide +kernel
theorem dX10_takeMeans_82 : decode cX10_takeMeans 82 = .ok (.bipush 6, 2) := by decide +kernel
theorem dX10_takeMeans_84 : decode cX10_takeMeans 84 = .ok (.if_icmp .ge 21, 3) := by decide +kernel
theorem dX10_takeMeans_87 : decode cX10_takeMeans 87 = .ok (.aload_n 0, 1) := by decide +kernel
theorem dX10_takeMeans_88 : decode cX10_takeMeans 88 = .ok (.getfield 34, 3) := by decide +kernel
theorem dX10_takeMeans_91 : decode cX10_takeMeans 91 = .ok (.iload_n 2, 1) := by decide +kernel
theorem dX10_takeMeans_92 : decode cX10_takeMeans 92 = .ok (.aload_n 0, 1) := by decide +kernel
theorem dX10_takeMeans_93 : decode cX10_takeMeans 93 = .ok (.getfield 37, 3) := by decide +kernel
theorem dX10_takeMeans_96 : decode cX10_takeMeans 96 = .ok (.iload_n 2, 1) := by decide +kernel
theorem dX10_takeMeans_97 : decode cX10_takeMeans 97 = .ok (.iaload, 1) := by decide +kernel
theorem dX10_takeMeans_98 : decode cX10_takeMeans 98 = .ok (.iastore, 1) := by decide +kernel
theorem dX10_takeMeans_99 : decode cX10_takeMeans 99 = .ok (.iinc 2 1, 3) := by decide +kernel
theorem dX10_takeMeans_102 : decode cX10_takeMeans 102 = .ok (.goto (-21), 3) := by decide +kernel
theorem dX10_takeMeans_105 : decode cX10_takeMeans 105 = .ok (.iload_n 1, 1) := by decide +kernel
theorem dX10_takeMeans_106 : decode cX10_takeMeans 106 = .ok (.ireturn, 1) := by decide +kernel
theorem dX10_settle_0 : decode cX10_settle 0 = .ok (.iload_n 1, 1) := by decide +kernel
theorem dX10_settle_1 : decode cX10_settle 1 = .ok (.invokestatic 61, 3) := by decide +kernel
theorem dX10_settle_4 : decode cX10_settle 4 = .ok (.ifCond .ne 5, 3) := by decide +kernel
theorem dX10_settle_7 : decode cX10_settle 7 = .ok (.iconst (-1), 1) := by decide +kernel
theorem dX10_settle_8 : decode cX10_settle 8 = .ok (.ireturn, 1) := by decide +kernel
theorem dX10_settle_9 : decode cX10_settle 9 = .ok (.iload_n 2, 1) := by decide +kernel
theorem dX10_settle_10 : decode cX10_settle 10 = .ok (.iconst 0, 1) := by decide +kernel
theorem dX10_settle_11 : decode cX10_settle 11 = .ok (.bipush 99, 2) := by decide +kernel
theorem dX10_settle_13 : decode cX10_settle 13 = .ok (.invokestatic 57, 3) := by decide +kernel
theorem dX10_settle_16 : decode cX10_settle 16 = .ok (.ifCond .ne 6, 3) := by decide +kernel
theorem dX10_settle_19 : decode cX10_settle 19 = .ok (.bipush (-2), 2) := by decide +kernel
theorem dX10_settle_21 : decode cX10_settle 21 = .ok (.ireturn, 1) := by decide +kernel
theorem dX10_settle_22 : decode cX10_settle 22 = .ok (.aload_n 0, 1) := by decide +kernel
theorem dX10_settle_23 : decode cX10_settle 23 = .ok (.invokevirtual 176, 3) := by decide +kernel
theorem dX10_settle_26 : decode cX10_settle 26 = .ok (.iconst 0, 1) := by decide +kernel
theorem dX10_settle_27 : decode cX10_settle 27 = .ok (.istore_n 3, 1) := by decide +kernel
theorem dX10_settle_28 : decode cX10_settle 28 = .ok (.iload_n 3, 1) := by decide +kernel
theorem dX10_settle_29 : decode cX10_settle 29 = .ok (.iload_n 2, 1) := by decide +kernel
theorem dX10_settle_30 : decode cX10_settle 30 = .ok (.if_icmp .ge 14, 3) := by decide +kernel
theorem dX10_settle_33 : decode cX10_settle 33 = .ok (.aload_n 0, 1) := by decide +kernel
theorem dX10_settle_34 : decode cX10_settle 34 = .ok (.invokevirtual 179, 3) := by decide +kernel
theorem dX10_settle_37 : decode cX10_settle 37 = .ok (.pop, 1) := by decide +kernel
theorem dX10_settle_38 : decode cX10_settle 38 = .ok (.iinc 3 1, 3) := by decide +kernel
theorem dX10_settle_41 : decode cX10_settle 41 = .ok (.goto (-13), 3) := by decide +kernel
theorem dX10_settle_44 : decode cX10_settle 44 = .ok (.aload_n 0, 1) := by decide +kernel
theorem dX10_settle_45 : decode cX10_settle 45 = .ok (.getfield 34, 3) := by decide +kernel
theorem dX10_settle_48 : decode cX10_settle 48 = .ok (.iload_n 1, 1) := by decide +kernel
theorem dX10_settle_49 : decode cX10_settle 49 = .ok (.iaload, 1) := by decide +kernel
theorem dX10_settle_50 : decode cX10_settle 50 = .ok (.ireturn, 1) := by decide +kernel
theorem dX10_settled_0 : decode cX10_settled 0 = .ok (.aload_n 0, 1) := by decide +kernel
theorem dX10_settled_1 : decode cX10_settled 1 = .ok (.invokevirtual 176, 3) := by decide +kernel
theorem dX10_settled_4 : decode cX10_settled 4 = .ok (.iconst 0, 1) := by decide +kernel
theorem dX10_settled_5 : decode cX10_settled 5 = .ok (.istore_n 1, 1) := by decide +kernel
theorem dX10_settled_6 : decode cX10_settled 6 = .ok (.aload_n 0, 1) := by decide +kernel
theorem dX10_settled_7 : decode cX10_settled 7 = .ok (.invokevirtual 179, 3) := by decide +kernel
theorem dX10_settled_10 : decode cX10_settled 10 = .ok (.ifCond .eq 9, 3) := by decide +kernel
theorem dX10_settled_13 : decode cX10_settled 13 = .ok (.iinc 1 1, 3) := by decide +kernel
theorem dX10_settled_16 : decode cX10_settled 16 = .ok (.goto (-10), 3) := by decide +kernel
theorem dX10_settled_19 : decode cX10_settled 19 = .ok (.iload_n 1, 1) := by decide +kernel
theorem dX10_settled_20 : decode cX10_settled 20 = .ok (.ireturn, 1) := by decide +kernel
theorem dX10_halves_0 : decode cX10_halves 0 = .ok (.iload_n 1, 1) := by decide +kernel
theorem dX10_halves_1 : decode cX10_halves 1 = .ok (.iconst 0, 1) := by decide +kernel
theorem dX10_halves_2 : decode cX10_halves 2 = .ok (.sipush 200, 3) := by decide +kernel
theorem dX10_halves_5 : decode cX10_halves 5 = .ok (.invokestatic 57, 3) := by decide +kernel
theorem dX10_halves_8 : decode cX10_halves 8 = .ok (.ifCond .eq 22, 3) := by decide +kernel
theorem dX10_halves_11 : decode cX10_halves 11 = .ok (.iload_n 2, 1) := by decide +kernel
theorem dX10_halves_12 : decode cX10_halves 12 = .ok (.iconst 1, 1) := by decide +kernel
theorem dX10_halves_13 : decode cX10_halves 13 = .ok (.bipush 9, 2) := by decide +kernel
theorem dX10_halves_15 : decode cX10_halves 15 = .ok (.invokestatic 57, 3) := by decide +kernel
theorem dX10_halves_18 : decode cX10_halves 18 = .ok (.ifCond .eq 12, 3) := by decide +kernel
theorem dX10_halves_21 : decode cX10_halves 21 = .ok (.iload_n 3, 1) := by decide +kernel
theorem dX10_halves_22 : decode cX10_halves 22 = .ok (.iconst 0, 1) := by decide +kernel
theorem dX10_halves_23 : decode cX10_halves 23 = .ok (.iconst 1, 1) := by decide +kernel
theorem dX10_halves_24 : decode cX10_halves 24 = .ok (.invokestatic 57, 3) := by decide +kernel
theorem dX10_halves_27 : decode cX10_halves 27 = .ok (.ifCond .ne 6, 3) := by decide +kernel
theorem dX10_halves_30 : decode cX10_halves 30 = .ok (.bipush (-2), 2) := by decide +kernel
theorem dX10_halves_32 : decode cX10_halves 32 = .ok (.ireturn, 1) := by decide +kernel
theorem dX10_halves_33 : decode cX10_halves 33 = .ok (.bipush (-6), 2) := by decide +kernel
theorem dX10_halves_35 : decode cX10_halves 35 = .ok (.istore 4, 2) := by decide +kernel
theorem dX10_halves_37 : decode cX10_halves 37 = .ok (.iconst 0, 1) := by decide +kernel
theorem dX10_halves_38 : decode cX10_halves 38 = .ok (.istore 5, 2) := by decide +kernel
theorem dX10_halves_40 : decode cX10_halves 40 = .ok (.iload 5, 2) := by decide +kernel
theorem dX10_halves_42 : decode cX10_halves 42 = .ok (.iload_n 1, 1) := by decide +kernel
theorem dX10_halves_43 : decode cX10_halves 43 = .ok (.if_icmp .gt 109, 3) := by decide +kernel
theorem dX10_halves_46 : decode cX10_halves 46 = .ok (.bipush (-6), 2) := by decide +kernel
theorem dX10_halves_48 : decode cX10_halves 48 = .ok (.istore 4, 2) := by decide +kernel
theorem dX10_halves_50 : decode cX10_halves 50 = .ok (.iload_n 2, 1) := by decide +kernel
theorem dX10_halves_51 : decode cX10_halves 51 = .ok (.istore 6, 2) := by decide +kernel
theorem dX10_halves_53 : decode cX10_halves 53 = .ok (.iload 6, 2) := by decide +kernel
theorem dX10_halves_55 : decode cX10_halves 55 = .ok (.ifCond .le 49, 3) := by decide +kernel
theorem dX10_halves_58 : decode cX10_halves 58 = .ok (.iload 6, 2) := by decide +kernel
theorem dX10_halves_60 : decode cX10_halves 60 = .ok (.iload 5, 2) := by decide +kernel
theorem dX10_halves_62 : decode cX10_halves 62 = .ok (.if_icmp .gt 32, 3) := by decide +kernel
theorem dX10_halves_65 : decode cX10_halves 65 = .ok (.aload_n 0, 1) := by decide +kernel
theorem dX10_halves_66 : decode cX10_halves 66 = .ok (.getfield 40, 3) := by decide +kernel
theorem dX10_halves_69 : decode cX10_halves 69 = .ok (.iload 5, 2) := by decide +kernel
theorem dX10_halves_71 : decode cX10_halves 71 = .ok (.iload 6, 2) := by decide +kernel
theorem dX10_halves_73 : decode cX10_halves 73 = .ok (.iload 5, 2) := by decide +kernel
theorem dX10_halves_75 : decode cX10_halves 75 = .ok (.if_icmp .gt 8, 3) := by decide +kernel
theorem dX10_halves_78 : decode cX10_halves 78 = .ok (.iload 6, 2) := by decide +kernel
theorem dX10_halves_80 : decode cX10_halves 80 = .ok (.goto 4, 3) := by decide +kernel
theorem dX10_halves_83 : decode cX10_halves 83 = .ok (.iconst 0, 1) := by decide +kernel
theorem dX10_halves_84 : decode cX10_halves 84 = .ok (.isub, 1) := by decide +kernel
theorem dX10_halves_85 : decode cX10_halves 85 = .ok (.baload, 1) := by decide +kernel
theorem dX10_halves_86 : decode cX10_halves 86 = .ok (.ifCond .ne 8, 3) := by decide +kernel
theorem dX10_halves_89 : decode cX10_halves 89 = .ok (.iload 6, 2) := by decide +kernel
theorem dX10_halves_91 : decode cX10_halves 91 = .ok (.goto 5, 3) := by decide +kernel
theorem dX10_halves_94 : decode cX10_halves 94 = .ok (.iload 4, 2) := by decide +kernel
theorem dX10_halves_96 : decode cX10_halves 96 = .ok (.istore 4, 2) := by decide +kernel
theorem dX10_halves_98 : decode cX10_halves 98 = .ok (.iinc 6 (-1), 3) := by decide +kernel
theorem dX10_halves_101 : decode cX10_halves 101 = .ok (.goto (-48), 3) := by decide +kernel
theorem dX10_halves_104 : decode cX10_halves 104 = .ok (.iload 5, 2) := by decide +kernel
theorem dX10_halves_106 : decode cX10_halves 106 = .ok (.ifCond .le 19, 3) := by decide +kernel
theorem dX10_halves_109 : decode cX10_halves 109 = .ok (.aload_n 0, 1) := by decide +kernel
theorem dX10_halves_110 : decode cX10_halves 110 = .ok (.getfield 40, 3) := by decide +kernel
theorem dX10_halves_113 : decode cX10_halves 113 = .ok (.iload 5, 2) := by decide +kernel
theorem dX10_halves_115 : decode cX10_halves 115 = .ok (.iconst 2, 1) := by decide +kernel
theorem dX10_halves_116 : decode cX10_halves 116 = .ok (.idiv, 1) := by decide +kernel
theorem dX10_halves_117 : decode cX10_halves 117 = .ok (.baload, 1) := by decide +kernel
theorem dX10_halves_118 : decode cX10_halves 118 = .ok (.ifCond .ne 7, 3) := by decide +kernel
theorem dX10_halves_121 : decode cX10_halves 121 = .ok (.iconst 0, 1) := by decide +kernel
theorem dX10_halves_122 : decode cX10_halves 122 = .ok (.goto 5, 3) := by decide +kernel
theorem dX10_halves_125 : decode cX10_halves 125 = .ok (.iload 4, 2) := by decide +kernel
theorem dX10_halves_127 : decode cX10_halves 127 = .ok (.istore 4, 2) := by decide +kernel
theorem dX10_halves_129 : decode cX10_halves 129 = .ok (.aload_n 0, 1) := by decide +kernel
theorem dX10_halves_130 : decode cX10_halves 130 = .ok (.getfield 40, 3) := by decide +kernel
theorem dX10_halves_133 : decode cX10_halves 133 = .ok (.iload 5, 2) := by decide +kernel
theorem dX10_halves_135 : decode cX10_halves 135 = .ok (.iload 4, 2) := by decide +kernel
theorem dX10_halves_137 : decode cX10_halves 137 = .ok (.ifCond .lt 7, 3) := by decide +kernel
theorem dX10_halves_140 : decode cX10_halves 140 = .ok (.iconst 1, 1) := by decide +kernel
theorem dX10_halves_141 : decode cX10_halves 141 = .ok (.goto 4, 3) := by decide +kernel
theorem dX10_halves_144 : decode cX10_halves 144 = .ok (.iconst 0, 1) := by decide +kernel
theorem dX10_halves_145 : decode cX10_halves 145 = .ok (.bastore, 1) := by decide +kernel
theorem dX10_halves_146 : decode cX10_halves 146 = .ok (.iinc 5 1, 3) := by decide +kernel
theorem dX10_halves_149 : decode cX10_halves 149 = .ok (.goto (-109), 3) := by decide +kernel
theorem dX10_halves_152 : decode cX10_halves 152 = .ok (.iload_n 3, 1) := by decide +kernel
theorem dX10_halves_153 : decode cX10_halves 153 = .ok (.iconst 1, 1) := by decide +kernel
theorem dX10_halves_154 : decode cX10_halves 154 = .ok (.if_icmp .ne 8, 3) := by decide +kernel
theorem dX10_halves_157 : decode cX10_halves 157 = .ok (.iload 4, 2) := by decide +kernel
theorem dX10_halves_159 : decode cX10_halves 159 = .ok (.goto 13, 3) := by decide +kernel
theorem dX10_halves_162 : decode cX10_halves 162 = .ok (.iload 4, 2) := by decide +kernel
theorem dX10_halves_164 : decode cX10_halves 164 = .ok (.ifCond .ge 7, 3) := by decide +kernel
theorem dX10_halves_167 : decode cX10_halves 167 = .ok (.iconst 0, 1) := by decide +kernel
theorem dX10_halves_168 : decode cX10_halves 168 = .ok (.goto 4, 3) := by decide +kernel
theorem dX10_halves_171 : decode cX10_halves 171 = .ok (.iconst 1, 1) := by decide +kernel
theorem dX10_halves_172 : decode cX10_halves 172 = .ok (.ireturn, 1) := by decide +kernel
theorem dX10_shake_0 : decode cX10_shake 0 = .ok (.iload_n 1, 1) := by decide +kernel
theorem dX10_shake_1 : decode cX10_shake 1 = .ok (.iconst 0, 1) := by decide +kernel
theorem dX10_shake_2 : decode cX10_shake 2 = .ok (.bipush 12, 2) := by decide +kernel
theorem dX10_shake_4 : decode cX10_shake 4 = .ok (.invokestatic 57, 3) := by decide +kernel
theorem dX10_shake_7 : decode cX10_shake 7 = .ok (.ifCond .eq 52, 3) := by decide +kernel
theorem dX10_shake_10 : decode cX10_shake 10 = .ok (.iload_n 2, 1) := by decide +kernel
theorem dX10_shake_11 : decode cX10_shake 11 = .ok (.iconst 0, 1) := by decide +kernel
theorem dX10_shake_12 : decode cX10_shake 12 = .ok (.bipush 10, 2) := by decide +kernel
theorem dX10_shake_14 : decode cX10_shake 14 = .ok (.invokestatic 57, 3) := by decide +kernel
theorem dX10_shake_17 : decode cX10_shake 17 = .ok (.ifCond .eq 42, 3) := by decide +kernel
theorem dX10_shake_20 : decode cX10_shake 20 = .ok (.iload_n 3, 1) := by decide +kernel
theorem dX10_shake_21 : decode cX10_shake 21 = .ok (.iconst 0, 1) := by decide +kernel
theorem dX10_shake_22 : decode cX10_shake 22 = .ok (.bipush 10, 2) := by decide +kernel
theorem dX10_shake_24 : decode cX10_shake 24 = .ok (.invokestatic 57, 3) := by decide +kernel
theorem dX10_shake_27 : decode cX10_shake 27 = .ok (.ifCond .eq 32, 3) := by decide +kernel
theorem dX10_shake_30 : decode cX10_shake 30 = .ok (.iload_n 2, 1) := by decide +kernel
theorem dX10_shake_31 : decode cX10_shake 31 = .ok (.iload_n 3, 1) := by decide +kernel
theorem dX10_shake_32 : decode cX10_shake 32 = .ok (.iadd, 1) := by decide +kernel
theorem dX10_shake_33 : decode cX10_shake 33 = .ok (.bipush 10, 2) := by decide +kernel
theorem dX10_shake_35 : decode cX10_shake 35 = .ok (.if_icmp .gt 24, 3) := by decide +kernel
theorem dX10_shake_38 : decode cX10_shake 38 = .ok (.iload 4, 2) := by decide +kernel
theorem dX10_shake_40 : decode cX10_shake 40 = .ok (.iconst 0, 1) := by decide +kernel
theorem dX10_shake_41 : decode cX10_shake 41 = .ok (.bipush 12, 2) := by decide +kernel
theorem dX10_shake_43 : decode cX10_shake 43 = .ok (.invokestatic 57, 3) := by decide +kernel
theorem dX10_shake_46 : decode cX10_shake 46 = .ok (.ifCond .eq 13, 3) := by decide +kernel
theorem dX10_shake_49 : decode cX10_shake 49 = .ok (.iload 5, 2) := by decide +kernel
theorem dX10_shake_51 : decode cX10_shake 51 = .ok (.iconst 0, 1) := by decide +kernel
theorem dX10_shake_52 : decode cX10_shake 52 = .ok (.iconst 1, 1) := by decide +kernel
theorem dX10_shake_53 : decode cX10_shake 53 = .ok (.invokestatic 57, 3) := by decide +kernel
theorem dX10_shake_56 : decode cX10_shake 56 = .ok (.ifCond .ne 7, 3) := by decide +kernel
theorem dX10_shake_59 : decode cX10_shake 59 = .ok (.ldc2_w 151, 3) := by decide +kernel
theorem dX10_shake_62 : decode cX10_shake 62 = .ok (.lreturn, 1) := by decide +kernel
theorem dX10_shake_63 : decode cX10_shake 63 = .ok (.iconst 0, 1) := by decide +kernel
theorem dX10_shake_64 : decode cX10_shake 64 = .ok (.istore 6, 2) := by decide +kernel
theorem dX10_shake_66 : decode cX10_shake 66 = .ok (.iload 6, 2) := by decide +kernel
theorem dX10_shake_68 : decode cX10_shake 68 = .ok (.bipush 27, 2) := by decide +kernel
theorem dX10_shake_70 : decode cX10_shake 70 = .ok (.if_icmp .ge 28, 3) := by decide +kernel
theorem dX10_shake_73 : decode cX10_shake 73 = .ok (.aload_n 0, 1) := by decide +kernel
theorem dX10_shake_74 : decode cX10_shake 74 = .ok (.getfield 44, 3) := by decide +kernel
theorem dX10_shake_77 : decode cX10_shake 77 = .ok (.iload 6, 2) := by decide +kernel
theorem dX10_shake_79 : decode cX10_shake 79 = .ok (.iload 6, 2) := by decide +kernel
theorem dX10_shake_81 : decode cX10_shake 81 = .ok (.bipush 13, 2) := by decide +kernel
theorem dX10_shake_83 : decode cX10_shake 83 = .ok (.if_icmp .ne 7, 3) := by decide +kernel
theorem dX10_shake_86 : decode cX10_shake 86 = .ok (.lconst 1, 1) := by decide +kernel
theorem dX10_shake_87 : decode cX10_shake 87 = .ok (.goto 4, 3) := by decide +kernel
theorem dX10_shake_90 : decode cX10_shake 90 = .ok (.lconst 0, 1) := by decide +kernel
theorem dX10_shake_91 : decode cX10_shake 91 = .ok (.lastore, 1) := by decide +kernel
theorem dX10_shake_92 : decode cX10_shake 92 = .ok (.iinc 6 1, 3) := by decide +kernel
theorem dX10_shake_95 : decode cX10_shake 95 = .ok (.goto (-29), 3) := by decide +kernel
theorem dX10_shake_98 : decode cX10_shake 98 = .ok (.lconst 1, 1) := by decide +kernel
theorem dX10_shake_99 : decode cX10_shake 99 = .ok (.lstore 6, 2) := by decide +kernel
theorem dX10_shake_101 : decode cX10_shake 101 = .ok (.iconst 0, 1) := by decide +kernel
theorem dX10_shake_102 : decode cX10_shake 102 = .ok (.istore 8, 2) := by decide +kernel
theorem dX10_shake_104 : decode cX10_shake 104 = .ok (.iload 8, 2) := by decide +kernel
theorem dX10_shake_106 : decode cX10_shake 106 = .ok (.iload_n 1, 1) := by decide +kernel
theorem dX10_shake_107 : decode cX10_shake 107 = .ok (.if_icmp .ge 111, 3) := by decide +kernel
theorem dX10_shake_110 : decode cX10_shake 110 = .ok (.iconst 1, 1) := by decide +kernel
theorem dX10_shake_111 : decode cX10_shake 111 = .ok (.istore 9, 2) := by decide +kernel
theorem dX10_shake_113 : decode cX10_shake 113 = .ok (.iload 9, 2) := by decide +kernel
theorem dX10_shake_115 : decode cX10_shake 115 = .ok (.bipush 26, 2) := by decide +kernel
theorem dX10_shake_117 : decode cX10_shake 117 = .ok (.if_icmp .ge 57, 3) := by decide +kernel
theorem dX10_shake_120 : decode cX10_shake 120 = .ok (.aload_n 0, 1) := by decide +kernel
theorem dX10_shake_121 : decode cX10_shake 121 = .ok (.getfield 48, 3) := by decide +kernel
theorem dX10_shake_124 : decode cX10_shake 124 = .ok (.iload 9, 2) := by decide +kernel
theorem dX10_shake_126 : decode cX10_shake 126 = .ok (.iload_n 2, 1) := by decide +kernel
theorem dX10_shake_127 : decode cX10_shake 127 = .ok (.i2l, 1) := by decide +kernel
theorem dX10_shake_128 : decode cX10_shake 128 = .ok (.aload_n 0, 1) := by decide +kernel
theorem dX10_shake_129 : decode cX10_shake 129 = .ok (.getfield 44, 3) := by decide +kernel
theorem dX10_shake_132 : decode cX10_shake 132 = .ok (.iload 9, 2) := by decide +kernel
theorem dX10_shake_134 : decode cX10_shake 134 = .ok (.iconst 1, 1) := by decide +kernel
theorem dX10_shake_135 : decode cX10_shake 135 = .ok (.iadd, 1) := by decide +kernel
theorem dX10_shake_136 : decode cX10_shake 136 = .ok (.laload, 1) := by decide +kernel
theorem dX10_shake_137 : decode cX10_shake 137 = .ok (.lmul, 1) := by decide +kernel
theorem dX10_shake_138 : decode cX10_shake 138 = .ok (.iload_n 3, 1) := by decide +kernel
theorem dX10_shake_139 : decode cX10_shake 139 = .ok (.i2l, 1) := by decide +kernel
theorem dX10_shake_140 : decode cX10_shake 140 = .ok (.aload_n 0, 1) := by decide +kernel
theorem dX10_shake_141 : decode cX10_shake 141 = .ok (.getfield 44, 3) := by decide +kernel
theorem dX10_shake_144 : decode cX10_shake 144 = .ok (.iload 9, 2) := by decide +kernel
theorem dX10_shake_146 : decode cX10_shake 146 = .ok (.iconst 1, 1) := by decide +kernel
theorem dX10_shake_147 : decode cX10_shake 147 = .ok (.isub, 1) := by decide +kernel
theorem dX10_shake_148 : decode cX10_shake 148 = .ok (.laload, 1) := by decide +kernel
theorem dX10_shake_149 : decode cX10_shake 149 = .ok (.lmul, 1) := by decide +kernel
theorem dX10_shake_150 : decode cX10_shake 150 = .ok (.ladd, 1) := by decide +kernel
theorem dX10_shake_151 : decode cX10_shake 151 = .ok (.bipush 10, 2) := by decide +kernel
theorem dX10_shake_153 : decode cX10_shake 153 = .ok (.iload_n 2, 1) := by decide +kernel
theorem dX10_shake_154 : decode cX10_shake 154 = .ok (.isub, 1) := by decide +kernel
theorem dX10_shake_155 : decode cX10_shake 155 = .ok (.iload_n 3, 1) := by decide +kernel
theorem dX10_shake_156 : decode cX10_shake 156 = .ok (.isub, 1) := by decide +kernel
theorem dX10_shake_157 : decode cX10_shake 157 = .ok (.i2l, 1) := by decide +kernel
theorem dX10_shake_158 : decode cX10_shake 158 = .ok (.aload_n 0, 1) := by decide +kernel
theorem dX10_shake_159 : decode cX10_shake 159 = .ok (.getfield 44, 3) := by decide +kernel
theorem dX10_shake_162 : decode cX10_shake 162 = .ok (.iload 9, 2) := by decide +kernel
theorem dX10_shake_164 : decode cX10_shake 164 = .ok (.laload, 1) := by decide +kernel
theorem dX10_shake_165 : decode cX10_shake 165 = .ok (.lmul, 1) := by decide +kernel
theorem dX10_shake_166 : decode cX10_shake 166 = .ok (.ladd, 1) := by decide +kernel
theorem dX10_shake_167 : decode cX10_shake 167 = .ok (.lastore, 1) := by decide +kernel
theorem dX10_shake_168 : decode cX10_shake 168 = .ok (.iinc 9 1, 3) := by decide +kernel
theorem dX10_shake_171 : decode cX10_shake 171 = .ok (.goto (-58), 3) := by decide +kernel
theorem dX10_shake_174 : decode cX10_shake 174 = .ok (.iconst 1, 1) := by decide +kernel
theorem dX10_shake_175 : decode cX10_shake 175 = .ok (.istore 9, 2) := by decide +kernel
theorem dX10_shake_177 : decode cX10_shake 177 = .ok (.iload 9, 2) := by decide +kernel
theorem dX10_shake_179 : decode cX10_shake 179 = .ok (.bipush 26, 2) := by decide +kernel
theorem dX10_shake_181 : decode cX10_shake 181 = .ok (.if_icmp .ge 23, 3) := by decide +kernel
theorem dX10_shake_184 : decode cX10_shake 184 = .ok (.aload_n 0, 1) := by decide +kernel
theorem dX10_shake_185 : decode cX10_shake 185 = .ok (.getfield 44, 3) := by decide +kernel
theorem dX10_shake_188 : decode cX10_shake 188 = .ok (.iload 9, 2) := by decide +kernel
theorem dX10_shake_190 : decode cX10_shake 190 = .ok (.aload_n 0, 1) := by decide +kernel
theorem dX10_shake_191 : decode cX10_shake 191 = .ok (.getfield 48, 3) := by decide +kernel
theorem dX10_shake_194 : decode cX10_shake 194 = .ok (.iload 9, 2) := by decide +kernel
theorem dX10_shake_196 : decode cX10_shake 196 = .ok (.laload, 1) := by decide +kernel
theorem dX10_shake_197 : decode cX10_shake 197 = .ok (.lastore, 1) := by decide +kernel
theorem dX10_shake_198 : decode cX10_shake 198 = .ok (.iinc 9 1, 3) := by decide +kernel
theorem dX10_shake_201 : decode cX10_shake 201 = .ok (.goto (-24), 3) := by decide +kernel
theorem dX10_shake_204 : decode cX10_shake 204 = .ok (.lload 6, 2) := by decide +kernel
theorem dX10_shake_206 : decode cX10_shake 206 = .ok (.ldc2_w 183, 3) := by decide +kernel
theorem dX10_shake_209 : decode cX10_shake 209 = .ok (.lmul, 1) := by decide +kernel
theorem dX10_shake_210 : decode cX10_shake 210 = .ok (.lstore 6, 2) := by decide +kernel
theorem dX10_shake_212 : decode cX10_shake 212 = .ok (.iinc 8 1, 3) := by decide +kernel
theorem dX10_shake_215 : decode cX10_shake 215 = .ok (.goto (-111), 3) := by decide +kernel
theorem dX10_shake_218 : decode cX10_shake 218 = .ok (.lconst 0, 1) := by decide +kernel
theorem dX10_shake_219 : decode cX10_shake 219 = .ok (.lstore 8, 2) := by decide +kernel
theorem dX10_shake_221 : decode cX10_shake 221 = .ok (.iconst 0, 1) := by decide +kernel
theorem dX10_shake_222 : decode cX10_shake 222 = .ok (.istore 10, 2) := by decide +kernel
theorem dX10_shake_224 : decode cX10_shake 224 = .ok (.iload 10, 2) := by decide +kernel
theorem dX10_shake_226 : decode cX10_shake 226 = .ok (.bipush 27, 2) := by decide +kernel
theorem dX10_shake_228 : decode cX10_shake 228 = .ok (.if_icmp .ge 54, 3) := by decide +kernel
theorem dX10_shake_231 : decode cX10_shake 231 = .ok (.iload 10, 2) := by decide +kernel
theorem dX10_shake_233 : decode cX10_shake 233 = .ok (.bipush 13, 2) := by decide +kernel
theorem dX10_shake_235 : decode cX10_shake 235 = .ok (.if_icmp .ge 11, 3) := by decide +kernel
theorem dX10_shake_238 : decode cX10_shake 238 = .ok (.bipush 13, 2) := by decide +kernel
theorem dX10_shake_240 : decode cX10_shake 240 = .ok (.iload 10, 2) := by decide +kernel
theorem dX10_shake_242 : decode cX10_shake 242 = .ok (.isub, 1) := by decide +kernel
theorem dX10_shake_243 : decode cX10_shake 243 = .ok (.goto 8, 3) := by decide +kernel
theorem dX10_shake_246 : decode cX10_shake 246 = .ok (.iload 10, 2) := by decide +kernel
theorem dX10_shake_248 : decode cX10_shake 248 = .ok (.bipush 13, 2) := by decide +kernel
theorem dX10_shake_250 : decode cX10_shake 250 = .ok (.isub, 1) := by decide +kernel
theorem dX10_shake_251 : decode cX10_shake 251 = .ok (.istore 11, 2) := by decide +kernel
theorem dX10_shake_253 : decode cX10_shake 253 = .ok (.lload 8, 2) := by decide +kernel
theorem dX10_shake_255 : decode cX10_shake 255 = .ok (.iload 11, 2) := by decide +kernel
theorem dX10_shake_257 : decode cX10_shake 257 = .ok (.iload 4, 2) := by decide +kernel
theorem dX10_shake_259 : decode cX10_shake 259 = .ok (.if_icmp .lt 13, 3) := by decide +kernel
theorem dX10_shake_262 : decode cX10_shake 262 = .ok (.aload_n 0, 1) := by decide +kernel
theorem dX10_shake_263 : decode cX10_shake 263 = .ok (.getfield 44, 3) := by decide +kernel
theorem dX10_shake_266 : decode cX10_shake 266 = .ok (.iload 10, 2) := by decide +kernel
theorem dX10_shake_268 : decode cX10_shake 268 = .ok (.laload, 1) := by decide +kernel
theorem dX10_shake_269 : decode cX10_shake 269 = .ok (.goto 4, 3) := by decide +kernel
theorem dX10_shake_272 : decode cX10_shake 272 = .ok (.lconst 0, 1) := by decide +kernel
theorem dX10_shake_273 : decode cX10_shake 273 = .ok (.ladd, 1) := by decide +kernel
theorem dX10_shake_274 : decode cX10_shake 274 = .ok (.lstore 8, 2) := by decide +kernel
theorem dX10_shake_276 : decode cX10_shake 276 = .ok (.iinc 10 1, 3) := by decide +kernel
theorem dX10_shake_279 : decode cX10_shake 279 = .ok (.goto (-55), 3) := by decide +kernel
theorem dX10_shake_282 : decode cX10_shake 282 = .ok (.lload 8, 2) := by decide +kernel
theorem dX10_shake_284 : decode cX10_shake 284 = .ok (.lload 6, 2) := by decide +kernel
theorem dX10_shake_286 : decode cX10_shake 286 = .ok (.iload 5, 2) := by decide +kernel
theorem dX10_shake_288 : decode cX10_shake 288 = .ok (.invokestatic 153, 3) := by decide +kernel
theorem dX10_shake_291 : decode cX10_shake 291 = .ok (.lreturn, 1) := by decide +kernel
theorem dX10_year_0 : decode cX10_year 0 = .ok (.iload_n 1, 1) := by decide +kernel
theorem dX10_year_1 : decode cX10_year 1 = .ok (.iconst 0, 1) := by decide +kernel
theorem dX10_year_2 : decode cX10_year 2 = .ok (.sipush 9999, 3) := by decide +kernel
theorem dX10_year_5 : decode cX10_year 5 = .ok (.invokestatic 57, 3) := by decide +kernel
theorem dX10_year_8 : decode cX10_year 8 = .ok (.ifCond .eq 22, 3) := by decide +kernel
theorem dX10_year_11 : decode cX10_year 11 = .ok (.iload_n 2, 1) := by decide +kernel
theorem dX10_year_12 : decode cX10_year 12 = .ok (.iconst 1, 1) := by decide +kernel
theorem dX10_year_13 : decode cX10_year 13 = .ok (.bipush 99, 2) := by decide +kernel
theorem dX10_year_15 : decode cX10_year 15 = .ok (.invokestatic 57, 3) := by decide +kernel
theorem dX10_year_18 : decode cX10_year 18 = .ok (.ifCond .eq 12, 3) := by decide +kernel
theorem dX10_year_21 : decode cX10_year 21 = .ok (.iload_n 3, 1) := by decide +kernel
theorem dX10_year_22 : decode cX10_year 22 = .ok (.iconst 0, 1) := by decide +kernel
theorem dX10_year_23 : decode cX10_year 23 = .ok (.iconst 2, 1) := by decide +kernel
theorem dX10_year_24 : decode cX10_year 24 = .ok (.invokestatic 57, 3) := by decide +kernel
theorem dX10_year_27 : decode cX10_year 27 = .ok (.ifCond .ne 6, 3) := by decide +kernel
theorem dX10_year_30 : decode cX10_year 30 = .ok (.bipush (-2), 2) := by decide +kernel
theorem dX10_year_32 : decode cX10_year 32 = .ok (.ireturn, 1) := by decide +kernel
theorem dX10_year_33 : decode cX10_year 33 = .ok (.aload_n 0, 1) := by decide +kernel
theorem dX10_year_34 : decode cX10_year 34 = .ok (.invokevirtual 122, 3) := by decide +kernel
theorem dX10_year_37 : decode cX10_year 37 = .ok (.iload_n 1, 1) := by decide +kernel
theorem dX10_year_38 : decode cX10_year 38 = .ok (.istore 4, 2) := by decide +kernel
theorem dX10_year_40 : decode cX10_year 40 = .ok (.iconst 0, 1) := by decide +kernel
theorem dX10_year_41 : decode cX10_year 41 = .ok (.istore 5, 2) := by decide +kernel
theorem dX10_year_43 : decode cX10_year 43 = .ok (.iload 5, 2) := by decide +kernel
theorem dX10_year_45 : decode cX10_year 45 = .ok (.iload_n 2, 1) := by decide +kernel
theorem dX10_year_46 : decode cX10_year 46 = .ok (.if_icmp .ge 216, 3) := by decide +kernel
theorem dX10_year_49 : decode cX10_year 49 = .ok (.bipush 75, 2) := by decide +kernel
theorem dX10_year_51 : decode cX10_year 51 = .ok (.iload 4, 2) := by decide +kernel
theorem dX10_year_53 : decode cX10_year 53 = .ok (.imul, 1) := by decide +kernel
theorem dX10_year_54 : decode cX10_year 54 = .ok (.bipush 74, 2) := by decide +kernel
theorem dX10_year_56 : decode cX10_year 56 = .ok (.iadd, 1) := by decide +kernel
theorem dX10_year_57 : decode cX10_year 57 = .ok (.ldc 185, 2) := by decide +kernel
theorem dX10_year_59 : decode cX10_year 59 = .ok (.irem, 1) := by decide +kernel
theorem dX10_year_60 : decode cX10_year 60 = .ok (.istore 4, 2) := by decide +kernel
theorem dX10_year_62 : decode cX10_year 62 = .ok (.iload 4, 2) := by decide +kernel
theorem dX10_year_64 : decode cX10_year 64 = .ok (.bipush 6, 2) := by decide +kernel
theorem dX10_year_66 : decode cX10_year 66 = .ok (.irem, 1) := by decide +kernel
theorem dX10_year_67 : decode cX10_year 67 = .ok (.istore 6, 2) := by decide +kernel
theorem dX10_year_69 : decode cX10_year 69 = .ok (.iconst 1, 1) := by decide +kernel
theorem dX10_year_70 : decode cX10_year 70 = .ok (.iload 4, 2) := by decide +kernel
theorem dX10_year_72 : decode cX10_year 72 = .ok (.bipush 48, 2) := by decide +kernel
theorem dX10_year_74 : decode cX10_year 74 = .ok (.idiv, 1) := by decide +kernel
theorem dX10_year_75 : decode cX10_year 75 = .ok (.bipush 9, 2) := by decide +kernel
theorem dX10_year_77 : decode cX10_year 77 = .ok (.irem, 1) := by decide +kernel
theorem dX10_year_78 : decode cX10_year 78 = .ok (.iadd, 1) := by decide +kernel
theorem dX10_year_79 : decode cX10_year 79 = .ok (.istore 7, 2) := by decide +kernel
theorem dX10_year_81 : decode cX10_year 81 = .ok (.iload 4, 2) := by decide +kernel
theorem dX10_year_83 : decode cX10_year 83 = .ok (.sipush 432, 3) := by decide +kernel
theorem dX10_year_86 : decode cX10_year 86 = .ok (.idiv, 1) := by decide +kernel
theorem dX10_year_87 : decode cX10_year 87 = .ok (.iconst 4, 1) := by decide +kernel
theorem dX10_year_88 : decode cX10_year 88 = .ok (.irem, 1) := by decide +kernel
theorem dX10_year_89 : decode cX10_year 89 = .ok (.istore 8, 2) := by decide +kernel
theorem dX10_year_91 : decode cX10_year 91 = .ok (.iload 4, 2) := by decide +kernel
theorem dX10_year_93 : decode cX10_year 93 = .ok (.bipush 6, 2) := by decide +kernel
theorem dX10_year_95 : decode cX10_year 95 = .ok (.idiv, 1) := by decide +kernel
theorem dX10_year_96 : decode cX10_year 96 = .ok (.bipush 8, 2) := by decide +kernel
theorem dX10_year_98 : decode cX10_year 98 = .ok (.irem, 1) := by decide +kernel
theorem dX10_year_99 : decode cX10_year 99 = .ok (.tableswitch 149 0 6 #[41, 56, 71, 90, 109, 123, 136], 41) := by decide +kernel
theorem dX10_year_140 : decode cX10_year 140 = .ok (.aload_n 0, 1) := by decide +kernel
theorem dX10_year_141 : decode cX10_year 141 = .ok (.aload_n 0, 1) := by decide +kernel
theorem dX10_year_142 : decode cX10_year 142 = .ok (.iload 6, 2) := by decide +kernel
theorem dX10_year_144 : decode cX10_year 144 = .ok (.iload 7, 2) := by decide +kernel
theorem dX10_year_146 : decode cX10_year 146 = .ok (.invokevirtual 112, 3) := by decide +kernel
theorem dX10_year_149 : decode cX10_year 149 = .ok (.putfield 134, 3) := by decide +kernel
theorem dX10_year_152 : decode cX10_year 152 = .ok (.goto 104, 3) := by decide +kernel
theorem dX10_year_155 : decode cX10_year 155 = .ok (.aload_n 0, 1) := by decide +kernel
theorem dX10_year_156 : decode cX10_year 156 = .ok (.aload_n 0, 1) := by decide +kernel
theorem dX10_year_157 : decode cX10_year 157 = .ok (.iload 6, 2) := by decide +kernel
theorem dX10_year_159 : decode cX10_year 159 = .ok (.iload 7, 2) := by decide +kernel
theorem dX10_year_161 : decode cX10_year 161 = .ok (.invokevirtual 115, 3) := by decide +kernel
theorem dX10_year_164 : decode cX10_year 164 = .ok (.putfield 134, 3) := by decide +kernel
theorem dX10_year_167 : decode cX10_year 167 = .ok (.goto 89, 3) := by decide +kernel
theorem dX10_year_170 : decode cX10_year 170 = .ok (.aload_n 0, 1) := by decide +kernel
theorem dX10_year_171 : decode cX10_year 171 = .ok (.aload_n 0, 1) := by decide +kernel
theorem dX10_year_172 : decode cX10_year 172 = .ok (.iload 6, 2) := by decide +kernel
theorem dX10_year_174 : decode cX10_year 174 = .ok (.iload 8, 2) := by decide +kernel
theorem dX10_year_176 : decode cX10_year 176 = .ok (.bipush 26, 2) := by decide +kernel
theorem dX10_year_178 : decode cX10_year 178 = .ok (.iload 7, 2) := by decide +kernel
theorem dX10_year_180 : decode cX10_year 180 = .ok (.invokevirtual 118, 3) := by decide +kernel
theorem dX10_year_183 : decode cX10_year 183 = .ok (.putfield 134, 3) := by decide +kernel
theorem dX10_year_186 : decode cX10_year 186 = .ok (.goto 70, 3) := by decide +kernel
theorem dX10_year_189 : decode cX10_year 189 = .ok (.aload_n 0, 1) := by decide +kernel
theorem dX10_year_190 : decode cX10_year 190 = .ok (.aload_n 0, 1) := by decide +kernel
theorem dX10_year_191 : decode cX10_year 191 = .ok (.iload 6, 2) := by decide +kernel
theorem dX10_year_193 : decode cX10_year 193 = .ok (.iload 8, 2) := by decide +kernel
theorem dX10_year_195 : decode cX10_year 195 = .ok (.bipush 30, 2) := by decide +kernel
theorem dX10_year_197 : decode cX10_year 197 = .ok (.iload 7, 2) := by decide +kernel
theorem dX10_year_199 : decode cX10_year 199 = .ok (.invokevirtual 118, 3) := by decide +kernel
theorem dX10_year_202 : decode cX10_year 202 = .ok (.putfield 134, 3) := by decide +kernel
theorem dX10_year_205 : decode cX10_year 205 = .ok (.goto 51, 3) := by decide +kernel
theorem dX10_year_208 : decode cX10_year 208 = .ok (.aload_n 0, 1) := by decide +kernel
theorem dX10_year_209 : decode cX10_year 209 = .ok (.aload_n 0, 1) := by decide +kernel
theorem dX10_year_210 : decode cX10_year 210 = .ok (.iload 7, 2) := by decide +kernel
theorem dX10_year_212 : decode cX10_year 212 = .ok (.ineg, 1) := by decide +kernel
theorem dX10_year_213 : decode cX10_year 213 = .ok (.invokevirtual 137, 3) := by decide +kernel
theorem dX10_year_216 : decode cX10_year 216 = .ok (.putfield 134, 3) := by decide +kernel
theorem dX10_year_219 : decode cX10_year 219 = .ok (.goto 37, 3) := by decide +kernel
theorem dX10_year_222 : decode cX10_year 222 = .ok (.aload_n 0, 1) := by decide +kernel
theorem dX10_year_223 : decode cX10_year 223 = .ok (.aload_n 0, 1) := by decide +kernel
theorem dX10_year_224 : decode cX10_year 224 = .ok (.iload 7, 2) := by decide +kernel
theorem dX10_year_226 : decode cX10_year 226 = .ok (.invokevirtual 137, 3) := by decide +kernel
theorem dX10_year_229 : decode cX10_year 229 = .ok (.putfield 134, 3) := by decide +kernel
theorem dX10_year_232 : decode cX10_year 232 = .ok (.goto 24, 3) := by decide +kernel
theorem dX10_year_235 : decode cX10_year 235 = .ok (.aload_n 0, 1) := by decide +kernel
theorem dX10_year_236 : decode cX10_year 236 = .ok (.aload_n 0, 1) := by decide +kernel
theorem dX10_year_237 : decode cX10_year 237 = .ok (.iload 6, 2) := by decide +kernel
theorem dX10_year_239 : decode cX10_year 239 = .ok (.invokevirtual 103, 3) := by decide +kernel
theorem dX10_year_242 : decode cX10_year 242 = .ok (.putfield 134, 3) := by decide +kernel
theorem dX10_year_245 : decode cX10_year 245 = .ok (.goto 11, 3) := by decide +kernel
theorem dX10_year_248 : decode cX10_year 248 = .ok (.aload_n 0, 1) := by decide +kernel
theorem dX10_year_249 : decode cX10_year 249 = .ok (.aload_n 0, 1) := by decide +kernel
theorem dX10_year_250 : decode cX10_year 250 = .ok (.invokevirtual 131, 3) := by decide +kernel
theorem dX10_year_253 : decode cX10_year 253 = .ok (.putfield 134, 3) := by decide +kernel
theorem dX10_year_256 : decode cX10_year 256 = .ok (.iinc 5 1, 3) := by decide +kernel
theorem dX10_year_259 : decode cX10_year 259 = .ok (.goto (-216), 3) := by decide +kernel
theorem dX10_year_262 : decode cX10_year 262 = .ok (.iconst 0, 1) := by decide +kernel
theorem dX10_year_263 : decode cX10_year 263 = .ok (.istore 5, 2) := by decide +kernel
theorem dX10_year_265 : decode cX10_year 265 = .ok (.iconst 0, 1) := by decide +kernel
theorem dX10_year_266 : decode cX10_year 266 = .ok (.istore 6, 2) := by decide +kernel
theorem dX10_year_268 : decode cX10_year 268 = .ok (.iload 6, 2) := by decide +kernel
theorem dX10_year_270 : decode cX10_year 270 = .ok (.bipush 6, 2) := by decide +kernel
theorem dX10_year_272 : decode cX10_year 272 = .ok (.if_icmp .ge 21, 3) := by decide +kernel
theorem dX10_year_275 : decode cX10_year 275 = .ok (.iload 5, 2) := by decide +kernel
theorem dX10_year_277 : decode cX10_year 277 = .ok (.aload_n 0, 1) := by decide +kernel
theorem dX10_year_278 : decode cX10_year 278 = .ok (.getfield 13, 3) := by decide +kernel
theorem dX10_year_281 : decode cX10_year 281 = .ok (.iload 6, 2) := by decide +kernel
theorem dX10_year_283 : decode cX10_year 283 = .ok (.iaload, 1) := by decide +kernel
theorem dX10_year_284 : decode cX10_year 284 = .ok (.iadd, 1) := by decide +kernel
theorem dX10_year_285 : decode cX10_year 285 = .ok (.istore 5, 2) := by decide +kernel
theorem dX10_year_287 : decode cX10_year 287 = .ok (.iinc 6 1, 3) := by decide +kernel
theorem dX10_year_290 : decode cX10_year 290 = .ok (.goto (-22), 3) := by decide +kernel
theorem dX10_year_293 : decode cX10_year 293 = .ok (.aload_n 0, 1) := by decide +kernel
theorem dX10_year_294 : decode cX10_year 294 = .ok (.invokevirtual 128, 3) := by decide +kernel
theorem dX10_year_297 : decode cX10_year 297 = .ok (.istore 6, 2) := by decide +kernel
theorem dX10_year_299 : decode cX10_year 299 = .ok (.iload_n 3, 1) := by decide +kernel
theorem dX10_year_300 : decode cX10_year 300 = .ok (.ifCond .ne 13, 3) := by decide +kernel
theorem dX10_year_303 : decode cX10_year 303 = .ok (.aload_n 0, 1) := by decide +kernel
theorem dX10_year_304 : decode cX10_year 304 = .ok (.getfield 13, 3) := by decide +kernel
theorem dX10_year_307 : decode cX10_year 307 = .ok (.bipush 38, 2) := by decide +kernel
theorem dX10_year_309 : decode cX10_year 309 = .ok (.iaload, 1) := by decide +kernel
theorem dX10_year_310 : decode cX10_year 310 = .ok (.goto 38, 3) := by decide +kernel
theorem dX10_year_313 : decode cX10_year 313 = .ok (.iload_n 3, 1) := by decide +kernel
theorem dX10_year_314 : decode cX10_year 314 = .ok (.iconst 1, 1) := by decide +kernel
theorem dX10_year_315 : decode cX10_year 315 = .ok (.if_icmp .ne 8, 3) := by decide +kernel
theorem dX10_year_318 : decode cX10_year 318 = .ok (.iload 5, 2) := by decide +kernel
theorem dX10_year_320 : decode cX10_year 320 = .ok (.goto 28, 3) := by decide +kernel
theorem dX10_year_323 : decode cX10_year 323 = .ok (.iload 6, 2) := by decide +kernel
theorem dX10_year_325 : decode cX10_year 325 = .ok (.iconst 1, 1) := by decide +kernel
theorem dX10_year_326 : decode cX10_year 326 = .ok (.iand, 1) := by decide +kernel
theorem dX10_year_327 : decode cX10_year 327 = .ok (.iload 6, 2) := by decide +kernel
theorem dX10_year_329 : decode cX10_year 329 = .ok (.iconst 1, 1) := by decide +kernel
theorem dX10_year_330 : decode cX10_year 330 = .ok (.ishr, 1) := by decide +kernel
theorem dX10_year_331 : decode cX10_year 331 = .ok (.iconst 1, 1) := by decide +kernel
theorem dX10_year_332 : decode cX10_year 332 = .ok (.iand, 1) := by decide +kernel
theorem dX10_year_333 : decode cX10_year 333 = .ok (.iadd, 1) := by decide +kernel
theorem dX10_year_334 : decode cX10_year 334 = .ok (.iload 6, 2) := by decide +kernel
theorem dX10_year_336 : decode cX10_year 336 = .ok (.iconst 2, 1) := by decide +kernel
theorem dX10_year_337 : decode cX10_year 337 = .ok (.ishr, 1) := by decide +kernel
theorem dX10_year_338 : decode cX10_year 338 = .ok (.iconst 1, 1) := by decide +kernel
theorem dX10_year_339 : decode cX10_year 339 = .ok (.iand, 1) := by decide +kernel
theorem dX10_year_340 : decode cX10_year 340 = .ok (.iadd, 1) := by decide +kernel
theorem dX10_year_341 : decode cX10_year 341 = .ok (.iload 6, 2) := by decide +kernel
theorem dX10_year_343 : decode cX10_year 343 = .ok (.iconst 3, 1) := by decide +kernel
theorem dX10_year_344 : decode cX10_year 344 = .ok (.ishr, 1) := by decide +kernel
theorem dX10_year_345 : decode cX10_year 345 = .ok (.iconst 1, 1) := by decide +kernel
theorem dX10_year_346 : decode cX10_year 346 = .ok (.iand, 1) := by decide +kernel
theorem dX10_year_347 : decode cX10_year 347 = .ok (.iadd, 1) := by decide +kernel
theorem dX10_year_348 : decode cX10_year 348 = .ok (.ireturn, 1) := by decide +kernel
theorem dX10_image_0 : decode cX10_image 0 = .ok (.iload_n 1, 1) := by decide +kernel
theorem dX10_image_1 : decode cX10_image 1 = .ok (.iconst 0, 1) := by decide +kernel
theorem dX10_image_2 : decode cX10_image 2 = .ok (.iconst 1, 1) := by decide +kernel
theorem dX10_image_3 : decode cX10_image 3 = .ok (.invokestatic 57, 3) := by decide +kernel
theorem dX10_image_6 : decode cX10_image 6 = .ok (.ifCond .ne 6, 3) := by decide +kernel
theorem dX10_image_9 : decode cX10_image 9 = .ok (.bipush (-2), 2) := by decide +kernel
theorem dX10_image_11 : decode cX10_image 11 = .ok (.ireturn, 1) := by decide +kernel
theorem dX10_image_12 : decode cX10_image 12 = .ok (.bipush 70, 2) := by decide +kernel
theorem dX10_image_14 : decode cX10_image 14 = .ok (.iload_n 1, 1) := by decide +kernel
theorem dX10_image_15 : decode cX10_image 15 = .ok (.imul, 1) := by decide +kernel
theorem dX10_image_16 : decode cX10_image 16 = .ok (.istore_n 2, 1) := by decide +kernel
theorem dX10_image_17 : decode cX10_image 17 = .ok (.iconst 0, 1) := by decide +kernel
theorem dX10_image_18 : decode cX10_image 18 = .ok (.istore_n 3, 1) := by decide +kernel
theorem dX10_image_19 : decode cX10_image 19 = .ok (.iload_n 3, 1) := by decide +kernel
theorem dX10_image_20 : decode cX10_image 20 = .ok (.bipush 40, 2) := by decide +kernel
theorem dX10_image_22 : decode cX10_image 22 = .ok (.if_icmp .ge 23, 3) := by decide +kernel
theorem dX10_image_25 : decode cX10_image 25 = .ok (.aload_n 0, 1) := by decide +kernel
theorem dX10_image_26 : decode cX10_image 26 = .ok (.getfield 51, 3) := by decide +kernel
theorem dX10_image_29 : decode cX10_image 29 = .ok (.iload_n 2, 1) := by decide +kernel
theorem dX10_image_30 : decode cX10_image 30 = .ok (.iload_n 3, 1) := by decide +kernel
theorem dX10_image_31 : decode cX10_image 31 = .ok (.iadd, 1) := by decide +kernel
theorem dX10_image_32 : decode cX10_image 32 = .ok (.aload_n 0, 1) := by decide +kernel
theorem dX10_image_33 : decode cX10_image 33 = .ok (.getfield 7, 3) := by decide +kernel
theorem dX10_image_36 : decode cX10_image 36 = .ok (.iload_n 3, 1) := by decide +kernel
theorem dX10_image_37 : decode cX10_image 37 = .ok (.iaload, 1) := by decide +kernel
theorem dX10_image_38 : decode cX10_image 38 = .ok (.iastore, 1) := by decide +kernel
theorem dX10_image_39 : decode cX10_image 39 = .ok (.iinc 3 1, 3) := by decide +kernel
theorem dX10_image_42 : decode cX10_image 42 = .ok (.goto (-23), 3) := by decide +kernel
theorem dX10_image_45 : decode cX10_image 45 = .ok (.iconst 0, 1) := by decide +kernel
theorem dX10_image_46 : decode cX10_image 46 = .ok (.istore_n 3, 1) := by decide +kernel
theorem dX10_image_47 : decode cX10_image 47 = .ok (.iload_n 3, 1) := by decide +kernel
theorem dX10_image_48 : decode cX10_image 48 = .ok (.bipush 7, 2) := by decide +kernel
theorem dX10_image_50 : decode cX10_image 50 = .ok (.if_icmp .ge 26, 3) := by decide +kernel
theorem dX10_image_53 : decode cX10_image 53 = .ok (.aload_n 0, 1) := by decide +kernel
theorem dX10_image_54 : decode cX10_image 54 = .ok (.getfield 51, 3) := by decide +kernel
theorem dX10_image_57 : decode cX10_image 57 = .ok (.iload_n 2, 1) := by decide +kernel
theorem dX10_image_58 : decode cX10_image 58 = .ok (.bipush 40, 2) := by decide +kernel
theorem dX10_image_60 : decode cX10_image 60 = .ok (.iadd, 1) := by decide +kernel
theorem dX10_image_61 : decode cX10_image 61 = .ok (.iload_n 3, 1) := by decide +kernel
theorem dX10_image_62 : decode cX10_image 62 = .ok (.iadd, 1) := by decide +kernel
theorem dX10_image_63 : decode cX10_image 63 = .ok (.aload_n 0, 1) := by decide +kernel
theorem dX10_image_64 : decode cX10_image 64 = .ok (.getfield 16, 3) := by decide +kernel
theorem dX10_image_67 : decode cX10_image 67 = .ok (.iload_n 3, 1) := by decide +kernel
theorem dX10_image_68 : decode cX10_image 68 = .ok (.iaload, 1) := by decide +kernel
theorem dX10_image_69 : decode cX10_image 69 = .ok (.iastore, 1) := by decide +kernel
theorem dX10_image_70 : decode cX10_image 70 = .ok (.iinc 3 1, 3) := by decide +kernel
theorem dX10_image_73 : decode cX10_image 73 = .ok (.goto (-26), 3) := by decide +kernel
theorem dX10_image_76 : decode cX10_image 76 = .ok (.iconst 0, 1) := by decide +kernel
theorem dX10_image_77 : decode cX10_image 77 = .ok (.istore_n 3, 1) := by decide +kernel
theorem dX10_image_78 : decode cX10_image 78 = .ok (.iload_n 3, 1) := by decide +kernel
theorem dX10_image_79 : decode cX10_image 79 = .ok (.bipush 16, 2) := by decide +kernel
theorem dX10_image_81 : decode cX10_image 81 = .ok (.if_icmp .ge 26, 3) := by decide +kernel
theorem dX10_image_84 : decode cX10_image 84 = .ok (.aload_n 0, 1) := by decide +kernel
theorem dX10_image_85 : decode cX10_image 85 = .ok (.getfield 51, 3) := by decide +kernel
theorem dX10_image_88 : decode cX10_image 88 = .ok (.iload_n 2, 1) := by decide +kernel
theorem dX10_image_89 : decode cX10_image 89 = .ok (.bipush 47, 2) := by decide +kernel
theorem dX10_image_91 : decode cX10_image 91 = .ok (.iadd, 1) := by decide +kernel
theorem dX10_image_92 : decode cX10_image 92 = .ok (.iload_n 3, 1) := by decide +kernel
theorem dX10_image_93 : decode cX10_image 93 = .ok (.iadd, 1) := by decide +kernel
theorem dX10_image_94 : decode cX10_image 94 = .ok (.aload_n 0, 1) := by decide +kernel
theorem dX10_image_95 : decode cX10_image 95 = .ok (.getfield 19, 3) := by decide +kernel
theorem dX10_image_98 : decode cX10_image 98 = .ok (.iload_n 3, 1) := by decide +kernel
theorem dX10_image_99 : decode cX10_image 99 = .ok (.iaload, 1) := by decide +kernel
theorem dX10_image_100 : decode cX10_image 100 = .ok (.iastore, 1) := by decide +kernel
theorem dX10_image_101 : decode cX10_image 101 = .ok (.iinc 3 1, 3) := by decide +kernel
theorem dX10_image_104 : decode cX10_image 104 = .ok (.goto (-26), 3) := by decide +kernel
theorem dX10_image_107 : decode cX10_image 107 = .ok (.aload_n 0, 1) := by decide +kernel
theorem dX10_image_108 : decode cX10_image 108 = .ok (.getfield 51, 3) := by decide +kernel
theorem dX10_image_111 : decode cX10_image 111 = .ok (.iload_n 2, 1) := by decide +kernel
theorem dX10_image_112 : decode cX10_image 112 = .ok (.bipush 64, 2) := by decide +kernel
theorem dX10_image_114 : decode cX10_image 114 = .ok (.iadd, 1) := by decide +kernel
theorem dX10_image_115 : decode cX10_image 115 = .ok (.aload_n 0, 1) := by decide +kernel
theorem dX10_image_116 : decode cX10_image 116 = .ok (.getfield 167, 3) := by decide +kernel
theorem dX10_image_119 : decode cX10_image 119 = .ok (.iastore, 1) := by decide +kernel
theorem dX10_image_120 : decode cX10_image 120 = .ok (.aload_n 0, 1) := by decide +kernel
theorem dX10_image_121 : decode cX10_image 121 = .ok (.getfield 54, 3) := by decide +kernel
theorem dX10_image_124 : decode cX10_image 124 = .ok (.iload_n 1, 1) := by decide +kernel
theorem dX10_image_125 : decode cX10_image 125 = .ok (.iconst 1, 1) := by decide +kernel
theorem dX10_image_126 : decode cX10_image 126 = .ok (.bastore, 1) := by decide +kernel
theorem dX10_image_127 : decode cX10_image 127 = .ok (.iconst 1, 1) := by decide +kernel
theorem dX10_image_128 : decode cX10_image 128 = .ok (.ireturn, 1) := by decide +kernel
theorem dX10_restore_0 : decode cX10_restore 0 = .ok (.iload_n 1, 1) := by decide +kernel
theorem dX10_restore_1 : decode cX10_restore 1 = .ok (.iconst 0, 1) := by decide +kernel
theorem dX10_restore_2 : decode cX10_restore 2 = .ok (.iconst 1, 1) := by decide +kernel
theorem dX10_restore_3 : decode cX10_restore 3 = .ok (.invokestatic 57, 3) := by decide +kernel
theorem dX10_restore_6 : decode cX10_restore 6 = .ok (.ifCond .ne 6, 3) := by decide +kernel
theorem dX10_restore_9 : decode cX10_restore 9 = .ok (.bipush (-2), 2) := by decide +kernel
theorem dX10_restore_11 : decode cX10_restore 11 = .ok (.ireturn, 1) := by decide +kernel
theorem dX10_restore_12 : decode cX10_restore 12 = .ok (.aload_n 0, 1) := by decide +kernel
theorem dX10_restore_13 : decode cX10_restore 13 = .ok (.getfield 54, 3) := by decide +kernel
theorem dX10_restore_16 : decode cX10_restore 16 = .ok (.iload_n 1, 1) := by decide +kernel
theorem dX10_restore_17 : decode cX10_restore 17 = .ok (.baload, 1) := by decide +kernel
theorem dX10_restore_18 : decode cX10_restore 18 = .ok (.ifCond .ne 6, 3) := by decide +kernel
theorem dX10_restore_21 : decode cX10_restore 21 = .ok (.bipush (-3), 2) := by decide +kernel
theorem dX10_restore_23 : decode cX10_restore 23 = .ok (.ireturn, 1) := by decide +kernel
theorem dX10_restore_24 : decode cX10_restore 24 = .ok (.bipush 70, 2) := by decide +kernel
theorem dX10_restore_26 : decode cX10_restore 26 = .ok (.iload_n 1, 1) := by decide +kernel
theorem dX10_restore_27 : decode cX10_restore 27 = .ok (.imul, 1) := by decide +kernel
theorem dX10_restore_28 : decode cX10_restore 28 = .ok (.istore_n 2, 1) := by decide +kernel
theorem dX10_restore_29 : decode cX10_restore 29 = .ok (.iconst 0, 1) := by decide +kernel
theorem dX10_restore_30 : decode cX10_restore 30 = .ok (.istore_n 3, 1) := by decide +kernel
theorem dX10_restore_31 : decode cX10_restore 31 = .ok (.iload_n 3, 1) := by decide +kernel
theorem dX10_restore_32 : decode cX10_restore 32 = .ok (.bipush 40, 2) := by decide +kernel
theorem dX10_restore_34 : decode cX10_restore 34 = .ok (.if_icmp .ge 23, 3) := by decide +kernel
theorem dX10_restore_37 : decode cX10_restore 37 = .ok (.aload_n 0, 1) := by decide +kernel
theorem dX10_restore_38 : decode cX10_restore 38 = .ok (.getfield 7, 3) := by decide +kernel
theorem dX10_restore_41 : decode cX10_restore 41 = .ok (.iload_n 3, 1) := by decide +kernel
theorem dX10_restore_42 : decode cX10_restore 42 = .ok (.aload_n 0, 1) := by decide +kernel
theorem dX10_restore_43 : decode cX10_restore 43 = .ok (.getfield 51, 3) := by decide +kernel
theorem dX10_restore_46 : decode cX10_restore 46 = .ok (.iload_n 2, 1) := by decide +kernel
theorem dX10_restore_47 : decode cX10_restore 47 = .ok (.iload_n 3, 1) := by decide +kernel
theorem dX10_restore_48 : decode cX10_restore 48 = .ok (.iadd, 1) := by decide +kernel
theorem dX10_restore_49 : decode cX10_restore 49 = .ok (.iaload, 1) := by decide +kernel
theorem dX10_restore_50 : decode cX10_restore 50 = .ok (.iastore, 1) := by decide +kernel
theorem dX10_restore_51 : decode cX10_restore 51 = .ok (.iinc 3 1, 3) := by decide +kernel
theorem dX10_restore_54 : decode cX10_restore 54 = .ok (.goto (-23), 3) := by decide +kernel
theorem dX10_restore_57 : decode cX10_restore 57 = .ok (.iconst 0, 1) := by decide +kernel
theorem dX10_restore_58 : decode cX10_restore 58 = .ok (.istore_n 3, 1) := by decide +kernel
theorem dX10_restore_59 : decode cX10_restore 59 = .ok (.iload_n 3, 1) := by decide +kernel
theorem dX10_restore_60 : decode cX10_restore 60 = .ok (.bipush 7, 2) := by decide +kernel
theorem dX10_restore_62 : decode cX10_restore 62 = .ok (.if_icmp .ge 26, 3) := by decide +kernel
theorem dX10_restore_65 : decode cX10_restore 65 = .ok (.aload_n 0, 1) := by decide +kernel
theorem dX10_restore_66 : decode cX10_restore 66 = .ok (.getfield 16, 3) := by decide +kernel
theorem dX10_restore_69 : decode cX10_restore 69 = .ok (.iload_n 3, 1) := by decide +kernel
theorem dX10_restore_70 : decode cX10_restore 70 = .ok (.aload_n 0, 1) := by decide +kernel
theorem dX10_restore_71 : decode cX10_restore 71 = .ok (.getfield 51, 3) := by decide +kernel
theorem dX10_restore_74 : decode cX10_restore 74 = .ok (.iload_n 2, 1) := by decide +kernel
theorem dX10_restore_75 : decode cX10_restore 75 = .ok (.bipush 40, 2) := by decide +kernel
theorem dX10_restore_77 : decode cX10_restore 77 = .ok (.iadd, 1) := by decide +kernel
theorem dX10_restore_78 : decode cX10_restore 78 = .ok (.iload_n 3, 1) := by decide +kernel
theorem dX10_restore_79 : decode cX10_restore 79 = .ok (.iadd, 1) := by decide +kernel
theorem dX10_restore_80 : decode cX10_restore 80 = .ok (.iaload, 1) := by decide +kernel
theorem dX10_restore_81 : decode cX10_restore 81 = .ok (.iastore, 1) := by decide +kernel
theorem dX10_restore_82 : decode cX10_restore 82 = .ok (.iinc 3 1, 3) := by decide +kernel
theorem dX10_restore_85 : decode cX10_restore 85 = .ok (.goto (-26), 3) := by decide +kernel
theorem dX10_restore_88 : decode cX10_restore 88 = .ok (.iconst 0, 1) := by decide +kernel
theorem dX10_restore_89 : decode cX10_restore 89 = .ok (.istore_n 3, 1) := by decide +kernel
theorem dX10_restore_90 : decode cX10_restore 90 = .ok (.iload_n 3, 1) := by decide +kernel
theorem dX10_restore_91 : decode cX10_restore 91 = .ok (.bipush 16, 2) := by decide +kernel
theorem dX10_restore_93 : decode cX10_restore 93 = .ok (.if_icmp .ge 26, 3) := by decide +kernel
theorem dX10_restore_96 : decode cX10_restore 96 = .ok (.aload_n 0, 1) := by decide +kernel
theorem dX10_restore_97 : decode cX10_restore 97 = .ok (.getfield 19, 3) := by decide +kernel
theorem dX10_restore_100 : decode cX10_restore 100 = .ok (.iload_n 3, 1) := by decide +kernel
theorem dX10_restore_101 : decode cX10_restore 101 = .ok (.aload_n 0, 1) := by decide +kernel
theorem dX10_restore_102 : decode cX10_restore 102 = .ok (.getfield 51, 3) := by decide +kernel
theorem dX10_restore_105 : decode cX10_restore 105 = .ok (.iload_n 2, 1) := by decide +kernel
theorem dX10_restore_106 : decode cX10_restore 106 = .ok (.bipush 47, 2) := by decide +kernel
theorem dX10_restore_108 : decode cX10_restore 108 = .ok (.iadd, 1) := by decide +kernel
theorem dX10_restore_109 : decode cX10_restore 109 = .ok (.iload_n 3, 1) := by decide +kernel
theorem dX10_restore_110 : decode cX10_restore 110 = .ok (.iadd, 1) := by decide +kernel
theorem dX10_restore_111 : decode cX10_restore 111 = .ok (.iaload, 1) := by decide +kernel
theorem dX10_restore_112 : decode cX10_restore 112 = .ok (.iastore, 1) := by decide +kernel
theorem dX10_restore_113 : decode cX10_restore 113 = .ok (.iinc 3 1, 3) := by decide +kernel
theorem dX10_restore_116 : decode cX10_restore 116 = .ok (.goto (-26), 3) := by decide +kernel
theorem dX10_restore_119 : decode cX10_restore 119 = .ok (.aload_n 0, 1) := by decide +kernel
theorem dX10_restore_120 : decode cX10_restore 120 = .ok (.aload_n 0, 1) := by decide +kernel
theorem dX10_restore_121 : decode cX10_restore 121 = .ok (.getfield 51, 3) := by decide +kernel
theorem dX10_restore_124 : decode cX10_restore 124 = .ok (.iload_n 2, 1) := by decide +kernel
theorem dX10_restore_125 : decode cX10_restore 125 = .ok (.bipush 64, 2) := by decide +kernel
theorem dX10_restore_127 : decode cX10_restore 127 = .ok (.iadd, 1) := by decide +kernel
theorem dX10_restore_128 : decode cX10_restore 128 = .ok (.iaload, 1) := by decide +kernel
theorem dX10_restore_129 : decode cX10_restore 129 = .ok (.putfield 167, 3) := by decide +kernel
theorem dX10_restore_132 : decode cX10_restore 132 = .ok (.iconst 1, 1) := by decide +kernel
theorem dX10_restore_133 : decode cX10_restore 133 = .ok (.ireturn, 1) := by decide +kernel
theorem dX10_told_0 : decode cX10_told 0 = .ok (.iload_n 1, 1) := by decide +kernel
theorem dX10_told_1 : decode cX10_told 1 = .ok (.bipush 100, 2) := by decide +kernel
theorem dX10_told_3 : decode cX10_told 3 = .ok (.if_icmp .lt 63, 3) := by decide +kernel
theorem dX10_told_6 : decode cX10_told 6 = .ok (.iload_n 1, 1) := by decide +kernel
theorem dX10_told_7 : decode cX10_told 7 = .ok (.bipush 10, 2) := by decide +kernel
theorem dX10_told_9 : decode cX10_told 9 = .ok (.idiv, 1) := by decide +kernel
theorem dX10_told_10 : decode cX10_told 10 = .ok (.bipush 10, 2) := by decide +kernel
theorem dX10_told_12 : decode cX10_told 12 = .ok (.isub, 1) := by decide +kernel
theorem dX10_told_13 : decode cX10_told 13 = .ok (.istore_n 2, 1) := by decide +kernel
theorem dX10_told_14 : decode cX10_told 14 = .ok (.iload_n 1, 1) := by decide +kernel
theorem dX10_told_15 : decode cX10_told 15 = .ok (.bipush 10, 2) := by decide +kernel
theorem dX10_told_17 : decode cX10_told 17 = .ok (.irem, 1) := by decide +kernel
theorem dX10_told_18 : decode cX10_told 18 = .ok (.istore_n 3, 1) := by decide +kernel
theorem dX10_told_19 : decode cX10_told 19 = .ok (.iload_n 2, 1) := by decide +kernel
theorem dX10_told_20 : decode cX10_told 20 = .ok (.invokestatic 69, 3) := by decide +kernel
theorem dX10_told_23 : decode cX10_told 23 = .ok (.ifCond .eq 8, 3) := by decide +kernel
theorem dX10_told_26 : decode cX10_told 26 = .ok (.iload_n 3, 1) := by decide +kernel
theorem dX10_told_27 : decode cX10_told 27 = .ok (.iconst 2, 1) := by decide +kernel
theorem dX10_told_28 : decode cX10_told 28 = .ok (.if_icmp .le 8, 3) := by decide +kernel
theorem dX10_told_31 : decode cX10_told 31 = .ok (.bipush (-2), 2) := by decide +kernel
theorem dX10_told_33 : decode cX10_told 33 = .ok (.goto 32, 3) := by decide +kernel
theorem dX10_told_36 : decode cX10_told 36 = .ok (.iload_n 3, 1) := by decide +kernel
theorem dX10_told_37 : decode cX10_told 37 = .ok (.ifCond .ne 15, 3) := by decide +kernel
theorem dX10_told_40 : decode cX10_told 40 = .ok (.aload_n 0, 1) := by decide +kernel
theorem dX10_told_41 : decode cX10_told 41 = .ok (.getfield 7, 3) := by decide +kernel
theorem dX10_told_44 : decode cX10_told 44 = .ok (.bipush 34, 2) := by decide +kernel
theorem dX10_told_46 : decode cX10_told 46 = .ok (.iload_n 2, 1) := by decide +kernel
theorem dX10_told_47 : decode cX10_told 47 = .ok (.iadd, 1) := by decide +kernel
theorem dX10_told_48 : decode cX10_told 48 = .ok (.iaload, 1) := by decide +kernel
theorem dX10_told_49 : decode cX10_told 49 = .ok (.goto 16, 3) := by decide +kernel
theorem dX10_told_52 : decode cX10_told 52 = .ok (.aload_n 0, 1) := by decide +kernel
theorem dX10_told_53 : decode cX10_told 53 = .ok (.getfield 7, 3) := by decide +kernel
theorem dX10_told_56 : decode cX10_told 56 = .ok (.bipush 22, 2) := by decide +kernel
theorem dX10_told_58 : decode cX10_told 58 = .ok (.iconst 4, 1) := by decide +kernel
theorem dX10_told_59 : decode cX10_told 59 = .ok (.iload_n 3, 1) := by decide +kernel
theorem dX10_told_60 : decode cX10_told 60 = .ok (.imul, 1) := by decide +kernel
theorem dX10_told_61 : decode cX10_told 61 = .ok (.iadd, 1) := by decide +kernel
theorem dX10_told_62 : decode cX10_told 62 = .ok (.iload_n 2, 1) := by decide +kernel
theorem dX10_told_63 : decode cX10_told 63 = .ok (.iadd, 1) := by decide +kernel
theorem dX10_told_64 : decode cX10_told 64 = .ok (.iaload, 1) := by decide +kernel
theorem dX10_told_65 : decode cX10_told 65 = .ok (.ireturn, 1) := by decide +kernel
theorem dX10_told_66 : decode cX10_told 66 = .ok (.iload_n 1, 1) := by decide +kernel
theorem dX10_told_67 : decode cX10_told 67 = .ok (.bipush 40, 2) := by decide +kernel
theorem dX10_told_69 : decode cX10_told 69 = .ok (.if_icmp .lt 54, 3) := by decide +kernel
theorem dX10_told_72 : decode cX10_told 72 = .ok (.iload_n 1, 1) := by decide +kernel
theorem dX10_told_73 : decode cX10_told 73 = .ok (.bipush 10, 2) := by decide +kernel
theorem dX10_told_75 : decode cX10_told 75 = .ok (.idiv, 1) := by decide +kernel
theorem dX10_told_76 : decode cX10_told 76 = .ok (.iconst 4, 1) := by decide +kernel
theorem dX10_told_77 : decode cX10_told 77 = .ok (.isub, 1) := by decide +kernel
theorem dX10_told_78 : decode cX10_told 78 = .ok (.istore_n 2, 1) := by decide +kernel
theorem dX10_told_79 : decode cX10_told 79 = .ok (.iload_n 1, 1) := by decide +kernel
theorem dX10_told_80 : decode cX10_told 80 = .ok (.bipush 10, 2) := by decide +kernel
theorem dX10_told_82 : decode cX10_told 82 = .ok (.irem, 1) := by decide +kernel
theorem dX10_told_83 : decode cX10_told 83 = .ok (.istore_n 3, 1) := by decide +kernel
theorem dX10_told_84 : decode cX10_told 84 = .ok (.aload_n 0, 1) := by decide +kernel
theorem dX10_told_85 : decode cX10_told 85 = .ok (.invokevirtual 122, 3) := by decide +kernel
theorem dX10_told_88 : decode cX10_told 88 = .ok (.iload_n 3, 1) := by decide +kernel
theorem dX10_told_89 : decode cX10_told 89 = .ok (.iconst 3, 1) := by decide +kernel
theorem dX10_told_90 : decode cX10_told 90 = .ok (.if_icmp .le 8, 3) := by decide +kernel
theorem dX10_told_93 : decode cX10_told 93 = .ok (.bipush (-2), 2) := by decide +kernel
theorem dX10_told_95 : decode cX10_told 95 = .ok (.goto 27, 3) := by decide +kernel
theorem dX10_told_98 : decode cX10_told 98 = .ok (.iload_n 3, 1) := by decide +kernel
theorem dX10_told_99 : decode cX10_told 99 = .ok (.iconst 3, 1) := by decide +kernel
theorem dX10_told_100 : decode cX10_told 100 = .ok (.if_icmp .ne 11, 3) := by decide +kernel
theorem dX10_told_103 : decode cX10_told 103 = .ok (.aload_n 0, 1) := by decide +kernel
theorem dX10_told_104 : decode cX10_told 104 = .ok (.iload_n 2, 1) := by decide +kernel
theorem dX10_told_105 : decode cX10_told 105 = .ok (.invokevirtual 90, 3) := by decide +kernel
theorem dX10_told_108 : decode cX10_told 108 = .ok (.goto 14, 3) := by decide +kernel
theorem dX10_told_111 : decode cX10_told 111 = .ok (.aload_n 0, 1) := by decide +kernel
theorem dX10_told_112 : decode cX10_told 112 = .ok (.getfield 7, 3) := by decide +kernel
theorem dX10_told_115 : decode cX10_told 115 = .ok (.bipush 6, 2) := by decide +kernel
theorem dX10_told_117 : decode cX10_told 117 = .ok (.iload_n 3, 1) := by decide +kernel
theorem dX10_told_118 : decode cX10_told 118 = .ok (.imul, 1) := by decide +kernel
theorem dX10_told_119 : decode cX10_told 119 = .ok (.iload_n 2, 1) := by decide +kernel
theorem dX10_told_120 : decode cX10_told 120 = .ok (.iadd, 1) := by decide +kernel
theorem dX10_told_121 : decode cX10_told 121 = .ok (.iaload, 1) := by decide +kernel
theorem dX10_told_122 : decode cX10_told 122 = .ok (.ireturn, 1) := by decide +kernel
theorem dX10_told_123 : decode cX10_told 123 = .ok (.iload_n 1, 1) := by decide +kernel
theorem dX10_told_124 : decode cX10_told 124 = .ok (.bipush 20, 2) := by decide +kernel
theorem dX10_told_126 : decode cX10_told 126 = .ok (.if_icmp .lt 31, 3) := by decide +kernel
theorem dX10_told_129 : decode cX10_told 129 = .ok (.iload_n 1, 1) := by decide +kernel
theorem dX10_told_130 : decode cX10_told 130 = .ok (.bipush 20, 2) := by decide +kernel
theorem dX10_told_132 : decode cX10_told 132 = .ok (.isub, 1) := by decide +kernel
theorem dX10_told_133 : decode cX10_told 133 = .ok (.invokestatic 66, 3) := by decide +kernel
theorem dX10_told_136 : decode cX10_told 136 = .ok (.ifCond .eq 18, 3) := by decide +kernel
theorem dX10_told_139 : decode cX10_told 139 = .ok (.aload_n 0, 1) := by decide +kernel
theorem dX10_told_140 : decode cX10_told 140 = .ok (.getfield 7, 3) := by decide +kernel
theorem dX10_told_143 : decode cX10_told 143 = .ok (.bipush 18, 2) := by decide +kernel
theorem dX10_told_145 : decode cX10_told 145 = .ok (.iload_n 1, 1) := by decide +kernel
theorem dX10_told_146 : decode cX10_told 146 = .ok (.iadd, 1) := by decide +kernel
theorem dX10_told_147 : decode cX10_told 147 = .ok (.bipush 20, 2) := by decide +kernel
theorem dX10_told_149 : decode cX10_told 149 = .ok (.isub, 1) := by decide +kernel
theorem dX10_told_150 : decode cX10_told 150 = .ok (.iaload, 1) := by decide +kernel
theorem dX10_told_151 : decode cX10_told 151 = .ok (.goto 5, 3) := by decide +kernel
theorem dX10_told_154 : decode cX10_told 154 = .ok (.bipush (-2), 2) := by decide +kernel
theorem dX10_told_156 : decode cX10_told 156 = .ok (.ireturn, 1) := by decide +kernel
theorem dX10_told_157 : decode cX10_told 157 = .ok (.iload_n 1, 1) := by decide +kernel
theorem dX10_told_158 : decode cX10_told 158 = .ok (.bipush 10, 2) := by decide +kernel
theorem dX10_told_160 : decode cX10_told 160 = .ok (.if_icmp .lt 32, 3) := by decide +kernel
theorem dX10_told_163 : decode cX10_told 163 = .ok (.iload_n 1, 1) := by decide +kernel
theorem dX10_told_164 : decode cX10_told 164 = .ok (.bipush 10, 2) := by decide +kernel
theorem dX10_told_166 : decode cX10_told 166 = .ok (.bipush 16, 2) := by decide +kernel
theorem dX10_told_168 : decode cX10_told 168 = .ok (.invokestatic 57, 3) := by decide +kernel
theorem dX10_told_171 : decode cX10_told 171 = .ok (.ifCond .eq 18, 3) := by decide +kernel
theorem dX10_told_174 : decode cX10_told 174 = .ok (.aload_n 0, 1) := by decide +kernel
theorem dX10_told_175 : decode cX10_told 175 = .ok (.getfield 16, 3) := by decide +kernel
theorem dX10_told_178 : decode cX10_told 178 = .ok (.iload_n 1, 1) := by decide +kernel
theorem dX10_told_179 : decode cX10_told 179 = .ok (.bipush 10, 2) := by decide +kernel
theorem dX10_told_181 : decode cX10_told 181 = .ok (.isub, 1) := by decide +kernel
theorem dX10_told_182 : decode cX10_told 182 = .ok (.iaload, 1) := by decide +kernel
theorem dX10_told_183 : decode cX10_told 183 = .ok (.bipush 9, 2) := by decide +kernel
theorem dX10_told_185 : decode cX10_told 185 = .ok (.iadd, 1) := by decide +kernel
theorem dX10_told_186 : decode cX10_told 186 = .ok (.goto 5, 3) := by decide +kernel
theorem dX10_told_189 : decode cX10_told 189 = .ok (.bipush (-2), 2) := by decide +kernel
theorem dX10_told_191 : decode cX10_told 191 = .ok (.ireturn, 1) := by decide +kernel
theorem dX10_told_192 : decode cX10_told 192 = .ok (.iload_n 1, 1) := by decide +kernel
theorem dX10_told_193 : decode cX10_told 193 = .ok (.ifCond .ne 10, 3) := by decide +kernel
theorem dX10_told_196 : decode cX10_told 196 = .ok (.aload_n 0, 1) := by decide +kernel
theorem dX10_told_197 : decode cX10_told 197 = .ok (.getfield 72, 3) := by decide +kernel
theorem dX10_told_200 : decode cX10_told 200 = .ok (.goto 39, 3) := by decide +kernel
theorem dX10_told_203 : decode cX10_told 203 = .ok (.iload_n 1, 1) := by decide +kernel
theorem dX10_told_204 : decode cX10_told 204 = .ok (.iconst 1, 1) := by decide +kernel
theorem dX10_told_205 : decode cX10_told 205 = .ok (.if_icmp .eq 8, 3) := by decide +kernel
theorem dX10_told_208 : decode cX10_told 208 = .ok (.iload_n 1, 1) := by decide +kernel
theorem dX10_told_209 : decode cX10_told 209 = .ok (.iconst 2, 1) := by decide +kernel
theorem dX10_told_210 : decode cX10_told 210 = .ok (.if_icmp .ne 15, 3) := by decide +kernel
theorem dX10_told_213 : decode cX10_told 213 = .ok (.aload_n 0, 1) := by decide +kernel
theorem dX10_told_214 : decode cX10_told 214 = .ok (.getfield 7, 3) := by decide +kernel
theorem dX10_told_217 : decode cX10_told 217 = .ok (.bipush 37, 2) := by decide +kernel
theorem dX10_told_219 : decode cX10_told 219 = .ok (.iload_n 1, 1) := by decide +kernel
theorem dX10_told_220 : decode cX10_told 220 = .ok (.iadd, 1) := by decide +kernel
theorem dX10_told_221 : decode cX10_told 221 = .ok (.iaload, 1) := by decide +kernel
theorem dX10_told_222 : decode cX10_told 222 = .ok (.goto 17, 3) := by decide +kernel
theorem dX10_told_225 : decode cX10_told 225 = .ok (.iload_n 1, 1) := by decide +kernel
theorem dX10_told_226 : decode cX10_told 226 = .ok (.iconst 3, 1) := by decide +kernel
theorem dX10_told_227 : decode cX10_told 227 = .ok (.if_icmp .ne 10, 3) := by decide +kernel
theorem dX10_told_230 : decode cX10_told 230 = .ok (.aload_n 0, 1) := by decide +kernel
theorem dX10_told_231 : decode cX10_told 231 = .ok (.getfield 167, 3) := by decide +kernel
theorem dX10_told_234 : decode cX10_told 234 = .ok (.goto 5, 3) := by decide +kernel
theorem dX10_told_237 : decode cX10_told 237 = .ok (.bipush (-2), 2) := by decide +kernel
theorem dX10_told_239 : decode cX10_told 239 = .ok (.ireturn, 1) := by decide +kernel
