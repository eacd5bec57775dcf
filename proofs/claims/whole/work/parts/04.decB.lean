theorem dX9_init_0 : decode cX9_init 0 = .ok (.aload_n 0, 1) := by decide +kernel
theorem dX9_init_1 : decode cX9_init 1 = .ok (.invokespecial 1, 3) := by decide +kernel
theorem dX9_init_4 : decode cX9_init 4 = .ok (.aload_n 0, 1) := by decide +kernel
theorem dX9_init_5 : decode cX9_init 5 = .ok (.new 7, 3) := by decide +kernel
theorem dX9_init_8 : decode cX9_init 8 = .ok (.dup, 1) := by decide +kernel
theorem dX9_init_9 : decode cX9_init 9 = .ok (.invokespecial 9, 3) := by decide +kernel
theorem dX9_init_12 : decode cX9_init 12 = .ok (.putfield 10, 3) := by decide +kernel
theorem dX9_init_15 : decode cX9_init 15 = .ok (.aload_n 0, 1) := by decide +kernel
theorem dX9_init_16 : decode cX9_init 16 = .ok (.new 16, 3) := by decide +kernel
theorem dX9_init_19 : decode cX9_init 19 = .ok (.dup, 1) := by decide +kernel
theorem dX9_init_20 : decode cX9_init 20 = .ok (.invokespecial 18, 3) := by decide +kernel
theorem dX9_init_23 : decode cX9_init 23 = .ok (.putfield 19, 3) := by decide +kernel
theorem dX9_init_26 : decode cX9_init 26 = .ok (.aload_n 0, 1) := by decide +kernel
theorem dX9_init_27 : decode cX9_init 27 = .ok (.new 16, 3) := by decide +kernel
theorem dX9_init_30 : decode cX9_init 30 = .ok (.dup, 1) := by decide +kernel
theorem dX9_init_31 : decode cX9_init 31 = .ok (.invokespecial 18, 3) := by decide +kernel
theorem dX9_init_34 : decode cX9_init 34 = .ok (.putfield 23, 3) := by decide +kernel
theorem dX9_init_37 : decode cX9_init 37 = .ok (.aload_n 0, 1) := by decide +kernel
theorem dX9_init_38 : decode cX9_init 38 = .ok (.new 26, 3) := by decide +kernel
theorem dX9_init_41 : decode cX9_init 41 = .ok (.dup, 1) := by decide +kernel
theorem dX9_init_42 : decode cX9_init 42 = .ok (.invokespecial 28, 3) := by decide +kernel
theorem dX9_init_45 : decode cX9_init 45 = .ok (.putfield 29, 3) := by decide +kernel
theorem dX9_init_48 : decode cX9_init 48 = .ok (.aload_n 0, 1) := by decide +kernel
theorem dX9_init_49 : decode cX9_init 49 = .ok (.new 33, 3) := by decide +kernel
theorem dX9_init_52 : decode cX9_init 52 = .ok (.dup, 1) := by decide +kernel
theorem dX9_init_53 : decode cX9_init 53 = .ok (.invokespecial 35, 3) := by decide +kernel
theorem dX9_init_56 : decode cX9_init 56 = .ok (.putfield 36, 3) := by decide +kernel
theorem dX9_init_59 : decode cX9_init 59 = .ok (.aload_n 0, 1) := by decide +kernel
theorem dX9_init_60 : decode cX9_init 60 = .ok (.new 40, 3) := by decide +kernel
theorem dX9_init_63 : decode cX9_init 63 = .ok (.dup, 1) := by decide +kernel
theorem dX9_init_64 : decode cX9_init 64 = .ok (.invokespecial 42, 3) := by decide +kernel
theorem dX9_init_67 : decode cX9_init 67 = .ok (.putfield 43, 3) := by decide +kernel
theorem dX9_init_70 : decode cX9_init 70 = .ok (.aload_n 0, 1) := by decide +kernel
theorem dX9_init_71 : decode cX9_init 71 = .ok (.new 47, 3) := by decide +kernel
theorem dX9_init_74 : decode cX9_init 74 = .ok (.dup, 1) := by decide +kernel
theorem dX9_init_75 : decode cX9_init 75 = .ok (.invokespecial 49, 3) := by decide +kernel
theorem dX9_init_78 : decode cX9_init 78 = .ok (.putfield 50, 3) := by decide +kernel
theorem dX9_init_81 : decode cX9_init 81 = .ok (.aload_n 0, 1) := by decide +kernel
theorem dX9_init_82 : decode cX9_init 82 = .ok (.new 54, 3) := by decide +kernel
theorem dX9_init_85 : decode cX9_init 85 = .ok (.dup, 1) := by decide +kernel
theorem dX9_init_86 : decode cX9_init 86 = .ok (.invokespecial 56, 3) := by decide +kernel
theorem dX9_init_89 : decode cX9_init 89 = .ok (.putfield 57, 3) := by decide +kernel
theorem dX9_init_92 : decode cX9_init 92 = .ok (.aload_n 0, 1) := by decide +kernel
theorem dX9_init_93 : decode cX9_init 93 = .ok (.new 61, 3) := by decide +kernel
theorem dX9_init_96 : decode cX9_init 96 = .ok (.dup, 1) := by decide +kernel
theorem dX9_init_97 : decode cX9_init 97 = .ok (.invokespecial 63, 3) := by decide +kernel
theorem dX9_init_100 : decode cX9_init 100 = .ok (.putfield 64, 3) := by decide +kernel
theorem dX9_init_103 : decode cX9_init 103 = .ok (.aload_n 0, 1) := by decide +kernel
theorem dX9_init_104 : decode cX9_init 104 = .ok (.new 68, 3) := by decide +kernel
theorem dX9_init_107 : decode cX9_init 107 = .ok (.dup, 1) := by decide +kernel
theorem dX9_init_108 : decode cX9_init 108 = .ok (.invokespecial 70, 3) := by decide +kernel
theorem dX9_init_111 : decode cX9_init 111 = .ok (.putfield 71, 3) := by decide +kernel
theorem dX9_init_114 : decode cX9_init 114 = .ok (.return_, 1) := by decide +kernel
theorem dX9_inch_0 : decode cX9_inch 0 = .ok (.iload_n 1, 1) := by decide +kernel
theorem dX9_inch_1 : decode cX9_inch 1 = .ok (.iconst 1, 1) := by decide +kernel
theorem dX9_inch_2 : decode cX9_inch 2 = .ok (.sipush 200, 3) := by decide +kernel
theorem dX9_inch_5 : decode cX9_inch 5 = .ok (.invokestatic 75, 3) := by decide +kernel
theorem dX9_inch_8 : decode cX9_inch 8 = .ok (.ifCond .ne 6, 3) := by decide +kernel
theorem dX9_inch_11 : decode cX9_inch 11 = .ok (.bipush (-2), 2) := by decide +kernel
theorem dX9_inch_13 : decode cX9_inch 13 = .ok (.ireturn, 1) := by decide +kernel
theorem dX9_inch_14 : decode cX9_inch 14 = .ok (.aload_n 0, 1) := by decide +kernel
theorem dX9_inch_15 : decode cX9_inch 15 = .ok (.getfield 10, 3) := by decide +kernel
theorem dX9_inch_18 : decode cX9_inch 18 = .ok (.getfield 79, 3) := by decide +kernel
theorem dX9_inch_21 : decode cX9_inch 21 = .ok (.istore_n 2, 1) := by decide +kernel
theorem dX9_inch_22 : decode cX9_inch 22 = .ok (.aload_n 0, 1) := by decide +kernel
theorem dX9_inch_23 : decode cX9_inch 23 = .ok (.getfield 10, 3) := by decide +kernel
theorem dX9_inch_26 : decode cX9_inch 26 = .ok (.iload_n 1, 1) := by decide +kernel
theorem dX9_inch_27 : decode cX9_inch 27 = .ok (.putfield 79, 3) := by decide +kernel
theorem dX9_inch_30 : decode cX9_inch 30 = .ok (.iload_n 2, 1) := by decide +kernel
theorem dX9_inch_31 : decode cX9_inch 31 = .ok (.ireturn, 1) := by decide +kernel
theorem dX9_week_0 : decode cX9_week 0 = .ok (.iload_n 1, 1) := by decide +kernel
theorem dX9_week_1 : decode cX9_week 1 = .ok (.iconst 0, 1) := by decide +kernel
theorem dX9_week_2 : decode cX9_week 2 = .ok (.bipush 6, 2) := by decide +kernel
theorem dX9_week_4 : decode cX9_week 4 = .ok (.invokestatic 75, 3) := by decide +kernel
theorem dX9_week_7 : decode cX9_week 7 = .ok (.ifCond .eq 14, 3) := by decide +kernel
theorem dX9_week_10 : decode cX9_week 10 = .ok (.iload_n 2, 1) := by decide +kernel
theorem dX9_week_11 : decode cX9_week 11 = .ok (.bipush (-9), 2) := by decide +kernel
theorem dX9_week_13 : decode cX9_week 13 = .ok (.bipush 9, 2) := by decide +kernel
theorem dX9_week_15 : decode cX9_week 15 = .ok (.invokestatic 75, 3) := by decide +kernel
theorem dX9_week_18 : decode cX9_week 18 = .ok (.ifCond .ne 6, 3) := by decide +kernel
theorem dX9_week_21 : decode cX9_week 21 = .ok (.bipush (-2), 2) := by decide +kernel
theorem dX9_week_23 : decode cX9_week 23 = .ok (.ireturn, 1) := by decide +kernel
theorem dX9_week_24 : decode cX9_week 24 = .ok (.aload_n 0, 1) := by decide +kernel
theorem dX9_week_25 : decode cX9_week 25 = .ok (.getfield 10, 3) := by decide +kernel
theorem dX9_week_28 : decode cX9_week 28 = .ok (.getfield 83, 3) := by decide +kernel
theorem dX9_week_31 : decode cX9_week 31 = .ok (.iload_n 1, 1) := by decide +kernel
theorem dX9_week_32 : decode cX9_week 32 = .ok (.iaload, 1) := by decide +kernel
theorem dX9_week_33 : decode cX9_week 33 = .ok (.istore_n 3, 1) := by decide +kernel
theorem dX9_week_34 : decode cX9_week 34 = .ok (.aload_n 0, 1) := by decide +kernel
theorem dX9_week_35 : decode cX9_week 35 = .ok (.getfield 10, 3) := by decide +kernel
theorem dX9_week_38 : decode cX9_week 38 = .ok (.getfield 83, 3) := by decide +kernel
theorem dX9_week_41 : decode cX9_week 41 = .ok (.iload_n 1, 1) := by decide +kernel
theorem dX9_week_42 : decode cX9_week 42 = .ok (.iload_n 2, 1) := by decide +kernel
theorem dX9_week_43 : decode cX9_week 43 = .ok (.iastore, 1) := by decide +kernel
theorem dX9_week_44 : decode cX9_week 44 = .ok (.iload_n 3, 1) := by decide +kernel
theorem dX9_week_45 : decode cX9_week 45 = .ok (.bipush 9, 2) := by decide +kernel
theorem dX9_week_47 : decode cX9_week 47 = .ok (.iadd, 1) := by decide +kernel
theorem dX9_week_48 : decode cX9_week 48 = .ok (.ireturn, 1) := by decide +kernel
theorem dX9_one_0 : decode cX9_one 0 = .ok (.iload_n 1, 1) := by decide +kernel
theorem dX9_one_1 : decode cX9_one 1 = .ok (.invokestatic 87, 3) := by decide +kernel
theorem dX9_one_4 : decode cX9_one 4 = .ok (.ifCond .ne 5, 3) := by decide +kernel
theorem dX9_one_7 : decode cX9_one 7 = .ok (.iconst (-1), 1) := by decide +kernel
theorem dX9_one_8 : decode cX9_one 8 = .ok (.ireturn, 1) := by decide +kernel
theorem dX9_one_9 : decode cX9_one 9 = .ok (.iload_n 2, 1) := by decide +kernel
theorem dX9_one_10 : decode cX9_one 10 = .ok (.iconst 0, 1) := by decide +kernel
theorem dX9_one_11 : decode cX9_one 11 = .ok (.sipush 9999, 3) := by decide +kernel
theorem dX9_one_14 : decode cX9_one 14 = .ok (.invokestatic 75, 3) := by decide +kernel
theorem dX9_one_17 : decode cX9_one 17 = .ok (.ifCond .eq 25, 3) := by decide +kernel
theorem dX9_one_20 : decode cX9_one 20 = .ok (.iload_n 3, 1) := by decide +kernel
theorem dX9_one_21 : decode cX9_one 21 = .ok (.iconst 0, 1) := by decide +kernel
theorem dX9_one_22 : decode cX9_one 22 = .ok (.ldc 91, 2) := by decide +kernel
theorem dX9_one_24 : decode cX9_one 24 = .ok (.invokestatic 75, 3) := by decide +kernel
theorem dX9_one_27 : decode cX9_one 27 = .ok (.ifCond .eq 15, 3) := by decide +kernel
theorem dX9_one_30 : decode cX9_one 30 = .ok (.iload 4, 2) := by decide +kernel
theorem dX9_one_32 : decode cX9_one 32 = .ok (.iconst 0, 1) := by decide +kernel
theorem dX9_one_33 : decode cX9_one 33 = .ok (.sipush 200, 3) := by decide +kernel
theorem dX9_one_36 : decode cX9_one 36 = .ok (.invokestatic 75, 3) := by decide +kernel
theorem dX9_one_39 : decode cX9_one 39 = .ok (.ifCond .ne 6, 3) := by decide +kernel
theorem dX9_one_42 : decode cX9_one 42 = .ok (.bipush (-2), 2) := by decide +kernel
theorem dX9_one_44 : decode cX9_one 44 = .ok (.ireturn, 1) := by decide +kernel
theorem dX9_one_45 : decode cX9_one 45 = .ok (.aload_n 0, 1) := by decide +kernel
theorem dX9_one_46 : decode cX9_one 46 = .ok (.getfield 10, 3) := by decide +kernel
theorem dX9_one_49 : decode cX9_one 49 = .ok (.getfield 92, 3) := by decide +kernel
theorem dX9_one_52 : decode cX9_one 52 = .ok (.iload_n 1, 1) := by decide +kernel
theorem dX9_one_53 : decode cX9_one 53 = .ok (.iaload, 1) := by decide +kernel
theorem dX9_one_54 : decode cX9_one 54 = .ok (.istore 5, 2) := by decide +kernel
theorem dX9_one_56 : decode cX9_one 56 = .ok (.aload_n 0, 1) := by decide +kernel
theorem dX9_one_57 : decode cX9_one 57 = .ok (.getfield 10, 3) := by decide +kernel
theorem dX9_one_60 : decode cX9_one 60 = .ok (.getfield 92, 3) := by decide +kernel
theorem dX9_one_63 : decode cX9_one 63 = .ok (.iload_n 1, 1) := by decide +kernel
theorem dX9_one_64 : decode cX9_one 64 = .ok (.iload_n 2, 1) := by decide +kernel
theorem dX9_one_65 : decode cX9_one 65 = .ok (.iastore, 1) := by decide +kernel
theorem dX9_one_66 : decode cX9_one 66 = .ok (.aload_n 0, 1) := by decide +kernel
theorem dX9_one_67 : decode cX9_one 67 = .ok (.getfield 10, 3) := by decide +kernel
theorem dX9_one_70 : decode cX9_one 70 = .ok (.getfield 95, 3) := by decide +kernel
theorem dX9_one_73 : decode cX9_one 73 = .ok (.iload_n 1, 1) := by decide +kernel
theorem dX9_one_74 : decode cX9_one 74 = .ok (.iload_n 3, 1) := by decide +kernel
theorem dX9_one_75 : decode cX9_one 75 = .ok (.iastore, 1) := by decide +kernel
theorem dX9_one_76 : decode cX9_one 76 = .ok (.aload_n 0, 1) := by decide +kernel
theorem dX9_one_77 : decode cX9_one 77 = .ok (.getfield 10, 3) := by decide +kernel
theorem dX9_one_80 : decode cX9_one 80 = .ok (.getfield 98, 3) := by decide +kernel
theorem dX9_one_83 : decode cX9_one 83 = .ok (.iload_n 1, 1) := by decide +kernel
theorem dX9_one_84 : decode cX9_one 84 = .ok (.iload 4, 2) := by decide +kernel
theorem dX9_one_86 : decode cX9_one 86 = .ok (.iastore, 1) := by decide +kernel
theorem dX9_one_87 : decode cX9_one 87 = .ok (.iload 5, 2) := by decide +kernel
theorem dX9_one_89 : decode cX9_one 89 = .ok (.ireturn, 1) := by decide +kernel
theorem dX9_stick_0 : decode cX9_stick 0 = .ok (.iload_n 1, 1) := by decide +kernel
theorem dX9_stick_1 : decode cX9_stick 1 = .ok (.invokestatic 101, 3) := by decide +kernel
theorem dX9_stick_4 : decode cX9_stick 4 = .ok (.ifCond .ne 5, 3) := by decide +kernel
theorem dX9_stick_7 : decode cX9_stick 7 = .ok (.iconst (-1), 1) := by decide +kernel
theorem dX9_stick_8 : decode cX9_stick 8 = .ok (.ireturn, 1) := by decide +kernel
theorem dX9_stick_9 : decode cX9_stick 9 = .ok (.iload_n 2, 1) := by decide +kernel
theorem dX9_stick_10 : decode cX9_stick 10 = .ok (.iconst 0, 1) := by decide +kernel
theorem dX9_stick_11 : decode cX9_stick 11 = .ok (.sipush 1800, 3) := by decide +kernel
theorem dX9_stick_14 : decode cX9_stick 14 = .ok (.invokestatic 75, 3) := by decide +kernel
theorem dX9_stick_17 : decode cX9_stick 17 = .ok (.ifCond .ne 6, 3) := by decide +kernel
theorem dX9_stick_20 : decode cX9_stick 20 = .ok (.bipush (-2), 2) := by decide +kernel
theorem dX9_stick_22 : decode cX9_stick 22 = .ok (.ireturn, 1) := by decide +kernel
theorem dX9_stick_23 : decode cX9_stick 23 = .ok (.aload_n 0, 1) := by decide +kernel
theorem dX9_stick_24 : decode cX9_stick 24 = .ok (.getfield 10, 3) := by decide +kernel
theorem dX9_stick_27 : decode cX9_stick 27 = .ok (.getfield 104, 3) := by decide +kernel
theorem dX9_stick_30 : decode cX9_stick 30 = .ok (.iload_n 1, 1) := by decide +kernel
theorem dX9_stick_31 : decode cX9_stick 31 = .ok (.iaload, 1) := by decide +kernel
theorem dX9_stick_32 : decode cX9_stick 32 = .ok (.istore_n 3, 1) := by decide +kernel
theorem dX9_stick_33 : decode cX9_stick 33 = .ok (.aload_n 0, 1) := by decide +kernel
theorem dX9_stick_34 : decode cX9_stick 34 = .ok (.getfield 10, 3) := by decide +kernel
theorem dX9_stick_37 : decode cX9_stick 37 = .ok (.getfield 104, 3) := by decide +kernel
theorem dX9_stick_40 : decode cX9_stick 40 = .ok (.iload_n 1, 1) := by decide +kernel
theorem dX9_stick_41 : decode cX9_stick 41 = .ok (.iload_n 2, 1) := by decide +kernel
theorem dX9_stick_42 : decode cX9_stick 42 = .ok (.iastore, 1) := by decide +kernel
theorem dX9_stick_43 : decode cX9_stick 43 = .ok (.iload_n 3, 1) := by decide +kernel
theorem dX9_stick_44 : decode cX9_stick 44 = .ok (.ireturn, 1) := by decide +kernel
theorem dX9_bridge_0 : decode cX9_bridge 0 = .ok (.iload_n 1, 1) := by decide +kernel
theorem dX9_bridge_1 : decode cX9_bridge 1 = .ok (.invokestatic 107, 3) := by decide +kernel
theorem dX9_bridge_4 : decode cX9_bridge 4 = .ok (.ifCond .ne 5, 3) := by decide +kernel
theorem dX9_bridge_7 : decode cX9_bridge 7 = .ok (.iconst (-1), 1) := by decide +kernel
theorem dX9_bridge_8 : decode cX9_bridge 8 = .ok (.ireturn, 1) := by decide +kernel
theorem dX9_bridge_9 : decode cX9_bridge 9 = .ok (.iload_n 2, 1) := by decide +kernel
theorem dX9_bridge_10 : decode cX9_bridge 10 = .ok (.iconst 1, 1) := by decide +kernel
theorem dX9_bridge_11 : decode cX9_bridge 11 = .ok (.ldc 91, 2) := by decide +kernel
theorem dX9_bridge_13 : decode cX9_bridge 13 = .ok (.invokestatic 75, 3) := by decide +kernel
theorem dX9_bridge_16 : decode cX9_bridge 16 = .ok (.ifCond .ne 6, 3) := by decide +kernel
theorem dX9_bridge_19 : decode cX9_bridge 19 = .ok (.bipush (-2), 2) := by decide +kernel
theorem dX9_bridge_21 : decode cX9_bridge 21 = .ok (.ireturn, 1) := by decide +kernel
theorem dX9_bridge_22 : decode cX9_bridge 22 = .ok (.aload_n 0, 1) := by decide +kernel
theorem dX9_bridge_23 : decode cX9_bridge 23 = .ok (.getfield 10, 3) := by decide +kernel
theorem dX9_bridge_26 : decode cX9_bridge 26 = .ok (.getfield 110, 3) := by decide +kernel
theorem dX9_bridge_29 : decode cX9_bridge 29 = .ok (.iload_n 1, 1) := by decide +kernel
theorem dX9_bridge_30 : decode cX9_bridge 30 = .ok (.iaload, 1) := by decide +kernel
theorem dX9_bridge_31 : decode cX9_bridge 31 = .ok (.istore_n 3, 1) := by decide +kernel
theorem dX9_bridge_32 : decode cX9_bridge 32 = .ok (.aload_n 0, 1) := by decide +kernel
theorem dX9_bridge_33 : decode cX9_bridge 33 = .ok (.getfield 10, 3) := by decide +kernel
theorem dX9_bridge_36 : decode cX9_bridge 36 = .ok (.getfield 110, 3) := by decide +kernel
theorem dX9_bridge_39 : decode cX9_bridge 39 = .ok (.iload_n 1, 1) := by decide +kernel
theorem dX9_bridge_40 : decode cX9_bridge 40 = .ok (.iload_n 2, 1) := by decide +kernel
theorem dX9_bridge_41 : decode cX9_bridge 41 = .ok (.iastore, 1) := by decide +kernel
theorem dX9_bridge_42 : decode cX9_bridge 42 = .ok (.aload_n 0, 1) := by decide +kernel
theorem dX9_bridge_43 : decode cX9_bridge 43 = .ok (.getfield 10, 3) := by decide +kernel
theorem dX9_bridge_46 : decode cX9_bridge 46 = .ok (.getfield 113, 3) := by decide +kernel
theorem dX9_bridge_49 : decode cX9_bridge 49 = .ok (.iload_n 1, 1) := by decide +kernel
theorem dX9_bridge_50 : decode cX9_bridge 50 = .ok (.iconst 0, 1) := by decide +kernel
theorem dX9_bridge_51 : decode cX9_bridge 51 = .ok (.iastore, 1) := by decide +kernel
theorem dX9_bridge_52 : decode cX9_bridge 52 = .ok (.aload_n 0, 1) := by decide +kernel
theorem dX9_bridge_53 : decode cX9_bridge 53 = .ok (.getfield 10, 3) := by decide +kernel
theorem dX9_bridge_56 : decode cX9_bridge 56 = .ok (.getfield 116, 3) := by decide +kernel
theorem dX9_bridge_59 : decode cX9_bridge 59 = .ok (.iload_n 1, 1) := by decide +kernel
theorem dX9_bridge_60 : decode cX9_bridge 60 = .ok (.iconst 0, 1) := by decide +kernel
theorem dX9_bridge_61 : decode cX9_bridge 61 = .ok (.iastore, 1) := by decide +kernel
theorem dX9_bridge_62 : decode cX9_bridge 62 = .ok (.iload_n 3, 1) := by decide +kernel
theorem dX9_bridge_63 : decode cX9_bridge 63 = .ok (.ireturn, 1) := by decide +kernel
theorem dX9_say_0 : decode cX9_say 0 = .ok (.iload_n 1, 1) := by decide +kernel
theorem dX9_say_1 : decode cX9_say 1 = .ok (.bipush 33, 2) := by decide +kernel
theorem dX9_say_3 : decode cX9_say 3 = .ok (.bipush 126, 2) := by decide +kernel
theorem dX9_say_5 : decode cX9_say 5 = .ok (.invokestatic 75, 3) := by decide +kernel
theorem dX9_say_8 : decode cX9_say 8 = .ok (.ifCond .ne 6, 3) := by decide +kernel
theorem dX9_say_11 : decode cX9_say 11 = .ok (.bipush (-2), 2) := by decide +kernel
theorem dX9_say_13 : decode cX9_say 13 = .ok (.ireturn, 1) := by decide +kernel
theorem dX9_say_14 : decode cX9_say 14 = .ok (.aload_n 0, 1) := by decide +kernel
theorem dX9_say_15 : decode cX9_say 15 = .ok (.getfield 29, 3) := by decide +kernel
theorem dX9_say_18 : decode cX9_say 18 = .ok (.iload_n 1, 1) := by decide +kernel
theorem dX9_say_19 : decode cX9_say 19 = .ok (.invokevirtual 119, 3) := by decide +kernel
theorem dX9_say_22 : decode cX9_say 22 = .ok (.ifCond .eq 13, 3) := by decide +kernel
theorem dX9_say_25 : decode cX9_say 25 = .ok (.aload_n 0, 1) := by decide +kernel
theorem dX9_say_26 : decode cX9_say 26 = .ok (.getfield 29, 3) := by decide +kernel
theorem dX9_say_29 : decode cX9_say 29 = .ok (.getfield 122, 3) := by decide +kernel
theorem dX9_say_32 : decode cX9_say 32 = .ok (.goto 5, 3) := by decide +kernel
theorem dX9_say_35 : decode cX9_say 35 = .ok (.bipush (-4), 2) := by decide +kernel
theorem dX9_say_37 : decode cX9_say 37 = .ok (.ireturn, 1) := by decide +kernel
theorem dX9_wipe_0 : decode cX9_wipe 0 = .ok (.aload_n 0, 1) := by decide +kernel
theorem dX9_wipe_1 : decode cX9_wipe 1 = .ok (.getfield 29, 3) := by decide +kernel
theorem dX9_wipe_4 : decode cX9_wipe 4 = .ok (.invokevirtual 125, 3) := by decide +kernel
theorem dX9_wipe_7 : decode cX9_wipe 7 = .ok (.ireturn, 1) := by decide +kernel
theorem dX9_fault_0 : decode cX9_fault 0 = .ok (.aload_n 0, 1) := by decide +kernel
theorem dX9_fault_1 : decode cX9_fault 1 = .ok (.getfield 29, 3) := by decide +kernel
theorem dX9_fault_4 : decode cX9_fault 4 = .ok (.invokevirtual 129, 3) := by decide +kernel
theorem dX9_fault_7 : decode cX9_fault 7 = .ok (.ireturn, 1) := by decide +kernel
theorem dX9_judge_0 : decode cX9_judge 0 = .ok (.iload_n 1, 1) := by decide +kernel
theorem dX9_judge_1 : decode cX9_judge 1 = .ok (.iconst 0, 1) := by decide +kernel
theorem dX9_judge_2 : decode cX9_judge 2 = .ok (.iconst 1, 1) := by decide +kernel
theorem dX9_judge_3 : decode cX9_judge 3 = .ok (.invokestatic 75, 3) := by decide +kernel
theorem dX9_judge_6 : decode cX9_judge 6 = .ok (.ifCond .ne 6, 3) := by decide +kernel
theorem dX9_judge_9 : decode cX9_judge 9 = .ok (.bipush (-2), 2) := by decide +kernel
theorem dX9_judge_11 : decode cX9_judge 11 = .ok (.ireturn, 1) := by decide +kernel
theorem dX9_judge_12 : decode cX9_judge 12 = .ok (.aload_n 0, 1) := by decide +kernel
theorem dX9_judge_13 : decode cX9_judge 13 = .ok (.getfield 36, 3) := by decide +kernel
theorem dX9_judge_16 : decode cX9_judge 16 = .ok (.aload_n 0, 1) := by decide +kernel
theorem dX9_judge_17 : decode cX9_judge 17 = .ok (.getfield 10, 3) := by decide +kernel
theorem dX9_judge_20 : decode cX9_judge 20 = .ok (.aload_n 0, 1) := by decide +kernel
theorem dX9_judge_21 : decode cX9_judge 21 = .ok (.getfield 29, 3) := by decide +kernel
theorem dX9_judge_24 : decode cX9_judge 24 = .ok (.invokevirtual 132, 3) := by decide +kernel
theorem dX9_judge_27 : decode cX9_judge 27 = .ok (.ifCond .ne 6, 3) := by decide +kernel
theorem dX9_judge_30 : decode cX9_judge 30 = .ok (.bipush (-5), 2) := by decide +kernel
theorem dX9_judge_32 : decode cX9_judge 32 = .ok (.ireturn, 1) := by decide +kernel
theorem dX9_judge_33 : decode cX9_judge 33 = .ok (.iload_n 1, 1) := by decide +kernel
theorem dX9_judge_34 : decode cX9_judge 34 = .ok (.ifCond .ne 13, 3) := by decide +kernel
theorem dX9_judge_37 : decode cX9_judge 37 = .ok (.aload_n 0, 1) := by decide +kernel
theorem dX9_judge_38 : decode cX9_judge 38 = .ok (.getfield 36, 3) := by decide +kernel
theorem dX9_judge_41 : decode cX9_judge 41 = .ok (.getfield 136, 3) := by decide +kernel
theorem dX9_judge_44 : decode cX9_judge 44 = .ok (.goto 10, 3) := by decide +kernel
theorem dX9_judge_47 : decode cX9_judge 47 = .ok (.aload_n 0, 1) := by decide +kernel
theorem dX9_judge_48 : decode cX9_judge 48 = .ok (.getfield 36, 3) := by decide +kernel
theorem dX9_judge_51 : decode cX9_judge 51 = .ok (.getfield 139, 3) := by decide +kernel
theorem dX9_judge_54 : decode cX9_judge 54 = .ok (.ireturn, 1) := by decide +kernel
theorem dX9_done_0 : decode cX9_done 0 = .ok (.aload_n 0, 1) := by decide +kernel
theorem dX9_done_1 : decode cX9_done 1 = .ok (.invokevirtual 142, 3) := by decide +kernel
theorem dX9_done_4 : decode cX9_done 4 = .ok (.ifCond .ne 6, 3) := by decide +kernel
theorem dX9_done_7 : decode cX9_done 7 = .ok (.bipush (-5), 2) := by decide +kernel
theorem dX9_done_9 : decode cX9_done 9 = .ok (.ireturn, 1) := by decide +kernel
theorem dX9_done_10 : decode cX9_done 10 = .ok (.aload_n 0, 1) := by decide +kernel
theorem dX9_done_11 : decode cX9_done 11 = .ok (.getfield 10, 3) := by decide +kernel
theorem dX9_done_14 : decode cX9_done 14 = .ok (.aload_n 0, 1) := by decide +kernel
theorem dX9_done_15 : decode cX9_done 15 = .ok (.getfield 36, 3) := by decide +kernel
theorem dX9_done_18 : decode cX9_done 18 = .ok (.getfield 146, 3) := by decide +kernel
theorem dX9_done_21 : decode cX9_done 21 = .ok (.invokevirtual 149, 3) := by decide +kernel
theorem dX9_done_24 : decode cX9_done 24 = .ok (.aload_n 0, 1) := by decide +kernel
theorem dX9_done_25 : decode cX9_done 25 = .ok (.getfield 29, 3) := by decide +kernel
theorem dX9_done_28 : decode cX9_done 28 = .ok (.invokevirtual 125, 3) := by decide +kernel
theorem dX9_done_31 : decode cX9_done 31 = .ok (.pop, 1) := by decide +kernel
theorem dX9_done_32 : decode cX9_done 32 = .ok (.aload_n 0, 1) := by decide +kernel
theorem dX9_done_33 : decode cX9_done 33 = .ok (.getfield 36, 3) := by decide +kernel
theorem dX9_done_36 : decode cX9_done 36 = .ok (.getfield 153, 3) := by decide +kernel
theorem dX9_done_39 : decode cX9_done 39 = .ok (.ireturn, 1) := by decide +kernel
theorem dX9_behind_0 : decode cX9_behind 0 = .ok (.iload_n 1, 1) := by decide +kernel
theorem dX9_behind_1 : decode cX9_behind 1 = .ok (.invokestatic 87, 3) := by decide +kernel
theorem dX9_behind_4 : decode cX9_behind 4 = .ok (.ifCond .ne 5, 3) := by decide +kernel
theorem dX9_behind_7 : decode cX9_behind 7 = .ok (.iconst (-1), 1) := by decide +kernel
theorem dX9_behind_8 : decode cX9_behind 8 = .ok (.ireturn, 1) := by decide +kernel
theorem dX9_behind_9 : decode cX9_behind 9 = .ok (.iload_n 2, 1) := by decide +kernel
theorem dX9_behind_10 : decode cX9_behind 10 = .ok (.iconst 0, 1) := by decide +kernel
theorem dX9_behind_11 : decode cX9_behind 11 = .ok (.iconst 2, 1) := by decide +kernel
theorem dX9_behind_12 : decode cX9_behind 12 = .ok (.invokestatic 75, 3) := by decide +kernel
theorem dX9_behind_15 : decode cX9_behind 15 = .ok (.ifCond .ne 6, 3) := by decide +kernel
theorem dX9_behind_18 : decode cX9_behind 18 = .ok (.bipush (-2), 2) := by decide +kernel
theorem dX9_behind_20 : decode cX9_behind 20 = .ok (.ireturn, 1) := by decide +kernel
theorem dX9_behind_21 : decode cX9_behind 21 = .ok (.aload_n 0, 1) := by decide +kernel
theorem dX9_behind_22 : decode cX9_behind 22 = .ok (.invokevirtual 142, 3) := by decide +kernel
theorem dX9_behind_25 : decode cX9_behind 25 = .ok (.ifCond .eq 18, 3) := by decide +kernel
theorem dX9_behind_28 : decode cX9_behind 28 = .ok (.aload_n 0, 1) := by decide +kernel
theorem dX9_behind_29 : decode cX9_behind 29 = .ok (.getfield 36, 3) := by decide +kernel
theorem dX9_behind_32 : decode cX9_behind 32 = .ok (.getfield 146, 3) := by decide +kernel
theorem dX9_behind_35 : decode cX9_behind 35 = .ok (.iload_n 1, 1) := by decide +kernel
theorem dX9_behind_36 : decode cX9_behind 36 = .ok (.iload_n 2, 1) := by decide +kernel
theorem dX9_behind_37 : decode cX9_behind 37 = .ok (.invokevirtual 156, 3) := by decide +kernel
theorem dX9_behind_40 : decode cX9_behind 40 = .ok (.goto 5, 3) := by decide +kernel
theorem dX9_behind_43 : decode cX9_behind 43 = .ok (.bipush (-5), 2) := by decide +kernel
theorem dX9_behind_45 : decode cX9_behind 45 = .ok (.ireturn, 1) := by decide +kernel
theorem dX9_lies_0 : decode cX9_lies 0 = .ok (.iload_n 1, 1) := by decide +kernel
theorem dX9_lies_1 : decode cX9_lies 1 = .ok (.invokestatic 101, 3) := by decide +kernel
theorem dX9_lies_4 : decode cX9_lies 4 = .ok (.ifCond .ne 5, 3) := by decide +kernel
theorem dX9_lies_7 : decode cX9_lies 7 = .ok (.iconst (-1), 1) := by decide +kernel
theorem dX9_lies_8 : decode cX9_lies 8 = .ok (.ireturn, 1) := by decide +kernel
theorem dX9_lies_9 : decode cX9_lies 9 = .ok (.aload_n 0, 1) := by decide +kernel
theorem dX9_lies_10 : decode cX9_lies 10 = .ok (.invokevirtual 142, 3) := by decide +kernel
theorem dX9_lies_13 : decode cX9_lies 13 = .ok (.ifCond .eq 18, 3) := by decide +kernel
theorem dX9_lies_16 : decode cX9_lies 16 = .ok (.aload_n 0, 1) := by decide +kernel
theorem dX9_lies_17 : decode cX9_lies 17 = .ok (.getfield 36, 3) := by decide +kernel
theorem dX9_lies_20 : decode cX9_lies 20 = .ok (.getfield 146, 3) := by decide +kernel
theorem dX9_lies_23 : decode cX9_lies 23 = .ok (.getfield 104, 3) := by decide +kernel
theorem dX9_lies_26 : decode cX9_lies 26 = .ok (.iload_n 1, 1) := by decide +kernel
theorem dX9_lies_27 : decode cX9_lies 27 = .ok (.iaload, 1) := by decide +kernel
theorem dX9_lies_28 : decode cX9_lies 28 = .ok (.goto 5, 3) := by decide +kernel
theorem dX9_lies_31 : decode cX9_lies 31 = .ok (.bipush (-5), 2) := by decide +kernel
theorem dX9_lies_33 : decode cX9_lies 33 = .ok (.ireturn, 1) := by decide +kernel
theorem dX9_built_0 : decode cX9_built 0 = .ok (.iload_n 1, 1) := by decide +kernel
theorem dX9_built_1 : decode cX9_built 1 = .ok (.invokestatic 107, 3) := by decide +kernel
theorem dX9_built_4 : decode cX9_built 4 = .ok (.ifCond .ne 5, 3) := by decide +kernel
theorem dX9_built_7 : decode cX9_built 7 = .ok (.iconst (-1), 1) := by decide +kernel
theorem dX9_built_8 : decode cX9_built 8 = .ok (.ireturn, 1) := by decide +kernel
theorem dX9_built_9 : decode cX9_built 9 = .ok (.iload_n 2, 1) := by decide +kernel
theorem dX9_built_10 : decode cX9_built 10 = .ok (.iconst 0, 1) := by decide +kernel
theorem dX9_built_11 : decode cX9_built 11 = .ok (.iconst 2, 1) := by decide +kernel
theorem dX9_built_12 : decode cX9_built 12 = .ok (.invokestatic 75, 3) := by decide +kernel
theorem dX9_built_15 : decode cX9_built 15 = .ok (.ifCond .ne 6, 3) := by decide +kernel
theorem dX9_built_18 : decode cX9_built 18 = .ok (.bipush (-2), 2) := by decide +kernel
theorem dX9_built_20 : decode cX9_built 20 = .ok (.ireturn, 1) := by decide +kernel
theorem dX9_built_21 : decode cX9_built 21 = .ok (.aload_n 0, 1) := by decide +kernel
theorem dX9_built_22 : decode cX9_built 22 = .ok (.invokevirtual 142, 3) := by decide +kernel
theorem dX9_built_25 : decode cX9_built 25 = .ok (.ifCond .ne 6, 3) := by decide +kernel
theorem dX9_built_28 : decode cX9_built 28 = .ok (.bipush (-5), 2) := by decide +kernel
theorem dX9_built_30 : decode cX9_built 30 = .ok (.ireturn, 1) := by decide +kernel
theorem dX9_built_31 : decode cX9_built 31 = .ok (.iload_n 2, 1) := by decide +kernel
theorem dX9_built_32 : decode cX9_built 32 = .ok (.iconst 2, 1) := by decide +kernel
theorem dX9_built_33 : decode cX9_built 33 = .ok (.if_icmp .ne 15, 3) := by decide +kernel
theorem dX9_built_36 : decode cX9_built 36 = .ok (.aload_n 0, 1) := by decide +kernel
theorem dX9_built_37 : decode cX9_built 37 = .ok (.getfield 36, 3) := by decide +kernel
theorem dX9_built_40 : decode cX9_built 40 = .ok (.getfield 146, 3) := by decide +kernel
theorem dX9_built_43 : decode cX9_built 43 = .ok (.iload_n 1, 1) := by decide +kernel
theorem dX9_built_44 : decode cX9_built 44 = .ok (.invokevirtual 160, 3) := by decide +kernel
theorem dX9_built_47 : decode cX9_built 47 = .ok (.ireturn, 1) := by decide +kernel
theorem dX9_built_48 : decode cX9_built 48 = .ok (.iload_n 2, 1) := by decide +kernel
theorem dX9_built_49 : decode cX9_built 49 = .ok (.ifCond .ne 18, 3) := by decide +kernel
theorem dX9_built_52 : decode cX9_built 52 = .ok (.aload_n 0, 1) := by decide +kernel
theorem dX9_built_53 : decode cX9_built 53 = .ok (.getfield 36, 3) := by decide +kernel
theorem dX9_built_56 : decode cX9_built 56 = .ok (.getfield 146, 3) := by decide +kernel
theorem dX9_built_59 : decode cX9_built 59 = .ok (.getfield 113, 3) := by decide +kernel
theorem dX9_built_62 : decode cX9_built 62 = .ok (.iload_n 1, 1) := by decide +kernel
theorem dX9_built_63 : decode cX9_built 63 = .ok (.iaload, 1) := by decide +kernel
theorem dX9_built_64 : decode cX9_built 64 = .ok (.goto 15, 3) := by decide +kernel
theorem dX9_built_67 : decode cX9_built 67 = .ok (.aload_n 0, 1) := by decide +kernel
theorem dX9_built_68 : decode cX9_built 68 = .ok (.getfield 36, 3) := by decide +kernel
theorem dX9_built_71 : decode cX9_built 71 = .ok (.getfield 146, 3) := by decide +kernel
theorem dX9_built_74 : decode cX9_built 74 = .ok (.getfield 116, 3) := by decide +kernel
theorem dX9_built_77 : decode cX9_built 77 = .ok (.iload_n 1, 1) := by decide +kernel
theorem dX9_built_78 : decode cX9_built 78 = .ok (.iaload, 1) := by decide +kernel
theorem dX9_built_79 : decode cX9_built 79 = .ok (.ireturn, 1) := by decide +kernel
theorem dX9_then_0 : decode cX9_then 0 = .ok (.iload_n 1, 1) := by decide +kernel
theorem dX9_then_1 : decode cX9_then 1 = .ok (.iconst 0, 1) := by decide +kernel
theorem dX9_then_2 : decode cX9_then 2 = .ok (.iconst 3, 1) := by decide +kernel
theorem dX9_then_3 : decode cX9_then 3 = .ok (.invokestatic 75, 3) := by decide +kernel
theorem dX9_then_6 : decode cX9_then 6 = .ok (.ifCond .ne 6, 3) := by decide +kernel
theorem dX9_then_9 : decode cX9_then 9 = .ok (.bipush (-2), 2) := by decide +kernel
theorem dX9_then_11 : decode cX9_then 11 = .ok (.ireturn, 1) := by decide +kernel
theorem dX9_then_12 : decode cX9_then 12 = .ok (.aload_n 0, 1) := by decide +kernel
theorem dX9_then_13 : decode cX9_then 13 = .ok (.invokevirtual 142, 3) := by decide +kernel
theorem dX9_then_16 : decode cX9_then 16 = .ok (.ifCond .ne 6, 3) := by decide +kernel
theorem dX9_then_19 : decode cX9_then 19 = .ok (.bipush (-5), 2) := by decide +kernel
theorem dX9_then_21 : decode cX9_then 21 = .ok (.ireturn, 1) := by decide +kernel
theorem dX9_then_22 : decode cX9_then 22 = .ok (.iload_n 1, 1) := by decide +kernel
theorem dX9_then_23 : decode cX9_then 23 = .ok (.tableswitch 55 0 2 #[25, 36, 47], 25) := by decide +kernel
theorem dX9_then_48 : decode cX9_then 48 = .ok (.aload_n 0, 1) := by decide +kernel
theorem dX9_then_49 : decode cX9_then 49 = .ok (.getfield 36, 3) := by decide +kernel
theorem dX9_then_52 : decode cX9_then 52 = .ok (.getfield 146, 3) := by decide +kernel
theorem dX9_then_55 : decode cX9_then 55 = .ok (.getfield 79, 3) := by decide +kernel
theorem dX9_then_58 : decode cX9_then 58 = .ok (.ireturn, 1) := by decide +kernel
theorem dX9_then_59 : decode cX9_then 59 = .ok (.aload_n 0, 1) := by decide +kernel
theorem dX9_then_60 : decode cX9_then 60 = .ok (.getfield 36, 3) := by decide +kernel
theorem dX9_then_63 : decode cX9_then 63 = .ok (.getfield 146, 3) := by decide +kernel
theorem dX9_then_66 : decode cX9_then 66 = .ok (.getfield 164, 3) := by decide +kernel
theorem dX9_then_69 : decode cX9_then 69 = .ok (.ireturn, 1) := by decide +kernel
theorem dX9_then_70 : decode cX9_then 70 = .ok (.aload_n 0, 1) := by decide +kernel
theorem dX9_then_71 : decode cX9_then 71 = .ok (.getfield 36, 3) := by decide +kernel
theorem dX9_then_74 : decode cX9_then 74 = .ok (.getfield 167, 3) := by decide +kernel
theorem dX9_then_77 : decode cX9_then 77 = .ok (.ireturn, 1) := by decide +kernel
theorem dX9_then_78 : decode cX9_then 78 = .ok (.aload_n 0, 1) := by decide +kernel
theorem dX9_then_79 : decode cX9_then 79 = .ok (.getfield 36, 3) := by decide +kernel
theorem dX9_then_82 : decode cX9_then 82 = .ok (.getfield 170, 3) := by decide +kernel
theorem dX9_then_85 : decode cX9_then 85 = .ok (.ireturn, 1) := by decide +kernel
theorem dX9_inches_0 : decode cX9_inches 0 = .ok (.iload_n 1, 1) := by decide +kernel
theorem dX9_inches_1 : decode cX9_inches 1 = .ok (.invokestatic 101, 3) := by decide +kernel
theorem dX9_inches_4 : decode cX9_inches 4 = .ok (.ifCond .eq 10, 3) := by decide +kernel
theorem dX9_inches_7 : decode cX9_inches 7 = .ok (.iload_n 2, 1) := by decide +kernel
theorem dX9_inches_8 : decode cX9_inches 8 = .ok (.invokestatic 87, 3) := by decide +kernel
theorem dX9_inches_11 : decode cX9_inches 11 = .ok (.ifCond .ne 7, 3) := by decide +kernel
theorem dX9_inches_14 : decode cX9_inches 14 = .ok (.ldc2_w 173, 3) := by decide +kernel
theorem dX9_inches_17 : decode cX9_inches 17 = .ok (.lreturn, 1) := by decide +kernel
theorem dX9_inches_18 : decode cX9_inches 18 = .ok (.iload_n 3, 1) := by decide +kernel
theorem dX9_inches_19 : decode cX9_inches 19 = .ok (.iconst 0, 1) := by decide +kernel
theorem dX9_inches_20 : decode cX9_inches 20 = .ok (.iconst 1, 1) := by decide +kernel
theorem dX9_inches_21 : decode cX9_inches 21 = .ok (.invokestatic 75, 3) := by decide +kernel
theorem dX9_inches_24 : decode cX9_inches 24 = .ok (.ifCond .ne 7, 3) := by decide +kernel
theorem dX9_inches_27 : decode cX9_inches 27 = .ok (.ldc2_w 175, 3) := by decide +kernel
theorem dX9_inches_30 : decode cX9_inches 30 = .ok (.lreturn, 1) := by decide +kernel
theorem dX9_inches_31 : decode cX9_inches 31 = .ok (.aload_n 0, 1) := by decide +kernel
theorem dX9_inches_32 : decode cX9_inches 32 = .ok (.getfield 10, 3) := by decide +kernel
theorem dX9_inches_35 : decode cX9_inches 35 = .ok (.getfield 104, 3) := by decide +kernel
theorem dX9_inches_38 : decode cX9_inches 38 = .ok (.iload_n 1, 1) := by decide +kernel
theorem dX9_inches_39 : decode cX9_inches 39 = .ok (.iaload, 1) := by decide +kernel
theorem dX9_inches_40 : decode cX9_inches 40 = .ok (.i2l, 1) := by decide +kernel
theorem dX9_inches_41 : decode cX9_inches 41 = .ok (.aload_n 0, 1) := by decide +kernel
theorem dX9_inches_42 : decode cX9_inches 42 = .ok (.getfield 10, 3) := by decide +kernel
theorem dX9_inches_45 : decode cX9_inches 45 = .ok (.iload_n 2, 1) := by decide +kernel
theorem dX9_inches_46 : decode cX9_inches 46 = .ok (.invokevirtual 177, 3) := by decide +kernel
theorem dX9_inches_49 : decode cX9_inches 49 = .ok (.i2l, 1) := by decide +kernel
theorem dX9_inches_50 : decode cX9_inches 50 = .ok (.iload_n 3, 1) := by decide +kernel
theorem dX9_inches_51 : decode cX9_inches 51 = .ok (.invokestatic 180, 3) := by decide +kernel
theorem dX9_inches_54 : decode cX9_inches 54 = .ok (.lreturn, 1) := by decide +kernel
theorem dX9_will_0 : decode cX9_will 0 = .ok (.iload_n 1, 1) := by decide +kernel
theorem dX9_will_1 : decode cX9_will 1 = .ok (.iconst 0, 1) := by decide +kernel
theorem dX9_will_2 : decode cX9_will 2 = .ok (.bipush 99, 2) := by decide +kernel
theorem dX9_will_4 : decode cX9_will 4 = .ok (.invokestatic 75, 3) := by decide +kernel
theorem dX9_will_7 : decode cX9_will 7 = .ok (.ifCond .ne 6, 3) := by decide +kernel
theorem dX9_will_10 : decode cX9_will 10 = .ok (.bipush (-2), 2) := by decide +kernel
theorem dX9_will_12 : decode cX9_will 12 = .ok (.ireturn, 1) := by decide +kernel
theorem dX9_will_13 : decode cX9_will 13 = .ok (.aload_n 0, 1) := by decide +kernel
theorem dX9_will_14 : decode cX9_will 14 = .ok (.getfield 43, 3) := by decide +kernel
theorem dX9_will_17 : decode cX9_will 17 = .ok (.aload_n 0, 1) := by decide +kernel
theorem dX9_will_18 : decode cX9_will 18 = .ok (.getfield 10, 3) := by decide +kernel
theorem dX9_will_21 : decode cX9_will 21 = .ok (.iload_n 1, 1) := by decide +kernel
theorem dX9_will_22 : decode cX9_will 22 = .ok (.invokevirtual 184, 3) := by decide +kernel
theorem dX9_will_25 : decode cX9_will 25 = .ok (.aload_n 0, 1) := by decide +kernel
theorem dX9_will_26 : decode cX9_will 26 = .ok (.getfield 43, 3) := by decide +kernel
theorem dX9_will_29 : decode cX9_will 29 = .ok (.getfield 188, 3) := by decide +kernel
theorem dX9_will_32 : decode cX9_will 32 = .ok (.iload_n 1, 1) := by decide +kernel
theorem dX9_will_33 : decode cX9_will 33 = .ok (.iaload, 1) := by decide +kernel
theorem dX9_will_34 : decode cX9_will 34 = .ok (.ireturn, 1) := by decide +kernel
theorem dX9_sure_0 : decode cX9_sure 0 = .ok (.iload_n 1, 1) := by decide +kernel
theorem dX9_sure_1 : decode cX9_sure 1 = .ok (.iconst 1, 1) := by decide +kernel
theorem dX9_sure_2 : decode cX9_sure 2 = .ok (.bipush 60, 2) := by decide +kernel
theorem dX9_sure_4 : decode cX9_sure 4 = .ok (.invokestatic 75, 3) := by decide +kernel
theorem dX9_sure_7 : decode cX9_sure 7 = .ok (.ifCond .eq 12, 3) := by decide +kernel
theorem dX9_sure_10 : decode cX9_sure 10 = .ok (.iload_n 2, 1) := by decide +kernel
theorem dX9_sure_11 : decode cX9_sure 11 = .ok (.iconst 0, 1) := by decide +kernel
theorem dX9_sure_12 : decode cX9_sure 12 = .ok (.iconst 1, 1) := by decide +kernel
theorem dX9_sure_13 : decode cX9_sure 13 = .ok (.invokestatic 75, 3) := by decide +kernel
theorem dX9_sure_16 : decode cX9_sure 16 = .ok (.ifCond .ne 7, 3) := by decide +kernel
theorem dX9_sure_19 : decode cX9_sure 19 = .ok (.ldc2_w 175, 3) := by decide +kernel
theorem dX9_sure_22 : decode cX9_sure 22 = .ok (.lreturn, 1) := by decide +kernel
theorem dX9_sure_23 : decode cX9_sure 23 = .ok (.aload_n 0, 1) := by decide +kernel
theorem dX9_sure_24 : decode cX9_sure 24 = .ok (.getfield 43, 3) := by decide +kernel
theorem dX9_sure_27 : decode cX9_sure 27 = .ok (.aload_n 0, 1) := by decide +kernel
theorem dX9_sure_28 : decode cX9_sure 28 = .ok (.getfield 10, 3) := by decide +kernel
theorem dX9_sure_31 : decode cX9_sure 31 = .ok (.iload_n 1, 1) := by decide +kernel
theorem dX9_sure_32 : decode cX9_sure 32 = .ok (.invokevirtual 184, 3) := by decide +kernel
theorem dX9_sure_35 : decode cX9_sure 35 = .ok (.aload_n 0, 1) := by decide +kernel
theorem dX9_sure_36 : decode cX9_sure 36 = .ok (.getfield 43, 3) := by decide +kernel
theorem dX9_sure_39 : decode cX9_sure 39 = .ok (.iload_n 1, 1) := by decide +kernel
theorem dX9_sure_40 : decode cX9_sure 40 = .ok (.invokevirtual 191, 3) := by decide +kernel
theorem dX9_sure_43 : decode cX9_sure 43 = .ok (.aload_n 0, 1) := by decide +kernel
theorem dX9_sure_44 : decode cX9_sure 44 = .ok (.getfield 43, 3) := by decide +kernel
theorem dX9_sure_47 : decode cX9_sure 47 = .ok (.getfield 188, 3) := by decide +kernel
theorem dX9_sure_50 : decode cX9_sure 50 = .ok (.aload_n 0, 1) := by decide +kernel
theorem dX9_sure_51 : decode cX9_sure 51 = .ok (.getfield 43, 3) := by decide +kernel
theorem dX9_sure_54 : decode cX9_sure 54 = .ok (.getfield 195, 3) := by decide +kernel
theorem dX9_sure_57 : decode cX9_sure 57 = .ok (.iaload, 1) := by decide +kernel
theorem dX9_sure_58 : decode cX9_sure 58 = .ok (.i2l, 1) := by decide +kernel
theorem dX9_sure_59 : decode cX9_sure 59 = .ok (.aload_n 0, 1) := by decide +kernel
theorem dX9_sure_60 : decode cX9_sure 60 = .ok (.getfield 43, 3) := by decide +kernel
theorem dX9_sure_63 : decode cX9_sure 63 = .ok (.getfield 188, 3) := by decide +kernel
theorem dX9_sure_66 : decode cX9_sure 66 = .ok (.aload_n 0, 1) := by decide +kernel
theorem dX9_sure_67 : decode cX9_sure 67 = .ok (.getfield 43, 3) := by decide +kernel
theorem dX9_sure_70 : decode cX9_sure 70 = .ok (.getfield 198, 3) := by decide +kernel
theorem dX9_sure_73 : decode cX9_sure 73 = .ok (.iaload, 1) := by decide +kernel
theorem dX9_sure_74 : decode cX9_sure 74 = .ok (.i2l, 1) := by decide +kernel
theorem dX9_sure_75 : decode cX9_sure 75 = .ok (.iload_n 2, 1) := by decide +kernel
theorem dX9_sure_76 : decode cX9_sure 76 = .ok (.invokestatic 180, 3) := by decide +kernel
theorem dX9_sure_79 : decode cX9_sure 79 = .ok (.lreturn, 1) := by decide +kernel
theorem dX9_when_0 : decode cX9_when 0 = .ok (.iload_n 1, 1) := by decide +kernel
theorem dX9_when_1 : decode cX9_when 1 = .ok (.iconst 1, 1) := by decide +kernel
theorem dX9_when_2 : decode cX9_when 2 = .ok (.bipush 60, 2) := by decide +kernel
theorem dX9_when_4 : decode cX9_when 4 = .ok (.invokestatic 75, 3) := by decide +kernel
theorem dX9_when_7 : decode cX9_when 7 = .ok (.ifCond .ne 6, 3) := by decide +kernel
theorem dX9_when_10 : decode cX9_when 10 = .ok (.bipush (-2), 2) := by decide +kernel
theorem dX9_when_12 : decode cX9_when 12 = .ok (.ireturn, 1) := by decide +kernel
theorem dX9_when_13 : decode cX9_when 13 = .ok (.aload_n 0, 1) := by decide +kernel
theorem dX9_when_14 : decode cX9_when 14 = .ok (.getfield 43, 3) := by decide +kernel
theorem dX9_when_17 : decode cX9_when 17 = .ok (.aload_n 0, 1) := by decide +kernel
theorem dX9_when_18 : decode cX9_when 18 = .ok (.getfield 10, 3) := by decide +kernel
theorem dX9_when_21 : decode cX9_when 21 = .ok (.iload_n 1, 1) := by decide +kernel
theorem dX9_when_22 : decode cX9_when 22 = .ok (.invokevirtual 184, 3) := by decide +kernel
theorem dX9_when_25 : decode cX9_when 25 = .ok (.aload_n 0, 1) := by decide +kernel
theorem dX9_when_26 : decode cX9_when 26 = .ok (.getfield 43, 3) := by decide +kernel
theorem dX9_when_29 : decode cX9_when 29 = .ok (.iload_n 1, 1) := by decide +kernel
theorem dX9_when_30 : decode cX9_when 30 = .ok (.invokevirtual 191, 3) := by decide +kernel
theorem dX9_when_33 : decode cX9_when 33 = .ok (.bipush 100, 2) := by decide +kernel
theorem dX9_when_35 : decode cX9_when 35 = .ok (.aload_n 0, 1) := by decide +kernel
theorem dX9_when_36 : decode cX9_when 36 = .ok (.getfield 43, 3) := by decide +kernel
theorem dX9_when_39 : decode cX9_when 39 = .ok (.getfield 195, 3) := by decide +kernel
theorem dX9_when_42 : decode cX9_when 42 = .ok (.imul, 1) := by decide +kernel
theorem dX9_when_43 : decode cX9_when 43 = .ok (.aload_n 0, 1) := by decide +kernel
theorem dX9_when_44 : decode cX9_when 44 = .ok (.getfield 43, 3) := by decide +kernel
theorem dX9_when_47 : decode cX9_when 47 = .ok (.getfield 198, 3) := by decide +kernel
theorem dX9_when_50 : decode cX9_when 50 = .ok (.iadd, 1) := by decide +kernel
theorem dX9_when_51 : decode cX9_when 51 = .ok (.ireturn, 1) := by decide +kernel
theorem dX9_meet_0 : decode cX9_meet 0 = .ok (.iload_n 1, 1) := by decide +kernel
theorem dX9_meet_1 : decode cX9_meet 1 = .ok (.iconst 1, 1) := by decide +kernel
theorem dX9_meet_2 : decode cX9_meet 2 = .ok (.ldc 91, 2) := by decide +kernel
theorem dX9_meet_4 : decode cX9_meet 4 = .ok (.invokestatic 75, 3) := by decide +kernel
theorem dX9_meet_7 : decode cX9_meet 7 = .ok (.ifCond .eq 45, 3) := by decide +kernel
theorem dX9_meet_10 : decode cX9_meet 10 = .ok (.iload_n 2, 1) := by decide +kernel
theorem dX9_meet_11 : decode cX9_meet 11 = .ok (.iconst 0, 1) := by decide +kernel
theorem dX9_meet_12 : decode cX9_meet 12 = .ok (.bipush 20, 2) := by decide +kernel
theorem dX9_meet_14 : decode cX9_meet 14 = .ok (.invokestatic 75, 3) := by decide +kernel
theorem dX9_meet_17 : decode cX9_meet 17 = .ok (.ifCond .eq 35, 3) := by decide +kernel
theorem dX9_meet_20 : decode cX9_meet 20 = .ok (.iload_n 3, 1) := by decide +kernel
theorem dX9_meet_21 : decode cX9_meet 21 = .ok (.iconst 0, 1) := by decide +kernel
theorem dX9_meet_22 : decode cX9_meet 22 = .ok (.bipush 20, 2) := by decide +kernel
theorem dX9_meet_24 : decode cX9_meet 24 = .ok (.invokestatic 75, 3) := by decide +kernel
theorem dX9_meet_27 : decode cX9_meet 27 = .ok (.ifCond .eq 25, 3) := by decide +kernel
theorem dX9_meet_30 : decode cX9_meet 30 = .ok (.iload 4, 2) := by decide +kernel
theorem dX9_meet_32 : decode cX9_meet 32 = .ok (.iconst 1, 1) := by decide +kernel
theorem dX9_meet_33 : decode cX9_meet 33 = .ok (.sipush 200, 3) := by decide +kernel
theorem dX9_meet_36 : decode cX9_meet 36 = .ok (.invokestatic 75, 3) := by decide +kernel
theorem dX9_meet_39 : decode cX9_meet 39 = .ok (.ifCond .eq 13, 3) := by decide +kernel
theorem dX9_meet_42 : decode cX9_meet 42 = .ok (.iload 5, 2) := by decide +kernel
theorem dX9_meet_44 : decode cX9_meet 44 = .ok (.iconst 0, 1) := by decide +kernel
theorem dX9_meet_45 : decode cX9_meet 45 = .ok (.iconst 1, 1) := by decide +kernel
theorem dX9_meet_46 : decode cX9_meet 46 = .ok (.invokestatic 75, 3) := by decide +kernel
theorem dX9_meet_49 : decode cX9_meet 49 = .ok (.ifCond .ne 6, 3) := by decide +kernel
theorem dX9_meet_52 : decode cX9_meet 52 = .ok (.bipush (-2), 2) := by decide +kernel
theorem dX9_meet_54 : decode cX9_meet 54 = .ok (.ireturn, 1) := by decide +kernel
theorem dX9_meet_55 : decode cX9_meet 55 = .ok (.aload_n 0, 1) := by decide +kernel
theorem dX9_meet_56 : decode cX9_meet 56 = .ok (.getfield 43, 3) := by decide +kernel
theorem dX9_meet_59 : decode cX9_meet 59 = .ok (.aload_n 0, 1) := by decide +kernel
theorem dX9_meet_60 : decode cX9_meet 60 = .ok (.getfield 10, 3) := by decide +kernel
theorem dX9_meet_63 : decode cX9_meet 63 = .ok (.bipush 99, 2) := by decide +kernel
theorem dX9_meet_65 : decode cX9_meet 65 = .ok (.invokevirtual 184, 3) := by decide +kernel
theorem dX9_meet_68 : decode cX9_meet 68 = .ok (.iconst 0, 1) := by decide +kernel
theorem dX9_meet_69 : decode cX9_meet 69 = .ok (.istore 6, 2) := by decide +kernel
theorem dX9_meet_71 : decode cX9_meet 71 = .ok (.iconst 0, 1) := by decide +kernel
theorem dX9_meet_72 : decode cX9_meet 72 = .ok (.istore 7, 2) := by decide +kernel
theorem dX9_meet_74 : decode cX9_meet 74 = .ok (.iload 7, 2) := by decide +kernel
theorem dX9_meet_76 : decode cX9_meet 76 = .ok (.bipush 99, 2) := by decide +kernel
theorem dX9_meet_78 : decode cX9_meet 78 = .ok (.if_icmp .ge 54, 3) := by decide +kernel
theorem dX9_meet_81 : decode cX9_meet 81 = .ok (.iload 6, 2) := by decide +kernel
theorem dX9_meet_83 : decode cX9_meet 83 = .ok (.iload_n 2, 1) := by decide +kernel
theorem dX9_meet_84 : decode cX9_meet 84 = .ok (.aload_n 0, 1) := by decide +kernel
theorem dX9_meet_85 : decode cX9_meet 85 = .ok (.getfield 43, 3) := by decide +kernel
theorem dX9_meet_88 : decode cX9_meet 88 = .ok (.getfield 188, 3) := by decide +kernel
theorem dX9_meet_91 : decode cX9_meet 91 = .ok (.iload 7, 2) := by decide +kernel
theorem dX9_meet_93 : decode cX9_meet 93 = .ok (.iaload, 1) := by decide +kernel
theorem dX9_meet_94 : decode cX9_meet 94 = .ok (.imul, 1) := by decide +kernel
theorem dX9_meet_95 : decode cX9_meet 95 = .ok (.iload_n 3, 1) := by decide +kernel
theorem dX9_meet_96 : decode cX9_meet 96 = .ok (.iload 4, 2) := by decide +kernel
theorem dX9_meet_98 : decode cX9_meet 98 = .ok (.imul, 1) := by decide +kernel
theorem dX9_meet_99 : decode cX9_meet 99 = .ok (.iadd, 1) := by decide +kernel
theorem dX9_meet_100 : decode cX9_meet 100 = .ok (.iadd, 1) := by decide +kernel
theorem dX9_meet_101 : decode cX9_meet 101 = .ok (.istore 6, 2) := by decide +kernel
theorem dX9_meet_103 : decode cX9_meet 103 = .ok (.iload 6, 2) := by decide +kernel
theorem dX9_meet_105 : decode cX9_meet 105 = .ok (.iload_n 1, 1) := by decide +kernel
theorem dX9_meet_106 : decode cX9_meet 106 = .ok (.if_icmp .lt 20, 3) := by decide +kernel
theorem dX9_meet_109 : decode cX9_meet 109 = .ok (.iload 5, 2) := by decide +kernel
theorem dX9_meet_111 : decode cX9_meet 111 = .ok (.ifCond .ne 10, 3) := by decide +kernel
theorem dX9_meet_114 : decode cX9_meet 114 = .ok (.iload 7, 2) := by decide +kernel
theorem dX9_meet_116 : decode cX9_meet 116 = .ok (.iconst 1, 1) := by decide +kernel
theorem dX9_meet_117 : decode cX9_meet 117 = .ok (.iadd, 1) := by decide +kernel
theorem dX9_meet_118 : decode cX9_meet 118 = .ok (.goto 7, 3) := by decide +kernel
theorem dX9_meet_121 : decode cX9_meet 121 = .ok (.iload 6, 2) := by decide +kernel
theorem dX9_meet_123 : decode cX9_meet 123 = .ok (.iload_n 1, 1) := by decide +kernel
theorem dX9_meet_124 : decode cX9_meet 124 = .ok (.isub, 1) := by decide +kernel
theorem dX9_meet_125 : decode cX9_meet 125 = .ok (.ireturn, 1) := by decide +kernel
theorem dX9_meet_126 : decode cX9_meet 126 = .ok (.iinc 7 1, 3) := by decide +kernel
theorem dX9_meet_129 : decode cX9_meet 129 = .ok (.goto (-55), 3) := by decide +kernel
theorem dX9_meet_132 : decode cX9_meet 132 = .ok (.bipush (-6), 2) := by decide +kernel
theorem dX9_meet_134 : decode cX9_meet 134 = .ok (.ireturn, 1) := by decide +kernel
theorem dX9_waste_0 : decode cX9_waste 0 = .ok (.iload_n 1, 1) := by decide +kernel
theorem dX9_waste_1 : decode cX9_waste 1 = .ok (.invokestatic 101, 3) := by decide +kernel
theorem dX9_waste_4 : decode cX9_waste 4 = .ok (.ifCond .ne 5, 3) := by decide +kernel
theorem dX9_waste_7 : decode cX9_waste 7 = .ok (.iconst (-1), 1) := by decide +kernel
theorem dX9_waste_8 : decode cX9_waste 8 = .ok (.ireturn, 1) := by decide +kernel
theorem dX9_waste_9 : decode cX9_waste 9 = .ok (.iload_n 2, 1) := by decide +kernel
theorem dX9_waste_10 : decode cX9_waste 10 = .ok (.iconst 1, 1) := by decide +kernel
theorem dX9_waste_11 : decode cX9_waste 11 = .ok (.bipush 20, 2) := by decide +kernel
theorem dX9_waste_13 : decode cX9_waste 13 = .ok (.invokestatic 75, 3) := by decide +kernel
theorem dX9_waste_16 : decode cX9_waste 16 = .ok (.ifCond .eq 23, 3) := by decide +kernel
theorem dX9_waste_19 : decode cX9_waste 19 = .ok (.iload_n 3, 1) := by decide +kernel
theorem dX9_waste_20 : decode cX9_waste 20 = .ok (.iconst 1, 1) := by decide +kernel
theorem dX9_waste_21 : decode cX9_waste 21 = .ok (.bipush 20, 2) := by decide +kernel
theorem dX9_waste_23 : decode cX9_waste 23 = .ok (.invokestatic 75, 3) := by decide +kernel
theorem dX9_waste_26 : decode cX9_waste 26 = .ok (.ifCond .eq 13, 3) := by decide +kernel
theorem dX9_waste_29 : decode cX9_waste 29 = .ok (.iload 4, 2) := by decide +kernel
theorem dX9_waste_31 : decode cX9_waste 31 = .ok (.iconst 0, 1) := by decide +kernel
theorem dX9_waste_32 : decode cX9_waste 32 = .ok (.iconst 1, 1) := by decide +kernel
theorem dX9_waste_33 : decode cX9_waste 33 = .ok (.invokestatic 75, 3) := by decide +kernel
theorem dX9_waste_36 : decode cX9_waste 36 = .ok (.ifCond .ne 6, 3) := by decide +kernel
theorem dX9_waste_39 : decode cX9_waste 39 = .ok (.bipush (-2), 2) := by decide +kernel
theorem dX9_waste_41 : decode cX9_waste 41 = .ok (.ireturn, 1) := by decide +kernel
theorem dX9_waste_42 : decode cX9_waste 42 = .ok (.aload_n 0, 1) := by decide +kernel
theorem dX9_waste_43 : decode cX9_waste 43 = .ok (.getfield 10, 3) := by decide +kernel
theorem dX9_waste_46 : decode cX9_waste 46 = .ok (.getfield 104, 3) := by decide +kernel
theorem dX9_waste_49 : decode cX9_waste 49 = .ok (.iload_n 1, 1) := by decide +kernel
theorem dX9_waste_50 : decode cX9_waste 50 = .ok (.iaload, 1) := by decide +kernel
theorem dX9_waste_51 : decode cX9_waste 51 = .ok (.istore 5, 2) := by decide +kernel
theorem dX9_waste_53 : decode cX9_waste 53 = .ok (.iload_n 2, 1) := by decide +kernel
theorem dX9_waste_54 : decode cX9_waste 54 = .ok (.aload_n 0, 1) := by decide +kernel
theorem dX9_waste_55 : decode cX9_waste 55 = .ok (.getfield 10, 3) := by decide +kernel
theorem dX9_waste_58 : decode cX9_waste 58 = .ok (.getfield 79, 3) := by decide +kernel
theorem dX9_waste_61 : decode cX9_waste 61 = .ok (.imul, 1) := by decide +kernel
theorem dX9_waste_62 : decode cX9_waste 62 = .ok (.istore 6, 2) := by decide +kernel
theorem dX9_waste_64 : decode cX9_waste 64 = .ok (.iload_n 3, 1) := by decide +kernel
theorem dX9_waste_65 : decode cX9_waste 65 = .ok (.aload_n 0, 1) := by decide +kernel
theorem dX9_waste_66 : decode cX9_waste 66 = .ok (.getfield 10, 3) := by decide +kernel
theorem dX9_waste_69 : decode cX9_waste 69 = .ok (.getfield 79, 3) := by decide +kernel
theorem dX9_waste_72 : decode cX9_waste 72 = .ok (.imul, 1) := by decide +kernel
theorem dX9_waste_73 : decode cX9_waste 73 = .ok (.istore 7, 2) := by decide +kernel
theorem dX9_waste_75 : decode cX9_waste 75 = .ok (.iload 5, 2) := by decide +kernel
theorem dX9_waste_77 : decode cX9_waste 77 = .ok (.iload 6, 2) := by decide +kernel
theorem dX9_waste_79 : decode cX9_waste 79 = .ok (.iload 7, 2) := by decide +kernel
theorem dX9_waste_81 : decode cX9_waste 81 = .ok (.invokestatic 201, 3) := by decide +kernel
theorem dX9_waste_84 : decode cX9_waste 84 = .ok (.istore 8, 2) := by decide +kernel
theorem dX9_waste_86 : decode cX9_waste 86 = .ok (.iload 4, 2) := by decide +kernel
theorem dX9_waste_88 : decode cX9_waste 88 = .ok (.iconst 1, 1) := by decide +kernel
theorem dX9_waste_89 : decode cX9_waste 89 = .ok (.if_icmp .ne 8, 3) := by decide +kernel
theorem dX9_waste_92 : decode cX9_waste 92 = .ok (.iload 8, 2) := by decide +kernel
theorem dX9_waste_94 : decode cX9_waste 94 = .ok (.goto 16, 3) := by decide +kernel
theorem dX9_waste_97 : decode cX9_waste 97 = .ok (.iload 5, 2) := by decide +kernel
theorem dX9_waste_99 : decode cX9_waste 99 = .ok (.iload 8, 2) := by decide +kernel
theorem dX9_waste_101 : decode cX9_waste 101 = .ok (.iload 6, 2) := by decide +kernel
theorem dX9_waste_103 : decode cX9_waste 103 = .ok (.imul, 1) := by decide +kernel
theorem dX9_waste_104 : decode cX9_waste 104 = .ok (.isub, 1) := by decide +kernel
theorem dX9_waste_105 : decode cX9_waste 105 = .ok (.iload 7, 2) := by decide +kernel
theorem dX9_waste_107 : decode cX9_waste 107 = .ok (.invokestatic 205, 3) := by decide +kernel
theorem dX9_waste_110 : decode cX9_waste 110 = .ok (.ireturn, 1) := by decide +kernel
theorem dX9_days_0 : decode cX9_days 0 = .ok (.iload_n 1, 1) := by decide +kernel
theorem dX9_days_1 : decode cX9_days 1 = .ok (.iconst 0, 1) := by decide +kernel
theorem dX9_days_2 : decode cX9_days 2 = .ok (.bipush 60, 2) := by decide +kernel
theorem dX9_days_4 : decode cX9_days 4 = .ok (.invokestatic 75, 3) := by decide +kernel
theorem dX9_days_7 : decode cX9_days 7 = .ok (.ifCond .eq 28, 3) := by decide +kernel
theorem dX9_days_10 : decode cX9_days 10 = .ok (.iload_n 2, 1) := by decide +kernel
theorem dX9_days_11 : decode cX9_days 11 = .ok (.iconst 1, 1) := by decide +kernel
theorem dX9_days_12 : decode cX9_days 12 = .ok (.bipush 10, 2) := by decide +kernel
theorem dX9_days_14 : decode cX9_days 14 = .ok (.iload_n 1, 1) := by decide +kernel
theorem dX9_days_15 : decode cX9_days 15 = .ok (.iconst 1, 1) := by decide +kernel
theorem dX9_days_16 : decode cX9_days 16 = .ok (.iadd, 1) := by decide +kernel
theorem dX9_days_17 : decode cX9_days 17 = .ok (.invokestatic 208, 3) := by decide +kernel
theorem dX9_days_20 : decode cX9_days 20 = .ok (.invokestatic 75, 3) := by decide +kernel
theorem dX9_days_23 : decode cX9_days 23 = .ok (.ifCond .eq 12, 3) := by decide +kernel
theorem dX9_days_26 : decode cX9_days 26 = .ok (.iload_n 3, 1) := by decide +kernel
theorem dX9_days_27 : decode cX9_days 27 = .ok (.iconst 0, 1) := by decide +kernel
theorem dX9_days_28 : decode cX9_days 28 = .ok (.iconst 1, 1) := by decide +kernel
theorem dX9_days_29 : decode cX9_days 29 = .ok (.invokestatic 75, 3) := by decide +kernel
theorem dX9_days_32 : decode cX9_days 32 = .ok (.ifCond .ne 6, 3) := by decide +kernel
theorem dX9_days_35 : decode cX9_days 35 = .ok (.bipush (-2), 2) := by decide +kernel
theorem dX9_days_37 : decode cX9_days 37 = .ok (.ireturn, 1) := by decide +kernel
theorem dX9_days_38 : decode cX9_days 38 = .ok (.aload_n 0, 1) := by decide +kernel
theorem dX9_days_39 : decode cX9_days 39 = .ok (.getfield 43, 3) := by decide +kernel
theorem dX9_days_42 : decode cX9_days 42 = .ok (.aload_n 0, 1) := by decide +kernel
theorem dX9_days_43 : decode cX9_days 43 = .ok (.getfield 10, 3) := by decide +kernel
theorem dX9_days_46 : decode cX9_days 46 = .ok (.iload_n 1, 1) := by decide +kernel
theorem dX9_days_47 : decode cX9_days 47 = .ok (.invokevirtual 184, 3) := by decide +kernel
theorem dX9_days_50 : decode cX9_days 50 = .ok (.aload_n 0, 1) := by decide +kernel
theorem dX9_days_51 : decode cX9_days 51 = .ok (.getfield 43, 3) := by decide +kernel
theorem dX9_days_54 : decode cX9_days 54 = .ok (.iload_n 1, 1) := by decide +kernel
theorem dX9_days_55 : decode cX9_days 55 = .ok (.iload_n 2, 1) := by decide +kernel
theorem dX9_days_56 : decode cX9_days 56 = .ok (.invokevirtual 213, 3) := by decide +kernel
theorem dX9_days_59 : decode cX9_days 59 = .ok (.istore 4, 2) := by decide +kernel
theorem dX9_days_61 : decode cX9_days 61 = .ok (.iload_n 3, 1) := by decide +kernel
theorem dX9_days_62 : decode cX9_days 62 = .ok (.ifCond .ne 8, 3) := by decide +kernel
theorem dX9_days_65 : decode cX9_days 65 = .ok (.iload 4, 2) := by decide +kernel
theorem dX9_days_67 : decode cX9_days 67 = .ok (.goto 14, 3) := by decide +kernel
theorem dX9_days_70 : decode cX9_days 70 = .ok (.aload_n 0, 1) := by decide +kernel
theorem dX9_days_71 : decode cX9_days 71 = .ok (.getfield 43, 3) := by decide +kernel
theorem dX9_days_74 : decode cX9_days 74 = .ok (.iload_n 1, 1) := by decide +kernel
theorem dX9_days_75 : decode cX9_days 75 = .ok (.iload_n 2, 1) := by decide +kernel
theorem dX9_days_76 : decode cX9_days 76 = .ok (.iload 4, 2) := by decide +kernel
theorem dX9_days_78 : decode cX9_days 78 = .ok (.invokevirtual 216, 3) := by decide +kernel
theorem dX9_days_81 : decode cX9_days 81 = .ok (.ireturn, 1) := by decide +kernel
theorem dX9_seen_0 : decode cX9_seen 0 = .ok (.iload_n 1, 1) := by decide +kernel
theorem dX9_seen_1 : decode cX9_seen 1 = .ok (.iconst 0, 1) := by decide +kernel
theorem dX9_seen_2 : decode cX9_seen 2 = .ok (.bipush 60, 2) := by decide +kernel
theorem dX9_seen_4 : decode cX9_seen 4 = .ok (.invokestatic 75, 3) := by decide +kernel
theorem dX9_seen_7 : decode cX9_seen 7 = .ok (.ifCond .eq 14, 3) := by decide +kernel
theorem dX9_seen_10 : decode cX9_seen 10 = .ok (.iload_n 2, 1) := by decide +kernel
theorem dX9_seen_11 : decode cX9_seen 11 = .ok (.iconst 1, 1) := by decide +kernel
theorem dX9_seen_12 : decode cX9_seen 12 = .ok (.sipush 200, 3) := by decide +kernel
theorem dX9_seen_15 : decode cX9_seen 15 = .ok (.invokestatic 75, 3) := by decide +kernel
theorem dX9_seen_18 : decode cX9_seen 18 = .ok (.ifCond .ne 6, 3) := by decide +kernel
theorem dX9_seen_21 : decode cX9_seen 21 = .ok (.bipush (-2), 2) := by decide +kernel
theorem dX9_seen_23 : decode cX9_seen 23 = .ok (.ireturn, 1) := by decide +kernel
theorem dX9_seen_24 : decode cX9_seen 24 = .ok (.aload_n 0, 1) := by decide +kernel
theorem dX9_seen_25 : decode cX9_seen 25 = .ok (.getfield 10, 3) := by decide +kernel
theorem dX9_seen_28 : decode cX9_seen 28 = .ok (.getfield 219, 3) := by decide +kernel
theorem dX9_seen_31 : decode cX9_seen 31 = .ok (.bipush 8, 2) := by decide +kernel
theorem dX9_seen_33 : decode cX9_seen 33 = .ok (.if_icmp .lt 6, 3) := by decide +kernel
theorem dX9_seen_36 : decode cX9_seen 36 = .ok (.bipush (-4), 2) := by decide +kernel
theorem dX9_seen_38 : decode cX9_seen 38 = .ok (.ireturn, 1) := by decide +kernel
theorem dX9_seen_39 : decode cX9_seen 39 = .ok (.aload_n 0, 1) := by decide +kernel
theorem dX9_seen_40 : decode cX9_seen 40 = .ok (.getfield 10, 3) := by decide +kernel
theorem dX9_seen_43 : decode cX9_seen 43 = .ok (.getfield 222, 3) := by decide +kernel
theorem dX9_seen_46 : decode cX9_seen 46 = .ok (.aload_n 0, 1) := by decide +kernel
theorem dX9_seen_47 : decode cX9_seen 47 = .ok (.getfield 10, 3) := by decide +kernel
theorem dX9_seen_50 : decode cX9_seen 50 = .ok (.getfield 219, 3) := by decide +kernel
theorem dX9_seen_53 : decode cX9_seen 53 = .ok (.iload_n 1, 1) := by decide +kernel
theorem dX9_seen_54 : decode cX9_seen 54 = .ok (.iastore, 1) := by decide +kernel
theorem dX9_seen_55 : decode cX9_seen 55 = .ok (.aload_n 0, 1) := by decide +kernel
theorem dX9_seen_56 : decode cX9_seen 56 = .ok (.getfield 10, 3) := by decide +kernel
theorem dX9_seen_59 : decode cX9_seen 59 = .ok (.getfield 225, 3) := by decide +kernel
theorem dX9_seen_62 : decode cX9_seen 62 = .ok (.aload_n 0, 1) := by decide +kernel
theorem dX9_seen_63 : decode cX9_seen 63 = .ok (.getfield 10, 3) := by decide +kernel
theorem dX9_seen_66 : decode cX9_seen 66 = .ok (.getfield 219, 3) := by decide +kernel
theorem dX9_seen_69 : decode cX9_seen 69 = .ok (.iload_n 2, 1) := by decide +kernel
theorem dX9_seen_70 : decode cX9_seen 70 = .ok (.iastore, 1) := by decide +kernel
theorem dX9_seen_71 : decode cX9_seen 71 = .ok (.aload_n 0, 1) := by decide +kernel
theorem dX9_seen_72 : decode cX9_seen 72 = .ok (.getfield 10, 3) := by decide +kernel
theorem dX9_seen_75 : decode cX9_seen 75 = .ok (.dup, 1) := by decide +kernel
theorem dX9_seen_76 : decode cX9_seen 76 = .ok (.getfield 219, 3) := by decide +kernel
theorem dX9_seen_79 : decode cX9_seen 79 = .ok (.iconst 1, 1) := by decide +kernel
theorem dX9_seen_80 : decode cX9_seen 80 = .ok (.iadd, 1) := by decide +kernel
theorem dX9_seen_81 : decode cX9_seen 81 = .ok (.putfield 219, 3) := by decide +kernel
theorem dX9_seen_84 : decode cX9_seen 84 = .ok (.aload_n 0, 1) := by decide +kernel
theorem dX9_seen_85 : decode cX9_seen 85 = .ok (.getfield 10, 3) := by decide +kernel
theorem dX9_seen_88 : decode cX9_seen 88 = .ok (.getfield 219, 3) := by decide +kernel
theorem dX9_seen_91 : decode cX9_seen 91 = .ok (.ireturn, 1) := by decide +kernel
theorem dX9_forget_0 : decode cX9_forget 0 = .ok (.aload_n 0, 1) := by decide +kernel
theorem dX9_forget_1 : decode cX9_forget 1 = .ok (.getfield 10, 3) := by decide +kernel
theorem dX9_forget_4 : decode cX9_forget 4 = .ok (.getfield 219, 3) := by decide +kernel
theorem dX9_forget_7 : decode cX9_forget 7 = .ok (.istore_n 1, 1) := by decide +kernel
theorem dX9_forget_8 : decode cX9_forget 8 = .ok (.aload_n 0, 1) := by decide +kernel
theorem dX9_forget_9 : decode cX9_forget 9 = .ok (.getfield 10, 3) := by decide +kernel
theorem dX9_forget_12 : decode cX9_forget 12 = .ok (.iconst 0, 1) := by decide +kernel
theorem dX9_forget_13 : decode cX9_forget 13 = .ok (.putfield 219, 3) := by decide +kernel
theorem dX9_forget_16 : decode cX9_forget 16 = .ok (.iload_n 1, 1) := by decide +kernel
theorem dX9_forget_17 : decode cX9_forget 17 = .ok (.ireturn, 1) := by decide +kernel
theorem dX9_fits_0 : decode cX9_fits 0 = .ok (.aload_n 0, 1) := by decide +kernel
theorem dX9_fits_1 : decode cX9_fits 1 = .ok (.getfield 50, 3) := by decide +kernel
theorem dX9_fits_4 : decode cX9_fits 4 = .ok (.aload_n 0, 1) := by decide +kernel
theorem dX9_fits_5 : decode cX9_fits 5 = .ok (.getfield 10, 3) := by decide +kernel
theorem dX9_fits_8 : decode cX9_fits 8 = .ok (.invokevirtual 228, 3) := by decide +kernel
theorem dX9_fits_11 : decode cX9_fits 11 = .ok (.iload_n 1, 1) := by decide +kernel
theorem dX9_fits_12 : decode cX9_fits 12 = .ok (.iconst (-1), 1) := by decide +kernel
theorem dX9_fits_13 : decode cX9_fits 13 = .ok (.if_icmp .ne 13, 3) := by decide +kernel
theorem dX9_fits_16 : decode cX9_fits 16 = .ok (.aload_n 0, 1) := by decide +kernel
theorem dX9_fits_17 : decode cX9_fits 17 = .ok (.getfield 50, 3) := by decide +kernel
theorem dX9_fits_20 : decode cX9_fits 20 = .ok (.invokevirtual 231, 3) := by decide +kernel
theorem dX9_fits_23 : decode cX9_fits 23 = .ok (.goto 11, 3) := by decide +kernel
theorem dX9_fits_26 : decode cX9_fits 26 = .ok (.aload_n 0, 1) := by decide +kernel
theorem dX9_fits_27 : decode cX9_fits 27 = .ok (.getfield 50, 3) := by decide +kernel
theorem dX9_fits_30 : decode cX9_fits 30 = .ok (.iload_n 1, 1) := by decide +kernel
theorem dX9_fits_31 : decode cX9_fits 31 = .ok (.invokevirtual 234, 3) := by decide +kernel
theorem dX9_fits_34 : decode cX9_fits 34 = .ok (.ireturn, 1) := by decide +kernel
theorem dX9_ask_0 : decode cX9_ask 0 = .ok (.iload_n 1, 1) := by decide +kernel
theorem dX9_ask_1 : decode cX9_ask 1 = .ok (.iconst 0, 1) := by decide +kernel
theorem dX9_ask_2 : decode cX9_ask 2 = .ok (.iconst 1, 1) := by decide +kernel
theorem dX9_ask_3 : decode cX9_ask 3 = .ok (.invokestatic 75, 3) := by decide +kernel
theorem dX9_ask_6 : decode cX9_ask 6 = .ok (.ifCond .ne 6, 3) := by decide +kernel
theorem dX9_ask_9 : decode cX9_ask 9 = .ok (.bipush (-2), 2) := by decide +kernel
theorem dX9_ask_11 : decode cX9_ask 11 = .ok (.ireturn, 1) := by decide +kernel
theorem dX9_ask_12 : decode cX9_ask 12 = .ok (.aload_n 0, 1) := by decide +kernel
theorem dX9_ask_13 : decode cX9_ask 13 = .ok (.getfield 50, 3) := by decide +kernel
theorem dX9_ask_16 : decode cX9_ask 16 = .ok (.aload_n 0, 1) := by decide +kernel
theorem dX9_ask_17 : decode cX9_ask 17 = .ok (.getfield 10, 3) := by decide +kernel
theorem dX9_ask_20 : decode cX9_ask 20 = .ok (.invokevirtual 228, 3) := by decide +kernel
theorem dX9_ask_23 : decode cX9_ask 23 = .ok (.aload_n 0, 1) := by decide +kernel
theorem dX9_ask_24 : decode cX9_ask 24 = .ok (.getfield 50, 3) := by decide +kernel
theorem dX9_ask_27 : decode cX9_ask 27 = .ok (.invokevirtual 231, 3) := by decide +kernel
theorem dX9_ask_30 : decode cX9_ask 30 = .ok (.ifCond .ne 6, 3) := by decide +kernel
theorem dX9_ask_33 : decode cX9_ask 33 = .ok (.bipush (-6), 2) := by decide +kernel
theorem dX9_ask_35 : decode cX9_ask 35 = .ok (.ireturn, 1) := by decide +kernel
theorem dX9_ask_36 : decode cX9_ask 36 = .ok (.aload_n 0, 1) := by decide +kernel
theorem dX9_ask_37 : decode cX9_ask 37 = .ok (.getfield 50, 3) := by decide +kernel
theorem dX9_ask_40 : decode cX9_ask 40 = .ok (.invokevirtual 237, 3) := by decide +kernel
theorem dX9_ask_43 : decode cX9_ask 43 = .ok (.istore_n 2, 1) := by decide +kernel
theorem dX9_ask_44 : decode cX9_ask 44 = .ok (.iload_n 1, 1) := by decide +kernel
theorem dX9_ask_45 : decode cX9_ask 45 = .ok (.ifCond .ne 7, 3) := by decide +kernel
theorem dX9_ask_48 : decode cX9_ask 48 = .ok (.iload_n 2, 1) := by decide +kernel
theorem dX9_ask_49 : decode cX9_ask 49 = .ok (.goto 11, 3) := by decide +kernel
theorem dX9_ask_52 : decode cX9_ask 52 = .ok (.aload_n 0, 1) := by decide +kernel
theorem dX9_ask_53 : decode cX9_ask 53 = .ok (.getfield 50, 3) := by decide +kernel
theorem dX9_ask_56 : decode cX9_ask 56 = .ok (.iload_n 2, 1) := by decide +kernel
theorem dX9_ask_57 : decode cX9_ask 57 = .ok (.invokevirtual 240, 3) := by decide +kernel
theorem dX9_ask_60 : decode cX9_ask 60 = .ok (.ireturn, 1) := by decide +kernel
theorem dX9_settle_0 : decode cX9_settle 0 = .ok (.iload_n 1, 1) := by decide +kernel
theorem dX9_settle_1 : decode cX9_settle 1 = .ok (.invokestatic 87, 3) := by decide +kernel
theorem dX9_settle_4 : decode cX9_settle 4 = .ok (.ifCond .ne 5, 3) := by decide +kernel
theorem dX9_settle_7 : decode cX9_settle 7 = .ok (.iconst (-1), 1) := by decide +kernel
theorem dX9_settle_8 : decode cX9_settle 8 = .ok (.ireturn, 1) := by decide +kernel
theorem dX9_settle_9 : decode cX9_settle 9 = .ok (.iload_n 2, 1) := by decide +kernel
theorem dX9_settle_10 : decode cX9_settle 10 = .ok (.iconst 0, 1) := by decide +kernel
theorem dX9_settle_11 : decode cX9_settle 11 = .ok (.bipush 99, 2) := by decide +kernel
theorem dX9_settle_13 : decode cX9_settle 13 = .ok (.invokestatic 75, 3) := by decide +kernel
theorem dX9_settle_16 : decode cX9_settle 16 = .ok (.ifCond .ne 6, 3) := by decide +kernel
theorem dX9_settle_19 : decode cX9_settle 19 = .ok (.bipush (-2), 2) := by decide +kernel
theorem dX9_settle_21 : decode cX9_settle 21 = .ok (.ireturn, 1) := by decide +kernel
theorem dX9_settle_22 : decode cX9_settle 22 = .ok (.aload_n 0, 1) := by decide +kernel
theorem dX9_settle_23 : decode cX9_settle 23 = .ok (.getfield 57, 3) := by decide +kernel
theorem dX9_settle_26 : decode cX9_settle 26 = .ok (.aload_n 0, 1) := by decide +kernel
theorem dX9_settle_27 : decode cX9_settle 27 = .ok (.getfield 10, 3) := by decide +kernel
theorem dX9_settle_30 : decode cX9_settle 30 = .ok (.invokevirtual 243, 3) := by decide +kernel
theorem dX9_settle_33 : decode cX9_settle 33 = .ok (.iconst 0, 1) := by decide +kernel
theorem dX9_settle_34 : decode cX9_settle 34 = .ok (.istore_n 3, 1) := by decide +kernel
theorem dX9_settle_35 : decode cX9_settle 35 = .ok (.iload_n 3, 1) := by decide +kernel
theorem dX9_settle_36 : decode cX9_settle 36 = .ok (.iload_n 2, 1) := by decide +kernel
theorem dX9_settle_37 : decode cX9_settle 37 = .ok (.if_icmp .ge 17, 3) := by decide +kernel
theorem dX9_settle_40 : decode cX9_settle 40 = .ok (.aload_n 0, 1) := by decide +kernel
theorem dX9_settle_41 : decode cX9_settle 41 = .ok (.getfield 57, 3) := by decide +kernel
theorem dX9_settle_44 : decode cX9_settle 44 = .ok (.invokevirtual 246, 3) := by decide +kernel
theorem dX9_settle_47 : decode cX9_settle 47 = .ok (.pop, 1) := by decide +kernel
theorem dX9_settle_48 : decode cX9_settle 48 = .ok (.iinc 3 1, 3) := by decide +kernel
theorem dX9_settle_51 : decode cX9_settle 51 = .ok (.goto (-16), 3) := by decide +kernel
theorem dX9_settle_54 : decode cX9_settle 54 = .ok (.aload_n 0, 1) := by decide +kernel
theorem dX9_settle_55 : decode cX9_settle 55 = .ok (.getfield 57, 3) := by decide +kernel
theorem dX9_settle_58 : decode cX9_settle 58 = .ok (.getfield 249, 3) := by decide +kernel
theorem dX9_settle_61 : decode cX9_settle 61 = .ok (.iload_n 1, 1) := by decide +kernel
theorem dX9_settle_62 : decode cX9_settle 62 = .ok (.iaload, 1) := by decide +kernel
theorem dX9_settle_63 : decode cX9_settle 63 = .ok (.ireturn, 1) := by decide +kernel
theorem dX9_settled_0 : decode cX9_settled 0 = .ok (.aload_n 0, 1) := by decide +kernel
theorem dX9_settled_1 : decode cX9_settled 1 = .ok (.getfield 57, 3) := by decide +kernel
theorem dX9_settled_4 : decode cX9_settled 4 = .ok (.aload_n 0, 1) := by decide +kernel
theorem dX9_settled_5 : decode cX9_settled 5 = .ok (.getfield 10, 3) := by decide +kernel
theorem dX9_settled_8 : decode cX9_settled 8 = .ok (.invokevirtual 243, 3) := by decide +kernel
theorem dX9_settled_11 : decode cX9_settled 11 = .ok (.aload_n 0, 1) := by decide +kernel
theorem dX9_settled_12 : decode cX9_settled 12 = .ok (.getfield 57, 3) := by decide +kernel
theorem dX9_settled_15 : decode cX9_settled 15 = .ok (.invokevirtual 252, 3) := by decide +kernel
theorem dX9_settled_18 : decode cX9_settled 18 = .ok (.ireturn, 1) := by decide +kernel
theorem dX9_halves_0 : decode cX9_halves 0 = .ok (.iload_n 1, 1) := by decide +kernel
theorem dX9_halves_1 : decode cX9_halves 1 = .ok (.iconst 0, 1) := by decide +kernel
theorem dX9_halves_2 : decode cX9_halves 2 = .ok (.sipush 200, 3) := by decide +kernel
theorem dX9_halves_5 : decode cX9_halves 5 = .ok (.invokestatic 75, 3) := by decide +kernel
theorem dX9_halves_8 : decode cX9_halves 8 = .ok (.ifCond .eq 22, 3) := by decide +kernel
theorem dX9_halves_11 : decode cX9_halves 11 = .ok (.iload_n 2, 1) := by decide +kernel
theorem dX9_halves_12 : decode cX9_halves 12 = .ok (.iconst 1, 1) := by decide +kernel
theorem dX9_halves_13 : decode cX9_halves 13 = .ok (.bipush 9, 2) := by decide +kernel
theorem dX9_halves_15 : decode cX9_halves 15 = .ok (.invokestatic 75, 3) := by decide +kernel
theorem dX9_halves_18 : decode cX9_halves 18 = .ok (.ifCond .eq 12, 3) := by decide +kernel
theorem dX9_halves_21 : decode cX9_halves 21 = .ok (.iload_n 3, 1) := by decide +kernel
theorem dX9_halves_22 : decode cX9_halves 22 = .ok (.iconst 0, 1) := by decide +kernel
theorem dX9_halves_23 : decode cX9_halves 23 = .ok (.iconst 1, 1) := by decide +kernel
theorem dX9_halves_24 : decode cX9_halves 24 = .ok (.invokestatic 75, 3) := by decide +kernel
theorem dX9_halves_27 : decode cX9_halves 27 = .ok (.ifCond .ne 6, 3) := by decide +kernel
theorem dX9_halves_30 : decode cX9_halves 30 = .ok (.bipush (-2), 2) := by decide +kernel
theorem dX9_halves_32 : decode cX9_halves 32 = .ok (.ireturn, 1) := by decide +kernel
theorem dX9_halves_33 : decode cX9_halves 33 = .ok (.aload_n 0, 1) := by decide +kernel
theorem dX9_halves_34 : decode cX9_halves 34 = .ok (.getfield 64, 3) := by decide +kernel
theorem dX9_halves_37 : decode cX9_halves 37 = .ok (.iload_n 1, 1) := by decide +kernel
theorem dX9_halves_38 : decode cX9_halves 38 = .ok (.iload_n 2, 1) := by decide +kernel
theorem dX9_halves_39 : decode cX9_halves 39 = .ok (.invokevirtual 255, 3) := by decide +kernel
theorem dX9_halves_42 : decode cX9_halves 42 = .ok (.istore 4, 2) := by decide +kernel
theorem dX9_halves_44 : decode cX9_halves 44 = .ok (.iload_n 3, 1) := by decide +kernel
theorem dX9_halves_45 : decode cX9_halves 45 = .ok (.iconst 1, 1) := by decide +kernel
theorem dX9_halves_46 : decode cX9_halves 46 = .ok (.if_icmp .ne 6, 3) := by decide +kernel
theorem dX9_halves_49 : decode cX9_halves 49 = .ok (.iload 4, 2) := by decide +kernel
theorem dX9_halves_51 : decode cX9_halves 51 = .ok (.ireturn, 1) := by decide +kernel
theorem dX9_halves_52 : decode cX9_halves 52 = .ok (.iload 4, 2) := by decide +kernel
theorem dX9_halves_54 : decode cX9_halves 54 = .ok (.bipush (-6), 2) := by decide +kernel
theorem dX9_halves_56 : decode cX9_halves 56 = .ok (.if_icmp .ne 7, 3) := by decide +kernel
theorem dX9_halves_59 : decode cX9_halves 59 = .ok (.iconst 0, 1) := by decide +kernel
theorem dX9_halves_60 : decode cX9_halves 60 = .ok (.goto 4, 3) := by decide +kernel
theorem dX9_halves_63 : decode cX9_halves 63 = .ok (.iconst 1, 1) := by decide +kernel
theorem dX9_halves_64 : decode cX9_halves 64 = .ok (.ireturn, 1) := by decide +kernel
theorem dX9_shake_0 : decode cX9_shake 0 = .ok (.iload_n 1, 1) := by decide +kernel
theorem dX9_shake_1 : decode cX9_shake 1 = .ok (.iconst 0, 1) := by decide +kernel
theorem dX9_shake_2 : decode cX9_shake 2 = .ok (.bipush 12, 2) := by decide +kernel
theorem dX9_shake_4 : decode cX9_shake 4 = .ok (.invokestatic 75, 3) := by decide +kernel
theorem dX9_shake_7 : decode cX9_shake 7 = .ok (.ifCond .eq 46, 3) := by decide +kernel
theorem dX9_shake_10 : decode cX9_shake 10 = .ok (.iload_n 2, 1) := by decide +kernel
theorem dX9_shake_11 : decode cX9_shake 11 = .ok (.iconst 0, 1) := by decide +kernel
theorem dX9_shake_12 : decode cX9_shake 12 = .ok (.bipush 10, 2) := by decide +kernel
theorem dX9_shake_14 : decode cX9_shake 14 = .ok (.invokestatic 75, 3) := by decide +kernel
theorem dX9_shake_17 : decode cX9_shake 17 = .ok (.ifCond .eq 36, 3) := by decide +kernel
theorem dX9_shake_20 : decode cX9_shake 20 = .ok (.iload_n 3, 1) := by decide +kernel
theorem dX9_shake_21 : decode cX9_shake 21 = .ok (.iconst 0, 1) := by decide +kernel
theorem dX9_shake_22 : decode cX9_shake 22 = .ok (.bipush 10, 2) := by decide +kernel
theorem dX9_shake_24 : decode cX9_shake 24 = .ok (.iload_n 2, 1) := by decide +kernel
theorem dX9_shake_25 : decode cX9_shake 25 = .ok (.isub, 1) := by decide +kernel
theorem dX9_shake_26 : decode cX9_shake 26 = .ok (.invokestatic 75, 3) := by decide +kernel
theorem dX9_shake_29 : decode cX9_shake 29 = .ok (.ifCond .eq 24, 3) := by decide +kernel
theorem dX9_shake_32 : decode cX9_shake 32 = .ok (.iload 4, 2) := by decide +kernel
theorem dX9_shake_34 : decode cX9_shake 34 = .ok (.iconst 0, 1) := by decide +kernel
theorem dX9_shake_35 : decode cX9_shake 35 = .ok (.bipush 12, 2) := by decide +kernel
theorem dX9_shake_37 : decode cX9_shake 37 = .ok (.invokestatic 75, 3) := by decide +kernel
theorem dX9_shake_40 : decode cX9_shake 40 = .ok (.ifCond .eq 13, 3) := by decide +kernel
theorem dX9_shake_43 : decode cX9_shake 43 = .ok (.iload 5, 2) := by decide +kernel
theorem dX9_shake_45 : decode cX9_shake 45 = .ok (.iconst 0, 1) := by decide +kernel
theorem dX9_shake_46 : decode cX9_shake 46 = .ok (.iconst 1, 1) := by decide +kernel
theorem dX9_shake_47 : decode cX9_shake 47 = .ok (.invokestatic 75, 3) := by decide +kernel
theorem dX9_shake_50 : decode cX9_shake 50 = .ok (.ifCond .ne 7, 3) := by decide +kernel
theorem dX9_shake_53 : decode cX9_shake 53 = .ok (.ldc2_w 175, 3) := by decide +kernel
theorem dX9_shake_56 : decode cX9_shake 56 = .ok (.lreturn, 1) := by decide +kernel
theorem dX9_shake_57 : decode cX9_shake 57 = .ok (.aload_n 0, 1) := by decide +kernel
theorem dX9_shake_58 : decode cX9_shake 58 = .ok (.getfield 71, 3) := by decide +kernel
theorem dX9_shake_61 : decode cX9_shake 61 = .ok (.iload_n 1, 1) := by decide +kernel
theorem dX9_shake_62 : decode cX9_shake 62 = .ok (.iload_n 2, 1) := by decide +kernel
theorem dX9_shake_63 : decode cX9_shake 63 = .ok (.iload_n 3, 1) := by decide +kernel
theorem dX9_shake_64 : decode cX9_shake 64 = .ok (.invokevirtual 258, 3) := by decide +kernel
theorem dX9_shake_67 : decode cX9_shake 67 = .ok (.aload_n 0, 1) := by decide +kernel
theorem dX9_shake_68 : decode cX9_shake 68 = .ok (.getfield 71, 3) := by decide +kernel
theorem dX9_shake_71 : decode cX9_shake 71 = .ok (.iload 4, 2) := by decide +kernel
theorem dX9_shake_73 : decode cX9_shake 73 = .ok (.invokevirtual 262, 3) := by decide +kernel
theorem dX9_shake_76 : decode cX9_shake 76 = .ok (.aload_n 0, 1) := by decide +kernel
theorem dX9_shake_77 : decode cX9_shake 77 = .ok (.getfield 71, 3) := by decide +kernel
theorem dX9_shake_80 : decode cX9_shake 80 = .ok (.iload_n 1, 1) := by decide +kernel
theorem dX9_shake_81 : decode cX9_shake 81 = .ok (.invokevirtual 266, 3) := by decide +kernel
theorem dX9_shake_84 : decode cX9_shake 84 = .ok (.iload 5, 2) := by decide +kernel
theorem dX9_shake_86 : decode cX9_shake 86 = .ok (.invokestatic 180, 3) := by decide +kernel
theorem dX9_shake_89 : decode cX9_shake 89 = .ok (.lreturn, 1) := by decide +kernel
theorem dX9_year_0 : decode cX9_year 0 = .ok (.iload_n 1, 1) := by decide +kernel
theorem dX9_year_1 : decode cX9_year 1 = .ok (.iconst 0, 1) := by decide +kernel
theorem dX9_year_2 : decode cX9_year 2 = .ok (.sipush 9999, 3) := by decide +kernel
theorem dX9_year_5 : decode cX9_year 5 = .ok (.invokestatic 75, 3) := by decide +kernel
theorem dX9_year_8 : decode cX9_year 8 = .ok (.ifCond .eq 22, 3) := by decide +kernel
theorem dX9_year_11 : decode cX9_year 11 = .ok (.iload_n 2, 1) := by decide +kernel
theorem dX9_year_12 : decode cX9_year 12 = .ok (.iconst 1, 1) := by decide +kernel
theorem dX9_year_13 : decode cX9_year 13 = .ok (.bipush 99, 2) := by decide +kernel
theorem dX9_year_15 : decode cX9_year 15 = .ok (.invokestatic 75, 3) := by decide +kernel
theorem dX9_year_18 : decode cX9_year 18 = .ok (.ifCond .eq 12, 3) := by decide +kernel
theorem dX9_year_21 : decode cX9_year 21 = .ok (.iload_n 3, 1) := by decide +kernel
theorem dX9_year_22 : decode cX9_year 22 = .ok (.iconst 0, 1) := by decide +kernel
theorem dX9_year_23 : decode cX9_year 23 = .ok (.iconst 2, 1) := by decide +kernel
theorem dX9_year_24 : decode cX9_year 24 = .ok (.invokestatic 75, 3) := by decide +kernel
theorem dX9_year_27 : decode cX9_year 27 = .ok (.ifCond .ne 6, 3) := by decide +kernel
theorem dX9_year_30 : decode cX9_year 30 = .ok (.bipush (-2), 2) := by decide +kernel
theorem dX9_year_32 : decode cX9_year 32 = .ok (.ireturn, 1) := by decide +kernel
theorem dX9_year_33 : decode cX9_year 33 = .ok (.aload_n 0, 1) := by decide +kernel
theorem dX9_year_34 : decode cX9_year 34 = .ok (.getfield 36, 3) := by decide +kernel
theorem dX9_year_37 : decode cX9_year 37 = .ok (.aload_n 0, 1) := by decide +kernel
theorem dX9_year_38 : decode cX9_year 38 = .ok (.getfield 10, 3) := by decide +kernel
theorem dX9_year_41 : decode cX9_year 41 = .ok (.iload_n 1, 1) := by decide +kernel
theorem dX9_year_42 : decode cX9_year 42 = .ok (.iload_n 2, 1) := by decide +kernel
theorem dX9_year_43 : decode cX9_year 43 = .ok (.invokevirtual 269, 3) := by decide +kernel
theorem dX9_year_46 : decode cX9_year 46 = .ok (.iload_n 3, 1) := by decide +kernel
theorem dX9_year_47 : decode cX9_year 47 = .ok (.ifCond .ne 14, 3) := by decide +kernel
theorem dX9_year_50 : decode cX9_year 50 = .ok (.aload_n 0, 1) := by decide +kernel
theorem dX9_year_51 : decode cX9_year 51 = .ok (.getfield 36, 3) := by decide +kernel
theorem dX9_year_54 : decode cX9_year 54 = .ok (.getfield 146, 3) := by decide +kernel
theorem dX9_year_57 : decode cX9_year 57 = .ok (.getfield 79, 3) := by decide +kernel
theorem dX9_year_60 : decode cX9_year 60 = .ok (.ireturn, 1) := by decide +kernel
theorem dX9_year_61 : decode cX9_year 61 = .ok (.iload_n 3, 1) := by decide +kernel
theorem dX9_year_62 : decode cX9_year 62 = .ok (.iconst 1, 1) := by decide +kernel
theorem dX9_year_63 : decode cX9_year 63 = .ok (.if_icmp .ne 16, 3) := by decide +kernel
theorem dX9_year_66 : decode cX9_year 66 = .ok (.aload_n 0, 1) := by decide +kernel
theorem dX9_year_67 : decode cX9_year 67 = .ok (.getfield 36, 3) := by decide +kernel
theorem dX9_year_70 : decode cX9_year 70 = .ok (.getfield 146, 3) := by decide +kernel
theorem dX9_year_73 : decode cX9_year 73 = .ok (.invokevirtual 273, 3) := by decide +kernel
theorem dX9_year_76 : decode cX9_year 76 = .ok (.goto 13, 3) := by decide +kernel
theorem dX9_year_79 : decode cX9_year 79 = .ok (.aload_n 0, 1) := by decide +kernel
theorem dX9_year_80 : decode cX9_year 80 = .ok (.getfield 36, 3) := by decide +kernel
theorem dX9_year_83 : decode cX9_year 83 = .ok (.getfield 146, 3) := by decide +kernel
theorem dX9_year_86 : decode cX9_year 86 = .ok (.invokevirtual 276, 3) := by decide +kernel
theorem dX9_year_89 : decode cX9_year 89 = .ok (.ireturn, 1) := by decide +kernel
theorem dX9_image_0 : decode cX9_image 0 = .ok (.iload_n 1, 1) := by decide +kernel
theorem dX9_image_1 : decode cX9_image 1 = .ok (.iconst 0, 1) := by decide +kernel
theorem dX9_image_2 : decode cX9_image 2 = .ok (.iconst 1, 1) := by decide +kernel
theorem dX9_image_3 : decode cX9_image 3 = .ok (.invokestatic 75, 3) := by decide +kernel
theorem dX9_image_6 : decode cX9_image 6 = .ok (.ifCond .ne 6, 3) := by decide +kernel
theorem dX9_image_9 : decode cX9_image 9 = .ok (.bipush (-2), 2) := by decide +kernel
theorem dX9_image_11 : decode cX9_image 11 = .ok (.ireturn, 1) := by decide +kernel
theorem dX9_image_12 : decode cX9_image 12 = .ok (.aload_n 0, 1) := by decide +kernel
theorem dX9_image_13 : decode cX9_image 13 = .ok (.iload_n 1, 1) := by decide +kernel
theorem dX9_image_14 : decode cX9_image 14 = .ok (.invokevirtual 279, 3) := by decide +kernel
theorem dX9_image_17 : decode cX9_image 17 = .ok (.astore_n 2, 1) := by decide +kernel
theorem dX9_image_18 : decode cX9_image 18 = .ok (.aload_n 2, 1) := by decide +kernel
theorem dX9_image_19 : decode cX9_image 19 = .ok (.getfield 283, 3) := by decide +kernel
theorem dX9_image_22 : decode cX9_image 22 = .ok (.aload_n 0, 1) := by decide +kernel
theorem dX9_image_23 : decode cX9_image 23 = .ok (.getfield 10, 3) := by decide +kernel
theorem dX9_image_26 : decode cX9_image 26 = .ok (.invokevirtual 149, 3) := by decide +kernel
theorem dX9_image_29 : decode cX9_image 29 = .ok (.aload_n 2, 1) := by decide +kernel
theorem dX9_image_30 : decode cX9_image 30 = .ok (.iconst 1, 1) := by decide +kernel
theorem dX9_image_31 : decode cX9_image 31 = .ok (.putfield 284, 3) := by decide +kernel
theorem dX9_image_34 : decode cX9_image 34 = .ok (.iconst 1, 1) := by decide +kernel
theorem dX9_image_35 : decode cX9_image 35 = .ok (.ireturn, 1) := by decide +kernel
theorem dX9_restore_0 : decode cX9_restore 0 = .ok (.iload_n 1, 1) := by decide +kernel
theorem dX9_restore_1 : decode cX9_restore 1 = .ok (.iconst 0, 1) := by decide +kernel
theorem dX9_restore_2 : decode cX9_restore 2 = .ok (.iconst 1, 1) := by decide +kernel
theorem dX9_restore_3 : decode cX9_restore 3 = .ok (.invokestatic 75, 3) := by decide +kernel
theorem dX9_restore_6 : decode cX9_restore 6 = .ok (.ifCond .ne 6, 3) := by decide +kernel
theorem dX9_restore_9 : decode cX9_restore 9 = .ok (.bipush (-2), 2) := by decide +kernel
theorem dX9_restore_11 : decode cX9_restore 11 = .ok (.ireturn, 1) := by decide +kernel
theorem dX9_restore_12 : decode cX9_restore 12 = .ok (.aload_n 0, 1) := by decide +kernel
theorem dX9_restore_13 : decode cX9_restore 13 = .ok (.iload_n 1, 1) := by decide +kernel
theorem dX9_restore_14 : decode cX9_restore 14 = .ok (.invokevirtual 279, 3) := by decide +kernel
theorem dX9_restore_17 : decode cX9_restore 17 = .ok (.astore_n 2, 1) := by decide +kernel
theorem dX9_restore_18 : decode cX9_restore 18 = .ok (.aload_n 2, 1) := by decide +kernel
theorem dX9_restore_19 : decode cX9_restore 19 = .ok (.getfield 284, 3) := by decide +kernel
theorem dX9_restore_22 : decode cX9_restore 22 = .ok (.ifCond .ne 6, 3) := by decide +kernel
theorem dX9_restore_25 : decode cX9_restore 25 = .ok (.bipush (-3), 2) := by decide +kernel
theorem dX9_restore_27 : decode cX9_restore 27 = .ok (.ireturn, 1) := by decide +kernel
theorem dX9_restore_28 : decode cX9_restore 28 = .ok (.aload_n 0, 1) := by decide +kernel
theorem dX9_restore_29 : decode cX9_restore 29 = .ok (.getfield 10, 3) := by decide +kernel
theorem dX9_restore_32 : decode cX9_restore 32 = .ok (.aload_n 2, 1) := by decide +kernel
theorem dX9_restore_33 : decode cX9_restore 33 = .ok (.getfield 283, 3) := by decide +kernel
theorem dX9_restore_36 : decode cX9_restore 36 = .ok (.invokevirtual 149, 3) := by decide +kernel
theorem dX9_restore_39 : decode cX9_restore 39 = .ok (.iconst 1, 1) := by decide +kernel
theorem dX9_restore_40 : decode cX9_restore 40 = .ok (.ireturn, 1) := by decide +kernel
theorem dX9_told_0 : decode cX9_told 0 = .ok (.iload_n 1, 1) := by decide +kernel
theorem dX9_told_1 : decode cX9_told 1 = .ok (.iconst 0, 1) := by decide +kernel
theorem dX9_told_2 : decode cX9_told 2 = .ok (.iconst 3, 1) := by decide +kernel
theorem dX9_told_3 : decode cX9_told 3 = .ok (.invokestatic 75, 3) := by decide +kernel
theorem dX9_told_6 : decode cX9_told 6 = .ok (.ifCond .eq 9, 3) := by decide +kernel
theorem dX9_told_9 : decode cX9_told 9 = .ok (.aload_n 0, 1) := by decide +kernel
theorem dX9_told_10 : decode cX9_told 10 = .ok (.iload_n 1, 1) := by decide +kernel
theorem dX9_told_11 : decode cX9_told 11 = .ok (.invokevirtual 288, 3) := by decide +kernel
theorem dX9_told_14 : decode cX9_told 14 = .ok (.ireturn, 1) := by decide +kernel
theorem dX9_told_15 : decode cX9_told 15 = .ok (.iload_n 1, 1) := by decide +kernel
theorem dX9_told_16 : decode cX9_told 16 = .ok (.bipush 10, 2) := by decide +kernel
theorem dX9_told_18 : decode cX9_told 18 = .ok (.bipush 16, 2) := by decide +kernel
theorem dX9_told_20 : decode cX9_told 20 = .ok (.invokestatic 75, 3) := by decide +kernel
theorem dX9_told_23 : decode cX9_told 23 = .ok (.ifCond .eq 19, 3) := by decide +kernel
theorem dX9_told_26 : decode cX9_told 26 = .ok (.aload_n 0, 1) := by decide +kernel
theorem dX9_told_27 : decode cX9_told 27 = .ok (.getfield 10, 3) := by decide +kernel
theorem dX9_told_30 : decode cX9_told 30 = .ok (.getfield 83, 3) := by decide +kernel
theorem dX9_told_33 : decode cX9_told 33 = .ok (.iload_n 1, 1) := by decide +kernel
theorem dX9_told_34 : decode cX9_told 34 = .ok (.bipush 10, 2) := by decide +kernel
theorem dX9_told_36 : decode cX9_told 36 = .ok (.isub, 1) := by decide +kernel
theorem dX9_told_37 : decode cX9_told 37 = .ok (.iaload, 1) := by decide +kernel
theorem dX9_told_38 : decode cX9_told 38 = .ok (.bipush 9, 2) := by decide +kernel
theorem dX9_told_40 : decode cX9_told 40 = .ok (.iadd, 1) := by decide +kernel
theorem dX9_told_41 : decode cX9_told 41 = .ok (.ireturn, 1) := by decide +kernel
theorem dX9_told_42 : decode cX9_told 42 = .ok (.iload_n 1, 1) := by decide +kernel
theorem dX9_told_43 : decode cX9_told 43 = .ok (.bipush 20, 2) := by decide +kernel
theorem dX9_told_45 : decode cX9_told 45 = .ok (.bipush 27, 2) := by decide +kernel
theorem dX9_told_47 : decode cX9_told 47 = .ok (.invokestatic 75, 3) := by decide +kernel
theorem dX9_told_50 : decode cX9_told 50 = .ok (.ifCond .eq 16, 3) := by decide +kernel
theorem dX9_told_53 : decode cX9_told 53 = .ok (.aload_n 0, 1) := by decide +kernel
theorem dX9_told_54 : decode cX9_told 54 = .ok (.getfield 10, 3) := by decide +kernel
theorem dX9_told_57 : decode cX9_told 57 = .ok (.getfield 104, 3) := by decide +kernel
theorem dX9_told_60 : decode cX9_told 60 = .ok (.iload_n 1, 1) := by decide +kernel
theorem dX9_told_61 : decode cX9_told 61 = .ok (.bipush 20, 2) := by decide +kernel
theorem dX9_told_63 : decode cX9_told 63 = .ok (.isub, 1) := by decide +kernel
theorem dX9_told_64 : decode cX9_told 64 = .ok (.iaload, 1) := by decide +kernel
theorem dX9_told_65 : decode cX9_told 65 = .ok (.ireturn, 1) := by decide +kernel
theorem dX9_told_66 : decode cX9_told 66 = .ok (.iload_n 1, 1) := by decide +kernel
theorem dX9_told_67 : decode cX9_told 67 = .ok (.bipush 40, 2) := by decide +kernel
theorem dX9_told_69 : decode cX9_told 69 = .ok (.bipush 99, 2) := by decide +kernel
theorem dX9_told_71 : decode cX9_told 71 = .ok (.invokestatic 75, 3) := by decide +kernel
theorem dX9_told_74 : decode cX9_told 74 = .ok (.ifCond .eq 22, 3) := by decide +kernel
theorem dX9_told_77 : decode cX9_told 77 = .ok (.aload_n 0, 1) := by decide +kernel
theorem dX9_told_78 : decode cX9_told 78 = .ok (.getfield 10, 3) := by decide +kernel
theorem dX9_told_81 : decode cX9_told 81 = .ok (.iload_n 1, 1) := by decide +kernel
theorem dX9_told_82 : decode cX9_told 82 = .ok (.bipush 40, 2) := by decide +kernel
theorem dX9_told_84 : decode cX9_told 84 = .ok (.isub, 1) := by decide +kernel
theorem dX9_told_85 : decode cX9_told 85 = .ok (.bipush 10, 2) := by decide +kernel
theorem dX9_told_87 : decode cX9_told 87 = .ok (.idiv, 1) := by decide +kernel
theorem dX9_told_88 : decode cX9_told 88 = .ok (.iload_n 1, 1) := by decide +kernel
theorem dX9_told_89 : decode cX9_told 89 = .ok (.bipush 10, 2) := by decide +kernel
theorem dX9_told_91 : decode cX9_told 91 = .ok (.irem, 1) := by decide +kernel
theorem dX9_told_92 : decode cX9_told 92 = .ok (.invokevirtual 156, 3) := by decide +kernel
theorem dX9_told_95 : decode cX9_told 95 = .ok (.ireturn, 1) := by decide +kernel
theorem dX9_told_96 : decode cX9_told 96 = .ok (.iload_n 1, 1) := by decide +kernel
theorem dX9_told_97 : decode cX9_told 97 = .ok (.bipush 100, 2) := by decide +kernel
theorem dX9_told_99 : decode cX9_told 99 = .ok (.sipush 139, 3) := by decide +kernel
theorem dX9_told_102 : decode cX9_told 102 = .ok (.invokestatic 75, 3) := by decide +kernel
theorem dX9_told_105 : decode cX9_told 105 = .ok (.ifCond .eq 22, 3) := by decide +kernel
theorem dX9_told_108 : decode cX9_told 108 = .ok (.aload_n 0, 1) := by decide +kernel
theorem dX9_told_109 : decode cX9_told 109 = .ok (.getfield 10, 3) := by decide +kernel
theorem dX9_told_112 : decode cX9_told 112 = .ok (.iload_n 1, 1) := by decide +kernel
theorem dX9_told_113 : decode cX9_told 113 = .ok (.bipush 100, 2) := by decide +kernel
theorem dX9_told_115 : decode cX9_told 115 = .ok (.isub, 1) := by decide +kernel
theorem dX9_told_116 : decode cX9_told 116 = .ok (.bipush 10, 2) := by decide +kernel
theorem dX9_told_118 : decode cX9_told 118 = .ok (.idiv, 1) := by decide +kernel
theorem dX9_told_119 : decode cX9_told 119 = .ok (.iload_n 1, 1) := by decide +kernel
theorem dX9_told_120 : decode cX9_told 120 = .ok (.bipush 10, 2) := by decide +kernel
theorem dX9_told_122 : decode cX9_told 122 = .ok (.irem, 1) := by decide +kernel
theorem dX9_told_123 : decode cX9_told 123 = .ok (.invokevirtual 291, 3) := by decide +kernel
theorem dX9_told_126 : decode cX9_told 126 = .ok (.ireturn, 1) := by decide +kernel
theorem dX9_told_127 : decode cX9_told 127 = .ok (.bipush (-2), 2) := by decide +kernel
theorem dX9_told_129 : decode cX9_told 129 = .ok (.ireturn, 1) := by decide +kernel
theorem dX9_toldOfAll_0 : decode cX9_toldOfAll 0 = .ok (.iload_n 1, 1) := by decide +kernel
theorem dX9_toldOfAll_1 : decode cX9_toldOfAll 1 = .ok (.tableswitch 51 0 2 #[27, 35, 43], 27) := by decide +kernel
theorem dX9_toldOfAll_28 : decode cX9_toldOfAll 28 = .ok (.aload_n 0, 1) := by decide +kernel
theorem dX9_toldOfAll_29 : decode cX9_toldOfAll 29 = .ok (.getfield 29, 3) := by decide +kernel
theorem dX9_toldOfAll_32 : decode cX9_toldOfAll 32 = .ok (.getfield 122, 3) := by decide +kernel
theorem dX9_toldOfAll_35 : decode cX9_toldOfAll 35 = .ok (.ireturn, 1) := by decide +kernel
theorem dX9_toldOfAll_36 : decode cX9_toldOfAll 36 = .ok (.aload_n 0, 1) := by decide +kernel
theorem dX9_toldOfAll_37 : decode cX9_toldOfAll 37 = .ok (.getfield 10, 3) := by decide +kernel
theorem dX9_toldOfAll_40 : decode cX9_toldOfAll 40 = .ok (.getfield 79, 3) := by decide +kernel
theorem dX9_toldOfAll_43 : decode cX9_toldOfAll 43 = .ok (.ireturn, 1) := by decide +kernel
theorem dX9_toldOfAll_44 : decode cX9_toldOfAll 44 = .ok (.aload_n 0, 1) := by decide +kernel
theorem dX9_toldOfAll_45 : decode cX9_toldOfAll 45 = .ok (.getfield 10, 3) := by decide +kernel
theorem dX9_toldOfAll_48 : decode cX9_toldOfAll 48 = .ok (.getfield 164, 3) := by decide +kernel
theorem dX9_toldOfAll_51 : decode cX9_toldOfAll 51 = .ok (.ireturn, 1) := by decide +kernel
theorem dX9_toldOfAll_52 : decode cX9_toldOfAll 52 = .ok (.aload_n 0, 1) := by decide +kernel
theorem dX9_toldOfAll_53 : decode cX9_toldOfAll 53 = .ok (.getfield 10, 3) := by decide +kernel
theorem dX9_toldOfAll_56 : decode cX9_toldOfAll 56 = .ok (.getfield 219, 3) := by decide +kernel
theorem dX9_toldOfAll_59 : decode cX9_toldOfAll 59 = .ok (.ireturn, 1) := by decide +kernel
theorem dX9_allCanBe_0 : decode cX9_allCanBe 0 = .ok (.aload_n 0, 1) := by decide +kernel
theorem dX9_allCanBe_1 : decode cX9_allCanBe 1 = .ok (.getfield 36, 3) := by decide +kernel
theorem dX9_allCanBe_4 : decode cX9_allCanBe 4 = .ok (.aload_n 0, 1) := by decide +kernel
theorem dX9_allCanBe_5 : decode cX9_allCanBe 5 = .ok (.getfield 10, 3) := by decide +kernel
theorem dX9_allCanBe_8 : decode cX9_allCanBe 8 = .ok (.aload_n 0, 1) := by decide +kernel
theorem dX9_allCanBe_9 : decode cX9_allCanBe 9 = .ok (.getfield 29, 3) := by decide +kernel
theorem dX9_allCanBe_12 : decode cX9_allCanBe 12 = .ok (.invokevirtual 132, 3) := by decide +kernel
theorem dX9_allCanBe_15 : decode cX9_allCanBe 15 = .ok (.ifCond .eq 19, 3) := by decide +kernel
theorem dX9_allCanBe_18 : decode cX9_allCanBe 18 = .ok (.aload_n 0, 1) := by decide +kernel
theorem dX9_allCanBe_19 : decode cX9_allCanBe 19 = .ok (.getfield 36, 3) := by decide +kernel
theorem dX9_allCanBe_22 : decode cX9_allCanBe 22 = .ok (.getfield 136, 3) := by decide +kernel
theorem dX9_allCanBe_25 : decode cX9_allCanBe 25 = .ok (.bipush (-6), 2) := by decide +kernel
theorem dX9_allCanBe_27 : decode cX9_allCanBe 27 = .ok (.if_icmp .ne 7, 3) := by decide +kernel
theorem dX9_allCanBe_30 : decode cX9_allCanBe 30 = .ok (.iconst 1, 1) := by decide +kernel
theorem dX9_allCanBe_31 : decode cX9_allCanBe 31 = .ok (.goto 4, 3) := by decide +kernel
theorem dX9_allCanBe_34 : decode cX9_allCanBe 34 = .ok (.iconst 0, 1) := by decide +kernel
theorem dX9_allCanBe_35 : decode cX9_allCanBe 35 = .ok (.ireturn, 1) := by decide +kernel
theorem dX9_imageOf_0 : decode cX9_imageOf 0 = .ok (.iload_n 1, 1) := by decide +kernel
theorem dX9_imageOf_1 : decode cX9_imageOf 1 = .ok (.ifCond .ne 10, 3) := by decide +kernel
theorem dX9_imageOf_4 : decode cX9_imageOf 4 = .ok (.aload_n 0, 1) := by decide +kernel
theorem dX9_imageOf_5 : decode cX9_imageOf 5 = .ok (.getfield 19, 3) := by decide +kernel
theorem dX9_imageOf_8 : decode cX9_imageOf 8 = .ok (.goto 7, 3) := by decide +kernel
theorem dX9_imageOf_11 : decode cX9_imageOf 11 = .ok (.aload_n 0, 1) := by decide +kernel
theorem dX9_imageOf_12 : decode cX9_imageOf 12 = .ok (.getfield 23, 3) := by decide +kernel
theorem dX9_imageOf_15 : decode cX9_imageOf 15 = .ok (.areturn, 1) := by decide +kernel
theorem dX9_within_0 : decode cX9_within 0 = .ok (.iload_n 0, 1) := by decide +kernel
theorem dX9_within_1 : decode cX9_within 1 = .ok (.iload_n 1, 1) := by decide +kernel
theorem dX9_within_2 : decode cX9_within 2 = .ok (.if_icmp .lt 12, 3) := by decide +kernel
theorem dX9_within_5 : decode cX9_within 5 = .ok (.iload_n 0, 1) := by decide +kernel
theorem dX9_within_6 : decode cX9_within 6 = .ok (.iload_n 2, 1) := by decide +kernel
theorem dX9_within_7 : decode cX9_within 7 = .ok (.if_icmp .gt 7, 3) := by decide +kernel
theorem dX9_within_10 : decode cX9_within 10 = .ok (.iconst 1, 1) := by decide +kernel
theorem dX9_within_11 : decode cX9_within 11 = .ok (.goto 4, 3) := by decide +kernel
theorem dX9_within_14 : decode cX9_within 14 = .ok (.iconst 0, 1) := by decide +kernel
theorem dX9_within_15 : decode cX9_within 15 = .ok (.ireturn, 1) := by decide +kernel
theorem dX9_isOne_0 : decode cX9_isOne 0 = .ok (.iload_n 0, 1) := by decide +kernel
theorem dX9_isOne_1 : decode cX9_isOne 1 = .ok (.iconst 0, 1) := by decide +kernel
theorem dX9_isOne_2 : decode cX9_isOne 2 = .ok (.iconst 5, 1) := by decide +kernel
theorem dX9_isOne_3 : decode cX9_isOne 3 = .ok (.invokestatic 75, 3) := by decide +kernel
theorem dX9_isOne_6 : decode cX9_isOne 6 = .ok (.ireturn, 1) := by decide +kernel
theorem dX9_isStick_0 : decode cX9_isStick 0 = .ok (.iload_n 0, 1) := by decide +kernel
theorem dX9_isStick_1 : decode cX9_isStick 1 = .ok (.iconst 0, 1) := by decide +kernel
theorem dX9_isStick_2 : decode cX9_isStick 2 = .ok (.bipush 7, 2) := by decide +kernel
theorem dX9_isStick_4 : decode cX9_isStick 4 = .ok (.invokestatic 75, 3) := by decide +kernel
theorem dX9_isStick_7 : decode cX9_isStick 7 = .ok (.ireturn, 1) := by decide +kernel
theorem dX9_isBridge_0 : decode cX9_isBridge 0 = .ok (.iload_n 0, 1) := by decide +kernel
theorem dX9_isBridge_1 : decode cX9_isBridge 1 = .ok (.iconst 0, 1) := by decide +kernel
theorem dX9_isBridge_2 : decode cX9_isBridge 2 = .ok (.iconst 3, 1) := by decide +kernel
theorem dX9_isBridge_3 : decode cX9_isBridge 3 = .ok (.invokestatic 75, 3) := by decide +kernel
theorem dX9_isBridge_6 : decode cX9_isBridge 6 = .ok (.ireturn, 1) := by decide +kernel
theorem dX9_limited_0 : decode cX9_limited 0 = .ok (.iconst 1, 1) := by decide +kernel
theorem dX9_limited_1 : decode cX9_limited 1 = .ok (.sipush 200, 3) := by decide +kernel
theorem dX9_limited_4 : decode cX9_limited 4 = .ok (.iload_n 0, 1) := by decide +kernel
theorem dX9_limited_5 : decode cX9_limited 5 = .ok (.invokestatic 208, 3) := by decide +kernel
theorem dX9_limited_8 : decode cX9_limited 8 = .ok (.invokestatic 294, 3) := by decide +kernel
theorem dX9_limited_11 : decode cX9_limited 11 = .ok (.ireturn, 1) := by decide +kernel
theorem dX9_fewestForLeastRest_0 : decode cX9_fewestForLeastRest 0 = .ok (.iconst 0, 1) := by decide +kernel
theorem dX9_fewestForLeastRest_1 : decode cX9_fewestForLeastRest 1 = .ok (.istore_n 3, 1) := by decide +kernel
theorem dX9_fewestForLeastRest_2 : decode cX9_fewestForLeastRest 2 = .ok (.iload_n 0, 1) := by decide +kernel
theorem dX9_fewestForLeastRest_3 : decode cX9_fewestForLeastRest 3 = .ok (.iload_n 2, 1) := by decide +kernel
theorem dX9_fewestForLeastRest_4 : decode cX9_fewestForLeastRest 4 = .ok (.invokestatic 205, 3) := by decide +kernel
theorem dX9_fewestForLeastRest_7 : decode cX9_fewestForLeastRest 7 = .ok (.istore 4, 2) := by decide +kernel
theorem dX9_fewestForLeastRest_9 : decode cX9_fewestForLeastRest 9 = .ok (.iconst 1, 1) := by decide +kernel
theorem dX9_fewestForLeastRest_10 : decode cX9_fewestForLeastRest 10 = .ok (.istore 5, 2) := by decide +kernel
theorem dX9_fewestForLeastRest_12 : decode cX9_fewestForLeastRest 12 = .ok (.iload 5, 2) := by decide +kernel
theorem dX9_fewestForLeastRest_14 : decode cX9_fewestForLeastRest 14 = .ok (.sipush 1800, 3) := by decide +kernel
theorem dX9_fewestForLeastRest_17 : decode cX9_fewestForLeastRest 17 = .ok (.if_icmp .gt 43, 3) := by decide +kernel
theorem dX9_fewestForLeastRest_20 : decode cX9_fewestForLeastRest 20 = .ok (.iload 5, 2) := by decide +kernel
theorem dX9_fewestForLeastRest_22 : decode cX9_fewestForLeastRest 22 = .ok (.iload_n 1, 1) := by decide +kernel
theorem dX9_fewestForLeastRest_23 : decode cX9_fewestForLeastRest 23 = .ok (.imul, 1) := by decide +kernel
theorem dX9_fewestForLeastRest_24 : decode cX9_fewestForLeastRest 24 = .ok (.iload_n 0, 1) := by decide +kernel
theorem dX9_fewestForLeastRest_25 : decode cX9_fewestForLeastRest 25 = .ok (.if_icmp .gt 35, 3) := by decide +kernel
theorem dX9_fewestForLeastRest_28 : decode cX9_fewestForLeastRest 28 = .ok (.iload_n 0, 1) := by decide +kernel
theorem dX9_fewestForLeastRest_29 : decode cX9_fewestForLeastRest 29 = .ok (.iload 5, 2) := by decide +kernel
theorem dX9_fewestForLeastRest_31 : decode cX9_fewestForLeastRest 31 = .ok (.iload_n 1, 1) := by decide +kernel
theorem dX9_fewestForLeastRest_32 : decode cX9_fewestForLeastRest 32 = .ok (.imul, 1) := by decide +kernel
theorem dX9_fewestForLeastRest_33 : decode cX9_fewestForLeastRest 33 = .ok (.isub, 1) := by decide +kernel
theorem dX9_fewestForLeastRest_34 : decode cX9_fewestForLeastRest 34 = .ok (.iload_n 2, 1) := by decide +kernel
theorem dX9_fewestForLeastRest_35 : decode cX9_fewestForLeastRest 35 = .ok (.invokestatic 205, 3) := by decide +kernel
theorem dX9_fewestForLeastRest_38 : decode cX9_fewestForLeastRest 38 = .ok (.istore 6, 2) := by decide +kernel
theorem dX9_fewestForLeastRest_40 : decode cX9_fewestForLeastRest 40 = .ok (.iload 6, 2) := by decide +kernel
theorem dX9_fewestForLeastRest_42 : decode cX9_fewestForLeastRest 42 = .ok (.iload 4, 2) := by decide +kernel
theorem dX9_fewestForLeastRest_44 : decode cX9_fewestForLeastRest 44 = .ok (.if_icmp .ge 10, 3) := by decide +kernel
theorem dX9_fewestForLeastRest_47 : decode cX9_fewestForLeastRest 47 = .ok (.iload 6, 2) := by decide +kernel
theorem dX9_fewestForLeastRest_49 : decode cX9_fewestForLeastRest 49 = .ok (.istore 4, 2) := by decide +kernel
theorem dX9_fewestForLeastRest_51 : decode cX9_fewestForLeastRest 51 = .ok (.iload 5, 2) := by decide +kernel
theorem dX9_fewestForLeastRest_53 : decode cX9_fewestForLeastRest 53 = .ok (.istore_n 3, 1) := by decide +kernel
theorem dX9_fewestForLeastRest_54 : decode cX9_fewestForLeastRest 54 = .ok (.iinc 5 1, 3) := by decide +kernel
theorem dX9_fewestForLeastRest_57 : decode cX9_fewestForLeastRest 57 = .ok (.goto (-45), 3) := by decide +kernel
theorem dX9_fewestForLeastRest_60 : decode cX9_fewestForLeastRest 60 = .ok (.iload_n 3, 1) := by decide +kernel
theorem dX9_fewestForLeastRest_61 : decode cX9_fewestForLeastRest 61 = .ok (.ireturn, 1) := by decide +kernel
theorem dX9_restBy_0 : decode cX9_restBy 0 = .ok (.iload_n 1, 1) := by decide +kernel
theorem dX9_restBy_1 : decode cX9_restBy 1 = .ok (.iconst 1, 1) := by decide +kernel
theorem dX9_restBy_2 : decode cX9_restBy 2 = .ok (.if_icmp .ge 7, 3) := by decide +kernel
theorem dX9_restBy_5 : decode cX9_restBy 5 = .ok (.iload_n 0, 1) := by decide +kernel
theorem dX9_restBy_6 : decode cX9_restBy 6 = .ok (.goto 6, 3) := by decide +kernel
theorem dX9_restBy_9 : decode cX9_restBy 9 = .ok (.iload_n 0, 1) := by decide +kernel
theorem dX9_restBy_10 : decode cX9_restBy 10 = .ok (.iload_n 1, 1) := by decide +kernel
theorem dX9_restBy_11 : decode cX9_restBy 11 = .ok (.irem, 1) := by decide +kernel
theorem dX9_restBy_12 : decode cX9_restBy 12 = .ok (.ireturn, 1) := by decide +kernel
theorem dX9_lowest_0 : decode cX9_lowest 0 = .ok (.lload_n 0, 1) := by decide +kernel
theorem dX9_lowest_1 : decode cX9_lowest 1 = .ok (.lload_n 2, 1) := by decide +kernel
theorem dX9_lowest_2 : decode cX9_lowest 2 = .ok (.invokestatic 297, 3) := by decide +kernel
theorem dX9_lowest_5 : decode cX9_lowest 5 = .ok (.lstore 5, 2) := by decide +kernel
theorem dX9_lowest_7 : decode cX9_lowest 7 = .ok (.iload 4, 2) := by decide +kernel
theorem dX9_lowest_9 : decode cX9_lowest 9 = .ok (.ifCond .ne 10, 3) := by decide +kernel
theorem dX9_lowest_12 : decode cX9_lowest 12 = .ok (.lload_n 0, 1) := by decide +kernel
theorem dX9_lowest_13 : decode cX9_lowest 13 = .ok (.lload 5, 2) := by decide +kernel
theorem dX9_lowest_15 : decode cX9_lowest 15 = .ok (.ldiv, 1) := by decide +kernel
theorem dX9_lowest_16 : decode cX9_lowest 16 = .ok (.goto 7, 3) := by decide +kernel
theorem dX9_lowest_19 : decode cX9_lowest 19 = .ok (.lload_n 2, 1) := by decide +kernel
theorem dX9_lowest_20 : decode cX9_lowest 20 = .ok (.lload 5, 2) := by decide +kernel
theorem dX9_lowest_22 : decode cX9_lowest 22 = .ok (.ldiv, 1) := by decide +kernel
theorem dX9_lowest_23 : decode cX9_lowest 23 = .ok (.lreturn, 1) := by decide +kernel
theorem dX9_sharedDivisor_0 : decode cX9_sharedDivisor 0 = .ok (.lload_n 0, 1) := by decide +kernel
theorem dX9_sharedDivisor_1 : decode cX9_sharedDivisor 1 = .ok (.lstore 4, 2) := by decide +kernel
theorem dX9_sharedDivisor_3 : decode cX9_sharedDivisor 3 = .ok (.lload_n 2, 1) := by decide +kernel
theorem dX9_sharedDivisor_4 : decode cX9_sharedDivisor 4 = .ok (.lstore 6, 2) := by decide +kernel
theorem dX9_sharedDivisor_6 : decode cX9_sharedDivisor 6 = .ok (.iconst 0, 1) := by decide +kernel
theorem dX9_sharedDivisor_7 : decode cX9_sharedDivisor 7 = .ok (.istore 8, 2) := by decide +kernel
theorem dX9_sharedDivisor_9 : decode cX9_sharedDivisor 9 = .ok (.iload 8, 2) := by decide +kernel
theorem dX9_sharedDivisor_11 : decode cX9_sharedDivisor 11 = .ok (.bipush 100, 2) := by decide +kernel
theorem dX9_sharedDivisor_13 : decode cX9_sharedDivisor 13 = .ok (.if_icmp .ge 31, 3) := by decide +kernel
theorem dX9_sharedDivisor_16 : decode cX9_sharedDivisor 16 = .ok (.lload 6, 2) := by decide +kernel
theorem dX9_sharedDivisor_18 : decode cX9_sharedDivisor 18 = .ok (.lconst 0, 1) := by decide +kernel
theorem dX9_sharedDivisor_19 : decode cX9_sharedDivisor 19 = .ok (.lcmp, 1) := by decide +kernel
theorem dX9_sharedDivisor_20 : decode cX9_sharedDivisor 20 = .ok (.ifCond .eq 24, 3) := by decide +kernel
theorem dX9_sharedDivisor_23 : decode cX9_sharedDivisor 23 = .ok (.lload 4, 2) := by decide +kernel
theorem dX9_sharedDivisor_25 : decode cX9_sharedDivisor 25 = .ok (.lload 6, 2) := by decide +kernel
theorem dX9_sharedDivisor_27 : decode cX9_sharedDivisor 27 = .ok (.lrem, 1) := by decide +kernel
theorem dX9_sharedDivisor_28 : decode cX9_sharedDivisor 28 = .ok (.lstore 9, 2) := by decide +kernel
theorem dX9_sharedDivisor_30 : decode cX9_sharedDivisor 30 = .ok (.lload 6, 2) := by decide +kernel
theorem dX9_sharedDivisor_32 : decode cX9_sharedDivisor 32 = .ok (.lstore 4, 2) := by decide +kernel
theorem dX9_sharedDivisor_34 : decode cX9_sharedDivisor 34 = .ok (.lload 9, 2) := by decide +kernel
theorem dX9_sharedDivisor_36 : decode cX9_sharedDivisor 36 = .ok (.lstore 6, 2) := by decide +kernel
theorem dX9_sharedDivisor_38 : decode cX9_sharedDivisor 38 = .ok (.iinc 8 1, 3) := by decide +kernel
theorem dX9_sharedDivisor_41 : decode cX9_sharedDivisor 41 = .ok (.goto (-32), 3) := by decide +kernel
theorem dX9_sharedDivisor_44 : decode cX9_sharedDivisor 44 = .ok (.lconst 1, 1) := by decide +kernel
theorem dX9_sharedDivisor_45 : decode cX9_sharedDivisor 45 = .ok (.lload 4, 2) := by decide +kernel
theorem dX9_sharedDivisor_47 : decode cX9_sharedDivisor 47 = .ok (.invokestatic 301, 3) := by decide +kernel
theorem dX9_sharedDivisor_50 : decode cX9_sharedDivisor 50 = .ok (.lreturn, 1) := by decide +kernel
