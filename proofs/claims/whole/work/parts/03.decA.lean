theorem dX0_init_0 : decode cX0_init 0 = .ok (.aload_n 0, 1) := by decide +kernel
theorem dX0_init_1 : decode cX0_init 1 = .ok (.invokespecial 3, 3) := by decide +kernel
theorem dX0_init_4 : decode cX0_init 4 = .ok (.aload_n 0, 1) := by decide +kernel
theorem dX0_init_5 : decode cX0_init 5 = .ok (.bipush 100, 2) := by decide +kernel
theorem dX0_init_7 : decode cX0_init 7 = .ok (.newarray .int, 2) := by decide +kernel
theorem dX0_init_9 : decode cX0_init 9 = .ok (.putfield 9, 3) := by decide +kernel
theorem dX0_init_12 : decode cX0_init 12 = .ok (.aload_n 0, 1) := by decide +kernel
theorem dX0_init_13 : decode cX0_init 13 = .ok (.bipush 61, 2) := by decide +kernel
theorem dX0_init_15 : decode cX0_init 15 = .ok (.newarray .int, 2) := by decide +kernel
theorem dX0_init_17 : decode cX0_init 17 = .ok (.putfield 15, 3) := by decide +kernel
theorem dX0_init_20 : decode cX0_init 20 = .ok (.return_, 1) := by decide +kernel
theorem dX0_look_0 : decode cX0_look 0 = .ok (.aload_n 0, 1) := by decide +kernel
theorem dX0_look_1 : decode cX0_look 1 = .ok (.getfield 9, 3) := by decide +kernel
theorem dX0_look_4 : decode cX0_look 4 = .ok (.iconst 0, 1) := by decide +kernel
theorem dX0_look_5 : decode cX0_look 5 = .ok (.aload_n 1, 1) := by decide +kernel
theorem dX0_look_6 : decode cX0_look 6 = .ok (.getfield 18, 3) := by decide +kernel
theorem dX0_look_9 : decode cX0_look 9 = .ok (.iastore, 1) := by decide +kernel
theorem dX0_look_10 : decode cX0_look 10 = .ok (.iconst 1, 1) := by decide +kernel
theorem dX0_look_11 : decode cX0_look 11 = .ok (.istore_n 3, 1) := by decide +kernel
theorem dX0_look_12 : decode cX0_look 12 = .ok (.iload_n 3, 1) := by decide +kernel
theorem dX0_look_13 : decode cX0_look 13 = .ok (.iload_n 2, 1) := by decide +kernel
theorem dX0_look_14 : decode cX0_look 14 = .ok (.if_icmp .gt 35, 3) := by decide +kernel
theorem dX0_look_17 : decode cX0_look 17 = .ok (.aload_n 0, 1) := by decide +kernel
theorem dX0_look_18 : decode cX0_look 18 = .ok (.getfield 9, 3) := by decide +kernel
theorem dX0_look_21 : decode cX0_look 21 = .ok (.iload_n 3, 1) := by decide +kernel
theorem dX0_look_22 : decode cX0_look 22 = .ok (.aload_n 1, 1) := by decide +kernel
theorem dX0_look_23 : decode cX0_look 23 = .ok (.aload_n 0, 1) := by decide +kernel
theorem dX0_look_24 : decode cX0_look 24 = .ok (.getfield 9, 3) := by decide +kernel
theorem dX0_look_27 : decode cX0_look 27 = .ok (.iload_n 3, 1) := by decide +kernel
theorem dX0_look_28 : decode cX0_look 28 = .ok (.iconst 1, 1) := by decide +kernel
theorem dX0_look_29 : decode cX0_look 29 = .ok (.isub, 1) := by decide +kernel
theorem dX0_look_30 : decode cX0_look 30 = .ok (.iaload, 1) := by decide +kernel
theorem dX0_look_31 : decode cX0_look 31 = .ok (.aload_n 1, 1) := by decide +kernel
theorem dX0_look_32 : decode cX0_look 32 = .ok (.getfield 24, 3) := by decide +kernel
theorem dX0_look_35 : decode cX0_look 35 = .ok (.iload_n 3, 1) := by decide +kernel
theorem dX0_look_36 : decode cX0_look 36 = .ok (.iadd, 1) := by decide +kernel
theorem dX0_look_37 : decode cX0_look 37 = .ok (.iconst 1, 1) := by decide +kernel
theorem dX0_look_38 : decode cX0_look 38 = .ok (.isub, 1) := by decide +kernel
theorem dX0_look_39 : decode cX0_look 39 = .ok (.invokevirtual 27, 3) := by decide +kernel
theorem dX0_look_42 : decode cX0_look 42 = .ok (.iastore, 1) := by decide +kernel
theorem dX0_look_43 : decode cX0_look 43 = .ok (.iinc 3 1, 3) := by decide +kernel
theorem dX0_look_46 : decode cX0_look 46 = .ok (.goto (-34), 3) := by decide +kernel
theorem dX0_look_49 : decode cX0_look 49 = .ok (.return_, 1) := by decide +kernel
theorem dX0_trade_0 : decode cX0_trade 0 = .ok (.aload_n 0, 1) := by decide +kernel
theorem dX0_trade_1 : decode cX0_trade 1 = .ok (.iconst 0, 1) := by decide +kernel
theorem dX0_trade_2 : decode cX0_trade 2 = .ok (.putfield 31, 3) := by decide +kernel
theorem dX0_trade_5 : decode cX0_trade 5 = .ok (.aload_n 0, 1) := by decide +kernel
theorem dX0_trade_6 : decode cX0_trade 6 = .ok (.iconst 1, 1) := by decide +kernel
theorem dX0_trade_7 : decode cX0_trade 7 = .ok (.putfield 34, 3) := by decide +kernel
theorem dX0_trade_10 : decode cX0_trade 10 = .ok (.iconst 0, 1) := by decide +kernel
theorem dX0_trade_11 : decode cX0_trade 11 = .ok (.istore_n 2, 1) := by decide +kernel
theorem dX0_trade_12 : decode cX0_trade 12 = .ok (.iload_n 2, 1) := by decide +kernel
theorem dX0_trade_13 : decode cX0_trade 13 = .ok (.iload_n 1, 1) := by decide +kernel
theorem dX0_trade_14 : decode cX0_trade 14 = .ok (.if_icmp .ge 69, 3) := by decide +kernel
theorem dX0_trade_17 : decode cX0_trade 17 = .ok (.iload_n 2, 1) := by decide +kernel
theorem dX0_trade_18 : decode cX0_trade 18 = .ok (.iconst 1, 1) := by decide +kernel
theorem dX0_trade_19 : decode cX0_trade 19 = .ok (.iadd, 1) := by decide +kernel
theorem dX0_trade_20 : decode cX0_trade 20 = .ok (.istore_n 3, 1) := by decide +kernel
theorem dX0_trade_21 : decode cX0_trade 21 = .ok (.iload_n 3, 1) := by decide +kernel
theorem dX0_trade_22 : decode cX0_trade 22 = .ok (.iload_n 1, 1) := by decide +kernel
theorem dX0_trade_23 : decode cX0_trade 23 = .ok (.if_icmp .gt 54, 3) := by decide +kernel
theorem dX0_trade_26 : decode cX0_trade 26 = .ok (.aload_n 0, 1) := by decide +kernel
theorem dX0_trade_27 : decode cX0_trade 27 = .ok (.getfield 9, 3) := by decide +kernel
theorem dX0_trade_30 : decode cX0_trade 30 = .ok (.iload_n 2, 1) := by decide +kernel
theorem dX0_trade_31 : decode cX0_trade 31 = .ok (.iaload, 1) := by decide +kernel
theorem dX0_trade_32 : decode cX0_trade 32 = .ok (.aload_n 0, 1) := by decide +kernel
theorem dX0_trade_33 : decode cX0_trade 33 = .ok (.getfield 9, 3) := by decide +kernel
theorem dX0_trade_36 : decode cX0_trade 36 = .ok (.aload_n 0, 1) := by decide +kernel
theorem dX0_trade_37 : decode cX0_trade 37 = .ok (.getfield 34, 3) := by decide +kernel
theorem dX0_trade_40 : decode cX0_trade 40 = .ok (.iaload, 1) := by decide +kernel
theorem dX0_trade_41 : decode cX0_trade 41 = .ok (.imul, 1) := by decide +kernel
theorem dX0_trade_42 : decode cX0_trade 42 = .ok (.aload_n 0, 1) := by decide +kernel
theorem dX0_trade_43 : decode cX0_trade 43 = .ok (.getfield 9, 3) := by decide +kernel
theorem dX0_trade_46 : decode cX0_trade 46 = .ok (.aload_n 0, 1) := by decide +kernel
theorem dX0_trade_47 : decode cX0_trade 47 = .ok (.getfield 31, 3) := by decide +kernel
theorem dX0_trade_50 : decode cX0_trade 50 = .ok (.iaload, 1) := by decide +kernel
theorem dX0_trade_51 : decode cX0_trade 51 = .ok (.aload_n 0, 1) := by decide +kernel
theorem dX0_trade_52 : decode cX0_trade 52 = .ok (.getfield 9, 3) := by decide +kernel
theorem dX0_trade_55 : decode cX0_trade 55 = .ok (.iload_n 3, 1) := by decide +kernel
theorem dX0_trade_56 : decode cX0_trade 56 = .ok (.iaload, 1) := by decide +kernel
theorem dX0_trade_57 : decode cX0_trade 57 = .ok (.imul, 1) := by decide +kernel
theorem dX0_trade_58 : decode cX0_trade 58 = .ok (.if_icmp .le 13, 3) := by decide +kernel
theorem dX0_trade_61 : decode cX0_trade 61 = .ok (.aload_n 0, 1) := by decide +kernel
theorem dX0_trade_62 : decode cX0_trade 62 = .ok (.iload_n 2, 1) := by decide +kernel
theorem dX0_trade_63 : decode cX0_trade 63 = .ok (.putfield 31, 3) := by decide +kernel
theorem dX0_trade_66 : decode cX0_trade 66 = .ok (.aload_n 0, 1) := by decide +kernel
theorem dX0_trade_67 : decode cX0_trade 67 = .ok (.iload_n 3, 1) := by decide +kernel
theorem dX0_trade_68 : decode cX0_trade 68 = .ok (.putfield 34, 3) := by decide +kernel
theorem dX0_trade_71 : decode cX0_trade 71 = .ok (.iinc 3 1, 3) := by decide +kernel
theorem dX0_trade_74 : decode cX0_trade 74 = .ok (.goto (-53), 3) := by decide +kernel
theorem dX0_trade_77 : decode cX0_trade 77 = .ok (.iinc 2 1, 3) := by decide +kernel
theorem dX0_trade_80 : decode cX0_trade 80 = .ok (.goto (-68), 3) := by decide +kernel
theorem dX0_trade_83 : decode cX0_trade 83 = .ok (.return_, 1) := by decide +kernel
theorem dX0_leastSpread_0 : decode cX0_leastSpread 0 = .ok (.aload_n 0, 1) := by decide +kernel
theorem dX0_leastSpread_1 : decode cX0_leastSpread 1 = .ok (.iload_n 1, 1) := by decide +kernel
theorem dX0_leastSpread_2 : decode cX0_leastSpread 2 = .ok (.invokevirtual 37, 3) := by decide +kernel
theorem dX0_leastSpread_5 : decode cX0_leastSpread 5 = .ok (.sipush 200, 3) := by decide +kernel
theorem dX0_leastSpread_8 : decode cX0_leastSpread 8 = .ok (.istore_n 3, 1) := by decide +kernel
theorem dX0_leastSpread_9 : decode cX0_leastSpread 9 = .ok (.iconst 0, 1) := by decide +kernel
theorem dX0_leastSpread_10 : decode cX0_leastSpread 10 = .ok (.istore 4, 2) := by decide +kernel
theorem dX0_leastSpread_12 : decode cX0_leastSpread 12 = .ok (.iload 4, 2) := by decide +kernel
theorem dX0_leastSpread_14 : decode cX0_leastSpread 14 = .ok (.iload_n 2, 1) := by decide +kernel
theorem dX0_leastSpread_15 : decode cX0_leastSpread 15 = .ok (.iadd, 1) := by decide +kernel
theorem dX0_leastSpread_16 : decode cX0_leastSpread 16 = .ok (.iconst 1, 1) := by decide +kernel
theorem dX0_leastSpread_17 : decode cX0_leastSpread 17 = .ok (.isub, 1) := by decide +kernel
theorem dX0_leastSpread_18 : decode cX0_leastSpread 18 = .ok (.iload_n 1, 1) := by decide +kernel
theorem dX0_leastSpread_19 : decode cX0_leastSpread 19 = .ok (.if_icmp .gt 33, 3) := by decide +kernel
theorem dX0_leastSpread_22 : decode cX0_leastSpread 22 = .ok (.iload_n 3, 1) := by decide +kernel
theorem dX0_leastSpread_23 : decode cX0_leastSpread 23 = .ok (.aload_n 0, 1) := by decide +kernel
theorem dX0_leastSpread_24 : decode cX0_leastSpread 24 = .ok (.getfield 15, 3) := by decide +kernel
theorem dX0_leastSpread_27 : decode cX0_leastSpread 27 = .ok (.iload 4, 2) := by decide +kernel
theorem dX0_leastSpread_29 : decode cX0_leastSpread 29 = .ok (.iload_n 2, 1) := by decide +kernel
theorem dX0_leastSpread_30 : decode cX0_leastSpread 30 = .ok (.iadd, 1) := by decide +kernel
theorem dX0_leastSpread_31 : decode cX0_leastSpread 31 = .ok (.iconst 1, 1) := by decide +kernel
theorem dX0_leastSpread_32 : decode cX0_leastSpread 32 = .ok (.isub, 1) := by decide +kernel
theorem dX0_leastSpread_33 : decode cX0_leastSpread 33 = .ok (.iaload, 1) := by decide +kernel
theorem dX0_leastSpread_34 : decode cX0_leastSpread 34 = .ok (.aload_n 0, 1) := by decide +kernel
theorem dX0_leastSpread_35 : decode cX0_leastSpread 35 = .ok (.getfield 15, 3) := by decide +kernel
theorem dX0_leastSpread_38 : decode cX0_leastSpread 38 = .ok (.iload 4, 2) := by decide +kernel
theorem dX0_leastSpread_40 : decode cX0_leastSpread 40 = .ok (.iaload, 1) := by decide +kernel
theorem dX0_leastSpread_41 : decode cX0_leastSpread 41 = .ok (.isub, 1) := by decide +kernel
theorem dX0_leastSpread_42 : decode cX0_leastSpread 42 = .ok (.invokestatic 41, 3) := by decide +kernel
theorem dX0_leastSpread_45 : decode cX0_leastSpread 45 = .ok (.istore_n 3, 1) := by decide +kernel
theorem dX0_leastSpread_46 : decode cX0_leastSpread 46 = .ok (.iinc 4 1, 3) := by decide +kernel
theorem dX0_leastSpread_49 : decode cX0_leastSpread 49 = .ok (.goto (-37), 3) := by decide +kernel
theorem dX0_leastSpread_52 : decode cX0_leastSpread 52 = .ok (.iload_n 3, 1) := by decide +kernel
theorem dX0_leastSpread_53 : decode cX0_leastSpread 53 = .ok (.ireturn, 1) := by decide +kernel
theorem dX0_sort_0 : decode cX0_sort 0 = .ok (.iconst 0, 1) := by decide +kernel
theorem dX0_sort_1 : decode cX0_sort 1 = .ok (.istore_n 2, 1) := by decide +kernel
theorem dX0_sort_2 : decode cX0_sort 2 = .ok (.iload_n 2, 1) := by decide +kernel
theorem dX0_sort_3 : decode cX0_sort 3 = .ok (.iload_n 1, 1) := by decide +kernel
theorem dX0_sort_4 : decode cX0_sort 4 = .ok (.if_icmp .gt 64, 3) := by decide +kernel
theorem dX0_sort_7 : decode cX0_sort 7 = .ok (.iload_n 2, 1) := by decide +kernel
theorem dX0_sort_8 : decode cX0_sort 8 = .ok (.istore_n 3, 1) := by decide +kernel
theorem dX0_sort_9 : decode cX0_sort 9 = .ok (.iload_n 3, 1) := by decide +kernel
theorem dX0_sort_10 : decode cX0_sort 10 = .ok (.ifCond .le 40, 3) := by decide +kernel
theorem dX0_sort_13 : decode cX0_sort 13 = .ok (.aload_n 0, 1) := by decide +kernel
theorem dX0_sort_14 : decode cX0_sort 14 = .ok (.getfield 15, 3) := by decide +kernel
theorem dX0_sort_17 : decode cX0_sort 17 = .ok (.iload_n 3, 1) := by decide +kernel
theorem dX0_sort_18 : decode cX0_sort 18 = .ok (.iconst 1, 1) := by decide +kernel
theorem dX0_sort_19 : decode cX0_sort 19 = .ok (.isub, 1) := by decide +kernel
theorem dX0_sort_20 : decode cX0_sort 20 = .ok (.iaload, 1) := by decide +kernel
theorem dX0_sort_21 : decode cX0_sort 21 = .ok (.aload_n 0, 1) := by decide +kernel
theorem dX0_sort_22 : decode cX0_sort 22 = .ok (.getfield 9, 3) := by decide +kernel
theorem dX0_sort_25 : decode cX0_sort 25 = .ok (.iload_n 2, 1) := by decide +kernel
theorem dX0_sort_26 : decode cX0_sort 26 = .ok (.iaload, 1) := by decide +kernel
theorem dX0_sort_27 : decode cX0_sort 27 = .ok (.if_icmp .le 23, 3) := by decide +kernel
theorem dX0_sort_30 : decode cX0_sort 30 = .ok (.aload_n 0, 1) := by decide +kernel
theorem dX0_sort_31 : decode cX0_sort 31 = .ok (.getfield 15, 3) := by decide +kernel
theorem dX0_sort_34 : decode cX0_sort 34 = .ok (.iload_n 3, 1) := by decide +kernel
theorem dX0_sort_35 : decode cX0_sort 35 = .ok (.aload_n 0, 1) := by decide +kernel
theorem dX0_sort_36 : decode cX0_sort 36 = .ok (.getfield 15, 3) := by decide +kernel
theorem dX0_sort_39 : decode cX0_sort 39 = .ok (.iload_n 3, 1) := by decide +kernel
theorem dX0_sort_40 : decode cX0_sort 40 = .ok (.iconst 1, 1) := by decide +kernel
theorem dX0_sort_41 : decode cX0_sort 41 = .ok (.isub, 1) := by decide +kernel
theorem dX0_sort_42 : decode cX0_sort 42 = .ok (.iaload, 1) := by decide +kernel
theorem dX0_sort_43 : decode cX0_sort 43 = .ok (.iastore, 1) := by decide +kernel
theorem dX0_sort_44 : decode cX0_sort 44 = .ok (.iinc 3 (-1), 3) := by decide +kernel
theorem dX0_sort_47 : decode cX0_sort 47 = .ok (.goto (-38), 3) := by decide +kernel
theorem dX0_sort_50 : decode cX0_sort 50 = .ok (.aload_n 0, 1) := by decide +kernel
theorem dX0_sort_51 : decode cX0_sort 51 = .ok (.getfield 15, 3) := by decide +kernel
theorem dX0_sort_54 : decode cX0_sort 54 = .ok (.iload_n 3, 1) := by decide +kernel
theorem dX0_sort_55 : decode cX0_sort 55 = .ok (.aload_n 0, 1) := by decide +kernel
theorem dX0_sort_56 : decode cX0_sort 56 = .ok (.getfield 9, 3) := by decide +kernel
theorem dX0_sort_59 : decode cX0_sort 59 = .ok (.iload_n 2, 1) := by decide +kernel
theorem dX0_sort_60 : decode cX0_sort 60 = .ok (.iaload, 1) := by decide +kernel
theorem dX0_sort_61 : decode cX0_sort 61 = .ok (.iastore, 1) := by decide +kernel
theorem dX0_sort_62 : decode cX0_sort 62 = .ok (.iinc 2 1, 3) := by decide +kernel
theorem dX0_sort_65 : decode cX0_sort 65 = .ok (.goto (-63), 3) := by decide +kernel
theorem dX0_sort_68 : decode cX0_sort 68 = .ok (.return_, 1) := by decide +kernel
theorem dX0_firstDay_0 : decode cX0_firstDay 0 = .ok (.iconst 0, 1) := by decide +kernel
theorem dX0_firstDay_1 : decode cX0_firstDay 1 = .ok (.istore 4, 2) := by decide +kernel
theorem dX0_firstDay_3 : decode cX0_firstDay 3 = .ok (.iload 4, 2) := by decide +kernel
theorem dX0_firstDay_5 : decode cX0_firstDay 5 = .ok (.iload_n 1, 1) := by decide +kernel
theorem dX0_firstDay_6 : decode cX0_firstDay 6 = .ok (.if_icmp .gt 24, 3) := by decide +kernel
theorem dX0_firstDay_9 : decode cX0_firstDay 9 = .ok (.aload_n 0, 1) := by decide +kernel
theorem dX0_firstDay_10 : decode cX0_firstDay 10 = .ok (.iload 4, 2) := by decide +kernel
theorem dX0_firstDay_12 : decode cX0_firstDay 12 = .ok (.iload_n 1, 1) := by decide +kernel
theorem dX0_firstDay_13 : decode cX0_firstDay 13 = .ok (.iload_n 2, 1) := by decide +kernel
theorem dX0_firstDay_14 : decode cX0_firstDay 14 = .ok (.iload_n 3, 1) := by decide +kernel
theorem dX0_firstDay_15 : decode cX0_firstDay 15 = .ok (.invokevirtual 46, 3) := by decide +kernel
theorem dX0_firstDay_18 : decode cX0_firstDay 18 = .ok (.ifCond .eq 6, 3) := by decide +kernel
theorem dX0_firstDay_21 : decode cX0_firstDay 21 = .ok (.iload 4, 2) := by decide +kernel
theorem dX0_firstDay_23 : decode cX0_firstDay 23 = .ok (.ireturn, 1) := by decide +kernel
theorem dX0_firstDay_24 : decode cX0_firstDay 24 = .ok (.iinc 4 1, 3) := by decide +kernel
theorem dX0_firstDay_27 : decode cX0_firstDay 27 = .ok (.goto (-24), 3) := by decide +kernel
theorem dX0_firstDay_30 : decode cX0_firstDay 30 = .ok (.bipush (-6), 2) := by decide +kernel
theorem dX0_firstDay_32 : decode cX0_firstDay 32 = .ok (.ireturn, 1) := by decide +kernel
theorem dX0_begins_0 : decode cX0_begins 0 = .ok (.iload_n 1, 1) := by decide +kernel
theorem dX0_begins_1 : decode cX0_begins 1 = .ok (.istore 5, 2) := by decide +kernel
theorem dX0_begins_3 : decode cX0_begins 3 = .ok (.iload 5, 2) := by decide +kernel
theorem dX0_begins_5 : decode cX0_begins 5 = .ok (.iload_n 2, 1) := by decide +kernel
theorem dX0_begins_6 : decode cX0_begins 6 = .ok (.if_icmp .gt 56, 3) := by decide +kernel
theorem dX0_begins_9 : decode cX0_begins 9 = .ok (.aload_n 0, 1) := by decide +kernel
theorem dX0_begins_10 : decode cX0_begins 10 = .ok (.getfield 9, 3) := by decide +kernel
theorem dX0_begins_13 : decode cX0_begins 13 = .ok (.iload 5, 2) := by decide +kernel
theorem dX0_begins_15 : decode cX0_begins 15 = .ok (.iaload, 1) := by decide +kernel
theorem dX0_begins_16 : decode cX0_begins 16 = .ok (.istore 6, 2) := by decide +kernel
theorem dX0_begins_18 : decode cX0_begins 18 = .ok (.aload_n 0, 1) := by decide +kernel
theorem dX0_begins_19 : decode cX0_begins 19 = .ok (.getfield 9, 3) := by decide +kernel
theorem dX0_begins_22 : decode cX0_begins 22 = .ok (.iload_n 1, 1) := by decide +kernel
theorem dX0_begins_23 : decode cX0_begins 23 = .ok (.iaload, 1) := by decide +kernel
theorem dX0_begins_24 : decode cX0_begins 24 = .ok (.iload 6, 2) := by decide +kernel
theorem dX0_begins_26 : decode cX0_begins 26 = .ok (.iload 6, 2) := by decide +kernel
theorem dX0_begins_28 : decode cX0_begins 28 = .ok (.iload 4, 2) := by decide +kernel
theorem dX0_begins_30 : decode cX0_begins 30 = .ok (.iadd, 1) := by decide +kernel
theorem dX0_begins_31 : decode cX0_begins 31 = .ok (.invokestatic 50, 3) := by decide +kernel
theorem dX0_begins_34 : decode cX0_begins 34 = .ok (.ifCond .eq 22, 3) := by decide +kernel
theorem dX0_begins_37 : decode cX0_begins 37 = .ok (.aload_n 0, 1) := by decide +kernel
theorem dX0_begins_38 : decode cX0_begins 38 = .ok (.iload_n 1, 1) := by decide +kernel
theorem dX0_begins_39 : decode cX0_begins 39 = .ok (.iload_n 2, 1) := by decide +kernel
theorem dX0_begins_40 : decode cX0_begins 40 = .ok (.iload 6, 2) := by decide +kernel
theorem dX0_begins_42 : decode cX0_begins 42 = .ok (.iload 6, 2) := by decide +kernel
theorem dX0_begins_44 : decode cX0_begins 44 = .ok (.iload 4, 2) := by decide +kernel
theorem dX0_begins_46 : decode cX0_begins 46 = .ok (.iadd, 1) := by decide +kernel
theorem dX0_begins_47 : decode cX0_begins 47 = .ok (.invokevirtual 54, 3) := by decide +kernel
theorem dX0_begins_50 : decode cX0_begins 50 = .ok (.iload_n 3, 1) := by decide +kernel
theorem dX0_begins_51 : decode cX0_begins 51 = .ok (.if_icmp .lt 5, 3) := by decide +kernel
theorem dX0_begins_54 : decode cX0_begins 54 = .ok (.iconst 1, 1) := by decide +kernel
theorem dX0_begins_55 : decode cX0_begins 55 = .ok (.ireturn, 1) := by decide +kernel
theorem dX0_begins_56 : decode cX0_begins 56 = .ok (.iinc 5 1, 3) := by decide +kernel
theorem dX0_begins_59 : decode cX0_begins 59 = .ok (.goto (-56), 3) := by decide +kernel
theorem dX0_begins_62 : decode cX0_begins 62 = .ok (.iconst 0, 1) := by decide +kernel
theorem dX0_begins_63 : decode cX0_begins 63 = .ok (.ireturn, 1) := by decide +kernel
theorem dX0_daysWithin_0 : decode cX0_daysWithin 0 = .ok (.iconst 0, 1) := by decide +kernel
theorem dX0_daysWithin_1 : decode cX0_daysWithin 1 = .ok (.istore 5, 2) := by decide +kernel
theorem dX0_daysWithin_3 : decode cX0_daysWithin 3 = .ok (.iload_n 1, 1) := by decide +kernel
theorem dX0_daysWithin_4 : decode cX0_daysWithin 4 = .ok (.istore 6, 2) := by decide +kernel
theorem dX0_daysWithin_6 : decode cX0_daysWithin 6 = .ok (.iload 6, 2) := by decide +kernel
theorem dX0_daysWithin_8 : decode cX0_daysWithin 8 = .ok (.iload_n 2, 1) := by decide +kernel
theorem dX0_daysWithin_9 : decode cX0_daysWithin 9 = .ok (.if_icmp .gt 28, 3) := by decide +kernel
theorem dX0_daysWithin_12 : decode cX0_daysWithin 12 = .ok (.aload_n 0, 1) := by decide +kernel
theorem dX0_daysWithin_13 : decode cX0_daysWithin 13 = .ok (.getfield 9, 3) := by decide +kernel
theorem dX0_daysWithin_16 : decode cX0_daysWithin 16 = .ok (.iload 6, 2) := by decide +kernel
theorem dX0_daysWithin_18 : decode cX0_daysWithin 18 = .ok (.iaload, 1) := by decide +kernel
theorem dX0_daysWithin_19 : decode cX0_daysWithin 19 = .ok (.iload_n 3, 1) := by decide +kernel
theorem dX0_daysWithin_20 : decode cX0_daysWithin 20 = .ok (.iload 4, 2) := by decide +kernel
theorem dX0_daysWithin_22 : decode cX0_daysWithin 22 = .ok (.invokestatic 50, 3) := by decide +kernel
theorem dX0_daysWithin_25 : decode cX0_daysWithin 25 = .ok (.ifCond .eq 6, 3) := by decide +kernel
theorem dX0_daysWithin_28 : decode cX0_daysWithin 28 = .ok (.iinc 5 1, 3) := by decide +kernel
theorem dX0_daysWithin_31 : decode cX0_daysWithin 31 = .ok (.iinc 6 1, 3) := by decide +kernel
theorem dX0_daysWithin_34 : decode cX0_daysWithin 34 = .ok (.goto (-28), 3) := by decide +kernel
theorem dX0_daysWithin_37 : decode cX0_daysWithin 37 = .ok (.iload 5, 2) := by decide +kernel
theorem dX0_daysWithin_39 : decode cX0_daysWithin 39 = .ok (.ireturn, 1) := by decide +kernel
theorem dX1_init_0 : decode cX1_init 0 = .ok (.aload_n 0, 1) := by decide +kernel
theorem dX1_init_1 : decode cX1_init 1 = .ok (.invokespecial 3, 3) := by decide +kernel
theorem dX1_init_4 : decode cX1_init 4 = .ok (.aload_n 0, 1) := by decide +kernel
theorem dX1_init_5 : decode cX1_init 5 = .ok (.bipush 25, 2) := by decide +kernel
theorem dX1_init_7 : decode cX1_init 7 = .ok (.newarray .long, 2) := by decide +kernel
theorem dX1_init_9 : decode cX1_init 9 = .ok (.putfield 11, 3) := by decide +kernel
theorem dX1_init_12 : decode cX1_init 12 = .ok (.aload_n 0, 1) := by decide +kernel
theorem dX1_init_13 : decode cX1_init 13 = .ok (.bipush 25, 2) := by decide +kernel
theorem dX1_init_15 : decode cX1_init 15 = .ok (.newarray .long, 2) := by decide +kernel
theorem dX1_init_17 : decode cX1_init 17 = .ok (.putfield 15, 3) := by decide +kernel
theorem dX1_init_20 : decode cX1_init 20 = .ok (.return_, 1) := by decide +kernel
theorem dX1_spread_0 : decode cX1_spread 0 = .ok (.aload_n 0, 1) := by decide +kernel
theorem dX1_spread_1 : decode cX1_spread 1 = .ok (.getfield 11, 3) := by decide +kernel
theorem dX1_spread_4 : decode cX1_spread 4 = .ok (.lconst 0, 1) := by decide +kernel
theorem dX1_spread_5 : decode cX1_spread 5 = .ok (.invokestatic 18, 3) := by decide +kernel
theorem dX1_spread_8 : decode cX1_spread 8 = .ok (.aload_n 0, 1) := by decide +kernel
theorem dX1_spread_9 : decode cX1_spread 9 = .ok (.getfield 11, 3) := by decide +kernel
theorem dX1_spread_12 : decode cX1_spread 12 = .ok (.bipush 12, 2) := by decide +kernel
theorem dX1_spread_14 : decode cX1_spread 14 = .ok (.lconst 1, 1) := by decide +kernel
theorem dX1_spread_15 : decode cX1_spread 15 = .ok (.lastore, 1) := by decide +kernel
theorem dX1_spread_16 : decode cX1_spread 16 = .ok (.iconst 0, 1) := by decide +kernel
theorem dX1_spread_17 : decode cX1_spread 17 = .ok (.istore 4, 2) := by decide +kernel
theorem dX1_spread_19 : decode cX1_spread 19 = .ok (.iload 4, 2) := by decide +kernel
theorem dX1_spread_21 : decode cX1_spread 21 = .ok (.iload_n 1, 1) := by decide +kernel
theorem dX1_spread_22 : decode cX1_spread 22 = .ok (.if_icmp .ge 86, 3) := by decide +kernel
theorem dX1_spread_25 : decode cX1_spread 25 = .ok (.iconst 0, 1) := by decide +kernel
theorem dX1_spread_26 : decode cX1_spread 26 = .ok (.istore 5, 2) := by decide +kernel
theorem dX1_spread_28 : decode cX1_spread 28 = .ok (.iload 5, 2) := by decide +kernel
theorem dX1_spread_30 : decode cX1_spread 30 = .ok (.bipush 25, 2) := by decide +kernel
theorem dX1_spread_32 : decode cX1_spread 32 = .ok (.if_icmp .ge 55, 3) := by decide +kernel
theorem dX1_spread_35 : decode cX1_spread 35 = .ok (.aload_n 0, 1) := by decide +kernel
theorem dX1_spread_36 : decode cX1_spread 36 = .ok (.getfield 15, 3) := by decide +kernel
theorem dX1_spread_39 : decode cX1_spread 39 = .ok (.iload 5, 2) := by decide +kernel
theorem dX1_spread_41 : decode cX1_spread 41 = .ok (.aload_n 0, 1) := by decide +kernel
theorem dX1_spread_42 : decode cX1_spread 42 = .ok (.getfield 11, 3) := by decide +kernel
theorem dX1_spread_45 : decode cX1_spread 45 = .ok (.iload 5, 2) := by decide +kernel
theorem dX1_spread_47 : decode cX1_spread 47 = .ok (.laload, 1) := by decide +kernel
theorem dX1_spread_48 : decode cX1_spread 48 = .ok (.bipush 10, 2) := by decide +kernel
theorem dX1_spread_50 : decode cX1_spread 50 = .ok (.iload_n 2, 1) := by decide +kernel
theorem dX1_spread_51 : decode cX1_spread 51 = .ok (.isub, 1) := by decide +kernel
theorem dX1_spread_52 : decode cX1_spread 52 = .ok (.iload_n 3, 1) := by decide +kernel
theorem dX1_spread_53 : decode cX1_spread 53 = .ok (.isub, 1) := by decide +kernel
theorem dX1_spread_54 : decode cX1_spread 54 = .ok (.i2l, 1) := by decide +kernel
theorem dX1_spread_55 : decode cX1_spread 55 = .ok (.lmul, 1) := by decide +kernel
theorem dX1_spread_56 : decode cX1_spread 56 = .ok (.aload_n 0, 1) := by decide +kernel
theorem dX1_spread_57 : decode cX1_spread 57 = .ok (.iload 5, 2) := by decide +kernel
theorem dX1_spread_59 : decode cX1_spread 59 = .ok (.iconst 1, 1) := by decide +kernel
theorem dX1_spread_60 : decode cX1_spread 60 = .ok (.iadd, 1) := by decide +kernel
theorem dX1_spread_61 : decode cX1_spread 61 = .ok (.invokevirtual 24, 3) := by decide +kernel
theorem dX1_spread_64 : decode cX1_spread 64 = .ok (.iload_n 2, 1) := by decide +kernel
theorem dX1_spread_65 : decode cX1_spread 65 = .ok (.i2l, 1) := by decide +kernel
theorem dX1_spread_66 : decode cX1_spread 66 = .ok (.lmul, 1) := by decide +kernel
theorem dX1_spread_67 : decode cX1_spread 67 = .ok (.ladd, 1) := by decide +kernel
theorem dX1_spread_68 : decode cX1_spread 68 = .ok (.aload_n 0, 1) := by decide +kernel
theorem dX1_spread_69 : decode cX1_spread 69 = .ok (.iload 5, 2) := by decide +kernel
theorem dX1_spread_71 : decode cX1_spread 71 = .ok (.iconst 1, 1) := by decide +kernel
theorem dX1_spread_72 : decode cX1_spread 72 = .ok (.isub, 1) := by decide +kernel
theorem dX1_spread_73 : decode cX1_spread 73 = .ok (.invokevirtual 24, 3) := by decide +kernel
theorem dX1_spread_76 : decode cX1_spread 76 = .ok (.iload_n 3, 1) := by decide +kernel
theorem dX1_spread_77 : decode cX1_spread 77 = .ok (.i2l, 1) := by decide +kernel
theorem dX1_spread_78 : decode cX1_spread 78 = .ok (.lmul, 1) := by decide +kernel
theorem dX1_spread_79 : decode cX1_spread 79 = .ok (.ladd, 1) := by decide +kernel
theorem dX1_spread_80 : decode cX1_spread 80 = .ok (.lastore, 1) := by decide +kernel
theorem dX1_spread_81 : decode cX1_spread 81 = .ok (.iinc 5 1, 3) := by decide +kernel
theorem dX1_spread_84 : decode cX1_spread 84 = .ok (.goto (-56), 3) := by decide +kernel
theorem dX1_spread_87 : decode cX1_spread 87 = .ok (.aload_n 0, 1) := by decide +kernel
theorem dX1_spread_88 : decode cX1_spread 88 = .ok (.getfield 15, 3) := by decide +kernel
theorem dX1_spread_91 : decode cX1_spread 91 = .ok (.iconst 0, 1) := by decide +kernel
theorem dX1_spread_92 : decode cX1_spread 92 = .ok (.aload_n 0, 1) := by decide +kernel
theorem dX1_spread_93 : decode cX1_spread 93 = .ok (.getfield 11, 3) := by decide +kernel
theorem dX1_spread_96 : decode cX1_spread 96 = .ok (.iconst 0, 1) := by decide +kernel
theorem dX1_spread_97 : decode cX1_spread 97 = .ok (.bipush 25, 2) := by decide +kernel
theorem dX1_spread_99 : decode cX1_spread 99 = .ok (.invokestatic 28, 3) := by decide +kernel
theorem dX1_spread_102 : decode cX1_spread 102 = .ok (.iinc 4 1, 3) := by decide +kernel
theorem dX1_spread_105 : decode cX1_spread 105 = .ok (.goto (-86), 3) := by decide +kernel
theorem dX1_spread_108 : decode cX1_spread 108 = .ok (.return_, 1) := by decide +kernel
theorem dX1_waysAt_0 : decode cX1_waysAt 0 = .ok (.iload_n 1, 1) := by decide +kernel
theorem dX1_waysAt_1 : decode cX1_waysAt 1 = .ok (.iconst 0, 1) := by decide +kernel
theorem dX1_waysAt_2 : decode cX1_waysAt 2 = .ok (.bipush 24, 2) := by decide +kernel
theorem dX1_waysAt_4 : decode cX1_waysAt 4 = .ok (.invokestatic 34, 3) := by decide +kernel
theorem dX1_waysAt_7 : decode cX1_waysAt 7 = .ok (.ifCond .eq 12, 3) := by decide +kernel
theorem dX1_waysAt_10 : decode cX1_waysAt 10 = .ok (.aload_n 0, 1) := by decide +kernel
theorem dX1_waysAt_11 : decode cX1_waysAt 11 = .ok (.getfield 11, 3) := by decide +kernel
theorem dX1_waysAt_14 : decode cX1_waysAt 14 = .ok (.iload_n 1, 1) := by decide +kernel
theorem dX1_waysAt_15 : decode cX1_waysAt 15 = .ok (.laload, 1) := by decide +kernel
theorem dX1_waysAt_16 : decode cX1_waysAt 16 = .ok (.goto 4, 3) := by decide +kernel
theorem dX1_waysAt_19 : decode cX1_waysAt 19 = .ok (.lconst 0, 1) := by decide +kernel
theorem dX1_waysAt_20 : decode cX1_waysAt 20 = .ok (.lreturn, 1) := by decide +kernel
theorem dX1_waysOff_0 : decode cX1_waysOff 0 = .ok (.lconst 0, 1) := by decide +kernel
theorem dX1_waysOff_1 : decode cX1_waysOff 1 = .ok (.lstore_n 2, 1) := by decide +kernel
theorem dX1_waysOff_2 : decode cX1_waysOff 2 = .ok (.iconst 0, 1) := by decide +kernel
theorem dX1_waysOff_3 : decode cX1_waysOff 3 = .ok (.istore 4, 2) := by decide +kernel
theorem dX1_waysOff_5 : decode cX1_waysOff 5 = .ok (.iload 4, 2) := by decide +kernel
theorem dX1_waysOff_7 : decode cX1_waysOff 7 = .ok (.bipush 25, 2) := by decide +kernel
theorem dX1_waysOff_9 : decode cX1_waysOff 9 = .ok (.if_icmp .ge 31, 3) := by decide +kernel
theorem dX1_waysOff_12 : decode cX1_waysOff 12 = .ok (.iload 4, 2) := by decide +kernel
theorem dX1_waysOff_14 : decode cX1_waysOff 14 = .ok (.bipush 12, 2) := by decide +kernel
theorem dX1_waysOff_16 : decode cX1_waysOff 16 = .ok (.isub, 1) := by decide +kernel
theorem dX1_waysOff_17 : decode cX1_waysOff 17 = .ok (.invokestatic 38, 3) := by decide +kernel
theorem dX1_waysOff_20 : decode cX1_waysOff 20 = .ok (.iload_n 1, 1) := by decide +kernel
theorem dX1_waysOff_21 : decode cX1_waysOff 21 = .ok (.if_icmp .lt 13, 3) := by decide +kernel
theorem dX1_waysOff_24 : decode cX1_waysOff 24 = .ok (.lload_n 2, 1) := by decide +kernel
theorem dX1_waysOff_25 : decode cX1_waysOff 25 = .ok (.aload_n 0, 1) := by decide +kernel
theorem dX1_waysOff_26 : decode cX1_waysOff 26 = .ok (.getfield 11, 3) := by decide +kernel
theorem dX1_waysOff_29 : decode cX1_waysOff 29 = .ok (.iload 4, 2) := by decide +kernel
theorem dX1_waysOff_31 : decode cX1_waysOff 31 = .ok (.laload, 1) := by decide +kernel
theorem dX1_waysOff_32 : decode cX1_waysOff 32 = .ok (.ladd, 1) := by decide +kernel
theorem dX1_waysOff_33 : decode cX1_waysOff 33 = .ok (.lstore_n 2, 1) := by decide +kernel
theorem dX1_waysOff_34 : decode cX1_waysOff 34 = .ok (.iinc 4 1, 3) := by decide +kernel
theorem dX1_waysOff_37 : decode cX1_waysOff 37 = .ok (.goto (-32), 3) := by decide +kernel
theorem dX1_waysOff_40 : decode cX1_waysOff 40 = .ok (.lload_n 2, 1) := by decide +kernel
theorem dX1_waysOff_41 : decode cX1_waysOff 41 = .ok (.lreturn, 1) := by decide +kernel
theorem dX1_allWays_0 : decode cX1_allWays 0 = .ok (.lconst 1, 1) := by decide +kernel
theorem dX1_allWays_1 : decode cX1_allWays 1 = .ok (.lstore_n 2, 1) := by decide +kernel
theorem dX1_allWays_2 : decode cX1_allWays 2 = .ok (.iconst 0, 1) := by decide +kernel
theorem dX1_allWays_3 : decode cX1_allWays 3 = .ok (.istore 4, 2) := by decide +kernel
theorem dX1_allWays_5 : decode cX1_allWays 5 = .ok (.iload 4, 2) := by decide +kernel
theorem dX1_allWays_7 : decode cX1_allWays 7 = .ok (.iload_n 1, 1) := by decide +kernel
theorem dX1_allWays_8 : decode cX1_allWays 8 = .ok (.if_icmp .ge 15, 3) := by decide +kernel
theorem dX1_allWays_11 : decode cX1_allWays 11 = .ok (.lload_n 2, 1) := by decide +kernel
theorem dX1_allWays_12 : decode cX1_allWays 12 = .ok (.ldc2_w 44, 3) := by decide +kernel
theorem dX1_allWays_15 : decode cX1_allWays 15 = .ok (.lmul, 1) := by decide +kernel
theorem dX1_allWays_16 : decode cX1_allWays 16 = .ok (.lstore_n 2, 1) := by decide +kernel
theorem dX1_allWays_17 : decode cX1_allWays 17 = .ok (.iinc 4 1, 3) := by decide +kernel
theorem dX1_allWays_20 : decode cX1_allWays 20 = .ok (.goto (-15), 3) := by decide +kernel
theorem dX1_allWays_23 : decode cX1_allWays 23 = .ok (.lload_n 2, 1) := by decide +kernel
theorem dX1_allWays_24 : decode cX1_allWays 24 = .ok (.lreturn, 1) := by decide +kernel
theorem dX2_init_0 : decode cX2_init 0 = .ok (.aload_n 0, 1) := by decide +kernel
theorem dX2_init_1 : decode cX2_init 1 = .ok (.invokespecial 1, 3) := by decide +kernel
theorem dX2_init_4 : decode cX2_init 4 = .ok (.aload_n 0, 1) := by decide +kernel
theorem dX2_init_5 : decode cX2_init 5 = .ok (.new 7, 3) := by decide +kernel
theorem dX2_init_8 : decode cX2_init 8 = .ok (.dup, 1) := by decide +kernel
theorem dX2_init_9 : decode cX2_init 9 = .ok (.invokespecial 9, 3) := by decide +kernel
theorem dX2_init_12 : decode cX2_init 12 = .ok (.putfield 10, 3) := by decide +kernel
theorem dX2_init_15 : decode cX2_init 15 = .ok (.return_, 1) := by decide +kernel
theorem dX3_init_0 : decode cX3_init 0 = .ok (.aload_n 0, 1) := by decide +kernel
theorem dX3_init_1 : decode cX3_init 1 = .ok (.invokespecial 3, 3) := by decide +kernel
theorem dX3_init_4 : decode cX3_init 4 = .ok (.aload_n 0, 1) := by decide +kernel
theorem dX3_init_5 : decode cX3_init 5 = .ok (.bipush 19, 2) := by decide +kernel
theorem dX3_init_7 : decode cX3_init 7 = .ok (.newarray .int, 2) := by decide +kernel
theorem dX3_init_9 : decode cX3_init 9 = .ok (.putfield 11, 3) := by decide +kernel
theorem dX3_init_12 : decode cX3_init 12 = .ok (.aload_n 0, 1) := by decide +kernel
theorem dX3_init_13 : decode cX3_init 13 = .ok (.bipush 19, 2) := by decide +kernel
theorem dX3_init_15 : decode cX3_init 15 = .ok (.newarray .int, 2) := by decide +kernel
theorem dX3_init_17 : decode cX3_init 17 = .ok (.putfield 15, 3) := by decide +kernel
theorem dX3_init_20 : decode cX3_init 20 = .ok (.aload_n 0, 1) := by decide +kernel
theorem dX3_init_21 : decode cX3_init 21 = .ok (.sipush 201, 3) := by decide +kernel
theorem dX3_init_24 : decode cX3_init 24 = .ok (.newarray .int, 2) := by decide +kernel
theorem dX3_init_26 : decode cX3_init 26 = .ok (.putfield 18, 3) := by decide +kernel
theorem dX3_init_29 : decode cX3_init 29 = .ok (.return_, 1) := by decide +kernel
theorem dX3_fit_0 : decode cX3_fit 0 = .ok (.iconst 0, 1) := by decide +kernel
theorem dX3_fit_1 : decode cX3_fit 1 = .ok (.istore_n 2, 1) := by decide +kernel
theorem dX3_fit_2 : decode cX3_fit 2 = .ok (.iload_n 2, 1) := by decide +kernel
theorem dX3_fit_3 : decode cX3_fit 3 = .ok (.bipush 19, 2) := by decide +kernel
theorem dX3_fit_5 : decode cX3_fit 5 = .ok (.if_icmp .ge 58, 3) := by decide +kernel
theorem dX3_fit_8 : decode cX3_fit 8 = .ok (.aload_n 0, 1) := by decide +kernel
theorem dX3_fit_9 : decode cX3_fit 9 = .ok (.getfield 11, 3) := by decide +kernel
theorem dX3_fit_12 : decode cX3_fit 12 = .ok (.iload_n 2, 1) := by decide +kernel
theorem dX3_fit_13 : decode cX3_fit 13 = .ok (.iconst 1, 1) := by decide +kernel
theorem dX3_fit_14 : decode cX3_fit 14 = .ok (.iastore, 1) := by decide +kernel
theorem dX3_fit_15 : decode cX3_fit 15 = .ok (.aload_n 0, 1) := by decide +kernel
theorem dX3_fit_16 : decode cX3_fit 16 = .ok (.getfield 15, 3) := by decide +kernel
theorem dX3_fit_19 : decode cX3_fit 19 = .ok (.iload_n 2, 1) := by decide +kernel
theorem dX3_fit_20 : decode cX3_fit 20 = .ok (.sipush 200, 3) := by decide +kernel
theorem dX3_fit_23 : decode cX3_fit 23 = .ok (.iastore, 1) := by decide +kernel
theorem dX3_fit_24 : decode cX3_fit 24 = .ok (.iconst 0, 1) := by decide +kernel
theorem dX3_fit_25 : decode cX3_fit 25 = .ok (.istore_n 3, 1) := by decide +kernel
theorem dX3_fit_26 : decode cX3_fit 26 = .ok (.iload_n 3, 1) := by decide +kernel
theorem dX3_fit_27 : decode cX3_fit 27 = .ok (.aload_n 1, 1) := by decide +kernel
theorem dX3_fit_28 : decode cX3_fit 28 = .ok (.getfield 21, 3) := by decide +kernel
theorem dX3_fit_31 : decode cX3_fit 31 = .ok (.if_icmp .ge 26, 3) := by decide +kernel
theorem dX3_fit_34 : decode cX3_fit 34 = .ok (.aload_n 0, 1) := by decide +kernel
theorem dX3_fit_35 : decode cX3_fit 35 = .ok (.iload_n 2, 1) := by decide +kernel
theorem dX3_fit_36 : decode cX3_fit 36 = .ok (.aload_n 1, 1) := by decide +kernel
theorem dX3_fit_37 : decode cX3_fit 37 = .ok (.getfield 27, 3) := by decide +kernel
theorem dX3_fit_40 : decode cX3_fit 40 = .ok (.iload_n 3, 1) := by decide +kernel
theorem dX3_fit_41 : decode cX3_fit 41 = .ok (.iaload, 1) := by decide +kernel
theorem dX3_fit_42 : decode cX3_fit 42 = .ok (.aload_n 1, 1) := by decide +kernel
theorem dX3_fit_43 : decode cX3_fit 43 = .ok (.getfield 30, 3) := by decide +kernel
theorem dX3_fit_46 : decode cX3_fit 46 = .ok (.iload_n 3, 1) := by decide +kernel
theorem dX3_fit_47 : decode cX3_fit 47 = .ok (.iaload, 1) := by decide +kernel
theorem dX3_fit_48 : decode cX3_fit 48 = .ok (.invokevirtual 33, 3) := by decide +kernel
theorem dX3_fit_51 : decode cX3_fit 51 = .ok (.iinc 3 1, 3) := by decide +kernel
theorem dX3_fit_54 : decode cX3_fit 54 = .ok (.goto (-28), 3) := by decide +kernel
theorem dX3_fit_57 : decode cX3_fit 57 = .ok (.iinc 2 1, 3) := by decide +kernel
theorem dX3_fit_60 : decode cX3_fit 60 = .ok (.goto (-58), 3) := by decide +kernel
theorem dX3_fit_63 : decode cX3_fit 63 = .ok (.return_, 1) := by decide +kernel
theorem dX3_narrow_0 : decode cX3_narrow 0 = .ok (.iload_n 3, 1) := by decide +kernel
theorem dX3_narrow_1 : decode cX3_narrow 1 = .ok (.iload_n 1, 1) := by decide +kernel
theorem dX3_narrow_2 : decode cX3_narrow 2 = .ok (.bipush 9, 2) := by decide +kernel
theorem dX3_narrow_4 : decode cX3_narrow 4 = .ok (.isub, 1) := by decide +kernel
theorem dX3_narrow_5 : decode cX3_narrow 5 = .ok (.iload_n 2, 1) := by decide +kernel
theorem dX3_narrow_6 : decode cX3_narrow 6 = .ok (.imul, 1) := by decide +kernel
theorem dX3_narrow_7 : decode cX3_narrow 7 = .ok (.isub, 1) := by decide +kernel
theorem dX3_narrow_8 : decode cX3_narrow 8 = .ok (.istore 4, 2) := by decide +kernel
theorem dX3_narrow_10 : decode cX3_narrow 10 = .ok (.iload_n 3, 1) := by decide +kernel
theorem dX3_narrow_11 : decode cX3_narrow 11 = .ok (.iconst 1, 1) := by decide +kernel
theorem dX3_narrow_12 : decode cX3_narrow 12 = .ok (.if_icmp .le 20, 3) := by decide +kernel
theorem dX3_narrow_15 : decode cX3_narrow 15 = .ok (.aload_n 0, 1) := by decide +kernel
theorem dX3_narrow_16 : decode cX3_narrow 16 = .ok (.getfield 11, 3) := by decide +kernel
theorem dX3_narrow_19 : decode cX3_narrow 19 = .ok (.iload_n 1, 1) := by decide +kernel
theorem dX3_narrow_20 : decode cX3_narrow 20 = .ok (.aload_n 0, 1) := by decide +kernel
theorem dX3_narrow_21 : decode cX3_narrow 21 = .ok (.getfield 11, 3) := by decide +kernel
theorem dX3_narrow_24 : decode cX3_narrow 24 = .ok (.iload_n 1, 1) := by decide +kernel
theorem dX3_narrow_25 : decode cX3_narrow 25 = .ok (.iaload, 1) := by decide +kernel
theorem dX3_narrow_26 : decode cX3_narrow 26 = .ok (.iload 4, 2) := by decide +kernel
theorem dX3_narrow_28 : decode cX3_narrow 28 = .ok (.invokestatic 37, 3) := by decide +kernel
theorem dX3_narrow_31 : decode cX3_narrow 31 = .ok (.iastore, 1) := by decide +kernel
theorem dX3_narrow_32 : decode cX3_narrow 32 = .ok (.iload_n 3, 1) := by decide +kernel
theorem dX3_narrow_33 : decode cX3_narrow 33 = .ok (.sipush 200, 3) := by decide +kernel
theorem dX3_narrow_36 : decode cX3_narrow 36 = .ok (.if_icmp .ge 20, 3) := by decide +kernel
theorem dX3_narrow_39 : decode cX3_narrow 39 = .ok (.aload_n 0, 1) := by decide +kernel
theorem dX3_narrow_40 : decode cX3_narrow 40 = .ok (.getfield 15, 3) := by decide +kernel
theorem dX3_narrow_43 : decode cX3_narrow 43 = .ok (.iload_n 1, 1) := by decide +kernel
theorem dX3_narrow_44 : decode cX3_narrow 44 = .ok (.aload_n 0, 1) := by decide +kernel
theorem dX3_narrow_45 : decode cX3_narrow 45 = .ok (.getfield 15, 3) := by decide +kernel
theorem dX3_narrow_48 : decode cX3_narrow 48 = .ok (.iload_n 1, 1) := by decide +kernel
theorem dX3_narrow_49 : decode cX3_narrow 49 = .ok (.iaload, 1) := by decide +kernel
theorem dX3_narrow_50 : decode cX3_narrow 50 = .ok (.iload 4, 2) := by decide +kernel
theorem dX3_narrow_52 : decode cX3_narrow 52 = .ok (.invokestatic 43, 3) := by decide +kernel
theorem dX3_narrow_55 : decode cX3_narrow 55 = .ok (.iastore, 1) := by decide +kernel
theorem dX3_narrow_56 : decode cX3_narrow 56 = .ok (.return_, 1) := by decide +kernel
theorem dX3_howMany_0 : decode cX3_howMany 0 = .ok (.iconst 0, 1) := by decide +kernel
theorem dX3_howMany_1 : decode cX3_howMany 1 = .ok (.istore_n 1, 1) := by decide +kernel
theorem dX3_howMany_2 : decode cX3_howMany 2 = .ok (.iconst 0, 1) := by decide +kernel
theorem dX3_howMany_3 : decode cX3_howMany 3 = .ok (.istore_n 2, 1) := by decide +kernel
theorem dX3_howMany_4 : decode cX3_howMany 4 = .ok (.iload_n 2, 1) := by decide +kernel
theorem dX3_howMany_5 : decode cX3_howMany 5 = .ok (.bipush 19, 2) := by decide +kernel
theorem dX3_howMany_7 : decode cX3_howMany 7 = .ok (.if_icmp .ge 31, 3) := by decide +kernel
theorem dX3_howMany_10 : decode cX3_howMany 10 = .ok (.iload_n 1, 1) := by decide +kernel
theorem dX3_howMany_11 : decode cX3_howMany 11 = .ok (.iconst 0, 1) := by decide +kernel
theorem dX3_howMany_12 : decode cX3_howMany 12 = .ok (.aload_n 0, 1) := by decide +kernel
theorem dX3_howMany_13 : decode cX3_howMany 13 = .ok (.getfield 15, 3) := by decide +kernel
theorem dX3_howMany_16 : decode cX3_howMany 16 = .ok (.iload_n 2, 1) := by decide +kernel
theorem dX3_howMany_17 : decode cX3_howMany 17 = .ok (.iaload, 1) := by decide +kernel
theorem dX3_howMany_18 : decode cX3_howMany 18 = .ok (.aload_n 0, 1) := by decide +kernel
theorem dX3_howMany_19 : decode cX3_howMany 19 = .ok (.getfield 11, 3) := by decide +kernel
theorem dX3_howMany_22 : decode cX3_howMany 22 = .ok (.iload_n 2, 1) := by decide +kernel
theorem dX3_howMany_23 : decode cX3_howMany 23 = .ok (.iaload, 1) := by decide +kernel
theorem dX3_howMany_24 : decode cX3_howMany 24 = .ok (.isub, 1) := by decide +kernel
theorem dX3_howMany_25 : decode cX3_howMany 25 = .ok (.iconst 1, 1) := by decide +kernel
theorem dX3_howMany_26 : decode cX3_howMany 26 = .ok (.iadd, 1) := by decide +kernel
theorem dX3_howMany_27 : decode cX3_howMany 27 = .ok (.invokestatic 37, 3) := by decide +kernel
theorem dX3_howMany_30 : decode cX3_howMany 30 = .ok (.iadd, 1) := by decide +kernel
theorem dX3_howMany_31 : decode cX3_howMany 31 = .ok (.istore_n 1, 1) := by decide +kernel
theorem dX3_howMany_32 : decode cX3_howMany 32 = .ok (.iinc 2 1, 3) := by decide +kernel
theorem dX3_howMany_35 : decode cX3_howMany 35 = .ok (.goto (-31), 3) := by decide +kernel
theorem dX3_howMany_38 : decode cX3_howMany 38 = .ok (.iload_n 1, 1) := by decide +kernel
theorem dX3_howMany_39 : decode cX3_howMany 39 = .ok (.ireturn, 1) := by decide +kernel
theorem dX3_lawAt_0 : decode cX3_lawAt 0 = .ok (.iload_n 1, 1) := by decide +kernel
theorem dX3_lawAt_1 : decode cX3_lawAt 1 = .ok (.istore_n 2, 1) := by decide +kernel
theorem dX3_lawAt_2 : decode cX3_lawAt 2 = .ok (.iconst 1, 1) := by decide +kernel
theorem dX3_lawAt_3 : decode cX3_lawAt 3 = .ok (.istore_n 3, 1) := by decide +kernel
theorem dX3_lawAt_4 : decode cX3_lawAt 4 = .ok (.iload_n 3, 1) := by decide +kernel
theorem dX3_lawAt_5 : decode cX3_lawAt 5 = .ok (.sipush 200, 3) := by decide +kernel
theorem dX3_lawAt_8 : decode cX3_lawAt 8 = .ok (.if_icmp .gt 65, 3) := by decide +kernel
theorem dX3_lawAt_11 : decode cX3_lawAt 11 = .ok (.iload_n 2, 1) := by decide +kernel
theorem dX3_lawAt_12 : decode cX3_lawAt 12 = .ok (.ifCond .lt 61, 3) := by decide +kernel
theorem dX3_lawAt_15 : decode cX3_lawAt 15 = .ok (.iconst 0, 1) := by decide +kernel
theorem dX3_lawAt_16 : decode cX3_lawAt 16 = .ok (.istore 4, 2) := by decide +kernel
theorem dX3_lawAt_18 : decode cX3_lawAt 18 = .ok (.iload 4, 2) := by decide +kernel
theorem dX3_lawAt_20 : decode cX3_lawAt 20 = .ok (.bipush 19, 2) := by decide +kernel
theorem dX3_lawAt_22 : decode cX3_lawAt 22 = .ok (.if_icmp .ge 45, 3) := by decide +kernel
theorem dX3_lawAt_25 : decode cX3_lawAt 25 = .ok (.iload_n 3, 1) := by decide +kernel
theorem dX3_lawAt_26 : decode cX3_lawAt 26 = .ok (.aload_n 0, 1) := by decide +kernel
theorem dX3_lawAt_27 : decode cX3_lawAt 27 = .ok (.getfield 11, 3) := by decide +kernel
theorem dX3_lawAt_30 : decode cX3_lawAt 30 = .ok (.iload 4, 2) := by decide +kernel
theorem dX3_lawAt_32 : decode cX3_lawAt 32 = .ok (.iaload, 1) := by decide +kernel
theorem dX3_lawAt_33 : decode cX3_lawAt 33 = .ok (.aload_n 0, 1) := by decide +kernel
theorem dX3_lawAt_34 : decode cX3_lawAt 34 = .ok (.getfield 15, 3) := by decide +kernel
theorem dX3_lawAt_37 : decode cX3_lawAt 37 = .ok (.iload 4, 2) := by decide +kernel
theorem dX3_lawAt_39 : decode cX3_lawAt 39 = .ok (.iaload, 1) := by decide +kernel
theorem dX3_lawAt_40 : decode cX3_lawAt 40 = .ok (.invokestatic 46, 3) := by decide +kernel
theorem dX3_lawAt_43 : decode cX3_lawAt 43 = .ok (.ifCond .eq 18, 3) := by decide +kernel
theorem dX3_lawAt_46 : decode cX3_lawAt 46 = .ok (.iload_n 2, 1) := by decide +kernel
theorem dX3_lawAt_47 : decode cX3_lawAt 47 = .ok (.ifCond .ne 11, 3) := by decide +kernel
theorem dX3_lawAt_50 : decode cX3_lawAt 50 = .ok (.bipush 100, 2) := by decide +kernel
theorem dX3_lawAt_52 : decode cX3_lawAt 52 = .ok (.iload_n 3, 1) := by decide +kernel
theorem dX3_lawAt_53 : decode cX3_lawAt 53 = .ok (.imul, 1) := by decide +kernel
theorem dX3_lawAt_54 : decode cX3_lawAt 54 = .ok (.iload 4, 2) := by decide +kernel
theorem dX3_lawAt_56 : decode cX3_lawAt 56 = .ok (.iadd, 1) := by decide +kernel
theorem dX3_lawAt_57 : decode cX3_lawAt 57 = .ok (.ireturn, 1) := by decide +kernel
theorem dX3_lawAt_58 : decode cX3_lawAt 58 = .ok (.iinc 2 (-1), 3) := by decide +kernel
theorem dX3_lawAt_61 : decode cX3_lawAt 61 = .ok (.iinc 4 1, 3) := by decide +kernel
theorem dX3_lawAt_64 : decode cX3_lawAt 64 = .ok (.goto (-46), 3) := by decide +kernel
theorem dX3_lawAt_67 : decode cX3_lawAt 67 = .ok (.iinc 3 1, 3) := by decide +kernel
theorem dX3_lawAt_70 : decode cX3_lawAt 70 = .ok (.goto (-66), 3) := by decide +kernel
theorem dX3_lawAt_73 : decode cX3_lawAt 73 = .ok (.bipush (-6), 2) := by decide +kernel
theorem dX3_lawAt_75 : decode cX3_lawAt 75 = .ok (.ireturn, 1) := by decide +kernel
theorem dX3_bestDay_0 : decode cX3_bestDay 0 = .ok (.iconst 0, 1) := by decide +kernel
theorem dX3_bestDay_1 : decode cX3_bestDay 1 = .ok (.istore_n 1, 1) := by decide +kernel
theorem dX3_bestDay_2 : decode cX3_bestDay 2 = .ok (.aload_n 0, 1) := by decide +kernel
theorem dX3_bestDay_3 : decode cX3_bestDay 3 = .ok (.iconst 0, 1) := by decide +kernel
theorem dX3_bestDay_4 : decode cX3_bestDay 4 = .ok (.invokevirtual 50, 3) := by decide +kernel
theorem dX3_bestDay_7 : decode cX3_bestDay 7 = .ok (.istore_n 2, 1) := by decide +kernel
theorem dX3_bestDay_8 : decode cX3_bestDay 8 = .ok (.iconst 1, 1) := by decide +kernel
theorem dX3_bestDay_9 : decode cX3_bestDay 9 = .ok (.istore_n 3, 1) := by decide +kernel
theorem dX3_bestDay_10 : decode cX3_bestDay 10 = .ok (.iload_n 3, 1) := by decide +kernel
theorem dX3_bestDay_11 : decode cX3_bestDay 11 = .ok (.bipush 60, 2) := by decide +kernel
theorem dX3_bestDay_13 : decode cX3_bestDay 13 = .ok (.if_icmp .gt 32, 3) := by decide +kernel
theorem dX3_bestDay_16 : decode cX3_bestDay 16 = .ok (.iload_n 2, 1) := by decide +kernel
theorem dX3_bestDay_17 : decode cX3_bestDay 17 = .ok (.iconst 1, 1) := by decide +kernel
theorem dX3_bestDay_18 : decode cX3_bestDay 18 = .ok (.if_icmp .le 27, 3) := by decide +kernel
theorem dX3_bestDay_21 : decode cX3_bestDay 21 = .ok (.aload_n 0, 1) := by decide +kernel
theorem dX3_bestDay_22 : decode cX3_bestDay 22 = .ok (.iload_n 3, 1) := by decide +kernel
theorem dX3_bestDay_23 : decode cX3_bestDay 23 = .ok (.invokevirtual 50, 3) := by decide +kernel
theorem dX3_bestDay_26 : decode cX3_bestDay 26 = .ok (.istore 4, 2) := by decide +kernel
theorem dX3_bestDay_28 : decode cX3_bestDay 28 = .ok (.iload 4, 2) := by decide +kernel
theorem dX3_bestDay_30 : decode cX3_bestDay 30 = .ok (.iload_n 2, 1) := by decide +kernel
theorem dX3_bestDay_31 : decode cX3_bestDay 31 = .ok (.if_icmp .ge 8, 3) := by decide +kernel
theorem dX3_bestDay_34 : decode cX3_bestDay 34 = .ok (.iload 4, 2) := by decide +kernel
theorem dX3_bestDay_36 : decode cX3_bestDay 36 = .ok (.istore_n 2, 1) := by decide +kernel
theorem dX3_bestDay_37 : decode cX3_bestDay 37 = .ok (.iload_n 3, 1) := by decide +kernel
theorem dX3_bestDay_38 : decode cX3_bestDay 38 = .ok (.istore_n 1, 1) := by decide +kernel
theorem dX3_bestDay_39 : decode cX3_bestDay 39 = .ok (.iinc 3 1, 3) := by decide +kernel
theorem dX3_bestDay_42 : decode cX3_bestDay 42 = .ok (.goto (-32), 3) := by decide +kernel
theorem dX3_bestDay_45 : decode cX3_bestDay 45 = .ok (.iload_n 1, 1) := by decide +kernel
theorem dX3_bestDay_46 : decode cX3_bestDay 46 = .ok (.ireturn, 1) := by decide +kernel
theorem dX3_mostLeft_0 : decode cX3_mostLeft 0 = .ok (.aload_n 0, 1) := by decide +kernel
theorem dX3_mostLeft_1 : decode cX3_mostLeft 1 = .ok (.getfield 18, 3) := by decide +kernel
theorem dX3_mostLeft_4 : decode cX3_mostLeft 4 = .ok (.iconst 0, 1) := by decide +kernel
theorem dX3_mostLeft_5 : decode cX3_mostLeft 5 = .ok (.invokestatic 54, 3) := by decide +kernel
theorem dX3_mostLeft_8 : decode cX3_mostLeft 8 = .ok (.iconst 0, 1) := by decide +kernel
theorem dX3_mostLeft_9 : decode cX3_mostLeft 9 = .ok (.istore_n 2, 1) := by decide +kernel
theorem dX3_mostLeft_10 : decode cX3_mostLeft 10 = .ok (.iconst 0, 1) := by decide +kernel
theorem dX3_mostLeft_11 : decode cX3_mostLeft 11 = .ok (.istore_n 3, 1) := by decide +kernel
theorem dX3_mostLeft_12 : decode cX3_mostLeft 12 = .ok (.iconst 0, 1) := by decide +kernel
theorem dX3_mostLeft_13 : decode cX3_mostLeft 13 = .ok (.istore 4, 2) := by decide +kernel
theorem dX3_mostLeft_15 : decode cX3_mostLeft 15 = .ok (.iload 4, 2) := by decide +kernel
theorem dX3_mostLeft_17 : decode cX3_mostLeft 17 = .ok (.bipush 19, 2) := by decide +kernel
theorem dX3_mostLeft_19 : decode cX3_mostLeft 19 = .ok (.if_icmp .ge 116, 3) := by decide +kernel
theorem dX3_mostLeft_22 : decode cX3_mostLeft 22 = .ok (.aload_n 0, 1) := by decide +kernel
theorem dX3_mostLeft_23 : decode cX3_mostLeft 23 = .ok (.getfield 11, 3) := by decide +kernel
theorem dX3_mostLeft_26 : decode cX3_mostLeft 26 = .ok (.iload 4, 2) := by decide +kernel
theorem dX3_mostLeft_28 : decode cX3_mostLeft 28 = .ok (.iaload, 1) := by decide +kernel
theorem dX3_mostLeft_29 : decode cX3_mostLeft 29 = .ok (.aload_n 0, 1) := by decide +kernel
theorem dX3_mostLeft_30 : decode cX3_mostLeft 30 = .ok (.getfield 15, 3) := by decide +kernel
theorem dX3_mostLeft_33 : decode cX3_mostLeft 33 = .ok (.iload 4, 2) := by decide +kernel
theorem dX3_mostLeft_35 : decode cX3_mostLeft 35 = .ok (.iaload, 1) := by decide +kernel
theorem dX3_mostLeft_36 : decode cX3_mostLeft 36 = .ok (.if_icmp .gt 93, 3) := by decide +kernel
theorem dX3_mostLeft_39 : decode cX3_mostLeft 39 = .ok (.aload_n 0, 1) := by decide +kernel
theorem dX3_mostLeft_40 : decode cX3_mostLeft 40 = .ok (.getfield 11, 3) := by decide +kernel
theorem dX3_mostLeft_43 : decode cX3_mostLeft 43 = .ok (.iload 4, 2) := by decide +kernel
theorem dX3_mostLeft_45 : decode cX3_mostLeft 45 = .ok (.iaload, 1) := by decide +kernel
theorem dX3_mostLeft_46 : decode cX3_mostLeft 46 = .ok (.iload 4, 2) := by decide +kernel
theorem dX3_mostLeft_48 : decode cX3_mostLeft 48 = .ok (.bipush 9, 2) := by decide +kernel
theorem dX3_mostLeft_50 : decode cX3_mostLeft 50 = .ok (.isub, 1) := by decide +kernel
theorem dX3_mostLeft_51 : decode cX3_mostLeft 51 = .ok (.iload_n 1, 1) := by decide +kernel
theorem dX3_mostLeft_52 : decode cX3_mostLeft 52 = .ok (.imul, 1) := by decide +kernel
theorem dX3_mostLeft_53 : decode cX3_mostLeft 53 = .ok (.iadd, 1) := by decide +kernel
theorem dX3_mostLeft_54 : decode cX3_mostLeft 54 = .ok (.istore 5, 2) := by decide +kernel
theorem dX3_mostLeft_56 : decode cX3_mostLeft 56 = .ok (.aload_n 0, 1) := by decide +kernel
theorem dX3_mostLeft_57 : decode cX3_mostLeft 57 = .ok (.getfield 15, 3) := by decide +kernel
theorem dX3_mostLeft_60 : decode cX3_mostLeft 60 = .ok (.iload 4, 2) := by decide +kernel
theorem dX3_mostLeft_62 : decode cX3_mostLeft 62 = .ok (.iaload, 1) := by decide +kernel
theorem dX3_mostLeft_63 : decode cX3_mostLeft 63 = .ok (.iload 4, 2) := by decide +kernel
theorem dX3_mostLeft_65 : decode cX3_mostLeft 65 = .ok (.bipush 9, 2) := by decide +kernel
theorem dX3_mostLeft_67 : decode cX3_mostLeft 67 = .ok (.isub, 1) := by decide +kernel
theorem dX3_mostLeft_68 : decode cX3_mostLeft 68 = .ok (.iload_n 1, 1) := by decide +kernel
theorem dX3_mostLeft_69 : decode cX3_mostLeft 69 = .ok (.imul, 1) := by decide +kernel
theorem dX3_mostLeft_70 : decode cX3_mostLeft 70 = .ok (.iadd, 1) := by decide +kernel
theorem dX3_mostLeft_71 : decode cX3_mostLeft 71 = .ok (.istore 6, 2) := by decide +kernel
theorem dX3_mostLeft_73 : decode cX3_mostLeft 73 = .ok (.iload_n 2, 1) := by decide +kernel
theorem dX3_mostLeft_74 : decode cX3_mostLeft 74 = .ok (.iconst 0, 1) := by decide +kernel
theorem dX3_mostLeft_75 : decode cX3_mostLeft 75 = .ok (.iload 6, 2) := by decide +kernel
theorem dX3_mostLeft_77 : decode cX3_mostLeft 77 = .ok (.iconst 1, 1) := by decide +kernel
theorem dX3_mostLeft_78 : decode cX3_mostLeft 78 = .ok (.invokestatic 43, 3) := by decide +kernel
theorem dX3_mostLeft_81 : decode cX3_mostLeft 81 = .ok (.iload 5, 2) := by decide +kernel
theorem dX3_mostLeft_83 : decode cX3_mostLeft 83 = .ok (.isub, 1) := by decide +kernel
theorem dX3_mostLeft_84 : decode cX3_mostLeft 84 = .ok (.iconst 1, 1) := by decide +kernel
theorem dX3_mostLeft_85 : decode cX3_mostLeft 85 = .ok (.iadd, 1) := by decide +kernel
theorem dX3_mostLeft_86 : decode cX3_mostLeft 86 = .ok (.invokestatic 37, 3) := by decide +kernel
theorem dX3_mostLeft_89 : decode cX3_mostLeft 89 = .ok (.iadd, 1) := by decide +kernel
theorem dX3_mostLeft_90 : decode cX3_mostLeft 90 = .ok (.istore_n 2, 1) := by decide +kernel
theorem dX3_mostLeft_91 : decode cX3_mostLeft 91 = .ok (.iload_n 3, 1) := by decide +kernel
theorem dX3_mostLeft_92 : decode cX3_mostLeft 92 = .ok (.iconst 0, 1) := by decide +kernel
theorem dX3_mostLeft_93 : decode cX3_mostLeft 93 = .ok (.iload 6, 2) := by decide +kernel
theorem dX3_mostLeft_95 : decode cX3_mostLeft 95 = .ok (.iload 5, 2) := by decide +kernel
theorem dX3_mostLeft_97 : decode cX3_mostLeft 97 = .ok (.sipush 200, 3) := by decide +kernel
theorem dX3_mostLeft_100 : decode cX3_mostLeft 100 = .ok (.invokestatic 37, 3) := by decide +kernel
theorem dX3_mostLeft_103 : decode cX3_mostLeft 103 = .ok (.isub, 1) := by decide +kernel
theorem dX3_mostLeft_104 : decode cX3_mostLeft 104 = .ok (.iconst 1, 1) := by decide +kernel
theorem dX3_mostLeft_105 : decode cX3_mostLeft 105 = .ok (.iadd, 1) := by decide +kernel
theorem dX3_mostLeft_106 : decode cX3_mostLeft 106 = .ok (.invokestatic 37, 3) := by decide +kernel
theorem dX3_mostLeft_109 : decode cX3_mostLeft 109 = .ok (.iadd, 1) := by decide +kernel
theorem dX3_mostLeft_110 : decode cX3_mostLeft 110 = .ok (.istore_n 3, 1) := by decide +kernel
theorem dX3_mostLeft_111 : decode cX3_mostLeft 111 = .ok (.aload_n 0, 1) := by decide +kernel
theorem dX3_mostLeft_112 : decode cX3_mostLeft 112 = .ok (.iload 5, 2) := by decide +kernel
theorem dX3_mostLeft_114 : decode cX3_mostLeft 114 = .ok (.iconst 2, 1) := by decide +kernel
theorem dX3_mostLeft_115 : decode cX3_mostLeft 115 = .ok (.invokestatic 37, 3) := by decide +kernel
theorem dX3_mostLeft_118 : decode cX3_mostLeft 118 = .ok (.iload 6, 2) := by decide +kernel
theorem dX3_mostLeft_120 : decode cX3_mostLeft 120 = .ok (.sipush 199, 3) := by decide +kernel
theorem dX3_mostLeft_123 : decode cX3_mostLeft 123 = .ok (.invokestatic 43, 3) := by decide +kernel
theorem dX3_mostLeft_126 : decode cX3_mostLeft 126 = .ok (.invokevirtual 60, 3) := by decide +kernel
theorem dX3_mostLeft_129 : decode cX3_mostLeft 129 = .ok (.iinc 4 1, 3) := by decide +kernel
theorem dX3_mostLeft_132 : decode cX3_mostLeft 132 = .ok (.goto (-117), 3) := by decide +kernel
theorem dX3_mostLeft_135 : decode cX3_mostLeft 135 = .ok (.aload_n 0, 1) := by decide +kernel
theorem dX3_mostLeft_136 : decode cX3_mostLeft 136 = .ok (.invokevirtual 64, 3) := by decide +kernel
theorem dX3_mostLeft_139 : decode cX3_mostLeft 139 = .ok (.iload_n 2, 1) := by decide +kernel
theorem dX3_mostLeft_140 : decode cX3_mostLeft 140 = .ok (.iload_n 3, 1) := by decide +kernel
theorem dX3_mostLeft_141 : decode cX3_mostLeft 141 = .ok (.invokestatic 37, 3) := by decide +kernel
theorem dX3_mostLeft_144 : decode cX3_mostLeft 144 = .ok (.invokestatic 37, 3) := by decide +kernel
theorem dX3_mostLeft_147 : decode cX3_mostLeft 147 = .ok (.ireturn, 1) := by decide +kernel
theorem dX3_raise_0 : decode cX3_raise 0 = .ok (.iload_n 1, 1) := by decide +kernel
theorem dX3_raise_1 : decode cX3_raise 1 = .ok (.iload_n 2, 1) := by decide +kernel
theorem dX3_raise_2 : decode cX3_raise 2 = .ok (.if_icmp .gt 25, 3) := by decide +kernel
theorem dX3_raise_5 : decode cX3_raise 5 = .ok (.aload_n 0, 1) := by decide +kernel
theorem dX3_raise_6 : decode cX3_raise 6 = .ok (.getfield 18, 3) := by decide +kernel
theorem dX3_raise_9 : decode cX3_raise 9 = .ok (.iload_n 1, 1) := by decide +kernel
theorem dX3_raise_10 : decode cX3_raise 10 = .ok (.dup2, 1) := by decide +kernel
theorem dX3_raise_11 : decode cX3_raise 11 = .ok (.iaload, 1) := by decide +kernel
theorem dX3_raise_12 : decode cX3_raise 12 = .ok (.iconst 1, 1) := by decide +kernel
theorem dX3_raise_13 : decode cX3_raise 13 = .ok (.iadd, 1) := by decide +kernel
theorem dX3_raise_14 : decode cX3_raise 14 = .ok (.iastore, 1) := by decide +kernel
theorem dX3_raise_15 : decode cX3_raise 15 = .ok (.aload_n 0, 1) := by decide +kernel
theorem dX3_raise_16 : decode cX3_raise 16 = .ok (.getfield 18, 3) := by decide +kernel
theorem dX3_raise_19 : decode cX3_raise 19 = .ok (.iload_n 2, 1) := by decide +kernel
theorem dX3_raise_20 : decode cX3_raise 20 = .ok (.iconst 1, 1) := by decide +kernel
theorem dX3_raise_21 : decode cX3_raise 21 = .ok (.iadd, 1) := by decide +kernel
theorem dX3_raise_22 : decode cX3_raise 22 = .ok (.dup2, 1) := by decide +kernel
theorem dX3_raise_23 : decode cX3_raise 23 = .ok (.iaload, 1) := by decide +kernel
theorem dX3_raise_24 : decode cX3_raise 24 = .ok (.iconst 1, 1) := by decide +kernel
theorem dX3_raise_25 : decode cX3_raise 25 = .ok (.isub, 1) := by decide +kernel
theorem dX3_raise_26 : decode cX3_raise 26 = .ok (.iastore, 1) := by decide +kernel
theorem dX3_raise_27 : decode cX3_raise 27 = .ok (.return_, 1) := by decide +kernel
theorem dX3_highestRise_0 : decode cX3_highestRise 0 = .ok (.iconst 0, 1) := by decide +kernel
theorem dX3_highestRise_1 : decode cX3_highestRise 1 = .ok (.istore_n 1, 1) := by decide +kernel
theorem dX3_highestRise_2 : decode cX3_highestRise 2 = .ok (.iconst 0, 1) := by decide +kernel
theorem dX3_highestRise_3 : decode cX3_highestRise 3 = .ok (.istore_n 2, 1) := by decide +kernel
theorem dX3_highestRise_4 : decode cX3_highestRise 4 = .ok (.iconst 2, 1) := by decide +kernel
theorem dX3_highestRise_5 : decode cX3_highestRise 5 = .ok (.istore_n 3, 1) := by decide +kernel
theorem dX3_highestRise_6 : decode cX3_highestRise 6 = .ok (.iload_n 3, 1) := by decide +kernel
theorem dX3_highestRise_7 : decode cX3_highestRise 7 = .ok (.sipush 200, 3) := by decide +kernel
theorem dX3_highestRise_10 : decode cX3_highestRise 10 = .ok (.if_icmp .ge 24, 3) := by decide +kernel
theorem dX3_highestRise_13 : decode cX3_highestRise 13 = .ok (.iload_n 2, 1) := by decide +kernel
theorem dX3_highestRise_14 : decode cX3_highestRise 14 = .ok (.aload_n 0, 1) := by decide +kernel
theorem dX3_highestRise_15 : decode cX3_highestRise 15 = .ok (.getfield 18, 3) := by decide +kernel
theorem dX3_highestRise_18 : decode cX3_highestRise 18 = .ok (.iload_n 3, 1) := by decide +kernel
theorem dX3_highestRise_19 : decode cX3_highestRise 19 = .ok (.iaload, 1) := by decide +kernel
theorem dX3_highestRise_20 : decode cX3_highestRise 20 = .ok (.iadd, 1) := by decide +kernel
theorem dX3_highestRise_21 : decode cX3_highestRise 21 = .ok (.istore_n 2, 1) := by decide +kernel
theorem dX3_highestRise_22 : decode cX3_highestRise 22 = .ok (.iload_n 1, 1) := by decide +kernel
theorem dX3_highestRise_23 : decode cX3_highestRise 23 = .ok (.iload_n 2, 1) := by decide +kernel
theorem dX3_highestRise_24 : decode cX3_highestRise 24 = .ok (.invokestatic 37, 3) := by decide +kernel
theorem dX3_highestRise_27 : decode cX3_highestRise 27 = .ok (.istore_n 1, 1) := by decide +kernel
theorem dX3_highestRise_28 : decode cX3_highestRise 28 = .ok (.iinc 3 1, 3) := by decide +kernel
theorem dX3_highestRise_31 : decode cX3_highestRise 31 = .ok (.goto (-25), 3) := by decide +kernel
theorem dX3_highestRise_34 : decode cX3_highestRise 34 = .ok (.iload_n 1, 1) := by decide +kernel
theorem dX3_highestRise_35 : decode cX3_highestRise 35 = .ok (.ireturn, 1) := by decide +kernel
theorem dX4_init_0 : decode cX4_init 0 = .ok (.aload_n 0, 1) := by decide +kernel
theorem dX4_init_1 : decode cX4_init 1 = .ok (.invokespecial 3, 3) := by decide +kernel
theorem dX4_init_4 : decode cX4_init 4 = .ok (.aload_n 0, 1) := by decide +kernel
theorem dX4_init_5 : decode cX4_init 5 = .ok (.bipush 60, 2) := by decide +kernel
theorem dX4_init_7 : decode cX4_init 7 = .ok (.newarray .int, 2) := by decide +kernel
theorem dX4_init_9 : decode cX4_init 9 = .ok (.putfield 9, 3) := by decide +kernel
theorem dX4_init_12 : decode cX4_init 12 = .ok (.aload_n 0, 1) := by decide +kernel
theorem dX4_init_13 : decode cX4_init 13 = .ok (.bipush 60, 2) := by decide +kernel
theorem dX4_init_15 : decode cX4_init 15 = .ok (.newarray .int, 2) := by decide +kernel
theorem dX4_init_17 : decode cX4_init 17 = .ok (.putfield 15, 3) := by decide +kernel
theorem dX4_init_20 : decode cX4_init 20 = .ok (.aload_n 0, 1) := by decide +kernel
theorem dX4_init_21 : decode cX4_init 21 = .ok (.bipush 60, 2) := by decide +kernel
theorem dX4_init_23 : decode cX4_init 23 = .ok (.newarray .int, 2) := by decide +kernel
theorem dX4_init_25 : decode cX4_init 25 = .ok (.putfield 18, 3) := by decide +kernel
theorem dX4_init_28 : decode cX4_init 28 = .ok (.aload_n 0, 1) := by decide +kernel
theorem dX4_init_29 : decode cX4_init 29 = .ok (.bipush 60, 2) := by decide +kernel
theorem dX4_init_31 : decode cX4_init 31 = .ok (.newarray .int, 2) := by decide +kernel
theorem dX4_init_33 : decode cX4_init 33 = .ok (.putfield 21, 3) := by decide +kernel
theorem dX4_init_36 : decode cX4_init 36 = .ok (.aload_n 0, 1) := by decide +kernel
theorem dX4_init_37 : decode cX4_init 37 = .ok (.bipush 60, 2) := by decide +kernel
theorem dX4_init_39 : decode cX4_init 39 = .ok (.newarray .int, 2) := by decide +kernel
theorem dX4_init_41 : decode cX4_init 41 = .ok (.putfield 24, 3) := by decide +kernel
theorem dX4_init_44 : decode cX4_init 44 = .ok (.return_, 1) := by decide +kernel
theorem dX4_write_0 : decode cX4_write 0 = .ok (.aload_n 0, 1) := by decide +kernel
theorem dX4_write_1 : decode cX4_write 1 = .ok (.getfield 27, 3) := by decide +kernel
theorem dX4_write_4 : decode cX4_write 4 = .ok (.bipush 60, 2) := by decide +kernel
theorem dX4_write_6 : decode cX4_write 6 = .ok (.if_icmp .lt 5, 3) := by decide +kernel
theorem dX4_write_9 : decode cX4_write 9 = .ok (.iconst 0, 1) := by decide +kernel
theorem dX4_write_10 : decode cX4_write 10 = .ok (.ireturn, 1) := by decide +kernel
theorem dX4_write_11 : decode cX4_write 11 = .ok (.aload_n 0, 1) := by decide +kernel
theorem dX4_write_12 : decode cX4_write 12 = .ok (.getfield 9, 3) := by decide +kernel
theorem dX4_write_15 : decode cX4_write 15 = .ok (.aload_n 0, 1) := by decide +kernel
theorem dX4_write_16 : decode cX4_write 16 = .ok (.getfield 27, 3) := by decide +kernel
theorem dX4_write_19 : decode cX4_write 19 = .ok (.iload_n 1, 1) := by decide +kernel
theorem dX4_write_20 : decode cX4_write 20 = .ok (.iastore, 1) := by decide +kernel
theorem dX4_write_21 : decode cX4_write 21 = .ok (.aload_n 0, 1) := by decide +kernel
theorem dX4_write_22 : decode cX4_write 22 = .ok (.dup, 1) := by decide +kernel
theorem dX4_write_23 : decode cX4_write 23 = .ok (.getfield 27, 3) := by decide +kernel
theorem dX4_write_26 : decode cX4_write 26 = .ok (.iconst 1, 1) := by decide +kernel
theorem dX4_write_27 : decode cX4_write 27 = .ok (.iadd, 1) := by decide +kernel
theorem dX4_write_28 : decode cX4_write 28 = .ok (.putfield 27, 3) := by decide +kernel
theorem dX4_write_31 : decode cX4_write 31 = .ok (.iconst 1, 1) := by decide +kernel
theorem dX4_write_32 : decode cX4_write 32 = .ok (.ireturn, 1) := by decide +kernel
theorem dX4_clear_0 : decode cX4_clear 0 = .ok (.aload_n 0, 1) := by decide +kernel
theorem dX4_clear_1 : decode cX4_clear 1 = .ok (.getfield 27, 3) := by decide +kernel
theorem dX4_clear_4 : decode cX4_clear 4 = .ok (.istore_n 1, 1) := by decide +kernel
theorem dX4_clear_5 : decode cX4_clear 5 = .ok (.aload_n 0, 1) := by decide +kernel
theorem dX4_clear_6 : decode cX4_clear 6 = .ok (.iconst 0, 1) := by decide +kernel
theorem dX4_clear_7 : decode cX4_clear 7 = .ok (.putfield 27, 3) := by decide +kernel
theorem dX4_clear_10 : decode cX4_clear 10 = .ok (.iload_n 1, 1) := by decide +kernel
theorem dX4_clear_11 : decode cX4_clear 11 = .ok (.ireturn, 1) := by decide +kernel
theorem dX4_read_0 : decode cX4_read 0 = .ok (.aload_n 0, 1) := by decide +kernel
theorem dX4_read_1 : decode cX4_read 1 = .ok (.iconst 0, 1) := by decide +kernel
theorem dX4_read_2 : decode cX4_read 2 = .ok (.putfield 31, 3) := by decide +kernel
theorem dX4_read_5 : decode cX4_read 5 = .ok (.iconst 0, 1) := by decide +kernel
theorem dX4_read_6 : decode cX4_read 6 = .ok (.istore_n 1, 1) := by decide +kernel
theorem dX4_read_7 : decode cX4_read 7 = .ok (.iconst 0, 1) := by decide +kernel
theorem dX4_read_8 : decode cX4_read 8 = .ok (.istore_n 2, 1) := by decide +kernel
theorem dX4_read_9 : decode cX4_read 9 = .ok (.iload_n 2, 1) := by decide +kernel
theorem dX4_read_10 : decode cX4_read 10 = .ok (.aload_n 0, 1) := by decide +kernel
theorem dX4_read_11 : decode cX4_read 11 = .ok (.getfield 27, 3) := by decide +kernel
theorem dX4_read_14 : decode cX4_read 14 = .ok (.if_icmp .ge 37, 3) := by decide +kernel
theorem dX4_read_17 : decode cX4_read 17 = .ok (.aload_n 0, 1) := by decide +kernel
theorem dX4_read_18 : decode cX4_read 18 = .ok (.getfield 31, 3) := by decide +kernel
theorem dX4_read_21 : decode cX4_read 21 = .ok (.bipush 60, 2) := by decide +kernel
theorem dX4_read_23 : decode cX4_read 23 = .ok (.if_icmp .ge 28, 3) := by decide +kernel
theorem dX4_read_26 : decode cX4_read 26 = .ok (.aload_n 0, 1) := by decide +kernel
theorem dX4_read_27 : decode cX4_read 27 = .ok (.iload_n 1, 1) := by decide +kernel
theorem dX4_read_28 : decode cX4_read 28 = .ok (.aload_n 0, 1) := by decide +kernel
theorem dX4_read_29 : decode cX4_read 29 = .ok (.getfield 9, 3) := by decide +kernel
theorem dX4_read_32 : decode cX4_read 32 = .ok (.iload_n 2, 1) := by decide +kernel
theorem dX4_read_33 : decode cX4_read 33 = .ok (.iaload, 1) := by decide +kernel
theorem dX4_read_34 : decode cX4_read 34 = .ok (.invokevirtual 34, 3) := by decide +kernel
theorem dX4_read_37 : decode cX4_read 37 = .ok (.istore_n 1, 1) := by decide +kernel
theorem dX4_read_38 : decode cX4_read 38 = .ok (.iload_n 1, 1) := by decide +kernel
theorem dX4_read_39 : decode cX4_read 39 = .ok (.iconst 4, 1) := by decide +kernel
theorem dX4_read_40 : decode cX4_read 40 = .ok (.if_icmp .ne 5, 3) := by decide +kernel
theorem dX4_read_43 : decode cX4_read 43 = .ok (.iload_n 2, 1) := by decide +kernel
theorem dX4_read_44 : decode cX4_read 44 = .ok (.ireturn, 1) := by decide +kernel
theorem dX4_read_45 : decode cX4_read 45 = .ok (.iinc 2 1, 3) := by decide +kernel
theorem dX4_read_48 : decode cX4_read 48 = .ok (.goto (-39), 3) := by decide +kernel
theorem dX4_read_51 : decode cX4_read 51 = .ok (.iload_n 1, 1) := by decide +kernel
theorem dX4_read_52 : decode cX4_read 52 = .ok (.ifCond .ne 8, 3) := by decide +kernel
theorem dX4_read_55 : decode cX4_read 55 = .ok (.bipush (-6), 2) := by decide +kernel
theorem dX4_read_57 : decode cX4_read 57 = .ok (.goto 7, 3) := by decide +kernel
theorem dX4_read_60 : decode cX4_read 60 = .ok (.aload_n 0, 1) := by decide +kernel
theorem dX4_read_61 : decode cX4_read 61 = .ok (.getfield 27, 3) := by decide +kernel
theorem dX4_read_64 : decode cX4_read 64 = .ok (.ireturn, 1) := by decide +kernel
theorem dX4_afterSign_0 : decode cX4_afterSign 0 = .ok (.iload_n 1, 1) := by decide +kernel
theorem dX4_afterSign_1 : decode cX4_afterSign 1 = .ok (.tableswitch 45 0 2 #[27, 33, 39], 27) := by decide +kernel
theorem dX4_afterSign_28 : decode cX4_afterSign 28 = .ok (.aload_n 0, 1) := by decide +kernel
theorem dX4_afterSign_29 : decode cX4_afterSign 29 = .ok (.iload_n 2, 1) := by decide +kernel
theorem dX4_afterSign_30 : decode cX4_afterSign 30 = .ok (.invokevirtual 38, 3) := by decide +kernel
theorem dX4_afterSign_33 : decode cX4_afterSign 33 = .ok (.ireturn, 1) := by decide +kernel
theorem dX4_afterSign_34 : decode cX4_afterSign 34 = .ok (.aload_n 0, 1) := by decide +kernel
theorem dX4_afterSign_35 : decode cX4_afterSign 35 = .ok (.iload_n 2, 1) := by decide +kernel
theorem dX4_afterSign_36 : decode cX4_afterSign 36 = .ok (.invokevirtual 42, 3) := by decide +kernel
theorem dX4_afterSign_39 : decode cX4_afterSign 39 = .ok (.ireturn, 1) := by decide +kernel
theorem dX4_afterSign_40 : decode cX4_afterSign 40 = .ok (.aload_n 0, 1) := by decide +kernel
theorem dX4_afterSign_41 : decode cX4_afterSign 41 = .ok (.iload_n 2, 1) := by decide +kernel
theorem dX4_afterSign_42 : decode cX4_afterSign 42 = .ok (.invokevirtual 45, 3) := by decide +kernel
theorem dX4_afterSign_45 : decode cX4_afterSign 45 = .ok (.ireturn, 1) := by decide +kernel
theorem dX4_afterSign_46 : decode cX4_afterSign 46 = .ok (.aload_n 0, 1) := by decide +kernel
theorem dX4_afterSign_47 : decode cX4_afterSign 47 = .ok (.iload_n 2, 1) := by decide +kernel
theorem dX4_afterSign_48 : decode cX4_afterSign 48 = .ok (.invokevirtual 48, 3) := by decide +kernel
theorem dX4_afterSign_51 : decode cX4_afterSign 51 = .ok (.ireturn, 1) := by decide +kernel
theorem dX4_begin_0 : decode cX4_begin 0 = .ok (.aload_n 0, 1) := by decide +kernel
theorem dX4_begin_1 : decode cX4_begin 1 = .ok (.getfield 18, 3) := by decide +kernel
theorem dX4_begin_4 : decode cX4_begin 4 = .ok (.aload_n 0, 1) := by decide +kernel
theorem dX4_begin_5 : decode cX4_begin 5 = .ok (.getfield 31, 3) := by decide +kernel
theorem dX4_begin_8 : decode cX4_begin 8 = .ok (.iconst 0, 1) := by decide +kernel
theorem dX4_begin_9 : decode cX4_begin 9 = .ok (.iastore, 1) := by decide +kernel
theorem dX4_begin_10 : decode cX4_begin 10 = .ok (.aload_n 0, 1) := by decide +kernel
theorem dX4_begin_11 : decode cX4_begin 11 = .ok (.getfield 21, 3) := by decide +kernel
theorem dX4_begin_14 : decode cX4_begin 14 = .ok (.aload_n 0, 1) := by decide +kernel
theorem dX4_begin_15 : decode cX4_begin 15 = .ok (.getfield 31, 3) := by decide +kernel
theorem dX4_begin_18 : decode cX4_begin 18 = .ok (.iconst 0, 1) := by decide +kernel
theorem dX4_begin_19 : decode cX4_begin 19 = .ok (.iastore, 1) := by decide +kernel
theorem dX4_begin_20 : decode cX4_begin 20 = .ok (.aload_n 0, 1) := by decide +kernel
theorem dX4_begin_21 : decode cX4_begin 21 = .ok (.getfield 24, 3) := by decide +kernel
theorem dX4_begin_24 : decode cX4_begin 24 = .ok (.aload_n 0, 1) := by decide +kernel
theorem dX4_begin_25 : decode cX4_begin 25 = .ok (.getfield 31, 3) := by decide +kernel
theorem dX4_begin_28 : decode cX4_begin 28 = .ok (.iconst 0, 1) := by decide +kernel
theorem dX4_begin_29 : decode cX4_begin 29 = .ok (.iastore, 1) := by decide +kernel
theorem dX4_begin_30 : decode cX4_begin 30 = .ok (.aload_n 0, 1) := by decide +kernel
theorem dX4_begin_31 : decode cX4_begin 31 = .ok (.getfield 15, 3) := by decide +kernel
theorem dX4_begin_34 : decode cX4_begin 34 = .ok (.aload_n 0, 1) := by decide +kernel
theorem dX4_begin_35 : decode cX4_begin 35 = .ok (.getfield 31, 3) := by decide +kernel
theorem dX4_begin_38 : decode cX4_begin 38 = .ok (.iload_n 1, 1) := by decide +kernel
theorem dX4_begin_39 : decode cX4_begin 39 = .ok (.iastore, 1) := by decide +kernel
theorem dX4_begin_40 : decode cX4_begin 40 = .ok (.iload_n 1, 1) := by decide +kernel
theorem dX4_begin_41 : decode cX4_begin 41 = .ok (.bipush 65, 2) := by decide +kernel
theorem dX4_begin_43 : decode cX4_begin 43 = .ok (.bipush 70, 2) := by decide +kernel
theorem dX4_begin_45 : decode cX4_begin 45 = .ok (.invokestatic 51, 3) := by decide +kernel
theorem dX4_begin_48 : decode cX4_begin 48 = .ok (.ifCond .eq 18, 3) := by decide +kernel
theorem dX4_begin_51 : decode cX4_begin 51 = .ok (.aload_n 0, 1) := by decide +kernel
theorem dX4_begin_52 : decode cX4_begin 52 = .ok (.getfield 18, 3) := by decide +kernel
theorem dX4_begin_55 : decode cX4_begin 55 = .ok (.aload_n 0, 1) := by decide +kernel
theorem dX4_begin_56 : decode cX4_begin 56 = .ok (.getfield 31, 3) := by decide +kernel
theorem dX4_begin_59 : decode cX4_begin 59 = .ok (.iload_n 1, 1) := by decide +kernel
theorem dX4_begin_60 : decode cX4_begin 60 = .ok (.bipush 65, 2) := by decide +kernel
theorem dX4_begin_62 : decode cX4_begin 62 = .ok (.isub, 1) := by decide +kernel
theorem dX4_begin_63 : decode cX4_begin 63 = .ok (.iastore, 1) := by decide +kernel
theorem dX4_begin_64 : decode cX4_begin 64 = .ok (.iconst 1, 1) := by decide +kernel
theorem dX4_begin_65 : decode cX4_begin 65 = .ok (.ireturn, 1) := by decide +kernel
theorem dX4_begin_66 : decode cX4_begin 66 = .ok (.iload_n 1, 1) := by decide +kernel
theorem dX4_begin_67 : decode cX4_begin 67 = .ok (.bipush 60, 2) := by decide +kernel
theorem dX4_begin_69 : decode cX4_begin 69 = .ok (.if_icmp .eq 9, 3) := by decide +kernel
theorem dX4_begin_72 : decode cX4_begin 72 = .ok (.iload_n 1, 1) := by decide +kernel
theorem dX4_begin_73 : decode cX4_begin 73 = .ok (.bipush 62, 2) := by decide +kernel
theorem dX4_begin_75 : decode cX4_begin 75 = .ok (.if_icmp .ne 5, 3) := by decide +kernel
theorem dX4_begin_78 : decode cX4_begin 78 = .ok (.iconst 3, 1) := by decide +kernel
theorem dX4_begin_79 : decode cX4_begin 79 = .ok (.ireturn, 1) := by decide +kernel
theorem dX4_begin_80 : decode cX4_begin 80 = .ok (.iload_n 1, 1) := by decide +kernel
theorem dX4_begin_81 : decode cX4_begin 81 = .ok (.bipush 46, 2) := by decide +kernel
theorem dX4_begin_83 : decode cX4_begin 83 = .ok (.if_icmp .ne 10, 3) := by decide +kernel
theorem dX4_begin_86 : decode cX4_begin 86 = .ok (.aload_n 0, 1) := by decide +kernel
theorem dX4_begin_87 : decode cX4_begin 87 = .ok (.invokevirtual 55, 3) := by decide +kernel
theorem dX4_begin_90 : decode cX4_begin 90 = .ok (.goto 4, 3) := by decide +kernel
theorem dX4_begin_93 : decode cX4_begin 93 = .ok (.iconst 4, 1) := by decide +kernel
theorem dX4_begin_94 : decode cX4_begin 94 = .ok (.ireturn, 1) := by decide +kernel
theorem dX4_readVerb_0 : decode cX4_readVerb 0 = .ok (.aload_n 0, 1) := by decide +kernel
theorem dX4_readVerb_1 : decode cX4_readVerb 1 = .ok (.getfield 15, 3) := by decide +kernel
theorem dX4_readVerb_4 : decode cX4_readVerb 4 = .ok (.aload_n 0, 1) := by decide +kernel
theorem dX4_readVerb_5 : decode cX4_readVerb 5 = .ok (.getfield 31, 3) := by decide +kernel
theorem dX4_readVerb_8 : decode cX4_readVerb 8 = .ok (.iload_n 1, 1) := by decide +kernel
theorem dX4_readVerb_9 : decode cX4_readVerb 9 = .ok (.iastore, 1) := by decide +kernel
theorem dX4_readVerb_10 : decode cX4_readVerb 10 = .ok (.iload_n 1, 1) := by decide +kernel
theorem dX4_readVerb_11 : decode cX4_readVerb 11 = .ok (.lookupswitch 74 #[(40, 67), (41, 67), (43, 65), (45, 65), (47, 67), (61, 69), (120, 69)], 65) := by decide +kernel
theorem dX4_readVerb_76 : decode cX4_readVerb 76 = .ok (.iconst 3, 1) := by decide +kernel
theorem dX4_readVerb_77 : decode cX4_readVerb 77 = .ok (.ireturn, 1) := by decide +kernel
theorem dX4_readVerb_78 : decode cX4_readVerb 78 = .ok (.iconst 2, 1) := by decide +kernel
theorem dX4_readVerb_79 : decode cX4_readVerb 79 = .ok (.ireturn, 1) := by decide +kernel
theorem dX4_readVerb_80 : decode cX4_readVerb 80 = .ok (.aload_n 0, 1) := by decide +kernel
theorem dX4_readVerb_81 : decode cX4_readVerb 81 = .ok (.invokevirtual 55, 3) := by decide +kernel
theorem dX4_readVerb_84 : decode cX4_readVerb 84 = .ok (.ireturn, 1) := by decide +kernel
theorem dX4_readVerb_85 : decode cX4_readVerb 85 = .ok (.iconst 4, 1) := by decide +kernel
theorem dX4_readVerb_86 : decode cX4_readVerb 86 = .ok (.ireturn, 1) := by decide +kernel
theorem dX4_readPlace_0 : decode cX4_readPlace 0 = .ok (.aload_n 0, 1) := by decide +kernel
theorem dX4_readPlace_1 : decode cX4_readPlace 1 = .ok (.getfield 15, 3) := by decide +kernel
theorem dX4_readPlace_4 : decode cX4_readPlace 4 = .ok (.aload_n 0, 1) := by decide +kernel
theorem dX4_readPlace_5 : decode cX4_readPlace 5 = .ok (.getfield 31, 3) := by decide +kernel
theorem dX4_readPlace_8 : decode cX4_readPlace 8 = .ok (.iaload, 1) := by decide +kernel
theorem dX4_readPlace_9 : decode cX4_readPlace 9 = .ok (.bipush 47, 2) := by decide +kernel
theorem dX4_readPlace_11 : decode cX4_readPlace 11 = .ok (.if_icmp .ne 8, 3) := by decide +kernel
theorem dX4_readPlace_14 : decode cX4_readPlace 14 = .ok (.bipush 8, 2) := by decide +kernel
theorem dX4_readPlace_16 : decode cX4_readPlace 16 = .ok (.goto 4, 3) := by decide +kernel
theorem dX4_readPlace_19 : decode cX4_readPlace 19 = .ok (.iconst 4, 1) := by decide +kernel
theorem dX4_readPlace_20 : decode cX4_readPlace 20 = .ok (.istore_n 2, 1) := by decide +kernel
theorem dX4_readPlace_21 : decode cX4_readPlace 21 = .ok (.iload_n 1, 1) := by decide +kernel
theorem dX4_readPlace_22 : decode cX4_readPlace 22 = .ok (.bipush 48, 2) := by decide +kernel
theorem dX4_readPlace_24 : decode cX4_readPlace 24 = .ok (.bipush 48, 2) := by decide +kernel
theorem dX4_readPlace_26 : decode cX4_readPlace 26 = .ok (.iload_n 2, 1) := by decide +kernel
theorem dX4_readPlace_27 : decode cX4_readPlace 27 = .ok (.iadd, 1) := by decide +kernel
theorem dX4_readPlace_28 : decode cX4_readPlace 28 = .ok (.iconst 1, 1) := by decide +kernel
theorem dX4_readPlace_29 : decode cX4_readPlace 29 = .ok (.isub, 1) := by decide +kernel
theorem dX4_readPlace_30 : decode cX4_readPlace 30 = .ok (.invokestatic 51, 3) := by decide +kernel
theorem dX4_readPlace_33 : decode cX4_readPlace 33 = .ok (.ifCond .ne 5, 3) := by decide +kernel
theorem dX4_readPlace_36 : decode cX4_readPlace 36 = .ok (.iconst 4, 1) := by decide +kernel
theorem dX4_readPlace_37 : decode cX4_readPlace 37 = .ok (.ireturn, 1) := by decide +kernel
theorem dX4_readPlace_38 : decode cX4_readPlace 38 = .ok (.aload_n 0, 1) := by decide +kernel
theorem dX4_readPlace_39 : decode cX4_readPlace 39 = .ok (.getfield 21, 3) := by decide +kernel
theorem dX4_readPlace_42 : decode cX4_readPlace 42 = .ok (.aload_n 0, 1) := by decide +kernel
theorem dX4_readPlace_43 : decode cX4_readPlace 43 = .ok (.getfield 31, 3) := by decide +kernel
theorem dX4_readPlace_46 : decode cX4_readPlace 46 = .ok (.iload_n 1, 1) := by decide +kernel
theorem dX4_readPlace_47 : decode cX4_readPlace 47 = .ok (.bipush 48, 2) := by decide +kernel
theorem dX4_readPlace_49 : decode cX4_readPlace 49 = .ok (.isub, 1) := by decide +kernel
theorem dX4_readPlace_50 : decode cX4_readPlace 50 = .ok (.iastore, 1) := by decide +kernel
theorem dX4_readPlace_51 : decode cX4_readPlace 51 = .ok (.iconst 3, 1) := by decide +kernel
theorem dX4_readPlace_52 : decode cX4_readPlace 52 = .ok (.ireturn, 1) := by decide +kernel
theorem dX4_readNumber_0 : decode cX4_readNumber 0 = .ok (.iload_n 1, 1) := by decide +kernel
theorem dX4_readNumber_1 : decode cX4_readNumber 1 = .ok (.bipush 49, 2) := by decide +kernel
theorem dX4_readNumber_3 : decode cX4_readNumber 3 = .ok (.bipush 57, 2) := by decide +kernel
theorem dX4_readNumber_5 : decode cX4_readNumber 5 = .ok (.invokestatic 51, 3) := by decide +kernel
theorem dX4_readNumber_8 : decode cX4_readNumber 8 = .ok (.ifCond .ne 5, 3) := by decide +kernel
theorem dX4_readNumber_11 : decode cX4_readNumber 11 = .ok (.iconst 4, 1) := by decide +kernel
theorem dX4_readNumber_12 : decode cX4_readNumber 12 = .ok (.ireturn, 1) := by decide +kernel
theorem dX4_readNumber_13 : decode cX4_readNumber 13 = .ok (.aload_n 0, 1) := by decide +kernel
theorem dX4_readNumber_14 : decode cX4_readNumber 14 = .ok (.getfield 24, 3) := by decide +kernel
theorem dX4_readNumber_17 : decode cX4_readNumber 17 = .ok (.aload_n 0, 1) := by decide +kernel
theorem dX4_readNumber_18 : decode cX4_readNumber 18 = .ok (.getfield 31, 3) := by decide +kernel
theorem dX4_readNumber_21 : decode cX4_readNumber 21 = .ok (.iload_n 1, 1) := by decide +kernel
theorem dX4_readNumber_22 : decode cX4_readNumber 22 = .ok (.bipush 48, 2) := by decide +kernel
theorem dX4_readNumber_24 : decode cX4_readNumber 24 = .ok (.isub, 1) := by decide +kernel
theorem dX4_readNumber_25 : decode cX4_readNumber 25 = .ok (.iastore, 1) := by decide +kernel
theorem dX4_readNumber_26 : decode cX4_readNumber 26 = .ok (.aload_n 0, 1) := by decide +kernel
theorem dX4_readNumber_27 : decode cX4_readNumber 27 = .ok (.invokevirtual 55, 3) := by decide +kernel
theorem dX4_readNumber_30 : decode cX4_readNumber 30 = .ok (.ireturn, 1) := by decide +kernel
theorem dX4_end_0 : decode cX4_end 0 = .ok (.aload_n 0, 1) := by decide +kernel
theorem dX4_end_1 : decode cX4_end 1 = .ok (.dup, 1) := by decide +kernel
theorem dX4_end_2 : decode cX4_end 2 = .ok (.getfield 31, 3) := by decide +kernel
theorem dX4_end_5 : decode cX4_end 5 = .ok (.iconst 1, 1) := by decide +kernel
theorem dX4_end_6 : decode cX4_end 6 = .ok (.iadd, 1) := by decide +kernel
theorem dX4_end_7 : decode cX4_end 7 = .ok (.putfield 31, 3) := by decide +kernel
theorem dX4_end_10 : decode cX4_end 10 = .ok (.iconst 0, 1) := by decide +kernel
theorem dX4_end_11 : decode cX4_end 11 = .ok (.ireturn, 1) := by decide +kernel
theorem dX5_init_0 : decode cX5_init 0 = .ok (.aload_n 0, 1) := by decide +kernel
theorem dX5_init_1 : decode cX5_init 1 = .ok (.invokespecial 3, 3) := by decide +kernel
theorem dX5_init_4 : decode cX5_init 4 = .ok (.aload_n 0, 1) := by decide +kernel
theorem dX5_init_5 : decode cX5_init 5 = .ok (.bipush 60, 2) := by decide +kernel
theorem dX5_init_7 : decode cX5_init 7 = .ok (.putfield 9, 3) := by decide +kernel
theorem dX5_init_10 : decode cX5_init 10 = .ok (.aload_n 0, 1) := by decide +kernel
theorem dX5_init_11 : decode cX5_init 11 = .ok (.bipush 7, 2) := by decide +kernel
theorem dX5_init_13 : decode cX5_init 13 = .ok (.newarray .int, 2) := by decide +kernel
theorem dX5_init_15 : decode cX5_init 15 = .ok (.putfield 15, 3) := by decide +kernel
theorem dX5_init_18 : decode cX5_init 18 = .ok (.aload_n 0, 1) := by decide +kernel
theorem dX5_init_19 : decode cX5_init 19 = .ok (.bipush 6, 2) := by decide +kernel
theorem dX5_init_21 : decode cX5_init 21 = .ok (.newarray .int, 2) := by decide +kernel
theorem dX5_init_23 : decode cX5_init 23 = .ok (.putfield 19, 3) := by decide +kernel
theorem dX5_init_26 : decode cX5_init 26 = .ok (.aload_n 0, 1) := by decide +kernel
theorem dX5_init_27 : decode cX5_init 27 = .ok (.bipush 6, 2) := by decide +kernel
theorem dX5_init_29 : decode cX5_init 29 = .ok (.newarray .int, 2) := by decide +kernel
theorem dX5_init_31 : decode cX5_init 31 = .ok (.putfield 22, 3) := by decide +kernel
theorem dX5_init_34 : decode cX5_init 34 = .ok (.aload_n 0, 1) := by decide +kernel
theorem dX5_init_35 : decode cX5_init 35 = .ok (.bipush 6, 2) := by decide +kernel
theorem dX5_init_37 : decode cX5_init 37 = .ok (.newarray .int, 2) := by decide +kernel
theorem dX5_init_39 : decode cX5_init 39 = .ok (.putfield 25, 3) := by decide +kernel
theorem dX5_init_42 : decode cX5_init 42 = .ok (.aload_n 0, 1) := by decide +kernel
theorem dX5_init_43 : decode cX5_init 43 = .ok (.bipush 8, 2) := by decide +kernel
theorem dX5_init_45 : decode cX5_init 45 = .ok (.newarray .int, 2) := by decide +kernel
theorem dX5_init_47 : decode cX5_init 47 = .ok (.putfield 28, 3) := by decide +kernel
theorem dX5_init_50 : decode cX5_init 50 = .ok (.aload_n 0, 1) := by decide +kernel
theorem dX5_init_51 : decode cX5_init 51 = .ok (.iconst 4, 1) := by decide +kernel
theorem dX5_init_52 : decode cX5_init 52 = .ok (.newarray .int, 2) := by decide +kernel
theorem dX5_init_54 : decode cX5_init 54 = .ok (.putfield 31, 3) := by decide +kernel
theorem dX5_init_57 : decode cX5_init 57 = .ok (.aload_n 0, 1) := by decide +kernel
theorem dX5_init_58 : decode cX5_init 58 = .ok (.iconst 4, 1) := by decide +kernel
theorem dX5_init_59 : decode cX5_init 59 = .ok (.newarray .int, 2) := by decide +kernel
theorem dX5_init_61 : decode cX5_init 61 = .ok (.putfield 34, 3) := by decide +kernel
theorem dX5_init_64 : decode cX5_init 64 = .ok (.aload_n 0, 1) := by decide +kernel
theorem dX5_init_65 : decode cX5_init 65 = .ok (.iconst 4, 1) := by decide +kernel
theorem dX5_init_66 : decode cX5_init 66 = .ok (.newarray .int, 2) := by decide +kernel
theorem dX5_init_68 : decode cX5_init 68 = .ok (.putfield 37, 3) := by decide +kernel
theorem dX5_init_71 : decode cX5_init 71 = .ok (.aload_n 0, 1) := by decide +kernel
theorem dX5_init_72 : decode cX5_init 72 = .ok (.bipush 8, 2) := by decide +kernel
theorem dX5_init_74 : decode cX5_init 74 = .ok (.newarray .int, 2) := by decide +kernel
theorem dX5_init_76 : decode cX5_init 76 = .ok (.putfield 40, 3) := by decide +kernel
theorem dX5_init_79 : decode cX5_init 79 = .ok (.aload_n 0, 1) := by decide +kernel
theorem dX5_init_80 : decode cX5_init 80 = .ok (.bipush 8, 2) := by decide +kernel
theorem dX5_init_82 : decode cX5_init 82 = .ok (.newarray .int, 2) := by decide +kernel
theorem dX5_init_84 : decode cX5_init 84 = .ok (.putfield 43, 3) := by decide +kernel
theorem dX5_init_87 : decode cX5_init 87 = .ok (.aload_n 0, 1) := by decide +kernel
theorem dX5_init_88 : decode cX5_init 88 = .ok (.getfield 19, 3) := by decide +kernel
theorem dX5_init_91 : decode cX5_init 91 = .ok (.bipush 100, 2) := by decide +kernel
theorem dX5_init_93 : decode cX5_init 93 = .ok (.invokestatic 46, 3) := by decide +kernel
theorem dX5_init_96 : decode cX5_init 96 = .ok (.aload_n 0, 1) := by decide +kernel
theorem dX5_init_97 : decode cX5_init 97 = .ok (.getfield 31, 3) := by decide +kernel
theorem dX5_init_100 : decode cX5_init 100 = .ok (.sipush 600, 3) := by decide +kernel
theorem dX5_init_103 : decode cX5_init 103 = .ok (.invokestatic 46, 3) := by decide +kernel
theorem dX5_init_106 : decode cX5_init 106 = .ok (.return_, 1) := by decide +kernel
theorem dX5_become_0 : decode cX5_become 0 = .ok (.aload_n 0, 1) := by decide +kernel
theorem dX5_become_1 : decode cX5_become 1 = .ok (.aload_n 1, 1) := by decide +kernel
theorem dX5_become_2 : decode cX5_become 2 = .ok (.getfield 9, 3) := by decide +kernel
theorem dX5_become_5 : decode cX5_become 5 = .ok (.putfield 9, 3) := by decide +kernel
theorem dX5_become_8 : decode cX5_become 8 = .ok (.aload_n 0, 1) := by decide +kernel
theorem dX5_become_9 : decode cX5_become 9 = .ok (.aload_n 1, 1) := by decide +kernel
theorem dX5_become_10 : decode cX5_become 10 = .ok (.getfield 52, 3) := by decide +kernel
theorem dX5_become_13 : decode cX5_become 13 = .ok (.putfield 52, 3) := by decide +kernel
theorem dX5_become_16 : decode cX5_become 16 = .ok (.aload_n 0, 1) := by decide +kernel
theorem dX5_become_17 : decode cX5_become 17 = .ok (.aload_n 1, 1) := by decide +kernel
theorem dX5_become_18 : decode cX5_become 18 = .ok (.getfield 55, 3) := by decide +kernel
theorem dX5_become_21 : decode cX5_become 21 = .ok (.putfield 55, 3) := by decide +kernel
theorem dX5_become_24 : decode cX5_become 24 = .ok (.aload_n 1, 1) := by decide +kernel
theorem dX5_become_25 : decode cX5_become 25 = .ok (.getfield 15, 3) := by decide +kernel
theorem dX5_become_28 : decode cX5_become 28 = .ok (.iconst 0, 1) := by decide +kernel
theorem dX5_become_29 : decode cX5_become 29 = .ok (.aload_n 0, 1) := by decide +kernel
theorem dX5_become_30 : decode cX5_become 30 = .ok (.getfield 15, 3) := by decide +kernel
theorem dX5_become_33 : decode cX5_become 33 = .ok (.iconst 0, 1) := by decide +kernel
theorem dX5_become_34 : decode cX5_become 34 = .ok (.bipush 7, 2) := by decide +kernel
theorem dX5_become_36 : decode cX5_become 36 = .ok (.invokestatic 58, 3) := by decide +kernel
theorem dX5_become_39 : decode cX5_become 39 = .ok (.aload_n 1, 1) := by decide +kernel
theorem dX5_become_40 : decode cX5_become 40 = .ok (.getfield 19, 3) := by decide +kernel
theorem dX5_become_43 : decode cX5_become 43 = .ok (.iconst 0, 1) := by decide +kernel
theorem dX5_become_44 : decode cX5_become 44 = .ok (.aload_n 0, 1) := by decide +kernel
theorem dX5_become_45 : decode cX5_become 45 = .ok (.getfield 19, 3) := by decide +kernel
theorem dX5_become_48 : decode cX5_become 48 = .ok (.iconst 0, 1) := by decide +kernel
theorem dX5_become_49 : decode cX5_become 49 = .ok (.bipush 6, 2) := by decide +kernel
theorem dX5_become_51 : decode cX5_become 51 = .ok (.invokestatic 58, 3) := by decide +kernel
theorem dX5_become_54 : decode cX5_become 54 = .ok (.aload_n 1, 1) := by decide +kernel
theorem dX5_become_55 : decode cX5_become 55 = .ok (.getfield 22, 3) := by decide +kernel
theorem dX5_become_58 : decode cX5_become 58 = .ok (.iconst 0, 1) := by decide +kernel
theorem dX5_become_59 : decode cX5_become 59 = .ok (.aload_n 0, 1) := by decide +kernel
theorem dX5_become_60 : decode cX5_become 60 = .ok (.getfield 22, 3) := by decide +kernel
theorem dX5_become_63 : decode cX5_become 63 = .ok (.iconst 0, 1) := by decide +kernel
theorem dX5_become_64 : decode cX5_become 64 = .ok (.bipush 6, 2) := by decide +kernel
theorem dX5_become_66 : decode cX5_become 66 = .ok (.invokestatic 58, 3) := by decide +kernel
theorem dX5_become_69 : decode cX5_become 69 = .ok (.aload_n 1, 1) := by decide +kernel
theorem dX5_become_70 : decode cX5_become 70 = .ok (.getfield 25, 3) := by decide +kernel
theorem dX5_become_73 : decode cX5_become 73 = .ok (.iconst 0, 1) := by decide +kernel
theorem dX5_become_74 : decode cX5_become 74 = .ok (.aload_n 0, 1) := by decide +kernel
theorem dX5_become_75 : decode cX5_become 75 = .ok (.getfield 25, 3) := by decide +kernel
theorem dX5_become_78 : decode cX5_become 78 = .ok (.iconst 0, 1) := by decide +kernel
theorem dX5_become_79 : decode cX5_become 79 = .ok (.bipush 6, 2) := by decide +kernel
theorem dX5_become_81 : decode cX5_become 81 = .ok (.invokestatic 58, 3) := by decide +kernel
theorem dX5_become_84 : decode cX5_become 84 = .ok (.aload_n 1, 1) := by decide +kernel
theorem dX5_become_85 : decode cX5_become 85 = .ok (.getfield 28, 3) := by decide +kernel
theorem dX5_become_88 : decode cX5_become 88 = .ok (.iconst 0, 1) := by decide +kernel
theorem dX5_become_89 : decode cX5_become 89 = .ok (.aload_n 0, 1) := by decide +kernel
theorem dX5_become_90 : decode cX5_become 90 = .ok (.getfield 28, 3) := by decide +kernel
theorem dX5_become_93 : decode cX5_become 93 = .ok (.iconst 0, 1) := by decide +kernel
theorem dX5_become_94 : decode cX5_become 94 = .ok (.bipush 8, 2) := by decide +kernel
theorem dX5_become_96 : decode cX5_become 96 = .ok (.invokestatic 58, 3) := by decide +kernel
theorem dX5_become_99 : decode cX5_become 99 = .ok (.aload_n 1, 1) := by decide +kernel
theorem dX5_become_100 : decode cX5_become 100 = .ok (.getfield 31, 3) := by decide +kernel
theorem dX5_become_103 : decode cX5_become 103 = .ok (.iconst 0, 1) := by decide +kernel
theorem dX5_become_104 : decode cX5_become 104 = .ok (.aload_n 0, 1) := by decide +kernel
theorem dX5_become_105 : decode cX5_become 105 = .ok (.getfield 31, 3) := by decide +kernel
theorem dX5_become_108 : decode cX5_become 108 = .ok (.iconst 0, 1) := by decide +kernel
theorem dX5_become_109 : decode cX5_become 109 = .ok (.iconst 4, 1) := by decide +kernel
theorem dX5_become_110 : decode cX5_become 110 = .ok (.invokestatic 58, 3) := by decide +kernel
theorem dX5_become_113 : decode cX5_become 113 = .ok (.aload_n 1, 1) := by decide +kernel
theorem dX5_become_114 : decode cX5_become 114 = .ok (.getfield 34, 3) := by decide +kernel
theorem dX5_become_117 : decode cX5_become 117 = .ok (.iconst 0, 1) := by decide +kernel
theorem dX5_become_118 : decode cX5_become 118 = .ok (.aload_n 0, 1) := by decide +kernel
theorem dX5_become_119 : decode cX5_become 119 = .ok (.getfield 34, 3) := by decide +kernel
theorem dX5_become_122 : decode cX5_become 122 = .ok (.iconst 0, 1) := by decide +kernel
theorem dX5_become_123 : decode cX5_become 123 = .ok (.iconst 4, 1) := by decide +kernel
theorem dX5_become_124 : decode cX5_become 124 = .ok (.invokestatic 58, 3) := by decide +kernel
theorem dX5_become_127 : decode cX5_become 127 = .ok (.aload_n 1, 1) := by decide +kernel
theorem dX5_become_128 : decode cX5_become 128 = .ok (.getfield 37, 3) := by decide +kernel
theorem dX5_become_131 : decode cX5_become 131 = .ok (.iconst 0, 1) := by decide +kernel
theorem dX5_become_132 : decode cX5_become 132 = .ok (.aload_n 0, 1) := by decide +kernel
theorem dX5_become_133 : decode cX5_become 133 = .ok (.getfield 37, 3) := by decide +kernel
theorem dX5_become_136 : decode cX5_become 136 = .ok (.iconst 0, 1) := by decide +kernel
theorem dX5_become_137 : decode cX5_become 137 = .ok (.iconst 4, 1) := by decide +kernel
theorem dX5_become_138 : decode cX5_become 138 = .ok (.invokestatic 58, 3) := by decide +kernel
theorem dX5_become_141 : decode cX5_become 141 = .ok (.aload_n 1, 1) := by decide +kernel
theorem dX5_become_142 : decode cX5_become 142 = .ok (.getfield 40, 3) := by decide +kernel
theorem dX5_become_145 : decode cX5_become 145 = .ok (.iconst 0, 1) := by decide +kernel
theorem dX5_become_146 : decode cX5_become 146 = .ok (.aload_n 0, 1) := by decide +kernel
theorem dX5_become_147 : decode cX5_become 147 = .ok (.getfield 40, 3) := by decide +kernel
theorem dX5_become_150 : decode cX5_become 150 = .ok (.iconst 0, 1) := by decide +kernel
theorem dX5_become_151 : decode cX5_become 151 = .ok (.bipush 8, 2) := by decide +kernel
theorem dX5_become_153 : decode cX5_become 153 = .ok (.invokestatic 58, 3) := by decide +kernel
theorem dX5_become_156 : decode cX5_become 156 = .ok (.aload_n 1, 1) := by decide +kernel
theorem dX5_become_157 : decode cX5_become 157 = .ok (.getfield 43, 3) := by decide +kernel
theorem dX5_become_160 : decode cX5_become 160 = .ok (.iconst 0, 1) := by decide +kernel
theorem dX5_become_161 : decode cX5_become 161 = .ok (.aload_n 0, 1) := by decide +kernel
theorem dX5_become_162 : decode cX5_become 162 = .ok (.getfield 43, 3) := by decide +kernel
theorem dX5_become_165 : decode cX5_become 165 = .ok (.iconst 0, 1) := by decide +kernel
theorem dX5_become_166 : decode cX5_become 166 = .ok (.bipush 8, 2) := by decide +kernel
theorem dX5_become_168 : decode cX5_become 168 = .ok (.invokestatic 58, 3) := by decide +kernel
theorem dX5_become_171 : decode cX5_become 171 = .ok (.return_, 1) := by decide +kernel
theorem dX5_measure_0 : decode cX5_measure 0 = .ok (.aload_n 0, 1) := by decide +kernel
theorem dX5_measure_1 : decode cX5_measure 1 = .ok (.getfield 25, 3) := by decide +kernel
theorem dX5_measure_4 : decode cX5_measure 4 = .ok (.iload_n 1, 1) := by decide +kernel
theorem dX5_measure_5 : decode cX5_measure 5 = .ok (.iaload, 1) := by decide +kernel
theorem dX5_measure_6 : decode cX5_measure 6 = .ok (.ifCond .ne 10, 3) := by decide +kernel
theorem dX5_measure_9 : decode cX5_measure 9 = .ok (.aload_n 0, 1) := by decide +kernel
theorem dX5_measure_10 : decode cX5_measure 10 = .ok (.getfield 9, 3) := by decide +kernel
theorem dX5_measure_13 : decode cX5_measure 13 = .ok (.goto 9, 3) := by decide +kernel
theorem dX5_measure_16 : decode cX5_measure 16 = .ok (.aload_n 0, 1) := by decide +kernel
theorem dX5_measure_17 : decode cX5_measure 17 = .ok (.getfield 25, 3) := by decide +kernel
theorem dX5_measure_20 : decode cX5_measure 20 = .ok (.iload_n 1, 1) := by decide +kernel
theorem dX5_measure_21 : decode cX5_measure 21 = .ok (.iaload, 1) := by decide +kernel
theorem dX5_measure_22 : decode cX5_measure 22 = .ok (.ireturn, 1) := by decide +kernel
theorem dX5_hasMet_0 : decode cX5_hasMet 0 = .ok (.aload_n 0, 1) := by decide +kernel
theorem dX5_hasMet_1 : decode cX5_hasMet 1 = .ok (.getfield 34, 3) := by decide +kernel
theorem dX5_hasMet_4 : decode cX5_hasMet 4 = .ok (.iload_n 1, 1) := by decide +kernel
theorem dX5_hasMet_5 : decode cX5_hasMet 5 = .ok (.iaload, 1) := by decide +kernel
theorem dX5_hasMet_6 : decode cX5_hasMet 6 = .ok (.aload_n 0, 1) := by decide +kernel
theorem dX5_hasMet_7 : decode cX5_hasMet 7 = .ok (.getfield 37, 3) := by decide +kernel
theorem dX5_hasMet_10 : decode cX5_hasMet 10 = .ok (.iload_n 1, 1) := by decide +kernel
theorem dX5_hasMet_11 : decode cX5_hasMet 11 = .ok (.iaload, 1) := by decide +kernel
theorem dX5_hasMet_12 : decode cX5_hasMet 12 = .ok (.iadd, 1) := by decide +kernel
theorem dX5_hasMet_13 : decode cX5_hasMet 13 = .ok (.aload_n 0, 1) := by decide +kernel
theorem dX5_hasMet_14 : decode cX5_hasMet 14 = .ok (.getfield 31, 3) := by decide +kernel
theorem dX5_hasMet_17 : decode cX5_hasMet 17 = .ok (.iload_n 1, 1) := by decide +kernel
theorem dX5_hasMet_18 : decode cX5_hasMet 18 = .ok (.iaload, 1) := by decide +kernel
theorem dX5_hasMet_19 : decode cX5_hasMet 19 = .ok (.if_icmp .lt 7, 3) := by decide +kernel
theorem dX5_hasMet_22 : decode cX5_hasMet 22 = .ok (.iconst 1, 1) := by decide +kernel
theorem dX5_hasMet_23 : decode cX5_hasMet 23 = .ok (.goto 4, 3) := by decide +kernel
theorem dX5_hasMet_26 : decode cX5_hasMet 26 = .ok (.iconst 0, 1) := by decide +kernel
theorem dX5_hasMet_27 : decode cX5_hasMet 27 = .ok (.ireturn, 1) := by decide +kernel
theorem dX5_overlap_0 : decode cX5_overlap 0 = .ok (.aload_n 0, 1) := by decide +kernel
theorem dX5_overlap_1 : decode cX5_overlap 1 = .ok (.iload_n 1, 1) := by decide +kernel
theorem dX5_overlap_2 : decode cX5_overlap 2 = .ok (.invokevirtual 64, 3) := by decide +kernel
theorem dX5_overlap_5 : decode cX5_overlap 5 = .ok (.ifCond .eq 26, 3) := by decide +kernel
theorem dX5_overlap_8 : decode cX5_overlap 8 = .ok (.aload_n 0, 1) := by decide +kernel
theorem dX5_overlap_9 : decode cX5_overlap 9 = .ok (.getfield 34, 3) := by decide +kernel
theorem dX5_overlap_12 : decode cX5_overlap 12 = .ok (.iload_n 1, 1) := by decide +kernel
theorem dX5_overlap_13 : decode cX5_overlap 13 = .ok (.iaload, 1) := by decide +kernel
theorem dX5_overlap_14 : decode cX5_overlap 14 = .ok (.aload_n 0, 1) := by decide +kernel
theorem dX5_overlap_15 : decode cX5_overlap 15 = .ok (.getfield 37, 3) := by decide +kernel
theorem dX5_overlap_18 : decode cX5_overlap 18 = .ok (.iload_n 1, 1) := by decide +kernel
theorem dX5_overlap_19 : decode cX5_overlap 19 = .ok (.iaload, 1) := by decide +kernel
theorem dX5_overlap_20 : decode cX5_overlap 20 = .ok (.iadd, 1) := by decide +kernel
theorem dX5_overlap_21 : decode cX5_overlap 21 = .ok (.aload_n 0, 1) := by decide +kernel
theorem dX5_overlap_22 : decode cX5_overlap 22 = .ok (.getfield 31, 3) := by decide +kernel
theorem dX5_overlap_25 : decode cX5_overlap 25 = .ok (.iload_n 1, 1) := by decide +kernel
theorem dX5_overlap_26 : decode cX5_overlap 26 = .ok (.iaload, 1) := by decide +kernel
theorem dX5_overlap_27 : decode cX5_overlap 27 = .ok (.isub, 1) := by decide +kernel
theorem dX5_overlap_28 : decode cX5_overlap 28 = .ok (.goto 5, 3) := by decide +kernel
theorem dX5_overlap_31 : decode cX5_overlap 31 = .ok (.bipush (-6), 2) := by decide +kernel
theorem dX5_overlap_33 : decode cX5_overlap 33 = .ok (.ireturn, 1) := by decide +kernel
theorem dX5_ofOne_0 : decode cX5_ofOne 0 = .ok (.iload_n 2, 1) := by decide +kernel
theorem dX5_ofOne_1 : decode cX5_ofOne 1 = .ok (.tableswitch 58 0 3 #[31, 38, 45, 52], 31) := by decide +kernel
theorem dX5_ofOne_32 : decode cX5_ofOne 32 = .ok (.aload_n 0, 1) := by decide +kernel
theorem dX5_ofOne_33 : decode cX5_ofOne 33 = .ok (.getfield 19, 3) := by decide +kernel
theorem dX5_ofOne_36 : decode cX5_ofOne 36 = .ok (.iload_n 1, 1) := by decide +kernel
theorem dX5_ofOne_37 : decode cX5_ofOne 37 = .ok (.iaload, 1) := by decide +kernel
theorem dX5_ofOne_38 : decode cX5_ofOne 38 = .ok (.ireturn, 1) := by decide +kernel
theorem dX5_ofOne_39 : decode cX5_ofOne 39 = .ok (.aload_n 0, 1) := by decide +kernel
theorem dX5_ofOne_40 : decode cX5_ofOne 40 = .ok (.getfield 22, 3) := by decide +kernel
theorem dX5_ofOne_43 : decode cX5_ofOne 43 = .ok (.iload_n 1, 1) := by decide +kernel
theorem dX5_ofOne_44 : decode cX5_ofOne 44 = .ok (.iaload, 1) := by decide +kernel
theorem dX5_ofOne_45 : decode cX5_ofOne 45 = .ok (.ireturn, 1) := by decide +kernel
theorem dX5_ofOne_46 : decode cX5_ofOne 46 = .ok (.aload_n 0, 1) := by decide +kernel
theorem dX5_ofOne_47 : decode cX5_ofOne 47 = .ok (.getfield 25, 3) := by decide +kernel
theorem dX5_ofOne_50 : decode cX5_ofOne 50 = .ok (.iload_n 1, 1) := by decide +kernel
theorem dX5_ofOne_51 : decode cX5_ofOne 51 = .ok (.iaload, 1) := by decide +kernel
theorem dX5_ofOne_52 : decode cX5_ofOne 52 = .ok (.ireturn, 1) := by decide +kernel
theorem dX5_ofOne_53 : decode cX5_ofOne 53 = .ok (.aload_n 0, 1) := by decide +kernel
theorem dX5_ofOne_54 : decode cX5_ofOne 54 = .ok (.iload_n 1, 1) := by decide +kernel
theorem dX5_ofOne_55 : decode cX5_ofOne 55 = .ok (.invokevirtual 68, 3) := by decide +kernel
theorem dX5_ofOne_58 : decode cX5_ofOne 58 = .ok (.ireturn, 1) := by decide +kernel
theorem dX5_ofOne_59 : decode cX5_ofOne 59 = .ok (.bipush (-2), 2) := by decide +kernel
theorem dX5_ofOne_61 : decode cX5_ofOne 61 = .ok (.ireturn, 1) := by decide +kernel
theorem dX5_ofBridge_0 : decode cX5_ofBridge 0 = .ok (.iload_n 2, 1) := by decide +kernel
theorem dX5_ofBridge_1 : decode cX5_ofBridge 1 = .ok (.tableswitch 48 0 2 #[27, 34, 41], 27) := by decide +kernel
theorem dX5_ofBridge_28 : decode cX5_ofBridge 28 = .ok (.aload_n 0, 1) := by decide +kernel
theorem dX5_ofBridge_29 : decode cX5_ofBridge 29 = .ok (.getfield 31, 3) := by decide +kernel
theorem dX5_ofBridge_32 : decode cX5_ofBridge 32 = .ok (.iload_n 1, 1) := by decide +kernel
theorem dX5_ofBridge_33 : decode cX5_ofBridge 33 = .ok (.iaload, 1) := by decide +kernel
theorem dX5_ofBridge_34 : decode cX5_ofBridge 34 = .ok (.ireturn, 1) := by decide +kernel
theorem dX5_ofBridge_35 : decode cX5_ofBridge 35 = .ok (.aload_n 0, 1) := by decide +kernel
theorem dX5_ofBridge_36 : decode cX5_ofBridge 36 = .ok (.getfield 34, 3) := by decide +kernel
theorem dX5_ofBridge_39 : decode cX5_ofBridge 39 = .ok (.iload_n 1, 1) := by decide +kernel
theorem dX5_ofBridge_40 : decode cX5_ofBridge 40 = .ok (.iaload, 1) := by decide +kernel
theorem dX5_ofBridge_41 : decode cX5_ofBridge 41 = .ok (.ireturn, 1) := by decide +kernel
theorem dX5_ofBridge_42 : decode cX5_ofBridge 42 = .ok (.aload_n 0, 1) := by decide +kernel
theorem dX5_ofBridge_43 : decode cX5_ofBridge 43 = .ok (.getfield 37, 3) := by decide +kernel
theorem dX5_ofBridge_46 : decode cX5_ofBridge 46 = .ok (.iload_n 1, 1) := by decide +kernel
theorem dX5_ofBridge_47 : decode cX5_ofBridge 47 = .ok (.iaload, 1) := by decide +kernel
theorem dX5_ofBridge_48 : decode cX5_ofBridge 48 = .ok (.ireturn, 1) := by decide +kernel
theorem dX5_ofBridge_49 : decode cX5_ofBridge 49 = .ok (.bipush (-2), 2) := by decide +kernel
theorem dX5_ofBridge_51 : decode cX5_ofBridge 51 = .ok (.ireturn, 1) := by decide +kernel
theorem dX5_coins_0 : decode cX5_coins 0 = .ok (.iconst 0, 1) := by decide +kernel
theorem dX5_coins_1 : decode cX5_coins 1 = .ok (.istore_n 1, 1) := by decide +kernel
theorem dX5_coins_2 : decode cX5_coins 2 = .ok (.iconst 0, 1) := by decide +kernel
theorem dX5_coins_3 : decode cX5_coins 3 = .ok (.istore_n 2, 1) := by decide +kernel
theorem dX5_coins_4 : decode cX5_coins 4 = .ok (.iload_n 2, 1) := by decide +kernel
theorem dX5_coins_5 : decode cX5_coins 5 = .ok (.bipush 6, 2) := by decide +kernel
theorem dX5_coins_7 : decode cX5_coins 7 = .ok (.if_icmp .ge 18, 3) := by decide +kernel
theorem dX5_coins_10 : decode cX5_coins 10 = .ok (.iload_n 1, 1) := by decide +kernel
theorem dX5_coins_11 : decode cX5_coins 11 = .ok (.aload_n 0, 1) := by decide +kernel
theorem dX5_coins_12 : decode cX5_coins 12 = .ok (.getfield 19, 3) := by decide +kernel
theorem dX5_coins_15 : decode cX5_coins 15 = .ok (.iload_n 2, 1) := by decide +kernel
theorem dX5_coins_16 : decode cX5_coins 16 = .ok (.iaload, 1) := by decide +kernel
theorem dX5_coins_17 : decode cX5_coins 17 = .ok (.iadd, 1) := by decide +kernel
theorem dX5_coins_18 : decode cX5_coins 18 = .ok (.istore_n 1, 1) := by decide +kernel
theorem dX5_coins_19 : decode cX5_coins 19 = .ok (.iinc 2 1, 3) := by decide +kernel
theorem dX5_coins_22 : decode cX5_coins 22 = .ok (.goto (-18), 3) := by decide +kernel
theorem dX5_coins_25 : decode cX5_coins 25 = .ok (.iload_n 1, 1) := by decide +kernel
theorem dX5_coins_26 : decode cX5_coins 26 = .ok (.ireturn, 1) := by decide +kernel
theorem dX5_metBridges_0 : decode cX5_metBridges 0 = .ok (.iconst 0, 1) := by decide +kernel
theorem dX5_metBridges_1 : decode cX5_metBridges 1 = .ok (.istore_n 1, 1) := by decide +kernel
theorem dX5_metBridges_2 : decode cX5_metBridges 2 = .ok (.iconst 0, 1) := by decide +kernel
theorem dX5_metBridges_3 : decode cX5_metBridges 3 = .ok (.istore_n 2, 1) := by decide +kernel
theorem dX5_metBridges_4 : decode cX5_metBridges 4 = .ok (.iload_n 2, 1) := by decide +kernel
theorem dX5_metBridges_5 : decode cX5_metBridges 5 = .ok (.iconst 4, 1) := by decide +kernel
theorem dX5_metBridges_6 : decode cX5_metBridges 6 = .ok (.if_icmp .ge 20, 3) := by decide +kernel
theorem dX5_metBridges_9 : decode cX5_metBridges 9 = .ok (.aload_n 0, 1) := by decide +kernel
theorem dX5_metBridges_10 : decode cX5_metBridges 10 = .ok (.iload_n 2, 1) := by decide +kernel
theorem dX5_metBridges_11 : decode cX5_metBridges 11 = .ok (.invokevirtual 64, 3) := by decide +kernel
theorem dX5_metBridges_14 : decode cX5_metBridges 14 = .ok (.ifCond .eq 6, 3) := by decide +kernel
theorem dX5_metBridges_17 : decode cX5_metBridges 17 = .ok (.iinc 1 1, 3) := by decide +kernel
theorem dX5_metBridges_20 : decode cX5_metBridges 20 = .ok (.iinc 2 1, 3) := by decide +kernel
theorem dX5_metBridges_23 : decode cX5_metBridges 23 = .ok (.goto (-19), 3) := by decide +kernel
theorem dX5_metBridges_26 : decode cX5_metBridges 26 = .ok (.iload_n 1, 1) := by decide +kernel
theorem dX5_metBridges_27 : decode cX5_metBridges 27 = .ok (.ireturn, 1) := by decide +kernel
theorem dX5_nextInch_0 : decode cX5_nextInch 0 = .ok (.iload_n 1, 1) := by decide +kernel
theorem dX5_nextInch_1 : decode cX5_nextInch 1 = .ok (.aload_n 0, 1) := by decide +kernel
theorem dX5_nextInch_2 : decode cX5_nextInch 2 = .ok (.getfield 15, 3) := by decide +kernel
theorem dX5_nextInch_5 : decode cX5_nextInch 5 = .ok (.iload_n 2, 1) := by decide +kernel
theorem dX5_nextInch_6 : decode cX5_nextInch 6 = .ok (.bipush 7, 2) := by decide +kernel
theorem dX5_nextInch_8 : decode cX5_nextInch 8 = .ok (.invokestatic 72, 3) := by decide +kernel
theorem dX5_nextInch_11 : decode cX5_nextInch 11 = .ok (.iaload, 1) := by decide +kernel
theorem dX5_nextInch_12 : decode cX5_nextInch 12 = .ok (.iadd, 1) := by decide +kernel
theorem dX5_nextInch_13 : decode cX5_nextInch 13 = .ok (.invokestatic 78, 3) := by decide +kernel
theorem dX5_nextInch_16 : decode cX5_nextInch 16 = .ok (.ireturn, 1) := by decide +kernel
theorem dX5_hindrance_0 : decode cX5_hindrance 0 = .ok (.iload_n 1, 1) := by decide +kernel
theorem dX5_hindrance_1 : decode cX5_hindrance 1 = .ok (.lookupswitch 268 #[(40, 173), (41, 173), (43, 83), (45, 127), (46, 251), (60, 187), (61, 217), (62, 201), (120, 236)], 83) := by decide +kernel
theorem dX5_hindrance_84 : decode cX5_hindrance 84 = .ok (.aload_n 0, 1) := by decide +kernel
theorem dX5_hindrance_85 : decode cX5_hindrance 85 = .ok (.getfield 19, 3) := by decide +kernel
theorem dX5_hindrance_88 : decode cX5_hindrance 88 = .ok (.iload_n 2, 1) := by decide +kernel
theorem dX5_hindrance_89 : decode cX5_hindrance 89 = .ok (.iaload, 1) := by decide +kernel
theorem dX5_hindrance_90 : decode cX5_hindrance 90 = .ok (.iload 4, 2) := by decide +kernel
theorem dX5_hindrance_92 : decode cX5_hindrance 92 = .ok (.if_icmp .ge 7, 3) := by decide +kernel
theorem dX5_hindrance_95 : decode cX5_hindrance 95 = .ok (.iconst 1, 1) := by decide +kernel
theorem dX5_hindrance_96 : decode cX5_hindrance 96 = .ok (.goto 4, 3) := by decide +kernel
theorem dX5_hindrance_99 : decode cX5_hindrance 99 = .ok (.iconst 0, 1) := by decide +kernel
theorem dX5_hindrance_100 : decode cX5_hindrance 100 = .ok (.aload_n 0, 1) := by decide +kernel
theorem dX5_hindrance_101 : decode cX5_hindrance 101 = .ok (.getfield 22, 3) := by decide +kernel
theorem dX5_hindrance_104 : decode cX5_hindrance 104 = .ok (.iload_n 2, 1) := by decide +kernel
theorem dX5_hindrance_105 : decode cX5_hindrance 105 = .ok (.iaload, 1) := by decide +kernel
theorem dX5_hindrance_106 : decode cX5_hindrance 106 = .ok (.iload 4, 2) := by decide +kernel
theorem dX5_hindrance_108 : decode cX5_hindrance 108 = .ok (.aload_n 0, 1) := by decide +kernel
theorem dX5_hindrance_109 : decode cX5_hindrance 109 = .ok (.getfield 9, 3) := by decide +kernel
theorem dX5_hindrance_112 : decode cX5_hindrance 112 = .ok (.imul, 1) := by decide +kernel
theorem dX5_hindrance_113 : decode cX5_hindrance 113 = .ok (.iadd, 1) := by decide +kernel
theorem dX5_hindrance_114 : decode cX5_hindrance 114 = .ok (.ldc 81, 2) := by decide +kernel
theorem dX5_hindrance_116 : decode cX5_hindrance 116 = .ok (.if_icmp .le 7, 3) := by decide +kernel
theorem dX5_hindrance_119 : decode cX5_hindrance 119 = .ok (.iconst 1, 1) := by decide +kernel
theorem dX5_hindrance_120 : decode cX5_hindrance 120 = .ok (.goto 4, 3) := by decide +kernel
theorem dX5_hindrance_123 : decode cX5_hindrance 123 = .ok (.iconst 0, 1) := by decide +kernel
theorem dX5_hindrance_124 : decode cX5_hindrance 124 = .ok (.invokestatic 82, 3) := by decide +kernel
theorem dX5_hindrance_127 : decode cX5_hindrance 127 = .ok (.ireturn, 1) := by decide +kernel
theorem dX5_hindrance_128 : decode cX5_hindrance 128 = .ok (.aload_n 0, 1) := by decide +kernel
theorem dX5_hindrance_129 : decode cX5_hindrance 129 = .ok (.getfield 22, 3) := by decide +kernel
theorem dX5_hindrance_132 : decode cX5_hindrance 132 = .ok (.iload_n 2, 1) := by decide +kernel
theorem dX5_hindrance_133 : decode cX5_hindrance 133 = .ok (.iaload, 1) := by decide +kernel
theorem dX5_hindrance_134 : decode cX5_hindrance 134 = .ok (.iload 4, 2) := by decide +kernel
theorem dX5_hindrance_136 : decode cX5_hindrance 136 = .ok (.aload_n 0, 1) := by decide +kernel
theorem dX5_hindrance_137 : decode cX5_hindrance 137 = .ok (.iload_n 2, 1) := by decide +kernel
theorem dX5_hindrance_138 : decode cX5_hindrance 138 = .ok (.invokevirtual 68, 3) := by decide +kernel
theorem dX5_hindrance_141 : decode cX5_hindrance 141 = .ok (.imul, 1) := by decide +kernel
theorem dX5_hindrance_142 : decode cX5_hindrance 142 = .ok (.if_icmp .ge 7, 3) := by decide +kernel
theorem dX5_hindrance_145 : decode cX5_hindrance 145 = .ok (.iconst 1, 1) := by decide +kernel
theorem dX5_hindrance_146 : decode cX5_hindrance 146 = .ok (.goto 4, 3) := by decide +kernel
theorem dX5_hindrance_149 : decode cX5_hindrance 149 = .ok (.iconst 0, 1) := by decide +kernel
theorem dX5_hindrance_150 : decode cX5_hindrance 150 = .ok (.aload_n 0, 1) := by decide +kernel
theorem dX5_hindrance_151 : decode cX5_hindrance 151 = .ok (.getfield 19, 3) := by decide +kernel
theorem dX5_hindrance_154 : decode cX5_hindrance 154 = .ok (.iload_n 2, 1) := by decide +kernel
theorem dX5_hindrance_155 : decode cX5_hindrance 155 = .ok (.iaload, 1) := by decide +kernel
theorem dX5_hindrance_156 : decode cX5_hindrance 156 = .ok (.iload 4, 2) := by decide +kernel
theorem dX5_hindrance_158 : decode cX5_hindrance 158 = .ok (.iadd, 1) := by decide +kernel
theorem dX5_hindrance_159 : decode cX5_hindrance 159 = .ok (.sipush 9999, 3) := by decide +kernel
theorem dX5_hindrance_162 : decode cX5_hindrance 162 = .ok (.if_icmp .le 7, 3) := by decide +kernel
theorem dX5_hindrance_165 : decode cX5_hindrance 165 = .ok (.iconst 1, 1) := by decide +kernel
theorem dX5_hindrance_166 : decode cX5_hindrance 166 = .ok (.goto 4, 3) := by decide +kernel
theorem dX5_hindrance_169 : decode cX5_hindrance 169 = .ok (.iconst 0, 1) := by decide +kernel
theorem dX5_hindrance_170 : decode cX5_hindrance 170 = .ok (.invokestatic 82, 3) := by decide +kernel
theorem dX5_hindrance_173 : decode cX5_hindrance 173 = .ok (.ireturn, 1) := by decide +kernel
theorem dX5_hindrance_174 : decode cX5_hindrance 174 = .ok (.aload_n 0, 1) := by decide +kernel
theorem dX5_hindrance_175 : decode cX5_hindrance 175 = .ok (.iload_n 3, 1) := by decide +kernel
theorem dX5_hindrance_176 : decode cX5_hindrance 176 = .ok (.invokevirtual 64, 3) := by decide +kernel
theorem dX5_hindrance_179 : decode cX5_hindrance 179 = .ok (.ifCond .eq 7, 3) := by decide +kernel
theorem dX5_hindrance_182 : decode cX5_hindrance 182 = .ok (.iconst 3, 1) := by decide +kernel
theorem dX5_hindrance_183 : decode cX5_hindrance 183 = .ok (.goto 4, 3) := by decide +kernel
theorem dX5_hindrance_186 : decode cX5_hindrance 186 = .ok (.iconst 0, 1) := by decide +kernel
theorem dX5_hindrance_187 : decode cX5_hindrance 187 = .ok (.ireturn, 1) := by decide +kernel
theorem dX5_hindrance_188 : decode cX5_hindrance 188 = .ok (.aload_n 0, 1) := by decide +kernel
theorem dX5_hindrance_189 : decode cX5_hindrance 189 = .ok (.getfield 9, 3) := by decide +kernel
theorem dX5_hindrance_192 : decode cX5_hindrance 192 = .ok (.iconst 1, 1) := by decide +kernel
theorem dX5_hindrance_193 : decode cX5_hindrance 193 = .ok (.if_icmp .ne 7, 3) := by decide +kernel
theorem dX5_hindrance_196 : decode cX5_hindrance 196 = .ok (.iconst 4, 1) := by decide +kernel
theorem dX5_hindrance_197 : decode cX5_hindrance 197 = .ok (.goto 4, 3) := by decide +kernel
theorem dX5_hindrance_200 : decode cX5_hindrance 200 = .ok (.iconst 0, 1) := by decide +kernel
theorem dX5_hindrance_201 : decode cX5_hindrance 201 = .ok (.ireturn, 1) := by decide +kernel
theorem dX5_hindrance_202 : decode cX5_hindrance 202 = .ok (.aload_n 0, 1) := by decide +kernel
theorem dX5_hindrance_203 : decode cX5_hindrance 203 = .ok (.getfield 9, 3) := by decide +kernel
theorem dX5_hindrance_206 : decode cX5_hindrance 206 = .ok (.sipush 200, 3) := by decide +kernel
theorem dX5_hindrance_209 : decode cX5_hindrance 209 = .ok (.if_icmp .ne 7, 3) := by decide +kernel
theorem dX5_hindrance_212 : decode cX5_hindrance 212 = .ok (.iconst 4, 1) := by decide +kernel
theorem dX5_hindrance_213 : decode cX5_hindrance 213 = .ok (.goto 4, 3) := by decide +kernel
theorem dX5_hindrance_216 : decode cX5_hindrance 216 = .ok (.iconst 0, 1) := by decide +kernel
theorem dX5_hindrance_217 : decode cX5_hindrance 217 = .ok (.ireturn, 1) := by decide +kernel
theorem dX5_hindrance_218 : decode cX5_hindrance 218 = .ok (.aload_n 0, 1) := by decide +kernel
theorem dX5_hindrance_219 : decode cX5_hindrance 219 = .ok (.getfield 25, 3) := by decide +kernel
theorem dX5_hindrance_222 : decode cX5_hindrance 222 = .ok (.iload_n 2, 1) := by decide +kernel
theorem dX5_hindrance_223 : decode cX5_hindrance 223 = .ok (.iaload, 1) := by decide +kernel
theorem dX5_hindrance_224 : decode cX5_hindrance 224 = .ok (.aload_n 0, 1) := by decide +kernel
theorem dX5_hindrance_225 : decode cX5_hindrance 225 = .ok (.getfield 9, 3) := by decide +kernel
theorem dX5_hindrance_228 : decode cX5_hindrance 228 = .ok (.if_icmp .ne 7, 3) := by decide +kernel
theorem dX5_hindrance_231 : decode cX5_hindrance 231 = .ok (.iconst 5, 1) := by decide +kernel
theorem dX5_hindrance_232 : decode cX5_hindrance 232 = .ok (.goto 4, 3) := by decide +kernel
theorem dX5_hindrance_235 : decode cX5_hindrance 235 = .ok (.iconst 0, 1) := by decide +kernel
theorem dX5_hindrance_236 : decode cX5_hindrance 236 = .ok (.ireturn, 1) := by decide +kernel
theorem dX5_hindrance_237 : decode cX5_hindrance 237 = .ok (.aload_n 0, 1) := by decide +kernel
theorem dX5_hindrance_238 : decode cX5_hindrance 238 = .ok (.getfield 25, 3) := by decide +kernel
theorem dX5_hindrance_241 : decode cX5_hindrance 241 = .ok (.iload_n 2, 1) := by decide +kernel
theorem dX5_hindrance_242 : decode cX5_hindrance 242 = .ok (.iaload, 1) := by decide +kernel
theorem dX5_hindrance_243 : decode cX5_hindrance 243 = .ok (.ifCond .ne 7, 3) := by decide +kernel
theorem dX5_hindrance_246 : decode cX5_hindrance 246 = .ok (.iconst 5, 1) := by decide +kernel
theorem dX5_hindrance_247 : decode cX5_hindrance 247 = .ok (.goto 4, 3) := by decide +kernel
theorem dX5_hindrance_250 : decode cX5_hindrance 250 = .ok (.iconst 0, 1) := by decide +kernel
theorem dX5_hindrance_251 : decode cX5_hindrance 251 = .ok (.ireturn, 1) := by decide +kernel
theorem dX5_hindrance_252 : decode cX5_hindrance 252 = .ok (.aload_n 0, 1) := by decide +kernel
theorem dX5_hindrance_253 : decode cX5_hindrance 253 = .ok (.getfield 52, 3) := by decide +kernel
theorem dX5_hindrance_256 : decode cX5_hindrance 256 = .ok (.sipush 999, 3) := by decide +kernel
theorem dX5_hindrance_259 : decode cX5_hindrance 259 = .ok (.if_icmp .lt 8, 3) := by decide +kernel
theorem dX5_hindrance_262 : decode cX5_hindrance 262 = .ok (.bipush 6, 2) := by decide +kernel
theorem dX5_hindrance_264 : decode cX5_hindrance 264 = .ok (.goto 4, 3) := by decide +kernel
theorem dX5_hindrance_267 : decode cX5_hindrance 267 = .ok (.iconst 0, 1) := by decide +kernel
theorem dX5_hindrance_268 : decode cX5_hindrance 268 = .ok (.ireturn, 1) := by decide +kernel
theorem dX5_hindrance_269 : decode cX5_hindrance 269 = .ok (.iconst 0, 1) := by decide +kernel
theorem dX5_hindrance_270 : decode cX5_hindrance 270 = .ok (.ireturn, 1) := by decide +kernel
theorem dX5_firstOf_0 : decode cX5_firstOf 0 = .ok (.iload_n 0, 1) := by decide +kernel
theorem dX5_firstOf_1 : decode cX5_firstOf 1 = .ok (.ifCond .eq 5, 3) := by decide +kernel
theorem dX5_firstOf_4 : decode cX5_firstOf 4 = .ok (.iconst 1, 1) := by decide +kernel
theorem dX5_firstOf_5 : decode cX5_firstOf 5 = .ok (.ireturn, 1) := by decide +kernel
theorem dX5_firstOf_6 : decode cX5_firstOf 6 = .ok (.iload_n 1, 1) := by decide +kernel
theorem dX5_firstOf_7 : decode cX5_firstOf 7 = .ok (.ifCond .eq 7, 3) := by decide +kernel
theorem dX5_firstOf_10 : decode cX5_firstOf 10 = .ok (.iconst 2, 1) := by decide +kernel
theorem dX5_firstOf_11 : decode cX5_firstOf 11 = .ok (.goto 4, 3) := by decide +kernel
theorem dX5_firstOf_14 : decode cX5_firstOf 14 = .ok (.iconst 0, 1) := by decide +kernel
theorem dX5_firstOf_15 : decode cX5_firstOf 15 = .ok (.ireturn, 1) := by decide +kernel
theorem dX5_act_0 : decode cX5_act 0 = .ok (.iload_n 1, 1) := by decide +kernel
theorem dX5_act_1 : decode cX5_act 1 = .ok (.lookupswitch 295 #[(40, 169), (41, 189), (43, 91), (45, 121), (46, 266), (47, 152), (60, 232), (61, 209), (62, 249), (120, 222)], 91) := by decide +kernel
theorem dX5_act_92 : decode cX5_act 92 = .ok (.aload_n 0, 1) := by decide +kernel
theorem dX5_act_93 : decode cX5_act 93 = .ok (.getfield 19, 3) := by decide +kernel
theorem dX5_act_96 : decode cX5_act 96 = .ok (.iload_n 2, 1) := by decide +kernel
theorem dX5_act_97 : decode cX5_act 97 = .ok (.dup2, 1) := by decide +kernel
theorem dX5_act_98 : decode cX5_act 98 = .ok (.iaload, 1) := by decide +kernel
theorem dX5_act_99 : decode cX5_act 99 = .ok (.iload 4, 2) := by decide +kernel
theorem dX5_act_101 : decode cX5_act 101 = .ok (.isub, 1) := by decide +kernel
theorem dX5_act_102 : decode cX5_act 102 = .ok (.iastore, 1) := by decide +kernel
theorem dX5_act_103 : decode cX5_act 103 = .ok (.aload_n 0, 1) := by decide +kernel
theorem dX5_act_104 : decode cX5_act 104 = .ok (.getfield 22, 3) := by decide +kernel
theorem dX5_act_107 : decode cX5_act 107 = .ok (.iload_n 2, 1) := by decide +kernel
theorem dX5_act_108 : decode cX5_act 108 = .ok (.dup2, 1) := by decide +kernel
theorem dX5_act_109 : decode cX5_act 109 = .ok (.iaload, 1) := by decide +kernel
theorem dX5_act_110 : decode cX5_act 110 = .ok (.iload 4, 2) := by decide +kernel
theorem dX5_act_112 : decode cX5_act 112 = .ok (.aload_n 0, 1) := by decide +kernel
theorem dX5_act_113 : decode cX5_act 113 = .ok (.getfield 9, 3) := by decide +kernel
theorem dX5_act_116 : decode cX5_act 116 = .ok (.imul, 1) := by decide +kernel
theorem dX5_act_117 : decode cX5_act 117 = .ok (.iadd, 1) := by decide +kernel
theorem dX5_act_118 : decode cX5_act 118 = .ok (.iastore, 1) := by decide +kernel
theorem dX5_act_119 : decode cX5_act 119 = .ok (.goto 177, 3) := by decide +kernel
theorem dX5_act_122 : decode cX5_act 122 = .ok (.aload_n 0, 1) := by decide +kernel
theorem dX5_act_123 : decode cX5_act 123 = .ok (.getfield 19, 3) := by decide +kernel
theorem dX5_act_126 : decode cX5_act 126 = .ok (.iload_n 2, 1) := by decide +kernel
theorem dX5_act_127 : decode cX5_act 127 = .ok (.dup2, 1) := by decide +kernel
theorem dX5_act_128 : decode cX5_act 128 = .ok (.iaload, 1) := by decide +kernel
theorem dX5_act_129 : decode cX5_act 129 = .ok (.iload 4, 2) := by decide +kernel
theorem dX5_act_131 : decode cX5_act 131 = .ok (.iadd, 1) := by decide +kernel
theorem dX5_act_132 : decode cX5_act 132 = .ok (.iastore, 1) := by decide +kernel
theorem dX5_act_133 : decode cX5_act 133 = .ok (.aload_n 0, 1) := by decide +kernel
theorem dX5_act_134 : decode cX5_act 134 = .ok (.getfield 22, 3) := by decide +kernel
theorem dX5_act_137 : decode cX5_act 137 = .ok (.iload_n 2, 1) := by decide +kernel
theorem dX5_act_138 : decode cX5_act 138 = .ok (.dup2, 1) := by decide +kernel
theorem dX5_act_139 : decode cX5_act 139 = .ok (.iaload, 1) := by decide +kernel
theorem dX5_act_140 : decode cX5_act 140 = .ok (.iload 4, 2) := by decide +kernel
theorem dX5_act_142 : decode cX5_act 142 = .ok (.aload_n 0, 1) := by decide +kernel
theorem dX5_act_143 : decode cX5_act 143 = .ok (.iload_n 2, 1) := by decide +kernel
theorem dX5_act_144 : decode cX5_act 144 = .ok (.invokevirtual 68, 3) := by decide +kernel
theorem dX5_act_147 : decode cX5_act 147 = .ok (.imul, 1) := by decide +kernel
theorem dX5_act_148 : decode cX5_act 148 = .ok (.isub, 1) := by decide +kernel
theorem dX5_act_149 : decode cX5_act 149 = .ok (.iastore, 1) := by decide +kernel
theorem dX5_act_150 : decode cX5_act 150 = .ok (.goto 146, 3) := by decide +kernel
theorem dX5_act_153 : decode cX5_act 153 = .ok (.aload_n 0, 1) := by decide +kernel
theorem dX5_act_154 : decode cX5_act 154 = .ok (.getfield 28, 3) := by decide +kernel
theorem dX5_act_157 : decode cX5_act 157 = .ok (.iload_n 3, 1) := by decide +kernel
theorem dX5_act_158 : decode cX5_act 158 = .ok (.iload 4, 2) := by decide +kernel
theorem dX5_act_160 : decode cX5_act 160 = .ok (.aload_n 0, 1) := by decide +kernel
theorem dX5_act_161 : decode cX5_act 161 = .ok (.iload_n 2, 1) := by decide +kernel
theorem dX5_act_162 : decode cX5_act 162 = .ok (.invokevirtual 68, 3) := by decide +kernel
theorem dX5_act_165 : decode cX5_act 165 = .ok (.imul, 1) := by decide +kernel
theorem dX5_act_166 : decode cX5_act 166 = .ok (.iastore, 1) := by decide +kernel
theorem dX5_act_167 : decode cX5_act 167 = .ok (.goto 129, 3) := by decide +kernel
theorem dX5_act_170 : decode cX5_act 170 = .ok (.aload_n 0, 1) := by decide +kernel
theorem dX5_act_171 : decode cX5_act 171 = .ok (.getfield 34, 3) := by decide +kernel
theorem dX5_act_174 : decode cX5_act 174 = .ok (.iload_n 3, 1) := by decide +kernel
theorem dX5_act_175 : decode cX5_act 175 = .ok (.dup2, 1) := by decide +kernel
theorem dX5_act_176 : decode cX5_act 176 = .ok (.iaload, 1) := by decide +kernel
theorem dX5_act_177 : decode cX5_act 177 = .ok (.iload 4, 2) := by decide +kernel
theorem dX5_act_179 : decode cX5_act 179 = .ok (.aload_n 0, 1) := by decide +kernel
theorem dX5_act_180 : decode cX5_act 180 = .ok (.iload_n 2, 1) := by decide +kernel
theorem dX5_act_181 : decode cX5_act 181 = .ok (.invokevirtual 68, 3) := by decide +kernel
theorem dX5_act_184 : decode cX5_act 184 = .ok (.imul, 1) := by decide +kernel
theorem dX5_act_185 : decode cX5_act 185 = .ok (.iadd, 1) := by decide +kernel
theorem dX5_act_186 : decode cX5_act 186 = .ok (.iastore, 1) := by decide +kernel
theorem dX5_act_187 : decode cX5_act 187 = .ok (.goto 109, 3) := by decide +kernel
theorem dX5_act_190 : decode cX5_act 190 = .ok (.aload_n 0, 1) := by decide +kernel
theorem dX5_act_191 : decode cX5_act 191 = .ok (.getfield 37, 3) := by decide +kernel
theorem dX5_act_194 : decode cX5_act 194 = .ok (.iload_n 3, 1) := by decide +kernel
theorem dX5_act_195 : decode cX5_act 195 = .ok (.dup2, 1) := by decide +kernel
theorem dX5_act_196 : decode cX5_act 196 = .ok (.iaload, 1) := by decide +kernel
theorem dX5_act_197 : decode cX5_act 197 = .ok (.iload 4, 2) := by decide +kernel
theorem dX5_act_199 : decode cX5_act 199 = .ok (.aload_n 0, 1) := by decide +kernel
theorem dX5_act_200 : decode cX5_act 200 = .ok (.iload_n 2, 1) := by decide +kernel
theorem dX5_act_201 : decode cX5_act 201 = .ok (.invokevirtual 68, 3) := by decide +kernel
theorem dX5_act_204 : decode cX5_act 204 = .ok (.imul, 1) := by decide +kernel
theorem dX5_act_205 : decode cX5_act 205 = .ok (.iadd, 1) := by decide +kernel
theorem dX5_act_206 : decode cX5_act 206 = .ok (.iastore, 1) := by decide +kernel
theorem dX5_act_207 : decode cX5_act 207 = .ok (.goto 89, 3) := by decide +kernel
theorem dX5_act_210 : decode cX5_act 210 = .ok (.aload_n 0, 1) := by decide +kernel
theorem dX5_act_211 : decode cX5_act 211 = .ok (.getfield 25, 3) := by decide +kernel
theorem dX5_act_214 : decode cX5_act 214 = .ok (.iload_n 2, 1) := by decide +kernel
theorem dX5_act_215 : decode cX5_act 215 = .ok (.aload_n 0, 1) := by decide +kernel
theorem dX5_act_216 : decode cX5_act 216 = .ok (.getfield 9, 3) := by decide +kernel
theorem dX5_act_219 : decode cX5_act 219 = .ok (.iastore, 1) := by decide +kernel
theorem dX5_act_220 : decode cX5_act 220 = .ok (.goto 76, 3) := by decide +kernel
theorem dX5_act_223 : decode cX5_act 223 = .ok (.aload_n 0, 1) := by decide +kernel
theorem dX5_act_224 : decode cX5_act 224 = .ok (.getfield 25, 3) := by decide +kernel
theorem dX5_act_227 : decode cX5_act 227 = .ok (.iload_n 2, 1) := by decide +kernel
theorem dX5_act_228 : decode cX5_act 228 = .ok (.iconst 0, 1) := by decide +kernel
theorem dX5_act_229 : decode cX5_act 229 = .ok (.iastore, 1) := by decide +kernel
theorem dX5_act_230 : decode cX5_act 230 = .ok (.goto 66, 3) := by decide +kernel
theorem dX5_act_233 : decode cX5_act 233 = .ok (.aload_n 0, 1) := by decide +kernel
theorem dX5_act_234 : decode cX5_act 234 = .ok (.aload_n 0, 1) := by decide +kernel
theorem dX5_act_235 : decode cX5_act 235 = .ok (.getfield 9, 3) := by decide +kernel
theorem dX5_act_238 : decode cX5_act 238 = .ok (.iload 4, 2) := by decide +kernel
theorem dX5_act_240 : decode cX5_act 240 = .ok (.isub, 1) := by decide +kernel
theorem dX5_act_241 : decode cX5_act 241 = .ok (.invokestatic 78, 3) := by decide +kernel
theorem dX5_act_244 : decode cX5_act 244 = .ok (.putfield 9, 3) := by decide +kernel
theorem dX5_act_247 : decode cX5_act 247 = .ok (.goto 49, 3) := by decide +kernel
theorem dX5_act_250 : decode cX5_act 250 = .ok (.aload_n 0, 1) := by decide +kernel
theorem dX5_act_251 : decode cX5_act 251 = .ok (.aload_n 0, 1) := by decide +kernel
theorem dX5_act_252 : decode cX5_act 252 = .ok (.getfield 9, 3) := by decide +kernel
theorem dX5_act_255 : decode cX5_act 255 = .ok (.iload 4, 2) := by decide +kernel
theorem dX5_act_257 : decode cX5_act 257 = .ok (.iadd, 1) := by decide +kernel
theorem dX5_act_258 : decode cX5_act 258 = .ok (.invokestatic 78, 3) := by decide +kernel
theorem dX5_act_261 : decode cX5_act 261 = .ok (.putfield 9, 3) := by decide +kernel
theorem dX5_act_264 : decode cX5_act 264 = .ok (.goto 32, 3) := by decide +kernel
theorem dX5_act_267 : decode cX5_act 267 = .ok (.aload_n 0, 1) := by decide +kernel
theorem dX5_act_268 : decode cX5_act 268 = .ok (.aload_n 0, 1) := by decide +kernel
theorem dX5_act_269 : decode cX5_act 269 = .ok (.aload_n 0, 1) := by decide +kernel
theorem dX5_act_270 : decode cX5_act 270 = .ok (.getfield 9, 3) := by decide +kernel
theorem dX5_act_273 : decode cX5_act 273 = .ok (.aload_n 0, 1) := by decide +kernel
theorem dX5_act_274 : decode cX5_act 274 = .ok (.getfield 52, 3) := by decide +kernel
theorem dX5_act_277 : decode cX5_act 277 = .ok (.invokevirtual 86, 3) := by decide +kernel
theorem dX5_act_280 : decode cX5_act 280 = .ok (.putfield 9, 3) := by decide +kernel
theorem dX5_act_283 : decode cX5_act 283 = .ok (.aload_n 0, 1) := by decide +kernel
theorem dX5_act_284 : decode cX5_act 284 = .ok (.dup, 1) := by decide +kernel
theorem dX5_act_285 : decode cX5_act 285 = .ok (.getfield 52, 3) := by decide +kernel
theorem dX5_act_288 : decode cX5_act 288 = .ok (.iconst 1, 1) := by decide +kernel
theorem dX5_act_289 : decode cX5_act 289 = .ok (.iadd, 1) := by decide +kernel
theorem dX5_act_290 : decode cX5_act 290 = .ok (.putfield 52, 3) := by decide +kernel
theorem dX5_act_293 : decode cX5_act 293 = .ok (.goto 3, 3) := by decide +kernel
theorem dX5_act_296 : decode cX5_act 296 = .ok (.return_, 1) := by decide +kernel
theorem dX6_init_0 : decode cX6_init 0 = .ok (.aload_n 0, 1) := by decide +kernel
theorem dX6_init_1 : decode cX6_init 1 = .ok (.invokespecial 3, 3) := by decide +kernel
theorem dX6_init_4 : decode cX6_init 4 = .ok (.aload_n 0, 1) := by decide +kernel
theorem dX6_init_5 : decode cX6_init 5 = .ok (.bipush 6, 2) := by decide +kernel
theorem dX6_init_7 : decode cX6_init 7 = .ok (.newarray .int, 2) := by decide +kernel
theorem dX6_init_9 : decode cX6_init 9 = .ok (.putfield 9, 3) := by decide +kernel
theorem dX6_init_12 : decode cX6_init 12 = .ok (.aload_n 0, 1) := by decide +kernel
theorem dX6_init_13 : decode cX6_init 13 = .ok (.bipush 6, 2) := by decide +kernel
theorem dX6_init_15 : decode cX6_init 15 = .ok (.newarray .int, 2) := by decide +kernel
theorem dX6_init_17 : decode cX6_init 17 = .ok (.putfield 15, 3) := by decide +kernel
theorem dX6_init_20 : decode cX6_init 20 = .ok (.return_, 1) := by decide +kernel
theorem dX6_stand_0 : decode cX6_stand 0 = .ok (.iconst 0, 1) := by decide +kernel
theorem dX6_stand_1 : decode cX6_stand 1 = .ok (.istore_n 2, 1) := by decide +kernel
theorem dX6_stand_2 : decode cX6_stand 2 = .ok (.iload_n 2, 1) := by decide +kernel
theorem dX6_stand_3 : decode cX6_stand 3 = .ok (.bipush 6, 2) := by decide +kernel
theorem dX6_stand_5 : decode cX6_stand 5 = .ok (.if_icmp .ge 20, 3) := by decide +kernel
theorem dX6_stand_8 : decode cX6_stand 8 = .ok (.aload_n 0, 1) := by decide +kernel
theorem dX6_stand_9 : decode cX6_stand 9 = .ok (.getfield 9, 3) := by decide +kernel
theorem dX6_stand_12 : decode cX6_stand 12 = .ok (.iload_n 2, 1) := by decide +kernel
theorem dX6_stand_13 : decode cX6_stand 13 = .ok (.aload_n 1, 1) := by decide +kernel
theorem dX6_stand_14 : decode cX6_stand 14 = .ok (.iload_n 2, 1) := by decide +kernel
theorem dX6_stand_15 : decode cX6_stand 15 = .ok (.invokevirtual 18, 3) := by decide +kernel
theorem dX6_stand_18 : decode cX6_stand 18 = .ok (.iastore, 1) := by decide +kernel
theorem dX6_stand_19 : decode cX6_stand 19 = .ok (.iinc 2 1, 3) := by decide +kernel
theorem dX6_stand_22 : decode cX6_stand 22 = .ok (.goto (-20), 3) := by decide +kernel
theorem dX6_stand_25 : decode cX6_stand 25 = .ok (.return_, 1) := by decide +kernel
theorem dX6_takeMeans_0 : decode cX6_takeMeans 0 = .ok (.iconst 0, 1) := by decide +kernel
theorem dX6_takeMeans_1 : decode cX6_takeMeans 1 = .ok (.istore_n 1, 1) := by decide +kernel
theorem dX6_takeMeans_2 : decode cX6_takeMeans 2 = .ok (.iconst 0, 1) := by decide +kernel
theorem dX6_takeMeans_3 : decode cX6_takeMeans 3 = .ok (.istore_n 2, 1) := by decide +kernel
theorem dX6_takeMeans_4 : decode cX6_takeMeans 4 = .ok (.iload_n 2, 1) := by decide +kernel
theorem dX6_takeMeans_5 : decode cX6_takeMeans 5 = .ok (.bipush 6, 2) := by decide +kernel
theorem dX6_takeMeans_7 : decode cX6_takeMeans 7 = .ok (.if_icmp .ge 75, 3) := by decide +kernel
theorem dX6_takeMeans_10 : decode cX6_takeMeans 10 = .ok (.aload_n 0, 1) := by decide +kernel
theorem dX6_takeMeans_11 : decode cX6_takeMeans 11 = .ok (.getfield 15, 3) := by decide +kernel
theorem dX6_takeMeans_14 : decode cX6_takeMeans 14 = .ok (.iload_n 2, 1) := by decide +kernel
theorem dX6_takeMeans_15 : decode cX6_takeMeans 15 = .ok (.aload_n 0, 1) := by decide +kernel
theorem dX6_takeMeans_16 : decode cX6_takeMeans 16 = .ok (.getfield 9, 3) := by decide +kernel
theorem dX6_takeMeans_19 : decode cX6_takeMeans 19 = .ok (.iload_n 2, 1) := by decide +kernel
theorem dX6_takeMeans_20 : decode cX6_takeMeans 20 = .ok (.bipush 6, 2) := by decide +kernel
theorem dX6_takeMeans_22 : decode cX6_takeMeans 22 = .ok (.iadd, 1) := by decide +kernel
theorem dX6_takeMeans_23 : decode cX6_takeMeans 23 = .ok (.iconst 1, 1) := by decide +kernel
theorem dX6_takeMeans_24 : decode cX6_takeMeans 24 = .ok (.isub, 1) := by decide +kernel
theorem dX6_takeMeans_25 : decode cX6_takeMeans 25 = .ok (.bipush 6, 2) := by decide +kernel
theorem dX6_takeMeans_27 : decode cX6_takeMeans 27 = .ok (.irem, 1) := by decide +kernel
theorem dX6_takeMeans_28 : decode cX6_takeMeans 28 = .ok (.iaload, 1) := by decide +kernel
theorem dX6_takeMeans_29 : decode cX6_takeMeans 29 = .ok (.aload_n 0, 1) := by decide +kernel
theorem dX6_takeMeans_30 : decode cX6_takeMeans 30 = .ok (.getfield 9, 3) := by decide +kernel
theorem dX6_takeMeans_33 : decode cX6_takeMeans 33 = .ok (.iload_n 2, 1) := by decide +kernel
theorem dX6_takeMeans_34 : decode cX6_takeMeans 34 = .ok (.iaload, 1) := by decide +kernel
theorem dX6_takeMeans_35 : decode cX6_takeMeans 35 = .ok (.iadd, 1) := by decide +kernel
theorem dX6_takeMeans_36 : decode cX6_takeMeans 36 = .ok (.aload_n 0, 1) := by decide +kernel
theorem dX6_takeMeans_37 : decode cX6_takeMeans 37 = .ok (.getfield 9, 3) := by decide +kernel
theorem dX6_takeMeans_40 : decode cX6_takeMeans 40 = .ok (.iload_n 2, 1) := by decide +kernel
theorem dX6_takeMeans_41 : decode cX6_takeMeans 41 = .ok (.iconst 1, 1) := by decide +kernel
theorem dX6_takeMeans_42 : decode cX6_takeMeans 42 = .ok (.iadd, 1) := by decide +kernel
theorem dX6_takeMeans_43 : decode cX6_takeMeans 43 = .ok (.bipush 6, 2) := by decide +kernel
theorem dX6_takeMeans_45 : decode cX6_takeMeans 45 = .ok (.irem, 1) := by decide +kernel
theorem dX6_takeMeans_46 : decode cX6_takeMeans 46 = .ok (.iaload, 1) := by decide +kernel
theorem dX6_takeMeans_47 : decode cX6_takeMeans 47 = .ok (.iadd, 1) := by decide +kernel
theorem dX6_takeMeans_48 : decode cX6_takeMeans 48 = .ok (.iconst 3, 1) := by decide +kernel
theorem dX6_takeMeans_49 : decode cX6_takeMeans 49 = .ok (.idiv, 1) := by decide +kernel
theorem dX6_takeMeans_50 : decode cX6_takeMeans 50 = .ok (.iastore, 1) := by decide +kernel
theorem dX6_takeMeans_51 : decode cX6_takeMeans 51 = .ok (.iload_n 1, 1) := by decide +kernel
theorem dX6_takeMeans_52 : decode cX6_takeMeans 52 = .ok (.ifCond .ne 18, 3) := by decide +kernel
theorem dX6_takeMeans_55 : decode cX6_takeMeans 55 = .ok (.aload_n 0, 1) := by decide +kernel
theorem dX6_takeMeans_56 : decode cX6_takeMeans 56 = .ok (.getfield 15, 3) := by decide +kernel
theorem dX6_takeMeans_59 : decode cX6_takeMeans 59 = .ok (.iload_n 2, 1) := by decide +kernel
theorem dX6_takeMeans_60 : decode cX6_takeMeans 60 = .ok (.iaload, 1) := by decide +kernel
theorem dX6_takeMeans_61 : decode cX6_takeMeans 61 = .ok (.aload_n 0, 1) := by decide +kernel
theorem dX6_takeMeans_62 : decode cX6_takeMeans 62 = .ok (.getfield 9, 3) := by decide +kernel
theorem dX6_takeMeans_65 : decode cX6_takeMeans 65 = .ok (.iload_n 2, 1) := by decide +kernel
theorem dX6_takeMeans_66 : decode cX6_takeMeans 66 = .ok (.iaload, 1) := by decide +kernel
theorem dX6_takeMeans_67 : decode cX6_takeMeans 67 = .ok (.if_icmp .eq 7, 3) := by decide +kernel
theorem dX6_takeMeans_70 : decode cX6_takeMeans 70 = .ok (.iconst 1, 1) := by decide +kernel
theorem dX6_takeMeans_71 : decode cX6_takeMeans 71 = .ok (.goto 4, 3) := by decide +kernel
theorem dX6_takeMeans_74 : decode cX6_takeMeans 74 = .ok (.iconst 0, 1) := by decide +kernel
theorem dX6_takeMeans_75 : decode cX6_takeMeans 75 = .ok (.istore_n 1, 1) := by decide +kernel
theorem dX6_takeMeans_76 : decode cX6_takeMeans 76 = .ok (.iinc 2 1, 3) := by decide +kernel
theorem dX6_takeMeans_79 : decode cX6_takeMeans 79 = .ok (.goto (-75), 3) := by decide +kernel
theorem dX6_takeMeans_82 : decode cX6_takeMeans 82 = .ok (.aload_n 0, 1) := by decide +kernel
theorem dX6_takeMeans_83 : decode cX6_takeMeans 83 = .ok (.getfield 15, 3) := by decide +kernel
theorem dX6_takeMeans_86 : decode cX6_takeMeans 86 = .ok (.iconst 0, 1) := by decide +kernel
theorem dX6_takeMeans_87 : decode cX6_takeMeans 87 = .ok (.aload_n 0, 1) := by decide +kernel
theorem dX6_takeMeans_88 : decode cX6_takeMeans 88 = .ok (.getfield 9, 3) := by decide +kernel
theorem dX6_takeMeans_91 : decode cX6_takeMeans 91 = .ok (.iconst 0, 1) := by decide +kernel
theorem dX6_takeMeans_92 : decode cX6_takeMeans 92 = .ok (.bipush 6, 2) := by decide +kernel
theorem dX6_takeMeans_94 : decode cX6_takeMeans 94 = .ok (.invokestatic 24, 3) := by decide +kernel
theorem dX6_takeMeans_97 : decode cX6_takeMeans 97 = .ok (.iload_n 1, 1) := by decide +kernel
theorem dX6_takeMeans_98 : decode cX6_takeMeans 98 = .ok (.ireturn, 1) := by decide +kernel
theorem dX6_timesTillStill_0 : decode cX6_timesTillStill 0 = .ok (.iconst 0, 1) := by decide +kernel
theorem dX6_timesTillStill_1 : decode cX6_timesTillStill 1 = .ok (.istore_n 1, 1) := by decide +kernel
theorem dX6_timesTillStill_2 : decode cX6_timesTillStill 2 = .ok (.iload_n 1, 1) := by decide +kernel
theorem dX6_timesTillStill_3 : decode cX6_timesTillStill 3 = .ok (.ldc 30, 2) := by decide +kernel
theorem dX6_timesTillStill_5 : decode cX6_timesTillStill 5 = .ok (.if_icmp .ge 16, 3) := by decide +kernel
theorem dX6_timesTillStill_8 : decode cX6_timesTillStill 8 = .ok (.aload_n 0, 1) := by decide +kernel
theorem dX6_timesTillStill_9 : decode cX6_timesTillStill 9 = .ok (.invokevirtual 31, 3) := by decide +kernel
theorem dX6_timesTillStill_12 : decode cX6_timesTillStill 12 = .ok (.ifCond .eq 9, 3) := by decide +kernel
theorem dX6_timesTillStill_15 : decode cX6_timesTillStill 15 = .ok (.iinc 1 1, 3) := by decide +kernel
theorem dX6_timesTillStill_18 : decode cX6_timesTillStill 18 = .ok (.goto (-16), 3) := by decide +kernel
theorem dX6_timesTillStill_21 : decode cX6_timesTillStill 21 = .ok (.iload_n 1, 1) := by decide +kernel
theorem dX6_timesTillStill_22 : decode cX6_timesTillStill 22 = .ok (.ireturn, 1) := by decide +kernel
theorem dX7_init_0 : decode cX7_init 0 = .ok (.aload_n 0, 1) := by decide +kernel
theorem dX7_init_1 : decode cX7_init 1 = .ok (.invokespecial 3, 3) := by decide +kernel
theorem dX7_init_4 : decode cX7_init 4 = .ok (.aload_n 0, 1) := by decide +kernel
theorem dX7_init_5 : decode cX7_init 5 = .ok (.sipush 201, 3) := by decide +kernel
theorem dX7_init_8 : decode cX7_init 8 = .ok (.newarray .int, 2) := by decide +kernel
theorem dX7_init_10 : decode cX7_init 10 = .ok (.putfield 9, 3) := by decide +kernel
theorem dX7_init_13 : decode cX7_init 13 = .ok (.return_, 1) := by decide +kernel
theorem dX7_firstMove_0 : decode cX7_firstMove 0 = .ok (.iconst 0, 1) := by decide +kernel
theorem dX7_firstMove_1 : decode cX7_firstMove 1 = .ok (.istore_n 3, 1) := by decide +kernel
theorem dX7_firstMove_2 : decode cX7_firstMove 2 = .ok (.iload_n 3, 1) := by decide +kernel
theorem dX7_firstMove_3 : decode cX7_firstMove 3 = .ok (.iload_n 1, 1) := by decide +kernel
theorem dX7_firstMove_4 : decode cX7_firstMove 4 = .ok (.if_icmp .gt 21, 3) := by decide +kernel
theorem dX7_firstMove_7 : decode cX7_firstMove 7 = .ok (.aload_n 0, 1) := by decide +kernel
theorem dX7_firstMove_8 : decode cX7_firstMove 8 = .ok (.getfield 9, 3) := by decide +kernel
theorem dX7_firstMove_11 : decode cX7_firstMove 11 = .ok (.iload_n 3, 1) := by decide +kernel
theorem dX7_firstMove_12 : decode cX7_firstMove 12 = .ok (.aload_n 0, 1) := by decide +kernel
theorem dX7_firstMove_13 : decode cX7_firstMove 13 = .ok (.iload_n 3, 1) := by decide +kernel
theorem dX7_firstMove_14 : decode cX7_firstMove 14 = .ok (.iload_n 2, 1) := by decide +kernel
theorem dX7_firstMove_15 : decode cX7_firstMove 15 = .ok (.invokevirtual 15, 3) := by decide +kernel
theorem dX7_firstMove_18 : decode cX7_firstMove 18 = .ok (.iastore, 1) := by decide +kernel
theorem dX7_firstMove_19 : decode cX7_firstMove 19 = .ok (.iinc 3 1, 3) := by decide +kernel
theorem dX7_firstMove_22 : decode cX7_firstMove 22 = .ok (.goto (-20), 3) := by decide +kernel
theorem dX7_firstMove_25 : decode cX7_firstMove 25 = .ok (.aload_n 0, 1) := by decide +kernel
theorem dX7_firstMove_26 : decode cX7_firstMove 26 = .ok (.getfield 9, 3) := by decide +kernel
theorem dX7_firstMove_29 : decode cX7_firstMove 29 = .ok (.iload_n 1, 1) := by decide +kernel
theorem dX7_firstMove_30 : decode cX7_firstMove 30 = .ok (.iaload, 1) := by decide +kernel
theorem dX7_firstMove_31 : decode cX7_firstMove 31 = .ok (.ireturn, 1) := by decide +kernel
theorem dX7_winningMove_0 : decode cX7_winningMove 0 = .ok (.iload_n 1, 1) := by decide +kernel
theorem dX7_winningMove_1 : decode cX7_winningMove 1 = .ok (.ifCond .ne 6, 3) := by decide +kernel
theorem dX7_winningMove_4 : decode cX7_winningMove 4 = .ok (.bipush (-6), 2) := by decide +kernel
theorem dX7_winningMove_6 : decode cX7_winningMove 6 = .ok (.ireturn, 1) := by decide +kernel
theorem dX7_winningMove_7 : decode cX7_winningMove 7 = .ok (.aload_n 0, 1) := by decide +kernel
theorem dX7_winningMove_8 : decode cX7_winningMove 8 = .ok (.getfield 9, 3) := by decide +kernel
theorem dX7_winningMove_11 : decode cX7_winningMove 11 = .ok (.iload_n 1, 1) := by decide +kernel
theorem dX7_winningMove_12 : decode cX7_winningMove 12 = .ok (.iconst 2, 1) := by decide +kernel
theorem dX7_winningMove_13 : decode cX7_winningMove 13 = .ok (.idiv, 1) := by decide +kernel
theorem dX7_winningMove_14 : decode cX7_winningMove 14 = .ok (.iaload, 1) := by decide +kernel
theorem dX7_winningMove_15 : decode cX7_winningMove 15 = .ok (.bipush (-6), 2) := by decide +kernel
theorem dX7_winningMove_17 : decode cX7_winningMove 17 = .ok (.if_icmp .ne 5, 3) := by decide +kernel
theorem dX7_winningMove_20 : decode cX7_winningMove 20 = .ok (.iconst 0, 1) := by decide +kernel
theorem dX7_winningMove_21 : decode cX7_winningMove 21 = .ok (.ireturn, 1) := by decide +kernel
theorem dX7_winningMove_22 : decode cX7_winningMove 22 = .ok (.iconst 1, 1) := by decide +kernel
theorem dX7_winningMove_23 : decode cX7_winningMove 23 = .ok (.istore_n 3, 1) := by decide +kernel
theorem dX7_winningMove_24 : decode cX7_winningMove 24 = .ok (.iload_n 3, 1) := by decide +kernel
theorem dX7_winningMove_25 : decode cX7_winningMove 25 = .ok (.iload_n 2, 1) := by decide +kernel
theorem dX7_winningMove_26 : decode cX7_winningMove 26 = .ok (.if_icmp .gt 29, 3) := by decide +kernel
theorem dX7_winningMove_29 : decode cX7_winningMove 29 = .ok (.iload_n 3, 1) := by decide +kernel
theorem dX7_winningMove_30 : decode cX7_winningMove 30 = .ok (.iload_n 1, 1) := by decide +kernel
theorem dX7_winningMove_31 : decode cX7_winningMove 31 = .ok (.if_icmp .gt 24, 3) := by decide +kernel
theorem dX7_winningMove_34 : decode cX7_winningMove 34 = .ok (.aload_n 0, 1) := by decide +kernel
theorem dX7_winningMove_35 : decode cX7_winningMove 35 = .ok (.getfield 9, 3) := by decide +kernel
theorem dX7_winningMove_38 : decode cX7_winningMove 38 = .ok (.iload_n 1, 1) := by decide +kernel
theorem dX7_winningMove_39 : decode cX7_winningMove 39 = .ok (.iload_n 3, 1) := by decide +kernel
theorem dX7_winningMove_40 : decode cX7_winningMove 40 = .ok (.isub, 1) := by decide +kernel
theorem dX7_winningMove_41 : decode cX7_winningMove 41 = .ok (.iaload, 1) := by decide +kernel
theorem dX7_winningMove_42 : decode cX7_winningMove 42 = .ok (.bipush (-6), 2) := by decide +kernel
theorem dX7_winningMove_44 : decode cX7_winningMove 44 = .ok (.if_icmp .ne 5, 3) := by decide +kernel
theorem dX7_winningMove_47 : decode cX7_winningMove 47 = .ok (.iload_n 3, 1) := by decide +kernel
theorem dX7_winningMove_48 : decode cX7_winningMove 48 = .ok (.ireturn, 1) := by decide +kernel
theorem dX7_winningMove_49 : decode cX7_winningMove 49 = .ok (.iinc 3 1, 3) := by decide +kernel
theorem dX7_winningMove_52 : decode cX7_winningMove 52 = .ok (.goto (-28), 3) := by decide +kernel
theorem dX7_winningMove_55 : decode cX7_winningMove 55 = .ok (.bipush (-6), 2) := by decide +kernel
theorem dX7_winningMove_57 : decode cX7_winningMove 57 = .ok (.ireturn, 1) := by decide +kernel
theorem dX8_init_0 : decode cX8_init 0 = .ok (.aload_n 0, 1) := by decide +kernel
theorem dX8_init_1 : decode cX8_init 1 = .ok (.invokespecial 3, 3) := by decide +kernel
theorem dX8_init_4 : decode cX8_init 4 = .ok (.aload_n 0, 1) := by decide +kernel
theorem dX8_init_5 : decode cX8_init 5 = .ok (.new 9, 3) := by decide +kernel
theorem dX8_init_8 : decode cX8_init 8 = .ok (.dup, 1) := by decide +kernel
theorem dX8_init_9 : decode cX8_init 9 = .ok (.invokespecial 11, 3) := by decide +kernel
theorem dX8_init_12 : decode cX8_init 12 = .ok (.putfield 12, 3) := by decide +kernel
theorem dX8_init_15 : decode cX8_init 15 = .ok (.return_, 1) := by decide +kernel
theorem dX8_tryOut_0 : decode cX8_tryOut 0 = .ok (.aload_n 0, 1) := by decide +kernel
theorem dX8_tryOut_1 : decode cX8_tryOut 1 = .ok (.bipush (-6), 2) := by decide +kernel
theorem dX8_tryOut_3 : decode cX8_tryOut 3 = .ok (.putfield 18, 3) := by decide +kernel
theorem dX8_tryOut_6 : decode cX8_tryOut 6 = .ok (.aload_n 0, 1) := by decide +kernel
theorem dX8_tryOut_7 : decode cX8_tryOut 7 = .ok (.bipush (-6), 2) := by decide +kernel
theorem dX8_tryOut_9 : decode cX8_tryOut 9 = .ok (.putfield 22, 3) := by decide +kernel
theorem dX8_tryOut_12 : decode cX8_tryOut 12 = .ok (.aload_n 0, 1) := by decide +kernel
theorem dX8_tryOut_13 : decode cX8_tryOut 13 = .ok (.bipush (-6), 2) := by decide +kernel
theorem dX8_tryOut_15 : decode cX8_tryOut 15 = .ok (.putfield 25, 3) := by decide +kernel
theorem dX8_tryOut_18 : decode cX8_tryOut 18 = .ok (.aload_n 0, 1) := by decide +kernel
theorem dX8_tryOut_19 : decode cX8_tryOut 19 = .ok (.bipush (-6), 2) := by decide +kernel
theorem dX8_tryOut_21 : decode cX8_tryOut 21 = .ok (.putfield 28, 3) := by decide +kernel
theorem dX8_tryOut_24 : decode cX8_tryOut 24 = .ok (.aload_n 2, 1) := by decide +kernel
theorem dX8_tryOut_25 : decode cX8_tryOut 25 = .ok (.invokevirtual 31, 3) := by decide +kernel
theorem dX8_tryOut_28 : decode cX8_tryOut 28 = .ok (.bipush (-6), 2) := by decide +kernel
theorem dX8_tryOut_30 : decode cX8_tryOut 30 = .ok (.if_icmp .eq 5, 3) := by decide +kernel
theorem dX8_tryOut_33 : decode cX8_tryOut 33 = .ok (.iconst 0, 1) := by decide +kernel
theorem dX8_tryOut_34 : decode cX8_tryOut 34 = .ok (.ireturn, 1) := by decide +kernel
theorem dX8_tryOut_35 : decode cX8_tryOut 35 = .ok (.aload_n 0, 1) := by decide +kernel
theorem dX8_tryOut_36 : decode cX8_tryOut 36 = .ok (.getfield 12, 3) := by decide +kernel
theorem dX8_tryOut_39 : decode cX8_tryOut 39 = .ok (.aload_n 1, 1) := by decide +kernel
theorem dX8_tryOut_40 : decode cX8_tryOut 40 = .ok (.invokevirtual 37, 3) := by decide +kernel
theorem dX8_tryOut_43 : decode cX8_tryOut 43 = .ok (.aload_n 0, 1) := by decide +kernel
theorem dX8_tryOut_44 : decode cX8_tryOut 44 = .ok (.aload_n 2, 1) := by decide +kernel
theorem dX8_tryOut_45 : decode cX8_tryOut 45 = .ok (.getfield 41, 3) := by decide +kernel
theorem dX8_tryOut_48 : decode cX8_tryOut 48 = .ok (.putfield 44, 3) := by decide +kernel
theorem dX8_tryOut_51 : decode cX8_tryOut 51 = .ok (.iconst 0, 1) := by decide +kernel
theorem dX8_tryOut_52 : decode cX8_tryOut 52 = .ok (.istore_n 3, 1) := by decide +kernel
theorem dX8_tryOut_53 : decode cX8_tryOut 53 = .ok (.iload_n 3, 1) := by decide +kernel
theorem dX8_tryOut_54 : decode cX8_tryOut 54 = .ok (.aload_n 0, 1) := by decide +kernel
theorem dX8_tryOut_55 : decode cX8_tryOut 55 = .ok (.getfield 44, 3) := by decide +kernel
theorem dX8_tryOut_58 : decode cX8_tryOut 58 = .ok (.if_icmp .ge 24, 3) := by decide +kernel
theorem dX8_tryOut_61 : decode cX8_tryOut 61 = .ok (.aload_n 0, 1) := by decide +kernel
theorem dX8_tryOut_62 : decode cX8_tryOut 62 = .ok (.getfield 18, 3) := by decide +kernel
theorem dX8_tryOut_65 : decode cX8_tryOut 65 = .ok (.bipush (-6), 2) := by decide +kernel
theorem dX8_tryOut_67 : decode cX8_tryOut 67 = .ok (.if_icmp .ne 15, 3) := by decide +kernel
theorem dX8_tryOut_70 : decode cX8_tryOut 70 = .ok (.aload_n 0, 1) := by decide +kernel
theorem dX8_tryOut_71 : decode cX8_tryOut 71 = .ok (.aload_n 2, 1) := by decide +kernel
theorem dX8_tryOut_72 : decode cX8_tryOut 72 = .ok (.iload_n 3, 1) := by decide +kernel
theorem dX8_tryOut_73 : decode cX8_tryOut 73 = .ok (.invokevirtual 45, 3) := by decide +kernel
theorem dX8_tryOut_76 : decode cX8_tryOut 76 = .ok (.iinc 3 1, 3) := by decide +kernel
theorem dX8_tryOut_79 : decode cX8_tryOut 79 = .ok (.goto (-26), 3) := by decide +kernel
theorem dX8_tryOut_82 : decode cX8_tryOut 82 = .ok (.iconst 1, 1) := by decide +kernel
theorem dX8_tryOut_83 : decode cX8_tryOut 83 = .ok (.ireturn, 1) := by decide +kernel
theorem dX8_tryAct_0 : decode cX8_tryAct 0 = .ok (.aload_n 1, 1) := by decide +kernel
theorem dX8_tryAct_1 : decode cX8_tryAct 1 = .ok (.getfield 49, 3) := by decide +kernel
theorem dX8_tryAct_4 : decode cX8_tryAct 4 = .ok (.iload_n 2, 1) := by decide +kernel
theorem dX8_tryAct_5 : decode cX8_tryAct 5 = .ok (.iaload, 1) := by decide +kernel
theorem dX8_tryAct_6 : decode cX8_tryAct 6 = .ok (.istore_n 3, 1) := by decide +kernel
theorem dX8_tryAct_7 : decode cX8_tryAct 7 = .ok (.aload_n 1, 1) := by decide +kernel
theorem dX8_tryAct_8 : decode cX8_tryAct 8 = .ok (.getfield 53, 3) := by decide +kernel
theorem dX8_tryAct_11 : decode cX8_tryAct 11 = .ok (.iload_n 2, 1) := by decide +kernel
theorem dX8_tryAct_12 : decode cX8_tryAct 12 = .ok (.iaload, 1) := by decide +kernel
theorem dX8_tryAct_13 : decode cX8_tryAct 13 = .ok (.istore 4, 2) := by decide +kernel
theorem dX8_tryAct_15 : decode cX8_tryAct 15 = .ok (.aload_n 0, 1) := by decide +kernel
theorem dX8_tryAct_16 : decode cX8_tryAct 16 = .ok (.getfield 12, 3) := by decide +kernel
theorem dX8_tryAct_19 : decode cX8_tryAct 19 = .ok (.iload_n 3, 1) := by decide +kernel
theorem dX8_tryAct_20 : decode cX8_tryAct 20 = .ok (.aload_n 1, 1) := by decide +kernel
theorem dX8_tryAct_21 : decode cX8_tryAct 21 = .ok (.getfield 56, 3) := by decide +kernel
theorem dX8_tryAct_24 : decode cX8_tryAct 24 = .ok (.iload_n 2, 1) := by decide +kernel
theorem dX8_tryAct_25 : decode cX8_tryAct 25 = .ok (.iaload, 1) := by decide +kernel
theorem dX8_tryAct_26 : decode cX8_tryAct 26 = .ok (.iload 4, 2) := by decide +kernel
theorem dX8_tryAct_28 : decode cX8_tryAct 28 = .ok (.aload_n 1, 1) := by decide +kernel
theorem dX8_tryAct_29 : decode cX8_tryAct 29 = .ok (.getfield 59, 3) := by decide +kernel
theorem dX8_tryAct_32 : decode cX8_tryAct 32 = .ok (.iload_n 2, 1) := by decide +kernel
theorem dX8_tryAct_33 : decode cX8_tryAct 33 = .ok (.iaload, 1) := by decide +kernel
theorem dX8_tryAct_34 : decode cX8_tryAct 34 = .ok (.invokevirtual 62, 3) := by decide +kernel
theorem dX8_tryAct_37 : decode cX8_tryAct 37 = .ok (.istore 5, 2) := by decide +kernel
theorem dX8_tryAct_39 : decode cX8_tryAct 39 = .ok (.iload 5, 2) := by decide +kernel
theorem dX8_tryAct_41 : decode cX8_tryAct 41 = .ok (.ifCond .eq 15, 3) := by decide +kernel
theorem dX8_tryAct_44 : decode cX8_tryAct 44 = .ok (.aload_n 0, 1) := by decide +kernel
theorem dX8_tryAct_45 : decode cX8_tryAct 45 = .ok (.iload_n 2, 1) := by decide +kernel
theorem dX8_tryAct_46 : decode cX8_tryAct 46 = .ok (.putfield 18, 3) := by decide +kernel
theorem dX8_tryAct_49 : decode cX8_tryAct 49 = .ok (.aload_n 0, 1) := by decide +kernel
theorem dX8_tryAct_50 : decode cX8_tryAct 50 = .ok (.iload 5, 2) := by decide +kernel
theorem dX8_tryAct_52 : decode cX8_tryAct 52 = .ok (.putfield 22, 3) := by decide +kernel
theorem dX8_tryAct_55 : decode cX8_tryAct 55 = .ok (.return_, 1) := by decide +kernel
theorem dX8_tryAct_56 : decode cX8_tryAct 56 = .ok (.aload_n 0, 1) := by decide +kernel
theorem dX8_tryAct_57 : decode cX8_tryAct 57 = .ok (.getfield 12, 3) := by decide +kernel
theorem dX8_tryAct_60 : decode cX8_tryAct 60 = .ok (.iload_n 3, 1) := by decide +kernel
theorem dX8_tryAct_61 : decode cX8_tryAct 61 = .ok (.aload_n 1, 1) := by decide +kernel
theorem dX8_tryAct_62 : decode cX8_tryAct 62 = .ok (.getfield 56, 3) := by decide +kernel
theorem dX8_tryAct_65 : decode cX8_tryAct 65 = .ok (.iload_n 2, 1) := by decide +kernel
theorem dX8_tryAct_66 : decode cX8_tryAct 66 = .ok (.iaload, 1) := by decide +kernel
theorem dX8_tryAct_67 : decode cX8_tryAct 67 = .ok (.iload 4, 2) := by decide +kernel
theorem dX8_tryAct_69 : decode cX8_tryAct 69 = .ok (.aload_n 1, 1) := by decide +kernel
theorem dX8_tryAct_70 : decode cX8_tryAct 70 = .ok (.getfield 59, 3) := by decide +kernel
theorem dX8_tryAct_73 : decode cX8_tryAct 73 = .ok (.iload_n 2, 1) := by decide +kernel
theorem dX8_tryAct_74 : decode cX8_tryAct 74 = .ok (.iaload, 1) := by decide +kernel
theorem dX8_tryAct_75 : decode cX8_tryAct 75 = .ok (.invokevirtual 66, 3) := by decide +kernel
theorem dX8_tryAct_78 : decode cX8_tryAct 78 = .ok (.iload_n 3, 1) := by decide +kernel
theorem dX8_tryAct_79 : decode cX8_tryAct 79 = .ok (.bipush 40, 2) := by decide +kernel
theorem dX8_tryAct_81 : decode cX8_tryAct 81 = .ok (.if_icmp .eq 9, 3) := by decide +kernel
theorem dX8_tryAct_84 : decode cX8_tryAct 84 = .ok (.iload_n 3, 1) := by decide +kernel
theorem dX8_tryAct_85 : decode cX8_tryAct 85 = .ok (.bipush 41, 2) := by decide +kernel
theorem dX8_tryAct_87 : decode cX8_tryAct 87 = .ok (.if_icmp .ne 7, 3) := by decide +kernel
theorem dX8_tryAct_90 : decode cX8_tryAct 90 = .ok (.iconst 1, 1) := by decide +kernel
theorem dX8_tryAct_91 : decode cX8_tryAct 91 = .ok (.goto 4, 3) := by decide +kernel
theorem dX8_tryAct_94 : decode cX8_tryAct 94 = .ok (.iconst 0, 1) := by decide +kernel
theorem dX8_tryAct_95 : decode cX8_tryAct 95 = .ok (.istore 6, 2) := by decide +kernel
theorem dX8_tryAct_97 : decode cX8_tryAct 97 = .ok (.iload 6, 2) := by decide +kernel
theorem dX8_tryAct_99 : decode cX8_tryAct 99 = .ok (.ifCond .eq 35, 3) := by decide +kernel
theorem dX8_tryAct_102 : decode cX8_tryAct 102 = .ok (.aload_n 0, 1) := by decide +kernel
theorem dX8_tryAct_103 : decode cX8_tryAct 103 = .ok (.getfield 25, 3) := by decide +kernel
theorem dX8_tryAct_106 : decode cX8_tryAct 106 = .ok (.bipush (-6), 2) := by decide +kernel
theorem dX8_tryAct_108 : decode cX8_tryAct 108 = .ok (.if_icmp .ne 26, 3) := by decide +kernel
theorem dX8_tryAct_111 : decode cX8_tryAct 111 = .ok (.aload_n 0, 1) := by decide +kernel
theorem dX8_tryAct_112 : decode cX8_tryAct 112 = .ok (.getfield 12, 3) := by decide +kernel
theorem dX8_tryAct_115 : decode cX8_tryAct 115 = .ok (.iload 4, 2) := by decide +kernel
theorem dX8_tryAct_117 : decode cX8_tryAct 117 = .ok (.invokevirtual 70, 3) := by decide +kernel
theorem dX8_tryAct_120 : decode cX8_tryAct 120 = .ok (.ifCond .eq 14, 3) := by decide +kernel
theorem dX8_tryAct_123 : decode cX8_tryAct 123 = .ok (.aload_n 0, 1) := by decide +kernel
theorem dX8_tryAct_124 : decode cX8_tryAct 124 = .ok (.iload_n 2, 1) := by decide +kernel
theorem dX8_tryAct_125 : decode cX8_tryAct 125 = .ok (.putfield 25, 3) := by decide +kernel
theorem dX8_tryAct_128 : decode cX8_tryAct 128 = .ok (.aload_n 0, 1) := by decide +kernel
theorem dX8_tryAct_129 : decode cX8_tryAct 129 = .ok (.iload 4, 2) := by decide +kernel
theorem dX8_tryAct_131 : decode cX8_tryAct 131 = .ok (.putfield 28, 3) := by decide +kernel
theorem dX8_tryAct_134 : decode cX8_tryAct 134 = .ok (.return_, 1) := by decide +kernel
theorem dX8_drawYear_0 : decode cX8_drawYear 0 = .ok (.aload_n 0, 1) := by decide +kernel
theorem dX8_drawYear_1 : decode cX8_drawYear 1 = .ok (.getfield 12, 3) := by decide +kernel
theorem dX8_drawYear_4 : decode cX8_drawYear 4 = .ok (.aload_n 1, 1) := by decide +kernel
theorem dX8_drawYear_5 : decode cX8_drawYear 5 = .ok (.invokevirtual 37, 3) := by decide +kernel
theorem dX8_drawYear_8 : decode cX8_drawYear 8 = .ok (.iload_n 2, 1) := by decide +kernel
theorem dX8_drawYear_9 : decode cX8_drawYear 9 = .ok (.istore 4, 2) := by decide +kernel
theorem dX8_drawYear_11 : decode cX8_drawYear 11 = .ok (.iconst 0, 1) := by decide +kernel
theorem dX8_drawYear_12 : decode cX8_drawYear 12 = .ok (.istore 5, 2) := by decide +kernel
theorem dX8_drawYear_14 : decode cX8_drawYear 14 = .ok (.iload 5, 2) := by decide +kernel
theorem dX8_drawYear_16 : decode cX8_drawYear 16 = .ok (.iload_n 3, 1) := by decide +kernel
theorem dX8_drawYear_17 : decode cX8_drawYear 17 = .ok (.if_icmp .ge 97, 3) := by decide +kernel
theorem dX8_drawYear_20 : decode cX8_drawYear 20 = .ok (.bipush 75, 2) := by decide +kernel
theorem dX8_drawYear_22 : decode cX8_drawYear 22 = .ok (.iload 4, 2) := by decide +kernel
theorem dX8_drawYear_24 : decode cX8_drawYear 24 = .ok (.imul, 1) := by decide +kernel
theorem dX8_drawYear_25 : decode cX8_drawYear 25 = .ok (.bipush 74, 2) := by decide +kernel
theorem dX8_drawYear_27 : decode cX8_drawYear 27 = .ok (.iadd, 1) := by decide +kernel
theorem dX8_drawYear_28 : decode cX8_drawYear 28 = .ok (.ldc 74, 2) := by decide +kernel
theorem dX8_drawYear_30 : decode cX8_drawYear 30 = .ok (.irem, 1) := by decide +kernel
theorem dX8_drawYear_31 : decode cX8_drawYear 31 = .ok (.istore 4, 2) := by decide +kernel
theorem dX8_drawYear_33 : decode cX8_drawYear 33 = .ok (.getstatic 75, 3) := by decide +kernel
theorem dX8_drawYear_36 : decode cX8_drawYear 36 = .ok (.iload 4, 2) := by decide +kernel
theorem dX8_drawYear_38 : decode cX8_drawYear 38 = .ok (.bipush 6, 2) := by decide +kernel
theorem dX8_drawYear_40 : decode cX8_drawYear 40 = .ok (.idiv, 1) := by decide +kernel
theorem dX8_drawYear_41 : decode cX8_drawYear 41 = .ok (.bipush 8, 2) := by decide +kernel
theorem dX8_drawYear_43 : decode cX8_drawYear 43 = .ok (.irem, 1) := by decide +kernel
theorem dX8_drawYear_44 : decode cX8_drawYear 44 = .ok (.iaload, 1) := by decide +kernel
theorem dX8_drawYear_45 : decode cX8_drawYear 45 = .ok (.istore 6, 2) := by decide +kernel
theorem dX8_drawYear_47 : decode cX8_drawYear 47 = .ok (.iconst 1, 1) := by decide +kernel
theorem dX8_drawYear_48 : decode cX8_drawYear 48 = .ok (.iload 4, 2) := by decide +kernel
theorem dX8_drawYear_50 : decode cX8_drawYear 50 = .ok (.bipush 48, 2) := by decide +kernel
theorem dX8_drawYear_52 : decode cX8_drawYear 52 = .ok (.idiv, 1) := by decide +kernel
theorem dX8_drawYear_53 : decode cX8_drawYear 53 = .ok (.bipush 9, 2) := by decide +kernel
theorem dX8_drawYear_55 : decode cX8_drawYear 55 = .ok (.irem, 1) := by decide +kernel
theorem dX8_drawYear_56 : decode cX8_drawYear 56 = .ok (.iadd, 1) := by decide +kernel
theorem dX8_drawYear_57 : decode cX8_drawYear 57 = .ok (.istore 7, 2) := by decide +kernel
theorem dX8_drawYear_59 : decode cX8_drawYear 59 = .ok (.iload 4, 2) := by decide +kernel
theorem dX8_drawYear_61 : decode cX8_drawYear 61 = .ok (.sipush 432, 3) := by decide +kernel
theorem dX8_drawYear_64 : decode cX8_drawYear 64 = .ok (.idiv, 1) := by decide +kernel
theorem dX8_drawYear_65 : decode cX8_drawYear 65 = .ok (.iconst 4, 1) := by decide +kernel
theorem dX8_drawYear_66 : decode cX8_drawYear 66 = .ok (.irem, 1) := by decide +kernel
theorem dX8_drawYear_67 : decode cX8_drawYear 67 = .ok (.istore 8, 2) := by decide +kernel
theorem dX8_drawYear_69 : decode cX8_drawYear 69 = .ok (.aload_n 0, 1) := by decide +kernel
theorem dX8_drawYear_70 : decode cX8_drawYear 70 = .ok (.getfield 12, 3) := by decide +kernel
theorem dX8_drawYear_73 : decode cX8_drawYear 73 = .ok (.iload 6, 2) := by decide +kernel
theorem dX8_drawYear_75 : decode cX8_drawYear 75 = .ok (.iload 4, 2) := by decide +kernel
theorem dX8_drawYear_77 : decode cX8_drawYear 77 = .ok (.bipush 6, 2) := by decide +kernel
theorem dX8_drawYear_79 : decode cX8_drawYear 79 = .ok (.irem, 1) := by decide +kernel
theorem dX8_drawYear_80 : decode cX8_drawYear 80 = .ok (.iload 8, 2) := by decide +kernel
theorem dX8_drawYear_82 : decode cX8_drawYear 82 = .ok (.iload 7, 2) := by decide +kernel
theorem dX8_drawYear_84 : decode cX8_drawYear 84 = .ok (.invokevirtual 62, 3) := by decide +kernel
theorem dX8_drawYear_87 : decode cX8_drawYear 87 = .ok (.ifCond .ne 21, 3) := by decide +kernel
theorem dX8_drawYear_90 : decode cX8_drawYear 90 = .ok (.aload_n 0, 1) := by decide +kernel
theorem dX8_drawYear_91 : decode cX8_drawYear 91 = .ok (.getfield 12, 3) := by decide +kernel
theorem dX8_drawYear_94 : decode cX8_drawYear 94 = .ok (.iload 6, 2) := by decide +kernel
theorem dX8_drawYear_96 : decode cX8_drawYear 96 = .ok (.iload 4, 2) := by decide +kernel
theorem dX8_drawYear_98 : decode cX8_drawYear 98 = .ok (.bipush 6, 2) := by decide +kernel
theorem dX8_drawYear_100 : decode cX8_drawYear 100 = .ok (.irem, 1) := by decide +kernel
theorem dX8_drawYear_101 : decode cX8_drawYear 101 = .ok (.iload 8, 2) := by decide +kernel
theorem dX8_drawYear_103 : decode cX8_drawYear 103 = .ok (.iload 7, 2) := by decide +kernel
theorem dX8_drawYear_105 : decode cX8_drawYear 105 = .ok (.invokevirtual 66, 3) := by decide +kernel
theorem dX8_drawYear_108 : decode cX8_drawYear 108 = .ok (.iinc 5 1, 3) := by decide +kernel
theorem dX8_drawYear_111 : decode cX8_drawYear 111 = .ok (.goto (-97), 3) := by decide +kernel
theorem dX8_drawYear_114 : decode cX8_drawYear 114 = .ok (.return_, 1) := by decide +kernel
theorem dJ9_floorMod_7cf53_0 : decode cJ9_floorMod_7cf53 0 = .ok (.iload_n 0, 1) := by decide +kernel
theorem dJ9_floorMod_7cf53_1 : decode cJ9_floorMod_7cf53 1 = .ok (.iload_n 1, 1) := by decide +kernel
theorem dJ9_floorMod_7cf53_2 : decode cJ9_floorMod_7cf53 2 = .ok (.irem, 1) := by decide +kernel
theorem dJ9_floorMod_7cf53_3 : decode cJ9_floorMod_7cf53 3 = .ok (.istore_n 2, 1) := by decide +kernel
theorem dJ9_floorMod_7cf53_4 : decode cJ9_floorMod_7cf53 4 = .ok (.iload_n 0, 1) := by decide +kernel
theorem dJ9_floorMod_7cf53_5 : decode cJ9_floorMod_7cf53 5 = .ok (.iload_n 1, 1) := by decide +kernel
theorem dJ9_floorMod_7cf53_6 : decode cJ9_floorMod_7cf53 6 = .ok (.ixor, 1) := by decide +kernel
theorem dJ9_floorMod_7cf53_7 : decode cJ9_floorMod_7cf53 7 = .ok (.ifCond .ge 11, 3) := by decide +kernel
theorem dJ9_floorMod_7cf53_10 : decode cJ9_floorMod_7cf53 10 = .ok (.iload_n 2, 1) := by decide +kernel
theorem dJ9_floorMod_7cf53_11 : decode cJ9_floorMod_7cf53 11 = .ok (.ifCond .eq 7, 3) := by decide +kernel
theorem dJ9_floorMod_7cf53_14 : decode cJ9_floorMod_7cf53 14 = .ok (.iload_n 2, 1) := by decide +kernel
theorem dJ9_floorMod_7cf53_15 : decode cJ9_floorMod_7cf53 15 = .ok (.iload_n 1, 1) := by decide +kernel
theorem dJ9_floorMod_7cf53_16 : decode cJ9_floorMod_7cf53 16 = .ok (.iadd, 1) := by decide +kernel
theorem dJ9_floorMod_7cf53_17 : decode cJ9_floorMod_7cf53 17 = .ok (.ireturn, 1) := by decide +kernel
theorem dJ9_floorMod_7cf53_18 : decode cJ9_floorMod_7cf53 18 = .ok (.iload_n 2, 1) := by decide +kernel
theorem dJ9_floorMod_7cf53_19 : decode cJ9_floorMod_7cf53 19 = .ok (.ireturn, 1) := by decide +kernel
theorem dJ9_abs_0f7a4_0 : decode cJ9_abs_0f7a4 0 = .ok (.iload_n 0, 1) := by decide +kernel
theorem dJ9_abs_0f7a4_1 : decode cJ9_abs_0f7a4 1 = .ok (.ifCond .ge 8, 3) := by decide +kernel
theorem dJ9_abs_0f7a4_4 : decode cJ9_abs_0f7a4 4 = .ok (.iload_n 0, 1) := by decide +kernel
theorem dJ9_abs_0f7a4_5 : decode cJ9_abs_0f7a4 5 = .ok (.ineg, 1) := by decide +kernel
theorem dJ9_abs_0f7a4_6 : decode cJ9_abs_0f7a4 6 = .ok (.goto 4, 3) := by decide +kernel
theorem dJ9_abs_0f7a4_9 : decode cJ9_abs_0f7a4 9 = .ok (.iload_n 0, 1) := by decide +kernel
theorem dJ9_abs_0f7a4_10 : decode cJ9_abs_0f7a4 10 = .ok (.ireturn, 1) := by decide +kernel
theorem dJ9_max_7cf53_0 : decode cJ9_max_7cf53 0 = .ok (.iload_n 0, 1) := by decide +kernel
theorem dJ9_max_7cf53_1 : decode cJ9_max_7cf53 1 = .ok (.iload_n 1, 1) := by decide +kernel
theorem dJ9_max_7cf53_2 : decode cJ9_max_7cf53 2 = .ok (.if_icmp .lt 7, 3) := by decide +kernel
theorem dJ9_max_7cf53_5 : decode cJ9_max_7cf53 5 = .ok (.iload_n 0, 1) := by decide +kernel
theorem dJ9_max_7cf53_6 : decode cJ9_max_7cf53 6 = .ok (.goto 4, 3) := by decide +kernel
theorem dJ9_max_7cf53_9 : decode cJ9_max_7cf53 9 = .ok (.iload_n 1, 1) := by decide +kernel
theorem dJ9_max_7cf53_10 : decode cJ9_max_7cf53 10 = .ok (.ireturn, 1) := by decide +kernel
theorem dJ9_max_f86c9_0 : decode cJ9_max_f86c9 0 = .ok (.lload_n 0, 1) := by decide +kernel
theorem dJ9_max_f86c9_1 : decode cJ9_max_f86c9 1 = .ok (.lload_n 2, 1) := by decide +kernel
theorem dJ9_max_f86c9_2 : decode cJ9_max_f86c9 2 = .ok (.lcmp, 1) := by decide +kernel
theorem dJ9_max_f86c9_3 : decode cJ9_max_f86c9 3 = .ok (.ifCond .lt 7, 3) := by decide +kernel
theorem dJ9_max_f86c9_6 : decode cJ9_max_f86c9 6 = .ok (.lload_n 0, 1) := by decide +kernel
theorem dJ9_max_f86c9_7 : decode cJ9_max_f86c9 7 = .ok (.goto 4, 3) := by decide +kernel
theorem dJ9_max_f86c9_10 : decode cJ9_max_f86c9 10 = .ok (.lload_n 2, 1) := by decide +kernel
theorem dJ9_max_f86c9_11 : decode cJ9_max_f86c9 11 = .ok (.lreturn, 1) := by decide +kernel
theorem dJ9_min_7cf53_0 : decode cJ9_min_7cf53 0 = .ok (.iload_n 0, 1) := by decide +kernel
theorem dJ9_min_7cf53_1 : decode cJ9_min_7cf53 1 = .ok (.iload_n 1, 1) := by decide +kernel
theorem dJ9_min_7cf53_2 : decode cJ9_min_7cf53 2 = .ok (.if_icmp .gt 7, 3) := by decide +kernel
theorem dJ9_min_7cf53_5 : decode cJ9_min_7cf53 5 = .ok (.iload_n 0, 1) := by decide +kernel
theorem dJ9_min_7cf53_6 : decode cJ9_min_7cf53 6 = .ok (.goto 4, 3) := by decide +kernel
theorem dJ9_min_7cf53_9 : decode cJ9_min_7cf53 9 = .ok (.iload_n 1, 1) := by decide +kernel
theorem dJ9_min_7cf53_10 : decode cJ9_min_7cf53 10 = .ok (.ireturn, 1) := by decide +kernel
theorem dJ7_fill_d0a16_0 : decode cJ7_fill_d0a16 0 = .ok (.iconst 0, 1) := by decide +kernel
theorem dJ7_fill_d0a16_1 : decode cJ7_fill_d0a16 1 = .ok (.istore_n 3, 1) := by decide +kernel
theorem dJ7_fill_d0a16_2 : decode cJ7_fill_d0a16 2 = .ok (.aload_n 0, 1) := by decide +kernel
theorem dJ7_fill_d0a16_3 : decode cJ7_fill_d0a16 3 = .ok (.arraylength, 1) := by decide +kernel
theorem dJ7_fill_d0a16_4 : decode cJ7_fill_d0a16 4 = .ok (.istore 4, 2) := by decide +kernel
theorem dJ7_fill_d0a16_6 : decode cJ7_fill_d0a16 6 = .ok (.iload_n 3, 1) := by decide +kernel
theorem dJ7_fill_d0a16_7 : decode cJ7_fill_d0a16 7 = .ok (.iload 4, 2) := by decide +kernel
theorem dJ7_fill_d0a16_9 : decode cJ7_fill_d0a16 9 = .ok (.if_icmp .ge 13, 3) := by decide +kernel
theorem dJ7_fill_d0a16_12 : decode cJ7_fill_d0a16 12 = .ok (.aload_n 0, 1) := by decide +kernel
theorem dJ7_fill_d0a16_13 : decode cJ7_fill_d0a16 13 = .ok (.iload_n 3, 1) := by decide +kernel
theorem dJ7_fill_d0a16_14 : decode cJ7_fill_d0a16 14 = .ok (.lload_n 1, 1) := by decide +kernel
theorem dJ7_fill_d0a16_15 : decode cJ7_fill_d0a16 15 = .ok (.lastore, 1) := by decide +kernel
theorem dJ7_fill_d0a16_16 : decode cJ7_fill_d0a16 16 = .ok (.iinc 3 1, 3) := by decide +kernel
theorem dJ7_fill_d0a16_19 : decode cJ7_fill_d0a16 19 = .ok (.goto (-13), 3) := by decide +kernel
theorem dJ7_fill_d0a16_22 : decode cJ7_fill_d0a16 22 = .ok (.return_, 1) := by decide +kernel
theorem dJ7_fill_53178_0 : decode cJ7_fill_53178 0 = .ok (.iconst 0, 1) := by decide +kernel
theorem dJ7_fill_53178_1 : decode cJ7_fill_53178 1 = .ok (.istore_n 2, 1) := by decide +kernel
theorem dJ7_fill_53178_2 : decode cJ7_fill_53178 2 = .ok (.aload_n 0, 1) := by decide +kernel
theorem dJ7_fill_53178_3 : decode cJ7_fill_53178 3 = .ok (.arraylength, 1) := by decide +kernel
theorem dJ7_fill_53178_4 : decode cJ7_fill_53178 4 = .ok (.istore_n 3, 1) := by decide +kernel
theorem dJ7_fill_53178_5 : decode cJ7_fill_53178 5 = .ok (.iload_n 2, 1) := by decide +kernel
theorem dJ7_fill_53178_6 : decode cJ7_fill_53178 6 = .ok (.iload_n 3, 1) := by decide +kernel
theorem dJ7_fill_53178_7 : decode cJ7_fill_53178 7 = .ok (.if_icmp .ge 13, 3) := by decide +kernel
theorem dJ7_fill_53178_10 : decode cJ7_fill_53178 10 = .ok (.aload_n 0, 1) := by decide +kernel
theorem dJ7_fill_53178_11 : decode cJ7_fill_53178 11 = .ok (.iload_n 2, 1) := by decide +kernel
theorem dJ7_fill_53178_12 : decode cJ7_fill_53178 12 = .ok (.iload_n 1, 1) := by decide +kernel
theorem dJ7_fill_53178_13 : decode cJ7_fill_53178 13 = .ok (.iastore, 1) := by decide +kernel
theorem dJ7_fill_53178_14 : decode cJ7_fill_53178 14 = .ok (.iinc 2 1, 3) := by decide +kernel
theorem dJ7_fill_53178_17 : decode cJ7_fill_53178 17 = .ok (.goto (-12), 3) := by decide +kernel
theorem dJ7_fill_53178_20 : decode cJ7_fill_53178 20 = .ok (.return_, 1) := by decide +kernel
