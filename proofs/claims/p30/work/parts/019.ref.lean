set_option maxRecDepth 16384
theorem dX12_calm_0 : decode cX12_calm 0 = .ok (.aload_n 0, 1) := by decide +kernel
theorem dX12_calm_1 : decode cX12_calm 1 = .ok (.iload_n 1, 1) := by decide +kernel
theorem dX12_calm_2 : decode cX12_calm 2 = .ok (.invokevirtual 298, 3) := by decide +kernel
theorem dX12_calm_5 : decode cX12_calm 5 = .ok (.ifCond .eq 24, 3) := by decide +kernel
theorem dX12_calm_8 : decode cX12_calm 8 = .ok (.iload_n 2, 1) := by decide +kernel
theorem dX12_calm_9 : decode cX12_calm 9 = .ok (.i2l, 1) := by decide +kernel
theorem dX12_calm_10 : decode cX12_calm 10 = .ok (.lconst 1, 1) := by decide +kernel
theorem dX12_calm_11 : decode cX12_calm 11 = .ok (.ldc2_w 354, 3) := by decide +kernel
theorem dX12_calm_14 : decode cX12_calm 14 = .ok (.invokestatic 115, 3) := by decide +kernel
theorem dX12_calm_17 : decode cX12_calm 17 = .ok (.ifCond .eq 12, 3) := by decide +kernel
theorem dX12_calm_20 : decode cX12_calm 20 = .ok (.aload_n 0, 1) := by decide +kernel
theorem dX12_calm_21 : decode cX12_calm 21 = .ok (.iload_n 1, 1) := by decide +kernel
theorem dX12_calm_22 : decode cX12_calm 22 = .ok (.invokevirtual 301, 3) := by decide +kernel
theorem dX12_calm_25 : decode cX12_calm 25 = .ok (.iload_n 2, 1) := by decide +kernel
theorem dX12_calm_26 : decode cX12_calm 26 = .ok (.if_icmp .ge 5, 3) := by decide +kernel
theorem dX12_calm_29 : decode cX12_calm 29 = .ok (.iconst (-1), 1) := by decide +kernel
theorem dX12_calm_30 : decode cX12_calm 30 = .ok (.ireturn, 1) := by decide +kernel
theorem dX12_calm_31 : decode cX12_calm 31 = .ok (.aload_n 0, 1) := by decide +kernel
theorem dX12_calm_32 : decode cX12_calm 32 = .ok (.invokevirtual 351, 3) := by decide +kernel
theorem dX12_calm_35 : decode cX12_calm 35 = .ok (.aload_n 0, 1) := by decide +kernel
theorem dX12_calm_36 : decode cX12_calm 36 = .ok (.getfield 39, 3) := by decide +kernel
theorem dX12_calm_39 : decode cX12_calm 39 = .ok (.bipush 12, 2) := by decide +kernel
theorem dX12_calm_41 : decode cX12_calm 41 = .ok (.iconst 4, 1) := by decide +kernel
theorem dX12_calm_42 : decode cX12_calm 42 = .ok (.iload_n 1, 1) := by decide +kernel
theorem dX12_calm_43 : decode cX12_calm 43 = .ok (.imul, 1) := by decide +kernel
theorem dX12_calm_44 : decode cX12_calm 44 = .ok (.iadd, 1) := by decide +kernel
theorem dX12_calm_45 : decode cX12_calm 45 = .ok (.dup2, 1) := by decide +kernel
theorem dX12_calm_46 : decode cX12_calm 46 = .ok (.iaload, 1) := by decide +kernel
theorem dX12_calm_47 : decode cX12_calm 47 = .ok (.iload_n 2, 1) := by decide +kernel
theorem dX12_calm_48 : decode cX12_calm 48 = .ok (.isub, 1) := by decide +kernel
theorem dX12_calm_49 : decode cX12_calm 49 = .ok (.iastore, 1) := by decide +kernel
theorem dX12_calm_50 : decode cX12_calm 50 = .ok (.aload_n 0, 1) := by decide +kernel
theorem dX12_calm_51 : decode cX12_calm 51 = .ok (.iload_n 1, 1) := by decide +kernel
theorem dX12_calm_52 : decode cX12_calm 52 = .ok (.invokevirtual 301, 3) := by decide +kernel
theorem dX12_calm_55 : decode cX12_calm 55 = .ok (.ireturn, 1) := by decide +kernel
theorem dX12_change_0 : decode cX12_change 0 = .ok (.aload_n 0, 1) := by decide +kernel
theorem dX12_change_1 : decode cX12_change 1 = .ok (.iload_n 1, 1) := by decide +kernel
theorem dX12_change_2 : decode cX12_change 2 = .ok (.invokevirtual 307, 3) := by decide +kernel
theorem dX12_change_5 : decode cX12_change 5 = .ok (.ifCond .eq 28, 3) := by decide +kernel
theorem dX12_change_8 : decode cX12_change 8 = .ok (.iload_n 2, 1) := by decide +kernel
theorem dX12_change_9 : decode cX12_change 9 = .ok (.i2l, 1) := by decide +kernel
theorem dX12_change_10 : decode cX12_change 10 = .ok (.lconst 0, 1) := by decide +kernel
theorem dX12_change_11 : decode cX12_change 11 = .ok (.ldc2_w 356, 3) := by decide +kernel
theorem dX12_change_14 : decode cX12_change 14 = .ok (.invokestatic 115, 3) := by decide +kernel
theorem dX12_change_17 : decode cX12_change 17 = .ok (.ifCond .eq 16, 3) := by decide +kernel
theorem dX12_change_20 : decode cX12_change 20 = .ok (.aload_n 0, 1) := by decide +kernel
theorem dX12_change_21 : decode cX12_change 21 = .ok (.getfield 39, 3) := by decide +kernel
theorem dX12_change_24 : decode cX12_change 24 = .ok (.bipush 36, 2) := by decide +kernel
theorem dX12_change_26 : decode cX12_change 26 = .ok (.iload_n 1, 1) := by decide +kernel
theorem dX12_change_27 : decode cX12_change 27 = .ok (.iadd, 1) := by decide +kernel
theorem dX12_change_28 : decode cX12_change 28 = .ok (.iaload, 1) := by decide +kernel
theorem dX12_change_29 : decode cX12_change 29 = .ok (.iload_n 2, 1) := by decide +kernel
theorem dX12_change_30 : decode cX12_change 30 = .ok (.if_icmp .ne 5, 3) := by decide +kernel
theorem dX12_change_33 : decode cX12_change 33 = .ok (.iconst (-1), 1) := by decide +kernel
theorem dX12_change_34 : decode cX12_change 34 = .ok (.ireturn, 1) := by decide +kernel
theorem dX12_change_35 : decode cX12_change 35 = .ok (.aload_n 0, 1) := by decide +kernel
theorem dX12_change_36 : decode cX12_change 36 = .ok (.invokevirtual 351, 3) := by decide +kernel
theorem dX12_change_39 : decode cX12_change 39 = .ok (.aload_n 0, 1) := by decide +kernel
theorem dX12_change_40 : decode cX12_change 40 = .ok (.getfield 39, 3) := by decide +kernel
theorem dX12_change_43 : decode cX12_change 43 = .ok (.bipush 36, 2) := by decide +kernel
theorem dX12_change_45 : decode cX12_change 45 = .ok (.iload_n 1, 1) := by decide +kernel
theorem dX12_change_46 : decode cX12_change 46 = .ok (.iadd, 1) := by decide +kernel
theorem dX12_change_47 : decode cX12_change 47 = .ok (.iaload, 1) := by decide +kernel
theorem dX12_change_48 : decode cX12_change 48 = .ok (.istore_n 3, 1) := by decide +kernel
theorem dX12_change_49 : decode cX12_change 49 = .ok (.aload_n 0, 1) := by decide +kernel
theorem dX12_change_50 : decode cX12_change 50 = .ok (.getfield 39, 3) := by decide +kernel
theorem dX12_change_53 : decode cX12_change 53 = .ok (.bipush 36, 2) := by decide +kernel
theorem dX12_change_55 : decode cX12_change 55 = .ok (.iload_n 1, 1) := by decide +kernel
theorem dX12_change_56 : decode cX12_change 56 = .ok (.iadd, 1) := by decide +kernel
theorem dX12_change_57 : decode cX12_change 57 = .ok (.iload_n 2, 1) := by decide +kernel
theorem dX12_change_58 : decode cX12_change 58 = .ok (.iastore, 1) := by decide +kernel
theorem dX12_change_59 : decode cX12_change 59 = .ok (.iload_n 3, 1) := by decide +kernel
theorem dX12_change_60 : decode cX12_change 60 = .ok (.ireturn, 1) := by decide +kernel
theorem dX12_day_0 : decode cX12_day 0 = .ok (.aload_n 0, 1) := by decide +kernel
theorem dX12_day_1 : decode cX12_day 1 = .ok (.invokevirtual 283, 3) := by decide +kernel
theorem dX12_day_4 : decode cX12_day 4 = .ok (.ifCond .eq 16, 3) := by decide +kernel
theorem dX12_day_7 : decode cX12_day 7 = .ok (.aload_n 0, 1) := by decide +kernel
theorem dX12_day_8 : decode cX12_day 8 = .ok (.getfield 39, 3) := by decide +kernel
theorem dX12_day_11 : decode cX12_day 11 = .ok (.bipush 10, 2) := by decide +kernel
theorem dX12_day_13 : decode cX12_day 13 = .ok (.iaload, 1) := by decide +kernel
theorem dX12_day_14 : decode cX12_day 14 = .ok (.sipush 999, 3) := by decide +kernel
theorem dX12_day_17 : decode cX12_day 17 = .ok (.if_icmp .ne 5, 3) := by decide +kernel
theorem dX12_day_20 : decode cX12_day 20 = .ok (.iconst (-1), 1) := by decide +kernel
theorem dX12_day_21 : decode cX12_day 21 = .ok (.ireturn, 1) := by decide +kernel
theorem dX12_day_22 : decode cX12_day 22 = .ok (.aload_n 0, 1) := by decide +kernel
theorem dX12_day_23 : decode cX12_day 23 = .ok (.invokevirtual 351, 3) := by decide +kernel
theorem dX12_day_26 : decode cX12_day 26 = .ok (.aload_n 0, 1) := by decide +kernel
theorem dX12_day_27 : decode cX12_day 27 = .ok (.invokevirtual 348, 3) := by decide +kernel
theorem dX12_day_30 : decode cX12_day 30 = .ok (.ireturn, 1) := by decide +kernel
theorem dX12_keeps_0 : decode cX12_keeps 0 = .ok (.iconst 0, 1) := by decide +kernel
theorem dX12_keeps_1 : decode cX12_keeps 1 = .ok (.istore_n 1, 1) := by decide +kernel
theorem dX12_keeps_2 : decode cX12_keeps 2 = .ok (.iload_n 1, 1) := by decide +kernel
theorem dX12_keeps_3 : decode cX12_keeps 3 = .ok (.bipush 46, 2) := by decide +kernel
theorem dX12_keeps_5 : decode cX12_keeps 5 = .ok (.if_icmp .ge 24, 3) := by decide +kernel
theorem dX12_keeps_8 : decode cX12_keeps 8 = .ok (.aload_n 0, 1) := by decide +kernel
theorem dX12_keeps_9 : decode cX12_keeps 9 = .ok (.getfield 49, 3) := by decide +kernel
theorem dX12_keeps_12 : decode cX12_keeps 12 = .ok (.iload_n 1, 1) := by decide +kernel
theorem dX12_keeps_13 : decode cX12_keeps 13 = .ok (.aload_n 0, 1) := by decide +kernel
theorem dX12_keeps_14 : decode cX12_keeps 14 = .ok (.getfield 39, 3) := by decide +kernel
theorem dX12_keeps_17 : decode cX12_keeps 17 = .ok (.bipush 10, 2) := by decide +kernel
theorem dX12_keeps_19 : decode cX12_keeps 19 = .ok (.iload_n 1, 1) := by decide +kernel
theorem dX12_keeps_20 : decode cX12_keeps 20 = .ok (.iadd, 1) := by decide +kernel
theorem dX12_keeps_21 : decode cX12_keeps 21 = .ok (.iaload, 1) := by decide +kernel
theorem dX12_keeps_22 : decode cX12_keeps 22 = .ok (.iastore, 1) := by decide +kernel
theorem dX12_keeps_23 : decode cX12_keeps 23 = .ok (.iinc 1 1, 3) := by decide +kernel
theorem dX12_keeps_26 : decode cX12_keeps 26 = .ok (.goto (-24), 3) := by decide +kernel
theorem dX12_keeps_29 : decode cX12_keeps 29 = .ok (.return_, 1) := by decide +kernel
theorem dX12_keepsAct_0 : decode cX12_keepsAct 0 = .ok (.aload_n 0, 1) := by decide +kernel
theorem dX12_keepsAct_1 : decode cX12_keepsAct 1 = .ok (.getfield 265, 3) := by decide +kernel
theorem dX12_keepsAct_4 : decode cX12_keepsAct 4 = .ok (.bipush 20, 2) := by decide +kernel
theorem dX12_keepsAct_6 : decode cX12_keepsAct 6 = .ok (.if_icmp .ne 44, 3) := by decide +kernel
theorem dX12_keepsAct_9 : decode cX12_keepsAct 9 = .ok (.bipush 46, 2) := by decide +kernel
theorem dX12_keepsAct_11 : decode cX12_keepsAct 11 = .ok (.istore_n 1, 1) := by decide +kernel
theorem dX12_keepsAct_12 : decode cX12_keepsAct 12 = .ok (.iload_n 1, 1) := by decide +kernel
theorem dX12_keepsAct_13 : decode cX12_keepsAct 13 = .ok (.sipush 920, 3) := by decide +kernel
theorem dX12_keepsAct_16 : decode cX12_keepsAct 16 = .ok (.if_icmp .ge 24, 3) := by decide +kernel
theorem dX12_keepsAct_19 : decode cX12_keepsAct 19 = .ok (.aload_n 0, 1) := by decide +kernel
theorem dX12_keepsAct_20 : decode cX12_keepsAct 20 = .ok (.getfield 46, 3) := by decide +kernel
theorem dX12_keepsAct_23 : decode cX12_keepsAct 23 = .ok (.iload_n 1, 1) := by decide +kernel
theorem dX12_keepsAct_24 : decode cX12_keepsAct 24 = .ok (.bipush 46, 2) := by decide +kernel
theorem dX12_keepsAct_26 : decode cX12_keepsAct 26 = .ok (.isub, 1) := by decide +kernel
theorem dX12_keepsAct_27 : decode cX12_keepsAct 27 = .ok (.aload_n 0, 1) := by decide +kernel
theorem dX12_keepsAct_28 : decode cX12_keepsAct 28 = .ok (.getfield 46, 3) := by decide +kernel
theorem dX12_keepsAct_31 : decode cX12_keepsAct 31 = .ok (.iload_n 1, 1) := by decide +kernel
theorem dX12_keepsAct_32 : decode cX12_keepsAct 32 = .ok (.iaload, 1) := by decide +kernel
theorem dX12_keepsAct_33 : decode cX12_keepsAct 33 = .ok (.iastore, 1) := by decide +kernel
theorem dX12_keepsAct_34 : decode cX12_keepsAct 34 = .ok (.iinc 1 1, 3) := by decide +kernel
theorem dX12_keepsAct_37 : decode cX12_keepsAct 37 = .ok (.goto (-25), 3) := by decide +kernel
theorem dX12_keepsAct_40 : decode cX12_keepsAct 40 = .ok (.aload_n 0, 1) := by decide +kernel
theorem dX12_keepsAct_41 : decode cX12_keepsAct 41 = .ok (.dup, 1) := by decide +kernel
theorem dX12_keepsAct_42 : decode cX12_keepsAct 42 = .ok (.getfield 265, 3) := by decide +kernel
theorem dX12_keepsAct_45 : decode cX12_keepsAct 45 = .ok (.iconst 1, 1) := by decide +kernel
theorem dX12_keepsAct_46 : decode cX12_keepsAct 46 = .ok (.isub, 1) := by decide +kernel
theorem dX12_keepsAct_47 : decode cX12_keepsAct 47 = .ok (.putfield 265, 3) := by decide +kernel
theorem dX12_keepsAct_50 : decode cX12_keepsAct 50 = .ok (.iconst 0, 1) := by decide +kernel
theorem dX12_keepsAct_51 : decode cX12_keepsAct 51 = .ok (.istore_n 1, 1) := by decide +kernel
theorem dX12_keepsAct_52 : decode cX12_keepsAct 52 = .ok (.iload_n 1, 1) := by decide +kernel
theorem dX12_keepsAct_53 : decode cX12_keepsAct 53 = .ok (.bipush 46, 2) := by decide +kernel
theorem dX12_keepsAct_55 : decode cX12_keepsAct 55 = .ok (.if_icmp .ge 32, 3) := by decide +kernel
theorem dX12_keepsAct_58 : decode cX12_keepsAct 58 = .ok (.aload_n 0, 1) := by decide +kernel
theorem dX12_keepsAct_59 : decode cX12_keepsAct 59 = .ok (.getfield 46, 3) := by decide +kernel
theorem dX12_keepsAct_62 : decode cX12_keepsAct 62 = .ok (.bipush 46, 2) := by decide +kernel
theorem dX12_keepsAct_64 : decode cX12_keepsAct 64 = .ok (.aload_n 0, 1) := by decide +kernel
theorem dX12_keepsAct_65 : decode cX12_keepsAct 65 = .ok (.getfield 265, 3) := by decide +kernel
theorem dX12_keepsAct_68 : decode cX12_keepsAct 68 = .ok (.imul, 1) := by decide +kernel
theorem dX12_keepsAct_69 : decode cX12_keepsAct 69 = .ok (.iload_n 1, 1) := by decide +kernel
theorem dX12_keepsAct_70 : decode cX12_keepsAct 70 = .ok (.iadd, 1) := by decide +kernel
theorem dX12_keepsAct_71 : decode cX12_keepsAct 71 = .ok (.aload_n 0, 1) := by decide +kernel
theorem dX12_keepsAct_72 : decode cX12_keepsAct 72 = .ok (.getfield 39, 3) := by decide +kernel
theorem dX12_keepsAct_75 : decode cX12_keepsAct 75 = .ok (.bipush 10, 2) := by decide +kernel
theorem dX12_keepsAct_77 : decode cX12_keepsAct 77 = .ok (.iload_n 1, 1) := by decide +kernel
theorem dX12_keepsAct_78 : decode cX12_keepsAct 78 = .ok (.iadd, 1) := by decide +kernel
theorem dX12_keepsAct_79 : decode cX12_keepsAct 79 = .ok (.iaload, 1) := by decide +kernel
theorem dX12_keepsAct_80 : decode cX12_keepsAct 80 = .ok (.iastore, 1) := by decide +kernel
theorem dX12_keepsAct_81 : decode cX12_keepsAct 81 = .ok (.iinc 1 1, 3) := by decide +kernel
theorem dX12_keepsAct_84 : decode cX12_keepsAct 84 = .ok (.goto (-32), 3) := by decide +kernel
theorem dX12_keepsAct_87 : decode cX12_keepsAct 87 = .ok (.aload_n 0, 1) := by decide +kernel
theorem dX12_keepsAct_88 : decode cX12_keepsAct 88 = .ok (.dup, 1) := by decide +kernel
theorem dX12_keepsAct_89 : decode cX12_keepsAct 89 = .ok (.getfield 265, 3) := by decide +kernel
theorem dX12_keepsAct_92 : decode cX12_keepsAct 92 = .ok (.iconst 1, 1) := by decide +kernel
theorem dX12_keepsAct_93 : decode cX12_keepsAct 93 = .ok (.iadd, 1) := by decide +kernel
theorem dX12_keepsAct_94 : decode cX12_keepsAct 94 = .ok (.putfield 265, 3) := by decide +kernel
theorem dX12_keepsAct_97 : decode cX12_keepsAct 97 = .ok (.return_, 1) := by decide +kernel
theorem dX12_laysBack_0 : decode cX12_laysBack 0 = .ok (.iconst 0, 1) := by decide +kernel
theorem dX12_laysBack_1 : decode cX12_laysBack 1 = .ok (.istore_n 1, 1) := by decide +kernel
theorem dX12_laysBack_2 : decode cX12_laysBack 2 = .ok (.iload_n 1, 1) := by decide +kernel
theorem dX12_laysBack_3 : decode cX12_laysBack 3 = .ok (.bipush 46, 2) := by decide +kernel
theorem dX12_laysBack_5 : decode cX12_laysBack 5 = .ok (.if_icmp .ge 24, 3) := by decide +kernel
theorem dX12_laysBack_8 : decode cX12_laysBack 8 = .ok (.aload_n 0, 1) := by decide +kernel
theorem dX12_laysBack_9 : decode cX12_laysBack 9 = .ok (.getfield 39, 3) := by decide +kernel
theorem dX12_laysBack_12 : decode cX12_laysBack 12 = .ok (.bipush 10, 2) := by decide +kernel
theorem dX12_laysBack_14 : decode cX12_laysBack 14 = .ok (.iload_n 1, 1) := by decide +kernel
theorem dX12_laysBack_15 : decode cX12_laysBack 15 = .ok (.iadd, 1) := by decide +kernel
theorem dX12_laysBack_16 : decode cX12_laysBack 16 = .ok (.aload_n 0, 1) := by decide +kernel
theorem dX12_laysBack_17 : decode cX12_laysBack 17 = .ok (.getfield 49, 3) := by decide +kernel
theorem dX12_laysBack_20 : decode cX12_laysBack 20 = .ok (.iload_n 1, 1) := by decide +kernel
theorem dX12_laysBack_21 : decode cX12_laysBack 21 = .ok (.iaload, 1) := by decide +kernel
theorem dX12_laysBack_22 : decode cX12_laysBack 22 = .ok (.iastore, 1) := by decide +kernel
theorem dX12_laysBack_23 : decode cX12_laysBack 23 = .ok (.iinc 1 1, 3) := by decide +kernel
theorem dX12_laysBack_26 : decode cX12_laysBack 26 = .ok (.goto (-24), 3) := by decide +kernel
theorem dX12_laysBack_29 : decode cX12_laysBack 29 = .ok (.return_, 1) := by decide +kernel
theorem dX12_sell_0 : decode cX12_sell 0 = .ok (.aload_n 0, 1) := by decide +kernel
theorem dX12_sell_1 : decode cX12_sell 1 = .ok (.iload_n 1, 1) := by decide +kernel
theorem dX12_sell_2 : decode cX12_sell 2 = .ok (.invokevirtual 298, 3) := by decide +kernel
theorem dX12_sell_5 : decode cX12_sell 5 = .ok (.ifCond .eq 22, 3) := by decide +kernel
theorem dX12_sell_8 : decode cX12_sell 8 = .ok (.aload_n 0, 1) := by decide +kernel
theorem dX12_sell_9 : decode cX12_sell 9 = .ok (.getfield 39, 3) := by decide +kernel
theorem dX12_sell_12 : decode cX12_sell 12 = .ok (.bipush 11, 2) := by decide +kernel
theorem dX12_sell_14 : decode cX12_sell 14 = .ok (.iaload, 1) := by decide +kernel
theorem dX12_sell_15 : decode cX12_sell 15 = .ok (.aload_n 0, 1) := by decide +kernel
theorem dX12_sell_16 : decode cX12_sell 16 = .ok (.getfield 39, 3) := by decide +kernel
theorem dX12_sell_19 : decode cX12_sell 19 = .ok (.bipush 56, 2) := by decide +kernel
theorem dX12_sell_21 : decode cX12_sell 21 = .ok (.iload_n 1, 1) := by decide +kernel
theorem dX12_sell_22 : decode cX12_sell 22 = .ok (.iadd, 1) := by decide +kernel
theorem dX12_sell_23 : decode cX12_sell 23 = .ok (.iaload, 1) := by decide +kernel
theorem dX12_sell_24 : decode cX12_sell 24 = .ok (.if_icmp .ge 5, 3) := by decide +kernel
theorem dX12_sell_27 : decode cX12_sell 27 = .ok (.iconst (-1), 1) := by decide +kernel
theorem dX12_sell_28 : decode cX12_sell 28 = .ok (.ireturn, 1) := by decide +kernel
theorem dX12_sell_29 : decode cX12_sell 29 = .ok (.aload_n 0, 1) := by decide +kernel
theorem dX12_sell_30 : decode cX12_sell 30 = .ok (.invokevirtual 351, 3) := by decide +kernel
theorem dX12_sell_33 : decode cX12_sell 33 = .ok (.aload_n 0, 1) := by decide +kernel
theorem dX12_sell_34 : decode cX12_sell 34 = .ok (.iload_n 1, 1) := by decide +kernel
theorem dX12_sell_35 : decode cX12_sell 35 = .ok (.invokevirtual 333, 3) := by decide +kernel
theorem dX12_sell_38 : decode cX12_sell 38 = .ok (.aload_n 0, 1) := by decide +kernel
theorem dX12_sell_39 : decode cX12_sell 39 = .ok (.getfield 39, 3) := by decide +kernel
theorem dX12_sell_42 : decode cX12_sell 42 = .ok (.bipush 11, 2) := by decide +kernel
theorem dX12_sell_44 : decode cX12_sell 44 = .ok (.iaload, 1) := by decide +kernel
theorem dX12_sell_45 : decode cX12_sell 45 = .ok (.ireturn, 1) := by decide +kernel
theorem dX12_undo_0 : decode cX12_undo 0 = .ok (.aload_n 0, 1) := by decide +kernel
theorem dX12_undo_1 : decode cX12_undo 1 = .ok (.getfield 265, 3) := by decide +kernel
theorem dX12_undo_4 : decode cX12_undo 4 = .ok (.ifCond .ne 5, 3) := by decide +kernel
theorem dX12_undo_7 : decode cX12_undo 7 = .ok (.iconst (-1), 1) := by decide +kernel
theorem dX12_undo_8 : decode cX12_undo 8 = .ok (.ireturn, 1) := by decide +kernel
theorem dX12_undo_9 : decode cX12_undo 9 = .ok (.aload_n 0, 1) := by decide +kernel
theorem dX12_undo_10 : decode cX12_undo 10 = .ok (.dup, 1) := by decide +kernel
theorem dX12_undo_11 : decode cX12_undo 11 = .ok (.getfield 265, 3) := by decide +kernel
theorem dX12_undo_14 : decode cX12_undo 14 = .ok (.iconst 1, 1) := by decide +kernel
theorem dX12_undo_15 : decode cX12_undo 15 = .ok (.isub, 1) := by decide +kernel
theorem dX12_undo_16 : decode cX12_undo 16 = .ok (.putfield 265, 3) := by decide +kernel
theorem dX12_undo_19 : decode cX12_undo 19 = .ok (.iconst 0, 1) := by decide +kernel
theorem dX12_undo_20 : decode cX12_undo 20 = .ok (.istore_n 1, 1) := by decide +kernel
theorem dX12_undo_21 : decode cX12_undo 21 = .ok (.iload_n 1, 1) := by decide +kernel
theorem dX12_undo_22 : decode cX12_undo 22 = .ok (.bipush 46, 2) := by decide +kernel
theorem dX12_undo_24 : decode cX12_undo 24 = .ok (.if_icmp .ge 32, 3) := by decide +kernel
theorem dX12_undo_27 : decode cX12_undo 27 = .ok (.aload_n 0, 1) := by decide +kernel
theorem dX12_undo_28 : decode cX12_undo 28 = .ok (.getfield 39, 3) := by decide +kernel
theorem dX12_undo_31 : decode cX12_undo 31 = .ok (.bipush 10, 2) := by decide +kernel
theorem dX12_undo_33 : decode cX12_undo 33 = .ok (.iload_n 1, 1) := by decide +kernel
theorem dX12_undo_34 : decode cX12_undo 34 = .ok (.iadd, 1) := by decide +kernel
theorem dX12_undo_35 : decode cX12_undo 35 = .ok (.aload_n 0, 1) := by decide +kernel
theorem dX12_undo_36 : decode cX12_undo 36 = .ok (.getfield 46, 3) := by decide +kernel
theorem dX12_undo_39 : decode cX12_undo 39 = .ok (.bipush 46, 2) := by decide +kernel
theorem dX12_undo_41 : decode cX12_undo 41 = .ok (.aload_n 0, 1) := by decide +kernel
theorem dX12_undo_42 : decode cX12_undo 42 = .ok (.getfield 265, 3) := by decide +kernel
theorem dX12_undo_45 : decode cX12_undo 45 = .ok (.imul, 1) := by decide +kernel
theorem dX12_undo_46 : decode cX12_undo 46 = .ok (.iload_n 1, 1) := by decide +kernel
theorem dX12_undo_47 : decode cX12_undo 47 = .ok (.iadd, 1) := by decide +kernel
theorem dX12_undo_48 : decode cX12_undo 48 = .ok (.iaload, 1) := by decide +kernel
theorem dX12_undo_49 : decode cX12_undo 49 = .ok (.iastore, 1) := by decide +kernel
theorem dX12_undo_50 : decode cX12_undo 50 = .ok (.iinc 1 1, 3) := by decide +kernel
theorem dX12_undo_53 : decode cX12_undo 53 = .ok (.goto (-32), 3) := by decide +kernel
theorem dX12_undo_56 : decode cX12_undo 56 = .ok (.aload_n 0, 1) := by decide +kernel
theorem dX12_undo_57 : decode cX12_undo 57 = .ok (.getfield 265, 3) := by decide +kernel
theorem dX12_undo_60 : decode cX12_undo 60 = .ok (.ireturn, 1) := by decide +kernel
theorem dX12_watch_0 : decode cX12_watch 0 = .ok (.aload_n 0, 1) := by decide +kernel
theorem dX12_watch_1 : decode cX12_watch 1 = .ok (.iload_n 1, 1) := by decide +kernel
theorem dX12_watch_2 : decode cX12_watch 2 = .ok (.invokevirtual 307, 3) := by decide +kernel
theorem dX12_watch_5 : decode cX12_watch 5 = .ok (.ifCond .eq 11, 3) := by decide +kernel
theorem dX12_watch_8 : decode cX12_watch 8 = .ok (.aload_n 0, 1) := by decide +kernel
theorem dX12_watch_9 : decode cX12_watch 9 = .ok (.iload_n 2, 1) := by decide +kernel
theorem dX12_watch_10 : decode cX12_watch 10 = .ok (.invokevirtual 298, 3) := by decide +kernel
theorem dX12_watch_13 : decode cX12_watch 13 = .ok (.ifCond .ne 5, 3) := by decide +kernel
theorem dX12_watch_16 : decode cX12_watch 16 = .ok (.iconst (-1), 1) := by decide +kernel
theorem dX12_watch_17 : decode cX12_watch 17 = .ok (.ireturn, 1) := by decide +kernel
theorem dX12_watch_18 : decode cX12_watch 18 = .ok (.aload_n 0, 1) := by decide +kernel
theorem dX12_watch_19 : decode cX12_watch 19 = .ok (.invokevirtual 351, 3) := by decide +kernel
theorem dX12_watch_22 : decode cX12_watch 22 = .ok (.aload_n 0, 1) := by decide +kernel
theorem dX12_watch_23 : decode cX12_watch 23 = .ok (.getfield 39, 3) := by decide +kernel
theorem dX12_watch_26 : decode cX12_watch 26 = .ok (.bipush 46, 2) := by decide +kernel
theorem dX12_watch_28 : decode cX12_watch 28 = .ok (.iload_n 1, 1) := by decide +kernel
theorem dX12_watch_29 : decode cX12_watch 29 = .ok (.iadd, 1) := by decide +kernel
theorem dX12_watch_30 : decode cX12_watch 30 = .ok (.dup2, 1) := by decide +kernel
theorem dX12_watch_31 : decode cX12_watch 31 = .ok (.iaload, 1) := by decide +kernel
theorem dX12_watch_32 : decode cX12_watch 32 = .ok (.iconst 1, 1) := by decide +kernel
theorem dX12_watch_33 : decode cX12_watch 33 = .ok (.iload_n 2, 1) := by decide +kernel
theorem dX12_watch_34 : decode cX12_watch 34 = .ok (.ishl, 1) := by decide +kernel
theorem dX12_watch_35 : decode cX12_watch 35 = .ok (.ixor, 1) := by decide +kernel
theorem dX12_watch_36 : decode cX12_watch 36 = .ok (.iastore, 1) := by decide +kernel
theorem dX12_watch_37 : decode cX12_watch 37 = .ok (.aload_n 0, 1) := by decide +kernel
theorem dX12_watch_38 : decode cX12_watch 38 = .ok (.getfield 39, 3) := by decide +kernel
theorem dX12_watch_41 : decode cX12_watch 41 = .ok (.bipush 46, 2) := by decide +kernel
theorem dX12_watch_43 : decode cX12_watch 43 = .ok (.iload_n 1, 1) := by decide +kernel
theorem dX12_watch_44 : decode cX12_watch 44 = .ok (.iadd, 1) := by decide +kernel
theorem dX12_watch_45 : decode cX12_watch 45 = .ok (.iaload, 1) := by decide +kernel
theorem dX12_watch_46 : decode cX12_watch 46 = .ok (.iload_n 2, 1) := by decide +kernel
theorem dX12_watch_47 : decode cX12_watch 47 = .ok (.ishr, 1) := by decide +kernel
theorem dX12_watch_48 : decode cX12_watch 48 = .ok (.iconst 1, 1) := by decide +kernel
theorem dX12_watch_49 : decode cX12_watch 49 = .ok (.iand, 1) := by decide +kernel
theorem dX12_watch_50 : decode cX12_watch 50 = .ok (.ireturn, 1) := by decide +kernel
set_option maxHeartbeats 4000000 in
set_option maxRecDepth 100000 in
theorem ct_X12_keeps {T : Nat → Option Int32} (l : Launch) (D : va_G) (tc : Nat → ClassId) (sk : (Nat → Nat) × (Nat → Nat)) (Ma : Nat → Nat) (Mv : Nat → Int32) (Mf : Nat → Nat → Int32) (Mj : Nat → Int64) (h_said : SaidD T (Mf 10) 999) : Ct l yX12_keeps cX12_keeps 2 none { frames := 0, cells := 0, slots := 0, locals := 0 } D tc sk [.ref (Ma 0)] [((Ma 0), .inr (12, [.ref (Ma 1), .int (Mv 0), .int (Mv 1), .ref (Ma 2), .ref (Ma 3), .ref (Ma 4), .ref (Ma 5), .ref (Ma 6), .int (Mv 2), .int (Mv 3), .int (Mv 4), .int (Mv 5), .int (Mv 6), .int (Mv 7), .int (Mv 8), .ref (Ma 7), .int (Mv 9), .ref (Ma 8), .int (Mv 10), .ref (Ma 9), .ref (Ma 10), .int (Mv 11), .int (Mv 12), .int (Mv 13), .ref (Ma 11), .int (Mv 14), .ref (Ma 12), .ref (Ma 13), .ref (Ma 14), .ref (Ma 15), .ref (Ma 16), .long (Mj 0), .ref (Ma 17), .ref (Ma 18), .ref (Ma 19), .ref (Ma 20)])), ((Ma 10), .inl (tc 0, 126, .inl (Mf 10))), ((Ma 12), .inl (tc 0, 46, .inl (Mf 12)))] (fun (v : Option Value) (oo0x1 : Nat → Int32) => v = none ∧ (KeptD oo0x1)) (fun (oo0x1 : Nat → Int32) => [((Ma 0), .inr (12, [.ref (Ma 1), .int (Mv 0), .int (Mv 1), .ref (Ma 2), .ref (Ma 3), .ref (Ma 4), .ref (Ma 5), .ref (Ma 6), .int (Mv 2), .int (Mv 3), .int (Mv 4), .int (Mv 5), .int (Mv 6), .int (Mv 7), .int (Mv 8), .ref (Ma 7), .int (Mv 9), .ref (Ma 8), .int (Mv 10), .ref (Ma 9), .ref (Ma 10), .int (Mv 11), .int (Mv 12), .int (Mv 13), .ref (Ma 11), .int (Mv 14), .ref (Ma 12), .ref (Ma 13), .ref (Ma 14), .ref (Ma 15), .ref (Ma 16), .long (Mj 0), .ref (Ma 17), .ref (Ma 18), .ref (Ma 19), .ref (Ma 20)])), ((Ma 10), .inl (tc 0, 126, .inl (Mf 10))), ((Ma 12), .inl (tc 0, 46, .inl oo0x1))]) 0 0 := by
  refine Ct.start (by decide) (Nat.le_of_ble_eq_true rfl) (fun p e s m below meth c A ls hx hb hr hlk hin hml hown hts hK hX hP hD hA hl hS => ?_)
  have hl : lv_has ls 2 [(0, .ref (Ma 0))] := hl
  have ar_h_said := SaidD.ar h_said
  refine lv_iconst (v := 0) hx hb dX12_keeps_0 (by decide) ?_
  refine lv_istore_n (lv' := [(1, .int 0), (0, .ref (Ma 0))]) hx hb dX12_keeps_1 rfl hl (by decide) rfl (fun ls hl₀ => ?_)
  replace hl := hl₀
  clear hl₀
  have loop_7 : ∀ (n_5 : Nat) (vy_3 : Int32) (vy_4 : Nat → Int32) (H : Heap) (locs : List Loc) (ls : Array Slot), (46 - (vy_3 : Int32).toInt).toNat < n_5 → (0 ≤ (vy_3 : Int32).toInt) → (KeptK vy_4 vy_3) → va_P D classes [((Ma 0), .inr (12, [.ref (Ma 1), .int (Mv 0), .int (Mv 1), .ref (Ma 2), .ref (Ma 3), .ref (Ma 4), .ref (Ma 5), .ref (Ma 6), .int (Mv 2), .int (Mv 3), .int (Mv 4), .int (Mv 5), .int (Mv 6), .int (Mv 7), .int (Mv 8), .ref (Ma 7), .int (Mv 9), .ref (Ma 8), .int (Mv 10), .ref (Ma 9), .ref (Ma 10), .int (Mv 11), .int (Mv 12), .int (Mv 13), .ref (Ma 11), .int (Mv 14), .ref (Ma 12), .ref (Ma 13), .ref (Ma 14), .ref (Ma 15), .ref (Ma 16), .long (Mj 0), .ref (Ma 17), .ref (Ma 18), .ref (Ma 19), .ref (Ma 20)])), ((Ma 10), .inl (tc 0, 126, .inl (Mf 10))), ((Ma 12), .inl (tc 0, 46, .inl vy_4))] H → va_D A [((Ma 0), .inr (12, [.ref (Ma 1), .int (Mv 0), .int (Mv 1), .ref (Ma 2), .ref (Ma 3), .ref (Ma 4), .ref (Ma 5), .ref (Ma 6), .int (Mv 2), .int (Mv 3), .int (Mv 4), .int (Mv 5), .int (Mv 6), .int (Mv 7), .int (Mv 8), .ref (Ma 7), .int (Mv 9), .ref (Ma 8), .int (Mv 10), .ref (Ma 9), .ref (Ma 10), .int (Mv 11), .int (Mv 12), .int (Mv 13), .ref (Ma 11), .int (Mv 14), .ref (Ma 12), .ref (Ma 13), .ref (Ma 14), .ref (Ma 15), .ref (Ma 16), .long (Mj 0), .ref (Ma 17), .ref (Ma 18), .ref (Ma 19), .ref (Ma 20)])), ((Ma 10), .inl (tc 0, 126, .inl (Mf 10))), ((Ma 12), .inl (tc 0, 46, .inl vy_4))] → va_S A s.heap H locs → lv_has ls 2 [(1, .int vy_3), (0, .ref (Ma 0))] → W p l e ({ frames := 0, cells := 0, slots := 0, locals := 0 }) s m ([.ref (Ma 0)].toArray) below meth c H locs 0 0 (MQ below (QW (fun (v : Option Value) (oo0x1 : Nat → Int32) => v = none ∧ (KeptD oo0x1)) (BW D (fun (oo0x1 : Nat → Int32) => [((Ma 0), .inr (12, [.ref (Ma 1), .int (Mv 0), .int (Mv 1), .ref (Ma 2), .ref (Ma 3), .ref (Ma 4), .ref (Ma 5), .ref (Ma 6), .int (Mv 2), .int (Mv 3), .int (Mv 4), .int (Mv 5), .int (Mv 6), .int (Mv 7), .int (Mv 8), .ref (Ma 7), .int (Mv 9), .ref (Ma 8), .int (Mv 10), .ref (Ma 9), .ref (Ma 10), .int (Mv 11), .int (Mv 12), .int (Mv 13), .ref (Ma 11), .int (Mv 14), .ref (Ma 12), .ref (Ma 13), .ref (Ma 14), .ref (Ma 15), .ref (Ma 16), .long (Mj 0), .ref (Ma 17), .ref (Ma 18), .ref (Ma 19), .ref (Ma 20)])), ((Ma 10), .inl (tc 0, 126, .inl (Mf 10))), ((Ma 12), .inl (tc 0, 46, .inl oo0x1))]) A) A) ([.ref (Ma 0)].toArray) s 0 0 A) (F0 m 2 ls []) := by
    clear hP hD hS hl
    intro n_5
    induction n_5 with
    | zero =>
      intro vy_3 vy_4 H locs ls h1
      exact absurd h1 (Nat.not_lt_zero _)
    | succ n_5 ih_6 =>
      intro vy_3 vy_4 H locs ls hn_10 pf_8 pf_9 hP hD hS hl
      refine lv_iload_n hx hb dX12_keeps_2 rfl (lv_at hl 0 rfl) ?_
      refine lv_bipush (v := 46) hx hb dX12_keeps_3 (by decide) ?_
      refine lv_icmp_ge (tgt := 29) hx hb dX12_keeps_5 (by decide) (fun c_11 => ?_) (fun c_11 => ?_)
      · skip
        have hr_12 : 1 ≤ (vy_3 : Int32).toInt := by
          have z_1 := Int32.le_iff_toInt_le.mp c_11
          have y_46 : (46 : Int32).toInt = 46 := by decide
          omega
        exact retV hx hb hr hlk hP hD hS vy_4 ⟨rfl, (pf_9 hr_12)⟩ [0, 1, 2] rfl rfl dX12_keeps_29 (Nat.le_of_ble_eq_true rfl) (Nat.le_of_ble_eq_true rfl) rfl
      · skip
        refine lv_aload_n hx hb dX12_keeps_8 rfl (lv_at hl 1 rfl) ?_
        refine gf_X12_49 hx hb hts hown hK hP 0 rfl rfl dX12_keeps_9 ?_
        refine lv_iload_n hx hb dX12_keeps_12 rfl (lv_at hl 0 rfl) ?_
        refine lv_aload_n hx hb dX12_keeps_13 rfl (lv_at hl 1 rfl) ?_
        refine gf_X12_39 hx hb hts hown hK hP 0 rfl rfl dX12_keeps_14 ?_
        refine lv_bipush (v := 10) hx hb dX12_keeps_17 (by decide) ?_
        refine lv_iload_n hx hb dX12_keeps_19 rfl (lv_at hl 0 rfl) ?_
        refine lv_iadd hx hb dX12_keeps_20 ?_
        refine lv_topi (fun x_13 ex_13 => ?_)
        have hi_14 : vp_in x_13 126 := by
          have z_1 := Int32.lt_iff_toInt_lt.mp (Int32.not_le.mp c_11)
          have y_46 : (46 : Int32).toInt = 46 := by decide
          have y_10 : (10 : Int32).toInt = 10 := by decide
          have t_x_13 : x_13.toInt = (10 : Int32).toInt + (vy_3 : Int32).toInt := by rw [ex_13]; exact add_toInt (by omega) (by omega)
          refine vp_in_iff.mpr ⟨?_, ?_⟩ <;> omega
        refine va_iald hx hb hK hP 1 0 rfl rfl hi_14 dX12_keeps_21 ?_
        refine lv_topi (fun x_15 ex_15 => ?_)
        have hi_16 : vp_in vy_3 46 := by
          have z_1 := Int32.lt_iff_toInt_lt.mp (Int32.not_le.mp c_11)
          have y_46 : (46 : Int32).toInt = 46 := by decide
          refine vp_in_iff.mpr ⟨?_, ?_⟩ <;> omega
        refine st_int hx hb hK hP hD hS 2 0 rfl rfl hi_16 dX12_keeps_22 (fun g_17 H locs eg_17 hP₀ hD₀ hS₀ => ?_)
        replace hP : va_P D classes [((Ma 0), .inr (12, [.ref (Ma 1), .int (Mv 0), .int (Mv 1), .ref (Ma 2), .ref (Ma 3), .ref (Ma 4), .ref (Ma 5), .ref (Ma 6), .int (Mv 2), .int (Mv 3), .int (Mv 4), .int (Mv 5), .int (Mv 6), .int (Mv 7), .int (Mv 8), .ref (Ma 7), .int (Mv 9), .ref (Ma 8), .int (Mv 10), .ref (Ma 9), .ref (Ma 10), .int (Mv 11), .int (Mv 12), .int (Mv 13), .ref (Ma 11), .int (Mv 14), .ref (Ma 12), .ref (Ma 13), .ref (Ma 14), .ref (Ma 15), .ref (Ma 16), .long (Mj 0), .ref (Ma 17), .ref (Ma 18), .ref (Ma 19), .ref (Ma 20)])), ((Ma 10), .inl (tc 0, 126, .inl (Mf 10))), ((Ma 12), .inl (tc 0, 46, .inl g_17))] H := hP₀
        replace hD : va_D A [((Ma 0), .inr (12, [.ref (Ma 1), .int (Mv 0), .int (Mv 1), .ref (Ma 2), .ref (Ma 3), .ref (Ma 4), .ref (Ma 5), .ref (Ma 6), .int (Mv 2), .int (Mv 3), .int (Mv 4), .int (Mv 5), .int (Mv 6), .int (Mv 7), .int (Mv 8), .ref (Ma 7), .int (Mv 9), .ref (Ma 8), .int (Mv 10), .ref (Ma 9), .ref (Ma 10), .int (Mv 11), .int (Mv 12), .int (Mv 13), .ref (Ma 11), .int (Mv 14), .ref (Ma 12), .ref (Ma 13), .ref (Ma 14), .ref (Ma 15), .ref (Ma 16), .long (Mj 0), .ref (Ma 17), .ref (Ma 18), .ref (Ma 19), .ref (Ma 20)])), ((Ma 10), .inl (tc 0, 126, .inl (Mf 10))), ((Ma 12), .inl (tc 0, 46, .inl g_17))] := hD₀
        replace hS := hS₀
        clear hP₀ hD₀ hS₀
        obtain ⟨x_18, ex_18⟩ : ∃ y : Int32, y = vy_3 + 1 := ⟨_, rfl⟩
        refine lv_iinc (v := x_18) (lv' := [(1, .int x_18), (0, .ref (Ma 0))]) hx hb dX12_keeps_23 hl (k := 0) rfl (by rw [ex_18]; rfl) (by decide) rfl (fun ls hl₀ => ?_)
        replace hl := hl₀
        clear hl₀
        refine lv_goto (tgt := 2) hx hb dX12_keeps_26 (by decide) ?_
        have hb_19 : 46 - (x_18 : Int32).toInt < 46 - (vy_3 : Int32).toInt ∧ 1 ≤ 46 - (vy_3 : Int32).toInt := by
          have z_1 := Int32.lt_iff_toInt_lt.mp (Int32.not_le.mp c_11)
          have y_46 : (46 : Int32).toInt = 46 := by decide
          have y_1 : (1 : Int32).toInt = 1 := by decide
          have t_x_18 : x_18.toInt = (vy_3 : Int32).toInt + (1 : Int32).toInt := by rw [ex_18]; exact add_toInt (by omega) (by omega)
          omega
        have ha_20 : 0 ≤ (x_18 : Int32).toInt := by
          have z_1 := Int32.lt_iff_toInt_lt.mp (Int32.not_le.mp c_11)
          have y_46 : (46 : Int32).toInt = 46 := by decide
          have y_1 : (1 : Int32).toInt = 1 := by decide
          have t_x_18 : x_18.toInt = (vy_3 : Int32).toInt + (1 : Int32).toInt := by rw [ex_18]; exact add_toInt (by omega) (by omega)
          omega
        have hi_22 : (x_13 : Int32).toInt = 10 + (vy_3 : Int32).toInt := by
          have z_1 := Int32.lt_iff_toInt_lt.mp (Int32.not_le.mp c_11)
          have y_46 : (46 : Int32).toInt = 46 := by decide
          have y_10 : (10 : Int32).toInt = 10 := by decide
          have t_x_13 : x_13.toInt = (10 : Int32).toInt + (vy_3 : Int32).toInt := by rw [ex_13]; exact add_toInt (by omega) (by omega)
          omega
        have hr_23 : 0 ≤ (vy_3 : Int32).toInt := by
          have z_1 := Int32.lt_iff_toInt_lt.mp (Int32.not_le.mp c_11)
          have y_46 : (46 : Int32).toInt = 46 := by decide
          omega
        have ha_21 : KeptK g_17 x_18 := KeptK.step pf_9 h_said eg_17 ex_15 hi_22 hr_23
        exact ih_6 x_18 g_17 _ _ _ (by omega) ha_20 ha_21 (hP.sub [0, 1, 2] rfl) (hD.sub [0, 1, 2] rfl rfl) hS (lv_sub hl [0, 1] rfl)
  have ha_24 : 0 ≤ (0 : Int32).toInt := by
    have y_0 : (0 : Int32).toInt = 0 := by decide
    omega
  have ha_25 : KeptK (Mf 12) 0 := fun z => absurd z (by decide)
  exact loop_7 _ 0 (Mf 12) _ _ _ (Nat.lt_succ_self _) ha_24 ha_25 hP hD hS hl
set_option maxRecDepth 100000 in
theorem cu_X12_keeps {T : Nat → Option Int32} (l : Launch) (D : va_G) (tc : Nat → ClassId) (sk : (Nat → Nat) × (Nat → Nat)) (Ma_0 : Nat) (Ma_1 : Nat) (Ma_2 : Nat) (Ma_3 : Nat) (Ma_4 : Nat) (Ma_5 : Nat) (Ma_6 : Nat) (Ma_7 : Nat) (Ma_8 : Nat) (Ma_9 : Nat) (Ma_10 : Nat) (Ma_11 : Nat) (Ma_12 : Nat) (Ma_13 : Nat) (Ma_14 : Nat) (Ma_15 : Nat) (Ma_16 : Nat) (Ma_17 : Nat) (Ma_18 : Nat) (Ma_19 : Nat) (Ma_20 : Nat) (Mv_0 : Int32) (Mv_1 : Int32) (Mv_2 : Int32) (Mv_3 : Int32) (Mv_4 : Int32) (Mv_5 : Int32) (Mv_6 : Int32) (Mv_7 : Int32) (Mv_8 : Int32) (Mv_9 : Int32) (Mv_10 : Int32) (Mv_11 : Int32) (Mv_12 : Int32) (Mv_13 : Int32) (Mv_14 : Int32) (Mf_10 : Nat → Int32) (Mf_12 : Nat → Int32) (Mj_0 : Int64) (h_said : SaidD T Mf_10 999) : Ct l yX12_keeps cX12_keeps 2 none { frames := 0, cells := 0, slots := 0, locals := 0 } D tc sk [.ref Ma_0] [(Ma_0, .inr (12, [.ref Ma_1, .int Mv_0, .int Mv_1, .ref Ma_2, .ref Ma_3, .ref Ma_4, .ref Ma_5, .ref Ma_6, .int Mv_2, .int Mv_3, .int Mv_4, .int Mv_5, .int Mv_6, .int Mv_7, .int Mv_8, .ref Ma_7, .int Mv_9, .ref Ma_8, .int Mv_10, .ref Ma_9, .ref Ma_10, .int Mv_11, .int Mv_12, .int Mv_13, .ref Ma_11, .int Mv_14, .ref Ma_12, .ref Ma_13, .ref Ma_14, .ref Ma_15, .ref Ma_16, .long Mj_0, .ref Ma_17, .ref Ma_18, .ref Ma_19, .ref Ma_20])), (Ma_10, .inl (tc 0, 126, .inl Mf_10)), (Ma_12, .inl (tc 0, 46, .inl Mf_12))] (fun (v : Option Value) (oo0x1 : Nat → Int32) => v = none ∧ (KeptD oo0x1)) (fun (oo0x1 : Nat → Int32) => [(Ma_0, .inr (12, [.ref Ma_1, .int Mv_0, .int Mv_1, .ref Ma_2, .ref Ma_3, .ref Ma_4, .ref Ma_5, .ref Ma_6, .int Mv_2, .int Mv_3, .int Mv_4, .int Mv_5, .int Mv_6, .int Mv_7, .int Mv_8, .ref Ma_7, .int Mv_9, .ref Ma_8, .int Mv_10, .ref Ma_9, .ref Ma_10, .int Mv_11, .int Mv_12, .int Mv_13, .ref Ma_11, .int Mv_14, .ref Ma_12, .ref Ma_13, .ref Ma_14, .ref Ma_15, .ref Ma_16, .long Mj_0, .ref Ma_17, .ref Ma_18, .ref Ma_19, .ref Ma_20])), (Ma_10, .inl (tc 0, 126, .inl Mf_10)), (Ma_12, .inl (tc 0, 46, .inl oo0x1))]) 0 0 :=
  ct_X12_keeps l D tc sk (fun k => ([Ma_0, Ma_1, Ma_2, Ma_3, Ma_4, Ma_5, Ma_6, Ma_7, Ma_8, Ma_9, Ma_10, Ma_11, Ma_12, Ma_13, Ma_14, Ma_15, Ma_16, Ma_17, Ma_18, Ma_19, Ma_20] : List (Nat)).getD k 0) (fun k => ([Mv_0, Mv_1, Mv_2, Mv_3, Mv_4, Mv_5, Mv_6, Mv_7, Mv_8, Mv_9, Mv_10, Mv_11, Mv_12, Mv_13, Mv_14] : List (Int32)).getD k 0) (fun k => ([(fun _ => 0), (fun _ => 0), (fun _ => 0), (fun _ => 0), (fun _ => 0), (fun _ => 0), (fun _ => 0), (fun _ => 0), (fun _ => 0), (fun _ => 0), Mf_10, (fun _ => 0), Mf_12] : List (Nat → Int32)).getD k (fun _ => 0)) (fun k => ([Mj_0] : List (Int64)).getD k 0) h_said
set_option maxHeartbeats 4000000 in
set_option maxRecDepth 100000 in
theorem ct_X12_laysBack {T : Nat → Option Int32} (l : Launch) (D : va_G) (tc : Nat → ClassId) (sk : (Nat → Nat) × (Nat → Nat)) (Ma : Nat → Nat) (Mv : Nat → Int32) (Mf : Nat → Nat → Int32) (Mj : Nat → Int64) (h_said : SaidB T (Mf 10)) (h_kept : KeptD (Mf 12)) : Ct l yX12_laysBack cX12_laysBack 2 none { frames := 0, cells := 0, slots := 0, locals := 0 } D tc sk [.ref (Ma 0)] [((Ma 0), .inr (12, [.ref (Ma 1), .int (Mv 0), .int (Mv 1), .ref (Ma 2), .ref (Ma 3), .ref (Ma 4), .ref (Ma 5), .ref (Ma 6), .int (Mv 2), .int (Mv 3), .int (Mv 4), .int (Mv 5), .int (Mv 6), .int (Mv 7), .int (Mv 8), .ref (Ma 7), .int (Mv 9), .ref (Ma 8), .int (Mv 10), .ref (Ma 9), .ref (Ma 10), .int (Mv 11), .int (Mv 12), .int (Mv 13), .ref (Ma 11), .int (Mv 14), .ref (Ma 12), .ref (Ma 13), .ref (Ma 14), .ref (Ma 15), .ref (Ma 16), .long (Mj 0), .ref (Ma 17), .ref (Ma 18), .ref (Ma 19), .ref (Ma 20)])), ((Ma 10), .inl (tc 0, 126, .inl (Mf 10))), ((Ma 12), .inl (tc 0, 46, .inl (Mf 12)))] (fun (v : Option Value) (oo0x1 : Nat → Int32) => v = none ∧ (SaidD T oo0x1 999)) (fun (oo0x1 : Nat → Int32) => [((Ma 0), .inr (12, [.ref (Ma 1), .int (Mv 0), .int (Mv 1), .ref (Ma 2), .ref (Ma 3), .ref (Ma 4), .ref (Ma 5), .ref (Ma 6), .int (Mv 2), .int (Mv 3), .int (Mv 4), .int (Mv 5), .int (Mv 6), .int (Mv 7), .int (Mv 8), .ref (Ma 7), .int (Mv 9), .ref (Ma 8), .int (Mv 10), .ref (Ma 9), .ref (Ma 10), .int (Mv 11), .int (Mv 12), .int (Mv 13), .ref (Ma 11), .int (Mv 14), .ref (Ma 12), .ref (Ma 13), .ref (Ma 14), .ref (Ma 15), .ref (Ma 16), .long (Mj 0), .ref (Ma 17), .ref (Ma 18), .ref (Ma 19), .ref (Ma 20)])), ((Ma 10), .inl (tc 0, 126, .inl oo0x1)), ((Ma 12), .inl (tc 0, 46, .inl (Mf 12)))]) 0 0 := by
  refine Ct.start (by decide) (Nat.le_of_ble_eq_true rfl) (fun p e s m below meth c A ls hx hb hr hlk hin hml hown hts hK hX hP hD hA hl hS => ?_)
  have hl : lv_has ls 2 [(0, .ref (Ma 0))] := hl
  have ar_h_said := SaidB.ar h_said
  refine lv_iconst (v := 0) hx hb dX12_laysBack_0 (by decide) ?_
  refine lv_istore_n (lv' := [(1, .int 0), (0, .ref (Ma 0))]) hx hb dX12_laysBack_1 rfl hl (by decide) rfl (fun ls hl₀ => ?_)
  replace hl := hl₀
  clear hl₀
  have loop_7 : ∀ (n_5 : Nat) (vy_3 : Int32) (vy_4 : Nat → Int32) (H : Heap) (locs : List Loc) (ls : Array Slot), (46 - (vy_3 : Int32).toInt).toNat < n_5 → (0 ≤ (vy_3 : Int32).toInt) → (LayK T vy_4 vy_3) → va_P D classes [((Ma 0), .inr (12, [.ref (Ma 1), .int (Mv 0), .int (Mv 1), .ref (Ma 2), .ref (Ma 3), .ref (Ma 4), .ref (Ma 5), .ref (Ma 6), .int (Mv 2), .int (Mv 3), .int (Mv 4), .int (Mv 5), .int (Mv 6), .int (Mv 7), .int (Mv 8), .ref (Ma 7), .int (Mv 9), .ref (Ma 8), .int (Mv 10), .ref (Ma 9), .ref (Ma 10), .int (Mv 11), .int (Mv 12), .int (Mv 13), .ref (Ma 11), .int (Mv 14), .ref (Ma 12), .ref (Ma 13), .ref (Ma 14), .ref (Ma 15), .ref (Ma 16), .long (Mj 0), .ref (Ma 17), .ref (Ma 18), .ref (Ma 19), .ref (Ma 20)])), ((Ma 10), .inl (tc 0, 126, .inl vy_4)), ((Ma 12), .inl (tc 0, 46, .inl (Mf 12)))] H → va_D A [((Ma 0), .inr (12, [.ref (Ma 1), .int (Mv 0), .int (Mv 1), .ref (Ma 2), .ref (Ma 3), .ref (Ma 4), .ref (Ma 5), .ref (Ma 6), .int (Mv 2), .int (Mv 3), .int (Mv 4), .int (Mv 5), .int (Mv 6), .int (Mv 7), .int (Mv 8), .ref (Ma 7), .int (Mv 9), .ref (Ma 8), .int (Mv 10), .ref (Ma 9), .ref (Ma 10), .int (Mv 11), .int (Mv 12), .int (Mv 13), .ref (Ma 11), .int (Mv 14), .ref (Ma 12), .ref (Ma 13), .ref (Ma 14), .ref (Ma 15), .ref (Ma 16), .long (Mj 0), .ref (Ma 17), .ref (Ma 18), .ref (Ma 19), .ref (Ma 20)])), ((Ma 10), .inl (tc 0, 126, .inl vy_4)), ((Ma 12), .inl (tc 0, 46, .inl (Mf 12)))] → va_S A s.heap H locs → lv_has ls 2 [(1, .int vy_3), (0, .ref (Ma 0))] → W p l e ({ frames := 0, cells := 0, slots := 0, locals := 0 }) s m ([.ref (Ma 0)].toArray) below meth c H locs 0 0 (MQ below (QW (fun (v : Option Value) (oo0x1 : Nat → Int32) => v = none ∧ (SaidD T oo0x1 999)) (BW D (fun (oo0x1 : Nat → Int32) => [((Ma 0), .inr (12, [.ref (Ma 1), .int (Mv 0), .int (Mv 1), .ref (Ma 2), .ref (Ma 3), .ref (Ma 4), .ref (Ma 5), .ref (Ma 6), .int (Mv 2), .int (Mv 3), .int (Mv 4), .int (Mv 5), .int (Mv 6), .int (Mv 7), .int (Mv 8), .ref (Ma 7), .int (Mv 9), .ref (Ma 8), .int (Mv 10), .ref (Ma 9), .ref (Ma 10), .int (Mv 11), .int (Mv 12), .int (Mv 13), .ref (Ma 11), .int (Mv 14), .ref (Ma 12), .ref (Ma 13), .ref (Ma 14), .ref (Ma 15), .ref (Ma 16), .long (Mj 0), .ref (Ma 17), .ref (Ma 18), .ref (Ma 19), .ref (Ma 20)])), ((Ma 10), .inl (tc 0, 126, .inl oo0x1)), ((Ma 12), .inl (tc 0, 46, .inl (Mf 12)))]) A) A) ([.ref (Ma 0)].toArray) s 0 0 A) (F0 m 2 ls []) := by
    clear hP hD hS hl
    intro n_5
    induction n_5 with
    | zero =>
      intro vy_3 vy_4 H locs ls h1
      exact absurd h1 (Nat.not_lt_zero _)
    | succ n_5 ih_6 =>
      intro vy_3 vy_4 H locs ls hn_10 pf_8 pf_9 hP hD hS hl
      refine lv_iload_n hx hb dX12_laysBack_2 rfl (lv_at hl 0 rfl) ?_
      refine lv_bipush (v := 46) hx hb dX12_laysBack_3 (by decide) ?_
      refine lv_icmp_ge (tgt := 29) hx hb dX12_laysBack_5 (by decide) (fun c_11 => ?_) (fun c_11 => ?_)
      · skip
        have hr_12 : 1 ≤ (vy_3 : Int32).toInt := by
          have z_1 := Int32.le_iff_toInt_le.mp c_11
          have y_46 : (46 : Int32).toInt = 46 := by decide
          omega
        exact retV hx hb hr hlk hP hD hS vy_4 ⟨rfl, (LayK.done pf_9 hr_12)⟩ [0, 1, 2] rfl rfl dX12_laysBack_29 (Nat.le_of_ble_eq_true rfl) (Nat.le_of_ble_eq_true rfl) rfl
      · skip
        refine lv_aload_n hx hb dX12_laysBack_8 rfl (lv_at hl 1 rfl) ?_
        refine gf_X12_39 hx hb hts hown hK hP 0 rfl rfl dX12_laysBack_9 ?_
        refine lv_bipush (v := 10) hx hb dX12_laysBack_12 (by decide) ?_
        refine lv_iload_n hx hb dX12_laysBack_14 rfl (lv_at hl 0 rfl) ?_
        refine lv_iadd hx hb dX12_laysBack_15 ?_
        refine lv_topi (fun x_13 ex_13 => ?_)
        refine lv_aload_n hx hb dX12_laysBack_16 rfl (lv_at hl 1 rfl) ?_
        refine gf_X12_49 hx hb hts hown hK hP 0 rfl rfl dX12_laysBack_17 ?_
        refine lv_iload_n hx hb dX12_laysBack_20 rfl (lv_at hl 0 rfl) ?_
        have hi_14 : vp_in vy_3 46 := by
          have z_1 := Int32.lt_iff_toInt_lt.mp (Int32.not_le.mp c_11)
          have y_46 : (46 : Int32).toInt = 46 := by decide
          refine vp_in_iff.mpr ⟨?_, ?_⟩ <;> omega
        refine va_iald hx hb hK hP 2 0 rfl rfl hi_14 dX12_laysBack_21 ?_
        refine lv_topi (fun x_15 ex_15 => ?_)
        have hi_16 : vp_in x_13 126 := by
          have z_1 := Int32.lt_iff_toInt_lt.mp (Int32.not_le.mp c_11)
          have y_46 : (46 : Int32).toInt = 46 := by decide
          have y_10 : (10 : Int32).toInt = 10 := by decide
          have t_x_13 : x_13.toInt = (10 : Int32).toInt + (vy_3 : Int32).toInt := by rw [ex_13]; exact add_toInt (by omega) (by omega)
          refine vp_in_iff.mpr ⟨?_, ?_⟩ <;> omega
        refine st_int hx hb hK hP hD hS 1 0 rfl rfl hi_16 dX12_laysBack_22 (fun g_17 H locs eg_17 hP₀ hD₀ hS₀ => ?_)
        replace hP : va_P D classes [((Ma 0), .inr (12, [.ref (Ma 1), .int (Mv 0), .int (Mv 1), .ref (Ma 2), .ref (Ma 3), .ref (Ma 4), .ref (Ma 5), .ref (Ma 6), .int (Mv 2), .int (Mv 3), .int (Mv 4), .int (Mv 5), .int (Mv 6), .int (Mv 7), .int (Mv 8), .ref (Ma 7), .int (Mv 9), .ref (Ma 8), .int (Mv 10), .ref (Ma 9), .ref (Ma 10), .int (Mv 11), .int (Mv 12), .int (Mv 13), .ref (Ma 11), .int (Mv 14), .ref (Ma 12), .ref (Ma 13), .ref (Ma 14), .ref (Ma 15), .ref (Ma 16), .long (Mj 0), .ref (Ma 17), .ref (Ma 18), .ref (Ma 19), .ref (Ma 20)])), ((Ma 10), .inl (tc 0, 126, .inl g_17)), ((Ma 12), .inl (tc 0, 46, .inl (Mf 12)))] H := hP₀
        replace hD : va_D A [((Ma 0), .inr (12, [.ref (Ma 1), .int (Mv 0), .int (Mv 1), .ref (Ma 2), .ref (Ma 3), .ref (Ma 4), .ref (Ma 5), .ref (Ma 6), .int (Mv 2), .int (Mv 3), .int (Mv 4), .int (Mv 5), .int (Mv 6), .int (Mv 7), .int (Mv 8), .ref (Ma 7), .int (Mv 9), .ref (Ma 8), .int (Mv 10), .ref (Ma 9), .ref (Ma 10), .int (Mv 11), .int (Mv 12), .int (Mv 13), .ref (Ma 11), .int (Mv 14), .ref (Ma 12), .ref (Ma 13), .ref (Ma 14), .ref (Ma 15), .ref (Ma 16), .long (Mj 0), .ref (Ma 17), .ref (Ma 18), .ref (Ma 19), .ref (Ma 20)])), ((Ma 10), .inl (tc 0, 126, .inl g_17)), ((Ma 12), .inl (tc 0, 46, .inl (Mf 12)))] := hD₀
        replace hS := hS₀
        clear hP₀ hD₀ hS₀
        obtain ⟨x_18, ex_18⟩ : ∃ y : Int32, y = vy_3 + 1 := ⟨_, rfl⟩
        refine lv_iinc (v := x_18) (lv' := [(1, .int x_18), (0, .ref (Ma 0))]) hx hb dX12_laysBack_23 hl (k := 0) rfl (by rw [ex_18]; rfl) (by decide) rfl (fun ls hl₀ => ?_)
        replace hl := hl₀
        clear hl₀
        refine lv_goto (tgt := 2) hx hb dX12_laysBack_26 (by decide) ?_
        have hb_19 : 46 - (x_18 : Int32).toInt < 46 - (vy_3 : Int32).toInt ∧ 1 ≤ 46 - (vy_3 : Int32).toInt := by
          have z_1 := Int32.lt_iff_toInt_lt.mp (Int32.not_le.mp c_11)
          have y_46 : (46 : Int32).toInt = 46 := by decide
          have y_1 : (1 : Int32).toInt = 1 := by decide
          have t_x_18 : x_18.toInt = (vy_3 : Int32).toInt + (1 : Int32).toInt := by rw [ex_18]; exact add_toInt (by omega) (by omega)
          omega
        have ha_20 : 0 ≤ (x_18 : Int32).toInt := by
          have z_1 := Int32.lt_iff_toInt_lt.mp (Int32.not_le.mp c_11)
          have y_46 : (46 : Int32).toInt = 46 := by decide
          have y_1 : (1 : Int32).toInt = 1 := by decide
          have t_x_18 : x_18.toInt = (vy_3 : Int32).toInt + (1 : Int32).toInt := by rw [ex_18]; exact add_toInt (by omega) (by omega)
          omega
        have hi_22 : (x_13 : Int32).toInt = 10 + (vy_3 : Int32).toInt := by
          have z_1 := Int32.lt_iff_toInt_lt.mp (Int32.not_le.mp c_11)
          have y_46 : (46 : Int32).toInt = 46 := by decide
          have y_10 : (10 : Int32).toInt = 10 := by decide
          have t_x_13 : x_13.toInt = (10 : Int32).toInt + (vy_3 : Int32).toInt := by rw [ex_13]; exact add_toInt (by omega) (by omega)
          omega
        have hr_23 : 0 ≤ (vy_3 : Int32).toInt ∧ (vy_3 : Int32).toInt < 46 := by
          have z_1 := Int32.lt_iff_toInt_lt.mp (Int32.not_le.mp c_11)
          have y_46 : (46 : Int32).toInt = 46 := by decide
          omega
        have ha_21 : LayK T g_17 x_18 := LayK.step (f := fun _ => 0) pf_9 (KeptD.x h_kept ex_15) eg_17 hi_22 hr_23
        exact ih_6 x_18 g_17 _ _ _ (by omega) ha_20 ha_21 (hP.sub [0, 1, 2] rfl) (hD.sub [0, 1, 2] rfl rfl) hS (lv_sub hl [0, 1] rfl)
  have ha_24 : 0 ≤ (0 : Int32).toInt := by
    have y_0 : (0 : Int32).toInt = 0 := by decide
    omega
  have ha_25 : LayK T (Mf 10) 0 := ⟨h_said, fun z => absurd z (by decide)⟩
  exact loop_7 _ 0 (Mf 10) _ _ _ (Nat.lt_succ_self _) ha_24 ha_25 hP hD hS hl
set_option maxRecDepth 100000 in
theorem cu_X12_laysBack {T : Nat → Option Int32} (l : Launch) (D : va_G) (tc : Nat → ClassId) (sk : (Nat → Nat) × (Nat → Nat)) (Ma_0 : Nat) (Ma_1 : Nat) (Ma_2 : Nat) (Ma_3 : Nat) (Ma_4 : Nat) (Ma_5 : Nat) (Ma_6 : Nat) (Ma_7 : Nat) (Ma_8 : Nat) (Ma_9 : Nat) (Ma_10 : Nat) (Ma_11 : Nat) (Ma_12 : Nat) (Ma_13 : Nat) (Ma_14 : Nat) (Ma_15 : Nat) (Ma_16 : Nat) (Ma_17 : Nat) (Ma_18 : Nat) (Ma_19 : Nat) (Ma_20 : Nat) (Mv_0 : Int32) (Mv_1 : Int32) (Mv_2 : Int32) (Mv_3 : Int32) (Mv_4 : Int32) (Mv_5 : Int32) (Mv_6 : Int32) (Mv_7 : Int32) (Mv_8 : Int32) (Mv_9 : Int32) (Mv_10 : Int32) (Mv_11 : Int32) (Mv_12 : Int32) (Mv_13 : Int32) (Mv_14 : Int32) (Mf_10 : Nat → Int32) (Mf_12 : Nat → Int32) (Mj_0 : Int64) (h_said : SaidB T Mf_10) (h_kept : KeptD Mf_12) : Ct l yX12_laysBack cX12_laysBack 2 none { frames := 0, cells := 0, slots := 0, locals := 0 } D tc sk [.ref Ma_0] [(Ma_0, .inr (12, [.ref Ma_1, .int Mv_0, .int Mv_1, .ref Ma_2, .ref Ma_3, .ref Ma_4, .ref Ma_5, .ref Ma_6, .int Mv_2, .int Mv_3, .int Mv_4, .int Mv_5, .int Mv_6, .int Mv_7, .int Mv_8, .ref Ma_7, .int Mv_9, .ref Ma_8, .int Mv_10, .ref Ma_9, .ref Ma_10, .int Mv_11, .int Mv_12, .int Mv_13, .ref Ma_11, .int Mv_14, .ref Ma_12, .ref Ma_13, .ref Ma_14, .ref Ma_15, .ref Ma_16, .long Mj_0, .ref Ma_17, .ref Ma_18, .ref Ma_19, .ref Ma_20])), (Ma_10, .inl (tc 0, 126, .inl Mf_10)), (Ma_12, .inl (tc 0, 46, .inl Mf_12))] (fun (v : Option Value) (oo0x1 : Nat → Int32) => v = none ∧ (SaidD T oo0x1 999)) (fun (oo0x1 : Nat → Int32) => [(Ma_0, .inr (12, [.ref Ma_1, .int Mv_0, .int Mv_1, .ref Ma_2, .ref Ma_3, .ref Ma_4, .ref Ma_5, .ref Ma_6, .int Mv_2, .int Mv_3, .int Mv_4, .int Mv_5, .int Mv_6, .int Mv_7, .int Mv_8, .ref Ma_7, .int Mv_9, .ref Ma_8, .int Mv_10, .ref Ma_9, .ref Ma_10, .int Mv_11, .int Mv_12, .int Mv_13, .ref Ma_11, .int Mv_14, .ref Ma_12, .ref Ma_13, .ref Ma_14, .ref Ma_15, .ref Ma_16, .long Mj_0, .ref Ma_17, .ref Ma_18, .ref Ma_19, .ref Ma_20])), (Ma_10, .inl (tc 0, 126, .inl oo0x1)), (Ma_12, .inl (tc 0, 46, .inl Mf_12))]) 0 0 :=
  ct_X12_laysBack l D tc sk (fun k => ([Ma_0, Ma_1, Ma_2, Ma_3, Ma_4, Ma_5, Ma_6, Ma_7, Ma_8, Ma_9, Ma_10, Ma_11, Ma_12, Ma_13, Ma_14, Ma_15, Ma_16, Ma_17, Ma_18, Ma_19, Ma_20] : List (Nat)).getD k 0) (fun k => ([Mv_0, Mv_1, Mv_2, Mv_3, Mv_4, Mv_5, Mv_6, Mv_7, Mv_8, Mv_9, Mv_10, Mv_11, Mv_12, Mv_13, Mv_14] : List (Int32)).getD k 0) (fun k => ([(fun _ => 0), (fun _ => 0), (fun _ => 0), (fun _ => 0), (fun _ => 0), (fun _ => 0), (fun _ => 0), (fun _ => 0), (fun _ => 0), (fun _ => 0), Mf_10, (fun _ => 0), Mf_12] : List (Nat → Int32)).getD k (fun _ => 0)) (fun k => ([Mj_0] : List (Int64)).getD k 0) h_said h_kept
set_option maxHeartbeats 4000000 in
set_option maxRecDepth 100000 in
theorem ct_X12_keepsAct {T : Nat → Option Int32} (l : Launch) (D : va_G) (tc : Nat → ClassId) (sk : (Nat → Nat) × (Nat → Nat)) (Ma : Nat → Nat) (Mv : Nat → Int32) (Mf : Nat → Nat → Int32) (Mj : Nat → Int64) (h_said : SaidD T (Mf 10) 999) (h_was : WasD (Mf 11)) (h_un : 0 ≤ ((Mv 14) : Int32).toInt ∧ ((Mv 14) : Int32).toInt ≤ 20) : Ct l yX12_keepsAct cX12_keepsAct 2 none { frames := 0, cells := 0, slots := 0, locals := 0 } D tc sk [.ref (Ma 0)] [((Ma 0), .inr (12, [.ref (Ma 1), .int (Mv 0), .int (Mv 1), .ref (Ma 2), .ref (Ma 3), .ref (Ma 4), .ref (Ma 5), .ref (Ma 6), .int (Mv 2), .int (Mv 3), .int (Mv 4), .int (Mv 5), .int (Mv 6), .int (Mv 7), .int (Mv 8), .ref (Ma 7), .int (Mv 9), .ref (Ma 8), .int (Mv 10), .ref (Ma 9), .ref (Ma 10), .int (Mv 11), .int (Mv 12), .int (Mv 13), .ref (Ma 11), .int (Mv 14), .ref (Ma 12), .ref (Ma 13), .ref (Ma 14), .ref (Ma 15), .ref (Ma 16), .long (Mj 0), .ref (Ma 17), .ref (Ma 18), .ref (Ma 19), .ref (Ma 20)])), ((Ma 10), .inl (tc 0, 126, .inl (Mf 10))), ((Ma 11), .inl (tc 0, 920, .inl (Mf 11)))] (fun (v : Option Value) (u : (Int32) × (Nat → Int32)) => match u with | (oo0x1, oo0x2) => v = none ∧ (WasD oo0x2) ∧ (0 ≤ (oo0x1 : Int32).toInt ∧ (oo0x1 : Int32).toInt ≤ 20)) (fun (u : (Int32) × (Nat → Int32)) => match u with | (oo0x1, oo0x2) => [((Ma 0), .inr (12, [.ref (Ma 1), .int (Mv 0), .int (Mv 1), .ref (Ma 2), .ref (Ma 3), .ref (Ma 4), .ref (Ma 5), .ref (Ma 6), .int (Mv 2), .int (Mv 3), .int (Mv 4), .int (Mv 5), .int (Mv 6), .int (Mv 7), .int (Mv 8), .ref (Ma 7), .int (Mv 9), .ref (Ma 8), .int (Mv 10), .ref (Ma 9), .ref (Ma 10), .int (Mv 11), .int (Mv 12), .int (Mv 13), .ref (Ma 11), .int oo0x1, .ref (Ma 12), .ref (Ma 13), .ref (Ma 14), .ref (Ma 15), .ref (Ma 16), .long (Mj 0), .ref (Ma 17), .ref (Ma 18), .ref (Ma 19), .ref (Ma 20)])), ((Ma 10), .inl (tc 0, 126, .inl (Mf 10))), ((Ma 11), .inl (tc 0, 920, .inl oo0x2))]) 0 0 := by
  refine Ct.start (by decide) (Nat.le_of_ble_eq_true rfl) (fun p e s m below meth c A ls hx hb hr hlk hin hml hown hts hK hX hP hD hA hl hS => ?_)
  have hl : lv_has ls 2 [(0, .ref (Ma 0))] := hl
  have ar_h_said := SaidD.ar h_said
  refine lv_aload_n hx hb dX12_keepsAct_0 rfl (lv_at hl 0 rfl) ?_
  refine gf_X12_265 hx hb hts hown hK hP 0 rfl rfl dX12_keepsAct_1 ?_
  refine lv_bipush (v := 20) hx hb dX12_keepsAct_4 (by decide) ?_
  refine lv_icmp_ne (tgt := 50) hx hb dX12_keepsAct_6 (by decide) (fun c_1 => ?_) (fun c_1 => ?_)
  · skip
    refine lv_iconst (v := 0) hx hb dX12_keepsAct_50 (by decide) ?_
    refine lv_istore_n (lv' := [(1, .int 0), (0, .ref (Ma 0))]) hx hb dX12_keepsAct_51 rfl hl (by decide) rfl (fun ls hl₀ => ?_)
    replace hl := hl₀
    clear hl₀
    have loop_8 : ∀ (n_6 : Nat) (vy_4 : Int32) (vy_5 : Nat → Int32) (H : Heap) (locs : List Loc) (ls : Array Slot), (46 - (vy_4 : Int32).toInt).toNat < n_6 → (0 ≤ (vy_4 : Int32).toInt) → (WasD vy_5) → va_P D classes [((Ma 0), .inr (12, [.ref (Ma 1), .int (Mv 0), .int (Mv 1), .ref (Ma 2), .ref (Ma 3), .ref (Ma 4), .ref (Ma 5), .ref (Ma 6), .int (Mv 2), .int (Mv 3), .int (Mv 4), .int (Mv 5), .int (Mv 6), .int (Mv 7), .int (Mv 8), .ref (Ma 7), .int (Mv 9), .ref (Ma 8), .int (Mv 10), .ref (Ma 9), .ref (Ma 10), .int (Mv 11), .int (Mv 12), .int (Mv 13), .ref (Ma 11), .int (Mv 14), .ref (Ma 12), .ref (Ma 13), .ref (Ma 14), .ref (Ma 15), .ref (Ma 16), .long (Mj 0), .ref (Ma 17), .ref (Ma 18), .ref (Ma 19), .ref (Ma 20)])), ((Ma 10), .inl (tc 0, 126, .inl (Mf 10))), ((Ma 11), .inl (tc 0, 920, .inl vy_5))] H → va_D A [((Ma 0), .inr (12, [.ref (Ma 1), .int (Mv 0), .int (Mv 1), .ref (Ma 2), .ref (Ma 3), .ref (Ma 4), .ref (Ma 5), .ref (Ma 6), .int (Mv 2), .int (Mv 3), .int (Mv 4), .int (Mv 5), .int (Mv 6), .int (Mv 7), .int (Mv 8), .ref (Ma 7), .int (Mv 9), .ref (Ma 8), .int (Mv 10), .ref (Ma 9), .ref (Ma 10), .int (Mv 11), .int (Mv 12), .int (Mv 13), .ref (Ma 11), .int (Mv 14), .ref (Ma 12), .ref (Ma 13), .ref (Ma 14), .ref (Ma 15), .ref (Ma 16), .long (Mj 0), .ref (Ma 17), .ref (Ma 18), .ref (Ma 19), .ref (Ma 20)])), ((Ma 10), .inl (tc 0, 126, .inl (Mf 10))), ((Ma 11), .inl (tc 0, 920, .inl vy_5))] → va_S A s.heap H locs → lv_has ls 2 [(1, .int vy_4), (0, .ref (Ma 0))] → W p l e ({ frames := 0, cells := 0, slots := 0, locals := 0 }) s m ([.ref (Ma 0)].toArray) below meth c H locs 0 0 (MQ below (QW (fun (v : Option Value) (u : (Int32) × (Nat → Int32)) => match u with | (oo0x1, oo0x2) => v = none ∧ (WasD oo0x2) ∧ (0 ≤ (oo0x1 : Int32).toInt ∧ (oo0x1 : Int32).toInt ≤ 20)) (BW D (fun (u : (Int32) × (Nat → Int32)) => match u with | (oo0x1, oo0x2) => [((Ma 0), .inr (12, [.ref (Ma 1), .int (Mv 0), .int (Mv 1), .ref (Ma 2), .ref (Ma 3), .ref (Ma 4), .ref (Ma 5), .ref (Ma 6), .int (Mv 2), .int (Mv 3), .int (Mv 4), .int (Mv 5), .int (Mv 6), .int (Mv 7), .int (Mv 8), .ref (Ma 7), .int (Mv 9), .ref (Ma 8), .int (Mv 10), .ref (Ma 9), .ref (Ma 10), .int (Mv 11), .int (Mv 12), .int (Mv 13), .ref (Ma 11), .int oo0x1, .ref (Ma 12), .ref (Ma 13), .ref (Ma 14), .ref (Ma 15), .ref (Ma 16), .long (Mj 0), .ref (Ma 17), .ref (Ma 18), .ref (Ma 19), .ref (Ma 20)])), ((Ma 10), .inl (tc 0, 126, .inl (Mf 10))), ((Ma 11), .inl (tc 0, 920, .inl oo0x2))]) A) A) ([.ref (Ma 0)].toArray) s 0 0 A) (F0 m 52 ls []) := by
      clear hP hD hS hl
      intro n_6
      induction n_6 with
      | zero =>
        intro vy_4 vy_5 H locs ls h1
        exact absurd h1 (Nat.not_lt_zero _)
      | succ n_6 ih_7 =>
        intro vy_4 vy_5 H locs ls hn_11 pf_9 pf_10 hP hD hS hl
        refine lv_iload_n hx hb dX12_keepsAct_52 rfl (lv_at hl 0 rfl) ?_
        refine lv_bipush (v := 46) hx hb dX12_keepsAct_53 (by decide) ?_
        refine lv_icmp_ge (tgt := 87) hx hb dX12_keepsAct_55 (by decide) (fun c_12 => ?_) (fun c_12 => ?_)
        · skip
          refine lv_aload_n hx hb dX12_keepsAct_87 rfl (lv_at hl 1 rfl) ?_
          refine lv_dup hx hb dX12_keepsAct_88 rfl ?_
          refine gf_X12_265 hx hb hts hown hK hP 0 rfl rfl dX12_keepsAct_89 ?_
          refine lv_iconst (v := 1) hx hb dX12_keepsAct_92 (by decide) ?_
          refine lv_iadd hx hb dX12_keepsAct_93 ?_
          refine lv_topi (fun x_13 ex_13 => ?_)
          refine pf_X12_265 hx hb hts hown hK hP hD hS 0 rfl (Nat.le_of_ble_eq_true rfl) rfl rfl dX12_keepsAct_94 (fun H locs hP₀ hD₀ hS₀ => ?_)
          replace hP : va_P D classes [((Ma 0), .inr (12, [.ref (Ma 1), .int (Mv 0), .int (Mv 1), .ref (Ma 2), .ref (Ma 3), .ref (Ma 4), .ref (Ma 5), .ref (Ma 6), .int (Mv 2), .int (Mv 3), .int (Mv 4), .int (Mv 5), .int (Mv 6), .int (Mv 7), .int (Mv 8), .ref (Ma 7), .int (Mv 9), .ref (Ma 8), .int (Mv 10), .ref (Ma 9), .ref (Ma 10), .int (Mv 11), .int (Mv 12), .int (Mv 13), .ref (Ma 11), .int x_13, .ref (Ma 12), .ref (Ma 13), .ref (Ma 14), .ref (Ma 15), .ref (Ma 16), .long (Mj 0), .ref (Ma 17), .ref (Ma 18), .ref (Ma 19), .ref (Ma 20)])), ((Ma 10), .inl (tc 0, 126, .inl (Mf 10))), ((Ma 11), .inl (tc 0, 920, .inl vy_5))] H := hP₀
          replace hD : va_D A [((Ma 0), .inr (12, [.ref (Ma 1), .int (Mv 0), .int (Mv 1), .ref (Ma 2), .ref (Ma 3), .ref (Ma 4), .ref (Ma 5), .ref (Ma 6), .int (Mv 2), .int (Mv 3), .int (Mv 4), .int (Mv 5), .int (Mv 6), .int (Mv 7), .int (Mv 8), .ref (Ma 7), .int (Mv 9), .ref (Ma 8), .int (Mv 10), .ref (Ma 9), .ref (Ma 10), .int (Mv 11), .int (Mv 12), .int (Mv 13), .ref (Ma 11), .int x_13, .ref (Ma 12), .ref (Ma 13), .ref (Ma 14), .ref (Ma 15), .ref (Ma 16), .long (Mj 0), .ref (Ma 17), .ref (Ma 18), .ref (Ma 19), .ref (Ma 20)])), ((Ma 10), .inl (tc 0, 126, .inl (Mf 10))), ((Ma 11), .inl (tc 0, 920, .inl vy_5))] := hD₀
          replace hS := hS₀
          clear hP₀ hD₀ hS₀
          have ha_14 : 0 ≤ (x_13 : Int32).toInt ∧ (x_13 : Int32).toInt ≤ 20 := by
            have z_1 : ¬ ((Mv 14) : Int32).toInt = (20 : Int32).toInt := fun z => c_1 (Int32.toInt_inj.mp z)
            have z_2 := Int32.le_iff_toInt_le.mp c_12
            have y_20 : (20 : Int32).toInt = 20 := by decide
            have y_46 : (46 : Int32).toInt = 46 := by decide
            have y_1 : (1 : Int32).toInt = 1 := by decide
            have t_x_13 : x_13.toInt = ((Mv 14) : Int32).toInt + (1 : Int32).toInt := by rw [ex_13]; exact add_toInt (by omega) (by omega)
            omega
          exact retV hx hb hr hlk hP hD hS (x_13, vy_5) ⟨rfl, pf_10, ha_14⟩ [0, 1, 2] rfl rfl dX12_keepsAct_97 (Nat.le_of_ble_eq_true rfl) (Nat.le_of_ble_eq_true rfl) rfl
        · skip
          refine lv_aload_n hx hb dX12_keepsAct_58 rfl (lv_at hl 1 rfl) ?_
          refine gf_X12_46 hx hb hts hown hK hP 0 rfl rfl dX12_keepsAct_59 ?_
          refine lv_bipush (v := 46) hx hb dX12_keepsAct_62 (by decide) ?_
          refine lv_aload_n hx hb dX12_keepsAct_64 rfl (lv_at hl 1 rfl) ?_
          refine gf_X12_265 hx hb hts hown hK hP 0 rfl rfl dX12_keepsAct_65 ?_
          refine lv_imul hx hb dX12_keepsAct_68 ?_
          refine lv_topi (fun x_15 ex_15 => ?_)
          refine lv_iload_n hx hb dX12_keepsAct_69 rfl (lv_at hl 0 rfl) ?_
          refine lv_iadd hx hb dX12_keepsAct_70 ?_
          refine lv_topi (fun x_16 ex_16 => ?_)
          refine lv_aload_n hx hb dX12_keepsAct_71 rfl (lv_at hl 1 rfl) ?_
          refine gf_X12_39 hx hb hts hown hK hP 0 rfl rfl dX12_keepsAct_72 ?_
          refine lv_bipush (v := 10) hx hb dX12_keepsAct_75 (by decide) ?_
          refine lv_iload_n hx hb dX12_keepsAct_77 rfl (lv_at hl 0 rfl) ?_
          refine lv_iadd hx hb dX12_keepsAct_78 ?_
          refine lv_topi (fun x_17 ex_17 => ?_)
          have hi_18 : vp_in x_17 126 := by
            have z_1 : ¬ ((Mv 14) : Int32).toInt = (20 : Int32).toInt := fun z => c_1 (Int32.toInt_inj.mp z)
            have z_2 := Int32.lt_iff_toInt_lt.mp (Int32.not_le.mp c_12)
            have y_20 : (20 : Int32).toInt = 20 := by decide
            have y_46 : (46 : Int32).toInt = 46 := by decide
            have y_10 : (10 : Int32).toInt = 10 := by decide
            have t_x_17 : x_17.toInt = (10 : Int32).toInt + (vy_4 : Int32).toInt := by rw [ex_17]; exact add_toInt (by omega) (by omega)
            refine vp_in_iff.mpr ⟨?_, ?_⟩ <;> omega
          refine va_iald hx hb hK hP 1 0 rfl rfl hi_18 dX12_keepsAct_79 ?_
          refine lv_topi (fun x_19 ex_19 => ?_)
          have hi_20 : vp_in x_16 920 := by
            have z_1 : ¬ ((Mv 14) : Int32).toInt = (20 : Int32).toInt := fun z => c_1 (Int32.toInt_inj.mp z)
            have z_2 := Int32.lt_iff_toInt_lt.mp (Int32.not_le.mp c_12)
            have y_20 : (20 : Int32).toInt = 20 := by decide
            have y_46 : (46 : Int32).toInt = 46 := by decide
            have t_x_15 : x_15.toInt = (46 : Int32).toInt * ((Mv 14) : Int32).toInt := by rw [ex_15]; exact mul_toInt (by first | omega | (rw [y_46]; omega)) (by first | omega | (rw [y_46]; omega))
            rw [y_46] at t_x_15
            have t_x_16 : x_16.toInt = (x_15 : Int32).toInt + (vy_4 : Int32).toInt := by rw [ex_16]; exact add_toInt (by omega) (by omega)
            refine vp_in_iff.mpr ⟨?_, ?_⟩ <;> omega
          refine st_int hx hb hK hP hD hS 2 0 rfl rfl hi_20 dX12_keepsAct_80 (fun g_21 H locs eg_21 hP₀ hD₀ hS₀ => ?_)
          replace hP : va_P D classes [((Ma 0), .inr (12, [.ref (Ma 1), .int (Mv 0), .int (Mv 1), .ref (Ma 2), .ref (Ma 3), .ref (Ma 4), .ref (Ma 5), .ref (Ma 6), .int (Mv 2), .int (Mv 3), .int (Mv 4), .int (Mv 5), .int (Mv 6), .int (Mv 7), .int (Mv 8), .ref (Ma 7), .int (Mv 9), .ref (Ma 8), .int (Mv 10), .ref (Ma 9), .ref (Ma 10), .int (Mv 11), .int (Mv 12), .int (Mv 13), .ref (Ma 11), .int (Mv 14), .ref (Ma 12), .ref (Ma 13), .ref (Ma 14), .ref (Ma 15), .ref (Ma 16), .long (Mj 0), .ref (Ma 17), .ref (Ma 18), .ref (Ma 19), .ref (Ma 20)])), ((Ma 10), .inl (tc 0, 126, .inl (Mf 10))), ((Ma 11), .inl (tc 0, 920, .inl g_21))] H := hP₀
          replace hD : va_D A [((Ma 0), .inr (12, [.ref (Ma 1), .int (Mv 0), .int (Mv 1), .ref (Ma 2), .ref (Ma 3), .ref (Ma 4), .ref (Ma 5), .ref (Ma 6), .int (Mv 2), .int (Mv 3), .int (Mv 4), .int (Mv 5), .int (Mv 6), .int (Mv 7), .int (Mv 8), .ref (Ma 7), .int (Mv 9), .ref (Ma 8), .int (Mv 10), .ref (Ma 9), .ref (Ma 10), .int (Mv 11), .int (Mv 12), .int (Mv 13), .ref (Ma 11), .int (Mv 14), .ref (Ma 12), .ref (Ma 13), .ref (Ma 14), .ref (Ma 15), .ref (Ma 16), .long (Mj 0), .ref (Ma 17), .ref (Ma 18), .ref (Ma 19), .ref (Ma 20)])), ((Ma 10), .inl (tc 0, 126, .inl (Mf 10))), ((Ma 11), .inl (tc 0, 920, .inl g_21))] := hD₀
          replace hS := hS₀
          clear hP₀ hD₀ hS₀
          have hi_23 : (x_16 : Int32).toInt = 46 * ((Mv 14) : Int32).toInt + (vy_4 : Int32).toInt := by
            have z_1 : ¬ ((Mv 14) : Int32).toInt = (20 : Int32).toInt := fun z => c_1 (Int32.toInt_inj.mp z)
            have z_2 := Int32.lt_iff_toInt_lt.mp (Int32.not_le.mp c_12)
            have y_20 : (20 : Int32).toInt = 20 := by decide
            have y_46 : (46 : Int32).toInt = 46 := by decide
            have t_x_15 : x_15.toInt = (46 : Int32).toInt * ((Mv 14) : Int32).toInt := by rw [ex_15]; exact mul_toInt (by first | omega | (rw [y_46]; omega)) (by first | omega | (rw [y_46]; omega))
            rw [y_46] at t_x_15
            have t_x_16 : x_16.toInt = (x_15 : Int32).toInt + (vy_4 : Int32).toInt := by rw [ex_16]; exact add_toInt (by omega) (by omega)
            omega
          have hi_24 : (x_17 : Int32).toInt = 10 + (vy_4 : Int32).toInt := by
            have z_1 : ¬ ((Mv 14) : Int32).toInt = (20 : Int32).toInt := fun z => c_1 (Int32.toInt_inj.mp z)
            have z_2 := Int32.lt_iff_toInt_lt.mp (Int32.not_le.mp c_12)
            have y_20 : (20 : Int32).toInt = 20 := by decide
            have y_46 : (46 : Int32).toInt = 46 := by decide
            have y_10 : (10 : Int32).toInt = 10 := by decide
            have t_x_17 : x_17.toInt = (10 : Int32).toInt + (vy_4 : Int32).toInt := by rw [ex_17]; exact add_toInt (by omega) (by omega)
            omega
          have hr_25 : 0 ≤ (vy_4 : Int32).toInt ∧ (vy_4 : Int32).toInt < 46 := by
            have z_1 : ¬ ((Mv 14) : Int32).toInt = (20 : Int32).toInt := fun z => c_1 (Int32.toInt_inj.mp z)
            have z_2 := Int32.lt_iff_toInt_lt.mp (Int32.not_le.mp c_12)
            have y_20 : (20 : Int32).toInt = 20 := by decide
            have y_46 : (46 : Int32).toInt = 46 := by decide
            omega
          have hr_26 : 0 ≤ ((Mv 14) : Int32).toInt ∧ ((Mv 14) : Int32).toInt < 20 := by
            have z_1 : ¬ ((Mv 14) : Int32).toInt = (20 : Int32).toInt := fun z => c_1 (Int32.toInt_inj.mp z)
            have z_2 := Int32.lt_iff_toInt_lt.mp (Int32.not_le.mp c_12)
            have y_20 : (20 : Int32).toInt = 20 := by decide
            have y_46 : (46 : Int32).toInt = 46 := by decide
            omega
          have pf_22 : WasD g_21 := WasD.put (u := (Mv 14)) pf_10 h_said eg_21 ex_19 hi_23 hi_24 hr_25 hr_26
          obtain ⟨x_27, ex_27⟩ : ∃ y : Int32, y = vy_4 + 1 := ⟨_, rfl⟩
          refine lv_iinc (v := x_27) (lv' := [(1, .int x_27), (0, .ref (Ma 0))]) hx hb dX12_keepsAct_81 hl (k := 0) rfl (by rw [ex_27]; rfl) (by decide) rfl (fun ls hl₀ => ?_)
          replace hl := hl₀
          clear hl₀
          refine lv_goto (tgt := 52) hx hb dX12_keepsAct_84 (by decide) ?_
          have hb_28 : 46 - (x_27 : Int32).toInt < 46 - (vy_4 : Int32).toInt ∧ 1 ≤ 46 - (vy_4 : Int32).toInt := by
            have z_1 : ¬ ((Mv 14) : Int32).toInt = (20 : Int32).toInt := fun z => c_1 (Int32.toInt_inj.mp z)
            have z_2 := Int32.lt_iff_toInt_lt.mp (Int32.not_le.mp c_12)
            have y_20 : (20 : Int32).toInt = 20 := by decide
            have y_46 : (46 : Int32).toInt = 46 := by decide
            have y_1 : (1 : Int32).toInt = 1 := by decide
            have t_x_27 : x_27.toInt = (vy_4 : Int32).toInt + (1 : Int32).toInt := by rw [ex_27]; exact add_toInt (by omega) (by omega)
            omega
          have ha_29 : 0 ≤ (x_27 : Int32).toInt := by
            have z_1 : ¬ ((Mv 14) : Int32).toInt = (20 : Int32).toInt := fun z => c_1 (Int32.toInt_inj.mp z)
            have z_2 := Int32.lt_iff_toInt_lt.mp (Int32.not_le.mp c_12)
            have y_20 : (20 : Int32).toInt = 20 := by decide
            have y_46 : (46 : Int32).toInt = 46 := by decide
            have y_1 : (1 : Int32).toInt = 1 := by decide
            have t_x_27 : x_27.toInt = (vy_4 : Int32).toInt + (1 : Int32).toInt := by rw [ex_27]; exact add_toInt (by omega) (by omega)
            omega
          exact ih_7 x_27 g_21 _ _ _ (by omega) ha_29 pf_22 (hP.sub [0, 1, 2] rfl) (hD.sub [0, 1, 2] rfl rfl) hS (lv_sub hl [0, 1] rfl)
    have ha_30 : 0 ≤ (0 : Int32).toInt := by
      have z_1 : ¬ ((Mv 14) : Int32).toInt = (20 : Int32).toInt := fun z => c_1 (Int32.toInt_inj.mp z)
      have y_20 : (20 : Int32).toInt = 20 := by decide
      have y_0 : (0 : Int32).toInt = 0 := by decide
      omega
    exact loop_8 _ 0 (Mf 11) _ _ _ (Nat.lt_succ_self _) ha_30 h_was hP hD hS hl
  · skip
    refine lv_bipush (v := 46) hx hb dX12_keepsAct_9 (by decide) ?_
    refine lv_istore_n (lv' := [(1, .int 46), (0, .ref (Ma 0))]) hx hb dX12_keepsAct_11 rfl hl (by decide) rfl (fun ls hl₀ => ?_)
    replace hl := hl₀
    clear hl₀
    have loop_37 : ∀ (n_35 : Nat) (vy_33 : Int32) (vy_34 : Nat → Int32) (H : Heap) (locs : List Loc) (ls : Array Slot), (920 - (vy_33 : Int32).toInt).toNat < n_35 → (46 ≤ (vy_33 : Int32).toInt) → (WasD vy_34) → va_P D classes [((Ma 0), .inr (12, [.ref (Ma 1), .int (Mv 0), .int (Mv 1), .ref (Ma 2), .ref (Ma 3), .ref (Ma 4), .ref (Ma 5), .ref (Ma 6), .int (Mv 2), .int (Mv 3), .int (Mv 4), .int (Mv 5), .int (Mv 6), .int (Mv 7), .int (Mv 8), .ref (Ma 7), .int (Mv 9), .ref (Ma 8), .int (Mv 10), .ref (Ma 9), .ref (Ma 10), .int (Mv 11), .int (Mv 12), .int (Mv 13), .ref (Ma 11), .int (Mv 14), .ref (Ma 12), .ref (Ma 13), .ref (Ma 14), .ref (Ma 15), .ref (Ma 16), .long (Mj 0), .ref (Ma 17), .ref (Ma 18), .ref (Ma 19), .ref (Ma 20)])), ((Ma 10), .inl (tc 0, 126, .inl (Mf 10))), ((Ma 11), .inl (tc 0, 920, .inl vy_34))] H → va_D A [((Ma 0), .inr (12, [.ref (Ma 1), .int (Mv 0), .int (Mv 1), .ref (Ma 2), .ref (Ma 3), .ref (Ma 4), .ref (Ma 5), .ref (Ma 6), .int (Mv 2), .int (Mv 3), .int (Mv 4), .int (Mv 5), .int (Mv 6), .int (Mv 7), .int (Mv 8), .ref (Ma 7), .int (Mv 9), .ref (Ma 8), .int (Mv 10), .ref (Ma 9), .ref (Ma 10), .int (Mv 11), .int (Mv 12), .int (Mv 13), .ref (Ma 11), .int (Mv 14), .ref (Ma 12), .ref (Ma 13), .ref (Ma 14), .ref (Ma 15), .ref (Ma 16), .long (Mj 0), .ref (Ma 17), .ref (Ma 18), .ref (Ma 19), .ref (Ma 20)])), ((Ma 10), .inl (tc 0, 126, .inl (Mf 10))), ((Ma 11), .inl (tc 0, 920, .inl vy_34))] → va_S A s.heap H locs → lv_has ls 2 [(1, .int vy_33), (0, .ref (Ma 0))] → W p l e ({ frames := 0, cells := 0, slots := 0, locals := 0 }) s m ([.ref (Ma 0)].toArray) below meth c H locs 0 0 (MQ below (QW (fun (v : Option Value) (u : (Int32) × (Nat → Int32)) => match u with | (oo0x1, oo0x2) => v = none ∧ (WasD oo0x2) ∧ (0 ≤ (oo0x1 : Int32).toInt ∧ (oo0x1 : Int32).toInt ≤ 20)) (BW D (fun (u : (Int32) × (Nat → Int32)) => match u with | (oo0x1, oo0x2) => [((Ma 0), .inr (12, [.ref (Ma 1), .int (Mv 0), .int (Mv 1), .ref (Ma 2), .ref (Ma 3), .ref (Ma 4), .ref (Ma 5), .ref (Ma 6), .int (Mv 2), .int (Mv 3), .int (Mv 4), .int (Mv 5), .int (Mv 6), .int (Mv 7), .int (Mv 8), .ref (Ma 7), .int (Mv 9), .ref (Ma 8), .int (Mv 10), .ref (Ma 9), .ref (Ma 10), .int (Mv 11), .int (Mv 12), .int (Mv 13), .ref (Ma 11), .int oo0x1, .ref (Ma 12), .ref (Ma 13), .ref (Ma 14), .ref (Ma 15), .ref (Ma 16), .long (Mj 0), .ref (Ma 17), .ref (Ma 18), .ref (Ma 19), .ref (Ma 20)])), ((Ma 10), .inl (tc 0, 126, .inl (Mf 10))), ((Ma 11), .inl (tc 0, 920, .inl oo0x2))]) A) A) ([.ref (Ma 0)].toArray) s 0 0 A) (F0 m 12 ls []) := by
      clear hP hD hS hl
      intro n_35
      induction n_35 with
      | zero =>
        intro vy_33 vy_34 H locs ls h1
        exact absurd h1 (Nat.not_lt_zero _)
      | succ n_35 ih_36 =>
        intro vy_33 vy_34 H locs ls hn_40 pf_38 pf_39 hP hD hS hl
        refine lv_iload_n hx hb dX12_keepsAct_12 rfl (lv_at hl 0 rfl) ?_
        refine lv_sipush (v := 920) hx hb dX12_keepsAct_13 (by decide) ?_
        refine lv_icmp_ge (tgt := 40) hx hb dX12_keepsAct_16 (by decide) (fun c_41 => ?_) (fun c_41 => ?_)
        · skip
          refine lv_aload_n hx hb dX12_keepsAct_40 rfl (lv_at hl 1 rfl) ?_
          refine lv_dup hx hb dX12_keepsAct_41 rfl ?_
          refine gf_X12_265 hx hb hts hown hK hP 0 rfl rfl dX12_keepsAct_42 ?_
          refine lv_iconst (v := 1) hx hb dX12_keepsAct_45 (by decide) ?_
          refine lv_isub hx hb dX12_keepsAct_46 ?_
          refine lv_topi (fun x_42 ex_42 => ?_)
          refine pf_X12_265 hx hb hts hown hK hP hD hS 0 rfl (Nat.le_of_ble_eq_true rfl) rfl rfl dX12_keepsAct_47 (fun H locs hP₀ hD₀ hS₀ => ?_)
          replace hP : va_P D classes [((Ma 0), .inr (12, [.ref (Ma 1), .int (Mv 0), .int (Mv 1), .ref (Ma 2), .ref (Ma 3), .ref (Ma 4), .ref (Ma 5), .ref (Ma 6), .int (Mv 2), .int (Mv 3), .int (Mv 4), .int (Mv 5), .int (Mv 6), .int (Mv 7), .int (Mv 8), .ref (Ma 7), .int (Mv 9), .ref (Ma 8), .int (Mv 10), .ref (Ma 9), .ref (Ma 10), .int (Mv 11), .int (Mv 12), .int (Mv 13), .ref (Ma 11), .int x_42, .ref (Ma 12), .ref (Ma 13), .ref (Ma 14), .ref (Ma 15), .ref (Ma 16), .long (Mj 0), .ref (Ma 17), .ref (Ma 18), .ref (Ma 19), .ref (Ma 20)])), ((Ma 10), .inl (tc 0, 126, .inl (Mf 10))), ((Ma 11), .inl (tc 0, 920, .inl vy_34))] H := hP₀
          replace hD : va_D A [((Ma 0), .inr (12, [.ref (Ma 1), .int (Mv 0), .int (Mv 1), .ref (Ma 2), .ref (Ma 3), .ref (Ma 4), .ref (Ma 5), .ref (Ma 6), .int (Mv 2), .int (Mv 3), .int (Mv 4), .int (Mv 5), .int (Mv 6), .int (Mv 7), .int (Mv 8), .ref (Ma 7), .int (Mv 9), .ref (Ma 8), .int (Mv 10), .ref (Ma 9), .ref (Ma 10), .int (Mv 11), .int (Mv 12), .int (Mv 13), .ref (Ma 11), .int x_42, .ref (Ma 12), .ref (Ma 13), .ref (Ma 14), .ref (Ma 15), .ref (Ma 16), .long (Mj 0), .ref (Ma 17), .ref (Ma 18), .ref (Ma 19), .ref (Ma 20)])), ((Ma 10), .inl (tc 0, 126, .inl (Mf 10))), ((Ma 11), .inl (tc 0, 920, .inl vy_34))] := hD₀
          replace hS := hS₀
          clear hP₀ hD₀ hS₀
          refine lv_iconst (v := 0) hx hb dX12_keepsAct_50 (by decide) ?_
          refine lv_istore_n (lv' := [(1, .int 0), (0, .ref (Ma 0))]) hx hb dX12_keepsAct_51 rfl hl (by decide) rfl (fun ls hl₀ => ?_)
          replace hl := hl₀
          clear hl₀
          have loop_49 : ∀ (n_47 : Nat) (vy_45 : Int32) (vy_46 : Nat → Int32) (H : Heap) (locs : List Loc) (ls : Array Slot), (46 - (vy_45 : Int32).toInt).toNat < n_47 → (0 ≤ (vy_45 : Int32).toInt) → (WasD vy_46) → va_P D classes [((Ma 0), .inr (12, [.ref (Ma 1), .int (Mv 0), .int (Mv 1), .ref (Ma 2), .ref (Ma 3), .ref (Ma 4), .ref (Ma 5), .ref (Ma 6), .int (Mv 2), .int (Mv 3), .int (Mv 4), .int (Mv 5), .int (Mv 6), .int (Mv 7), .int (Mv 8), .ref (Ma 7), .int (Mv 9), .ref (Ma 8), .int (Mv 10), .ref (Ma 9), .ref (Ma 10), .int (Mv 11), .int (Mv 12), .int (Mv 13), .ref (Ma 11), .int x_42, .ref (Ma 12), .ref (Ma 13), .ref (Ma 14), .ref (Ma 15), .ref (Ma 16), .long (Mj 0), .ref (Ma 17), .ref (Ma 18), .ref (Ma 19), .ref (Ma 20)])), ((Ma 10), .inl (tc 0, 126, .inl (Mf 10))), ((Ma 11), .inl (tc 0, 920, .inl vy_46))] H → va_D A [((Ma 0), .inr (12, [.ref (Ma 1), .int (Mv 0), .int (Mv 1), .ref (Ma 2), .ref (Ma 3), .ref (Ma 4), .ref (Ma 5), .ref (Ma 6), .int (Mv 2), .int (Mv 3), .int (Mv 4), .int (Mv 5), .int (Mv 6), .int (Mv 7), .int (Mv 8), .ref (Ma 7), .int (Mv 9), .ref (Ma 8), .int (Mv 10), .ref (Ma 9), .ref (Ma 10), .int (Mv 11), .int (Mv 12), .int (Mv 13), .ref (Ma 11), .int x_42, .ref (Ma 12), .ref (Ma 13), .ref (Ma 14), .ref (Ma 15), .ref (Ma 16), .long (Mj 0), .ref (Ma 17), .ref (Ma 18), .ref (Ma 19), .ref (Ma 20)])), ((Ma 10), .inl (tc 0, 126, .inl (Mf 10))), ((Ma 11), .inl (tc 0, 920, .inl vy_46))] → va_S A s.heap H locs → lv_has ls 2 [(1, .int vy_45), (0, .ref (Ma 0))] → W p l e ({ frames := 0, cells := 0, slots := 0, locals := 0 }) s m ([.ref (Ma 0)].toArray) below meth c H locs 0 0 (MQ below (QW (fun (v : Option Value) (u : (Int32) × (Nat → Int32)) => match u with | (oo0x1, oo0x2) => v = none ∧ (WasD oo0x2) ∧ (0 ≤ (oo0x1 : Int32).toInt ∧ (oo0x1 : Int32).toInt ≤ 20)) (BW D (fun (u : (Int32) × (Nat → Int32)) => match u with | (oo0x1, oo0x2) => [((Ma 0), .inr (12, [.ref (Ma 1), .int (Mv 0), .int (Mv 1), .ref (Ma 2), .ref (Ma 3), .ref (Ma 4), .ref (Ma 5), .ref (Ma 6), .int (Mv 2), .int (Mv 3), .int (Mv 4), .int (Mv 5), .int (Mv 6), .int (Mv 7), .int (Mv 8), .ref (Ma 7), .int (Mv 9), .ref (Ma 8), .int (Mv 10), .ref (Ma 9), .ref (Ma 10), .int (Mv 11), .int (Mv 12), .int (Mv 13), .ref (Ma 11), .int oo0x1, .ref (Ma 12), .ref (Ma 13), .ref (Ma 14), .ref (Ma 15), .ref (Ma 16), .long (Mj 0), .ref (Ma 17), .ref (Ma 18), .ref (Ma 19), .ref (Ma 20)])), ((Ma 10), .inl (tc 0, 126, .inl (Mf 10))), ((Ma 11), .inl (tc 0, 920, .inl oo0x2))]) A) A) ([.ref (Ma 0)].toArray) s 0 0 A) (F0 m 52 ls []) := by
            clear hP hD hS hl
            intro n_47
            induction n_47 with
            | zero =>
              intro vy_45 vy_46 H locs ls h1
              exact absurd h1 (Nat.not_lt_zero _)
            | succ n_47 ih_48 =>
              intro vy_45 vy_46 H locs ls hn_52 pf_50 pf_51 hP hD hS hl
              refine lv_iload_n hx hb dX12_keepsAct_52 rfl (lv_at hl 0 rfl) ?_
              refine lv_bipush (v := 46) hx hb dX12_keepsAct_53 (by decide) ?_
              refine lv_icmp_ge (tgt := 87) hx hb dX12_keepsAct_55 (by decide) (fun c_53 => ?_) (fun c_53 => ?_)
              · skip
                refine lv_aload_n hx hb dX12_keepsAct_87 rfl (lv_at hl 1 rfl) ?_
                refine lv_dup hx hb dX12_keepsAct_88 rfl ?_
                refine gf_X12_265 hx hb hts hown hK hP 0 rfl rfl dX12_keepsAct_89 ?_
                refine lv_iconst (v := 1) hx hb dX12_keepsAct_92 (by decide) ?_
                refine lv_iadd hx hb dX12_keepsAct_93 ?_
                refine lv_topi (fun x_54 ex_54 => ?_)
                refine pf_X12_265 hx hb hts hown hK hP hD hS 0 rfl (Nat.le_of_ble_eq_true rfl) rfl rfl dX12_keepsAct_94 (fun H locs hP₀ hD₀ hS₀ => ?_)
                replace hP : va_P D classes [((Ma 0), .inr (12, [.ref (Ma 1), .int (Mv 0), .int (Mv 1), .ref (Ma 2), .ref (Ma 3), .ref (Ma 4), .ref (Ma 5), .ref (Ma 6), .int (Mv 2), .int (Mv 3), .int (Mv 4), .int (Mv 5), .int (Mv 6), .int (Mv 7), .int (Mv 8), .ref (Ma 7), .int (Mv 9), .ref (Ma 8), .int (Mv 10), .ref (Ma 9), .ref (Ma 10), .int (Mv 11), .int (Mv 12), .int (Mv 13), .ref (Ma 11), .int x_54, .ref (Ma 12), .ref (Ma 13), .ref (Ma 14), .ref (Ma 15), .ref (Ma 16), .long (Mj 0), .ref (Ma 17), .ref (Ma 18), .ref (Ma 19), .ref (Ma 20)])), ((Ma 10), .inl (tc 0, 126, .inl (Mf 10))), ((Ma 11), .inl (tc 0, 920, .inl vy_46))] H := hP₀
                replace hD : va_D A [((Ma 0), .inr (12, [.ref (Ma 1), .int (Mv 0), .int (Mv 1), .ref (Ma 2), .ref (Ma 3), .ref (Ma 4), .ref (Ma 5), .ref (Ma 6), .int (Mv 2), .int (Mv 3), .int (Mv 4), .int (Mv 5), .int (Mv 6), .int (Mv 7), .int (Mv 8), .ref (Ma 7), .int (Mv 9), .ref (Ma 8), .int (Mv 10), .ref (Ma 9), .ref (Ma 10), .int (Mv 11), .int (Mv 12), .int (Mv 13), .ref (Ma 11), .int x_54, .ref (Ma 12), .ref (Ma 13), .ref (Ma 14), .ref (Ma 15), .ref (Ma 16), .long (Mj 0), .ref (Ma 17), .ref (Ma 18), .ref (Ma 19), .ref (Ma 20)])), ((Ma 10), .inl (tc 0, 126, .inl (Mf 10))), ((Ma 11), .inl (tc 0, 920, .inl vy_46))] := hD₀
                replace hS := hS₀
                clear hP₀ hD₀ hS₀
                have ha_55 : 0 ≤ (x_54 : Int32).toInt ∧ (x_54 : Int32).toInt ≤ 20 := by
                  have z_1 := congrArg Int32.toInt c_1
                  have z_2 := Int32.le_iff_toInt_le.mp c_41
                  have z_3 := Int32.le_iff_toInt_le.mp c_53
                  have y_20 : (20 : Int32).toInt = 20 := by decide
                  have y_46 : (46 : Int32).toInt = 46 := by decide
                  have y_920 : (920 : Int32).toInt = 920 := by decide
                  have y_1 : (1 : Int32).toInt = 1 := by decide
                  have t_x_42 : x_42.toInt = ((Mv 14) : Int32).toInt - (1 : Int32).toInt := by rw [ex_42]; exact sub_toInt (by omega) (by omega)
                  have t_x_54 : x_54.toInt = (x_42 : Int32).toInt + (1 : Int32).toInt := by rw [ex_54]; exact add_toInt (by omega) (by omega)
                  omega
                exact retV hx hb hr hlk hP hD hS (x_54, vy_46) ⟨rfl, pf_51, ha_55⟩ [0, 1, 2] rfl rfl dX12_keepsAct_97 (Nat.le_of_ble_eq_true rfl) (Nat.le_of_ble_eq_true rfl) rfl
              · skip
                refine lv_aload_n hx hb dX12_keepsAct_58 rfl (lv_at hl 1 rfl) ?_
                refine gf_X12_46 hx hb hts hown hK hP 0 rfl rfl dX12_keepsAct_59 ?_
                refine lv_bipush (v := 46) hx hb dX12_keepsAct_62 (by decide) ?_
                refine lv_aload_n hx hb dX12_keepsAct_64 rfl (lv_at hl 1 rfl) ?_
                refine gf_X12_265 hx hb hts hown hK hP 0 rfl rfl dX12_keepsAct_65 ?_
                refine lv_imul hx hb dX12_keepsAct_68 ?_
                refine lv_topi (fun x_56 ex_56 => ?_)
                refine lv_iload_n hx hb dX12_keepsAct_69 rfl (lv_at hl 0 rfl) ?_
                refine lv_iadd hx hb dX12_keepsAct_70 ?_
                refine lv_topi (fun x_57 ex_57 => ?_)
                refine lv_aload_n hx hb dX12_keepsAct_71 rfl (lv_at hl 1 rfl) ?_
                refine gf_X12_39 hx hb hts hown hK hP 0 rfl rfl dX12_keepsAct_72 ?_
                refine lv_bipush (v := 10) hx hb dX12_keepsAct_75 (by decide) ?_
                refine lv_iload_n hx hb dX12_keepsAct_77 rfl (lv_at hl 0 rfl) ?_
                refine lv_iadd hx hb dX12_keepsAct_78 ?_
                refine lv_topi (fun x_58 ex_58 => ?_)
                have hi_59 : vp_in x_58 126 := by
                  have z_1 := congrArg Int32.toInt c_1
                  have z_2 := Int32.le_iff_toInt_le.mp c_41
                  have z_3 := Int32.lt_iff_toInt_lt.mp (Int32.not_le.mp c_53)
                  have y_20 : (20 : Int32).toInt = 20 := by decide
                  have y_46 : (46 : Int32).toInt = 46 := by decide
                  have y_920 : (920 : Int32).toInt = 920 := by decide
                  have y_10 : (10 : Int32).toInt = 10 := by decide
                  have t_x_58 : x_58.toInt = (10 : Int32).toInt + (vy_45 : Int32).toInt := by rw [ex_58]; exact add_toInt (by omega) (by omega)
                  refine vp_in_iff.mpr ⟨?_, ?_⟩ <;> omega
                refine va_iald hx hb hK hP 1 0 rfl rfl hi_59 dX12_keepsAct_79 ?_
                refine lv_topi (fun x_60 ex_60 => ?_)
                have hi_61 : vp_in x_57 920 := by
                  have z_1 := congrArg Int32.toInt c_1
                  have z_2 := Int32.le_iff_toInt_le.mp c_41
                  have z_3 := Int32.lt_iff_toInt_lt.mp (Int32.not_le.mp c_53)
                  have y_20 : (20 : Int32).toInt = 20 := by decide
                  have y_46 : (46 : Int32).toInt = 46 := by decide
                  have y_920 : (920 : Int32).toInt = 920 := by decide
                  have y_1 : (1 : Int32).toInt = 1 := by decide
                  have t_x_42 : x_42.toInt = ((Mv 14) : Int32).toInt - (1 : Int32).toInt := by rw [ex_42]; exact sub_toInt (by omega) (by omega)
                  have t_x_56 : x_56.toInt = (46 : Int32).toInt * (x_42 : Int32).toInt := by rw [ex_56]; exact mul_toInt (by first | omega | (rw [y_46]; omega)) (by first | omega | (rw [y_46]; omega))
                  rw [y_46] at t_x_56
                  have t_x_57 : x_57.toInt = (x_56 : Int32).toInt + (vy_45 : Int32).toInt := by rw [ex_57]; exact add_toInt (by omega) (by omega)
                  refine vp_in_iff.mpr ⟨?_, ?_⟩ <;> omega
                refine st_int hx hb hK hP hD hS 2 0 rfl rfl hi_61 dX12_keepsAct_80 (fun g_62 H locs eg_62 hP₀ hD₀ hS₀ => ?_)
                replace hP : va_P D classes [((Ma 0), .inr (12, [.ref (Ma 1), .int (Mv 0), .int (Mv 1), .ref (Ma 2), .ref (Ma 3), .ref (Ma 4), .ref (Ma 5), .ref (Ma 6), .int (Mv 2), .int (Mv 3), .int (Mv 4), .int (Mv 5), .int (Mv 6), .int (Mv 7), .int (Mv 8), .ref (Ma 7), .int (Mv 9), .ref (Ma 8), .int (Mv 10), .ref (Ma 9), .ref (Ma 10), .int (Mv 11), .int (Mv 12), .int (Mv 13), .ref (Ma 11), .int x_42, .ref (Ma 12), .ref (Ma 13), .ref (Ma 14), .ref (Ma 15), .ref (Ma 16), .long (Mj 0), .ref (Ma 17), .ref (Ma 18), .ref (Ma 19), .ref (Ma 20)])), ((Ma 10), .inl (tc 0, 126, .inl (Mf 10))), ((Ma 11), .inl (tc 0, 920, .inl g_62))] H := hP₀
                replace hD : va_D A [((Ma 0), .inr (12, [.ref (Ma 1), .int (Mv 0), .int (Mv 1), .ref (Ma 2), .ref (Ma 3), .ref (Ma 4), .ref (Ma 5), .ref (Ma 6), .int (Mv 2), .int (Mv 3), .int (Mv 4), .int (Mv 5), .int (Mv 6), .int (Mv 7), .int (Mv 8), .ref (Ma 7), .int (Mv 9), .ref (Ma 8), .int (Mv 10), .ref (Ma 9), .ref (Ma 10), .int (Mv 11), .int (Mv 12), .int (Mv 13), .ref (Ma 11), .int x_42, .ref (Ma 12), .ref (Ma 13), .ref (Ma 14), .ref (Ma 15), .ref (Ma 16), .long (Mj 0), .ref (Ma 17), .ref (Ma 18), .ref (Ma 19), .ref (Ma 20)])), ((Ma 10), .inl (tc 0, 126, .inl (Mf 10))), ((Ma 11), .inl (tc 0, 920, .inl g_62))] := hD₀
                replace hS := hS₀
                clear hP₀ hD₀ hS₀
                have hi_64 : (x_57 : Int32).toInt = 46 * (x_42 : Int32).toInt + (vy_45 : Int32).toInt := by
                  have z_1 := congrArg Int32.toInt c_1
                  have z_2 := Int32.le_iff_toInt_le.mp c_41
                  have z_3 := Int32.lt_iff_toInt_lt.mp (Int32.not_le.mp c_53)
                  have y_20 : (20 : Int32).toInt = 20 := by decide
                  have y_46 : (46 : Int32).toInt = 46 := by decide
                  have y_920 : (920 : Int32).toInt = 920 := by decide
                  have y_1 : (1 : Int32).toInt = 1 := by decide
                  have t_x_42 : x_42.toInt = ((Mv 14) : Int32).toInt - (1 : Int32).toInt := by rw [ex_42]; exact sub_toInt (by omega) (by omega)
                  have t_x_56 : x_56.toInt = (46 : Int32).toInt * (x_42 : Int32).toInt := by rw [ex_56]; exact mul_toInt (by first | omega | (rw [y_46]; omega)) (by first | omega | (rw [y_46]; omega))
                  rw [y_46] at t_x_56
                  have t_x_57 : x_57.toInt = (x_56 : Int32).toInt + (vy_45 : Int32).toInt := by rw [ex_57]; exact add_toInt (by omega) (by omega)
                  omega
                have hi_65 : (x_58 : Int32).toInt = 10 + (vy_45 : Int32).toInt := by
                  have z_1 := congrArg Int32.toInt c_1
                  have z_2 := Int32.le_iff_toInt_le.mp c_41
                  have z_3 := Int32.lt_iff_toInt_lt.mp (Int32.not_le.mp c_53)
                  have y_20 : (20 : Int32).toInt = 20 := by decide
                  have y_46 : (46 : Int32).toInt = 46 := by decide
                  have y_920 : (920 : Int32).toInt = 920 := by decide
                  have y_10 : (10 : Int32).toInt = 10 := by decide
                  have t_x_58 : x_58.toInt = (10 : Int32).toInt + (vy_45 : Int32).toInt := by rw [ex_58]; exact add_toInt (by omega) (by omega)
                  omega
                have hr_66 : 0 ≤ (vy_45 : Int32).toInt ∧ (vy_45 : Int32).toInt < 46 := by
                  have z_1 := congrArg Int32.toInt c_1
                  have z_2 := Int32.le_iff_toInt_le.mp c_41
                  have z_3 := Int32.lt_iff_toInt_lt.mp (Int32.not_le.mp c_53)
                  have y_20 : (20 : Int32).toInt = 20 := by decide
                  have y_46 : (46 : Int32).toInt = 46 := by decide
                  have y_920 : (920 : Int32).toInt = 920 := by decide
                  omega
                have hr_67 : 0 ≤ (x_42 : Int32).toInt ∧ (x_42 : Int32).toInt < 20 := by
                  have z_1 := congrArg Int32.toInt c_1
                  have z_2 := Int32.le_iff_toInt_le.mp c_41
                  have z_3 := Int32.lt_iff_toInt_lt.mp (Int32.not_le.mp c_53)
                  have y_20 : (20 : Int32).toInt = 20 := by decide
                  have y_46 : (46 : Int32).toInt = 46 := by decide
                  have y_920 : (920 : Int32).toInt = 920 := by decide
                  have y_1 : (1 : Int32).toInt = 1 := by decide
                  have t_x_42 : x_42.toInt = ((Mv 14) : Int32).toInt - (1 : Int32).toInt := by rw [ex_42]; exact sub_toInt (by omega) (by omega)
                  omega
                have pf_63 : WasD g_62 := WasD.put (u := x_42) pf_51 h_said eg_62 ex_60 hi_64 hi_65 hr_66 hr_67
                obtain ⟨x_68, ex_68⟩ : ∃ y : Int32, y = vy_45 + 1 := ⟨_, rfl⟩
                refine lv_iinc (v := x_68) (lv' := [(1, .int x_68), (0, .ref (Ma 0))]) hx hb dX12_keepsAct_81 hl (k := 0) rfl (by rw [ex_68]; rfl) (by decide) rfl (fun ls hl₀ => ?_)
                replace hl := hl₀
                clear hl₀
                refine lv_goto (tgt := 52) hx hb dX12_keepsAct_84 (by decide) ?_
                have hb_69 : 46 - (x_68 : Int32).toInt < 46 - (vy_45 : Int32).toInt ∧ 1 ≤ 46 - (vy_45 : Int32).toInt := by
                  have z_1 := congrArg Int32.toInt c_1
                  have z_2 := Int32.le_iff_toInt_le.mp c_41
                  have z_3 := Int32.lt_iff_toInt_lt.mp (Int32.not_le.mp c_53)
                  have y_20 : (20 : Int32).toInt = 20 := by decide
                  have y_46 : (46 : Int32).toInt = 46 := by decide
                  have y_920 : (920 : Int32).toInt = 920 := by decide
                  have y_1 : (1 : Int32).toInt = 1 := by decide
                  have t_x_68 : x_68.toInt = (vy_45 : Int32).toInt + (1 : Int32).toInt := by rw [ex_68]; exact add_toInt (by omega) (by omega)
                  omega
                have ha_70 : 0 ≤ (x_68 : Int32).toInt := by
                  have z_1 := congrArg Int32.toInt c_1
                  have z_2 := Int32.le_iff_toInt_le.mp c_41
                  have z_3 := Int32.lt_iff_toInt_lt.mp (Int32.not_le.mp c_53)
                  have y_20 : (20 : Int32).toInt = 20 := by decide
                  have y_46 : (46 : Int32).toInt = 46 := by decide
                  have y_920 : (920 : Int32).toInt = 920 := by decide
                  have y_1 : (1 : Int32).toInt = 1 := by decide
                  have t_x_68 : x_68.toInt = (vy_45 : Int32).toInt + (1 : Int32).toInt := by rw [ex_68]; exact add_toInt (by omega) (by omega)
                  omega
                exact ih_48 x_68 g_62 _ _ _ (by omega) ha_70 pf_63 (hP.sub [0, 1, 2] rfl) (hD.sub [0, 1, 2] rfl rfl) hS (lv_sub hl [0, 1] rfl)
          have ha_71 : 0 ≤ (0 : Int32).toInt := by
            have z_1 := congrArg Int32.toInt c_1
            have z_2 := Int32.le_iff_toInt_le.mp c_41
            have y_20 : (20 : Int32).toInt = 20 := by decide
            have y_920 : (920 : Int32).toInt = 920 := by decide
            have y_0 : (0 : Int32).toInt = 0 := by decide
            omega
          exact loop_49 _ 0 vy_34 _ _ _ (Nat.lt_succ_self _) ha_71 pf_39 hP hD hS hl
        · skip
          refine lv_aload_n hx hb dX12_keepsAct_19 rfl (lv_at hl 1 rfl) ?_
          refine gf_X12_46 hx hb hts hown hK hP 0 rfl rfl dX12_keepsAct_20 ?_
          refine lv_iload_n hx hb dX12_keepsAct_23 rfl (lv_at hl 0 rfl) ?_
          refine lv_bipush (v := 46) hx hb dX12_keepsAct_24 (by decide) ?_
          refine lv_isub hx hb dX12_keepsAct_26 ?_
          refine lv_topi (fun x_72 ex_72 => ?_)
          refine lv_aload_n hx hb dX12_keepsAct_27 rfl (lv_at hl 1 rfl) ?_
          refine gf_X12_46 hx hb hts hown hK hP 0 rfl rfl dX12_keepsAct_28 ?_
          refine lv_iload_n hx hb dX12_keepsAct_31 rfl (lv_at hl 0 rfl) ?_
          have hi_73 : vp_in vy_33 920 := by
            have z_1 := congrArg Int32.toInt c_1
            have z_2 := Int32.lt_iff_toInt_lt.mp (Int32.not_le.mp c_41)
            have y_20 : (20 : Int32).toInt = 20 := by decide
            have y_920 : (920 : Int32).toInt = 920 := by decide
            refine vp_in_iff.mpr ⟨?_, ?_⟩ <;> omega
          refine va_iald hx hb hK hP 2 0 rfl rfl hi_73 dX12_keepsAct_32 ?_
          refine lv_topi (fun x_74 ex_74 => ?_)
          have hi_75 : vp_in x_72 920 := by
            have z_1 := congrArg Int32.toInt c_1
            have z_2 := Int32.lt_iff_toInt_lt.mp (Int32.not_le.mp c_41)
            have y_20 : (20 : Int32).toInt = 20 := by decide
            have y_920 : (920 : Int32).toInt = 920 := by decide
            have y_46 : (46 : Int32).toInt = 46 := by decide
            have t_x_72 : x_72.toInt = (vy_33 : Int32).toInt - (46 : Int32).toInt := by rw [ex_72]; exact sub_toInt (by omega) (by omega)
            refine vp_in_iff.mpr ⟨?_, ?_⟩ <;> omega
          refine st_int hx hb hK hP hD hS 2 0 rfl rfl hi_75 dX12_keepsAct_33 (fun g_76 H locs eg_76 hP₀ hD₀ hS₀ => ?_)
          replace hP : va_P D classes [((Ma 0), .inr (12, [.ref (Ma 1), .int (Mv 0), .int (Mv 1), .ref (Ma 2), .ref (Ma 3), .ref (Ma 4), .ref (Ma 5), .ref (Ma 6), .int (Mv 2), .int (Mv 3), .int (Mv 4), .int (Mv 5), .int (Mv 6), .int (Mv 7), .int (Mv 8), .ref (Ma 7), .int (Mv 9), .ref (Ma 8), .int (Mv 10), .ref (Ma 9), .ref (Ma 10), .int (Mv 11), .int (Mv 12), .int (Mv 13), .ref (Ma 11), .int (Mv 14), .ref (Ma 12), .ref (Ma 13), .ref (Ma 14), .ref (Ma 15), .ref (Ma 16), .long (Mj 0), .ref (Ma 17), .ref (Ma 18), .ref (Ma 19), .ref (Ma 20)])), ((Ma 10), .inl (tc 0, 126, .inl (Mf 10))), ((Ma 11), .inl (tc 0, 920, .inl g_76))] H := hP₀
          replace hD : va_D A [((Ma 0), .inr (12, [.ref (Ma 1), .int (Mv 0), .int (Mv 1), .ref (Ma 2), .ref (Ma 3), .ref (Ma 4), .ref (Ma 5), .ref (Ma 6), .int (Mv 2), .int (Mv 3), .int (Mv 4), .int (Mv 5), .int (Mv 6), .int (Mv 7), .int (Mv 8), .ref (Ma 7), .int (Mv 9), .ref (Ma 8), .int (Mv 10), .ref (Ma 9), .ref (Ma 10), .int (Mv 11), .int (Mv 12), .int (Mv 13), .ref (Ma 11), .int (Mv 14), .ref (Ma 12), .ref (Ma 13), .ref (Ma 14), .ref (Ma 15), .ref (Ma 16), .long (Mj 0), .ref (Ma 17), .ref (Ma 18), .ref (Ma 19), .ref (Ma 20)])), ((Ma 10), .inl (tc 0, 126, .inl (Mf 10))), ((Ma 11), .inl (tc 0, 920, .inl g_76))] := hD₀
          replace hS := hS₀
          clear hP₀ hD₀ hS₀
          have hi_78 : (x_72 : Int32).toInt = (vy_33 : Int32).toInt - 46 := by
            have z_1 := congrArg Int32.toInt c_1
            have z_2 := Int32.lt_iff_toInt_lt.mp (Int32.not_le.mp c_41)
            have y_20 : (20 : Int32).toInt = 20 := by decide
            have y_920 : (920 : Int32).toInt = 920 := by decide
            have y_46 : (46 : Int32).toInt = 46 := by decide
            have t_x_72 : x_72.toInt = (vy_33 : Int32).toInt - (46 : Int32).toInt := by rw [ex_72]; exact sub_toInt (by omega) (by omega)
            omega
          have hr_79 : 46 ≤ (vy_33 : Int32).toInt ∧ (vy_33 : Int32).toInt < 920 := by
            have z_1 := congrArg Int32.toInt c_1
            have z_2 := Int32.lt_iff_toInt_lt.mp (Int32.not_le.mp c_41)
            have y_20 : (20 : Int32).toInt = 20 := by decide
            have y_920 : (920 : Int32).toInt = 920 := by decide
            omega
          have pf_77 : WasD g_76 := WasD.shift pf_39 eg_76 ex_74 hi_78 hr_79
          obtain ⟨x_80, ex_80⟩ : ∃ y : Int32, y = vy_33 + 1 := ⟨_, rfl⟩
          refine lv_iinc (v := x_80) (lv' := [(1, .int x_80), (0, .ref (Ma 0))]) hx hb dX12_keepsAct_34 hl (k := 0) rfl (by rw [ex_80]; rfl) (by decide) rfl (fun ls hl₀ => ?_)
          replace hl := hl₀
          clear hl₀
          refine lv_goto (tgt := 12) hx hb dX12_keepsAct_37 (by decide) ?_
          have hb_81 : 920 - (x_80 : Int32).toInt < 920 - (vy_33 : Int32).toInt ∧ 1 ≤ 920 - (vy_33 : Int32).toInt := by
            have z_1 := congrArg Int32.toInt c_1
            have z_2 := Int32.lt_iff_toInt_lt.mp (Int32.not_le.mp c_41)
            have y_20 : (20 : Int32).toInt = 20 := by decide
            have y_920 : (920 : Int32).toInt = 920 := by decide
            have y_1 : (1 : Int32).toInt = 1 := by decide
            have t_x_80 : x_80.toInt = (vy_33 : Int32).toInt + (1 : Int32).toInt := by rw [ex_80]; exact add_toInt (by omega) (by omega)
            omega
          have ha_82 : 46 ≤ (x_80 : Int32).toInt := by
            have z_1 := congrArg Int32.toInt c_1
            have z_2 := Int32.lt_iff_toInt_lt.mp (Int32.not_le.mp c_41)
            have y_20 : (20 : Int32).toInt = 20 := by decide
            have y_920 : (920 : Int32).toInt = 920 := by decide
            have y_1 : (1 : Int32).toInt = 1 := by decide
            have t_x_80 : x_80.toInt = (vy_33 : Int32).toInt + (1 : Int32).toInt := by rw [ex_80]; exact add_toInt (by omega) (by omega)
            omega
          exact ih_36 x_80 g_76 _ _ _ (by omega) ha_82 pf_77 (hP.sub [0, 1, 2] rfl) (hD.sub [0, 1, 2] rfl rfl) hS (lv_sub hl [0, 1] rfl)
    have ha_83 : 46 ≤ (46 : Int32).toInt := by
      have z_1 := congrArg Int32.toInt c_1
      have y_20 : (20 : Int32).toInt = 20 := by decide
      have y_46 : (46 : Int32).toInt = 46 := by decide
      omega
    exact loop_37 _ 46 (Mf 11) _ _ _ (Nat.lt_succ_self _) ha_83 h_was hP hD hS hl
set_option maxRecDepth 100000 in
theorem cu_X12_keepsAct {T : Nat → Option Int32} (l : Launch) (D : va_G) (tc : Nat → ClassId) (sk : (Nat → Nat) × (Nat → Nat)) (Ma_0 : Nat) (Ma_1 : Nat) (Ma_2 : Nat) (Ma_3 : Nat) (Ma_4 : Nat) (Ma_5 : Nat) (Ma_6 : Nat) (Ma_7 : Nat) (Ma_8 : Nat) (Ma_9 : Nat) (Ma_10 : Nat) (Ma_11 : Nat) (Ma_12 : Nat) (Ma_13 : Nat) (Ma_14 : Nat) (Ma_15 : Nat) (Ma_16 : Nat) (Ma_17 : Nat) (Ma_18 : Nat) (Ma_19 : Nat) (Ma_20 : Nat) (Mv_0 : Int32) (Mv_1 : Int32) (Mv_2 : Int32) (Mv_3 : Int32) (Mv_4 : Int32) (Mv_5 : Int32) (Mv_6 : Int32) (Mv_7 : Int32) (Mv_8 : Int32) (Mv_9 : Int32) (Mv_10 : Int32) (Mv_11 : Int32) (Mv_12 : Int32) (Mv_13 : Int32) (Mv_14 : Int32) (Mf_10 : Nat → Int32) (Mf_11 : Nat → Int32) (Mj_0 : Int64) (h_said : SaidD T Mf_10 999) (h_was : WasD Mf_11) (h_un : 0 ≤ (Mv_14 : Int32).toInt ∧ (Mv_14 : Int32).toInt ≤ 20) : Ct l yX12_keepsAct cX12_keepsAct 2 none { frames := 0, cells := 0, slots := 0, locals := 0 } D tc sk [.ref Ma_0] [(Ma_0, .inr (12, [.ref Ma_1, .int Mv_0, .int Mv_1, .ref Ma_2, .ref Ma_3, .ref Ma_4, .ref Ma_5, .ref Ma_6, .int Mv_2, .int Mv_3, .int Mv_4, .int Mv_5, .int Mv_6, .int Mv_7, .int Mv_8, .ref Ma_7, .int Mv_9, .ref Ma_8, .int Mv_10, .ref Ma_9, .ref Ma_10, .int Mv_11, .int Mv_12, .int Mv_13, .ref Ma_11, .int Mv_14, .ref Ma_12, .ref Ma_13, .ref Ma_14, .ref Ma_15, .ref Ma_16, .long Mj_0, .ref Ma_17, .ref Ma_18, .ref Ma_19, .ref Ma_20])), (Ma_10, .inl (tc 0, 126, .inl Mf_10)), (Ma_11, .inl (tc 0, 920, .inl Mf_11))] (fun (v : Option Value) (u : (Int32) × (Nat → Int32)) => match u with | (oo0x1, oo0x2) => v = none ∧ (WasD oo0x2) ∧ (0 ≤ (oo0x1 : Int32).toInt ∧ (oo0x1 : Int32).toInt ≤ 20)) (fun (u : (Int32) × (Nat → Int32)) => match u with | (oo0x1, oo0x2) => [(Ma_0, .inr (12, [.ref Ma_1, .int Mv_0, .int Mv_1, .ref Ma_2, .ref Ma_3, .ref Ma_4, .ref Ma_5, .ref Ma_6, .int Mv_2, .int Mv_3, .int Mv_4, .int Mv_5, .int Mv_6, .int Mv_7, .int Mv_8, .ref Ma_7, .int Mv_9, .ref Ma_8, .int Mv_10, .ref Ma_9, .ref Ma_10, .int Mv_11, .int Mv_12, .int Mv_13, .ref Ma_11, .int oo0x1, .ref Ma_12, .ref Ma_13, .ref Ma_14, .ref Ma_15, .ref Ma_16, .long Mj_0, .ref Ma_17, .ref Ma_18, .ref Ma_19, .ref Ma_20])), (Ma_10, .inl (tc 0, 126, .inl Mf_10)), (Ma_11, .inl (tc 0, 920, .inl oo0x2))]) 0 0 :=
  ct_X12_keepsAct l D tc sk (fun k => ([Ma_0, Ma_1, Ma_2, Ma_3, Ma_4, Ma_5, Ma_6, Ma_7, Ma_8, Ma_9, Ma_10, Ma_11, Ma_12, Ma_13, Ma_14, Ma_15, Ma_16, Ma_17, Ma_18, Ma_19, Ma_20] : List (Nat)).getD k 0) (fun k => ([Mv_0, Mv_1, Mv_2, Mv_3, Mv_4, Mv_5, Mv_6, Mv_7, Mv_8, Mv_9, Mv_10, Mv_11, Mv_12, Mv_13, Mv_14] : List (Int32)).getD k 0) (fun k => ([(fun _ => 0), (fun _ => 0), (fun _ => 0), (fun _ => 0), (fun _ => 0), (fun _ => 0), (fun _ => 0), (fun _ => 0), (fun _ => 0), (fun _ => 0), Mf_10, Mf_11] : List (Nat → Int32)).getD k (fun _ => 0)) (fun k => ([Mj_0] : List (Int64)).getD k 0) h_said h_was h_un
set_option maxHeartbeats 4000000 in
set_option maxRecDepth 100000 in
theorem ct_X12_undo {T : Nat → Option Int32} (l : Launch) (D : va_G) (tc : Nat → ClassId) (sk : (Nat → Nat) × (Nat → Nat)) (Ma : Nat → Nat) (Mv : Nat → Int32) (Mf : Nat → Nat → Int32) (Mj : Nat → Int64) (h_said : SaidD T (Mf 10) 999) (h_was : WasD (Mf 11)) (h_un : 0 ≤ ((Mv 14) : Int32).toInt ∧ ((Mv 14) : Int32).toInt ≤ 20) : Ct l yX12_undo cX12_undo 2 (some .int) { frames := 0, cells := 0, slots := 0, locals := 0 } D tc sk [.ref (Ma 0)] [((Ma 0), .inr (12, [.ref (Ma 1), .int (Mv 0), .int (Mv 1), .ref (Ma 2), .ref (Ma 3), .ref (Ma 4), .ref (Ma 5), .ref (Ma 6), .int (Mv 2), .int (Mv 3), .int (Mv 4), .int (Mv 5), .int (Mv 6), .int (Mv 7), .int (Mv 8), .ref (Ma 7), .int (Mv 9), .ref (Ma 8), .int (Mv 10), .ref (Ma 9), .ref (Ma 10), .int (Mv 11), .int (Mv 12), .int (Mv 13), .ref (Ma 11), .int (Mv 14), .ref (Ma 12), .ref (Ma 13), .ref (Ma 14), .ref (Ma 15), .ref (Ma 16), .long (Mj 0), .ref (Ma 17), .ref (Ma 18), .ref (Ma 19), .ref (Ma 20)])), ((Ma 10), .inl (tc 0, 126, .inl (Mf 10))), ((Ma 11), .inl (tc 0, 920, .inl (Mf 11)))] (fun (v : Option Value) (u : (Int32) × (Nat → Int32)) => match u with | (oo0x1, oo0x2) => ∃ r : Int32, v = some (.int r) ∧ (True) ∧ (SaidD T oo0x2 999) ∧ (0 ≤ (oo0x1 : Int32).toInt ∧ (oo0x1 : Int32).toInt ≤ 20)) (fun (u : (Int32) × (Nat → Int32)) => match u with | (oo0x1, oo0x2) => [((Ma 0), .inr (12, [.ref (Ma 1), .int (Mv 0), .int (Mv 1), .ref (Ma 2), .ref (Ma 3), .ref (Ma 4), .ref (Ma 5), .ref (Ma 6), .int (Mv 2), .int (Mv 3), .int (Mv 4), .int (Mv 5), .int (Mv 6), .int (Mv 7), .int (Mv 8), .ref (Ma 7), .int (Mv 9), .ref (Ma 8), .int (Mv 10), .ref (Ma 9), .ref (Ma 10), .int (Mv 11), .int (Mv 12), .int (Mv 13), .ref (Ma 11), .int oo0x1, .ref (Ma 12), .ref (Ma 13), .ref (Ma 14), .ref (Ma 15), .ref (Ma 16), .long (Mj 0), .ref (Ma 17), .ref (Ma 18), .ref (Ma 19), .ref (Ma 20)])), ((Ma 10), .inl (tc 0, 126, .inl oo0x2)), ((Ma 11), .inl (tc 0, 920, .inl (Mf 11)))]) 0 0 := by
  refine Ct.start (by decide) (Nat.le_of_ble_eq_true rfl) (fun p e s m below meth c A ls hx hb hr hlk hin hml hown hts hK hX hP hD hA hl hS => ?_)
  have hl : lv_has ls 2 [(0, .ref (Ma 0))] := hl
  have ar_h_said := SaidD.ar h_said
  refine lv_aload_n hx hb dX12_undo_0 rfl (lv_at hl 0 rfl) ?_
  refine gf_X12_265 hx hb hts hown hK hP 0 rfl rfl dX12_undo_1 ?_
  refine lv_if_ne (tgt := 9) hx hb dX12_undo_4 (by decide) (fun c_1 => ?_) (fun c_1 => ?_)
  · skip
    refine lv_aload_n hx hb dX12_undo_9 rfl (lv_at hl 0 rfl) ?_
    refine lv_dup hx hb dX12_undo_10 rfl ?_
    refine gf_X12_265 hx hb hts hown hK hP 0 rfl rfl dX12_undo_11 ?_
    refine lv_iconst (v := 1) hx hb dX12_undo_14 (by decide) ?_
    refine lv_isub hx hb dX12_undo_15 ?_
    refine lv_topi (fun x_2 ex_2 => ?_)
    refine pf_X12_265 hx hb hts hown hK hP hD hS 0 rfl (Nat.le_of_ble_eq_true rfl) rfl rfl dX12_undo_16 (fun H locs hP₀ hD₀ hS₀ => ?_)
    replace hP : va_P D classes [((Ma 0), .inr (12, [.ref (Ma 1), .int (Mv 0), .int (Mv 1), .ref (Ma 2), .ref (Ma 3), .ref (Ma 4), .ref (Ma 5), .ref (Ma 6), .int (Mv 2), .int (Mv 3), .int (Mv 4), .int (Mv 5), .int (Mv 6), .int (Mv 7), .int (Mv 8), .ref (Ma 7), .int (Mv 9), .ref (Ma 8), .int (Mv 10), .ref (Ma 9), .ref (Ma 10), .int (Mv 11), .int (Mv 12), .int (Mv 13), .ref (Ma 11), .int x_2, .ref (Ma 12), .ref (Ma 13), .ref (Ma 14), .ref (Ma 15), .ref (Ma 16), .long (Mj 0), .ref (Ma 17), .ref (Ma 18), .ref (Ma 19), .ref (Ma 20)])), ((Ma 10), .inl (tc 0, 126, .inl (Mf 10))), ((Ma 11), .inl (tc 0, 920, .inl (Mf 11)))] H := hP₀
    replace hD : va_D A [((Ma 0), .inr (12, [.ref (Ma 1), .int (Mv 0), .int (Mv 1), .ref (Ma 2), .ref (Ma 3), .ref (Ma 4), .ref (Ma 5), .ref (Ma 6), .int (Mv 2), .int (Mv 3), .int (Mv 4), .int (Mv 5), .int (Mv 6), .int (Mv 7), .int (Mv 8), .ref (Ma 7), .int (Mv 9), .ref (Ma 8), .int (Mv 10), .ref (Ma 9), .ref (Ma 10), .int (Mv 11), .int (Mv 12), .int (Mv 13), .ref (Ma 11), .int x_2, .ref (Ma 12), .ref (Ma 13), .ref (Ma 14), .ref (Ma 15), .ref (Ma 16), .long (Mj 0), .ref (Ma 17), .ref (Ma 18), .ref (Ma 19), .ref (Ma 20)])), ((Ma 10), .inl (tc 0, 126, .inl (Mf 10))), ((Ma 11), .inl (tc 0, 920, .inl (Mf 11)))] := hD₀
    replace hS := hS₀
    clear hP₀ hD₀ hS₀
    refine lv_iconst (v := 0) hx hb dX12_undo_19 (by decide) ?_
    refine lv_istore_n (lv' := [(1, .int 0), (0, .ref (Ma 0))]) hx hb dX12_undo_20 rfl hl (by decide) rfl (fun ls hl₀ => ?_)
    replace hl := hl₀
    clear hl₀
    have loop_9 : ∀ (n_7 : Nat) (vy_5 : Int32) (vy_6 : Nat → Int32) (H : Heap) (locs : List Loc) (ls : Array Slot), (46 - (vy_5 : Int32).toInt).toNat < n_7 → (0 ≤ (vy_5 : Int32).toInt) → (LayK T vy_6 vy_5) → va_P D classes [((Ma 0), .inr (12, [.ref (Ma 1), .int (Mv 0), .int (Mv 1), .ref (Ma 2), .ref (Ma 3), .ref (Ma 4), .ref (Ma 5), .ref (Ma 6), .int (Mv 2), .int (Mv 3), .int (Mv 4), .int (Mv 5), .int (Mv 6), .int (Mv 7), .int (Mv 8), .ref (Ma 7), .int (Mv 9), .ref (Ma 8), .int (Mv 10), .ref (Ma 9), .ref (Ma 10), .int (Mv 11), .int (Mv 12), .int (Mv 13), .ref (Ma 11), .int x_2, .ref (Ma 12), .ref (Ma 13), .ref (Ma 14), .ref (Ma 15), .ref (Ma 16), .long (Mj 0), .ref (Ma 17), .ref (Ma 18), .ref (Ma 19), .ref (Ma 20)])), ((Ma 10), .inl (tc 0, 126, .inl vy_6)), ((Ma 11), .inl (tc 0, 920, .inl (Mf 11)))] H → va_D A [((Ma 0), .inr (12, [.ref (Ma 1), .int (Mv 0), .int (Mv 1), .ref (Ma 2), .ref (Ma 3), .ref (Ma 4), .ref (Ma 5), .ref (Ma 6), .int (Mv 2), .int (Mv 3), .int (Mv 4), .int (Mv 5), .int (Mv 6), .int (Mv 7), .int (Mv 8), .ref (Ma 7), .int (Mv 9), .ref (Ma 8), .int (Mv 10), .ref (Ma 9), .ref (Ma 10), .int (Mv 11), .int (Mv 12), .int (Mv 13), .ref (Ma 11), .int x_2, .ref (Ma 12), .ref (Ma 13), .ref (Ma 14), .ref (Ma 15), .ref (Ma 16), .long (Mj 0), .ref (Ma 17), .ref (Ma 18), .ref (Ma 19), .ref (Ma 20)])), ((Ma 10), .inl (tc 0, 126, .inl vy_6)), ((Ma 11), .inl (tc 0, 920, .inl (Mf 11)))] → va_S A s.heap H locs → lv_has ls 2 [(1, .int vy_5), (0, .ref (Ma 0))] → W p l e ({ frames := 0, cells := 0, slots := 0, locals := 0 }) s m ([.ref (Ma 0)].toArray) below meth c H locs 0 0 (MQ below (QW (fun (v : Option Value) (u : (Int32) × (Nat → Int32)) => match u with | (oo0x1, oo0x2) => ∃ r : Int32, v = some (.int r) ∧ (True) ∧ (SaidD T oo0x2 999) ∧ (0 ≤ (oo0x1 : Int32).toInt ∧ (oo0x1 : Int32).toInt ≤ 20)) (BW D (fun (u : (Int32) × (Nat → Int32)) => match u with | (oo0x1, oo0x2) => [((Ma 0), .inr (12, [.ref (Ma 1), .int (Mv 0), .int (Mv 1), .ref (Ma 2), .ref (Ma 3), .ref (Ma 4), .ref (Ma 5), .ref (Ma 6), .int (Mv 2), .int (Mv 3), .int (Mv 4), .int (Mv 5), .int (Mv 6), .int (Mv 7), .int (Mv 8), .ref (Ma 7), .int (Mv 9), .ref (Ma 8), .int (Mv 10), .ref (Ma 9), .ref (Ma 10), .int (Mv 11), .int (Mv 12), .int (Mv 13), .ref (Ma 11), .int oo0x1, .ref (Ma 12), .ref (Ma 13), .ref (Ma 14), .ref (Ma 15), .ref (Ma 16), .long (Mj 0), .ref (Ma 17), .ref (Ma 18), .ref (Ma 19), .ref (Ma 20)])), ((Ma 10), .inl (tc 0, 126, .inl oo0x2)), ((Ma 11), .inl (tc 0, 920, .inl (Mf 11)))]) A) A) ([.ref (Ma 0)].toArray) s 0 0 A) (F0 m 21 ls []) := by
      clear hP hD hS hl
      intro n_7
      induction n_7 with
      | zero =>
        intro vy_5 vy_6 H locs ls h1
        exact absurd h1 (Nat.not_lt_zero _)
      | succ n_7 ih_8 =>
        intro vy_5 vy_6 H locs ls hn_12 pf_10 pf_11 hP hD hS hl
        refine lv_iload_n hx hb dX12_undo_21 rfl (lv_at hl 0 rfl) ?_
        refine lv_bipush (v := 46) hx hb dX12_undo_22 (by decide) ?_
        refine lv_icmp_ge (tgt := 56) hx hb dX12_undo_24 (by decide) (fun c_13 => ?_) (fun c_13 => ?_)
        · skip
          refine lv_aload_n hx hb dX12_undo_56 rfl (lv_at hl 1 rfl) ?_
          refine gf_X12_265 hx hb hts hown hK hP 0 rfl rfl dX12_undo_57 ?_
          have hr_14 : 1 ≤ (vy_5 : Int32).toInt := by
            have z_1 : ¬ ((Mv 14) : Int32).toInt = (0 : Int32).toInt := fun z => c_1 (Int32.toInt_inj.mp z)
            have z_2 := Int32.le_iff_toInt_le.mp c_13
            have y_0 : (0 : Int32).toInt = 0 := by decide
            have y_46 : (46 : Int32).toInt = 46 := by decide
            omega
          have ha_15 : 0 ≤ (x_2 : Int32).toInt ∧ (x_2 : Int32).toInt ≤ 20 := by
            have z_1 : ¬ ((Mv 14) : Int32).toInt = (0 : Int32).toInt := fun z => c_1 (Int32.toInt_inj.mp z)
            have z_2 := Int32.le_iff_toInt_le.mp c_13
            have y_0 : (0 : Int32).toInt = 0 := by decide
            have y_46 : (46 : Int32).toInt = 46 := by decide
            have y_1 : (1 : Int32).toInt = 1 := by decide
            have t_x_2 : x_2.toInt = ((Mv 14) : Int32).toInt - (1 : Int32).toInt := by rw [ex_2]; exact sub_toInt (by omega) (by omega)
            omega
          exact retI (v := x_2) hx hb hr hlk (rfl) hP hD hS (x_2, vy_6) ⟨_, rfl, trivial, (LayK.done pf_11 hr_14), ha_15⟩ [0, 1, 2] rfl rfl dX12_undo_60 (Nat.le_of_ble_eq_true rfl) (Nat.le_of_ble_eq_true rfl) rfl
        · skip
          refine lv_aload_n hx hb dX12_undo_27 rfl (lv_at hl 1 rfl) ?_
          refine gf_X12_39 hx hb hts hown hK hP 0 rfl rfl dX12_undo_28 ?_
          refine lv_bipush (v := 10) hx hb dX12_undo_31 (by decide) ?_
          refine lv_iload_n hx hb dX12_undo_33 rfl (lv_at hl 0 rfl) ?_
          refine lv_iadd hx hb dX12_undo_34 ?_
          refine lv_topi (fun x_16 ex_16 => ?_)
          refine lv_aload_n hx hb dX12_undo_35 rfl (lv_at hl 1 rfl) ?_
          refine gf_X12_46 hx hb hts hown hK hP 0 rfl rfl dX12_undo_36 ?_
          refine lv_bipush (v := 46) hx hb dX12_undo_39 (by decide) ?_
          refine lv_aload_n hx hb dX12_undo_41 rfl (lv_at hl 1 rfl) ?_
          refine gf_X12_265 hx hb hts hown hK hP 0 rfl rfl dX12_undo_42 ?_
          refine lv_imul hx hb dX12_undo_45 ?_
          refine lv_topi (fun x_17 ex_17 => ?_)
          refine lv_iload_n hx hb dX12_undo_46 rfl (lv_at hl 0 rfl) ?_
          refine lv_iadd hx hb dX12_undo_47 ?_
          refine lv_topi (fun x_18 ex_18 => ?_)
          have hi_19 : vp_in x_18 920 := by
            have z_1 : ¬ ((Mv 14) : Int32).toInt = (0 : Int32).toInt := fun z => c_1 (Int32.toInt_inj.mp z)
            have z_2 := Int32.lt_iff_toInt_lt.mp (Int32.not_le.mp c_13)
            have y_0 : (0 : Int32).toInt = 0 := by decide
            have y_46 : (46 : Int32).toInt = 46 := by decide
            have y_1 : (1 : Int32).toInt = 1 := by decide
            have t_x_2 : x_2.toInt = ((Mv 14) : Int32).toInt - (1 : Int32).toInt := by rw [ex_2]; exact sub_toInt (by omega) (by omega)
            have t_x_17 : x_17.toInt = (46 : Int32).toInt * (x_2 : Int32).toInt := by rw [ex_17]; exact mul_toInt (by first | omega | (rw [y_46]; omega)) (by first | omega | (rw [y_46]; omega))
            rw [y_46] at t_x_17
            have t_x_18 : x_18.toInt = (x_17 : Int32).toInt + (vy_5 : Int32).toInt := by rw [ex_18]; exact add_toInt (by omega) (by omega)
            refine vp_in_iff.mpr ⟨?_, ?_⟩ <;> omega
          refine va_iald hx hb hK hP 2 0 rfl rfl hi_19 dX12_undo_48 ?_
          refine lv_topi (fun x_20 ex_20 => ?_)
          have hi_21 : vp_in x_16 126 := by
            have z_1 : ¬ ((Mv 14) : Int32).toInt = (0 : Int32).toInt := fun z => c_1 (Int32.toInt_inj.mp z)
            have z_2 := Int32.lt_iff_toInt_lt.mp (Int32.not_le.mp c_13)
            have y_0 : (0 : Int32).toInt = 0 := by decide
            have y_46 : (46 : Int32).toInt = 46 := by decide
            have y_10 : (10 : Int32).toInt = 10 := by decide
            have t_x_16 : x_16.toInt = (10 : Int32).toInt + (vy_5 : Int32).toInt := by rw [ex_16]; exact add_toInt (by omega) (by omega)
            refine vp_in_iff.mpr ⟨?_, ?_⟩ <;> omega
          refine st_int hx hb hK hP hD hS 1 0 rfl rfl hi_21 dX12_undo_49 (fun g_22 H locs eg_22 hP₀ hD₀ hS₀ => ?_)
          replace hP : va_P D classes [((Ma 0), .inr (12, [.ref (Ma 1), .int (Mv 0), .int (Mv 1), .ref (Ma 2), .ref (Ma 3), .ref (Ma 4), .ref (Ma 5), .ref (Ma 6), .int (Mv 2), .int (Mv 3), .int (Mv 4), .int (Mv 5), .int (Mv 6), .int (Mv 7), .int (Mv 8), .ref (Ma 7), .int (Mv 9), .ref (Ma 8), .int (Mv 10), .ref (Ma 9), .ref (Ma 10), .int (Mv 11), .int (Mv 12), .int (Mv 13), .ref (Ma 11), .int x_2, .ref (Ma 12), .ref (Ma 13), .ref (Ma 14), .ref (Ma 15), .ref (Ma 16), .long (Mj 0), .ref (Ma 17), .ref (Ma 18), .ref (Ma 19), .ref (Ma 20)])), ((Ma 10), .inl (tc 0, 126, .inl g_22)), ((Ma 11), .inl (tc 0, 920, .inl (Mf 11)))] H := hP₀
          replace hD : va_D A [((Ma 0), .inr (12, [.ref (Ma 1), .int (Mv 0), .int (Mv 1), .ref (Ma 2), .ref (Ma 3), .ref (Ma 4), .ref (Ma 5), .ref (Ma 6), .int (Mv 2), .int (Mv 3), .int (Mv 4), .int (Mv 5), .int (Mv 6), .int (Mv 7), .int (Mv 8), .ref (Ma 7), .int (Mv 9), .ref (Ma 8), .int (Mv 10), .ref (Ma 9), .ref (Ma 10), .int (Mv 11), .int (Mv 12), .int (Mv 13), .ref (Ma 11), .int x_2, .ref (Ma 12), .ref (Ma 13), .ref (Ma 14), .ref (Ma 15), .ref (Ma 16), .long (Mj 0), .ref (Ma 17), .ref (Ma 18), .ref (Ma 19), .ref (Ma 20)])), ((Ma 10), .inl (tc 0, 126, .inl g_22)), ((Ma 11), .inl (tc 0, 920, .inl (Mf 11)))] := hD₀
          replace hS := hS₀
          clear hP₀ hD₀ hS₀
          obtain ⟨x_23, ex_23⟩ : ∃ y : Int32, y = vy_5 + 1 := ⟨_, rfl⟩
          refine lv_iinc (v := x_23) (lv' := [(1, .int x_23), (0, .ref (Ma 0))]) hx hb dX12_undo_50 hl (k := 0) rfl (by rw [ex_23]; rfl) (by decide) rfl (fun ls hl₀ => ?_)
          replace hl := hl₀
          clear hl₀
          refine lv_goto (tgt := 21) hx hb dX12_undo_53 (by decide) ?_
          have hb_24 : 46 - (x_23 : Int32).toInt < 46 - (vy_5 : Int32).toInt ∧ 1 ≤ 46 - (vy_5 : Int32).toInt := by
            have z_1 : ¬ ((Mv 14) : Int32).toInt = (0 : Int32).toInt := fun z => c_1 (Int32.toInt_inj.mp z)
            have z_2 := Int32.lt_iff_toInt_lt.mp (Int32.not_le.mp c_13)
            have y_0 : (0 : Int32).toInt = 0 := by decide
            have y_46 : (46 : Int32).toInt = 46 := by decide
            have y_1 : (1 : Int32).toInt = 1 := by decide
            have t_x_23 : x_23.toInt = (vy_5 : Int32).toInt + (1 : Int32).toInt := by rw [ex_23]; exact add_toInt (by omega) (by omega)
            omega
          have ha_25 : 0 ≤ (x_23 : Int32).toInt := by
            have z_1 : ¬ ((Mv 14) : Int32).toInt = (0 : Int32).toInt := fun z => c_1 (Int32.toInt_inj.mp z)
            have z_2 := Int32.lt_iff_toInt_lt.mp (Int32.not_le.mp c_13)
            have y_0 : (0 : Int32).toInt = 0 := by decide
            have y_46 : (46 : Int32).toInt = 46 := by decide
            have y_1 : (1 : Int32).toInt = 1 := by decide
            have t_x_23 : x_23.toInt = (vy_5 : Int32).toInt + (1 : Int32).toInt := by rw [ex_23]; exact add_toInt (by omega) (by omega)
            omega
          have hi_27 : (x_18 : Int32).toInt = 46 * (x_2 : Int32).toInt + (vy_5 : Int32).toInt := by
            have z_1 : ¬ ((Mv 14) : Int32).toInt = (0 : Int32).toInt := fun z => c_1 (Int32.toInt_inj.mp z)
            have z_2 := Int32.lt_iff_toInt_lt.mp (Int32.not_le.mp c_13)
            have y_0 : (0 : Int32).toInt = 0 := by decide
            have y_46 : (46 : Int32).toInt = 46 := by decide
            have y_1 : (1 : Int32).toInt = 1 := by decide
            have t_x_2 : x_2.toInt = ((Mv 14) : Int32).toInt - (1 : Int32).toInt := by rw [ex_2]; exact sub_toInt (by omega) (by omega)
            have t_x_17 : x_17.toInt = (46 : Int32).toInt * (x_2 : Int32).toInt := by rw [ex_17]; exact mul_toInt (by first | omega | (rw [y_46]; omega)) (by first | omega | (rw [y_46]; omega))
            rw [y_46] at t_x_17
            have t_x_18 : x_18.toInt = (x_17 : Int32).toInt + (vy_5 : Int32).toInt := by rw [ex_18]; exact add_toInt (by omega) (by omega)
            omega
          have hr_28 : 0 ≤ (x_2 : Int32).toInt ∧ (x_2 : Int32).toInt < 20 := by
            have z_1 : ¬ ((Mv 14) : Int32).toInt = (0 : Int32).toInt := fun z => c_1 (Int32.toInt_inj.mp z)
            have z_2 := Int32.lt_iff_toInt_lt.mp (Int32.not_le.mp c_13)
            have y_0 : (0 : Int32).toInt = 0 := by decide
            have y_46 : (46 : Int32).toInt = 46 := by decide
            have y_1 : (1 : Int32).toInt = 1 := by decide
            have t_x_2 : x_2.toInt = ((Mv 14) : Int32).toInt - (1 : Int32).toInt := by rw [ex_2]; exact sub_toInt (by omega) (by omega)
            omega
          have hi_29 : (x_16 : Int32).toInt = 10 + (vy_5 : Int32).toInt := by
            have z_1 : ¬ ((Mv 14) : Int32).toInt = (0 : Int32).toInt := fun z => c_1 (Int32.toInt_inj.mp z)
            have z_2 := Int32.lt_iff_toInt_lt.mp (Int32.not_le.mp c_13)
            have y_0 : (0 : Int32).toInt = 0 := by decide
            have y_46 : (46 : Int32).toInt = 46 := by decide
            have y_10 : (10 : Int32).toInt = 10 := by decide
            have t_x_16 : x_16.toInt = (10 : Int32).toInt + (vy_5 : Int32).toInt := by rw [ex_16]; exact add_toInt (by omega) (by omega)
            omega
          have hr_30 : 0 ≤ (vy_5 : Int32).toInt ∧ (vy_5 : Int32).toInt < 46 := by
            have z_1 : ¬ ((Mv 14) : Int32).toInt = (0 : Int32).toInt := fun z => c_1 (Int32.toInt_inj.mp z)
            have z_2 := Int32.lt_iff_toInt_lt.mp (Int32.not_le.mp c_13)
            have y_0 : (0 : Int32).toInt = 0 := by decide
            have y_46 : (46 : Int32).toInt = 46 := by decide
            omega
          have ha_26 : LayK T g_22 x_23 := LayK.step (f := fun _ => 0) pf_11 (WasD.x (u := x_2) h_was ex_20 hi_27 hr_28) eg_22 hi_29 hr_30
          exact ih_8 x_23 g_22 _ _ _ (by omega) ha_25 ha_26 (hP.sub [0, 1, 2] rfl) (hD.sub [0, 1, 2] rfl rfl) hS (lv_sub hl [0, 1] rfl)
    have ha_31 : 0 ≤ (0 : Int32).toInt := by
      have z_1 : ¬ ((Mv 14) : Int32).toInt = (0 : Int32).toInt := fun z => c_1 (Int32.toInt_inj.mp z)
      have y_0 : (0 : Int32).toInt = 0 := by decide
      omega
    have ha_32 : LayK T (Mf 10) 0 := ⟨h_said.1, fun z => absurd z (by decide)⟩
    exact loop_9 _ 0 (Mf 10) _ _ _ (Nat.lt_succ_self _) ha_31 ha_32 hP hD hS hl
  · skip
    refine lv_iconst (v := (-1)) hx hb dX12_undo_7 (by decide) ?_
    exact retI (v := (-1)) hx hb hr hlk (rfl) hP hD hS ((Mv 14), (Mf 10)) ⟨_, rfl, trivial, h_said, h_un⟩ [0, 1, 2] rfl rfl dX12_undo_8 (Nat.le_of_ble_eq_true rfl) (Nat.le_of_ble_eq_true rfl) rfl
set_option maxHeartbeats 4000000 in
set_option maxRecDepth 100000 in
theorem ct_X12_day {T : Nat → Option Int32} (l : Launch) (D : va_G) (tc : Nat → ClassId) (sk : (Nat → Nat) × (Nat → Nat)) (Ma : Nat → Nat) (Mv : Nat → Int32) (Mf : Nat → Nat → Int32) (Mj : Nat → Int64) (Mg : Nat → Nat → Int64) (h_said : SaidD T (Mf 10) 999) (h_was : WasD (Mf 11)) (h_un : 0 ≤ ((Mv 14) : Int32).toInt ∧ ((Mv 14) : Int32).toInt ≤ 20) (h_rul : RulD (Mf 2) (Mf 4) (Mf 5) (Mv 1)) (h_frc : -1 ≤ (Mv 11).toInt ∧ (Mv 11).toInt < (Mv 1).toInt ∧ (Mv 1).toInt ≤ 6) : Ct l yX12_day cX12_day 1 (some .int) { frames := 5, cells := 0, slots := 0, locals := 121 } D tc sk [.ref (Ma 0)] [((Ma 0), .inr (12, [.ref (Ma 1), .int (Mv 0), .int (Mv 1), .ref (Ma 2), .ref (Ma 3), .ref (Ma 4), .ref (Ma 5), .ref (Ma 6), .int (Mv 2), .int (Mv 3), .int (Mv 4), .int (Mv 5), .int (Mv 6), .int (Mv 7), .int (Mv 8), .ref (Ma 7), .int (Mv 9), .ref (Ma 8), .int (Mv 10), .ref (Ma 9), .ref (Ma 10), .int (Mv 11), .int (Mv 12), .int (Mv 13), .ref (Ma 11), .int (Mv 14), .ref (Ma 12), .ref (Ma 13), .ref (Ma 14), .ref (Ma 15), .ref (Ma 16), .long (Mj 0), .ref (Ma 17), .ref (Ma 18), .ref (Ma 19), .ref (Ma 20)])), ((Ma 2), .inl (tc 0, 2400, .inl (Mf 2))), ((Ma 4), .inl (tc 0, 288, .inl (Mf 4))), ((Ma 5), .inl (tc 0, 6, .inl (Mf 5))), ((Ma 8), .inl (tc 1, 64, .inr (.inl (Mg 8)))), ((Ma 9), .inl (tc 1, 13, .inr (.inl (Mg 9)))), ((Ma 10), .inl (tc 0, 126, .inl (Mf 10))), ((Ma 11), .inl (tc 0, 920, .inl (Mf 11)))] (fun (v : Option Value) (u : (Int32) × (Int32) × (Nat → Int64) × (Nat → Int64) × (Nat → Int32) × (Nat → Int32)) => match u with | (oo0x1, oo0x2, oo0x3, oo0x4, oo0x5, oo0x6) => ∃ r : Int32, v = some (.int r) ∧ (True) ∧ (SaidD T oo0x5 999) ∧ (WasD oo0x6) ∧ (0 ≤ (oo0x2 : Int32).toInt ∧ (oo0x2 : Int32).toInt ≤ 20)) (fun (u : (Int32) × (Int32) × (Nat → Int64) × (Nat → Int64) × (Nat → Int32) × (Nat → Int32)) => match u with | (oo0x1, oo0x2, oo0x3, oo0x4, oo0x5, oo0x6) => [((Ma 0), .inr (12, [.ref (Ma 1), .int (Mv 0), .int (Mv 1), .ref (Ma 2), .ref (Ma 3), .ref (Ma 4), .ref (Ma 5), .ref (Ma 6), .int (Mv 2), .int (Mv 3), .int (Mv 4), .int (Mv 5), .int (Mv 6), .int (Mv 7), .int (Mv 8), .ref (Ma 7), .int (Mv 9), .ref (Ma 8), .int oo0x1, .ref (Ma 9), .ref (Ma 10), .int (Mv 11), .int (Mv 12), .int (Mv 13), .ref (Ma 11), .int oo0x2, .ref (Ma 12), .ref (Ma 13), .ref (Ma 14), .ref (Ma 15), .ref (Ma 16), .long (Mj 0), .ref (Ma 17), .ref (Ma 18), .ref (Ma 19), .ref (Ma 20)])), ((Ma 2), .inl (tc 0, 2400, .inl (Mf 2))), ((Ma 4), .inl (tc 0, 288, .inl (Mf 4))), ((Ma 5), .inl (tc 0, 6, .inl (Mf 5))), ((Ma 8), .inl (tc 1, 64, .inr (.inl oo0x3))), ((Ma 9), .inl (tc 1, 13, .inr (.inl oo0x4))), ((Ma 10), .inl (tc 0, 126, .inl oo0x5)), ((Ma 11), .inl (tc 0, 920, .inl oo0x6))]) 0 0 := by
  refine Ct.start (by decide) (Nat.le_of_ble_eq_true rfl) (fun p e s m below meth c A ls hx hb hr hlk hin hml hown hts hK hX hP hD hA hl hS => ?_)
  have hl : lv_has ls 1 [(0, .ref (Ma 0))] := hl
  have ar_h_said := SaidD.ar h_said
  refine lv_aload_n hx hb dX12_day_0 rfl (lv_at hl 0 rfl) ?_
  refine cV (a := (Ma 0)) (As := []) (rest := []) (wr := [((Ma 2), .inl (tc 0, 2400, .inl (Mf 2))), ((Ma 4), .inl (tc 0, 288, .inl (Mf 4))), ((Ma 5), .inl (tc 0, 6, .inl (Mf 5))), ((Ma 8), .inl (tc 1, 64, .inr (.inl (Mg 8)))), ((Ma 9), .inl (tc 1, 13, .inr (.inl (Mg 9)))), ((Ma 11), .inl (tc 0, 920, .inl (Mf 11)))]) ⟨hx, hb, hml, hown, hts⟩ hK hX hA (cu_X12_isBook l D tc sk (Ma 0) (Ma 1) (Ma 2) (Ma 3) (Ma 4) (Ma 5) (Ma 6) (Ma 7) (Ma 8) (Ma 9) (Ma 10) (Ma 11) (Ma 12) (Ma 13) (Ma 14) (Ma 15) (Ma 16) (Ma 17) (Ma 18) (Ma 19) (Ma 20) (Mv 0) (Mv 1) (Mv 2) (Mv 3) (Mv 4) (Mv 5) (Mv 6) (Mv 7) (Mv 8) (Mv 9) (Mv 10) (Mv 11) (Mv 12) (Mv 13) (Mv 14) (Mf 10) (Mj 0) h_said.1) k_1407 k_1404 k_1406 k_65 k_106 pl_X12_isBook ⟨Nat.le_of_ble_eq_true rfl, Nat.le_of_ble_eq_true rfl⟩ rfl rfl (va_recv hK hP (ci := 12) (q0 := 0) rfl rfl) hP hD hS [0, 6] [1, 2, 3, 4, 5, 7] rfl rfl rfl rfl rfl (by decide) rfl hl.1 rfl (Nat.le_of_ble_eq_true rfl) dX12_day_1 ⟨Nat.le_of_ble_eq_true rfl, Nat.le_of_ble_eq_true rfl⟩ (fun v_1 u_2 H locs hv_3 hP₀ hD₀ hS₀ => ?_)
  obtain ⟨r_4, rfl, he_5⟩ := hv_3
  have he_5 : (r_4.toInt = 0 ∨ (r_4.toInt = 1 ∧ 1 ≤ ((Mf 10) 2).toInt ∧ ((Mf 10) 2).toInt ≤ 10)) := he_5
  refine W.eq (g2 := F0 m 4 ls [.int r_4]) rfl ?_
  replace hP : va_P D classes [((Ma 2), .inl (tc 0, 2400, .inl (Mf 2))), ((Ma 4), .inl (tc 0, 288, .inl (Mf 4))), ((Ma 5), .inl (tc 0, 6, .inl (Mf 5))), ((Ma 8), .inl (tc 1, 64, .inr (.inl (Mg 8)))), ((Ma 9), .inl (tc 1, 13, .inr (.inl (Mg 9)))), ((Ma 11), .inl (tc 0, 920, .inl (Mf 11))), ((Ma 0), .inr (12, [.ref (Ma 1), .int (Mv 0), .int (Mv 1), .ref (Ma 2), .ref (Ma 3), .ref (Ma 4), .ref (Ma 5), .ref (Ma 6), .int (Mv 2), .int (Mv 3), .int (Mv 4), .int (Mv 5), .int (Mv 6), .int (Mv 7), .int (Mv 8), .ref (Ma 7), .int (Mv 9), .ref (Ma 8), .int (Mv 10), .ref (Ma 9), .ref (Ma 10), .int (Mv 11), .int (Mv 12), .int (Mv 13), .ref (Ma 11), .int (Mv 14), .ref (Ma 12), .ref (Ma 13), .ref (Ma 14), .ref (Ma 15), .ref (Ma 16), .long (Mj 0), .ref (Ma 17), .ref (Ma 18), .ref (Ma 19), .ref (Ma 20)])), ((Ma 10), .inl (tc 0, 126, .inl (Mf 10)))] H := hP₀
  replace hD : va_D A [((Ma 2), .inl (tc 0, 2400, .inl (Mf 2))), ((Ma 4), .inl (tc 0, 288, .inl (Mf 4))), ((Ma 5), .inl (tc 0, 6, .inl (Mf 5))), ((Ma 8), .inl (tc 1, 64, .inr (.inl (Mg 8)))), ((Ma 9), .inl (tc 1, 13, .inr (.inl (Mg 9)))), ((Ma 11), .inl (tc 0, 920, .inl (Mf 11))), ((Ma 0), .inr (12, [.ref (Ma 1), .int (Mv 0), .int (Mv 1), .ref (Ma 2), .ref (Ma 3), .ref (Ma 4), .ref (Ma 5), .ref (Ma 6), .int (Mv 2), .int (Mv 3), .int (Mv 4), .int (Mv 5), .int (Mv 6), .int (Mv 7), .int (Mv 8), .ref (Ma 7), .int (Mv 9), .ref (Ma 8), .int (Mv 10), .ref (Ma 9), .ref (Ma 10), .int (Mv 11), .int (Mv 12), .int (Mv 13), .ref (Ma 11), .int (Mv 14), .ref (Ma 12), .ref (Ma 13), .ref (Ma 14), .ref (Ma 15), .ref (Ma 16), .long (Mj 0), .ref (Ma 17), .ref (Ma 18), .ref (Ma 19), .ref (Ma 20)])), ((Ma 10), .inl (tc 0, 126, .inl (Mf 10)))] := hD₀
  replace hS := hS₀
  clear hP₀ hD₀ hS₀
  refine lv_if_eq (tgt := 20) hx hb dX12_day_4 (by decide) (fun c_7 => ?_) (fun c_7 => ?_)
  · skip
    refine lv_iconst (v := (-1)) hx hb dX12_day_20 (by decide) ?_
    exact retI (v := (-1)) hx hb hr hlk (rfl) hP hD hS ((Mv 10), (Mv 14), (Mg 8), (Mg 9), (Mf 10), (Mf 11)) ⟨_, rfl, trivial, h_said, h_was, h_un⟩ [6, 0, 1, 2, 3, 4, 7, 5] rfl rfl dX12_day_21 (Nat.le_of_ble_eq_true rfl) (Nat.le_of_ble_eq_true rfl) rfl
  · skip
    refine lv_aload_n hx hb dX12_day_7 rfl (lv_at hl 0 rfl) ?_
    refine gf_X12_39 hx hb hts hown hK hP 6 rfl rfl dX12_day_8 ?_
    refine lv_bipush (v := 10) hx hb dX12_day_11 (by decide) ?_
    refine va_iald hx hb hK hP 7 0 rfl rfl (vin_dec (by decide +kernel)) dX12_day_13 ?_
    refine lv_topi (fun x_8 ex_8 => ?_)
    have lx_8 : x_8.toInt = ((Mf 10) 10).toInt := congrArg Int32.toInt ex_8
    refine lv_sipush (v := 999) hx hb dX12_day_14 (by decide) ?_
    refine lv_icmp_ne (tgt := 22) hx hb dX12_day_17 (by decide) (fun c_9 => ?_) (fun c_9 => ?_)
    · skip
      refine lv_aload_n hx hb dX12_day_22 rfl (lv_at hl 0 rfl) ?_
      refine cV (a := (Ma 0)) (As := []) (rest := []) (wr := [((Ma 2), .inl (tc 0, 2400, .inl (Mf 2))), ((Ma 4), .inl (tc 0, 288, .inl (Mf 4))), ((Ma 5), .inl (tc 0, 6, .inl (Mf 5))), ((Ma 8), .inl (tc 1, 64, .inr (.inl (Mg 8)))), ((Ma 9), .inl (tc 1, 13, .inr (.inl (Mg 9))))]) ⟨hx, hb, hml, hown, hts⟩ hK hX hA (cu_X12_keepsAct l D tc sk (Ma 0) (Ma 1) (Ma 2) (Ma 3) (Ma 4) (Ma 5) (Ma 6) (Ma 7) (Ma 8) (Ma 9) (Ma 10) (Ma 11) (Ma 12) (Ma 13) (Ma 14) (Ma 15) (Ma 16) (Ma 17) (Ma 18) (Ma 19) (Ma 20) (Mv 0) (Mv 1) (Mv 2) (Mv 3) (Mv 4) (Mv 5) (Mv 6) (Mv 7) (Mv 8) (Mv 9) (Mv 10) (Mv 11) (Mv 12) (Mv 13) (Mv 14) (Mf 10) (Mf 11) (Mj 0) h_said h_was h_un) k_1419 k_1416 k_1418 k_66 k_106 pl_X12_keepsAct ⟨Nat.le_of_ble_eq_true rfl, Nat.le_of_ble_eq_true rfl⟩ rfl rfl (va_recv hK hP (ci := 12) (q0 := 6) rfl rfl) hP hD hS [6, 7, 5] [0, 1, 2, 3, 4] rfl rfl rfl rfl rfl (by decide) rfl hl.1 rfl (Nat.le_of_ble_eq_true rfl) dX12_day_23 ⟨Nat.le_of_ble_eq_true rfl, Nat.le_of_ble_eq_true rfl⟩ (fun v_10 u_11 H locs hv_12 hP₀ hD₀ hS₀ => ?_)
      obtain ⟨sv_13, sv_14⟩ := u_11
      obtain ⟨rfl, pf_15, pf_16⟩ := hv_12
      have pf_15 : WasD sv_14 := pf_15
      have pf_16 : 0 ≤ (sv_13 : Int32).toInt ∧ (sv_13 : Int32).toInt ≤ 20 := pf_16
      refine W.eq (g2 := F0 m 26 ls []) rfl ?_
      replace hP : va_P D classes [((Ma 2), .inl (tc 0, 2400, .inl (Mf 2))), ((Ma 4), .inl (tc 0, 288, .inl (Mf 4))), ((Ma 5), .inl (tc 0, 6, .inl (Mf 5))), ((Ma 8), .inl (tc 1, 64, .inr (.inl (Mg 8)))), ((Ma 9), .inl (tc 1, 13, .inr (.inl (Mg 9)))), ((Ma 0), .inr (12, [.ref (Ma 1), .int (Mv 0), .int (Mv 1), .ref (Ma 2), .ref (Ma 3), .ref (Ma 4), .ref (Ma 5), .ref (Ma 6), .int (Mv 2), .int (Mv 3), .int (Mv 4), .int (Mv 5), .int (Mv 6), .int (Mv 7), .int (Mv 8), .ref (Ma 7), .int (Mv 9), .ref (Ma 8), .int (Mv 10), .ref (Ma 9), .ref (Ma 10), .int (Mv 11), .int (Mv 12), .int (Mv 13), .ref (Ma 11), .int sv_13, .ref (Ma 12), .ref (Ma 13), .ref (Ma 14), .ref (Ma 15), .ref (Ma 16), .long (Mj 0), .ref (Ma 17), .ref (Ma 18), .ref (Ma 19), .ref (Ma 20)])), ((Ma 10), .inl (tc 0, 126, .inl (Mf 10))), ((Ma 11), .inl (tc 0, 920, .inl sv_14))] H := hP₀
      replace hD : va_D A [((Ma 2), .inl (tc 0, 2400, .inl (Mf 2))), ((Ma 4), .inl (tc 0, 288, .inl (Mf 4))), ((Ma 5), .inl (tc 0, 6, .inl (Mf 5))), ((Ma 8), .inl (tc 1, 64, .inr (.inl (Mg 8)))), ((Ma 9), .inl (tc 1, 13, .inr (.inl (Mg 9)))), ((Ma 0), .inr (12, [.ref (Ma 1), .int (Mv 0), .int (Mv 1), .ref (Ma 2), .ref (Ma 3), .ref (Ma 4), .ref (Ma 5), .ref (Ma 6), .int (Mv 2), .int (Mv 3), .int (Mv 4), .int (Mv 5), .int (Mv 6), .int (Mv 7), .int (Mv 8), .ref (Ma 7), .int (Mv 9), .ref (Ma 8), .int (Mv 10), .ref (Ma 9), .ref (Ma 10), .int (Mv 11), .int (Mv 12), .int (Mv 13), .ref (Ma 11), .int sv_13, .ref (Ma 12), .ref (Ma 13), .ref (Ma 14), .ref (Ma 15), .ref (Ma 16), .long (Mj 0), .ref (Ma 17), .ref (Ma 18), .ref (Ma 19), .ref (Ma 20)])), ((Ma 10), .inl (tc 0, 126, .inl (Mf 10))), ((Ma 11), .inl (tc 0, 920, .inl sv_14))] := hD₀
      replace hS := hS₀
      clear hP₀ hD₀ hS₀
      refine lv_aload_n hx hb dX12_day_26 rfl (lv_at hl 0 rfl) ?_
      have hr_17 : ¬ ((Mf 10) 10).toInt = 999 := by
        have z_1 : ¬ (r_4 : Int32).toInt = (0 : Int32).toInt := fun z => c_7 (Int32.toInt_inj.mp z)
        have z_2 : ¬ (x_8 : Int32).toInt = (999 : Int32).toInt := fun z => c_9 (Int32.toInt_inj.mp z)
        have y_0 : (0 : Int32).toInt = 0 := by decide
        have y_999 : (999 : Int32).toInt = 999 := by decide
        omega
      have ha_18 : (998 : Int) ≤ 1000000 := by
        have z_1 : ¬ (r_4 : Int32).toInt = (0 : Int32).toInt := fun z => c_7 (Int32.toInt_inj.mp z)
        have z_2 : ¬ (x_8 : Int32).toInt = (999 : Int32).toInt := fun z => c_9 (Int32.toInt_inj.mp z)
        have y_0 : (0 : Int32).toInt = 0 := by decide
        have y_999 : (999 : Int32).toInt = 999 := by decide
        have y_998 : (998 : Int32).toInt = 998 := by decide
        omega
      refine cV (a := (Ma 0)) (As := []) (rest := []) (wr := [((Ma 11), .inl (tc 0, 920, .inl sv_14))]) ⟨hx, hb, hml, hown, hts⟩ hK hX hA (cu_X12_passes l D tc sk (Ma 0) (Ma 1) (Ma 2) (Ma 3) (Ma 4) (Ma 5) (Ma 6) (Ma 7) (Ma 8) (Ma 9) (Ma 10) (Ma 11) (Ma 12) (Ma 13) (Ma 14) (Ma 15) (Ma 16) (Ma 17) (Ma 18) (Ma 19) (Ma 20) (Mv 0) (Mv 1) (Mv 2) (Mv 3) (Mv 4) (Mv 5) (Mv 6) (Mv 7) (Mv 8) (Mv 9) (Mv 10) (Mv 11) (Mv 12) (Mv 13) sv_13 (Mf 2) (Mf 4) (Mf 5) (Mf 10) (Mj 0) (Mg 8) (Mg 9) 998 (SaidD.lt h_said hr_17) ha_18 h_rul h_frc) k_1423 k_1420 k_1422 k_67 k_106 pl_X12_passes ⟨Nat.le_of_ble_eq_true rfl, Nat.le_of_ble_eq_true rfl⟩ rfl rfl (va_recv hK hP (ci := 12) (q0 := 5) rfl rfl) hP hD hS [5, 0, 1, 2, 3, 4, 6] [7] rfl rfl rfl rfl rfl (by decide) rfl hl.1 rfl (Nat.le_of_ble_eq_true rfl) dX12_day_27 ⟨Nat.le_of_ble_eq_true rfl, Nat.le_of_ble_eq_true rfl⟩ (fun v_19 u_20 H locs hv_21 hP₀ hD₀ hS₀ => ?_)
      obtain ⟨sv_22, sv_23, sv_24, sv_25⟩ := u_20
      obtain ⟨r_27, rfl, he_28, pf_26⟩ := hv_21
      have pf_26 : SaidD T sv_25 ((998 : Int) + 1) := pf_26
      have ar_pf_26 := SaidD.ar pf_26
      refine W.eq (g2 := F0 m 30 ls [.int r_27]) rfl ?_
      replace hP : va_P D classes [((Ma 11), .inl (tc 0, 920, .inl sv_14)), ((Ma 0), .inr (12, [.ref (Ma 1), .int (Mv 0), .int (Mv 1), .ref (Ma 2), .ref (Ma 3), .ref (Ma 4), .ref (Ma 5), .ref (Ma 6), .int (Mv 2), .int (Mv 3), .int (Mv 4), .int (Mv 5), .int (Mv 6), .int (Mv 7), .int (Mv 8), .ref (Ma 7), .int (Mv 9), .ref (Ma 8), .int sv_22, .ref (Ma 9), .ref (Ma 10), .int (Mv 11), .int (Mv 12), .int (Mv 13), .ref (Ma 11), .int sv_13, .ref (Ma 12), .ref (Ma 13), .ref (Ma 14), .ref (Ma 15), .ref (Ma 16), .long (Mj 0), .ref (Ma 17), .ref (Ma 18), .ref (Ma 19), .ref (Ma 20)])), ((Ma 2), .inl (tc 0, 2400, .inl (Mf 2))), ((Ma 4), .inl (tc 0, 288, .inl (Mf 4))), ((Ma 5), .inl (tc 0, 6, .inl (Mf 5))), ((Ma 8), .inl (tc 1, 64, .inr (.inl sv_23))), ((Ma 9), .inl (tc 1, 13, .inr (.inl sv_24))), ((Ma 10), .inl (tc 0, 126, .inl sv_25))] H := hP₀
      replace hD : va_D A [((Ma 11), .inl (tc 0, 920, .inl sv_14)), ((Ma 0), .inr (12, [.ref (Ma 1), .int (Mv 0), .int (Mv 1), .ref (Ma 2), .ref (Ma 3), .ref (Ma 4), .ref (Ma 5), .ref (Ma 6), .int (Mv 2), .int (Mv 3), .int (Mv 4), .int (Mv 5), .int (Mv 6), .int (Mv 7), .int (Mv 8), .ref (Ma 7), .int (Mv 9), .ref (Ma 8), .int sv_22, .ref (Ma 9), .ref (Ma 10), .int (Mv 11), .int (Mv 12), .int (Mv 13), .ref (Ma 11), .int sv_13, .ref (Ma 12), .ref (Ma 13), .ref (Ma 14), .ref (Ma 15), .ref (Ma 16), .long (Mj 0), .ref (Ma 17), .ref (Ma 18), .ref (Ma 19), .ref (Ma 20)])), ((Ma 2), .inl (tc 0, 2400, .inl (Mf 2))), ((Ma 4), .inl (tc 0, 288, .inl (Mf 4))), ((Ma 5), .inl (tc 0, 6, .inl (Mf 5))), ((Ma 8), .inl (tc 1, 64, .inr (.inl sv_23))), ((Ma 9), .inl (tc 1, 13, .inr (.inl sv_24))), ((Ma 10), .inl (tc 0, 126, .inl sv_25))] := hD₀
      replace hS := hS₀
      clear hP₀ hD₀ hS₀
      have ha_30 : ((998 : Int) + 1) ≤ 999 := by
        have z_1 : ¬ (r_4 : Int32).toInt = (0 : Int32).toInt := fun z => c_7 (Int32.toInt_inj.mp z)
        have z_2 : ¬ (x_8 : Int32).toInt = (999 : Int32).toInt := fun z => c_9 (Int32.toInt_inj.mp z)
        have y_0 : (0 : Int32).toInt = 0 := by decide
        have y_999 : (999 : Int32).toInt = 999 := by decide
        omega
      exact retI (v := r_27) hx hb hr hlk (rfl) hP hD hS (sv_22, sv_13, sv_23, sv_24, sv_25, sv_14) ⟨_, rfl, trivial, (SaidD.mono pf_26 ha_30), pf_15, pf_16⟩ [1, 2, 3, 4, 5, 6, 7, 0] rfl rfl dX12_day_30 (Nat.le_of_ble_eq_true rfl) (Nat.le_of_ble_eq_true rfl) rfl
    · skip
      refine lv_iconst (v := (-1)) hx hb dX12_day_20 (by decide) ?_
      exact retI (v := (-1)) hx hb hr hlk (rfl) hP hD hS ((Mv 10), (Mv 14), (Mg 8), (Mg 9), (Mf 10), (Mf 11)) ⟨_, rfl, trivial, h_said, h_was, h_un⟩ [6, 0, 1, 2, 3, 4, 7, 5] rfl rfl dX12_day_21 (Nat.le_of_ble_eq_true rfl) (Nat.le_of_ble_eq_true rfl) rfl
set_option maxHeartbeats 4000000 in
set_option maxRecDepth 100000 in
theorem ct_X12_sell {T : Nat → Option Int32} (l : Launch) (D : va_G) (tc : Nat → ClassId) (sk : (Nat → Nat) × (Nat → Nat)) (Ma : Nat → Nat) (Mv : Nat → Int32) (Mf : Nat → Nat → Int32) (Mj : Nat → Int64) (x1 : Int32) (h_said : SaidD T (Mf 10) 999) (h_was : WasD (Mf 11)) (h_un : 0 ≤ ((Mv 14) : Int32).toInt ∧ ((Mv 14) : Int32).toInt ≤ 20) : Ct l yX12_sell cX12_sell 2 (some .int) { frames := 1, cells := 0, slots := 0, locals := 22 } D tc sk [.ref (Ma 0), .int x1] [((Ma 0), .inr (12, [.ref (Ma 1), .int (Mv 0), .int (Mv 1), .ref (Ma 2), .ref (Ma 3), .ref (Ma 4), .ref (Ma 5), .ref (Ma 6), .int (Mv 2), .int (Mv 3), .int (Mv 4), .int (Mv 5), .int (Mv 6), .int (Mv 7), .int (Mv 8), .ref (Ma 7), .int (Mv 9), .ref (Ma 8), .int (Mv 10), .ref (Ma 9), .ref (Ma 10), .int (Mv 11), .int (Mv 12), .int (Mv 13), .ref (Ma 11), .int (Mv 14), .ref (Ma 12), .ref (Ma 13), .ref (Ma 14), .ref (Ma 15), .ref (Ma 16), .long (Mj 0), .ref (Ma 17), .ref (Ma 18), .ref (Ma 19), .ref (Ma 20)])), ((Ma 10), .inl (tc 0, 126, .inl (Mf 10))), ((Ma 11), .inl (tc 0, 920, .inl (Mf 11)))] (fun (v : Option Value) (u : (Int32) × (Nat → Int32) × (Nat → Int32)) => match u with | (oo0x1, oo0x2, oo0x3) => ∃ r : Int32, v = some (.int r) ∧ (True) ∧ (SaidD T oo0x2 999) ∧ (WasD oo0x3) ∧ (0 ≤ (oo0x1 : Int32).toInt ∧ (oo0x1 : Int32).toInt ≤ 20)) (fun (u : (Int32) × (Nat → Int32) × (Nat → Int32)) => match u with | (oo0x1, oo0x2, oo0x3) => [((Ma 0), .inr (12, [.ref (Ma 1), .int (Mv 0), .int (Mv 1), .ref (Ma 2), .ref (Ma 3), .ref (Ma 4), .ref (Ma 5), .ref (Ma 6), .int (Mv 2), .int (Mv 3), .int (Mv 4), .int (Mv 5), .int (Mv 6), .int (Mv 7), .int (Mv 8), .ref (Ma 7), .int (Mv 9), .ref (Ma 8), .int (Mv 10), .ref (Ma 9), .ref (Ma 10), .int (Mv 11), .int (Mv 12), .int (Mv 13), .ref (Ma 11), .int oo0x1, .ref (Ma 12), .ref (Ma 13), .ref (Ma 14), .ref (Ma 15), .ref (Ma 16), .long (Mj 0), .ref (Ma 17), .ref (Ma 18), .ref (Ma 19), .ref (Ma 20)])), ((Ma 10), .inl (tc 0, 126, .inl oo0x2)), ((Ma 11), .inl (tc 0, 920, .inl oo0x3))]) 0 0 := by
  refine Ct.start (by decide) (Nat.le_of_ble_eq_true rfl) (fun p e s m below meth c A ls hx hb hr hlk hin hml hown hts hK hX hP hD hA hl hS => ?_)
  have hl : lv_has ls 2 [(0, .ref (Ma 0)), (1, .int x1)] := hl
  have ar_h_said := SaidD.ar h_said
  refine lv_aload_n hx hb dX12_sell_0 rfl (lv_at hl 0 rfl) ?_
  refine lv_iload_n hx hb dX12_sell_1 rfl (lv_at hl 1 rfl) ?_
  refine cV (a := (Ma 0)) (As := [.int x1]) (rest := []) (wr := [((Ma 11), .inl (tc 0, 920, .inl (Mf 11)))]) ⟨hx, hb, hml, hown, hts⟩ hK hX hA (cu_X12_isBuyer l D tc sk (Ma 0) (Ma 1) (Ma 2) (Ma 3) (Ma 4) (Ma 5) (Ma 6) (Ma 7) (Ma 8) (Ma 9) (Ma 10) (Ma 11) (Ma 12) (Ma 13) (Ma 14) (Ma 15) (Ma 16) (Ma 17) (Ma 18) (Ma 19) (Ma 20) (Mv 0) (Mv 1) (Mv 2) (Mv 3) (Mv 4) (Mv 5) (Mv 6) (Mv 7) (Mv 8) (Mv 9) (Mv 10) (Mv 11) (Mv 12) (Mv 13) (Mv 14) (Mf 10) (Mj 0) x1 h_said.1) k_1375 k_1372 k_1374 k_58 k_106 pl_X12_isBuyer ⟨Nat.le_of_ble_eq_true rfl, Nat.le_of_ble_eq_true rfl⟩ rfl rfl (va_recv hK hP (ci := 12) (q0 := 0) rfl rfl) hP hD hS [0, 1] [2] rfl rfl rfl rfl rfl (by decide) rfl hl.1 rfl (Nat.le_of_ble_eq_true rfl) dX12_sell_2 ⟨Nat.le_of_ble_eq_true rfl, Nat.le_of_ble_eq_true rfl⟩ (fun v_1 u_2 H locs hv_3 hP₀ hD₀ hS₀ => ?_)
  obtain ⟨r_4, rfl, he_5⟩ := hv_3
  have he_5 : (r_4.toInt = 0 ∨ (r_4.toInt = 1 ∧ 0 ≤ x1.toInt ∧ x1.toInt < ((Mf 10) 3).toInt)) := he_5
  refine W.eq (g2 := F0 m 5 ls [.int r_4]) rfl ?_
  replace hP : va_P D classes [((Ma 11), .inl (tc 0, 920, .inl (Mf 11))), ((Ma 0), .inr (12, [.ref (Ma 1), .int (Mv 0), .int (Mv 1), .ref (Ma 2), .ref (Ma 3), .ref (Ma 4), .ref (Ma 5), .ref (Ma 6), .int (Mv 2), .int (Mv 3), .int (Mv 4), .int (Mv 5), .int (Mv 6), .int (Mv 7), .int (Mv 8), .ref (Ma 7), .int (Mv 9), .ref (Ma 8), .int (Mv 10), .ref (Ma 9), .ref (Ma 10), .int (Mv 11), .int (Mv 12), .int (Mv 13), .ref (Ma 11), .int (Mv 14), .ref (Ma 12), .ref (Ma 13), .ref (Ma 14), .ref (Ma 15), .ref (Ma 16), .long (Mj 0), .ref (Ma 17), .ref (Ma 18), .ref (Ma 19), .ref (Ma 20)])), ((Ma 10), .inl (tc 0, 126, .inl (Mf 10)))] H := hP₀
  replace hD : va_D A [((Ma 11), .inl (tc 0, 920, .inl (Mf 11))), ((Ma 0), .inr (12, [.ref (Ma 1), .int (Mv 0), .int (Mv 1), .ref (Ma 2), .ref (Ma 3), .ref (Ma 4), .ref (Ma 5), .ref (Ma 6), .int (Mv 2), .int (Mv 3), .int (Mv 4), .int (Mv 5), .int (Mv 6), .int (Mv 7), .int (Mv 8), .ref (Ma 7), .int (Mv 9), .ref (Ma 8), .int (Mv 10), .ref (Ma 9), .ref (Ma 10), .int (Mv 11), .int (Mv 12), .int (Mv 13), .ref (Ma 11), .int (Mv 14), .ref (Ma 12), .ref (Ma 13), .ref (Ma 14), .ref (Ma 15), .ref (Ma 16), .long (Mj 0), .ref (Ma 17), .ref (Ma 18), .ref (Ma 19), .ref (Ma 20)])), ((Ma 10), .inl (tc 0, 126, .inl (Mf 10)))] := hD₀
  replace hS := hS₀
  clear hP₀ hD₀ hS₀
  refine lv_if_eq (tgt := 27) hx hb dX12_sell_5 (by decide) (fun c_7 => ?_) (fun c_7 => ?_)
  · skip
    refine lv_iconst (v := (-1)) hx hb dX12_sell_27 (by decide) ?_
    exact retI (v := (-1)) hx hb hr hlk (rfl) hP hD hS ((Mv 14), (Mf 10), (Mf 11)) ⟨_, rfl, trivial, h_said, h_was, h_un⟩ [1, 2, 0] rfl rfl dX12_sell_28 (Nat.le_of_ble_eq_true rfl) (Nat.le_of_ble_eq_true rfl) rfl
  · skip
    refine lv_aload_n hx hb dX12_sell_8 rfl (lv_at hl 0 rfl) ?_
    refine gf_X12_39 hx hb hts hown hK hP 1 rfl rfl dX12_sell_9 ?_
    refine lv_bipush (v := 11) hx hb dX12_sell_12 (by decide) ?_
    refine va_iald hx hb hK hP 2 0 rfl rfl (vin_dec (by decide +kernel)) dX12_sell_14 ?_
    refine lv_topi (fun x_8 ex_8 => ?_)
    have lx_8 : x_8.toInt = ((Mf 10) 11).toInt := congrArg Int32.toInt ex_8
    refine lv_aload_n hx hb dX12_sell_15 rfl (lv_at hl 0 rfl) ?_
    refine gf_X12_39 hx hb hts hown hK hP 1 rfl rfl dX12_sell_16 ?_
    refine lv_bipush (v := 56) hx hb dX12_sell_19 (by decide) ?_
    refine lv_iload_n hx hb dX12_sell_21 rfl (lv_at hl 1 rfl) ?_
    refine lv_iadd hx hb dX12_sell_22 ?_
    refine lv_topi (fun x_9 ex_9 => ?_)
    have hi_10 : vp_in x_9 126 := by
      have z_1 : ¬ (r_4 : Int32).toInt = (0 : Int32).toInt := fun z => c_7 (Int32.toInt_inj.mp z)
      have y_0 : (0 : Int32).toInt = 0 := by decide
      have y_56 : (56 : Int32).toInt = 56 := by decide
      have t_x_9 : x_9.toInt = (56 : Int32).toInt + (x1 : Int32).toInt := by rw [ex_9]; exact add_toInt (by omega) (by omega)
      refine vp_in_iff.mpr ⟨?_, ?_⟩ <;> omega
    refine va_iald hx hb hK hP 2 0 rfl rfl hi_10 dX12_sell_23 ?_
    refine lv_topi (fun x_11 ex_11 => ?_)
    refine lv_icmp_ge (tgt := 29) hx hb dX12_sell_24 (by decide) (fun c_12 => ?_) (fun c_12 => ?_)
    · skip
      refine lv_aload_n hx hb dX12_sell_29 rfl (lv_at hl 0 rfl) ?_
      refine cV (a := (Ma 0)) (As := []) (rest := []) (wr := []) ⟨hx, hb, hml, hown, hts⟩ hK hX hA (cu_X12_keepsAct l D tc sk (Ma 0) (Ma 1) (Ma 2) (Ma 3) (Ma 4) (Ma 5) (Ma 6) (Ma 7) (Ma 8) (Ma 9) (Ma 10) (Ma 11) (Ma 12) (Ma 13) (Ma 14) (Ma 15) (Ma 16) (Ma 17) (Ma 18) (Ma 19) (Ma 20) (Mv 0) (Mv 1) (Mv 2) (Mv 3) (Mv 4) (Mv 5) (Mv 6) (Mv 7) (Mv 8) (Mv 9) (Mv 10) (Mv 11) (Mv 12) (Mv 13) (Mv 14) (Mf 10) (Mf 11) (Mj 0) h_said h_was h_un) k_1419 k_1416 k_1418 k_66 k_106 pl_X12_keepsAct ⟨Nat.le_of_ble_eq_true rfl, Nat.le_of_ble_eq_true rfl⟩ rfl rfl (va_recv hK hP (ci := 12) (q0 := 1) rfl rfl) hP hD hS [1, 2, 0] [] rfl rfl rfl rfl rfl (by decide) rfl hl.1 rfl (Nat.le_of_ble_eq_true rfl) dX12_sell_30 ⟨Nat.le_of_ble_eq_true rfl, Nat.le_of_ble_eq_true rfl⟩ (fun v_13 u_14 H locs hv_15 hP₀ hD₀ hS₀ => ?_)
      obtain ⟨sv_16, sv_17⟩ := u_14
      obtain ⟨rfl, pf_18, pf_19⟩ := hv_15
      have pf_18 : WasD sv_17 := pf_18
      have pf_19 : 0 ≤ (sv_16 : Int32).toInt ∧ (sv_16 : Int32).toInt ≤ 20 := pf_19
      refine W.eq (g2 := F0 m 33 ls []) rfl ?_
      replace hP : va_P D classes [((Ma 0), .inr (12, [.ref (Ma 1), .int (Mv 0), .int (Mv 1), .ref (Ma 2), .ref (Ma 3), .ref (Ma 4), .ref (Ma 5), .ref (Ma 6), .int (Mv 2), .int (Mv 3), .int (Mv 4), .int (Mv 5), .int (Mv 6), .int (Mv 7), .int (Mv 8), .ref (Ma 7), .int (Mv 9), .ref (Ma 8), .int (Mv 10), .ref (Ma 9), .ref (Ma 10), .int (Mv 11), .int (Mv 12), .int (Mv 13), .ref (Ma 11), .int sv_16, .ref (Ma 12), .ref (Ma 13), .ref (Ma 14), .ref (Ma 15), .ref (Ma 16), .long (Mj 0), .ref (Ma 17), .ref (Ma 18), .ref (Ma 19), .ref (Ma 20)])), ((Ma 10), .inl (tc 0, 126, .inl (Mf 10))), ((Ma 11), .inl (tc 0, 920, .inl sv_17))] H := hP₀
      replace hD : va_D A [((Ma 0), .inr (12, [.ref (Ma 1), .int (Mv 0), .int (Mv 1), .ref (Ma 2), .ref (Ma 3), .ref (Ma 4), .ref (Ma 5), .ref (Ma 6), .int (Mv 2), .int (Mv 3), .int (Mv 4), .int (Mv 5), .int (Mv 6), .int (Mv 7), .int (Mv 8), .ref (Ma 7), .int (Mv 9), .ref (Ma 8), .int (Mv 10), .ref (Ma 9), .ref (Ma 10), .int (Mv 11), .int (Mv 12), .int (Mv 13), .ref (Ma 11), .int sv_16, .ref (Ma 12), .ref (Ma 13), .ref (Ma 14), .ref (Ma 15), .ref (Ma 16), .long (Mj 0), .ref (Ma 17), .ref (Ma 18), .ref (Ma 19), .ref (Ma 20)])), ((Ma 10), .inl (tc 0, 126, .inl (Mf 10))), ((Ma 11), .inl (tc 0, 920, .inl sv_17))] := hD₀
      replace hS := hS₀
      clear hP₀ hD₀ hS₀
      refine lv_aload_n hx hb dX12_sell_33 rfl (lv_at hl 0 rfl) ?_
      refine lv_iload_n hx hb dX12_sell_34 rfl (lv_at hl 1 rfl) ?_
      have ha_20 : 0 ≤ x1.toInt ∧ x1.toInt < 6 := by
        have z_1 : ¬ (r_4 : Int32).toInt = (0 : Int32).toInt := fun z => c_7 (Int32.toInt_inj.mp z)
        have z_2 := Int32.le_iff_toInt_le.mp c_12
        have y_0 : (0 : Int32).toInt = 0 := by decide
        omega
      refine cV (a := (Ma 0)) (As := [.int x1]) (rest := []) (wr := [((Ma 11), .inl (tc 0, 920, .inl sv_17))]) ⟨hx, hb, hml, hown, hts⟩ hK hX hA (cu_X12_takes l D tc sk (Ma 0) (Ma 1) (Ma 2) (Ma 3) (Ma 4) (Ma 5) (Ma 6) (Ma 7) (Ma 8) (Ma 9) (Ma 10) (Ma 11) (Ma 12) (Ma 13) (Ma 14) (Ma 15) (Ma 16) (Ma 17) (Ma 18) (Ma 19) (Ma 20) (Mv 0) (Mv 1) (Mv 2) (Mv 3) (Mv 4) (Mv 5) (Mv 6) (Mv 7) (Mv 8) (Mv 9) (Mv 10) (Mv 11) (Mv 12) (Mv 13) sv_16 (Mf 10) (Mj 0) x1 999 ha_20 h_said) k_1473 k_1470 k_1472 k_78 k_106 pl_X12_takes ⟨Nat.le_of_ble_eq_true rfl, Nat.le_of_ble_eq_true rfl⟩ rfl rfl (va_recv hK hP (ci := 12) (q0 := 0) rfl rfl) hP hD hS [0, 1] [2] rfl rfl rfl rfl rfl (by decide) rfl hl.1 rfl (Nat.le_of_ble_eq_true rfl) dX12_sell_35 ⟨Nat.le_of_ble_eq_true rfl, Nat.le_of_ble_eq_true rfl⟩ (fun v_21 u_22 H locs hv_23 hP₀ hD₀ hS₀ => ?_)
      obtain ⟨sv_24, rfl⟩ : ∃ z, z = u_22 := ⟨_, rfl⟩
      obtain ⟨rfl, pf_25⟩ := hv_23
      have pf_25 : SaidD T sv_24 (999 : Int) := pf_25
      have ar_pf_25 := SaidD.ar pf_25
      refine W.eq (g2 := F0 m 38 ls []) rfl ?_
      replace hP : va_P D classes [((Ma 11), .inl (tc 0, 920, .inl sv_17)), ((Ma 0), .inr (12, [.ref (Ma 1), .int (Mv 0), .int (Mv 1), .ref (Ma 2), .ref (Ma 3), .ref (Ma 4), .ref (Ma 5), .ref (Ma 6), .int (Mv 2), .int (Mv 3), .int (Mv 4), .int (Mv 5), .int (Mv 6), .int (Mv 7), .int (Mv 8), .ref (Ma 7), .int (Mv 9), .ref (Ma 8), .int (Mv 10), .ref (Ma 9), .ref (Ma 10), .int (Mv 11), .int (Mv 12), .int (Mv 13), .ref (Ma 11), .int sv_16, .ref (Ma 12), .ref (Ma 13), .ref (Ma 14), .ref (Ma 15), .ref (Ma 16), .long (Mj 0), .ref (Ma 17), .ref (Ma 18), .ref (Ma 19), .ref (Ma 20)])), ((Ma 10), .inl (tc 0, 126, .inl sv_24))] H := hP₀
      replace hD : va_D A [((Ma 11), .inl (tc 0, 920, .inl sv_17)), ((Ma 0), .inr (12, [.ref (Ma 1), .int (Mv 0), .int (Mv 1), .ref (Ma 2), .ref (Ma 3), .ref (Ma 4), .ref (Ma 5), .ref (Ma 6), .int (Mv 2), .int (Mv 3), .int (Mv 4), .int (Mv 5), .int (Mv 6), .int (Mv 7), .int (Mv 8), .ref (Ma 7), .int (Mv 9), .ref (Ma 8), .int (Mv 10), .ref (Ma 9), .ref (Ma 10), .int (Mv 11), .int (Mv 12), .int (Mv 13), .ref (Ma 11), .int sv_16, .ref (Ma 12), .ref (Ma 13), .ref (Ma 14), .ref (Ma 15), .ref (Ma 16), .long (Mj 0), .ref (Ma 17), .ref (Ma 18), .ref (Ma 19), .ref (Ma 20)])), ((Ma 10), .inl (tc 0, 126, .inl sv_24))] := hD₀
      replace hS := hS₀
      clear hP₀ hD₀ hS₀
      refine lv_aload_n hx hb dX12_sell_38 rfl (lv_at hl 0 rfl) ?_
      refine gf_X12_39 hx hb hts hown hK hP 1 rfl rfl dX12_sell_39 ?_
      refine lv_bipush (v := 11) hx hb dX12_sell_42 (by decide) ?_
      refine va_iald hx hb hK hP 2 0 rfl rfl (vin_dec (by decide +kernel)) dX12_sell_44 ?_
      refine lv_topi (fun x_26 ex_26 => ?_)
      have lx_26 : x_26.toInt = (sv_24 11).toInt := congrArg Int32.toInt ex_26
      have ha_27 : (999 : Int) ≤ 999 := by
        have z_1 : ¬ (r_4 : Int32).toInt = (0 : Int32).toInt := fun z => c_7 (Int32.toInt_inj.mp z)
        have z_2 := Int32.le_iff_toInt_le.mp c_12
        have y_0 : (0 : Int32).toInt = 0 := by decide
        omega
      exact retI (v := x_26) hx hb hr hlk (rfl) hP hD hS (sv_16, sv_24, sv_17) ⟨_, rfl, trivial, (SaidD.mono pf_25 ha_27), pf_18, pf_19⟩ [1, 2, 0] rfl rfl dX12_sell_45 (Nat.le_of_ble_eq_true rfl) (Nat.le_of_ble_eq_true rfl) rfl
    · skip
      refine lv_iconst (v := (-1)) hx hb dX12_sell_27 (by decide) ?_
      exact retI (v := (-1)) hx hb hr hlk (rfl) hP hD hS ((Mv 14), (Mf 10), (Mf 11)) ⟨_, rfl, trivial, h_said, h_was, h_un⟩ [1, 2, 0] rfl rfl dX12_sell_28 (Nat.le_of_ble_eq_true rfl) (Nat.le_of_ble_eq_true rfl) rfl
set_option maxHeartbeats 4000000 in
set_option maxRecDepth 100000 in
theorem ct_X12_calm {T : Nat → Option Int32} (l : Launch) (D : va_G) (tc : Nat → ClassId) (sk : (Nat → Nat) × (Nat → Nat)) (Ma : Nat → Nat) (Mv : Nat → Int32) (Mf : Nat → Nat → Int32) (Mj : Nat → Int64) (x1 : Int32) (x2 : Int32) (h_said : SaidD T (Mf 10) 999) (h_was : WasD (Mf 11)) (h_un : 0 ≤ ((Mv 14) : Int32).toInt ∧ ((Mv 14) : Int32).toInt ≤ 20) : Ct l yX12_calm cX12_calm 3 (some .int) { frames := 1, cells := 0, slots := 0, locals := 25 } D tc sk [.ref (Ma 0), .int x1, .int x2] [((Ma 0), .inr (12, [.ref (Ma 1), .int (Mv 0), .int (Mv 1), .ref (Ma 2), .ref (Ma 3), .ref (Ma 4), .ref (Ma 5), .ref (Ma 6), .int (Mv 2), .int (Mv 3), .int (Mv 4), .int (Mv 5), .int (Mv 6), .int (Mv 7), .int (Mv 8), .ref (Ma 7), .int (Mv 9), .ref (Ma 8), .int (Mv 10), .ref (Ma 9), .ref (Ma 10), .int (Mv 11), .int (Mv 12), .int (Mv 13), .ref (Ma 11), .int (Mv 14), .ref (Ma 12), .ref (Ma 13), .ref (Ma 14), .ref (Ma 15), .ref (Ma 16), .long (Mj 0), .ref (Ma 17), .ref (Ma 18), .ref (Ma 19), .ref (Ma 20)])), ((Ma 10), .inl (tc 0, 126, .inl (Mf 10))), ((Ma 11), .inl (tc 0, 920, .inl (Mf 11)))] (fun (v : Option Value) (u : (Int32) × (Nat → Int32) × (Nat → Int32)) => match u with | (oo0x1, oo0x2, oo0x3) => ∃ r : Int32, v = some (.int r) ∧ (True) ∧ (SaidD T oo0x2 999) ∧ (WasD oo0x3) ∧ (0 ≤ (oo0x1 : Int32).toInt ∧ (oo0x1 : Int32).toInt ≤ 20)) (fun (u : (Int32) × (Nat → Int32) × (Nat → Int32)) => match u with | (oo0x1, oo0x2, oo0x3) => [((Ma 0), .inr (12, [.ref (Ma 1), .int (Mv 0), .int (Mv 1), .ref (Ma 2), .ref (Ma 3), .ref (Ma 4), .ref (Ma 5), .ref (Ma 6), .int (Mv 2), .int (Mv 3), .int (Mv 4), .int (Mv 5), .int (Mv 6), .int (Mv 7), .int (Mv 8), .ref (Ma 7), .int (Mv 9), .ref (Ma 8), .int (Mv 10), .ref (Ma 9), .ref (Ma 10), .int (Mv 11), .int (Mv 12), .int (Mv 13), .ref (Ma 11), .int oo0x1, .ref (Ma 12), .ref (Ma 13), .ref (Ma 14), .ref (Ma 15), .ref (Ma 16), .long (Mj 0), .ref (Ma 17), .ref (Ma 18), .ref (Ma 19), .ref (Ma 20)])), ((Ma 10), .inl (tc 0, 126, .inl oo0x2)), ((Ma 11), .inl (tc 0, 920, .inl oo0x3))]) 0 0 := by
  refine Ct.start (by decide) (Nat.le_of_ble_eq_true rfl) (fun p e s m below meth c A ls hx hb hr hlk hin hml hown hts hK hX hP hD hA hl hS => ?_)
  have hl : lv_has ls 3 [(0, .ref (Ma 0)), (1, .int x1), (2, .int x2)] := hl
  have ar_h_said := SaidD.ar h_said
  refine lv_aload_n hx hb dX12_calm_0 rfl (lv_at hl 0 rfl) ?_
  refine lv_iload_n hx hb dX12_calm_1 rfl (lv_at hl 1 rfl) ?_
  refine cV (a := (Ma 0)) (As := [.int x1]) (rest := []) (wr := [((Ma 11), .inl (tc 0, 920, .inl (Mf 11)))]) ⟨hx, hb, hml, hown, hts⟩ hK hX hA (cu_X12_isBuyer l D tc sk (Ma 0) (Ma 1) (Ma 2) (Ma 3) (Ma 4) (Ma 5) (Ma 6) (Ma 7) (Ma 8) (Ma 9) (Ma 10) (Ma 11) (Ma 12) (Ma 13) (Ma 14) (Ma 15) (Ma 16) (Ma 17) (Ma 18) (Ma 19) (Ma 20) (Mv 0) (Mv 1) (Mv 2) (Mv 3) (Mv 4) (Mv 5) (Mv 6) (Mv 7) (Mv 8) (Mv 9) (Mv 10) (Mv 11) (Mv 12) (Mv 13) (Mv 14) (Mf 10) (Mj 0) x1 h_said.1) k_1375 k_1372 k_1374 k_58 k_106 pl_X12_isBuyer ⟨Nat.le_of_ble_eq_true rfl, Nat.le_of_ble_eq_true rfl⟩ rfl rfl (va_recv hK hP (ci := 12) (q0 := 0) rfl rfl) hP hD hS [0, 1] [2] rfl rfl rfl rfl rfl (by decide) rfl hl.1 rfl (Nat.le_of_ble_eq_true rfl) dX12_calm_2 ⟨Nat.le_of_ble_eq_true rfl, Nat.le_of_ble_eq_true rfl⟩ (fun v_1 u_2 H locs hv_3 hP₀ hD₀ hS₀ => ?_)
  obtain ⟨r_4, rfl, he_5⟩ := hv_3
  have he_5 : (r_4.toInt = 0 ∨ (r_4.toInt = 1 ∧ 0 ≤ x1.toInt ∧ x1.toInt < ((Mf 10) 3).toInt)) := he_5
  refine W.eq (g2 := F0 m 5 ls [.int r_4]) rfl ?_
  replace hP : va_P D classes [((Ma 11), .inl (tc 0, 920, .inl (Mf 11))), ((Ma 0), .inr (12, [.ref (Ma 1), .int (Mv 0), .int (Mv 1), .ref (Ma 2), .ref (Ma 3), .ref (Ma 4), .ref (Ma 5), .ref (Ma 6), .int (Mv 2), .int (Mv 3), .int (Mv 4), .int (Mv 5), .int (Mv 6), .int (Mv 7), .int (Mv 8), .ref (Ma 7), .int (Mv 9), .ref (Ma 8), .int (Mv 10), .ref (Ma 9), .ref (Ma 10), .int (Mv 11), .int (Mv 12), .int (Mv 13), .ref (Ma 11), .int (Mv 14), .ref (Ma 12), .ref (Ma 13), .ref (Ma 14), .ref (Ma 15), .ref (Ma 16), .long (Mj 0), .ref (Ma 17), .ref (Ma 18), .ref (Ma 19), .ref (Ma 20)])), ((Ma 10), .inl (tc 0, 126, .inl (Mf 10)))] H := hP₀
  replace hD : va_D A [((Ma 11), .inl (tc 0, 920, .inl (Mf 11))), ((Ma 0), .inr (12, [.ref (Ma 1), .int (Mv 0), .int (Mv 1), .ref (Ma 2), .ref (Ma 3), .ref (Ma 4), .ref (Ma 5), .ref (Ma 6), .int (Mv 2), .int (Mv 3), .int (Mv 4), .int (Mv 5), .int (Mv 6), .int (Mv 7), .int (Mv 8), .ref (Ma 7), .int (Mv 9), .ref (Ma 8), .int (Mv 10), .ref (Ma 9), .ref (Ma 10), .int (Mv 11), .int (Mv 12), .int (Mv 13), .ref (Ma 11), .int (Mv 14), .ref (Ma 12), .ref (Ma 13), .ref (Ma 14), .ref (Ma 15), .ref (Ma 16), .long (Mj 0), .ref (Ma 17), .ref (Ma 18), .ref (Ma 19), .ref (Ma 20)])), ((Ma 10), .inl (tc 0, 126, .inl (Mf 10)))] := hD₀
  replace hS := hS₀
  clear hP₀ hD₀ hS₀
  refine lv_if_eq (tgt := 29) hx hb dX12_calm_5 (by decide) (fun c_7 => ?_) (fun c_7 => ?_)
  · skip
    refine lv_iconst (v := (-1)) hx hb dX12_calm_29 (by decide) ?_
    exact retI (v := (-1)) hx hb hr hlk (rfl) hP hD hS ((Mv 14), (Mf 10), (Mf 11)) ⟨_, rfl, trivial, h_said, h_was, h_un⟩ [1, 2, 0] rfl rfl dX12_calm_30 (Nat.le_of_ble_eq_true rfl) (Nat.le_of_ble_eq_true rfl) rfl
  · skip
    refine lv_iload_n hx hb dX12_calm_8 rfl (lv_at hl 2 rfl) ?_
    refine lv_i2l (v := (x2).toInt64) hx hb dX12_calm_9 rfl ?_
    refine lv_lconst (v := 1) hx hb dX12_calm_10 (by decide) ?_
    refine lv_ldc2 hx hb hown (hts _ k_1486) dX12_calm_11 ?_
    refine cS (As := [.long (x2).toInt64, .long 1, .long 20]) (rest := []) (wr := [((Ma 11), .inl (tc 0, 920, .inl (Mf 11))), ((Ma 0), .inr (12, [.ref (Ma 1), .int (Mv 0), .int (Mv 1), .ref (Ma 2), .ref (Ma 3), .ref (Ma 4), .ref (Ma 5), .ref (Ma 6), .int (Mv 2), .int (Mv 3), .int (Mv 4), .int (Mv 5), .int (Mv 6), .int (Mv 7), .int (Mv 8), .ref (Ma 7), .int (Mv 9), .ref (Ma 8), .int (Mv 10), .ref (Ma 9), .ref (Ma 10), .int (Mv 11), .int (Mv 12), .int (Mv 13), .ref (Ma 11), .int (Mv 14), .ref (Ma 12), .ref (Ma 13), .ref (Ma 14), .ref (Ma 15), .ref (Ma 16), .long (Mj 0), .ref (Ma 17), .ref (Ma 18), .ref (Ma 19), .ref (Ma 20)])), ((Ma 10), .inl (tc 0, 126, .inl (Mf 10)))]) ⟨hx, hb, hml, hown, hts⟩ hK hX hA (ct_X12_in l D tc sk ((x2).toInt64) 1 20) k_1259 k_1257 k_1258 k_106 pl_X12_in ⟨Nat.le_of_ble_eq_true rfl, Nat.le_of_ble_eq_true rfl⟩ rfl rfl  hP hD hS [] [0, 1, 2] rfl rfl rfl rfl rfl (by decide) rfl hl.1 rfl (Nat.le_of_ble_eq_true rfl) dX12_calm_14 ⟨Nat.le_of_ble_eq_true rfl, Nat.le_of_ble_eq_true rfl⟩ (fun v_8 u_9 H locs hv_10 hP₀ hD₀ hS₀ => ?_)
    obtain ⟨r_11, rfl, he_12⟩ := hv_10
    have he_12 : (r_11.toInt = 0 ∨ (r_11.toInt = 1 ∧ (1 : Int64).toInt ≤ (x2).toInt64.toInt ∧ (x2).toInt64.toInt ≤ (20 : Int64).toInt)) := he_12
    refine W.eq (g2 := F0 m 17 ls [.int r_11]) rfl ?_
    replace hP : va_P D classes [((Ma 11), .inl (tc 0, 920, .inl (Mf 11))), ((Ma 0), .inr (12, [.ref (Ma 1), .int (Mv 0), .int (Mv 1), .ref (Ma 2), .ref (Ma 3), .ref (Ma 4), .ref (Ma 5), .ref (Ma 6), .int (Mv 2), .int (Mv 3), .int (Mv 4), .int (Mv 5), .int (Mv 6), .int (Mv 7), .int (Mv 8), .ref (Ma 7), .int (Mv 9), .ref (Ma 8), .int (Mv 10), .ref (Ma 9), .ref (Ma 10), .int (Mv 11), .int (Mv 12), .int (Mv 13), .ref (Ma 11), .int (Mv 14), .ref (Ma 12), .ref (Ma 13), .ref (Ma 14), .ref (Ma 15), .ref (Ma 16), .long (Mj 0), .ref (Ma 17), .ref (Ma 18), .ref (Ma 19), .ref (Ma 20)])), ((Ma 10), .inl (tc 0, 126, .inl (Mf 10)))] H := hP₀
    replace hD : va_D A [((Ma 11), .inl (tc 0, 920, .inl (Mf 11))), ((Ma 0), .inr (12, [.ref (Ma 1), .int (Mv 0), .int (Mv 1), .ref (Ma 2), .ref (Ma 3), .ref (Ma 4), .ref (Ma 5), .ref (Ma 6), .int (Mv 2), .int (Mv 3), .int (Mv 4), .int (Mv 5), .int (Mv 6), .int (Mv 7), .int (Mv 8), .ref (Ma 7), .int (Mv 9), .ref (Ma 8), .int (Mv 10), .ref (Ma 9), .ref (Ma 10), .int (Mv 11), .int (Mv 12), .int (Mv 13), .ref (Ma 11), .int (Mv 14), .ref (Ma 12), .ref (Ma 13), .ref (Ma 14), .ref (Ma 15), .ref (Ma 16), .long (Mj 0), .ref (Ma 17), .ref (Ma 18), .ref (Ma 19), .ref (Ma 20)])), ((Ma 10), .inl (tc 0, 126, .inl (Mf 10)))] := hD₀
    replace hS := hS₀
    clear hP₀ hD₀ hS₀
    have yl_he_12_1 : (1 : Int64).toInt = 1 := by decide
    have yl_he_12_20 : (20 : Int64).toInt = 20 := by decide
    simp only [i32_64] at he_12
    refine lv_if_eq (tgt := 29) hx hb dX12_calm_17 (by decide) (fun c_14 => ?_) (fun c_14 => ?_)
    · skip
      refine lv_iconst (v := (-1)) hx hb dX12_calm_29 (by decide) ?_
      exact retI (v := (-1)) hx hb hr hlk (rfl) hP hD hS ((Mv 14), (Mf 10), (Mf 11)) ⟨_, rfl, trivial, h_said, h_was, h_un⟩ [1, 2, 0] rfl rfl dX12_calm_30 (Nat.le_of_ble_eq_true rfl) (Nat.le_of_ble_eq_true rfl) rfl
    · skip
      refine lv_aload_n hx hb dX12_calm_20 rfl (lv_at hl 0 rfl) ?_
      refine lv_iload_n hx hb dX12_calm_21 rfl (lv_at hl 1 rfl) ?_
      have ha_15 : 0 ≤ x1.toInt ∧ x1.toInt < 6 := by
        have z_1 : ¬ (r_4 : Int32).toInt = (0 : Int32).toInt := fun z => c_7 (Int32.toInt_inj.mp z)
        have z_2 : ¬ (r_11 : Int32).toInt = (0 : Int32).toInt := fun z => c_14 (Int32.toInt_inj.mp z)
        have y_0 : (0 : Int32).toInt = 0 := by decide
        omega
      refine cV (a := (Ma 0)) (As := [.int x1]) (rest := []) (wr := [((Ma 11), .inl (tc 0, 920, .inl (Mf 11)))]) ⟨hx, hb, hml, hown, hts⟩ hK hX hA (cu_X12_temperOf l D tc sk (Ma 0) (Ma 1) (Ma 2) (Ma 3) (Ma 4) (Ma 5) (Ma 6) (Ma 7) (Ma 8) (Ma 9) (Ma 10) (Ma 11) (Ma 12) (Ma 13) (Ma 14) (Ma 15) (Ma 16) (Ma 17) (Ma 18) (Ma 19) (Ma 20) (Mv 0) (Mv 1) (Mv 2) (Mv 3) (Mv 4) (Mv 5) (Mv 6) (Mv 7) (Mv 8) (Mv 9) (Mv 10) (Mv 11) (Mv 12) (Mv 13) (Mv 14) (Mf 10) (Mj 0) x1 ha_15) k_1379 k_1376 k_1378 k_59 k_106 pl_X12_temperOf ⟨Nat.le_of_ble_eq_true rfl, Nat.le_of_ble_eq_true rfl⟩ rfl rfl (va_recv hK hP (ci := 12) (q0 := 1) rfl rfl) hP hD hS [1, 2] [0] rfl rfl rfl rfl rfl (by decide) rfl hl.1 rfl (Nat.le_of_ble_eq_true rfl) dX12_calm_22 ⟨Nat.le_of_ble_eq_true rfl, Nat.le_of_ble_eq_true rfl⟩ (fun v_16 u_17 H locs hv_18 hP₀ hD₀ hS₀ => ?_)
      obtain ⟨r_19, rfl, he_20⟩ := hv_18
      refine W.eq (g2 := F0 m 25 ls [.int r_19]) rfl ?_
      replace hP : va_P D classes [((Ma 11), .inl (tc 0, 920, .inl (Mf 11))), ((Ma 0), .inr (12, [.ref (Ma 1), .int (Mv 0), .int (Mv 1), .ref (Ma 2), .ref (Ma 3), .ref (Ma 4), .ref (Ma 5), .ref (Ma 6), .int (Mv 2), .int (Mv 3), .int (Mv 4), .int (Mv 5), .int (Mv 6), .int (Mv 7), .int (Mv 8), .ref (Ma 7), .int (Mv 9), .ref (Ma 8), .int (Mv 10), .ref (Ma 9), .ref (Ma 10), .int (Mv 11), .int (Mv 12), .int (Mv 13), .ref (Ma 11), .int (Mv 14), .ref (Ma 12), .ref (Ma 13), .ref (Ma 14), .ref (Ma 15), .ref (Ma 16), .long (Mj 0), .ref (Ma 17), .ref (Ma 18), .ref (Ma 19), .ref (Ma 20)])), ((Ma 10), .inl (tc 0, 126, .inl (Mf 10)))] H := hP₀
      replace hD : va_D A [((Ma 11), .inl (tc 0, 920, .inl (Mf 11))), ((Ma 0), .inr (12, [.ref (Ma 1), .int (Mv 0), .int (Mv 1), .ref (Ma 2), .ref (Ma 3), .ref (Ma 4), .ref (Ma 5), .ref (Ma 6), .int (Mv 2), .int (Mv 3), .int (Mv 4), .int (Mv 5), .int (Mv 6), .int (Mv 7), .int (Mv 8), .ref (Ma 7), .int (Mv 9), .ref (Ma 8), .int (Mv 10), .ref (Ma 9), .ref (Ma 10), .int (Mv 11), .int (Mv 12), .int (Mv 13), .ref (Ma 11), .int (Mv 14), .ref (Ma 12), .ref (Ma 13), .ref (Ma 14), .ref (Ma 15), .ref (Ma 16), .long (Mj 0), .ref (Ma 17), .ref (Ma 18), .ref (Ma 19), .ref (Ma 20)])), ((Ma 10), .inl (tc 0, 126, .inl (Mf 10)))] := hD₀
      replace hS := hS₀
      clear hP₀ hD₀ hS₀
      refine lv_iload_n hx hb dX12_calm_25 rfl (lv_at hl 2 rfl) ?_
      refine lv_icmp_ge (tgt := 31) hx hb dX12_calm_26 (by decide) (fun c_22 => ?_) (fun c_22 => ?_)
      · skip
        refine lv_aload_n hx hb dX12_calm_31 rfl (lv_at hl 0 rfl) ?_
        refine cV (a := (Ma 0)) (As := []) (rest := []) (wr := []) ⟨hx, hb, hml, hown, hts⟩ hK hX hA (cu_X12_keepsAct l D tc sk (Ma 0) (Ma 1) (Ma 2) (Ma 3) (Ma 4) (Ma 5) (Ma 6) (Ma 7) (Ma 8) (Ma 9) (Ma 10) (Ma 11) (Ma 12) (Ma 13) (Ma 14) (Ma 15) (Ma 16) (Ma 17) (Ma 18) (Ma 19) (Ma 20) (Mv 0) (Mv 1) (Mv 2) (Mv 3) (Mv 4) (Mv 5) (Mv 6) (Mv 7) (Mv 8) (Mv 9) (Mv 10) (Mv 11) (Mv 12) (Mv 13) (Mv 14) (Mf 10) (Mf 11) (Mj 0) h_said h_was h_un) k_1419 k_1416 k_1418 k_66 k_106 pl_X12_keepsAct ⟨Nat.le_of_ble_eq_true rfl, Nat.le_of_ble_eq_true rfl⟩ rfl rfl (va_recv hK hP (ci := 12) (q0 := 1) rfl rfl) hP hD hS [1, 2, 0] [] rfl rfl rfl rfl rfl (by decide) rfl hl.1 rfl (Nat.le_of_ble_eq_true rfl) dX12_calm_32 ⟨Nat.le_of_ble_eq_true rfl, Nat.le_of_ble_eq_true rfl⟩ (fun v_23 u_24 H locs hv_25 hP₀ hD₀ hS₀ => ?_)
        obtain ⟨sv_26, sv_27⟩ := u_24
        obtain ⟨rfl, pf_28, pf_29⟩ := hv_25
        have pf_28 : WasD sv_27 := pf_28
        have pf_29 : 0 ≤ (sv_26 : Int32).toInt ∧ (sv_26 : Int32).toInt ≤ 20 := pf_29
        refine W.eq (g2 := F0 m 35 ls []) rfl ?_
        replace hP : va_P D classes [((Ma 0), .inr (12, [.ref (Ma 1), .int (Mv 0), .int (Mv 1), .ref (Ma 2), .ref (Ma 3), .ref (Ma 4), .ref (Ma 5), .ref (Ma 6), .int (Mv 2), .int (Mv 3), .int (Mv 4), .int (Mv 5), .int (Mv 6), .int (Mv 7), .int (Mv 8), .ref (Ma 7), .int (Mv 9), .ref (Ma 8), .int (Mv 10), .ref (Ma 9), .ref (Ma 10), .int (Mv 11), .int (Mv 12), .int (Mv 13), .ref (Ma 11), .int sv_26, .ref (Ma 12), .ref (Ma 13), .ref (Ma 14), .ref (Ma 15), .ref (Ma 16), .long (Mj 0), .ref (Ma 17), .ref (Ma 18), .ref (Ma 19), .ref (Ma 20)])), ((Ma 10), .inl (tc 0, 126, .inl (Mf 10))), ((Ma 11), .inl (tc 0, 920, .inl sv_27))] H := hP₀
        replace hD : va_D A [((Ma 0), .inr (12, [.ref (Ma 1), .int (Mv 0), .int (Mv 1), .ref (Ma 2), .ref (Ma 3), .ref (Ma 4), .ref (Ma 5), .ref (Ma 6), .int (Mv 2), .int (Mv 3), .int (Mv 4), .int (Mv 5), .int (Mv 6), .int (Mv 7), .int (Mv 8), .ref (Ma 7), .int (Mv 9), .ref (Ma 8), .int (Mv 10), .ref (Ma 9), .ref (Ma 10), .int (Mv 11), .int (Mv 12), .int (Mv 13), .ref (Ma 11), .int sv_26, .ref (Ma 12), .ref (Ma 13), .ref (Ma 14), .ref (Ma 15), .ref (Ma 16), .long (Mj 0), .ref (Ma 17), .ref (Ma 18), .ref (Ma 19), .ref (Ma 20)])), ((Ma 10), .inl (tc 0, 126, .inl (Mf 10))), ((Ma 11), .inl (tc 0, 920, .inl sv_27))] := hD₀
        replace hS := hS₀
        clear hP₀ hD₀ hS₀
        refine lv_aload_n hx hb dX12_calm_35 rfl (lv_at hl 0 rfl) ?_
        refine gf_X12_39 hx hb hts hown hK hP 0 rfl rfl dX12_calm_36 ?_
        refine lv_bipush (v := 12) hx hb dX12_calm_39 (by decide) ?_
        refine lv_iconst (v := 4) hx hb dX12_calm_41 (by decide) ?_
        refine lv_iload_n hx hb dX12_calm_42 rfl (lv_at hl 1 rfl) ?_
        refine lv_imul hx hb dX12_calm_43 ?_
        refine lv_topi (fun x_30 ex_30 => ?_)
        refine lv_iadd hx hb dX12_calm_44 ?_
        refine lv_topi (fun x_31 ex_31 => ?_)
        refine lv_dup2_11 hx hb dX12_calm_45 rfl rfl ?_
        have hi_32 : vp_in x_31 126 := by
          have z_1 : ¬ (r_4 : Int32).toInt = (0 : Int32).toInt := fun z => c_7 (Int32.toInt_inj.mp z)
          have z_2 : ¬ (r_11 : Int32).toInt = (0 : Int32).toInt := fun z => c_14 (Int32.toInt_inj.mp z)
          have z_3 := Int32.le_iff_toInt_le.mp c_22
          have y_0 : (0 : Int32).toInt = 0 := by decide
          have y_4 : (4 : Int32).toInt = 4 := by decide
          have y_12 : (12 : Int32).toInt = 12 := by decide
          have t_x_30 : x_30.toInt = (4 : Int32).toInt * (x1 : Int32).toInt := by rw [ex_30]; exact mul_toInt (by first | omega | (rw [y_4]; omega)) (by first | omega | (rw [y_4]; omega))
          rw [y_4] at t_x_30
          have t_x_31 : x_31.toInt = (12 : Int32).toInt + (x_30 : Int32).toInt := by rw [ex_31]; exact add_toInt (by omega) (by omega)
          refine vp_in_iff.mpr ⟨?_, ?_⟩ <;> omega
        refine va_iald hx hb hK hP 1 0 rfl rfl hi_32 dX12_calm_46 ?_
        refine lv_topi (fun x_33 ex_33 => ?_)
        refine lv_iload_n hx hb dX12_calm_47 rfl (lv_at hl 2 rfl) ?_
        refine lv_isub hx hb dX12_calm_48 ?_
        refine lv_topi (fun x_34 ex_34 => ?_)
        have hi_35 : vp_in x_31 126 := by
          have z_1 : ¬ (r_4 : Int32).toInt = (0 : Int32).toInt := fun z => c_7 (Int32.toInt_inj.mp z)
          have z_2 : ¬ (r_11 : Int32).toInt = (0 : Int32).toInt := fun z => c_14 (Int32.toInt_inj.mp z)
          have z_3 := Int32.le_iff_toInt_le.mp c_22
          have y_0 : (0 : Int32).toInt = 0 := by decide
          have y_4 : (4 : Int32).toInt = 4 := by decide
          have y_12 : (12 : Int32).toInt = 12 := by decide
          have t_x_30 : x_30.toInt = (4 : Int32).toInt * (x1 : Int32).toInt := by rw [ex_30]; exact mul_toInt (by first | omega | (rw [y_4]; omega)) (by first | omega | (rw [y_4]; omega))
          rw [y_4] at t_x_30
          have t_x_31 : x_31.toInt = (12 : Int32).toInt + (x_30 : Int32).toInt := by rw [ex_31]; exact add_toInt (by omega) (by omega)
          refine vp_in_iff.mpr ⟨?_, ?_⟩ <;> omega
        refine st_int hx hb hK hP hD hS 1 0 rfl rfl hi_35 dX12_calm_49 (fun g_36 H locs eg_36 hP₀ hD₀ hS₀ => ?_)
        replace hP : va_P D classes [((Ma 0), .inr (12, [.ref (Ma 1), .int (Mv 0), .int (Mv 1), .ref (Ma 2), .ref (Ma 3), .ref (Ma 4), .ref (Ma 5), .ref (Ma 6), .int (Mv 2), .int (Mv 3), .int (Mv 4), .int (Mv 5), .int (Mv 6), .int (Mv 7), .int (Mv 8), .ref (Ma 7), .int (Mv 9), .ref (Ma 8), .int (Mv 10), .ref (Ma 9), .ref (Ma 10), .int (Mv 11), .int (Mv 12), .int (Mv 13), .ref (Ma 11), .int sv_26, .ref (Ma 12), .ref (Ma 13), .ref (Ma 14), .ref (Ma 15), .ref (Ma 16), .long (Mj 0), .ref (Ma 17), .ref (Ma 18), .ref (Ma 19), .ref (Ma 20)])), ((Ma 10), .inl (tc 0, 126, .inl g_36)), ((Ma 11), .inl (tc 0, 920, .inl sv_27))] H := hP₀
        replace hD : va_D A [((Ma 0), .inr (12, [.ref (Ma 1), .int (Mv 0), .int (Mv 1), .ref (Ma 2), .ref (Ma 3), .ref (Ma 4), .ref (Ma 5), .ref (Ma 6), .int (Mv 2), .int (Mv 3), .int (Mv 4), .int (Mv 5), .int (Mv 6), .int (Mv 7), .int (Mv 8), .ref (Ma 7), .int (Mv 9), .ref (Ma 8), .int (Mv 10), .ref (Ma 9), .ref (Ma 10), .int (Mv 11), .int (Mv 12), .int (Mv 13), .ref (Ma 11), .int sv_26, .ref (Ma 12), .ref (Ma 13), .ref (Ma 14), .ref (Ma 15), .ref (Ma 16), .long (Mj 0), .ref (Ma 17), .ref (Ma 18), .ref (Ma 19), .ref (Ma 20)])), ((Ma 10), .inl (tc 0, 126, .inl g_36)), ((Ma 11), .inl (tc 0, 920, .inl sv_27))] := hD₀
        replace hS := hS₀
        clear hP₀ hD₀ hS₀
        have hx_38 : 11 ≤ (x_31 : Int32).toNatClampNeg ∧ (x_31 : Int32).toNatClampNeg < 56 := by
          have z_1 : ¬ (r_4 : Int32).toInt = (0 : Int32).toInt := fun z => c_7 (Int32.toInt_inj.mp z)
          have z_2 : ¬ (r_11 : Int32).toInt = (0 : Int32).toInt := fun z => c_14 (Int32.toInt_inj.mp z)
          have z_3 := Int32.le_iff_toInt_le.mp c_22
          have y_0 : (0 : Int32).toInt = 0 := by decide
          have y_4 : (4 : Int32).toInt = 4 := by decide
          have y_12 : (12 : Int32).toInt = 12 := by decide
          have t_x_30 : x_30.toInt = (4 : Int32).toInt * (x1 : Int32).toInt := by rw [ex_30]; exact mul_toInt (by first | omega | (rw [y_4]; omega)) (by first | omega | (rw [y_4]; omega))
          rw [y_4] at t_x_30
          have t_x_31 : x_31.toInt = (12 : Int32).toInt + (x_30 : Int32).toInt := by rw [ex_31]; exact add_toInt (by omega) (by omega)
          have hcl : (x_31 : Int32).toNatClampNeg = (x_31 : Int32).toInt.toNat := rfl
          omega
        have pf_37 : SaidD T g_36 999 := SaidD.keep h_said eg_36 hx_38
        have ar_pf_37 := SaidD.ar pf_37
        refine lv_aload_n hx hb dX12_calm_50 rfl (lv_at hl 0 rfl) ?_
        refine lv_iload_n hx hb dX12_calm_51 rfl (lv_at hl 1 rfl) ?_
        have ha_39 : 0 ≤ x1.toInt ∧ x1.toInt < 6 := by
          have z_1 : ¬ (r_4 : Int32).toInt = (0 : Int32).toInt := fun z => c_7 (Int32.toInt_inj.mp z)
          have z_2 : ¬ (r_11 : Int32).toInt = (0 : Int32).toInt := fun z => c_14 (Int32.toInt_inj.mp z)
          have z_3 := Int32.le_iff_toInt_le.mp c_22
          have y_0 : (0 : Int32).toInt = 0 := by decide
          omega
        refine cV (a := (Ma 0)) (As := [.int x1]) (rest := []) (wr := [((Ma 11), .inl (tc 0, 920, .inl sv_27))]) ⟨hx, hb, hml, hown, hts⟩ hK hX hA (cu_X12_temperOf l D tc sk (Ma 0) (Ma 1) (Ma 2) (Ma 3) (Ma 4) (Ma 5) (Ma 6) (Ma 7) (Ma 8) (Ma 9) (Ma 10) (Ma 11) (Ma 12) (Ma 13) (Ma 14) (Ma 15) (Ma 16) (Ma 17) (Ma 18) (Ma 19) (Ma 20) (Mv 0) (Mv 1) (Mv 2) (Mv 3) (Mv 4) (Mv 5) (Mv 6) (Mv 7) (Mv 8) (Mv 9) (Mv 10) (Mv 11) (Mv 12) (Mv 13) sv_26 g_36 (Mj 0) x1 ha_39) k_1379 k_1376 k_1378 k_59 k_106 pl_X12_temperOf ⟨Nat.le_of_ble_eq_true rfl, Nat.le_of_ble_eq_true rfl⟩ rfl rfl (va_recv hK hP (ci := 12) (q0 := 0) rfl rfl) hP hD hS [0, 1] [2] rfl rfl rfl rfl rfl (by decide) rfl hl.1 rfl (Nat.le_of_ble_eq_true rfl) dX12_calm_52 ⟨Nat.le_of_ble_eq_true rfl, Nat.le_of_ble_eq_true rfl⟩ (fun v_40 u_41 H locs hv_42 hP₀ hD₀ hS₀ => ?_)
        obtain ⟨r_43, rfl, he_44⟩ := hv_42
        refine W.eq (g2 := F0 m 55 ls [.int r_43]) rfl ?_
        replace hP : va_P D classes [((Ma 11), .inl (tc 0, 920, .inl sv_27)), ((Ma 0), .inr (12, [.ref (Ma 1), .int (Mv 0), .int (Mv 1), .ref (Ma 2), .ref (Ma 3), .ref (Ma 4), .ref (Ma 5), .ref (Ma 6), .int (Mv 2), .int (Mv 3), .int (Mv 4), .int (Mv 5), .int (Mv 6), .int (Mv 7), .int (Mv 8), .ref (Ma 7), .int (Mv 9), .ref (Ma 8), .int (Mv 10), .ref (Ma 9), .ref (Ma 10), .int (Mv 11), .int (Mv 12), .int (Mv 13), .ref (Ma 11), .int sv_26, .ref (Ma 12), .ref (Ma 13), .ref (Ma 14), .ref (Ma 15), .ref (Ma 16), .long (Mj 0), .ref (Ma 17), .ref (Ma 18), .ref (Ma 19), .ref (Ma 20)])), ((Ma 10), .inl (tc 0, 126, .inl g_36))] H := hP₀
        replace hD : va_D A [((Ma 11), .inl (tc 0, 920, .inl sv_27)), ((Ma 0), .inr (12, [.ref (Ma 1), .int (Mv 0), .int (Mv 1), .ref (Ma 2), .ref (Ma 3), .ref (Ma 4), .ref (Ma 5), .ref (Ma 6), .int (Mv 2), .int (Mv 3), .int (Mv 4), .int (Mv 5), .int (Mv 6), .int (Mv 7), .int (Mv 8), .ref (Ma 7), .int (Mv 9), .ref (Ma 8), .int (Mv 10), .ref (Ma 9), .ref (Ma 10), .int (Mv 11), .int (Mv 12), .int (Mv 13), .ref (Ma 11), .int sv_26, .ref (Ma 12), .ref (Ma 13), .ref (Ma 14), .ref (Ma 15), .ref (Ma 16), .long (Mj 0), .ref (Ma 17), .ref (Ma 18), .ref (Ma 19), .ref (Ma 20)])), ((Ma 10), .inl (tc 0, 126, .inl g_36))] := hD₀
        replace hS := hS₀
        clear hP₀ hD₀ hS₀
        exact retI (v := r_43) hx hb hr hlk (rfl) hP hD hS (sv_26, g_36, sv_27) ⟨_, rfl, trivial, pf_37, pf_28, pf_29⟩ [1, 2, 0] rfl rfl dX12_calm_55 (Nat.le_of_ble_eq_true rfl) (Nat.le_of_ble_eq_true rfl) rfl
      · skip
        refine lv_iconst (v := (-1)) hx hb dX12_calm_29 (by decide) ?_
        exact retI (v := (-1)) hx hb hr hlk (rfl) hP hD hS ((Mv 14), (Mf 10), (Mf 11)) ⟨_, rfl, trivial, h_said, h_was, h_un⟩ [1, 2, 0] rfl rfl dX12_calm_30 (Nat.le_of_ble_eq_true rfl) (Nat.le_of_ble_eq_true rfl) rfl
set_option maxHeartbeats 4000000 in
set_option maxRecDepth 100000 in
theorem ct_X12_watch {T : Nat → Option Int32} (l : Launch) (D : va_G) (tc : Nat → ClassId) (sk : (Nat → Nat) × (Nat → Nat)) (Ma : Nat → Nat) (Mv : Nat → Int32) (Mf : Nat → Nat → Int32) (Mj : Nat → Int64) (x1 : Int32) (x2 : Int32) (h_said : SaidD T (Mf 10) 999) (h_was : WasD (Mf 11)) (h_un : 0 ≤ ((Mv 14) : Int32).toInt ∧ ((Mv 14) : Int32).toInt ≤ 20) : Ct l yX12_watch cX12_watch 3 (some .int) { frames := 2, cells := 0, slots := 0, locals := 41 } D tc sk [.ref (Ma 0), .int x1, .int x2] [((Ma 0), .inr (12, [.ref (Ma 1), .int (Mv 0), .int (Mv 1), .ref (Ma 2), .ref (Ma 3), .ref (Ma 4), .ref (Ma 5), .ref (Ma 6), .int (Mv 2), .int (Mv 3), .int (Mv 4), .int (Mv 5), .int (Mv 6), .int (Mv 7), .int (Mv 8), .ref (Ma 7), .int (Mv 9), .ref (Ma 8), .int (Mv 10), .ref (Ma 9), .ref (Ma 10), .int (Mv 11), .int (Mv 12), .int (Mv 13), .ref (Ma 11), .int (Mv 14), .ref (Ma 12), .ref (Ma 13), .ref (Ma 14), .ref (Ma 15), .ref (Ma 16), .long (Mj 0), .ref (Ma 17), .ref (Ma 18), .ref (Ma 19), .ref (Ma 20)])), ((Ma 10), .inl (tc 0, 126, .inl (Mf 10))), ((Ma 11), .inl (tc 0, 920, .inl (Mf 11)))] (fun (v : Option Value) (u : (Int32) × (Nat → Int32) × (Nat → Int32)) => match u with | (oo0x1, oo0x2, oo0x3) => ∃ r : Int32, v = some (.int r) ∧ (True) ∧ (SaidD T oo0x2 999) ∧ (WasD oo0x3) ∧ (0 ≤ (oo0x1 : Int32).toInt ∧ (oo0x1 : Int32).toInt ≤ 20)) (fun (u : (Int32) × (Nat → Int32) × (Nat → Int32)) => match u with | (oo0x1, oo0x2, oo0x3) => [((Ma 0), .inr (12, [.ref (Ma 1), .int (Mv 0), .int (Mv 1), .ref (Ma 2), .ref (Ma 3), .ref (Ma 4), .ref (Ma 5), .ref (Ma 6), .int (Mv 2), .int (Mv 3), .int (Mv 4), .int (Mv 5), .int (Mv 6), .int (Mv 7), .int (Mv 8), .ref (Ma 7), .int (Mv 9), .ref (Ma 8), .int (Mv 10), .ref (Ma 9), .ref (Ma 10), .int (Mv 11), .int (Mv 12), .int (Mv 13), .ref (Ma 11), .int oo0x1, .ref (Ma 12), .ref (Ma 13), .ref (Ma 14), .ref (Ma 15), .ref (Ma 16), .long (Mj 0), .ref (Ma 17), .ref (Ma 18), .ref (Ma 19), .ref (Ma 20)])), ((Ma 10), .inl (tc 0, 126, .inl oo0x2)), ((Ma 11), .inl (tc 0, 920, .inl oo0x3))]) 0 0 := by
  refine Ct.start (by decide) (Nat.le_of_ble_eq_true rfl) (fun p e s m below meth c A ls hx hb hr hlk hin hml hown hts hK hX hP hD hA hl hS => ?_)
  have hl : lv_has ls 3 [(0, .ref (Ma 0)), (1, .int x1), (2, .int x2)] := hl
  have ar_h_said := SaidD.ar h_said
  refine lv_aload_n hx hb dX12_watch_0 rfl (lv_at hl 0 rfl) ?_
  refine lv_iload_n hx hb dX12_watch_1 rfl (lv_at hl 1 rfl) ?_
  refine cV (a := (Ma 0)) (As := [.int x1]) (rest := []) (wr := [((Ma 11), .inl (tc 0, 920, .inl (Mf 11)))]) ⟨hx, hb, hml, hown, hts⟩ hK hX hA (cu_X12_isClock l D tc sk (Ma 0) (Ma 1) (Ma 2) (Ma 3) (Ma 4) (Ma 5) (Ma 6) (Ma 7) (Ma 8) (Ma 9) (Ma 10) (Ma 11) (Ma 12) (Ma 13) (Ma 14) (Ma 15) (Ma 16) (Ma 17) (Ma 18) (Ma 19) (Ma 20) (Mv 0) (Mv 1) (Mv 2) (Mv 3) (Mv 4) (Mv 5) (Mv 6) (Mv 7) (Mv 8) (Mv 9) (Mv 10) (Mv 11) (Mv 12) (Mv 13) (Mv 14) (Mf 10) (Mj 0) x1 h_said.1) k_1403 k_1400 k_1402 k_64 k_106 pl_X12_isClock ⟨Nat.le_of_ble_eq_true rfl, Nat.le_of_ble_eq_true rfl⟩ rfl rfl (va_recv hK hP (ci := 12) (q0 := 0) rfl rfl) hP hD hS [0, 1] [2] rfl rfl rfl rfl rfl (by decide) rfl hl.1 rfl (Nat.le_of_ble_eq_true rfl) dX12_watch_2 ⟨Nat.le_of_ble_eq_true rfl, Nat.le_of_ble_eq_true rfl⟩ (fun v_1 u_2 H locs hv_3 hP₀ hD₀ hS₀ => ?_)
  obtain ⟨r_4, rfl, he_5⟩ := hv_3
  have he_5 : (r_4.toInt = 0 ∨ (r_4.toInt = 1 ∧ 0 ≤ x1.toInt ∧ x1.toInt < ((Mf 10) 2).toInt ∧ ((Mf 10) 2).toInt ≤ 10)) := he_5
  refine W.eq (g2 := F0 m 5 ls [.int r_4]) rfl ?_
  replace hP : va_P D classes [((Ma 11), .inl (tc 0, 920, .inl (Mf 11))), ((Ma 0), .inr (12, [.ref (Ma 1), .int (Mv 0), .int (Mv 1), .ref (Ma 2), .ref (Ma 3), .ref (Ma 4), .ref (Ma 5), .ref (Ma 6), .int (Mv 2), .int (Mv 3), .int (Mv 4), .int (Mv 5), .int (Mv 6), .int (Mv 7), .int (Mv 8), .ref (Ma 7), .int (Mv 9), .ref (Ma 8), .int (Mv 10), .ref (Ma 9), .ref (Ma 10), .int (Mv 11), .int (Mv 12), .int (Mv 13), .ref (Ma 11), .int (Mv 14), .ref (Ma 12), .ref (Ma 13), .ref (Ma 14), .ref (Ma 15), .ref (Ma 16), .long (Mj 0), .ref (Ma 17), .ref (Ma 18), .ref (Ma 19), .ref (Ma 20)])), ((Ma 10), .inl (tc 0, 126, .inl (Mf 10)))] H := hP₀
  replace hD : va_D A [((Ma 11), .inl (tc 0, 920, .inl (Mf 11))), ((Ma 0), .inr (12, [.ref (Ma 1), .int (Mv 0), .int (Mv 1), .ref (Ma 2), .ref (Ma 3), .ref (Ma 4), .ref (Ma 5), .ref (Ma 6), .int (Mv 2), .int (Mv 3), .int (Mv 4), .int (Mv 5), .int (Mv 6), .int (Mv 7), .int (Mv 8), .ref (Ma 7), .int (Mv 9), .ref (Ma 8), .int (Mv 10), .ref (Ma 9), .ref (Ma 10), .int (Mv 11), .int (Mv 12), .int (Mv 13), .ref (Ma 11), .int (Mv 14), .ref (Ma 12), .ref (Ma 13), .ref (Ma 14), .ref (Ma 15), .ref (Ma 16), .long (Mj 0), .ref (Ma 17), .ref (Ma 18), .ref (Ma 19), .ref (Ma 20)])), ((Ma 10), .inl (tc 0, 126, .inl (Mf 10)))] := hD₀
  replace hS := hS₀
  clear hP₀ hD₀ hS₀
  refine lv_if_eq (tgt := 16) hx hb dX12_watch_5 (by decide) (fun c_7 => ?_) (fun c_7 => ?_)
  · skip
    refine lv_iconst (v := (-1)) hx hb dX12_watch_16 (by decide) ?_
    exact retI (v := (-1)) hx hb hr hlk (rfl) hP hD hS ((Mv 14), (Mf 10), (Mf 11)) ⟨_, rfl, trivial, h_said, h_was, h_un⟩ [1, 2, 0] rfl rfl dX12_watch_17 (Nat.le_of_ble_eq_true rfl) (Nat.le_of_ble_eq_true rfl) rfl
  · skip
    refine lv_aload_n hx hb dX12_watch_8 rfl (lv_at hl 0 rfl) ?_
    refine lv_iload_n hx hb dX12_watch_9 rfl (lv_at hl 2 rfl) ?_
    refine cV (a := (Ma 0)) (As := [.int x2]) (rest := []) (wr := [((Ma 11), .inl (tc 0, 920, .inl (Mf 11)))]) ⟨hx, hb, hml, hown, hts⟩ hK hX hA (cu_X12_isBuyer l D tc sk (Ma 0) (Ma 1) (Ma 2) (Ma 3) (Ma 4) (Ma 5) (Ma 6) (Ma 7) (Ma 8) (Ma 9) (Ma 10) (Ma 11) (Ma 12) (Ma 13) (Ma 14) (Ma 15) (Ma 16) (Ma 17) (Ma 18) (Ma 19) (Ma 20) (Mv 0) (Mv 1) (Mv 2) (Mv 3) (Mv 4) (Mv 5) (Mv 6) (Mv 7) (Mv 8) (Mv 9) (Mv 10) (Mv 11) (Mv 12) (Mv 13) (Mv 14) (Mf 10) (Mj 0) x2 h_said.1) k_1375 k_1372 k_1374 k_58 k_106 pl_X12_isBuyer ⟨Nat.le_of_ble_eq_true rfl, Nat.le_of_ble_eq_true rfl⟩ rfl rfl (va_recv hK hP (ci := 12) (q0 := 1) rfl rfl) hP hD hS [1, 2] [0] rfl rfl rfl rfl rfl (by decide) rfl hl.1 rfl (Nat.le_of_ble_eq_true rfl) dX12_watch_10 ⟨Nat.le_of_ble_eq_true rfl, Nat.le_of_ble_eq_true rfl⟩ (fun v_8 u_9 H locs hv_10 hP₀ hD₀ hS₀ => ?_)
    obtain ⟨r_11, rfl, he_12⟩ := hv_10
    have he_12 : (r_11.toInt = 0 ∨ (r_11.toInt = 1 ∧ 0 ≤ x2.toInt ∧ x2.toInt < ((Mf 10) 3).toInt)) := he_12
    refine W.eq (g2 := F0 m 13 ls [.int r_11]) rfl ?_
    replace hP : va_P D classes [((Ma 11), .inl (tc 0, 920, .inl (Mf 11))), ((Ma 0), .inr (12, [.ref (Ma 1), .int (Mv 0), .int (Mv 1), .ref (Ma 2), .ref (Ma 3), .ref (Ma 4), .ref (Ma 5), .ref (Ma 6), .int (Mv 2), .int (Mv 3), .int (Mv 4), .int (Mv 5), .int (Mv 6), .int (Mv 7), .int (Mv 8), .ref (Ma 7), .int (Mv 9), .ref (Ma 8), .int (Mv 10), .ref (Ma 9), .ref (Ma 10), .int (Mv 11), .int (Mv 12), .int (Mv 13), .ref (Ma 11), .int (Mv 14), .ref (Ma 12), .ref (Ma 13), .ref (Ma 14), .ref (Ma 15), .ref (Ma 16), .long (Mj 0), .ref (Ma 17), .ref (Ma 18), .ref (Ma 19), .ref (Ma 20)])), ((Ma 10), .inl (tc 0, 126, .inl (Mf 10)))] H := hP₀
    replace hD : va_D A [((Ma 11), .inl (tc 0, 920, .inl (Mf 11))), ((Ma 0), .inr (12, [.ref (Ma 1), .int (Mv 0), .int (Mv 1), .ref (Ma 2), .ref (Ma 3), .ref (Ma 4), .ref (Ma 5), .ref (Ma 6), .int (Mv 2), .int (Mv 3), .int (Mv 4), .int (Mv 5), .int (Mv 6), .int (Mv 7), .int (Mv 8), .ref (Ma 7), .int (Mv 9), .ref (Ma 8), .int (Mv 10), .ref (Ma 9), .ref (Ma 10), .int (Mv 11), .int (Mv 12), .int (Mv 13), .ref (Ma 11), .int (Mv 14), .ref (Ma 12), .ref (Ma 13), .ref (Ma 14), .ref (Ma 15), .ref (Ma 16), .long (Mj 0), .ref (Ma 17), .ref (Ma 18), .ref (Ma 19), .ref (Ma 20)])), ((Ma 10), .inl (tc 0, 126, .inl (Mf 10)))] := hD₀
    replace hS := hS₀
    clear hP₀ hD₀ hS₀
    refine lv_if_ne (tgt := 18) hx hb dX12_watch_13 (by decide) (fun c_14 => ?_) (fun c_14 => ?_)
    · skip
      refine lv_aload_n hx hb dX12_watch_18 rfl (lv_at hl 0 rfl) ?_
      refine cV (a := (Ma 0)) (As := []) (rest := []) (wr := []) ⟨hx, hb, hml, hown, hts⟩ hK hX hA (cu_X12_keepsAct l D tc sk (Ma 0) (Ma 1) (Ma 2) (Ma 3) (Ma 4) (Ma 5) (Ma 6) (Ma 7) (Ma 8) (Ma 9) (Ma 10) (Ma 11) (Ma 12) (Ma 13) (Ma 14) (Ma 15) (Ma 16) (Ma 17) (Ma 18) (Ma 19) (Ma 20) (Mv 0) (Mv 1) (Mv 2) (Mv 3) (Mv 4) (Mv 5) (Mv 6) (Mv 7) (Mv 8) (Mv 9) (Mv 10) (Mv 11) (Mv 12) (Mv 13) (Mv 14) (Mf 10) (Mf 11) (Mj 0) h_said h_was h_un) k_1419 k_1416 k_1418 k_66 k_106 pl_X12_keepsAct ⟨Nat.le_of_ble_eq_true rfl, Nat.le_of_ble_eq_true rfl⟩ rfl rfl (va_recv hK hP (ci := 12) (q0 := 1) rfl rfl) hP hD hS [1, 2, 0] [] rfl rfl rfl rfl rfl (by decide) rfl hl.1 rfl (Nat.le_of_ble_eq_true rfl) dX12_watch_19 ⟨Nat.le_of_ble_eq_true rfl, Nat.le_of_ble_eq_true rfl⟩ (fun v_15 u_16 H locs hv_17 hP₀ hD₀ hS₀ => ?_)
      obtain ⟨sv_18, sv_19⟩ := u_16
      obtain ⟨rfl, pf_20, pf_21⟩ := hv_17
      have pf_20 : WasD sv_19 := pf_20
      have pf_21 : 0 ≤ (sv_18 : Int32).toInt ∧ (sv_18 : Int32).toInt ≤ 20 := pf_21
      refine W.eq (g2 := F0 m 22 ls []) rfl ?_
      replace hP : va_P D classes [((Ma 0), .inr (12, [.ref (Ma 1), .int (Mv 0), .int (Mv 1), .ref (Ma 2), .ref (Ma 3), .ref (Ma 4), .ref (Ma 5), .ref (Ma 6), .int (Mv 2), .int (Mv 3), .int (Mv 4), .int (Mv 5), .int (Mv 6), .int (Mv 7), .int (Mv 8), .ref (Ma 7), .int (Mv 9), .ref (Ma 8), .int (Mv 10), .ref (Ma 9), .ref (Ma 10), .int (Mv 11), .int (Mv 12), .int (Mv 13), .ref (Ma 11), .int sv_18, .ref (Ma 12), .ref (Ma 13), .ref (Ma 14), .ref (Ma 15), .ref (Ma 16), .long (Mj 0), .ref (Ma 17), .ref (Ma 18), .ref (Ma 19), .ref (Ma 20)])), ((Ma 10), .inl (tc 0, 126, .inl (Mf 10))), ((Ma 11), .inl (tc 0, 920, .inl sv_19))] H := hP₀
      replace hD : va_D A [((Ma 0), .inr (12, [.ref (Ma 1), .int (Mv 0), .int (Mv 1), .ref (Ma 2), .ref (Ma 3), .ref (Ma 4), .ref (Ma 5), .ref (Ma 6), .int (Mv 2), .int (Mv 3), .int (Mv 4), .int (Mv 5), .int (Mv 6), .int (Mv 7), .int (Mv 8), .ref (Ma 7), .int (Mv 9), .ref (Ma 8), .int (Mv 10), .ref (Ma 9), .ref (Ma 10), .int (Mv 11), .int (Mv 12), .int (Mv 13), .ref (Ma 11), .int sv_18, .ref (Ma 12), .ref (Ma 13), .ref (Ma 14), .ref (Ma 15), .ref (Ma 16), .long (Mj 0), .ref (Ma 17), .ref (Ma 18), .ref (Ma 19), .ref (Ma 20)])), ((Ma 10), .inl (tc 0, 126, .inl (Mf 10))), ((Ma 11), .inl (tc 0, 920, .inl sv_19))] := hD₀
      replace hS := hS₀
      clear hP₀ hD₀ hS₀
      refine lv_aload_n hx hb dX12_watch_22 rfl (lv_at hl 0 rfl) ?_
      refine gf_X12_39 hx hb hts hown hK hP 0 rfl rfl dX12_watch_23 ?_
      refine lv_bipush (v := 46) hx hb dX12_watch_26 (by decide) ?_
      refine lv_iload_n hx hb dX12_watch_28 rfl (lv_at hl 1 rfl) ?_
      refine lv_iadd hx hb dX12_watch_29 ?_
      refine lv_topi (fun x_22 ex_22 => ?_)
      refine lv_dup2_11 hx hb dX12_watch_30 rfl rfl ?_
      have hi_23 : vp_in x_22 126 := by
        have z_1 : ¬ (r_4 : Int32).toInt = (0 : Int32).toInt := fun z => c_7 (Int32.toInt_inj.mp z)
        have z_2 : ¬ (r_11 : Int32).toInt = (0 : Int32).toInt := fun z => c_14 (Int32.toInt_inj.mp z)
        have y_0 : (0 : Int32).toInt = 0 := by decide
        have y_46 : (46 : Int32).toInt = 46 := by decide
        have t_x_22 : x_22.toInt = (46 : Int32).toInt + (x1 : Int32).toInt := by rw [ex_22]; exact add_toInt (by omega) (by omega)
        refine vp_in_iff.mpr ⟨?_, ?_⟩ <;> omega
      refine va_iald hx hb hK hP 1 0 rfl rfl hi_23 dX12_watch_31 ?_
      refine lv_topi (fun x_24 ex_24 => ?_)
      refine lv_iconst (v := 1) hx hb dX12_watch_32 (by decide) ?_
      refine lv_iload_n hx hb dX12_watch_33 rfl (lv_at hl 2 rfl) ?_
      refine lv_ishl hx hb dX12_watch_34 ?_
      refine lv_topi (fun x_25 ex_25 => ?_)
      refine lv_ixor hx hb dX12_watch_35 ?_
      refine lv_topi (fun x_26 ex_26 => ?_)
      have hi_27 : vp_in x_22 126 := by
        have z_1 : ¬ (r_4 : Int32).toInt = (0 : Int32).toInt := fun z => c_7 (Int32.toInt_inj.mp z)
        have z_2 : ¬ (r_11 : Int32).toInt = (0 : Int32).toInt := fun z => c_14 (Int32.toInt_inj.mp z)
        have y_0 : (0 : Int32).toInt = 0 := by decide
        have y_46 : (46 : Int32).toInt = 46 := by decide
        have t_x_22 : x_22.toInt = (46 : Int32).toInt + (x1 : Int32).toInt := by rw [ex_22]; exact add_toInt (by omega) (by omega)
        refine vp_in_iff.mpr ⟨?_, ?_⟩ <;> omega
      refine st_int hx hb hK hP hD hS 1 0 rfl rfl hi_27 dX12_watch_36 (fun g_28 H locs eg_28 hP₀ hD₀ hS₀ => ?_)
      replace hP : va_P D classes [((Ma 0), .inr (12, [.ref (Ma 1), .int (Mv 0), .int (Mv 1), .ref (Ma 2), .ref (Ma 3), .ref (Ma 4), .ref (Ma 5), .ref (Ma 6), .int (Mv 2), .int (Mv 3), .int (Mv 4), .int (Mv 5), .int (Mv 6), .int (Mv 7), .int (Mv 8), .ref (Ma 7), .int (Mv 9), .ref (Ma 8), .int (Mv 10), .ref (Ma 9), .ref (Ma 10), .int (Mv 11), .int (Mv 12), .int (Mv 13), .ref (Ma 11), .int sv_18, .ref (Ma 12), .ref (Ma 13), .ref (Ma 14), .ref (Ma 15), .ref (Ma 16), .long (Mj 0), .ref (Ma 17), .ref (Ma 18), .ref (Ma 19), .ref (Ma 20)])), ((Ma 10), .inl (tc 0, 126, .inl g_28)), ((Ma 11), .inl (tc 0, 920, .inl sv_19))] H := hP₀
      replace hD : va_D A [((Ma 0), .inr (12, [.ref (Ma 1), .int (Mv 0), .int (Mv 1), .ref (Ma 2), .ref (Ma 3), .ref (Ma 4), .ref (Ma 5), .ref (Ma 6), .int (Mv 2), .int (Mv 3), .int (Mv 4), .int (Mv 5), .int (Mv 6), .int (Mv 7), .int (Mv 8), .ref (Ma 7), .int (Mv 9), .ref (Ma 8), .int (Mv 10), .ref (Ma 9), .ref (Ma 10), .int (Mv 11), .int (Mv 12), .int (Mv 13), .ref (Ma 11), .int sv_18, .ref (Ma 12), .ref (Ma 13), .ref (Ma 14), .ref (Ma 15), .ref (Ma 16), .long (Mj 0), .ref (Ma 17), .ref (Ma 18), .ref (Ma 19), .ref (Ma 20)])), ((Ma 10), .inl (tc 0, 126, .inl g_28)), ((Ma 11), .inl (tc 0, 920, .inl sv_19))] := hD₀
      replace hS := hS₀
      clear hP₀ hD₀ hS₀
      have hx_30 : 11 ≤ (x_22 : Int32).toNatClampNeg ∧ (x_22 : Int32).toNatClampNeg < 56 := by
        have z_1 : ¬ (r_4 : Int32).toInt = (0 : Int32).toInt := fun z => c_7 (Int32.toInt_inj.mp z)
        have z_2 : ¬ (r_11 : Int32).toInt = (0 : Int32).toInt := fun z => c_14 (Int32.toInt_inj.mp z)
        have y_0 : (0 : Int32).toInt = 0 := by decide
        have y_46 : (46 : Int32).toInt = 46 := by decide
        have t_x_22 : x_22.toInt = (46 : Int32).toInt + (x1 : Int32).toInt := by rw [ex_22]; exact add_toInt (by omega) (by omega)
        have hcl : (x_22 : Int32).toNatClampNeg = (x_22 : Int32).toInt.toNat := rfl
        omega
      have pf_29 : SaidD T g_28 999 := SaidD.keep h_said eg_28 hx_30
      have ar_pf_29 := SaidD.ar pf_29
      refine lv_aload_n hx hb dX12_watch_37 rfl (lv_at hl 0 rfl) ?_
      refine gf_X12_39 hx hb hts hown hK hP 0 rfl rfl dX12_watch_38 ?_
      refine lv_bipush (v := 46) hx hb dX12_watch_41 (by decide) ?_
      refine lv_iload_n hx hb dX12_watch_43 rfl (lv_at hl 1 rfl) ?_
      refine lv_iadd hx hb dX12_watch_44 ?_
      refine lv_topi (fun x_31 ex_31 => ?_)
      have hi_32 : vp_in x_31 126 := by
        have z_1 : ¬ (r_4 : Int32).toInt = (0 : Int32).toInt := fun z => c_7 (Int32.toInt_inj.mp z)
        have z_2 : ¬ (r_11 : Int32).toInt = (0 : Int32).toInt := fun z => c_14 (Int32.toInt_inj.mp z)
        have y_0 : (0 : Int32).toInt = 0 := by decide
        have y_46 : (46 : Int32).toInt = 46 := by decide
        have t_x_31 : x_31.toInt = (46 : Int32).toInt + (x1 : Int32).toInt := by rw [ex_31]; exact add_toInt (by omega) (by omega)
        refine vp_in_iff.mpr ⟨?_, ?_⟩ <;> omega
      refine va_iald hx hb hK hP 1 0 rfl rfl hi_32 dX12_watch_45 ?_
      refine lv_topi (fun x_33 ex_33 => ?_)
      refine lv_iload_n hx hb dX12_watch_46 rfl (lv_at hl 2 rfl) ?_
      refine lv_ishr hx hb dX12_watch_47 ?_
      refine lv_topi (fun x_34 ex_34 => ?_)
      refine lv_iconst (v := 1) hx hb dX12_watch_48 (by decide) ?_
      refine lv_iand hx hb dX12_watch_49 ?_
      refine lv_topi (fun x_35 ex_35 => ?_)
      exact retI (v := x_35) hx hb hr hlk (rfl) hP hD hS (sv_18, g_28, sv_19) ⟨_, rfl, trivial, pf_29, pf_20, pf_21⟩ [0, 1, 2] rfl rfl dX12_watch_50 (Nat.le_of_ble_eq_true rfl) (Nat.le_of_ble_eq_true rfl) rfl
    · skip
      refine lv_iconst (v := (-1)) hx hb dX12_watch_16 (by decide) ?_
      exact retI (v := (-1)) hx hb hr hlk (rfl) hP hD hS ((Mv 14), (Mf 10), (Mf 11)) ⟨_, rfl, trivial, h_said, h_was, h_un⟩ [1, 2, 0] rfl rfl dX12_watch_17 (Nat.le_of_ble_eq_true rfl) (Nat.le_of_ble_eq_true rfl) rfl
set_option maxHeartbeats 4000000 in
set_option maxRecDepth 100000 in
theorem ct_X12_change {T : Nat → Option Int32} (l : Launch) (D : va_G) (tc : Nat → ClassId) (sk : (Nat → Nat) × (Nat → Nat)) (Ma : Nat → Nat) (Mv : Nat → Int32) (Mf : Nat → Nat → Int32) (Mj : Nat → Int64) (x1 : Int32) (x2 : Int32) (h_said : SaidD T (Mf 10) 999) (h_was : WasD (Mf 11)) (h_un : 0 ≤ ((Mv 14) : Int32).toInt ∧ ((Mv 14) : Int32).toInt ≤ 20) : Ct l yX12_change cX12_change 4 (some .int) { frames := 2, cells := 0, slots := 0, locals := 41 } D tc sk [.ref (Ma 0), .int x1, .int x2] [((Ma 0), .inr (12, [.ref (Ma 1), .int (Mv 0), .int (Mv 1), .ref (Ma 2), .ref (Ma 3), .ref (Ma 4), .ref (Ma 5), .ref (Ma 6), .int (Mv 2), .int (Mv 3), .int (Mv 4), .int (Mv 5), .int (Mv 6), .int (Mv 7), .int (Mv 8), .ref (Ma 7), .int (Mv 9), .ref (Ma 8), .int (Mv 10), .ref (Ma 9), .ref (Ma 10), .int (Mv 11), .int (Mv 12), .int (Mv 13), .ref (Ma 11), .int (Mv 14), .ref (Ma 12), .ref (Ma 13), .ref (Ma 14), .ref (Ma 15), .ref (Ma 16), .long (Mj 0), .ref (Ma 17), .ref (Ma 18), .ref (Ma 19), .ref (Ma 20)])), ((Ma 10), .inl (tc 0, 126, .inl (Mf 10))), ((Ma 11), .inl (tc 0, 920, .inl (Mf 11)))] (fun (v : Option Value) (u : (Int32) × (Nat → Int32) × (Nat → Int32)) => match u with | (oo0x1, oo0x2, oo0x3) => ∃ r : Int32, v = some (.int r) ∧ (True) ∧ (SaidD T oo0x2 999) ∧ (WasD oo0x3) ∧ (0 ≤ (oo0x1 : Int32).toInt ∧ (oo0x1 : Int32).toInt ≤ 20)) (fun (u : (Int32) × (Nat → Int32) × (Nat → Int32)) => match u with | (oo0x1, oo0x2, oo0x3) => [((Ma 0), .inr (12, [.ref (Ma 1), .int (Mv 0), .int (Mv 1), .ref (Ma 2), .ref (Ma 3), .ref (Ma 4), .ref (Ma 5), .ref (Ma 6), .int (Mv 2), .int (Mv 3), .int (Mv 4), .int (Mv 5), .int (Mv 6), .int (Mv 7), .int (Mv 8), .ref (Ma 7), .int (Mv 9), .ref (Ma 8), .int (Mv 10), .ref (Ma 9), .ref (Ma 10), .int (Mv 11), .int (Mv 12), .int (Mv 13), .ref (Ma 11), .int oo0x1, .ref (Ma 12), .ref (Ma 13), .ref (Ma 14), .ref (Ma 15), .ref (Ma 16), .long (Mj 0), .ref (Ma 17), .ref (Ma 18), .ref (Ma 19), .ref (Ma 20)])), ((Ma 10), .inl (tc 0, 126, .inl oo0x2)), ((Ma 11), .inl (tc 0, 920, .inl oo0x3))]) 0 0 := by
  refine Ct.start (by decide) (Nat.le_of_ble_eq_true rfl) (fun p e s m below meth c A ls hx hb hr hlk hin hml hown hts hK hX hP hD hA hl hS => ?_)
  have hl : lv_has ls 4 [(0, .ref (Ma 0)), (1, .int x1), (2, .int x2)] := hl
  have ar_h_said := SaidD.ar h_said
  refine lv_aload_n hx hb dX12_change_0 rfl (lv_at hl 0 rfl) ?_
  refine lv_iload_n hx hb dX12_change_1 rfl (lv_at hl 1 rfl) ?_
  refine cV (a := (Ma 0)) (As := [.int x1]) (rest := []) (wr := [((Ma 11), .inl (tc 0, 920, .inl (Mf 11)))]) ⟨hx, hb, hml, hown, hts⟩ hK hX hA (cu_X12_isClock l D tc sk (Ma 0) (Ma 1) (Ma 2) (Ma 3) (Ma 4) (Ma 5) (Ma 6) (Ma 7) (Ma 8) (Ma 9) (Ma 10) (Ma 11) (Ma 12) (Ma 13) (Ma 14) (Ma 15) (Ma 16) (Ma 17) (Ma 18) (Ma 19) (Ma 20) (Mv 0) (Mv 1) (Mv 2) (Mv 3) (Mv 4) (Mv 5) (Mv 6) (Mv 7) (Mv 8) (Mv 9) (Mv 10) (Mv 11) (Mv 12) (Mv 13) (Mv 14) (Mf 10) (Mj 0) x1 h_said.1) k_1403 k_1400 k_1402 k_64 k_106 pl_X12_isClock ⟨Nat.le_of_ble_eq_true rfl, Nat.le_of_ble_eq_true rfl⟩ rfl rfl (va_recv hK hP (ci := 12) (q0 := 0) rfl rfl) hP hD hS [0, 1] [2] rfl rfl rfl rfl rfl (by decide) rfl hl.1 rfl (Nat.le_of_ble_eq_true rfl) dX12_change_2 ⟨Nat.le_of_ble_eq_true rfl, Nat.le_of_ble_eq_true rfl⟩ (fun v_1 u_2 H locs hv_3 hP₀ hD₀ hS₀ => ?_)
  obtain ⟨r_4, rfl, he_5⟩ := hv_3
  have he_5 : (r_4.toInt = 0 ∨ (r_4.toInt = 1 ∧ 0 ≤ x1.toInt ∧ x1.toInt < ((Mf 10) 2).toInt ∧ ((Mf 10) 2).toInt ≤ 10)) := he_5
  refine W.eq (g2 := F0 m 5 ls [.int r_4]) rfl ?_
  replace hP : va_P D classes [((Ma 11), .inl (tc 0, 920, .inl (Mf 11))), ((Ma 0), .inr (12, [.ref (Ma 1), .int (Mv 0), .int (Mv 1), .ref (Ma 2), .ref (Ma 3), .ref (Ma 4), .ref (Ma 5), .ref (Ma 6), .int (Mv 2), .int (Mv 3), .int (Mv 4), .int (Mv 5), .int (Mv 6), .int (Mv 7), .int (Mv 8), .ref (Ma 7), .int (Mv 9), .ref (Ma 8), .int (Mv 10), .ref (Ma 9), .ref (Ma 10), .int (Mv 11), .int (Mv 12), .int (Mv 13), .ref (Ma 11), .int (Mv 14), .ref (Ma 12), .ref (Ma 13), .ref (Ma 14), .ref (Ma 15), .ref (Ma 16), .long (Mj 0), .ref (Ma 17), .ref (Ma 18), .ref (Ma 19), .ref (Ma 20)])), ((Ma 10), .inl (tc 0, 126, .inl (Mf 10)))] H := hP₀
  replace hD : va_D A [((Ma 11), .inl (tc 0, 920, .inl (Mf 11))), ((Ma 0), .inr (12, [.ref (Ma 1), .int (Mv 0), .int (Mv 1), .ref (Ma 2), .ref (Ma 3), .ref (Ma 4), .ref (Ma 5), .ref (Ma 6), .int (Mv 2), .int (Mv 3), .int (Mv 4), .int (Mv 5), .int (Mv 6), .int (Mv 7), .int (Mv 8), .ref (Ma 7), .int (Mv 9), .ref (Ma 8), .int (Mv 10), .ref (Ma 9), .ref (Ma 10), .int (Mv 11), .int (Mv 12), .int (Mv 13), .ref (Ma 11), .int (Mv 14), .ref (Ma 12), .ref (Ma 13), .ref (Ma 14), .ref (Ma 15), .ref (Ma 16), .long (Mj 0), .ref (Ma 17), .ref (Ma 18), .ref (Ma 19), .ref (Ma 20)])), ((Ma 10), .inl (tc 0, 126, .inl (Mf 10)))] := hD₀
  replace hS := hS₀
  clear hP₀ hD₀ hS₀
  refine lv_if_eq (tgt := 33) hx hb dX12_change_5 (by decide) (fun c_7 => ?_) (fun c_7 => ?_)
  · skip
    refine lv_iconst (v := (-1)) hx hb dX12_change_33 (by decide) ?_
    exact retI (v := (-1)) hx hb hr hlk (rfl) hP hD hS ((Mv 14), (Mf 10), (Mf 11)) ⟨_, rfl, trivial, h_said, h_was, h_un⟩ [1, 2, 0] rfl rfl dX12_change_34 (Nat.le_of_ble_eq_true rfl) (Nat.le_of_ble_eq_true rfl) rfl
  · skip
    refine lv_iload_n hx hb dX12_change_8 rfl (lv_at hl 2 rfl) ?_
    refine lv_i2l (v := (x2).toInt64) hx hb dX12_change_9 rfl ?_
    refine lv_lconst (v := 0) hx hb dX12_change_10 (by decide) ?_
    refine lv_ldc2 hx hb hown (hts _ k_1495) dX12_change_11 ?_
    refine cS (As := [.long (x2).toInt64, .long 0, .long 9]) (rest := []) (wr := [((Ma 11), .inl (tc 0, 920, .inl (Mf 11))), ((Ma 0), .inr (12, [.ref (Ma 1), .int (Mv 0), .int (Mv 1), .ref (Ma 2), .ref (Ma 3), .ref (Ma 4), .ref (Ma 5), .ref (Ma 6), .int (Mv 2), .int (Mv 3), .int (Mv 4), .int (Mv 5), .int (Mv 6), .int (Mv 7), .int (Mv 8), .ref (Ma 7), .int (Mv 9), .ref (Ma 8), .int (Mv 10), .ref (Ma 9), .ref (Ma 10), .int (Mv 11), .int (Mv 12), .int (Mv 13), .ref (Ma 11), .int (Mv 14), .ref (Ma 12), .ref (Ma 13), .ref (Ma 14), .ref (Ma 15), .ref (Ma 16), .long (Mj 0), .ref (Ma 17), .ref (Ma 18), .ref (Ma 19), .ref (Ma 20)])), ((Ma 10), .inl (tc 0, 126, .inl (Mf 10)))]) ⟨hx, hb, hml, hown, hts⟩ hK hX hA (ct_X12_in l D tc sk ((x2).toInt64) 0 9) k_1259 k_1257 k_1258 k_106 pl_X12_in ⟨Nat.le_of_ble_eq_true rfl, Nat.le_of_ble_eq_true rfl⟩ rfl rfl  hP hD hS [] [0, 1, 2] rfl rfl rfl rfl rfl (by decide) rfl hl.1 rfl (Nat.le_of_ble_eq_true rfl) dX12_change_14 ⟨Nat.le_of_ble_eq_true rfl, Nat.le_of_ble_eq_true rfl⟩ (fun v_8 u_9 H locs hv_10 hP₀ hD₀ hS₀ => ?_)
    obtain ⟨r_11, rfl, he_12⟩ := hv_10
    have he_12 : (r_11.toInt = 0 ∨ (r_11.toInt = 1 ∧ (0 : Int64).toInt ≤ (x2).toInt64.toInt ∧ (x2).toInt64.toInt ≤ (9 : Int64).toInt)) := he_12
    refine W.eq (g2 := F0 m 17 ls [.int r_11]) rfl ?_
    replace hP : va_P D classes [((Ma 11), .inl (tc 0, 920, .inl (Mf 11))), ((Ma 0), .inr (12, [.ref (Ma 1), .int (Mv 0), .int (Mv 1), .ref (Ma 2), .ref (Ma 3), .ref (Ma 4), .ref (Ma 5), .ref (Ma 6), .int (Mv 2), .int (Mv 3), .int (Mv 4), .int (Mv 5), .int (Mv 6), .int (Mv 7), .int (Mv 8), .ref (Ma 7), .int (Mv 9), .ref (Ma 8), .int (Mv 10), .ref (Ma 9), .ref (Ma 10), .int (Mv 11), .int (Mv 12), .int (Mv 13), .ref (Ma 11), .int (Mv 14), .ref (Ma 12), .ref (Ma 13), .ref (Ma 14), .ref (Ma 15), .ref (Ma 16), .long (Mj 0), .ref (Ma 17), .ref (Ma 18), .ref (Ma 19), .ref (Ma 20)])), ((Ma 10), .inl (tc 0, 126, .inl (Mf 10)))] H := hP₀
    replace hD : va_D A [((Ma 11), .inl (tc 0, 920, .inl (Mf 11))), ((Ma 0), .inr (12, [.ref (Ma 1), .int (Mv 0), .int (Mv 1), .ref (Ma 2), .ref (Ma 3), .ref (Ma 4), .ref (Ma 5), .ref (Ma 6), .int (Mv 2), .int (Mv 3), .int (Mv 4), .int (Mv 5), .int (Mv 6), .int (Mv 7), .int (Mv 8), .ref (Ma 7), .int (Mv 9), .ref (Ma 8), .int (Mv 10), .ref (Ma 9), .ref (Ma 10), .int (Mv 11), .int (Mv 12), .int (Mv 13), .ref (Ma 11), .int (Mv 14), .ref (Ma 12), .ref (Ma 13), .ref (Ma 14), .ref (Ma 15), .ref (Ma 16), .long (Mj 0), .ref (Ma 17), .ref (Ma 18), .ref (Ma 19), .ref (Ma 20)])), ((Ma 10), .inl (tc 0, 126, .inl (Mf 10)))] := hD₀
    replace hS := hS₀
    clear hP₀ hD₀ hS₀
    have yl_he_12_0 : (0 : Int64).toInt = 0 := by decide
    have yl_he_12_9 : (9 : Int64).toInt = 9 := by decide
    simp only [i32_64] at he_12
    refine lv_if_eq (tgt := 33) hx hb dX12_change_17 (by decide) (fun c_14 => ?_) (fun c_14 => ?_)
    · skip
      refine lv_iconst (v := (-1)) hx hb dX12_change_33 (by decide) ?_
      exact retI (v := (-1)) hx hb hr hlk (rfl) hP hD hS ((Mv 14), (Mf 10), (Mf 11)) ⟨_, rfl, trivial, h_said, h_was, h_un⟩ [1, 2, 0] rfl rfl dX12_change_34 (Nat.le_of_ble_eq_true rfl) (Nat.le_of_ble_eq_true rfl) rfl
    · skip
      refine lv_aload_n hx hb dX12_change_20 rfl (lv_at hl 0 rfl) ?_
      refine gf_X12_39 hx hb hts hown hK hP 1 rfl rfl dX12_change_21 ?_
      refine lv_bipush (v := 36) hx hb dX12_change_24 (by decide) ?_
      refine lv_iload_n hx hb dX12_change_26 rfl (lv_at hl 1 rfl) ?_
      refine lv_iadd hx hb dX12_change_27 ?_
      refine lv_topi (fun x_15 ex_15 => ?_)
      have hi_16 : vp_in x_15 126 := by
        have z_1 : ¬ (r_4 : Int32).toInt = (0 : Int32).toInt := fun z => c_7 (Int32.toInt_inj.mp z)
        have z_2 : ¬ (r_11 : Int32).toInt = (0 : Int32).toInt := fun z => c_14 (Int32.toInt_inj.mp z)
        have y_0 : (0 : Int32).toInt = 0 := by decide
        have y_36 : (36 : Int32).toInt = 36 := by decide
        have t_x_15 : x_15.toInt = (36 : Int32).toInt + (x1 : Int32).toInt := by rw [ex_15]; exact add_toInt (by omega) (by omega)
        refine vp_in_iff.mpr ⟨?_, ?_⟩ <;> omega
      refine va_iald hx hb hK hP 2 0 rfl rfl hi_16 dX12_change_28 ?_
      refine lv_topi (fun x_17 ex_17 => ?_)
      refine lv_iload_n hx hb dX12_change_29 rfl (lv_at hl 2 rfl) ?_
      refine lv_icmp_ne (tgt := 35) hx hb dX12_change_30 (by decide) (fun c_18 => ?_) (fun c_18 => ?_)
      · skip
        refine lv_aload_n hx hb dX12_change_35 rfl (lv_at hl 0 rfl) ?_
        refine cV (a := (Ma 0)) (As := []) (rest := []) (wr := []) ⟨hx, hb, hml, hown, hts⟩ hK hX hA (cu_X12_keepsAct l D tc sk (Ma 0) (Ma 1) (Ma 2) (Ma 3) (Ma 4) (Ma 5) (Ma 6) (Ma 7) (Ma 8) (Ma 9) (Ma 10) (Ma 11) (Ma 12) (Ma 13) (Ma 14) (Ma 15) (Ma 16) (Ma 17) (Ma 18) (Ma 19) (Ma 20) (Mv 0) (Mv 1) (Mv 2) (Mv 3) (Mv 4) (Mv 5) (Mv 6) (Mv 7) (Mv 8) (Mv 9) (Mv 10) (Mv 11) (Mv 12) (Mv 13) (Mv 14) (Mf 10) (Mf 11) (Mj 0) h_said h_was h_un) k_1419 k_1416 k_1418 k_66 k_106 pl_X12_keepsAct ⟨Nat.le_of_ble_eq_true rfl, Nat.le_of_ble_eq_true rfl⟩ rfl rfl (va_recv hK hP (ci := 12) (q0 := 1) rfl rfl) hP hD hS [1, 2, 0] [] rfl rfl rfl rfl rfl (by decide) rfl hl.1 rfl (Nat.le_of_ble_eq_true rfl) dX12_change_36 ⟨Nat.le_of_ble_eq_true rfl, Nat.le_of_ble_eq_true rfl⟩ (fun v_19 u_20 H locs hv_21 hP₀ hD₀ hS₀ => ?_)
        obtain ⟨sv_22, sv_23⟩ := u_20
        obtain ⟨rfl, pf_24, pf_25⟩ := hv_21
        have pf_24 : WasD sv_23 := pf_24
        have pf_25 : 0 ≤ (sv_22 : Int32).toInt ∧ (sv_22 : Int32).toInt ≤ 20 := pf_25
        refine W.eq (g2 := F0 m 39 ls []) rfl ?_
        replace hP : va_P D classes [((Ma 0), .inr (12, [.ref (Ma 1), .int (Mv 0), .int (Mv 1), .ref (Ma 2), .ref (Ma 3), .ref (Ma 4), .ref (Ma 5), .ref (Ma 6), .int (Mv 2), .int (Mv 3), .int (Mv 4), .int (Mv 5), .int (Mv 6), .int (Mv 7), .int (Mv 8), .ref (Ma 7), .int (Mv 9), .ref (Ma 8), .int (Mv 10), .ref (Ma 9), .ref (Ma 10), .int (Mv 11), .int (Mv 12), .int (Mv 13), .ref (Ma 11), .int sv_22, .ref (Ma 12), .ref (Ma 13), .ref (Ma 14), .ref (Ma 15), .ref (Ma 16), .long (Mj 0), .ref (Ma 17), .ref (Ma 18), .ref (Ma 19), .ref (Ma 20)])), ((Ma 10), .inl (tc 0, 126, .inl (Mf 10))), ((Ma 11), .inl (tc 0, 920, .inl sv_23))] H := hP₀
        replace hD : va_D A [((Ma 0), .inr (12, [.ref (Ma 1), .int (Mv 0), .int (Mv 1), .ref (Ma 2), .ref (Ma 3), .ref (Ma 4), .ref (Ma 5), .ref (Ma 6), .int (Mv 2), .int (Mv 3), .int (Mv 4), .int (Mv 5), .int (Mv 6), .int (Mv 7), .int (Mv 8), .ref (Ma 7), .int (Mv 9), .ref (Ma 8), .int (Mv 10), .ref (Ma 9), .ref (Ma 10), .int (Mv 11), .int (Mv 12), .int (Mv 13), .ref (Ma 11), .int sv_22, .ref (Ma 12), .ref (Ma 13), .ref (Ma 14), .ref (Ma 15), .ref (Ma 16), .long (Mj 0), .ref (Ma 17), .ref (Ma 18), .ref (Ma 19), .ref (Ma 20)])), ((Ma 10), .inl (tc 0, 126, .inl (Mf 10))), ((Ma 11), .inl (tc 0, 920, .inl sv_23))] := hD₀
        replace hS := hS₀
        clear hP₀ hD₀ hS₀
        refine lv_aload_n hx hb dX12_change_39 rfl (lv_at hl 0 rfl) ?_
        refine gf_X12_39 hx hb hts hown hK hP 0 rfl rfl dX12_change_40 ?_
        refine lv_bipush (v := 36) hx hb dX12_change_43 (by decide) ?_
        refine lv_iload_n hx hb dX12_change_45 rfl (lv_at hl 1 rfl) ?_
        refine lv_iadd hx hb dX12_change_46 ?_
        refine lv_topi (fun x_26 ex_26 => ?_)
        have hi_27 : vp_in x_26 126 := by
          have z_1 : ¬ (r_4 : Int32).toInt = (0 : Int32).toInt := fun z => c_7 (Int32.toInt_inj.mp z)
          have z_2 : ¬ (r_11 : Int32).toInt = (0 : Int32).toInt := fun z => c_14 (Int32.toInt_inj.mp z)
          have z_3 : ¬ (x_17 : Int32).toInt = (x2 : Int32).toInt := fun z => c_18 (Int32.toInt_inj.mp z)
          have y_0 : (0 : Int32).toInt = 0 := by decide
          have y_36 : (36 : Int32).toInt = 36 := by decide
          have t_x_26 : x_26.toInt = (36 : Int32).toInt + (x1 : Int32).toInt := by rw [ex_26]; exact add_toInt (by omega) (by omega)
          refine vp_in_iff.mpr ⟨?_, ?_⟩ <;> omega
        refine va_iald hx hb hK hP 1 0 rfl rfl hi_27 dX12_change_47 ?_
        refine lv_topi (fun x_28 ex_28 => ?_)
        refine lv_istore_n (lv' := [(3, .int x_28), (0, .ref (Ma 0)), (1, .int x1), (2, .int x2)]) hx hb dX12_change_48 rfl hl (by decide) rfl (fun ls hl₀ => ?_)
        replace hl := hl₀
        clear hl₀
        refine lv_aload_n hx hb dX12_change_49 rfl (lv_at hl 1 rfl) ?_
        refine gf_X12_39 hx hb hts hown hK hP 0 rfl rfl dX12_change_50 ?_
        refine lv_bipush (v := 36) hx hb dX12_change_53 (by decide) ?_
        refine lv_iload_n hx hb dX12_change_55 rfl (lv_at hl 2 rfl) ?_
        refine lv_iadd hx hb dX12_change_56 ?_
        refine lv_topi (fun x_29 ex_29 => ?_)
        refine lv_iload_n hx hb dX12_change_57 rfl (lv_at hl 3 rfl) ?_
        have hi_30 : vp_in x_29 126 := by
          have z_1 : ¬ (r_4 : Int32).toInt = (0 : Int32).toInt := fun z => c_7 (Int32.toInt_inj.mp z)
          have z_2 : ¬ (r_11 : Int32).toInt = (0 : Int32).toInt := fun z => c_14 (Int32.toInt_inj.mp z)
          have z_3 : ¬ (x_17 : Int32).toInt = (x2 : Int32).toInt := fun z => c_18 (Int32.toInt_inj.mp z)
          have y_0 : (0 : Int32).toInt = 0 := by decide
          have y_36 : (36 : Int32).toInt = 36 := by decide
          have t_x_29 : x_29.toInt = (36 : Int32).toInt + (x1 : Int32).toInt := by rw [ex_29]; exact add_toInt (by omega) (by omega)
          refine vp_in_iff.mpr ⟨?_, ?_⟩ <;> omega
        refine st_int hx hb hK hP hD hS 1 0 rfl rfl hi_30 dX12_change_58 (fun g_31 H locs eg_31 hP₀ hD₀ hS₀ => ?_)
        replace hP : va_P D classes [((Ma 0), .inr (12, [.ref (Ma 1), .int (Mv 0), .int (Mv 1), .ref (Ma 2), .ref (Ma 3), .ref (Ma 4), .ref (Ma 5), .ref (Ma 6), .int (Mv 2), .int (Mv 3), .int (Mv 4), .int (Mv 5), .int (Mv 6), .int (Mv 7), .int (Mv 8), .ref (Ma 7), .int (Mv 9), .ref (Ma 8), .int (Mv 10), .ref (Ma 9), .ref (Ma 10), .int (Mv 11), .int (Mv 12), .int (Mv 13), .ref (Ma 11), .int sv_22, .ref (Ma 12), .ref (Ma 13), .ref (Ma 14), .ref (Ma 15), .ref (Ma 16), .long (Mj 0), .ref (Ma 17), .ref (Ma 18), .ref (Ma 19), .ref (Ma 20)])), ((Ma 10), .inl (tc 0, 126, .inl g_31)), ((Ma 11), .inl (tc 0, 920, .inl sv_23))] H := hP₀
        replace hD : va_D A [((Ma 0), .inr (12, [.ref (Ma 1), .int (Mv 0), .int (Mv 1), .ref (Ma 2), .ref (Ma 3), .ref (Ma 4), .ref (Ma 5), .ref (Ma 6), .int (Mv 2), .int (Mv 3), .int (Mv 4), .int (Mv 5), .int (Mv 6), .int (Mv 7), .int (Mv 8), .ref (Ma 7), .int (Mv 9), .ref (Ma 8), .int (Mv 10), .ref (Ma 9), .ref (Ma 10), .int (Mv 11), .int (Mv 12), .int (Mv 13), .ref (Ma 11), .int sv_22, .ref (Ma 12), .ref (Ma 13), .ref (Ma 14), .ref (Ma 15), .ref (Ma 16), .long (Mj 0), .ref (Ma 17), .ref (Ma 18), .ref (Ma 19), .ref (Ma 20)])), ((Ma 10), .inl (tc 0, 126, .inl g_31)), ((Ma 11), .inl (tc 0, 920, .inl sv_23))] := hD₀
        replace hS := hS₀
        clear hP₀ hD₀ hS₀
        have hx_33 : 11 ≤ (x_29 : Int32).toNatClampNeg ∧ (x_29 : Int32).toNatClampNeg < 56 := by
          have z_1 : ¬ (r_4 : Int32).toInt = (0 : Int32).toInt := fun z => c_7 (Int32.toInt_inj.mp z)
          have z_2 : ¬ (r_11 : Int32).toInt = (0 : Int32).toInt := fun z => c_14 (Int32.toInt_inj.mp z)
          have z_3 : ¬ (x_17 : Int32).toInt = (x2 : Int32).toInt := fun z => c_18 (Int32.toInt_inj.mp z)
          have y_0 : (0 : Int32).toInt = 0 := by decide
          have y_36 : (36 : Int32).toInt = 36 := by decide
          have t_x_29 : x_29.toInt = (36 : Int32).toInt + (x1 : Int32).toInt := by rw [ex_29]; exact add_toInt (by omega) (by omega)
          have hcl : (x_29 : Int32).toNatClampNeg = (x_29 : Int32).toInt.toNat := rfl
          omega
        have pf_32 : SaidD T g_31 999 := SaidD.keep h_said eg_31 hx_33
        have ar_pf_32 := SaidD.ar pf_32
        refine lv_iload_n hx hb dX12_change_59 rfl (lv_at hl 0 rfl) ?_
        exact retI (v := x_28) hx hb hr hlk (rfl) hP hD hS (sv_22, g_31, sv_23) ⟨_, rfl, trivial, pf_32, pf_24, pf_25⟩ [0, 1, 2] rfl rfl dX12_change_60 (Nat.le_of_ble_eq_true rfl) (Nat.le_of_ble_eq_true rfl) rfl
      · skip
        refine lv_iconst (v := (-1)) hx hb dX12_change_33 (by decide) ?_
        exact retI (v := (-1)) hx hb hr hlk (rfl) hP hD hS ((Mv 14), (Mf 10), (Mf 11)) ⟨_, rfl, trivial, h_said, h_was, h_un⟩ [1, 2, 0] rfl rfl dX12_change_34 (Nat.le_of_ble_eq_true rfl) (Nat.le_of_ble_eq_true rfl) rfl
