set_option maxRecDepth 16384
theorem dJ6_bitCount_0f7a4_0 : decode cJ6_bitCount_0f7a4 0 = .ok (.iload_n 0, 1) := by decide +kernel
theorem dJ6_bitCount_0f7a4_1 : decode cJ6_bitCount_0f7a4 1 = .ok (.iload_n 0, 1) := by decide +kernel
theorem dJ6_bitCount_0f7a4_2 : decode cJ6_bitCount_0f7a4 2 = .ok (.iconst 1, 1) := by decide +kernel
theorem dJ6_bitCount_0f7a4_3 : decode cJ6_bitCount_0f7a4 3 = .ok (.iushr, 1) := by decide +kernel
theorem dJ6_bitCount_0f7a4_4 : decode cJ6_bitCount_0f7a4 4 = .ok (.ldc_w 265, 3) := by decide +kernel
theorem dJ6_bitCount_0f7a4_7 : decode cJ6_bitCount_0f7a4 7 = .ok (.iand, 1) := by decide +kernel
theorem dJ6_bitCount_0f7a4_8 : decode cJ6_bitCount_0f7a4 8 = .ok (.isub, 1) := by decide +kernel
theorem dJ6_bitCount_0f7a4_9 : decode cJ6_bitCount_0f7a4 9 = .ok (.istore_n 0, 1) := by decide +kernel
theorem dJ6_bitCount_0f7a4_10 : decode cJ6_bitCount_0f7a4 10 = .ok (.iload_n 0, 1) := by decide +kernel
theorem dJ6_bitCount_0f7a4_11 : decode cJ6_bitCount_0f7a4 11 = .ok (.ldc_w 266, 3) := by decide +kernel
theorem dJ6_bitCount_0f7a4_14 : decode cJ6_bitCount_0f7a4 14 = .ok (.iand, 1) := by decide +kernel
theorem dJ6_bitCount_0f7a4_15 : decode cJ6_bitCount_0f7a4 15 = .ok (.iload_n 0, 1) := by decide +kernel
theorem dJ6_bitCount_0f7a4_16 : decode cJ6_bitCount_0f7a4 16 = .ok (.iconst 2, 1) := by decide +kernel
theorem dJ6_bitCount_0f7a4_17 : decode cJ6_bitCount_0f7a4 17 = .ok (.iushr, 1) := by decide +kernel
theorem dJ6_bitCount_0f7a4_18 : decode cJ6_bitCount_0f7a4 18 = .ok (.ldc_w 266, 3) := by decide +kernel
theorem dJ6_bitCount_0f7a4_21 : decode cJ6_bitCount_0f7a4 21 = .ok (.iand, 1) := by decide +kernel
theorem dJ6_bitCount_0f7a4_22 : decode cJ6_bitCount_0f7a4 22 = .ok (.iadd, 1) := by decide +kernel
theorem dJ6_bitCount_0f7a4_23 : decode cJ6_bitCount_0f7a4 23 = .ok (.istore_n 0, 1) := by decide +kernel
theorem dJ6_bitCount_0f7a4_24 : decode cJ6_bitCount_0f7a4 24 = .ok (.iload_n 0, 1) := by decide +kernel
theorem dJ6_bitCount_0f7a4_25 : decode cJ6_bitCount_0f7a4 25 = .ok (.iload_n 0, 1) := by decide +kernel
theorem dJ6_bitCount_0f7a4_26 : decode cJ6_bitCount_0f7a4 26 = .ok (.iconst 4, 1) := by decide +kernel
theorem dJ6_bitCount_0f7a4_27 : decode cJ6_bitCount_0f7a4 27 = .ok (.iushr, 1) := by decide +kernel
theorem dJ6_bitCount_0f7a4_28 : decode cJ6_bitCount_0f7a4 28 = .ok (.iadd, 1) := by decide +kernel
theorem dJ6_bitCount_0f7a4_29 : decode cJ6_bitCount_0f7a4 29 = .ok (.ldc_w 267, 3) := by decide +kernel
theorem dJ6_bitCount_0f7a4_32 : decode cJ6_bitCount_0f7a4 32 = .ok (.iand, 1) := by decide +kernel
theorem dJ6_bitCount_0f7a4_33 : decode cJ6_bitCount_0f7a4 33 = .ok (.istore_n 0, 1) := by decide +kernel
theorem dJ6_bitCount_0f7a4_34 : decode cJ6_bitCount_0f7a4 34 = .ok (.iload_n 0, 1) := by decide +kernel
theorem dJ6_bitCount_0f7a4_35 : decode cJ6_bitCount_0f7a4 35 = .ok (.iload_n 0, 1) := by decide +kernel
theorem dJ6_bitCount_0f7a4_36 : decode cJ6_bitCount_0f7a4 36 = .ok (.bipush 8, 2) := by decide +kernel
theorem dJ6_bitCount_0f7a4_38 : decode cJ6_bitCount_0f7a4 38 = .ok (.iushr, 1) := by decide +kernel
theorem dJ6_bitCount_0f7a4_39 : decode cJ6_bitCount_0f7a4 39 = .ok (.iadd, 1) := by decide +kernel
theorem dJ6_bitCount_0f7a4_40 : decode cJ6_bitCount_0f7a4 40 = .ok (.istore_n 0, 1) := by decide +kernel
theorem dJ6_bitCount_0f7a4_41 : decode cJ6_bitCount_0f7a4 41 = .ok (.iload_n 0, 1) := by decide +kernel
theorem dJ6_bitCount_0f7a4_42 : decode cJ6_bitCount_0f7a4 42 = .ok (.iload_n 0, 1) := by decide +kernel
theorem dJ6_bitCount_0f7a4_43 : decode cJ6_bitCount_0f7a4 43 = .ok (.bipush 16, 2) := by decide +kernel
theorem dJ6_bitCount_0f7a4_45 : decode cJ6_bitCount_0f7a4 45 = .ok (.iushr, 1) := by decide +kernel
theorem dJ6_bitCount_0f7a4_46 : decode cJ6_bitCount_0f7a4 46 = .ok (.iadd, 1) := by decide +kernel
theorem dJ6_bitCount_0f7a4_47 : decode cJ6_bitCount_0f7a4 47 = .ok (.istore_n 0, 1) := by decide +kernel
theorem dJ6_bitCount_0f7a4_48 : decode cJ6_bitCount_0f7a4 48 = .ok (.iload_n 0, 1) := by decide +kernel
theorem dJ6_bitCount_0f7a4_49 : decode cJ6_bitCount_0f7a4 49 = .ok (.bipush 63, 2) := by decide +kernel
theorem dJ6_bitCount_0f7a4_51 : decode cJ6_bitCount_0f7a4 51 = .ok (.iand, 1) := by decide +kernel
theorem dJ6_bitCount_0f7a4_52 : decode cJ6_bitCount_0f7a4 52 = .ok (.ireturn, 1) := by decide +kernel
theorem dX1_bestDay_0 : decode cX1_bestDay 0 = .ok (.aload_n 0, 1) := by decide +kernel
theorem dX1_bestDay_1 : decode cX1_bestDay 1 = .ok (.getfield 12, 3) := by decide +kernel
theorem dX1_bestDay_4 : decode cX1_bestDay 4 = .ok (.aload_n 1, 1) := by decide +kernel
theorem dX1_bestDay_5 : decode cX1_bestDay 5 = .ok (.invokevirtual 29, 3) := by decide +kernel
theorem dX1_bestDay_8 : decode cX1_bestDay 8 = .ok (.aload_n 0, 1) := by decide +kernel
theorem dX1_bestDay_9 : decode cX1_bestDay 9 = .ok (.getfield 12, 3) := by decide +kernel
theorem dX1_bestDay_12 : decode cX1_bestDay 12 = .ok (.iload_n 3, 1) := by decide +kernel
theorem dX1_bestDay_13 : decode cX1_bestDay 13 = .ok (.aload_n 2, 1) := by decide +kernel
theorem dX1_bestDay_14 : decode cX1_bestDay 14 = .ok (.invokevirtual 52, 3) := by decide +kernel
theorem dX1_bestDay_17 : decode cX1_bestDay 17 = .ok (.istore 5, 2) := by decide +kernel
theorem dX1_bestDay_19 : decode cX1_bestDay 19 = .ok (.iconst (-1), 1) := by decide +kernel
theorem dX1_bestDay_20 : decode cX1_bestDay 20 = .ok (.istore 6, 2) := by decide +kernel
theorem dX1_bestDay_22 : decode cX1_bestDay 22 = .ok (.iconst 0, 1) := by decide +kernel
theorem dX1_bestDay_23 : decode cX1_bestDay 23 = .ok (.istore 7, 2) := by decide +kernel
theorem dX1_bestDay_25 : decode cX1_bestDay 25 = .ok (.iload 7, 2) := by decide +kernel
theorem dX1_bestDay_27 : decode cX1_bestDay 27 = .ok (.aload_n 1, 1) := by decide +kernel
theorem dX1_bestDay_28 : decode cX1_bestDay 28 = .ok (.getfield 56, 3) := by decide +kernel
theorem dX1_bestDay_31 : decode cX1_bestDay 31 = .ok (.if_icmp .ge 67, 3) := by decide +kernel
theorem dX1_bestDay_34 : decode cX1_bestDay 34 = .ok (.iload 7, 2) := by decide +kernel
theorem dX1_bestDay_36 : decode cX1_bestDay 36 = .ok (.bipush 10, 2) := by decide +kernel
theorem dX1_bestDay_38 : decode cX1_bestDay 38 = .ok (.if_icmp .ge 60, 3) := by decide +kernel
theorem dX1_bestDay_41 : decode cX1_bestDay 41 = .ok (.aload_n 0, 1) := by decide +kernel
theorem dX1_bestDay_42 : decode cX1_bestDay 42 = .ok (.getfield 12, 3) := by decide +kernel
theorem dX1_bestDay_45 : decode cX1_bestDay 45 = .ok (.aload_n 1, 1) := by decide +kernel
theorem dX1_bestDay_46 : decode cX1_bestDay 46 = .ok (.invokevirtual 29, 3) := by decide +kernel
theorem dX1_bestDay_49 : decode cX1_bestDay 49 = .ok (.aload_n 0, 1) := by decide +kernel
theorem dX1_bestDay_50 : decode cX1_bestDay 50 = .ok (.getfield 12, 3) := by decide +kernel
theorem dX1_bestDay_53 : decode cX1_bestDay 53 = .ok (.getfield 33, 3) := by decide +kernel
theorem dX1_bestDay_56 : decode cX1_bestDay 56 = .ok (.iload 7, 2) := by decide +kernel
theorem dX1_bestDay_58 : decode cX1_bestDay 58 = .ok (.aload_n 0, 1) := by decide +kernel
theorem dX1_bestDay_59 : decode cX1_bestDay 59 = .ok (.getfield 12, 3) := by decide +kernel
theorem dX1_bestDay_62 : decode cX1_bestDay 62 = .ok (.invokevirtual 36, 3) := by decide +kernel
theorem dX1_bestDay_65 : decode cX1_bestDay 65 = .ok (.iastore, 1) := by decide +kernel
theorem dX1_bestDay_66 : decode cX1_bestDay 66 = .ok (.aload_n 0, 1) := by decide +kernel
theorem dX1_bestDay_67 : decode cX1_bestDay 67 = .ok (.getfield 12, 3) := by decide +kernel
theorem dX1_bestDay_70 : decode cX1_bestDay 70 = .ok (.iload_n 3, 1) := by decide +kernel
theorem dX1_bestDay_71 : decode cX1_bestDay 71 = .ok (.aload_n 2, 1) := by decide +kernel
theorem dX1_bestDay_72 : decode cX1_bestDay 72 = .ok (.invokevirtual 52, 3) := by decide +kernel
theorem dX1_bestDay_75 : decode cX1_bestDay 75 = .ok (.istore 8, 2) := by decide +kernel
theorem dX1_bestDay_77 : decode cX1_bestDay 77 = .ok (.iload 8, 2) := by decide +kernel
theorem dX1_bestDay_79 : decode cX1_bestDay 79 = .ok (.iload 5, 2) := by decide +kernel
theorem dX1_bestDay_81 : decode cX1_bestDay 81 = .ok (.if_icmp .ge 11, 3) := by decide +kernel
theorem dX1_bestDay_84 : decode cX1_bestDay 84 = .ok (.iload 8, 2) := by decide +kernel
theorem dX1_bestDay_86 : decode cX1_bestDay 86 = .ok (.istore 5, 2) := by decide +kernel
theorem dX1_bestDay_88 : decode cX1_bestDay 88 = .ok (.iload 7, 2) := by decide +kernel
theorem dX1_bestDay_90 : decode cX1_bestDay 90 = .ok (.istore 6, 2) := by decide +kernel
theorem dX1_bestDay_92 : decode cX1_bestDay 92 = .ok (.iinc 7 1, 3) := by decide +kernel
theorem dX1_bestDay_95 : decode cX1_bestDay 95 = .ok (.goto (-70), 3) := by decide +kernel
theorem dX1_bestDay_98 : decode cX1_bestDay 98 = .ok (.iload 4, 2) := by decide +kernel
theorem dX1_bestDay_100 : decode cX1_bestDay 100 = .ok (.ifCond .ne 8, 3) := by decide +kernel
theorem dX1_bestDay_103 : decode cX1_bestDay 103 = .ok (.iload 6, 2) := by decide +kernel
theorem dX1_bestDay_105 : decode cX1_bestDay 105 = .ok (.goto 5, 3) := by decide +kernel
theorem dX1_bestDay_108 : decode cX1_bestDay 108 = .ok (.iload 5, 2) := by decide +kernel
theorem dX1_bestDay_110 : decode cX1_bestDay 110 = .ok (.ireturn, 1) := by decide +kernel
theorem dX1_clockOfPurchase_0 : decode cX1_clockOfPurchase 0 = .ok (.aload_n 0, 1) := by decide +kernel
theorem dX1_clockOfPurchase_1 : decode cX1_clockOfPurchase 1 = .ok (.getfield 12, 3) := by decide +kernel
theorem dX1_clockOfPurchase_4 : decode cX1_clockOfPurchase 4 = .ok (.aload_n 1, 1) := by decide +kernel
theorem dX1_clockOfPurchase_5 : decode cX1_clockOfPurchase 5 = .ok (.invokevirtual 29, 3) := by decide +kernel
theorem dX1_clockOfPurchase_8 : decode cX1_clockOfPurchase 8 = .ok (.iconst 0, 1) := by decide +kernel
theorem dX1_clockOfPurchase_9 : decode cX1_clockOfPurchase 9 = .ok (.istore 5, 2) := by decide +kernel
theorem dX1_clockOfPurchase_11 : decode cX1_clockOfPurchase 11 = .ok (.iload 5, 2) := by decide +kernel
theorem dX1_clockOfPurchase_13 : decode cX1_clockOfPurchase 13 = .ok (.bipush 10, 2) := by decide +kernel
theorem dX1_clockOfPurchase_15 : decode cX1_clockOfPurchase 15 = .ok (.if_icmp .ge 36, 3) := by decide +kernel
theorem dX1_clockOfPurchase_18 : decode cX1_clockOfPurchase 18 = .ok (.iload 4, 2) := by decide +kernel
theorem dX1_clockOfPurchase_20 : decode cX1_clockOfPurchase 20 = .ok (.iload 5, 2) := by decide +kernel
theorem dX1_clockOfPurchase_22 : decode cX1_clockOfPurchase 22 = .ok (.ishr, 1) := by decide +kernel
theorem dX1_clockOfPurchase_23 : decode cX1_clockOfPurchase 23 = .ok (.iconst 1, 1) := by decide +kernel
theorem dX1_clockOfPurchase_24 : decode cX1_clockOfPurchase 24 = .ok (.iand, 1) := by decide +kernel
theorem dX1_clockOfPurchase_25 : decode cX1_clockOfPurchase 25 = .ok (.ifCond .eq 20, 3) := by decide +kernel
theorem dX1_clockOfPurchase_28 : decode cX1_clockOfPurchase 28 = .ok (.aload_n 0, 1) := by decide +kernel
theorem dX1_clockOfPurchase_29 : decode cX1_clockOfPurchase 29 = .ok (.getfield 12, 3) := by decide +kernel
theorem dX1_clockOfPurchase_32 : decode cX1_clockOfPurchase 32 = .ok (.getfield 33, 3) := by decide +kernel
theorem dX1_clockOfPurchase_35 : decode cX1_clockOfPurchase 35 = .ok (.iload 5, 2) := by decide +kernel
theorem dX1_clockOfPurchase_37 : decode cX1_clockOfPurchase 37 = .ok (.aload_n 0, 1) := by decide +kernel
theorem dX1_clockOfPurchase_38 : decode cX1_clockOfPurchase 38 = .ok (.getfield 12, 3) := by decide +kernel
theorem dX1_clockOfPurchase_41 : decode cX1_clockOfPurchase 41 = .ok (.invokevirtual 36, 3) := by decide +kernel
theorem dX1_clockOfPurchase_44 : decode cX1_clockOfPurchase 44 = .ok (.iastore, 1) := by decide +kernel
theorem dX1_clockOfPurchase_45 : decode cX1_clockOfPurchase 45 = .ok (.iinc 5 1, 3) := by decide +kernel
theorem dX1_clockOfPurchase_48 : decode cX1_clockOfPurchase 48 = .ok (.goto (-37), 3) := by decide +kernel
theorem dX1_clockOfPurchase_51 : decode cX1_clockOfPurchase 51 = .ok (.iconst 0, 1) := by decide +kernel
theorem dX1_clockOfPurchase_52 : decode cX1_clockOfPurchase 52 = .ok (.istore 5, 2) := by decide +kernel
theorem dX1_clockOfPurchase_54 : decode cX1_clockOfPurchase 54 = .ok (.iload 5, 2) := by decide +kernel
theorem dX1_clockOfPurchase_56 : decode cX1_clockOfPurchase 56 = .ok (.iload_n 3, 1) := by decide +kernel
theorem dX1_clockOfPurchase_57 : decode cX1_clockOfPurchase 57 = .ok (.if_icmp .ge 32, 3) := by decide +kernel
theorem dX1_clockOfPurchase_60 : decode cX1_clockOfPurchase 60 = .ok (.aload_n 0, 1) := by decide +kernel
theorem dX1_clockOfPurchase_61 : decode cX1_clockOfPurchase 61 = .ok (.getfield 12, 3) := by decide +kernel
theorem dX1_clockOfPurchase_64 : decode cX1_clockOfPurchase 64 = .ok (.aload_n 2, 1) := by decide +kernel
theorem dX1_clockOfPurchase_65 : decode cX1_clockOfPurchase 65 = .ok (.invokevirtual 40, 3) := by decide +kernel
theorem dX1_clockOfPurchase_68 : decode cX1_clockOfPurchase 68 = .ok (.ifCond .eq 15, 3) := by decide +kernel
theorem dX1_clockOfPurchase_71 : decode cX1_clockOfPurchase 71 = .ok (.aload_n 1, 1) := by decide +kernel
theorem dX1_clockOfPurchase_72 : decode cX1_clockOfPurchase 72 = .ok (.aload_n 1, 1) := by decide +kernel
theorem dX1_clockOfPurchase_73 : decode cX1_clockOfPurchase 73 = .ok (.getfield 44, 3) := by decide +kernel
theorem dX1_clockOfPurchase_76 : decode cX1_clockOfPurchase 76 = .ok (.iload 5, 2) := by decide +kernel
theorem dX1_clockOfPurchase_78 : decode cX1_clockOfPurchase 78 = .ok (.iadd, 1) := by decide +kernel
theorem dX1_clockOfPurchase_79 : decode cX1_clockOfPurchase 79 = .ok (.invokevirtual 48, 3) := by decide +kernel
theorem dX1_clockOfPurchase_82 : decode cX1_clockOfPurchase 82 = .ok (.ireturn, 1) := by decide +kernel
theorem dX1_clockOfPurchase_83 : decode cX1_clockOfPurchase 83 = .ok (.iinc 5 1, 3) := by decide +kernel
theorem dX1_clockOfPurchase_86 : decode cX1_clockOfPurchase 86 = .ok (.goto (-32), 3) := by decide +kernel
theorem dX1_clockOfPurchase_89 : decode cX1_clockOfPurchase 89 = .ok (.iconst (-1), 1) := by decide +kernel
theorem dX1_clockOfPurchase_90 : decode cX1_clockOfPurchase 90 = .ok (.ireturn, 1) := by decide +kernel
theorem dX1_gain_0 : decode cX1_gain 0 = .ok (.aload_n 1, 1) := by decide +kernel
theorem dX1_gain_1 : decode cX1_gain 1 = .ok (.iload_n 2, 1) := by decide +kernel
theorem dX1_gain_2 : decode cX1_gain 2 = .ok (.invokevirtual 59, 3) := by decide +kernel
theorem dX1_gain_5 : decode cX1_gain 5 = .ok (.ifCond .ne 5, 3) := by decide +kernel
theorem dX1_gain_8 : decode cX1_gain 8 = .ok (.iconst 0, 1) := by decide +kernel
theorem dX1_gain_9 : decode cX1_gain 9 = .ok (.ireturn, 1) := by decide +kernel
theorem dX1_gain_10 : decode cX1_gain 10 = .ok (.aload_n 0, 1) := by decide +kernel
theorem dX1_gain_11 : decode cX1_gain 11 = .ok (.getfield 12, 3) := by decide +kernel
theorem dX1_gain_14 : decode cX1_gain 14 = .ok (.getfield 82, 3) := by decide +kernel
theorem dX1_gain_17 : decode cX1_gain 17 = .ok (.iload_n 2, 1) := by decide +kernel
theorem dX1_gain_18 : decode cX1_gain 18 = .ok (.iaload, 1) := by decide +kernel
theorem dX1_gain_19 : decode cX1_gain 19 = .ok (.aload_n 1, 1) := by decide +kernel
theorem dX1_gain_20 : decode cX1_gain 20 = .ok (.getfield 82, 3) := by decide +kernel
theorem dX1_gain_23 : decode cX1_gain 23 = .ok (.iload_n 2, 1) := by decide +kernel
theorem dX1_gain_24 : decode cX1_gain 24 = .ok (.iaload, 1) := by decide +kernel
theorem dX1_gain_25 : decode cX1_gain 25 = .ok (.isub, 1) := by decide +kernel
theorem dX1_gain_26 : decode cX1_gain 26 = .ok (.istore_n 3, 1) := by decide +kernel
theorem dX1_gain_27 : decode cX1_gain 27 = .ok (.iload_n 3, 1) := by decide +kernel
theorem dX1_gain_28 : decode cX1_gain 28 = .ok (.iconst 4, 1) := by decide +kernel
theorem dX1_gain_29 : decode cX1_gain 29 = .ok (.aload_n 0, 1) := by decide +kernel
theorem dX1_gain_30 : decode cX1_gain 30 = .ok (.getfield 12, 3) := by decide +kernel
theorem dX1_gain_33 : decode cX1_gain 33 = .ok (.getfield 85, 3) := by decide +kernel
theorem dX1_gain_36 : decode cX1_gain 36 = .ok (.iload_n 2, 1) := by decide +kernel
theorem dX1_gain_37 : decode cX1_gain 37 = .ok (.iaload, 1) := by decide +kernel
theorem dX1_gain_38 : decode cX1_gain 38 = .ok (.aload_n 1, 1) := by decide +kernel
theorem dX1_gain_39 : decode cX1_gain 39 = .ok (.getfield 85, 3) := by decide +kernel
theorem dX1_gain_42 : decode cX1_gain 42 = .ok (.iload_n 2, 1) := by decide +kernel
theorem dX1_gain_43 : decode cX1_gain 43 = .ok (.iaload, 1) := by decide +kernel
theorem dX1_gain_44 : decode cX1_gain 44 = .ok (.isub, 1) := by decide +kernel
theorem dX1_gain_45 : decode cX1_gain 45 = .ok (.imul, 1) := by decide +kernel
theorem dX1_gain_46 : decode cX1_gain 46 = .ok (.isub, 1) := by decide +kernel
theorem dX1_gain_47 : decode cX1_gain 47 = .ok (.ireturn, 1) := by decide +kernel
theorem dX1_grainsOf_0 : decode cX1_grainsOf 0 = .ok (.iconst 0, 1) := by decide +kernel
theorem dX1_grainsOf_1 : decode cX1_grainsOf 1 = .ok (.istore_n 2, 1) := by decide +kernel
theorem dX1_grainsOf_2 : decode cX1_grainsOf 2 = .ok (.iconst 0, 1) := by decide +kernel
theorem dX1_grainsOf_3 : decode cX1_grainsOf 3 = .ok (.istore_n 3, 1) := by decide +kernel
theorem dX1_grainsOf_4 : decode cX1_grainsOf 4 = .ok (.iload_n 3, 1) := by decide +kernel
theorem dX1_grainsOf_5 : decode cX1_grainsOf 5 = .ok (.aload_n 0, 1) := by decide +kernel
theorem dX1_grainsOf_6 : decode cX1_grainsOf 6 = .ok (.getfield 66, 3) := by decide +kernel
theorem dX1_grainsOf_9 : decode cX1_grainsOf 9 = .ok (.if_icmp .ge 30, 3) := by decide +kernel
theorem dX1_grainsOf_12 : decode cX1_grainsOf 12 = .ok (.iload_n 3, 1) := by decide +kernel
theorem dX1_grainsOf_13 : decode cX1_grainsOf 13 = .ok (.bipush 6, 2) := by decide +kernel
theorem dX1_grainsOf_15 : decode cX1_grainsOf 15 = .ok (.if_icmp .ge 24, 3) := by decide +kernel
theorem dX1_grainsOf_18 : decode cX1_grainsOf 18 = .ok (.iload_n 2, 1) := by decide +kernel
theorem dX1_grainsOf_19 : decode cX1_grainsOf 19 = .ok (.iload_n 1, 1) := by decide +kernel
theorem dX1_grainsOf_20 : decode cX1_grainsOf 20 = .ok (.iload_n 3, 1) := by decide +kernel
theorem dX1_grainsOf_21 : decode cX1_grainsOf 21 = .ok (.ishr, 1) := by decide +kernel
theorem dX1_grainsOf_22 : decode cX1_grainsOf 22 = .ok (.iconst 1, 1) := by decide +kernel
theorem dX1_grainsOf_23 : decode cX1_grainsOf 23 = .ok (.iand, 1) := by decide +kernel
theorem dX1_grainsOf_24 : decode cX1_grainsOf 24 = .ok (.aload_n 0, 1) := by decide +kernel
theorem dX1_grainsOf_25 : decode cX1_grainsOf 25 = .ok (.getfield 73, 3) := by decide +kernel
theorem dX1_grainsOf_28 : decode cX1_grainsOf 28 = .ok (.iload_n 3, 1) := by decide +kernel
theorem dX1_grainsOf_29 : decode cX1_grainsOf 29 = .ok (.iaload, 1) := by decide +kernel
theorem dX1_grainsOf_30 : decode cX1_grainsOf 30 = .ok (.imul, 1) := by decide +kernel
theorem dX1_grainsOf_31 : decode cX1_grainsOf 31 = .ok (.iadd, 1) := by decide +kernel
theorem dX1_grainsOf_32 : decode cX1_grainsOf 32 = .ok (.istore_n 2, 1) := by decide +kernel
theorem dX1_grainsOf_33 : decode cX1_grainsOf 33 = .ok (.iinc 3 1, 3) := by decide +kernel
theorem dX1_grainsOf_36 : decode cX1_grainsOf 36 = .ok (.goto (-32), 3) := by decide +kernel
theorem dX1_grainsOf_39 : decode cX1_grainsOf 39 = .ok (.iload_n 2, 1) := by decide +kernel
theorem dX1_grainsOf_40 : decode cX1_grainsOf 40 = .ok (.ireturn, 1) := by decide +kernel
theorem dX1_isRest_0 : decode cX1_isRest 0 = .ok (.iload_n 1, 1) := by decide +kernel
theorem dX1_isRest_1 : decode cX1_isRest 1 = .ok (.ifCond .lt 9, 3) := by decide +kernel
theorem dX1_isRest_4 : decode cX1_isRest 4 = .ok (.iload_n 1, 1) := by decide +kernel
theorem dX1_isRest_5 : decode cX1_isRest 5 = .ok (.bipush 25, 2) := by decide +kernel
theorem dX1_isRest_7 : decode cX1_isRest 7 = .ok (.if_icmp .lt 5, 3) := by decide +kernel
theorem dX1_isRest_10 : decode cX1_isRest 10 = .ok (.iconst 0, 1) := by decide +kernel
theorem dX1_isRest_11 : decode cX1_isRest 11 = .ok (.ireturn, 1) := by decide +kernel
theorem dX1_isRest_12 : decode cX1_isRest 12 = .ok (.iload_n 1, 1) := by decide +kernel
theorem dX1_isRest_13 : decode cX1_isRest 13 = .ok (.iconst 5, 1) := by decide +kernel
theorem dX1_isRest_14 : decode cX1_isRest 14 = .ok (.idiv, 1) := by decide +kernel
theorem dX1_isRest_15 : decode cX1_isRest 15 = .ok (.istore_n 2, 1) := by decide +kernel
theorem dX1_isRest_16 : decode cX1_isRest 16 = .ok (.iload_n 1, 1) := by decide +kernel
theorem dX1_isRest_17 : decode cX1_isRest 17 = .ok (.iconst 5, 1) := by decide +kernel
theorem dX1_isRest_18 : decode cX1_isRest 18 = .ok (.irem, 1) := by decide +kernel
theorem dX1_isRest_19 : decode cX1_isRest 19 = .ok (.istore_n 3, 1) := by decide +kernel
theorem dX1_isRest_20 : decode cX1_isRest 20 = .ok (.iconst 0, 1) := by decide +kernel
theorem dX1_isRest_21 : decode cX1_isRest 21 = .ok (.istore 4, 2) := by decide +kernel
theorem dX1_isRest_23 : decode cX1_isRest 23 = .ok (.iload 4, 2) := by decide +kernel
theorem dX1_isRest_25 : decode cX1_isRest 25 = .ok (.iconst 5, 1) := by decide +kernel
theorem dX1_isRest_26 : decode cX1_isRest 26 = .ok (.if_icmp .ge 51, 3) := by decide +kernel
theorem dX1_isRest_29 : decode cX1_isRest 29 = .ok (.aload_n 0, 1) := by decide +kernel
theorem dX1_isRest_30 : decode cX1_isRest 30 = .ok (.getfield 18, 3) := by decide +kernel
theorem dX1_isRest_33 : decode cX1_isRest 33 = .ok (.iload 4, 2) := by decide +kernel
theorem dX1_isRest_35 : decode cX1_isRest 35 = .ok (.iconst 5, 1) := by decide +kernel
theorem dX1_isRest_36 : decode cX1_isRest 36 = .ok (.imul, 1) := by decide +kernel
theorem dX1_isRest_37 : decode cX1_isRest 37 = .ok (.iload_n 3, 1) := by decide +kernel
theorem dX1_isRest_38 : decode cX1_isRest 38 = .ok (.iadd, 1) := by decide +kernel
theorem dX1_isRest_39 : decode cX1_isRest 39 = .ok (.iaload, 1) := by decide +kernel
theorem dX1_isRest_40 : decode cX1_isRest 40 = .ok (.aload_n 0, 1) := by decide +kernel
theorem dX1_isRest_41 : decode cX1_isRest 41 = .ok (.getfield 18, 3) := by decide +kernel
theorem dX1_isRest_44 : decode cX1_isRest 44 = .ok (.iload_n 1, 1) := by decide +kernel
theorem dX1_isRest_45 : decode cX1_isRest 45 = .ok (.iaload, 1) := by decide +kernel
theorem dX1_isRest_46 : decode cX1_isRest 46 = .ok (.if_icmp .gt 23, 3) := by decide +kernel
theorem dX1_isRest_49 : decode cX1_isRest 49 = .ok (.aload_n 0, 1) := by decide +kernel
theorem dX1_isRest_50 : decode cX1_isRest 50 = .ok (.getfield 22, 3) := by decide +kernel
theorem dX1_isRest_53 : decode cX1_isRest 53 = .ok (.iload_n 2, 1) := by decide +kernel
theorem dX1_isRest_54 : decode cX1_isRest 54 = .ok (.iconst 5, 1) := by decide +kernel
theorem dX1_isRest_55 : decode cX1_isRest 55 = .ok (.imul, 1) := by decide +kernel
theorem dX1_isRest_56 : decode cX1_isRest 56 = .ok (.iload 4, 2) := by decide +kernel
theorem dX1_isRest_58 : decode cX1_isRest 58 = .ok (.iadd, 1) := by decide +kernel
theorem dX1_isRest_59 : decode cX1_isRest 59 = .ok (.iaload, 1) := by decide +kernel
theorem dX1_isRest_60 : decode cX1_isRest 60 = .ok (.aload_n 0, 1) := by decide +kernel
theorem dX1_isRest_61 : decode cX1_isRest 61 = .ok (.getfield 22, 3) := by decide +kernel
theorem dX1_isRest_64 : decode cX1_isRest 64 = .ok (.iload_n 1, 1) := by decide +kernel
theorem dX1_isRest_65 : decode cX1_isRest 65 = .ok (.iaload, 1) := by decide +kernel
theorem dX1_isRest_66 : decode cX1_isRest 66 = .ok (.if_icmp .le 5, 3) := by decide +kernel
theorem dX1_isRest_69 : decode cX1_isRest 69 = .ok (.iconst 0, 1) := by decide +kernel
theorem dX1_isRest_70 : decode cX1_isRest 70 = .ok (.ireturn, 1) := by decide +kernel
theorem dX1_isRest_71 : decode cX1_isRest 71 = .ok (.iinc 4 1, 3) := by decide +kernel
theorem dX1_isRest_74 : decode cX1_isRest 74 = .ok (.goto (-51), 3) := by decide +kernel
theorem dX1_isRest_77 : decode cX1_isRest 77 = .ok (.iconst 1, 1) := by decide +kernel
theorem dX1_isRest_78 : decode cX1_isRest 78 = .ok (.ireturn, 1) := by decide +kernel
theorem dX1_leastTemper_0 : decode cX1_leastTemper 0 = .ok (.iconst 0, 1) := by decide +kernel
theorem dX1_leastTemper_1 : decode cX1_leastTemper 1 = .ok (.istore 5, 2) := by decide +kernel
theorem dX1_leastTemper_3 : decode cX1_leastTemper 3 = .ok (.iload 5, 2) := by decide +kernel
theorem dX1_leastTemper_5 : decode cX1_leastTemper 5 = .ok (.bipush 20, 2) := by decide +kernel
theorem dX1_leastTemper_7 : decode cX1_leastTemper 7 = .ok (.if_icmp .gt 73, 3) := by decide +kernel
theorem dX1_leastTemper_10 : decode cX1_leastTemper 10 = .ok (.aload_n 0, 1) := by decide +kernel
theorem dX1_leastTemper_11 : decode cX1_leastTemper 11 = .ok (.getfield 12, 3) := by decide +kernel
theorem dX1_leastTemper_14 : decode cX1_leastTemper 14 = .ok (.aload_n 1, 1) := by decide +kernel
theorem dX1_leastTemper_15 : decode cX1_leastTemper 15 = .ok (.invokevirtual 29, 3) := by decide +kernel
theorem dX1_leastTemper_18 : decode cX1_leastTemper 18 = .ok (.aload_n 0, 1) := by decide +kernel
theorem dX1_leastTemper_19 : decode cX1_leastTemper 19 = .ok (.getfield 12, 3) := by decide +kernel
theorem dX1_leastTemper_22 : decode cX1_leastTemper 22 = .ok (.iload_n 3, 1) := by decide +kernel
theorem dX1_leastTemper_23 : decode cX1_leastTemper 23 = .ok (.invokevirtual 59, 3) := by decide +kernel
theorem dX1_leastTemper_26 : decode cX1_leastTemper 26 = .ok (.ifCond .eq 14, 3) := by decide +kernel
theorem dX1_leastTemper_29 : decode cX1_leastTemper 29 = .ok (.aload_n 0, 1) := by decide +kernel
theorem dX1_leastTemper_30 : decode cX1_leastTemper 30 = .ok (.getfield 12, 3) := by decide +kernel
theorem dX1_leastTemper_33 : decode cX1_leastTemper 33 = .ok (.getfield 63, 3) := by decide +kernel
theorem dX1_leastTemper_36 : decode cX1_leastTemper 36 = .ok (.iload_n 3, 1) := by decide +kernel
theorem dX1_leastTemper_37 : decode cX1_leastTemper 37 = .ok (.iload 5, 2) := by decide +kernel
theorem dX1_leastTemper_39 : decode cX1_leastTemper 39 = .ok (.iastore, 1) := by decide +kernel
theorem dX1_leastTemper_40 : decode cX1_leastTemper 40 = .ok (.iconst 0, 1) := by decide +kernel
theorem dX1_leastTemper_41 : decode cX1_leastTemper 41 = .ok (.istore 6, 2) := by decide +kernel
theorem dX1_leastTemper_43 : decode cX1_leastTemper 43 = .ok (.iload 6, 2) := by decide +kernel
theorem dX1_leastTemper_45 : decode cX1_leastTemper 45 = .ok (.iload 4, 2) := by decide +kernel
theorem dX1_leastTemper_47 : decode cX1_leastTemper 47 = .ok (.if_icmp .ge 27, 3) := by decide +kernel
theorem dX1_leastTemper_50 : decode cX1_leastTemper 50 = .ok (.aload_n 0, 1) := by decide +kernel
theorem dX1_leastTemper_51 : decode cX1_leastTemper 51 = .ok (.getfield 12, 3) := by decide +kernel
theorem dX1_leastTemper_54 : decode cX1_leastTemper 54 = .ok (.aload_n 2, 1) := by decide +kernel
theorem dX1_leastTemper_55 : decode cX1_leastTemper 55 = .ok (.invokevirtual 40, 3) := by decide +kernel
theorem dX1_leastTemper_58 : decode cX1_leastTemper 58 = .ok (.iload_n 3, 1) := by decide +kernel
theorem dX1_leastTemper_59 : decode cX1_leastTemper 59 = .ok (.ishr, 1) := by decide +kernel
theorem dX1_leastTemper_60 : decode cX1_leastTemper 60 = .ok (.iconst 1, 1) := by decide +kernel
theorem dX1_leastTemper_61 : decode cX1_leastTemper 61 = .ok (.iand, 1) := by decide +kernel
theorem dX1_leastTemper_62 : decode cX1_leastTemper 62 = .ok (.ifCond .eq 6, 3) := by decide +kernel
theorem dX1_leastTemper_65 : decode cX1_leastTemper 65 = .ok (.iload 5, 2) := by decide +kernel
theorem dX1_leastTemper_67 : decode cX1_leastTemper 67 = .ok (.ireturn, 1) := by decide +kernel
theorem dX1_leastTemper_68 : decode cX1_leastTemper 68 = .ok (.iinc 6 1, 3) := by decide +kernel
theorem dX1_leastTemper_71 : decode cX1_leastTemper 71 = .ok (.goto (-28), 3) := by decide +kernel
theorem dX1_leastTemper_74 : decode cX1_leastTemper 74 = .ok (.iinc 5 1, 3) := by decide +kernel
theorem dX1_leastTemper_77 : decode cX1_leastTemper 77 = .ok (.goto (-74), 3) := by decide +kernel
theorem dX1_leastTemper_80 : decode cX1_leastTemper 80 = .ok (.bipush (-2), 2) := by decide +kernel
theorem dX1_leastTemper_82 : decode cX1_leastTemper 82 = .ok (.ireturn, 1) := by decide +kernel
theorem dX1_playAll_0 : decode cX1_playAll 0 = .ok (.aload_n 1, 1) := by decide +kernel
theorem dX1_playAll_1 : decode cX1_playAll 1 = .ok (.iload_n 3, 1) := by decide +kernel
theorem dX1_playAll_2 : decode cX1_playAll 2 = .ok (.invokevirtual 59, 3) := by decide +kernel
theorem dX1_playAll_5 : decode cX1_playAll 5 = .ok (.ifCond .eq 12, 3) := by decide +kernel
theorem dX1_playAll_8 : decode cX1_playAll 8 = .ok (.aload_n 1, 1) := by decide +kernel
theorem dX1_playAll_9 : decode cX1_playAll 9 = .ok (.iload 4, 2) := by decide +kernel
theorem dX1_playAll_11 : decode cX1_playAll 11 = .ok (.invokevirtual 59, 3) := by decide +kernel
theorem dX1_playAll_14 : decode cX1_playAll 14 = .ok (.ifCond .ne 4, 3) := by decide +kernel
theorem dX1_playAll_17 : decode cX1_playAll 17 = .ok (.return_, 1) := by decide +kernel
theorem dX1_playAll_18 : decode cX1_playAll 18 = .ok (.iconst 0, 1) := by decide +kernel
theorem dX1_playAll_19 : decode cX1_playAll 19 = .ok (.istore 6, 2) := by decide +kernel
theorem dX1_playAll_21 : decode cX1_playAll 21 = .ok (.iload 6, 2) := by decide +kernel
theorem dX1_playAll_23 : decode cX1_playAll 23 = .ok (.bipush 25, 2) := by decide +kernel
theorem dX1_playAll_25 : decode cX1_playAll 25 = .ok (.if_icmp .ge 88, 3) := by decide +kernel
theorem dX1_playAll_28 : decode cX1_playAll 28 = .ok (.aload_n 0, 1) := by decide +kernel
theorem dX1_playAll_29 : decode cX1_playAll 29 = .ok (.getfield 12, 3) := by decide +kernel
theorem dX1_playAll_32 : decode cX1_playAll 32 = .ok (.aload_n 1, 1) := by decide +kernel
theorem dX1_playAll_33 : decode cX1_playAll 33 = .ok (.invokevirtual 29, 3) := by decide +kernel
theorem dX1_playAll_36 : decode cX1_playAll 36 = .ok (.aload_n 0, 1) := by decide +kernel
theorem dX1_playAll_37 : decode cX1_playAll 37 = .ok (.getfield 12, 3) := by decide +kernel
theorem dX1_playAll_40 : decode cX1_playAll 40 = .ok (.getfield 73, 3) := by decide +kernel
theorem dX1_playAll_43 : decode cX1_playAll 43 = .ok (.iload_n 3, 1) := by decide +kernel
theorem dX1_playAll_44 : decode cX1_playAll 44 = .ok (.iload 6, 2) := by decide +kernel
theorem dX1_playAll_46 : decode cX1_playAll 46 = .ok (.iconst 5, 1) := by decide +kernel
theorem dX1_playAll_47 : decode cX1_playAll 47 = .ok (.idiv, 1) := by decide +kernel
theorem dX1_playAll_48 : decode cX1_playAll 48 = .ok (.invokestatic 76, 3) := by decide +kernel
theorem dX1_playAll_51 : decode cX1_playAll 51 = .ok (.iastore, 1) := by decide +kernel
theorem dX1_playAll_52 : decode cX1_playAll 52 = .ok (.aload_n 0, 1) := by decide +kernel
theorem dX1_playAll_53 : decode cX1_playAll 53 = .ok (.getfield 12, 3) := by decide +kernel
theorem dX1_playAll_56 : decode cX1_playAll 56 = .ok (.getfield 73, 3) := by decide +kernel
theorem dX1_playAll_59 : decode cX1_playAll 59 = .ok (.iload 4, 2) := by decide +kernel
theorem dX1_playAll_61 : decode cX1_playAll 61 = .ok (.iload 6, 2) := by decide +kernel
theorem dX1_playAll_63 : decode cX1_playAll 63 = .ok (.iconst 5, 1) := by decide +kernel
theorem dX1_playAll_64 : decode cX1_playAll 64 = .ok (.irem, 1) := by decide +kernel
theorem dX1_playAll_65 : decode cX1_playAll 65 = .ok (.invokestatic 76, 3) := by decide +kernel
theorem dX1_playAll_68 : decode cX1_playAll 68 = .ok (.iastore, 1) := by decide +kernel
theorem dX1_playAll_69 : decode cX1_playAll 69 = .ok (.aload_n 0, 1) := by decide +kernel
theorem dX1_playAll_70 : decode cX1_playAll 70 = .ok (.getfield 12, 3) := by decide +kernel
theorem dX1_playAll_73 : decode cX1_playAll 73 = .ok (.iload 5, 2) := by decide +kernel
theorem dX1_playAll_75 : decode cX1_playAll 75 = .ok (.aload_n 2, 1) := by decide +kernel
theorem dX1_playAll_76 : decode cX1_playAll 76 = .ok (.invokevirtual 52, 3) := by decide +kernel
theorem dX1_playAll_79 : decode cX1_playAll 79 = .ok (.pop, 1) := by decide +kernel
theorem dX1_playAll_80 : decode cX1_playAll 80 = .ok (.aload_n 0, 1) := by decide +kernel
theorem dX1_playAll_81 : decode cX1_playAll 81 = .ok (.getfield 18, 3) := by decide +kernel
theorem dX1_playAll_84 : decode cX1_playAll 84 = .ok (.iload 6, 2) := by decide +kernel
theorem dX1_playAll_86 : decode cX1_playAll 86 = .ok (.aload_n 0, 1) := by decide +kernel
theorem dX1_playAll_87 : decode cX1_playAll 87 = .ok (.aload_n 1, 1) := by decide +kernel
theorem dX1_playAll_88 : decode cX1_playAll 88 = .ok (.iload_n 3, 1) := by decide +kernel
theorem dX1_playAll_89 : decode cX1_playAll 89 = .ok (.invokevirtual 79, 3) := by decide +kernel
theorem dX1_playAll_92 : decode cX1_playAll 92 = .ok (.iastore, 1) := by decide +kernel
theorem dX1_playAll_93 : decode cX1_playAll 93 = .ok (.aload_n 0, 1) := by decide +kernel
theorem dX1_playAll_94 : decode cX1_playAll 94 = .ok (.getfield 22, 3) := by decide +kernel
theorem dX1_playAll_97 : decode cX1_playAll 97 = .ok (.iload 6, 2) := by decide +kernel
theorem dX1_playAll_99 : decode cX1_playAll 99 = .ok (.aload_n 0, 1) := by decide +kernel
theorem dX1_playAll_100 : decode cX1_playAll 100 = .ok (.aload_n 1, 1) := by decide +kernel
theorem dX1_playAll_101 : decode cX1_playAll 101 = .ok (.iload 4, 2) := by decide +kernel
theorem dX1_playAll_103 : decode cX1_playAll 103 = .ok (.invokevirtual 79, 3) := by decide +kernel
theorem dX1_playAll_106 : decode cX1_playAll 106 = .ok (.iastore, 1) := by decide +kernel
theorem dX1_playAll_107 : decode cX1_playAll 107 = .ok (.iinc 6 1, 3) := by decide +kernel
theorem dX1_playAll_110 : decode cX1_playAll 110 = .ok (.goto (-89), 3) := by decide +kernel
theorem dX1_playAll_113 : decode cX1_playAll 113 = .ok (.return_, 1) := by decide +kernel
theorem dX1_restAnswer_0 : decode cX1_restAnswer 0 = .ok (.iconst 0, 1) := by decide +kernel
theorem dX1_restAnswer_1 : decode cX1_restAnswer 1 = .ok (.istore_n 2, 1) := by decide +kernel
theorem dX1_restAnswer_2 : decode cX1_restAnswer 2 = .ok (.iconst (-1), 1) := by decide +kernel
theorem dX1_restAnswer_3 : decode cX1_restAnswer 3 = .ok (.istore_n 3, 1) := by decide +kernel
theorem dX1_restAnswer_4 : decode cX1_restAnswer 4 = .ok (.iconst 0, 1) := by decide +kernel
theorem dX1_restAnswer_5 : decode cX1_restAnswer 5 = .ok (.istore 4, 2) := by decide +kernel
theorem dX1_restAnswer_7 : decode cX1_restAnswer 7 = .ok (.iload 4, 2) := by decide +kernel
theorem dX1_restAnswer_9 : decode cX1_restAnswer 9 = .ok (.bipush 25, 2) := by decide +kernel
theorem dX1_restAnswer_11 : decode cX1_restAnswer 11 = .ok (.if_icmp .ge 32, 3) := by decide +kernel
theorem dX1_restAnswer_14 : decode cX1_restAnswer 14 = .ok (.aload_n 0, 1) := by decide +kernel
theorem dX1_restAnswer_15 : decode cX1_restAnswer 15 = .ok (.iload 4, 2) := by decide +kernel
theorem dX1_restAnswer_17 : decode cX1_restAnswer 17 = .ok (.invokevirtual 88, 3) := by decide +kernel
theorem dX1_restAnswer_20 : decode cX1_restAnswer 20 = .ok (.ifCond .eq 17, 3) := by decide +kernel
theorem dX1_restAnswer_23 : decode cX1_restAnswer 23 = .ok (.iload_n 2, 1) := by decide +kernel
theorem dX1_restAnswer_24 : decode cX1_restAnswer 24 = .ok (.ifCond .ne 8, 3) := by decide +kernel
theorem dX1_restAnswer_27 : decode cX1_restAnswer 27 = .ok (.iload 4, 2) := by decide +kernel
theorem dX1_restAnswer_29 : decode cX1_restAnswer 29 = .ok (.goto 4, 3) := by decide +kernel
theorem dX1_restAnswer_32 : decode cX1_restAnswer 32 = .ok (.iload_n 3, 1) := by decide +kernel
theorem dX1_restAnswer_33 : decode cX1_restAnswer 33 = .ok (.istore_n 3, 1) := by decide +kernel
theorem dX1_restAnswer_34 : decode cX1_restAnswer 34 = .ok (.iinc 2 1, 3) := by decide +kernel
theorem dX1_restAnswer_37 : decode cX1_restAnswer 37 = .ok (.iinc 4 1, 3) := by decide +kernel
theorem dX1_restAnswer_40 : decode cX1_restAnswer 40 = .ok (.goto (-33), 3) := by decide +kernel
theorem dX1_restAnswer_43 : decode cX1_restAnswer 43 = .ok (.iload_n 1, 1) := by decide +kernel
theorem dX1_restAnswer_44 : decode cX1_restAnswer 44 = .ok (.ifCond .ne 5, 3) := by decide +kernel
theorem dX1_restAnswer_47 : decode cX1_restAnswer 47 = .ok (.iload_n 2, 1) := by decide +kernel
theorem dX1_restAnswer_48 : decode cX1_restAnswer 48 = .ok (.ireturn, 1) := by decide +kernel
theorem dX1_restAnswer_49 : decode cX1_restAnswer 49 = .ok (.iload_n 2, 1) := by decide +kernel
theorem dX1_restAnswer_50 : decode cX1_restAnswer 50 = .ok (.ifCond .ne 6, 3) := by decide +kernel
theorem dX1_restAnswer_53 : decode cX1_restAnswer 53 = .ok (.bipush (-2), 2) := by decide +kernel
theorem dX1_restAnswer_55 : decode cX1_restAnswer 55 = .ok (.ireturn, 1) := by decide +kernel
theorem dX1_restAnswer_56 : decode cX1_restAnswer 56 = .ok (.iload_n 1, 1) := by decide +kernel
theorem dX1_restAnswer_57 : decode cX1_restAnswer 57 = .ok (.iconst 1, 1) := by decide +kernel
theorem dX1_restAnswer_58 : decode cX1_restAnswer 58 = .ok (.if_icmp .ne 9, 3) := by decide +kernel
theorem dX1_restAnswer_61 : decode cX1_restAnswer 61 = .ok (.iload_n 3, 1) := by decide +kernel
theorem dX1_restAnswer_62 : decode cX1_restAnswer 62 = .ok (.iconst 5, 1) := by decide +kernel
theorem dX1_restAnswer_63 : decode cX1_restAnswer 63 = .ok (.idiv, 1) := by decide +kernel
theorem dX1_restAnswer_64 : decode cX1_restAnswer 64 = .ok (.goto 6, 3) := by decide +kernel
theorem dX1_restAnswer_67 : decode cX1_restAnswer 67 = .ok (.iload_n 3, 1) := by decide +kernel
theorem dX1_restAnswer_68 : decode cX1_restAnswer 68 = .ok (.iconst 5, 1) := by decide +kernel
theorem dX1_restAnswer_69 : decode cX1_restAnswer 69 = .ok (.irem, 1) := by decide +kernel
theorem dX1_restAnswer_70 : decode cX1_restAnswer 70 = .ok (.invokestatic 76, 3) := by decide +kernel
theorem dX1_restAnswer_73 : decode cX1_restAnswer 73 = .ok (.ireturn, 1) := by decide +kernel
theorem dX1_setsOf_0 : decode cX1_setsOf 0 = .ok (.iconst 0, 1) := by decide +kernel
theorem dX1_setsOf_1 : decode cX1_setsOf 1 = .ok (.istore 4, 2) := by decide +kernel
theorem dX1_setsOf_3 : decode cX1_setsOf 3 = .ok (.bipush (-2), 2) := by decide +kernel
theorem dX1_setsOf_5 : decode cX1_setsOf 5 = .ok (.istore 5, 2) := by decide +kernel
theorem dX1_setsOf_7 : decode cX1_setsOf 7 = .ok (.aload_n 1, 1) := by decide +kernel
theorem dX1_setsOf_8 : decode cX1_setsOf 8 = .ok (.invokevirtual 36, 3) := by decide +kernel
theorem dX1_setsOf_11 : decode cX1_setsOf 11 = .ok (.istore 6, 2) := by decide +kernel
theorem dX1_setsOf_13 : decode cX1_setsOf 13 = .ok (.iconst 0, 1) := by decide +kernel
theorem dX1_setsOf_14 : decode cX1_setsOf 14 = .ok (.istore 7, 2) := by decide +kernel
theorem dX1_setsOf_16 : decode cX1_setsOf 16 = .ok (.iload 7, 2) := by decide +kernel
theorem dX1_setsOf_18 : decode cX1_setsOf 18 = .ok (.aload_n 1, 1) := by decide +kernel
theorem dX1_setsOf_19 : decode cX1_setsOf 19 = .ok (.invokevirtual 36, 3) := by decide +kernel
theorem dX1_setsOf_22 : decode cX1_setsOf 22 = .ok (.if_icmp .gt 43, 3) := by decide +kernel
theorem dX1_setsOf_25 : decode cX1_setsOf 25 = .ok (.aload_n 1, 1) := by decide +kernel
theorem dX1_setsOf_26 : decode cX1_setsOf 26 = .ok (.iload 7, 2) := by decide +kernel
theorem dX1_setsOf_28 : decode cX1_setsOf 28 = .ok (.invokestatic 69, 3) := by decide +kernel
theorem dX1_setsOf_31 : decode cX1_setsOf 31 = .ok (.iload_n 2, 1) := by decide +kernel
theorem dX1_setsOf_32 : decode cX1_setsOf 32 = .ok (.if_icmp .ne 27, 3) := by decide +kernel
theorem dX1_setsOf_35 : decode cX1_setsOf 35 = .ok (.iload 4, 2) := by decide +kernel
theorem dX1_setsOf_37 : decode cX1_setsOf 37 = .ok (.ifCond .ne 8, 3) := by decide +kernel
theorem dX1_setsOf_40 : decode cX1_setsOf 40 = .ok (.iload 7, 2) := by decide +kernel
theorem dX1_setsOf_42 : decode cX1_setsOf 42 = .ok (.goto 5, 3) := by decide +kernel
theorem dX1_setsOf_45 : decode cX1_setsOf 45 = .ok (.iload 5, 2) := by decide +kernel
theorem dX1_setsOf_47 : decode cX1_setsOf 47 = .ok (.istore 5, 2) := by decide +kernel
theorem dX1_setsOf_49 : decode cX1_setsOf 49 = .ok (.iload 6, 2) := by decide +kernel
theorem dX1_setsOf_51 : decode cX1_setsOf 51 = .ok (.iload 7, 2) := by decide +kernel
theorem dX1_setsOf_53 : decode cX1_setsOf 53 = .ok (.iand, 1) := by decide +kernel
theorem dX1_setsOf_54 : decode cX1_setsOf 54 = .ok (.istore 6, 2) := by decide +kernel
theorem dX1_setsOf_56 : decode cX1_setsOf 56 = .ok (.iinc 4 1, 3) := by decide +kernel
theorem dX1_setsOf_59 : decode cX1_setsOf 59 = .ok (.iinc 7 1, 3) := by decide +kernel
theorem dX1_setsOf_62 : decode cX1_setsOf 62 = .ok (.goto (-46), 3) := by decide +kernel
theorem dX1_setsOf_65 : decode cX1_setsOf 65 = .ok (.iload_n 3, 1) := by decide +kernel
theorem dX1_setsOf_66 : decode cX1_setsOf 66 = .ok (.ifCond .ne 6, 3) := by decide +kernel
theorem dX1_setsOf_69 : decode cX1_setsOf 69 = .ok (.iload 4, 2) := by decide +kernel
theorem dX1_setsOf_71 : decode cX1_setsOf 71 = .ok (.ireturn, 1) := by decide +kernel
theorem dX1_setsOf_72 : decode cX1_setsOf 72 = .ok (.iload_n 3, 1) := by decide +kernel
theorem dX1_setsOf_73 : decode cX1_setsOf 73 = .ok (.iconst 1, 1) := by decide +kernel
theorem dX1_setsOf_74 : decode cX1_setsOf 74 = .ok (.if_icmp .ne 6, 3) := by decide +kernel
theorem dX1_setsOf_77 : decode cX1_setsOf 77 = .ok (.iload 5, 2) := by decide +kernel
theorem dX1_setsOf_79 : decode cX1_setsOf 79 = .ok (.ireturn, 1) := by decide +kernel
theorem dX1_setsOf_80 : decode cX1_setsOf 80 = .ok (.iload 4, 2) := by decide +kernel
theorem dX1_setsOf_82 : decode cX1_setsOf 82 = .ok (.ifCond .ne 7, 3) := by decide +kernel
theorem dX1_setsOf_85 : decode cX1_setsOf 85 = .ok (.iconst 0, 1) := by decide +kernel
theorem dX1_setsOf_86 : decode cX1_setsOf 86 = .ok (.goto 5, 3) := by decide +kernel
theorem dX1_setsOf_89 : decode cX1_setsOf 89 = .ok (.iload 6, 2) := by decide +kernel
theorem dX1_setsOf_91 : decode cX1_setsOf 91 = .ok (.ireturn, 1) := by decide +kernel
theorem dX1_sizeOf_0 : decode cX1_sizeOf 0 = .ok (.iconst 2, 1) := by decide +kernel
theorem dX1_sizeOf_1 : decode cX1_sizeOf 1 = .ok (.iload_n 0, 1) := by decide +kernel
theorem dX1_sizeOf_2 : decode cX1_sizeOf 2 = .ok (.imul, 1) := by decide +kernel
theorem dX1_sizeOf_3 : decode cX1_sizeOf 3 = .ok (.iconst 1, 1) := by decide +kernel
theorem dX1_sizeOf_4 : decode cX1_sizeOf 4 = .ok (.iadd, 1) := by decide +kernel
theorem dX1_sizeOf_5 : decode cX1_sizeOf 5 = .ok (.ireturn, 1) := by decide +kernel
theorem dX1_smallestGuard_0 : decode cX1_smallestGuard 0 = .ok (.iconst 0, 1) := by decide +kernel
theorem dX1_smallestGuard_1 : decode cX1_smallestGuard 1 = .ok (.istore 4, 2) := by decide +kernel
theorem dX1_smallestGuard_3 : decode cX1_smallestGuard 3 = .ok (.iconst 0, 1) := by decide +kernel
theorem dX1_smallestGuard_4 : decode cX1_smallestGuard 4 = .ok (.istore 5, 2) := by decide +kernel
theorem dX1_smallestGuard_6 : decode cX1_smallestGuard 6 = .ok (.iload 5, 2) := by decide +kernel
theorem dX1_smallestGuard_8 : decode cX1_smallestGuard 8 = .ok (.bipush 10, 2) := by decide +kernel
theorem dX1_smallestGuard_10 : decode cX1_smallestGuard 10 = .ok (.if_icmp .ge 38, 3) := by decide +kernel
theorem dX1_smallestGuard_13 : decode cX1_smallestGuard 13 = .ok (.aload_n 0, 1) := by decide +kernel
theorem dX1_smallestGuard_14 : decode cX1_smallestGuard 14 = .ok (.aload_n 1, 1) := by decide +kernel
theorem dX1_smallestGuard_15 : decode cX1_smallestGuard 15 = .ok (.aload_n 2, 1) := by decide +kernel
theorem dX1_smallestGuard_16 : decode cX1_smallestGuard 16 = .ok (.iload_n 3, 1) := by decide +kernel
theorem dX1_smallestGuard_17 : decode cX1_smallestGuard 17 = .ok (.iload 4, 2) := by decide +kernel
theorem dX1_smallestGuard_19 : decode cX1_smallestGuard 19 = .ok (.invokevirtual 25, 3) := by decide +kernel
theorem dX1_smallestGuard_22 : decode cX1_smallestGuard 22 = .ok (.istore 6, 2) := by decide +kernel
theorem dX1_smallestGuard_24 : decode cX1_smallestGuard 24 = .ok (.iload 6, 2) := by decide +kernel
theorem dX1_smallestGuard_26 : decode cX1_smallestGuard 26 = .ok (.iconst (-1), 1) := by decide +kernel
theorem dX1_smallestGuard_27 : decode cX1_smallestGuard 27 = .ok (.if_icmp .ne 6, 3) := by decide +kernel
theorem dX1_smallestGuard_30 : decode cX1_smallestGuard 30 = .ok (.iload 4, 2) := by decide +kernel
theorem dX1_smallestGuard_32 : decode cX1_smallestGuard 32 = .ok (.ireturn, 1) := by decide +kernel
theorem dX1_smallestGuard_33 : decode cX1_smallestGuard 33 = .ok (.iload 4, 2) := by decide +kernel
theorem dX1_smallestGuard_35 : decode cX1_smallestGuard 35 = .ok (.iconst 1, 1) := by decide +kernel
theorem dX1_smallestGuard_36 : decode cX1_smallestGuard 36 = .ok (.iload 6, 2) := by decide +kernel
theorem dX1_smallestGuard_38 : decode cX1_smallestGuard 38 = .ok (.ishl, 1) := by decide +kernel
theorem dX1_smallestGuard_39 : decode cX1_smallestGuard 39 = .ok (.ior, 1) := by decide +kernel
theorem dX1_smallestGuard_40 : decode cX1_smallestGuard 40 = .ok (.istore 4, 2) := by decide +kernel
theorem dX1_smallestGuard_42 : decode cX1_smallestGuard 42 = .ok (.iinc 5 1, 3) := by decide +kernel
theorem dX1_smallestGuard_45 : decode cX1_smallestGuard 45 = .ok (.goto (-39), 3) := by decide +kernel
theorem dX1_smallestGuard_48 : decode cX1_smallestGuard 48 = .ok (.iload 4, 2) := by decide +kernel
theorem dX1_smallestGuard_50 : decode cX1_smallestGuard 50 = .ok (.ireturn, 1) := by decide +kernel
theorem dX1_whomToSoothe_0 : decode cX1_whomToSoothe 0 = .ok (.aload_n 0, 1) := by decide +kernel
theorem dX1_whomToSoothe_1 : decode cX1_whomToSoothe 1 = .ok (.getfield 12, 3) := by decide +kernel
theorem dX1_whomToSoothe_4 : decode cX1_whomToSoothe 4 = .ok (.aload_n 1, 1) := by decide +kernel
theorem dX1_whomToSoothe_5 : decode cX1_whomToSoothe 5 = .ok (.invokevirtual 29, 3) := by decide +kernel
theorem dX1_whomToSoothe_8 : decode cX1_whomToSoothe 8 = .ok (.aload_n 0, 1) := by decide +kernel
theorem dX1_whomToSoothe_9 : decode cX1_whomToSoothe 9 = .ok (.getfield 12, 3) := by decide +kernel
theorem dX1_whomToSoothe_12 : decode cX1_whomToSoothe 12 = .ok (.iload_n 3, 1) := by decide +kernel
theorem dX1_whomToSoothe_13 : decode cX1_whomToSoothe 13 = .ok (.aload_n 2, 1) := by decide +kernel
theorem dX1_whomToSoothe_14 : decode cX1_whomToSoothe 14 = .ok (.invokevirtual 52, 3) := by decide +kernel
theorem dX1_whomToSoothe_17 : decode cX1_whomToSoothe 17 = .ok (.istore 5, 2) := by decide +kernel
theorem dX1_whomToSoothe_19 : decode cX1_whomToSoothe 19 = .ok (.iconst (-1), 1) := by decide +kernel
theorem dX1_whomToSoothe_20 : decode cX1_whomToSoothe 20 = .ok (.istore 6, 2) := by decide +kernel
theorem dX1_whomToSoothe_22 : decode cX1_whomToSoothe 22 = .ok (.iconst 0, 1) := by decide +kernel
theorem dX1_whomToSoothe_23 : decode cX1_whomToSoothe 23 = .ok (.istore 7, 2) := by decide +kernel
theorem dX1_whomToSoothe_25 : decode cX1_whomToSoothe 25 = .ok (.iload 7, 2) := by decide +kernel
theorem dX1_whomToSoothe_27 : decode cX1_whomToSoothe 27 = .ok (.aload_n 1, 1) := by decide +kernel
theorem dX1_whomToSoothe_28 : decode cX1_whomToSoothe 28 = .ok (.getfield 66, 3) := by decide +kernel
theorem dX1_whomToSoothe_31 : decode cX1_whomToSoothe 31 = .ok (.if_icmp .ge 61, 3) := by decide +kernel
theorem dX1_whomToSoothe_34 : decode cX1_whomToSoothe 34 = .ok (.iload 7, 2) := by decide +kernel
theorem dX1_whomToSoothe_36 : decode cX1_whomToSoothe 36 = .ok (.bipush 6, 2) := by decide +kernel
theorem dX1_whomToSoothe_38 : decode cX1_whomToSoothe 38 = .ok (.if_icmp .ge 54, 3) := by decide +kernel
theorem dX1_whomToSoothe_41 : decode cX1_whomToSoothe 41 = .ok (.aload_n 0, 1) := by decide +kernel
theorem dX1_whomToSoothe_42 : decode cX1_whomToSoothe 42 = .ok (.getfield 12, 3) := by decide +kernel
theorem dX1_whomToSoothe_45 : decode cX1_whomToSoothe 45 = .ok (.aload_n 1, 1) := by decide +kernel
theorem dX1_whomToSoothe_46 : decode cX1_whomToSoothe 46 = .ok (.invokevirtual 29, 3) := by decide +kernel
theorem dX1_whomToSoothe_49 : decode cX1_whomToSoothe 49 = .ok (.aload_n 0, 1) := by decide +kernel
theorem dX1_whomToSoothe_50 : decode cX1_whomToSoothe 50 = .ok (.getfield 12, 3) := by decide +kernel
theorem dX1_whomToSoothe_53 : decode cX1_whomToSoothe 53 = .ok (.getfield 63, 3) := by decide +kernel
theorem dX1_whomToSoothe_56 : decode cX1_whomToSoothe 56 = .ok (.iload 7, 2) := by decide +kernel
theorem dX1_whomToSoothe_58 : decode cX1_whomToSoothe 58 = .ok (.iconst 0, 1) := by decide +kernel
theorem dX1_whomToSoothe_59 : decode cX1_whomToSoothe 59 = .ok (.iastore, 1) := by decide +kernel
theorem dX1_whomToSoothe_60 : decode cX1_whomToSoothe 60 = .ok (.aload_n 0, 1) := by decide +kernel
theorem dX1_whomToSoothe_61 : decode cX1_whomToSoothe 61 = .ok (.getfield 12, 3) := by decide +kernel
theorem dX1_whomToSoothe_64 : decode cX1_whomToSoothe 64 = .ok (.iload_n 3, 1) := by decide +kernel
theorem dX1_whomToSoothe_65 : decode cX1_whomToSoothe 65 = .ok (.aload_n 2, 1) := by decide +kernel
theorem dX1_whomToSoothe_66 : decode cX1_whomToSoothe 66 = .ok (.invokevirtual 52, 3) := by decide +kernel
theorem dX1_whomToSoothe_69 : decode cX1_whomToSoothe 69 = .ok (.istore 8, 2) := by decide +kernel
theorem dX1_whomToSoothe_71 : decode cX1_whomToSoothe 71 = .ok (.iload 8, 2) := by decide +kernel
theorem dX1_whomToSoothe_73 : decode cX1_whomToSoothe 73 = .ok (.iload 5, 2) := by decide +kernel
theorem dX1_whomToSoothe_75 : decode cX1_whomToSoothe 75 = .ok (.if_icmp .ge 11, 3) := by decide +kernel
theorem dX1_whomToSoothe_78 : decode cX1_whomToSoothe 78 = .ok (.iload 8, 2) := by decide +kernel
theorem dX1_whomToSoothe_80 : decode cX1_whomToSoothe 80 = .ok (.istore 5, 2) := by decide +kernel
theorem dX1_whomToSoothe_82 : decode cX1_whomToSoothe 82 = .ok (.iload 7, 2) := by decide +kernel
theorem dX1_whomToSoothe_84 : decode cX1_whomToSoothe 84 = .ok (.istore 6, 2) := by decide +kernel
theorem dX1_whomToSoothe_86 : decode cX1_whomToSoothe 86 = .ok (.iinc 7 1, 3) := by decide +kernel
theorem dX1_whomToSoothe_89 : decode cX1_whomToSoothe 89 = .ok (.goto (-64), 3) := by decide +kernel
theorem dX1_whomToSoothe_92 : decode cX1_whomToSoothe 92 = .ok (.iload 4, 2) := by decide +kernel
theorem dX1_whomToSoothe_94 : decode cX1_whomToSoothe 94 = .ok (.ifCond .ne 8, 3) := by decide +kernel
theorem dX1_whomToSoothe_97 : decode cX1_whomToSoothe 97 = .ok (.iload 6, 2) := by decide +kernel
theorem dX1_whomToSoothe_99 : decode cX1_whomToSoothe 99 = .ok (.goto 5, 3) := by decide +kernel
theorem dX1_whomToSoothe_102 : decode cX1_whomToSoothe 102 = .ok (.iload 5, 2) := by decide +kernel
theorem dX1_whomToSoothe_104 : decode cX1_whomToSoothe 104 = .ok (.ireturn, 1) := by decide +kernel
theorem dX4_aheadOf_0 : decode cX4_aheadOf 0 = .ok (.aload_n 0, 1) := by decide +kernel
theorem dX4_aheadOf_1 : decode cX4_aheadOf 1 = .ok (.getfield 12, 3) := by decide +kernel
theorem dX4_aheadOf_4 : decode cX4_aheadOf 4 = .ok (.aload_n 1, 1) := by decide +kernel
theorem dX4_aheadOf_5 : decode cX4_aheadOf 5 = .ok (.invokevirtual 26, 3) := by decide +kernel
theorem dX4_aheadOf_8 : decode cX4_aheadOf 8 = .ok (.aload_n 0, 1) := by decide +kernel
theorem dX4_aheadOf_9 : decode cX4_aheadOf 9 = .ok (.getfield 12, 3) := by decide +kernel
theorem dX4_aheadOf_12 : decode cX4_aheadOf 12 = .ok (.iload 4, 2) := by decide +kernel
theorem dX4_aheadOf_14 : decode cX4_aheadOf 14 = .ok (.aload_n 2, 1) := by decide +kernel
theorem dX4_aheadOf_15 : decode cX4_aheadOf 15 = .ok (.invokevirtual 30, 3) := by decide +kernel
theorem dX4_aheadOf_18 : decode cX4_aheadOf 18 = .ok (.pop, 1) := by decide +kernel
theorem dX4_aheadOf_19 : decode cX4_aheadOf 19 = .ok (.iload 5, 2) := by decide +kernel
theorem dX4_aheadOf_21 : decode cX4_aheadOf 21 = .ok (.iconst 2, 1) := by decide +kernel
theorem dX4_aheadOf_22 : decode cX4_aheadOf 22 = .ok (.if_icmp .ne 11, 3) := by decide +kernel
theorem dX4_aheadOf_25 : decode cX4_aheadOf 25 = .ok (.aload_n 0, 1) := by decide +kernel
theorem dX4_aheadOf_26 : decode cX4_aheadOf 26 = .ok (.getfield 12, 3) := by decide +kernel
theorem dX4_aheadOf_29 : decode cX4_aheadOf 29 = .ok (.getfield 34, 3) := by decide +kernel
theorem dX4_aheadOf_32 : decode cX4_aheadOf 32 = .ok (.ireturn, 1) := by decide +kernel
theorem dX4_aheadOf_33 : decode cX4_aheadOf 33 = .ok (.aload_n 0, 1) := by decide +kernel
theorem dX4_aheadOf_34 : decode cX4_aheadOf 34 = .ok (.getfield 12, 3) := by decide +kernel
theorem dX4_aheadOf_37 : decode cX4_aheadOf 37 = .ok (.iload_n 3, 1) := by decide +kernel
theorem dX4_aheadOf_38 : decode cX4_aheadOf 38 = .ok (.invokevirtual 38, 3) := by decide +kernel
theorem dX4_aheadOf_41 : decode cX4_aheadOf 41 = .ok (.ifCond .ne 5, 3) := by decide +kernel
theorem dX4_aheadOf_44 : decode cX4_aheadOf 44 = .ok (.iconst (-1), 1) := by decide +kernel
theorem dX4_aheadOf_45 : decode cX4_aheadOf 45 = .ok (.ireturn, 1) := by decide +kernel
theorem dX4_aheadOf_46 : decode cX4_aheadOf 46 = .ok (.iload 5, 2) := by decide +kernel
theorem dX4_aheadOf_48 : decode cX4_aheadOf 48 = .ok (.ifCond .ne 15, 3) := by decide +kernel
theorem dX4_aheadOf_51 : decode cX4_aheadOf 51 = .ok (.aload_n 0, 1) := by decide +kernel
theorem dX4_aheadOf_52 : decode cX4_aheadOf 52 = .ok (.getfield 12, 3) := by decide +kernel
theorem dX4_aheadOf_55 : decode cX4_aheadOf 55 = .ok (.getfield 42, 3) := by decide +kernel
theorem dX4_aheadOf_58 : decode cX4_aheadOf 58 = .ok (.iload_n 3, 1) := by decide +kernel
theorem dX4_aheadOf_59 : decode cX4_aheadOf 59 = .ok (.iaload, 1) := by decide +kernel
theorem dX4_aheadOf_60 : decode cX4_aheadOf 60 = .ok (.goto 12, 3) := by decide +kernel
theorem dX4_aheadOf_63 : decode cX4_aheadOf 63 = .ok (.aload_n 0, 1) := by decide +kernel
theorem dX4_aheadOf_64 : decode cX4_aheadOf 64 = .ok (.getfield 12, 3) := by decide +kernel
theorem dX4_aheadOf_67 : decode cX4_aheadOf 67 = .ok (.getfield 46, 3) := by decide +kernel
theorem dX4_aheadOf_70 : decode cX4_aheadOf 70 = .ok (.iload_n 3, 1) := by decide +kernel
theorem dX4_aheadOf_71 : decode cX4_aheadOf 71 = .ok (.iaload, 1) := by decide +kernel
theorem dX4_aheadOf_72 : decode cX4_aheadOf 72 = .ok (.ireturn, 1) := by decide +kernel
theorem dX4_commonDivisor_0 : decode cX4_commonDivisor 0 = .ok (.iload_n 0, 1) := by decide +kernel
theorem dX4_commonDivisor_1 : decode cX4_commonDivisor 1 = .ok (.istore_n 2, 1) := by decide +kernel
theorem dX4_commonDivisor_2 : decode cX4_commonDivisor 2 = .ok (.iload_n 1, 1) := by decide +kernel
theorem dX4_commonDivisor_3 : decode cX4_commonDivisor 3 = .ok (.istore_n 3, 1) := by decide +kernel
theorem dX4_commonDivisor_4 : decode cX4_commonDivisor 4 = .ok (.iconst 0, 1) := by decide +kernel
theorem dX4_commonDivisor_5 : decode cX4_commonDivisor 5 = .ok (.istore 4, 2) := by decide +kernel
theorem dX4_commonDivisor_7 : decode cX4_commonDivisor 7 = .ok (.iload 4, 2) := by decide +kernel
theorem dX4_commonDivisor_9 : decode cX4_commonDivisor 9 = .ok (.bipush 64, 2) := by decide +kernel
theorem dX4_commonDivisor_11 : decode cX4_commonDivisor 11 = .ok (.if_icmp .ge 23, 3) := by decide +kernel
theorem dX4_commonDivisor_14 : decode cX4_commonDivisor 14 = .ok (.iload_n 3, 1) := by decide +kernel
theorem dX4_commonDivisor_15 : decode cX4_commonDivisor 15 = .ok (.ifCond .le 19, 3) := by decide +kernel
theorem dX4_commonDivisor_18 : decode cX4_commonDivisor 18 = .ok (.iload_n 2, 1) := by decide +kernel
theorem dX4_commonDivisor_19 : decode cX4_commonDivisor 19 = .ok (.iload_n 3, 1) := by decide +kernel
theorem dX4_commonDivisor_20 : decode cX4_commonDivisor 20 = .ok (.irem, 1) := by decide +kernel
theorem dX4_commonDivisor_21 : decode cX4_commonDivisor 21 = .ok (.istore 5, 2) := by decide +kernel
theorem dX4_commonDivisor_23 : decode cX4_commonDivisor 23 = .ok (.iload_n 3, 1) := by decide +kernel
theorem dX4_commonDivisor_24 : decode cX4_commonDivisor 24 = .ok (.istore_n 2, 1) := by decide +kernel
theorem dX4_commonDivisor_25 : decode cX4_commonDivisor 25 = .ok (.iload 5, 2) := by decide +kernel
theorem dX4_commonDivisor_27 : decode cX4_commonDivisor 27 = .ok (.istore_n 3, 1) := by decide +kernel
theorem dX4_commonDivisor_28 : decode cX4_commonDivisor 28 = .ok (.iinc 4 1, 3) := by decide +kernel
theorem dX4_commonDivisor_31 : decode cX4_commonDivisor 31 = .ok (.goto (-24), 3) := by decide +kernel
theorem dX4_commonDivisor_34 : decode cX4_commonDivisor 34 = .ok (.iload_n 2, 1) := by decide +kernel
theorem dX4_commonDivisor_35 : decode cX4_commonDivisor 35 = .ok (.ireturn, 1) := by decide +kernel
theorem dX4_draw_0 : decode cX4_draw 0 = .ok (.aload_n 0, 1) := by decide +kernel
theorem dX4_draw_1 : decode cX4_draw 1 = .ok (.aload_n 0, 1) := by decide +kernel
theorem dX4_draw_2 : decode cX4_draw 2 = .ok (.getfield 22, 3) := by decide +kernel
theorem dX4_draw_5 : decode cX4_draw 5 = .ok (.ldc2_w 98, 3) := by decide +kernel
theorem dX4_draw_8 : decode cX4_draw 8 = .ok (.lmul, 1) := by decide +kernel
theorem dX4_draw_9 : decode cX4_draw 9 = .ok (.ldc2_w 100, 3) := by decide +kernel
theorem dX4_draw_12 : decode cX4_draw 12 = .ok (.ladd, 1) := by decide +kernel
theorem dX4_draw_13 : decode cX4_draw 13 = .ok (.ldc2_w 102, 3) := by decide +kernel
theorem dX4_draw_16 : decode cX4_draw 16 = .ok (.lrem, 1) := by decide +kernel
theorem dX4_draw_17 : decode cX4_draw 17 = .ok (.putfield 22, 3) := by decide +kernel
theorem dX4_draw_20 : decode cX4_draw 20 = .ok (.aload_n 0, 1) := by decide +kernel
theorem dX4_draw_21 : decode cX4_draw 21 = .ok (.getfield 22, 3) := by decide +kernel
theorem dX4_draw_24 : decode cX4_draw 24 = .ok (.ldc2_w 104, 3) := by decide +kernel
theorem dX4_draw_27 : decode cX4_draw 27 = .ok (.ldiv, 1) := by decide +kernel
theorem dX4_draw_28 : decode cX4_draw 28 = .ok (.lreturn, 1) := by decide +kernel
theorem dX4_drawSky_0 : decode cX4_drawSky 0 = .ok (.aload_n 0, 1) := by decide +kernel
theorem dX4_drawSky_1 : decode cX4_drawSky 1 = .ok (.invokevirtual 82, 3) := by decide +kernel
theorem dX4_drawSky_4 : decode cX4_drawSky 4 = .ok (.ldc2_w 85, 3) := by decide +kernel
theorem dX4_drawSky_7 : decode cX4_drawSky 7 = .ok (.lrem, 1) := by decide +kernel
theorem dX4_drawSky_8 : decode cX4_drawSky 8 = .ok (.iload_n 1, 1) := by decide +kernel
theorem dX4_drawSky_9 : decode cX4_drawSky 9 = .ok (.i2l, 1) := by decide +kernel
theorem dX4_drawSky_10 : decode cX4_drawSky 10 = .ok (.lcmp, 1) := by decide +kernel
theorem dX4_drawSky_11 : decode cX4_drawSky 11 = .ok (.ifCond .lt 4, 3) := by decide +kernel
theorem dX4_drawSky_14 : decode cX4_drawSky 14 = .ok (.return_, 1) := by decide +kernel
theorem dX4_drawSky_15 : decode cX4_drawSky 15 = .ok (.aload_n 0, 1) := by decide +kernel
theorem dX4_drawSky_16 : decode cX4_drawSky 16 = .ok (.invokevirtual 82, 3) := by decide +kernel
theorem dX4_drawSky_19 : decode cX4_drawSky 19 = .ok (.ldc2_w 87, 3) := by decide +kernel
theorem dX4_drawSky_22 : decode cX4_drawSky 22 = .ok (.lrem, 1) := by decide +kernel
theorem dX4_drawSky_23 : decode cX4_drawSky 23 = .ok (.l2i, 1) := by decide +kernel
theorem dX4_drawSky_24 : decode cX4_drawSky 24 = .ok (.istore_n 2, 1) := by decide +kernel
theorem dX4_drawSky_25 : decode cX4_drawSky 25 = .ok (.aload_n 0, 1) := by decide +kernel
theorem dX4_drawSky_26 : decode cX4_drawSky 26 = .ok (.getfield 12, 3) := by decide +kernel
theorem dX4_drawSky_29 : decode cX4_drawSky 29 = .ok (.aload_n 0, 1) := by decide +kernel
theorem dX4_drawSky_30 : decode cX4_drawSky 30 = .ok (.getfield 12, 3) := by decide +kernel
theorem dX4_drawSky_33 : decode cX4_drawSky 33 = .ok (.getfield 53, 3) := by decide +kernel
theorem dX4_drawSky_36 : decode cX4_drawSky 36 = .ok (.invokevirtual 89, 3) := by decide +kernel
theorem dX4_drawSky_39 : decode cX4_drawSky 39 = .ok (.istore_n 3, 1) := by decide +kernel
theorem dX4_drawSky_40 : decode cX4_drawSky 40 = .ok (.aload_n 0, 1) := by decide +kernel
theorem dX4_drawSky_41 : decode cX4_drawSky 41 = .ok (.getfield 12, 3) := by decide +kernel
theorem dX4_drawSky_44 : decode cX4_drawSky 44 = .ok (.iload_n 3, 1) := by decide +kernel
theorem dX4_drawSky_45 : decode cX4_drawSky 45 = .ok (.invokevirtual 92, 3) := by decide +kernel
theorem dX4_drawSky_48 : decode cX4_drawSky 48 = .ok (.ifCond .eq 13, 3) := by decide +kernel
theorem dX4_drawSky_51 : decode cX4_drawSky 51 = .ok (.aload_n 0, 1) := by decide +kernel
theorem dX4_drawSky_52 : decode cX4_drawSky 52 = .ok (.getfield 12, 3) := by decide +kernel
theorem dX4_drawSky_55 : decode cX4_drawSky 55 = .ok (.getfield 95, 3) := by decide +kernel
theorem dX4_drawSky_58 : decode cX4_drawSky 58 = .ok (.iload_n 3, 1) := by decide +kernel
theorem dX4_drawSky_59 : decode cX4_drawSky 59 = .ok (.iload_n 2, 1) := by decide +kernel
theorem dX4_drawSky_60 : decode cX4_drawSky 60 = .ok (.iastore, 1) := by decide +kernel
theorem dX4_drawSky_61 : decode cX4_drawSky 61 = .ok (.return_, 1) := by decide +kernel
theorem dX4_drawnSummers_0 : decode cX4_drawnSummers 0 = .ok (.iconst 0, 1) := by decide +kernel
theorem dX4_drawnSummers_1 : decode cX4_drawnSummers 1 = .ok (.istore 7, 2) := by decide +kernel
theorem dX4_drawnSummers_3 : decode cX4_drawnSummers 3 = .ok (.iconst 0, 1) := by decide +kernel
theorem dX4_drawnSummers_4 : decode cX4_drawnSummers 4 = .ok (.istore 8, 2) := by decide +kernel
theorem dX4_drawnSummers_6 : decode cX4_drawnSummers 6 = .ok (.iconst 0, 1) := by decide +kernel
theorem dX4_drawnSummers_7 : decode cX4_drawnSummers 7 = .ok (.istore 9, 2) := by decide +kernel
theorem dX4_drawnSummers_9 : decode cX4_drawnSummers 9 = .ok (.iload 9, 2) := by decide +kernel
theorem dX4_drawnSummers_11 : decode cX4_drawnSummers 11 = .ok (.iload_n 3, 1) := by decide +kernel
theorem dX4_drawnSummers_12 : decode cX4_drawnSummers 12 = .ok (.if_icmp .ge 65, 3) := by decide +kernel
theorem dX4_drawnSummers_15 : decode cX4_drawnSummers 15 = .ok (.aload_n 0, 1) := by decide +kernel
theorem dX4_drawnSummers_16 : decode cX4_drawnSummers 16 = .ok (.getfield 12, 3) := by decide +kernel
theorem dX4_drawnSummers_19 : decode cX4_drawnSummers 19 = .ok (.aload_n 1, 1) := by decide +kernel
theorem dX4_drawnSummers_20 : decode cX4_drawnSummers 20 = .ok (.invokevirtual 26, 3) := by decide +kernel
theorem dX4_drawnSummers_23 : decode cX4_drawnSummers 23 = .ok (.iconst 0, 1) := by decide +kernel
theorem dX4_drawnSummers_24 : decode cX4_drawnSummers 24 = .ok (.istore 10, 2) := by decide +kernel
theorem dX4_drawnSummers_26 : decode cX4_drawnSummers 26 = .ok (.iload 10, 2) := by decide +kernel
theorem dX4_drawnSummers_28 : decode cX4_drawnSummers 28 = .ok (.iload 4, 2) := by decide +kernel
theorem dX4_drawnSummers_30 : decode cX4_drawnSummers 30 = .ok (.if_icmp .ge 29, 3) := by decide +kernel
theorem dX4_drawnSummers_33 : decode cX4_drawnSummers 33 = .ok (.aload_n 0, 1) := by decide +kernel
theorem dX4_drawnSummers_34 : decode cX4_drawnSummers 34 = .ok (.iload 5, 2) := by decide +kernel
theorem dX4_drawnSummers_36 : decode cX4_drawnSummers 36 = .ok (.invokevirtual 78, 3) := by decide +kernel
theorem dX4_drawnSummers_39 : decode cX4_drawnSummers 39 = .ok (.iload 7, 2) := by decide +kernel
theorem dX4_drawnSummers_41 : decode cX4_drawnSummers 41 = .ok (.aload_n 0, 1) := by decide +kernel
theorem dX4_drawnSummers_42 : decode cX4_drawnSummers 42 = .ok (.getfield 12, 3) := by decide +kernel
theorem dX4_drawnSummers_45 : decode cX4_drawnSummers 45 = .ok (.iconst 1, 1) := by decide +kernel
theorem dX4_drawnSummers_46 : decode cX4_drawnSummers 46 = .ok (.aload_n 2, 1) := by decide +kernel
theorem dX4_drawnSummers_47 : decode cX4_drawnSummers 47 = .ok (.invokevirtual 30, 3) := by decide +kernel
theorem dX4_drawnSummers_50 : decode cX4_drawnSummers 50 = .ok (.iadd, 1) := by decide +kernel
theorem dX4_drawnSummers_51 : decode cX4_drawnSummers 51 = .ok (.istore 7, 2) := by decide +kernel
theorem dX4_drawnSummers_53 : decode cX4_drawnSummers 53 = .ok (.iinc 10 1, 3) := by decide +kernel
theorem dX4_drawnSummers_56 : decode cX4_drawnSummers 56 = .ok (.goto (-30), 3) := by decide +kernel
theorem dX4_drawnSummers_59 : decode cX4_drawnSummers 59 = .ok (.iload 8, 2) := by decide +kernel
theorem dX4_drawnSummers_61 : decode cX4_drawnSummers 61 = .ok (.aload_n 0, 1) := by decide +kernel
theorem dX4_drawnSummers_62 : decode cX4_drawnSummers 62 = .ok (.getfield 12, 3) := by decide +kernel
theorem dX4_drawnSummers_65 : decode cX4_drawnSummers 65 = .ok (.getfield 34, 3) := by decide +kernel
theorem dX4_drawnSummers_68 : decode cX4_drawnSummers 68 = .ok (.iadd, 1) := by decide +kernel
theorem dX4_drawnSummers_69 : decode cX4_drawnSummers 69 = .ok (.istore 8, 2) := by decide +kernel
theorem dX4_drawnSummers_71 : decode cX4_drawnSummers 71 = .ok (.iinc 9 1, 3) := by decide +kernel
theorem dX4_drawnSummers_74 : decode cX4_drawnSummers 74 = .ok (.goto (-65), 3) := by decide +kernel
theorem dX4_drawnSummers_77 : decode cX4_drawnSummers 77 = .ok (.iload 6, 2) := by decide +kernel
theorem dX4_drawnSummers_79 : decode cX4_drawnSummers 79 = .ok (.ifCond .ne 8, 3) := by decide +kernel
theorem dX4_drawnSummers_82 : decode cX4_drawnSummers 82 = .ok (.iload 7, 2) := by decide +kernel
theorem dX4_drawnSummers_84 : decode cX4_drawnSummers 84 = .ok (.goto 5, 3) := by decide +kernel
theorem dX4_drawnSummers_87 : decode cX4_drawnSummers 87 = .ok (.iload 8, 2) := by decide +kernel
theorem dX4_drawnSummers_89 : decode cX4_drawnSummers 89 = .ok (.ireturn, 1) := by decide +kernel
theorem dX4_firstEmptyShelf_0 : decode cX4_firstEmptyShelf 0 = .ok (.aload_n 0, 1) := by decide +kernel
theorem dX4_firstEmptyShelf_1 : decode cX4_firstEmptyShelf 1 = .ok (.getfield 12, 3) := by decide +kernel
theorem dX4_firstEmptyShelf_4 : decode cX4_firstEmptyShelf 4 = .ok (.aload_n 1, 1) := by decide +kernel
theorem dX4_firstEmptyShelf_5 : decode cX4_firstEmptyShelf 5 = .ok (.invokevirtual 26, 3) := by decide +kernel
theorem dX4_firstEmptyShelf_8 : decode cX4_firstEmptyShelf 8 = .ok (.iconst 0, 1) := by decide +kernel
theorem dX4_firstEmptyShelf_9 : decode cX4_firstEmptyShelf 9 = .ok (.istore_n 3, 1) := by decide +kernel
theorem dX4_firstEmptyShelf_10 : decode cX4_firstEmptyShelf 10 = .ok (.iload_n 3, 1) := by decide +kernel
theorem dX4_firstEmptyShelf_11 : decode cX4_firstEmptyShelf 11 = .ok (.sipush 200, 3) := by decide +kernel
theorem dX4_firstEmptyShelf_14 : decode cX4_firstEmptyShelf 14 = .ok (.if_icmp .ge 36, 3) := by decide +kernel
theorem dX4_firstEmptyShelf_17 : decode cX4_firstEmptyShelf 17 = .ok (.aload_n 0, 1) := by decide +kernel
theorem dX4_firstEmptyShelf_18 : decode cX4_firstEmptyShelf 18 = .ok (.getfield 12, 3) := by decide +kernel
theorem dX4_firstEmptyShelf_21 : decode cX4_firstEmptyShelf 21 = .ok (.getfield 34, 3) := by decide +kernel
theorem dX4_firstEmptyShelf_24 : decode cX4_firstEmptyShelf 24 = .ok (.ifCond .ne 11, 3) := by decide +kernel
theorem dX4_firstEmptyShelf_27 : decode cX4_firstEmptyShelf 27 = .ok (.aload_n 0, 1) := by decide +kernel
theorem dX4_firstEmptyShelf_28 : decode cX4_firstEmptyShelf 28 = .ok (.getfield 12, 3) := by decide +kernel
theorem dX4_firstEmptyShelf_31 : decode cX4_firstEmptyShelf 31 = .ok (.getfield 53, 3) := by decide +kernel
theorem dX4_firstEmptyShelf_34 : decode cX4_firstEmptyShelf 34 = .ok (.ireturn, 1) := by decide +kernel
theorem dX4_firstEmptyShelf_35 : decode cX4_firstEmptyShelf 35 = .ok (.aload_n 0, 1) := by decide +kernel
theorem dX4_firstEmptyShelf_36 : decode cX4_firstEmptyShelf 36 = .ok (.getfield 12, 3) := by decide +kernel
theorem dX4_firstEmptyShelf_39 : decode cX4_firstEmptyShelf 39 = .ok (.aload_n 2, 1) := by decide +kernel
theorem dX4_firstEmptyShelf_40 : decode cX4_firstEmptyShelf 40 = .ok (.invokevirtual 49, 3) := by decide +kernel
theorem dX4_firstEmptyShelf_43 : decode cX4_firstEmptyShelf 43 = .ok (.pop, 1) := by decide +kernel
theorem dX4_firstEmptyShelf_44 : decode cX4_firstEmptyShelf 44 = .ok (.iinc 3 1, 3) := by decide +kernel
theorem dX4_firstEmptyShelf_47 : decode cX4_firstEmptyShelf 47 = .ok (.goto (-37), 3) := by decide +kernel
theorem dX4_firstEmptyShelf_50 : decode cX4_firstEmptyShelf 50 = .ok (.bipush (-2), 2) := by decide +kernel
theorem dX4_firstEmptyShelf_52 : decode cX4_firstEmptyShelf 52 = .ok (.ireturn, 1) := by decide +kernel
theorem dX4_firstPurchase_0 : decode cX4_firstPurchase 0 = .ok (.aload_n 0, 1) := by decide +kernel
theorem dX4_firstPurchase_1 : decode cX4_firstPurchase 1 = .ok (.getfield 12, 3) := by decide +kernel
theorem dX4_firstPurchase_4 : decode cX4_firstPurchase 4 = .ok (.aload_n 1, 1) := by decide +kernel
theorem dX4_firstPurchase_5 : decode cX4_firstPurchase 5 = .ok (.invokevirtual 26, 3) := by decide +kernel
theorem dX4_firstPurchase_8 : decode cX4_firstPurchase 8 = .ok (.iconst 0, 1) := by decide +kernel
theorem dX4_firstPurchase_9 : decode cX4_firstPurchase 9 = .ok (.istore 4, 2) := by decide +kernel
theorem dX4_firstPurchase_11 : decode cX4_firstPurchase 11 = .ok (.iload 4, 2) := by decide +kernel
theorem dX4_firstPurchase_13 : decode cX4_firstPurchase 13 = .ok (.sipush 200, 3) := by decide +kernel
theorem dX4_firstPurchase_16 : decode cX4_firstPurchase 16 = .ok (.if_icmp .ge 32, 3) := by decide +kernel
theorem dX4_firstPurchase_19 : decode cX4_firstPurchase 19 = .ok (.aload_n 0, 1) := by decide +kernel
theorem dX4_firstPurchase_20 : decode cX4_firstPurchase 20 = .ok (.getfield 12, 3) := by decide +kernel
theorem dX4_firstPurchase_23 : decode cX4_firstPurchase 23 = .ok (.aload_n 2, 1) := by decide +kernel
theorem dX4_firstPurchase_24 : decode cX4_firstPurchase 24 = .ok (.invokevirtual 49, 3) := by decide +kernel
theorem dX4_firstPurchase_27 : decode cX4_firstPurchase 27 = .ok (.iload_n 3, 1) := by decide +kernel
theorem dX4_firstPurchase_28 : decode cX4_firstPurchase 28 = .ok (.ishr, 1) := by decide +kernel
theorem dX4_firstPurchase_29 : decode cX4_firstPurchase 29 = .ok (.iconst 1, 1) := by decide +kernel
theorem dX4_firstPurchase_30 : decode cX4_firstPurchase 30 = .ok (.iand, 1) := by decide +kernel
theorem dX4_firstPurchase_31 : decode cX4_firstPurchase 31 = .ok (.ifCond .eq 11, 3) := by decide +kernel
theorem dX4_firstPurchase_34 : decode cX4_firstPurchase 34 = .ok (.aload_n 1, 1) := by decide +kernel
theorem dX4_firstPurchase_35 : decode cX4_firstPurchase 35 = .ok (.getfield 53, 3) := by decide +kernel
theorem dX4_firstPurchase_38 : decode cX4_firstPurchase 38 = .ok (.iload 4, 2) := by decide +kernel
theorem dX4_firstPurchase_40 : decode cX4_firstPurchase 40 = .ok (.iadd, 1) := by decide +kernel
theorem dX4_firstPurchase_41 : decode cX4_firstPurchase 41 = .ok (.ireturn, 1) := by decide +kernel
theorem dX4_firstPurchase_42 : decode cX4_firstPurchase 42 = .ok (.iinc 4 1, 3) := by decide +kernel
theorem dX4_firstPurchase_45 : decode cX4_firstPurchase 45 = .ok (.goto (-34), 3) := by decide +kernel
theorem dX4_firstPurchase_48 : decode cX4_firstPurchase 48 = .ok (.bipush (-2), 2) := by decide +kernel
theorem dX4_firstPurchase_50 : decode cX4_firstPurchase 50 = .ok (.ireturn, 1) := by decide +kernel
theorem dX4_firstRing_0 : decode cX4_firstRing 0 = .ok (.aload_n 0, 1) := by decide +kernel
theorem dX4_firstRing_1 : decode cX4_firstRing 1 = .ok (.getfield 12, 3) := by decide +kernel
theorem dX4_firstRing_4 : decode cX4_firstRing 4 = .ok (.aload_n 1, 1) := by decide +kernel
theorem dX4_firstRing_5 : decode cX4_firstRing 5 = .ok (.invokevirtual 26, 3) := by decide +kernel
theorem dX4_firstRing_8 : decode cX4_firstRing 8 = .ok (.iconst 0, 1) := by decide +kernel
theorem dX4_firstRing_9 : decode cX4_firstRing 9 = .ok (.istore 4, 2) := by decide +kernel
theorem dX4_firstRing_11 : decode cX4_firstRing 11 = .ok (.iload 4, 2) := by decide +kernel
theorem dX4_firstRing_13 : decode cX4_firstRing 13 = .ok (.aload_n 0, 1) := by decide +kernel
theorem dX4_firstRing_14 : decode cX4_firstRing 14 = .ok (.getfield 18, 3) := by decide +kernel
theorem dX4_firstRing_17 : decode cX4_firstRing 17 = .ok (.arraylength, 1) := by decide +kernel
theorem dX4_firstRing_18 : decode cX4_firstRing 18 = .ok (.if_icmp .ge 32, 3) := by decide +kernel
theorem dX4_firstRing_21 : decode cX4_firstRing 21 = .ok (.aload_n 0, 1) := by decide +kernel
theorem dX4_firstRing_22 : decode cX4_firstRing 22 = .ok (.getfield 18, 3) := by decide +kernel
theorem dX4_firstRing_25 : decode cX4_firstRing 25 = .ok (.iload 4, 2) := by decide +kernel
theorem dX4_firstRing_27 : decode cX4_firstRing 27 = .ok (.aload_n 0, 1) := by decide +kernel
theorem dX4_firstRing_28 : decode cX4_firstRing 28 = .ok (.getfield 12, 3) := by decide +kernel
theorem dX4_firstRing_31 : decode cX4_firstRing 31 = .ok (.invokevirtual 74, 3) := by decide +kernel
theorem dX4_firstRing_34 : decode cX4_firstRing 34 = .ok (.lastore, 1) := by decide +kernel
theorem dX4_firstRing_35 : decode cX4_firstRing 35 = .ok (.aload_n 0, 1) := by decide +kernel
theorem dX4_firstRing_36 : decode cX4_firstRing 36 = .ok (.getfield 12, 3) := by decide +kernel
theorem dX4_firstRing_39 : decode cX4_firstRing 39 = .ok (.aload_n 2, 1) := by decide +kernel
theorem dX4_firstRing_40 : decode cX4_firstRing 40 = .ok (.invokevirtual 49, 3) := by decide +kernel
theorem dX4_firstRing_43 : decode cX4_firstRing 43 = .ok (.pop, 1) := by decide +kernel
theorem dX4_firstRing_44 : decode cX4_firstRing 44 = .ok (.iinc 4 1, 3) := by decide +kernel
theorem dX4_firstRing_47 : decode cX4_firstRing 47 = .ok (.goto (-36), 3) := by decide +kernel
theorem dX4_firstRing_50 : decode cX4_firstRing 50 = .ok (.iconst 0, 1) := by decide +kernel
theorem dX4_firstRing_51 : decode cX4_firstRing 51 = .ok (.istore 4, 2) := by decide +kernel
theorem dX4_firstRing_53 : decode cX4_firstRing 53 = .ok (.iload 4, 2) := by decide +kernel
theorem dX4_firstRing_55 : decode cX4_firstRing 55 = .ok (.aload_n 0, 1) := by decide +kernel
theorem dX4_firstRing_56 : decode cX4_firstRing 56 = .ok (.getfield 18, 3) := by decide +kernel
theorem dX4_firstRing_59 : decode cX4_firstRing 59 = .ok (.arraylength, 1) := by decide +kernel
theorem dX4_firstRing_60 : decode cX4_firstRing 60 = .ok (.if_icmp .ge 69, 3) := by decide +kernel
theorem dX4_firstRing_63 : decode cX4_firstRing 63 = .ok (.iload 4, 2) := by decide +kernel
theorem dX4_firstRing_65 : decode cX4_firstRing 65 = .ok (.iconst 1, 1) := by decide +kernel
theorem dX4_firstRing_66 : decode cX4_firstRing 66 = .ok (.iadd, 1) := by decide +kernel
theorem dX4_firstRing_67 : decode cX4_firstRing 67 = .ok (.istore 5, 2) := by decide +kernel
theorem dX4_firstRing_69 : decode cX4_firstRing 69 = .ok (.iload 5, 2) := by decide +kernel
theorem dX4_firstRing_71 : decode cX4_firstRing 71 = .ok (.aload_n 0, 1) := by decide +kernel
theorem dX4_firstRing_72 : decode cX4_firstRing 72 = .ok (.getfield 18, 3) := by decide +kernel
theorem dX4_firstRing_75 : decode cX4_firstRing 75 = .ok (.arraylength, 1) := by decide +kernel
theorem dX4_firstRing_76 : decode cX4_firstRing 76 = .ok (.if_icmp .ge 47, 3) := by decide +kernel
theorem dX4_firstRing_79 : decode cX4_firstRing 79 = .ok (.aload_n 0, 1) := by decide +kernel
theorem dX4_firstRing_80 : decode cX4_firstRing 80 = .ok (.getfield 18, 3) := by decide +kernel
theorem dX4_firstRing_83 : decode cX4_firstRing 83 = .ok (.iload 4, 2) := by decide +kernel
theorem dX4_firstRing_85 : decode cX4_firstRing 85 = .ok (.laload, 1) := by decide +kernel
theorem dX4_firstRing_86 : decode cX4_firstRing 86 = .ok (.aload_n 0, 1) := by decide +kernel
theorem dX4_firstRing_87 : decode cX4_firstRing 87 = .ok (.getfield 18, 3) := by decide +kernel
theorem dX4_firstRing_90 : decode cX4_firstRing 90 = .ok (.iload 5, 2) := by decide +kernel
theorem dX4_firstRing_92 : decode cX4_firstRing 92 = .ok (.laload, 1) := by decide +kernel
theorem dX4_firstRing_93 : decode cX4_firstRing 93 = .ok (.lcmp, 1) := by decide +kernel
theorem dX4_firstRing_94 : decode cX4_firstRing 94 = .ok (.ifCond .ne 23, 3) := by decide +kernel
theorem dX4_firstRing_97 : decode cX4_firstRing 97 = .ok (.iload_n 3, 1) := by decide +kernel
theorem dX4_firstRing_98 : decode cX4_firstRing 98 = .ok (.ifCond .ne 13, 3) := by decide +kernel
theorem dX4_firstRing_101 : decode cX4_firstRing 101 = .ok (.aload_n 1, 1) := by decide +kernel
theorem dX4_firstRing_102 : decode cX4_firstRing 102 = .ok (.getfield 53, 3) := by decide +kernel
theorem dX4_firstRing_105 : decode cX4_firstRing 105 = .ok (.iload 4, 2) := by decide +kernel
theorem dX4_firstRing_107 : decode cX4_firstRing 107 = .ok (.iadd, 1) := by decide +kernel
theorem dX4_firstRing_108 : decode cX4_firstRing 108 = .ok (.goto 8, 3) := by decide +kernel
theorem dX4_firstRing_111 : decode cX4_firstRing 111 = .ok (.iload 5, 2) := by decide +kernel
theorem dX4_firstRing_113 : decode cX4_firstRing 113 = .ok (.iload 4, 2) := by decide +kernel
theorem dX4_firstRing_115 : decode cX4_firstRing 115 = .ok (.isub, 1) := by decide +kernel
theorem dX4_firstRing_116 : decode cX4_firstRing 116 = .ok (.ireturn, 1) := by decide +kernel
theorem dX4_firstRing_117 : decode cX4_firstRing 117 = .ok (.iinc 5 1, 3) := by decide +kernel
theorem dX4_firstRing_120 : decode cX4_firstRing 120 = .ok (.goto (-51), 3) := by decide +kernel
theorem dX4_firstRing_123 : decode cX4_firstRing 123 = .ok (.iinc 4 1, 3) := by decide +kernel
theorem dX4_firstRing_126 : decode cX4_firstRing 126 = .ok (.goto (-73), 3) := by decide +kernel
theorem dX4_firstRing_129 : decode cX4_firstRing 129 = .ok (.bipush (-2), 2) := by decide +kernel
theorem dX4_firstRing_131 : decode cX4_firstRing 131 = .ok (.ireturn, 1) := by decide +kernel
theorem dX4_highestDay_0 : decode cX4_highestDay 0 = .ok (.aload_n 0, 1) := by decide +kernel
theorem dX4_highestDay_1 : decode cX4_highestDay 1 = .ok (.getfield 12, 3) := by decide +kernel
theorem dX4_highestDay_4 : decode cX4_highestDay 4 = .ok (.aload_n 1, 1) := by decide +kernel
theorem dX4_highestDay_5 : decode cX4_highestDay 5 = .ok (.invokevirtual 26, 3) := by decide +kernel
theorem dX4_highestDay_8 : decode cX4_highestDay 8 = .ok (.aload_n 0, 1) := by decide +kernel
theorem dX4_highestDay_9 : decode cX4_highestDay 9 = .ok (.getfield 12, 3) := by decide +kernel
theorem dX4_highestDay_12 : decode cX4_highestDay 12 = .ok (.getfield 53, 3) := by decide +kernel
theorem dX4_highestDay_15 : decode cX4_highestDay 15 = .ok (.istore 5, 2) := by decide +kernel
theorem dX4_highestDay_17 : decode cX4_highestDay 17 = .ok (.iconst 0, 1) := by decide +kernel
theorem dX4_highestDay_18 : decode cX4_highestDay 18 = .ok (.istore 6, 2) := by decide +kernel
theorem dX4_highestDay_20 : decode cX4_highestDay 20 = .ok (.iconst 0, 1) := by decide +kernel
theorem dX4_highestDay_21 : decode cX4_highestDay 21 = .ok (.istore 7, 2) := by decide +kernel
theorem dX4_highestDay_23 : decode cX4_highestDay 23 = .ok (.iload 7, 2) := by decide +kernel
theorem dX4_highestDay_25 : decode cX4_highestDay 25 = .ok (.iload_n 3, 1) := by decide +kernel
theorem dX4_highestDay_26 : decode cX4_highestDay 26 = .ok (.if_icmp .ge 40, 3) := by decide +kernel
theorem dX4_highestDay_29 : decode cX4_highestDay 29 = .ok (.aload_n 0, 1) := by decide +kernel
theorem dX4_highestDay_30 : decode cX4_highestDay 30 = .ok (.getfield 12, 3) := by decide +kernel
theorem dX4_highestDay_33 : decode cX4_highestDay 33 = .ok (.iconst 1, 1) := by decide +kernel
theorem dX4_highestDay_34 : decode cX4_highestDay 34 = .ok (.aload_n 2, 1) := by decide +kernel
theorem dX4_highestDay_35 : decode cX4_highestDay 35 = .ok (.invokevirtual 30, 3) := by decide +kernel
theorem dX4_highestDay_38 : decode cX4_highestDay 38 = .ok (.istore 8, 2) := by decide +kernel
theorem dX4_highestDay_40 : decode cX4_highestDay 40 = .ok (.iload 8, 2) := by decide +kernel
theorem dX4_highestDay_42 : decode cX4_highestDay 42 = .ok (.iload 6, 2) := by decide +kernel
theorem dX4_highestDay_44 : decode cX4_highestDay 44 = .ok (.if_icmp .le 16, 3) := by decide +kernel
theorem dX4_highestDay_47 : decode cX4_highestDay 47 = .ok (.iload 8, 2) := by decide +kernel
theorem dX4_highestDay_49 : decode cX4_highestDay 49 = .ok (.istore 6, 2) := by decide +kernel
theorem dX4_highestDay_51 : decode cX4_highestDay 51 = .ok (.aload_n 1, 1) := by decide +kernel
theorem dX4_highestDay_52 : decode cX4_highestDay 52 = .ok (.getfield 53, 3) := by decide +kernel
theorem dX4_highestDay_55 : decode cX4_highestDay 55 = .ok (.iload 7, 2) := by decide +kernel
theorem dX4_highestDay_57 : decode cX4_highestDay 57 = .ok (.iadd, 1) := by decide +kernel
theorem dX4_highestDay_58 : decode cX4_highestDay 58 = .ok (.istore 5, 2) := by decide +kernel
theorem dX4_highestDay_60 : decode cX4_highestDay 60 = .ok (.iinc 7 1, 3) := by decide +kernel
theorem dX4_highestDay_63 : decode cX4_highestDay 63 = .ok (.goto (-40), 3) := by decide +kernel
theorem dX4_highestDay_66 : decode cX4_highestDay 66 = .ok (.iload 4, 2) := by decide +kernel
theorem dX4_highestDay_68 : decode cX4_highestDay 68 = .ok (.ifCond .ne 8, 3) := by decide +kernel
theorem dX4_highestDay_71 : decode cX4_highestDay 71 = .ok (.iload 5, 2) := by decide +kernel
theorem dX4_highestDay_73 : decode cX4_highestDay 73 = .ok (.goto 5, 3) := by decide +kernel
theorem dX4_highestDay_76 : decode cX4_highestDay 76 = .ok (.iload 6, 2) := by decide +kernel
theorem dX4_highestDay_78 : decode cX4_highestDay 78 = .ok (.ireturn, 1) := by decide +kernel
theorem dX4_weatherFraction_0 : decode cX4_weatherFraction 0 = .ok (.aload_n 0, 1) := by decide +kernel
theorem dX4_weatherFraction_1 : decode cX4_weatherFraction 1 = .ok (.getfield 12, 3) := by decide +kernel
theorem dX4_weatherFraction_4 : decode cX4_weatherFraction 4 = .ok (.aload_n 1, 1) := by decide +kernel
theorem dX4_weatherFraction_5 : decode cX4_weatherFraction 5 = .ok (.invokevirtual 26, 3) := by decide +kernel
theorem dX4_weatherFraction_8 : decode cX4_weatherFraction 8 = .ok (.iconst 0, 1) := by decide +kernel
theorem dX4_weatherFraction_9 : decode cX4_weatherFraction 9 = .ok (.istore 5, 2) := by decide +kernel
theorem dX4_weatherFraction_11 : decode cX4_weatherFraction 11 = .ok (.iconst 0, 1) := by decide +kernel
theorem dX4_weatherFraction_12 : decode cX4_weatherFraction 12 = .ok (.istore 6, 2) := by decide +kernel
theorem dX4_weatherFraction_14 : decode cX4_weatherFraction 14 = .ok (.iconst 0, 1) := by decide +kernel
theorem dX4_weatherFraction_15 : decode cX4_weatherFraction 15 = .ok (.istore 7, 2) := by decide +kernel
theorem dX4_weatherFraction_17 : decode cX4_weatherFraction 17 = .ok (.iload 7, 2) := by decide +kernel
theorem dX4_weatherFraction_19 : decode cX4_weatherFraction 19 = .ok (.iload_n 3, 1) := by decide +kernel
theorem dX4_weatherFraction_20 : decode cX4_weatherFraction 20 = .ok (.if_icmp .ge 70, 3) := by decide +kernel
theorem dX4_weatherFraction_23 : decode cX4_weatherFraction 23 = .ok (.aload_n 0, 1) := by decide +kernel
theorem dX4_weatherFraction_24 : decode cX4_weatherFraction 24 = .ok (.getfield 12, 3) := by decide +kernel
theorem dX4_weatherFraction_27 : decode cX4_weatherFraction 27 = .ok (.aload_n 0, 1) := by decide +kernel
theorem dX4_weatherFraction_28 : decode cX4_weatherFraction 28 = .ok (.getfield 12, 3) := by decide +kernel
theorem dX4_weatherFraction_31 : decode cX4_weatherFraction 31 = .ok (.getfield 53, 3) := by decide +kernel
theorem dX4_weatherFraction_34 : decode cX4_weatherFraction 34 = .ok (.invokevirtual 56, 3) := by decide +kernel
theorem dX4_weatherFraction_37 : decode cX4_weatherFraction 37 = .ok (.iconst 5, 1) := by decide +kernel
theorem dX4_weatherFraction_38 : decode cX4_weatherFraction 38 = .ok (.if_icmp .lt 7, 3) := by decide +kernel
theorem dX4_weatherFraction_41 : decode cX4_weatherFraction 41 = .ok (.iconst 1, 1) := by decide +kernel
theorem dX4_weatherFraction_42 : decode cX4_weatherFraction 42 = .ok (.goto 4, 3) := by decide +kernel
theorem dX4_weatherFraction_45 : decode cX4_weatherFraction 45 = .ok (.iconst 0, 1) := by decide +kernel
theorem dX4_weatherFraction_46 : decode cX4_weatherFraction 46 = .ok (.istore 8, 2) := by decide +kernel
theorem dX4_weatherFraction_48 : decode cX4_weatherFraction 48 = .ok (.aload_n 0, 1) := by decide +kernel
theorem dX4_weatherFraction_49 : decode cX4_weatherFraction 49 = .ok (.getfield 12, 3) := by decide +kernel
theorem dX4_weatherFraction_52 : decode cX4_weatherFraction 52 = .ok (.aload_n 2, 1) := by decide +kernel
theorem dX4_weatherFraction_53 : decode cX4_weatherFraction 53 = .ok (.invokevirtual 49, 3) := by decide +kernel
theorem dX4_weatherFraction_56 : decode cX4_weatherFraction 56 = .ok (.invokestatic 60, 3) := by decide +kernel
theorem dX4_weatherFraction_59 : decode cX4_weatherFraction 59 = .ok (.istore 9, 2) := by decide +kernel
theorem dX4_weatherFraction_61 : decode cX4_weatherFraction 61 = .ok (.iload 5, 2) := by decide +kernel
theorem dX4_weatherFraction_63 : decode cX4_weatherFraction 63 = .ok (.iload 9, 2) := by decide +kernel
theorem dX4_weatherFraction_65 : decode cX4_weatherFraction 65 = .ok (.iadd, 1) := by decide +kernel
theorem dX4_weatherFraction_66 : decode cX4_weatherFraction 66 = .ok (.istore 5, 2) := by decide +kernel
theorem dX4_weatherFraction_68 : decode cX4_weatherFraction 68 = .ok (.iload 6, 2) := by decide +kernel
theorem dX4_weatherFraction_70 : decode cX4_weatherFraction 70 = .ok (.iload 8, 2) := by decide +kernel
theorem dX4_weatherFraction_72 : decode cX4_weatherFraction 72 = .ok (.ifCond .eq 8, 3) := by decide +kernel
theorem dX4_weatherFraction_75 : decode cX4_weatherFraction 75 = .ok (.iload 9, 2) := by decide +kernel
theorem dX4_weatherFraction_77 : decode cX4_weatherFraction 77 = .ok (.goto 4, 3) := by decide +kernel
theorem dX4_weatherFraction_80 : decode cX4_weatherFraction 80 = .ok (.iconst 0, 1) := by decide +kernel
theorem dX4_weatherFraction_81 : decode cX4_weatherFraction 81 = .ok (.iadd, 1) := by decide +kernel
theorem dX4_weatherFraction_82 : decode cX4_weatherFraction 82 = .ok (.istore 6, 2) := by decide +kernel
theorem dX4_weatherFraction_84 : decode cX4_weatherFraction 84 = .ok (.iinc 7 1, 3) := by decide +kernel
theorem dX4_weatherFraction_87 : decode cX4_weatherFraction 87 = .ok (.goto (-70), 3) := by decide +kernel
theorem dX4_weatherFraction_90 : decode cX4_weatherFraction 90 = .ok (.iload 5, 2) := by decide +kernel
theorem dX4_weatherFraction_92 : decode cX4_weatherFraction 92 = .ok (.ifCond .gt 6, 3) := by decide +kernel
theorem dX4_weatherFraction_95 : decode cX4_weatherFraction 95 = .ok (.iload 4, 2) := by decide +kernel
theorem dX4_weatherFraction_97 : decode cX4_weatherFraction 97 = .ok (.ireturn, 1) := by decide +kernel
theorem dX4_weatherFraction_98 : decode cX4_weatherFraction 98 = .ok (.iload 5, 2) := by decide +kernel
theorem dX4_weatherFraction_100 : decode cX4_weatherFraction 100 = .ok (.iload 6, 2) := by decide +kernel
theorem dX4_weatherFraction_102 : decode cX4_weatherFraction 102 = .ok (.invokestatic 65, 3) := by decide +kernel
theorem dX4_weatherFraction_105 : decode cX4_weatherFraction 105 = .ok (.istore 7, 2) := by decide +kernel
theorem dX4_weatherFraction_107 : decode cX4_weatherFraction 107 = .ok (.iload 4, 2) := by decide +kernel
theorem dX4_weatherFraction_109 : decode cX4_weatherFraction 109 = .ok (.ifCond .ne 8, 3) := by decide +kernel
theorem dX4_weatherFraction_112 : decode cX4_weatherFraction 112 = .ok (.iload 6, 2) := by decide +kernel
theorem dX4_weatherFraction_114 : decode cX4_weatherFraction 114 = .ok (.goto 5, 3) := by decide +kernel
theorem dX4_weatherFraction_117 : decode cX4_weatherFraction 117 = .ok (.iload 5, 2) := by decide +kernel
theorem dX4_weatherFraction_119 : decode cX4_weatherFraction 119 = .ok (.iconst 1, 1) := by decide +kernel
theorem dX4_weatherFraction_120 : decode cX4_weatherFraction 120 = .ok (.iload 7, 2) := by decide +kernel
theorem dX4_weatherFraction_122 : decode cX4_weatherFraction 122 = .ok (.invokestatic 69, 3) := by decide +kernel
theorem dX4_weatherFraction_125 : decode cX4_weatherFraction 125 = .ok (.idiv, 1) := by decide +kernel
theorem dX4_weatherFraction_126 : decode cX4_weatherFraction 126 = .ok (.ireturn, 1) := by decide +kernel
set_option maxHeartbeats 4000000 in
set_option maxRecDepth 100000 in
theorem ct_J8_bitCount (l : Launch) (D : va_G) (tc : Nat → ClassId) (sk : (Nat → Nat) × (Nat → Nat)) (x1 : Int32)  : Ct l yJ6_bitCount_0f7a4 cJ6_bitCount_0f7a4 1 (some .int) { frames := 0, cells := 0, slots := 0, locals := 0 } D tc sk [.int x1] [] (fun (v : Option Value) (_ : Unit) => ∃ r : Int32, v = some (.int r) ∧ (True)) (fun (_ : Unit) => []) 0 0 := by
  refine Ct.start (by decide) (Nat.le_of_ble_eq_true rfl) (fun p e s m below meth c A ls hx hb hr hlk hin hml hown hts hK hX hP hD hA hl hS => ?_)
  have hl : lv_has ls 1 [(0, .int x1)] := hl
  refine lv_iload_n hx hb dJ6_bitCount_0f7a4_0 rfl (lv_at hl 0 rfl) ?_
  refine lv_iload_n hx hb dJ6_bitCount_0f7a4_1 rfl (lv_at hl 0 rfl) ?_
  refine lv_iconst (v := 1) hx hb dJ6_bitCount_0f7a4_2 (by decide) ?_
  obtain ⟨x_1, ex_1⟩ : ∃ y : Int32, y = ((x1 : Int32).toUInt32 >>> ((1 : Int32).toUInt32 &&& Int32.toUInt32 31)).toInt32 := ⟨_, rfl⟩
  refine lv_iushr (v := x_1) hx hb dJ6_bitCount_0f7a4_3 ex_1.symm ?_
  refine lv_ldcw hx hb hown (hts _ k_850) dJ6_bitCount_0f7a4_4 ?_
  refine lv_iand hx hb dJ6_bitCount_0f7a4_7 ?_
  refine lv_topi (fun x_2 ex_2 => ?_)
  refine lv_isub hx hb dJ6_bitCount_0f7a4_8 ?_
  refine lv_topi (fun x_3 ex_3 => ?_)
  refine lv_istore_n (lv' := [(0, .int x_3)]) hx hb dJ6_bitCount_0f7a4_9 rfl hl (by decide) rfl (fun ls hl => ?_)
  refine lv_iload_n hx hb dJ6_bitCount_0f7a4_10 rfl (lv_at hl 0 rfl) ?_
  refine lv_ldcw hx hb hown (hts _ k_851) dJ6_bitCount_0f7a4_11 ?_
  refine lv_iand hx hb dJ6_bitCount_0f7a4_14 ?_
  refine lv_topi (fun x_4 ex_4 => ?_)
  refine lv_iload_n hx hb dJ6_bitCount_0f7a4_15 rfl (lv_at hl 0 rfl) ?_
  refine lv_iconst (v := 2) hx hb dJ6_bitCount_0f7a4_16 (by decide) ?_
  obtain ⟨x_5, ex_5⟩ : ∃ y : Int32, y = ((x_3 : Int32).toUInt32 >>> ((2 : Int32).toUInt32 &&& Int32.toUInt32 31)).toInt32 := ⟨_, rfl⟩
  refine lv_iushr (v := x_5) hx hb dJ6_bitCount_0f7a4_17 ex_5.symm ?_
  refine lv_ldcw hx hb hown (hts _ k_851) dJ6_bitCount_0f7a4_18 ?_
  refine lv_iand hx hb dJ6_bitCount_0f7a4_21 ?_
  refine lv_topi (fun x_6 ex_6 => ?_)
  refine lv_iadd hx hb dJ6_bitCount_0f7a4_22 ?_
  refine lv_topi (fun x_7 ex_7 => ?_)
  refine lv_istore_n (lv' := [(0, .int x_7)]) hx hb dJ6_bitCount_0f7a4_23 rfl hl (by decide) rfl (fun ls hl => ?_)
  refine lv_iload_n hx hb dJ6_bitCount_0f7a4_24 rfl (lv_at hl 0 rfl) ?_
  refine lv_iload_n hx hb dJ6_bitCount_0f7a4_25 rfl (lv_at hl 0 rfl) ?_
  refine lv_iconst (v := 4) hx hb dJ6_bitCount_0f7a4_26 (by decide) ?_
  obtain ⟨x_8, ex_8⟩ : ∃ y : Int32, y = ((x_7 : Int32).toUInt32 >>> ((4 : Int32).toUInt32 &&& Int32.toUInt32 31)).toInt32 := ⟨_, rfl⟩
  refine lv_iushr (v := x_8) hx hb dJ6_bitCount_0f7a4_27 ex_8.symm ?_
  refine lv_iadd hx hb dJ6_bitCount_0f7a4_28 ?_
  refine lv_topi (fun x_9 ex_9 => ?_)
  refine lv_ldcw hx hb hown (hts _ k_852) dJ6_bitCount_0f7a4_29 ?_
  refine lv_iand hx hb dJ6_bitCount_0f7a4_32 ?_
  refine lv_topi (fun x_10 ex_10 => ?_)
  refine lv_istore_n (lv' := [(0, .int x_10)]) hx hb dJ6_bitCount_0f7a4_33 rfl hl (by decide) rfl (fun ls hl => ?_)
  refine lv_iload_n hx hb dJ6_bitCount_0f7a4_34 rfl (lv_at hl 0 rfl) ?_
  refine lv_iload_n hx hb dJ6_bitCount_0f7a4_35 rfl (lv_at hl 0 rfl) ?_
  refine lv_bipush (v := 8) hx hb dJ6_bitCount_0f7a4_36 (by decide) ?_
  obtain ⟨x_11, ex_11⟩ : ∃ y : Int32, y = ((x_10 : Int32).toUInt32 >>> ((8 : Int32).toUInt32 &&& Int32.toUInt32 31)).toInt32 := ⟨_, rfl⟩
  refine lv_iushr (v := x_11) hx hb dJ6_bitCount_0f7a4_38 ex_11.symm ?_
  refine lv_iadd hx hb dJ6_bitCount_0f7a4_39 ?_
  refine lv_topi (fun x_12 ex_12 => ?_)
  refine lv_istore_n (lv' := [(0, .int x_12)]) hx hb dJ6_bitCount_0f7a4_40 rfl hl (by decide) rfl (fun ls hl => ?_)
  refine lv_iload_n hx hb dJ6_bitCount_0f7a4_41 rfl (lv_at hl 0 rfl) ?_
  refine lv_iload_n hx hb dJ6_bitCount_0f7a4_42 rfl (lv_at hl 0 rfl) ?_
  refine lv_bipush (v := 16) hx hb dJ6_bitCount_0f7a4_43 (by decide) ?_
  obtain ⟨x_13, ex_13⟩ : ∃ y : Int32, y = ((x_12 : Int32).toUInt32 >>> ((16 : Int32).toUInt32 &&& Int32.toUInt32 31)).toInt32 := ⟨_, rfl⟩
  refine lv_iushr (v := x_13) hx hb dJ6_bitCount_0f7a4_45 ex_13.symm ?_
  refine lv_iadd hx hb dJ6_bitCount_0f7a4_46 ?_
  refine lv_topi (fun x_14 ex_14 => ?_)
  refine lv_istore_n (lv' := [(0, .int x_14)]) hx hb dJ6_bitCount_0f7a4_47 rfl hl (by decide) rfl (fun ls hl => ?_)
  refine lv_iload_n hx hb dJ6_bitCount_0f7a4_48 rfl (lv_at hl 0 rfl) ?_
  refine lv_bipush (v := 63) hx hb dJ6_bitCount_0f7a4_49 (by decide) ?_
  refine lv_iand hx hb dJ6_bitCount_0f7a4_51 ?_
  refine lv_topi (fun x_15 ex_15 => ?_)
  exact retI (v := x_15) hx hb hr hlk (rfl) hP hD hS () ⟨_, rfl, trivial⟩ [] rfl rfl dJ6_bitCount_0f7a4_52 (Nat.le_of_ble_eq_true rfl) (Nat.le_of_ble_eq_true rfl) rfl
set_option maxHeartbeats 4000000 in
set_option maxRecDepth 100000 in
theorem ct_X4_commonDivisor (l : Launch) (D : va_G) (tc : Nat → ClassId) (sk : (Nat → Nat) × (Nat → Nat)) (x1 : Int32) (x2 : Int32)  : Ct l yX4_commonDivisor cX4_commonDivisor 6 (some .int) { frames := 0, cells := 0, slots := 0, locals := 0 } D tc sk [.int x1, .int x2] [] (fun (v : Option Value) (_ : Unit) => ∃ r : Int32, v = some (.int r) ∧ (True)) (fun (_ : Unit) => []) 0 0 := by
  refine Ct.start (by decide) (Nat.le_of_ble_eq_true rfl) (fun p e s m below meth c A ls hx hb hr hlk hin hml hown hts hK hX hP hD hA hl hS => ?_)
  have hl : lv_has ls 6 [(0, .int x1), (1, .int x2)] := hl
  refine lv_iload_n hx hb dX4_commonDivisor_0 rfl (lv_at hl 0 rfl) ?_
  refine lv_istore_n (lv' := [(2, .int x1), (0, .int x1), (1, .int x2)]) hx hb dX4_commonDivisor_1 rfl hl (by decide) rfl (fun ls hl => ?_)
  refine lv_iload_n hx hb dX4_commonDivisor_2 rfl (lv_at hl 2 rfl) ?_
  refine lv_istore_n (lv' := [(3, .int x2), (2, .int x1), (0, .int x1), (1, .int x2)]) hx hb dX4_commonDivisor_3 rfl hl (by decide) rfl (fun ls hl => ?_)
  refine lv_iconst (v := 0) hx hb dX4_commonDivisor_4 (by decide) ?_
  refine lv_istore (lv' := [(4, .int 0), (3, .int x2), (2, .int x1), (0, .int x1), (1, .int x2)]) hx hb dX4_commonDivisor_5 hl (by decide) rfl (fun ls hl => ?_)
  have loop_10 : ∀ (n_8 : Nat) (vy_5 : Int32) (vy_6 : Int32) (vy_7 : Int32) (H : Heap) (locs : List Loc) (ls : Array Slot), 0 ≤ (vy_5 : Int32).toInt → (64 - (vy_5 : Int32).toInt).toNat < n_8 → va_P D classes [] H → va_D A [] → va_S A s.heap H locs → lv_has ls 6 [(4, .int vy_5), (3, .int vy_6), (2, .int vy_7), (0, .int x1), (1, .int x2)] → W p l e ({ frames := 0, cells := 0, slots := 0, locals := 0 }) s m ([.int x1, .int x2].toArray) below meth c H locs 0 0 (MQ below (QW (fun (v : Option Value) (_ : Unit) => ∃ r : Int32, v = some (.int r) ∧ (True)) (BW D (fun (_ : Unit) => []) A) A) ([.int x1, .int x2].toArray) s 0 0 A) (F0 m 7 ls []) := by
    intro n_8
    induction n_8 with
    | zero =>
      intro vy_5 vy_6 vy_7 H locs ls h1 h2
      exact absurd h2 (Nat.not_lt_zero _)
    | succ n_8 ih_9 =>
      intro vy_5 vy_6 vy_7 H locs ls hi_12 hn_13 hP hD hS hl
      refine lv_iload hx hb dX4_commonDivisor_7 (lv_at hl 0 rfl) ?_
      refine lv_bipush (v := 64) hx hb dX4_commonDivisor_9 (by decide) ?_
      refine lv_icmp_ge (tgt := 34) hx hb dX4_commonDivisor_11 (by decide) (fun c_14 => ?_) (fun c_14 => ?_)
      · skip
        refine lv_iload_n hx hb dX4_commonDivisor_34 rfl (lv_at hl 2 rfl) ?_
        exact retI (v := vy_7) hx hb hr hlk (rfl) hP hD hS () ⟨_, rfl, trivial⟩ [] rfl rfl dX4_commonDivisor_35 (Nat.le_of_ble_eq_true rfl) (Nat.le_of_ble_eq_true rfl) rfl
      · skip
        refine lv_iload_n hx hb dX4_commonDivisor_14 rfl (lv_at hl 1 rfl) ?_
        refine lv_if_le (tgt := 34) hx hb dX4_commonDivisor_15 (by decide) (fun c_15 => ?_) (fun c_15 => ?_)
        · skip
          refine lv_iload_n hx hb dX4_commonDivisor_34 rfl (lv_at hl 2 rfl) ?_
          exact retI (v := vy_7) hx hb hr hlk (rfl) hP hD hS () ⟨_, rfl, trivial⟩ [] rfl rfl dX4_commonDivisor_35 (Nat.le_of_ble_eq_true rfl) (Nat.le_of_ble_eq_true rfl) rfl
        · skip
          refine lv_iload_n hx hb dX4_commonDivisor_18 rfl (lv_at hl 2 rfl) ?_
          refine lv_iload_n hx hb dX4_commonDivisor_19 rfl (lv_at hl 1 rfl) ?_
          have hz_16 : ¬ vy_6 = 0 := by
            intro z
            have zz : (vy_6 : Int32).toInt = 0 := by rw [z]; decide
            have z_1 := Int32.lt_iff_toInt_lt.mp (Int32.not_le.mp c_14)
            have z_2 := Int32.lt_iff_toInt_lt.mp (Int32.not_le.mp c_15)
            have y_0 : (0 : Int32).toInt = 0 := by decide
            have y_64 : (64 : Int32).toInt = 64 := by decide
            omega
          refine lv_irem hx hb dX4_commonDivisor_20 hz_16 ?_
          refine lv_topi (fun x_17 ex_17 => ?_)
          refine lv_istore (lv' := [(5, .int x_17), (4, .int vy_5), (3, .int vy_6), (2, .int vy_7), (0, .int x1), (1, .int x2)]) hx hb dX4_commonDivisor_21 hl (by decide) rfl (fun ls hl => ?_)
          refine lv_iload_n hx hb dX4_commonDivisor_23 rfl (lv_at hl 2 rfl) ?_
          refine lv_istore_n (lv' := [(2, .int vy_6), (5, .int x_17), (4, .int vy_5), (3, .int vy_6), (0, .int x1), (1, .int x2)]) hx hb dX4_commonDivisor_24 rfl hl (by decide) rfl (fun ls hl => ?_)
          refine lv_iload hx hb dX4_commonDivisor_25 (lv_at hl 1 rfl) ?_
          refine lv_istore_n (lv' := [(3, .int x_17), (2, .int vy_6), (5, .int x_17), (4, .int vy_5), (0, .int x1), (1, .int x2)]) hx hb dX4_commonDivisor_27 rfl hl (by decide) rfl (fun ls hl => ?_)
          obtain ⟨x_18, ex_18⟩ : ∃ y : Int32, y = vy_5 + 1 := ⟨_, rfl⟩
          refine lv_iinc (v := x_18) (lv' := [(4, .int x_18), (3, .int x_17), (2, .int vy_6), (5, .int x_17), (0, .int x1), (1, .int x2)]) hx hb dX4_commonDivisor_28 hl (k := 3) rfl (by rw [ex_18]; rfl) (by decide) rfl (fun ls hl => ?_)
          refine lv_goto (tgt := 7) hx hb dX4_commonDivisor_31 (by decide) ?_
          have hb_19 : 0 ≤ (x_18 : Int32).toInt ∧ (64 - (x_18 : Int32).toInt).toNat < n_8 := by
            have z_1 := Int32.lt_iff_toInt_lt.mp (Int32.not_le.mp c_14)
            have z_2 := Int32.lt_iff_toInt_lt.mp (Int32.not_le.mp c_15)
            have y_0 : (0 : Int32).toInt = 0 := by decide
            have y_64 : (64 : Int32).toInt = 64 := by decide
            have y_1 : (1 : Int32).toInt = 1 := by decide
            have t_x_18 : x_18.toInt = (vy_5 : Int32).toInt + (1 : Int32).toInt := by rw [ex_18]; exact add_toInt (by omega) (by omega)
            omega
          exact ih_9 x_18 x_17 vy_6 _ _ _ hb_19.1 hb_19.2 (hP.sub [] rfl) (hD.sub [] rfl rfl) hS (lv_sub hl [0, 1, 2, 4, 5] rfl)
  have h0_20 : 0 ≤ (0 : Int32).toInt := by
    have y_0 : (0 : Int32).toInt = 0 := by decide
    decide
  exact loop_10 _ 0 x2 x1 _ _ _ h0_20 (Nat.lt_succ_self _) hP hD hS hl
set_option maxHeartbeats 4000000 in
set_option maxRecDepth 100000 in
theorem ct_X4_draw (l : Launch) (D : va_G) (tc : Nat → ClassId) (sk : (Nat → Nat) × (Nat → Nat)) (Oa : Nat → Nat) (Oj : Nat → Int64) (Og : Nat → Nat → Int64) (Ta : Nat → Nat) (Tv : Nat → Int32) (Tf : Nat → Nat → Int32)  : Ct l yX4_draw cX4_draw 1 (some .long) { frames := 0, cells := 0, slots := 0, locals := 0 } D tc sk [.ref (Oa 0)] [((Oa 0), .inr (4, [.ref (Ta 0), .ref (Oa 2), .long (Oj 0)])), ((Oa 2), .inl (tc 1, 61, .inr (.inl (Og 2)))), ((Ta 0), .inr (9, [.int (Tv 0), .int (Tv 1), .int (Tv 2), .int (Tv 3), .int (Tv 4), .int (Tv 5), .ref (Ta 1), .ref (Ta 2), .ref (Ta 3), .ref (Ta 4), .ref (Ta 5), .ref (Ta 6), .ref (Ta 7), .ref (Ta 8)])), ((Ta 1), .inl (tc 0, 10, .inl (Tf 1))), ((Ta 2), .inl (tc 0, 10, .inl (Tf 2))), ((Ta 3), .inl (tc 0, 6, .inl (Tf 3))), ((Ta 4), .inl (tc 0, 6, .inl (Tf 4))), ((Ta 5), .inl (tc 0, 6, .inl (Tf 5))), ((Ta 6), .inl (tc 0, 6, .inl (Tf 6))), ((Ta 7), .inl (tc 0, 6, .inl (Tf 7))), ((Ta 8), .inl (tc 0, 6, .inl (Tf 8)))] (fun (v : Option Value) (o1 : Int64) => ∃ r : Int64, v = some (.long r) ∧ (True)) (fun (o1 : Int64) => [((Oa 0), .inr (4, [.ref (Ta 0), .ref (Oa 2), .long o1])), ((Oa 2), .inl (tc 1, 61, .inr (.inl (Og 2)))), ((Ta 0), .inr (9, [.int (Tv 0), .int (Tv 1), .int (Tv 2), .int (Tv 3), .int (Tv 4), .int (Tv 5), .ref (Ta 1), .ref (Ta 2), .ref (Ta 3), .ref (Ta 4), .ref (Ta 5), .ref (Ta 6), .ref (Ta 7), .ref (Ta 8)])), ((Ta 1), .inl (tc 0, 10, .inl (Tf 1))), ((Ta 2), .inl (tc 0, 10, .inl (Tf 2))), ((Ta 3), .inl (tc 0, 6, .inl (Tf 3))), ((Ta 4), .inl (tc 0, 6, .inl (Tf 4))), ((Ta 5), .inl (tc 0, 6, .inl (Tf 5))), ((Ta 6), .inl (tc 0, 6, .inl (Tf 6))), ((Ta 7), .inl (tc 0, 6, .inl (Tf 7))), ((Ta 8), .inl (tc 0, 6, .inl (Tf 8)))]) 0 0 := by
  refine Ct.start (by decide) (Nat.le_of_ble_eq_true rfl) (fun p e s m below meth c A ls hx hb hr hlk hin hml hown hts hK hX hP hD hA hl hS => ?_)
  have hl : lv_has ls 1 [(0, .ref (Oa 0))] := hl
  refine lv_aload_n hx hb dX4_draw_0 rfl (lv_at hl 0 rfl) ?_
  refine lv_aload_n hx hb dX4_draw_1 rfl (lv_at hl 0 rfl) ?_
  refine gf_X4_22 hx hb hts hown hK hP 0 rfl rfl dX4_draw_2 ?_
  refine lv_ldc2 hx hb hown (hts _ k_1029) dX4_draw_5 ?_
  refine lv_lmul hx hb dX4_draw_8 ?_
  refine lv_topl (fun x_1 ex_1 => ?_)
  refine lv_ldc2 hx hb hown (hts _ k_1030) dX4_draw_9 ?_
  refine lv_ladd hx hb dX4_draw_12 ?_
  refine lv_topl (fun x_2 ex_2 => ?_)
  refine lv_ldc2 hx hb hown (hts _ k_1031) dX4_draw_13 ?_
  refine lv_lrem hx hb dX4_draw_16 (by decide) ?_
  refine lv_topl (fun x_3 ex_3 => ?_)
  refine pf_X4_22 hx hb hts hown hK hP hD hS 0 rfl (Nat.le_of_ble_eq_true rfl) rfl rfl dX4_draw_17 (fun H locs hP hD hS => ?_)
  have hP : va_P D classes [((Oa 0), .inr (4, [.ref (Ta 0), .ref (Oa 2), .long x_3])), ((Oa 2), .inl (tc 1, 61, .inr (.inl (Og 2)))), ((Ta 0), .inr (9, [.int (Tv 0), .int (Tv 1), .int (Tv 2), .int (Tv 3), .int (Tv 4), .int (Tv 5), .ref (Ta 1), .ref (Ta 2), .ref (Ta 3), .ref (Ta 4), .ref (Ta 5), .ref (Ta 6), .ref (Ta 7), .ref (Ta 8)])), ((Ta 1), .inl (tc 0, 10, .inl (Tf 1))), ((Ta 2), .inl (tc 0, 10, .inl (Tf 2))), ((Ta 3), .inl (tc 0, 6, .inl (Tf 3))), ((Ta 4), .inl (tc 0, 6, .inl (Tf 4))), ((Ta 5), .inl (tc 0, 6, .inl (Tf 5))), ((Ta 6), .inl (tc 0, 6, .inl (Tf 6))), ((Ta 7), .inl (tc 0, 6, .inl (Tf 7))), ((Ta 8), .inl (tc 0, 6, .inl (Tf 8)))] H := hP
  have hD : va_D A [((Oa 0), .inr (4, [.ref (Ta 0), .ref (Oa 2), .long x_3])), ((Oa 2), .inl (tc 1, 61, .inr (.inl (Og 2)))), ((Ta 0), .inr (9, [.int (Tv 0), .int (Tv 1), .int (Tv 2), .int (Tv 3), .int (Tv 4), .int (Tv 5), .ref (Ta 1), .ref (Ta 2), .ref (Ta 3), .ref (Ta 4), .ref (Ta 5), .ref (Ta 6), .ref (Ta 7), .ref (Ta 8)])), ((Ta 1), .inl (tc 0, 10, .inl (Tf 1))), ((Ta 2), .inl (tc 0, 10, .inl (Tf 2))), ((Ta 3), .inl (tc 0, 6, .inl (Tf 3))), ((Ta 4), .inl (tc 0, 6, .inl (Tf 4))), ((Ta 5), .inl (tc 0, 6, .inl (Tf 5))), ((Ta 6), .inl (tc 0, 6, .inl (Tf 6))), ((Ta 7), .inl (tc 0, 6, .inl (Tf 7))), ((Ta 8), .inl (tc 0, 6, .inl (Tf 8)))] := hD
  refine lv_aload_n hx hb dX4_draw_20 rfl (lv_at hl 0 rfl) ?_
  refine gf_X4_22 hx hb hts hown hK hP 0 rfl rfl dX4_draw_21 ?_
  refine lv_ldc2 hx hb hown (hts _ k_1032) dX4_draw_24 ?_
  refine lv_ldiv hx hb dX4_draw_27 (by decide) ?_
  refine lv_topl (fun x_4 ex_4 => ?_)
  exact retL (v := x_4) hx hb hr hlk hP hD hS x_3 ⟨_, rfl, trivial⟩ [0, 1, 2, 3, 4, 5, 6, 7, 8, 9, 10] rfl rfl dX4_draw_28 (Nat.le_of_ble_eq_true rfl) (Nat.le_of_ble_eq_true rfl) rfl
set_option maxRecDepth 100000 in
theorem cu_X4_draw (l : Launch) (D : va_G) (tc : Nat → ClassId) (sk : (Nat → Nat) × (Nat → Nat)) (Oa_0 : Nat) (Oa_2 : Nat) (Oj_0 : Int64) (Og_2 : Nat → Int64) (Ta_0 : Nat) (Ta_1 : Nat) (Ta_2 : Nat) (Ta_3 : Nat) (Ta_4 : Nat) (Ta_5 : Nat) (Ta_6 : Nat) (Ta_7 : Nat) (Ta_8 : Nat) (Tv_0 : Int32) (Tv_1 : Int32) (Tv_2 : Int32) (Tv_3 : Int32) (Tv_4 : Int32) (Tv_5 : Int32) (Tf_1 : Nat → Int32) (Tf_2 : Nat → Int32) (Tf_3 : Nat → Int32) (Tf_4 : Nat → Int32) (Tf_5 : Nat → Int32) (Tf_6 : Nat → Int32) (Tf_7 : Nat → Int32) (Tf_8 : Nat → Int32)  : Ct l yX4_draw cX4_draw 1 (some .long) { frames := 0, cells := 0, slots := 0, locals := 0 } D tc sk [.ref Oa_0] [(Oa_0, .inr (4, [.ref Ta_0, .ref Oa_2, .long Oj_0])), (Oa_2, .inl (tc 1, 61, .inr (.inl Og_2))), (Ta_0, .inr (9, [.int Tv_0, .int Tv_1, .int Tv_2, .int Tv_3, .int Tv_4, .int Tv_5, .ref Ta_1, .ref Ta_2, .ref Ta_3, .ref Ta_4, .ref Ta_5, .ref Ta_6, .ref Ta_7, .ref Ta_8])), (Ta_1, .inl (tc 0, 10, .inl Tf_1)), (Ta_2, .inl (tc 0, 10, .inl Tf_2)), (Ta_3, .inl (tc 0, 6, .inl Tf_3)), (Ta_4, .inl (tc 0, 6, .inl Tf_4)), (Ta_5, .inl (tc 0, 6, .inl Tf_5)), (Ta_6, .inl (tc 0, 6, .inl Tf_6)), (Ta_7, .inl (tc 0, 6, .inl Tf_7)), (Ta_8, .inl (tc 0, 6, .inl Tf_8))] (fun (v : Option Value) (o1 : Int64) => ∃ r : Int64, v = some (.long r) ∧ (True)) (fun (o1 : Int64) => [(Oa_0, .inr (4, [.ref Ta_0, .ref Oa_2, .long o1])), (Oa_2, .inl (tc 1, 61, .inr (.inl Og_2))), (Ta_0, .inr (9, [.int Tv_0, .int Tv_1, .int Tv_2, .int Tv_3, .int Tv_4, .int Tv_5, .ref Ta_1, .ref Ta_2, .ref Ta_3, .ref Ta_4, .ref Ta_5, .ref Ta_6, .ref Ta_7, .ref Ta_8])), (Ta_1, .inl (tc 0, 10, .inl Tf_1)), (Ta_2, .inl (tc 0, 10, .inl Tf_2)), (Ta_3, .inl (tc 0, 6, .inl Tf_3)), (Ta_4, .inl (tc 0, 6, .inl Tf_4)), (Ta_5, .inl (tc 0, 6, .inl Tf_5)), (Ta_6, .inl (tc 0, 6, .inl Tf_6)), (Ta_7, .inl (tc 0, 6, .inl Tf_7)), (Ta_8, .inl (tc 0, 6, .inl Tf_8))]) 0 0 :=
  ct_X4_draw l D tc sk (fun k => ([Oa_0, 0, Oa_2] : List (Nat)).getD k 0) (fun k => ([Oj_0] : List (Int64)).getD k 0) (fun k => ([(fun _ => 0), (fun _ => 0), Og_2] : List (Nat → Int64)).getD k (fun _ => 0)) (fun k => ([Ta_0, Ta_1, Ta_2, Ta_3, Ta_4, Ta_5, Ta_6, Ta_7, Ta_8] : List (Nat)).getD k 0) (fun k => ([Tv_0, Tv_1, Tv_2, Tv_3, Tv_4, Tv_5] : List (Int32)).getD k 0) (fun k => ([(fun _ => 0), Tf_1, Tf_2, Tf_3, Tf_4, Tf_5, Tf_6, Tf_7, Tf_8] : List (Nat → Int32)).getD k (fun _ => 0)) 
set_option maxHeartbeats 4000000 in
set_option maxRecDepth 100000 in
theorem ct_X4_drawSky (l : Launch) (D : va_G) (tc : Nat → ClassId) (sk : (Nat → Nat) × (Nat → Nat)) (Oa : Nat → Nat) (Oj : Nat → Int64) (Og : Nat → Nat → Int64) (Ta : Nat → Nat) (Tv : Nat → Int32) (Tf : Nat → Nat → Int32) (x1 : Int32)  : Ct l yX4_drawSky cX4_drawSky 4 none { frames := 1, cells := 0, slots := 0, locals := 21 } D tc sk [.ref (Oa 0), .int x1] [((Oa 0), .inr (4, [.ref (Ta 0), .ref (Oa 2), .long (Oj 0)])), ((Oa 2), .inl (tc 1, 61, .inr (.inl (Og 2)))), ((Ta 0), .inr (9, [.int (Tv 0), .int (Tv 1), .int (Tv 2), .int (Tv 3), .int (Tv 4), .int (Tv 5), .ref (Ta 1), .ref (Ta 2), .ref (Ta 3), .ref (Ta 4), .ref (Ta 5), .ref (Ta 6), .ref (Ta 7), .ref (Ta 8)])), ((Ta 1), .inl (tc 0, 10, .inl (Tf 1))), ((Ta 2), .inl (tc 0, 10, .inl (Tf 2))), ((Ta 3), .inl (tc 0, 6, .inl (Tf 3))), ((Ta 4), .inl (tc 0, 6, .inl (Tf 4))), ((Ta 5), .inl (tc 0, 6, .inl (Tf 5))), ((Ta 6), .inl (tc 0, 6, .inl (Tf 6))), ((Ta 7), .inl (tc 0, 6, .inl (Tf 7))), ((Ta 8), .inl (tc 0, 6, .inl (Tf 8)))] (fun (v : Option Value) (u : (Int64) × (Nat → Int32)) => match u with | (o1, o2) => v = none) (fun (u : (Int64) × (Nat → Int32)) => match u with | (o1, o2) => [((Oa 0), .inr (4, [.ref (Ta 0), .ref (Oa 2), .long o1])), ((Oa 2), .inl (tc 1, 61, .inr (.inl (Og 2)))), ((Ta 0), .inr (9, [.int (Tv 0), .int (Tv 1), .int (Tv 2), .int (Tv 3), .int (Tv 4), .int (Tv 5), .ref (Ta 1), .ref (Ta 2), .ref (Ta 3), .ref (Ta 4), .ref (Ta 5), .ref (Ta 6), .ref (Ta 7), .ref (Ta 8)])), ((Ta 1), .inl (tc 0, 10, .inl o2)), ((Ta 2), .inl (tc 0, 10, .inl (Tf 2))), ((Ta 3), .inl (tc 0, 6, .inl (Tf 3))), ((Ta 4), .inl (tc 0, 6, .inl (Tf 4))), ((Ta 5), .inl (tc 0, 6, .inl (Tf 5))), ((Ta 6), .inl (tc 0, 6, .inl (Tf 6))), ((Ta 7), .inl (tc 0, 6, .inl (Tf 7))), ((Ta 8), .inl (tc 0, 6, .inl (Tf 8)))]) 0 0 := by
  refine Ct.start (by decide) (Nat.le_of_ble_eq_true rfl) (fun p e s m below meth c A ls hx hb hr hlk hin hml hown hts hK hX hP hD hA hl hS => ?_)
  have hl : lv_has ls 4 [(0, .ref (Oa 0)), (1, .int x1)] := hl
  refine lv_aload_n hx hb dX4_drawSky_0 rfl (lv_at hl 0 rfl) ?_
  refine cV (a := (Oa 0)) (As := []) (rest := []) (wr := []) ⟨hx, hb, hml, hown, hts⟩ hK hX hA (cu_X4_draw l D tc sk (Oa 0) (Oa 2) (Oj 0) (Og 2) (Ta 0) (Ta 1) (Ta 2) (Ta 3) (Ta 4) (Ta 5) (Ta 6) (Ta 7) (Ta 8) (Tv 0) (Tv 1) (Tv 2) (Tv 3) (Tv 4) (Tv 5) (Tf 1) (Tf 2) (Tf 3) (Tf 4) (Tf 5) (Tf 6) (Tf 7) (Tf 8)) k_1028 k_1025 k_1027 k_23 k_103 pl_X4_draw ⟨Nat.le_of_ble_eq_true rfl, Nat.le_of_ble_eq_true rfl⟩ rfl rfl (va_recv hK hP (ci := 4) (q0 := 0) rfl rfl) hP hD hS [0, 1, 2, 3, 4, 5, 6, 7, 8, 9, 10] [] rfl rfl rfl rfl rfl (by decide) rfl hl.1 rfl (Nat.le_of_ble_eq_true rfl) dX4_drawSky_1 ⟨Nat.le_of_ble_eq_true rfl, Nat.le_of_ble_eq_true rfl⟩ (fun v_1 u_2 H locs hv_3 hP hD hS => ?_)
  obtain ⟨sv_4, rfl⟩ : ∃ z, z = u_2 := ⟨_, rfl⟩
  obtain ⟨r_5, rfl, he_6⟩ := hv_3
  have he_6 : (True) := he_6
  refine W.eq (g2 := F0 m 4 ls [.long r_5]) rfl ?_
  have hP : va_P D classes [((Oa 0), .inr (4, [.ref (Ta 0), .ref (Oa 2), .long sv_4])), ((Oa 2), .inl (tc 1, 61, .inr (.inl (Og 2)))), ((Ta 0), .inr (9, [.int (Tv 0), .int (Tv 1), .int (Tv 2), .int (Tv 3), .int (Tv 4), .int (Tv 5), .ref (Ta 1), .ref (Ta 2), .ref (Ta 3), .ref (Ta 4), .ref (Ta 5), .ref (Ta 6), .ref (Ta 7), .ref (Ta 8)])), ((Ta 1), .inl (tc 0, 10, .inl (Tf 1))), ((Ta 2), .inl (tc 0, 10, .inl (Tf 2))), ((Ta 3), .inl (tc 0, 6, .inl (Tf 3))), ((Ta 4), .inl (tc 0, 6, .inl (Tf 4))), ((Ta 5), .inl (tc 0, 6, .inl (Tf 5))), ((Ta 6), .inl (tc 0, 6, .inl (Tf 6))), ((Ta 7), .inl (tc 0, 6, .inl (Tf 7))), ((Ta 8), .inl (tc 0, 6, .inl (Tf 8)))] H := hP
  have hD : va_D A [((Oa 0), .inr (4, [.ref (Ta 0), .ref (Oa 2), .long sv_4])), ((Oa 2), .inl (tc 1, 61, .inr (.inl (Og 2)))), ((Ta 0), .inr (9, [.int (Tv 0), .int (Tv 1), .int (Tv 2), .int (Tv 3), .int (Tv 4), .int (Tv 5), .ref (Ta 1), .ref (Ta 2), .ref (Ta 3), .ref (Ta 4), .ref (Ta 5), .ref (Ta 6), .ref (Ta 7), .ref (Ta 8)])), ((Ta 1), .inl (tc 0, 10, .inl (Tf 1))), ((Ta 2), .inl (tc 0, 10, .inl (Tf 2))), ((Ta 3), .inl (tc 0, 6, .inl (Tf 3))), ((Ta 4), .inl (tc 0, 6, .inl (Tf 4))), ((Ta 5), .inl (tc 0, 6, .inl (Tf 5))), ((Ta 6), .inl (tc 0, 6, .inl (Tf 6))), ((Ta 7), .inl (tc 0, 6, .inl (Tf 7))), ((Ta 8), .inl (tc 0, 6, .inl (Tf 8)))] := hD
  refine lv_ldc2 hx hb hown (hts _ k_1033) dX4_drawSky_4 ?_
  refine lv_lrem hx hb dX4_drawSky_7 (by decide) ?_
  refine lv_topl (fun x_7 ex_7 => ?_)
  refine lv_iload_n hx hb dX4_drawSky_8 rfl (lv_at hl 1 rfl) ?_
  refine lv_i2l (v := (x1).toInt64) hx hb dX4_drawSky_9 rfl ?_
  refine W.lcmp hx hb dX4_drawSky_10 ?_
  refine lv_topi (fun x_8 ex_8 => ?_)
  refine lv_if_lt (tgt := 15) hx hb dX4_drawSky_11 (by decide) (fun c_9 => ?_) (fun c_9 => ?_)
  · skip
    refine lv_aload_n hx hb dX4_drawSky_15 rfl (lv_at hl 0 rfl) ?_
    refine cV (a := (Oa 0)) (As := []) (rest := []) (wr := []) ⟨hx, hb, hml, hown, hts⟩ hK hX hA (cu_X4_draw l D tc sk (Oa 0) (Oa 2) sv_4 (Og 2) (Ta 0) (Ta 1) (Ta 2) (Ta 3) (Ta 4) (Ta 5) (Ta 6) (Ta 7) (Ta 8) (Tv 0) (Tv 1) (Tv 2) (Tv 3) (Tv 4) (Tv 5) (Tf 1) (Tf 2) (Tf 3) (Tf 4) (Tf 5) (Tf 6) (Tf 7) (Tf 8)) k_1028 k_1025 k_1027 k_23 k_103 pl_X4_draw ⟨Nat.le_of_ble_eq_true rfl, Nat.le_of_ble_eq_true rfl⟩ rfl rfl (va_recv hK hP (ci := 4) (q0 := 0) rfl rfl) hP hD hS [0, 1, 2, 3, 4, 5, 6, 7, 8, 9, 10] [] rfl rfl rfl rfl rfl (by decide) rfl hl.1 rfl (Nat.le_of_ble_eq_true rfl) dX4_drawSky_16 ⟨Nat.le_of_ble_eq_true rfl, Nat.le_of_ble_eq_true rfl⟩ (fun v_10 u_11 H locs hv_12 hP hD hS => ?_)
    obtain ⟨sv_13, rfl⟩ : ∃ z, z = u_11 := ⟨_, rfl⟩
    obtain ⟨r_14, rfl, he_15⟩ := hv_12
    have he_15 : (True) := he_15
    refine W.eq (g2 := F0 m 19 ls [.long r_14]) rfl ?_
    have hP : va_P D classes [((Oa 0), .inr (4, [.ref (Ta 0), .ref (Oa 2), .long sv_13])), ((Oa 2), .inl (tc 1, 61, .inr (.inl (Og 2)))), ((Ta 0), .inr (9, [.int (Tv 0), .int (Tv 1), .int (Tv 2), .int (Tv 3), .int (Tv 4), .int (Tv 5), .ref (Ta 1), .ref (Ta 2), .ref (Ta 3), .ref (Ta 4), .ref (Ta 5), .ref (Ta 6), .ref (Ta 7), .ref (Ta 8)])), ((Ta 1), .inl (tc 0, 10, .inl (Tf 1))), ((Ta 2), .inl (tc 0, 10, .inl (Tf 2))), ((Ta 3), .inl (tc 0, 6, .inl (Tf 3))), ((Ta 4), .inl (tc 0, 6, .inl (Tf 4))), ((Ta 5), .inl (tc 0, 6, .inl (Tf 5))), ((Ta 6), .inl (tc 0, 6, .inl (Tf 6))), ((Ta 7), .inl (tc 0, 6, .inl (Tf 7))), ((Ta 8), .inl (tc 0, 6, .inl (Tf 8)))] H := hP
    have hD : va_D A [((Oa 0), .inr (4, [.ref (Ta 0), .ref (Oa 2), .long sv_13])), ((Oa 2), .inl (tc 1, 61, .inr (.inl (Og 2)))), ((Ta 0), .inr (9, [.int (Tv 0), .int (Tv 1), .int (Tv 2), .int (Tv 3), .int (Tv 4), .int (Tv 5), .ref (Ta 1), .ref (Ta 2), .ref (Ta 3), .ref (Ta 4), .ref (Ta 5), .ref (Ta 6), .ref (Ta 7), .ref (Ta 8)])), ((Ta 1), .inl (tc 0, 10, .inl (Tf 1))), ((Ta 2), .inl (tc 0, 10, .inl (Tf 2))), ((Ta 3), .inl (tc 0, 6, .inl (Tf 3))), ((Ta 4), .inl (tc 0, 6, .inl (Tf 4))), ((Ta 5), .inl (tc 0, 6, .inl (Tf 5))), ((Ta 6), .inl (tc 0, 6, .inl (Tf 6))), ((Ta 7), .inl (tc 0, 6, .inl (Tf 7))), ((Ta 8), .inl (tc 0, 6, .inl (Tf 8)))] := hD
    refine lv_ldc2 hx hb hown (hts _ k_1034) dX4_drawSky_19 ?_
    refine lv_lrem hx hb dX4_drawSky_22 (by decide) ?_
    refine lv_topl (fun x_16 ex_16 => ?_)
    obtain ⟨x_17, ex_17⟩ : ∃ y : Int32, y = (x_16 : Int64).toInt32 := ⟨_, rfl⟩
    refine lv_l2i (v := x_17) hx hb dX4_drawSky_23 ex_17.symm ?_
    refine lv_istore_n (lv' := [(2, .int x_17), (0, .ref (Oa 0)), (1, .int x1)]) hx hb dX4_drawSky_24 rfl hl (by decide) rfl (fun ls hl => ?_)
    refine lv_aload_n hx hb dX4_drawSky_25 rfl (lv_at hl 1 rfl) ?_
    refine gf_X4_12 hx hb hts hown hK hP 0 rfl rfl dX4_drawSky_26 ?_
    refine lv_aload_n hx hb dX4_drawSky_29 rfl (lv_at hl 1 rfl) ?_
    refine gf_X4_12 hx hb hts hown hK hP 0 rfl rfl dX4_drawSky_30 ?_
    refine gf_X4_53 hx hb hts hown hK hP 2 rfl rfl dX4_drawSky_33 ?_
    refine cV (a := (Ta 0)) (As := [.int (Tv 4)]) (rest := []) (wr := [((Oa 0), .inr (4, [.ref (Ta 0), .ref (Oa 2), .long sv_13])), ((Oa 2), .inl (tc 1, 61, .inr (.inl (Og 2))))]) ⟨hx, hb, hml, hown, hts⟩ hK hX hA (cu_X9_clockOn l D tc sk (Ta 0) (Ta 1) (Ta 2) (Ta 3) (Ta 4) (Ta 5) (Ta 6) (Ta 7) (Ta 8) (Tv 0) (Tv 1) (Tv 2) (Tv 3) (Tv 4) (Tv 5) (Tf 1) (Tf 2) (Tf 3) (Tf 4) (Tf 5) (Tf 6) (Tf 7) (Tf 8) (Tv 4)) k_747 k_1035 k_745 k_746 k_98 pl_X9_clockOn ⟨Nat.le_of_ble_eq_true rfl, Nat.le_of_ble_eq_true rfl⟩ rfl rfl (va_recv hK hP (ci := 9) (q0 := 2) rfl rfl) hP hD hS [2, 3, 4, 5, 6, 7, 8, 9, 10] [0, 1] rfl rfl rfl rfl rfl (by decide) rfl hl.1 rfl (Nat.le_of_ble_eq_true rfl) dX4_drawSky_36 ⟨Nat.le_of_ble_eq_true rfl, Nat.le_of_ble_eq_true rfl⟩ (fun v_18 u_19 H locs hv_20 hP hD hS => ?_)
    obtain ⟨r_21, rfl, he_22⟩ := hv_20
    have he_22 : (True) := he_22
    refine W.eq (g2 := F0 m 39 ls [.int r_21]) rfl ?_
    have hP : va_P D classes [((Oa 0), .inr (4, [.ref (Ta 0), .ref (Oa 2), .long sv_13])), ((Oa 2), .inl (tc 1, 61, .inr (.inl (Og 2)))), ((Ta 0), .inr (9, [.int (Tv 0), .int (Tv 1), .int (Tv 2), .int (Tv 3), .int (Tv 4), .int (Tv 5), .ref (Ta 1), .ref (Ta 2), .ref (Ta 3), .ref (Ta 4), .ref (Ta 5), .ref (Ta 6), .ref (Ta 7), .ref (Ta 8)])), ((Ta 1), .inl (tc 0, 10, .inl (Tf 1))), ((Ta 2), .inl (tc 0, 10, .inl (Tf 2))), ((Ta 3), .inl (tc 0, 6, .inl (Tf 3))), ((Ta 4), .inl (tc 0, 6, .inl (Tf 4))), ((Ta 5), .inl (tc 0, 6, .inl (Tf 5))), ((Ta 6), .inl (tc 0, 6, .inl (Tf 6))), ((Ta 7), .inl (tc 0, 6, .inl (Tf 7))), ((Ta 8), .inl (tc 0, 6, .inl (Tf 8)))] H := hP
    have hD : va_D A [((Oa 0), .inr (4, [.ref (Ta 0), .ref (Oa 2), .long sv_13])), ((Oa 2), .inl (tc 1, 61, .inr (.inl (Og 2)))), ((Ta 0), .inr (9, [.int (Tv 0), .int (Tv 1), .int (Tv 2), .int (Tv 3), .int (Tv 4), .int (Tv 5), .ref (Ta 1), .ref (Ta 2), .ref (Ta 3), .ref (Ta 4), .ref (Ta 5), .ref (Ta 6), .ref (Ta 7), .ref (Ta 8)])), ((Ta 1), .inl (tc 0, 10, .inl (Tf 1))), ((Ta 2), .inl (tc 0, 10, .inl (Tf 2))), ((Ta 3), .inl (tc 0, 6, .inl (Tf 3))), ((Ta 4), .inl (tc 0, 6, .inl (Tf 4))), ((Ta 5), .inl (tc 0, 6, .inl (Tf 5))), ((Ta 6), .inl (tc 0, 6, .inl (Tf 6))), ((Ta 7), .inl (tc 0, 6, .inl (Tf 7))), ((Ta 8), .inl (tc 0, 6, .inl (Tf 8)))] := hD
    refine lv_istore_n (lv' := [(3, .int r_21), (2, .int x_17), (0, .ref (Oa 0)), (1, .int x1)]) hx hb dX4_drawSky_39 rfl hl (by decide) rfl (fun ls hl => ?_)
    refine lv_aload_n hx hb dX4_drawSky_40 rfl (lv_at hl 2 rfl) ?_
    refine gf_X4_12 hx hb hts hown hK hP 0 rfl rfl dX4_drawSky_41 ?_
    refine lv_iload_n hx hb dX4_drawSky_44 rfl (lv_at hl 0 rfl) ?_
    refine cV (a := (Ta 0)) (As := [.int r_21]) (rest := []) (wr := [((Oa 0), .inr (4, [.ref (Ta 0), .ref (Oa 2), .long sv_13])), ((Oa 2), .inl (tc 1, 61, .inr (.inl (Og 2))))]) ⟨hx, hb, hml, hown, hts⟩ hK hX hA (cu_X9_hasClock l D tc sk (Ta 0) (Ta 1) (Ta 2) (Ta 3) (Ta 4) (Ta 5) (Ta 6) (Ta 7) (Ta 8) (Tv 0) (Tv 1) (Tv 2) (Tv 3) (Tv 4) (Tv 5) (Tf 1) (Tf 2) (Tf 3) (Tf 4) (Tf 5) (Tf 6) (Tf 7) (Tf 8) r_21) k_579 k_1036 k_577 k_578 k_98 pl_X9_hasClock ⟨Nat.le_of_ble_eq_true rfl, Nat.le_of_ble_eq_true rfl⟩ rfl rfl (va_recv hK hP (ci := 9) (q0 := 2) rfl rfl) hP hD hS [2, 3, 4, 5, 6, 7, 8, 9, 10] [0, 1] rfl rfl rfl rfl rfl (by decide) rfl hl.1 rfl (Nat.le_of_ble_eq_true rfl) dX4_drawSky_45 ⟨Nat.le_of_ble_eq_true rfl, Nat.le_of_ble_eq_true rfl⟩ (fun v_23 u_24 H locs hv_25 hP hD hS => ?_)
    obtain ⟨r_26, rfl, he_27⟩ := hv_25
    have he_27 : ((r_26.toInt = 0 ∨ (r_26.toInt = 1 ∧ 0 ≤ r_21.toInt ∧ r_21.toInt < 10))) := he_27
    refine W.eq (g2 := F0 m 48 ls [.int r_26]) rfl ?_
    have hP : va_P D classes [((Oa 0), .inr (4, [.ref (Ta 0), .ref (Oa 2), .long sv_13])), ((Oa 2), .inl (tc 1, 61, .inr (.inl (Og 2)))), ((Ta 0), .inr (9, [.int (Tv 0), .int (Tv 1), .int (Tv 2), .int (Tv 3), .int (Tv 4), .int (Tv 5), .ref (Ta 1), .ref (Ta 2), .ref (Ta 3), .ref (Ta 4), .ref (Ta 5), .ref (Ta 6), .ref (Ta 7), .ref (Ta 8)])), ((Ta 1), .inl (tc 0, 10, .inl (Tf 1))), ((Ta 2), .inl (tc 0, 10, .inl (Tf 2))), ((Ta 3), .inl (tc 0, 6, .inl (Tf 3))), ((Ta 4), .inl (tc 0, 6, .inl (Tf 4))), ((Ta 5), .inl (tc 0, 6, .inl (Tf 5))), ((Ta 6), .inl (tc 0, 6, .inl (Tf 6))), ((Ta 7), .inl (tc 0, 6, .inl (Tf 7))), ((Ta 8), .inl (tc 0, 6, .inl (Tf 8)))] H := hP
    have hD : va_D A [((Oa 0), .inr (4, [.ref (Ta 0), .ref (Oa 2), .long sv_13])), ((Oa 2), .inl (tc 1, 61, .inr (.inl (Og 2)))), ((Ta 0), .inr (9, [.int (Tv 0), .int (Tv 1), .int (Tv 2), .int (Tv 3), .int (Tv 4), .int (Tv 5), .ref (Ta 1), .ref (Ta 2), .ref (Ta 3), .ref (Ta 4), .ref (Ta 5), .ref (Ta 6), .ref (Ta 7), .ref (Ta 8)])), ((Ta 1), .inl (tc 0, 10, .inl (Tf 1))), ((Ta 2), .inl (tc 0, 10, .inl (Tf 2))), ((Ta 3), .inl (tc 0, 6, .inl (Tf 3))), ((Ta 4), .inl (tc 0, 6, .inl (Tf 4))), ((Ta 5), .inl (tc 0, 6, .inl (Tf 5))), ((Ta 6), .inl (tc 0, 6, .inl (Tf 6))), ((Ta 7), .inl (tc 0, 6, .inl (Tf 7))), ((Ta 8), .inl (tc 0, 6, .inl (Tf 8)))] := hD
    refine lv_if_eq (tgt := 61) hx hb dX4_drawSky_48 (by decide) (fun c_28 => ?_) (fun c_28 => ?_)
    · skip
      exact retV hx hb hr hlk hP hD hS (sv_13, (Tf 1)) rfl [0, 1, 2, 3, 4, 5, 6, 7, 8, 9, 10] rfl rfl dX4_drawSky_61 (Nat.le_of_ble_eq_true rfl) (Nat.le_of_ble_eq_true rfl) rfl
    · skip
      refine lv_aload_n hx hb dX4_drawSky_51 rfl (lv_at hl 2 rfl) ?_
      refine gf_X4_12 hx hb hts hown hK hP 0 rfl rfl dX4_drawSky_52 ?_
      refine gf_X4_95 hx hb hts hown hK hP 2 rfl rfl dX4_drawSky_55 ?_
      refine lv_iload_n hx hb dX4_drawSky_58 rfl (lv_at hl 0 rfl) ?_
      refine lv_iload_n hx hb dX4_drawSky_59 rfl (lv_at hl 1 rfl) ?_
      have hi_29 : vp_in r_21 10 := by
        have z_1 := Int32.lt_iff_toInt_lt.mp c_9
        have z_2 : ¬ (r_26 : Int32).toInt = (0 : Int32).toInt := fun z => c_28 (Int32.toInt_inj.mp z)
        have y_0 : (0 : Int32).toInt = 0 := by decide
        refine vp_in_iff.mpr ⟨?_, ?_⟩ <;> omega
      refine st_int hx hb hK hP hD hS 3 0 rfl rfl hi_29 dX4_drawSky_60 (fun g_30 H locs eg_30 hP hD hS => ?_)
      have hP : va_P D classes [((Oa 0), .inr (4, [.ref (Ta 0), .ref (Oa 2), .long sv_13])), ((Oa 2), .inl (tc 1, 61, .inr (.inl (Og 2)))), ((Ta 0), .inr (9, [.int (Tv 0), .int (Tv 1), .int (Tv 2), .int (Tv 3), .int (Tv 4), .int (Tv 5), .ref (Ta 1), .ref (Ta 2), .ref (Ta 3), .ref (Ta 4), .ref (Ta 5), .ref (Ta 6), .ref (Ta 7), .ref (Ta 8)])), ((Ta 1), .inl (tc 0, 10, .inl g_30)), ((Ta 2), .inl (tc 0, 10, .inl (Tf 2))), ((Ta 3), .inl (tc 0, 6, .inl (Tf 3))), ((Ta 4), .inl (tc 0, 6, .inl (Tf 4))), ((Ta 5), .inl (tc 0, 6, .inl (Tf 5))), ((Ta 6), .inl (tc 0, 6, .inl (Tf 6))), ((Ta 7), .inl (tc 0, 6, .inl (Tf 7))), ((Ta 8), .inl (tc 0, 6, .inl (Tf 8)))] H := hP
      have hD : va_D A [((Oa 0), .inr (4, [.ref (Ta 0), .ref (Oa 2), .long sv_13])), ((Oa 2), .inl (tc 1, 61, .inr (.inl (Og 2)))), ((Ta 0), .inr (9, [.int (Tv 0), .int (Tv 1), .int (Tv 2), .int (Tv 3), .int (Tv 4), .int (Tv 5), .ref (Ta 1), .ref (Ta 2), .ref (Ta 3), .ref (Ta 4), .ref (Ta 5), .ref (Ta 6), .ref (Ta 7), .ref (Ta 8)])), ((Ta 1), .inl (tc 0, 10, .inl g_30)), ((Ta 2), .inl (tc 0, 10, .inl (Tf 2))), ((Ta 3), .inl (tc 0, 6, .inl (Tf 3))), ((Ta 4), .inl (tc 0, 6, .inl (Tf 4))), ((Ta 5), .inl (tc 0, 6, .inl (Tf 5))), ((Ta 6), .inl (tc 0, 6, .inl (Tf 6))), ((Ta 7), .inl (tc 0, 6, .inl (Tf 7))), ((Ta 8), .inl (tc 0, 6, .inl (Tf 8)))] := hD
      exact retV hx hb hr hlk hP hD hS (sv_13, g_30) rfl [0, 1, 2, 3, 4, 5, 6, 7, 8, 9, 10] rfl rfl dX4_drawSky_61 (Nat.le_of_ble_eq_true rfl) (Nat.le_of_ble_eq_true rfl) rfl
  · skip
    exact retV hx hb hr hlk hP hD hS (sv_4, (Tf 1)) rfl [0, 1, 2, 3, 4, 5, 6, 7, 8, 9, 10] rfl rfl dX4_drawSky_14 (Nat.le_of_ble_eq_true rfl) (Nat.le_of_ble_eq_true rfl) rfl
set_option maxRecDepth 100000 in
theorem cu_X4_drawSky (l : Launch) (D : va_G) (tc : Nat → ClassId) (sk : (Nat → Nat) × (Nat → Nat)) (Oa_0 : Nat) (Oa_2 : Nat) (Oj_0 : Int64) (Og_2 : Nat → Int64) (Ta_0 : Nat) (Ta_1 : Nat) (Ta_2 : Nat) (Ta_3 : Nat) (Ta_4 : Nat) (Ta_5 : Nat) (Ta_6 : Nat) (Ta_7 : Nat) (Ta_8 : Nat) (Tv_0 : Int32) (Tv_1 : Int32) (Tv_2 : Int32) (Tv_3 : Int32) (Tv_4 : Int32) (Tv_5 : Int32) (Tf_1 : Nat → Int32) (Tf_2 : Nat → Int32) (Tf_3 : Nat → Int32) (Tf_4 : Nat → Int32) (Tf_5 : Nat → Int32) (Tf_6 : Nat → Int32) (Tf_7 : Nat → Int32) (Tf_8 : Nat → Int32) (x1 : Int32)  : Ct l yX4_drawSky cX4_drawSky 4 none { frames := 1, cells := 0, slots := 0, locals := 21 } D tc sk [.ref Oa_0, .int x1] [(Oa_0, .inr (4, [.ref Ta_0, .ref Oa_2, .long Oj_0])), (Oa_2, .inl (tc 1, 61, .inr (.inl Og_2))), (Ta_0, .inr (9, [.int Tv_0, .int Tv_1, .int Tv_2, .int Tv_3, .int Tv_4, .int Tv_5, .ref Ta_1, .ref Ta_2, .ref Ta_3, .ref Ta_4, .ref Ta_5, .ref Ta_6, .ref Ta_7, .ref Ta_8])), (Ta_1, .inl (tc 0, 10, .inl Tf_1)), (Ta_2, .inl (tc 0, 10, .inl Tf_2)), (Ta_3, .inl (tc 0, 6, .inl Tf_3)), (Ta_4, .inl (tc 0, 6, .inl Tf_4)), (Ta_5, .inl (tc 0, 6, .inl Tf_5)), (Ta_6, .inl (tc 0, 6, .inl Tf_6)), (Ta_7, .inl (tc 0, 6, .inl Tf_7)), (Ta_8, .inl (tc 0, 6, .inl Tf_8))] (fun (v : Option Value) (u : (Int64) × (Nat → Int32)) => match u with | (o1, o2) => v = none) (fun (u : (Int64) × (Nat → Int32)) => match u with | (o1, o2) => [(Oa_0, .inr (4, [.ref Ta_0, .ref Oa_2, .long o1])), (Oa_2, .inl (tc 1, 61, .inr (.inl Og_2))), (Ta_0, .inr (9, [.int Tv_0, .int Tv_1, .int Tv_2, .int Tv_3, .int Tv_4, .int Tv_5, .ref Ta_1, .ref Ta_2, .ref Ta_3, .ref Ta_4, .ref Ta_5, .ref Ta_6, .ref Ta_7, .ref Ta_8])), (Ta_1, .inl (tc 0, 10, .inl o2)), (Ta_2, .inl (tc 0, 10, .inl Tf_2)), (Ta_3, .inl (tc 0, 6, .inl Tf_3)), (Ta_4, .inl (tc 0, 6, .inl Tf_4)), (Ta_5, .inl (tc 0, 6, .inl Tf_5)), (Ta_6, .inl (tc 0, 6, .inl Tf_6)), (Ta_7, .inl (tc 0, 6, .inl Tf_7)), (Ta_8, .inl (tc 0, 6, .inl Tf_8))]) 0 0 :=
  ct_X4_drawSky l D tc sk (fun k => ([Oa_0, 0, Oa_2] : List (Nat)).getD k 0) (fun k => ([Oj_0] : List (Int64)).getD k 0) (fun k => ([(fun _ => 0), (fun _ => 0), Og_2] : List (Nat → Int64)).getD k (fun _ => 0)) (fun k => ([Ta_0, Ta_1, Ta_2, Ta_3, Ta_4, Ta_5, Ta_6, Ta_7, Ta_8] : List (Nat)).getD k 0) (fun k => ([Tv_0, Tv_1, Tv_2, Tv_3, Tv_4, Tv_5] : List (Int32)).getD k 0) (fun k => ([(fun _ => 0), Tf_1, Tf_2, Tf_3, Tf_4, Tf_5, Tf_6, Tf_7, Tf_8] : List (Nat → Int32)).getD k (fun _ => 0)) x1 
set_option maxHeartbeats 4000000 in
set_option maxRecDepth 100000 in
theorem ct_X1_sizeOf (l : Launch) (D : va_G) (tc : Nat → ClassId) (sk : (Nat → Nat) × (Nat → Nat)) (x1 : Int32)  : Ct l yX1_sizeOf cX1_sizeOf 1 (some .int) { frames := 0, cells := 0, slots := 0, locals := 0 } D tc sk [.int x1] [] (fun (v : Option Value) (_ : Unit) => ∃ r : Int32, v = some (.int r) ∧ (True)) (fun (_ : Unit) => []) 0 0 := by
  refine Ct.start (by decide) (Nat.le_of_ble_eq_true rfl) (fun p e s m below meth c A ls hx hb hr hlk hin hml hown hts hK hX hP hD hA hl hS => ?_)
  have hl : lv_has ls 1 [(0, .int x1)] := hl
  refine lv_iconst (v := 2) hx hb dX1_sizeOf_0 (by decide) ?_
  refine lv_iload_n hx hb dX1_sizeOf_1 rfl (lv_at hl 0 rfl) ?_
  refine lv_imul hx hb dX1_sizeOf_2 ?_
  refine lv_topi (fun x_1 ex_1 => ?_)
  refine lv_iconst (v := 1) hx hb dX1_sizeOf_3 (by decide) ?_
  refine lv_iadd hx hb dX1_sizeOf_4 ?_
  refine lv_topi (fun x_2 ex_2 => ?_)
  exact retI (v := x_2) hx hb hr hlk (rfl) hP hD hS () ⟨_, rfl, trivial⟩ [] rfl rfl dX1_sizeOf_5 (Nat.le_of_ble_eq_true rfl) (Nat.le_of_ble_eq_true rfl) rfl
set_option maxHeartbeats 4000000 in
set_option maxRecDepth 100000 in
theorem ct_X1_grainsOf (l : Launch) (D : va_G) (tc : Nat → ClassId) (sk : (Nat → Nat) × (Nat → Nat)) (Aa : Nat → Nat) (Av : Nat → Int32) (Af : Nat → Nat → Int32) (x1 : Int32)  : Ct l yX1_grainsOf cX1_grainsOf 4 (some .int) { frames := 0, cells := 0, slots := 0, locals := 0 } D tc sk [.ref (Aa 0), .int x1] [((Aa 0), .inr (9, [.int (Av 0), .int (Av 1), .int (Av 2), .int (Av 3), .int (Av 4), .int (Av 5), .ref (Aa 1), .ref (Aa 2), .ref (Aa 3), .ref (Aa 4), .ref (Aa 5), .ref (Aa 6), .ref (Aa 7), .ref (Aa 8)])), ((Aa 1), .inl (tc 0, 10, .inl (Af 1))), ((Aa 2), .inl (tc 0, 10, .inl (Af 2))), ((Aa 3), .inl (tc 0, 6, .inl (Af 3))), ((Aa 4), .inl (tc 0, 6, .inl (Af 4))), ((Aa 5), .inl (tc 0, 6, .inl (Af 5))), ((Aa 6), .inl (tc 0, 6, .inl (Af 6))), ((Aa 7), .inl (tc 0, 6, .inl (Af 7))), ((Aa 8), .inl (tc 0, 6, .inl (Af 8)))] (fun (v : Option Value) (_ : Unit) => ∃ r : Int32, v = some (.int r) ∧ (True)) (fun (_ : Unit) => [((Aa 0), .inr (9, [.int (Av 0), .int (Av 1), .int (Av 2), .int (Av 3), .int (Av 4), .int (Av 5), .ref (Aa 1), .ref (Aa 2), .ref (Aa 3), .ref (Aa 4), .ref (Aa 5), .ref (Aa 6), .ref (Aa 7), .ref (Aa 8)])), ((Aa 1), .inl (tc 0, 10, .inl (Af 1))), ((Aa 2), .inl (tc 0, 10, .inl (Af 2))), ((Aa 3), .inl (tc 0, 6, .inl (Af 3))), ((Aa 4), .inl (tc 0, 6, .inl (Af 4))), ((Aa 5), .inl (tc 0, 6, .inl (Af 5))), ((Aa 6), .inl (tc 0, 6, .inl (Af 6))), ((Aa 7), .inl (tc 0, 6, .inl (Af 7))), ((Aa 8), .inl (tc 0, 6, .inl (Af 8)))]) 0 0 := by
  refine Ct.start (by decide) (Nat.le_of_ble_eq_true rfl) (fun p e s m below meth c A ls hx hb hr hlk hin hml hown hts hK hX hP hD hA hl hS => ?_)
  have hl : lv_has ls 4 [(0, .ref (Aa 0)), (1, .int x1)] := hl
  refine lv_iconst (v := 0) hx hb dX1_grainsOf_0 (by decide) ?_
  refine lv_istore_n (lv' := [(2, .int 0), (0, .ref (Aa 0)), (1, .int x1)]) hx hb dX1_grainsOf_1 rfl hl (by decide) rfl (fun ls hl => ?_)
  refine lv_iconst (v := 0) hx hb dX1_grainsOf_2 (by decide) ?_
  refine lv_istore_n (lv' := [(3, .int 0), (2, .int 0), (0, .ref (Aa 0)), (1, .int x1)]) hx hb dX1_grainsOf_3 rfl hl (by decide) rfl (fun ls hl => ?_)
  have loop_8 : ∀ (n_6 : Nat) (vy_4 : Int32) (vy_5 : Int32) (H : Heap) (locs : List Loc) (ls : Array Slot), 0 ≤ (vy_4 : Int32).toInt → (6 - (vy_4 : Int32).toInt).toNat < n_6 → va_P D classes [((Aa 0), .inr (9, [.int (Av 0), .int (Av 1), .int (Av 2), .int (Av 3), .int (Av 4), .int (Av 5), .ref (Aa 1), .ref (Aa 2), .ref (Aa 3), .ref (Aa 4), .ref (Aa 5), .ref (Aa 6), .ref (Aa 7), .ref (Aa 8)])), ((Aa 1), .inl (tc 0, 10, .inl (Af 1))), ((Aa 2), .inl (tc 0, 10, .inl (Af 2))), ((Aa 3), .inl (tc 0, 6, .inl (Af 3))), ((Aa 4), .inl (tc 0, 6, .inl (Af 4))), ((Aa 5), .inl (tc 0, 6, .inl (Af 5))), ((Aa 6), .inl (tc 0, 6, .inl (Af 6))), ((Aa 7), .inl (tc 0, 6, .inl (Af 7))), ((Aa 8), .inl (tc 0, 6, .inl (Af 8)))] H → va_D A [((Aa 0), .inr (9, [.int (Av 0), .int (Av 1), .int (Av 2), .int (Av 3), .int (Av 4), .int (Av 5), .ref (Aa 1), .ref (Aa 2), .ref (Aa 3), .ref (Aa 4), .ref (Aa 5), .ref (Aa 6), .ref (Aa 7), .ref (Aa 8)])), ((Aa 1), .inl (tc 0, 10, .inl (Af 1))), ((Aa 2), .inl (tc 0, 10, .inl (Af 2))), ((Aa 3), .inl (tc 0, 6, .inl (Af 3))), ((Aa 4), .inl (tc 0, 6, .inl (Af 4))), ((Aa 5), .inl (tc 0, 6, .inl (Af 5))), ((Aa 6), .inl (tc 0, 6, .inl (Af 6))), ((Aa 7), .inl (tc 0, 6, .inl (Af 7))), ((Aa 8), .inl (tc 0, 6, .inl (Af 8)))] → va_S A s.heap H locs → lv_has ls 4 [(3, .int vy_4), (2, .int vy_5), (0, .ref (Aa 0)), (1, .int x1)] → W p l e ({ frames := 0, cells := 0, slots := 0, locals := 0 }) s m ([.ref (Aa 0), .int x1].toArray) below meth c H locs 0 0 (MQ below (QW (fun (v : Option Value) (_ : Unit) => ∃ r : Int32, v = some (.int r) ∧ (True)) (BW D (fun (_ : Unit) => [((Aa 0), .inr (9, [.int (Av 0), .int (Av 1), .int (Av 2), .int (Av 3), .int (Av 4), .int (Av 5), .ref (Aa 1), .ref (Aa 2), .ref (Aa 3), .ref (Aa 4), .ref (Aa 5), .ref (Aa 6), .ref (Aa 7), .ref (Aa 8)])), ((Aa 1), .inl (tc 0, 10, .inl (Af 1))), ((Aa 2), .inl (tc 0, 10, .inl (Af 2))), ((Aa 3), .inl (tc 0, 6, .inl (Af 3))), ((Aa 4), .inl (tc 0, 6, .inl (Af 4))), ((Aa 5), .inl (tc 0, 6, .inl (Af 5))), ((Aa 6), .inl (tc 0, 6, .inl (Af 6))), ((Aa 7), .inl (tc 0, 6, .inl (Af 7))), ((Aa 8), .inl (tc 0, 6, .inl (Af 8)))]) A) A) ([.ref (Aa 0), .int x1].toArray) s 0 0 A) (F0 m 4 ls []) := by
    intro n_6
    induction n_6 with
    | zero =>
      intro vy_4 vy_5 H locs ls h1 h2
      exact absurd h2 (Nat.not_lt_zero _)
    | succ n_6 ih_7 =>
      intro vy_4 vy_5 H locs ls hi_10 hn_11 hP hD hS hl
      refine lv_iload_n hx hb dX1_grainsOf_4 rfl (lv_at hl 0 rfl) ?_
      refine lv_aload_n hx hb dX1_grainsOf_5 rfl (lv_at hl 2 rfl) ?_
      refine gf_X1_66 hx hb hts hown hK hP 0 rfl rfl dX1_grainsOf_6 ?_
      refine lv_icmp_ge (tgt := 39) hx hb dX1_grainsOf_9 (by decide) (fun c_12 => ?_) (fun c_12 => ?_)
      · skip
        refine lv_iload_n hx hb dX1_grainsOf_39 rfl (lv_at hl 1 rfl) ?_
        exact retI (v := vy_5) hx hb hr hlk (rfl) hP hD hS () ⟨_, rfl, trivial⟩ [0, 1, 2, 3, 4, 5, 6, 7, 8] rfl rfl dX1_grainsOf_40 (Nat.le_of_ble_eq_true rfl) (Nat.le_of_ble_eq_true rfl) rfl
      · skip
        refine lv_iload_n hx hb dX1_grainsOf_12 rfl (lv_at hl 0 rfl) ?_
        refine lv_bipush (v := 6) hx hb dX1_grainsOf_13 (by decide) ?_
        refine lv_icmp_ge (tgt := 39) hx hb dX1_grainsOf_15 (by decide) (fun c_13 => ?_) (fun c_13 => ?_)
        · skip
          refine lv_iload_n hx hb dX1_grainsOf_39 rfl (lv_at hl 1 rfl) ?_
          exact retI (v := vy_5) hx hb hr hlk (rfl) hP hD hS () ⟨_, rfl, trivial⟩ [0, 1, 2, 3, 4, 5, 6, 7, 8] rfl rfl dX1_grainsOf_40 (Nat.le_of_ble_eq_true rfl) (Nat.le_of_ble_eq_true rfl) rfl
        · skip
          refine lv_iload_n hx hb dX1_grainsOf_18 rfl (lv_at hl 1 rfl) ?_
          refine lv_iload_n hx hb dX1_grainsOf_19 rfl (lv_at hl 3 rfl) ?_
          refine lv_iload_n hx hb dX1_grainsOf_20 rfl (lv_at hl 0 rfl) ?_
          refine lv_ishr hx hb dX1_grainsOf_21 ?_
          refine lv_topi (fun x_14 ex_14 => ?_)
          refine lv_iconst (v := 1) hx hb dX1_grainsOf_22 (by decide) ?_
          refine lv_iand hx hb dX1_grainsOf_23 ?_
          refine lv_topi (fun x_15 ex_15 => ?_)
          refine lv_aload_n hx hb dX1_grainsOf_24 rfl (lv_at hl 2 rfl) ?_
          refine gf_X1_73 hx hb hts hown hK hP 0 rfl rfl dX1_grainsOf_25 ?_
          refine lv_iload_n hx hb dX1_grainsOf_28 rfl (lv_at hl 0 rfl) ?_
          have hi_16 : vp_in vy_4 6 := by
            have z_1 := Int32.lt_iff_toInt_lt.mp (Int32.not_le.mp c_12)
            have z_2 := Int32.lt_iff_toInt_lt.mp (Int32.not_le.mp c_13)
            have y_6 : (6 : Int32).toInt = 6 := by decide
            refine vp_in_iff.mpr ⟨?_, ?_⟩ <;> omega
          refine va_iald hx hb hK hP 4 0 rfl rfl hi_16 dX1_grainsOf_29 ?_
          refine lv_topi (fun x_17 ex_17 => ?_)
          refine lv_imul hx hb dX1_grainsOf_30 ?_
          refine lv_topi (fun x_18 ex_18 => ?_)
          refine lv_iadd hx hb dX1_grainsOf_31 ?_
          refine lv_topi (fun x_19 ex_19 => ?_)
          refine lv_istore_n (lv' := [(2, .int x_19), (3, .int vy_4), (0, .ref (Aa 0)), (1, .int x1)]) hx hb dX1_grainsOf_32 rfl hl (by decide) rfl (fun ls hl => ?_)
          obtain ⟨x_20, ex_20⟩ : ∃ y : Int32, y = vy_4 + 1 := ⟨_, rfl⟩
          refine lv_iinc (v := x_20) (lv' := [(3, .int x_20), (2, .int x_19), (0, .ref (Aa 0)), (1, .int x1)]) hx hb dX1_grainsOf_33 hl (k := 1) rfl (by rw [ex_20]; rfl) (by decide) rfl (fun ls hl => ?_)
          refine lv_goto (tgt := 4) hx hb dX1_grainsOf_36 (by decide) ?_
          have hb_21 : 0 ≤ (x_20 : Int32).toInt ∧ (6 - (x_20 : Int32).toInt).toNat < n_6 := by
            have z_1 := Int32.lt_iff_toInt_lt.mp (Int32.not_le.mp c_12)
            have z_2 := Int32.lt_iff_toInt_lt.mp (Int32.not_le.mp c_13)
            have y_6 : (6 : Int32).toInt = 6 := by decide
            have y_1 : (1 : Int32).toInt = 1 := by decide
            have t_x_20 : x_20.toInt = (vy_4 : Int32).toInt + (1 : Int32).toInt := by rw [ex_20]; exact add_toInt (by omega) (by omega)
            omega
          exact ih_7 x_20 x_19 _ _ _ hb_21.1 hb_21.2 (hP.sub [0, 1, 2, 3, 4, 5, 6, 7, 8] rfl) (hD.sub [0, 1, 2, 3, 4, 5, 6, 7, 8] rfl rfl) hS (lv_sub hl [0, 1, 2, 3] rfl)
  have h0_22 : 0 ≤ (0 : Int32).toInt := by
    have y_0 : (0 : Int32).toInt = 0 := by decide
    decide
  exact loop_8 _ 0 0 _ _ _ h0_22 (Nat.lt_succ_self _) hP hD hS hl
set_option maxRecDepth 100000 in
theorem cu_X1_grainsOf (l : Launch) (D : va_G) (tc : Nat → ClassId) (sk : (Nat → Nat) × (Nat → Nat)) (Aa_0 : Nat) (Aa_1 : Nat) (Aa_2 : Nat) (Aa_3 : Nat) (Aa_4 : Nat) (Aa_5 : Nat) (Aa_6 : Nat) (Aa_7 : Nat) (Aa_8 : Nat) (Av_0 : Int32) (Av_1 : Int32) (Av_2 : Int32) (Av_3 : Int32) (Av_4 : Int32) (Av_5 : Int32) (Af_1 : Nat → Int32) (Af_2 : Nat → Int32) (Af_3 : Nat → Int32) (Af_4 : Nat → Int32) (Af_5 : Nat → Int32) (Af_6 : Nat → Int32) (Af_7 : Nat → Int32) (Af_8 : Nat → Int32) (x1 : Int32)  : Ct l yX1_grainsOf cX1_grainsOf 4 (some .int) { frames := 0, cells := 0, slots := 0, locals := 0 } D tc sk [.ref Aa_0, .int x1] [(Aa_0, .inr (9, [.int Av_0, .int Av_1, .int Av_2, .int Av_3, .int Av_4, .int Av_5, .ref Aa_1, .ref Aa_2, .ref Aa_3, .ref Aa_4, .ref Aa_5, .ref Aa_6, .ref Aa_7, .ref Aa_8])), (Aa_1, .inl (tc 0, 10, .inl Af_1)), (Aa_2, .inl (tc 0, 10, .inl Af_2)), (Aa_3, .inl (tc 0, 6, .inl Af_3)), (Aa_4, .inl (tc 0, 6, .inl Af_4)), (Aa_5, .inl (tc 0, 6, .inl Af_5)), (Aa_6, .inl (tc 0, 6, .inl Af_6)), (Aa_7, .inl (tc 0, 6, .inl Af_7)), (Aa_8, .inl (tc 0, 6, .inl Af_8))] (fun (v : Option Value) (_ : Unit) => ∃ r : Int32, v = some (.int r) ∧ (True)) (fun (_ : Unit) => [(Aa_0, .inr (9, [.int Av_0, .int Av_1, .int Av_2, .int Av_3, .int Av_4, .int Av_5, .ref Aa_1, .ref Aa_2, .ref Aa_3, .ref Aa_4, .ref Aa_5, .ref Aa_6, .ref Aa_7, .ref Aa_8])), (Aa_1, .inl (tc 0, 10, .inl Af_1)), (Aa_2, .inl (tc 0, 10, .inl Af_2)), (Aa_3, .inl (tc 0, 6, .inl Af_3)), (Aa_4, .inl (tc 0, 6, .inl Af_4)), (Aa_5, .inl (tc 0, 6, .inl Af_5)), (Aa_6, .inl (tc 0, 6, .inl Af_6)), (Aa_7, .inl (tc 0, 6, .inl Af_7)), (Aa_8, .inl (tc 0, 6, .inl Af_8))]) 0 0 :=
  ct_X1_grainsOf l D tc sk (fun k => ([Aa_0, Aa_1, Aa_2, Aa_3, Aa_4, Aa_5, Aa_6, Aa_7, Aa_8] : List (Nat)).getD k 0) (fun k => ([Av_0, Av_1, Av_2, Av_3, Av_4, Av_5] : List (Int32)).getD k 0) (fun k => ([(fun _ => 0), Af_1, Af_2, Af_3, Af_4, Af_5, Af_6, Af_7, Af_8] : List (Nat → Int32)).getD k (fun _ => 0)) x1 
set_option maxHeartbeats 4000000 in
set_option maxRecDepth 100000 in
theorem ct_X1_gain (l : Launch) (D : va_G) (tc : Nat → ClassId) (sk : (Nat → Nat) × (Nat → Nat)) (Ca : Nat → Nat) (Cf : Nat → Nat → Int32) (Ta : Nat → Nat) (Tv : Nat → Int32) (Tf : Nat → Nat → Int32) (Aa : Nat → Nat) (Av : Nat → Int32) (Af : Nat → Nat → Int32) (x1 : Int32)  : Ct l yX1_gain cX1_gain 4 (some .int) { frames := 1, cells := 0, slots := 0, locals := 21 } D tc sk [.ref (Ca 0), .ref (Aa 0), .int x1] [((Ca 0), .inr (1, [.ref (Ta 0), .ref (Ca 2), .ref (Ca 3)])), ((Ca 2), .inl (tc 0, 25, .inl (Cf 2))), ((Ca 3), .inl (tc 0, 25, .inl (Cf 3))), ((Ta 0), .inr (9, [.int (Tv 0), .int (Tv 1), .int (Tv 2), .int (Tv 3), .int (Tv 4), .int (Tv 5), .ref (Ta 1), .ref (Ta 2), .ref (Ta 3), .ref (Ta 4), .ref (Ta 5), .ref (Ta 6), .ref (Ta 7), .ref (Ta 8)])), ((Ta 1), .inl (tc 0, 10, .inl (Tf 1))), ((Ta 2), .inl (tc 0, 10, .inl (Tf 2))), ((Ta 3), .inl (tc 0, 6, .inl (Tf 3))), ((Ta 4), .inl (tc 0, 6, .inl (Tf 4))), ((Ta 5), .inl (tc 0, 6, .inl (Tf 5))), ((Ta 6), .inl (tc 0, 6, .inl (Tf 6))), ((Ta 7), .inl (tc 0, 6, .inl (Tf 7))), ((Ta 8), .inl (tc 0, 6, .inl (Tf 8))), ((Aa 0), .inr (9, [.int (Av 0), .int (Av 1), .int (Av 2), .int (Av 3), .int (Av 4), .int (Av 5), .ref (Aa 1), .ref (Aa 2), .ref (Aa 3), .ref (Aa 4), .ref (Aa 5), .ref (Aa 6), .ref (Aa 7), .ref (Aa 8)])), ((Aa 1), .inl (tc 0, 10, .inl (Af 1))), ((Aa 2), .inl (tc 0, 10, .inl (Af 2))), ((Aa 3), .inl (tc 0, 6, .inl (Af 3))), ((Aa 4), .inl (tc 0, 6, .inl (Af 4))), ((Aa 5), .inl (tc 0, 6, .inl (Af 5))), ((Aa 6), .inl (tc 0, 6, .inl (Af 6))), ((Aa 7), .inl (tc 0, 6, .inl (Af 7))), ((Aa 8), .inl (tc 0, 6, .inl (Af 8)))] (fun (v : Option Value) (_ : Unit) => ∃ r : Int32, v = some (.int r) ∧ (True)) (fun (_ : Unit) => [((Ca 0), .inr (1, [.ref (Ta 0), .ref (Ca 2), .ref (Ca 3)])), ((Ca 2), .inl (tc 0, 25, .inl (Cf 2))), ((Ca 3), .inl (tc 0, 25, .inl (Cf 3))), ((Ta 0), .inr (9, [.int (Tv 0), .int (Tv 1), .int (Tv 2), .int (Tv 3), .int (Tv 4), .int (Tv 5), .ref (Ta 1), .ref (Ta 2), .ref (Ta 3), .ref (Ta 4), .ref (Ta 5), .ref (Ta 6), .ref (Ta 7), .ref (Ta 8)])), ((Ta 1), .inl (tc 0, 10, .inl (Tf 1))), ((Ta 2), .inl (tc 0, 10, .inl (Tf 2))), ((Ta 3), .inl (tc 0, 6, .inl (Tf 3))), ((Ta 4), .inl (tc 0, 6, .inl (Tf 4))), ((Ta 5), .inl (tc 0, 6, .inl (Tf 5))), ((Ta 6), .inl (tc 0, 6, .inl (Tf 6))), ((Ta 7), .inl (tc 0, 6, .inl (Tf 7))), ((Ta 8), .inl (tc 0, 6, .inl (Tf 8))), ((Aa 0), .inr (9, [.int (Av 0), .int (Av 1), .int (Av 2), .int (Av 3), .int (Av 4), .int (Av 5), .ref (Aa 1), .ref (Aa 2), .ref (Aa 3), .ref (Aa 4), .ref (Aa 5), .ref (Aa 6), .ref (Aa 7), .ref (Aa 8)])), ((Aa 1), .inl (tc 0, 10, .inl (Af 1))), ((Aa 2), .inl (tc 0, 10, .inl (Af 2))), ((Aa 3), .inl (tc 0, 6, .inl (Af 3))), ((Aa 4), .inl (tc 0, 6, .inl (Af 4))), ((Aa 5), .inl (tc 0, 6, .inl (Af 5))), ((Aa 6), .inl (tc 0, 6, .inl (Af 6))), ((Aa 7), .inl (tc 0, 6, .inl (Af 7))), ((Aa 8), .inl (tc 0, 6, .inl (Af 8)))]) 0 0 := by
  refine Ct.start (by decide) (Nat.le_of_ble_eq_true rfl) (fun p e s m below meth c A ls hx hb hr hlk hin hml hown hts hK hX hP hD hA hl hS => ?_)
  have hl : lv_has ls 4 [(0, .ref (Ca 0)), (1, .ref (Aa 0)), (2, .int x1)] := hl
  refine lv_aload_n hx hb dX1_gain_0 rfl (lv_at hl 1 rfl) ?_
  refine lv_iload_n hx hb dX1_gain_1 rfl (lv_at hl 2 rfl) ?_
  refine cV (a := (Aa 0)) (As := [.int x1]) (rest := []) (wr := [((Ca 0), .inr (1, [.ref (Ta 0), .ref (Ca 2), .ref (Ca 3)])), ((Ca 2), .inl (tc 0, 25, .inl (Cf 2))), ((Ca 3), .inl (tc 0, 25, .inl (Cf 3))), ((Ta 0), .inr (9, [.int (Tv 0), .int (Tv 1), .int (Tv 2), .int (Tv 3), .int (Tv 4), .int (Tv 5), .ref (Ta 1), .ref (Ta 2), .ref (Ta 3), .ref (Ta 4), .ref (Ta 5), .ref (Ta 6), .ref (Ta 7), .ref (Ta 8)])), ((Ta 1), .inl (tc 0, 10, .inl (Tf 1))), ((Ta 2), .inl (tc 0, 10, .inl (Tf 2))), ((Ta 3), .inl (tc 0, 6, .inl (Tf 3))), ((Ta 4), .inl (tc 0, 6, .inl (Tf 4))), ((Ta 5), .inl (tc 0, 6, .inl (Tf 5))), ((Ta 6), .inl (tc 0, 6, .inl (Tf 6))), ((Ta 7), .inl (tc 0, 6, .inl (Tf 7))), ((Ta 8), .inl (tc 0, 6, .inl (Tf 8)))]) ⟨hx, hb, hml, hown, hts⟩ hK hX hA (cu_X9_hasBuyer l D tc sk (Aa 0) (Aa 1) (Aa 2) (Aa 3) (Aa 4) (Aa 5) (Aa 6) (Aa 7) (Aa 8) (Av 0) (Av 1) (Av 2) (Av 3) (Av 4) (Av 5) (Af 1) (Af 2) (Af 3) (Af 4) (Af 5) (Af 6) (Af 7) (Af 8) x1) k_591 k_894 k_589 k_590 k_98 pl_X9_hasBuyer ⟨Nat.le_of_ble_eq_true rfl, Nat.le_of_ble_eq_true rfl⟩ rfl rfl (va_recv hK hP (ci := 9) (q0 := 12) rfl rfl) hP hD hS [12, 13, 14, 15, 16, 17, 18, 19, 20] [0, 1, 2, 3, 4, 5, 6, 7, 8, 9, 10, 11] rfl rfl rfl rfl rfl (by decide) rfl hl.1 rfl (Nat.le_of_ble_eq_true rfl) dX1_gain_2 ⟨Nat.le_of_ble_eq_true rfl, Nat.le_of_ble_eq_true rfl⟩ (fun v_1 u_2 H locs hv_3 hP hD hS => ?_)
  obtain ⟨r_4, rfl, he_5⟩ := hv_3
  have he_5 : ((r_4.toInt = 0 ∨ (r_4.toInt = 1 ∧ 0 ≤ x1.toInt ∧ x1.toInt < 6 ∧ x1.toInt < (Av 3).toInt))) := he_5
  refine W.eq (g2 := F0 m 5 ls [.int r_4]) rfl ?_
  have hP : va_P D classes [((Ca 0), .inr (1, [.ref (Ta 0), .ref (Ca 2), .ref (Ca 3)])), ((Ca 2), .inl (tc 0, 25, .inl (Cf 2))), ((Ca 3), .inl (tc 0, 25, .inl (Cf 3))), ((Ta 0), .inr (9, [.int (Tv 0), .int (Tv 1), .int (Tv 2), .int (Tv 3), .int (Tv 4), .int (Tv 5), .ref (Ta 1), .ref (Ta 2), .ref (Ta 3), .ref (Ta 4), .ref (Ta 5), .ref (Ta 6), .ref (Ta 7), .ref (Ta 8)])), ((Ta 1), .inl (tc 0, 10, .inl (Tf 1))), ((Ta 2), .inl (tc 0, 10, .inl (Tf 2))), ((Ta 3), .inl (tc 0, 6, .inl (Tf 3))), ((Ta 4), .inl (tc 0, 6, .inl (Tf 4))), ((Ta 5), .inl (tc 0, 6, .inl (Tf 5))), ((Ta 6), .inl (tc 0, 6, .inl (Tf 6))), ((Ta 7), .inl (tc 0, 6, .inl (Tf 7))), ((Ta 8), .inl (tc 0, 6, .inl (Tf 8))), ((Aa 0), .inr (9, [.int (Av 0), .int (Av 1), .int (Av 2), .int (Av 3), .int (Av 4), .int (Av 5), .ref (Aa 1), .ref (Aa 2), .ref (Aa 3), .ref (Aa 4), .ref (Aa 5), .ref (Aa 6), .ref (Aa 7), .ref (Aa 8)])), ((Aa 1), .inl (tc 0, 10, .inl (Af 1))), ((Aa 2), .inl (tc 0, 10, .inl (Af 2))), ((Aa 3), .inl (tc 0, 6, .inl (Af 3))), ((Aa 4), .inl (tc 0, 6, .inl (Af 4))), ((Aa 5), .inl (tc 0, 6, .inl (Af 5))), ((Aa 6), .inl (tc 0, 6, .inl (Af 6))), ((Aa 7), .inl (tc 0, 6, .inl (Af 7))), ((Aa 8), .inl (tc 0, 6, .inl (Af 8)))] H := hP
  have hD : va_D A [((Ca 0), .inr (1, [.ref (Ta 0), .ref (Ca 2), .ref (Ca 3)])), ((Ca 2), .inl (tc 0, 25, .inl (Cf 2))), ((Ca 3), .inl (tc 0, 25, .inl (Cf 3))), ((Ta 0), .inr (9, [.int (Tv 0), .int (Tv 1), .int (Tv 2), .int (Tv 3), .int (Tv 4), .int (Tv 5), .ref (Ta 1), .ref (Ta 2), .ref (Ta 3), .ref (Ta 4), .ref (Ta 5), .ref (Ta 6), .ref (Ta 7), .ref (Ta 8)])), ((Ta 1), .inl (tc 0, 10, .inl (Tf 1))), ((Ta 2), .inl (tc 0, 10, .inl (Tf 2))), ((Ta 3), .inl (tc 0, 6, .inl (Tf 3))), ((Ta 4), .inl (tc 0, 6, .inl (Tf 4))), ((Ta 5), .inl (tc 0, 6, .inl (Tf 5))), ((Ta 6), .inl (tc 0, 6, .inl (Tf 6))), ((Ta 7), .inl (tc 0, 6, .inl (Tf 7))), ((Ta 8), .inl (tc 0, 6, .inl (Tf 8))), ((Aa 0), .inr (9, [.int (Av 0), .int (Av 1), .int (Av 2), .int (Av 3), .int (Av 4), .int (Av 5), .ref (Aa 1), .ref (Aa 2), .ref (Aa 3), .ref (Aa 4), .ref (Aa 5), .ref (Aa 6), .ref (Aa 7), .ref (Aa 8)])), ((Aa 1), .inl (tc 0, 10, .inl (Af 1))), ((Aa 2), .inl (tc 0, 10, .inl (Af 2))), ((Aa 3), .inl (tc 0, 6, .inl (Af 3))), ((Aa 4), .inl (tc 0, 6, .inl (Af 4))), ((Aa 5), .inl (tc 0, 6, .inl (Af 5))), ((Aa 6), .inl (tc 0, 6, .inl (Af 6))), ((Aa 7), .inl (tc 0, 6, .inl (Af 7))), ((Aa 8), .inl (tc 0, 6, .inl (Af 8)))] := hD
  refine lv_if_ne (tgt := 10) hx hb dX1_gain_5 (by decide) (fun c_6 => ?_) (fun c_6 => ?_)
  · skip
    refine lv_aload_n hx hb dX1_gain_10 rfl (lv_at hl 0 rfl) ?_
    refine gf_X1_12 hx hb hts hown hK hP 0 rfl rfl dX1_gain_11 ?_
    refine gf_X1_82 hx hb hts hown hK hP 3 rfl rfl dX1_gain_14 ?_
    refine lv_iload_n hx hb dX1_gain_17 rfl (lv_at hl 2 rfl) ?_
    have hi_7 : vp_in x1 6 := by
      have z_1 : ¬ (r_4 : Int32).toInt = (0 : Int32).toInt := fun z => c_6 (Int32.toInt_inj.mp z)
      have y_0 : (0 : Int32).toInt = 0 := by decide
      refine vp_in_iff.mpr ⟨?_, ?_⟩ <;> omega
    refine va_iald hx hb hK hP 9 0 rfl rfl hi_7 dX1_gain_18 ?_
    refine lv_topi (fun x_8 ex_8 => ?_)
    refine lv_aload_n hx hb dX1_gain_19 rfl (lv_at hl 1 rfl) ?_
    refine gf_X1_82 hx hb hts hown hK hP 12 rfl rfl dX1_gain_20 ?_
    refine lv_iload_n hx hb dX1_gain_23 rfl (lv_at hl 2 rfl) ?_
    have hi_9 : vp_in x1 6 := by
      have z_1 : ¬ (r_4 : Int32).toInt = (0 : Int32).toInt := fun z => c_6 (Int32.toInt_inj.mp z)
      have y_0 : (0 : Int32).toInt = 0 := by decide
      refine vp_in_iff.mpr ⟨?_, ?_⟩ <;> omega
    refine va_iald hx hb hK hP 18 0 rfl rfl hi_9 dX1_gain_24 ?_
    refine lv_topi (fun x_10 ex_10 => ?_)
    refine lv_isub hx hb dX1_gain_25 ?_
    refine lv_topi (fun x_11 ex_11 => ?_)
    refine lv_istore_n (lv' := [(3, .int x_11), (0, .ref (Ca 0)), (1, .ref (Aa 0)), (2, .int x1)]) hx hb dX1_gain_26 rfl hl (by decide) rfl (fun ls hl => ?_)
    refine lv_iload_n hx hb dX1_gain_27 rfl (lv_at hl 0 rfl) ?_
    refine lv_iconst (v := 4) hx hb dX1_gain_28 (by decide) ?_
    refine lv_aload_n hx hb dX1_gain_29 rfl (lv_at hl 1 rfl) ?_
    refine gf_X1_12 hx hb hts hown hK hP 0 rfl rfl dX1_gain_30 ?_
    refine gf_X1_85 hx hb hts hown hK hP 3 rfl rfl dX1_gain_33 ?_
    refine lv_iload_n hx hb dX1_gain_36 rfl (lv_at hl 3 rfl) ?_
    have hi_12 : vp_in x1 6 := by
      have z_1 : ¬ (r_4 : Int32).toInt = (0 : Int32).toInt := fun z => c_6 (Int32.toInt_inj.mp z)
      have y_0 : (0 : Int32).toInt = 0 := by decide
      refine vp_in_iff.mpr ⟨?_, ?_⟩ <;> omega
    refine va_iald hx hb hK hP 10 0 rfl rfl hi_12 dX1_gain_37 ?_
    refine lv_topi (fun x_13 ex_13 => ?_)
    refine lv_aload_n hx hb dX1_gain_38 rfl (lv_at hl 2 rfl) ?_
    refine gf_X1_85 hx hb hts hown hK hP 12 rfl rfl dX1_gain_39 ?_
    refine lv_iload_n hx hb dX1_gain_42 rfl (lv_at hl 3 rfl) ?_
    have hi_14 : vp_in x1 6 := by
      have z_1 : ¬ (r_4 : Int32).toInt = (0 : Int32).toInt := fun z => c_6 (Int32.toInt_inj.mp z)
      have y_0 : (0 : Int32).toInt = 0 := by decide
      refine vp_in_iff.mpr ⟨?_, ?_⟩ <;> omega
    refine va_iald hx hb hK hP 19 0 rfl rfl hi_14 dX1_gain_43 ?_
    refine lv_topi (fun x_15 ex_15 => ?_)
    refine lv_isub hx hb dX1_gain_44 ?_
    refine lv_topi (fun x_16 ex_16 => ?_)
    refine lv_imul hx hb dX1_gain_45 ?_
    refine lv_topi (fun x_17 ex_17 => ?_)
    refine lv_isub hx hb dX1_gain_46 ?_
    refine lv_topi (fun x_18 ex_18 => ?_)
    exact retI (v := x_18) hx hb hr hlk (rfl) hP hD hS () ⟨_, rfl, trivial⟩ [0, 1, 2, 3, 4, 5, 6, 7, 8, 9, 10, 11, 12, 13, 14, 15, 16, 17, 18, 19, 20] rfl rfl dX1_gain_47 (Nat.le_of_ble_eq_true rfl) (Nat.le_of_ble_eq_true rfl) rfl
  · skip
    refine lv_iconst (v := 0) hx hb dX1_gain_8 (by decide) ?_
    exact retI (v := 0) hx hb hr hlk (rfl) hP hD hS () ⟨_, rfl, trivial⟩ [0, 1, 2, 3, 4, 5, 6, 7, 8, 9, 10, 11, 12, 13, 14, 15, 16, 17, 18, 19, 20] rfl rfl dX1_gain_9 (Nat.le_of_ble_eq_true rfl) (Nat.le_of_ble_eq_true rfl) rfl
set_option maxRecDepth 100000 in
theorem cu_X1_gain (l : Launch) (D : va_G) (tc : Nat → ClassId) (sk : (Nat → Nat) × (Nat → Nat)) (Ca_0 : Nat) (Ca_2 : Nat) (Ca_3 : Nat) (Cf_2 : Nat → Int32) (Cf_3 : Nat → Int32) (Ta_0 : Nat) (Ta_1 : Nat) (Ta_2 : Nat) (Ta_3 : Nat) (Ta_4 : Nat) (Ta_5 : Nat) (Ta_6 : Nat) (Ta_7 : Nat) (Ta_8 : Nat) (Tv_0 : Int32) (Tv_1 : Int32) (Tv_2 : Int32) (Tv_3 : Int32) (Tv_4 : Int32) (Tv_5 : Int32) (Tf_1 : Nat → Int32) (Tf_2 : Nat → Int32) (Tf_3 : Nat → Int32) (Tf_4 : Nat → Int32) (Tf_5 : Nat → Int32) (Tf_6 : Nat → Int32) (Tf_7 : Nat → Int32) (Tf_8 : Nat → Int32) (Aa_0 : Nat) (Aa_1 : Nat) (Aa_2 : Nat) (Aa_3 : Nat) (Aa_4 : Nat) (Aa_5 : Nat) (Aa_6 : Nat) (Aa_7 : Nat) (Aa_8 : Nat) (Av_0 : Int32) (Av_1 : Int32) (Av_2 : Int32) (Av_3 : Int32) (Av_4 : Int32) (Av_5 : Int32) (Af_1 : Nat → Int32) (Af_2 : Nat → Int32) (Af_3 : Nat → Int32) (Af_4 : Nat → Int32) (Af_5 : Nat → Int32) (Af_6 : Nat → Int32) (Af_7 : Nat → Int32) (Af_8 : Nat → Int32) (x1 : Int32)  : Ct l yX1_gain cX1_gain 4 (some .int) { frames := 1, cells := 0, slots := 0, locals := 21 } D tc sk [.ref Ca_0, .ref Aa_0, .int x1] [(Ca_0, .inr (1, [.ref Ta_0, .ref Ca_2, .ref Ca_3])), (Ca_2, .inl (tc 0, 25, .inl Cf_2)), (Ca_3, .inl (tc 0, 25, .inl Cf_3)), (Ta_0, .inr (9, [.int Tv_0, .int Tv_1, .int Tv_2, .int Tv_3, .int Tv_4, .int Tv_5, .ref Ta_1, .ref Ta_2, .ref Ta_3, .ref Ta_4, .ref Ta_5, .ref Ta_6, .ref Ta_7, .ref Ta_8])), (Ta_1, .inl (tc 0, 10, .inl Tf_1)), (Ta_2, .inl (tc 0, 10, .inl Tf_2)), (Ta_3, .inl (tc 0, 6, .inl Tf_3)), (Ta_4, .inl (tc 0, 6, .inl Tf_4)), (Ta_5, .inl (tc 0, 6, .inl Tf_5)), (Ta_6, .inl (tc 0, 6, .inl Tf_6)), (Ta_7, .inl (tc 0, 6, .inl Tf_7)), (Ta_8, .inl (tc 0, 6, .inl Tf_8)), (Aa_0, .inr (9, [.int Av_0, .int Av_1, .int Av_2, .int Av_3, .int Av_4, .int Av_5, .ref Aa_1, .ref Aa_2, .ref Aa_3, .ref Aa_4, .ref Aa_5, .ref Aa_6, .ref Aa_7, .ref Aa_8])), (Aa_1, .inl (tc 0, 10, .inl Af_1)), (Aa_2, .inl (tc 0, 10, .inl Af_2)), (Aa_3, .inl (tc 0, 6, .inl Af_3)), (Aa_4, .inl (tc 0, 6, .inl Af_4)), (Aa_5, .inl (tc 0, 6, .inl Af_5)), (Aa_6, .inl (tc 0, 6, .inl Af_6)), (Aa_7, .inl (tc 0, 6, .inl Af_7)), (Aa_8, .inl (tc 0, 6, .inl Af_8))] (fun (v : Option Value) (_ : Unit) => ∃ r : Int32, v = some (.int r) ∧ (True)) (fun (_ : Unit) => [(Ca_0, .inr (1, [.ref Ta_0, .ref Ca_2, .ref Ca_3])), (Ca_2, .inl (tc 0, 25, .inl Cf_2)), (Ca_3, .inl (tc 0, 25, .inl Cf_3)), (Ta_0, .inr (9, [.int Tv_0, .int Tv_1, .int Tv_2, .int Tv_3, .int Tv_4, .int Tv_5, .ref Ta_1, .ref Ta_2, .ref Ta_3, .ref Ta_4, .ref Ta_5, .ref Ta_6, .ref Ta_7, .ref Ta_8])), (Ta_1, .inl (tc 0, 10, .inl Tf_1)), (Ta_2, .inl (tc 0, 10, .inl Tf_2)), (Ta_3, .inl (tc 0, 6, .inl Tf_3)), (Ta_4, .inl (tc 0, 6, .inl Tf_4)), (Ta_5, .inl (tc 0, 6, .inl Tf_5)), (Ta_6, .inl (tc 0, 6, .inl Tf_6)), (Ta_7, .inl (tc 0, 6, .inl Tf_7)), (Ta_8, .inl (tc 0, 6, .inl Tf_8)), (Aa_0, .inr (9, [.int Av_0, .int Av_1, .int Av_2, .int Av_3, .int Av_4, .int Av_5, .ref Aa_1, .ref Aa_2, .ref Aa_3, .ref Aa_4, .ref Aa_5, .ref Aa_6, .ref Aa_7, .ref Aa_8])), (Aa_1, .inl (tc 0, 10, .inl Af_1)), (Aa_2, .inl (tc 0, 10, .inl Af_2)), (Aa_3, .inl (tc 0, 6, .inl Af_3)), (Aa_4, .inl (tc 0, 6, .inl Af_4)), (Aa_5, .inl (tc 0, 6, .inl Af_5)), (Aa_6, .inl (tc 0, 6, .inl Af_6)), (Aa_7, .inl (tc 0, 6, .inl Af_7)), (Aa_8, .inl (tc 0, 6, .inl Af_8))]) 0 0 :=
  ct_X1_gain l D tc sk (fun k => ([Ca_0, 0, Ca_2, Ca_3] : List (Nat)).getD k 0) (fun k => ([(fun _ => 0), (fun _ => 0), Cf_2, Cf_3] : List (Nat → Int32)).getD k (fun _ => 0)) (fun k => ([Ta_0, Ta_1, Ta_2, Ta_3, Ta_4, Ta_5, Ta_6, Ta_7, Ta_8] : List (Nat)).getD k 0) (fun k => ([Tv_0, Tv_1, Tv_2, Tv_3, Tv_4, Tv_5] : List (Int32)).getD k 0) (fun k => ([(fun _ => 0), Tf_1, Tf_2, Tf_3, Tf_4, Tf_5, Tf_6, Tf_7, Tf_8] : List (Nat → Int32)).getD k (fun _ => 0)) (fun k => ([Aa_0, Aa_1, Aa_2, Aa_3, Aa_4, Aa_5, Aa_6, Aa_7, Aa_8] : List (Nat)).getD k 0) (fun k => ([Av_0, Av_1, Av_2, Av_3, Av_4, Av_5] : List (Int32)).getD k 0) (fun k => ([(fun _ => 0), Af_1, Af_2, Af_3, Af_4, Af_5, Af_6, Af_7, Af_8] : List (Nat → Int32)).getD k (fun _ => 0)) x1 
set_option maxHeartbeats 4000000 in
set_option maxRecDepth 100000 in
theorem ct_X1_isRest (l : Launch) (D : va_G) (tc : Nat → ClassId) (sk : (Nat → Nat) × (Nat → Nat)) (Ca : Nat → Nat) (Cf : Nat → Nat → Int32) (Ta : Nat → Nat) (Tv : Nat → Int32) (Tf : Nat → Nat → Int32) (x1 : Int32)  : Ct l yX1_isRest cX1_isRest 5 (some .boolean) { frames := 0, cells := 0, slots := 0, locals := 0 } D tc sk [.ref (Ca 0), .int x1] [((Ca 0), .inr (1, [.ref (Ta 0), .ref (Ca 2), .ref (Ca 3)])), ((Ca 2), .inl (tc 0, 25, .inl (Cf 2))), ((Ca 3), .inl (tc 0, 25, .inl (Cf 3))), ((Ta 0), .inr (9, [.int (Tv 0), .int (Tv 1), .int (Tv 2), .int (Tv 3), .int (Tv 4), .int (Tv 5), .ref (Ta 1), .ref (Ta 2), .ref (Ta 3), .ref (Ta 4), .ref (Ta 5), .ref (Ta 6), .ref (Ta 7), .ref (Ta 8)])), ((Ta 1), .inl (tc 0, 10, .inl (Tf 1))), ((Ta 2), .inl (tc 0, 10, .inl (Tf 2))), ((Ta 3), .inl (tc 0, 6, .inl (Tf 3))), ((Ta 4), .inl (tc 0, 6, .inl (Tf 4))), ((Ta 5), .inl (tc 0, 6, .inl (Tf 5))), ((Ta 6), .inl (tc 0, 6, .inl (Tf 6))), ((Ta 7), .inl (tc 0, 6, .inl (Tf 7))), ((Ta 8), .inl (tc 0, 6, .inl (Tf 8)))] (fun (v : Option Value) (_ : Unit) => ∃ r : Int32, v = some (.int r) ∧ ((r.toInt = 0 ∨ r.toInt = 1))) (fun (_ : Unit) => [((Ca 0), .inr (1, [.ref (Ta 0), .ref (Ca 2), .ref (Ca 3)])), ((Ca 2), .inl (tc 0, 25, .inl (Cf 2))), ((Ca 3), .inl (tc 0, 25, .inl (Cf 3))), ((Ta 0), .inr (9, [.int (Tv 0), .int (Tv 1), .int (Tv 2), .int (Tv 3), .int (Tv 4), .int (Tv 5), .ref (Ta 1), .ref (Ta 2), .ref (Ta 3), .ref (Ta 4), .ref (Ta 5), .ref (Ta 6), .ref (Ta 7), .ref (Ta 8)])), ((Ta 1), .inl (tc 0, 10, .inl (Tf 1))), ((Ta 2), .inl (tc 0, 10, .inl (Tf 2))), ((Ta 3), .inl (tc 0, 6, .inl (Tf 3))), ((Ta 4), .inl (tc 0, 6, .inl (Tf 4))), ((Ta 5), .inl (tc 0, 6, .inl (Tf 5))), ((Ta 6), .inl (tc 0, 6, .inl (Tf 6))), ((Ta 7), .inl (tc 0, 6, .inl (Tf 7))), ((Ta 8), .inl (tc 0, 6, .inl (Tf 8)))]) 0 0 := by
  refine Ct.start (by decide) (Nat.le_of_ble_eq_true rfl) (fun p e s m below meth c A ls hx hb hr hlk hin hml hown hts hK hX hP hD hA hl hS => ?_)
  have hl : lv_has ls 5 [(0, .ref (Ca 0)), (1, .int x1)] := hl
  refine lv_iload_n hx hb dX1_isRest_0 rfl (lv_at hl 1 rfl) ?_
  refine lv_if_lt (tgt := 10) hx hb dX1_isRest_1 (by decide) (fun c_1 => ?_) (fun c_1 => ?_)
  · skip
    refine lv_iconst (v := 0) hx hb dX1_isRest_10 (by decide) ?_
    have hp_2 : ((0 : Int32).toInt = 0 ∨ (0 : Int32).toInt = 1) := by
      have z_1 := Int32.lt_iff_toInt_lt.mp c_1
      have y_0 : (0 : Int32).toInt = 0 := by decide
      omega
    exact retI (v := 0) hx hb hr hlk (rfl) hP hD hS () ⟨_, rfl, hp_2⟩ [0, 1, 2, 3, 4, 5, 6, 7, 8, 9, 10, 11] rfl rfl dX1_isRest_11 (Nat.le_of_ble_eq_true rfl) (Nat.le_of_ble_eq_true rfl) rfl
  · skip
    refine lv_iload_n hx hb dX1_isRest_4 rfl (lv_at hl 1 rfl) ?_
    refine lv_bipush (v := 25) hx hb dX1_isRest_5 (by decide) ?_
    refine lv_icmp_lt (tgt := 12) hx hb dX1_isRest_7 (by decide) (fun c_3 => ?_) (fun c_3 => ?_)
    · skip
      refine lv_iload_n hx hb dX1_isRest_12 rfl (lv_at hl 1 rfl) ?_
      refine lv_iconst (v := 5) hx hb dX1_isRest_13 (by decide) ?_
      refine lv_idiv hx hb dX1_isRest_14 (by decide) ?_
      refine lv_topi (fun x_4 ex_4 => ?_)
      refine lv_istore_n (lv' := [(2, .int x_4), (0, .ref (Ca 0)), (1, .int x1)]) hx hb dX1_isRest_15 rfl hl (by decide) rfl (fun ls hl => ?_)
      refine lv_iload_n hx hb dX1_isRest_16 rfl (lv_at hl 2 rfl) ?_
      refine lv_iconst (v := 5) hx hb dX1_isRest_17 (by decide) ?_
      refine lv_irem hx hb dX1_isRest_18 (by decide) ?_
      refine lv_topi (fun x_5 ex_5 => ?_)
      refine lv_istore_n (lv' := [(3, .int x_5), (2, .int x_4), (0, .ref (Ca 0)), (1, .int x1)]) hx hb dX1_isRest_19 rfl hl (by decide) rfl (fun ls hl => ?_)
      refine lv_iconst (v := 0) hx hb dX1_isRest_20 (by decide) ?_
      refine lv_istore (lv' := [(4, .int 0), (3, .int x_5), (2, .int x_4), (0, .ref (Ca 0)), (1, .int x1)]) hx hb dX1_isRest_21 hl (by decide) rfl (fun ls hl => ?_)
      have loop_10 : ∀ (n_8 : Nat) (vy_7 : Int32) (H : Heap) (locs : List Loc) (ls : Array Slot), 0 ≤ (vy_7 : Int32).toInt → (5 - (vy_7 : Int32).toInt).toNat < n_8 → va_P D classes [((Ca 0), .inr (1, [.ref (Ta 0), .ref (Ca 2), .ref (Ca 3)])), ((Ca 2), .inl (tc 0, 25, .inl (Cf 2))), ((Ca 3), .inl (tc 0, 25, .inl (Cf 3))), ((Ta 0), .inr (9, [.int (Tv 0), .int (Tv 1), .int (Tv 2), .int (Tv 3), .int (Tv 4), .int (Tv 5), .ref (Ta 1), .ref (Ta 2), .ref (Ta 3), .ref (Ta 4), .ref (Ta 5), .ref (Ta 6), .ref (Ta 7), .ref (Ta 8)])), ((Ta 1), .inl (tc 0, 10, .inl (Tf 1))), ((Ta 2), .inl (tc 0, 10, .inl (Tf 2))), ((Ta 3), .inl (tc 0, 6, .inl (Tf 3))), ((Ta 4), .inl (tc 0, 6, .inl (Tf 4))), ((Ta 5), .inl (tc 0, 6, .inl (Tf 5))), ((Ta 6), .inl (tc 0, 6, .inl (Tf 6))), ((Ta 7), .inl (tc 0, 6, .inl (Tf 7))), ((Ta 8), .inl (tc 0, 6, .inl (Tf 8)))] H → va_D A [((Ca 0), .inr (1, [.ref (Ta 0), .ref (Ca 2), .ref (Ca 3)])), ((Ca 2), .inl (tc 0, 25, .inl (Cf 2))), ((Ca 3), .inl (tc 0, 25, .inl (Cf 3))), ((Ta 0), .inr (9, [.int (Tv 0), .int (Tv 1), .int (Tv 2), .int (Tv 3), .int (Tv 4), .int (Tv 5), .ref (Ta 1), .ref (Ta 2), .ref (Ta 3), .ref (Ta 4), .ref (Ta 5), .ref (Ta 6), .ref (Ta 7), .ref (Ta 8)])), ((Ta 1), .inl (tc 0, 10, .inl (Tf 1))), ((Ta 2), .inl (tc 0, 10, .inl (Tf 2))), ((Ta 3), .inl (tc 0, 6, .inl (Tf 3))), ((Ta 4), .inl (tc 0, 6, .inl (Tf 4))), ((Ta 5), .inl (tc 0, 6, .inl (Tf 5))), ((Ta 6), .inl (tc 0, 6, .inl (Tf 6))), ((Ta 7), .inl (tc 0, 6, .inl (Tf 7))), ((Ta 8), .inl (tc 0, 6, .inl (Tf 8)))] → va_S A s.heap H locs → lv_has ls 5 [(4, .int vy_7), (3, .int x_5), (2, .int x_4), (0, .ref (Ca 0)), (1, .int x1)] → W p l e ({ frames := 0, cells := 0, slots := 0, locals := 0 }) s m ([.ref (Ca 0), .int x1].toArray) below meth c H locs 0 0 (MQ below (QW (fun (v : Option Value) (_ : Unit) => ∃ r : Int32, v = some (.int r) ∧ ((r.toInt = 0 ∨ r.toInt = 1))) (BW D (fun (_ : Unit) => [((Ca 0), .inr (1, [.ref (Ta 0), .ref (Ca 2), .ref (Ca 3)])), ((Ca 2), .inl (tc 0, 25, .inl (Cf 2))), ((Ca 3), .inl (tc 0, 25, .inl (Cf 3))), ((Ta 0), .inr (9, [.int (Tv 0), .int (Tv 1), .int (Tv 2), .int (Tv 3), .int (Tv 4), .int (Tv 5), .ref (Ta 1), .ref (Ta 2), .ref (Ta 3), .ref (Ta 4), .ref (Ta 5), .ref (Ta 6), .ref (Ta 7), .ref (Ta 8)])), ((Ta 1), .inl (tc 0, 10, .inl (Tf 1))), ((Ta 2), .inl (tc 0, 10, .inl (Tf 2))), ((Ta 3), .inl (tc 0, 6, .inl (Tf 3))), ((Ta 4), .inl (tc 0, 6, .inl (Tf 4))), ((Ta 5), .inl (tc 0, 6, .inl (Tf 5))), ((Ta 6), .inl (tc 0, 6, .inl (Tf 6))), ((Ta 7), .inl (tc 0, 6, .inl (Tf 7))), ((Ta 8), .inl (tc 0, 6, .inl (Tf 8)))]) A) A) ([.ref (Ca 0), .int x1].toArray) s 0 0 A) (F0 m 23 ls []) := by
        intro n_8
        induction n_8 with
        | zero =>
          intro vy_7 H locs ls h1 h2
          exact absurd h2 (Nat.not_lt_zero _)
        | succ n_8 ih_9 =>
          intro vy_7 H locs ls hi_12 hn_13 hP hD hS hl
          refine lv_iload hx hb dX1_isRest_23 (lv_at hl 0 rfl) ?_
          refine lv_iconst (v := 5) hx hb dX1_isRest_25 (by decide) ?_
          refine lv_icmp_ge (tgt := 77) hx hb dX1_isRest_26 (by decide) (fun c_14 => ?_) (fun c_14 => ?_)
          · skip
            refine lv_iconst (v := 1) hx hb dX1_isRest_77 (by decide) ?_
            have hp_15 : ((1 : Int32).toInt = 0 ∨ (1 : Int32).toInt = 1) := by
              have z_1 := Int32.le_iff_toInt_le.mp (Int32.not_lt.mp c_1)
              have z_2 := Int32.lt_iff_toInt_lt.mp c_3
              have z_3 := Int32.le_iff_toInt_le.mp c_14
              have y_0 : (0 : Int32).toInt = 0 := by decide
              have y_5 : (5 : Int32).toInt = 5 := by decide
              have y_25 : (25 : Int32).toInt = 25 := by decide
              have y_1 : (1 : Int32).toInt = 1 := by decide
              have yr : (1 : Int32).toInt = 1 := by decide
              omega
            exact retI (v := 1) hx hb hr hlk (rfl) hP hD hS () ⟨_, rfl, hp_15⟩ [0, 1, 2, 3, 4, 5, 6, 7, 8, 9, 10, 11] rfl rfl dX1_isRest_78 (Nat.le_of_ble_eq_true rfl) (Nat.le_of_ble_eq_true rfl) rfl
          · skip
            refine lv_aload_n hx hb dX1_isRest_29 rfl (lv_at hl 3 rfl) ?_
            refine gf_X1_18 hx hb hts hown hK hP 0 rfl rfl dX1_isRest_30 ?_
            refine lv_iload hx hb dX1_isRest_33 (lv_at hl 0 rfl) ?_
            refine lv_iconst (v := 5) hx hb dX1_isRest_35 (by decide) ?_
            refine lv_imul hx hb dX1_isRest_36 ?_
            refine lv_topi (fun x_16 ex_16 => ?_)
            refine lv_iload_n hx hb dX1_isRest_37 rfl (lv_at hl 1 rfl) ?_
            refine lv_iadd hx hb dX1_isRest_38 ?_
            refine lv_topi (fun x_17 ex_17 => ?_)
            have hi_18 : vp_in x_17 25 := by
              have z_1 := Int32.le_iff_toInt_le.mp (Int32.not_lt.mp c_1)
              have z_2 := Int32.lt_iff_toInt_lt.mp c_3
              have z_3 := Int32.lt_iff_toInt_lt.mp (Int32.not_le.mp c_14)
              have y_0 : (0 : Int32).toInt = 0 := by decide
              have y_5 : (5 : Int32).toInt = 5 := by decide
              have y_25 : (25 : Int32).toInt = 25 := by decide
              have t_x_16 : x_16.toInt = (vy_7 : Int32).toInt * (5 : Int32).toInt := by rw [ex_16]; exact mul_toInt (by first | omega | (rw [y_5]; omega)) (by first | omega | (rw [y_5]; omega))
              rw [y_5] at t_x_16
              have t_x_5 := rem_bounds (x := x1) (y := 5) (by omega)
              rw [← ex_5] at t_x_5
              have t_x_17 : x_17.toInt = (x_16 : Int32).toInt + (x_5 : Int32).toInt := by rw [ex_17]; exact add_toInt (by omega) (by omega)
              refine vp_in_iff.mpr ⟨?_, ?_⟩ <;> omega
            refine va_iald hx hb hK hP 1 0 rfl rfl hi_18 dX1_isRest_39 ?_
            refine lv_topi (fun x_19 ex_19 => ?_)
            refine lv_aload_n hx hb dX1_isRest_40 rfl (lv_at hl 3 rfl) ?_
            refine gf_X1_18 hx hb hts hown hK hP 0 rfl rfl dX1_isRest_41 ?_
            refine lv_iload_n hx hb dX1_isRest_44 rfl (lv_at hl 4 rfl) ?_
            have hi_20 : vp_in x1 25 := by
              have z_1 := Int32.le_iff_toInt_le.mp (Int32.not_lt.mp c_1)
              have z_2 := Int32.lt_iff_toInt_lt.mp c_3
              have z_3 := Int32.lt_iff_toInt_lt.mp (Int32.not_le.mp c_14)
              have y_0 : (0 : Int32).toInt = 0 := by decide
              have y_5 : (5 : Int32).toInt = 5 := by decide
              have y_25 : (25 : Int32).toInt = 25 := by decide
              refine vp_in_iff.mpr ⟨?_, ?_⟩ <;> omega
            refine va_iald hx hb hK hP 1 0 rfl rfl hi_20 dX1_isRest_45 ?_
            refine lv_topi (fun x_21 ex_21 => ?_)
            refine lv_icmp_gt (tgt := 69) hx hb dX1_isRest_46 (by decide) (fun c_22 => ?_) (fun c_22 => ?_)
            · skip
              refine lv_iconst (v := 0) hx hb dX1_isRest_69 (by decide) ?_
              have hp_23 : ((0 : Int32).toInt = 0 ∨ (0 : Int32).toInt = 1) := by
                have z_1 := Int32.le_iff_toInt_le.mp (Int32.not_lt.mp c_1)
                have z_2 := Int32.lt_iff_toInt_lt.mp c_3
                have z_3 := Int32.lt_iff_toInt_lt.mp (Int32.not_le.mp c_14)
                have z_4 := Int32.lt_iff_toInt_lt.mp c_22
                have y_0 : (0 : Int32).toInt = 0 := by decide
                have y_5 : (5 : Int32).toInt = 5 := by decide
                have y_25 : (25 : Int32).toInt = 25 := by decide
                omega
              exact retI (v := 0) hx hb hr hlk (rfl) hP hD hS () ⟨_, rfl, hp_23⟩ [0, 1, 2, 3, 4, 5, 6, 7, 8, 9, 10, 11] rfl rfl dX1_isRest_70 (Nat.le_of_ble_eq_true rfl) (Nat.le_of_ble_eq_true rfl) rfl
            · skip
              refine lv_aload_n hx hb dX1_isRest_49 rfl (lv_at hl 3 rfl) ?_
              refine gf_X1_22 hx hb hts hown hK hP 0 rfl rfl dX1_isRest_50 ?_
              refine lv_iload_n hx hb dX1_isRest_53 rfl (lv_at hl 2 rfl) ?_
              refine lv_iconst (v := 5) hx hb dX1_isRest_54 (by decide) ?_
              refine lv_imul hx hb dX1_isRest_55 ?_
              refine lv_topi (fun x_24 ex_24 => ?_)
              refine lv_iload hx hb dX1_isRest_56 (lv_at hl 0 rfl) ?_
              refine lv_iadd hx hb dX1_isRest_58 ?_
              refine lv_topi (fun x_25 ex_25 => ?_)
              have hi_26 : vp_in x_25 25 := by
                have z_1 := Int32.le_iff_toInt_le.mp (Int32.not_lt.mp c_1)
                have z_2 := Int32.lt_iff_toInt_lt.mp c_3
                have z_3 := Int32.lt_iff_toInt_lt.mp (Int32.not_le.mp c_14)
                have z_4 := Int32.le_iff_toInt_le.mp (Int32.not_lt.mp c_22)
                have y_0 : (0 : Int32).toInt = 0 := by decide
                have y_5 : (5 : Int32).toInt = 5 := by decide
                have y_25 : (25 : Int32).toInt = 25 := by decide
                have t_x_4 := div_toInt (x := x1) (y := 5) (by omega) (by decide)
                rw [← ex_4, y_5] at t_x_4
                have t_x_24 : x_24.toInt = (x_4 : Int32).toInt * (5 : Int32).toInt := by rw [ex_24]; exact mul_toInt (by first | omega | (rw [y_5]; omega)) (by first | omega | (rw [y_5]; omega))
                rw [y_5] at t_x_24
                have t_x_25 : x_25.toInt = (x_24 : Int32).toInt + (vy_7 : Int32).toInt := by rw [ex_25]; exact add_toInt (by omega) (by omega)
                refine vp_in_iff.mpr ⟨?_, ?_⟩ <;> omega
              refine va_iald hx hb hK hP 2 0 rfl rfl hi_26 dX1_isRest_59 ?_
              refine lv_topi (fun x_27 ex_27 => ?_)
              refine lv_aload_n hx hb dX1_isRest_60 rfl (lv_at hl 3 rfl) ?_
              refine gf_X1_22 hx hb hts hown hK hP 0 rfl rfl dX1_isRest_61 ?_
              refine lv_iload_n hx hb dX1_isRest_64 rfl (lv_at hl 4 rfl) ?_
              have hi_28 : vp_in x1 25 := by
                have z_1 := Int32.le_iff_toInt_le.mp (Int32.not_lt.mp c_1)
                have z_2 := Int32.lt_iff_toInt_lt.mp c_3
                have z_3 := Int32.lt_iff_toInt_lt.mp (Int32.not_le.mp c_14)
                have z_4 := Int32.le_iff_toInt_le.mp (Int32.not_lt.mp c_22)
                have y_0 : (0 : Int32).toInt = 0 := by decide
                have y_5 : (5 : Int32).toInt = 5 := by decide
                have y_25 : (25 : Int32).toInt = 25 := by decide
                refine vp_in_iff.mpr ⟨?_, ?_⟩ <;> omega
              refine va_iald hx hb hK hP 2 0 rfl rfl hi_28 dX1_isRest_65 ?_
              refine lv_topi (fun x_29 ex_29 => ?_)
              refine lv_icmp_le (tgt := 71) hx hb dX1_isRest_66 (by decide) (fun c_30 => ?_) (fun c_30 => ?_)
              · skip
                obtain ⟨x_31, ex_31⟩ : ∃ y : Int32, y = vy_7 + 1 := ⟨_, rfl⟩
                refine lv_iinc (v := x_31) (lv' := [(4, .int x_31), (3, .int x_5), (2, .int x_4), (0, .ref (Ca 0)), (1, .int x1)]) hx hb dX1_isRest_71 hl (k := 0) rfl (by rw [ex_31]; rfl) (by decide) rfl (fun ls hl => ?_)
                refine lv_goto (tgt := 23) hx hb dX1_isRest_74 (by decide) ?_
                have hb_32 : 0 ≤ (x_31 : Int32).toInt ∧ (5 - (x_31 : Int32).toInt).toNat < n_8 := by
                  have z_1 := Int32.le_iff_toInt_le.mp (Int32.not_lt.mp c_1)
                  have z_2 := Int32.lt_iff_toInt_lt.mp c_3
                  have z_3 := Int32.lt_iff_toInt_lt.mp (Int32.not_le.mp c_14)
                  have z_4 := Int32.le_iff_toInt_le.mp (Int32.not_lt.mp c_22)
                  have z_5 := Int32.le_iff_toInt_le.mp c_30
                  have y_0 : (0 : Int32).toInt = 0 := by decide
                  have y_5 : (5 : Int32).toInt = 5 := by decide
                  have y_25 : (25 : Int32).toInt = 25 := by decide
                  have y_1 : (1 : Int32).toInt = 1 := by decide
                  have t_x_31 : x_31.toInt = (vy_7 : Int32).toInt + (1 : Int32).toInt := by rw [ex_31]; exact add_toInt (by omega) (by omega)
                  omega
                exact ih_9 x_31 _ _ _ hb_32.1 hb_32.2 (hP.sub [0, 1, 2, 3, 4, 5, 6, 7, 8, 9, 10, 11] rfl) (hD.sub [0, 1, 2, 3, 4, 5, 6, 7, 8, 9, 10, 11] rfl rfl) hS (lv_sub hl [0, 1, 2, 3, 4] rfl)
              · skip
                refine lv_iconst (v := 0) hx hb dX1_isRest_69 (by decide) ?_
                have hp_33 : ((0 : Int32).toInt = 0 ∨ (0 : Int32).toInt = 1) := by
                  have z_1 := Int32.le_iff_toInt_le.mp (Int32.not_lt.mp c_1)
                  have z_2 := Int32.lt_iff_toInt_lt.mp c_3
                  have z_3 := Int32.lt_iff_toInt_lt.mp (Int32.not_le.mp c_14)
                  have z_4 := Int32.le_iff_toInt_le.mp (Int32.not_lt.mp c_22)
                  have z_5 := Int32.lt_iff_toInt_lt.mp (Int32.not_le.mp c_30)
                  have y_0 : (0 : Int32).toInt = 0 := by decide
                  have y_5 : (5 : Int32).toInt = 5 := by decide
                  have y_25 : (25 : Int32).toInt = 25 := by decide
                  omega
                exact retI (v := 0) hx hb hr hlk (rfl) hP hD hS () ⟨_, rfl, hp_33⟩ [0, 1, 2, 3, 4, 5, 6, 7, 8, 9, 10, 11] rfl rfl dX1_isRest_70 (Nat.le_of_ble_eq_true rfl) (Nat.le_of_ble_eq_true rfl) rfl
      have h0_34 : 0 ≤ (0 : Int32).toInt := by
        have z_1 := Int32.le_iff_toInt_le.mp (Int32.not_lt.mp c_1)
        have z_2 := Int32.lt_iff_toInt_lt.mp c_3
        have y_0 : (0 : Int32).toInt = 0 := by decide
        have y_25 : (25 : Int32).toInt = 25 := by decide
        decide
      exact loop_10 _ 0 _ _ _ h0_34 (Nat.lt_succ_self _) hP hD hS hl
    · skip
      refine lv_iconst (v := 0) hx hb dX1_isRest_10 (by decide) ?_
      have hp_35 : ((0 : Int32).toInt = 0 ∨ (0 : Int32).toInt = 1) := by
        have z_1 := Int32.le_iff_toInt_le.mp (Int32.not_lt.mp c_1)
        have z_2 := Int32.le_iff_toInt_le.mp (Int32.not_lt.mp c_3)
        have y_0 : (0 : Int32).toInt = 0 := by decide
        have y_25 : (25 : Int32).toInt = 25 := by decide
        omega
      exact retI (v := 0) hx hb hr hlk (rfl) hP hD hS () ⟨_, rfl, hp_35⟩ [0, 1, 2, 3, 4, 5, 6, 7, 8, 9, 10, 11] rfl rfl dX1_isRest_11 (Nat.le_of_ble_eq_true rfl) (Nat.le_of_ble_eq_true rfl) rfl
set_option maxRecDepth 100000 in
theorem cu_X1_isRest (l : Launch) (D : va_G) (tc : Nat → ClassId) (sk : (Nat → Nat) × (Nat → Nat)) (Ca_0 : Nat) (Ca_2 : Nat) (Ca_3 : Nat) (Cf_2 : Nat → Int32) (Cf_3 : Nat → Int32) (Ta_0 : Nat) (Ta_1 : Nat) (Ta_2 : Nat) (Ta_3 : Nat) (Ta_4 : Nat) (Ta_5 : Nat) (Ta_6 : Nat) (Ta_7 : Nat) (Ta_8 : Nat) (Tv_0 : Int32) (Tv_1 : Int32) (Tv_2 : Int32) (Tv_3 : Int32) (Tv_4 : Int32) (Tv_5 : Int32) (Tf_1 : Nat → Int32) (Tf_2 : Nat → Int32) (Tf_3 : Nat → Int32) (Tf_4 : Nat → Int32) (Tf_5 : Nat → Int32) (Tf_6 : Nat → Int32) (Tf_7 : Nat → Int32) (Tf_8 : Nat → Int32) (x1 : Int32)  : Ct l yX1_isRest cX1_isRest 5 (some .boolean) { frames := 0, cells := 0, slots := 0, locals := 0 } D tc sk [.ref Ca_0, .int x1] [(Ca_0, .inr (1, [.ref Ta_0, .ref Ca_2, .ref Ca_3])), (Ca_2, .inl (tc 0, 25, .inl Cf_2)), (Ca_3, .inl (tc 0, 25, .inl Cf_3)), (Ta_0, .inr (9, [.int Tv_0, .int Tv_1, .int Tv_2, .int Tv_3, .int Tv_4, .int Tv_5, .ref Ta_1, .ref Ta_2, .ref Ta_3, .ref Ta_4, .ref Ta_5, .ref Ta_6, .ref Ta_7, .ref Ta_8])), (Ta_1, .inl (tc 0, 10, .inl Tf_1)), (Ta_2, .inl (tc 0, 10, .inl Tf_2)), (Ta_3, .inl (tc 0, 6, .inl Tf_3)), (Ta_4, .inl (tc 0, 6, .inl Tf_4)), (Ta_5, .inl (tc 0, 6, .inl Tf_5)), (Ta_6, .inl (tc 0, 6, .inl Tf_6)), (Ta_7, .inl (tc 0, 6, .inl Tf_7)), (Ta_8, .inl (tc 0, 6, .inl Tf_8))] (fun (v : Option Value) (_ : Unit) => ∃ r : Int32, v = some (.int r) ∧ ((r.toInt = 0 ∨ r.toInt = 1))) (fun (_ : Unit) => [(Ca_0, .inr (1, [.ref Ta_0, .ref Ca_2, .ref Ca_3])), (Ca_2, .inl (tc 0, 25, .inl Cf_2)), (Ca_3, .inl (tc 0, 25, .inl Cf_3)), (Ta_0, .inr (9, [.int Tv_0, .int Tv_1, .int Tv_2, .int Tv_3, .int Tv_4, .int Tv_5, .ref Ta_1, .ref Ta_2, .ref Ta_3, .ref Ta_4, .ref Ta_5, .ref Ta_6, .ref Ta_7, .ref Ta_8])), (Ta_1, .inl (tc 0, 10, .inl Tf_1)), (Ta_2, .inl (tc 0, 10, .inl Tf_2)), (Ta_3, .inl (tc 0, 6, .inl Tf_3)), (Ta_4, .inl (tc 0, 6, .inl Tf_4)), (Ta_5, .inl (tc 0, 6, .inl Tf_5)), (Ta_6, .inl (tc 0, 6, .inl Tf_6)), (Ta_7, .inl (tc 0, 6, .inl Tf_7)), (Ta_8, .inl (tc 0, 6, .inl Tf_8))]) 0 0 :=
  ct_X1_isRest l D tc sk (fun k => ([Ca_0, 0, Ca_2, Ca_3] : List (Nat)).getD k 0) (fun k => ([(fun _ => 0), (fun _ => 0), Cf_2, Cf_3] : List (Nat → Int32)).getD k (fun _ => 0)) (fun k => ([Ta_0, Ta_1, Ta_2, Ta_3, Ta_4, Ta_5, Ta_6, Ta_7, Ta_8] : List (Nat)).getD k 0) (fun k => ([Tv_0, Tv_1, Tv_2, Tv_3, Tv_4, Tv_5] : List (Int32)).getD k 0) (fun k => ([(fun _ => 0), Tf_1, Tf_2, Tf_3, Tf_4, Tf_5, Tf_6, Tf_7, Tf_8] : List (Nat → Int32)).getD k (fun _ => 0)) x1 
set_option maxHeartbeats 4000000 in
set_option maxRecDepth 100000 in
theorem ct_X1_restAnswer (l : Launch) (D : va_G) (tc : Nat → ClassId) (sk : (Nat → Nat) × (Nat → Nat)) (Ca : Nat → Nat) (Cf : Nat → Nat → Int32) (Ta : Nat → Nat) (Tv : Nat → Int32) (Tf : Nat → Nat → Int32) (x1 : Int32)  : Ct l yX1_restAnswer cX1_restAnswer 5 (some .int) { frames := 1, cells := 0, slots := 0, locals := 24 } D tc sk [.ref (Ca 0), .int x1] [((Ca 0), .inr (1, [.ref (Ta 0), .ref (Ca 2), .ref (Ca 3)])), ((Ca 2), .inl (tc 0, 25, .inl (Cf 2))), ((Ca 3), .inl (tc 0, 25, .inl (Cf 3))), ((Ta 0), .inr (9, [.int (Tv 0), .int (Tv 1), .int (Tv 2), .int (Tv 3), .int (Tv 4), .int (Tv 5), .ref (Ta 1), .ref (Ta 2), .ref (Ta 3), .ref (Ta 4), .ref (Ta 5), .ref (Ta 6), .ref (Ta 7), .ref (Ta 8)])), ((Ta 1), .inl (tc 0, 10, .inl (Tf 1))), ((Ta 2), .inl (tc 0, 10, .inl (Tf 2))), ((Ta 3), .inl (tc 0, 6, .inl (Tf 3))), ((Ta 4), .inl (tc 0, 6, .inl (Tf 4))), ((Ta 5), .inl (tc 0, 6, .inl (Tf 5))), ((Ta 6), .inl (tc 0, 6, .inl (Tf 6))), ((Ta 7), .inl (tc 0, 6, .inl (Tf 7))), ((Ta 8), .inl (tc 0, 6, .inl (Tf 8)))] (fun (v : Option Value) (_ : Unit) => ∃ r : Int32, v = some (.int r) ∧ (True)) (fun (_ : Unit) => [((Ca 0), .inr (1, [.ref (Ta 0), .ref (Ca 2), .ref (Ca 3)])), ((Ca 2), .inl (tc 0, 25, .inl (Cf 2))), ((Ca 3), .inl (tc 0, 25, .inl (Cf 3))), ((Ta 0), .inr (9, [.int (Tv 0), .int (Tv 1), .int (Tv 2), .int (Tv 3), .int (Tv 4), .int (Tv 5), .ref (Ta 1), .ref (Ta 2), .ref (Ta 3), .ref (Ta 4), .ref (Ta 5), .ref (Ta 6), .ref (Ta 7), .ref (Ta 8)])), ((Ta 1), .inl (tc 0, 10, .inl (Tf 1))), ((Ta 2), .inl (tc 0, 10, .inl (Tf 2))), ((Ta 3), .inl (tc 0, 6, .inl (Tf 3))), ((Ta 4), .inl (tc 0, 6, .inl (Tf 4))), ((Ta 5), .inl (tc 0, 6, .inl (Tf 5))), ((Ta 6), .inl (tc 0, 6, .inl (Tf 6))), ((Ta 7), .inl (tc 0, 6, .inl (Tf 7))), ((Ta 8), .inl (tc 0, 6, .inl (Tf 8)))]) 0 0 := by
  refine Ct.start (by decide) (Nat.le_of_ble_eq_true rfl) (fun p e s m below meth c A ls hx hb hr hlk hin hml hown hts hK hX hP hD hA hl hS => ?_)
  have hl : lv_has ls 5 [(0, .ref (Ca 0)), (1, .int x1)] := hl
  refine lv_iconst (v := 0) hx hb dX1_restAnswer_0 (by decide) ?_
  refine lv_istore_n (lv' := [(2, .int 0), (0, .ref (Ca 0)), (1, .int x1)]) hx hb dX1_restAnswer_1 rfl hl (by decide) rfl (fun ls hl => ?_)
  refine lv_iconst (v := (-1)) hx hb dX1_restAnswer_2 (by decide) ?_
  refine lv_istore_n (lv' := [(3, .int (-1)), (2, .int 0), (0, .ref (Ca 0)), (1, .int x1)]) hx hb dX1_restAnswer_3 rfl hl (by decide) rfl (fun ls hl => ?_)
  refine lv_iconst (v := 0) hx hb dX1_restAnswer_4 (by decide) ?_
  refine lv_istore (lv' := [(4, .int 0), (3, .int (-1)), (2, .int 0), (0, .ref (Ca 0)), (1, .int x1)]) hx hb dX1_restAnswer_5 hl (by decide) rfl (fun ls hl => ?_)
  have loop_10 : ∀ (n_8 : Nat) (vy_5 : Int32) (vy_6 : Int32) (vy_7 : Int32) (H : Heap) (locs : List Loc) (ls : Array Slot), 0 ≤ (vy_5 : Int32).toInt → (25 - (vy_5 : Int32).toInt).toNat < n_8 → va_P D classes [((Ca 0), .inr (1, [.ref (Ta 0), .ref (Ca 2), .ref (Ca 3)])), ((Ca 2), .inl (tc 0, 25, .inl (Cf 2))), ((Ca 3), .inl (tc 0, 25, .inl (Cf 3))), ((Ta 0), .inr (9, [.int (Tv 0), .int (Tv 1), .int (Tv 2), .int (Tv 3), .int (Tv 4), .int (Tv 5), .ref (Ta 1), .ref (Ta 2), .ref (Ta 3), .ref (Ta 4), .ref (Ta 5), .ref (Ta 6), .ref (Ta 7), .ref (Ta 8)])), ((Ta 1), .inl (tc 0, 10, .inl (Tf 1))), ((Ta 2), .inl (tc 0, 10, .inl (Tf 2))), ((Ta 3), .inl (tc 0, 6, .inl (Tf 3))), ((Ta 4), .inl (tc 0, 6, .inl (Tf 4))), ((Ta 5), .inl (tc 0, 6, .inl (Tf 5))), ((Ta 6), .inl (tc 0, 6, .inl (Tf 6))), ((Ta 7), .inl (tc 0, 6, .inl (Tf 7))), ((Ta 8), .inl (tc 0, 6, .inl (Tf 8)))] H → va_D A [((Ca 0), .inr (1, [.ref (Ta 0), .ref (Ca 2), .ref (Ca 3)])), ((Ca 2), .inl (tc 0, 25, .inl (Cf 2))), ((Ca 3), .inl (tc 0, 25, .inl (Cf 3))), ((Ta 0), .inr (9, [.int (Tv 0), .int (Tv 1), .int (Tv 2), .int (Tv 3), .int (Tv 4), .int (Tv 5), .ref (Ta 1), .ref (Ta 2), .ref (Ta 3), .ref (Ta 4), .ref (Ta 5), .ref (Ta 6), .ref (Ta 7), .ref (Ta 8)])), ((Ta 1), .inl (tc 0, 10, .inl (Tf 1))), ((Ta 2), .inl (tc 0, 10, .inl (Tf 2))), ((Ta 3), .inl (tc 0, 6, .inl (Tf 3))), ((Ta 4), .inl (tc 0, 6, .inl (Tf 4))), ((Ta 5), .inl (tc 0, 6, .inl (Tf 5))), ((Ta 6), .inl (tc 0, 6, .inl (Tf 6))), ((Ta 7), .inl (tc 0, 6, .inl (Tf 7))), ((Ta 8), .inl (tc 0, 6, .inl (Tf 8)))] → va_S A s.heap H locs → lv_has ls 5 [(4, .int vy_5), (3, .int vy_6), (2, .int vy_7), (0, .ref (Ca 0)), (1, .int x1)] → W p l e ({ frames := 1, cells := 0, slots := 0, locals := 24 }) s m ([.ref (Ca 0), .int x1].toArray) below meth c H locs 0 0 (MQ below (QW (fun (v : Option Value) (_ : Unit) => ∃ r : Int32, v = some (.int r) ∧ (True)) (BW D (fun (_ : Unit) => [((Ca 0), .inr (1, [.ref (Ta 0), .ref (Ca 2), .ref (Ca 3)])), ((Ca 2), .inl (tc 0, 25, .inl (Cf 2))), ((Ca 3), .inl (tc 0, 25, .inl (Cf 3))), ((Ta 0), .inr (9, [.int (Tv 0), .int (Tv 1), .int (Tv 2), .int (Tv 3), .int (Tv 4), .int (Tv 5), .ref (Ta 1), .ref (Ta 2), .ref (Ta 3), .ref (Ta 4), .ref (Ta 5), .ref (Ta 6), .ref (Ta 7), .ref (Ta 8)])), ((Ta 1), .inl (tc 0, 10, .inl (Tf 1))), ((Ta 2), .inl (tc 0, 10, .inl (Tf 2))), ((Ta 3), .inl (tc 0, 6, .inl (Tf 3))), ((Ta 4), .inl (tc 0, 6, .inl (Tf 4))), ((Ta 5), .inl (tc 0, 6, .inl (Tf 5))), ((Ta 6), .inl (tc 0, 6, .inl (Tf 6))), ((Ta 7), .inl (tc 0, 6, .inl (Tf 7))), ((Ta 8), .inl (tc 0, 6, .inl (Tf 8)))]) A) A) ([.ref (Ca 0), .int x1].toArray) s 0 0 A) (F0 m 7 ls []) := by
    intro n_8
    induction n_8 with
    | zero =>
      intro vy_5 vy_6 vy_7 H locs ls h1 h2
      exact absurd h2 (Nat.not_lt_zero _)
    | succ n_8 ih_9 =>
      intro vy_5 vy_6 vy_7 H locs ls hi_12 hn_13 hP hD hS hl
      refine lv_iload hx hb dX1_restAnswer_7 (lv_at hl 0 rfl) ?_
      refine lv_bipush (v := 25) hx hb dX1_restAnswer_9 (by decide) ?_
      refine lv_icmp_ge (tgt := 43) hx hb dX1_restAnswer_11 (by decide) (fun c_14 => ?_) (fun c_14 => ?_)
      · skip
        refine lv_iload_n hx hb dX1_restAnswer_43 rfl (lv_at hl 4 rfl) ?_
        refine lv_if_ne (tgt := 49) hx hb dX1_restAnswer_44 (by decide) (fun c_15 => ?_) (fun c_15 => ?_)
        · skip
          refine lv_iload_n hx hb dX1_restAnswer_49 rfl (lv_at hl 2 rfl) ?_
          refine lv_if_ne (tgt := 56) hx hb dX1_restAnswer_50 (by decide) (fun c_16 => ?_) (fun c_16 => ?_)
          · skip
            refine lv_iload_n hx hb dX1_restAnswer_56 rfl (lv_at hl 4 rfl) ?_
            refine lv_iconst (v := 1) hx hb dX1_restAnswer_57 (by decide) ?_
            refine lv_icmp_ne (tgt := 67) hx hb dX1_restAnswer_58 (by decide) (fun c_17 => ?_) (fun c_17 => ?_)
            · skip
              refine lv_iload_n hx hb dX1_restAnswer_67 rfl (lv_at hl 1 rfl) ?_
              refine lv_iconst (v := 5) hx hb dX1_restAnswer_68 (by decide) ?_
              refine lv_irem hx hb dX1_restAnswer_69 (by decide) ?_
              refine lv_topi (fun x_18 ex_18 => ?_)
              refine cS (As := [.int x_18]) (rest := []) (wr := [((Ca 0), .inr (1, [.ref (Ta 0), .ref (Ca 2), .ref (Ca 3)])), ((Ca 2), .inl (tc 0, 25, .inl (Cf 2))), ((Ca 3), .inl (tc 0, 25, .inl (Cf 3))), ((Ta 0), .inr (9, [.int (Tv 0), .int (Tv 1), .int (Tv 2), .int (Tv 3), .int (Tv 4), .int (Tv 5), .ref (Ta 1), .ref (Ta 2), .ref (Ta 3), .ref (Ta 4), .ref (Ta 5), .ref (Ta 6), .ref (Ta 7), .ref (Ta 8)])), ((Ta 1), .inl (tc 0, 10, .inl (Tf 1))), ((Ta 2), .inl (tc 0, 10, .inl (Tf 2))), ((Ta 3), .inl (tc 0, 6, .inl (Tf 3))), ((Ta 4), .inl (tc 0, 6, .inl (Tf 4))), ((Ta 5), .inl (tc 0, 6, .inl (Tf 5))), ((Ta 6), .inl (tc 0, 6, .inl (Tf 6))), ((Ta 7), .inl (tc 0, 6, .inl (Tf 7))), ((Ta 8), .inl (tc 0, 6, .inl (Tf 8)))]) ⟨hx, hb, hml, hown, hts⟩ hK hX hA (ct_X1_sizeOf l D tc sk x_18) k_932 k_930 k_931 k_104 pl_X1_sizeOf ⟨Nat.le_of_ble_eq_true rfl, Nat.le_of_ble_eq_true rfl⟩ rfl rfl  hP hD hS [] [0, 1, 2, 3, 4, 5, 6, 7, 8, 9, 10, 11] rfl rfl rfl rfl rfl (by decide) rfl hl.1 rfl (Nat.le_of_ble_eq_true rfl) dX1_restAnswer_70 ⟨Nat.le_of_ble_eq_true rfl, Nat.le_of_ble_eq_true rfl⟩ (fun v_19 u_20 H locs hv_21 hP hD hS => ?_)
              obtain ⟨r_22, rfl, he_23⟩ := hv_21
              have he_23 : (True) := he_23
              refine W.eq (g2 := F0 m 73 ls [.int r_22]) rfl ?_
              have hP : va_P D classes [((Ca 0), .inr (1, [.ref (Ta 0), .ref (Ca 2), .ref (Ca 3)])), ((Ca 2), .inl (tc 0, 25, .inl (Cf 2))), ((Ca 3), .inl (tc 0, 25, .inl (Cf 3))), ((Ta 0), .inr (9, [.int (Tv 0), .int (Tv 1), .int (Tv 2), .int (Tv 3), .int (Tv 4), .int (Tv 5), .ref (Ta 1), .ref (Ta 2), .ref (Ta 3), .ref (Ta 4), .ref (Ta 5), .ref (Ta 6), .ref (Ta 7), .ref (Ta 8)])), ((Ta 1), .inl (tc 0, 10, .inl (Tf 1))), ((Ta 2), .inl (tc 0, 10, .inl (Tf 2))), ((Ta 3), .inl (tc 0, 6, .inl (Tf 3))), ((Ta 4), .inl (tc 0, 6, .inl (Tf 4))), ((Ta 5), .inl (tc 0, 6, .inl (Tf 5))), ((Ta 6), .inl (tc 0, 6, .inl (Tf 6))), ((Ta 7), .inl (tc 0, 6, .inl (Tf 7))), ((Ta 8), .inl (tc 0, 6, .inl (Tf 8)))] H := hP
              have hD : va_D A [((Ca 0), .inr (1, [.ref (Ta 0), .ref (Ca 2), .ref (Ca 3)])), ((Ca 2), .inl (tc 0, 25, .inl (Cf 2))), ((Ca 3), .inl (tc 0, 25, .inl (Cf 3))), ((Ta 0), .inr (9, [.int (Tv 0), .int (Tv 1), .int (Tv 2), .int (Tv 3), .int (Tv 4), .int (Tv 5), .ref (Ta 1), .ref (Ta 2), .ref (Ta 3), .ref (Ta 4), .ref (Ta 5), .ref (Ta 6), .ref (Ta 7), .ref (Ta 8)])), ((Ta 1), .inl (tc 0, 10, .inl (Tf 1))), ((Ta 2), .inl (tc 0, 10, .inl (Tf 2))), ((Ta 3), .inl (tc 0, 6, .inl (Tf 3))), ((Ta 4), .inl (tc 0, 6, .inl (Tf 4))), ((Ta 5), .inl (tc 0, 6, .inl (Tf 5))), ((Ta 6), .inl (tc 0, 6, .inl (Tf 6))), ((Ta 7), .inl (tc 0, 6, .inl (Tf 7))), ((Ta 8), .inl (tc 0, 6, .inl (Tf 8)))] := hD
              exact retI (v := r_22) hx hb hr hlk (rfl) hP hD hS () ⟨_, rfl, trivial⟩ [0, 1, 2, 3, 4, 5, 6, 7, 8, 9, 10, 11] rfl rfl dX1_restAnswer_73 (Nat.le_of_ble_eq_true rfl) (Nat.le_of_ble_eq_true rfl) rfl
            · skip
              refine lv_iload_n hx hb dX1_restAnswer_61 rfl (lv_at hl 1 rfl) ?_
              refine lv_iconst (v := 5) hx hb dX1_restAnswer_62 (by decide) ?_
              refine lv_idiv hx hb dX1_restAnswer_63 (by decide) ?_
              refine lv_topi (fun x_24 ex_24 => ?_)
              refine lv_goto (tgt := 70) hx hb dX1_restAnswer_64 (by decide) ?_
              refine cS (As := [.int x_24]) (rest := []) (wr := [((Ca 0), .inr (1, [.ref (Ta 0), .ref (Ca 2), .ref (Ca 3)])), ((Ca 2), .inl (tc 0, 25, .inl (Cf 2))), ((Ca 3), .inl (tc 0, 25, .inl (Cf 3))), ((Ta 0), .inr (9, [.int (Tv 0), .int (Tv 1), .int (Tv 2), .int (Tv 3), .int (Tv 4), .int (Tv 5), .ref (Ta 1), .ref (Ta 2), .ref (Ta 3), .ref (Ta 4), .ref (Ta 5), .ref (Ta 6), .ref (Ta 7), .ref (Ta 8)])), ((Ta 1), .inl (tc 0, 10, .inl (Tf 1))), ((Ta 2), .inl (tc 0, 10, .inl (Tf 2))), ((Ta 3), .inl (tc 0, 6, .inl (Tf 3))), ((Ta 4), .inl (tc 0, 6, .inl (Tf 4))), ((Ta 5), .inl (tc 0, 6, .inl (Tf 5))), ((Ta 6), .inl (tc 0, 6, .inl (Tf 6))), ((Ta 7), .inl (tc 0, 6, .inl (Tf 7))), ((Ta 8), .inl (tc 0, 6, .inl (Tf 8)))]) ⟨hx, hb, hml, hown, hts⟩ hK hX hA (ct_X1_sizeOf l D tc sk x_24) k_932 k_930 k_931 k_104 pl_X1_sizeOf ⟨Nat.le_of_ble_eq_true rfl, Nat.le_of_ble_eq_true rfl⟩ rfl rfl  hP hD hS [] [0, 1, 2, 3, 4, 5, 6, 7, 8, 9, 10, 11] rfl rfl rfl rfl rfl (by decide) rfl hl.1 rfl (Nat.le_of_ble_eq_true rfl) dX1_restAnswer_70 ⟨Nat.le_of_ble_eq_true rfl, Nat.le_of_ble_eq_true rfl⟩ (fun v_25 u_26 H locs hv_27 hP hD hS => ?_)
              obtain ⟨r_28, rfl, he_29⟩ := hv_27
              have he_29 : (True) := he_29
              refine W.eq (g2 := F0 m 73 ls [.int r_28]) rfl ?_
              have hP : va_P D classes [((Ca 0), .inr (1, [.ref (Ta 0), .ref (Ca 2), .ref (Ca 3)])), ((Ca 2), .inl (tc 0, 25, .inl (Cf 2))), ((Ca 3), .inl (tc 0, 25, .inl (Cf 3))), ((Ta 0), .inr (9, [.int (Tv 0), .int (Tv 1), .int (Tv 2), .int (Tv 3), .int (Tv 4), .int (Tv 5), .ref (Ta 1), .ref (Ta 2), .ref (Ta 3), .ref (Ta 4), .ref (Ta 5), .ref (Ta 6), .ref (Ta 7), .ref (Ta 8)])), ((Ta 1), .inl (tc 0, 10, .inl (Tf 1))), ((Ta 2), .inl (tc 0, 10, .inl (Tf 2))), ((Ta 3), .inl (tc 0, 6, .inl (Tf 3))), ((Ta 4), .inl (tc 0, 6, .inl (Tf 4))), ((Ta 5), .inl (tc 0, 6, .inl (Tf 5))), ((Ta 6), .inl (tc 0, 6, .inl (Tf 6))), ((Ta 7), .inl (tc 0, 6, .inl (Tf 7))), ((Ta 8), .inl (tc 0, 6, .inl (Tf 8)))] H := hP
              have hD : va_D A [((Ca 0), .inr (1, [.ref (Ta 0), .ref (Ca 2), .ref (Ca 3)])), ((Ca 2), .inl (tc 0, 25, .inl (Cf 2))), ((Ca 3), .inl (tc 0, 25, .inl (Cf 3))), ((Ta 0), .inr (9, [.int (Tv 0), .int (Tv 1), .int (Tv 2), .int (Tv 3), .int (Tv 4), .int (Tv 5), .ref (Ta 1), .ref (Ta 2), .ref (Ta 3), .ref (Ta 4), .ref (Ta 5), .ref (Ta 6), .ref (Ta 7), .ref (Ta 8)])), ((Ta 1), .inl (tc 0, 10, .inl (Tf 1))), ((Ta 2), .inl (tc 0, 10, .inl (Tf 2))), ((Ta 3), .inl (tc 0, 6, .inl (Tf 3))), ((Ta 4), .inl (tc 0, 6, .inl (Tf 4))), ((Ta 5), .inl (tc 0, 6, .inl (Tf 5))), ((Ta 6), .inl (tc 0, 6, .inl (Tf 6))), ((Ta 7), .inl (tc 0, 6, .inl (Tf 7))), ((Ta 8), .inl (tc 0, 6, .inl (Tf 8)))] := hD
              exact retI (v := r_28) hx hb hr hlk (rfl) hP hD hS () ⟨_, rfl, trivial⟩ [0, 1, 2, 3, 4, 5, 6, 7, 8, 9, 10, 11] rfl rfl dX1_restAnswer_73 (Nat.le_of_ble_eq_true rfl) (Nat.le_of_ble_eq_true rfl) rfl
          · skip
            refine lv_bipush (v := (-2)) hx hb dX1_restAnswer_53 (by decide) ?_
            exact retI (v := (-2)) hx hb hr hlk (rfl) hP hD hS () ⟨_, rfl, trivial⟩ [0, 1, 2, 3, 4, 5, 6, 7, 8, 9, 10, 11] rfl rfl dX1_restAnswer_55 (Nat.le_of_ble_eq_true rfl) (Nat.le_of_ble_eq_true rfl) rfl
        · skip
          refine lv_iload_n hx hb dX1_restAnswer_47 rfl (lv_at hl 2 rfl) ?_
          exact retI (v := vy_7) hx hb hr hlk (rfl) hP hD hS () ⟨_, rfl, trivial⟩ [0, 1, 2, 3, 4, 5, 6, 7, 8, 9, 10, 11] rfl rfl dX1_restAnswer_48 (Nat.le_of_ble_eq_true rfl) (Nat.le_of_ble_eq_true rfl) rfl
      · skip
        refine lv_aload_n hx hb dX1_restAnswer_14 rfl (lv_at hl 3 rfl) ?_
        refine lv_iload hx hb dX1_restAnswer_15 (lv_at hl 0 rfl) ?_
        refine cV (a := (Ca 0)) (As := [.int vy_5]) (rest := []) (wr := []) ⟨hx, hb, hml, hown, hts⟩ hK hX hA (cu_X1_isRest l D tc sk (Ca 0) (Ca 2) (Ca 3) (Cf 2) (Cf 3) (Ta 0) (Ta 1) (Ta 2) (Ta 3) (Ta 4) (Ta 5) (Ta 6) (Ta 7) (Ta 8) (Tv 0) (Tv 1) (Tv 2) (Tv 3) (Tv 4) (Tv 5) (Tf 1) (Tf 2) (Tf 3) (Tf 4) (Tf 5) (Tf 6) (Tf 7) (Tf 8) vy_5) k_944 k_941 k_943 k_18 k_104 pl_X1_isRest ⟨Nat.le_of_ble_eq_true rfl, Nat.le_of_ble_eq_true rfl⟩ rfl rfl (va_recv hK hP (ci := 1) (q0 := 0) rfl rfl) hP hD hS [0, 1, 2, 3, 4, 5, 6, 7, 8, 9, 10, 11] [] rfl rfl rfl rfl rfl (by decide) rfl hl.1 rfl (Nat.le_of_ble_eq_true rfl) dX1_restAnswer_17 ⟨Nat.le_of_ble_eq_true rfl, Nat.le_of_ble_eq_true rfl⟩ (fun v_30 u_31 H locs hv_32 hP hD hS => ?_)
        obtain ⟨r_33, rfl, he_34⟩ := hv_32
        have he_34 : ((r_33.toInt = 0 ∨ r_33.toInt = 1)) := he_34
        refine W.eq (g2 := F0 m 20 ls [.int r_33]) rfl ?_
        have hP : va_P D classes [((Ca 0), .inr (1, [.ref (Ta 0), .ref (Ca 2), .ref (Ca 3)])), ((Ca 2), .inl (tc 0, 25, .inl (Cf 2))), ((Ca 3), .inl (tc 0, 25, .inl (Cf 3))), ((Ta 0), .inr (9, [.int (Tv 0), .int (Tv 1), .int (Tv 2), .int (Tv 3), .int (Tv 4), .int (Tv 5), .ref (Ta 1), .ref (Ta 2), .ref (Ta 3), .ref (Ta 4), .ref (Ta 5), .ref (Ta 6), .ref (Ta 7), .ref (Ta 8)])), ((Ta 1), .inl (tc 0, 10, .inl (Tf 1))), ((Ta 2), .inl (tc 0, 10, .inl (Tf 2))), ((Ta 3), .inl (tc 0, 6, .inl (Tf 3))), ((Ta 4), .inl (tc 0, 6, .inl (Tf 4))), ((Ta 5), .inl (tc 0, 6, .inl (Tf 5))), ((Ta 6), .inl (tc 0, 6, .inl (Tf 6))), ((Ta 7), .inl (tc 0, 6, .inl (Tf 7))), ((Ta 8), .inl (tc 0, 6, .inl (Tf 8)))] H := hP
        have hD : va_D A [((Ca 0), .inr (1, [.ref (Ta 0), .ref (Ca 2), .ref (Ca 3)])), ((Ca 2), .inl (tc 0, 25, .inl (Cf 2))), ((Ca 3), .inl (tc 0, 25, .inl (Cf 3))), ((Ta 0), .inr (9, [.int (Tv 0), .int (Tv 1), .int (Tv 2), .int (Tv 3), .int (Tv 4), .int (Tv 5), .ref (Ta 1), .ref (Ta 2), .ref (Ta 3), .ref (Ta 4), .ref (Ta 5), .ref (Ta 6), .ref (Ta 7), .ref (Ta 8)])), ((Ta 1), .inl (tc 0, 10, .inl (Tf 1))), ((Ta 2), .inl (tc 0, 10, .inl (Tf 2))), ((Ta 3), .inl (tc 0, 6, .inl (Tf 3))), ((Ta 4), .inl (tc 0, 6, .inl (Tf 4))), ((Ta 5), .inl (tc 0, 6, .inl (Tf 5))), ((Ta 6), .inl (tc 0, 6, .inl (Tf 6))), ((Ta 7), .inl (tc 0, 6, .inl (Tf 7))), ((Ta 8), .inl (tc 0, 6, .inl (Tf 8)))] := hD
        refine lv_if_eq (tgt := 37) hx hb dX1_restAnswer_20 (by decide) (fun c_35 => ?_) (fun c_35 => ?_)
        · skip
          obtain ⟨x_36, ex_36⟩ : ∃ y : Int32, y = vy_5 + 1 := ⟨_, rfl⟩
          refine lv_iinc (v := x_36) (lv' := [(4, .int x_36), (3, .int vy_6), (2, .int vy_7), (0, .ref (Ca 0)), (1, .int x1)]) hx hb dX1_restAnswer_37 hl (k := 0) rfl (by rw [ex_36]; rfl) (by decide) rfl (fun ls hl => ?_)
          refine lv_goto (tgt := 7) hx hb dX1_restAnswer_40 (by decide) ?_
          have hb_37 : 0 ≤ (x_36 : Int32).toInt ∧ (25 - (x_36 : Int32).toInt).toNat < n_8 := by
            have z_1 := Int32.lt_iff_toInt_lt.mp (Int32.not_le.mp c_14)
            have z_2 := congrArg Int32.toInt c_35
            have y_0 : (0 : Int32).toInt = 0 := by decide
            have y_25 : (25 : Int32).toInt = 25 := by decide
            have y_1 : (1 : Int32).toInt = 1 := by decide
            have t_x_36 : x_36.toInt = (vy_5 : Int32).toInt + (1 : Int32).toInt := by rw [ex_36]; exact add_toInt (by omega) (by omega)
            omega
          exact ih_9 x_36 vy_6 vy_7 _ _ _ hb_37.1 hb_37.2 (hP.sub [0, 1, 2, 3, 4, 5, 6, 7, 8, 9, 10, 11] rfl) (hD.sub [0, 1, 2, 3, 4, 5, 6, 7, 8, 9, 10, 11] rfl rfl) hS (lv_sub hl [0, 1, 2, 3, 4] rfl)
        · skip
          refine lv_iload_n hx hb dX1_restAnswer_23 rfl (lv_at hl 2 rfl) ?_
          refine lv_if_ne (tgt := 32) hx hb dX1_restAnswer_24 (by decide) (fun c_38 => ?_) (fun c_38 => ?_)
          · skip
            refine lv_iload_n hx hb dX1_restAnswer_32 rfl (lv_at hl 1 rfl) ?_
            refine lv_istore_n (lv' := [(3, .int vy_6), (4, .int vy_5), (2, .int vy_7), (0, .ref (Ca 0)), (1, .int x1)]) hx hb dX1_restAnswer_33 rfl hl (by decide) rfl (fun ls hl => ?_)
            obtain ⟨x_39, ex_39⟩ : ∃ y : Int32, y = vy_7 + 1 := ⟨_, rfl⟩
            refine lv_iinc (v := x_39) (lv' := [(2, .int x_39), (3, .int vy_6), (4, .int vy_5), (0, .ref (Ca 0)), (1, .int x1)]) hx hb dX1_restAnswer_34 hl (k := 2) rfl (by rw [ex_39]; rfl) (by decide) rfl (fun ls hl => ?_)
            obtain ⟨x_40, ex_40⟩ : ∃ y : Int32, y = vy_5 + 1 := ⟨_, rfl⟩
            refine lv_iinc (v := x_40) (lv' := [(4, .int x_40), (2, .int x_39), (3, .int vy_6), (0, .ref (Ca 0)), (1, .int x1)]) hx hb dX1_restAnswer_37 hl (k := 2) rfl (by rw [ex_40]; rfl) (by decide) rfl (fun ls hl => ?_)
            refine lv_goto (tgt := 7) hx hb dX1_restAnswer_40 (by decide) ?_
            have hb_41 : 0 ≤ (x_40 : Int32).toInt ∧ (25 - (x_40 : Int32).toInt).toNat < n_8 := by
              have z_1 := Int32.lt_iff_toInt_lt.mp (Int32.not_le.mp c_14)
              have z_2 : ¬ (r_33 : Int32).toInt = (0 : Int32).toInt := fun z => c_35 (Int32.toInt_inj.mp z)
              have z_3 : ¬ (vy_7 : Int32).toInt = (0 : Int32).toInt := fun z => c_38 (Int32.toInt_inj.mp z)
              have y_0 : (0 : Int32).toInt = 0 := by decide
              have y_25 : (25 : Int32).toInt = 25 := by decide
              have y_1 : (1 : Int32).toInt = 1 := by decide
              have t_x_40 : x_40.toInt = (vy_5 : Int32).toInt + (1 : Int32).toInt := by rw [ex_40]; exact add_toInt (by omega) (by omega)
              omega
            exact ih_9 x_40 vy_6 x_39 _ _ _ hb_41.1 hb_41.2 (hP.sub [0, 1, 2, 3, 4, 5, 6, 7, 8, 9, 10, 11] rfl) (hD.sub [0, 1, 2, 3, 4, 5, 6, 7, 8, 9, 10, 11] rfl rfl) hS (lv_sub hl [0, 2, 1, 3, 4] rfl)
          · skip
            refine lv_iload hx hb dX1_restAnswer_27 (lv_at hl 0 rfl) ?_
            refine lv_goto (tgt := 33) hx hb dX1_restAnswer_29 (by decide) ?_
            refine lv_istore_n (lv' := [(3, .int vy_5), (4, .int vy_5), (2, .int vy_7), (0, .ref (Ca 0)), (1, .int x1)]) hx hb dX1_restAnswer_33 rfl hl (by decide) rfl (fun ls hl => ?_)
            obtain ⟨x_42, ex_42⟩ : ∃ y : Int32, y = vy_7 + 1 := ⟨_, rfl⟩
            refine lv_iinc (v := x_42) (lv' := [(2, .int x_42), (3, .int vy_5), (4, .int vy_5), (0, .ref (Ca 0)), (1, .int x1)]) hx hb dX1_restAnswer_34 hl (k := 2) rfl (by rw [ex_42]; rfl) (by decide) rfl (fun ls hl => ?_)
            obtain ⟨x_43, ex_43⟩ : ∃ y : Int32, y = vy_5 + 1 := ⟨_, rfl⟩
            refine lv_iinc (v := x_43) (lv' := [(4, .int x_43), (2, .int x_42), (3, .int vy_5), (0, .ref (Ca 0)), (1, .int x1)]) hx hb dX1_restAnswer_37 hl (k := 2) rfl (by rw [ex_43]; rfl) (by decide) rfl (fun ls hl => ?_)
            refine lv_goto (tgt := 7) hx hb dX1_restAnswer_40 (by decide) ?_
            have hb_44 : 0 ≤ (x_43 : Int32).toInt ∧ (25 - (x_43 : Int32).toInt).toNat < n_8 := by
              have z_1 := Int32.lt_iff_toInt_lt.mp (Int32.not_le.mp c_14)
              have z_2 : ¬ (r_33 : Int32).toInt = (0 : Int32).toInt := fun z => c_35 (Int32.toInt_inj.mp z)
              have z_3 := congrArg Int32.toInt c_38
              have y_0 : (0 : Int32).toInt = 0 := by decide
              have y_25 : (25 : Int32).toInt = 25 := by decide
              have y_1 : (1 : Int32).toInt = 1 := by decide
              have t_x_43 : x_43.toInt = (vy_5 : Int32).toInt + (1 : Int32).toInt := by rw [ex_43]; exact add_toInt (by omega) (by omega)
              omega
            exact ih_9 x_43 vy_5 x_42 _ _ _ hb_44.1 hb_44.2 (hP.sub [0, 1, 2, 3, 4, 5, 6, 7, 8, 9, 10, 11] rfl) (hD.sub [0, 1, 2, 3, 4, 5, 6, 7, 8, 9, 10, 11] rfl rfl) hS (lv_sub hl [0, 2, 1, 3, 4] rfl)
  have h0_45 : 0 ≤ (0 : Int32).toInt := by
    have y_0 : (0 : Int32).toInt = 0 := by decide
    decide
  exact loop_10 _ 0 (-1) 0 _ _ _ h0_45 (Nat.lt_succ_self _) hP hD hS hl
set_option maxRecDepth 100000 in
theorem cu_X1_restAnswer (l : Launch) (D : va_G) (tc : Nat → ClassId) (sk : (Nat → Nat) × (Nat → Nat)) (Ca_0 : Nat) (Ca_2 : Nat) (Ca_3 : Nat) (Cf_2 : Nat → Int32) (Cf_3 : Nat → Int32) (Ta_0 : Nat) (Ta_1 : Nat) (Ta_2 : Nat) (Ta_3 : Nat) (Ta_4 : Nat) (Ta_5 : Nat) (Ta_6 : Nat) (Ta_7 : Nat) (Ta_8 : Nat) (Tv_0 : Int32) (Tv_1 : Int32) (Tv_2 : Int32) (Tv_3 : Int32) (Tv_4 : Int32) (Tv_5 : Int32) (Tf_1 : Nat → Int32) (Tf_2 : Nat → Int32) (Tf_3 : Nat → Int32) (Tf_4 : Nat → Int32) (Tf_5 : Nat → Int32) (Tf_6 : Nat → Int32) (Tf_7 : Nat → Int32) (Tf_8 : Nat → Int32) (x1 : Int32)  : Ct l yX1_restAnswer cX1_restAnswer 5 (some .int) { frames := 1, cells := 0, slots := 0, locals := 24 } D tc sk [.ref Ca_0, .int x1] [(Ca_0, .inr (1, [.ref Ta_0, .ref Ca_2, .ref Ca_3])), (Ca_2, .inl (tc 0, 25, .inl Cf_2)), (Ca_3, .inl (tc 0, 25, .inl Cf_3)), (Ta_0, .inr (9, [.int Tv_0, .int Tv_1, .int Tv_2, .int Tv_3, .int Tv_4, .int Tv_5, .ref Ta_1, .ref Ta_2, .ref Ta_3, .ref Ta_4, .ref Ta_5, .ref Ta_6, .ref Ta_7, .ref Ta_8])), (Ta_1, .inl (tc 0, 10, .inl Tf_1)), (Ta_2, .inl (tc 0, 10, .inl Tf_2)), (Ta_3, .inl (tc 0, 6, .inl Tf_3)), (Ta_4, .inl (tc 0, 6, .inl Tf_4)), (Ta_5, .inl (tc 0, 6, .inl Tf_5)), (Ta_6, .inl (tc 0, 6, .inl Tf_6)), (Ta_7, .inl (tc 0, 6, .inl Tf_7)), (Ta_8, .inl (tc 0, 6, .inl Tf_8))] (fun (v : Option Value) (_ : Unit) => ∃ r : Int32, v = some (.int r) ∧ (True)) (fun (_ : Unit) => [(Ca_0, .inr (1, [.ref Ta_0, .ref Ca_2, .ref Ca_3])), (Ca_2, .inl (tc 0, 25, .inl Cf_2)), (Ca_3, .inl (tc 0, 25, .inl Cf_3)), (Ta_0, .inr (9, [.int Tv_0, .int Tv_1, .int Tv_2, .int Tv_3, .int Tv_4, .int Tv_5, .ref Ta_1, .ref Ta_2, .ref Ta_3, .ref Ta_4, .ref Ta_5, .ref Ta_6, .ref Ta_7, .ref Ta_8])), (Ta_1, .inl (tc 0, 10, .inl Tf_1)), (Ta_2, .inl (tc 0, 10, .inl Tf_2)), (Ta_3, .inl (tc 0, 6, .inl Tf_3)), (Ta_4, .inl (tc 0, 6, .inl Tf_4)), (Ta_5, .inl (tc 0, 6, .inl Tf_5)), (Ta_6, .inl (tc 0, 6, .inl Tf_6)), (Ta_7, .inl (tc 0, 6, .inl Tf_7)), (Ta_8, .inl (tc 0, 6, .inl Tf_8))]) 0 0 :=
  ct_X1_restAnswer l D tc sk (fun k => ([Ca_0, 0, Ca_2, Ca_3] : List (Nat)).getD k 0) (fun k => ([(fun _ => 0), (fun _ => 0), Cf_2, Cf_3] : List (Nat → Int32)).getD k (fun _ => 0)) (fun k => ([Ta_0, Ta_1, Ta_2, Ta_3, Ta_4, Ta_5, Ta_6, Ta_7, Ta_8] : List (Nat)).getD k 0) (fun k => ([Tv_0, Tv_1, Tv_2, Tv_3, Tv_4, Tv_5] : List (Int32)).getD k 0) (fun k => ([(fun _ => 0), Tf_1, Tf_2, Tf_3, Tf_4, Tf_5, Tf_6, Tf_7, Tf_8] : List (Nat → Int32)).getD k (fun _ => 0)) x1 
set_option maxHeartbeats 4000000 in
set_option maxRecDepth 100000 in
theorem ct_X1_setsOf (l : Launch) (D : va_G) (tc : Nat → ClassId) (sk : (Nat → Nat) × (Nat → Nat)) (Ca : Nat → Nat) (Cf : Nat → Nat → Int32) (Ta : Nat → Nat) (Tv : Nat → Int32) (Tf : Nat → Nat → Int32) (Aa : Nat → Nat) (Av : Nat → Int32) (Af : Nat → Nat → Int32) (x1 : Int32) (x2 : Int32) (h_buy : 0 ≤ (Av 3).toInt ∧ (Av 3).toInt ≤ 6) : Ct l yX1_setsOf cX1_setsOf 8 (some .int) { frames := 1, cells := 0, slots := 0, locals := 23 } D tc sk [.ref (Ca 0), .ref (Aa 0), .int x1, .int x2] [((Ca 0), .inr (1, [.ref (Ta 0), .ref (Ca 2), .ref (Ca 3)])), ((Ca 2), .inl (tc 0, 25, .inl (Cf 2))), ((Ca 3), .inl (tc 0, 25, .inl (Cf 3))), ((Ta 0), .inr (9, [.int (Tv 0), .int (Tv 1), .int (Tv 2), .int (Tv 3), .int (Tv 4), .int (Tv 5), .ref (Ta 1), .ref (Ta 2), .ref (Ta 3), .ref (Ta 4), .ref (Ta 5), .ref (Ta 6), .ref (Ta 7), .ref (Ta 8)])), ((Ta 1), .inl (tc 0, 10, .inl (Tf 1))), ((Ta 2), .inl (tc 0, 10, .inl (Tf 2))), ((Ta 3), .inl (tc 0, 6, .inl (Tf 3))), ((Ta 4), .inl (tc 0, 6, .inl (Tf 4))), ((Ta 5), .inl (tc 0, 6, .inl (Tf 5))), ((Ta 6), .inl (tc 0, 6, .inl (Tf 6))), ((Ta 7), .inl (tc 0, 6, .inl (Tf 7))), ((Ta 8), .inl (tc 0, 6, .inl (Tf 8))), ((Aa 0), .inr (9, [.int (Av 0), .int (Av 1), .int (Av 2), .int (Av 3), .int (Av 4), .int (Av 5), .ref (Aa 1), .ref (Aa 2), .ref (Aa 3), .ref (Aa 4), .ref (Aa 5), .ref (Aa 6), .ref (Aa 7), .ref (Aa 8)])), ((Aa 1), .inl (tc 0, 10, .inl (Af 1))), ((Aa 2), .inl (tc 0, 10, .inl (Af 2))), ((Aa 3), .inl (tc 0, 6, .inl (Af 3))), ((Aa 4), .inl (tc 0, 6, .inl (Af 4))), ((Aa 5), .inl (tc 0, 6, .inl (Af 5))), ((Aa 6), .inl (tc 0, 6, .inl (Af 6))), ((Aa 7), .inl (tc 0, 6, .inl (Af 7))), ((Aa 8), .inl (tc 0, 6, .inl (Af 8)))] (fun (v : Option Value) (_ : Unit) => ∃ r : Int32, v = some (.int r) ∧ (True)) (fun (_ : Unit) => [((Ca 0), .inr (1, [.ref (Ta 0), .ref (Ca 2), .ref (Ca 3)])), ((Ca 2), .inl (tc 0, 25, .inl (Cf 2))), ((Ca 3), .inl (tc 0, 25, .inl (Cf 3))), ((Ta 0), .inr (9, [.int (Tv 0), .int (Tv 1), .int (Tv 2), .int (Tv 3), .int (Tv 4), .int (Tv 5), .ref (Ta 1), .ref (Ta 2), .ref (Ta 3), .ref (Ta 4), .ref (Ta 5), .ref (Ta 6), .ref (Ta 7), .ref (Ta 8)])), ((Ta 1), .inl (tc 0, 10, .inl (Tf 1))), ((Ta 2), .inl (tc 0, 10, .inl (Tf 2))), ((Ta 3), .inl (tc 0, 6, .inl (Tf 3))), ((Ta 4), .inl (tc 0, 6, .inl (Tf 4))), ((Ta 5), .inl (tc 0, 6, .inl (Tf 5))), ((Ta 6), .inl (tc 0, 6, .inl (Tf 6))), ((Ta 7), .inl (tc 0, 6, .inl (Tf 7))), ((Ta 8), .inl (tc 0, 6, .inl (Tf 8))), ((Aa 0), .inr (9, [.int (Av 0), .int (Av 1), .int (Av 2), .int (Av 3), .int (Av 4), .int (Av 5), .ref (Aa 1), .ref (Aa 2), .ref (Aa 3), .ref (Aa 4), .ref (Aa 5), .ref (Aa 6), .ref (Aa 7), .ref (Aa 8)])), ((Aa 1), .inl (tc 0, 10, .inl (Af 1))), ((Aa 2), .inl (tc 0, 10, .inl (Af 2))), ((Aa 3), .inl (tc 0, 6, .inl (Af 3))), ((Aa 4), .inl (tc 0, 6, .inl (Af 4))), ((Aa 5), .inl (tc 0, 6, .inl (Af 5))), ((Aa 6), .inl (tc 0, 6, .inl (Af 6))), ((Aa 7), .inl (tc 0, 6, .inl (Af 7))), ((Aa 8), .inl (tc 0, 6, .inl (Af 8)))]) 0 0 := by
  refine Ct.start (by decide) (Nat.le_of_ble_eq_true rfl) (fun p e s m below meth c A ls hx hb hr hlk hin hml hown hts hK hX hP hD hA hl hS => ?_)
  have hl : lv_has ls 8 [(0, .ref (Ca 0)), (1, .ref (Aa 0)), (2, .int x1), (3, .int x2)] := hl
  refine lv_iconst (v := 0) hx hb dX1_setsOf_0 (by decide) ?_
  refine lv_istore (lv' := [(4, .int 0), (0, .ref (Ca 0)), (1, .ref (Aa 0)), (2, .int x1), (3, .int x2)]) hx hb dX1_setsOf_1 hl (by decide) rfl (fun ls hl => ?_)
  refine lv_bipush (v := (-2)) hx hb dX1_setsOf_3 (by decide) ?_
  refine lv_istore (lv' := [(5, .int (-2)), (4, .int 0), (0, .ref (Ca 0)), (1, .ref (Aa 0)), (2, .int x1), (3, .int x2)]) hx hb dX1_setsOf_5 hl (by decide) rfl (fun ls hl => ?_)
  refine lv_aload_n hx hb dX1_setsOf_7 rfl (lv_at hl 3 rfl) ?_
  have hh_1 : 0 ≤ (Av 3).toInt ∧ (Av 3).toInt ≤ 6 := by
    first | assumption | omega
  refine cV (a := (Aa 0)) (As := []) (rest := []) (wr := [((Ca 0), .inr (1, [.ref (Ta 0), .ref (Ca 2), .ref (Ca 3)])), ((Ca 2), .inl (tc 0, 25, .inl (Cf 2))), ((Ca 3), .inl (tc 0, 25, .inl (Cf 3))), ((Ta 0), .inr (9, [.int (Tv 0), .int (Tv 1), .int (Tv 2), .int (Tv 3), .int (Tv 4), .int (Tv 5), .ref (Ta 1), .ref (Ta 2), .ref (Ta 3), .ref (Ta 4), .ref (Ta 5), .ref (Ta 6), .ref (Ta 7), .ref (Ta 8)])), ((Ta 1), .inl (tc 0, 10, .inl (Tf 1))), ((Ta 2), .inl (tc 0, 10, .inl (Tf 2))), ((Ta 3), .inl (tc 0, 6, .inl (Tf 3))), ((Ta 4), .inl (tc 0, 6, .inl (Tf 4))), ((Ta 5), .inl (tc 0, 6, .inl (Tf 5))), ((Ta 6), .inl (tc 0, 6, .inl (Tf 6))), ((Ta 7), .inl (tc 0, 6, .inl (Tf 7))), ((Ta 8), .inl (tc 0, 6, .inl (Tf 8)))]) ⟨hx, hb, hml, hown, hts⟩ hK hX hA (cu_X9_everybody l D tc sk (Aa 0) (Aa 1) (Aa 2) (Aa 3) (Aa 4) (Aa 5) (Aa 6) (Aa 7) (Aa 8) (Av 0) (Av 1) (Av 2) (Av 3) (Av 4) (Av 5) (Af 1) (Af 2) (Af 3) (Af 4) (Af 5) (Af 6) (Af 7) (Af 8) hh_1) k_873 k_870 k_871 k_872 k_98 pl_X9_everybody ⟨Nat.le_of_ble_eq_true rfl, Nat.le_of_ble_eq_true rfl⟩ rfl rfl (va_recv hK hP (ci := 9) (q0 := 12) rfl rfl) hP hD hS [12, 13, 14, 15, 16, 17, 18, 19, 20] [0, 1, 2, 3, 4, 5, 6, 7, 8, 9, 10, 11] rfl rfl rfl rfl rfl (by decide) rfl hl.1 rfl (Nat.le_of_ble_eq_true rfl) dX1_setsOf_8 ⟨Nat.le_of_ble_eq_true rfl, Nat.le_of_ble_eq_true rfl⟩ (fun v_2 u_3 H locs hv_4 hP hD hS => ?_)
  obtain ⟨r_5, rfl, he_6⟩ := hv_4
  have he_6 : ((r_5.toInt ≤ 63 ∧ 0 ≤ r_5.toInt)) := he_6
  refine W.eq (g2 := F0 m 11 ls [.int r_5]) rfl ?_
  have hP : va_P D classes [((Ca 0), .inr (1, [.ref (Ta 0), .ref (Ca 2), .ref (Ca 3)])), ((Ca 2), .inl (tc 0, 25, .inl (Cf 2))), ((Ca 3), .inl (tc 0, 25, .inl (Cf 3))), ((Ta 0), .inr (9, [.int (Tv 0), .int (Tv 1), .int (Tv 2), .int (Tv 3), .int (Tv 4), .int (Tv 5), .ref (Ta 1), .ref (Ta 2), .ref (Ta 3), .ref (Ta 4), .ref (Ta 5), .ref (Ta 6), .ref (Ta 7), .ref (Ta 8)])), ((Ta 1), .inl (tc 0, 10, .inl (Tf 1))), ((Ta 2), .inl (tc 0, 10, .inl (Tf 2))), ((Ta 3), .inl (tc 0, 6, .inl (Tf 3))), ((Ta 4), .inl (tc 0, 6, .inl (Tf 4))), ((Ta 5), .inl (tc 0, 6, .inl (Tf 5))), ((Ta 6), .inl (tc 0, 6, .inl (Tf 6))), ((Ta 7), .inl (tc 0, 6, .inl (Tf 7))), ((Ta 8), .inl (tc 0, 6, .inl (Tf 8))), ((Aa 0), .inr (9, [.int (Av 0), .int (Av 1), .int (Av 2), .int (Av 3), .int (Av 4), .int (Av 5), .ref (Aa 1), .ref (Aa 2), .ref (Aa 3), .ref (Aa 4), .ref (Aa 5), .ref (Aa 6), .ref (Aa 7), .ref (Aa 8)])), ((Aa 1), .inl (tc 0, 10, .inl (Af 1))), ((Aa 2), .inl (tc 0, 10, .inl (Af 2))), ((Aa 3), .inl (tc 0, 6, .inl (Af 3))), ((Aa 4), .inl (tc 0, 6, .inl (Af 4))), ((Aa 5), .inl (tc 0, 6, .inl (Af 5))), ((Aa 6), .inl (tc 0, 6, .inl (Af 6))), ((Aa 7), .inl (tc 0, 6, .inl (Af 7))), ((Aa 8), .inl (tc 0, 6, .inl (Af 8)))] H := hP
  have hD : va_D A [((Ca 0), .inr (1, [.ref (Ta 0), .ref (Ca 2), .ref (Ca 3)])), ((Ca 2), .inl (tc 0, 25, .inl (Cf 2))), ((Ca 3), .inl (tc 0, 25, .inl (Cf 3))), ((Ta 0), .inr (9, [.int (Tv 0), .int (Tv 1), .int (Tv 2), .int (Tv 3), .int (Tv 4), .int (Tv 5), .ref (Ta 1), .ref (Ta 2), .ref (Ta 3), .ref (Ta 4), .ref (Ta 5), .ref (Ta 6), .ref (Ta 7), .ref (Ta 8)])), ((Ta 1), .inl (tc 0, 10, .inl (Tf 1))), ((Ta 2), .inl (tc 0, 10, .inl (Tf 2))), ((Ta 3), .inl (tc 0, 6, .inl (Tf 3))), ((Ta 4), .inl (tc 0, 6, .inl (Tf 4))), ((Ta 5), .inl (tc 0, 6, .inl (Tf 5))), ((Ta 6), .inl (tc 0, 6, .inl (Tf 6))), ((Ta 7), .inl (tc 0, 6, .inl (Tf 7))), ((Ta 8), .inl (tc 0, 6, .inl (Tf 8))), ((Aa 0), .inr (9, [.int (Av 0), .int (Av 1), .int (Av 2), .int (Av 3), .int (Av 4), .int (Av 5), .ref (Aa 1), .ref (Aa 2), .ref (Aa 3), .ref (Aa 4), .ref (Aa 5), .ref (Aa 6), .ref (Aa 7), .ref (Aa 8)])), ((Aa 1), .inl (tc 0, 10, .inl (Af 1))), ((Aa 2), .inl (tc 0, 10, .inl (Af 2))), ((Aa 3), .inl (tc 0, 6, .inl (Af 3))), ((Aa 4), .inl (tc 0, 6, .inl (Af 4))), ((Aa 5), .inl (tc 0, 6, .inl (Af 5))), ((Aa 6), .inl (tc 0, 6, .inl (Af 6))), ((Aa 7), .inl (tc 0, 6, .inl (Af 7))), ((Aa 8), .inl (tc 0, 6, .inl (Af 8)))] := hD
  refine lv_istore (lv' := [(6, .int r_5), (5, .int (-2)), (4, .int 0), (0, .ref (Ca 0)), (1, .ref (Aa 0)), (2, .int x1), (3, .int x2)]) hx hb dX1_setsOf_11 hl (by decide) rfl (fun ls hl => ?_)
  refine lv_iconst (v := 0) hx hb dX1_setsOf_13 (by decide) ?_
  refine lv_istore (lv' := [(7, .int 0), (6, .int r_5), (5, .int (-2)), (4, .int 0), (0, .ref (Ca 0)), (1, .ref (Aa 0)), (2, .int x1), (3, .int x2)]) hx hb dX1_setsOf_14 hl (by decide) rfl (fun ls hl => ?_)
  have loop_18 : ∀ (n_16 : Nat) (vy_12 : Int32) (vy_13 : Int32) (vy_14 : Int32) (vy_15 : Int32) (H : Heap) (locs : List Loc) (ls : Array Slot), 0 ≤ (vy_12 : Int32).toInt → (64 - (vy_12 : Int32).toInt).toNat < n_16 → va_P D classes [((Ca 0), .inr (1, [.ref (Ta 0), .ref (Ca 2), .ref (Ca 3)])), ((Ca 2), .inl (tc 0, 25, .inl (Cf 2))), ((Ca 3), .inl (tc 0, 25, .inl (Cf 3))), ((Ta 0), .inr (9, [.int (Tv 0), .int (Tv 1), .int (Tv 2), .int (Tv 3), .int (Tv 4), .int (Tv 5), .ref (Ta 1), .ref (Ta 2), .ref (Ta 3), .ref (Ta 4), .ref (Ta 5), .ref (Ta 6), .ref (Ta 7), .ref (Ta 8)])), ((Ta 1), .inl (tc 0, 10, .inl (Tf 1))), ((Ta 2), .inl (tc 0, 10, .inl (Tf 2))), ((Ta 3), .inl (tc 0, 6, .inl (Tf 3))), ((Ta 4), .inl (tc 0, 6, .inl (Tf 4))), ((Ta 5), .inl (tc 0, 6, .inl (Tf 5))), ((Ta 6), .inl (tc 0, 6, .inl (Tf 6))), ((Ta 7), .inl (tc 0, 6, .inl (Tf 7))), ((Ta 8), .inl (tc 0, 6, .inl (Tf 8))), ((Aa 0), .inr (9, [.int (Av 0), .int (Av 1), .int (Av 2), .int (Av 3), .int (Av 4), .int (Av 5), .ref (Aa 1), .ref (Aa 2), .ref (Aa 3), .ref (Aa 4), .ref (Aa 5), .ref (Aa 6), .ref (Aa 7), .ref (Aa 8)])), ((Aa 1), .inl (tc 0, 10, .inl (Af 1))), ((Aa 2), .inl (tc 0, 10, .inl (Af 2))), ((Aa 3), .inl (tc 0, 6, .inl (Af 3))), ((Aa 4), .inl (tc 0, 6, .inl (Af 4))), ((Aa 5), .inl (tc 0, 6, .inl (Af 5))), ((Aa 6), .inl (tc 0, 6, .inl (Af 6))), ((Aa 7), .inl (tc 0, 6, .inl (Af 7))), ((Aa 8), .inl (tc 0, 6, .inl (Af 8)))] H → va_D A [((Ca 0), .inr (1, [.ref (Ta 0), .ref (Ca 2), .ref (Ca 3)])), ((Ca 2), .inl (tc 0, 25, .inl (Cf 2))), ((Ca 3), .inl (tc 0, 25, .inl (Cf 3))), ((Ta 0), .inr (9, [.int (Tv 0), .int (Tv 1), .int (Tv 2), .int (Tv 3), .int (Tv 4), .int (Tv 5), .ref (Ta 1), .ref (Ta 2), .ref (Ta 3), .ref (Ta 4), .ref (Ta 5), .ref (Ta 6), .ref (Ta 7), .ref (Ta 8)])), ((Ta 1), .inl (tc 0, 10, .inl (Tf 1))), ((Ta 2), .inl (tc 0, 10, .inl (Tf 2))), ((Ta 3), .inl (tc 0, 6, .inl (Tf 3))), ((Ta 4), .inl (tc 0, 6, .inl (Tf 4))), ((Ta 5), .inl (tc 0, 6, .inl (Tf 5))), ((Ta 6), .inl (tc 0, 6, .inl (Tf 6))), ((Ta 7), .inl (tc 0, 6, .inl (Tf 7))), ((Ta 8), .inl (tc 0, 6, .inl (Tf 8))), ((Aa 0), .inr (9, [.int (Av 0), .int (Av 1), .int (Av 2), .int (Av 3), .int (Av 4), .int (Av 5), .ref (Aa 1), .ref (Aa 2), .ref (Aa 3), .ref (Aa 4), .ref (Aa 5), .ref (Aa 6), .ref (Aa 7), .ref (Aa 8)])), ((Aa 1), .inl (tc 0, 10, .inl (Af 1))), ((Aa 2), .inl (tc 0, 10, .inl (Af 2))), ((Aa 3), .inl (tc 0, 6, .inl (Af 3))), ((Aa 4), .inl (tc 0, 6, .inl (Af 4))), ((Aa 5), .inl (tc 0, 6, .inl (Af 5))), ((Aa 6), .inl (tc 0, 6, .inl (Af 6))), ((Aa 7), .inl (tc 0, 6, .inl (Af 7))), ((Aa 8), .inl (tc 0, 6, .inl (Af 8)))] → va_S A s.heap H locs → lv_has ls 8 [(7, .int vy_12), (6, .int vy_13), (5, .int vy_14), (4, .int vy_15), (0, .ref (Ca 0)), (1, .ref (Aa 0)), (2, .int x1), (3, .int x2)] → W p l e ({ frames := 1, cells := 0, slots := 0, locals := 23 }) s m ([.ref (Ca 0), .ref (Aa 0), .int x1, .int x2].toArray) below meth c H locs 0 0 (MQ below (QW (fun (v : Option Value) (_ : Unit) => ∃ r : Int32, v = some (.int r) ∧ (True)) (BW D (fun (_ : Unit) => [((Ca 0), .inr (1, [.ref (Ta 0), .ref (Ca 2), .ref (Ca 3)])), ((Ca 2), .inl (tc 0, 25, .inl (Cf 2))), ((Ca 3), .inl (tc 0, 25, .inl (Cf 3))), ((Ta 0), .inr (9, [.int (Tv 0), .int (Tv 1), .int (Tv 2), .int (Tv 3), .int (Tv 4), .int (Tv 5), .ref (Ta 1), .ref (Ta 2), .ref (Ta 3), .ref (Ta 4), .ref (Ta 5), .ref (Ta 6), .ref (Ta 7), .ref (Ta 8)])), ((Ta 1), .inl (tc 0, 10, .inl (Tf 1))), ((Ta 2), .inl (tc 0, 10, .inl (Tf 2))), ((Ta 3), .inl (tc 0, 6, .inl (Tf 3))), ((Ta 4), .inl (tc 0, 6, .inl (Tf 4))), ((Ta 5), .inl (tc 0, 6, .inl (Tf 5))), ((Ta 6), .inl (tc 0, 6, .inl (Tf 6))), ((Ta 7), .inl (tc 0, 6, .inl (Tf 7))), ((Ta 8), .inl (tc 0, 6, .inl (Tf 8))), ((Aa 0), .inr (9, [.int (Av 0), .int (Av 1), .int (Av 2), .int (Av 3), .int (Av 4), .int (Av 5), .ref (Aa 1), .ref (Aa 2), .ref (Aa 3), .ref (Aa 4), .ref (Aa 5), .ref (Aa 6), .ref (Aa 7), .ref (Aa 8)])), ((Aa 1), .inl (tc 0, 10, .inl (Af 1))), ((Aa 2), .inl (tc 0, 10, .inl (Af 2))), ((Aa 3), .inl (tc 0, 6, .inl (Af 3))), ((Aa 4), .inl (tc 0, 6, .inl (Af 4))), ((Aa 5), .inl (tc 0, 6, .inl (Af 5))), ((Aa 6), .inl (tc 0, 6, .inl (Af 6))), ((Aa 7), .inl (tc 0, 6, .inl (Af 7))), ((Aa 8), .inl (tc 0, 6, .inl (Af 8)))]) A) A) ([.ref (Ca 0), .ref (Aa 0), .int x1, .int x2].toArray) s 0 0 A) (F0 m 16 ls []) := by
    intro n_16
    induction n_16 with
    | zero =>
      intro vy_12 vy_13 vy_14 vy_15 H locs ls h1 h2
      exact absurd h2 (Nat.not_lt_zero _)
    | succ n_16 ih_17 =>
      intro vy_12 vy_13 vy_14 vy_15 H locs ls hi_20 hn_21 hP hD hS hl
      refine lv_iload hx hb dX1_setsOf_16 (lv_at hl 0 rfl) ?_
      refine lv_aload_n hx hb dX1_setsOf_18 rfl (lv_at hl 5 rfl) ?_
      have hh_22 : 0 ≤ (Av 3).toInt ∧ (Av 3).toInt ≤ 6 := by
        first | assumption | omega
      refine cV (a := (Aa 0)) (As := []) (rest := [.int vy_12]) (wr := [((Ca 0), .inr (1, [.ref (Ta 0), .ref (Ca 2), .ref (Ca 3)])), ((Ca 2), .inl (tc 0, 25, .inl (Cf 2))), ((Ca 3), .inl (tc 0, 25, .inl (Cf 3))), ((Ta 0), .inr (9, [.int (Tv 0), .int (Tv 1), .int (Tv 2), .int (Tv 3), .int (Tv 4), .int (Tv 5), .ref (Ta 1), .ref (Ta 2), .ref (Ta 3), .ref (Ta 4), .ref (Ta 5), .ref (Ta 6), .ref (Ta 7), .ref (Ta 8)])), ((Ta 1), .inl (tc 0, 10, .inl (Tf 1))), ((Ta 2), .inl (tc 0, 10, .inl (Tf 2))), ((Ta 3), .inl (tc 0, 6, .inl (Tf 3))), ((Ta 4), .inl (tc 0, 6, .inl (Tf 4))), ((Ta 5), .inl (tc 0, 6, .inl (Tf 5))), ((Ta 6), .inl (tc 0, 6, .inl (Tf 6))), ((Ta 7), .inl (tc 0, 6, .inl (Tf 7))), ((Ta 8), .inl (tc 0, 6, .inl (Tf 8)))]) ⟨hx, hb, hml, hown, hts⟩ hK hX hA (cu_X9_everybody l D tc sk (Aa 0) (Aa 1) (Aa 2) (Aa 3) (Aa 4) (Aa 5) (Aa 6) (Aa 7) (Aa 8) (Av 0) (Av 1) (Av 2) (Av 3) (Av 4) (Av 5) (Af 1) (Af 2) (Af 3) (Af 4) (Af 5) (Af 6) (Af 7) (Af 8) hh_22) k_873 k_870 k_871 k_872 k_98 pl_X9_everybody ⟨Nat.le_of_ble_eq_true rfl, Nat.le_of_ble_eq_true rfl⟩ rfl rfl (va_recv hK hP (ci := 9) (q0 := 12) rfl rfl) hP hD hS [12, 13, 14, 15, 16, 17, 18, 19, 20] [0, 1, 2, 3, 4, 5, 6, 7, 8, 9, 10, 11] rfl rfl rfl rfl rfl (by decide) rfl hl.1 rfl (Nat.le_of_ble_eq_true rfl) dX1_setsOf_19 ⟨Nat.le_of_ble_eq_true rfl, Nat.le_of_ble_eq_true rfl⟩ (fun v_23 u_24 H locs hv_25 hP hD hS => ?_)
      obtain ⟨r_26, rfl, he_27⟩ := hv_25
      have he_27 : ((r_26.toInt ≤ 63 ∧ 0 ≤ r_26.toInt)) := he_27
      refine W.eq (g2 := F0 m 22 ls [.int r_26, .int vy_12]) rfl ?_
      have hP : va_P D classes [((Ca 0), .inr (1, [.ref (Ta 0), .ref (Ca 2), .ref (Ca 3)])), ((Ca 2), .inl (tc 0, 25, .inl (Cf 2))), ((Ca 3), .inl (tc 0, 25, .inl (Cf 3))), ((Ta 0), .inr (9, [.int (Tv 0), .int (Tv 1), .int (Tv 2), .int (Tv 3), .int (Tv 4), .int (Tv 5), .ref (Ta 1), .ref (Ta 2), .ref (Ta 3), .ref (Ta 4), .ref (Ta 5), .ref (Ta 6), .ref (Ta 7), .ref (Ta 8)])), ((Ta 1), .inl (tc 0, 10, .inl (Tf 1))), ((Ta 2), .inl (tc 0, 10, .inl (Tf 2))), ((Ta 3), .inl (tc 0, 6, .inl (Tf 3))), ((Ta 4), .inl (tc 0, 6, .inl (Tf 4))), ((Ta 5), .inl (tc 0, 6, .inl (Tf 5))), ((Ta 6), .inl (tc 0, 6, .inl (Tf 6))), ((Ta 7), .inl (tc 0, 6, .inl (Tf 7))), ((Ta 8), .inl (tc 0, 6, .inl (Tf 8))), ((Aa 0), .inr (9, [.int (Av 0), .int (Av 1), .int (Av 2), .int (Av 3), .int (Av 4), .int (Av 5), .ref (Aa 1), .ref (Aa 2), .ref (Aa 3), .ref (Aa 4), .ref (Aa 5), .ref (Aa 6), .ref (Aa 7), .ref (Aa 8)])), ((Aa 1), .inl (tc 0, 10, .inl (Af 1))), ((Aa 2), .inl (tc 0, 10, .inl (Af 2))), ((Aa 3), .inl (tc 0, 6, .inl (Af 3))), ((Aa 4), .inl (tc 0, 6, .inl (Af 4))), ((Aa 5), .inl (tc 0, 6, .inl (Af 5))), ((Aa 6), .inl (tc 0, 6, .inl (Af 6))), ((Aa 7), .inl (tc 0, 6, .inl (Af 7))), ((Aa 8), .inl (tc 0, 6, .inl (Af 8)))] H := hP
      have hD : va_D A [((Ca 0), .inr (1, [.ref (Ta 0), .ref (Ca 2), .ref (Ca 3)])), ((Ca 2), .inl (tc 0, 25, .inl (Cf 2))), ((Ca 3), .inl (tc 0, 25, .inl (Cf 3))), ((Ta 0), .inr (9, [.int (Tv 0), .int (Tv 1), .int (Tv 2), .int (Tv 3), .int (Tv 4), .int (Tv 5), .ref (Ta 1), .ref (Ta 2), .ref (Ta 3), .ref (Ta 4), .ref (Ta 5), .ref (Ta 6), .ref (Ta 7), .ref (Ta 8)])), ((Ta 1), .inl (tc 0, 10, .inl (Tf 1))), ((Ta 2), .inl (tc 0, 10, .inl (Tf 2))), ((Ta 3), .inl (tc 0, 6, .inl (Tf 3))), ((Ta 4), .inl (tc 0, 6, .inl (Tf 4))), ((Ta 5), .inl (tc 0, 6, .inl (Tf 5))), ((Ta 6), .inl (tc 0, 6, .inl (Tf 6))), ((Ta 7), .inl (tc 0, 6, .inl (Tf 7))), ((Ta 8), .inl (tc 0, 6, .inl (Tf 8))), ((Aa 0), .inr (9, [.int (Av 0), .int (Av 1), .int (Av 2), .int (Av 3), .int (Av 4), .int (Av 5), .ref (Aa 1), .ref (Aa 2), .ref (Aa 3), .ref (Aa 4), .ref (Aa 5), .ref (Aa 6), .ref (Aa 7), .ref (Aa 8)])), ((Aa 1), .inl (tc 0, 10, .inl (Af 1))), ((Aa 2), .inl (tc 0, 10, .inl (Af 2))), ((Aa 3), .inl (tc 0, 6, .inl (Af 3))), ((Aa 4), .inl (tc 0, 6, .inl (Af 4))), ((Aa 5), .inl (tc 0, 6, .inl (Af 5))), ((Aa 6), .inl (tc 0, 6, .inl (Af 6))), ((Aa 7), .inl (tc 0, 6, .inl (Af 7))), ((Aa 8), .inl (tc 0, 6, .inl (Af 8)))] := hD
      refine lv_icmp_gt (tgt := 65) hx hb dX1_setsOf_22 (by decide) (fun c_28 => ?_) (fun c_28 => ?_)
      · skip
        refine lv_iload_n hx hb dX1_setsOf_65 rfl (lv_at hl 7 rfl) ?_
        refine lv_if_ne (tgt := 72) hx hb dX1_setsOf_66 (by decide) (fun c_29 => ?_) (fun c_29 => ?_)
        · skip
          refine lv_iload_n hx hb dX1_setsOf_72 rfl (lv_at hl 7 rfl) ?_
          refine lv_iconst (v := 1) hx hb dX1_setsOf_73 (by decide) ?_
          refine lv_icmp_ne (tgt := 80) hx hb dX1_setsOf_74 (by decide) (fun c_30 => ?_) (fun c_30 => ?_)
          · skip
            refine lv_iload hx hb dX1_setsOf_80 (lv_at hl 3 rfl) ?_
            refine lv_if_ne (tgt := 89) hx hb dX1_setsOf_82 (by decide) (fun c_31 => ?_) (fun c_31 => ?_)
            · skip
              refine lv_iload hx hb dX1_setsOf_89 (lv_at hl 1 rfl) ?_
              exact retI (v := vy_13) hx hb hr hlk (rfl) hP hD hS () ⟨_, rfl, trivial⟩ [0, 1, 2, 3, 4, 5, 6, 7, 8, 9, 10, 11, 12, 13, 14, 15, 16, 17, 18, 19, 20] rfl rfl dX1_setsOf_91 (Nat.le_of_ble_eq_true rfl) (Nat.le_of_ble_eq_true rfl) rfl
            · skip
              refine lv_iconst (v := 0) hx hb dX1_setsOf_85 (by decide) ?_
              refine lv_goto (tgt := 91) hx hb dX1_setsOf_86 (by decide) ?_
              exact retI (v := 0) hx hb hr hlk (rfl) hP hD hS () ⟨_, rfl, trivial⟩ [0, 1, 2, 3, 4, 5, 6, 7, 8, 9, 10, 11, 12, 13, 14, 15, 16, 17, 18, 19, 20] rfl rfl dX1_setsOf_91 (Nat.le_of_ble_eq_true rfl) (Nat.le_of_ble_eq_true rfl) rfl
          · skip
            refine lv_iload hx hb dX1_setsOf_77 (lv_at hl 2 rfl) ?_
            exact retI (v := vy_14) hx hb hr hlk (rfl) hP hD hS () ⟨_, rfl, trivial⟩ [0, 1, 2, 3, 4, 5, 6, 7, 8, 9, 10, 11, 12, 13, 14, 15, 16, 17, 18, 19, 20] rfl rfl dX1_setsOf_79 (Nat.le_of_ble_eq_true rfl) (Nat.le_of_ble_eq_true rfl) rfl
        · skip
          refine lv_iload hx hb dX1_setsOf_69 (lv_at hl 3 rfl) ?_
          exact retI (v := vy_15) hx hb hr hlk (rfl) hP hD hS () ⟨_, rfl, trivial⟩ [0, 1, 2, 3, 4, 5, 6, 7, 8, 9, 10, 11, 12, 13, 14, 15, 16, 17, 18, 19, 20] rfl rfl dX1_setsOf_71 (Nat.le_of_ble_eq_true rfl) (Nat.le_of_ble_eq_true rfl) rfl
      · skip
        refine lv_aload_n hx hb dX1_setsOf_25 rfl (lv_at hl 5 rfl) ?_
        refine lv_iload hx hb dX1_setsOf_26 (lv_at hl 0 rfl) ?_
        refine cS (As := [.ref (Aa 0), .int vy_12]) (rest := []) (wr := [((Ca 0), .inr (1, [.ref (Ta 0), .ref (Ca 2), .ref (Ca 3)])), ((Ca 2), .inl (tc 0, 25, .inl (Cf 2))), ((Ca 3), .inl (tc 0, 25, .inl (Cf 3))), ((Ta 0), .inr (9, [.int (Tv 0), .int (Tv 1), .int (Tv 2), .int (Tv 3), .int (Tv 4), .int (Tv 5), .ref (Ta 1), .ref (Ta 2), .ref (Ta 3), .ref (Ta 4), .ref (Ta 5), .ref (Ta 6), .ref (Ta 7), .ref (Ta 8)])), ((Ta 1), .inl (tc 0, 10, .inl (Tf 1))), ((Ta 2), .inl (tc 0, 10, .inl (Tf 2))), ((Ta 3), .inl (tc 0, 6, .inl (Tf 3))), ((Ta 4), .inl (tc 0, 6, .inl (Tf 4))), ((Ta 5), .inl (tc 0, 6, .inl (Tf 5))), ((Ta 6), .inl (tc 0, 6, .inl (Tf 6))), ((Ta 7), .inl (tc 0, 6, .inl (Tf 7))), ((Ta 8), .inl (tc 0, 6, .inl (Tf 8)))]) ⟨hx, hb, hml, hown, hts⟩ hK hX hA (cu_X1_grainsOf l D tc sk (Aa 0) (Aa 1) (Aa 2) (Aa 3) (Aa 4) (Aa 5) (Aa 6) (Aa 7) (Aa 8) (Av 0) (Av 1) (Av 2) (Av 3) (Av 4) (Av 5) (Af 1) (Af 2) (Af 3) (Af 4) (Af 5) (Af 6) (Af 7) (Af 8) vy_12) k_913 k_911 k_912 k_104 pl_X1_grainsOf ⟨Nat.le_of_ble_eq_true rfl, Nat.le_of_ble_eq_true rfl⟩ rfl rfl  hP hD hS [12, 13, 14, 15, 16, 17, 18, 19, 20] [0, 1, 2, 3, 4, 5, 6, 7, 8, 9, 10, 11] rfl rfl rfl rfl rfl (by decide) rfl hl.1 rfl (Nat.le_of_ble_eq_true rfl) dX1_setsOf_28 ⟨Nat.le_of_ble_eq_true rfl, Nat.le_of_ble_eq_true rfl⟩ (fun v_32 u_33 H locs hv_34 hP hD hS => ?_)
        obtain ⟨r_35, rfl, he_36⟩ := hv_34
        have he_36 : (True) := he_36
        refine W.eq (g2 := F0 m 31 ls [.int r_35]) rfl ?_
        have hP : va_P D classes [((Ca 0), .inr (1, [.ref (Ta 0), .ref (Ca 2), .ref (Ca 3)])), ((Ca 2), .inl (tc 0, 25, .inl (Cf 2))), ((Ca 3), .inl (tc 0, 25, .inl (Cf 3))), ((Ta 0), .inr (9, [.int (Tv 0), .int (Tv 1), .int (Tv 2), .int (Tv 3), .int (Tv 4), .int (Tv 5), .ref (Ta 1), .ref (Ta 2), .ref (Ta 3), .ref (Ta 4), .ref (Ta 5), .ref (Ta 6), .ref (Ta 7), .ref (Ta 8)])), ((Ta 1), .inl (tc 0, 10, .inl (Tf 1))), ((Ta 2), .inl (tc 0, 10, .inl (Tf 2))), ((Ta 3), .inl (tc 0, 6, .inl (Tf 3))), ((Ta 4), .inl (tc 0, 6, .inl (Tf 4))), ((Ta 5), .inl (tc 0, 6, .inl (Tf 5))), ((Ta 6), .inl (tc 0, 6, .inl (Tf 6))), ((Ta 7), .inl (tc 0, 6, .inl (Tf 7))), ((Ta 8), .inl (tc 0, 6, .inl (Tf 8))), ((Aa 0), .inr (9, [.int (Av 0), .int (Av 1), .int (Av 2), .int (Av 3), .int (Av 4), .int (Av 5), .ref (Aa 1), .ref (Aa 2), .ref (Aa 3), .ref (Aa 4), .ref (Aa 5), .ref (Aa 6), .ref (Aa 7), .ref (Aa 8)])), ((Aa 1), .inl (tc 0, 10, .inl (Af 1))), ((Aa 2), .inl (tc 0, 10, .inl (Af 2))), ((Aa 3), .inl (tc 0, 6, .inl (Af 3))), ((Aa 4), .inl (tc 0, 6, .inl (Af 4))), ((Aa 5), .inl (tc 0, 6, .inl (Af 5))), ((Aa 6), .inl (tc 0, 6, .inl (Af 6))), ((Aa 7), .inl (tc 0, 6, .inl (Af 7))), ((Aa 8), .inl (tc 0, 6, .inl (Af 8)))] H := hP
        have hD : va_D A [((Ca 0), .inr (1, [.ref (Ta 0), .ref (Ca 2), .ref (Ca 3)])), ((Ca 2), .inl (tc 0, 25, .inl (Cf 2))), ((Ca 3), .inl (tc 0, 25, .inl (Cf 3))), ((Ta 0), .inr (9, [.int (Tv 0), .int (Tv 1), .int (Tv 2), .int (Tv 3), .int (Tv 4), .int (Tv 5), .ref (Ta 1), .ref (Ta 2), .ref (Ta 3), .ref (Ta 4), .ref (Ta 5), .ref (Ta 6), .ref (Ta 7), .ref (Ta 8)])), ((Ta 1), .inl (tc 0, 10, .inl (Tf 1))), ((Ta 2), .inl (tc 0, 10, .inl (Tf 2))), ((Ta 3), .inl (tc 0, 6, .inl (Tf 3))), ((Ta 4), .inl (tc 0, 6, .inl (Tf 4))), ((Ta 5), .inl (tc 0, 6, .inl (Tf 5))), ((Ta 6), .inl (tc 0, 6, .inl (Tf 6))), ((Ta 7), .inl (tc 0, 6, .inl (Tf 7))), ((Ta 8), .inl (tc 0, 6, .inl (Tf 8))), ((Aa 0), .inr (9, [.int (Av 0), .int (Av 1), .int (Av 2), .int (Av 3), .int (Av 4), .int (Av 5), .ref (Aa 1), .ref (Aa 2), .ref (Aa 3), .ref (Aa 4), .ref (Aa 5), .ref (Aa 6), .ref (Aa 7), .ref (Aa 8)])), ((Aa 1), .inl (tc 0, 10, .inl (Af 1))), ((Aa 2), .inl (tc 0, 10, .inl (Af 2))), ((Aa 3), .inl (tc 0, 6, .inl (Af 3))), ((Aa 4), .inl (tc 0, 6, .inl (Af 4))), ((Aa 5), .inl (tc 0, 6, .inl (Af 5))), ((Aa 6), .inl (tc 0, 6, .inl (Af 6))), ((Aa 7), .inl (tc 0, 6, .inl (Af 7))), ((Aa 8), .inl (tc 0, 6, .inl (Af 8)))] := hD
        refine lv_iload_n hx hb dX1_setsOf_31 rfl (lv_at hl 6 rfl) ?_
        refine lv_icmp_ne (tgt := 59) hx hb dX1_setsOf_32 (by decide) (fun c_37 => ?_) (fun c_37 => ?_)
        · skip
          obtain ⟨x_38, ex_38⟩ : ∃ y : Int32, y = vy_12 + 1 := ⟨_, rfl⟩
          refine lv_iinc (v := x_38) (lv' := [(7, .int x_38), (6, .int vy_13), (5, .int vy_14), (4, .int vy_15), (0, .ref (Ca 0)), (1, .ref (Aa 0)), (2, .int x1), (3, .int x2)]) hx hb dX1_setsOf_59 hl (k := 0) rfl (by rw [ex_38]; rfl) (by decide) rfl (fun ls hl => ?_)
          refine lv_goto (tgt := 16) hx hb dX1_setsOf_62 (by decide) ?_
          have hb_39 : 0 ≤ (x_38 : Int32).toInt ∧ (64 - (x_38 : Int32).toInt).toNat < n_16 := by
            have z_1 := Int32.le_iff_toInt_le.mp (Int32.not_lt.mp c_28)
            have z_2 : ¬ (r_35 : Int32).toInt = (x1 : Int32).toInt := fun z => c_37 (Int32.toInt_inj.mp z)
            have y_1 : (1 : Int32).toInt = 1 := by decide
            have t_x_38 : x_38.toInt = (vy_12 : Int32).toInt + (1 : Int32).toInt := by rw [ex_38]; exact add_toInt (by omega) (by omega)
            omega
          exact ih_17 x_38 vy_13 vy_14 vy_15 _ _ _ hb_39.1 hb_39.2 (hP.sub [0, 1, 2, 3, 4, 5, 6, 7, 8, 9, 10, 11, 12, 13, 14, 15, 16, 17, 18, 19, 20] rfl) (hD.sub [0, 1, 2, 3, 4, 5, 6, 7, 8, 9, 10, 11, 12, 13, 14, 15, 16, 17, 18, 19, 20] rfl rfl) hS (lv_sub hl [0, 1, 2, 3, 4, 5, 6, 7] rfl)
        · skip
          refine lv_iload hx hb dX1_setsOf_35 (lv_at hl 3 rfl) ?_
          refine lv_if_ne (tgt := 45) hx hb dX1_setsOf_37 (by decide) (fun c_40 => ?_) (fun c_40 => ?_)
          · skip
            refine lv_iload hx hb dX1_setsOf_45 (lv_at hl 2 rfl) ?_
            refine lv_istore (lv' := [(5, .int vy_14), (7, .int vy_12), (6, .int vy_13), (4, .int vy_15), (0, .ref (Ca 0)), (1, .ref (Aa 0)), (2, .int x1), (3, .int x2)]) hx hb dX1_setsOf_47 hl (by decide) rfl (fun ls hl => ?_)
            refine lv_iload hx hb dX1_setsOf_49 (lv_at hl 2 rfl) ?_
            refine lv_iload hx hb dX1_setsOf_51 (lv_at hl 1 rfl) ?_
            refine lv_iand hx hb dX1_setsOf_53 ?_
            refine lv_topi (fun x_41 ex_41 => ?_)
            refine lv_istore (lv' := [(6, .int x_41), (5, .int vy_14), (7, .int vy_12), (4, .int vy_15), (0, .ref (Ca 0)), (1, .ref (Aa 0)), (2, .int x1), (3, .int x2)]) hx hb dX1_setsOf_54 hl (by decide) rfl (fun ls hl => ?_)
            obtain ⟨x_42, ex_42⟩ : ∃ y : Int32, y = vy_15 + 1 := ⟨_, rfl⟩
            refine lv_iinc (v := x_42) (lv' := [(4, .int x_42), (6, .int x_41), (5, .int vy_14), (7, .int vy_12), (0, .ref (Ca 0)), (1, .ref (Aa 0)), (2, .int x1), (3, .int x2)]) hx hb dX1_setsOf_56 hl (k := 3) rfl (by rw [ex_42]; rfl) (by decide) rfl (fun ls hl => ?_)
            obtain ⟨x_43, ex_43⟩ : ∃ y : Int32, y = vy_12 + 1 := ⟨_, rfl⟩
            refine lv_iinc (v := x_43) (lv' := [(7, .int x_43), (4, .int x_42), (6, .int x_41), (5, .int vy_14), (0, .ref (Ca 0)), (1, .ref (Aa 0)), (2, .int x1), (3, .int x2)]) hx hb dX1_setsOf_59 hl (k := 3) rfl (by rw [ex_43]; rfl) (by decide) rfl (fun ls hl => ?_)
            refine lv_goto (tgt := 16) hx hb dX1_setsOf_62 (by decide) ?_
            have hb_44 : 0 ≤ (x_43 : Int32).toInt ∧ (64 - (x_43 : Int32).toInt).toNat < n_16 := by
              have z_1 := Int32.le_iff_toInt_le.mp (Int32.not_lt.mp c_28)
              have z_2 := congrArg Int32.toInt c_37
              have z_3 : ¬ (vy_15 : Int32).toInt = (0 : Int32).toInt := fun z => c_40 (Int32.toInt_inj.mp z)
              have y_0 : (0 : Int32).toInt = 0 := by decide
              have y_1 : (1 : Int32).toInt = 1 := by decide
              have t_x_43 : x_43.toInt = (vy_12 : Int32).toInt + (1 : Int32).toInt := by rw [ex_43]; exact add_toInt (by omega) (by omega)
              omega
            exact ih_17 x_43 x_41 vy_14 x_42 _ _ _ hb_44.1 hb_44.2 (hP.sub [0, 1, 2, 3, 4, 5, 6, 7, 8, 9, 10, 11, 12, 13, 14, 15, 16, 17, 18, 19, 20] rfl) (hD.sub [0, 1, 2, 3, 4, 5, 6, 7, 8, 9, 10, 11, 12, 13, 14, 15, 16, 17, 18, 19, 20] rfl rfl) hS (lv_sub hl [0, 2, 3, 1, 4, 5, 6, 7] rfl)
          · skip
            refine lv_iload hx hb dX1_setsOf_40 (lv_at hl 0 rfl) ?_
            refine lv_goto (tgt := 47) hx hb dX1_setsOf_42 (by decide) ?_
            refine lv_istore (lv' := [(5, .int vy_12), (7, .int vy_12), (6, .int vy_13), (4, .int vy_15), (0, .ref (Ca 0)), (1, .ref (Aa 0)), (2, .int x1), (3, .int x2)]) hx hb dX1_setsOf_47 hl (by decide) rfl (fun ls hl => ?_)
            refine lv_iload hx hb dX1_setsOf_49 (lv_at hl 2 rfl) ?_
            refine lv_iload hx hb dX1_setsOf_51 (lv_at hl 1 rfl) ?_
            refine lv_iand hx hb dX1_setsOf_53 ?_
            refine lv_topi (fun x_45 ex_45 => ?_)
            refine lv_istore (lv' := [(6, .int x_45), (5, .int vy_12), (7, .int vy_12), (4, .int vy_15), (0, .ref (Ca 0)), (1, .ref (Aa 0)), (2, .int x1), (3, .int x2)]) hx hb dX1_setsOf_54 hl (by decide) rfl (fun ls hl => ?_)
            obtain ⟨x_46, ex_46⟩ : ∃ y : Int32, y = vy_15 + 1 := ⟨_, rfl⟩
            refine lv_iinc (v := x_46) (lv' := [(4, .int x_46), (6, .int x_45), (5, .int vy_12), (7, .int vy_12), (0, .ref (Ca 0)), (1, .ref (Aa 0)), (2, .int x1), (3, .int x2)]) hx hb dX1_setsOf_56 hl (k := 3) rfl (by rw [ex_46]; rfl) (by decide) rfl (fun ls hl => ?_)
            obtain ⟨x_47, ex_47⟩ : ∃ y : Int32, y = vy_12 + 1 := ⟨_, rfl⟩
            refine lv_iinc (v := x_47) (lv' := [(7, .int x_47), (4, .int x_46), (6, .int x_45), (5, .int vy_12), (0, .ref (Ca 0)), (1, .ref (Aa 0)), (2, .int x1), (3, .int x2)]) hx hb dX1_setsOf_59 hl (k := 3) rfl (by rw [ex_47]; rfl) (by decide) rfl (fun ls hl => ?_)
            refine lv_goto (tgt := 16) hx hb dX1_setsOf_62 (by decide) ?_
            have hb_48 : 0 ≤ (x_47 : Int32).toInt ∧ (64 - (x_47 : Int32).toInt).toNat < n_16 := by
              have z_1 := Int32.le_iff_toInt_le.mp (Int32.not_lt.mp c_28)
              have z_2 := congrArg Int32.toInt c_37
              have z_3 := congrArg Int32.toInt c_40
              have y_0 : (0 : Int32).toInt = 0 := by decide
              have y_1 : (1 : Int32).toInt = 1 := by decide
              have t_x_47 : x_47.toInt = (vy_12 : Int32).toInt + (1 : Int32).toInt := by rw [ex_47]; exact add_toInt (by omega) (by omega)
              omega
            exact ih_17 x_47 x_45 vy_12 x_46 _ _ _ hb_48.1 hb_48.2 (hP.sub [0, 1, 2, 3, 4, 5, 6, 7, 8, 9, 10, 11, 12, 13, 14, 15, 16, 17, 18, 19, 20] rfl) (hD.sub [0, 1, 2, 3, 4, 5, 6, 7, 8, 9, 10, 11, 12, 13, 14, 15, 16, 17, 18, 19, 20] rfl rfl) hS (lv_sub hl [0, 2, 3, 1, 4, 5, 6, 7] rfl)
  have h0_49 : 0 ≤ (0 : Int32).toInt := by
    have y_0 : (0 : Int32).toInt = 0 := by decide
    decide
  exact loop_18 _ 0 r_5 (-2) 0 _ _ _ h0_49 (Nat.lt_succ_self _) hP hD hS hl
set_option maxRecDepth 100000 in
theorem cu_X1_setsOf (l : Launch) (D : va_G) (tc : Nat → ClassId) (sk : (Nat → Nat) × (Nat → Nat)) (Ca_0 : Nat) (Ca_2 : Nat) (Ca_3 : Nat) (Cf_2 : Nat → Int32) (Cf_3 : Nat → Int32) (Ta_0 : Nat) (Ta_1 : Nat) (Ta_2 : Nat) (Ta_3 : Nat) (Ta_4 : Nat) (Ta_5 : Nat) (Ta_6 : Nat) (Ta_7 : Nat) (Ta_8 : Nat) (Tv_0 : Int32) (Tv_1 : Int32) (Tv_2 : Int32) (Tv_3 : Int32) (Tv_4 : Int32) (Tv_5 : Int32) (Tf_1 : Nat → Int32) (Tf_2 : Nat → Int32) (Tf_3 : Nat → Int32) (Tf_4 : Nat → Int32) (Tf_5 : Nat → Int32) (Tf_6 : Nat → Int32) (Tf_7 : Nat → Int32) (Tf_8 : Nat → Int32) (Aa_0 : Nat) (Aa_1 : Nat) (Aa_2 : Nat) (Aa_3 : Nat) (Aa_4 : Nat) (Aa_5 : Nat) (Aa_6 : Nat) (Aa_7 : Nat) (Aa_8 : Nat) (Av_0 : Int32) (Av_1 : Int32) (Av_2 : Int32) (Av_3 : Int32) (Av_4 : Int32) (Av_5 : Int32) (Af_1 : Nat → Int32) (Af_2 : Nat → Int32) (Af_3 : Nat → Int32) (Af_4 : Nat → Int32) (Af_5 : Nat → Int32) (Af_6 : Nat → Int32) (Af_7 : Nat → Int32) (Af_8 : Nat → Int32) (x1 : Int32) (x2 : Int32) (h_buy : 0 ≤ Av_3.toInt ∧ Av_3.toInt ≤ 6) : Ct l yX1_setsOf cX1_setsOf 8 (some .int) { frames := 1, cells := 0, slots := 0, locals := 23 } D tc sk [.ref Ca_0, .ref Aa_0, .int x1, .int x2] [(Ca_0, .inr (1, [.ref Ta_0, .ref Ca_2, .ref Ca_3])), (Ca_2, .inl (tc 0, 25, .inl Cf_2)), (Ca_3, .inl (tc 0, 25, .inl Cf_3)), (Ta_0, .inr (9, [.int Tv_0, .int Tv_1, .int Tv_2, .int Tv_3, .int Tv_4, .int Tv_5, .ref Ta_1, .ref Ta_2, .ref Ta_3, .ref Ta_4, .ref Ta_5, .ref Ta_6, .ref Ta_7, .ref Ta_8])), (Ta_1, .inl (tc 0, 10, .inl Tf_1)), (Ta_2, .inl (tc 0, 10, .inl Tf_2)), (Ta_3, .inl (tc 0, 6, .inl Tf_3)), (Ta_4, .inl (tc 0, 6, .inl Tf_4)), (Ta_5, .inl (tc 0, 6, .inl Tf_5)), (Ta_6, .inl (tc 0, 6, .inl Tf_6)), (Ta_7, .inl (tc 0, 6, .inl Tf_7)), (Ta_8, .inl (tc 0, 6, .inl Tf_8)), (Aa_0, .inr (9, [.int Av_0, .int Av_1, .int Av_2, .int Av_3, .int Av_4, .int Av_5, .ref Aa_1, .ref Aa_2, .ref Aa_3, .ref Aa_4, .ref Aa_5, .ref Aa_6, .ref Aa_7, .ref Aa_8])), (Aa_1, .inl (tc 0, 10, .inl Af_1)), (Aa_2, .inl (tc 0, 10, .inl Af_2)), (Aa_3, .inl (tc 0, 6, .inl Af_3)), (Aa_4, .inl (tc 0, 6, .inl Af_4)), (Aa_5, .inl (tc 0, 6, .inl Af_5)), (Aa_6, .inl (tc 0, 6, .inl Af_6)), (Aa_7, .inl (tc 0, 6, .inl Af_7)), (Aa_8, .inl (tc 0, 6, .inl Af_8))] (fun (v : Option Value) (_ : Unit) => ∃ r : Int32, v = some (.int r) ∧ (True)) (fun (_ : Unit) => [(Ca_0, .inr (1, [.ref Ta_0, .ref Ca_2, .ref Ca_3])), (Ca_2, .inl (tc 0, 25, .inl Cf_2)), (Ca_3, .inl (tc 0, 25, .inl Cf_3)), (Ta_0, .inr (9, [.int Tv_0, .int Tv_1, .int Tv_2, .int Tv_3, .int Tv_4, .int Tv_5, .ref Ta_1, .ref Ta_2, .ref Ta_3, .ref Ta_4, .ref Ta_5, .ref Ta_6, .ref Ta_7, .ref Ta_8])), (Ta_1, .inl (tc 0, 10, .inl Tf_1)), (Ta_2, .inl (tc 0, 10, .inl Tf_2)), (Ta_3, .inl (tc 0, 6, .inl Tf_3)), (Ta_4, .inl (tc 0, 6, .inl Tf_4)), (Ta_5, .inl (tc 0, 6, .inl Tf_5)), (Ta_6, .inl (tc 0, 6, .inl Tf_6)), (Ta_7, .inl (tc 0, 6, .inl Tf_7)), (Ta_8, .inl (tc 0, 6, .inl Tf_8)), (Aa_0, .inr (9, [.int Av_0, .int Av_1, .int Av_2, .int Av_3, .int Av_4, .int Av_5, .ref Aa_1, .ref Aa_2, .ref Aa_3, .ref Aa_4, .ref Aa_5, .ref Aa_6, .ref Aa_7, .ref Aa_8])), (Aa_1, .inl (tc 0, 10, .inl Af_1)), (Aa_2, .inl (tc 0, 10, .inl Af_2)), (Aa_3, .inl (tc 0, 6, .inl Af_3)), (Aa_4, .inl (tc 0, 6, .inl Af_4)), (Aa_5, .inl (tc 0, 6, .inl Af_5)), (Aa_6, .inl (tc 0, 6, .inl Af_6)), (Aa_7, .inl (tc 0, 6, .inl Af_7)), (Aa_8, .inl (tc 0, 6, .inl Af_8))]) 0 0 :=
  ct_X1_setsOf l D tc sk (fun k => ([Ca_0, 0, Ca_2, Ca_3] : List (Nat)).getD k 0) (fun k => ([(fun _ => 0), (fun _ => 0), Cf_2, Cf_3] : List (Nat → Int32)).getD k (fun _ => 0)) (fun k => ([Ta_0, Ta_1, Ta_2, Ta_3, Ta_4, Ta_5, Ta_6, Ta_7, Ta_8] : List (Nat)).getD k 0) (fun k => ([Tv_0, Tv_1, Tv_2, Tv_3, Tv_4, Tv_5] : List (Int32)).getD k 0) (fun k => ([(fun _ => 0), Tf_1, Tf_2, Tf_3, Tf_4, Tf_5, Tf_6, Tf_7, Tf_8] : List (Nat → Int32)).getD k (fun _ => 0)) (fun k => ([Aa_0, Aa_1, Aa_2, Aa_3, Aa_4, Aa_5, Aa_6, Aa_7, Aa_8] : List (Nat)).getD k 0) (fun k => ([Av_0, Av_1, Av_2, Av_3, Av_4, Av_5] : List (Int32)).getD k 0) (fun k => ([(fun _ => 0), Af_1, Af_2, Af_3, Af_4, Af_5, Af_6, Af_7, Af_8] : List (Nat → Int32)).getD k (fun _ => 0)) x1 x2 h_buy
set_option maxHeartbeats 4000000 in
set_option maxRecDepth 100000 in
theorem ct_X4_aheadOf_n (l : Launch) (D : va_G) (tc : Nat → ClassId) (sk : (Nat → Nat) × (Nat → Nat)) (Oa : Nat → Nat) (Oj : Nat → Int64) (Og : Nat → Nat → Int64) (Ta : Nat → Nat) (Tv : Nat → Int32) (Tf : Nat → Nat → Int32) (Aa : Nat → Nat) (Av : Nat → Int32) (Af : Nat → Nat → Int32) (x1 : Int32) (x2 : Int32) (x3 : Int32)  : Ct l yX4_aheadOf cX4_aheadOf 6 (some .int) { frames := 4, cells := 0, slots := 0, locals := 93 } D tc sk [.ref (Oa 0), .ref (Aa 0), .null, .int x1, .int x2, .int x3] [((Oa 0), .inr (4, [.ref (Ta 0), .ref (Oa 2), .long (Oj 0)])), ((Oa 2), .inl (tc 1, 61, .inr (.inl (Og 2)))), ((Ta 0), .inr (9, [.int (Tv 0), .int (Tv 1), .int (Tv 2), .int (Tv 3), .int (Tv 4), .int (Tv 5), .ref (Ta 1), .ref (Ta 2), .ref (Ta 3), .ref (Ta 4), .ref (Ta 5), .ref (Ta 6), .ref (Ta 7), .ref (Ta 8)])), ((Ta 1), .inl (tc 0, 10, .inl (Tf 1))), ((Ta 2), .inl (tc 0, 10, .inl (Tf 2))), ((Ta 3), .inl (tc 0, 6, .inl (Tf 3))), ((Ta 4), .inl (tc 0, 6, .inl (Tf 4))), ((Ta 5), .inl (tc 0, 6, .inl (Tf 5))), ((Ta 6), .inl (tc 0, 6, .inl (Tf 6))), ((Ta 7), .inl (tc 0, 6, .inl (Tf 7))), ((Ta 8), .inl (tc 0, 6, .inl (Tf 8))), ((Aa 0), .inr (9, [.int (Av 0), .int (Av 1), .int (Av 2), .int (Av 3), .int (Av 4), .int (Av 5), .ref (Aa 1), .ref (Aa 2), .ref (Aa 3), .ref (Aa 4), .ref (Aa 5), .ref (Aa 6), .ref (Aa 7), .ref (Aa 8)])), ((Aa 1), .inl (tc 0, 10, .inl (Af 1))), ((Aa 2), .inl (tc 0, 10, .inl (Af 2))), ((Aa 3), .inl (tc 0, 6, .inl (Af 3))), ((Aa 4), .inl (tc 0, 6, .inl (Af 4))), ((Aa 5), .inl (tc 0, 6, .inl (Af 5))), ((Aa 6), .inl (tc 0, 6, .inl (Af 6))), ((Aa 7), .inl (tc 0, 6, .inl (Af 7))), ((Aa 8), .inl (tc 0, 6, .inl (Af 8)))] (fun (v : Option Value) (u : (Int32) × (Int32) × (Int32) × (Nat → Int32) × (Nat → Int32) × (Nat → Int32) × (Nat → Int32) × (Nat → Int32) × (Nat → Int32) × (Nat → Int32) × (Nat → Int32)) => match u with | (o1, o2, o3, o4, o5, o6, o7, o8, o9, o10, o11) => ∃ r : Int32, v = some (.int r) ∧ (True)) (fun (u : (Int32) × (Int32) × (Int32) × (Nat → Int32) × (Nat → Int32) × (Nat → Int32) × (Nat → Int32) × (Nat → Int32) × (Nat → Int32) × (Nat → Int32) × (Nat → Int32)) => match u with | (o1, o2, o3, o4, o5, o6, o7, o8, o9, o10, o11) => [((Oa 0), .inr (4, [.ref (Ta 0), .ref (Oa 2), .long (Oj 0)])), ((Oa 2), .inl (tc 1, 61, .inr (.inl (Og 2)))), ((Ta 0), .inr (9, [.int o1, .int (Av 1), .int (Av 2), .int (Av 3), .int o2, .int o3, .ref (Ta 1), .ref (Ta 2), .ref (Ta 3), .ref (Ta 4), .ref (Ta 5), .ref (Ta 6), .ref (Ta 7), .ref (Ta 8)])), ((Ta 1), .inl (tc 0, 10, .inl o4)), ((Ta 2), .inl (tc 0, 10, .inl o5)), ((Ta 3), .inl (tc 0, 6, .inl o6)), ((Ta 4), .inl (tc 0, 6, .inl o7)), ((Ta 5), .inl (tc 0, 6, .inl o8)), ((Ta 6), .inl (tc 0, 6, .inl o9)), ((Ta 7), .inl (tc 0, 6, .inl o10)), ((Ta 8), .inl (tc 0, 6, .inl o11)), ((Aa 0), .inr (9, [.int (Av 0), .int (Av 1), .int (Av 2), .int (Av 3), .int (Av 4), .int (Av 5), .ref (Aa 1), .ref (Aa 2), .ref (Aa 3), .ref (Aa 4), .ref (Aa 5), .ref (Aa 6), .ref (Aa 7), .ref (Aa 8)])), ((Aa 1), .inl (tc 0, 10, .inl (Af 1))), ((Aa 2), .inl (tc 0, 10, .inl (Af 2))), ((Aa 3), .inl (tc 0, 6, .inl (Af 3))), ((Aa 4), .inl (tc 0, 6, .inl (Af 4))), ((Aa 5), .inl (tc 0, 6, .inl (Af 5))), ((Aa 6), .inl (tc 0, 6, .inl (Af 6))), ((Aa 7), .inl (tc 0, 6, .inl (Af 7))), ((Aa 8), .inl (tc 0, 6, .inl (Af 8)))]) 0 0 := by
  refine Ct.start (by decide) (Nat.le_of_ble_eq_true rfl) (fun p e s m below meth c A ls hx hb hr hlk hin hml hown hts hK hX hP hD hA hl hS => ?_)
  have hl : lv_has ls 6 [(0, .ref (Oa 0)), (1, .ref (Aa 0)), (2, .null), (3, .int x1), (4, .int x2), (5, .int x3)] := hl
  refine lv_aload_n hx hb dX4_aheadOf_0 rfl (lv_at hl 0 rfl) ?_
  refine gf_X4_12 hx hb hts hown hK hP 0 rfl rfl dX4_aheadOf_1 ?_
  refine lv_aload_n hx hb dX4_aheadOf_4 rfl (lv_at hl 1 rfl) ?_
  refine cV (a := (Ta 0)) (As := [.ref (Aa 0)]) (rest := []) (wr := [((Oa 0), .inr (4, [.ref (Ta 0), .ref (Oa 2), .long (Oj 0)])), ((Oa 2), .inl (tc 1, 61, .inr (.inl (Og 2))))]) ⟨hx, hb, hml, hown, hts⟩ hK hX hA (cu_X9_copyFrom l D tc sk (Ta 0) (Ta 1) (Ta 2) (Ta 3) (Ta 4) (Ta 5) (Ta 6) (Ta 7) (Ta 8) (Tv 0) (Tv 1) (Tv 2) (Tv 3) (Tv 4) (Tv 5) (Tf 1) (Tf 2) (Tf 3) (Tf 4) (Tf 5) (Tf 6) (Tf 7) (Tf 8) (Aa 0) (Aa 1) (Aa 2) (Aa 3) (Aa 4) (Aa 5) (Aa 6) (Aa 7) (Aa 8) (Av 0) (Av 1) (Av 2) (Av 3) (Av 4) (Av 5) (Af 1) (Af 2) (Af 3) (Af 4) (Af 5) (Af 6) (Af 7) (Af 8)) k_599 k_814 k_597 k_598 k_98 pl_X9_copyFrom ⟨Nat.le_of_ble_eq_true rfl, Nat.le_of_ble_eq_true rfl⟩ rfl rfl (va_recv hK hP (ci := 9) (q0 := 2) rfl rfl) hP hD hS [2, 3, 4, 5, 6, 7, 8, 9, 10, 11, 12, 13, 14, 15, 16, 17, 18, 19] [0, 1] rfl rfl rfl rfl rfl (by decide) rfl hl.1 rfl (Nat.le_of_ble_eq_true rfl) dX4_aheadOf_5 ⟨Nat.le_of_ble_eq_true rfl, Nat.le_of_ble_eq_true rfl⟩ (fun v_1 u_2 H locs hv_3 hP hD hS => ?_)
  obtain ⟨sv_4, sv_5, sv_6, sv_7, sv_8, sv_9, sv_10, sv_11⟩ := u_2
  obtain rfl : v_1 = none := hv_3
  refine W.eq (g2 := F0 m 8 ls []) rfl ?_
  have hP : va_P D classes [((Oa 0), .inr (4, [.ref (Ta 0), .ref (Oa 2), .long (Oj 0)])), ((Oa 2), .inl (tc 1, 61, .inr (.inl (Og 2)))), ((Ta 0), .inr (9, [.int (Av 0), .int (Av 1), .int (Av 2), .int (Av 3), .int (Av 4), .int (Av 5), .ref (Ta 1), .ref (Ta 2), .ref (Ta 3), .ref (Ta 4), .ref (Ta 5), .ref (Ta 6), .ref (Ta 7), .ref (Ta 8)])), ((Ta 1), .inl (tc 0, 10, .inl sv_4)), ((Ta 2), .inl (tc 0, 10, .inl sv_5)), ((Ta 3), .inl (tc 0, 6, .inl sv_6)), ((Ta 4), .inl (tc 0, 6, .inl sv_7)), ((Ta 5), .inl (tc 0, 6, .inl sv_8)), ((Ta 6), .inl (tc 0, 6, .inl sv_9)), ((Ta 7), .inl (tc 0, 6, .inl sv_10)), ((Ta 8), .inl (tc 0, 6, .inl sv_11)), ((Aa 0), .inr (9, [.int (Av 0), .int (Av 1), .int (Av 2), .int (Av 3), .int (Av 4), .int (Av 5), .ref (Aa 1), .ref (Aa 2), .ref (Aa 3), .ref (Aa 4), .ref (Aa 5), .ref (Aa 6), .ref (Aa 7), .ref (Aa 8)])), ((Aa 1), .inl (tc 0, 10, .inl (Af 1))), ((Aa 2), .inl (tc 0, 10, .inl (Af 2))), ((Aa 3), .inl (tc 0, 6, .inl (Af 3))), ((Aa 4), .inl (tc 0, 6, .inl (Af 4))), ((Aa 5), .inl (tc 0, 6, .inl (Af 5))), ((Aa 6), .inl (tc 0, 6, .inl (Af 6))), ((Aa 7), .inl (tc 0, 6, .inl (Af 7))), ((Aa 8), .inl (tc 0, 6, .inl (Af 8)))] H := hP
  have hD : va_D A [((Oa 0), .inr (4, [.ref (Ta 0), .ref (Oa 2), .long (Oj 0)])), ((Oa 2), .inl (tc 1, 61, .inr (.inl (Og 2)))), ((Ta 0), .inr (9, [.int (Av 0), .int (Av 1), .int (Av 2), .int (Av 3), .int (Av 4), .int (Av 5), .ref (Ta 1), .ref (Ta 2), .ref (Ta 3), .ref (Ta 4), .ref (Ta 5), .ref (Ta 6), .ref (Ta 7), .ref (Ta 8)])), ((Ta 1), .inl (tc 0, 10, .inl sv_4)), ((Ta 2), .inl (tc 0, 10, .inl sv_5)), ((Ta 3), .inl (tc 0, 6, .inl sv_6)), ((Ta 4), .inl (tc 0, 6, .inl sv_7)), ((Ta 5), .inl (tc 0, 6, .inl sv_8)), ((Ta 6), .inl (tc 0, 6, .inl sv_9)), ((Ta 7), .inl (tc 0, 6, .inl sv_10)), ((Ta 8), .inl (tc 0, 6, .inl sv_11)), ((Aa 0), .inr (9, [.int (Av 0), .int (Av 1), .int (Av 2), .int (Av 3), .int (Av 4), .int (Av 5), .ref (Aa 1), .ref (Aa 2), .ref (Aa 3), .ref (Aa 4), .ref (Aa 5), .ref (Aa 6), .ref (Aa 7), .ref (Aa 8)])), ((Aa 1), .inl (tc 0, 10, .inl (Af 1))), ((Aa 2), .inl (tc 0, 10, .inl (Af 2))), ((Aa 3), .inl (tc 0, 6, .inl (Af 3))), ((Aa 4), .inl (tc 0, 6, .inl (Af 4))), ((Aa 5), .inl (tc 0, 6, .inl (Af 5))), ((Aa 6), .inl (tc 0, 6, .inl (Af 6))), ((Aa 7), .inl (tc 0, 6, .inl (Af 7))), ((Aa 8), .inl (tc 0, 6, .inl (Af 8)))] := hD
  refine lv_aload_n hx hb dX4_aheadOf_8 rfl (lv_at hl 0 rfl) ?_
  refine gf_X4_12 hx hb hts hown hK hP 0 rfl rfl dX4_aheadOf_9 ?_
  refine lv_iload hx hb dX4_aheadOf_12 (lv_at hl 4 rfl) ?_
  refine lv_aload_nN hx hb dX4_aheadOf_14 rfl (lv_at hl 2 rfl) ?_
  refine cV (a := (Ta 0)) (As := [.int x2, .null]) (rest := []) (wr := [((Oa 0), .inr (4, [.ref (Ta 0), .ref (Oa 2), .long (Oj 0)])), ((Oa 2), .inl (tc 1, 61, .inr (.inl (Og 2)))), ((Aa 0), .inr (9, [.int (Av 0), .int (Av 1), .int (Av 2), .int (Av 3), .int (Av 4), .int (Av 5), .ref (Aa 1), .ref (Aa 2), .ref (Aa 3), .ref (Aa 4), .ref (Aa 5), .ref (Aa 6), .ref (Aa 7), .ref (Aa 8)])), ((Aa 1), .inl (tc 0, 10, .inl (Af 1))), ((Aa 2), .inl (tc 0, 10, .inl (Af 2))), ((Aa 3), .inl (tc 0, 6, .inl (Af 3))), ((Aa 4), .inl (tc 0, 6, .inl (Af 4))), ((Aa 5), .inl (tc 0, 6, .inl (Af 5))), ((Aa 6), .inl (tc 0, 6, .inl (Af 6))), ((Aa 7), .inl (tc 0, 6, .inl (Af 7))), ((Aa 8), .inl (tc 0, 6, .inl (Af 8)))]) ⟨hx, hb, hml, hown, hts⟩ hK hX hA (cu_X9_soldWithin_n l D tc sk (Ta 0) (Ta 1) (Ta 2) (Ta 3) (Ta 4) (Ta 5) (Ta 6) (Ta 7) (Ta 8) (Av 0) (Av 1) (Av 2) (Av 3) (Av 4) (Av 5) sv_4 sv_5 sv_6 sv_7 sv_8 sv_9 sv_10 sv_11 x2) k_818 k_815 k_816 k_817 k_98 pl_X9_soldWithin ⟨Nat.le_of_ble_eq_true rfl, Nat.le_of_ble_eq_true rfl⟩ rfl rfl (va_recv hK hP (ci := 9) (q0 := 2) rfl rfl) hP hD hS [2, 3, 4, 5, 6, 7, 8, 9, 10] [0, 1, 11, 12, 13, 14, 15, 16, 17, 18, 19] rfl rfl rfl rfl rfl (by decide) rfl hl.1 rfl (Nat.le_of_ble_eq_true rfl) dX4_aheadOf_15 ⟨Nat.le_of_ble_eq_true rfl, Nat.le_of_ble_eq_true rfl⟩ (fun v_12 u_13 H locs hv_14 hP hD hS => ?_)
  obtain ⟨sv_15, sv_16, sv_17, sv_18, sv_19, sv_20, sv_21⟩ := u_13
  obtain ⟨r_22, rfl, he_23⟩ := hv_14
  have he_23 : (True) := he_23
  refine W.eq (g2 := F0 m 18 ls [.int r_22]) rfl ?_
  have hP : va_P D classes [((Oa 0), .inr (4, [.ref (Ta 0), .ref (Oa 2), .long (Oj 0)])), ((Oa 2), .inl (tc 1, 61, .inr (.inl (Og 2)))), ((Aa 0), .inr (9, [.int (Av 0), .int (Av 1), .int (Av 2), .int (Av 3), .int (Av 4), .int (Av 5), .ref (Aa 1), .ref (Aa 2), .ref (Aa 3), .ref (Aa 4), .ref (Aa 5), .ref (Aa 6), .ref (Aa 7), .ref (Aa 8)])), ((Aa 1), .inl (tc 0, 10, .inl (Af 1))), ((Aa 2), .inl (tc 0, 10, .inl (Af 2))), ((Aa 3), .inl (tc 0, 6, .inl (Af 3))), ((Aa 4), .inl (tc 0, 6, .inl (Af 4))), ((Aa 5), .inl (tc 0, 6, .inl (Af 5))), ((Aa 6), .inl (tc 0, 6, .inl (Af 6))), ((Aa 7), .inl (tc 0, 6, .inl (Af 7))), ((Aa 8), .inl (tc 0, 6, .inl (Af 8))), ((Ta 0), .inr (9, [.int sv_15, .int (Av 1), .int (Av 2), .int (Av 3), .int sv_16, .int sv_17, .ref (Ta 1), .ref (Ta 2), .ref (Ta 3), .ref (Ta 4), .ref (Ta 5), .ref (Ta 6), .ref (Ta 7), .ref (Ta 8)])), ((Ta 1), .inl (tc 0, 10, .inl sv_4)), ((Ta 2), .inl (tc 0, 10, .inl sv_5)), ((Ta 3), .inl (tc 0, 6, .inl sv_18)), ((Ta 4), .inl (tc 0, 6, .inl sv_7)), ((Ta 5), .inl (tc 0, 6, .inl sv_8)), ((Ta 6), .inl (tc 0, 6, .inl sv_19)), ((Ta 7), .inl (tc 0, 6, .inl sv_20)), ((Ta 8), .inl (tc 0, 6, .inl sv_21))] H := hP
  have hD : va_D A [((Oa 0), .inr (4, [.ref (Ta 0), .ref (Oa 2), .long (Oj 0)])), ((Oa 2), .inl (tc 1, 61, .inr (.inl (Og 2)))), ((Aa 0), .inr (9, [.int (Av 0), .int (Av 1), .int (Av 2), .int (Av 3), .int (Av 4), .int (Av 5), .ref (Aa 1), .ref (Aa 2), .ref (Aa 3), .ref (Aa 4), .ref (Aa 5), .ref (Aa 6), .ref (Aa 7), .ref (Aa 8)])), ((Aa 1), .inl (tc 0, 10, .inl (Af 1))), ((Aa 2), .inl (tc 0, 10, .inl (Af 2))), ((Aa 3), .inl (tc 0, 6, .inl (Af 3))), ((Aa 4), .inl (tc 0, 6, .inl (Af 4))), ((Aa 5), .inl (tc 0, 6, .inl (Af 5))), ((Aa 6), .inl (tc 0, 6, .inl (Af 6))), ((Aa 7), .inl (tc 0, 6, .inl (Af 7))), ((Aa 8), .inl (tc 0, 6, .inl (Af 8))), ((Ta 0), .inr (9, [.int sv_15, .int (Av 1), .int (Av 2), .int (Av 3), .int sv_16, .int sv_17, .ref (Ta 1), .ref (Ta 2), .ref (Ta 3), .ref (Ta 4), .ref (Ta 5), .ref (Ta 6), .ref (Ta 7), .ref (Ta 8)])), ((Ta 1), .inl (tc 0, 10, .inl sv_4)), ((Ta 2), .inl (tc 0, 10, .inl sv_5)), ((Ta 3), .inl (tc 0, 6, .inl sv_18)), ((Ta 4), .inl (tc 0, 6, .inl sv_7)), ((Ta 5), .inl (tc 0, 6, .inl sv_8)), ((Ta 6), .inl (tc 0, 6, .inl sv_19)), ((Ta 7), .inl (tc 0, 6, .inl sv_20)), ((Ta 8), .inl (tc 0, 6, .inl sv_21))] := hD
  refine lv_pop hx hb dX4_aheadOf_18 rfl ?_
  refine lv_iload hx hb dX4_aheadOf_19 (lv_at hl 5 rfl) ?_
  refine lv_iconst (v := 2) hx hb dX4_aheadOf_21 (by decide) ?_
  refine lv_icmp_ne (tgt := 33) hx hb dX4_aheadOf_22 (by decide) (fun c_24 => ?_) (fun c_24 => ?_)
  · skip
    refine lv_aload_n hx hb dX4_aheadOf_33 rfl (lv_at hl 0 rfl) ?_
    refine gf_X4_12 hx hb hts hown hK hP 0 rfl rfl dX4_aheadOf_34 ?_
    refine lv_iload_n hx hb dX4_aheadOf_37 rfl (lv_at hl 3 rfl) ?_
    refine cV (a := (Ta 0)) (As := [.int x1]) (rest := []) (wr := [((Oa 0), .inr (4, [.ref (Ta 0), .ref (Oa 2), .long (Oj 0)])), ((Oa 2), .inl (tc 1, 61, .inr (.inl (Og 2)))), ((Aa 0), .inr (9, [.int (Av 0), .int (Av 1), .int (Av 2), .int (Av 3), .int (Av 4), .int (Av 5), .ref (Aa 1), .ref (Aa 2), .ref (Aa 3), .ref (Aa 4), .ref (Aa 5), .ref (Aa 6), .ref (Aa 7), .ref (Aa 8)])), ((Aa 1), .inl (tc 0, 10, .inl (Af 1))), ((Aa 2), .inl (tc 0, 10, .inl (Af 2))), ((Aa 3), .inl (tc 0, 6, .inl (Af 3))), ((Aa 4), .inl (tc 0, 6, .inl (Af 4))), ((Aa 5), .inl (tc 0, 6, .inl (Af 5))), ((Aa 6), .inl (tc 0, 6, .inl (Af 6))), ((Aa 7), .inl (tc 0, 6, .inl (Af 7))), ((Aa 8), .inl (tc 0, 6, .inl (Af 8)))]) ⟨hx, hb, hml, hown, hts⟩ hK hX hA (cu_X9_hasBuyer l D tc sk (Ta 0) (Ta 1) (Ta 2) (Ta 3) (Ta 4) (Ta 5) (Ta 6) (Ta 7) (Ta 8) sv_15 (Av 1) (Av 2) (Av 3) sv_16 sv_17 sv_4 sv_5 sv_18 sv_7 sv_8 sv_19 sv_20 sv_21 x1) k_591 k_820 k_589 k_590 k_98 pl_X9_hasBuyer ⟨Nat.le_of_ble_eq_true rfl, Nat.le_of_ble_eq_true rfl⟩ rfl rfl (va_recv hK hP (ci := 9) (q0 := 11) rfl rfl) hP hD hS [11, 12, 13, 14, 15, 16, 17, 18, 19] [0, 1, 2, 3, 4, 5, 6, 7, 8, 9, 10] rfl rfl rfl rfl rfl (by decide) rfl hl.1 rfl (Nat.le_of_ble_eq_true rfl) dX4_aheadOf_38 ⟨Nat.le_of_ble_eq_true rfl, Nat.le_of_ble_eq_true rfl⟩ (fun v_25 u_26 H locs hv_27 hP hD hS => ?_)
    obtain ⟨r_28, rfl, he_29⟩ := hv_27
    have he_29 : ((r_28.toInt = 0 ∨ (r_28.toInt = 1 ∧ 0 ≤ x1.toInt ∧ x1.toInt < 6 ∧ x1.toInt < (Av 3).toInt))) := he_29
    refine W.eq (g2 := F0 m 41 ls [.int r_28]) rfl ?_
    have hP : va_P D classes [((Oa 0), .inr (4, [.ref (Ta 0), .ref (Oa 2), .long (Oj 0)])), ((Oa 2), .inl (tc 1, 61, .inr (.inl (Og 2)))), ((Aa 0), .inr (9, [.int (Av 0), .int (Av 1), .int (Av 2), .int (Av 3), .int (Av 4), .int (Av 5), .ref (Aa 1), .ref (Aa 2), .ref (Aa 3), .ref (Aa 4), .ref (Aa 5), .ref (Aa 6), .ref (Aa 7), .ref (Aa 8)])), ((Aa 1), .inl (tc 0, 10, .inl (Af 1))), ((Aa 2), .inl (tc 0, 10, .inl (Af 2))), ((Aa 3), .inl (tc 0, 6, .inl (Af 3))), ((Aa 4), .inl (tc 0, 6, .inl (Af 4))), ((Aa 5), .inl (tc 0, 6, .inl (Af 5))), ((Aa 6), .inl (tc 0, 6, .inl (Af 6))), ((Aa 7), .inl (tc 0, 6, .inl (Af 7))), ((Aa 8), .inl (tc 0, 6, .inl (Af 8))), ((Ta 0), .inr (9, [.int sv_15, .int (Av 1), .int (Av 2), .int (Av 3), .int sv_16, .int sv_17, .ref (Ta 1), .ref (Ta 2), .ref (Ta 3), .ref (Ta 4), .ref (Ta 5), .ref (Ta 6), .ref (Ta 7), .ref (Ta 8)])), ((Ta 1), .inl (tc 0, 10, .inl sv_4)), ((Ta 2), .inl (tc 0, 10, .inl sv_5)), ((Ta 3), .inl (tc 0, 6, .inl sv_18)), ((Ta 4), .inl (tc 0, 6, .inl sv_7)), ((Ta 5), .inl (tc 0, 6, .inl sv_8)), ((Ta 6), .inl (tc 0, 6, .inl sv_19)), ((Ta 7), .inl (tc 0, 6, .inl sv_20)), ((Ta 8), .inl (tc 0, 6, .inl sv_21))] H := hP
    have hD : va_D A [((Oa 0), .inr (4, [.ref (Ta 0), .ref (Oa 2), .long (Oj 0)])), ((Oa 2), .inl (tc 1, 61, .inr (.inl (Og 2)))), ((Aa 0), .inr (9, [.int (Av 0), .int (Av 1), .int (Av 2), .int (Av 3), .int (Av 4), .int (Av 5), .ref (Aa 1), .ref (Aa 2), .ref (Aa 3), .ref (Aa 4), .ref (Aa 5), .ref (Aa 6), .ref (Aa 7), .ref (Aa 8)])), ((Aa 1), .inl (tc 0, 10, .inl (Af 1))), ((Aa 2), .inl (tc 0, 10, .inl (Af 2))), ((Aa 3), .inl (tc 0, 6, .inl (Af 3))), ((Aa 4), .inl (tc 0, 6, .inl (Af 4))), ((Aa 5), .inl (tc 0, 6, .inl (Af 5))), ((Aa 6), .inl (tc 0, 6, .inl (Af 6))), ((Aa 7), .inl (tc 0, 6, .inl (Af 7))), ((Aa 8), .inl (tc 0, 6, .inl (Af 8))), ((Ta 0), .inr (9, [.int sv_15, .int (Av 1), .int (Av 2), .int (Av 3), .int sv_16, .int sv_17, .ref (Ta 1), .ref (Ta 2), .ref (Ta 3), .ref (Ta 4), .ref (Ta 5), .ref (Ta 6), .ref (Ta 7), .ref (Ta 8)])), ((Ta 1), .inl (tc 0, 10, .inl sv_4)), ((Ta 2), .inl (tc 0, 10, .inl sv_5)), ((Ta 3), .inl (tc 0, 6, .inl sv_18)), ((Ta 4), .inl (tc 0, 6, .inl sv_7)), ((Ta 5), .inl (tc 0, 6, .inl sv_8)), ((Ta 6), .inl (tc 0, 6, .inl sv_19)), ((Ta 7), .inl (tc 0, 6, .inl sv_20)), ((Ta 8), .inl (tc 0, 6, .inl sv_21))] := hD
    refine lv_if_ne (tgt := 46) hx hb dX4_aheadOf_41 (by decide) (fun c_30 => ?_) (fun c_30 => ?_)
    · skip
      refine lv_iload hx hb dX4_aheadOf_46 (lv_at hl 5 rfl) ?_
      refine lv_if_ne (tgt := 63) hx hb dX4_aheadOf_48 (by decide) (fun c_31 => ?_) (fun c_31 => ?_)
      · skip
        refine lv_aload_n hx hb dX4_aheadOf_63 rfl (lv_at hl 0 rfl) ?_
        refine gf_X4_12 hx hb hts hown hK hP 0 rfl rfl dX4_aheadOf_64 ?_
        refine gf_X4_46 hx hb hts hown hK hP 11 rfl rfl dX4_aheadOf_67 ?_
        refine lv_iload_n hx hb dX4_aheadOf_70 rfl (lv_at hl 3 rfl) ?_
        have hi_32 : vp_in x1 6 := by
          have z_1 : ¬ (x3 : Int32).toInt = (2 : Int32).toInt := fun z => c_24 (Int32.toInt_inj.mp z)
          have z_2 : ¬ (r_28 : Int32).toInt = (0 : Int32).toInt := fun z => c_30 (Int32.toInt_inj.mp z)
          have z_3 : ¬ (x3 : Int32).toInt = (0 : Int32).toInt := fun z => c_31 (Int32.toInt_inj.mp z)
          have y_0 : (0 : Int32).toInt = 0 := by decide
          have y_2 : (2 : Int32).toInt = 2 := by decide
          refine vp_in_iff.mpr ⟨?_, ?_⟩ <;> omega
        refine va_iald hx hb hK hP 17 0 rfl rfl hi_32 dX4_aheadOf_71 ?_
        refine lv_topi (fun x_33 ex_33 => ?_)
        exact retI (v := x_33) hx hb hr hlk (rfl) hP hD hS (sv_15, sv_16, sv_17, sv_4, sv_5, sv_18, sv_7, sv_8, sv_19, sv_20, sv_21) ⟨_, rfl, trivial⟩ [0, 1, 11, 12, 13, 14, 15, 16, 17, 18, 19, 2, 3, 4, 5, 6, 7, 8, 9, 10] rfl rfl dX4_aheadOf_72 (Nat.le_of_ble_eq_true rfl) (Nat.le_of_ble_eq_true rfl) rfl
      · skip
        refine lv_aload_n hx hb dX4_aheadOf_51 rfl (lv_at hl 0 rfl) ?_
        refine gf_X4_12 hx hb hts hown hK hP 0 rfl rfl dX4_aheadOf_52 ?_
        refine gf_X4_42 hx hb hts hown hK hP 11 rfl rfl dX4_aheadOf_55 ?_
        refine lv_iload_n hx hb dX4_aheadOf_58 rfl (lv_at hl 3 rfl) ?_
        have hi_34 : vp_in x1 6 := by
          have z_1 : ¬ (x3 : Int32).toInt = (2 : Int32).toInt := fun z => c_24 (Int32.toInt_inj.mp z)
          have z_2 : ¬ (r_28 : Int32).toInt = (0 : Int32).toInt := fun z => c_30 (Int32.toInt_inj.mp z)
          have z_3 := congrArg Int32.toInt c_31
          have y_0 : (0 : Int32).toInt = 0 := by decide
          have y_2 : (2 : Int32).toInt = 2 := by decide
          refine vp_in_iff.mpr ⟨?_, ?_⟩ <;> omega
        refine va_iald hx hb hK hP 14 0 rfl rfl hi_34 dX4_aheadOf_59 ?_
        refine lv_topi (fun x_35 ex_35 => ?_)
        refine lv_goto (tgt := 72) hx hb dX4_aheadOf_60 (by decide) ?_
        exact retI (v := x_35) hx hb hr hlk (rfl) hP hD hS (sv_15, sv_16, sv_17, sv_4, sv_5, sv_18, sv_7, sv_8, sv_19, sv_20, sv_21) ⟨_, rfl, trivial⟩ [0, 1, 11, 12, 13, 14, 15, 16, 17, 18, 19, 2, 3, 4, 5, 6, 7, 8, 9, 10] rfl rfl dX4_aheadOf_72 (Nat.le_of_ble_eq_true rfl) (Nat.le_of_ble_eq_true rfl) rfl
    · skip
      refine lv_iconst (v := (-1)) hx hb dX4_aheadOf_44 (by decide) ?_
      exact retI (v := (-1)) hx hb hr hlk (rfl) hP hD hS (sv_15, sv_16, sv_17, sv_4, sv_5, sv_18, sv_7, sv_8, sv_19, sv_20, sv_21) ⟨_, rfl, trivial⟩ [0, 1, 11, 12, 13, 14, 15, 16, 17, 18, 19, 2, 3, 4, 5, 6, 7, 8, 9, 10] rfl rfl dX4_aheadOf_45 (Nat.le_of_ble_eq_true rfl) (Nat.le_of_ble_eq_true rfl) rfl
  · skip
    refine lv_aload_n hx hb dX4_aheadOf_25 rfl (lv_at hl 0 rfl) ?_
    refine gf_X4_12 hx hb hts hown hK hP 0 rfl rfl dX4_aheadOf_26 ?_
    refine gf_X4_34 hx hb hts hown hK hP 11 rfl rfl dX4_aheadOf_29 ?_
    exact retI (v := sv_15) hx hb hr hlk (rfl) hP hD hS (sv_15, sv_16, sv_17, sv_4, sv_5, sv_18, sv_7, sv_8, sv_19, sv_20, sv_21) ⟨_, rfl, trivial⟩ [0, 1, 11, 12, 13, 14, 15, 16, 17, 18, 19, 2, 3, 4, 5, 6, 7, 8, 9, 10] rfl rfl dX4_aheadOf_32 (Nat.le_of_ble_eq_true rfl) (Nat.le_of_ble_eq_true rfl) rfl
set_option maxRecDepth 100000 in
theorem cu_X4_aheadOf_n (l : Launch) (D : va_G) (tc : Nat → ClassId) (sk : (Nat → Nat) × (Nat → Nat)) (Oa_0 : Nat) (Oa_2 : Nat) (Oj_0 : Int64) (Og_2 : Nat → Int64) (Ta_0 : Nat) (Ta_1 : Nat) (Ta_2 : Nat) (Ta_3 : Nat) (Ta_4 : Nat) (Ta_5 : Nat) (Ta_6 : Nat) (Ta_7 : Nat) (Ta_8 : Nat) (Tv_0 : Int32) (Tv_1 : Int32) (Tv_2 : Int32) (Tv_3 : Int32) (Tv_4 : Int32) (Tv_5 : Int32) (Tf_1 : Nat → Int32) (Tf_2 : Nat → Int32) (Tf_3 : Nat → Int32) (Tf_4 : Nat → Int32) (Tf_5 : Nat → Int32) (Tf_6 : Nat → Int32) (Tf_7 : Nat → Int32) (Tf_8 : Nat → Int32) (Aa_0 : Nat) (Aa_1 : Nat) (Aa_2 : Nat) (Aa_3 : Nat) (Aa_4 : Nat) (Aa_5 : Nat) (Aa_6 : Nat) (Aa_7 : Nat) (Aa_8 : Nat) (Av_0 : Int32) (Av_1 : Int32) (Av_2 : Int32) (Av_3 : Int32) (Av_4 : Int32) (Av_5 : Int32) (Af_1 : Nat → Int32) (Af_2 : Nat → Int32) (Af_3 : Nat → Int32) (Af_4 : Nat → Int32) (Af_5 : Nat → Int32) (Af_6 : Nat → Int32) (Af_7 : Nat → Int32) (Af_8 : Nat → Int32) (x1 : Int32) (x2 : Int32) (x3 : Int32)  : Ct l yX4_aheadOf cX4_aheadOf 6 (some .int) { frames := 4, cells := 0, slots := 0, locals := 93 } D tc sk [.ref Oa_0, .ref Aa_0, .null, .int x1, .int x2, .int x3] [(Oa_0, .inr (4, [.ref Ta_0, .ref Oa_2, .long Oj_0])), (Oa_2, .inl (tc 1, 61, .inr (.inl Og_2))), (Ta_0, .inr (9, [.int Tv_0, .int Tv_1, .int Tv_2, .int Tv_3, .int Tv_4, .int Tv_5, .ref Ta_1, .ref Ta_2, .ref Ta_3, .ref Ta_4, .ref Ta_5, .ref Ta_6, .ref Ta_7, .ref Ta_8])), (Ta_1, .inl (tc 0, 10, .inl Tf_1)), (Ta_2, .inl (tc 0, 10, .inl Tf_2)), (Ta_3, .inl (tc 0, 6, .inl Tf_3)), (Ta_4, .inl (tc 0, 6, .inl Tf_4)), (Ta_5, .inl (tc 0, 6, .inl Tf_5)), (Ta_6, .inl (tc 0, 6, .inl Tf_6)), (Ta_7, .inl (tc 0, 6, .inl Tf_7)), (Ta_8, .inl (tc 0, 6, .inl Tf_8)), (Aa_0, .inr (9, [.int Av_0, .int Av_1, .int Av_2, .int Av_3, .int Av_4, .int Av_5, .ref Aa_1, .ref Aa_2, .ref Aa_3, .ref Aa_4, .ref Aa_5, .ref Aa_6, .ref Aa_7, .ref Aa_8])), (Aa_1, .inl (tc 0, 10, .inl Af_1)), (Aa_2, .inl (tc 0, 10, .inl Af_2)), (Aa_3, .inl (tc 0, 6, .inl Af_3)), (Aa_4, .inl (tc 0, 6, .inl Af_4)), (Aa_5, .inl (tc 0, 6, .inl Af_5)), (Aa_6, .inl (tc 0, 6, .inl Af_6)), (Aa_7, .inl (tc 0, 6, .inl Af_7)), (Aa_8, .inl (tc 0, 6, .inl Af_8))] (fun (v : Option Value) (u : (Int32) × (Int32) × (Int32) × (Nat → Int32) × (Nat → Int32) × (Nat → Int32) × (Nat → Int32) × (Nat → Int32) × (Nat → Int32) × (Nat → Int32) × (Nat → Int32)) => match u with | (o1, o2, o3, o4, o5, o6, o7, o8, o9, o10, o11) => ∃ r : Int32, v = some (.int r) ∧ (True)) (fun (u : (Int32) × (Int32) × (Int32) × (Nat → Int32) × (Nat → Int32) × (Nat → Int32) × (Nat → Int32) × (Nat → Int32) × (Nat → Int32) × (Nat → Int32) × (Nat → Int32)) => match u with | (o1, o2, o3, o4, o5, o6, o7, o8, o9, o10, o11) => [(Oa_0, .inr (4, [.ref Ta_0, .ref Oa_2, .long Oj_0])), (Oa_2, .inl (tc 1, 61, .inr (.inl Og_2))), (Ta_0, .inr (9, [.int o1, .int Av_1, .int Av_2, .int Av_3, .int o2, .int o3, .ref Ta_1, .ref Ta_2, .ref Ta_3, .ref Ta_4, .ref Ta_5, .ref Ta_6, .ref Ta_7, .ref Ta_8])), (Ta_1, .inl (tc 0, 10, .inl o4)), (Ta_2, .inl (tc 0, 10, .inl o5)), (Ta_3, .inl (tc 0, 6, .inl o6)), (Ta_4, .inl (tc 0, 6, .inl o7)), (Ta_5, .inl (tc 0, 6, .inl o8)), (Ta_6, .inl (tc 0, 6, .inl o9)), (Ta_7, .inl (tc 0, 6, .inl o10)), (Ta_8, .inl (tc 0, 6, .inl o11)), (Aa_0, .inr (9, [.int Av_0, .int Av_1, .int Av_2, .int Av_3, .int Av_4, .int Av_5, .ref Aa_1, .ref Aa_2, .ref Aa_3, .ref Aa_4, .ref Aa_5, .ref Aa_6, .ref Aa_7, .ref Aa_8])), (Aa_1, .inl (tc 0, 10, .inl Af_1)), (Aa_2, .inl (tc 0, 10, .inl Af_2)), (Aa_3, .inl (tc 0, 6, .inl Af_3)), (Aa_4, .inl (tc 0, 6, .inl Af_4)), (Aa_5, .inl (tc 0, 6, .inl Af_5)), (Aa_6, .inl (tc 0, 6, .inl Af_6)), (Aa_7, .inl (tc 0, 6, .inl Af_7)), (Aa_8, .inl (tc 0, 6, .inl Af_8))]) 0 0 :=
  ct_X4_aheadOf_n l D tc sk (fun k => ([Oa_0, 0, Oa_2] : List (Nat)).getD k 0) (fun k => ([Oj_0] : List (Int64)).getD k 0) (fun k => ([(fun _ => 0), (fun _ => 0), Og_2] : List (Nat → Int64)).getD k (fun _ => 0)) (fun k => ([Ta_0, Ta_1, Ta_2, Ta_3, Ta_4, Ta_5, Ta_6, Ta_7, Ta_8] : List (Nat)).getD k 0) (fun k => ([Tv_0, Tv_1, Tv_2, Tv_3, Tv_4, Tv_5] : List (Int32)).getD k 0) (fun k => ([(fun _ => 0), Tf_1, Tf_2, Tf_3, Tf_4, Tf_5, Tf_6, Tf_7, Tf_8] : List (Nat → Int32)).getD k (fun _ => 0)) (fun k => ([Aa_0, Aa_1, Aa_2, Aa_3, Aa_4, Aa_5, Aa_6, Aa_7, Aa_8] : List (Nat)).getD k 0) (fun k => ([Av_0, Av_1, Av_2, Av_3, Av_4, Av_5] : List (Int32)).getD k 0) (fun k => ([(fun _ => 0), Af_1, Af_2, Af_3, Af_4, Af_5, Af_6, Af_7, Af_8] : List (Nat → Int32)).getD k (fun _ => 0)) x1 x2 x3 
set_option maxHeartbeats 4000000 in
set_option maxRecDepth 100000 in
theorem ct_X4_firstPurchase_n (l : Launch) (D : va_G) (tc : Nat → ClassId) (sk : (Nat → Nat) × (Nat → Nat)) (Oa : Nat → Nat) (Oj : Nat → Int64) (Og : Nat → Nat → Int64) (Ta : Nat → Nat) (Tv : Nat → Int32) (Tf : Nat → Nat → Int32) (Aa : Nat → Nat) (Av : Nat → Int32) (Af : Nat → Nat → Int32) (x1 : Int32)  : Ct l yX4_firstPurchase cX4_firstPurchase 5 (some .int) { frames := 3, cells := 0, slots := 0, locals := 69 } D tc sk [.ref (Oa 0), .ref (Aa 0), .null, .int x1] [((Oa 0), .inr (4, [.ref (Ta 0), .ref (Oa 2), .long (Oj 0)])), ((Oa 2), .inl (tc 1, 61, .inr (.inl (Og 2)))), ((Ta 0), .inr (9, [.int (Tv 0), .int (Tv 1), .int (Tv 2), .int (Tv 3), .int (Tv 4), .int (Tv 5), .ref (Ta 1), .ref (Ta 2), .ref (Ta 3), .ref (Ta 4), .ref (Ta 5), .ref (Ta 6), .ref (Ta 7), .ref (Ta 8)])), ((Ta 1), .inl (tc 0, 10, .inl (Tf 1))), ((Ta 2), .inl (tc 0, 10, .inl (Tf 2))), ((Ta 3), .inl (tc 0, 6, .inl (Tf 3))), ((Ta 4), .inl (tc 0, 6, .inl (Tf 4))), ((Ta 5), .inl (tc 0, 6, .inl (Tf 5))), ((Ta 6), .inl (tc 0, 6, .inl (Tf 6))), ((Ta 7), .inl (tc 0, 6, .inl (Tf 7))), ((Ta 8), .inl (tc 0, 6, .inl (Tf 8))), ((Aa 0), .inr (9, [.int (Av 0), .int (Av 1), .int (Av 2), .int (Av 3), .int (Av 4), .int (Av 5), .ref (Aa 1), .ref (Aa 2), .ref (Aa 3), .ref (Aa 4), .ref (Aa 5), .ref (Aa 6), .ref (Aa 7), .ref (Aa 8)])), ((Aa 1), .inl (tc 0, 10, .inl (Af 1))), ((Aa 2), .inl (tc 0, 10, .inl (Af 2))), ((Aa 3), .inl (tc 0, 6, .inl (Af 3))), ((Aa 4), .inl (tc 0, 6, .inl (Af 4))), ((Aa 5), .inl (tc 0, 6, .inl (Af 5))), ((Aa 6), .inl (tc 0, 6, .inl (Af 6))), ((Aa 7), .inl (tc 0, 6, .inl (Af 7))), ((Aa 8), .inl (tc 0, 6, .inl (Af 8)))] (fun (v : Option Value) (u : (Int32) × (Int32) × (Int32) × (Nat → Int32) × (Nat → Int32) × (Nat → Int32) × (Nat → Int32) × (Nat → Int32) × (Nat → Int32) × (Nat → Int32) × (Nat → Int32)) => match u with | (o1, o2, o3, o4, o5, o6, o7, o8, o9, o10, o11) => ∃ r : Int32, v = some (.int r) ∧ (True)) (fun (u : (Int32) × (Int32) × (Int32) × (Nat → Int32) × (Nat → Int32) × (Nat → Int32) × (Nat → Int32) × (Nat → Int32) × (Nat → Int32) × (Nat → Int32) × (Nat → Int32)) => match u with | (o1, o2, o3, o4, o5, o6, o7, o8, o9, o10, o11) => [((Oa 0), .inr (4, [.ref (Ta 0), .ref (Oa 2), .long (Oj 0)])), ((Oa 2), .inl (tc 1, 61, .inr (.inl (Og 2)))), ((Ta 0), .inr (9, [.int o1, .int (Av 1), .int (Av 2), .int (Av 3), .int o2, .int o3, .ref (Ta 1), .ref (Ta 2), .ref (Ta 3), .ref (Ta 4), .ref (Ta 5), .ref (Ta 6), .ref (Ta 7), .ref (Ta 8)])), ((Ta 1), .inl (tc 0, 10, .inl o4)), ((Ta 2), .inl (tc 0, 10, .inl o5)), ((Ta 3), .inl (tc 0, 6, .inl o6)), ((Ta 4), .inl (tc 0, 6, .inl o7)), ((Ta 5), .inl (tc 0, 6, .inl o8)), ((Ta 6), .inl (tc 0, 6, .inl o9)), ((Ta 7), .inl (tc 0, 6, .inl o10)), ((Ta 8), .inl (tc 0, 6, .inl o11)), ((Aa 0), .inr (9, [.int (Av 0), .int (Av 1), .int (Av 2), .int (Av 3), .int (Av 4), .int (Av 5), .ref (Aa 1), .ref (Aa 2), .ref (Aa 3), .ref (Aa 4), .ref (Aa 5), .ref (Aa 6), .ref (Aa 7), .ref (Aa 8)])), ((Aa 1), .inl (tc 0, 10, .inl (Af 1))), ((Aa 2), .inl (tc 0, 10, .inl (Af 2))), ((Aa 3), .inl (tc 0, 6, .inl (Af 3))), ((Aa 4), .inl (tc 0, 6, .inl (Af 4))), ((Aa 5), .inl (tc 0, 6, .inl (Af 5))), ((Aa 6), .inl (tc 0, 6, .inl (Af 6))), ((Aa 7), .inl (tc 0, 6, .inl (Af 7))), ((Aa 8), .inl (tc 0, 6, .inl (Af 8)))]) 0 0 := by
  refine Ct.start (by decide) (Nat.le_of_ble_eq_true rfl) (fun p e s m below meth c A ls hx hb hr hlk hin hml hown hts hK hX hP hD hA hl hS => ?_)
  have hl : lv_has ls 5 [(0, .ref (Oa 0)), (1, .ref (Aa 0)), (2, .null), (3, .int x1)] := hl
  refine lv_aload_n hx hb dX4_firstPurchase_0 rfl (lv_at hl 0 rfl) ?_
  refine gf_X4_12 hx hb hts hown hK hP 0 rfl rfl dX4_firstPurchase_1 ?_
  refine lv_aload_n hx hb dX4_firstPurchase_4 rfl (lv_at hl 1 rfl) ?_
  refine cV (a := (Ta 0)) (As := [.ref (Aa 0)]) (rest := []) (wr := [((Oa 0), .inr (4, [.ref (Ta 0), .ref (Oa 2), .long (Oj 0)])), ((Oa 2), .inl (tc 1, 61, .inr (.inl (Og 2))))]) ⟨hx, hb, hml, hown, hts⟩ hK hX hA (cu_X9_copyFrom l D tc sk (Ta 0) (Ta 1) (Ta 2) (Ta 3) (Ta 4) (Ta 5) (Ta 6) (Ta 7) (Ta 8) (Tv 0) (Tv 1) (Tv 2) (Tv 3) (Tv 4) (Tv 5) (Tf 1) (Tf 2) (Tf 3) (Tf 4) (Tf 5) (Tf 6) (Tf 7) (Tf 8) (Aa 0) (Aa 1) (Aa 2) (Aa 3) (Aa 4) (Aa 5) (Aa 6) (Aa 7) (Aa 8) (Av 0) (Av 1) (Av 2) (Av 3) (Av 4) (Av 5) (Af 1) (Af 2) (Af 3) (Af 4) (Af 5) (Af 6) (Af 7) (Af 8)) k_599 k_814 k_597 k_598 k_98 pl_X9_copyFrom ⟨Nat.le_of_ble_eq_true rfl, Nat.le_of_ble_eq_true rfl⟩ rfl rfl (va_recv hK hP (ci := 9) (q0 := 2) rfl rfl) hP hD hS [2, 3, 4, 5, 6, 7, 8, 9, 10, 11, 12, 13, 14, 15, 16, 17, 18, 19] [0, 1] rfl rfl rfl rfl rfl (by decide) rfl hl.1 rfl (Nat.le_of_ble_eq_true rfl) dX4_firstPurchase_5 ⟨Nat.le_of_ble_eq_true rfl, Nat.le_of_ble_eq_true rfl⟩ (fun v_1 u_2 H locs hv_3 hP hD hS => ?_)
  obtain ⟨sv_4, sv_5, sv_6, sv_7, sv_8, sv_9, sv_10, sv_11⟩ := u_2
  obtain rfl : v_1 = none := hv_3
  refine W.eq (g2 := F0 m 8 ls []) rfl ?_
  have hP : va_P D classes [((Oa 0), .inr (4, [.ref (Ta 0), .ref (Oa 2), .long (Oj 0)])), ((Oa 2), .inl (tc 1, 61, .inr (.inl (Og 2)))), ((Ta 0), .inr (9, [.int (Av 0), .int (Av 1), .int (Av 2), .int (Av 3), .int (Av 4), .int (Av 5), .ref (Ta 1), .ref (Ta 2), .ref (Ta 3), .ref (Ta 4), .ref (Ta 5), .ref (Ta 6), .ref (Ta 7), .ref (Ta 8)])), ((Ta 1), .inl (tc 0, 10, .inl sv_4)), ((Ta 2), .inl (tc 0, 10, .inl sv_5)), ((Ta 3), .inl (tc 0, 6, .inl sv_6)), ((Ta 4), .inl (tc 0, 6, .inl sv_7)), ((Ta 5), .inl (tc 0, 6, .inl sv_8)), ((Ta 6), .inl (tc 0, 6, .inl sv_9)), ((Ta 7), .inl (tc 0, 6, .inl sv_10)), ((Ta 8), .inl (tc 0, 6, .inl sv_11)), ((Aa 0), .inr (9, [.int (Av 0), .int (Av 1), .int (Av 2), .int (Av 3), .int (Av 4), .int (Av 5), .ref (Aa 1), .ref (Aa 2), .ref (Aa 3), .ref (Aa 4), .ref (Aa 5), .ref (Aa 6), .ref (Aa 7), .ref (Aa 8)])), ((Aa 1), .inl (tc 0, 10, .inl (Af 1))), ((Aa 2), .inl (tc 0, 10, .inl (Af 2))), ((Aa 3), .inl (tc 0, 6, .inl (Af 3))), ((Aa 4), .inl (tc 0, 6, .inl (Af 4))), ((Aa 5), .inl (tc 0, 6, .inl (Af 5))), ((Aa 6), .inl (tc 0, 6, .inl (Af 6))), ((Aa 7), .inl (tc 0, 6, .inl (Af 7))), ((Aa 8), .inl (tc 0, 6, .inl (Af 8)))] H := hP
  have hD : va_D A [((Oa 0), .inr (4, [.ref (Ta 0), .ref (Oa 2), .long (Oj 0)])), ((Oa 2), .inl (tc 1, 61, .inr (.inl (Og 2)))), ((Ta 0), .inr (9, [.int (Av 0), .int (Av 1), .int (Av 2), .int (Av 3), .int (Av 4), .int (Av 5), .ref (Ta 1), .ref (Ta 2), .ref (Ta 3), .ref (Ta 4), .ref (Ta 5), .ref (Ta 6), .ref (Ta 7), .ref (Ta 8)])), ((Ta 1), .inl (tc 0, 10, .inl sv_4)), ((Ta 2), .inl (tc 0, 10, .inl sv_5)), ((Ta 3), .inl (tc 0, 6, .inl sv_6)), ((Ta 4), .inl (tc 0, 6, .inl sv_7)), ((Ta 5), .inl (tc 0, 6, .inl sv_8)), ((Ta 6), .inl (tc 0, 6, .inl sv_9)), ((Ta 7), .inl (tc 0, 6, .inl sv_10)), ((Ta 8), .inl (tc 0, 6, .inl sv_11)), ((Aa 0), .inr (9, [.int (Av 0), .int (Av 1), .int (Av 2), .int (Av 3), .int (Av 4), .int (Av 5), .ref (Aa 1), .ref (Aa 2), .ref (Aa 3), .ref (Aa 4), .ref (Aa 5), .ref (Aa 6), .ref (Aa 7), .ref (Aa 8)])), ((Aa 1), .inl (tc 0, 10, .inl (Af 1))), ((Aa 2), .inl (tc 0, 10, .inl (Af 2))), ((Aa 3), .inl (tc 0, 6, .inl (Af 3))), ((Aa 4), .inl (tc 0, 6, .inl (Af 4))), ((Aa 5), .inl (tc 0, 6, .inl (Af 5))), ((Aa 6), .inl (tc 0, 6, .inl (Af 6))), ((Aa 7), .inl (tc 0, 6, .inl (Af 7))), ((Aa 8), .inl (tc 0, 6, .inl (Af 8)))] := hD
  refine lv_iconst (v := 0) hx hb dX4_firstPurchase_8 (by decide) ?_
  refine lv_istore (lv' := [(4, .int 0), (0, .ref (Oa 0)), (1, .ref (Aa 0)), (2, .null), (3, .int x1)]) hx hb dX4_firstPurchase_9 hl (by decide) rfl (fun ls hl => ?_)
  have loop_31 : ∀ (n_29 : Nat) (vy_21 : Int32) (vy_22 : Int32) (vy_23 : Int32) (vy_24 : Int32) (vy_25 : Nat → Int32) (vy_26 : Nat → Int32) (vy_27 : Nat → Int32) (vy_28 : Nat → Int32) (H : Heap) (locs : List Loc) (ls : Array Slot), 0 ≤ (vy_21 : Int32).toInt → (200 - (vy_21 : Int32).toInt).toNat < n_29 → va_P D classes [((Oa 0), .inr (4, [.ref (Ta 0), .ref (Oa 2), .long (Oj 0)])), ((Oa 2), .inl (tc 1, 61, .inr (.inl (Og 2)))), ((Ta 0), .inr (9, [.int vy_22, .int (Av 1), .int (Av 2), .int (Av 3), .int vy_23, .int vy_24, .ref (Ta 1), .ref (Ta 2), .ref (Ta 3), .ref (Ta 4), .ref (Ta 5), .ref (Ta 6), .ref (Ta 7), .ref (Ta 8)])), ((Ta 1), .inl (tc 0, 10, .inl sv_4)), ((Ta 2), .inl (tc 0, 10, .inl sv_5)), ((Ta 3), .inl (tc 0, 6, .inl vy_25)), ((Ta 4), .inl (tc 0, 6, .inl sv_7)), ((Ta 5), .inl (tc 0, 6, .inl sv_8)), ((Ta 6), .inl (tc 0, 6, .inl vy_26)), ((Ta 7), .inl (tc 0, 6, .inl vy_27)), ((Ta 8), .inl (tc 0, 6, .inl vy_28)), ((Aa 0), .inr (9, [.int (Av 0), .int (Av 1), .int (Av 2), .int (Av 3), .int (Av 4), .int (Av 5), .ref (Aa 1), .ref (Aa 2), .ref (Aa 3), .ref (Aa 4), .ref (Aa 5), .ref (Aa 6), .ref (Aa 7), .ref (Aa 8)])), ((Aa 1), .inl (tc 0, 10, .inl (Af 1))), ((Aa 2), .inl (tc 0, 10, .inl (Af 2))), ((Aa 3), .inl (tc 0, 6, .inl (Af 3))), ((Aa 4), .inl (tc 0, 6, .inl (Af 4))), ((Aa 5), .inl (tc 0, 6, .inl (Af 5))), ((Aa 6), .inl (tc 0, 6, .inl (Af 6))), ((Aa 7), .inl (tc 0, 6, .inl (Af 7))), ((Aa 8), .inl (tc 0, 6, .inl (Af 8)))] H → va_D A [((Oa 0), .inr (4, [.ref (Ta 0), .ref (Oa 2), .long (Oj 0)])), ((Oa 2), .inl (tc 1, 61, .inr (.inl (Og 2)))), ((Ta 0), .inr (9, [.int vy_22, .int (Av 1), .int (Av 2), .int (Av 3), .int vy_23, .int vy_24, .ref (Ta 1), .ref (Ta 2), .ref (Ta 3), .ref (Ta 4), .ref (Ta 5), .ref (Ta 6), .ref (Ta 7), .ref (Ta 8)])), ((Ta 1), .inl (tc 0, 10, .inl sv_4)), ((Ta 2), .inl (tc 0, 10, .inl sv_5)), ((Ta 3), .inl (tc 0, 6, .inl vy_25)), ((Ta 4), .inl (tc 0, 6, .inl sv_7)), ((Ta 5), .inl (tc 0, 6, .inl sv_8)), ((Ta 6), .inl (tc 0, 6, .inl vy_26)), ((Ta 7), .inl (tc 0, 6, .inl vy_27)), ((Ta 8), .inl (tc 0, 6, .inl vy_28)), ((Aa 0), .inr (9, [.int (Av 0), .int (Av 1), .int (Av 2), .int (Av 3), .int (Av 4), .int (Av 5), .ref (Aa 1), .ref (Aa 2), .ref (Aa 3), .ref (Aa 4), .ref (Aa 5), .ref (Aa 6), .ref (Aa 7), .ref (Aa 8)])), ((Aa 1), .inl (tc 0, 10, .inl (Af 1))), ((Aa 2), .inl (tc 0, 10, .inl (Af 2))), ((Aa 3), .inl (tc 0, 6, .inl (Af 3))), ((Aa 4), .inl (tc 0, 6, .inl (Af 4))), ((Aa 5), .inl (tc 0, 6, .inl (Af 5))), ((Aa 6), .inl (tc 0, 6, .inl (Af 6))), ((Aa 7), .inl (tc 0, 6, .inl (Af 7))), ((Aa 8), .inl (tc 0, 6, .inl (Af 8)))] → va_S A s.heap H locs → lv_has ls 5 [(4, .int vy_21), (0, .ref (Oa 0)), (1, .ref (Aa 0)), (2, .null), (3, .int x1)] → W p l e ({ frames := 3, cells := 0, slots := 0, locals := 69 }) s m ([.ref (Oa 0), .ref (Aa 0), .null, .int x1].toArray) below meth c H locs 0 0 (MQ below (QW (fun (v : Option Value) (u : (Int32) × (Int32) × (Int32) × (Nat → Int32) × (Nat → Int32) × (Nat → Int32) × (Nat → Int32) × (Nat → Int32) × (Nat → Int32) × (Nat → Int32) × (Nat → Int32)) => match u with | (o1, o2, o3, o4, o5, o6, o7, o8, o9, o10, o11) => ∃ r : Int32, v = some (.int r) ∧ (True)) (BW D (fun (u : (Int32) × (Int32) × (Int32) × (Nat → Int32) × (Nat → Int32) × (Nat → Int32) × (Nat → Int32) × (Nat → Int32) × (Nat → Int32) × (Nat → Int32) × (Nat → Int32)) => match u with | (o1, o2, o3, o4, o5, o6, o7, o8, o9, o10, o11) => [((Oa 0), .inr (4, [.ref (Ta 0), .ref (Oa 2), .long (Oj 0)])), ((Oa 2), .inl (tc 1, 61, .inr (.inl (Og 2)))), ((Ta 0), .inr (9, [.int o1, .int (Av 1), .int (Av 2), .int (Av 3), .int o2, .int o3, .ref (Ta 1), .ref (Ta 2), .ref (Ta 3), .ref (Ta 4), .ref (Ta 5), .ref (Ta 6), .ref (Ta 7), .ref (Ta 8)])), ((Ta 1), .inl (tc 0, 10, .inl o4)), ((Ta 2), .inl (tc 0, 10, .inl o5)), ((Ta 3), .inl (tc 0, 6, .inl o6)), ((Ta 4), .inl (tc 0, 6, .inl o7)), ((Ta 5), .inl (tc 0, 6, .inl o8)), ((Ta 6), .inl (tc 0, 6, .inl o9)), ((Ta 7), .inl (tc 0, 6, .inl o10)), ((Ta 8), .inl (tc 0, 6, .inl o11)), ((Aa 0), .inr (9, [.int (Av 0), .int (Av 1), .int (Av 2), .int (Av 3), .int (Av 4), .int (Av 5), .ref (Aa 1), .ref (Aa 2), .ref (Aa 3), .ref (Aa 4), .ref (Aa 5), .ref (Aa 6), .ref (Aa 7), .ref (Aa 8)])), ((Aa 1), .inl (tc 0, 10, .inl (Af 1))), ((Aa 2), .inl (tc 0, 10, .inl (Af 2))), ((Aa 3), .inl (tc 0, 6, .inl (Af 3))), ((Aa 4), .inl (tc 0, 6, .inl (Af 4))), ((Aa 5), .inl (tc 0, 6, .inl (Af 5))), ((Aa 6), .inl (tc 0, 6, .inl (Af 6))), ((Aa 7), .inl (tc 0, 6, .inl (Af 7))), ((Aa 8), .inl (tc 0, 6, .inl (Af 8)))]) A) A) ([.ref (Oa 0), .ref (Aa 0), .null, .int x1].toArray) s 0 0 A) (F0 m 11 ls []) := by
    intro n_29
    induction n_29 with
    | zero =>
      intro vy_21 vy_22 vy_23 vy_24 vy_25 vy_26 vy_27 vy_28 H locs ls h1 h2
      exact absurd h2 (Nat.not_lt_zero _)
    | succ n_29 ih_30 =>
      intro vy_21 vy_22 vy_23 vy_24 vy_25 vy_26 vy_27 vy_28 H locs ls hi_33 hn_34 hP hD hS hl
      refine lv_iload hx hb dX4_firstPurchase_11 (lv_at hl 0 rfl) ?_
      refine lv_sipush (v := 200) hx hb dX4_firstPurchase_13 (by decide) ?_
      refine lv_icmp_ge (tgt := 48) hx hb dX4_firstPurchase_16 (by decide) (fun c_35 => ?_) (fun c_35 => ?_)
      · skip
        refine lv_bipush (v := (-2)) hx hb dX4_firstPurchase_48 (by decide) ?_
        exact retI (v := (-2)) hx hb hr hlk (rfl) hP hD hS (vy_22, vy_23, vy_24, sv_4, sv_5, vy_25, sv_7, sv_8, vy_26, vy_27, vy_28) ⟨_, rfl, trivial⟩ [0, 1, 2, 3, 4, 5, 6, 7, 8, 9, 10, 11, 12, 13, 14, 15, 16, 17, 18, 19] rfl rfl dX4_firstPurchase_50 (Nat.le_of_ble_eq_true rfl) (Nat.le_of_ble_eq_true rfl) rfl
      · skip
        refine lv_aload_n hx hb dX4_firstPurchase_19 rfl (lv_at hl 1 rfl) ?_
        refine gf_X4_12 hx hb hts hown hK hP 0 rfl rfl dX4_firstPurchase_20 ?_
        refine lv_aload_nN hx hb dX4_firstPurchase_23 rfl (lv_at hl 3 rfl) ?_
        refine cV (a := (Ta 0)) (As := [.null]) (rest := []) (wr := [((Oa 0), .inr (4, [.ref (Ta 0), .ref (Oa 2), .long (Oj 0)])), ((Oa 2), .inl (tc 1, 61, .inr (.inl (Og 2)))), ((Aa 0), .inr (9, [.int (Av 0), .int (Av 1), .int (Av 2), .int (Av 3), .int (Av 4), .int (Av 5), .ref (Aa 1), .ref (Aa 2), .ref (Aa 3), .ref (Aa 4), .ref (Aa 5), .ref (Aa 6), .ref (Aa 7), .ref (Aa 8)])), ((Aa 1), .inl (tc 0, 10, .inl (Af 1))), ((Aa 2), .inl (tc 0, 10, .inl (Af 2))), ((Aa 3), .inl (tc 0, 6, .inl (Af 3))), ((Aa 4), .inl (tc 0, 6, .inl (Af 4))), ((Aa 5), .inl (tc 0, 6, .inl (Af 5))), ((Aa 6), .inl (tc 0, 6, .inl (Af 6))), ((Aa 7), .inl (tc 0, 6, .inl (Af 7))), ((Aa 8), .inl (tc 0, 6, .inl (Af 8)))]) ⟨hx, hb, hml, hown, hts⟩ hK hX hA (cu_X9_goThroughDay_n l D tc sk (Ta 0) (Ta 1) (Ta 2) (Ta 3) (Ta 4) (Ta 5) (Ta 6) (Ta 7) (Ta 8) vy_22 (Av 1) (Av 2) (Av 3) vy_23 vy_24 sv_4 sv_5 vy_25 sv_7 sv_8 vy_26 vy_27 vy_28) k_739 k_829 k_737 k_738 k_98 pl_X9_goThroughDay ⟨Nat.le_of_ble_eq_true rfl, Nat.le_of_ble_eq_true rfl⟩ rfl rfl (va_recv hK hP (ci := 9) (q0 := 2) rfl rfl) hP hD hS [2, 3, 4, 5, 6, 7, 8, 9, 10] [0, 1, 11, 12, 13, 14, 15, 16, 17, 18, 19] rfl rfl rfl rfl rfl (by decide) rfl hl.1 rfl (Nat.le_of_ble_eq_true rfl) dX4_firstPurchase_24 ⟨Nat.le_of_ble_eq_true rfl, Nat.le_of_ble_eq_true rfl⟩ (fun v_36 u_37 H locs hv_38 hP hD hS => ?_)
        obtain ⟨sv_39, sv_40, sv_41, sv_42, sv_43, sv_44, sv_45⟩ := u_37
        obtain ⟨r_46, rfl, he_47⟩ := hv_38
        have he_47 : (True) := he_47
        refine W.eq (g2 := F0 m 27 ls [.int r_46]) rfl ?_
        have hP : va_P D classes [((Oa 0), .inr (4, [.ref (Ta 0), .ref (Oa 2), .long (Oj 0)])), ((Oa 2), .inl (tc 1, 61, .inr (.inl (Og 2)))), ((Aa 0), .inr (9, [.int (Av 0), .int (Av 1), .int (Av 2), .int (Av 3), .int (Av 4), .int (Av 5), .ref (Aa 1), .ref (Aa 2), .ref (Aa 3), .ref (Aa 4), .ref (Aa 5), .ref (Aa 6), .ref (Aa 7), .ref (Aa 8)])), ((Aa 1), .inl (tc 0, 10, .inl (Af 1))), ((Aa 2), .inl (tc 0, 10, .inl (Af 2))), ((Aa 3), .inl (tc 0, 6, .inl (Af 3))), ((Aa 4), .inl (tc 0, 6, .inl (Af 4))), ((Aa 5), .inl (tc 0, 6, .inl (Af 5))), ((Aa 6), .inl (tc 0, 6, .inl (Af 6))), ((Aa 7), .inl (tc 0, 6, .inl (Af 7))), ((Aa 8), .inl (tc 0, 6, .inl (Af 8))), ((Ta 0), .inr (9, [.int sv_39, .int (Av 1), .int (Av 2), .int (Av 3), .int sv_40, .int sv_41, .ref (Ta 1), .ref (Ta 2), .ref (Ta 3), .ref (Ta 4), .ref (Ta 5), .ref (Ta 6), .ref (Ta 7), .ref (Ta 8)])), ((Ta 1), .inl (tc 0, 10, .inl sv_4)), ((Ta 2), .inl (tc 0, 10, .inl sv_5)), ((Ta 3), .inl (tc 0, 6, .inl sv_42)), ((Ta 4), .inl (tc 0, 6, .inl sv_7)), ((Ta 5), .inl (tc 0, 6, .inl sv_8)), ((Ta 6), .inl (tc 0, 6, .inl sv_43)), ((Ta 7), .inl (tc 0, 6, .inl sv_44)), ((Ta 8), .inl (tc 0, 6, .inl sv_45))] H := hP
        have hD : va_D A [((Oa 0), .inr (4, [.ref (Ta 0), .ref (Oa 2), .long (Oj 0)])), ((Oa 2), .inl (tc 1, 61, .inr (.inl (Og 2)))), ((Aa 0), .inr (9, [.int (Av 0), .int (Av 1), .int (Av 2), .int (Av 3), .int (Av 4), .int (Av 5), .ref (Aa 1), .ref (Aa 2), .ref (Aa 3), .ref (Aa 4), .ref (Aa 5), .ref (Aa 6), .ref (Aa 7), .ref (Aa 8)])), ((Aa 1), .inl (tc 0, 10, .inl (Af 1))), ((Aa 2), .inl (tc 0, 10, .inl (Af 2))), ((Aa 3), .inl (tc 0, 6, .inl (Af 3))), ((Aa 4), .inl (tc 0, 6, .inl (Af 4))), ((Aa 5), .inl (tc 0, 6, .inl (Af 5))), ((Aa 6), .inl (tc 0, 6, .inl (Af 6))), ((Aa 7), .inl (tc 0, 6, .inl (Af 7))), ((Aa 8), .inl (tc 0, 6, .inl (Af 8))), ((Ta 0), .inr (9, [.int sv_39, .int (Av 1), .int (Av 2), .int (Av 3), .int sv_40, .int sv_41, .ref (Ta 1), .ref (Ta 2), .ref (Ta 3), .ref (Ta 4), .ref (Ta 5), .ref (Ta 6), .ref (Ta 7), .ref (Ta 8)])), ((Ta 1), .inl (tc 0, 10, .inl sv_4)), ((Ta 2), .inl (tc 0, 10, .inl sv_5)), ((Ta 3), .inl (tc 0, 6, .inl sv_42)), ((Ta 4), .inl (tc 0, 6, .inl sv_7)), ((Ta 5), .inl (tc 0, 6, .inl sv_8)), ((Ta 6), .inl (tc 0, 6, .inl sv_43)), ((Ta 7), .inl (tc 0, 6, .inl sv_44)), ((Ta 8), .inl (tc 0, 6, .inl sv_45))] := hD
        refine lv_iload_n hx hb dX4_firstPurchase_27 rfl (lv_at hl 4 rfl) ?_
        refine lv_ishr hx hb dX4_firstPurchase_28 ?_
        refine lv_topi (fun x_48 ex_48 => ?_)
        refine lv_iconst (v := 1) hx hb dX4_firstPurchase_29 (by decide) ?_
        refine lv_iand hx hb dX4_firstPurchase_30 ?_
        refine lv_topi (fun x_49 ex_49 => ?_)
        refine lv_if_eq (tgt := 42) hx hb dX4_firstPurchase_31 (by decide) (fun c_50 => ?_) (fun c_50 => ?_)
        · skip
          obtain ⟨x_51, ex_51⟩ : ∃ y : Int32, y = vy_21 + 1 := ⟨_, rfl⟩
          refine lv_iinc (v := x_51) (lv' := [(4, .int x_51), (0, .ref (Oa 0)), (1, .ref (Aa 0)), (2, .null), (3, .int x1)]) hx hb dX4_firstPurchase_42 hl (k := 0) rfl (by rw [ex_51]; rfl) (by decide) rfl (fun ls hl => ?_)
          refine lv_goto (tgt := 11) hx hb dX4_firstPurchase_45 (by decide) ?_
          have hb_52 : 0 ≤ (x_51 : Int32).toInt ∧ (200 - (x_51 : Int32).toInt).toNat < n_29 := by
            have z_1 := Int32.lt_iff_toInt_lt.mp (Int32.not_le.mp c_35)
            have z_2 := congrArg Int32.toInt c_50
            have y_0 : (0 : Int32).toInt = 0 := by decide
            have y_200 : (200 : Int32).toInt = 200 := by decide
            have y_1 : (1 : Int32).toInt = 1 := by decide
            have t_x_51 : x_51.toInt = (vy_21 : Int32).toInt + (1 : Int32).toInt := by rw [ex_51]; exact add_toInt (by omega) (by omega)
            omega
          exact ih_30 x_51 sv_39 sv_40 sv_41 sv_42 sv_43 sv_44 sv_45 _ _ _ hb_52.1 hb_52.2 (hP.sub [0, 1, 11, 12, 13, 14, 15, 16, 17, 18, 19, 2, 3, 4, 5, 6, 7, 8, 9, 10] rfl) (hD.sub [0, 1, 11, 12, 13, 14, 15, 16, 17, 18, 19, 2, 3, 4, 5, 6, 7, 8, 9, 10] rfl rfl) hS (lv_sub hl [0, 1, 2, 3, 4] rfl)
        · skip
          refine lv_aload_n hx hb dX4_firstPurchase_34 rfl (lv_at hl 2 rfl) ?_
          refine gf_X4_53 hx hb hts hown hK hP 2 rfl rfl dX4_firstPurchase_35 ?_
          refine lv_iload hx hb dX4_firstPurchase_38 (lv_at hl 0 rfl) ?_
          refine lv_iadd hx hb dX4_firstPurchase_40 ?_
          refine lv_topi (fun x_53 ex_53 => ?_)
          exact retI (v := x_53) hx hb hr hlk (rfl) hP hD hS (sv_39, sv_40, sv_41, sv_4, sv_5, sv_42, sv_7, sv_8, sv_43, sv_44, sv_45) ⟨_, rfl, trivial⟩ [0, 1, 11, 12, 13, 14, 15, 16, 17, 18, 19, 2, 3, 4, 5, 6, 7, 8, 9, 10] rfl rfl dX4_firstPurchase_41 (Nat.le_of_ble_eq_true rfl) (Nat.le_of_ble_eq_true rfl) rfl
  have h0_54 : 0 ≤ (0 : Int32).toInt := by
    have y_0 : (0 : Int32).toInt = 0 := by decide
    decide
  exact loop_31 _ 0 (Av 0) (Av 4) (Av 5) sv_6 sv_9 sv_10 sv_11 _ _ _ h0_54 (Nat.lt_succ_self _) hP hD hS hl
set_option maxRecDepth 100000 in
theorem cu_X4_firstPurchase_n (l : Launch) (D : va_G) (tc : Nat → ClassId) (sk : (Nat → Nat) × (Nat → Nat)) (Oa_0 : Nat) (Oa_2 : Nat) (Oj_0 : Int64) (Og_2 : Nat → Int64) (Ta_0 : Nat) (Ta_1 : Nat) (Ta_2 : Nat) (Ta_3 : Nat) (Ta_4 : Nat) (Ta_5 : Nat) (Ta_6 : Nat) (Ta_7 : Nat) (Ta_8 : Nat) (Tv_0 : Int32) (Tv_1 : Int32) (Tv_2 : Int32) (Tv_3 : Int32) (Tv_4 : Int32) (Tv_5 : Int32) (Tf_1 : Nat → Int32) (Tf_2 : Nat → Int32) (Tf_3 : Nat → Int32) (Tf_4 : Nat → Int32) (Tf_5 : Nat → Int32) (Tf_6 : Nat → Int32) (Tf_7 : Nat → Int32) (Tf_8 : Nat → Int32) (Aa_0 : Nat) (Aa_1 : Nat) (Aa_2 : Nat) (Aa_3 : Nat) (Aa_4 : Nat) (Aa_5 : Nat) (Aa_6 : Nat) (Aa_7 : Nat) (Aa_8 : Nat) (Av_0 : Int32) (Av_1 : Int32) (Av_2 : Int32) (Av_3 : Int32) (Av_4 : Int32) (Av_5 : Int32) (Af_1 : Nat → Int32) (Af_2 : Nat → Int32) (Af_3 : Nat → Int32) (Af_4 : Nat → Int32) (Af_5 : Nat → Int32) (Af_6 : Nat → Int32) (Af_7 : Nat → Int32) (Af_8 : Nat → Int32) (x1 : Int32)  : Ct l yX4_firstPurchase cX4_firstPurchase 5 (some .int) { frames := 3, cells := 0, slots := 0, locals := 69 } D tc sk [.ref Oa_0, .ref Aa_0, .null, .int x1] [(Oa_0, .inr (4, [.ref Ta_0, .ref Oa_2, .long Oj_0])), (Oa_2, .inl (tc 1, 61, .inr (.inl Og_2))), (Ta_0, .inr (9, [.int Tv_0, .int Tv_1, .int Tv_2, .int Tv_3, .int Tv_4, .int Tv_5, .ref Ta_1, .ref Ta_2, .ref Ta_3, .ref Ta_4, .ref Ta_5, .ref Ta_6, .ref Ta_7, .ref Ta_8])), (Ta_1, .inl (tc 0, 10, .inl Tf_1)), (Ta_2, .inl (tc 0, 10, .inl Tf_2)), (Ta_3, .inl (tc 0, 6, .inl Tf_3)), (Ta_4, .inl (tc 0, 6, .inl Tf_4)), (Ta_5, .inl (tc 0, 6, .inl Tf_5)), (Ta_6, .inl (tc 0, 6, .inl Tf_6)), (Ta_7, .inl (tc 0, 6, .inl Tf_7)), (Ta_8, .inl (tc 0, 6, .inl Tf_8)), (Aa_0, .inr (9, [.int Av_0, .int Av_1, .int Av_2, .int Av_3, .int Av_4, .int Av_5, .ref Aa_1, .ref Aa_2, .ref Aa_3, .ref Aa_4, .ref Aa_5, .ref Aa_6, .ref Aa_7, .ref Aa_8])), (Aa_1, .inl (tc 0, 10, .inl Af_1)), (Aa_2, .inl (tc 0, 10, .inl Af_2)), (Aa_3, .inl (tc 0, 6, .inl Af_3)), (Aa_4, .inl (tc 0, 6, .inl Af_4)), (Aa_5, .inl (tc 0, 6, .inl Af_5)), (Aa_6, .inl (tc 0, 6, .inl Af_6)), (Aa_7, .inl (tc 0, 6, .inl Af_7)), (Aa_8, .inl (tc 0, 6, .inl Af_8))] (fun (v : Option Value) (u : (Int32) × (Int32) × (Int32) × (Nat → Int32) × (Nat → Int32) × (Nat → Int32) × (Nat → Int32) × (Nat → Int32) × (Nat → Int32) × (Nat → Int32) × (Nat → Int32)) => match u with | (o1, o2, o3, o4, o5, o6, o7, o8, o9, o10, o11) => ∃ r : Int32, v = some (.int r) ∧ (True)) (fun (u : (Int32) × (Int32) × (Int32) × (Nat → Int32) × (Nat → Int32) × (Nat → Int32) × (Nat → Int32) × (Nat → Int32) × (Nat → Int32) × (Nat → Int32) × (Nat → Int32)) => match u with | (o1, o2, o3, o4, o5, o6, o7, o8, o9, o10, o11) => [(Oa_0, .inr (4, [.ref Ta_0, .ref Oa_2, .long Oj_0])), (Oa_2, .inl (tc 1, 61, .inr (.inl Og_2))), (Ta_0, .inr (9, [.int o1, .int Av_1, .int Av_2, .int Av_3, .int o2, .int o3, .ref Ta_1, .ref Ta_2, .ref Ta_3, .ref Ta_4, .ref Ta_5, .ref Ta_6, .ref Ta_7, .ref Ta_8])), (Ta_1, .inl (tc 0, 10, .inl o4)), (Ta_2, .inl (tc 0, 10, .inl o5)), (Ta_3, .inl (tc 0, 6, .inl o6)), (Ta_4, .inl (tc 0, 6, .inl o7)), (Ta_5, .inl (tc 0, 6, .inl o8)), (Ta_6, .inl (tc 0, 6, .inl o9)), (Ta_7, .inl (tc 0, 6, .inl o10)), (Ta_8, .inl (tc 0, 6, .inl o11)), (Aa_0, .inr (9, [.int Av_0, .int Av_1, .int Av_2, .int Av_3, .int Av_4, .int Av_5, .ref Aa_1, .ref Aa_2, .ref Aa_3, .ref Aa_4, .ref Aa_5, .ref Aa_6, .ref Aa_7, .ref Aa_8])), (Aa_1, .inl (tc 0, 10, .inl Af_1)), (Aa_2, .inl (tc 0, 10, .inl Af_2)), (Aa_3, .inl (tc 0, 6, .inl Af_3)), (Aa_4, .inl (tc 0, 6, .inl Af_4)), (Aa_5, .inl (tc 0, 6, .inl Af_5)), (Aa_6, .inl (tc 0, 6, .inl Af_6)), (Aa_7, .inl (tc 0, 6, .inl Af_7)), (Aa_8, .inl (tc 0, 6, .inl Af_8))]) 0 0 :=
  ct_X4_firstPurchase_n l D tc sk (fun k => ([Oa_0, 0, Oa_2] : List (Nat)).getD k 0) (fun k => ([Oj_0] : List (Int64)).getD k 0) (fun k => ([(fun _ => 0), (fun _ => 0), Og_2] : List (Nat → Int64)).getD k (fun _ => 0)) (fun k => ([Ta_0, Ta_1, Ta_2, Ta_3, Ta_4, Ta_5, Ta_6, Ta_7, Ta_8] : List (Nat)).getD k 0) (fun k => ([Tv_0, Tv_1, Tv_2, Tv_3, Tv_4, Tv_5] : List (Int32)).getD k 0) (fun k => ([(fun _ => 0), Tf_1, Tf_2, Tf_3, Tf_4, Tf_5, Tf_6, Tf_7, Tf_8] : List (Nat → Int32)).getD k (fun _ => 0)) (fun k => ([Aa_0, Aa_1, Aa_2, Aa_3, Aa_4, Aa_5, Aa_6, Aa_7, Aa_8] : List (Nat)).getD k 0) (fun k => ([Av_0, Av_1, Av_2, Av_3, Av_4, Av_5] : List (Int32)).getD k 0) (fun k => ([(fun _ => 0), Af_1, Af_2, Af_3, Af_4, Af_5, Af_6, Af_7, Af_8] : List (Nat → Int32)).getD k (fun _ => 0)) x1 
set_option maxHeartbeats 4000000 in
set_option maxRecDepth 100000 in
theorem ct_X4_firstEmptyShelf_n (l : Launch) (D : va_G) (tc : Nat → ClassId) (sk : (Nat → Nat) × (Nat → Nat)) (Oa : Nat → Nat) (Oj : Nat → Int64) (Og : Nat → Nat → Int64) (Ta : Nat → Nat) (Tv : Nat → Int32) (Tf : Nat → Nat → Int32) (Aa : Nat → Nat) (Av : Nat → Int32) (Af : Nat → Nat → Int32)  : Ct l yX4_firstEmptyShelf cX4_firstEmptyShelf 4 (some .int) { frames := 3, cells := 0, slots := 0, locals := 69 } D tc sk [.ref (Oa 0), .ref (Aa 0), .null] [((Oa 0), .inr (4, [.ref (Ta 0), .ref (Oa 2), .long (Oj 0)])), ((Oa 2), .inl (tc 1, 61, .inr (.inl (Og 2)))), ((Ta 0), .inr (9, [.int (Tv 0), .int (Tv 1), .int (Tv 2), .int (Tv 3), .int (Tv 4), .int (Tv 5), .ref (Ta 1), .ref (Ta 2), .ref (Ta 3), .ref (Ta 4), .ref (Ta 5), .ref (Ta 6), .ref (Ta 7), .ref (Ta 8)])), ((Ta 1), .inl (tc 0, 10, .inl (Tf 1))), ((Ta 2), .inl (tc 0, 10, .inl (Tf 2))), ((Ta 3), .inl (tc 0, 6, .inl (Tf 3))), ((Ta 4), .inl (tc 0, 6, .inl (Tf 4))), ((Ta 5), .inl (tc 0, 6, .inl (Tf 5))), ((Ta 6), .inl (tc 0, 6, .inl (Tf 6))), ((Ta 7), .inl (tc 0, 6, .inl (Tf 7))), ((Ta 8), .inl (tc 0, 6, .inl (Tf 8))), ((Aa 0), .inr (9, [.int (Av 0), .int (Av 1), .int (Av 2), .int (Av 3), .int (Av 4), .int (Av 5), .ref (Aa 1), .ref (Aa 2), .ref (Aa 3), .ref (Aa 4), .ref (Aa 5), .ref (Aa 6), .ref (Aa 7), .ref (Aa 8)])), ((Aa 1), .inl (tc 0, 10, .inl (Af 1))), ((Aa 2), .inl (tc 0, 10, .inl (Af 2))), ((Aa 3), .inl (tc 0, 6, .inl (Af 3))), ((Aa 4), .inl (tc 0, 6, .inl (Af 4))), ((Aa 5), .inl (tc 0, 6, .inl (Af 5))), ((Aa 6), .inl (tc 0, 6, .inl (Af 6))), ((Aa 7), .inl (tc 0, 6, .inl (Af 7))), ((Aa 8), .inl (tc 0, 6, .inl (Af 8)))] (fun (v : Option Value) (u : (Int32) × (Int32) × (Int32) × (Nat → Int32) × (Nat → Int32) × (Nat → Int32) × (Nat → Int32) × (Nat → Int32) × (Nat → Int32) × (Nat → Int32) × (Nat → Int32)) => match u with | (o1, o2, o3, o4, o5, o6, o7, o8, o9, o10, o11) => ∃ r : Int32, v = some (.int r) ∧ (True)) (fun (u : (Int32) × (Int32) × (Int32) × (Nat → Int32) × (Nat → Int32) × (Nat → Int32) × (Nat → Int32) × (Nat → Int32) × (Nat → Int32) × (Nat → Int32) × (Nat → Int32)) => match u with | (o1, o2, o3, o4, o5, o6, o7, o8, o9, o10, o11) => [((Oa 0), .inr (4, [.ref (Ta 0), .ref (Oa 2), .long (Oj 0)])), ((Oa 2), .inl (tc 1, 61, .inr (.inl (Og 2)))), ((Ta 0), .inr (9, [.int o1, .int (Av 1), .int (Av 2), .int (Av 3), .int o2, .int o3, .ref (Ta 1), .ref (Ta 2), .ref (Ta 3), .ref (Ta 4), .ref (Ta 5), .ref (Ta 6), .ref (Ta 7), .ref (Ta 8)])), ((Ta 1), .inl (tc 0, 10, .inl o4)), ((Ta 2), .inl (tc 0, 10, .inl o5)), ((Ta 3), .inl (tc 0, 6, .inl o6)), ((Ta 4), .inl (tc 0, 6, .inl o7)), ((Ta 5), .inl (tc 0, 6, .inl o8)), ((Ta 6), .inl (tc 0, 6, .inl o9)), ((Ta 7), .inl (tc 0, 6, .inl o10)), ((Ta 8), .inl (tc 0, 6, .inl o11)), ((Aa 0), .inr (9, [.int (Av 0), .int (Av 1), .int (Av 2), .int (Av 3), .int (Av 4), .int (Av 5), .ref (Aa 1), .ref (Aa 2), .ref (Aa 3), .ref (Aa 4), .ref (Aa 5), .ref (Aa 6), .ref (Aa 7), .ref (Aa 8)])), ((Aa 1), .inl (tc 0, 10, .inl (Af 1))), ((Aa 2), .inl (tc 0, 10, .inl (Af 2))), ((Aa 3), .inl (tc 0, 6, .inl (Af 3))), ((Aa 4), .inl (tc 0, 6, .inl (Af 4))), ((Aa 5), .inl (tc 0, 6, .inl (Af 5))), ((Aa 6), .inl (tc 0, 6, .inl (Af 6))), ((Aa 7), .inl (tc 0, 6, .inl (Af 7))), ((Aa 8), .inl (tc 0, 6, .inl (Af 8)))]) 0 0 := by
  refine Ct.start (by decide) (Nat.le_of_ble_eq_true rfl) (fun p e s m below meth c A ls hx hb hr hlk hin hml hown hts hK hX hP hD hA hl hS => ?_)
  have hl : lv_has ls 4 [(0, .ref (Oa 0)), (1, .ref (Aa 0)), (2, .null)] := hl
  refine lv_aload_n hx hb dX4_firstEmptyShelf_0 rfl (lv_at hl 0 rfl) ?_
  refine gf_X4_12 hx hb hts hown hK hP 0 rfl rfl dX4_firstEmptyShelf_1 ?_
  refine lv_aload_n hx hb dX4_firstEmptyShelf_4 rfl (lv_at hl 1 rfl) ?_
  refine cV (a := (Ta 0)) (As := [.ref (Aa 0)]) (rest := []) (wr := [((Oa 0), .inr (4, [.ref (Ta 0), .ref (Oa 2), .long (Oj 0)])), ((Oa 2), .inl (tc 1, 61, .inr (.inl (Og 2))))]) ⟨hx, hb, hml, hown, hts⟩ hK hX hA (cu_X9_copyFrom l D tc sk (Ta 0) (Ta 1) (Ta 2) (Ta 3) (Ta 4) (Ta 5) (Ta 6) (Ta 7) (Ta 8) (Tv 0) (Tv 1) (Tv 2) (Tv 3) (Tv 4) (Tv 5) (Tf 1) (Tf 2) (Tf 3) (Tf 4) (Tf 5) (Tf 6) (Tf 7) (Tf 8) (Aa 0) (Aa 1) (Aa 2) (Aa 3) (Aa 4) (Aa 5) (Aa 6) (Aa 7) (Aa 8) (Av 0) (Av 1) (Av 2) (Av 3) (Av 4) (Av 5) (Af 1) (Af 2) (Af 3) (Af 4) (Af 5) (Af 6) (Af 7) (Af 8)) k_599 k_814 k_597 k_598 k_98 pl_X9_copyFrom ⟨Nat.le_of_ble_eq_true rfl, Nat.le_of_ble_eq_true rfl⟩ rfl rfl (va_recv hK hP (ci := 9) (q0 := 2) rfl rfl) hP hD hS [2, 3, 4, 5, 6, 7, 8, 9, 10, 11, 12, 13, 14, 15, 16, 17, 18, 19] [0, 1] rfl rfl rfl rfl rfl (by decide) rfl hl.1 rfl (Nat.le_of_ble_eq_true rfl) dX4_firstEmptyShelf_5 ⟨Nat.le_of_ble_eq_true rfl, Nat.le_of_ble_eq_true rfl⟩ (fun v_1 u_2 H locs hv_3 hP hD hS => ?_)
  obtain ⟨sv_4, sv_5, sv_6, sv_7, sv_8, sv_9, sv_10, sv_11⟩ := u_2
  obtain rfl : v_1 = none := hv_3
  refine W.eq (g2 := F0 m 8 ls []) rfl ?_
  have hP : va_P D classes [((Oa 0), .inr (4, [.ref (Ta 0), .ref (Oa 2), .long (Oj 0)])), ((Oa 2), .inl (tc 1, 61, .inr (.inl (Og 2)))), ((Ta 0), .inr (9, [.int (Av 0), .int (Av 1), .int (Av 2), .int (Av 3), .int (Av 4), .int (Av 5), .ref (Ta 1), .ref (Ta 2), .ref (Ta 3), .ref (Ta 4), .ref (Ta 5), .ref (Ta 6), .ref (Ta 7), .ref (Ta 8)])), ((Ta 1), .inl (tc 0, 10, .inl sv_4)), ((Ta 2), .inl (tc 0, 10, .inl sv_5)), ((Ta 3), .inl (tc 0, 6, .inl sv_6)), ((Ta 4), .inl (tc 0, 6, .inl sv_7)), ((Ta 5), .inl (tc 0, 6, .inl sv_8)), ((Ta 6), .inl (tc 0, 6, .inl sv_9)), ((Ta 7), .inl (tc 0, 6, .inl sv_10)), ((Ta 8), .inl (tc 0, 6, .inl sv_11)), ((Aa 0), .inr (9, [.int (Av 0), .int (Av 1), .int (Av 2), .int (Av 3), .int (Av 4), .int (Av 5), .ref (Aa 1), .ref (Aa 2), .ref (Aa 3), .ref (Aa 4), .ref (Aa 5), .ref (Aa 6), .ref (Aa 7), .ref (Aa 8)])), ((Aa 1), .inl (tc 0, 10, .inl (Af 1))), ((Aa 2), .inl (tc 0, 10, .inl (Af 2))), ((Aa 3), .inl (tc 0, 6, .inl (Af 3))), ((Aa 4), .inl (tc 0, 6, .inl (Af 4))), ((Aa 5), .inl (tc 0, 6, .inl (Af 5))), ((Aa 6), .inl (tc 0, 6, .inl (Af 6))), ((Aa 7), .inl (tc 0, 6, .inl (Af 7))), ((Aa 8), .inl (tc 0, 6, .inl (Af 8)))] H := hP
  have hD : va_D A [((Oa 0), .inr (4, [.ref (Ta 0), .ref (Oa 2), .long (Oj 0)])), ((Oa 2), .inl (tc 1, 61, .inr (.inl (Og 2)))), ((Ta 0), .inr (9, [.int (Av 0), .int (Av 1), .int (Av 2), .int (Av 3), .int (Av 4), .int (Av 5), .ref (Ta 1), .ref (Ta 2), .ref (Ta 3), .ref (Ta 4), .ref (Ta 5), .ref (Ta 6), .ref (Ta 7), .ref (Ta 8)])), ((Ta 1), .inl (tc 0, 10, .inl sv_4)), ((Ta 2), .inl (tc 0, 10, .inl sv_5)), ((Ta 3), .inl (tc 0, 6, .inl sv_6)), ((Ta 4), .inl (tc 0, 6, .inl sv_7)), ((Ta 5), .inl (tc 0, 6, .inl sv_8)), ((Ta 6), .inl (tc 0, 6, .inl sv_9)), ((Ta 7), .inl (tc 0, 6, .inl sv_10)), ((Ta 8), .inl (tc 0, 6, .inl sv_11)), ((Aa 0), .inr (9, [.int (Av 0), .int (Av 1), .int (Av 2), .int (Av 3), .int (Av 4), .int (Av 5), .ref (Aa 1), .ref (Aa 2), .ref (Aa 3), .ref (Aa 4), .ref (Aa 5), .ref (Aa 6), .ref (Aa 7), .ref (Aa 8)])), ((Aa 1), .inl (tc 0, 10, .inl (Af 1))), ((Aa 2), .inl (tc 0, 10, .inl (Af 2))), ((Aa 3), .inl (tc 0, 6, .inl (Af 3))), ((Aa 4), .inl (tc 0, 6, .inl (Af 4))), ((Aa 5), .inl (tc 0, 6, .inl (Af 5))), ((Aa 6), .inl (tc 0, 6, .inl (Af 6))), ((Aa 7), .inl (tc 0, 6, .inl (Af 7))), ((Aa 8), .inl (tc 0, 6, .inl (Af 8)))] := hD
  refine lv_iconst (v := 0) hx hb dX4_firstEmptyShelf_8 (by decide) ?_
  refine lv_istore_n (lv' := [(3, .int 0), (0, .ref (Oa 0)), (1, .ref (Aa 0)), (2, .null)]) hx hb dX4_firstEmptyShelf_9 rfl hl (by decide) rfl (fun ls hl => ?_)
  have loop_31 : ∀ (n_29 : Nat) (vy_21 : Int32) (vy_22 : Int32) (vy_23 : Int32) (vy_24 : Int32) (vy_25 : Nat → Int32) (vy_26 : Nat → Int32) (vy_27 : Nat → Int32) (vy_28 : Nat → Int32) (H : Heap) (locs : List Loc) (ls : Array Slot), 0 ≤ (vy_21 : Int32).toInt → (200 - (vy_21 : Int32).toInt).toNat < n_29 → va_P D classes [((Oa 0), .inr (4, [.ref (Ta 0), .ref (Oa 2), .long (Oj 0)])), ((Oa 2), .inl (tc 1, 61, .inr (.inl (Og 2)))), ((Ta 0), .inr (9, [.int vy_22, .int (Av 1), .int (Av 2), .int (Av 3), .int vy_23, .int vy_24, .ref (Ta 1), .ref (Ta 2), .ref (Ta 3), .ref (Ta 4), .ref (Ta 5), .ref (Ta 6), .ref (Ta 7), .ref (Ta 8)])), ((Ta 1), .inl (tc 0, 10, .inl sv_4)), ((Ta 2), .inl (tc 0, 10, .inl sv_5)), ((Ta 3), .inl (tc 0, 6, .inl vy_25)), ((Ta 4), .inl (tc 0, 6, .inl sv_7)), ((Ta 5), .inl (tc 0, 6, .inl sv_8)), ((Ta 6), .inl (tc 0, 6, .inl vy_26)), ((Ta 7), .inl (tc 0, 6, .inl vy_27)), ((Ta 8), .inl (tc 0, 6, .inl vy_28)), ((Aa 0), .inr (9, [.int (Av 0), .int (Av 1), .int (Av 2), .int (Av 3), .int (Av 4), .int (Av 5), .ref (Aa 1), .ref (Aa 2), .ref (Aa 3), .ref (Aa 4), .ref (Aa 5), .ref (Aa 6), .ref (Aa 7), .ref (Aa 8)])), ((Aa 1), .inl (tc 0, 10, .inl (Af 1))), ((Aa 2), .inl (tc 0, 10, .inl (Af 2))), ((Aa 3), .inl (tc 0, 6, .inl (Af 3))), ((Aa 4), .inl (tc 0, 6, .inl (Af 4))), ((Aa 5), .inl (tc 0, 6, .inl (Af 5))), ((Aa 6), .inl (tc 0, 6, .inl (Af 6))), ((Aa 7), .inl (tc 0, 6, .inl (Af 7))), ((Aa 8), .inl (tc 0, 6, .inl (Af 8)))] H → va_D A [((Oa 0), .inr (4, [.ref (Ta 0), .ref (Oa 2), .long (Oj 0)])), ((Oa 2), .inl (tc 1, 61, .inr (.inl (Og 2)))), ((Ta 0), .inr (9, [.int vy_22, .int (Av 1), .int (Av 2), .int (Av 3), .int vy_23, .int vy_24, .ref (Ta 1), .ref (Ta 2), .ref (Ta 3), .ref (Ta 4), .ref (Ta 5), .ref (Ta 6), .ref (Ta 7), .ref (Ta 8)])), ((Ta 1), .inl (tc 0, 10, .inl sv_4)), ((Ta 2), .inl (tc 0, 10, .inl sv_5)), ((Ta 3), .inl (tc 0, 6, .inl vy_25)), ((Ta 4), .inl (tc 0, 6, .inl sv_7)), ((Ta 5), .inl (tc 0, 6, .inl sv_8)), ((Ta 6), .inl (tc 0, 6, .inl vy_26)), ((Ta 7), .inl (tc 0, 6, .inl vy_27)), ((Ta 8), .inl (tc 0, 6, .inl vy_28)), ((Aa 0), .inr (9, [.int (Av 0), .int (Av 1), .int (Av 2), .int (Av 3), .int (Av 4), .int (Av 5), .ref (Aa 1), .ref (Aa 2), .ref (Aa 3), .ref (Aa 4), .ref (Aa 5), .ref (Aa 6), .ref (Aa 7), .ref (Aa 8)])), ((Aa 1), .inl (tc 0, 10, .inl (Af 1))), ((Aa 2), .inl (tc 0, 10, .inl (Af 2))), ((Aa 3), .inl (tc 0, 6, .inl (Af 3))), ((Aa 4), .inl (tc 0, 6, .inl (Af 4))), ((Aa 5), .inl (tc 0, 6, .inl (Af 5))), ((Aa 6), .inl (tc 0, 6, .inl (Af 6))), ((Aa 7), .inl (tc 0, 6, .inl (Af 7))), ((Aa 8), .inl (tc 0, 6, .inl (Af 8)))] → va_S A s.heap H locs → lv_has ls 4 [(3, .int vy_21), (0, .ref (Oa 0)), (1, .ref (Aa 0)), (2, .null)] → W p l e ({ frames := 3, cells := 0, slots := 0, locals := 69 }) s m ([.ref (Oa 0), .ref (Aa 0), .null].toArray) below meth c H locs 0 0 (MQ below (QW (fun (v : Option Value) (u : (Int32) × (Int32) × (Int32) × (Nat → Int32) × (Nat → Int32) × (Nat → Int32) × (Nat → Int32) × (Nat → Int32) × (Nat → Int32) × (Nat → Int32) × (Nat → Int32)) => match u with | (o1, o2, o3, o4, o5, o6, o7, o8, o9, o10, o11) => ∃ r : Int32, v = some (.int r) ∧ (True)) (BW D (fun (u : (Int32) × (Int32) × (Int32) × (Nat → Int32) × (Nat → Int32) × (Nat → Int32) × (Nat → Int32) × (Nat → Int32) × (Nat → Int32) × (Nat → Int32) × (Nat → Int32)) => match u with | (o1, o2, o3, o4, o5, o6, o7, o8, o9, o10, o11) => [((Oa 0), .inr (4, [.ref (Ta 0), .ref (Oa 2), .long (Oj 0)])), ((Oa 2), .inl (tc 1, 61, .inr (.inl (Og 2)))), ((Ta 0), .inr (9, [.int o1, .int (Av 1), .int (Av 2), .int (Av 3), .int o2, .int o3, .ref (Ta 1), .ref (Ta 2), .ref (Ta 3), .ref (Ta 4), .ref (Ta 5), .ref (Ta 6), .ref (Ta 7), .ref (Ta 8)])), ((Ta 1), .inl (tc 0, 10, .inl o4)), ((Ta 2), .inl (tc 0, 10, .inl o5)), ((Ta 3), .inl (tc 0, 6, .inl o6)), ((Ta 4), .inl (tc 0, 6, .inl o7)), ((Ta 5), .inl (tc 0, 6, .inl o8)), ((Ta 6), .inl (tc 0, 6, .inl o9)), ((Ta 7), .inl (tc 0, 6, .inl o10)), ((Ta 8), .inl (tc 0, 6, .inl o11)), ((Aa 0), .inr (9, [.int (Av 0), .int (Av 1), .int (Av 2), .int (Av 3), .int (Av 4), .int (Av 5), .ref (Aa 1), .ref (Aa 2), .ref (Aa 3), .ref (Aa 4), .ref (Aa 5), .ref (Aa 6), .ref (Aa 7), .ref (Aa 8)])), ((Aa 1), .inl (tc 0, 10, .inl (Af 1))), ((Aa 2), .inl (tc 0, 10, .inl (Af 2))), ((Aa 3), .inl (tc 0, 6, .inl (Af 3))), ((Aa 4), .inl (tc 0, 6, .inl (Af 4))), ((Aa 5), .inl (tc 0, 6, .inl (Af 5))), ((Aa 6), .inl (tc 0, 6, .inl (Af 6))), ((Aa 7), .inl (tc 0, 6, .inl (Af 7))), ((Aa 8), .inl (tc 0, 6, .inl (Af 8)))]) A) A) ([.ref (Oa 0), .ref (Aa 0), .null].toArray) s 0 0 A) (F0 m 10 ls []) := by
    intro n_29
    induction n_29 with
    | zero =>
      intro vy_21 vy_22 vy_23 vy_24 vy_25 vy_26 vy_27 vy_28 H locs ls h1 h2
      exact absurd h2 (Nat.not_lt_zero _)
    | succ n_29 ih_30 =>
      intro vy_21 vy_22 vy_23 vy_24 vy_25 vy_26 vy_27 vy_28 H locs ls hi_33 hn_34 hP hD hS hl
      refine lv_iload_n hx hb dX4_firstEmptyShelf_10 rfl (lv_at hl 0 rfl) ?_
      refine lv_sipush (v := 200) hx hb dX4_firstEmptyShelf_11 (by decide) ?_
      refine lv_icmp_ge (tgt := 50) hx hb dX4_firstEmptyShelf_14 (by decide) (fun c_35 => ?_) (fun c_35 => ?_)
      · skip
        refine lv_bipush (v := (-2)) hx hb dX4_firstEmptyShelf_50 (by decide) ?_
        exact retI (v := (-2)) hx hb hr hlk (rfl) hP hD hS (vy_22, vy_23, vy_24, sv_4, sv_5, vy_25, sv_7, sv_8, vy_26, vy_27, vy_28) ⟨_, rfl, trivial⟩ [0, 1, 2, 3, 4, 5, 6, 7, 8, 9, 10, 11, 12, 13, 14, 15, 16, 17, 18, 19] rfl rfl dX4_firstEmptyShelf_52 (Nat.le_of_ble_eq_true rfl) (Nat.le_of_ble_eq_true rfl) rfl
      · skip
        refine lv_aload_n hx hb dX4_firstEmptyShelf_17 rfl (lv_at hl 1 rfl) ?_
        refine gf_X4_12 hx hb hts hown hK hP 0 rfl rfl dX4_firstEmptyShelf_18 ?_
        refine gf_X4_34 hx hb hts hown hK hP 2 rfl rfl dX4_firstEmptyShelf_21 ?_
        refine lv_if_ne (tgt := 35) hx hb dX4_firstEmptyShelf_24 (by decide) (fun c_36 => ?_) (fun c_36 => ?_)
        · skip
          refine lv_aload_n hx hb dX4_firstEmptyShelf_35 rfl (lv_at hl 1 rfl) ?_
          refine gf_X4_12 hx hb hts hown hK hP 0 rfl rfl dX4_firstEmptyShelf_36 ?_
          refine lv_aload_nN hx hb dX4_firstEmptyShelf_39 rfl (lv_at hl 3 rfl) ?_
          refine cV (a := (Ta 0)) (As := [.null]) (rest := []) (wr := [((Oa 0), .inr (4, [.ref (Ta 0), .ref (Oa 2), .long (Oj 0)])), ((Oa 2), .inl (tc 1, 61, .inr (.inl (Og 2)))), ((Aa 0), .inr (9, [.int (Av 0), .int (Av 1), .int (Av 2), .int (Av 3), .int (Av 4), .int (Av 5), .ref (Aa 1), .ref (Aa 2), .ref (Aa 3), .ref (Aa 4), .ref (Aa 5), .ref (Aa 6), .ref (Aa 7), .ref (Aa 8)])), ((Aa 1), .inl (tc 0, 10, .inl (Af 1))), ((Aa 2), .inl (tc 0, 10, .inl (Af 2))), ((Aa 3), .inl (tc 0, 6, .inl (Af 3))), ((Aa 4), .inl (tc 0, 6, .inl (Af 4))), ((Aa 5), .inl (tc 0, 6, .inl (Af 5))), ((Aa 6), .inl (tc 0, 6, .inl (Af 6))), ((Aa 7), .inl (tc 0, 6, .inl (Af 7))), ((Aa 8), .inl (tc 0, 6, .inl (Af 8)))]) ⟨hx, hb, hml, hown, hts⟩ hK hX hA (cu_X9_goThroughDay_n l D tc sk (Ta 0) (Ta 1) (Ta 2) (Ta 3) (Ta 4) (Ta 5) (Ta 6) (Ta 7) (Ta 8) vy_22 (Av 1) (Av 2) (Av 3) vy_23 vy_24 sv_4 sv_5 vy_25 sv_7 sv_8 vy_26 vy_27 vy_28) k_739 k_829 k_737 k_738 k_98 pl_X9_goThroughDay ⟨Nat.le_of_ble_eq_true rfl, Nat.le_of_ble_eq_true rfl⟩ rfl rfl (va_recv hK hP (ci := 9) (q0 := 2) rfl rfl) hP hD hS [2, 3, 4, 5, 6, 7, 8, 9, 10] [0, 1, 11, 12, 13, 14, 15, 16, 17, 18, 19] rfl rfl rfl rfl rfl (by decide) rfl hl.1 rfl (Nat.le_of_ble_eq_true rfl) dX4_firstEmptyShelf_40 ⟨Nat.le_of_ble_eq_true rfl, Nat.le_of_ble_eq_true rfl⟩ (fun v_37 u_38 H locs hv_39 hP hD hS => ?_)
          obtain ⟨sv_40, sv_41, sv_42, sv_43, sv_44, sv_45, sv_46⟩ := u_38
          obtain ⟨r_47, rfl, he_48⟩ := hv_39
          have he_48 : (True) := he_48
          refine W.eq (g2 := F0 m 43 ls [.int r_47]) rfl ?_
          have hP : va_P D classes [((Oa 0), .inr (4, [.ref (Ta 0), .ref (Oa 2), .long (Oj 0)])), ((Oa 2), .inl (tc 1, 61, .inr (.inl (Og 2)))), ((Aa 0), .inr (9, [.int (Av 0), .int (Av 1), .int (Av 2), .int (Av 3), .int (Av 4), .int (Av 5), .ref (Aa 1), .ref (Aa 2), .ref (Aa 3), .ref (Aa 4), .ref (Aa 5), .ref (Aa 6), .ref (Aa 7), .ref (Aa 8)])), ((Aa 1), .inl (tc 0, 10, .inl (Af 1))), ((Aa 2), .inl (tc 0, 10, .inl (Af 2))), ((Aa 3), .inl (tc 0, 6, .inl (Af 3))), ((Aa 4), .inl (tc 0, 6, .inl (Af 4))), ((Aa 5), .inl (tc 0, 6, .inl (Af 5))), ((Aa 6), .inl (tc 0, 6, .inl (Af 6))), ((Aa 7), .inl (tc 0, 6, .inl (Af 7))), ((Aa 8), .inl (tc 0, 6, .inl (Af 8))), ((Ta 0), .inr (9, [.int sv_40, .int (Av 1), .int (Av 2), .int (Av 3), .int sv_41, .int sv_42, .ref (Ta 1), .ref (Ta 2), .ref (Ta 3), .ref (Ta 4), .ref (Ta 5), .ref (Ta 6), .ref (Ta 7), .ref (Ta 8)])), ((Ta 1), .inl (tc 0, 10, .inl sv_4)), ((Ta 2), .inl (tc 0, 10, .inl sv_5)), ((Ta 3), .inl (tc 0, 6, .inl sv_43)), ((Ta 4), .inl (tc 0, 6, .inl sv_7)), ((Ta 5), .inl (tc 0, 6, .inl sv_8)), ((Ta 6), .inl (tc 0, 6, .inl sv_44)), ((Ta 7), .inl (tc 0, 6, .inl sv_45)), ((Ta 8), .inl (tc 0, 6, .inl sv_46))] H := hP
          have hD : va_D A [((Oa 0), .inr (4, [.ref (Ta 0), .ref (Oa 2), .long (Oj 0)])), ((Oa 2), .inl (tc 1, 61, .inr (.inl (Og 2)))), ((Aa 0), .inr (9, [.int (Av 0), .int (Av 1), .int (Av 2), .int (Av 3), .int (Av 4), .int (Av 5), .ref (Aa 1), .ref (Aa 2), .ref (Aa 3), .ref (Aa 4), .ref (Aa 5), .ref (Aa 6), .ref (Aa 7), .ref (Aa 8)])), ((Aa 1), .inl (tc 0, 10, .inl (Af 1))), ((Aa 2), .inl (tc 0, 10, .inl (Af 2))), ((Aa 3), .inl (tc 0, 6, .inl (Af 3))), ((Aa 4), .inl (tc 0, 6, .inl (Af 4))), ((Aa 5), .inl (tc 0, 6, .inl (Af 5))), ((Aa 6), .inl (tc 0, 6, .inl (Af 6))), ((Aa 7), .inl (tc 0, 6, .inl (Af 7))), ((Aa 8), .inl (tc 0, 6, .inl (Af 8))), ((Ta 0), .inr (9, [.int sv_40, .int (Av 1), .int (Av 2), .int (Av 3), .int sv_41, .int sv_42, .ref (Ta 1), .ref (Ta 2), .ref (Ta 3), .ref (Ta 4), .ref (Ta 5), .ref (Ta 6), .ref (Ta 7), .ref (Ta 8)])), ((Ta 1), .inl (tc 0, 10, .inl sv_4)), ((Ta 2), .inl (tc 0, 10, .inl sv_5)), ((Ta 3), .inl (tc 0, 6, .inl sv_43)), ((Ta 4), .inl (tc 0, 6, .inl sv_7)), ((Ta 5), .inl (tc 0, 6, .inl sv_8)), ((Ta 6), .inl (tc 0, 6, .inl sv_44)), ((Ta 7), .inl (tc 0, 6, .inl sv_45)), ((Ta 8), .inl (tc 0, 6, .inl sv_46))] := hD
          refine lv_pop hx hb dX4_firstEmptyShelf_43 rfl ?_
          obtain ⟨x_49, ex_49⟩ : ∃ y : Int32, y = vy_21 + 1 := ⟨_, rfl⟩
          refine lv_iinc (v := x_49) (lv' := [(3, .int x_49), (0, .ref (Oa 0)), (1, .ref (Aa 0)), (2, .null)]) hx hb dX4_firstEmptyShelf_44 hl (k := 0) rfl (by rw [ex_49]; rfl) (by decide) rfl (fun ls hl => ?_)
          refine lv_goto (tgt := 10) hx hb dX4_firstEmptyShelf_47 (by decide) ?_
          have hb_50 : 0 ≤ (x_49 : Int32).toInt ∧ (200 - (x_49 : Int32).toInt).toNat < n_29 := by
            have z_1 := Int32.lt_iff_toInt_lt.mp (Int32.not_le.mp c_35)
            have z_2 : ¬ (vy_22 : Int32).toInt = (0 : Int32).toInt := fun z => c_36 (Int32.toInt_inj.mp z)
            have y_0 : (0 : Int32).toInt = 0 := by decide
            have y_200 : (200 : Int32).toInt = 200 := by decide
            have y_1 : (1 : Int32).toInt = 1 := by decide
            have t_x_49 : x_49.toInt = (vy_21 : Int32).toInt + (1 : Int32).toInt := by rw [ex_49]; exact add_toInt (by omega) (by omega)
            omega
          exact ih_30 x_49 sv_40 sv_41 sv_42 sv_43 sv_44 sv_45 sv_46 _ _ _ hb_50.1 hb_50.2 (hP.sub [0, 1, 11, 12, 13, 14, 15, 16, 17, 18, 19, 2, 3, 4, 5, 6, 7, 8, 9, 10] rfl) (hD.sub [0, 1, 11, 12, 13, 14, 15, 16, 17, 18, 19, 2, 3, 4, 5, 6, 7, 8, 9, 10] rfl rfl) hS (lv_sub hl [0, 1, 2, 3] rfl)
        · skip
          refine lv_aload_n hx hb dX4_firstEmptyShelf_27 rfl (lv_at hl 1 rfl) ?_
          refine gf_X4_12 hx hb hts hown hK hP 0 rfl rfl dX4_firstEmptyShelf_28 ?_
          refine gf_X4_53 hx hb hts hown hK hP 2 rfl rfl dX4_firstEmptyShelf_31 ?_
          exact retI (v := vy_23) hx hb hr hlk (rfl) hP hD hS (vy_22, vy_23, vy_24, sv_4, sv_5, vy_25, sv_7, sv_8, vy_26, vy_27, vy_28) ⟨_, rfl, trivial⟩ [0, 1, 2, 3, 4, 5, 6, 7, 8, 9, 10, 11, 12, 13, 14, 15, 16, 17, 18, 19] rfl rfl dX4_firstEmptyShelf_34 (Nat.le_of_ble_eq_true rfl) (Nat.le_of_ble_eq_true rfl) rfl
  have h0_51 : 0 ≤ (0 : Int32).toInt := by
    have y_0 : (0 : Int32).toInt = 0 := by decide
    decide
  exact loop_31 _ 0 (Av 0) (Av 4) (Av 5) sv_6 sv_9 sv_10 sv_11 _ _ _ h0_51 (Nat.lt_succ_self _) hP hD hS hl
set_option maxRecDepth 100000 in
theorem cu_X4_firstEmptyShelf_n (l : Launch) (D : va_G) (tc : Nat → ClassId) (sk : (Nat → Nat) × (Nat → Nat)) (Oa_0 : Nat) (Oa_2 : Nat) (Oj_0 : Int64) (Og_2 : Nat → Int64) (Ta_0 : Nat) (Ta_1 : Nat) (Ta_2 : Nat) (Ta_3 : Nat) (Ta_4 : Nat) (Ta_5 : Nat) (Ta_6 : Nat) (Ta_7 : Nat) (Ta_8 : Nat) (Tv_0 : Int32) (Tv_1 : Int32) (Tv_2 : Int32) (Tv_3 : Int32) (Tv_4 : Int32) (Tv_5 : Int32) (Tf_1 : Nat → Int32) (Tf_2 : Nat → Int32) (Tf_3 : Nat → Int32) (Tf_4 : Nat → Int32) (Tf_5 : Nat → Int32) (Tf_6 : Nat → Int32) (Tf_7 : Nat → Int32) (Tf_8 : Nat → Int32) (Aa_0 : Nat) (Aa_1 : Nat) (Aa_2 : Nat) (Aa_3 : Nat) (Aa_4 : Nat) (Aa_5 : Nat) (Aa_6 : Nat) (Aa_7 : Nat) (Aa_8 : Nat) (Av_0 : Int32) (Av_1 : Int32) (Av_2 : Int32) (Av_3 : Int32) (Av_4 : Int32) (Av_5 : Int32) (Af_1 : Nat → Int32) (Af_2 : Nat → Int32) (Af_3 : Nat → Int32) (Af_4 : Nat → Int32) (Af_5 : Nat → Int32) (Af_6 : Nat → Int32) (Af_7 : Nat → Int32) (Af_8 : Nat → Int32)  : Ct l yX4_firstEmptyShelf cX4_firstEmptyShelf 4 (some .int) { frames := 3, cells := 0, slots := 0, locals := 69 } D tc sk [.ref Oa_0, .ref Aa_0, .null] [(Oa_0, .inr (4, [.ref Ta_0, .ref Oa_2, .long Oj_0])), (Oa_2, .inl (tc 1, 61, .inr (.inl Og_2))), (Ta_0, .inr (9, [.int Tv_0, .int Tv_1, .int Tv_2, .int Tv_3, .int Tv_4, .int Tv_5, .ref Ta_1, .ref Ta_2, .ref Ta_3, .ref Ta_4, .ref Ta_5, .ref Ta_6, .ref Ta_7, .ref Ta_8])), (Ta_1, .inl (tc 0, 10, .inl Tf_1)), (Ta_2, .inl (tc 0, 10, .inl Tf_2)), (Ta_3, .inl (tc 0, 6, .inl Tf_3)), (Ta_4, .inl (tc 0, 6, .inl Tf_4)), (Ta_5, .inl (tc 0, 6, .inl Tf_5)), (Ta_6, .inl (tc 0, 6, .inl Tf_6)), (Ta_7, .inl (tc 0, 6, .inl Tf_7)), (Ta_8, .inl (tc 0, 6, .inl Tf_8)), (Aa_0, .inr (9, [.int Av_0, .int Av_1, .int Av_2, .int Av_3, .int Av_4, .int Av_5, .ref Aa_1, .ref Aa_2, .ref Aa_3, .ref Aa_4, .ref Aa_5, .ref Aa_6, .ref Aa_7, .ref Aa_8])), (Aa_1, .inl (tc 0, 10, .inl Af_1)), (Aa_2, .inl (tc 0, 10, .inl Af_2)), (Aa_3, .inl (tc 0, 6, .inl Af_3)), (Aa_4, .inl (tc 0, 6, .inl Af_4)), (Aa_5, .inl (tc 0, 6, .inl Af_5)), (Aa_6, .inl (tc 0, 6, .inl Af_6)), (Aa_7, .inl (tc 0, 6, .inl Af_7)), (Aa_8, .inl (tc 0, 6, .inl Af_8))] (fun (v : Option Value) (u : (Int32) × (Int32) × (Int32) × (Nat → Int32) × (Nat → Int32) × (Nat → Int32) × (Nat → Int32) × (Nat → Int32) × (Nat → Int32) × (Nat → Int32) × (Nat → Int32)) => match u with | (o1, o2, o3, o4, o5, o6, o7, o8, o9, o10, o11) => ∃ r : Int32, v = some (.int r) ∧ (True)) (fun (u : (Int32) × (Int32) × (Int32) × (Nat → Int32) × (Nat → Int32) × (Nat → Int32) × (Nat → Int32) × (Nat → Int32) × (Nat → Int32) × (Nat → Int32) × (Nat → Int32)) => match u with | (o1, o2, o3, o4, o5, o6, o7, o8, o9, o10, o11) => [(Oa_0, .inr (4, [.ref Ta_0, .ref Oa_2, .long Oj_0])), (Oa_2, .inl (tc 1, 61, .inr (.inl Og_2))), (Ta_0, .inr (9, [.int o1, .int Av_1, .int Av_2, .int Av_3, .int o2, .int o3, .ref Ta_1, .ref Ta_2, .ref Ta_3, .ref Ta_4, .ref Ta_5, .ref Ta_6, .ref Ta_7, .ref Ta_8])), (Ta_1, .inl (tc 0, 10, .inl o4)), (Ta_2, .inl (tc 0, 10, .inl o5)), (Ta_3, .inl (tc 0, 6, .inl o6)), (Ta_4, .inl (tc 0, 6, .inl o7)), (Ta_5, .inl (tc 0, 6, .inl o8)), (Ta_6, .inl (tc 0, 6, .inl o9)), (Ta_7, .inl (tc 0, 6, .inl o10)), (Ta_8, .inl (tc 0, 6, .inl o11)), (Aa_0, .inr (9, [.int Av_0, .int Av_1, .int Av_2, .int Av_3, .int Av_4, .int Av_5, .ref Aa_1, .ref Aa_2, .ref Aa_3, .ref Aa_4, .ref Aa_5, .ref Aa_6, .ref Aa_7, .ref Aa_8])), (Aa_1, .inl (tc 0, 10, .inl Af_1)), (Aa_2, .inl (tc 0, 10, .inl Af_2)), (Aa_3, .inl (tc 0, 6, .inl Af_3)), (Aa_4, .inl (tc 0, 6, .inl Af_4)), (Aa_5, .inl (tc 0, 6, .inl Af_5)), (Aa_6, .inl (tc 0, 6, .inl Af_6)), (Aa_7, .inl (tc 0, 6, .inl Af_7)), (Aa_8, .inl (tc 0, 6, .inl Af_8))]) 0 0 :=
  ct_X4_firstEmptyShelf_n l D tc sk (fun k => ([Oa_0, 0, Oa_2] : List (Nat)).getD k 0) (fun k => ([Oj_0] : List (Int64)).getD k 0) (fun k => ([(fun _ => 0), (fun _ => 0), Og_2] : List (Nat → Int64)).getD k (fun _ => 0)) (fun k => ([Ta_0, Ta_1, Ta_2, Ta_3, Ta_4, Ta_5, Ta_6, Ta_7, Ta_8] : List (Nat)).getD k 0) (fun k => ([Tv_0, Tv_1, Tv_2, Tv_3, Tv_4, Tv_5] : List (Int32)).getD k 0) (fun k => ([(fun _ => 0), Tf_1, Tf_2, Tf_3, Tf_4, Tf_5, Tf_6, Tf_7, Tf_8] : List (Nat → Int32)).getD k (fun _ => 0)) (fun k => ([Aa_0, Aa_1, Aa_2, Aa_3, Aa_4, Aa_5, Aa_6, Aa_7, Aa_8] : List (Nat)).getD k 0) (fun k => ([Av_0, Av_1, Av_2, Av_3, Av_4, Av_5] : List (Int32)).getD k 0) (fun k => ([(fun _ => 0), Af_1, Af_2, Af_3, Af_4, Af_5, Af_6, Af_7, Af_8] : List (Nat → Int32)).getD k (fun _ => 0)) 
set_option maxHeartbeats 4000000 in
set_option maxRecDepth 100000 in
theorem ct_X4_weatherFraction_n (l : Launch) (D : va_G) (tc : Nat → ClassId) (sk : (Nat → Nat) × (Nat → Nat)) (Oa : Nat → Nat) (Oj : Nat → Int64) (Og : Nat → Nat → Int64) (Ta : Nat → Nat) (Tv : Nat → Int32) (Tf : Nat → Nat → Int32) (Aa : Nat → Nat) (Av : Nat → Int32) (Af : Nat → Nat → Int32) (x1 : Int32) (x2 : Int32)  : Ct l yX4_weatherFraction cX4_weatherFraction 10 (some .int) { frames := 3, cells := 0, slots := 0, locals := 69 } D tc sk [.ref (Oa 0), .ref (Aa 0), .null, .int x1, .int x2] [((Oa 0), .inr (4, [.ref (Ta 0), .ref (Oa 2), .long (Oj 0)])), ((Oa 2), .inl (tc 1, 61, .inr (.inl (Og 2)))), ((Ta 0), .inr (9, [.int (Tv 0), .int (Tv 1), .int (Tv 2), .int (Tv 3), .int (Tv 4), .int (Tv 5), .ref (Ta 1), .ref (Ta 2), .ref (Ta 3), .ref (Ta 4), .ref (Ta 5), .ref (Ta 6), .ref (Ta 7), .ref (Ta 8)])), ((Ta 1), .inl (tc 0, 10, .inl (Tf 1))), ((Ta 2), .inl (tc 0, 10, .inl (Tf 2))), ((Ta 3), .inl (tc 0, 6, .inl (Tf 3))), ((Ta 4), .inl (tc 0, 6, .inl (Tf 4))), ((Ta 5), .inl (tc 0, 6, .inl (Tf 5))), ((Ta 6), .inl (tc 0, 6, .inl (Tf 6))), ((Ta 7), .inl (tc 0, 6, .inl (Tf 7))), ((Ta 8), .inl (tc 0, 6, .inl (Tf 8))), ((Aa 0), .inr (9, [.int (Av 0), .int (Av 1), .int (Av 2), .int (Av 3), .int (Av 4), .int (Av 5), .ref (Aa 1), .ref (Aa 2), .ref (Aa 3), .ref (Aa 4), .ref (Aa 5), .ref (Aa 6), .ref (Aa 7), .ref (Aa 8)])), ((Aa 1), .inl (tc 0, 10, .inl (Af 1))), ((Aa 2), .inl (tc 0, 10, .inl (Af 2))), ((Aa 3), .inl (tc 0, 6, .inl (Af 3))), ((Aa 4), .inl (tc 0, 6, .inl (Af 4))), ((Aa 5), .inl (tc 0, 6, .inl (Af 5))), ((Aa 6), .inl (tc 0, 6, .inl (Af 6))), ((Aa 7), .inl (tc 0, 6, .inl (Af 7))), ((Aa 8), .inl (tc 0, 6, .inl (Af 8)))] (fun (v : Option Value) (u : (Int32) × (Int32) × (Int32) × (Nat → Int32) × (Nat → Int32) × (Nat → Int32) × (Nat → Int32) × (Nat → Int32) × (Nat → Int32) × (Nat → Int32) × (Nat → Int32)) => match u with | (o1, o2, o3, o4, o5, o6, o7, o8, o9, o10, o11) => ∃ r : Int32, v = some (.int r) ∧ (True)) (fun (u : (Int32) × (Int32) × (Int32) × (Nat → Int32) × (Nat → Int32) × (Nat → Int32) × (Nat → Int32) × (Nat → Int32) × (Nat → Int32) × (Nat → Int32) × (Nat → Int32)) => match u with | (o1, o2, o3, o4, o5, o6, o7, o8, o9, o10, o11) => [((Oa 0), .inr (4, [.ref (Ta 0), .ref (Oa 2), .long (Oj 0)])), ((Oa 2), .inl (tc 1, 61, .inr (.inl (Og 2)))), ((Ta 0), .inr (9, [.int o1, .int (Av 1), .int (Av 2), .int (Av 3), .int o2, .int o3, .ref (Ta 1), .ref (Ta 2), .ref (Ta 3), .ref (Ta 4), .ref (Ta 5), .ref (Ta 6), .ref (Ta 7), .ref (Ta 8)])), ((Ta 1), .inl (tc 0, 10, .inl o4)), ((Ta 2), .inl (tc 0, 10, .inl o5)), ((Ta 3), .inl (tc 0, 6, .inl o6)), ((Ta 4), .inl (tc 0, 6, .inl o7)), ((Ta 5), .inl (tc 0, 6, .inl o8)), ((Ta 6), .inl (tc 0, 6, .inl o9)), ((Ta 7), .inl (tc 0, 6, .inl o10)), ((Ta 8), .inl (tc 0, 6, .inl o11)), ((Aa 0), .inr (9, [.int (Av 0), .int (Av 1), .int (Av 2), .int (Av 3), .int (Av 4), .int (Av 5), .ref (Aa 1), .ref (Aa 2), .ref (Aa 3), .ref (Aa 4), .ref (Aa 5), .ref (Aa 6), .ref (Aa 7), .ref (Aa 8)])), ((Aa 1), .inl (tc 0, 10, .inl (Af 1))), ((Aa 2), .inl (tc 0, 10, .inl (Af 2))), ((Aa 3), .inl (tc 0, 6, .inl (Af 3))), ((Aa 4), .inl (tc 0, 6, .inl (Af 4))), ((Aa 5), .inl (tc 0, 6, .inl (Af 5))), ((Aa 6), .inl (tc 0, 6, .inl (Af 6))), ((Aa 7), .inl (tc 0, 6, .inl (Af 7))), ((Aa 8), .inl (tc 0, 6, .inl (Af 8)))]) 0 0 := by
  refine Ct.start (by decide) (Nat.le_of_ble_eq_true rfl) (fun p e s m below meth c A ls hx hb hr hlk hin hml hown hts hK hX hP hD hA hl hS => ?_)
  have hl : lv_has ls 10 [(0, .ref (Oa 0)), (1, .ref (Aa 0)), (2, .null), (3, .int x1), (4, .int x2)] := hl
  refine lv_aload_n hx hb dX4_weatherFraction_0 rfl (lv_at hl 0 rfl) ?_
  refine gf_X4_12 hx hb hts hown hK hP 0 rfl rfl dX4_weatherFraction_1 ?_
  refine lv_aload_n hx hb dX4_weatherFraction_4 rfl (lv_at hl 1 rfl) ?_
  refine cV (a := (Ta 0)) (As := [.ref (Aa 0)]) (rest := []) (wr := [((Oa 0), .inr (4, [.ref (Ta 0), .ref (Oa 2), .long (Oj 0)])), ((Oa 2), .inl (tc 1, 61, .inr (.inl (Og 2))))]) ⟨hx, hb, hml, hown, hts⟩ hK hX hA (cu_X9_copyFrom l D tc sk (Ta 0) (Ta 1) (Ta 2) (Ta 3) (Ta 4) (Ta 5) (Ta 6) (Ta 7) (Ta 8) (Tv 0) (Tv 1) (Tv 2) (Tv 3) (Tv 4) (Tv 5) (Tf 1) (Tf 2) (Tf 3) (Tf 4) (Tf 5) (Tf 6) (Tf 7) (Tf 8) (Aa 0) (Aa 1) (Aa 2) (Aa 3) (Aa 4) (Aa 5) (Aa 6) (Aa 7) (Aa 8) (Av 0) (Av 1) (Av 2) (Av 3) (Av 4) (Av 5) (Af 1) (Af 2) (Af 3) (Af 4) (Af 5) (Af 6) (Af 7) (Af 8)) k_599 k_814 k_597 k_598 k_98 pl_X9_copyFrom ⟨Nat.le_of_ble_eq_true rfl, Nat.le_of_ble_eq_true rfl⟩ rfl rfl (va_recv hK hP (ci := 9) (q0 := 2) rfl rfl) hP hD hS [2, 3, 4, 5, 6, 7, 8, 9, 10, 11, 12, 13, 14, 15, 16, 17, 18, 19] [0, 1] rfl rfl rfl rfl rfl (by decide) rfl hl.1 rfl (Nat.le_of_ble_eq_true rfl) dX4_weatherFraction_5 ⟨Nat.le_of_ble_eq_true rfl, Nat.le_of_ble_eq_true rfl⟩ (fun v_1 u_2 H locs hv_3 hP hD hS => ?_)
  obtain ⟨sv_4, sv_5, sv_6, sv_7, sv_8, sv_9, sv_10, sv_11⟩ := u_2
  obtain rfl : v_1 = none := hv_3
  refine W.eq (g2 := F0 m 8 ls []) rfl ?_
  have hP : va_P D classes [((Oa 0), .inr (4, [.ref (Ta 0), .ref (Oa 2), .long (Oj 0)])), ((Oa 2), .inl (tc 1, 61, .inr (.inl (Og 2)))), ((Ta 0), .inr (9, [.int (Av 0), .int (Av 1), .int (Av 2), .int (Av 3), .int (Av 4), .int (Av 5), .ref (Ta 1), .ref (Ta 2), .ref (Ta 3), .ref (Ta 4), .ref (Ta 5), .ref (Ta 6), .ref (Ta 7), .ref (Ta 8)])), ((Ta 1), .inl (tc 0, 10, .inl sv_4)), ((Ta 2), .inl (tc 0, 10, .inl sv_5)), ((Ta 3), .inl (tc 0, 6, .inl sv_6)), ((Ta 4), .inl (tc 0, 6, .inl sv_7)), ((Ta 5), .inl (tc 0, 6, .inl sv_8)), ((Ta 6), .inl (tc 0, 6, .inl sv_9)), ((Ta 7), .inl (tc 0, 6, .inl sv_10)), ((Ta 8), .inl (tc 0, 6, .inl sv_11)), ((Aa 0), .inr (9, [.int (Av 0), .int (Av 1), .int (Av 2), .int (Av 3), .int (Av 4), .int (Av 5), .ref (Aa 1), .ref (Aa 2), .ref (Aa 3), .ref (Aa 4), .ref (Aa 5), .ref (Aa 6), .ref (Aa 7), .ref (Aa 8)])), ((Aa 1), .inl (tc 0, 10, .inl (Af 1))), ((Aa 2), .inl (tc 0, 10, .inl (Af 2))), ((Aa 3), .inl (tc 0, 6, .inl (Af 3))), ((Aa 4), .inl (tc 0, 6, .inl (Af 4))), ((Aa 5), .inl (tc 0, 6, .inl (Af 5))), ((Aa 6), .inl (tc 0, 6, .inl (Af 6))), ((Aa 7), .inl (tc 0, 6, .inl (Af 7))), ((Aa 8), .inl (tc 0, 6, .inl (Af 8)))] H := hP
  have hD : va_D A [((Oa 0), .inr (4, [.ref (Ta 0), .ref (Oa 2), .long (Oj 0)])), ((Oa 2), .inl (tc 1, 61, .inr (.inl (Og 2)))), ((Ta 0), .inr (9, [.int (Av 0), .int (Av 1), .int (Av 2), .int (Av 3), .int (Av 4), .int (Av 5), .ref (Ta 1), .ref (Ta 2), .ref (Ta 3), .ref (Ta 4), .ref (Ta 5), .ref (Ta 6), .ref (Ta 7), .ref (Ta 8)])), ((Ta 1), .inl (tc 0, 10, .inl sv_4)), ((Ta 2), .inl (tc 0, 10, .inl sv_5)), ((Ta 3), .inl (tc 0, 6, .inl sv_6)), ((Ta 4), .inl (tc 0, 6, .inl sv_7)), ((Ta 5), .inl (tc 0, 6, .inl sv_8)), ((Ta 6), .inl (tc 0, 6, .inl sv_9)), ((Ta 7), .inl (tc 0, 6, .inl sv_10)), ((Ta 8), .inl (tc 0, 6, .inl sv_11)), ((Aa 0), .inr (9, [.int (Av 0), .int (Av 1), .int (Av 2), .int (Av 3), .int (Av 4), .int (Av 5), .ref (Aa 1), .ref (Aa 2), .ref (Aa 3), .ref (Aa 4), .ref (Aa 5), .ref (Aa 6), .ref (Aa 7), .ref (Aa 8)])), ((Aa 1), .inl (tc 0, 10, .inl (Af 1))), ((Aa 2), .inl (tc 0, 10, .inl (Af 2))), ((Aa 3), .inl (tc 0, 6, .inl (Af 3))), ((Aa 4), .inl (tc 0, 6, .inl (Af 4))), ((Aa 5), .inl (tc 0, 6, .inl (Af 5))), ((Aa 6), .inl (tc 0, 6, .inl (Af 6))), ((Aa 7), .inl (tc 0, 6, .inl (Af 7))), ((Aa 8), .inl (tc 0, 6, .inl (Af 8)))] := hD
  refine lv_iconst (v := 0) hx hb dX4_weatherFraction_8 (by decide) ?_
  refine lv_istore (lv' := [(5, .int 0), (0, .ref (Oa 0)), (1, .ref (Aa 0)), (2, .null), (3, .int x1), (4, .int x2)]) hx hb dX4_weatherFraction_9 hl (by decide) rfl (fun ls hl => ?_)
  refine lv_iconst (v := 0) hx hb dX4_weatherFraction_11 (by decide) ?_
  refine lv_istore (lv' := [(6, .int 0), (5, .int 0), (0, .ref (Oa 0)), (1, .ref (Aa 0)), (2, .null), (3, .int x1), (4, .int x2)]) hx hb dX4_weatherFraction_12 hl (by decide) rfl (fun ls hl => ?_)
  refine lv_iconst (v := 0) hx hb dX4_weatherFraction_14 (by decide) ?_
  refine lv_istore (lv' := [(7, .int 0), (6, .int 0), (5, .int 0), (0, .ref (Oa 0)), (1, .ref (Aa 0)), (2, .null), (3, .int x1), (4, .int x2)]) hx hb dX4_weatherFraction_15 hl (by decide) rfl (fun ls hl => ?_)
  have hmx_36 := i32_le x1
  have loop_35 : ∀ (n_33 : Nat) (vy_23 : Int32) (vy_24 : Int32) (vy_25 : Int32) (vy_26 : Int32) (vy_27 : Int32) (vy_28 : Nat → Int32) (vy_29 : Nat → Int32) (vy_30 : Nat → Int32) (vy_31 : Nat → Int32) (vy_32 : Int32) (H : Heap) (locs : List Loc) (ls : Array Slot), 0 ≤ (vy_23 : Int32).toInt → (x1.toInt - (vy_23 : Int32).toInt).toNat < n_33 → va_P D classes [((Oa 0), .inr (4, [.ref (Ta 0), .ref (Oa 2), .long (Oj 0)])), ((Oa 2), .inl (tc 1, 61, .inr (.inl (Og 2)))), ((Ta 0), .inr (9, [.int vy_25, .int (Av 1), .int (Av 2), .int (Av 3), .int vy_26, .int vy_27, .ref (Ta 1), .ref (Ta 2), .ref (Ta 3), .ref (Ta 4), .ref (Ta 5), .ref (Ta 6), .ref (Ta 7), .ref (Ta 8)])), ((Ta 1), .inl (tc 0, 10, .inl sv_4)), ((Ta 2), .inl (tc 0, 10, .inl sv_5)), ((Ta 3), .inl (tc 0, 6, .inl vy_28)), ((Ta 4), .inl (tc 0, 6, .inl sv_7)), ((Ta 5), .inl (tc 0, 6, .inl sv_8)), ((Ta 6), .inl (tc 0, 6, .inl vy_29)), ((Ta 7), .inl (tc 0, 6, .inl vy_30)), ((Ta 8), .inl (tc 0, 6, .inl vy_31)), ((Aa 0), .inr (9, [.int (Av 0), .int (Av 1), .int (Av 2), .int (Av 3), .int (Av 4), .int (Av 5), .ref (Aa 1), .ref (Aa 2), .ref (Aa 3), .ref (Aa 4), .ref (Aa 5), .ref (Aa 6), .ref (Aa 7), .ref (Aa 8)])), ((Aa 1), .inl (tc 0, 10, .inl (Af 1))), ((Aa 2), .inl (tc 0, 10, .inl (Af 2))), ((Aa 3), .inl (tc 0, 6, .inl (Af 3))), ((Aa 4), .inl (tc 0, 6, .inl (Af 4))), ((Aa 5), .inl (tc 0, 6, .inl (Af 5))), ((Aa 6), .inl (tc 0, 6, .inl (Af 6))), ((Aa 7), .inl (tc 0, 6, .inl (Af 7))), ((Aa 8), .inl (tc 0, 6, .inl (Af 8)))] H → va_D A [((Oa 0), .inr (4, [.ref (Ta 0), .ref (Oa 2), .long (Oj 0)])), ((Oa 2), .inl (tc 1, 61, .inr (.inl (Og 2)))), ((Ta 0), .inr (9, [.int vy_25, .int (Av 1), .int (Av 2), .int (Av 3), .int vy_26, .int vy_27, .ref (Ta 1), .ref (Ta 2), .ref (Ta 3), .ref (Ta 4), .ref (Ta 5), .ref (Ta 6), .ref (Ta 7), .ref (Ta 8)])), ((Ta 1), .inl (tc 0, 10, .inl sv_4)), ((Ta 2), .inl (tc 0, 10, .inl sv_5)), ((Ta 3), .inl (tc 0, 6, .inl vy_28)), ((Ta 4), .inl (tc 0, 6, .inl sv_7)), ((Ta 5), .inl (tc 0, 6, .inl sv_8)), ((Ta 6), .inl (tc 0, 6, .inl vy_29)), ((Ta 7), .inl (tc 0, 6, .inl vy_30)), ((Ta 8), .inl (tc 0, 6, .inl vy_31)), ((Aa 0), .inr (9, [.int (Av 0), .int (Av 1), .int (Av 2), .int (Av 3), .int (Av 4), .int (Av 5), .ref (Aa 1), .ref (Aa 2), .ref (Aa 3), .ref (Aa 4), .ref (Aa 5), .ref (Aa 6), .ref (Aa 7), .ref (Aa 8)])), ((Aa 1), .inl (tc 0, 10, .inl (Af 1))), ((Aa 2), .inl (tc 0, 10, .inl (Af 2))), ((Aa 3), .inl (tc 0, 6, .inl (Af 3))), ((Aa 4), .inl (tc 0, 6, .inl (Af 4))), ((Aa 5), .inl (tc 0, 6, .inl (Af 5))), ((Aa 6), .inl (tc 0, 6, .inl (Af 6))), ((Aa 7), .inl (tc 0, 6, .inl (Af 7))), ((Aa 8), .inl (tc 0, 6, .inl (Af 8)))] → va_S A s.heap H locs → lv_has ls 10 [(7, .int vy_23), (6, .int vy_32), (5, .int vy_24), (0, .ref (Oa 0)), (1, .ref (Aa 0)), (2, .null), (3, .int x1), (4, .int x2)] → W p l e ({ frames := 3, cells := 0, slots := 0, locals := 69 }) s m ([.ref (Oa 0), .ref (Aa 0), .null, .int x1, .int x2].toArray) below meth c H locs 0 0 (MQ below (QW (fun (v : Option Value) (u : (Int32) × (Int32) × (Int32) × (Nat → Int32) × (Nat → Int32) × (Nat → Int32) × (Nat → Int32) × (Nat → Int32) × (Nat → Int32) × (Nat → Int32) × (Nat → Int32)) => match u with | (o1, o2, o3, o4, o5, o6, o7, o8, o9, o10, o11) => ∃ r : Int32, v = some (.int r) ∧ (True)) (BW D (fun (u : (Int32) × (Int32) × (Int32) × (Nat → Int32) × (Nat → Int32) × (Nat → Int32) × (Nat → Int32) × (Nat → Int32) × (Nat → Int32) × (Nat → Int32) × (Nat → Int32)) => match u with | (o1, o2, o3, o4, o5, o6, o7, o8, o9, o10, o11) => [((Oa 0), .inr (4, [.ref (Ta 0), .ref (Oa 2), .long (Oj 0)])), ((Oa 2), .inl (tc 1, 61, .inr (.inl (Og 2)))), ((Ta 0), .inr (9, [.int o1, .int (Av 1), .int (Av 2), .int (Av 3), .int o2, .int o3, .ref (Ta 1), .ref (Ta 2), .ref (Ta 3), .ref (Ta 4), .ref (Ta 5), .ref (Ta 6), .ref (Ta 7), .ref (Ta 8)])), ((Ta 1), .inl (tc 0, 10, .inl o4)), ((Ta 2), .inl (tc 0, 10, .inl o5)), ((Ta 3), .inl (tc 0, 6, .inl o6)), ((Ta 4), .inl (tc 0, 6, .inl o7)), ((Ta 5), .inl (tc 0, 6, .inl o8)), ((Ta 6), .inl (tc 0, 6, .inl o9)), ((Ta 7), .inl (tc 0, 6, .inl o10)), ((Ta 8), .inl (tc 0, 6, .inl o11)), ((Aa 0), .inr (9, [.int (Av 0), .int (Av 1), .int (Av 2), .int (Av 3), .int (Av 4), .int (Av 5), .ref (Aa 1), .ref (Aa 2), .ref (Aa 3), .ref (Aa 4), .ref (Aa 5), .ref (Aa 6), .ref (Aa 7), .ref (Aa 8)])), ((Aa 1), .inl (tc 0, 10, .inl (Af 1))), ((Aa 2), .inl (tc 0, 10, .inl (Af 2))), ((Aa 3), .inl (tc 0, 6, .inl (Af 3))), ((Aa 4), .inl (tc 0, 6, .inl (Af 4))), ((Aa 5), .inl (tc 0, 6, .inl (Af 5))), ((Aa 6), .inl (tc 0, 6, .inl (Af 6))), ((Aa 7), .inl (tc 0, 6, .inl (Af 7))), ((Aa 8), .inl (tc 0, 6, .inl (Af 8)))]) A) A) ([.ref (Oa 0), .ref (Aa 0), .null, .int x1, .int x2].toArray) s 0 0 A) (F0 m 17 ls []) := by
    intro n_33
    induction n_33 with
    | zero =>
      intro vy_23 vy_24 vy_25 vy_26 vy_27 vy_28 vy_29 vy_30 vy_31 vy_32 H locs ls h1 h2
      exact absurd h2 (Nat.not_lt_zero _)
    | succ n_33 ih_34 =>
      intro vy_23 vy_24 vy_25 vy_26 vy_27 vy_28 vy_29 vy_30 vy_31 vy_32 H locs ls hi_38 hn_39 hP hD hS hl
      refine lv_iload hx hb dX4_weatherFraction_17 (lv_at hl 0 rfl) ?_
      refine lv_iload_n hx hb dX4_weatherFraction_19 rfl (lv_at hl 6 rfl) ?_
      refine lv_icmp_ge (tgt := 90) hx hb dX4_weatherFraction_20 (by decide) (fun c_40 => ?_) (fun c_40 => ?_)
      · skip
        refine lv_iload hx hb dX4_weatherFraction_90 (lv_at hl 2 rfl) ?_
        refine lv_if_gt (tgt := 98) hx hb dX4_weatherFraction_92 (by decide) (fun c_41 => ?_) (fun c_41 => ?_)
        · skip
          refine lv_iload hx hb dX4_weatherFraction_98 (lv_at hl 2 rfl) ?_
          refine lv_iload hx hb dX4_weatherFraction_100 (lv_at hl 1 rfl) ?_
          refine cS (As := [.int vy_24, .int vy_32]) (rest := []) (wr := [((Oa 0), .inr (4, [.ref (Ta 0), .ref (Oa 2), .long (Oj 0)])), ((Oa 2), .inl (tc 1, 61, .inr (.inl (Og 2)))), ((Ta 0), .inr (9, [.int vy_25, .int (Av 1), .int (Av 2), .int (Av 3), .int vy_26, .int vy_27, .ref (Ta 1), .ref (Ta 2), .ref (Ta 3), .ref (Ta 4), .ref (Ta 5), .ref (Ta 6), .ref (Ta 7), .ref (Ta 8)])), ((Ta 1), .inl (tc 0, 10, .inl sv_4)), ((Ta 2), .inl (tc 0, 10, .inl sv_5)), ((Ta 3), .inl (tc 0, 6, .inl vy_28)), ((Ta 4), .inl (tc 0, 6, .inl sv_7)), ((Ta 5), .inl (tc 0, 6, .inl sv_8)), ((Ta 6), .inl (tc 0, 6, .inl vy_29)), ((Ta 7), .inl (tc 0, 6, .inl vy_30)), ((Ta 8), .inl (tc 0, 6, .inl vy_31)), ((Aa 0), .inr (9, [.int (Av 0), .int (Av 1), .int (Av 2), .int (Av 3), .int (Av 4), .int (Av 5), .ref (Aa 1), .ref (Aa 2), .ref (Aa 3), .ref (Aa 4), .ref (Aa 5), .ref (Aa 6), .ref (Aa 7), .ref (Aa 8)])), ((Aa 1), .inl (tc 0, 10, .inl (Af 1))), ((Aa 2), .inl (tc 0, 10, .inl (Af 2))), ((Aa 3), .inl (tc 0, 6, .inl (Af 3))), ((Aa 4), .inl (tc 0, 6, .inl (Af 4))), ((Aa 5), .inl (tc 0, 6, .inl (Af 5))), ((Aa 6), .inl (tc 0, 6, .inl (Af 6))), ((Aa 7), .inl (tc 0, 6, .inl (Af 7))), ((Aa 8), .inl (tc 0, 6, .inl (Af 8)))]) ⟨hx, hb, hml, hown, hts⟩ hK hX hA (ct_X4_commonDivisor l D tc sk vy_24 vy_32) k_855 k_853 k_854 k_103 pl_X4_commonDivisor ⟨Nat.le_of_ble_eq_true rfl, Nat.le_of_ble_eq_true rfl⟩ rfl rfl  hP hD hS [] [0, 1, 2, 3, 4, 5, 6, 7, 8, 9, 10, 11, 12, 13, 14, 15, 16, 17, 18, 19] rfl rfl rfl rfl rfl (by decide) rfl hl.1 rfl (Nat.le_of_ble_eq_true rfl) dX4_weatherFraction_102 ⟨Nat.le_of_ble_eq_true rfl, Nat.le_of_ble_eq_true rfl⟩ (fun v_42 u_43 H locs hv_44 hP hD hS => ?_)
          obtain ⟨r_45, rfl, he_46⟩ := hv_44
          have he_46 : (True) := he_46
          refine W.eq (g2 := F0 m 105 ls [.int r_45]) rfl ?_
          have hP : va_P D classes [((Oa 0), .inr (4, [.ref (Ta 0), .ref (Oa 2), .long (Oj 0)])), ((Oa 2), .inl (tc 1, 61, .inr (.inl (Og 2)))), ((Ta 0), .inr (9, [.int vy_25, .int (Av 1), .int (Av 2), .int (Av 3), .int vy_26, .int vy_27, .ref (Ta 1), .ref (Ta 2), .ref (Ta 3), .ref (Ta 4), .ref (Ta 5), .ref (Ta 6), .ref (Ta 7), .ref (Ta 8)])), ((Ta 1), .inl (tc 0, 10, .inl sv_4)), ((Ta 2), .inl (tc 0, 10, .inl sv_5)), ((Ta 3), .inl (tc 0, 6, .inl vy_28)), ((Ta 4), .inl (tc 0, 6, .inl sv_7)), ((Ta 5), .inl (tc 0, 6, .inl sv_8)), ((Ta 6), .inl (tc 0, 6, .inl vy_29)), ((Ta 7), .inl (tc 0, 6, .inl vy_30)), ((Ta 8), .inl (tc 0, 6, .inl vy_31)), ((Aa 0), .inr (9, [.int (Av 0), .int (Av 1), .int (Av 2), .int (Av 3), .int (Av 4), .int (Av 5), .ref (Aa 1), .ref (Aa 2), .ref (Aa 3), .ref (Aa 4), .ref (Aa 5), .ref (Aa 6), .ref (Aa 7), .ref (Aa 8)])), ((Aa 1), .inl (tc 0, 10, .inl (Af 1))), ((Aa 2), .inl (tc 0, 10, .inl (Af 2))), ((Aa 3), .inl (tc 0, 6, .inl (Af 3))), ((Aa 4), .inl (tc 0, 6, .inl (Af 4))), ((Aa 5), .inl (tc 0, 6, .inl (Af 5))), ((Aa 6), .inl (tc 0, 6, .inl (Af 6))), ((Aa 7), .inl (tc 0, 6, .inl (Af 7))), ((Aa 8), .inl (tc 0, 6, .inl (Af 8)))] H := hP
          have hD : va_D A [((Oa 0), .inr (4, [.ref (Ta 0), .ref (Oa 2), .long (Oj 0)])), ((Oa 2), .inl (tc 1, 61, .inr (.inl (Og 2)))), ((Ta 0), .inr (9, [.int vy_25, .int (Av 1), .int (Av 2), .int (Av 3), .int vy_26, .int vy_27, .ref (Ta 1), .ref (Ta 2), .ref (Ta 3), .ref (Ta 4), .ref (Ta 5), .ref (Ta 6), .ref (Ta 7), .ref (Ta 8)])), ((Ta 1), .inl (tc 0, 10, .inl sv_4)), ((Ta 2), .inl (tc 0, 10, .inl sv_5)), ((Ta 3), .inl (tc 0, 6, .inl vy_28)), ((Ta 4), .inl (tc 0, 6, .inl sv_7)), ((Ta 5), .inl (tc 0, 6, .inl sv_8)), ((Ta 6), .inl (tc 0, 6, .inl vy_29)), ((Ta 7), .inl (tc 0, 6, .inl vy_30)), ((Ta 8), .inl (tc 0, 6, .inl vy_31)), ((Aa 0), .inr (9, [.int (Av 0), .int (Av 1), .int (Av 2), .int (Av 3), .int (Av 4), .int (Av 5), .ref (Aa 1), .ref (Aa 2), .ref (Aa 3), .ref (Aa 4), .ref (Aa 5), .ref (Aa 6), .ref (Aa 7), .ref (Aa 8)])), ((Aa 1), .inl (tc 0, 10, .inl (Af 1))), ((Aa 2), .inl (tc 0, 10, .inl (Af 2))), ((Aa 3), .inl (tc 0, 6, .inl (Af 3))), ((Aa 4), .inl (tc 0, 6, .inl (Af 4))), ((Aa 5), .inl (tc 0, 6, .inl (Af 5))), ((Aa 6), .inl (tc 0, 6, .inl (Af 6))), ((Aa 7), .inl (tc 0, 6, .inl (Af 7))), ((Aa 8), .inl (tc 0, 6, .inl (Af 8)))] := hD
          refine lv_istore (lv' := [(7, .int r_45), (6, .int vy_32), (5, .int vy_24), (0, .ref (Oa 0)), (1, .ref (Aa 0)), (2, .null), (3, .int x1), (4, .int x2)]) hx hb dX4_weatherFraction_105 hl (by decide) rfl (fun ls hl => ?_)
          refine lv_iload hx hb dX4_weatherFraction_107 (lv_at hl 7 rfl) ?_
          refine lv_if_ne (tgt := 117) hx hb dX4_weatherFraction_109 (by decide) (fun c_47 => ?_) (fun c_47 => ?_)
          · skip
            refine lv_iload hx hb dX4_weatherFraction_117 (lv_at hl 2 rfl) ?_
            refine lv_iconst (v := 1) hx hb dX4_weatherFraction_119 (by decide) ?_
            refine lv_iload hx hb dX4_weatherFraction_120 (lv_at hl 0 rfl) ?_
            refine va_mmax hx hb (hml.trans hl.1.symm) hown (hts _ k_856) (hts _ k_774) (hts _ k_114) (hts _ k_775) (Nat.le_of_ble_eq_true rfl) (Nat.le_of_ble_eq_true rfl) (Nat.le_of_ble_eq_true rfl) (Nat.le_of_ble_eq_true rfl) dX4_weatherFraction_122 ?_
            refine lv_topi (fun x_48 ex_48 => ?_)
            have mx_48 := imax_f ex_48
            rw [show (1 : Int32).toInt = 1 by decide] at mx_48
            have hz_49 : ¬ x_48 = 0 := by
              intro z
              have zz : (x_48 : Int32).toInt = 0 := by rw [z]; decide
              have z_1 := Int32.le_iff_toInt_le.mp c_40
              have z_2 := Int32.lt_iff_toInt_lt.mp c_41
              have z_3 : ¬ (x2 : Int32).toInt = (0 : Int32).toInt := fun z => c_47 (Int32.toInt_inj.mp z)
              have y_0 : (0 : Int32).toInt = 0 := by decide
              omega
            refine lv_idiv hx hb dX4_weatherFraction_125 hz_49 ?_
            refine lv_topi (fun x_50 ex_50 => ?_)
            exact retI (v := x_50) hx hb hr hlk (rfl) hP hD hS (vy_25, vy_26, vy_27, sv_4, sv_5, vy_28, sv_7, sv_8, vy_29, vy_30, vy_31) ⟨_, rfl, trivial⟩ [0, 1, 2, 3, 4, 5, 6, 7, 8, 9, 10, 11, 12, 13, 14, 15, 16, 17, 18, 19] rfl rfl dX4_weatherFraction_126 (Nat.le_of_ble_eq_true rfl) (Nat.le_of_ble_eq_true rfl) rfl
          · skip
            refine lv_iload hx hb dX4_weatherFraction_112 (lv_at hl 1 rfl) ?_
            refine lv_goto (tgt := 119) hx hb dX4_weatherFraction_114 (by decide) ?_
            refine lv_iconst (v := 1) hx hb dX4_weatherFraction_119 (by decide) ?_
            refine lv_iload hx hb dX4_weatherFraction_120 (lv_at hl 0 rfl) ?_
            refine va_mmax hx hb (hml.trans hl.1.symm) hown (hts _ k_856) (hts _ k_774) (hts _ k_114) (hts _ k_775) (Nat.le_of_ble_eq_true rfl) (Nat.le_of_ble_eq_true rfl) (Nat.le_of_ble_eq_true rfl) (Nat.le_of_ble_eq_true rfl) dX4_weatherFraction_122 ?_
            refine lv_topi (fun x_51 ex_51 => ?_)
            have mx_51 := imax_f ex_51
            rw [show (1 : Int32).toInt = 1 by decide] at mx_51
            have hz_52 : ¬ x_51 = 0 := by
              intro z
              have zz : (x_51 : Int32).toInt = 0 := by rw [z]; decide
              have z_1 := Int32.le_iff_toInt_le.mp c_40
              have z_2 := Int32.lt_iff_toInt_lt.mp c_41
              have z_3 := congrArg Int32.toInt c_47
              have y_0 : (0 : Int32).toInt = 0 := by decide
              omega
            refine lv_idiv hx hb dX4_weatherFraction_125 hz_52 ?_
            refine lv_topi (fun x_53 ex_53 => ?_)
            exact retI (v := x_53) hx hb hr hlk (rfl) hP hD hS (vy_25, vy_26, vy_27, sv_4, sv_5, vy_28, sv_7, sv_8, vy_29, vy_30, vy_31) ⟨_, rfl, trivial⟩ [0, 1, 2, 3, 4, 5, 6, 7, 8, 9, 10, 11, 12, 13, 14, 15, 16, 17, 18, 19] rfl rfl dX4_weatherFraction_126 (Nat.le_of_ble_eq_true rfl) (Nat.le_of_ble_eq_true rfl) rfl
        · skip
          refine lv_iload hx hb dX4_weatherFraction_95 (lv_at hl 7 rfl) ?_
          exact retI (v := x2) hx hb hr hlk (rfl) hP hD hS (vy_25, vy_26, vy_27, sv_4, sv_5, vy_28, sv_7, sv_8, vy_29, vy_30, vy_31) ⟨_, rfl, trivial⟩ [0, 1, 2, 3, 4, 5, 6, 7, 8, 9, 10, 11, 12, 13, 14, 15, 16, 17, 18, 19] rfl rfl dX4_weatherFraction_97 (Nat.le_of_ble_eq_true rfl) (Nat.le_of_ble_eq_true rfl) rfl
      · skip
        refine lv_aload_n hx hb dX4_weatherFraction_23 rfl (lv_at hl 3 rfl) ?_
        refine gf_X4_12 hx hb hts hown hK hP 0 rfl rfl dX4_weatherFraction_24 ?_
        refine lv_aload_n hx hb dX4_weatherFraction_27 rfl (lv_at hl 3 rfl) ?_
        refine gf_X4_12 hx hb hts hown hK hP 0 rfl rfl dX4_weatherFraction_28 ?_
        refine gf_X4_53 hx hb hts hown hK hP 2 rfl rfl dX4_weatherFraction_31 ?_
        refine cV (a := (Ta 0)) (As := [.int vy_26]) (rest := []) (wr := [((Oa 0), .inr (4, [.ref (Ta 0), .ref (Oa 2), .long (Oj 0)])), ((Oa 2), .inl (tc 1, 61, .inr (.inl (Og 2)))), ((Aa 0), .inr (9, [.int (Av 0), .int (Av 1), .int (Av 2), .int (Av 3), .int (Av 4), .int (Av 5), .ref (Aa 1), .ref (Aa 2), .ref (Aa 3), .ref (Aa 4), .ref (Aa 5), .ref (Aa 6), .ref (Aa 7), .ref (Aa 8)])), ((Aa 1), .inl (tc 0, 10, .inl (Af 1))), ((Aa 2), .inl (tc 0, 10, .inl (Af 2))), ((Aa 3), .inl (tc 0, 6, .inl (Af 3))), ((Aa 4), .inl (tc 0, 6, .inl (Af 4))), ((Aa 5), .inl (tc 0, 6, .inl (Af 5))), ((Aa 6), .inl (tc 0, 6, .inl (Af 6))), ((Aa 7), .inl (tc 0, 6, .inl (Af 7))), ((Aa 8), .inl (tc 0, 6, .inl (Af 8)))]) ⟨hx, hb, hml, hown, hts⟩ hK hX hA (cu_X9_stillOn l D tc sk (Ta 0) (Ta 1) (Ta 2) (Ta 3) (Ta 4) (Ta 5) (Ta 6) (Ta 7) (Ta 8) vy_25 (Av 1) (Av 2) (Av 3) vy_26 vy_27 sv_4 sv_5 vy_28 sv_7 sv_8 vy_29 vy_30 vy_31 vy_26) k_743 k_846 k_741 k_742 k_98 pl_X9_stillOn ⟨Nat.le_of_ble_eq_true rfl, Nat.le_of_ble_eq_true rfl⟩ rfl rfl (va_recv hK hP (ci := 9) (q0 := 2) rfl rfl) hP hD hS [2, 3, 4, 5, 6, 7, 8, 9, 10] [0, 1, 11, 12, 13, 14, 15, 16, 17, 18, 19] rfl rfl rfl rfl rfl (by decide) rfl hl.1 rfl (Nat.le_of_ble_eq_true rfl) dX4_weatherFraction_34 ⟨Nat.le_of_ble_eq_true rfl, Nat.le_of_ble_eq_true rfl⟩ (fun v_54 u_55 H locs hv_56 hP hD hS => ?_)
        obtain ⟨r_57, rfl, he_58⟩ := hv_56
        have he_58 : (True) := he_58
        refine W.eq (g2 := F0 m 37 ls [.int r_57]) rfl ?_
        have hP : va_P D classes [((Oa 0), .inr (4, [.ref (Ta 0), .ref (Oa 2), .long (Oj 0)])), ((Oa 2), .inl (tc 1, 61, .inr (.inl (Og 2)))), ((Aa 0), .inr (9, [.int (Av 0), .int (Av 1), .int (Av 2), .int (Av 3), .int (Av 4), .int (Av 5), .ref (Aa 1), .ref (Aa 2), .ref (Aa 3), .ref (Aa 4), .ref (Aa 5), .ref (Aa 6), .ref (Aa 7), .ref (Aa 8)])), ((Aa 1), .inl (tc 0, 10, .inl (Af 1))), ((Aa 2), .inl (tc 0, 10, .inl (Af 2))), ((Aa 3), .inl (tc 0, 6, .inl (Af 3))), ((Aa 4), .inl (tc 0, 6, .inl (Af 4))), ((Aa 5), .inl (tc 0, 6, .inl (Af 5))), ((Aa 6), .inl (tc 0, 6, .inl (Af 6))), ((Aa 7), .inl (tc 0, 6, .inl (Af 7))), ((Aa 8), .inl (tc 0, 6, .inl (Af 8))), ((Ta 0), .inr (9, [.int vy_25, .int (Av 1), .int (Av 2), .int (Av 3), .int vy_26, .int vy_27, .ref (Ta 1), .ref (Ta 2), .ref (Ta 3), .ref (Ta 4), .ref (Ta 5), .ref (Ta 6), .ref (Ta 7), .ref (Ta 8)])), ((Ta 1), .inl (tc 0, 10, .inl sv_4)), ((Ta 2), .inl (tc 0, 10, .inl sv_5)), ((Ta 3), .inl (tc 0, 6, .inl vy_28)), ((Ta 4), .inl (tc 0, 6, .inl sv_7)), ((Ta 5), .inl (tc 0, 6, .inl sv_8)), ((Ta 6), .inl (tc 0, 6, .inl vy_29)), ((Ta 7), .inl (tc 0, 6, .inl vy_30)), ((Ta 8), .inl (tc 0, 6, .inl vy_31))] H := hP
        have hD : va_D A [((Oa 0), .inr (4, [.ref (Ta 0), .ref (Oa 2), .long (Oj 0)])), ((Oa 2), .inl (tc 1, 61, .inr (.inl (Og 2)))), ((Aa 0), .inr (9, [.int (Av 0), .int (Av 1), .int (Av 2), .int (Av 3), .int (Av 4), .int (Av 5), .ref (Aa 1), .ref (Aa 2), .ref (Aa 3), .ref (Aa 4), .ref (Aa 5), .ref (Aa 6), .ref (Aa 7), .ref (Aa 8)])), ((Aa 1), .inl (tc 0, 10, .inl (Af 1))), ((Aa 2), .inl (tc 0, 10, .inl (Af 2))), ((Aa 3), .inl (tc 0, 6, .inl (Af 3))), ((Aa 4), .inl (tc 0, 6, .inl (Af 4))), ((Aa 5), .inl (tc 0, 6, .inl (Af 5))), ((Aa 6), .inl (tc 0, 6, .inl (Af 6))), ((Aa 7), .inl (tc 0, 6, .inl (Af 7))), ((Aa 8), .inl (tc 0, 6, .inl (Af 8))), ((Ta 0), .inr (9, [.int vy_25, .int (Av 1), .int (Av 2), .int (Av 3), .int vy_26, .int vy_27, .ref (Ta 1), .ref (Ta 2), .ref (Ta 3), .ref (Ta 4), .ref (Ta 5), .ref (Ta 6), .ref (Ta 7), .ref (Ta 8)])), ((Ta 1), .inl (tc 0, 10, .inl sv_4)), ((Ta 2), .inl (tc 0, 10, .inl sv_5)), ((Ta 3), .inl (tc 0, 6, .inl vy_28)), ((Ta 4), .inl (tc 0, 6, .inl sv_7)), ((Ta 5), .inl (tc 0, 6, .inl sv_8)), ((Ta 6), .inl (tc 0, 6, .inl vy_29)), ((Ta 7), .inl (tc 0, 6, .inl vy_30)), ((Ta 8), .inl (tc 0, 6, .inl vy_31))] := hD
        refine lv_iconst (v := 5) hx hb dX4_weatherFraction_37 (by decide) ?_
        refine lv_icmp_lt (tgt := 45) hx hb dX4_weatherFraction_38 (by decide) (fun c_59 => ?_) (fun c_59 => ?_)
        · skip
          refine lv_iconst (v := 0) hx hb dX4_weatherFraction_45 (by decide) ?_
          refine lv_istore (lv' := [(8, .int 0), (7, .int vy_23), (6, .int vy_32), (5, .int vy_24), (0, .ref (Oa 0)), (1, .ref (Aa 0)), (2, .null), (3, .int x1), (4, .int x2)]) hx hb dX4_weatherFraction_46 hl (by decide) rfl (fun ls hl => ?_)
          refine lv_aload_n hx hb dX4_weatherFraction_48 rfl (lv_at hl 4 rfl) ?_
          refine gf_X4_12 hx hb hts hown hK hP 0 rfl rfl dX4_weatherFraction_49 ?_
          refine lv_aload_nN hx hb dX4_weatherFraction_52 rfl (lv_at hl 6 rfl) ?_
          refine cV (a := (Ta 0)) (As := [.null]) (rest := []) (wr := [((Oa 0), .inr (4, [.ref (Ta 0), .ref (Oa 2), .long (Oj 0)])), ((Oa 2), .inl (tc 1, 61, .inr (.inl (Og 2)))), ((Aa 0), .inr (9, [.int (Av 0), .int (Av 1), .int (Av 2), .int (Av 3), .int (Av 4), .int (Av 5), .ref (Aa 1), .ref (Aa 2), .ref (Aa 3), .ref (Aa 4), .ref (Aa 5), .ref (Aa 6), .ref (Aa 7), .ref (Aa 8)])), ((Aa 1), .inl (tc 0, 10, .inl (Af 1))), ((Aa 2), .inl (tc 0, 10, .inl (Af 2))), ((Aa 3), .inl (tc 0, 6, .inl (Af 3))), ((Aa 4), .inl (tc 0, 6, .inl (Af 4))), ((Aa 5), .inl (tc 0, 6, .inl (Af 5))), ((Aa 6), .inl (tc 0, 6, .inl (Af 6))), ((Aa 7), .inl (tc 0, 6, .inl (Af 7))), ((Aa 8), .inl (tc 0, 6, .inl (Af 8)))]) ⟨hx, hb, hml, hown, hts⟩ hK hX hA (cu_X9_goThroughDay_n l D tc sk (Ta 0) (Ta 1) (Ta 2) (Ta 3) (Ta 4) (Ta 5) (Ta 6) (Ta 7) (Ta 8) vy_25 (Av 1) (Av 2) (Av 3) vy_26 vy_27 sv_4 sv_5 vy_28 sv_7 sv_8 vy_29 vy_30 vy_31) k_739 k_829 k_737 k_738 k_98 pl_X9_goThroughDay ⟨Nat.le_of_ble_eq_true rfl, Nat.le_of_ble_eq_true rfl⟩ rfl rfl (va_recv hK hP (ci := 9) (q0 := 11) rfl rfl) hP hD hS [11, 12, 13, 14, 15, 16, 17, 18, 19] [0, 1, 2, 3, 4, 5, 6, 7, 8, 9, 10] rfl rfl rfl rfl rfl (by decide) rfl hl.1 rfl (Nat.le_of_ble_eq_true rfl) dX4_weatherFraction_53 ⟨Nat.le_of_ble_eq_true rfl, Nat.le_of_ble_eq_true rfl⟩ (fun v_60 u_61 H locs hv_62 hP hD hS => ?_)
          obtain ⟨sv_63, sv_64, sv_65, sv_66, sv_67, sv_68, sv_69⟩ := u_61
          obtain ⟨r_70, rfl, he_71⟩ := hv_62
          have he_71 : (True) := he_71
          refine W.eq (g2 := F0 m 56 ls [.int r_70]) rfl ?_
          have hP : va_P D classes [((Oa 0), .inr (4, [.ref (Ta 0), .ref (Oa 2), .long (Oj 0)])), ((Oa 2), .inl (tc 1, 61, .inr (.inl (Og 2)))), ((Aa 0), .inr (9, [.int (Av 0), .int (Av 1), .int (Av 2), .int (Av 3), .int (Av 4), .int (Av 5), .ref (Aa 1), .ref (Aa 2), .ref (Aa 3), .ref (Aa 4), .ref (Aa 5), .ref (Aa 6), .ref (Aa 7), .ref (Aa 8)])), ((Aa 1), .inl (tc 0, 10, .inl (Af 1))), ((Aa 2), .inl (tc 0, 10, .inl (Af 2))), ((Aa 3), .inl (tc 0, 6, .inl (Af 3))), ((Aa 4), .inl (tc 0, 6, .inl (Af 4))), ((Aa 5), .inl (tc 0, 6, .inl (Af 5))), ((Aa 6), .inl (tc 0, 6, .inl (Af 6))), ((Aa 7), .inl (tc 0, 6, .inl (Af 7))), ((Aa 8), .inl (tc 0, 6, .inl (Af 8))), ((Ta 0), .inr (9, [.int sv_63, .int (Av 1), .int (Av 2), .int (Av 3), .int sv_64, .int sv_65, .ref (Ta 1), .ref (Ta 2), .ref (Ta 3), .ref (Ta 4), .ref (Ta 5), .ref (Ta 6), .ref (Ta 7), .ref (Ta 8)])), ((Ta 1), .inl (tc 0, 10, .inl sv_4)), ((Ta 2), .inl (tc 0, 10, .inl sv_5)), ((Ta 3), .inl (tc 0, 6, .inl sv_66)), ((Ta 4), .inl (tc 0, 6, .inl sv_7)), ((Ta 5), .inl (tc 0, 6, .inl sv_8)), ((Ta 6), .inl (tc 0, 6, .inl sv_67)), ((Ta 7), .inl (tc 0, 6, .inl sv_68)), ((Ta 8), .inl (tc 0, 6, .inl sv_69))] H := hP
          have hD : va_D A [((Oa 0), .inr (4, [.ref (Ta 0), .ref (Oa 2), .long (Oj 0)])), ((Oa 2), .inl (tc 1, 61, .inr (.inl (Og 2)))), ((Aa 0), .inr (9, [.int (Av 0), .int (Av 1), .int (Av 2), .int (Av 3), .int (Av 4), .int (Av 5), .ref (Aa 1), .ref (Aa 2), .ref (Aa 3), .ref (Aa 4), .ref (Aa 5), .ref (Aa 6), .ref (Aa 7), .ref (Aa 8)])), ((Aa 1), .inl (tc 0, 10, .inl (Af 1))), ((Aa 2), .inl (tc 0, 10, .inl (Af 2))), ((Aa 3), .inl (tc 0, 6, .inl (Af 3))), ((Aa 4), .inl (tc 0, 6, .inl (Af 4))), ((Aa 5), .inl (tc 0, 6, .inl (Af 5))), ((Aa 6), .inl (tc 0, 6, .inl (Af 6))), ((Aa 7), .inl (tc 0, 6, .inl (Af 7))), ((Aa 8), .inl (tc 0, 6, .inl (Af 8))), ((Ta 0), .inr (9, [.int sv_63, .int (Av 1), .int (Av 2), .int (Av 3), .int sv_64, .int sv_65, .ref (Ta 1), .ref (Ta 2), .ref (Ta 3), .ref (Ta 4), .ref (Ta 5), .ref (Ta 6), .ref (Ta 7), .ref (Ta 8)])), ((Ta 1), .inl (tc 0, 10, .inl sv_4)), ((Ta 2), .inl (tc 0, 10, .inl sv_5)), ((Ta 3), .inl (tc 0, 6, .inl sv_66)), ((Ta 4), .inl (tc 0, 6, .inl sv_7)), ((Ta 5), .inl (tc 0, 6, .inl sv_8)), ((Ta 6), .inl (tc 0, 6, .inl sv_67)), ((Ta 7), .inl (tc 0, 6, .inl sv_68)), ((Ta 8), .inl (tc 0, 6, .inl sv_69))] := hD
          refine cS (As := [.int r_70]) (rest := []) (wr := [((Oa 0), .inr (4, [.ref (Ta 0), .ref (Oa 2), .long (Oj 0)])), ((Oa 2), .inl (tc 1, 61, .inr (.inl (Og 2)))), ((Aa 0), .inr (9, [.int (Av 0), .int (Av 1), .int (Av 2), .int (Av 3), .int (Av 4), .int (Av 5), .ref (Aa 1), .ref (Aa 2), .ref (Aa 3), .ref (Aa 4), .ref (Aa 5), .ref (Aa 6), .ref (Aa 7), .ref (Aa 8)])), ((Aa 1), .inl (tc 0, 10, .inl (Af 1))), ((Aa 2), .inl (tc 0, 10, .inl (Af 2))), ((Aa 3), .inl (tc 0, 6, .inl (Af 3))), ((Aa 4), .inl (tc 0, 6, .inl (Af 4))), ((Aa 5), .inl (tc 0, 6, .inl (Af 5))), ((Aa 6), .inl (tc 0, 6, .inl (Af 6))), ((Aa 7), .inl (tc 0, 6, .inl (Af 7))), ((Aa 8), .inl (tc 0, 6, .inl (Af 8))), ((Ta 0), .inr (9, [.int sv_63, .int (Av 1), .int (Av 2), .int (Av 3), .int sv_64, .int sv_65, .ref (Ta 1), .ref (Ta 2), .ref (Ta 3), .ref (Ta 4), .ref (Ta 5), .ref (Ta 6), .ref (Ta 7), .ref (Ta 8)])), ((Ta 1), .inl (tc 0, 10, .inl sv_4)), ((Ta 2), .inl (tc 0, 10, .inl sv_5)), ((Ta 3), .inl (tc 0, 6, .inl sv_66)), ((Ta 4), .inl (tc 0, 6, .inl sv_7)), ((Ta 5), .inl (tc 0, 6, .inl sv_8)), ((Ta 6), .inl (tc 0, 6, .inl sv_67)), ((Ta 7), .inl (tc 0, 6, .inl sv_68)), ((Ta 8), .inl (tc 0, 6, .inl sv_69))]) ⟨hx, hb, hml, hown, hts⟩ hK hX hA (ct_J8_bitCount l D tc sk r_70) k_849 k_847 k_848 k_115 pl_J6_bitCount_0f7a4 ⟨Nat.le_of_ble_eq_true rfl, Nat.le_of_ble_eq_true rfl⟩ rfl rfl  hP hD hS [] [0, 1, 2, 3, 4, 5, 6, 7, 8, 9, 10, 11, 12, 13, 14, 15, 16, 17, 18, 19] rfl rfl rfl rfl rfl (by decide) rfl hl.1 rfl (Nat.le_of_ble_eq_true rfl) dX4_weatherFraction_56 ⟨Nat.le_of_ble_eq_true rfl, Nat.le_of_ble_eq_true rfl⟩ (fun v_72 u_73 H locs hv_74 hP hD hS => ?_)
          obtain ⟨r_75, rfl, he_76⟩ := hv_74
          have he_76 : (True) := he_76
          refine W.eq (g2 := F0 m 59 ls [.int r_75]) rfl ?_
          have hP : va_P D classes [((Oa 0), .inr (4, [.ref (Ta 0), .ref (Oa 2), .long (Oj 0)])), ((Oa 2), .inl (tc 1, 61, .inr (.inl (Og 2)))), ((Aa 0), .inr (9, [.int (Av 0), .int (Av 1), .int (Av 2), .int (Av 3), .int (Av 4), .int (Av 5), .ref (Aa 1), .ref (Aa 2), .ref (Aa 3), .ref (Aa 4), .ref (Aa 5), .ref (Aa 6), .ref (Aa 7), .ref (Aa 8)])), ((Aa 1), .inl (tc 0, 10, .inl (Af 1))), ((Aa 2), .inl (tc 0, 10, .inl (Af 2))), ((Aa 3), .inl (tc 0, 6, .inl (Af 3))), ((Aa 4), .inl (tc 0, 6, .inl (Af 4))), ((Aa 5), .inl (tc 0, 6, .inl (Af 5))), ((Aa 6), .inl (tc 0, 6, .inl (Af 6))), ((Aa 7), .inl (tc 0, 6, .inl (Af 7))), ((Aa 8), .inl (tc 0, 6, .inl (Af 8))), ((Ta 0), .inr (9, [.int sv_63, .int (Av 1), .int (Av 2), .int (Av 3), .int sv_64, .int sv_65, .ref (Ta 1), .ref (Ta 2), .ref (Ta 3), .ref (Ta 4), .ref (Ta 5), .ref (Ta 6), .ref (Ta 7), .ref (Ta 8)])), ((Ta 1), .inl (tc 0, 10, .inl sv_4)), ((Ta 2), .inl (tc 0, 10, .inl sv_5)), ((Ta 3), .inl (tc 0, 6, .inl sv_66)), ((Ta 4), .inl (tc 0, 6, .inl sv_7)), ((Ta 5), .inl (tc 0, 6, .inl sv_8)), ((Ta 6), .inl (tc 0, 6, .inl sv_67)), ((Ta 7), .inl (tc 0, 6, .inl sv_68)), ((Ta 8), .inl (tc 0, 6, .inl sv_69))] H := hP
          have hD : va_D A [((Oa 0), .inr (4, [.ref (Ta 0), .ref (Oa 2), .long (Oj 0)])), ((Oa 2), .inl (tc 1, 61, .inr (.inl (Og 2)))), ((Aa 0), .inr (9, [.int (Av 0), .int (Av 1), .int (Av 2), .int (Av 3), .int (Av 4), .int (Av 5), .ref (Aa 1), .ref (Aa 2), .ref (Aa 3), .ref (Aa 4), .ref (Aa 5), .ref (Aa 6), .ref (Aa 7), .ref (Aa 8)])), ((Aa 1), .inl (tc 0, 10, .inl (Af 1))), ((Aa 2), .inl (tc 0, 10, .inl (Af 2))), ((Aa 3), .inl (tc 0, 6, .inl (Af 3))), ((Aa 4), .inl (tc 0, 6, .inl (Af 4))), ((Aa 5), .inl (tc 0, 6, .inl (Af 5))), ((Aa 6), .inl (tc 0, 6, .inl (Af 6))), ((Aa 7), .inl (tc 0, 6, .inl (Af 7))), ((Aa 8), .inl (tc 0, 6, .inl (Af 8))), ((Ta 0), .inr (9, [.int sv_63, .int (Av 1), .int (Av 2), .int (Av 3), .int sv_64, .int sv_65, .ref (Ta 1), .ref (Ta 2), .ref (Ta 3), .ref (Ta 4), .ref (Ta 5), .ref (Ta 6), .ref (Ta 7), .ref (Ta 8)])), ((Ta 1), .inl (tc 0, 10, .inl sv_4)), ((Ta 2), .inl (tc 0, 10, .inl sv_5)), ((Ta 3), .inl (tc 0, 6, .inl sv_66)), ((Ta 4), .inl (tc 0, 6, .inl sv_7)), ((Ta 5), .inl (tc 0, 6, .inl sv_8)), ((Ta 6), .inl (tc 0, 6, .inl sv_67)), ((Ta 7), .inl (tc 0, 6, .inl sv_68)), ((Ta 8), .inl (tc 0, 6, .inl sv_69))] := hD
          refine lv_istore (lv' := [(9, .int r_75), (8, .int 0), (7, .int vy_23), (6, .int vy_32), (5, .int vy_24), (0, .ref (Oa 0)), (1, .ref (Aa 0)), (2, .null), (3, .int x1), (4, .int x2)]) hx hb dX4_weatherFraction_59 hl (by decide) rfl (fun ls hl => ?_)
          refine lv_iload hx hb dX4_weatherFraction_61 (lv_at hl 4 rfl) ?_
          refine lv_iload hx hb dX4_weatherFraction_63 (lv_at hl 0 rfl) ?_
          refine lv_iadd hx hb dX4_weatherFraction_65 ?_
          refine lv_topi (fun x_77 ex_77 => ?_)
          refine lv_istore (lv' := [(5, .int x_77), (9, .int r_75), (8, .int 0), (7, .int vy_23), (6, .int vy_32), (0, .ref (Oa 0)), (1, .ref (Aa 0)), (2, .null), (3, .int x1), (4, .int x2)]) hx hb dX4_weatherFraction_66 hl (by decide) rfl (fun ls hl => ?_)
          refine lv_iload hx hb dX4_weatherFraction_68 (lv_at hl 4 rfl) ?_
          refine lv_iload hx hb dX4_weatherFraction_70 (lv_at hl 2 rfl) ?_
          refine lv_if_eq (tgt := 80) hx hb dX4_weatherFraction_72 (by decide) (fun c_78 => ?_) (fun c_78 => absurd c_78 (by decide))
          refine lv_iconst (v := 0) hx hb dX4_weatherFraction_80 (by decide) ?_
          refine lv_iadd hx hb dX4_weatherFraction_81 ?_
          refine lv_topi (fun x_79 ex_79 => ?_)
          refine lv_istore (lv' := [(6, .int x_79), (5, .int x_77), (9, .int r_75), (8, .int 0), (7, .int vy_23), (0, .ref (Oa 0)), (1, .ref (Aa 0)), (2, .null), (3, .int x1), (4, .int x2)]) hx hb dX4_weatherFraction_82 hl (by decide) rfl (fun ls hl => ?_)
          obtain ⟨x_80, ex_80⟩ : ∃ y : Int32, y = vy_23 + 1 := ⟨_, rfl⟩
          refine lv_iinc (v := x_80) (lv' := [(7, .int x_80), (6, .int x_79), (5, .int x_77), (9, .int r_75), (8, .int 0), (0, .ref (Oa 0)), (1, .ref (Aa 0)), (2, .null), (3, .int x1), (4, .int x2)]) hx hb dX4_weatherFraction_84 hl (k := 4) rfl (by rw [ex_80]; rfl) (by decide) rfl (fun ls hl => ?_)
          refine lv_goto (tgt := 17) hx hb dX4_weatherFraction_87 (by decide) ?_
          have hb_81 : 0 ≤ (x_80 : Int32).toInt ∧ (x1.toInt - (x_80 : Int32).toInt).toNat < n_33 := by
            have z_1 := Int32.lt_iff_toInt_lt.mp (Int32.not_le.mp c_40)
            have z_2 := Int32.lt_iff_toInt_lt.mp c_59
            have y_5 : (5 : Int32).toInt = 5 := by decide
            have y_1 : (1 : Int32).toInt = 1 := by decide
            have t_x_80 : x_80.toInt = (vy_23 : Int32).toInt + (1 : Int32).toInt := by rw [ex_80]; exact add_toInt (by omega) (by omega)
            omega
          exact ih_34 x_80 x_77 sv_63 sv_64 sv_65 sv_66 sv_67 sv_68 sv_69 x_79 _ _ _ hb_81.1 hb_81.2 (hP.sub [0, 1, 11, 12, 13, 14, 15, 16, 17, 18, 19, 2, 3, 4, 5, 6, 7, 8, 9, 10] rfl) (hD.sub [0, 1, 11, 12, 13, 14, 15, 16, 17, 18, 19, 2, 3, 4, 5, 6, 7, 8, 9, 10] rfl rfl) hS (lv_sub hl [0, 1, 2, 5, 6, 7, 8, 9] rfl)
        · skip
          refine lv_iconst (v := 1) hx hb dX4_weatherFraction_41 (by decide) ?_
          refine lv_goto (tgt := 46) hx hb dX4_weatherFraction_42 (by decide) ?_
          refine lv_istore (lv' := [(8, .int 1), (7, .int vy_23), (6, .int vy_32), (5, .int vy_24), (0, .ref (Oa 0)), (1, .ref (Aa 0)), (2, .null), (3, .int x1), (4, .int x2)]) hx hb dX4_weatherFraction_46 hl (by decide) rfl (fun ls hl => ?_)
          refine lv_aload_n hx hb dX4_weatherFraction_48 rfl (lv_at hl 4 rfl) ?_
          refine gf_X4_12 hx hb hts hown hK hP 0 rfl rfl dX4_weatherFraction_49 ?_
          refine lv_aload_nN hx hb dX4_weatherFraction_52 rfl (lv_at hl 6 rfl) ?_
          refine cV (a := (Ta 0)) (As := [.null]) (rest := []) (wr := [((Oa 0), .inr (4, [.ref (Ta 0), .ref (Oa 2), .long (Oj 0)])), ((Oa 2), .inl (tc 1, 61, .inr (.inl (Og 2)))), ((Aa 0), .inr (9, [.int (Av 0), .int (Av 1), .int (Av 2), .int (Av 3), .int (Av 4), .int (Av 5), .ref (Aa 1), .ref (Aa 2), .ref (Aa 3), .ref (Aa 4), .ref (Aa 5), .ref (Aa 6), .ref (Aa 7), .ref (Aa 8)])), ((Aa 1), .inl (tc 0, 10, .inl (Af 1))), ((Aa 2), .inl (tc 0, 10, .inl (Af 2))), ((Aa 3), .inl (tc 0, 6, .inl (Af 3))), ((Aa 4), .inl (tc 0, 6, .inl (Af 4))), ((Aa 5), .inl (tc 0, 6, .inl (Af 5))), ((Aa 6), .inl (tc 0, 6, .inl (Af 6))), ((Aa 7), .inl (tc 0, 6, .inl (Af 7))), ((Aa 8), .inl (tc 0, 6, .inl (Af 8)))]) ⟨hx, hb, hml, hown, hts⟩ hK hX hA (cu_X9_goThroughDay_n l D tc sk (Ta 0) (Ta 1) (Ta 2) (Ta 3) (Ta 4) (Ta 5) (Ta 6) (Ta 7) (Ta 8) vy_25 (Av 1) (Av 2) (Av 3) vy_26 vy_27 sv_4 sv_5 vy_28 sv_7 sv_8 vy_29 vy_30 vy_31) k_739 k_829 k_737 k_738 k_98 pl_X9_goThroughDay ⟨Nat.le_of_ble_eq_true rfl, Nat.le_of_ble_eq_true rfl⟩ rfl rfl (va_recv hK hP (ci := 9) (q0 := 11) rfl rfl) hP hD hS [11, 12, 13, 14, 15, 16, 17, 18, 19] [0, 1, 2, 3, 4, 5, 6, 7, 8, 9, 10] rfl rfl rfl rfl rfl (by decide) rfl hl.1 rfl (Nat.le_of_ble_eq_true rfl) dX4_weatherFraction_53 ⟨Nat.le_of_ble_eq_true rfl, Nat.le_of_ble_eq_true rfl⟩ (fun v_82 u_83 H locs hv_84 hP hD hS => ?_)
          obtain ⟨sv_85, sv_86, sv_87, sv_88, sv_89, sv_90, sv_91⟩ := u_83
          obtain ⟨r_92, rfl, he_93⟩ := hv_84
          have he_93 : (True) := he_93
          refine W.eq (g2 := F0 m 56 ls [.int r_92]) rfl ?_
          have hP : va_P D classes [((Oa 0), .inr (4, [.ref (Ta 0), .ref (Oa 2), .long (Oj 0)])), ((Oa 2), .inl (tc 1, 61, .inr (.inl (Og 2)))), ((Aa 0), .inr (9, [.int (Av 0), .int (Av 1), .int (Av 2), .int (Av 3), .int (Av 4), .int (Av 5), .ref (Aa 1), .ref (Aa 2), .ref (Aa 3), .ref (Aa 4), .ref (Aa 5), .ref (Aa 6), .ref (Aa 7), .ref (Aa 8)])), ((Aa 1), .inl (tc 0, 10, .inl (Af 1))), ((Aa 2), .inl (tc 0, 10, .inl (Af 2))), ((Aa 3), .inl (tc 0, 6, .inl (Af 3))), ((Aa 4), .inl (tc 0, 6, .inl (Af 4))), ((Aa 5), .inl (tc 0, 6, .inl (Af 5))), ((Aa 6), .inl (tc 0, 6, .inl (Af 6))), ((Aa 7), .inl (tc 0, 6, .inl (Af 7))), ((Aa 8), .inl (tc 0, 6, .inl (Af 8))), ((Ta 0), .inr (9, [.int sv_85, .int (Av 1), .int (Av 2), .int (Av 3), .int sv_86, .int sv_87, .ref (Ta 1), .ref (Ta 2), .ref (Ta 3), .ref (Ta 4), .ref (Ta 5), .ref (Ta 6), .ref (Ta 7), .ref (Ta 8)])), ((Ta 1), .inl (tc 0, 10, .inl sv_4)), ((Ta 2), .inl (tc 0, 10, .inl sv_5)), ((Ta 3), .inl (tc 0, 6, .inl sv_88)), ((Ta 4), .inl (tc 0, 6, .inl sv_7)), ((Ta 5), .inl (tc 0, 6, .inl sv_8)), ((Ta 6), .inl (tc 0, 6, .inl sv_89)), ((Ta 7), .inl (tc 0, 6, .inl sv_90)), ((Ta 8), .inl (tc 0, 6, .inl sv_91))] H := hP
          have hD : va_D A [((Oa 0), .inr (4, [.ref (Ta 0), .ref (Oa 2), .long (Oj 0)])), ((Oa 2), .inl (tc 1, 61, .inr (.inl (Og 2)))), ((Aa 0), .inr (9, [.int (Av 0), .int (Av 1), .int (Av 2), .int (Av 3), .int (Av 4), .int (Av 5), .ref (Aa 1), .ref (Aa 2), .ref (Aa 3), .ref (Aa 4), .ref (Aa 5), .ref (Aa 6), .ref (Aa 7), .ref (Aa 8)])), ((Aa 1), .inl (tc 0, 10, .inl (Af 1))), ((Aa 2), .inl (tc 0, 10, .inl (Af 2))), ((Aa 3), .inl (tc 0, 6, .inl (Af 3))), ((Aa 4), .inl (tc 0, 6, .inl (Af 4))), ((Aa 5), .inl (tc 0, 6, .inl (Af 5))), ((Aa 6), .inl (tc 0, 6, .inl (Af 6))), ((Aa 7), .inl (tc 0, 6, .inl (Af 7))), ((Aa 8), .inl (tc 0, 6, .inl (Af 8))), ((Ta 0), .inr (9, [.int sv_85, .int (Av 1), .int (Av 2), .int (Av 3), .int sv_86, .int sv_87, .ref (Ta 1), .ref (Ta 2), .ref (Ta 3), .ref (Ta 4), .ref (Ta 5), .ref (Ta 6), .ref (Ta 7), .ref (Ta 8)])), ((Ta 1), .inl (tc 0, 10, .inl sv_4)), ((Ta 2), .inl (tc 0, 10, .inl sv_5)), ((Ta 3), .inl (tc 0, 6, .inl sv_88)), ((Ta 4), .inl (tc 0, 6, .inl sv_7)), ((Ta 5), .inl (tc 0, 6, .inl sv_8)), ((Ta 6), .inl (tc 0, 6, .inl sv_89)), ((Ta 7), .inl (tc 0, 6, .inl sv_90)), ((Ta 8), .inl (tc 0, 6, .inl sv_91))] := hD
          refine cS (As := [.int r_92]) (rest := []) (wr := [((Oa 0), .inr (4, [.ref (Ta 0), .ref (Oa 2), .long (Oj 0)])), ((Oa 2), .inl (tc 1, 61, .inr (.inl (Og 2)))), ((Aa 0), .inr (9, [.int (Av 0), .int (Av 1), .int (Av 2), .int (Av 3), .int (Av 4), .int (Av 5), .ref (Aa 1), .ref (Aa 2), .ref (Aa 3), .ref (Aa 4), .ref (Aa 5), .ref (Aa 6), .ref (Aa 7), .ref (Aa 8)])), ((Aa 1), .inl (tc 0, 10, .inl (Af 1))), ((Aa 2), .inl (tc 0, 10, .inl (Af 2))), ((Aa 3), .inl (tc 0, 6, .inl (Af 3))), ((Aa 4), .inl (tc 0, 6, .inl (Af 4))), ((Aa 5), .inl (tc 0, 6, .inl (Af 5))), ((Aa 6), .inl (tc 0, 6, .inl (Af 6))), ((Aa 7), .inl (tc 0, 6, .inl (Af 7))), ((Aa 8), .inl (tc 0, 6, .inl (Af 8))), ((Ta 0), .inr (9, [.int sv_85, .int (Av 1), .int (Av 2), .int (Av 3), .int sv_86, .int sv_87, .ref (Ta 1), .ref (Ta 2), .ref (Ta 3), .ref (Ta 4), .ref (Ta 5), .ref (Ta 6), .ref (Ta 7), .ref (Ta 8)])), ((Ta 1), .inl (tc 0, 10, .inl sv_4)), ((Ta 2), .inl (tc 0, 10, .inl sv_5)), ((Ta 3), .inl (tc 0, 6, .inl sv_88)), ((Ta 4), .inl (tc 0, 6, .inl sv_7)), ((Ta 5), .inl (tc 0, 6, .inl sv_8)), ((Ta 6), .inl (tc 0, 6, .inl sv_89)), ((Ta 7), .inl (tc 0, 6, .inl sv_90)), ((Ta 8), .inl (tc 0, 6, .inl sv_91))]) ⟨hx, hb, hml, hown, hts⟩ hK hX hA (ct_J8_bitCount l D tc sk r_92) k_849 k_847 k_848 k_115 pl_J6_bitCount_0f7a4 ⟨Nat.le_of_ble_eq_true rfl, Nat.le_of_ble_eq_true rfl⟩ rfl rfl  hP hD hS [] [0, 1, 2, 3, 4, 5, 6, 7, 8, 9, 10, 11, 12, 13, 14, 15, 16, 17, 18, 19] rfl rfl rfl rfl rfl (by decide) rfl hl.1 rfl (Nat.le_of_ble_eq_true rfl) dX4_weatherFraction_56 ⟨Nat.le_of_ble_eq_true rfl, Nat.le_of_ble_eq_true rfl⟩ (fun v_94 u_95 H locs hv_96 hP hD hS => ?_)
          obtain ⟨r_97, rfl, he_98⟩ := hv_96
          have he_98 : (True) := he_98
          refine W.eq (g2 := F0 m 59 ls [.int r_97]) rfl ?_
          have hP : va_P D classes [((Oa 0), .inr (4, [.ref (Ta 0), .ref (Oa 2), .long (Oj 0)])), ((Oa 2), .inl (tc 1, 61, .inr (.inl (Og 2)))), ((Aa 0), .inr (9, [.int (Av 0), .int (Av 1), .int (Av 2), .int (Av 3), .int (Av 4), .int (Av 5), .ref (Aa 1), .ref (Aa 2), .ref (Aa 3), .ref (Aa 4), .ref (Aa 5), .ref (Aa 6), .ref (Aa 7), .ref (Aa 8)])), ((Aa 1), .inl (tc 0, 10, .inl (Af 1))), ((Aa 2), .inl (tc 0, 10, .inl (Af 2))), ((Aa 3), .inl (tc 0, 6, .inl (Af 3))), ((Aa 4), .inl (tc 0, 6, .inl (Af 4))), ((Aa 5), .inl (tc 0, 6, .inl (Af 5))), ((Aa 6), .inl (tc 0, 6, .inl (Af 6))), ((Aa 7), .inl (tc 0, 6, .inl (Af 7))), ((Aa 8), .inl (tc 0, 6, .inl (Af 8))), ((Ta 0), .inr (9, [.int sv_85, .int (Av 1), .int (Av 2), .int (Av 3), .int sv_86, .int sv_87, .ref (Ta 1), .ref (Ta 2), .ref (Ta 3), .ref (Ta 4), .ref (Ta 5), .ref (Ta 6), .ref (Ta 7), .ref (Ta 8)])), ((Ta 1), .inl (tc 0, 10, .inl sv_4)), ((Ta 2), .inl (tc 0, 10, .inl sv_5)), ((Ta 3), .inl (tc 0, 6, .inl sv_88)), ((Ta 4), .inl (tc 0, 6, .inl sv_7)), ((Ta 5), .inl (tc 0, 6, .inl sv_8)), ((Ta 6), .inl (tc 0, 6, .inl sv_89)), ((Ta 7), .inl (tc 0, 6, .inl sv_90)), ((Ta 8), .inl (tc 0, 6, .inl sv_91))] H := hP
          have hD : va_D A [((Oa 0), .inr (4, [.ref (Ta 0), .ref (Oa 2), .long (Oj 0)])), ((Oa 2), .inl (tc 1, 61, .inr (.inl (Og 2)))), ((Aa 0), .inr (9, [.int (Av 0), .int (Av 1), .int (Av 2), .int (Av 3), .int (Av 4), .int (Av 5), .ref (Aa 1), .ref (Aa 2), .ref (Aa 3), .ref (Aa 4), .ref (Aa 5), .ref (Aa 6), .ref (Aa 7), .ref (Aa 8)])), ((Aa 1), .inl (tc 0, 10, .inl (Af 1))), ((Aa 2), .inl (tc 0, 10, .inl (Af 2))), ((Aa 3), .inl (tc 0, 6, .inl (Af 3))), ((Aa 4), .inl (tc 0, 6, .inl (Af 4))), ((Aa 5), .inl (tc 0, 6, .inl (Af 5))), ((Aa 6), .inl (tc 0, 6, .inl (Af 6))), ((Aa 7), .inl (tc 0, 6, .inl (Af 7))), ((Aa 8), .inl (tc 0, 6, .inl (Af 8))), ((Ta 0), .inr (9, [.int sv_85, .int (Av 1), .int (Av 2), .int (Av 3), .int sv_86, .int sv_87, .ref (Ta 1), .ref (Ta 2), .ref (Ta 3), .ref (Ta 4), .ref (Ta 5), .ref (Ta 6), .ref (Ta 7), .ref (Ta 8)])), ((Ta 1), .inl (tc 0, 10, .inl sv_4)), ((Ta 2), .inl (tc 0, 10, .inl sv_5)), ((Ta 3), .inl (tc 0, 6, .inl sv_88)), ((Ta 4), .inl (tc 0, 6, .inl sv_7)), ((Ta 5), .inl (tc 0, 6, .inl sv_8)), ((Ta 6), .inl (tc 0, 6, .inl sv_89)), ((Ta 7), .inl (tc 0, 6, .inl sv_90)), ((Ta 8), .inl (tc 0, 6, .inl sv_91))] := hD
          refine lv_istore (lv' := [(9, .int r_97), (8, .int 1), (7, .int vy_23), (6, .int vy_32), (5, .int vy_24), (0, .ref (Oa 0)), (1, .ref (Aa 0)), (2, .null), (3, .int x1), (4, .int x2)]) hx hb dX4_weatherFraction_59 hl (by decide) rfl (fun ls hl => ?_)
          refine lv_iload hx hb dX4_weatherFraction_61 (lv_at hl 4 rfl) ?_
          refine lv_iload hx hb dX4_weatherFraction_63 (lv_at hl 0 rfl) ?_
          refine lv_iadd hx hb dX4_weatherFraction_65 ?_
          refine lv_topi (fun x_99 ex_99 => ?_)
          refine lv_istore (lv' := [(5, .int x_99), (9, .int r_97), (8, .int 1), (7, .int vy_23), (6, .int vy_32), (0, .ref (Oa 0)), (1, .ref (Aa 0)), (2, .null), (3, .int x1), (4, .int x2)]) hx hb dX4_weatherFraction_66 hl (by decide) rfl (fun ls hl => ?_)
          refine lv_iload hx hb dX4_weatherFraction_68 (lv_at hl 4 rfl) ?_
          refine lv_iload hx hb dX4_weatherFraction_70 (lv_at hl 2 rfl) ?_
          refine lv_if_eq (tgt := 80) hx hb dX4_weatherFraction_72 (by decide) (fun c_100 => absurd c_100 (by decide)) (fun c_100 => ?_)
          refine lv_iload hx hb dX4_weatherFraction_75 (lv_at hl 1 rfl) ?_
          refine lv_goto (tgt := 81) hx hb dX4_weatherFraction_77 (by decide) ?_
          refine lv_iadd hx hb dX4_weatherFraction_81 ?_
          refine lv_topi (fun x_101 ex_101 => ?_)
          refine lv_istore (lv' := [(6, .int x_101), (5, .int x_99), (9, .int r_97), (8, .int 1), (7, .int vy_23), (0, .ref (Oa 0)), (1, .ref (Aa 0)), (2, .null), (3, .int x1), (4, .int x2)]) hx hb dX4_weatherFraction_82 hl (by decide) rfl (fun ls hl => ?_)
          obtain ⟨x_102, ex_102⟩ : ∃ y : Int32, y = vy_23 + 1 := ⟨_, rfl⟩
          refine lv_iinc (v := x_102) (lv' := [(7, .int x_102), (6, .int x_101), (5, .int x_99), (9, .int r_97), (8, .int 1), (0, .ref (Oa 0)), (1, .ref (Aa 0)), (2, .null), (3, .int x1), (4, .int x2)]) hx hb dX4_weatherFraction_84 hl (k := 4) rfl (by rw [ex_102]; rfl) (by decide) rfl (fun ls hl => ?_)
          refine lv_goto (tgt := 17) hx hb dX4_weatherFraction_87 (by decide) ?_
          have hb_103 : 0 ≤ (x_102 : Int32).toInt ∧ (x1.toInt - (x_102 : Int32).toInt).toNat < n_33 := by
            have z_1 := Int32.lt_iff_toInt_lt.mp (Int32.not_le.mp c_40)
            have z_2 := Int32.le_iff_toInt_le.mp (Int32.not_lt.mp c_59)
            have y_5 : (5 : Int32).toInt = 5 := by decide
            have y_1 : (1 : Int32).toInt = 1 := by decide
            have t_x_102 : x_102.toInt = (vy_23 : Int32).toInt + (1 : Int32).toInt := by rw [ex_102]; exact add_toInt (by omega) (by omega)
            omega
          exact ih_34 x_102 x_99 sv_85 sv_86 sv_87 sv_88 sv_89 sv_90 sv_91 x_101 _ _ _ hb_103.1 hb_103.2 (hP.sub [0, 1, 11, 12, 13, 14, 15, 16, 17, 18, 19, 2, 3, 4, 5, 6, 7, 8, 9, 10] rfl) (hD.sub [0, 1, 11, 12, 13, 14, 15, 16, 17, 18, 19, 2, 3, 4, 5, 6, 7, 8, 9, 10] rfl rfl) hS (lv_sub hl [0, 1, 2, 5, 6, 7, 8, 9] rfl)
  have h0_104 : 0 ≤ (0 : Int32).toInt := by
    have y_0 : (0 : Int32).toInt = 0 := by decide
    decide
  exact loop_35 _ 0 0 (Av 0) (Av 4) (Av 5) sv_6 sv_9 sv_10 sv_11 0 _ _ _ h0_104 (Nat.lt_succ_self _) hP hD hS hl
set_option maxRecDepth 100000 in
theorem cu_X4_weatherFraction_n (l : Launch) (D : va_G) (tc : Nat → ClassId) (sk : (Nat → Nat) × (Nat → Nat)) (Oa_0 : Nat) (Oa_2 : Nat) (Oj_0 : Int64) (Og_2 : Nat → Int64) (Ta_0 : Nat) (Ta_1 : Nat) (Ta_2 : Nat) (Ta_3 : Nat) (Ta_4 : Nat) (Ta_5 : Nat) (Ta_6 : Nat) (Ta_7 : Nat) (Ta_8 : Nat) (Tv_0 : Int32) (Tv_1 : Int32) (Tv_2 : Int32) (Tv_3 : Int32) (Tv_4 : Int32) (Tv_5 : Int32) (Tf_1 : Nat → Int32) (Tf_2 : Nat → Int32) (Tf_3 : Nat → Int32) (Tf_4 : Nat → Int32) (Tf_5 : Nat → Int32) (Tf_6 : Nat → Int32) (Tf_7 : Nat → Int32) (Tf_8 : Nat → Int32) (Aa_0 : Nat) (Aa_1 : Nat) (Aa_2 : Nat) (Aa_3 : Nat) (Aa_4 : Nat) (Aa_5 : Nat) (Aa_6 : Nat) (Aa_7 : Nat) (Aa_8 : Nat) (Av_0 : Int32) (Av_1 : Int32) (Av_2 : Int32) (Av_3 : Int32) (Av_4 : Int32) (Av_5 : Int32) (Af_1 : Nat → Int32) (Af_2 : Nat → Int32) (Af_3 : Nat → Int32) (Af_4 : Nat → Int32) (Af_5 : Nat → Int32) (Af_6 : Nat → Int32) (Af_7 : Nat → Int32) (Af_8 : Nat → Int32) (x1 : Int32) (x2 : Int32)  : Ct l yX4_weatherFraction cX4_weatherFraction 10 (some .int) { frames := 3, cells := 0, slots := 0, locals := 69 } D tc sk [.ref Oa_0, .ref Aa_0, .null, .int x1, .int x2] [(Oa_0, .inr (4, [.ref Ta_0, .ref Oa_2, .long Oj_0])), (Oa_2, .inl (tc 1, 61, .inr (.inl Og_2))), (Ta_0, .inr (9, [.int Tv_0, .int Tv_1, .int Tv_2, .int Tv_3, .int Tv_4, .int Tv_5, .ref Ta_1, .ref Ta_2, .ref Ta_3, .ref Ta_4, .ref Ta_5, .ref Ta_6, .ref Ta_7, .ref Ta_8])), (Ta_1, .inl (tc 0, 10, .inl Tf_1)), (Ta_2, .inl (tc 0, 10, .inl Tf_2)), (Ta_3, .inl (tc 0, 6, .inl Tf_3)), (Ta_4, .inl (tc 0, 6, .inl Tf_4)), (Ta_5, .inl (tc 0, 6, .inl Tf_5)), (Ta_6, .inl (tc 0, 6, .inl Tf_6)), (Ta_7, .inl (tc 0, 6, .inl Tf_7)), (Ta_8, .inl (tc 0, 6, .inl Tf_8)), (Aa_0, .inr (9, [.int Av_0, .int Av_1, .int Av_2, .int Av_3, .int Av_4, .int Av_5, .ref Aa_1, .ref Aa_2, .ref Aa_3, .ref Aa_4, .ref Aa_5, .ref Aa_6, .ref Aa_7, .ref Aa_8])), (Aa_1, .inl (tc 0, 10, .inl Af_1)), (Aa_2, .inl (tc 0, 10, .inl Af_2)), (Aa_3, .inl (tc 0, 6, .inl Af_3)), (Aa_4, .inl (tc 0, 6, .inl Af_4)), (Aa_5, .inl (tc 0, 6, .inl Af_5)), (Aa_6, .inl (tc 0, 6, .inl Af_6)), (Aa_7, .inl (tc 0, 6, .inl Af_7)), (Aa_8, .inl (tc 0, 6, .inl Af_8))] (fun (v : Option Value) (u : (Int32) × (Int32) × (Int32) × (Nat → Int32) × (Nat → Int32) × (Nat → Int32) × (Nat → Int32) × (Nat → Int32) × (Nat → Int32) × (Nat → Int32) × (Nat → Int32)) => match u with | (o1, o2, o3, o4, o5, o6, o7, o8, o9, o10, o11) => ∃ r : Int32, v = some (.int r) ∧ (True)) (fun (u : (Int32) × (Int32) × (Int32) × (Nat → Int32) × (Nat → Int32) × (Nat → Int32) × (Nat → Int32) × (Nat → Int32) × (Nat → Int32) × (Nat → Int32) × (Nat → Int32)) => match u with | (o1, o2, o3, o4, o5, o6, o7, o8, o9, o10, o11) => [(Oa_0, .inr (4, [.ref Ta_0, .ref Oa_2, .long Oj_0])), (Oa_2, .inl (tc 1, 61, .inr (.inl Og_2))), (Ta_0, .inr (9, [.int o1, .int Av_1, .int Av_2, .int Av_3, .int o2, .int o3, .ref Ta_1, .ref Ta_2, .ref Ta_3, .ref Ta_4, .ref Ta_5, .ref Ta_6, .ref Ta_7, .ref Ta_8])), (Ta_1, .inl (tc 0, 10, .inl o4)), (Ta_2, .inl (tc 0, 10, .inl o5)), (Ta_3, .inl (tc 0, 6, .inl o6)), (Ta_4, .inl (tc 0, 6, .inl o7)), (Ta_5, .inl (tc 0, 6, .inl o8)), (Ta_6, .inl (tc 0, 6, .inl o9)), (Ta_7, .inl (tc 0, 6, .inl o10)), (Ta_8, .inl (tc 0, 6, .inl o11)), (Aa_0, .inr (9, [.int Av_0, .int Av_1, .int Av_2, .int Av_3, .int Av_4, .int Av_5, .ref Aa_1, .ref Aa_2, .ref Aa_3, .ref Aa_4, .ref Aa_5, .ref Aa_6, .ref Aa_7, .ref Aa_8])), (Aa_1, .inl (tc 0, 10, .inl Af_1)), (Aa_2, .inl (tc 0, 10, .inl Af_2)), (Aa_3, .inl (tc 0, 6, .inl Af_3)), (Aa_4, .inl (tc 0, 6, .inl Af_4)), (Aa_5, .inl (tc 0, 6, .inl Af_5)), (Aa_6, .inl (tc 0, 6, .inl Af_6)), (Aa_7, .inl (tc 0, 6, .inl Af_7)), (Aa_8, .inl (tc 0, 6, .inl Af_8))]) 0 0 :=
  ct_X4_weatherFraction_n l D tc sk (fun k => ([Oa_0, 0, Oa_2] : List (Nat)).getD k 0) (fun k => ([Oj_0] : List (Int64)).getD k 0) (fun k => ([(fun _ => 0), (fun _ => 0), Og_2] : List (Nat → Int64)).getD k (fun _ => 0)) (fun k => ([Ta_0, Ta_1, Ta_2, Ta_3, Ta_4, Ta_5, Ta_6, Ta_7, Ta_8] : List (Nat)).getD k 0) (fun k => ([Tv_0, Tv_1, Tv_2, Tv_3, Tv_4, Tv_5] : List (Int32)).getD k 0) (fun k => ([(fun _ => 0), Tf_1, Tf_2, Tf_3, Tf_4, Tf_5, Tf_6, Tf_7, Tf_8] : List (Nat → Int32)).getD k (fun _ => 0)) (fun k => ([Aa_0, Aa_1, Aa_2, Aa_3, Aa_4, Aa_5, Aa_6, Aa_7, Aa_8] : List (Nat)).getD k 0) (fun k => ([Av_0, Av_1, Av_2, Av_3, Av_4, Av_5] : List (Int32)).getD k 0) (fun k => ([(fun _ => 0), Af_1, Af_2, Af_3, Af_4, Af_5, Af_6, Af_7, Af_8] : List (Nat → Int32)).getD k (fun _ => 0)) x1 x2 
set_option maxHeartbeats 4000000 in
set_option maxRecDepth 100000 in
theorem ct_X4_firstRing_n (l : Launch) (D : va_G) (tc : Nat → ClassId) (sk : (Nat → Nat) × (Nat → Nat)) (Oa : Nat → Nat) (Oj : Nat → Int64) (Og : Nat → Nat → Int64) (Ta : Nat → Nat) (Tv : Nat → Int32) (Tf : Nat → Nat → Int32) (Aa : Nat → Nat) (Av : Nat → Int32) (Af : Nat → Nat → Int32) (x1 : Int32)  : Ct l yX4_firstRing cX4_firstRing 6 (some .int) { frames := 3, cells := 0, slots := 0, locals := 69 } D tc sk [.ref (Oa 0), .ref (Aa 0), .null, .int x1] [((Oa 0), .inr (4, [.ref (Ta 0), .ref (Oa 2), .long (Oj 0)])), ((Oa 2), .inl (tc 1, 61, .inr (.inl (Og 2)))), ((Ta 0), .inr (9, [.int (Tv 0), .int (Tv 1), .int (Tv 2), .int (Tv 3), .int (Tv 4), .int (Tv 5), .ref (Ta 1), .ref (Ta 2), .ref (Ta 3), .ref (Ta 4), .ref (Ta 5), .ref (Ta 6), .ref (Ta 7), .ref (Ta 8)])), ((Ta 1), .inl (tc 0, 10, .inl (Tf 1))), ((Ta 2), .inl (tc 0, 10, .inl (Tf 2))), ((Ta 3), .inl (tc 0, 6, .inl (Tf 3))), ((Ta 4), .inl (tc 0, 6, .inl (Tf 4))), ((Ta 5), .inl (tc 0, 6, .inl (Tf 5))), ((Ta 6), .inl (tc 0, 6, .inl (Tf 6))), ((Ta 7), .inl (tc 0, 6, .inl (Tf 7))), ((Ta 8), .inl (tc 0, 6, .inl (Tf 8))), ((Aa 0), .inr (9, [.int (Av 0), .int (Av 1), .int (Av 2), .int (Av 3), .int (Av 4), .int (Av 5), .ref (Aa 1), .ref (Aa 2), .ref (Aa 3), .ref (Aa 4), .ref (Aa 5), .ref (Aa 6), .ref (Aa 7), .ref (Aa 8)])), ((Aa 1), .inl (tc 0, 10, .inl (Af 1))), ((Aa 2), .inl (tc 0, 10, .inl (Af 2))), ((Aa 3), .inl (tc 0, 6, .inl (Af 3))), ((Aa 4), .inl (tc 0, 6, .inl (Af 4))), ((Aa 5), .inl (tc 0, 6, .inl (Af 5))), ((Aa 6), .inl (tc 0, 6, .inl (Af 6))), ((Aa 7), .inl (tc 0, 6, .inl (Af 7))), ((Aa 8), .inl (tc 0, 6, .inl (Af 8)))] (fun (v : Option Value) (u : (Nat → Int64) × (Int32) × (Int32) × (Int32) × (Nat → Int32) × (Nat → Int32) × (Nat → Int32) × (Nat → Int32) × (Nat → Int32) × (Nat → Int32) × (Nat → Int32) × (Nat → Int32)) => match u with | (o1, o2, o3, o4, o5, o6, o7, o8, o9, o10, o11, o12) => ∃ r : Int32, v = some (.int r) ∧ (True)) (fun (u : (Nat → Int64) × (Int32) × (Int32) × (Int32) × (Nat → Int32) × (Nat → Int32) × (Nat → Int32) × (Nat → Int32) × (Nat → Int32) × (Nat → Int32) × (Nat → Int32) × (Nat → Int32)) => match u with | (o1, o2, o3, o4, o5, o6, o7, o8, o9, o10, o11, o12) => [((Oa 0), .inr (4, [.ref (Ta 0), .ref (Oa 2), .long (Oj 0)])), ((Oa 2), .inl (tc 1, 61, .inr (.inl o1))), ((Ta 0), .inr (9, [.int o2, .int (Av 1), .int (Av 2), .int (Av 3), .int o3, .int o4, .ref (Ta 1), .ref (Ta 2), .ref (Ta 3), .ref (Ta 4), .ref (Ta 5), .ref (Ta 6), .ref (Ta 7), .ref (Ta 8)])), ((Ta 1), .inl (tc 0, 10, .inl o5)), ((Ta 2), .inl (tc 0, 10, .inl o6)), ((Ta 3), .inl (tc 0, 6, .inl o7)), ((Ta 4), .inl (tc 0, 6, .inl o8)), ((Ta 5), .inl (tc 0, 6, .inl o9)), ((Ta 6), .inl (tc 0, 6, .inl o10)), ((Ta 7), .inl (tc 0, 6, .inl o11)), ((Ta 8), .inl (tc 0, 6, .inl o12)), ((Aa 0), .inr (9, [.int (Av 0), .int (Av 1), .int (Av 2), .int (Av 3), .int (Av 4), .int (Av 5), .ref (Aa 1), .ref (Aa 2), .ref (Aa 3), .ref (Aa 4), .ref (Aa 5), .ref (Aa 6), .ref (Aa 7), .ref (Aa 8)])), ((Aa 1), .inl (tc 0, 10, .inl (Af 1))), ((Aa 2), .inl (tc 0, 10, .inl (Af 2))), ((Aa 3), .inl (tc 0, 6, .inl (Af 3))), ((Aa 4), .inl (tc 0, 6, .inl (Af 4))), ((Aa 5), .inl (tc 0, 6, .inl (Af 5))), ((Aa 6), .inl (tc 0, 6, .inl (Af 6))), ((Aa 7), .inl (tc 0, 6, .inl (Af 7))), ((Aa 8), .inl (tc 0, 6, .inl (Af 8)))]) 0 0 := by
  refine Ct.start (by decide) (Nat.le_of_ble_eq_true rfl) (fun p e s m below meth c A ls hx hb hr hlk hin hml hown hts hK hX hP hD hA hl hS => ?_)
  have hl : lv_has ls 6 [(0, .ref (Oa 0)), (1, .ref (Aa 0)), (2, .null), (3, .int x1)] := hl
  refine lv_aload_n hx hb dX4_firstRing_0 rfl (lv_at hl 0 rfl) ?_
  refine gf_X4_12 hx hb hts hown hK hP 0 rfl rfl dX4_firstRing_1 ?_
  refine lv_aload_n hx hb dX4_firstRing_4 rfl (lv_at hl 1 rfl) ?_
  refine cV (a := (Ta 0)) (As := [.ref (Aa 0)]) (rest := []) (wr := [((Oa 0), .inr (4, [.ref (Ta 0), .ref (Oa 2), .long (Oj 0)])), ((Oa 2), .inl (tc 1, 61, .inr (.inl (Og 2))))]) ⟨hx, hb, hml, hown, hts⟩ hK hX hA (cu_X9_copyFrom l D tc sk (Ta 0) (Ta 1) (Ta 2) (Ta 3) (Ta 4) (Ta 5) (Ta 6) (Ta 7) (Ta 8) (Tv 0) (Tv 1) (Tv 2) (Tv 3) (Tv 4) (Tv 5) (Tf 1) (Tf 2) (Tf 3) (Tf 4) (Tf 5) (Tf 6) (Tf 7) (Tf 8) (Aa 0) (Aa 1) (Aa 2) (Aa 3) (Aa 4) (Aa 5) (Aa 6) (Aa 7) (Aa 8) (Av 0) (Av 1) (Av 2) (Av 3) (Av 4) (Av 5) (Af 1) (Af 2) (Af 3) (Af 4) (Af 5) (Af 6) (Af 7) (Af 8)) k_599 k_814 k_597 k_598 k_98 pl_X9_copyFrom ⟨Nat.le_of_ble_eq_true rfl, Nat.le_of_ble_eq_true rfl⟩ rfl rfl (va_recv hK hP (ci := 9) (q0 := 2) rfl rfl) hP hD hS [2, 3, 4, 5, 6, 7, 8, 9, 10, 11, 12, 13, 14, 15, 16, 17, 18, 19] [0, 1] rfl rfl rfl rfl rfl (by decide) rfl hl.1 rfl (Nat.le_of_ble_eq_true rfl) dX4_firstRing_5 ⟨Nat.le_of_ble_eq_true rfl, Nat.le_of_ble_eq_true rfl⟩ (fun v_1 u_2 H locs hv_3 hP hD hS => ?_)
  obtain ⟨sv_4, sv_5, sv_6, sv_7, sv_8, sv_9, sv_10, sv_11⟩ := u_2
  obtain rfl : v_1 = none := hv_3
  refine W.eq (g2 := F0 m 8 ls []) rfl ?_
  have hP : va_P D classes [((Oa 0), .inr (4, [.ref (Ta 0), .ref (Oa 2), .long (Oj 0)])), ((Oa 2), .inl (tc 1, 61, .inr (.inl (Og 2)))), ((Ta 0), .inr (9, [.int (Av 0), .int (Av 1), .int (Av 2), .int (Av 3), .int (Av 4), .int (Av 5), .ref (Ta 1), .ref (Ta 2), .ref (Ta 3), .ref (Ta 4), .ref (Ta 5), .ref (Ta 6), .ref (Ta 7), .ref (Ta 8)])), ((Ta 1), .inl (tc 0, 10, .inl sv_4)), ((Ta 2), .inl (tc 0, 10, .inl sv_5)), ((Ta 3), .inl (tc 0, 6, .inl sv_6)), ((Ta 4), .inl (tc 0, 6, .inl sv_7)), ((Ta 5), .inl (tc 0, 6, .inl sv_8)), ((Ta 6), .inl (tc 0, 6, .inl sv_9)), ((Ta 7), .inl (tc 0, 6, .inl sv_10)), ((Ta 8), .inl (tc 0, 6, .inl sv_11)), ((Aa 0), .inr (9, [.int (Av 0), .int (Av 1), .int (Av 2), .int (Av 3), .int (Av 4), .int (Av 5), .ref (Aa 1), .ref (Aa 2), .ref (Aa 3), .ref (Aa 4), .ref (Aa 5), .ref (Aa 6), .ref (Aa 7), .ref (Aa 8)])), ((Aa 1), .inl (tc 0, 10, .inl (Af 1))), ((Aa 2), .inl (tc 0, 10, .inl (Af 2))), ((Aa 3), .inl (tc 0, 6, .inl (Af 3))), ((Aa 4), .inl (tc 0, 6, .inl (Af 4))), ((Aa 5), .inl (tc 0, 6, .inl (Af 5))), ((Aa 6), .inl (tc 0, 6, .inl (Af 6))), ((Aa 7), .inl (tc 0, 6, .inl (Af 7))), ((Aa 8), .inl (tc 0, 6, .inl (Af 8)))] H := hP
  have hD : va_D A [((Oa 0), .inr (4, [.ref (Ta 0), .ref (Oa 2), .long (Oj 0)])), ((Oa 2), .inl (tc 1, 61, .inr (.inl (Og 2)))), ((Ta 0), .inr (9, [.int (Av 0), .int (Av 1), .int (Av 2), .int (Av 3), .int (Av 4), .int (Av 5), .ref (Ta 1), .ref (Ta 2), .ref (Ta 3), .ref (Ta 4), .ref (Ta 5), .ref (Ta 6), .ref (Ta 7), .ref (Ta 8)])), ((Ta 1), .inl (tc 0, 10, .inl sv_4)), ((Ta 2), .inl (tc 0, 10, .inl sv_5)), ((Ta 3), .inl (tc 0, 6, .inl sv_6)), ((Ta 4), .inl (tc 0, 6, .inl sv_7)), ((Ta 5), .inl (tc 0, 6, .inl sv_8)), ((Ta 6), .inl (tc 0, 6, .inl sv_9)), ((Ta 7), .inl (tc 0, 6, .inl sv_10)), ((Ta 8), .inl (tc 0, 6, .inl sv_11)), ((Aa 0), .inr (9, [.int (Av 0), .int (Av 1), .int (Av 2), .int (Av 3), .int (Av 4), .int (Av 5), .ref (Aa 1), .ref (Aa 2), .ref (Aa 3), .ref (Aa 4), .ref (Aa 5), .ref (Aa 6), .ref (Aa 7), .ref (Aa 8)])), ((Aa 1), .inl (tc 0, 10, .inl (Af 1))), ((Aa 2), .inl (tc 0, 10, .inl (Af 2))), ((Aa 3), .inl (tc 0, 6, .inl (Af 3))), ((Aa 4), .inl (tc 0, 6, .inl (Af 4))), ((Aa 5), .inl (tc 0, 6, .inl (Af 5))), ((Aa 6), .inl (tc 0, 6, .inl (Af 6))), ((Aa 7), .inl (tc 0, 6, .inl (Af 7))), ((Aa 8), .inl (tc 0, 6, .inl (Af 8)))] := hD
  refine lv_iconst (v := 0) hx hb dX4_firstRing_8 (by decide) ?_
  refine lv_istore (lv' := [(4, .int 0), (0, .ref (Oa 0)), (1, .ref (Aa 0)), (2, .null), (3, .int x1)]) hx hb dX4_firstRing_9 hl (by decide) rfl (fun ls hl => ?_)
  have loop_33 : ∀ (n_31 : Nat) (vy_22 : Int32) (vy_23 : Nat → Int64) (vy_24 : Int32) (vy_25 : Int32) (vy_26 : Int32) (vy_27 : Nat → Int32) (vy_28 : Nat → Int32) (vy_29 : Nat → Int32) (vy_30 : Nat → Int32) (H : Heap) (locs : List Loc) (ls : Array Slot), 0 ≤ (vy_22 : Int32).toInt → (61 - (vy_22 : Int32).toInt).toNat < n_31 → va_P D classes [((Oa 0), .inr (4, [.ref (Ta 0), .ref (Oa 2), .long (Oj 0)])), ((Oa 2), .inl (tc 1, 61, .inr (.inl vy_23))), ((Ta 0), .inr (9, [.int vy_24, .int (Av 1), .int (Av 2), .int (Av 3), .int vy_25, .int vy_26, .ref (Ta 1), .ref (Ta 2), .ref (Ta 3), .ref (Ta 4), .ref (Ta 5), .ref (Ta 6), .ref (Ta 7), .ref (Ta 8)])), ((Ta 1), .inl (tc 0, 10, .inl sv_4)), ((Ta 2), .inl (tc 0, 10, .inl sv_5)), ((Ta 3), .inl (tc 0, 6, .inl vy_27)), ((Ta 4), .inl (tc 0, 6, .inl sv_7)), ((Ta 5), .inl (tc 0, 6, .inl sv_8)), ((Ta 6), .inl (tc 0, 6, .inl vy_28)), ((Ta 7), .inl (tc 0, 6, .inl vy_29)), ((Ta 8), .inl (tc 0, 6, .inl vy_30)), ((Aa 0), .inr (9, [.int (Av 0), .int (Av 1), .int (Av 2), .int (Av 3), .int (Av 4), .int (Av 5), .ref (Aa 1), .ref (Aa 2), .ref (Aa 3), .ref (Aa 4), .ref (Aa 5), .ref (Aa 6), .ref (Aa 7), .ref (Aa 8)])), ((Aa 1), .inl (tc 0, 10, .inl (Af 1))), ((Aa 2), .inl (tc 0, 10, .inl (Af 2))), ((Aa 3), .inl (tc 0, 6, .inl (Af 3))), ((Aa 4), .inl (tc 0, 6, .inl (Af 4))), ((Aa 5), .inl (tc 0, 6, .inl (Af 5))), ((Aa 6), .inl (tc 0, 6, .inl (Af 6))), ((Aa 7), .inl (tc 0, 6, .inl (Af 7))), ((Aa 8), .inl (tc 0, 6, .inl (Af 8)))] H → va_D A [((Oa 0), .inr (4, [.ref (Ta 0), .ref (Oa 2), .long (Oj 0)])), ((Oa 2), .inl (tc 1, 61, .inr (.inl vy_23))), ((Ta 0), .inr (9, [.int vy_24, .int (Av 1), .int (Av 2), .int (Av 3), .int vy_25, .int vy_26, .ref (Ta 1), .ref (Ta 2), .ref (Ta 3), .ref (Ta 4), .ref (Ta 5), .ref (Ta 6), .ref (Ta 7), .ref (Ta 8)])), ((Ta 1), .inl (tc 0, 10, .inl sv_4)), ((Ta 2), .inl (tc 0, 10, .inl sv_5)), ((Ta 3), .inl (tc 0, 6, .inl vy_27)), ((Ta 4), .inl (tc 0, 6, .inl sv_7)), ((Ta 5), .inl (tc 0, 6, .inl sv_8)), ((Ta 6), .inl (tc 0, 6, .inl vy_28)), ((Ta 7), .inl (tc 0, 6, .inl vy_29)), ((Ta 8), .inl (tc 0, 6, .inl vy_30)), ((Aa 0), .inr (9, [.int (Av 0), .int (Av 1), .int (Av 2), .int (Av 3), .int (Av 4), .int (Av 5), .ref (Aa 1), .ref (Aa 2), .ref (Aa 3), .ref (Aa 4), .ref (Aa 5), .ref (Aa 6), .ref (Aa 7), .ref (Aa 8)])), ((Aa 1), .inl (tc 0, 10, .inl (Af 1))), ((Aa 2), .inl (tc 0, 10, .inl (Af 2))), ((Aa 3), .inl (tc 0, 6, .inl (Af 3))), ((Aa 4), .inl (tc 0, 6, .inl (Af 4))), ((Aa 5), .inl (tc 0, 6, .inl (Af 5))), ((Aa 6), .inl (tc 0, 6, .inl (Af 6))), ((Aa 7), .inl (tc 0, 6, .inl (Af 7))), ((Aa 8), .inl (tc 0, 6, .inl (Af 8)))] → va_S A s.heap H locs → lv_has ls 6 [(4, .int vy_22), (0, .ref (Oa 0)), (1, .ref (Aa 0)), (2, .null), (3, .int x1)] → W p l e ({ frames := 3, cells := 0, slots := 0, locals := 69 }) s m ([.ref (Oa 0), .ref (Aa 0), .null, .int x1].toArray) below meth c H locs 0 0 (MQ below (QW (fun (v : Option Value) (u : (Nat → Int64) × (Int32) × (Int32) × (Int32) × (Nat → Int32) × (Nat → Int32) × (Nat → Int32) × (Nat → Int32) × (Nat → Int32) × (Nat → Int32) × (Nat → Int32) × (Nat → Int32)) => match u with | (o1, o2, o3, o4, o5, o6, o7, o8, o9, o10, o11, o12) => ∃ r : Int32, v = some (.int r) ∧ (True)) (BW D (fun (u : (Nat → Int64) × (Int32) × (Int32) × (Int32) × (Nat → Int32) × (Nat → Int32) × (Nat → Int32) × (Nat → Int32) × (Nat → Int32) × (Nat → Int32) × (Nat → Int32) × (Nat → Int32)) => match u with | (o1, o2, o3, o4, o5, o6, o7, o8, o9, o10, o11, o12) => [((Oa 0), .inr (4, [.ref (Ta 0), .ref (Oa 2), .long (Oj 0)])), ((Oa 2), .inl (tc 1, 61, .inr (.inl o1))), ((Ta 0), .inr (9, [.int o2, .int (Av 1), .int (Av 2), .int (Av 3), .int o3, .int o4, .ref (Ta 1), .ref (Ta 2), .ref (Ta 3), .ref (Ta 4), .ref (Ta 5), .ref (Ta 6), .ref (Ta 7), .ref (Ta 8)])), ((Ta 1), .inl (tc 0, 10, .inl o5)), ((Ta 2), .inl (tc 0, 10, .inl o6)), ((Ta 3), .inl (tc 0, 6, .inl o7)), ((Ta 4), .inl (tc 0, 6, .inl o8)), ((Ta 5), .inl (tc 0, 6, .inl o9)), ((Ta 6), .inl (tc 0, 6, .inl o10)), ((Ta 7), .inl (tc 0, 6, .inl o11)), ((Ta 8), .inl (tc 0, 6, .inl o12)), ((Aa 0), .inr (9, [.int (Av 0), .int (Av 1), .int (Av 2), .int (Av 3), .int (Av 4), .int (Av 5), .ref (Aa 1), .ref (Aa 2), .ref (Aa 3), .ref (Aa 4), .ref (Aa 5), .ref (Aa 6), .ref (Aa 7), .ref (Aa 8)])), ((Aa 1), .inl (tc 0, 10, .inl (Af 1))), ((Aa 2), .inl (tc 0, 10, .inl (Af 2))), ((Aa 3), .inl (tc 0, 6, .inl (Af 3))), ((Aa 4), .inl (tc 0, 6, .inl (Af 4))), ((Aa 5), .inl (tc 0, 6, .inl (Af 5))), ((Aa 6), .inl (tc 0, 6, .inl (Af 6))), ((Aa 7), .inl (tc 0, 6, .inl (Af 7))), ((Aa 8), .inl (tc 0, 6, .inl (Af 8)))]) A) A) ([.ref (Oa 0), .ref (Aa 0), .null, .int x1].toArray) s 0 0 A) (F0 m 11 ls []) := by
    intro n_31
    induction n_31 with
    | zero =>
      intro vy_22 vy_23 vy_24 vy_25 vy_26 vy_27 vy_28 vy_29 vy_30 H locs ls h1 h2
      exact absurd h2 (Nat.not_lt_zero _)
    | succ n_31 ih_32 =>
      intro vy_22 vy_23 vy_24 vy_25 vy_26 vy_27 vy_28 vy_29 vy_30 H locs ls hi_35 hn_36 hP hD hS hl
      refine lv_iload hx hb dX4_firstRing_11 (lv_at hl 0 rfl) ?_
      refine lv_aload_n hx hb dX4_firstRing_13 rfl (lv_at hl 1 rfl) ?_
      refine gf_X4_18 hx hb hts hown hK hP 0 rfl rfl dX4_firstRing_14 ?_
      refine va_alen hx hb hK hP 1 1 rfl rfl (v := 61) rfl dX4_firstRing_17 ?_
      refine lv_icmp_ge (tgt := 50) hx hb dX4_firstRing_18 (by decide) (fun c_37 => ?_) (fun c_37 => ?_)
      · skip
        refine lv_iconst (v := 0) hx hb dX4_firstRing_50 (by decide) ?_
        refine lv_istore (lv' := [(4, .int 0), (0, .ref (Oa 0)), (1, .ref (Aa 0)), (2, .null), (3, .int x1)]) hx hb dX4_firstRing_51 hl (by decide) rfl (fun ls hl => ?_)
        have loop_42 : ∀ (n_40 : Nat) (vy_39 : Int32) (H : Heap) (locs : List Loc) (ls : Array Slot), 0 ≤ (vy_39 : Int32).toInt → (61 - (vy_39 : Int32).toInt).toNat < n_40 → va_P D classes [((Oa 0), .inr (4, [.ref (Ta 0), .ref (Oa 2), .long (Oj 0)])), ((Oa 2), .inl (tc 1, 61, .inr (.inl vy_23))), ((Ta 0), .inr (9, [.int vy_24, .int (Av 1), .int (Av 2), .int (Av 3), .int vy_25, .int vy_26, .ref (Ta 1), .ref (Ta 2), .ref (Ta 3), .ref (Ta 4), .ref (Ta 5), .ref (Ta 6), .ref (Ta 7), .ref (Ta 8)])), ((Ta 1), .inl (tc 0, 10, .inl sv_4)), ((Ta 2), .inl (tc 0, 10, .inl sv_5)), ((Ta 3), .inl (tc 0, 6, .inl vy_27)), ((Ta 4), .inl (tc 0, 6, .inl sv_7)), ((Ta 5), .inl (tc 0, 6, .inl sv_8)), ((Ta 6), .inl (tc 0, 6, .inl vy_28)), ((Ta 7), .inl (tc 0, 6, .inl vy_29)), ((Ta 8), .inl (tc 0, 6, .inl vy_30)), ((Aa 0), .inr (9, [.int (Av 0), .int (Av 1), .int (Av 2), .int (Av 3), .int (Av 4), .int (Av 5), .ref (Aa 1), .ref (Aa 2), .ref (Aa 3), .ref (Aa 4), .ref (Aa 5), .ref (Aa 6), .ref (Aa 7), .ref (Aa 8)])), ((Aa 1), .inl (tc 0, 10, .inl (Af 1))), ((Aa 2), .inl (tc 0, 10, .inl (Af 2))), ((Aa 3), .inl (tc 0, 6, .inl (Af 3))), ((Aa 4), .inl (tc 0, 6, .inl (Af 4))), ((Aa 5), .inl (tc 0, 6, .inl (Af 5))), ((Aa 6), .inl (tc 0, 6, .inl (Af 6))), ((Aa 7), .inl (tc 0, 6, .inl (Af 7))), ((Aa 8), .inl (tc 0, 6, .inl (Af 8)))] H → va_D A [((Oa 0), .inr (4, [.ref (Ta 0), .ref (Oa 2), .long (Oj 0)])), ((Oa 2), .inl (tc 1, 61, .inr (.inl vy_23))), ((Ta 0), .inr (9, [.int vy_24, .int (Av 1), .int (Av 2), .int (Av 3), .int vy_25, .int vy_26, .ref (Ta 1), .ref (Ta 2), .ref (Ta 3), .ref (Ta 4), .ref (Ta 5), .ref (Ta 6), .ref (Ta 7), .ref (Ta 8)])), ((Ta 1), .inl (tc 0, 10, .inl sv_4)), ((Ta 2), .inl (tc 0, 10, .inl sv_5)), ((Ta 3), .inl (tc 0, 6, .inl vy_27)), ((Ta 4), .inl (tc 0, 6, .inl sv_7)), ((Ta 5), .inl (tc 0, 6, .inl sv_8)), ((Ta 6), .inl (tc 0, 6, .inl vy_28)), ((Ta 7), .inl (tc 0, 6, .inl vy_29)), ((Ta 8), .inl (tc 0, 6, .inl vy_30)), ((Aa 0), .inr (9, [.int (Av 0), .int (Av 1), .int (Av 2), .int (Av 3), .int (Av 4), .int (Av 5), .ref (Aa 1), .ref (Aa 2), .ref (Aa 3), .ref (Aa 4), .ref (Aa 5), .ref (Aa 6), .ref (Aa 7), .ref (Aa 8)])), ((Aa 1), .inl (tc 0, 10, .inl (Af 1))), ((Aa 2), .inl (tc 0, 10, .inl (Af 2))), ((Aa 3), .inl (tc 0, 6, .inl (Af 3))), ((Aa 4), .inl (tc 0, 6, .inl (Af 4))), ((Aa 5), .inl (tc 0, 6, .inl (Af 5))), ((Aa 6), .inl (tc 0, 6, .inl (Af 6))), ((Aa 7), .inl (tc 0, 6, .inl (Af 7))), ((Aa 8), .inl (tc 0, 6, .inl (Af 8)))] → va_S A s.heap H locs → lv_has ls 6 [(4, .int vy_39), (0, .ref (Oa 0)), (1, .ref (Aa 0)), (2, .null), (3, .int x1)] → W p l e ({ frames := 3, cells := 0, slots := 0, locals := 69 }) s m ([.ref (Oa 0), .ref (Aa 0), .null, .int x1].toArray) below meth c H locs 0 0 (MQ below (QW (fun (v : Option Value) (u : (Nat → Int64) × (Int32) × (Int32) × (Int32) × (Nat → Int32) × (Nat → Int32) × (Nat → Int32) × (Nat → Int32) × (Nat → Int32) × (Nat → Int32) × (Nat → Int32) × (Nat → Int32)) => match u with | (o1, o2, o3, o4, o5, o6, o7, o8, o9, o10, o11, o12) => ∃ r : Int32, v = some (.int r) ∧ (True)) (BW D (fun (u : (Nat → Int64) × (Int32) × (Int32) × (Int32) × (Nat → Int32) × (Nat → Int32) × (Nat → Int32) × (Nat → Int32) × (Nat → Int32) × (Nat → Int32) × (Nat → Int32) × (Nat → Int32)) => match u with | (o1, o2, o3, o4, o5, o6, o7, o8, o9, o10, o11, o12) => [((Oa 0), .inr (4, [.ref (Ta 0), .ref (Oa 2), .long (Oj 0)])), ((Oa 2), .inl (tc 1, 61, .inr (.inl o1))), ((Ta 0), .inr (9, [.int o2, .int (Av 1), .int (Av 2), .int (Av 3), .int o3, .int o4, .ref (Ta 1), .ref (Ta 2), .ref (Ta 3), .ref (Ta 4), .ref (Ta 5), .ref (Ta 6), .ref (Ta 7), .ref (Ta 8)])), ((Ta 1), .inl (tc 0, 10, .inl o5)), ((Ta 2), .inl (tc 0, 10, .inl o6)), ((Ta 3), .inl (tc 0, 6, .inl o7)), ((Ta 4), .inl (tc 0, 6, .inl o8)), ((Ta 5), .inl (tc 0, 6, .inl o9)), ((Ta 6), .inl (tc 0, 6, .inl o10)), ((Ta 7), .inl (tc 0, 6, .inl o11)), ((Ta 8), .inl (tc 0, 6, .inl o12)), ((Aa 0), .inr (9, [.int (Av 0), .int (Av 1), .int (Av 2), .int (Av 3), .int (Av 4), .int (Av 5), .ref (Aa 1), .ref (Aa 2), .ref (Aa 3), .ref (Aa 4), .ref (Aa 5), .ref (Aa 6), .ref (Aa 7), .ref (Aa 8)])), ((Aa 1), .inl (tc 0, 10, .inl (Af 1))), ((Aa 2), .inl (tc 0, 10, .inl (Af 2))), ((Aa 3), .inl (tc 0, 6, .inl (Af 3))), ((Aa 4), .inl (tc 0, 6, .inl (Af 4))), ((Aa 5), .inl (tc 0, 6, .inl (Af 5))), ((Aa 6), .inl (tc 0, 6, .inl (Af 6))), ((Aa 7), .inl (tc 0, 6, .inl (Af 7))), ((Aa 8), .inl (tc 0, 6, .inl (Af 8)))]) A) A) ([.ref (Oa 0), .ref (Aa 0), .null, .int x1].toArray) s 0 0 A) (F0 m 53 ls []) := by
          intro n_40
          induction n_40 with
          | zero =>
            intro vy_39 H locs ls h1 h2
            exact absurd h2 (Nat.not_lt_zero _)
          | succ n_40 ih_41 =>
            intro vy_39 H locs ls hi_44 hn_45 hP hD hS hl
            refine lv_iload hx hb dX4_firstRing_53 (lv_at hl 0 rfl) ?_
            refine lv_aload_n hx hb dX4_firstRing_55 rfl (lv_at hl 1 rfl) ?_
            refine gf_X4_18 hx hb hts hown hK hP 0 rfl rfl dX4_firstRing_56 ?_
            refine va_alen hx hb hK hP 1 1 rfl rfl (v := 61) rfl dX4_firstRing_59 ?_
            refine lv_icmp_ge (tgt := 129) hx hb dX4_firstRing_60 (by decide) (fun c_46 => ?_) (fun c_46 => ?_)
            · skip
              refine lv_bipush (v := (-2)) hx hb dX4_firstRing_129 (by decide) ?_
              exact retI (v := (-2)) hx hb hr hlk (rfl) hP hD hS (vy_23, vy_24, vy_25, vy_26, sv_4, sv_5, vy_27, sv_7, sv_8, vy_28, vy_29, vy_30) ⟨_, rfl, trivial⟩ [0, 1, 2, 3, 4, 5, 6, 7, 8, 9, 10, 11, 12, 13, 14, 15, 16, 17, 18, 19] rfl rfl dX4_firstRing_131 (Nat.le_of_ble_eq_true rfl) (Nat.le_of_ble_eq_true rfl) rfl
            · skip
              refine lv_iload hx hb dX4_firstRing_63 (lv_at hl 0 rfl) ?_
              refine lv_iconst (v := 1) hx hb dX4_firstRing_65 (by decide) ?_
              refine lv_iadd hx hb dX4_firstRing_66 ?_
              refine lv_topi (fun x_47 ex_47 => ?_)
              refine lv_istore (lv' := [(5, .int x_47), (4, .int vy_39), (0, .ref (Oa 0)), (1, .ref (Aa 0)), (2, .null), (3, .int x1)]) hx hb dX4_firstRing_67 hl (by decide) rfl (fun ls hl => ?_)
              have loop_52 : ∀ (n_50 : Nat) (vy_49 : Int32) (H : Heap) (locs : List Loc) (ls : Array Slot), 0 ≤ (vy_49 : Int32).toInt → (61 - (vy_49 : Int32).toInt).toNat < n_50 → va_P D classes [((Oa 0), .inr (4, [.ref (Ta 0), .ref (Oa 2), .long (Oj 0)])), ((Oa 2), .inl (tc 1, 61, .inr (.inl vy_23))), ((Ta 0), .inr (9, [.int vy_24, .int (Av 1), .int (Av 2), .int (Av 3), .int vy_25, .int vy_26, .ref (Ta 1), .ref (Ta 2), .ref (Ta 3), .ref (Ta 4), .ref (Ta 5), .ref (Ta 6), .ref (Ta 7), .ref (Ta 8)])), ((Ta 1), .inl (tc 0, 10, .inl sv_4)), ((Ta 2), .inl (tc 0, 10, .inl sv_5)), ((Ta 3), .inl (tc 0, 6, .inl vy_27)), ((Ta 4), .inl (tc 0, 6, .inl sv_7)), ((Ta 5), .inl (tc 0, 6, .inl sv_8)), ((Ta 6), .inl (tc 0, 6, .inl vy_28)), ((Ta 7), .inl (tc 0, 6, .inl vy_29)), ((Ta 8), .inl (tc 0, 6, .inl vy_30)), ((Aa 0), .inr (9, [.int (Av 0), .int (Av 1), .int (Av 2), .int (Av 3), .int (Av 4), .int (Av 5), .ref (Aa 1), .ref (Aa 2), .ref (Aa 3), .ref (Aa 4), .ref (Aa 5), .ref (Aa 6), .ref (Aa 7), .ref (Aa 8)])), ((Aa 1), .inl (tc 0, 10, .inl (Af 1))), ((Aa 2), .inl (tc 0, 10, .inl (Af 2))), ((Aa 3), .inl (tc 0, 6, .inl (Af 3))), ((Aa 4), .inl (tc 0, 6, .inl (Af 4))), ((Aa 5), .inl (tc 0, 6, .inl (Af 5))), ((Aa 6), .inl (tc 0, 6, .inl (Af 6))), ((Aa 7), .inl (tc 0, 6, .inl (Af 7))), ((Aa 8), .inl (tc 0, 6, .inl (Af 8)))] H → va_D A [((Oa 0), .inr (4, [.ref (Ta 0), .ref (Oa 2), .long (Oj 0)])), ((Oa 2), .inl (tc 1, 61, .inr (.inl vy_23))), ((Ta 0), .inr (9, [.int vy_24, .int (Av 1), .int (Av 2), .int (Av 3), .int vy_25, .int vy_26, .ref (Ta 1), .ref (Ta 2), .ref (Ta 3), .ref (Ta 4), .ref (Ta 5), .ref (Ta 6), .ref (Ta 7), .ref (Ta 8)])), ((Ta 1), .inl (tc 0, 10, .inl sv_4)), ((Ta 2), .inl (tc 0, 10, .inl sv_5)), ((Ta 3), .inl (tc 0, 6, .inl vy_27)), ((Ta 4), .inl (tc 0, 6, .inl sv_7)), ((Ta 5), .inl (tc 0, 6, .inl sv_8)), ((Ta 6), .inl (tc 0, 6, .inl vy_28)), ((Ta 7), .inl (tc 0, 6, .inl vy_29)), ((Ta 8), .inl (tc 0, 6, .inl vy_30)), ((Aa 0), .inr (9, [.int (Av 0), .int (Av 1), .int (Av 2), .int (Av 3), .int (Av 4), .int (Av 5), .ref (Aa 1), .ref (Aa 2), .ref (Aa 3), .ref (Aa 4), .ref (Aa 5), .ref (Aa 6), .ref (Aa 7), .ref (Aa 8)])), ((Aa 1), .inl (tc 0, 10, .inl (Af 1))), ((Aa 2), .inl (tc 0, 10, .inl (Af 2))), ((Aa 3), .inl (tc 0, 6, .inl (Af 3))), ((Aa 4), .inl (tc 0, 6, .inl (Af 4))), ((Aa 5), .inl (tc 0, 6, .inl (Af 5))), ((Aa 6), .inl (tc 0, 6, .inl (Af 6))), ((Aa 7), .inl (tc 0, 6, .inl (Af 7))), ((Aa 8), .inl (tc 0, 6, .inl (Af 8)))] → va_S A s.heap H locs → lv_has ls 6 [(5, .int vy_49), (4, .int vy_39), (0, .ref (Oa 0)), (1, .ref (Aa 0)), (2, .null), (3, .int x1)] → W p l e ({ frames := 3, cells := 0, slots := 0, locals := 69 }) s m ([.ref (Oa 0), .ref (Aa 0), .null, .int x1].toArray) below meth c H locs 0 0 (MQ below (QW (fun (v : Option Value) (u : (Nat → Int64) × (Int32) × (Int32) × (Int32) × (Nat → Int32) × (Nat → Int32) × (Nat → Int32) × (Nat → Int32) × (Nat → Int32) × (Nat → Int32) × (Nat → Int32) × (Nat → Int32)) => match u with | (o1, o2, o3, o4, o5, o6, o7, o8, o9, o10, o11, o12) => ∃ r : Int32, v = some (.int r) ∧ (True)) (BW D (fun (u : (Nat → Int64) × (Int32) × (Int32) × (Int32) × (Nat → Int32) × (Nat → Int32) × (Nat → Int32) × (Nat → Int32) × (Nat → Int32) × (Nat → Int32) × (Nat → Int32) × (Nat → Int32)) => match u with | (o1, o2, o3, o4, o5, o6, o7, o8, o9, o10, o11, o12) => [((Oa 0), .inr (4, [.ref (Ta 0), .ref (Oa 2), .long (Oj 0)])), ((Oa 2), .inl (tc 1, 61, .inr (.inl o1))), ((Ta 0), .inr (9, [.int o2, .int (Av 1), .int (Av 2), .int (Av 3), .int o3, .int o4, .ref (Ta 1), .ref (Ta 2), .ref (Ta 3), .ref (Ta 4), .ref (Ta 5), .ref (Ta 6), .ref (Ta 7), .ref (Ta 8)])), ((Ta 1), .inl (tc 0, 10, .inl o5)), ((Ta 2), .inl (tc 0, 10, .inl o6)), ((Ta 3), .inl (tc 0, 6, .inl o7)), ((Ta 4), .inl (tc 0, 6, .inl o8)), ((Ta 5), .inl (tc 0, 6, .inl o9)), ((Ta 6), .inl (tc 0, 6, .inl o10)), ((Ta 7), .inl (tc 0, 6, .inl o11)), ((Ta 8), .inl (tc 0, 6, .inl o12)), ((Aa 0), .inr (9, [.int (Av 0), .int (Av 1), .int (Av 2), .int (Av 3), .int (Av 4), .int (Av 5), .ref (Aa 1), .ref (Aa 2), .ref (Aa 3), .ref (Aa 4), .ref (Aa 5), .ref (Aa 6), .ref (Aa 7), .ref (Aa 8)])), ((Aa 1), .inl (tc 0, 10, .inl (Af 1))), ((Aa 2), .inl (tc 0, 10, .inl (Af 2))), ((Aa 3), .inl (tc 0, 6, .inl (Af 3))), ((Aa 4), .inl (tc 0, 6, .inl (Af 4))), ((Aa 5), .inl (tc 0, 6, .inl (Af 5))), ((Aa 6), .inl (tc 0, 6, .inl (Af 6))), ((Aa 7), .inl (tc 0, 6, .inl (Af 7))), ((Aa 8), .inl (tc 0, 6, .inl (Af 8)))]) A) A) ([.ref (Oa 0), .ref (Aa 0), .null, .int x1].toArray) s 0 0 A) (F0 m 69 ls []) := by
                intro n_50
                induction n_50 with
                | zero =>
                  intro vy_49 H locs ls h1 h2
                  exact absurd h2 (Nat.not_lt_zero _)
                | succ n_50 ih_51 =>
                  intro vy_49 H locs ls hi_54 hn_55 hP hD hS hl
                  refine lv_iload hx hb dX4_firstRing_69 (lv_at hl 0 rfl) ?_
                  refine lv_aload_n hx hb dX4_firstRing_71 rfl (lv_at hl 2 rfl) ?_
                  refine gf_X4_18 hx hb hts hown hK hP 0 rfl rfl dX4_firstRing_72 ?_
                  refine va_alen hx hb hK hP 1 1 rfl rfl (v := 61) rfl dX4_firstRing_75 ?_
                  refine lv_icmp_ge (tgt := 123) hx hb dX4_firstRing_76 (by decide) (fun c_56 => ?_) (fun c_56 => ?_)
                  · skip
                    obtain ⟨x_57, ex_57⟩ : ∃ y : Int32, y = vy_39 + 1 := ⟨_, rfl⟩
                    refine lv_iinc (v := x_57) (lv' := [(4, .int x_57), (5, .int vy_49), (0, .ref (Oa 0)), (1, .ref (Aa 0)), (2, .null), (3, .int x1)]) hx hb dX4_firstRing_123 hl (k := 1) rfl (by rw [ex_57]; rfl) (by decide) rfl (fun ls hl => ?_)
                    refine lv_goto (tgt := 53) hx hb dX4_firstRing_126 (by decide) ?_
                    have hb_58 : 0 ≤ (x_57 : Int32).toInt ∧ (61 - (x_57 : Int32).toInt).toNat < n_40 := by
                      have z_1 := Int32.le_iff_toInt_le.mp c_37
                      have z_2 := Int32.lt_iff_toInt_lt.mp (Int32.not_le.mp c_46)
                      have z_3 := Int32.le_iff_toInt_le.mp c_56
                      have y_61 : (61 : Int32).toInt = 61 := by decide
                      have y_1 : (1 : Int32).toInt = 1 := by decide
                      have t_x_57 : x_57.toInt = (vy_39 : Int32).toInt + (1 : Int32).toInt := by rw [ex_57]; exact add_toInt (by omega) (by omega)
                      omega
                    exact ih_41 x_57 _ _ _ hb_58.1 hb_58.2 (hP.sub [0, 1, 2, 3, 4, 5, 6, 7, 8, 9, 10, 11, 12, 13, 14, 15, 16, 17, 18, 19] rfl) (hD.sub [0, 1, 2, 3, 4, 5, 6, 7, 8, 9, 10, 11, 12, 13, 14, 15, 16, 17, 18, 19] rfl rfl) hS (lv_sub hl [0, 2, 3, 4, 5] rfl)
                  · skip
                    refine lv_aload_n hx hb dX4_firstRing_79 rfl (lv_at hl 2 rfl) ?_
                    refine gf_X4_18 hx hb hts hown hK hP 0 rfl rfl dX4_firstRing_80 ?_
                    refine lv_iload hx hb dX4_firstRing_83 (lv_at hl 1 rfl) ?_
                    have hi_59 : vp_in vy_39 61 := by
                      have z_1 := Int32.le_iff_toInt_le.mp c_37
                      have z_2 := Int32.lt_iff_toInt_lt.mp (Int32.not_le.mp c_46)
                      have z_3 := Int32.lt_iff_toInt_lt.mp (Int32.not_le.mp c_56)
                      have y_61 : (61 : Int32).toInt = 61 := by decide
                      refine vp_in_iff.mpr ⟨?_, ?_⟩ <;> omega
                    refine va_lald hx hb hK hP 1 1 rfl rfl hi_59 dX4_firstRing_85 ?_
                    refine lv_topl (fun x_60 ex_60 => ?_)
                    refine lv_aload_n hx hb dX4_firstRing_86 rfl (lv_at hl 2 rfl) ?_
                    refine gf_X4_18 hx hb hts hown hK hP 0 rfl rfl dX4_firstRing_87 ?_
                    refine lv_iload hx hb dX4_firstRing_90 (lv_at hl 0 rfl) ?_
                    have hi_61 : vp_in vy_49 61 := by
                      have z_1 := Int32.le_iff_toInt_le.mp c_37
                      have z_2 := Int32.lt_iff_toInt_lt.mp (Int32.not_le.mp c_46)
                      have z_3 := Int32.lt_iff_toInt_lt.mp (Int32.not_le.mp c_56)
                      have y_61 : (61 : Int32).toInt = 61 := by decide
                      refine vp_in_iff.mpr ⟨?_, ?_⟩ <;> omega
                    refine va_lald hx hb hK hP 1 1 rfl rfl hi_61 dX4_firstRing_92 ?_
                    refine lv_topl (fun x_62 ex_62 => ?_)
                    refine W.lcmp hx hb dX4_firstRing_93 ?_
                    refine lv_topi (fun x_63 ex_63 => ?_)
                    refine lv_if_ne (tgt := 117) hx hb dX4_firstRing_94 (by decide) (fun c_64 => ?_) (fun c_64 => ?_)
                    · skip
                      obtain ⟨x_65, ex_65⟩ : ∃ y : Int32, y = vy_49 + 1 := ⟨_, rfl⟩
                      refine lv_iinc (v := x_65) (lv' := [(5, .int x_65), (4, .int vy_39), (0, .ref (Oa 0)), (1, .ref (Aa 0)), (2, .null), (3, .int x1)]) hx hb dX4_firstRing_117 hl (k := 0) rfl (by rw [ex_65]; rfl) (by decide) rfl (fun ls hl => ?_)
                      refine lv_goto (tgt := 69) hx hb dX4_firstRing_120 (by decide) ?_
                      have hb_66 : 0 ≤ (x_65 : Int32).toInt ∧ (61 - (x_65 : Int32).toInt).toNat < n_50 := by
                        have z_1 := Int32.le_iff_toInt_le.mp c_37
                        have z_2 := Int32.lt_iff_toInt_lt.mp (Int32.not_le.mp c_46)
                        have z_3 := Int32.lt_iff_toInt_lt.mp (Int32.not_le.mp c_56)
                        have z_4 : ¬ (x_63 : Int32).toInt = (0 : Int32).toInt := fun z => c_64 (Int32.toInt_inj.mp z)
                        have y_0 : (0 : Int32).toInt = 0 := by decide
                        have y_61 : (61 : Int32).toInt = 61 := by decide
                        have y_1 : (1 : Int32).toInt = 1 := by decide
                        have t_x_65 : x_65.toInt = (vy_49 : Int32).toInt + (1 : Int32).toInt := by rw [ex_65]; exact add_toInt (by omega) (by omega)
                        omega
                      exact ih_51 x_65 _ _ _ hb_66.1 hb_66.2 (hP.sub [0, 1, 2, 3, 4, 5, 6, 7, 8, 9, 10, 11, 12, 13, 14, 15, 16, 17, 18, 19] rfl) (hD.sub [0, 1, 2, 3, 4, 5, 6, 7, 8, 9, 10, 11, 12, 13, 14, 15, 16, 17, 18, 19] rfl rfl) hS (lv_sub hl [0, 1, 2, 3, 4, 5] rfl)
                    · skip
                      refine lv_iload_n hx hb dX4_firstRing_97 rfl (lv_at hl 5 rfl) ?_
                      refine lv_if_ne (tgt := 111) hx hb dX4_firstRing_98 (by decide) (fun c_67 => ?_) (fun c_67 => ?_)
                      · skip
                        refine lv_iload hx hb dX4_firstRing_111 (lv_at hl 0 rfl) ?_
                        refine lv_iload hx hb dX4_firstRing_113 (lv_at hl 1 rfl) ?_
                        refine lv_isub hx hb dX4_firstRing_115 ?_
                        refine lv_topi (fun x_68 ex_68 => ?_)
                        exact retI (v := x_68) hx hb hr hlk (rfl) hP hD hS (vy_23, vy_24, vy_25, vy_26, sv_4, sv_5, vy_27, sv_7, sv_8, vy_28, vy_29, vy_30) ⟨_, rfl, trivial⟩ [0, 1, 2, 3, 4, 5, 6, 7, 8, 9, 10, 11, 12, 13, 14, 15, 16, 17, 18, 19] rfl rfl dX4_firstRing_116 (Nat.le_of_ble_eq_true rfl) (Nat.le_of_ble_eq_true rfl) rfl
                      · skip
                        refine lv_aload_n hx hb dX4_firstRing_101 rfl (lv_at hl 3 rfl) ?_
                        refine gf_X4_53 hx hb hts hown hK hP 11 rfl rfl dX4_firstRing_102 ?_
                        refine lv_iload hx hb dX4_firstRing_105 (lv_at hl 1 rfl) ?_
                        refine lv_iadd hx hb dX4_firstRing_107 ?_
                        refine lv_topi (fun x_69 ex_69 => ?_)
                        refine lv_goto (tgt := 116) hx hb dX4_firstRing_108 (by decide) ?_
                        exact retI (v := x_69) hx hb hr hlk (rfl) hP hD hS (vy_23, vy_24, vy_25, vy_26, sv_4, sv_5, vy_27, sv_7, sv_8, vy_28, vy_29, vy_30) ⟨_, rfl, trivial⟩ [0, 1, 2, 3, 4, 5, 6, 7, 8, 9, 10, 11, 12, 13, 14, 15, 16, 17, 18, 19] rfl rfl dX4_firstRing_116 (Nat.le_of_ble_eq_true rfl) (Nat.le_of_ble_eq_true rfl) rfl
              have h0_70 : 0 ≤ (x_47 : Int32).toInt := by
                have z_1 := Int32.le_iff_toInt_le.mp c_37
                have z_2 := Int32.lt_iff_toInt_lt.mp (Int32.not_le.mp c_46)
                have y_61 : (61 : Int32).toInt = 61 := by decide
                have y_1 : (1 : Int32).toInt = 1 := by decide
                have t_x_47 : x_47.toInt = (vy_39 : Int32).toInt + (1 : Int32).toInt := by rw [ex_47]; exact add_toInt (by omega) (by omega)
                omega
              exact loop_52 _ x_47 _ _ _ h0_70 (Nat.lt_succ_self _) hP hD hS hl
        have h0_71 : 0 ≤ (0 : Int32).toInt := by
          have z_1 := Int32.le_iff_toInt_le.mp c_37
          have y_61 : (61 : Int32).toInt = 61 := by decide
          have y_0 : (0 : Int32).toInt = 0 := by decide
          decide
        exact loop_42 _ 0 _ _ _ h0_71 (Nat.lt_succ_self _) hP hD hS hl
      · skip
        refine lv_aload_n hx hb dX4_firstRing_21 rfl (lv_at hl 1 rfl) ?_
        refine gf_X4_18 hx hb hts hown hK hP 0 rfl rfl dX4_firstRing_22 ?_
        refine lv_iload hx hb dX4_firstRing_25 (lv_at hl 0 rfl) ?_
        refine lv_aload_n hx hb dX4_firstRing_27 rfl (lv_at hl 1 rfl) ?_
        refine gf_X4_12 hx hb hts hown hK hP 0 rfl rfl dX4_firstRing_28 ?_
        refine cV (a := (Ta 0)) (As := []) (rest := [.int vy_22, .ref (Oa 2)]) (wr := [((Oa 0), .inr (4, [.ref (Ta 0), .ref (Oa 2), .long (Oj 0)])), ((Oa 2), .inl (tc 1, 61, .inr (.inl vy_23))), ((Aa 0), .inr (9, [.int (Av 0), .int (Av 1), .int (Av 2), .int (Av 3), .int (Av 4), .int (Av 5), .ref (Aa 1), .ref (Aa 2), .ref (Aa 3), .ref (Aa 4), .ref (Aa 5), .ref (Aa 6), .ref (Aa 7), .ref (Aa 8)])), ((Aa 1), .inl (tc 0, 10, .inl (Af 1))), ((Aa 2), .inl (tc 0, 10, .inl (Af 2))), ((Aa 3), .inl (tc 0, 6, .inl (Af 3))), ((Aa 4), .inl (tc 0, 6, .inl (Af 4))), ((Aa 5), .inl (tc 0, 6, .inl (Af 5))), ((Aa 6), .inl (tc 0, 6, .inl (Af 6))), ((Aa 7), .inl (tc 0, 6, .inl (Af 7))), ((Aa 8), .inl (tc 0, 6, .inl (Af 8)))]) ⟨hx, hb, hml, hown, hts⟩ hK hX hA (cu_X9_likeness l D tc sk (Ta 0) (Ta 1) (Ta 2) (Ta 3) (Ta 4) (Ta 5) (Ta 6) (Ta 7) (Ta 8) vy_24 (Av 1) (Av 2) (Av 3) vy_25 vy_26 sv_4 sv_5 vy_27 sv_7 sv_8 vy_28 vy_29 vy_30) k_956 k_953 k_954 k_955 k_98 pl_X9_likeness ⟨Nat.le_of_ble_eq_true rfl, Nat.le_of_ble_eq_true rfl⟩ rfl rfl (va_recv hK hP (ci := 9) (q0 := 2) rfl rfl) hP hD hS [2, 3, 4, 5, 6, 7, 8, 9, 10] [0, 1, 11, 12, 13, 14, 15, 16, 17, 18, 19] rfl rfl rfl rfl rfl (by decide) rfl hl.1 rfl (Nat.le_of_ble_eq_true rfl) dX4_firstRing_31 ⟨Nat.le_of_ble_eq_true rfl, Nat.le_of_ble_eq_true rfl⟩ (fun v_72 u_73 H locs hv_74 hP hD hS => ?_)
        obtain ⟨r_75, rfl, he_76⟩ := hv_74
        have he_76 : (True) := he_76
        refine W.eq (g2 := F0 m 34 ls [.long r_75, .int vy_22, .ref (Oa 2)]) rfl ?_
        have hP : va_P D classes [((Oa 0), .inr (4, [.ref (Ta 0), .ref (Oa 2), .long (Oj 0)])), ((Oa 2), .inl (tc 1, 61, .inr (.inl vy_23))), ((Aa 0), .inr (9, [.int (Av 0), .int (Av 1), .int (Av 2), .int (Av 3), .int (Av 4), .int (Av 5), .ref (Aa 1), .ref (Aa 2), .ref (Aa 3), .ref (Aa 4), .ref (Aa 5), .ref (Aa 6), .ref (Aa 7), .ref (Aa 8)])), ((Aa 1), .inl (tc 0, 10, .inl (Af 1))), ((Aa 2), .inl (tc 0, 10, .inl (Af 2))), ((Aa 3), .inl (tc 0, 6, .inl (Af 3))), ((Aa 4), .inl (tc 0, 6, .inl (Af 4))), ((Aa 5), .inl (tc 0, 6, .inl (Af 5))), ((Aa 6), .inl (tc 0, 6, .inl (Af 6))), ((Aa 7), .inl (tc 0, 6, .inl (Af 7))), ((Aa 8), .inl (tc 0, 6, .inl (Af 8))), ((Ta 0), .inr (9, [.int vy_24, .int (Av 1), .int (Av 2), .int (Av 3), .int vy_25, .int vy_26, .ref (Ta 1), .ref (Ta 2), .ref (Ta 3), .ref (Ta 4), .ref (Ta 5), .ref (Ta 6), .ref (Ta 7), .ref (Ta 8)])), ((Ta 1), .inl (tc 0, 10, .inl sv_4)), ((Ta 2), .inl (tc 0, 10, .inl sv_5)), ((Ta 3), .inl (tc 0, 6, .inl vy_27)), ((Ta 4), .inl (tc 0, 6, .inl sv_7)), ((Ta 5), .inl (tc 0, 6, .inl sv_8)), ((Ta 6), .inl (tc 0, 6, .inl vy_28)), ((Ta 7), .inl (tc 0, 6, .inl vy_29)), ((Ta 8), .inl (tc 0, 6, .inl vy_30))] H := hP
        have hD : va_D A [((Oa 0), .inr (4, [.ref (Ta 0), .ref (Oa 2), .long (Oj 0)])), ((Oa 2), .inl (tc 1, 61, .inr (.inl vy_23))), ((Aa 0), .inr (9, [.int (Av 0), .int (Av 1), .int (Av 2), .int (Av 3), .int (Av 4), .int (Av 5), .ref (Aa 1), .ref (Aa 2), .ref (Aa 3), .ref (Aa 4), .ref (Aa 5), .ref (Aa 6), .ref (Aa 7), .ref (Aa 8)])), ((Aa 1), .inl (tc 0, 10, .inl (Af 1))), ((Aa 2), .inl (tc 0, 10, .inl (Af 2))), ((Aa 3), .inl (tc 0, 6, .inl (Af 3))), ((Aa 4), .inl (tc 0, 6, .inl (Af 4))), ((Aa 5), .inl (tc 0, 6, .inl (Af 5))), ((Aa 6), .inl (tc 0, 6, .inl (Af 6))), ((Aa 7), .inl (tc 0, 6, .inl (Af 7))), ((Aa 8), .inl (tc 0, 6, .inl (Af 8))), ((Ta 0), .inr (9, [.int vy_24, .int (Av 1), .int (Av 2), .int (Av 3), .int vy_25, .int vy_26, .ref (Ta 1), .ref (Ta 2), .ref (Ta 3), .ref (Ta 4), .ref (Ta 5), .ref (Ta 6), .ref (Ta 7), .ref (Ta 8)])), ((Ta 1), .inl (tc 0, 10, .inl sv_4)), ((Ta 2), .inl (tc 0, 10, .inl sv_5)), ((Ta 3), .inl (tc 0, 6, .inl vy_27)), ((Ta 4), .inl (tc 0, 6, .inl sv_7)), ((Ta 5), .inl (tc 0, 6, .inl sv_8)), ((Ta 6), .inl (tc 0, 6, .inl vy_28)), ((Ta 7), .inl (tc 0, 6, .inl vy_29)), ((Ta 8), .inl (tc 0, 6, .inl vy_30))] := hD
        have hi_77 : vp_in vy_22 61 := by
          have z_1 := Int32.lt_iff_toInt_lt.mp (Int32.not_le.mp c_37)
          have y_61 : (61 : Int32).toInt = 61 := by decide
          refine vp_in_iff.mpr ⟨?_, ?_⟩ <;> omega
        refine st_long hx hb hK hP hD hS 1 1 rfl rfl hi_77 dX4_firstRing_34 (fun g_78 H locs eg_78 hP hD hS => ?_)
        have hP : va_P D classes [((Oa 0), .inr (4, [.ref (Ta 0), .ref (Oa 2), .long (Oj 0)])), ((Oa 2), .inl (tc 1, 61, .inr (.inl g_78))), ((Aa 0), .inr (9, [.int (Av 0), .int (Av 1), .int (Av 2), .int (Av 3), .int (Av 4), .int (Av 5), .ref (Aa 1), .ref (Aa 2), .ref (Aa 3), .ref (Aa 4), .ref (Aa 5), .ref (Aa 6), .ref (Aa 7), .ref (Aa 8)])), ((Aa 1), .inl (tc 0, 10, .inl (Af 1))), ((Aa 2), .inl (tc 0, 10, .inl (Af 2))), ((Aa 3), .inl (tc 0, 6, .inl (Af 3))), ((Aa 4), .inl (tc 0, 6, .inl (Af 4))), ((Aa 5), .inl (tc 0, 6, .inl (Af 5))), ((Aa 6), .inl (tc 0, 6, .inl (Af 6))), ((Aa 7), .inl (tc 0, 6, .inl (Af 7))), ((Aa 8), .inl (tc 0, 6, .inl (Af 8))), ((Ta 0), .inr (9, [.int vy_24, .int (Av 1), .int (Av 2), .int (Av 3), .int vy_25, .int vy_26, .ref (Ta 1), .ref (Ta 2), .ref (Ta 3), .ref (Ta 4), .ref (Ta 5), .ref (Ta 6), .ref (Ta 7), .ref (Ta 8)])), ((Ta 1), .inl (tc 0, 10, .inl sv_4)), ((Ta 2), .inl (tc 0, 10, .inl sv_5)), ((Ta 3), .inl (tc 0, 6, .inl vy_27)), ((Ta 4), .inl (tc 0, 6, .inl sv_7)), ((Ta 5), .inl (tc 0, 6, .inl sv_8)), ((Ta 6), .inl (tc 0, 6, .inl vy_28)), ((Ta 7), .inl (tc 0, 6, .inl vy_29)), ((Ta 8), .inl (tc 0, 6, .inl vy_30))] H := hP
        have hD : va_D A [((Oa 0), .inr (4, [.ref (Ta 0), .ref (Oa 2), .long (Oj 0)])), ((Oa 2), .inl (tc 1, 61, .inr (.inl g_78))), ((Aa 0), .inr (9, [.int (Av 0), .int (Av 1), .int (Av 2), .int (Av 3), .int (Av 4), .int (Av 5), .ref (Aa 1), .ref (Aa 2), .ref (Aa 3), .ref (Aa 4), .ref (Aa 5), .ref (Aa 6), .ref (Aa 7), .ref (Aa 8)])), ((Aa 1), .inl (tc 0, 10, .inl (Af 1))), ((Aa 2), .inl (tc 0, 10, .inl (Af 2))), ((Aa 3), .inl (tc 0, 6, .inl (Af 3))), ((Aa 4), .inl (tc 0, 6, .inl (Af 4))), ((Aa 5), .inl (tc 0, 6, .inl (Af 5))), ((Aa 6), .inl (tc 0, 6, .inl (Af 6))), ((Aa 7), .inl (tc 0, 6, .inl (Af 7))), ((Aa 8), .inl (tc 0, 6, .inl (Af 8))), ((Ta 0), .inr (9, [.int vy_24, .int (Av 1), .int (Av 2), .int (Av 3), .int vy_25, .int vy_26, .ref (Ta 1), .ref (Ta 2), .ref (Ta 3), .ref (Ta 4), .ref (Ta 5), .ref (Ta 6), .ref (Ta 7), .ref (Ta 8)])), ((Ta 1), .inl (tc 0, 10, .inl sv_4)), ((Ta 2), .inl (tc 0, 10, .inl sv_5)), ((Ta 3), .inl (tc 0, 6, .inl vy_27)), ((Ta 4), .inl (tc 0, 6, .inl sv_7)), ((Ta 5), .inl (tc 0, 6, .inl sv_8)), ((Ta 6), .inl (tc 0, 6, .inl vy_28)), ((Ta 7), .inl (tc 0, 6, .inl vy_29)), ((Ta 8), .inl (tc 0, 6, .inl vy_30))] := hD
        refine lv_aload_n hx hb dX4_firstRing_35 rfl (lv_at hl 1 rfl) ?_
        refine gf_X4_12 hx hb hts hown hK hP 0 rfl rfl dX4_firstRing_36 ?_
        refine lv_aload_nN hx hb dX4_firstRing_39 rfl (lv_at hl 3 rfl) ?_
        refine cV (a := (Ta 0)) (As := [.null]) (rest := []) (wr := [((Oa 0), .inr (4, [.ref (Ta 0), .ref (Oa 2), .long (Oj 0)])), ((Oa 2), .inl (tc 1, 61, .inr (.inl g_78))), ((Aa 0), .inr (9, [.int (Av 0), .int (Av 1), .int (Av 2), .int (Av 3), .int (Av 4), .int (Av 5), .ref (Aa 1), .ref (Aa 2), .ref (Aa 3), .ref (Aa 4), .ref (Aa 5), .ref (Aa 6), .ref (Aa 7), .ref (Aa 8)])), ((Aa 1), .inl (tc 0, 10, .inl (Af 1))), ((Aa 2), .inl (tc 0, 10, .inl (Af 2))), ((Aa 3), .inl (tc 0, 6, .inl (Af 3))), ((Aa 4), .inl (tc 0, 6, .inl (Af 4))), ((Aa 5), .inl (tc 0, 6, .inl (Af 5))), ((Aa 6), .inl (tc 0, 6, .inl (Af 6))), ((Aa 7), .inl (tc 0, 6, .inl (Af 7))), ((Aa 8), .inl (tc 0, 6, .inl (Af 8)))]) ⟨hx, hb, hml, hown, hts⟩ hK hX hA (cu_X9_goThroughDay_n l D tc sk (Ta 0) (Ta 1) (Ta 2) (Ta 3) (Ta 4) (Ta 5) (Ta 6) (Ta 7) (Ta 8) vy_24 (Av 1) (Av 2) (Av 3) vy_25 vy_26 sv_4 sv_5 vy_27 sv_7 sv_8 vy_28 vy_29 vy_30) k_739 k_829 k_737 k_738 k_98 pl_X9_goThroughDay ⟨Nat.le_of_ble_eq_true rfl, Nat.le_of_ble_eq_true rfl⟩ rfl rfl (va_recv hK hP (ci := 9) (q0 := 11) rfl rfl) hP hD hS [11, 12, 13, 14, 15, 16, 17, 18, 19] [0, 1, 2, 3, 4, 5, 6, 7, 8, 9, 10] rfl rfl rfl rfl rfl (by decide) rfl hl.1 rfl (Nat.le_of_ble_eq_true rfl) dX4_firstRing_40 ⟨Nat.le_of_ble_eq_true rfl, Nat.le_of_ble_eq_true rfl⟩ (fun v_79 u_80 H locs hv_81 hP hD hS => ?_)
        obtain ⟨sv_82, sv_83, sv_84, sv_85, sv_86, sv_87, sv_88⟩ := u_80
        obtain ⟨r_89, rfl, he_90⟩ := hv_81
        have he_90 : (True) := he_90
        refine W.eq (g2 := F0 m 43 ls [.int r_89]) rfl ?_
        have hP : va_P D classes [((Oa 0), .inr (4, [.ref (Ta 0), .ref (Oa 2), .long (Oj 0)])), ((Oa 2), .inl (tc 1, 61, .inr (.inl g_78))), ((Aa 0), .inr (9, [.int (Av 0), .int (Av 1), .int (Av 2), .int (Av 3), .int (Av 4), .int (Av 5), .ref (Aa 1), .ref (Aa 2), .ref (Aa 3), .ref (Aa 4), .ref (Aa 5), .ref (Aa 6), .ref (Aa 7), .ref (Aa 8)])), ((Aa 1), .inl (tc 0, 10, .inl (Af 1))), ((Aa 2), .inl (tc 0, 10, .inl (Af 2))), ((Aa 3), .inl (tc 0, 6, .inl (Af 3))), ((Aa 4), .inl (tc 0, 6, .inl (Af 4))), ((Aa 5), .inl (tc 0, 6, .inl (Af 5))), ((Aa 6), .inl (tc 0, 6, .inl (Af 6))), ((Aa 7), .inl (tc 0, 6, .inl (Af 7))), ((Aa 8), .inl (tc 0, 6, .inl (Af 8))), ((Ta 0), .inr (9, [.int sv_82, .int (Av 1), .int (Av 2), .int (Av 3), .int sv_83, .int sv_84, .ref (Ta 1), .ref (Ta 2), .ref (Ta 3), .ref (Ta 4), .ref (Ta 5), .ref (Ta 6), .ref (Ta 7), .ref (Ta 8)])), ((Ta 1), .inl (tc 0, 10, .inl sv_4)), ((Ta 2), .inl (tc 0, 10, .inl sv_5)), ((Ta 3), .inl (tc 0, 6, .inl sv_85)), ((Ta 4), .inl (tc 0, 6, .inl sv_7)), ((Ta 5), .inl (tc 0, 6, .inl sv_8)), ((Ta 6), .inl (tc 0, 6, .inl sv_86)), ((Ta 7), .inl (tc 0, 6, .inl sv_87)), ((Ta 8), .inl (tc 0, 6, .inl sv_88))] H := hP
        have hD : va_D A [((Oa 0), .inr (4, [.ref (Ta 0), .ref (Oa 2), .long (Oj 0)])), ((Oa 2), .inl (tc 1, 61, .inr (.inl g_78))), ((Aa 0), .inr (9, [.int (Av 0), .int (Av 1), .int (Av 2), .int (Av 3), .int (Av 4), .int (Av 5), .ref (Aa 1), .ref (Aa 2), .ref (Aa 3), .ref (Aa 4), .ref (Aa 5), .ref (Aa 6), .ref (Aa 7), .ref (Aa 8)])), ((Aa 1), .inl (tc 0, 10, .inl (Af 1))), ((Aa 2), .inl (tc 0, 10, .inl (Af 2))), ((Aa 3), .inl (tc 0, 6, .inl (Af 3))), ((Aa 4), .inl (tc 0, 6, .inl (Af 4))), ((Aa 5), .inl (tc 0, 6, .inl (Af 5))), ((Aa 6), .inl (tc 0, 6, .inl (Af 6))), ((Aa 7), .inl (tc 0, 6, .inl (Af 7))), ((Aa 8), .inl (tc 0, 6, .inl (Af 8))), ((Ta 0), .inr (9, [.int sv_82, .int (Av 1), .int (Av 2), .int (Av 3), .int sv_83, .int sv_84, .ref (Ta 1), .ref (Ta 2), .ref (Ta 3), .ref (Ta 4), .ref (Ta 5), .ref (Ta 6), .ref (Ta 7), .ref (Ta 8)])), ((Ta 1), .inl (tc 0, 10, .inl sv_4)), ((Ta 2), .inl (tc 0, 10, .inl sv_5)), ((Ta 3), .inl (tc 0, 6, .inl sv_85)), ((Ta 4), .inl (tc 0, 6, .inl sv_7)), ((Ta 5), .inl (tc 0, 6, .inl sv_8)), ((Ta 6), .inl (tc 0, 6, .inl sv_86)), ((Ta 7), .inl (tc 0, 6, .inl sv_87)), ((Ta 8), .inl (tc 0, 6, .inl sv_88))] := hD
        refine lv_pop hx hb dX4_firstRing_43 rfl ?_
        obtain ⟨x_91, ex_91⟩ : ∃ y : Int32, y = vy_22 + 1 := ⟨_, rfl⟩
        refine lv_iinc (v := x_91) (lv' := [(4, .int x_91), (0, .ref (Oa 0)), (1, .ref (Aa 0)), (2, .null), (3, .int x1)]) hx hb dX4_firstRing_44 hl (k := 0) rfl (by rw [ex_91]; rfl) (by decide) rfl (fun ls hl => ?_)
        refine lv_goto (tgt := 11) hx hb dX4_firstRing_47 (by decide) ?_
        have hb_92 : 0 ≤ (x_91 : Int32).toInt ∧ (61 - (x_91 : Int32).toInt).toNat < n_31 := by
          have z_1 := Int32.lt_iff_toInt_lt.mp (Int32.not_le.mp c_37)
          have y_61 : (61 : Int32).toInt = 61 := by decide
          have y_1 : (1 : Int32).toInt = 1 := by decide
          have t_x_91 : x_91.toInt = (vy_22 : Int32).toInt + (1 : Int32).toInt := by rw [ex_91]; exact add_toInt (by omega) (by omega)
          omega
        exact ih_32 x_91 g_78 sv_82 sv_83 sv_84 sv_85 sv_86 sv_87 sv_88 _ _ _ hb_92.1 hb_92.2 (hP.sub [0, 1, 11, 12, 13, 14, 15, 16, 17, 18, 19, 2, 3, 4, 5, 6, 7, 8, 9, 10] rfl) (hD.sub [0, 1, 11, 12, 13, 14, 15, 16, 17, 18, 19, 2, 3, 4, 5, 6, 7, 8, 9, 10] rfl rfl) hS (lv_sub hl [0, 1, 2, 3, 4] rfl)
  have h0_93 : 0 ≤ (0 : Int32).toInt := by
    have y_0 : (0 : Int32).toInt = 0 := by decide
    decide
  exact loop_33 _ 0 (Og 2) (Av 0) (Av 4) (Av 5) sv_6 sv_9 sv_10 sv_11 _ _ _ h0_93 (Nat.lt_succ_self _) hP hD hS hl
set_option maxRecDepth 100000 in
theorem cu_X4_firstRing_n (l : Launch) (D : va_G) (tc : Nat → ClassId) (sk : (Nat → Nat) × (Nat → Nat)) (Oa_0 : Nat) (Oa_2 : Nat) (Oj_0 : Int64) (Og_2 : Nat → Int64) (Ta_0 : Nat) (Ta_1 : Nat) (Ta_2 : Nat) (Ta_3 : Nat) (Ta_4 : Nat) (Ta_5 : Nat) (Ta_6 : Nat) (Ta_7 : Nat) (Ta_8 : Nat) (Tv_0 : Int32) (Tv_1 : Int32) (Tv_2 : Int32) (Tv_3 : Int32) (Tv_4 : Int32) (Tv_5 : Int32) (Tf_1 : Nat → Int32) (Tf_2 : Nat → Int32) (Tf_3 : Nat → Int32) (Tf_4 : Nat → Int32) (Tf_5 : Nat → Int32) (Tf_6 : Nat → Int32) (Tf_7 : Nat → Int32) (Tf_8 : Nat → Int32) (Aa_0 : Nat) (Aa_1 : Nat) (Aa_2 : Nat) (Aa_3 : Nat) (Aa_4 : Nat) (Aa_5 : Nat) (Aa_6 : Nat) (Aa_7 : Nat) (Aa_8 : Nat) (Av_0 : Int32) (Av_1 : Int32) (Av_2 : Int32) (Av_3 : Int32) (Av_4 : Int32) (Av_5 : Int32) (Af_1 : Nat → Int32) (Af_2 : Nat → Int32) (Af_3 : Nat → Int32) (Af_4 : Nat → Int32) (Af_5 : Nat → Int32) (Af_6 : Nat → Int32) (Af_7 : Nat → Int32) (Af_8 : Nat → Int32) (x1 : Int32)  : Ct l yX4_firstRing cX4_firstRing 6 (some .int) { frames := 3, cells := 0, slots := 0, locals := 69 } D tc sk [.ref Oa_0, .ref Aa_0, .null, .int x1] [(Oa_0, .inr (4, [.ref Ta_0, .ref Oa_2, .long Oj_0])), (Oa_2, .inl (tc 1, 61, .inr (.inl Og_2))), (Ta_0, .inr (9, [.int Tv_0, .int Tv_1, .int Tv_2, .int Tv_3, .int Tv_4, .int Tv_5, .ref Ta_1, .ref Ta_2, .ref Ta_3, .ref Ta_4, .ref Ta_5, .ref Ta_6, .ref Ta_7, .ref Ta_8])), (Ta_1, .inl (tc 0, 10, .inl Tf_1)), (Ta_2, .inl (tc 0, 10, .inl Tf_2)), (Ta_3, .inl (tc 0, 6, .inl Tf_3)), (Ta_4, .inl (tc 0, 6, .inl Tf_4)), (Ta_5, .inl (tc 0, 6, .inl Tf_5)), (Ta_6, .inl (tc 0, 6, .inl Tf_6)), (Ta_7, .inl (tc 0, 6, .inl Tf_7)), (Ta_8, .inl (tc 0, 6, .inl Tf_8)), (Aa_0, .inr (9, [.int Av_0, .int Av_1, .int Av_2, .int Av_3, .int Av_4, .int Av_5, .ref Aa_1, .ref Aa_2, .ref Aa_3, .ref Aa_4, .ref Aa_5, .ref Aa_6, .ref Aa_7, .ref Aa_8])), (Aa_1, .inl (tc 0, 10, .inl Af_1)), (Aa_2, .inl (tc 0, 10, .inl Af_2)), (Aa_3, .inl (tc 0, 6, .inl Af_3)), (Aa_4, .inl (tc 0, 6, .inl Af_4)), (Aa_5, .inl (tc 0, 6, .inl Af_5)), (Aa_6, .inl (tc 0, 6, .inl Af_6)), (Aa_7, .inl (tc 0, 6, .inl Af_7)), (Aa_8, .inl (tc 0, 6, .inl Af_8))] (fun (v : Option Value) (u : (Nat → Int64) × (Int32) × (Int32) × (Int32) × (Nat → Int32) × (Nat → Int32) × (Nat → Int32) × (Nat → Int32) × (Nat → Int32) × (Nat → Int32) × (Nat → Int32) × (Nat → Int32)) => match u with | (o1, o2, o3, o4, o5, o6, o7, o8, o9, o10, o11, o12) => ∃ r : Int32, v = some (.int r) ∧ (True)) (fun (u : (Nat → Int64) × (Int32) × (Int32) × (Int32) × (Nat → Int32) × (Nat → Int32) × (Nat → Int32) × (Nat → Int32) × (Nat → Int32) × (Nat → Int32) × (Nat → Int32) × (Nat → Int32)) => match u with | (o1, o2, o3, o4, o5, o6, o7, o8, o9, o10, o11, o12) => [(Oa_0, .inr (4, [.ref Ta_0, .ref Oa_2, .long Oj_0])), (Oa_2, .inl (tc 1, 61, .inr (.inl o1))), (Ta_0, .inr (9, [.int o2, .int Av_1, .int Av_2, .int Av_3, .int o3, .int o4, .ref Ta_1, .ref Ta_2, .ref Ta_3, .ref Ta_4, .ref Ta_5, .ref Ta_6, .ref Ta_7, .ref Ta_8])), (Ta_1, .inl (tc 0, 10, .inl o5)), (Ta_2, .inl (tc 0, 10, .inl o6)), (Ta_3, .inl (tc 0, 6, .inl o7)), (Ta_4, .inl (tc 0, 6, .inl o8)), (Ta_5, .inl (tc 0, 6, .inl o9)), (Ta_6, .inl (tc 0, 6, .inl o10)), (Ta_7, .inl (tc 0, 6, .inl o11)), (Ta_8, .inl (tc 0, 6, .inl o12)), (Aa_0, .inr (9, [.int Av_0, .int Av_1, .int Av_2, .int Av_3, .int Av_4, .int Av_5, .ref Aa_1, .ref Aa_2, .ref Aa_3, .ref Aa_4, .ref Aa_5, .ref Aa_6, .ref Aa_7, .ref Aa_8])), (Aa_1, .inl (tc 0, 10, .inl Af_1)), (Aa_2, .inl (tc 0, 10, .inl Af_2)), (Aa_3, .inl (tc 0, 6, .inl Af_3)), (Aa_4, .inl (tc 0, 6, .inl Af_4)), (Aa_5, .inl (tc 0, 6, .inl Af_5)), (Aa_6, .inl (tc 0, 6, .inl Af_6)), (Aa_7, .inl (tc 0, 6, .inl Af_7)), (Aa_8, .inl (tc 0, 6, .inl Af_8))]) 0 0 :=
  ct_X4_firstRing_n l D tc sk (fun k => ([Oa_0, 0, Oa_2] : List (Nat)).getD k 0) (fun k => ([Oj_0] : List (Int64)).getD k 0) (fun k => ([(fun _ => 0), (fun _ => 0), Og_2] : List (Nat → Int64)).getD k (fun _ => 0)) (fun k => ([Ta_0, Ta_1, Ta_2, Ta_3, Ta_4, Ta_5, Ta_6, Ta_7, Ta_8] : List (Nat)).getD k 0) (fun k => ([Tv_0, Tv_1, Tv_2, Tv_3, Tv_4, Tv_5] : List (Int32)).getD k 0) (fun k => ([(fun _ => 0), Tf_1, Tf_2, Tf_3, Tf_4, Tf_5, Tf_6, Tf_7, Tf_8] : List (Nat → Int32)).getD k (fun _ => 0)) (fun k => ([Aa_0, Aa_1, Aa_2, Aa_3, Aa_4, Aa_5, Aa_6, Aa_7, Aa_8] : List (Nat)).getD k 0) (fun k => ([Av_0, Av_1, Av_2, Av_3, Av_4, Av_5] : List (Int32)).getD k 0) (fun k => ([(fun _ => 0), Af_1, Af_2, Af_3, Af_4, Af_5, Af_6, Af_7, Af_8] : List (Nat → Int32)).getD k (fun _ => 0)) x1 
