theorem dX7_arithmetic_0 : decode cX7_arithmetic 0 = .ok (.aload_n 0, 1) := by decide +kernel
theorem dX7_arithmetic_1 : decode cX7_arithmetic 1 = .ok (.getfield 86, 3) := by decide +kernel
theorem dX7_arithmetic_4 : decode cX7_arithmetic 4 = .ok (.tableswitch 75 37 47 #[72, 75, 75, 75, 75, 66, 60, 75, 63, 75, 69], 60) := by decide +kernel
theorem dX7_arithmetic_64 : decode cX7_arithmetic 64 = .ok (.bipush (-12), 2) := by decide +kernel
theorem dX7_arithmetic_66 : decode cX7_arithmetic 66 = .ok (.ireturn, 1) := by decide +kernel
theorem dX7_arithmetic_67 : decode cX7_arithmetic 67 = .ok (.bipush (-13), 2) := by decide +kernel
theorem dX7_arithmetic_69 : decode cX7_arithmetic 69 = .ok (.ireturn, 1) := by decide +kernel
theorem dX7_arithmetic_70 : decode cX7_arithmetic 70 = .ok (.bipush (-14), 2) := by decide +kernel
theorem dX7_arithmetic_72 : decode cX7_arithmetic 72 = .ok (.ireturn, 1) := by decide +kernel
theorem dX7_arithmetic_73 : decode cX7_arithmetic 73 = .ok (.bipush (-15), 2) := by decide +kernel
theorem dX7_arithmetic_75 : decode cX7_arithmetic 75 = .ok (.ireturn, 1) := by decide +kernel
theorem dX7_arithmetic_76 : decode cX7_arithmetic 76 = .ok (.bipush (-16), 2) := by decide +kernel
theorem dX7_arithmetic_78 : decode cX7_arithmetic 78 = .ok (.ireturn, 1) := by decide +kernel
theorem dX7_arithmetic_79 : decode cX7_arithmetic 79 = .ok (.iconst (-1), 1) := by decide +kernel
theorem dX7_arithmetic_80 : decode cX7_arithmetic 80 = .ok (.ireturn, 1) := by decide +kernel
theorem dX7_comparison_0 : decode cX7_comparison 0 = .ok (.aload_n 0, 1) := by decide +kernel
theorem dX7_comparison_1 : decode cX7_comparison 1 = .ok (.getfield 118, 3) := by decide +kernel
theorem dX7_comparison_4 : decode cX7_comparison 4 = .ok (.aload_n 0, 1) := by decide +kernel
theorem dX7_comparison_5 : decode cX7_comparison 5 = .ok (.getfield 121, 3) := by decide +kernel
theorem dX7_comparison_8 : decode cX7_comparison 8 = .ok (.isub, 1) := by decide +kernel
theorem dX7_comparison_9 : decode cX7_comparison 9 = .ok (.iconst 2, 1) := by decide +kernel
theorem dX7_comparison_10 : decode cX7_comparison 10 = .ok (.if_icmp .ne 7, 3) := by decide +kernel
theorem dX7_comparison_13 : decode cX7_comparison 13 = .ok (.iconst 1, 1) := by decide +kernel
theorem dX7_comparison_14 : decode cX7_comparison 14 = .ok (.goto 4, 3) := by decide +kernel
theorem dX7_comparison_17 : decode cX7_comparison 17 = .ok (.iconst 0, 1) := by decide +kernel
theorem dX7_comparison_18 : decode cX7_comparison 18 = .ok (.istore_n 1, 1) := by decide +kernel
theorem dX7_comparison_19 : decode cX7_comparison 19 = .ok (.aload_n 0, 1) := by decide +kernel
theorem dX7_comparison_20 : decode cX7_comparison 20 = .ok (.getfield 86, 3) := by decide +kernel
theorem dX7_comparison_23 : decode cX7_comparison 23 = .ok (.tableswitch 52 60 62 #[25, 37, 40], 25) := by decide +kernel
theorem dX7_comparison_48 : decode cX7_comparison 48 = .ok (.iload_n 1, 1) := by decide +kernel
theorem dX7_comparison_49 : decode cX7_comparison 49 = .ok (.ifCond .eq 8, 3) := by decide +kernel
theorem dX7_comparison_52 : decode cX7_comparison 52 = .ok (.bipush (-8), 2) := by decide +kernel
theorem dX7_comparison_54 : decode cX7_comparison 54 = .ok (.goto 5, 3) := by decide +kernel
theorem dX7_comparison_57 : decode cX7_comparison 57 = .ok (.bipush (-7), 2) := by decide +kernel
theorem dX7_comparison_59 : decode cX7_comparison 59 = .ok (.ireturn, 1) := by decide +kernel
theorem dX7_comparison_60 : decode cX7_comparison 60 = .ok (.bipush (-9), 2) := by decide +kernel
theorem dX7_comparison_62 : decode cX7_comparison 62 = .ok (.ireturn, 1) := by decide +kernel
theorem dX7_comparison_63 : decode cX7_comparison 63 = .ok (.iload_n 1, 1) := by decide +kernel
theorem dX7_comparison_64 : decode cX7_comparison 64 = .ok (.ifCond .eq 8, 3) := by decide +kernel
theorem dX7_comparison_67 : decode cX7_comparison 67 = .ok (.bipush (-10), 2) := by decide +kernel
theorem dX7_comparison_69 : decode cX7_comparison 69 = .ok (.goto 5, 3) := by decide +kernel
theorem dX7_comparison_72 : decode cX7_comparison 72 = .ok (.bipush (-11), 2) := by decide +kernel
theorem dX7_comparison_74 : decode cX7_comparison 74 = .ok (.ireturn, 1) := by decide +kernel
theorem dX7_comparison_75 : decode cX7_comparison 75 = .ok (.iconst (-1), 1) := by decide +kernel
theorem dX7_comparison_76 : decode cX7_comparison 76 = .ok (.ireturn, 1) := by decide +kernel
theorem dX7_countOne_0 : decode cX7_countOne 0 = .ok (.aload_n 0, 1) := by decide +kernel
theorem dX7_countOne_1 : decode cX7_countOne 1 = .ok (.getfield 19, 3) := by decide +kernel
theorem dX7_countOne_4 : decode cX7_countOne 4 = .ok (.bipush 60, 2) := by decide +kernel
theorem dX7_countOne_6 : decode cX7_countOne 6 = .ok (.if_icmp .lt 8, 3) := by decide +kernel
theorem dX7_countOne_9 : decode cX7_countOne 9 = .ok (.aload_n 1, 1) := by decide +kernel
theorem dX7_countOne_10 : decode cX7_countOne 10 = .ok (.iconst 3, 1) := by decide +kernel
theorem dX7_countOne_11 : decode cX7_countOne 11 = .ok (.invokevirtual 37, 3) := by decide +kernel
theorem dX7_countOne_14 : decode cX7_countOne 14 = .ok (.aload_n 0, 1) := by decide +kernel
theorem dX7_countOne_15 : decode cX7_countOne 15 = .ok (.dup, 1) := by decide +kernel
theorem dX7_countOne_16 : decode cX7_countOne 16 = .ok (.getfield 19, 3) := by decide +kernel
theorem dX7_countOne_19 : decode cX7_countOne 19 = .ok (.iconst 1, 1) := by decide +kernel
theorem dX7_countOne_20 : decode cX7_countOne 20 = .ok (.iadd, 1) := by decide +kernel
theorem dX7_countOne_21 : decode cX7_countOne 21 = .ok (.putfield 19, 3) := by decide +kernel
theorem dX7_countOne_24 : decode cX7_countOne 24 = .ok (.return_, 1) := by decide +kernel
theorem dX7_put_0 : decode cX7_put 0 = .ok (.aload_n 0, 1) := by decide +kernel
theorem dX7_put_1 : decode cX7_put 1 = .ok (.getfield 15, 3) := by decide +kernel
theorem dX7_put_4 : decode cX7_put 4 = .ok (.ifCond .lt 35, 3) := by decide +kernel
theorem dX7_put_7 : decode cX7_put 7 = .ok (.aload_n 0, 1) := by decide +kernel
theorem dX7_put_8 : decode cX7_put 8 = .ok (.getfield 15, 3) := by decide +kernel
theorem dX7_put_11 : decode cX7_put 11 = .ok (.aload_n 0, 1) := by decide +kernel
theorem dX7_put_12 : decode cX7_put 12 = .ok (.getfield 9, 3) := by decide +kernel
theorem dX7_put_15 : decode cX7_put 15 = .ok (.arraylength, 1) := by decide +kernel
theorem dX7_put_16 : decode cX7_put 16 = .ok (.if_icmp .ge 23, 3) := by decide +kernel
theorem dX7_put_19 : decode cX7_put 19 = .ok (.aload_n 0, 1) := by decide +kernel
theorem dX7_put_20 : decode cX7_put 20 = .ok (.getfield 9, 3) := by decide +kernel
theorem dX7_put_23 : decode cX7_put 23 = .ok (.aload_n 0, 1) := by decide +kernel
theorem dX7_put_24 : decode cX7_put 24 = .ok (.getfield 15, 3) := by decide +kernel
theorem dX7_put_27 : decode cX7_put 27 = .ok (.iload_n 1, 1) := by decide +kernel
theorem dX7_put_28 : decode cX7_put 28 = .ok (.iastore, 1) := by decide +kernel
theorem dX7_put_29 : decode cX7_put 29 = .ok (.aload_n 0, 1) := by decide +kernel
theorem dX7_put_30 : decode cX7_put 30 = .ok (.dup, 1) := by decide +kernel
theorem dX7_put_31 : decode cX7_put 31 = .ok (.getfield 15, 3) := by decide +kernel
theorem dX7_put_34 : decode cX7_put 34 = .ok (.iconst 1, 1) := by decide +kernel
theorem dX7_put_35 : decode cX7_put 35 = .ok (.iadd, 1) := by decide +kernel
theorem dX7_put_36 : decode cX7_put 36 = .ok (.putfield 15, 3) := by decide +kernel
theorem dX7_put_39 : decode cX7_put 39 = .ok (.return_, 1) := by decide +kernel
theorem dX7_readSum_0 : decode cX7_readSum 0 = .ok (.aload_n 0, 1) := by decide +kernel
theorem dX7_readSum_1 : decode cX7_readSum 1 = .ok (.aload_n 1, 1) := by decide +kernel
theorem dX7_readSum_2 : decode cX7_readSum 2 = .ok (.invokevirtual 96, 3) := by decide +kernel
theorem dX7_readSum_5 : decode cX7_readSum 5 = .ok (.iconst (-1), 1) := by decide +kernel
theorem dX7_readSum_6 : decode cX7_readSum 6 = .ok (.istore_n 2, 1) := by decide +kernel
theorem dX7_readSum_7 : decode cX7_readSum 7 = .ok (.iconst 0, 1) := by decide +kernel
theorem dX7_readSum_8 : decode cX7_readSum 8 = .ok (.istore_n 3, 1) := by decide +kernel
theorem dX7_readSum_9 : decode cX7_readSum 9 = .ok (.iload_n 3, 1) := by decide +kernel
theorem dX7_readSum_10 : decode cX7_readSum 10 = .ok (.sipush 400, 3) := by decide +kernel
theorem dX7_readSum_13 : decode cX7_readSum 13 = .ok (.if_icmp .ge 73, 3) := by decide +kernel
theorem dX7_readSum_16 : decode cX7_readSum 16 = .ok (.aload_n 1, 1) := by decide +kernel
theorem dX7_readSum_17 : decode cX7_readSum 17 = .ok (.invokestatic 99, 3) := by decide +kernel
theorem dX7_readSum_20 : decode cX7_readSum 20 = .ok (.iconst (-1), 1) := by decide +kernel
theorem dX7_readSum_21 : decode cX7_readSum 21 = .ok (.if_icmp .eq 65, 3) := by decide +kernel
theorem dX7_readSum_24 : decode cX7_readSum 24 = .ok (.aload_n 1, 1) := by decide +kernel
theorem dX7_readSum_25 : decode cX7_readSum 25 = .ok (.invokestatic 99, 3) := by decide +kernel
theorem dX7_readSum_28 : decode cX7_readSum 28 = .ok (.istore 4, 2) := by decide +kernel
theorem dX7_readSum_30 : decode cX7_readSum 30 = .ok (.aload_n 1, 1) := by decide +kernel
theorem dX7_readSum_31 : decode cX7_readSum 31 = .ok (.invokevirtual 41, 3) := by decide +kernel
theorem dX7_readSum_34 : decode cX7_readSum 34 = .ok (.iload 4, 2) := by decide +kernel
theorem dX7_readSum_36 : decode cX7_readSum 36 = .ok (.bipush (-12), 2) := by decide +kernel
theorem dX7_readSum_38 : decode cX7_readSum 38 = .ok (.if_icmp .eq 10, 3) := by decide +kernel
theorem dX7_readSum_41 : decode cX7_readSum 41 = .ok (.iload 4, 2) := by decide +kernel
theorem dX7_readSum_43 : decode cX7_readSum 43 = .ok (.bipush (-13), 2) := by decide +kernel
theorem dX7_readSum_45 : decode cX7_readSum 45 = .ok (.if_icmp .ne 24, 3) := by decide +kernel
theorem dX7_readSum_48 : decode cX7_readSum 48 = .ok (.iload_n 2, 1) := by decide +kernel
theorem dX7_readSum_49 : decode cX7_readSum 49 = .ok (.iconst (-1), 1) := by decide +kernel
theorem dX7_readSum_50 : decode cX7_readSum 50 = .ok (.if_icmp .eq 8, 3) := by decide +kernel
theorem dX7_readSum_53 : decode cX7_readSum 53 = .ok (.aload_n 0, 1) := by decide +kernel
theorem dX7_readSum_54 : decode cX7_readSum 54 = .ok (.iload_n 2, 1) := by decide +kernel
theorem dX7_readSum_55 : decode cX7_readSum 55 = .ok (.invokevirtual 59, 3) := by decide +kernel
theorem dX7_readSum_58 : decode cX7_readSum 58 = .ok (.iload 4, 2) := by decide +kernel
theorem dX7_readSum_60 : decode cX7_readSum 60 = .ok (.istore_n 2, 1) := by decide +kernel
theorem dX7_readSum_61 : decode cX7_readSum 61 = .ok (.aload_n 0, 1) := by decide +kernel
theorem dX7_readSum_62 : decode cX7_readSum 62 = .ok (.aload_n 1, 1) := by decide +kernel
theorem dX7_readSum_63 : decode cX7_readSum 63 = .ok (.invokevirtual 96, 3) := by decide +kernel
theorem dX7_readSum_66 : decode cX7_readSum 66 = .ok (.goto 14, 3) := by decide +kernel
theorem dX7_readSum_69 : decode cX7_readSum 69 = .ok (.aload_n 0, 1) := by decide +kernel
theorem dX7_readSum_70 : decode cX7_readSum 70 = .ok (.aload_n 1, 1) := by decide +kernel
theorem dX7_readSum_71 : decode cX7_readSum 71 = .ok (.invokevirtual 96, 3) := by decide +kernel
theorem dX7_readSum_74 : decode cX7_readSum 74 = .ok (.aload_n 0, 1) := by decide +kernel
theorem dX7_readSum_75 : decode cX7_readSum 75 = .ok (.iload 4, 2) := by decide +kernel
theorem dX7_readSum_77 : decode cX7_readSum 77 = .ok (.invokevirtual 59, 3) := by decide +kernel
theorem dX7_readSum_80 : decode cX7_readSum 80 = .ok (.iinc 3 1, 3) := by decide +kernel
theorem dX7_readSum_83 : decode cX7_readSum 83 = .ok (.goto (-74), 3) := by decide +kernel
theorem dX7_readSum_86 : decode cX7_readSum 86 = .ok (.iload_n 2, 1) := by decide +kernel
theorem dX7_readSum_87 : decode cX7_readSum 87 = .ok (.iconst (-1), 1) := by decide +kernel
theorem dX7_readSum_88 : decode cX7_readSum 88 = .ok (.if_icmp .eq 8, 3) := by decide +kernel
theorem dX7_readSum_91 : decode cX7_readSum 91 = .ok (.aload_n 0, 1) := by decide +kernel
theorem dX7_readSum_92 : decode cX7_readSum 92 = .ok (.iload_n 2, 1) := by decide +kernel
theorem dX7_readSum_93 : decode cX7_readSum 93 = .ok (.invokevirtual 59, 3) := by decide +kernel
theorem dX7_readSum_96 : decode cX7_readSum 96 = .ok (.return_, 1) := by decide +kernel
theorem dX7_readValue_0 : decode cX7_readValue 0 = .ok (.iconst 0, 1) := by decide +kernel
theorem dX7_readValue_1 : decode cX7_readValue 1 = .ok (.istore_n 2, 1) := by decide +kernel
theorem dX7_readValue_2 : decode cX7_readValue 2 = .ok (.aload_n 1, 1) := by decide +kernel
theorem dX7_readValue_3 : decode cX7_readValue 3 = .ok (.getfield 86, 3) := by decide +kernel
theorem dX7_readValue_6 : decode cX7_readValue 6 = .ok (.invokestatic 102, 3) := by decide +kernel
theorem dX7_readValue_9 : decode cX7_readValue 9 = .ok (.ifCond .eq 14, 3) := by decide +kernel
theorem dX7_readValue_12 : decode cX7_readValue 12 = .ok (.aload_n 1, 1) := by decide +kernel
theorem dX7_readValue_13 : decode cX7_readValue 13 = .ok (.iconst 0, 1) := by decide +kernel
theorem dX7_readValue_14 : decode cX7_readValue 14 = .ok (.ldc 106, 2) := by decide +kernel
theorem dX7_readValue_16 : decode cX7_readValue 16 = .ok (.invokevirtual 107, 3) := by decide +kernel
theorem dX7_readValue_19 : decode cX7_readValue 19 = .ok (.istore_n 2, 1) := by decide +kernel
theorem dX7_readValue_20 : decode cX7_readValue 20 = .ok (.goto 28, 3) := by decide +kernel
theorem dX7_readValue_23 : decode cX7_readValue 23 = .ok (.aload_n 1, 1) := by decide +kernel
theorem dX7_readValue_24 : decode cX7_readValue 24 = .ok (.ldc 111, 2) := by decide +kernel
theorem dX7_readValue_26 : decode cX7_readValue 26 = .ok (.invokevirtual 113, 3) := by decide +kernel
theorem dX7_readValue_29 : decode cX7_readValue 29 = .ok (.istore_n 3, 1) := by decide +kernel
theorem dX7_readValue_30 : decode cX7_readValue 30 = .ok (.iload_n 3, 1) := by decide +kernel
theorem dX7_readValue_31 : decode cX7_readValue 31 = .ok (.iconst (-1), 1) := by decide +kernel
theorem dX7_readValue_32 : decode cX7_readValue 32 = .ok (.if_icmp .ne 11, 3) := by decide +kernel
theorem dX7_readValue_35 : decode cX7_readValue 35 = .ok (.aload_n 1, 1) := by decide +kernel
theorem dX7_readValue_36 : decode cX7_readValue 36 = .ok (.iconst 0, 1) := by decide +kernel
theorem dX7_readValue_37 : decode cX7_readValue 37 = .ok (.invokevirtual 37, 3) := by decide +kernel
theorem dX7_readValue_40 : decode cX7_readValue 40 = .ok (.goto 8, 3) := by decide +kernel
theorem dX7_readValue_43 : decode cX7_readValue 43 = .ok (.ldc 117, 2) := by decide +kernel
theorem dX7_readValue_45 : decode cX7_readValue 45 = .ok (.iload_n 3, 1) := by decide +kernel
theorem dX7_readValue_46 : decode cX7_readValue 46 = .ok (.iadd, 1) := by decide +kernel
theorem dX7_readValue_47 : decode cX7_readValue 47 = .ok (.istore_n 2, 1) := by decide +kernel
theorem dX7_readValue_48 : decode cX7_readValue 48 = .ok (.aload_n 0, 1) := by decide +kernel
theorem dX7_readValue_49 : decode cX7_readValue 49 = .ok (.aload_n 1, 1) := by decide +kernel
theorem dX7_readValue_50 : decode cX7_readValue 50 = .ok (.invokevirtual 93, 3) := by decide +kernel
theorem dX7_readValue_53 : decode cX7_readValue 53 = .ok (.aload_n 0, 1) := by decide +kernel
theorem dX7_readValue_54 : decode cX7_readValue 54 = .ok (.iload_n 2, 1) := by decide +kernel
theorem dX7_readValue_55 : decode cX7_readValue 55 = .ok (.invokevirtual 59, 3) := by decide +kernel
theorem dX7_readValue_58 : decode cX7_readValue 58 = .ok (.aload_n 1, 1) := by decide +kernel
theorem dX7_readValue_59 : decode cX7_readValue 59 = .ok (.invokevirtual 41, 3) := by decide +kernel
theorem dX7_readValue_62 : decode cX7_readValue 62 = .ok (.return_, 1) := by decide +kernel
