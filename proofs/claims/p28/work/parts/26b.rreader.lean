theorem dX7_readFact_0 : decode cX7_readFact 0 = .ok (.aload_n 1, 1) := by decide +kernel
theorem dX7_readFact_1 : decode cX7_readFact 1 = .ok (.ldc 84, 2) := by decide +kernel
theorem dX7_readFact_3 : decode cX7_readFact 3 = .ok (.invokevirtual 33, 3) := by decide +kernel
theorem dX7_readFact_6 : decode cX7_readFact 6 = .ok (.istore_n 3, 1) := by decide +kernel
theorem dX7_readFact_7 : decode cX7_readFact 7 = .ok (.iload_n 3, 1) := by decide +kernel
theorem dX7_readFact_8 : decode cX7_readFact 8 = .ok (.ifCond .ne 12, 3) := by decide +kernel
theorem dX7_readFact_11 : decode cX7_readFact 11 = .ok (.aload_n 1, 1) := by decide +kernel
theorem dX7_readFact_12 : decode cX7_readFact 12 = .ok (.getfield 86, 3) := by decide +kernel
theorem dX7_readFact_15 : decode cX7_readFact 15 = .ok (.bipush 91, 2) := by decide +kernel
theorem dX7_readFact_17 : decode cX7_readFact 17 = .ok (.if_icmp .ne 17, 3) := by decide +kernel
theorem dX7_readFact_20 : decode cX7_readFact 20 = .ok (.iload_n 2, 1) := by decide +kernel
theorem dX7_readFact_21 : decode cX7_readFact 21 = .ok (.bipush 10, 2) := by decide +kernel
theorem dX7_readFact_23 : decode cX7_readFact 23 = .ok (.if_icmp .lt 11, 3) := by decide +kernel
theorem dX7_readFact_26 : decode cX7_readFact 26 = .ok (.aload_n 1, 1) := by decide +kernel
theorem dX7_readFact_27 : decode cX7_readFact 27 = .ok (.iconst 2, 1) := by decide +kernel
theorem dX7_readFact_28 : decode cX7_readFact 28 = .ok (.invokevirtual 37, 3) := by decide +kernel
theorem dX7_readFact_31 : decode cX7_readFact 31 = .ok (.goto 104, 3) := by decide +kernel
theorem dX7_readFact_34 : decode cX7_readFact 34 = .ok (.iload_n 3, 1) := by decide +kernel
theorem dX7_readFact_35 : decode cX7_readFact 35 = .ok (.ifCond .eq 24, 3) := by decide +kernel
theorem dX7_readFact_38 : decode cX7_readFact 38 = .ok (.aload_n 1, 1) := by decide +kernel
theorem dX7_readFact_39 : decode cX7_readFact 39 = .ok (.invokevirtual 41, 3) := by decide +kernel
theorem dX7_readFact_42 : decode cX7_readFact 42 = .ok (.aload_n 0, 1) := by decide +kernel
theorem dX7_readFact_43 : decode cX7_readFact 43 = .ok (.aload_n 1, 1) := by decide +kernel
theorem dX7_readFact_44 : decode cX7_readFact 44 = .ok (.iload_n 2, 1) := by decide +kernel
theorem dX7_readFact_45 : decode cX7_readFact 45 = .ok (.iconst 1, 1) := by decide +kernel
theorem dX7_readFact_46 : decode cX7_readFact 46 = .ok (.iadd, 1) := by decide +kernel
theorem dX7_readFact_47 : decode cX7_readFact 47 = .ok (.invokevirtual 77, 3) := by decide +kernel
theorem dX7_readFact_50 : decode cX7_readFact 50 = .ok (.aload_n 0, 1) := by decide +kernel
theorem dX7_readFact_51 : decode cX7_readFact 51 = .ok (.bipush (-4), 2) := by decide +kernel
theorem dX7_readFact_53 : decode cX7_readFact 53 = .ok (.invokevirtual 59, 3) := by decide +kernel
theorem dX7_readFact_56 : decode cX7_readFact 56 = .ok (.goto 79, 3) := by decide +kernel
theorem dX7_readFact_59 : decode cX7_readFact 59 = .ok (.aload_n 1, 1) := by decide +kernel
theorem dX7_readFact_60 : decode cX7_readFact 60 = .ok (.bipush 91, 2) := by decide +kernel
theorem dX7_readFact_62 : decode cX7_readFact 62 = .ok (.invokevirtual 27, 3) := by decide +kernel
theorem dX7_readFact_65 : decode cX7_readFact 65 = .ok (.ifCond .eq 28, 3) := by decide +kernel
theorem dX7_readFact_68 : decode cX7_readFact 68 = .ok (.aload_n 0, 1) := by decide +kernel
theorem dX7_readFact_69 : decode cX7_readFact 69 = .ok (.aload_n 1, 1) := by decide +kernel
theorem dX7_readFact_70 : decode cX7_readFact 70 = .ok (.iload_n 2, 1) := by decide +kernel
theorem dX7_readFact_71 : decode cX7_readFact 71 = .ok (.iconst 1, 1) := by decide +kernel
theorem dX7_readFact_72 : decode cX7_readFact 72 = .ok (.iadd, 1) := by decide +kernel
theorem dX7_readFact_73 : decode cX7_readFact 73 = .ok (.invokevirtual 53, 3) := by decide +kernel
theorem dX7_readFact_76 : decode cX7_readFact 76 = .ok (.aload_n 1, 1) := by decide +kernel
theorem dX7_readFact_77 : decode cX7_readFact 77 = .ok (.bipush 93, 2) := by decide +kernel
theorem dX7_readFact_79 : decode cX7_readFact 79 = .ok (.invokevirtual 27, 3) := by decide +kernel
theorem dX7_readFact_82 : decode cX7_readFact 82 = .ok (.ifCond .ne 53, 3) := by decide +kernel
theorem dX7_readFact_85 : decode cX7_readFact 85 = .ok (.aload_n 1, 1) := by decide +kernel
theorem dX7_readFact_86 : decode cX7_readFact 86 = .ok (.iconst 0, 1) := by decide +kernel
theorem dX7_readFact_87 : decode cX7_readFact 87 = .ok (.invokevirtual 37, 3) := by decide +kernel
theorem dX7_readFact_90 : decode cX7_readFact 90 = .ok (.goto 45, 3) := by decide +kernel
theorem dX7_readFact_93 : decode cX7_readFact 93 = .ok (.aload_n 0, 1) := by decide +kernel
theorem dX7_readFact_94 : decode cX7_readFact 94 = .ok (.aload_n 1, 1) := by decide +kernel
theorem dX7_readFact_95 : decode cX7_readFact 95 = .ok (.invokevirtual 44, 3) := by decide +kernel
theorem dX7_readFact_98 : decode cX7_readFact 98 = .ok (.aload_n 1, 1) := by decide +kernel
theorem dX7_readFact_99 : decode cX7_readFact 99 = .ok (.invokestatic 89, 3) := by decide +kernel
theorem dX7_readFact_102 : decode cX7_readFact 102 = .ok (.istore 4, 2) := by decide +kernel
theorem dX7_readFact_104 : decode cX7_readFact 104 = .ok (.iload 4, 2) := by decide +kernel
theorem dX7_readFact_106 : decode cX7_readFact 106 = .ok (.iconst (-1), 1) := by decide +kernel
theorem dX7_readFact_107 : decode cX7_readFact 107 = .ok (.if_icmp .ne 8, 3) := by decide +kernel
theorem dX7_readFact_110 : decode cX7_readFact 110 = .ok (.aload_n 1, 1) := by decide +kernel
theorem dX7_readFact_111 : decode cX7_readFact 111 = .ok (.iconst 0, 1) := by decide +kernel
theorem dX7_readFact_112 : decode cX7_readFact 112 = .ok (.invokevirtual 37, 3) := by decide +kernel
theorem dX7_readFact_115 : decode cX7_readFact 115 = .ok (.aload_n 0, 1) := by decide +kernel
theorem dX7_readFact_116 : decode cX7_readFact 116 = .ok (.aload_n 1, 1) := by decide +kernel
theorem dX7_readFact_117 : decode cX7_readFact 117 = .ok (.invokevirtual 93, 3) := by decide +kernel
theorem dX7_readFact_120 : decode cX7_readFact 120 = .ok (.aload_n 1, 1) := by decide +kernel
theorem dX7_readFact_121 : decode cX7_readFact 121 = .ok (.invokevirtual 41, 3) := by decide +kernel
theorem dX7_readFact_124 : decode cX7_readFact 124 = .ok (.aload_n 0, 1) := by decide +kernel
theorem dX7_readFact_125 : decode cX7_readFact 125 = .ok (.aload_n 1, 1) := by decide +kernel
theorem dX7_readFact_126 : decode cX7_readFact 126 = .ok (.invokevirtual 44, 3) := by decide +kernel
theorem dX7_readFact_129 : decode cX7_readFact 129 = .ok (.aload_n 0, 1) := by decide +kernel
theorem dX7_readFact_130 : decode cX7_readFact 130 = .ok (.iload 4, 2) := by decide +kernel
theorem dX7_readFact_132 : decode cX7_readFact 132 = .ok (.invokevirtual 59, 3) := by decide +kernel
theorem dX7_readFact_135 : decode cX7_readFact 135 = .ok (.return_, 1) := by decide +kernel
theorem dX7_readTest_0 : decode cX7_readTest 0 = .ok (.aload_n 0, 1) := by decide +kernel
theorem dX7_readTest_1 : decode cX7_readTest 1 = .ok (.aload_n 1, 1) := by decide +kernel
theorem dX7_readTest_2 : decode cX7_readTest 2 = .ok (.iload_n 2, 1) := by decide +kernel
theorem dX7_readTest_3 : decode cX7_readTest 3 = .ok (.invokevirtual 77, 3) := by decide +kernel
theorem dX7_readTest_6 : decode cX7_readTest 6 = .ok (.iconst 0, 1) := by decide +kernel
theorem dX7_readTest_7 : decode cX7_readTest 7 = .ok (.istore_n 3, 1) := by decide +kernel
theorem dX7_readTest_8 : decode cX7_readTest 8 = .ok (.iconst 0, 1) := by decide +kernel
theorem dX7_readTest_9 : decode cX7_readTest 9 = .ok (.istore 4, 2) := by decide +kernel
theorem dX7_readTest_11 : decode cX7_readTest 11 = .ok (.iload 4, 2) := by decide +kernel
theorem dX7_readTest_13 : decode cX7_readTest 13 = .ok (.sipush 400, 3) := by decide +kernel
theorem dX7_readTest_16 : decode cX7_readTest 16 = .ok (.if_icmp .ge 76, 3) := by decide +kernel
theorem dX7_readTest_19 : decode cX7_readTest 19 = .ok (.aload_n 1, 1) := by decide +kernel
theorem dX7_readTest_20 : decode cX7_readTest 20 = .ok (.ldc 80, 2) := by decide +kernel
theorem dX7_readTest_22 : decode cX7_readTest 22 = .ok (.invokevirtual 33, 3) := by decide +kernel
theorem dX7_readTest_25 : decode cX7_readTest 25 = .ok (.ifCond .ne 12, 3) := by decide +kernel
theorem dX7_readTest_28 : decode cX7_readTest 28 = .ok (.aload_n 1, 1) := by decide +kernel
theorem dX7_readTest_29 : decode cX7_readTest 29 = .ok (.ldc 82, 2) := by decide +kernel
theorem dX7_readTest_31 : decode cX7_readTest 31 = .ok (.invokevirtual 33, 3) := by decide +kernel
theorem dX7_readTest_34 : decode cX7_readTest 34 = .ok (.ifCond .eq 58, 3) := by decide +kernel
theorem dX7_readTest_37 : decode cX7_readTest 37 = .ok (.aload_n 1, 1) := by decide +kernel
theorem dX7_readTest_38 : decode cX7_readTest 38 = .ok (.ldc 82, 2) := by decide +kernel
theorem dX7_readTest_40 : decode cX7_readTest 40 = .ok (.invokevirtual 33, 3) := by decide +kernel
theorem dX7_readTest_43 : decode cX7_readTest 43 = .ok (.istore 5, 2) := by decide +kernel
theorem dX7_readTest_45 : decode cX7_readTest 45 = .ok (.iload 5, 2) := by decide +kernel
theorem dX7_readTest_47 : decode cX7_readTest 47 = .ok (.ifCond .eq 13, 3) := by decide +kernel
theorem dX7_readTest_50 : decode cX7_readTest 50 = .ok (.iload_n 3, 1) := by decide +kernel
theorem dX7_readTest_51 : decode cX7_readTest 51 = .ok (.ifCond .eq 9, 3) := by decide +kernel
theorem dX7_readTest_54 : decode cX7_readTest 54 = .ok (.aload_n 0, 1) := by decide +kernel
theorem dX7_readTest_55 : decode cX7_readTest 55 = .ok (.bipush (-6), 2) := by decide +kernel
theorem dX7_readTest_57 : decode cX7_readTest 57 = .ok (.invokevirtual 59, 3) := by decide +kernel
theorem dX7_readTest_60 : decode cX7_readTest 60 = .ok (.aload_n 1, 1) := by decide +kernel
theorem dX7_readTest_61 : decode cX7_readTest 61 = .ok (.invokevirtual 41, 3) := by decide +kernel
theorem dX7_readTest_64 : decode cX7_readTest 64 = .ok (.aload_n 0, 1) := by decide +kernel
theorem dX7_readTest_65 : decode cX7_readTest 65 = .ok (.aload_n 1, 1) := by decide +kernel
theorem dX7_readTest_66 : decode cX7_readTest 66 = .ok (.iload_n 2, 1) := by decide +kernel
theorem dX7_readTest_67 : decode cX7_readTest 67 = .ok (.invokevirtual 77, 3) := by decide +kernel
theorem dX7_readTest_70 : decode cX7_readTest 70 = .ok (.iload 5, 2) := by decide +kernel
theorem dX7_readTest_72 : decode cX7_readTest 72 = .ok (.ifCond .eq 8, 3) := by decide +kernel
theorem dX7_readTest_75 : decode cX7_readTest 75 = .ok (.iconst 1, 1) := by decide +kernel
theorem dX7_readTest_76 : decode cX7_readTest 76 = .ok (.istore_n 3, 1) := by decide +kernel
theorem dX7_readTest_77 : decode cX7_readTest 77 = .ok (.goto 9, 3) := by decide +kernel
theorem dX7_readTest_80 : decode cX7_readTest 80 = .ok (.aload_n 0, 1) := by decide +kernel
theorem dX7_readTest_81 : decode cX7_readTest 81 = .ok (.bipush (-5), 2) := by decide +kernel
theorem dX7_readTest_83 : decode cX7_readTest 83 = .ok (.invokevirtual 59, 3) := by decide +kernel
theorem dX7_readTest_86 : decode cX7_readTest 86 = .ok (.iinc 4 1, 3) := by decide +kernel
theorem dX7_readTest_89 : decode cX7_readTest 89 = .ok (.goto (-78), 3) := by decide +kernel
theorem dX7_readTest_92 : decode cX7_readTest 92 = .ok (.iload_n 3, 1) := by decide +kernel
theorem dX7_readTest_93 : decode cX7_readTest 93 = .ok (.ifCond .eq 9, 3) := by decide +kernel
theorem dX7_readTest_96 : decode cX7_readTest 96 = .ok (.aload_n 0, 1) := by decide +kernel
theorem dX7_readTest_97 : decode cX7_readTest 97 = .ok (.bipush (-6), 2) := by decide +kernel
theorem dX7_readTest_99 : decode cX7_readTest 99 = .ok (.invokevirtual 59, 3) := by decide +kernel
theorem dX7_readTest_102 : decode cX7_readTest 102 = .ok (.return_, 1) := by decide +kernel
