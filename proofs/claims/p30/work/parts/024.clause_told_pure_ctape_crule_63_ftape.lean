set_option maxRecDepth 16384
theorem dX12_clauseHere_0 : decode cX12_clauseHere 0 = .ok (.aload_n 0, 1) := by decide +kernel
theorem dX12_clauseHere_1 : decode cX12_clauseHere 1 = .ok (.invokevirtual 90, 3) := by decide +kernel
theorem dX12_clauseHere_4 : decode cX12_clauseHere 4 = .ok (.pop, 1) := by decide +kernel
theorem dX12_clauseHere_5 : decode cX12_clauseHere 5 = .ok (.aload_n 0, 1) := by decide +kernel
theorem dX12_clauseHere_6 : decode cX12_clauseHere 6 = .ok (.getfield 87, 3) := by decide +kernel
theorem dX12_clauseHere_9 : decode cX12_clauseHere 9 = .ok (.istore_n 1, 1) := by decide +kernel
theorem dX12_clauseHere_10 : decode cX12_clauseHere 10 = .ok (.aload_n 0, 1) := by decide +kernel
theorem dX12_clauseHere_11 : decode cX12_clauseHere 11 = .ok (.getfield 145, 3) := by decide +kernel
theorem dX12_clauseHere_14 : decode cX12_clauseHere 14 = .ok (.bipush 6, 2) := by decide +kernel
theorem dX12_clauseHere_16 : decode cX12_clauseHere 16 = .ok (.if_icmp .ne 7, 3) := by decide +kernel
theorem dX12_clauseHere_23 : decode cX12_clauseHere 23 = .ok (.iconst 0, 1) := by decide +kernel
theorem dX12_clauseHere_24 : decode cX12_clauseHere 24 = .ok (.istore_n 2, 1) := by decide +kernel
theorem dX12_clauseHere_25 : decode cX12_clauseHere 25 = .ok (.iload_n 2, 1) := by decide +kernel
theorem dX12_clauseHere_26 : decode cX12_clauseHere 26 = .ok (.ifCond .eq 13, 3) := by decide +kernel
theorem dX12_clauseHere_39 : decode cX12_clauseHere 39 = .ok (.aload_n 0, 1) := by decide +kernel
theorem dX12_clauseHere_40 : decode cX12_clauseHere 40 = .ok (.ldc2_w 242, 3) := by decide +kernel
theorem dX12_clauseHere_43 : decode cX12_clauseHere 43 = .ok (.invokevirtual 98, 3) := by decide +kernel
theorem dX12_clauseHere_46 : decode cX12_clauseHere 46 = .ok (.ifCond .ne 10, 3) := by decide +kernel
theorem dX12_clauseHere_49 : decode cX12_clauseHere 49 = .ok (.aload_n 0, 1) := by decide +kernel
theorem dX12_clauseHere_50 : decode cX12_clauseHere 50 = .ok (.iconst 0, 1) := by decide +kernel
theorem dX12_clauseHere_51 : decode cX12_clauseHere 51 = .ok (.iload_n 1, 1) := by decide +kernel
theorem dX12_clauseHere_52 : decode cX12_clauseHere 52 = .ok (.invokevirtual 108, 3) := by decide +kernel
theorem dX12_clauseHere_55 : decode cX12_clauseHere 55 = .ok (.ireturn, 1) := by decide +kernel
theorem dX12_clauseHere_56 : decode cX12_clauseHere 56 = .ok (.aload_n 0, 1) := by decide +kernel
theorem dX12_clauseHere_57 : decode cX12_clauseHere 57 = .ok (.getfield 244, 3) := by decide +kernel
theorem dX12_clauseHere_60 : decode cX12_clauseHere 60 = .ok (.iload_n 2, 1) := by decide +kernel
theorem dX12_clauseHere_61 : decode cX12_clauseHere 61 = .ok (.ifCond .eq 8, 3) := by decide +kernel
theorem dX12_clauseHere_69 : decode cX12_clauseHere 69 = .ok (.bipush 12, 2) := by decide +kernel
theorem dX12_clauseHere_71 : decode cX12_clauseHere 71 = .ok (.if_icmp .ne 10, 3) := by decide +kernel
theorem dX12_clauseHere_74 : decode cX12_clauseHere 74 = .ok (.aload_n 0, 1) := by decide +kernel
theorem dX12_clauseHere_75 : decode cX12_clauseHere 75 = .ok (.iconst 4, 1) := by decide +kernel
theorem dX12_clauseHere_76 : decode cX12_clauseHere 76 = .ok (.iload_n 1, 1) := by decide +kernel
theorem dX12_clauseHere_77 : decode cX12_clauseHere 77 = .ok (.invokevirtual 108, 3) := by decide +kernel
theorem dX12_clauseHere_80 : decode cX12_clauseHere 80 = .ok (.ireturn, 1) := by decide +kernel
theorem dX12_clauseHere_81 : decode cX12_clauseHere 81 = .ok (.aload_n 0, 1) := by decide +kernel
theorem dX12_clauseHere_82 : decode cX12_clauseHere 82 = .ok (.dup, 1) := by decide +kernel
theorem dX12_clauseHere_83 : decode cX12_clauseHere 83 = .ok (.getfield 244, 3) := by decide +kernel
theorem dX12_clauseHere_86 : decode cX12_clauseHere 86 = .ok (.iconst 1, 1) := by decide +kernel
theorem dX12_clauseHere_87 : decode cX12_clauseHere 87 = .ok (.iadd, 1) := by decide +kernel
theorem dX12_clauseHere_88 : decode cX12_clauseHere 88 = .ok (.putfield 244, 3) := by decide +kernel
theorem dX12_clauseHere_91 : decode cX12_clauseHere 91 = .ok (.iload_n 2, 1) := by decide +kernel
theorem dX12_clauseHere_92 : decode cX12_clauseHere 92 = .ok (.ifCond .eq 11, 3) := by decide +kernel
theorem dX12_clauseHere_103 : decode cX12_clauseHere 103 = .ok (.aload_n 0, 1) := by decide +kernel
theorem dX12_clauseHere_104 : decode cX12_clauseHere 104 = .ok (.invokevirtual 250, 3) := by decide +kernel
theorem dX12_clauseHere_107 : decode cX12_clauseHere 107 = .ok (.ireturn, 1) := by decide +kernel
theorem dX12_isBuyHere_0 : decode cX12_isBuyHere 0 = .ok (.aload_n 0, 1) := by decide +kernel
theorem dX12_isBuyHere_1 : decode cX12_isBuyHere 1 = .ok (.invokevirtual 102, 3) := by decide +kernel
theorem dX12_isBuyHere_4 : decode cX12_isBuyHere 4 = .ok (.bipush 48, 2) := by decide +kernel
theorem dX12_isBuyHere_6 : decode cX12_isBuyHere 6 = .ok (.aload_n 0, 1) := by decide +kernel
theorem dX12_isBuyHere_7 : decode cX12_isBuyHere 7 = .ok (.getfield 145, 3) := by decide +kernel
theorem dX12_isBuyHere_10 : decode cX12_isBuyHere 10 = .ok (.imul, 1) := by decide +kernel
theorem dX12_isBuyHere_11 : decode cX12_isBuyHere 11 = .ok (.iconst 4, 1) := by decide +kernel
theorem dX12_isBuyHere_12 : decode cX12_isBuyHere 12 = .ok (.aload_n 0, 1) := by decide +kernel
theorem dX12_isBuyHere_13 : decode cX12_isBuyHere 13 = .ok (.getfield 23, 3) := by decide +kernel
theorem dX12_isBuyHere_16 : decode cX12_isBuyHere 16 = .ok (.aload_n 0, 1) := by decide +kernel
theorem dX12_isBuyHere_17 : decode cX12_isBuyHere 17 = .ok (.getfield 145, 3) := by decide +kernel
theorem dX12_isBuyHere_20 : decode cX12_isBuyHere 20 = .ok (.iaload, 1) := by decide +kernel
theorem dX12_isBuyHere_21 : decode cX12_isBuyHere 21 = .ok (.imul, 1) := by decide +kernel
theorem dX12_isBuyHere_22 : decode cX12_isBuyHere 22 = .ok (.iadd, 1) := by decide +kernel
theorem dX12_isBuyHere_23 : decode cX12_isBuyHere 23 = .ok (.istore_n 1, 1) := by decide +kernel
theorem dX12_isBuyHere_24 : decode cX12_isBuyHere 24 = .ok (.aload_n 0, 1) := by decide +kernel
theorem dX12_isBuyHere_25 : decode cX12_isBuyHere 25 = .ok (.getfield 20, 3) := by decide +kernel
theorem dX12_isBuyHere_28 : decode cX12_isBuyHere 28 = .ok (.iload_n 1, 1) := by decide +kernel
theorem dX12_isBuyHere_29 : decode cX12_isBuyHere 29 = .ok (.aload_n 0, 1) := by decide +kernel
theorem dX12_isBuyHere_30 : decode cX12_isBuyHere 30 = .ok (.getfield 17, 3) := by decide +kernel
theorem dX12_isBuyHere_33 : decode cX12_isBuyHere 33 = .ok (.aload_n 0, 1) := by decide +kernel
theorem dX12_isBuyHere_34 : decode cX12_isBuyHere 34 = .ok (.getfield 145, 3) := by decide +kernel
theorem dX12_isBuyHere_37 : decode cX12_isBuyHere 37 = .ok (.iaload, 1) := by decide +kernel
theorem dX12_isBuyHere_38 : decode cX12_isBuyHere 38 = .ok (.iastore, 1) := by decide +kernel
theorem dX12_isBuyHere_39 : decode cX12_isBuyHere 39 = .ok (.aload_n 0, 1) := by decide +kernel
theorem dX12_isBuyHere_40 : decode cX12_isBuyHere 40 = .ok (.invokevirtual 182, 3) := by decide +kernel
theorem dX12_isBuyHere_43 : decode cX12_isBuyHere 43 = .ok (.ifCond .ne 5, 3) := by decide +kernel
theorem dX12_isBuyHere_46 : decode cX12_isBuyHere 46 = .ok (.iconst 0, 1) := by decide +kernel
theorem dX12_isBuyHere_47 : decode cX12_isBuyHere 47 = .ok (.ireturn, 1) := by decide +kernel
theorem dX12_isBuyHere_48 : decode cX12_isBuyHere 48 = .ok (.aload_n 0, 1) := by decide +kernel
theorem dX12_isBuyHere_49 : decode cX12_isBuyHere 49 = .ok (.getfield 20, 3) := by decide +kernel
theorem dX12_isBuyHere_52 : decode cX12_isBuyHere 52 = .ok (.iload_n 1, 1) := by decide +kernel
theorem dX12_isBuyHere_53 : decode cX12_isBuyHere 53 = .ok (.iconst 1, 1) := by decide +kernel
theorem dX12_isBuyHere_54 : decode cX12_isBuyHere 54 = .ok (.iadd, 1) := by decide +kernel
theorem dX12_isBuyHere_55 : decode cX12_isBuyHere 55 = .ok (.aload_n 0, 1) := by decide +kernel
theorem dX12_isBuyHere_56 : decode cX12_isBuyHere 56 = .ok (.getfield 17, 3) := by decide +kernel
theorem dX12_isBuyHere_59 : decode cX12_isBuyHere 59 = .ok (.aload_n 0, 1) := by decide +kernel
theorem dX12_isBuyHere_60 : decode cX12_isBuyHere 60 = .ok (.getfield 145, 3) := by decide +kernel
theorem dX12_isBuyHere_63 : decode cX12_isBuyHere 63 = .ok (.iaload, 1) := by decide +kernel
theorem dX12_isBuyHere_64 : decode cX12_isBuyHere 64 = .ok (.iastore, 1) := by decide +kernel
theorem dX12_isBuyHere_65 : decode cX12_isBuyHere 65 = .ok (.aload_n 0, 1) := by decide +kernel
theorem dX12_isBuyHere_66 : decode cX12_isBuyHere 66 = .ok (.getfield 20, 3) := by decide +kernel
theorem dX12_isBuyHere_69 : decode cX12_isBuyHere 69 = .ok (.iload_n 1, 1) := by decide +kernel
theorem dX12_isBuyHere_70 : decode cX12_isBuyHere 70 = .ok (.iconst 2, 1) := by decide +kernel
theorem dX12_isBuyHere_71 : decode cX12_isBuyHere 71 = .ok (.iadd, 1) := by decide +kernel
theorem dX12_isBuyHere_72 : decode cX12_isBuyHere 72 = .ok (.iconst (-1), 1) := by decide +kernel
theorem dX12_isBuyHere_73 : decode cX12_isBuyHere 73 = .ok (.iastore, 1) := by decide +kernel
theorem dX12_isBuyHere_74 : decode cX12_isBuyHere 74 = .ok (.aload_n 0, 1) := by decide +kernel
theorem dX12_isBuyHere_75 : decode cX12_isBuyHere 75 = .ok (.ldc2_w 209, 3) := by decide +kernel
theorem dX12_isBuyHere_78 : decode cX12_isBuyHere 78 = .ok (.invokevirtual 211, 3) := by decide +kernel
theorem dX12_isBuyHere_81 : decode cX12_isBuyHere 81 = .ok (.ifCond .eq 29, 3) := by decide +kernel
theorem dX12_isBuyHere_84 : decode cX12_isBuyHere 84 = .ok (.aload_n 0, 1) := by decide +kernel
theorem dX12_isBuyHere_85 : decode cX12_isBuyHere 85 = .ok (.getfield 20, 3) := by decide +kernel
theorem dX12_isBuyHere_88 : decode cX12_isBuyHere 88 = .ok (.iload_n 1, 1) := by decide +kernel
theorem dX12_isBuyHere_89 : decode cX12_isBuyHere 89 = .ok (.iconst 2, 1) := by decide +kernel
theorem dX12_isBuyHere_90 : decode cX12_isBuyHere 90 = .ok (.iadd, 1) := by decide +kernel
theorem dX12_isBuyHere_91 : decode cX12_isBuyHere 91 = .ok (.aload_n 0, 1) := by decide +kernel
theorem dX12_isBuyHere_92 : decode cX12_isBuyHere 92 = .ok (.getfield 17, 3) := by decide +kernel
theorem dX12_isBuyHere_95 : decode cX12_isBuyHere 95 = .ok (.aload_n 0, 1) := by decide +kernel
theorem dX12_isBuyHere_96 : decode cX12_isBuyHere 96 = .ok (.getfield 145, 3) := by decide +kernel
theorem dX12_isBuyHere_99 : decode cX12_isBuyHere 99 = .ok (.iaload, 1) := by decide +kernel
theorem dX12_isBuyHere_100 : decode cX12_isBuyHere 100 = .ok (.iastore, 1) := by decide +kernel
theorem dX12_isBuyHere_101 : decode cX12_isBuyHere 101 = .ok (.aload_n 0, 1) := by decide +kernel
theorem dX12_isBuyHere_102 : decode cX12_isBuyHere 102 = .ok (.invokevirtual 214, 3) := by decide +kernel
theorem dX12_isBuyHere_105 : decode cX12_isBuyHere 105 = .ok (.ifCond .ne 5, 3) := by decide +kernel
theorem dX12_isBuyHere_108 : decode cX12_isBuyHere 108 = .ok (.iconst 0, 1) := by decide +kernel
theorem dX12_isBuyHere_109 : decode cX12_isBuyHere 109 = .ok (.ireturn, 1) := by decide +kernel
theorem dX12_isBuyHere_110 : decode cX12_isBuyHere 110 = .ok (.aload_n 0, 1) := by decide +kernel
theorem dX12_isBuyHere_111 : decode cX12_isBuyHere 111 = .ok (.getfield 20, 3) := by decide +kernel
theorem dX12_isBuyHere_114 : decode cX12_isBuyHere 114 = .ok (.iload_n 1, 1) := by decide +kernel
theorem dX12_isBuyHere_115 : decode cX12_isBuyHere 115 = .ok (.iconst 3, 1) := by decide +kernel
theorem dX12_isBuyHere_116 : decode cX12_isBuyHere 116 = .ok (.iadd, 1) := by decide +kernel
theorem dX12_isBuyHere_117 : decode cX12_isBuyHere 117 = .ok (.aload_n 0, 1) := by decide +kernel
theorem dX12_isBuyHere_118 : decode cX12_isBuyHere 118 = .ok (.getfield 17, 3) := by decide +kernel
theorem dX12_isBuyHere_121 : decode cX12_isBuyHere 121 = .ok (.aload_n 0, 1) := by decide +kernel
theorem dX12_isBuyHere_122 : decode cX12_isBuyHere 122 = .ok (.getfield 145, 3) := by decide +kernel
theorem dX12_isBuyHere_125 : decode cX12_isBuyHere 125 = .ok (.iaload, 1) := by decide +kernel
theorem dX12_isBuyHere_126 : decode cX12_isBuyHere 126 = .ok (.iastore, 1) := by decide +kernel
theorem dX12_isBuyHere_127 : decode cX12_isBuyHere 127 = .ok (.aload_n 0, 1) := by decide +kernel
theorem dX12_isBuyHere_128 : decode cX12_isBuyHere 128 = .ok (.getfield 23, 3) := by decide +kernel
theorem dX12_isBuyHere_131 : decode cX12_isBuyHere 131 = .ok (.aload_n 0, 1) := by decide +kernel
theorem dX12_isBuyHere_132 : decode cX12_isBuyHere 132 = .ok (.getfield 145, 3) := by decide +kernel
theorem dX12_isBuyHere_135 : decode cX12_isBuyHere 135 = .ok (.dup2, 1) := by decide +kernel
theorem dX12_isBuyHere_136 : decode cX12_isBuyHere 136 = .ok (.iaload, 1) := by decide +kernel
theorem dX12_isBuyHere_137 : decode cX12_isBuyHere 137 = .ok (.iconst 1, 1) := by decide +kernel
theorem dX12_isBuyHere_138 : decode cX12_isBuyHere 138 = .ok (.iadd, 1) := by decide +kernel
theorem dX12_isBuyHere_139 : decode cX12_isBuyHere 139 = .ok (.iastore, 1) := by decide +kernel
theorem dX12_isBuyHere_140 : decode cX12_isBuyHere 140 = .ok (.iconst 1, 1) := by decide +kernel
theorem dX12_isBuyHere_141 : decode cX12_isBuyHere 141 = .ok (.ireturn, 1) := by decide +kernel
theorem dX12_readsAll_0 : decode cX12_readsAll 0 = .ok (.aload_n 0, 1) := by decide +kernel
theorem dX12_readsAll_1 : decode cX12_readsAll 1 = .ok (.getfield 17, 3) := by decide +kernel
theorem dX12_readsAll_4 : decode cX12_readsAll 4 = .ok (.aload_n 0, 1) := by decide +kernel
theorem dX12_readsAll_5 : decode cX12_readsAll 5 = .ok (.getfield 145, 3) := by decide +kernel
theorem dX12_readsAll_8 : decode cX12_readsAll 8 = .ok (.iconst 0, 1) := by decide +kernel
theorem dX12_readsAll_9 : decode cX12_readsAll 9 = .ok (.iastore, 1) := by decide +kernel
theorem dX12_readsAll_10 : decode cX12_readsAll 10 = .ok (.aload_n 0, 1) := by decide +kernel
theorem dX12_readsAll_11 : decode cX12_readsAll 11 = .ok (.iconst 0, 1) := by decide +kernel
theorem dX12_readsAll_12 : decode cX12_readsAll 12 = .ok (.putfield 244, 3) := by decide +kernel
theorem dX12_readsAll_15 : decode cX12_readsAll 15 = .ok (.aload_n 0, 1) := by decide +kernel
theorem dX12_readsAll_16 : decode cX12_readsAll 16 = .ok (.iconst 0, 1) := by decide +kernel
theorem dX12_readsAll_17 : decode cX12_readsAll 17 = .ok (.putfield 87, 3) := by decide +kernel
theorem dX12_readsAll_20 : decode cX12_readsAll 20 = .ok (.aload_n 0, 1) := by decide +kernel
theorem dX12_readsAll_21 : decode cX12_readsAll 21 = .ok (.iconst 0, 1) := by decide +kernel
theorem dX12_readsAll_22 : decode cX12_readsAll 22 = .ok (.putfield 84, 3) := by decide +kernel
theorem dX12_readsAll_25 : decode cX12_readsAll 25 = .ok (.aload_n 0, 1) := by decide +kernel
theorem dX12_readsAll_26 : decode cX12_readsAll 26 = .ok (.iconst 0, 1) := by decide +kernel
theorem dX12_readsAll_27 : decode cX12_readsAll 27 = .ok (.putfield 148, 3) := by decide +kernel
theorem dX12_readsAll_30 : decode cX12_readsAll 30 = .ok (.aload_n 0, 1) := by decide +kernel
theorem dX12_readsAll_31 : decode cX12_readsAll 31 = .ok (.invokevirtual 253, 3) := by decide +kernel
theorem dX12_readsAll_34 : decode cX12_readsAll 34 = .ok (.istore_n 1, 1) := by decide +kernel
theorem dX12_readsAll_35 : decode cX12_readsAll 35 = .ok (.iload_n 1, 1) := by decide +kernel
theorem dX12_readsAll_36 : decode cX12_readsAll 36 = .ok (.ifCond .eq 30, 3) := by decide +kernel
theorem dX12_readsAll_39 : decode cX12_readsAll 39 = .ok (.aload_n 0, 1) := by decide +kernel
theorem dX12_readsAll_40 : decode cX12_readsAll 40 = .ok (.invokevirtual 90, 3) := by decide +kernel
theorem dX12_readsAll_43 : decode cX12_readsAll 43 = .ok (.bipush 59, 2) := by decide +kernel
theorem dX12_readsAll_45 : decode cX12_readsAll 45 = .ok (.if_icmp .ne 21, 3) := by decide +kernel
theorem dX12_readsAll_48 : decode cX12_readsAll 48 = .ok (.aload_n 0, 1) := by decide +kernel
theorem dX12_readsAll_49 : decode cX12_readsAll 49 = .ok (.dup, 1) := by decide +kernel
theorem dX12_readsAll_50 : decode cX12_readsAll 50 = .ok (.getfield 87, 3) := by decide +kernel
theorem dX12_readsAll_53 : decode cX12_readsAll 53 = .ok (.iconst 1, 1) := by decide +kernel
theorem dX12_readsAll_54 : decode cX12_readsAll 54 = .ok (.iadd, 1) := by decide +kernel
theorem dX12_readsAll_55 : decode cX12_readsAll 55 = .ok (.putfield 87, 3) := by decide +kernel
theorem dX12_readsAll_58 : decode cX12_readsAll 58 = .ok (.aload_n 0, 1) := by decide +kernel
theorem dX12_readsAll_59 : decode cX12_readsAll 59 = .ok (.invokevirtual 253, 3) := by decide +kernel
theorem dX12_readsAll_62 : decode cX12_readsAll 62 = .ok (.istore_n 1, 1) := by decide +kernel
theorem dX12_readsAll_63 : decode cX12_readsAll 63 = .ok (.goto (-28), 3) := by decide +kernel
theorem dX12_readsAll_66 : decode cX12_readsAll 66 = .ok (.iload_n 1, 1) := by decide +kernel
theorem dX12_readsAll_67 : decode cX12_readsAll 67 = .ok (.ifCond .eq 21, 3) := by decide +kernel
theorem dX12_readsAll_70 : decode cX12_readsAll 70 = .ok (.aload_n 0, 1) := by decide +kernel
theorem dX12_readsAll_71 : decode cX12_readsAll 71 = .ok (.invokevirtual 90, 3) := by decide +kernel
theorem dX12_readsAll_74 : decode cX12_readsAll 74 = .ok (.iconst (-1), 1) := by decide +kernel
theorem dX12_readsAll_75 : decode cX12_readsAll 75 = .ok (.if_icmp .eq 13, 3) := by decide +kernel
theorem dX12_readsAll_78 : decode cX12_readsAll 78 = .ok (.aload_n 0, 1) := by decide +kernel
theorem dX12_readsAll_79 : decode cX12_readsAll 79 = .ok (.iconst 0, 1) := by decide +kernel
theorem dX12_readsAll_80 : decode cX12_readsAll 80 = .ok (.aload_n 0, 1) := by decide +kernel
theorem dX12_readsAll_81 : decode cX12_readsAll 81 = .ok (.getfield 87, 3) := by decide +kernel
theorem dX12_readsAll_84 : decode cX12_readsAll 84 = .ok (.invokevirtual 108, 3) := by decide +kernel
theorem dX12_readsAll_87 : decode cX12_readsAll 87 = .ok (.pop, 1) := by decide +kernel
theorem dX12_readsAll_88 : decode cX12_readsAll 88 = .ok (.aload_n 0, 1) := by decide +kernel
theorem dX12_readsAll_89 : decode cX12_readsAll 89 = .ok (.iconst 0, 1) := by decide +kernel
theorem dX12_readsAll_90 : decode cX12_readsAll 90 = .ok (.putfield 77, 3) := by decide +kernel
theorem dX12_readsAll_93 : decode cX12_readsAll 93 = .ok (.aload_n 0, 1) := by decide +kernel
theorem dX12_readsAll_94 : decode cX12_readsAll 94 = .ok (.getfield 84, 3) := by decide +kernel
theorem dX12_readsAll_97 : decode cX12_readsAll 97 = .ok (.ifCond .ne 7, 3) := by decide +kernel
theorem dX12_readsAll_100 : decode cX12_readsAll 100 = .ok (.iconst 1, 1) := by decide +kernel
theorem dX12_readsAll_101 : decode cX12_readsAll 101 = .ok (.goto 4, 3) := by decide +kernel
theorem dX12_readsAll_104 : decode cX12_readsAll 104 = .ok (.iconst 0, 1) := by decide +kernel
theorem dX12_readsAll_105 : decode cX12_readsAll 105 = .ok (.ireturn, 1) := by decide +kernel
theorem dX12_rule_0 : decode cX12_rule 0 = .ok (.aload_n 0, 1) := by decide +kernel
theorem dX12_rule_1 : decode cX12_rule 1 = .ok (.getfield 256, 3) := by decide +kernel
theorem dX12_rule_4 : decode cX12_rule 4 = .ok (.bipush 6, 2) := by decide +kernel
theorem dX12_rule_6 : decode cX12_rule 6 = .ok (.if_icmp .ne 5, 3) := by decide +kernel
theorem dX12_rule_9 : decode cX12_rule 9 = .ok (.iconst (-1), 1) := by decide +kernel
theorem dX12_rule_10 : decode cX12_rule 10 = .ok (.ireturn, 1) := by decide +kernel
theorem dX12_rule_11 : decode cX12_rule 11 = .ok (.aload_n 0, 1) := by decide +kernel
theorem dX12_rule_12 : decode cX12_rule 12 = .ok (.aload_n 0, 1) := by decide +kernel
theorem dX12_rule_13 : decode cX12_rule 13 = .ok (.getfield 256, 3) := by decide +kernel
theorem dX12_rule_16 : decode cX12_rule 16 = .ok (.putfield 145, 3) := by decide +kernel
theorem dX12_rule_19 : decode cX12_rule 19 = .ok (.aload_n 0, 1) := by decide +kernel
theorem dX12_rule_20 : decode cX12_rule 20 = .ok (.getfield 23, 3) := by decide +kernel
theorem dX12_rule_23 : decode cX12_rule 23 = .ok (.aload_n 0, 1) := by decide +kernel
theorem dX12_rule_24 : decode cX12_rule 24 = .ok (.getfield 145, 3) := by decide +kernel
theorem dX12_rule_27 : decode cX12_rule 27 = .ok (.iconst 0, 1) := by decide +kernel
theorem dX12_rule_28 : decode cX12_rule 28 = .ok (.iastore, 1) := by decide +kernel
theorem dX12_rule_29 : decode cX12_rule 29 = .ok (.aload_n 0, 1) := by decide +kernel
theorem dX12_rule_30 : decode cX12_rule 30 = .ok (.invokevirtual 259, 3) := by decide +kernel
theorem dX12_rule_33 : decode cX12_rule 33 = .ok (.ifCond .ne 11, 3) := by decide +kernel
theorem dX12_rule_36 : decode cX12_rule 36 = .ok (.bipush (-2), 2) := by decide +kernel
theorem dX12_rule_38 : decode cX12_rule 38 = .ok (.aload_n 0, 1) := by decide +kernel
theorem dX12_rule_39 : decode cX12_rule 39 = .ok (.getfield 84, 3) := by decide +kernel
theorem dX12_rule_42 : decode cX12_rule 42 = .ok (.isub, 1) := by decide +kernel
theorem dX12_rule_43 : decode cX12_rule 43 = .ok (.ireturn, 1) := by decide +kernel
theorem dX12_rule_44 : decode cX12_rule 44 = .ok (.aload_n 0, 1) := by decide +kernel
theorem dX12_rule_45 : decode cX12_rule 45 = .ok (.dup, 1) := by decide +kernel
theorem dX12_rule_46 : decode cX12_rule 46 = .ok (.getfield 256, 3) := by decide +kernel
theorem dX12_rule_49 : decode cX12_rule 49 = .ok (.iconst 1, 1) := by decide +kernel
theorem dX12_rule_50 : decode cX12_rule 50 = .ok (.iadd, 1) := by decide +kernel
theorem dX12_rule_51 : decode cX12_rule 51 = .ok (.putfield 256, 3) := by decide +kernel
theorem dX12_rule_54 : decode cX12_rule 54 = .ok (.aload_n 0, 1) := by decide +kernel
theorem dX12_rule_55 : decode cX12_rule 55 = .ok (.getfield 256, 3) := by decide +kernel
theorem dX12_rule_58 : decode cX12_rule 58 = .ok (.iconst 1, 1) := by decide +kernel
theorem dX12_rule_59 : decode cX12_rule 59 = .ok (.isub, 1) := by decide +kernel
theorem dX12_rule_60 : decode cX12_rule 60 = .ok (.ireturn, 1) := by decide +kernel
theorem dX12_book_0 : decode cX12_book 0 = .ok (.aload_n 0, 1) := by decide +kernel
theorem dX12_book_1 : decode cX12_book 1 = .ok (.bipush 6, 2) := by decide +kernel
theorem dX12_book_3 : decode cX12_book 3 = .ok (.putfield 145, 3) := by decide +kernel
theorem dX12_book_6 : decode cX12_book 6 = .ok (.iconst 0, 1) := by decide +kernel
theorem dX12_book_7 : decode cX12_book 7 = .ok (.istore_n 1, 1) := by decide +kernel
theorem dX12_book_8 : decode cX12_book 8 = .ok (.iload_n 1, 1) := by decide +kernel
theorem dX12_book_9 : decode cX12_book 9 = .ok (.bipush 95, 2) := by decide +kernel
theorem dX12_book_11 : decode cX12_book 11 = .ok (.if_icmp .ge 16, 3) := by decide +kernel
theorem dX12_book_14 : decode cX12_book 14 = .ok (.aload_n 0, 1) := by decide +kernel
theorem dX12_book_15 : decode cX12_book 15 = .ok (.getfield 26, 3) := by decide +kernel
theorem dX12_book_18 : decode cX12_book 18 = .ok (.iload_n 1, 1) := by decide +kernel
theorem dX12_book_19 : decode cX12_book 19 = .ok (.iconst 0, 1) := by decide +kernel
theorem dX12_book_20 : decode cX12_book 20 = .ok (.iastore, 1) := by decide +kernel
theorem dX12_book_21 : decode cX12_book 21 = .ok (.iinc 1 1, 3) := by decide +kernel
theorem dX12_book_24 : decode cX12_book 24 = .ok (.goto (-16), 3) := by decide +kernel
theorem dX12_book_27 : decode cX12_book 27 = .ok (.aload_n 0, 1) := by decide +kernel
theorem dX12_book_28 : decode cX12_book 28 = .ok (.invokevirtual 259, 3) := by decide +kernel
theorem dX12_book_31 : decode cX12_book 31 = .ok (.ifCond .ne 11, 3) := by decide +kernel
theorem dX12_book_34 : decode cX12_book 34 = .ok (.bipush (-2), 2) := by decide +kernel
theorem dX12_book_36 : decode cX12_book 36 = .ok (.aload_n 0, 1) := by decide +kernel
theorem dX12_book_37 : decode cX12_book 37 = .ok (.getfield 84, 3) := by decide +kernel
theorem dX12_book_40 : decode cX12_book 40 = .ok (.isub, 1) := by decide +kernel
theorem dX12_book_41 : decode cX12_book 41 = .ok (.ireturn, 1) := by decide +kernel
theorem dX12_book_42 : decode cX12_book 42 = .ok (.iconst 0, 1) := by decide +kernel
theorem dX12_book_43 : decode cX12_book 43 = .ok (.istore_n 1, 1) := by decide +kernel
theorem dX12_book_44 : decode cX12_book 44 = .ok (.iload_n 1, 1) := by decide +kernel
theorem dX12_book_45 : decode cX12_book 45 = .ok (.bipush 126, 2) := by decide +kernel
theorem dX12_book_47 : decode cX12_book 47 = .ok (.if_icmp .ge 31, 3) := by decide +kernel
theorem dX12_book_50 : decode cX12_book 50 = .ok (.aload_n 0, 1) := by decide +kernel
theorem dX12_book_51 : decode cX12_book 51 = .ok (.getfield 39, 3) := by decide +kernel
theorem dX12_book_54 : decode cX12_book 54 = .ok (.iload_n 1, 1) := by decide +kernel
theorem dX12_book_55 : decode cX12_book 55 = .ok (.iload_n 1, 1) := by decide +kernel
theorem dX12_book_56 : decode cX12_book 56 = .ok (.bipush 95, 2) := by decide +kernel
theorem dX12_book_58 : decode cX12_book 58 = .ok (.if_icmp .ge 12, 3) := by decide +kernel
theorem dX12_book_61 : decode cX12_book 61 = .ok (.aload_n 0, 1) := by decide +kernel
theorem dX12_book_62 : decode cX12_book 62 = .ok (.getfield 26, 3) := by decide +kernel
theorem dX12_book_65 : decode cX12_book 65 = .ok (.iload_n 1, 1) := by decide +kernel
theorem dX12_book_66 : decode cX12_book 66 = .ok (.iaload, 1) := by decide +kernel
theorem dX12_book_67 : decode cX12_book 67 = .ok (.goto 4, 3) := by decide +kernel
theorem dX12_book_70 : decode cX12_book 70 = .ok (.iconst 0, 1) := by decide +kernel
theorem dX12_book_71 : decode cX12_book 71 = .ok (.iastore, 1) := by decide +kernel
theorem dX12_book_72 : decode cX12_book 72 = .ok (.iinc 1 1, 3) := by decide +kernel
theorem dX12_book_75 : decode cX12_book 75 = .ok (.goto (-31), 3) := by decide +kernel
theorem dX12_book_78 : decode cX12_book 78 = .ok (.aload_n 0, 1) := by decide +kernel
theorem dX12_book_79 : decode cX12_book 79 = .ok (.invokevirtual 262, 3) := by decide +kernel
theorem dX12_book_82 : decode cX12_book 82 = .ok (.aload_n 0, 1) := by decide +kernel
theorem dX12_book_83 : decode cX12_book 83 = .ok (.iconst 0, 1) := by decide +kernel
theorem dX12_book_84 : decode cX12_book 84 = .ok (.putfield 265, 3) := by decide +kernel
theorem dX12_book_87 : decode cX12_book 87 = .ok (.aload_n 0, 1) := by decide +kernel
theorem dX12_book_88 : decode cX12_book 88 = .ok (.getfield 39, 3) := by decide +kernel
theorem dX12_book_91 : decode cX12_book 91 = .ok (.iconst 3, 1) := by decide +kernel
theorem dX12_book_92 : decode cX12_book 92 = .ok (.iaload, 1) := by decide +kernel
theorem dX12_book_93 : decode cX12_book 93 = .ok (.ireturn, 1) := by decide +kernel
theorem dX12_bookLineHere_0 : decode cX12_bookLineHere 0 = .ok (.aload_n 0, 1) := by decide +kernel
theorem dX12_bookLineHere_1 : decode cX12_bookLineHere 1 = .ok (.ldc2_w 221, 3) := by decide +kernel
theorem dX12_bookLineHere_4 : decode cX12_bookLineHere 4 = .ok (.invokevirtual 98, 3) := by decide +kernel
theorem dX12_bookLineHere_7 : decode cX12_bookLineHere 7 = .ok (.ifCond .eq 9, 3) := by decide +kernel
theorem dX12_bookLineHere_10 : decode cX12_bookLineHere 10 = .ok (.aload_n 0, 1) := by decide +kernel
theorem dX12_bookLineHere_11 : decode cX12_bookLineHere 11 = .ok (.iload_n 1, 1) := by decide +kernel
theorem dX12_bookLineHere_12 : decode cX12_bookLineHere 12 = .ok (.invokevirtual 223, 3) := by decide +kernel
theorem dX12_bookLineHere_15 : decode cX12_bookLineHere 15 = .ok (.ireturn, 1) := by decide +kernel
theorem dX12_bookLineHere_16 : decode cX12_bookLineHere 16 = .ok (.aload_n 0, 1) := by decide +kernel
theorem dX12_bookLineHere_17 : decode cX12_bookLineHere 17 = .ok (.getfield 26, 3) := by decide +kernel
theorem dX12_bookLineHere_20 : decode cX12_bookLineHere 20 = .ok (.iconst 0, 1) := by decide +kernel
theorem dX12_bookLineHere_21 : decode cX12_bookLineHere 21 = .ok (.iaload, 1) := by decide +kernel
theorem dX12_bookLineHere_22 : decode cX12_bookLineHere 22 = .ok (.ifCond .ne 10, 3) := by decide +kernel
theorem dX12_bookLineHere_25 : decode cX12_bookLineHere 25 = .ok (.aload_n 0, 1) := by decide +kernel
theorem dX12_bookLineHere_26 : decode cX12_bookLineHere 26 = .ok (.iconst 4, 1) := by decide +kernel
theorem dX12_bookLineHere_27 : decode cX12_bookLineHere 27 = .ok (.iload_n 1, 1) := by decide +kernel
theorem dX12_bookLineHere_28 : decode cX12_bookLineHere 28 = .ok (.invokevirtual 108, 3) := by decide +kernel
theorem dX12_bookLineHere_31 : decode cX12_bookLineHere 31 = .ok (.ireturn, 1) := by decide +kernel
theorem dX12_bookLineHere_32 : decode cX12_bookLineHere 32 = .ok (.aload_n 0, 1) := by decide +kernel
theorem dX12_bookLineHere_33 : decode cX12_bookLineHere 33 = .ok (.ldc2_w 226, 3) := by decide +kernel
theorem dX12_bookLineHere_36 : decode cX12_bookLineHere 36 = .ok (.invokevirtual 98, 3) := by decide +kernel
theorem dX12_bookLineHere_39 : decode cX12_bookLineHere 39 = .ok (.ifCond .eq 8, 3) := by decide +kernel
theorem dX12_bookLineHere_42 : decode cX12_bookLineHere 42 = .ok (.aload_n 0, 1) := by decide +kernel
theorem dX12_bookLineHere_43 : decode cX12_bookLineHere 43 = .ok (.invokevirtual 228, 3) := by decide +kernel
theorem dX12_bookLineHere_46 : decode cX12_bookLineHere 46 = .ok (.ireturn, 1) := by decide +kernel
theorem dX12_bookLineHere_47 : decode cX12_bookLineHere 47 = .ok (.aload_n 0, 1) := by decide +kernel
theorem dX12_bookLineHere_48 : decode cX12_bookLineHere 48 = .ok (.ldc2_w 119, 3) := by decide +kernel
theorem dX12_bookLineHere_51 : decode cX12_bookLineHere 51 = .ok (.invokevirtual 98, 3) := by decide +kernel
theorem dX12_bookLineHere_54 : decode cX12_bookLineHere 54 = .ok (.ifCond .eq 11, 3) := by decide +kernel
theorem dX12_bookLineHere_57 : decode cX12_bookLineHere 57 = .ok (.aload_n 0, 1) := by decide +kernel
theorem dX12_bookLineHere_58 : decode cX12_bookLineHere 58 = .ok (.iload_n 1, 1) := by decide +kernel
theorem dX12_bookLineHere_59 : decode cX12_bookLineHere 59 = .ok (.invokevirtual 231, 3) := by decide +kernel
theorem dX12_bookLineHere_62 : decode cX12_bookLineHere 62 = .ok (.goto 7, 3) := by decide +kernel
theorem dX12_bookLineHere_65 : decode cX12_bookLineHere 65 = .ok (.aload_n 0, 1) := by decide +kernel
theorem dX12_bookLineHere_66 : decode cX12_bookLineHere 66 = .ok (.invokevirtual 234, 3) := by decide +kernel
theorem dX12_bookLineHere_69 : decode cX12_bookLineHere 69 = .ok (.ireturn, 1) := by decide +kernel
theorem dX12_cellHere_0 : decode cX12_cellHere 0 = .ok (.aload_n 0, 1) := by decide +kernel
theorem dX12_cellHere_1 : decode cX12_cellHere 1 = .ok (.iload_n 2, 1) := by decide +kernel
theorem dX12_cellHere_2 : decode cX12_cellHere 2 = .ok (.iload_n 3, 1) := by decide +kernel
theorem dX12_cellHere_3 : decode cX12_cellHere 3 = .ok (.invokevirtual 166, 3) := by decide +kernel
theorem dX12_cellHere_6 : decode cX12_cellHere 6 = .ok (.ifCond .ne 5, 3) := by decide +kernel
theorem dX12_cellHere_9 : decode cX12_cellHere 9 = .ok (.iconst 0, 1) := by decide +kernel
theorem dX12_cellHere_10 : decode cX12_cellHere 10 = .ok (.ireturn, 1) := by decide +kernel
theorem dX12_cellHere_11 : decode cX12_cellHere 11 = .ok (.aload_n 0, 1) := by decide +kernel
theorem dX12_cellHere_12 : decode cX12_cellHere 12 = .ok (.getfield 26, 3) := by decide +kernel
theorem dX12_cellHere_15 : decode cX12_cellHere 15 = .ok (.iload_n 1, 1) := by decide +kernel
theorem dX12_cellHere_16 : decode cX12_cellHere 16 = .ok (.aload_n 0, 1) := by decide +kernel
theorem dX12_cellHere_17 : decode cX12_cellHere 17 = .ok (.getfield 112, 3) := by decide +kernel
theorem dX12_cellHere_20 : decode cX12_cellHere 20 = .ok (.iastore, 1) := by decide +kernel
theorem dX12_cellHere_21 : decode cX12_cellHere 21 = .ok (.iconst 1, 1) := by decide +kernel
theorem dX12_cellHere_22 : decode cX12_cellHere 22 = .ok (.ireturn, 1) := by decide +kernel
theorem dX12_clauseHere_19 : decode cX12_clauseHere 19 = .ok (.iconst 1, 1) := by decide +kernel
theorem dX12_clauseHere_20 : decode cX12_clauseHere 20 = .ok (.goto 4, 3) := by decide +kernel
theorem dX12_clauseHere_29 : decode cX12_clauseHere 29 = .ok (.aload_n 0, 1) := by decide +kernel
theorem dX12_clauseHere_30 : decode cX12_clauseHere 30 = .ok (.invokevirtual 239, 3) := by decide +kernel
theorem dX12_clauseHere_33 : decode cX12_clauseHere 33 = .ok (.ifCond .ne 23, 3) := by decide +kernel
theorem dX12_clauseHere_36 : decode cX12_clauseHere 36 = .ok (.goto 13, 3) := by decide +kernel
theorem dX12_clauseHere_64 : decode cX12_clauseHere 64 = .ok (.bipush 40, 2) := by decide +kernel
theorem dX12_clauseHere_66 : decode cX12_clauseHere 66 = .ok (.goto 5, 3) := by decide +kernel
theorem dX12_clauseHere_95 : decode cX12_clauseHere 95 = .ok (.aload_n 0, 1) := by decide +kernel
theorem dX12_clauseHere_96 : decode cX12_clauseHere 96 = .ok (.iload_n 1, 1) := by decide +kernel
theorem dX12_clauseHere_97 : decode cX12_clauseHere 97 = .ok (.invokevirtual 247, 3) := by decide +kernel
theorem dX12_clauseHere_100 : decode cX12_clauseHere 100 = .ok (.goto 7, 3) := by decide +kernel
theorem dX12_isBookHere_0 : decode cX12_isBookHere 0 = .ok (.aload_n 0, 1) := by decide +kernel
theorem dX12_isBookHere_1 : decode cX12_isBookHere 1 = .ok (.getfield 26, 3) := by decide +kernel
theorem dX12_isBookHere_4 : decode cX12_isBookHere 4 = .ok (.iconst 0, 1) := by decide +kernel
theorem dX12_isBookHere_5 : decode cX12_isBookHere 5 = .ok (.iaload, 1) := by decide +kernel
theorem dX12_isBookHere_6 : decode cX12_isBookHere 6 = .ok (.ifCond .le 10, 3) := by decide +kernel
theorem dX12_isBookHere_9 : decode cX12_isBookHere 9 = .ok (.aload_n 0, 1) := by decide +kernel
theorem dX12_isBookHere_10 : decode cX12_isBookHere 10 = .ok (.iconst 4, 1) := by decide +kernel
theorem dX12_isBookHere_11 : decode cX12_isBookHere 11 = .ok (.iload_n 1, 1) := by decide +kernel
theorem dX12_isBookHere_12 : decode cX12_isBookHere 12 = .ok (.invokevirtual 108, 3) := by decide +kernel
theorem dX12_isBookHere_15 : decode cX12_isBookHere 15 = .ok (.ireturn, 1) := by decide +kernel
theorem dX12_isBookHere_16 : decode cX12_isBookHere 16 = .ok (.aload_n 0, 1) := by decide +kernel
theorem dX12_isBookHere_17 : decode cX12_isBookHere 17 = .ok (.invokevirtual 102, 3) := by decide +kernel
theorem dX12_isBookHere_20 : decode cX12_isBookHere 20 = .ok (.aload_n 0, 1) := by decide +kernel
theorem dX12_isBookHere_21 : decode cX12_isBookHere 21 = .ok (.bipush 94, 2) := by decide +kernel
theorem dX12_isBookHere_23 : decode cX12_isBookHere 23 = .ok (.iconst 0, 1) := by decide +kernel
theorem dX12_isBookHere_24 : decode cX12_isBookHere 24 = .ok (.bipush 99, 2) := by decide +kernel
theorem dX12_isBookHere_26 : decode cX12_isBookHere 26 = .ok (.invokevirtual 217, 3) := by decide +kernel
theorem dX12_isBookHere_29 : decode cX12_isBookHere 29 = .ok (.ifCond .eq 25, 3) := by decide +kernel
theorem dX12_isBookHere_32 : decode cX12_isBookHere 32 = .ok (.aload_n 0, 1) := by decide +kernel
theorem dX12_isBookHere_33 : decode cX12_isBookHere 33 = .ok (.iconst 1, 1) := by decide +kernel
theorem dX12_isBookHere_34 : decode cX12_isBookHere 34 = .ok (.iconst 0, 1) := by decide +kernel
theorem dX12_isBookHere_35 : decode cX12_isBookHere 35 = .ok (.bipush 9, 2) := by decide +kernel
theorem dX12_isBookHere_37 : decode cX12_isBookHere 37 = .ok (.invokevirtual 217, 3) := by decide +kernel
theorem dX12_isBookHere_40 : decode cX12_isBookHere 40 = .ok (.ifCond .eq 14, 3) := by decide +kernel
theorem dX12_isBookHere_43 : decode cX12_isBookHere 43 = .ok (.aload_n 0, 1) := by decide +kernel
theorem dX12_isBookHere_44 : decode cX12_isBookHere 44 = .ok (.iconst 2, 1) := by decide +kernel
theorem dX12_isBookHere_45 : decode cX12_isBookHere 45 = .ok (.iconst 1, 1) := by decide +kernel
theorem dX12_isBookHere_46 : decode cX12_isBookHere 46 = .ok (.bipush 10, 2) := by decide +kernel
theorem dX12_isBookHere_48 : decode cX12_isBookHere 48 = .ok (.invokevirtual 217, 3) := by decide +kernel
theorem dX12_isBookHere_51 : decode cX12_isBookHere 51 = .ok (.ifCond .ne 5, 3) := by decide +kernel
theorem dX12_isBookHere_54 : decode cX12_isBookHere 54 = .ok (.iconst 0, 1) := by decide +kernel
theorem dX12_isBookHere_55 : decode cX12_isBookHere 55 = .ok (.ireturn, 1) := by decide +kernel
theorem dX12_isBookHere_56 : decode cX12_isBookHere 56 = .ok (.aload_n 0, 1) := by decide +kernel
theorem dX12_isBookHere_57 : decode cX12_isBookHere 57 = .ok (.getfield 26, 3) := by decide +kernel
theorem dX12_isBookHere_60 : decode cX12_isBookHere 60 = .ok (.iconst 0, 1) := by decide +kernel
theorem dX12_isBookHere_61 : decode cX12_isBookHere 61 = .ok (.iconst 1, 1) := by decide +kernel
theorem dX12_isBookHere_62 : decode cX12_isBookHere 62 = .ok (.iastore, 1) := by decide +kernel
theorem dX12_isBookHere_63 : decode cX12_isBookHere 63 = .ok (.iconst 1, 1) := by decide +kernel
theorem dX12_isBookHere_64 : decode cX12_isBookHere 64 = .ok (.ireturn, 1) := by decide +kernel
theorem dX12_isBookWord_0 : decode cX12_isBookWord 0 = .ok (.aload_n 0, 1) := by decide +kernel
theorem dX12_isBookWord_1 : decode cX12_isBookWord 1 = .ok (.ldc2_w 221, 3) := by decide +kernel
theorem dX12_isBookWord_4 : decode cX12_isBookWord 4 = .ok (.invokevirtual 98, 3) := by decide +kernel
theorem dX12_isBookWord_7 : decode cX12_isBookWord 7 = .ok (.ifCond .ne 33, 3) := by decide +kernel
theorem dX12_isBookWord_10 : decode cX12_isBookWord 10 = .ok (.aload_n 0, 1) := by decide +kernel
theorem dX12_isBookWord_11 : decode cX12_isBookWord 11 = .ok (.ldc2_w 226, 3) := by decide +kernel
theorem dX12_isBookWord_14 : decode cX12_isBookWord 14 = .ok (.invokevirtual 98, 3) := by decide +kernel
theorem dX12_isBookWord_17 : decode cX12_isBookWord 17 = .ok (.ifCond .ne 23, 3) := by decide +kernel
theorem dX12_isBookWord_20 : decode cX12_isBookWord 20 = .ok (.aload_n 0, 1) := by decide +kernel
theorem dX12_isBookWord_21 : decode cX12_isBookWord 21 = .ok (.ldc2_w 119, 3) := by decide +kernel
theorem dX12_isBookWord_24 : decode cX12_isBookWord 24 = .ok (.invokevirtual 98, 3) := by decide +kernel
theorem dX12_isBookWord_27 : decode cX12_isBookWord 27 = .ok (.ifCond .ne 13, 3) := by decide +kernel
theorem dX12_isBookWord_30 : decode cX12_isBookWord 30 = .ok (.aload_n 0, 1) := by decide +kernel
theorem dX12_isBookWord_31 : decode cX12_isBookWord 31 = .ok (.ldc2_w 237, 3) := by decide +kernel
theorem dX12_isBookWord_34 : decode cX12_isBookWord 34 = .ok (.invokevirtual 98, 3) := by decide +kernel
theorem dX12_isBookWord_37 : decode cX12_isBookWord 37 = .ok (.ifCond .eq 7, 3) := by decide +kernel
theorem dX12_isBookWord_40 : decode cX12_isBookWord 40 = .ok (.iconst 1, 1) := by decide +kernel
theorem dX12_isBookWord_41 : decode cX12_isBookWord 41 = .ok (.goto 4, 3) := by decide +kernel
theorem dX12_isBookWord_44 : decode cX12_isBookWord 44 = .ok (.iconst 0, 1) := by decide +kernel
theorem dX12_isBookWord_45 : decode cX12_isBookWord 45 = .ok (.ireturn, 1) := by decide +kernel
theorem dX12_isBuyerHere_0 : decode cX12_isBuyerHere 0 = .ok (.aload_n 0, 1) := by decide +kernel
theorem dX12_isBuyerHere_1 : decode cX12_isBuyerHere 1 = .ok (.getfield 26, 3) := by decide +kernel
theorem dX12_isBuyerHere_4 : decode cX12_isBuyerHere 4 = .ok (.iconst 3, 1) := by decide +kernel
theorem dX12_isBuyerHere_5 : decode cX12_isBuyerHere 5 = .ok (.iaload, 1) := by decide +kernel
theorem dX12_isBuyerHere_6 : decode cX12_isBuyerHere 6 = .ok (.bipush 6, 2) := by decide +kernel
theorem dX12_isBuyerHere_8 : decode cX12_isBuyerHere 8 = .ok (.if_icmp .ne 10, 3) := by decide +kernel
theorem dX12_isBuyerHere_11 : decode cX12_isBuyerHere 11 = .ok (.aload_n 0, 1) := by decide +kernel
theorem dX12_isBuyerHere_12 : decode cX12_isBuyerHere 12 = .ok (.iconst 4, 1) := by decide +kernel
theorem dX12_isBuyerHere_13 : decode cX12_isBuyerHere 13 = .ok (.iload_n 1, 1) := by decide +kernel
theorem dX12_isBuyerHere_14 : decode cX12_isBuyerHere 14 = .ok (.invokevirtual 108, 3) := by decide +kernel
theorem dX12_isBuyerHere_17 : decode cX12_isBuyerHere 17 = .ok (.ireturn, 1) := by decide +kernel
theorem dX12_isBuyerHere_18 : decode cX12_isBuyerHere 18 = .ok (.aload_n 0, 1) := by decide +kernel
theorem dX12_isBuyerHere_19 : decode cX12_isBuyerHere 19 = .ok (.invokevirtual 102, 3) := by decide +kernel
theorem dX12_isBuyerHere_22 : decode cX12_isBuyerHere 22 = .ok (.aload_n 0, 1) := by decide +kernel
theorem dX12_isBuyerHere_23 : decode cX12_isBuyerHere 23 = .ok (.getfield 26, 3) := by decide +kernel
theorem dX12_isBuyerHere_26 : decode cX12_isBuyerHere 26 = .ok (.iconst 3, 1) := by decide +kernel
theorem dX12_isBuyerHere_27 : decode cX12_isBuyerHere 27 = .ok (.iaload, 1) := by decide +kernel
theorem dX12_isBuyerHere_28 : decode cX12_isBuyerHere 28 = .ok (.istore_n 2, 1) := by decide +kernel
theorem dX12_isBuyerHere_29 : decode cX12_isBuyerHere 29 = .ok (.aload_n 0, 1) := by decide +kernel
theorem dX12_isBuyerHere_30 : decode cX12_isBuyerHere 30 = .ok (.bipush 68, 2) := by decide +kernel
theorem dX12_isBuyerHere_32 : decode cX12_isBuyerHere 32 = .ok (.iload_n 2, 1) := by decide +kernel
theorem dX12_isBuyerHere_33 : decode cX12_isBuyerHere 33 = .ok (.iadd, 1) := by decide +kernel
theorem dX12_isBuyerHere_34 : decode cX12_isBuyerHere 34 = .ok (.iconst 0, 1) := by decide +kernel
theorem dX12_isBuyerHere_35 : decode cX12_isBuyerHere 35 = .ok (.bipush 20, 2) := by decide +kernel
theorem dX12_isBuyerHere_37 : decode cX12_isBuyerHere 37 = .ok (.invokevirtual 217, 3) := by decide +kernel
theorem dX12_isBuyerHere_40 : decode cX12_isBuyerHere 40 = .ok (.ifCond .eq 31, 3) := by decide +kernel
theorem dX12_isBuyerHere_43 : decode cX12_isBuyerHere 43 = .ok (.aload_n 0, 1) := by decide +kernel
theorem dX12_isBuyerHere_44 : decode cX12_isBuyerHere 44 = .ok (.bipush 56, 2) := by decide +kernel
theorem dX12_isBuyerHere_46 : decode cX12_isBuyerHere 46 = .ok (.iload_n 2, 1) := by decide +kernel
theorem dX12_isBuyerHere_47 : decode cX12_isBuyerHere 47 = .ok (.iadd, 1) := by decide +kernel
theorem dX12_isBuyerHere_48 : decode cX12_isBuyerHere 48 = .ok (.iconst 1, 1) := by decide +kernel
theorem dX12_isBuyerHere_49 : decode cX12_isBuyerHere 49 = .ok (.bipush 9, 2) := by decide +kernel
theorem dX12_isBuyerHere_51 : decode cX12_isBuyerHere 51 = .ok (.invokevirtual 217, 3) := by decide +kernel
theorem dX12_isBuyerHere_54 : decode cX12_isBuyerHere 54 = .ok (.ifCond .eq 17, 3) := by decide +kernel
theorem dX12_isBuyerHere_57 : decode cX12_isBuyerHere 57 = .ok (.aload_n 0, 1) := by decide +kernel
theorem dX12_isBuyerHere_58 : decode cX12_isBuyerHere 58 = .ok (.bipush 62, 2) := by decide +kernel
theorem dX12_isBuyerHere_60 : decode cX12_isBuyerHere 60 = .ok (.iload_n 2, 1) := by decide +kernel
theorem dX12_isBuyerHere_61 : decode cX12_isBuyerHere 61 = .ok (.iadd, 1) := by decide +kernel
theorem dX12_isBuyerHere_62 : decode cX12_isBuyerHere 62 = .ok (.iconst 0, 1) := by decide +kernel
theorem dX12_isBuyerHere_63 : decode cX12_isBuyerHere 63 = .ok (.bipush 9, 2) := by decide +kernel
theorem dX12_isBuyerHere_65 : decode cX12_isBuyerHere 65 = .ok (.invokevirtual 217, 3) := by decide +kernel
theorem dX12_isBuyerHere_68 : decode cX12_isBuyerHere 68 = .ok (.ifCond .ne 5, 3) := by decide +kernel
theorem dX12_isBuyerHere_71 : decode cX12_isBuyerHere 71 = .ok (.iconst 0, 1) := by decide +kernel
theorem dX12_isBuyerHere_72 : decode cX12_isBuyerHere 72 = .ok (.ireturn, 1) := by decide +kernel
theorem dX12_isBuyerHere_73 : decode cX12_isBuyerHere 73 = .ok (.aload_n 0, 1) := by decide +kernel
theorem dX12_isBuyerHere_74 : decode cX12_isBuyerHere 74 = .ok (.getfield 26, 3) := by decide +kernel
theorem dX12_isBuyerHere_77 : decode cX12_isBuyerHere 77 = .ok (.iconst 3, 1) := by decide +kernel
theorem dX12_isBuyerHere_78 : decode cX12_isBuyerHere 78 = .ok (.dup2, 1) := by decide +kernel
theorem dX12_isBuyerHere_79 : decode cX12_isBuyerHere 79 = .ok (.iaload, 1) := by decide +kernel
theorem dX12_isBuyerHere_80 : decode cX12_isBuyerHere 80 = .ok (.iconst 1, 1) := by decide +kernel
theorem dX12_isBuyerHere_81 : decode cX12_isBuyerHere 81 = .ok (.iadd, 1) := by decide +kernel
theorem dX12_isBuyerHere_82 : decode cX12_isBuyerHere 82 = .ok (.iastore, 1) := by decide +kernel
theorem dX12_isBuyerHere_83 : decode cX12_isBuyerHere 83 = .ok (.iconst 1, 1) := by decide +kernel
theorem dX12_isBuyerHere_84 : decode cX12_isBuyerHere 84 = .ok (.ireturn, 1) := by decide +kernel
theorem dX12_isSkyHere_0 : decode cX12_isSkyHere 0 = .ok (.aload_n 0, 1) := by decide +kernel
theorem dX12_isSkyHere_1 : decode cX12_isSkyHere 1 = .ok (.invokevirtual 102, 3) := by decide +kernel
theorem dX12_isSkyHere_4 : decode cX12_isSkyHere 4 = .ok (.aload_n 0, 1) := by decide +kernel
theorem dX12_isSkyHere_5 : decode cX12_isSkyHere 5 = .ok (.iconst 0, 1) := by decide +kernel
theorem dX12_isSkyHere_6 : decode cX12_isSkyHere 6 = .ok (.aload_n 0, 1) := by decide +kernel
theorem dX12_isSkyHere_7 : decode cX12_isSkyHere 7 = .ok (.getfield 26, 3) := by decide +kernel
theorem dX12_isSkyHere_10 : decode cX12_isSkyHere 10 = .ok (.iconst 2, 1) := by decide +kernel
theorem dX12_isSkyHere_11 : decode cX12_isSkyHere 11 = .ok (.iaload, 1) := by decide +kernel
theorem dX12_isSkyHere_12 : decode cX12_isSkyHere 12 = .ok (.iconst 1, 1) := by decide +kernel
theorem dX12_isSkyHere_13 : decode cX12_isSkyHere 13 = .ok (.isub, 1) := by decide +kernel
theorem dX12_isSkyHere_14 : decode cX12_isSkyHere 14 = .ok (.invokevirtual 166, 3) := by decide +kernel
theorem dX12_isSkyHere_17 : decode cX12_isSkyHere 17 = .ok (.ifCond .ne 5, 3) := by decide +kernel
theorem dX12_isSkyHere_20 : decode cX12_isSkyHere 20 = .ok (.iconst 0, 1) := by decide +kernel
theorem dX12_isSkyHere_21 : decode cX12_isSkyHere 21 = .ok (.ireturn, 1) := by decide +kernel
theorem dX12_isSkyHere_22 : decode cX12_isSkyHere 22 = .ok (.aload_n 0, 1) := by decide +kernel
theorem dX12_isSkyHere_23 : decode cX12_isSkyHere 23 = .ok (.bipush 74, 2) := by decide +kernel
theorem dX12_isSkyHere_25 : decode cX12_isSkyHere 25 = .ok (.aload_n 0, 1) := by decide +kernel
theorem dX12_isSkyHere_26 : decode cX12_isSkyHere 26 = .ok (.getfield 112, 3) := by decide +kernel
theorem dX12_isSkyHere_29 : decode cX12_isSkyHere 29 = .ok (.iadd, 1) := by decide +kernel
theorem dX12_isSkyHere_30 : decode cX12_isSkyHere 30 = .ok (.iconst 0, 1) := by decide +kernel
theorem dX12_isSkyHere_31 : decode cX12_isSkyHere 31 = .ok (.bipush 9, 2) := by decide +kernel
theorem dX12_isSkyHere_33 : decode cX12_isSkyHere 33 = .ok (.invokevirtual 217, 3) := by decide +kernel
theorem dX12_isSkyHere_36 : decode cX12_isSkyHere 36 = .ok (.ireturn, 1) := by decide +kernel
theorem dX12_isWatchHere_0 : decode cX12_isWatchHere 0 = .ok (.aload_n 0, 1) := by decide +kernel
theorem dX12_isWatchHere_1 : decode cX12_isWatchHere 1 = .ok (.invokevirtual 102, 3) := by decide +kernel
theorem dX12_isWatchHere_4 : decode cX12_isWatchHere 4 = .ok (.aload_n 0, 1) := by decide +kernel
theorem dX12_isWatchHere_5 : decode cX12_isWatchHere 5 = .ok (.iconst 0, 1) := by decide +kernel
theorem dX12_isWatchHere_6 : decode cX12_isWatchHere 6 = .ok (.aload_n 0, 1) := by decide +kernel
theorem dX12_isWatchHere_7 : decode cX12_isWatchHere 7 = .ok (.getfield 26, 3) := by decide +kernel
theorem dX12_isWatchHere_10 : decode cX12_isWatchHere 10 = .ok (.iconst 2, 1) := by decide +kernel
theorem dX12_isWatchHere_11 : decode cX12_isWatchHere 11 = .ok (.iaload, 1) := by decide +kernel
theorem dX12_isWatchHere_12 : decode cX12_isWatchHere 12 = .ok (.iconst 1, 1) := by decide +kernel
theorem dX12_isWatchHere_13 : decode cX12_isWatchHere 13 = .ok (.isub, 1) := by decide +kernel
theorem dX12_isWatchHere_14 : decode cX12_isWatchHere 14 = .ok (.invokevirtual 166, 3) := by decide +kernel
theorem dX12_isWatchHere_17 : decode cX12_isWatchHere 17 = .ok (.ifCond .ne 5, 3) := by decide +kernel
theorem dX12_isWatchHere_20 : decode cX12_isWatchHere 20 = .ok (.iconst 0, 1) := by decide +kernel
theorem dX12_isWatchHere_21 : decode cX12_isWatchHere 21 = .ok (.ireturn, 1) := by decide +kernel
theorem dX12_isWatchHere_22 : decode cX12_isWatchHere 22 = .ok (.aload_n 0, 1) := by decide +kernel
theorem dX12_isWatchHere_23 : decode cX12_isWatchHere 23 = .ok (.getfield 112, 3) := by decide +kernel
theorem dX12_isWatchHere_26 : decode cX12_isWatchHere 26 = .ok (.istore_n 1, 1) := by decide +kernel
theorem dX12_isWatchHere_27 : decode cX12_isWatchHere 27 = .ok (.aload_n 0, 1) := by decide +kernel
theorem dX12_isWatchHere_28 : decode cX12_isWatchHere 28 = .ok (.iconst 0, 1) := by decide +kernel
theorem dX12_isWatchHere_29 : decode cX12_isWatchHere 29 = .ok (.aload_n 0, 1) := by decide +kernel
theorem dX12_isWatchHere_30 : decode cX12_isWatchHere 30 = .ok (.getfield 26, 3) := by decide +kernel
theorem dX12_isWatchHere_33 : decode cX12_isWatchHere 33 = .ok (.iconst 3, 1) := by decide +kernel
theorem dX12_isWatchHere_34 : decode cX12_isWatchHere 34 = .ok (.iaload, 1) := by decide +kernel
theorem dX12_isWatchHere_35 : decode cX12_isWatchHere 35 = .ok (.iconst 1, 1) := by decide +kernel
theorem dX12_isWatchHere_36 : decode cX12_isWatchHere 36 = .ok (.isub, 1) := by decide +kernel
theorem dX12_isWatchHere_37 : decode cX12_isWatchHere 37 = .ok (.invokevirtual 166, 3) := by decide +kernel
theorem dX12_isWatchHere_40 : decode cX12_isWatchHere 40 = .ok (.ifCond .ne 5, 3) := by decide +kernel
theorem dX12_isWatchHere_43 : decode cX12_isWatchHere 43 = .ok (.iconst 0, 1) := by decide +kernel
theorem dX12_isWatchHere_44 : decode cX12_isWatchHere 44 = .ok (.ireturn, 1) := by decide +kernel
theorem dX12_isWatchHere_45 : decode cX12_isWatchHere 45 = .ok (.aload_n 0, 1) := by decide +kernel
theorem dX12_isWatchHere_46 : decode cX12_isWatchHere 46 = .ok (.getfield 26, 3) := by decide +kernel
theorem dX12_isWatchHere_49 : decode cX12_isWatchHere 49 = .ok (.bipush 84, 2) := by decide +kernel
theorem dX12_isWatchHere_51 : decode cX12_isWatchHere 51 = .ok (.iload_n 1, 1) := by decide +kernel
theorem dX12_isWatchHere_52 : decode cX12_isWatchHere 52 = .ok (.iadd, 1) := by decide +kernel
theorem dX12_isWatchHere_53 : decode cX12_isWatchHere 53 = .ok (.dup2, 1) := by decide +kernel
theorem dX12_isWatchHere_54 : decode cX12_isWatchHere 54 = .ok (.iaload, 1) := by decide +kernel
theorem dX12_isWatchHere_55 : decode cX12_isWatchHere 55 = .ok (.iconst 1, 1) := by decide +kernel
theorem dX12_isWatchHere_56 : decode cX12_isWatchHere 56 = .ok (.aload_n 0, 1) := by decide +kernel
theorem dX12_isWatchHere_57 : decode cX12_isWatchHere 57 = .ok (.getfield 112, 3) := by decide +kernel
theorem dX12_isWatchHere_60 : decode cX12_isWatchHere 60 = .ok (.ishl, 1) := by decide +kernel
theorem dX12_isWatchHere_61 : decode cX12_isWatchHere 61 = .ok (.ior, 1) := by decide +kernel
theorem dX12_isWatchHere_62 : decode cX12_isWatchHere 62 = .ok (.iastore, 1) := by decide +kernel
theorem dX12_isWatchHere_63 : decode cX12_isWatchHere 63 = .ok (.iconst 1, 1) := by decide +kernel
theorem dX12_isWatchHere_64 : decode cX12_isWatchHere 64 = .ok (.ireturn, 1) := by decide +kernel
/-! the readers' language as functions of the bytes (-1 behind the last one): what class and reference have in common -/
def pz_run (P : Int → Bool) (B : Nat → Int) : Nat → Nat → Nat
  | 0, p => p
  | k + 1, p => if P (B p) = true then pz_run P B k (p + 1) else p
theorem pz_run_eq {P : Int → Bool} {B : Nat → Int} : ∀ (k p q : Nat), p ≤ q → q < p + k → (∀ i, p ≤ i → i < q → P (B i) = true) → ¬ P (B q) = true → pz_run P B k p = q
  | 0, p, q, h1, h2, h3, h4 => by omega
  | k + 1, p, q, h1, h2, h3, h4 => by
    unfold pz_run
    by_cases z : p = q
    · subst z; rw [if_neg h4]
    · rw [if_pos (h3 p (Nat.le_refl _) (by omega))]
      exact pz_run_eq k (p + 1) q (by omega) (by omega) (fun i a b => h3 i (by omega) b) h4
theorem pz_run_ge {P : Int → Bool} {B : Nat → Int} : ∀ (k p : Nat), p ≤ pz_run P B k p
  | 0, p => Nat.le_refl _
  | k + 1, p => by
    unfold pz_run
    by_cases z : P (B p) = true
    · rw [if_pos z]; exact Nat.le_trans (Nat.le_succ p) (pz_run_ge k (p + 1))
    · rw [if_neg z]; exact Nat.le_refl _
theorem pz_run_gt {P : Int → Bool} {B : Nat → Int} {k p : Nat} (h : P (B p) = true) : p + 1 ≤ pz_run P B (k + 1) p := by
  unfold pz_run
  rw [if_pos h]
  exact pz_run_ge k (p + 1)
def pz_isS (x : Int) : Bool := decide (x = 32)
def pz_isL (x : Int) : Bool := decide (97 ≤ x ∧ x ≤ 122)
def pz_isD (x : Int) : Bool := decide (48 ≤ x ∧ x ≤ 57)
def pz_sk (B : Nat → Int) (p : Nat) : Nat := pz_run pz_isS B 401 p
def pz_te (B : Nat → Int) (p : Nat) : Nat := if pz_isL (B p) = true then pz_run pz_isL B 401 p else if pz_isD (B p) = true then pz_run pz_isD B 401 p else if B p = -1 then p else if (B p = 60 ∨ B p = 62) ∧ B (p + 1) = 61 then p + 2 else p + 1
def pz_nt (B : Nat → Int) (p : Nat) : Nat := pz_sk B (pz_te B p)
theorem pz_te_gt {B : Nat → Int} {p : Nat} (h : B p ≠ -1) : p + 1 ≤ pz_te B p := by
  unfold pz_te
  split
  · exact pz_run_gt ‹_›
  · split
    · exact pz_run_gt ‹_›
    · split <;> omega
theorem pz_nt_gt {B : Nat → Int} {p : Nat} (h : B p ≠ -1) : p + 1 ≤ pz_nt B p := Nat.le_trans (pz_te_gt h) (pz_run_ge _ _)
def pz_b {S T : Type} (r : Except Int S) (f : S → Except Int T) : Except Int T := match r with
  | .error e => .error e
  | .ok s => f s
theorem pz_b_ok {S T : Type} {s : S} {f : S → Except Int T} : pz_b (.ok s) f = f s := rfl
theorem pz_b_er {S T : Type} {e : Int} {f : S → Except Int T} : pz_b (.error e) f = .error e := rfl
theorem pz_b_as {S T U : Type} {r : Except Int S} {f : S → Except Int T} {g : T → Except Int U} : pz_b (pz_b r f) g = pz_b r (fun s => pz_b (f s) g) := by cases r <;> rfl
theorem pz_b_id {S : Type} {r : Except Int S} : pz_b r .ok = r := by cases r <;> rfl
def pz_it {S : Type} (F : S → Option (Except Int S)) : Nat → S → Except Int S
  | 0, s => .ok s
  | k + 1, s => match F s with
    | none => .ok s
    | some r => pz_b r (pz_it F k)
/-- each turn of a loop goes on along the bytes -/
def pz_pr {S : Type} (pos : S → Nat) (F : S → Option (Except Int S)) : Prop := ∀ s r, F s = some r → pos s < 400 ∧ ∀ s', r = .ok s' → pos s < pos s'
theorem pz_it_big {S : Type} {pos : S → Nat} {F : S → Option (Except Int S)} (hF : pz_pr pos F) : ∀ (k : Nat) (s : S), 400 ≤ pos s + k → pz_it F (k + 1) s = pz_it F k s := by
  intro k
  induction k with
  | zero =>
    intro s h
    show (match F s with | none => Except.ok s | some r => pz_b r (pz_it F 0)) = Except.ok s
    cases e : F s with
    | none => rfl
    | some r => exact absurd (hF s r e).1 (by omega)
  | succ k ih =>
    intro s h
    show (match F s with | none => Except.ok s | some r => pz_b r (pz_it F (k + 1))) = (match F s with | none => Except.ok s | some r => pz_b r (pz_it F k))
    cases e : F s with
    | none => rfl
    | some r =>
      cases r with
      | error z => rfl
      | ok s' =>
        have := (hF s _ e).2 s' rfl
        exact ih s' (by omega)
def pz_lp {S : Type} (F : S → Option (Except Int S)) (s : S) : Except Int S := pz_it F 401 s
theorem pz_lp_no {S : Type} {F : S → Option (Except Int S)} {s : S} (h : F s = none) : pz_lp F s = .ok s := by
  show (match F s with | none => Except.ok s | some r => pz_b r (pz_it F 400)) = Except.ok s
  rw [h]
theorem pz_lp_on {S : Type} {pos : S → Nat} {F : S → Option (Except Int S)} (hF : pz_pr pos F) {s : S} {r : Except Int S} (h : F s = some r) : pz_lp F s = pz_b r (pz_lp F) := by
  show (match F s with | none => Except.ok s | some r => pz_b r (pz_it F 400)) = pz_b r (pz_it F 401)
  rw [h]
  cases r with
  | error z => show pz_b (Except.error z) (pz_it F 400) = _; rw [pz_b_er, pz_b_er]
  | ok s' =>
    have e : pz_it F (400 + 1) s' = pz_it F 400 s' := pz_it_big hF 400 s' (Nat.le_add_left _ _)
    have e' : (400 + 1 : Nat) = 401 := rfl
    rw [e'] at e
    show pz_b (Except.ok s') (pz_it F 400) = _
    rw [pz_b_ok, pz_b_ok, e]
/-- a loop goes on, or stays where it is -/
theorem pz_it_ge {S : Type} {pos : S → Nat} {F : S → Option (Except Int S)} (hF : pz_pr pos F) : ∀ (k : Nat) (s s' : S), pz_it F k s = .ok s' → pos s ≤ pos s' := by
  intro k
  induction k with
  | zero => intro s s' h; cases h; exact Nat.le_refl _
  | succ k ih =>
    intro s s' h
    have h : (match F s with | none => Except.ok s | some r => pz_b r (pz_it F k)) = Except.ok s' := h
    cases e : F s with
    | none => rw [e] at h; cases h; exact Nat.le_refl _
    | some r =>
      rw [e] at h
      cases r with
      | error z => cases h
      | ok s1 =>
        have h1 := (hF s _ e).2 s1 rfl
        have h2 := ih s1 s' h
        omega
theorem pz_lp_ge {S : Type} {pos : S → Nat} {F : S → Option (Except Int S)} (hF : pz_pr pos F) {s s' : S} (h : pz_lp F s = .ok s') : pos s ≤ pos s' := pz_it_ge hF 401 s s' h
/-- nothing stands behind the last byte -/
def pz_fi (B : Nat → Int) : Prop := ∀ k, 400 ≤ k → B k = -1
theorem pz_fi.lt {B : Nat → Int} (h : pz_fi B) {p : Nat} (hp : B p ≠ -1) : p < 400 := Nat.lt_of_not_le (fun z => hp (h p z))
def pz_er (k : Int) (p : Nat) : Int := 1 + 8 * (p : Int) + k
/-- the number of k digits from p on -/
def pz_nv (B : Nat → Int) (p : Nat) : Nat → Int
  | 0 => 0
  | k + 1 => 10 * pz_nv B p k + (B (p + k) - 48)
def pz_num (B : Nat → Int) (lo hi : Int) (p : Nat) : Except Int Int := if pz_isD (B p) = true then (if 5 < pz_te B p - p then .error (pz_er 1 p) else if pz_nv B p (pz_te B p - p) < lo ∨ hi < pz_nv B p (pz_te B p - p) then .error (pz_er 1 p) else .ok (pz_nv B p (pz_te B p - p))) else .error (pz_er 0 p)
def pz_wd (B : Nat → Int) (p : Nat) (w : List Int) : Bool := decide (pz_te B p = p + w.length ∧ ∀ i, i < w.length → B (p + i) = w.getD i 0)
/-- which of the words stands there -/
def pz_wa (B : Nat → Int) (p : Nat) : List (List Int) → Int → Int
  | [], _ => -1
  | w :: t, k => if pz_wd B p w = true then k else pz_wa B p t (k + 1)
theorem pz_wa_hit {B : Nat → Int} {p : Nat} : ∀ (ws : List (List Int)) (k : Int), 0 ≤ k → pz_wa B p ws k ≠ -1 → ∃ w ∈ ws, pz_wd B p w = true
  | [], k, _, h => absurd rfl h
  | w :: t, k, h0, h => by
    by_cases z : pz_wd B p w = true
    · exact ⟨w, List.mem_cons_self, z⟩
    · have e : pz_wa B p (w :: t) k = pz_wa B p t (k + 1) := by show (if _ then _ else _) = _; rw [if_neg z]
      rw [e] at h
      obtain ⟨v, hv, hw⟩ := pz_wa_hit t (k + 1) (by omega) h
      exact ⟨v, List.mem_cons_of_mem _ hv, hw⟩
def pz_buyer : List Int := [98, 117, 121, 101, 114]
def pz_words : List (List Int) := [pz_buyer, [116, 101, 109, 112, 101, 114], [103, 114, 97, 105, 110, 115], [119, 97, 105, 116, 115], [115, 116, 105, 108, 108], [110, 101, 120, 116], [115, 104, 101, 108, 102], [98, 111, 117, 103, 104, 116], [109, 101, 116], [115, 105, 110, 99, 101], [115, 111, 108, 100], [99, 108, 111, 99, 107], [100, 97, 121]]
def pz_book : List Int := [98, 111, 111, 107]
def pz_sky : List Int := [115, 107, 121]
def pz_watch : List Int := [119, 97, 116, 99, 104]
def pz_buy : List Int := [98, 117, 121]
def pz_if : List Int := [105, 102]
def pz_not : List Int := [110, 111, 116]
def pz_and : List Int := [97, 110, 100]
def pz_or : List Int := [111, 114]
/-- a word that is not empty stands on a byte -/
theorem pz_wd_ne {B : Nat → Int} {p : Nat} {w : List Int} (h : pz_wd B p w = true) (hw : 0 < w.length) (h1 : w.getD 0 0 ≠ -1) : B p ≠ -1 := by
  have := (of_decide_eq_true h).2 0 hw
  rw [Nat.add_zero] at this
  rw [this]
  exact h1
section PZ
variable (B : Nat → Int)
def pz_nx (s : Nat × Nat) : Nat × Nat := (pz_nt B s.1, s.2)
/-- one more that is counted: 60 are most -/
def pz_cnt (s : Nat × Nat) : Except Int (Nat × Nat) := if 60 ≤ s.2 then .error (pz_er 3 s.1) else .ok (pz_nt B s.1, s.2 + 1)
def pz_val (s : Nat × Nat) : Except Int (Nat × Nat) := if pz_isD (B s.1) = true then pz_b (pz_num B 0 99999 s.1) (fun _ => pz_cnt B s) else if pz_wa B s.1 pz_words 0 = -1 then .error (pz_er 0 s.1) else pz_cnt B s
def pz_op (x : Int) : Prop := x = 43 ∨ x = 45 ∨ x = 42 ∨ x = 47 ∨ x = 37
def pz_sF (s : Nat × Nat) : Option (Except Int (Nat × Nat)) := if B s.1 = 43 ∨ B s.1 = 45 ∨ B s.1 = 42 ∨ B s.1 = 47 ∨ B s.1 = 37 then some (pz_val B (pz_nx B s)) else none
def pz_sum (s : Nat × Nat) : Except Int (Nat × Nat) := pz_b (pz_val B s) (pz_lp (pz_sF B))
def pz_cmp (s : Nat × Nat) : Except Int (Nat × Nat) := if B s.1 = 60 ∨ B s.1 = 61 ∨ B s.1 = 62 then pz_cnt B s else .error (pz_er 0 s.1)
def pz_com (s : Nat × Nat) : Except Int (Nat × Nat) := pz_b (pz_b (pz_sum B s) (pz_cmp B)) (pz_sum B)
def pz_tF (f : Nat × Nat → Except Int (Nat × Nat)) (s : Nat × Nat) : Option (Except Int (Nat × Nat)) := if pz_wd B s.1 pz_and = true ∨ pz_wd B s.1 pz_or = true then some (f (pz_nx B s)) else none
def pz_rb (s : Nat × Nat) : Except Int (Nat × Nat) := if B s.1 = 93 then .ok (pz_nx B s) else .error (pz_er 0 s.1)
def pz_tst (f : Nat × Nat → Except Int (Nat × Nat)) (s : Nat × Nat) : Except Int (Nat × Nat) := pz_b (f s) (pz_lp (pz_tF B f))
def pz_fact : Nat → Nat × Nat → Except Int (Nat × Nat)
  | 0, s => if pz_wd B s.1 pz_not = true ∨ B s.1 = 91 then .error (pz_er 2 s.1) else pz_com B s
  | m + 1, s => if pz_wd B s.1 pz_not = true then pz_fact m (pz_nx B s) else if B s.1 = 91 then pz_b (pz_tst B (pz_fact m) (pz_nx B s)) (pz_rb B) else pz_com B s
/-- a clause: buy, a sum, and a test perhaps -/
def pz_cla (l : Nat) (s : Nat × Nat) : Except Int (Nat × Nat) := if pz_wd B s.1 pz_buy = true then (if l = 12 then .error (pz_er 4 s.1) else pz_b (pz_sum B (pz_nx B s)) (fun t => if pz_wd B t.1 pz_if = true then pz_tst B (pz_fact B 10) (pz_nx B t) else .ok t)) else .error (pz_er 0 s.1)
def pz_rF (u : (Nat × Nat) × Nat) : Option (Except Int ((Nat × Nat) × Nat)) := if B u.1.1 = 59 then some (pz_b (pz_cla B u.2 (pz_nx B u.1)) (fun t => .ok (t, u.2 + 1))) else none
def pz_end (p : Nat) : Except Int Nat := if B p = -1 then .ok p else .error (pz_er 0 p)
/-- a rule's text: the fault, or none -/
def pz_rule : Except Int Nat := pz_b (pz_b (pz_b (pz_cla B 0 (pz_sk B 0, 0)) (fun t => .ok (t, 1))) (pz_lp (pz_rF B))) (fun u => pz_end B u.1.1)
end PZ
/-! all of them go on along the bytes -/
section PZP
variable {B : Nat → Int}
theorem pz_cnt_gt {s t : Nat × Nat} (h : pz_cnt B s = .ok t) (hb : B s.1 ≠ -1) : s.1 < t.1 := by
  unfold pz_cnt at h
  by_cases z : 60 ≤ s.2
  · rw [if_pos z] at h; cases h
  · rw [if_neg z] at h; cases h; exact pz_nt_gt hb
theorem pz_isD_ne {x : Int} (h : pz_isD x = true) : x ≠ -1 := by
  have := of_decide_eq_true h
  omega
theorem pz_words_ne : ∀ w ∈ pz_words, 0 < w.length ∧ w.getD 0 0 ≠ -1 := by decide
theorem pz_val_gt {s t : Nat × Nat} (h : pz_val B s = .ok t) : B s.1 ≠ -1 ∧ s.1 < t.1 := by
  unfold pz_val at h
  by_cases z : pz_isD (B s.1) = true
  · rw [if_pos z] at h
    have hb := pz_isD_ne z
    cases e : pz_num B 0 99999 s.1 with
    | error x => rw [e] at h; cases h
    | ok x => rw [e] at h; exact ⟨hb, pz_cnt_gt h hb⟩
  · rw [if_neg z] at h
    by_cases y : pz_wa B s.1 pz_words 0 = -1
    · rw [if_pos y] at h; cases h
    · rw [if_neg y] at h
      obtain ⟨w, hw, hd⟩ := pz_wa_hit pz_words 0 (Int.le_refl _) y
      have hb := pz_wd_ne hd (pz_words_ne w hw).1 (pz_words_ne w hw).2
      exact ⟨hb, pz_cnt_gt h hb⟩
theorem pz_sF_pr (hB : pz_fi B) : pz_pr (fun s : Nat × Nat => s.1) (pz_sF B) := by
  intro s r h
  unfold pz_sF at h
  by_cases z : B s.1 = 43 ∨ B s.1 = 45 ∨ B s.1 = 42 ∨ B s.1 = 47 ∨ B s.1 = 37
  · rw [if_pos z] at h
    have hb : B s.1 ≠ -1 := by omega
    refine ⟨hB.lt hb, fun t ht => ?_⟩
    cases h
    have h1 := (pz_val_gt ht).2
    have h2 := pz_nt_gt hb
    have h3 : (pz_nx B s).1 = pz_nt B s.1 := rfl
    show s.1 < t.1
    omega
  · rw [if_neg z] at h; cases h
theorem pz_sum_gt (hB : pz_fi B) {s t : Nat × Nat} (h : pz_sum B s = .ok t) : B s.1 ≠ -1 ∧ s.1 < t.1 := by
  unfold pz_sum at h
  cases e : pz_val B s with
  | error x => rw [e] at h; cases h
  | ok s1 =>
    rw [e] at h
    have h1 := pz_val_gt e
    have h2 : s1.1 ≤ t.1 := pz_lp_ge (pz_sF_pr hB) h
    exact ⟨h1.1, by omega⟩
theorem pz_com_gt (hB : pz_fi B) {s t : Nat × Nat} (h : pz_com B s = .ok t) : B s.1 ≠ -1 ∧ s.1 < t.1 := by
  unfold pz_com at h
  cases e : pz_sum B s with
  | error x => rw [e] at h; cases h
  | ok s1 =>
    rw [e] at h
    have h1 := pz_sum_gt hB e
    have h : pz_b (pz_cmp B s1) (pz_sum B) = .ok t := h
    cases e2 : pz_cmp B s1 with
    | error x => rw [e2] at h; cases h
    | ok s2 =>
      rw [e2] at h
      have h3 := pz_sum_gt hB h
      unfold pz_cmp at e2
      by_cases z : B s1.1 = 60 ∨ B s1.1 = 61 ∨ B s1.1 = 62
      · rw [if_pos z] at e2
        have := pz_cnt_gt e2 (by omega)
        exact ⟨h1.1, by omega⟩
      · rw [if_neg z] at e2; cases e2
theorem pz_and_ne {p : Nat} (h : pz_wd B p pz_and = true ∨ pz_wd B p pz_or = true) : B p ≠ -1 := by
  rcases h with h | h
  · exact pz_wd_ne h (by decide) (by decide)
  · exact pz_wd_ne h (by decide) (by decide)
theorem pz_tF_pr (hB : pz_fi B) {f : Nat × Nat → Except Int (Nat × Nat)} (hf : ∀ s t, f s = .ok t → B s.1 ≠ -1 ∧ s.1 < t.1) : pz_pr (fun s : Nat × Nat => s.1) (pz_tF B f) := by
  intro s r h
  unfold pz_tF at h
  by_cases z : pz_wd B s.1 pz_and = true ∨ pz_wd B s.1 pz_or = true
  · rw [if_pos z] at h
    have hb : B s.1 ≠ -1 := pz_and_ne z
    refine ⟨hB.lt hb, fun t ht => ?_⟩
    cases h
    have h1 := (hf _ _ ht).2
    have h2 := pz_nt_gt hb
    have h3 : (pz_nx B s).1 = pz_nt B s.1 := rfl
    show s.1 < t.1
    omega
  · rw [if_neg z] at h; cases h
theorem pz_tst_gt (hB : pz_fi B) {f : Nat × Nat → Except Int (Nat × Nat)} (hf : ∀ s t, f s = .ok t → B s.1 ≠ -1 ∧ s.1 < t.1) {s t : Nat × Nat} (h : pz_tst B f s = .ok t) : B s.1 ≠ -1 ∧ s.1 < t.1 := by
  unfold pz_tst at h
  cases e : f s with
  | error x => rw [e] at h; cases h
  | ok s1 =>
    rw [e] at h
    have h1 := hf _ _ e
    have h2 : s1.1 ≤ t.1 := pz_lp_ge (pz_tF_pr hB hf) h
    exact ⟨h1.1, by omega⟩
theorem pz_not_ne {p : Nat} (h : pz_wd B p pz_not = true) : B p ≠ -1 := pz_wd_ne h (by decide) (by decide)
theorem pz_fact_gt (hB : pz_fi B) : ∀ (m : Nat) (s t : Nat × Nat), pz_fact B m s = .ok t → B s.1 ≠ -1 ∧ s.1 < t.1
  | 0, s, t, h => by
    unfold pz_fact at h
    by_cases z : pz_wd B s.1 pz_not = true ∨ B s.1 = 91
    · rw [if_pos z] at h; cases h
    · rw [if_neg z] at h; exact pz_com_gt hB h
  | m + 1, s, t, h => by
    unfold pz_fact at h
    by_cases z : pz_wd B s.1 pz_not = true
    · rw [if_pos z] at h
      have h1 := (pz_fact_gt hB m _ _ h).2
      have hb := pz_not_ne z
      have h2 := pz_nt_gt hb
      have h3 : (pz_nx B s).1 = pz_nt B s.1 := rfl
      exact ⟨hb, by omega⟩
    · rw [if_neg z] at h
      by_cases y : B s.1 = 91
      · rw [if_pos y] at h
        have hb : B s.1 ≠ -1 := by omega
        cases e : pz_tst B (pz_fact B m) (pz_nx B s) with
        | error x => rw [e] at h; cases h
        | ok s1 =>
          rw [e] at h
          have h1 := (pz_tst_gt hB (pz_fact_gt hB m) e).2
          have h : pz_rb B s1 = .ok t := h
          unfold pz_rb at h
          by_cases x : B s1.1 = 93
          · rw [if_pos x] at h
            cases h
            have h2 := pz_nt_gt hb
            have h3 : (pz_nx B s).1 = pz_nt B s.1 := rfl
            have h4 := pz_nt_gt (B := B) (p := s1.1) (by omega)
            have h5 : (pz_nx B s1).1 = pz_nt B s1.1 := rfl
            exact ⟨hb, by omega⟩
          · rw [if_neg x] at h; cases h
      · rw [if_neg y] at h; exact pz_com_gt hB h
/-! the loops' turns -/
theorem pz_sum_on (hB : pz_fi B) {s : Nat × Nat} (h : B s.1 = 43 ∨ B s.1 = 45 ∨ B s.1 = 42 ∨ B s.1 = 47 ∨ B s.1 = 37) : pz_lp (pz_sF B) s = pz_sum B (pz_nx B s) := pz_lp_on (pz_sF_pr hB) (if_pos h)
theorem pz_sum_no {s : Nat × Nat} (h : ¬ (B s.1 = 43 ∨ B s.1 = 45 ∨ B s.1 = 42 ∨ B s.1 = 47 ∨ B s.1 = 37)) : pz_lp (pz_sF B) s = .ok s := pz_lp_no (if_neg h)
theorem pz_tst_on (hB : pz_fi B) {m : Nat} {s : Nat × Nat} (h : pz_wd B s.1 pz_and = true ∨ pz_wd B s.1 pz_or = true) : pz_lp (pz_tF B (pz_fact B m)) s = pz_tst B (pz_fact B m) (pz_nx B s) := pz_lp_on (pz_tF_pr hB (pz_fact_gt hB m)) (if_pos h)
theorem pz_tst_no {f : Nat × Nat → Except Int (Nat × Nat)} {s : Nat × Nat} (h : ¬ (pz_wd B s.1 pz_and = true ∨ pz_wd B s.1 pz_or = true)) : pz_lp (pz_tF B f) s = .ok s := pz_lp_no (if_neg h)
/-! what is still to be read, by the brackets that are open: of each the depth that is left -/
def pz_K (B : Nat → Int) : List Nat → Except Int (Nat × Nat) → Except Int (Nat × Nat)
  | [], r => r
  | [m], r => pz_b r (pz_lp (pz_tF B (pz_fact B m)))
  | m :: m' :: ms, r => pz_K B (m' :: ms) (pz_b (pz_b r (pz_lp (pz_tF B (pz_fact B m)))) (pz_rb B))
theorem pz_K_er {e : Int} : ∀ (S : List Nat), pz_K B S (.error e) = .error e
  | [] => rfl
  | [_] => rfl
  | _ :: m' :: ms => pz_K_er (m' :: ms)
/-- a not: one level less is left -/
theorem pz_K_not {S : List Nat} {m : Nat} {s : Nat × Nat} (h : pz_wd B s.1 pz_not = true) : pz_K B S (pz_fact B (m + 1) s) = pz_K B S (pz_fact B m (pz_nx B s)) := by
  rw [show pz_fact B (m + 1) s = pz_fact B m (pz_nx B s) from if_pos h]
/-- a bracket opens -/
theorem pz_K_open {S : List Nat} {m m' : Nat} {s : Nat × Nat} (h : ¬ pz_wd B s.1 pz_not = true) (h1 : B s.1 = 91) : pz_K B (m' :: S) (pz_fact B (m + 1) s) = pz_K B (m :: m' :: S) (pz_fact B m (pz_nx B s)) := by
  rw [show pz_fact B (m + 1) s = pz_b (pz_tst B (pz_fact B m) (pz_nx B s)) (pz_rb B) from (if_neg h).trans (if_pos h1)]
  rfl
theorem pz_K_deep {S : List Nat} {s : Nat × Nat} (h : pz_wd B s.1 pz_not = true ∨ B s.1 = 91) : pz_K B S (pz_fact B 0 s) = .error (pz_er 2 s.1) := by
  rw [show pz_fact B 0 s = .error (pz_er 2 s.1) from if_pos h]
  exact pz_K_er S
theorem pz_K_com {S : List Nat} {m : Nat} {s : Nat × Nat} (h : ¬ pz_wd B s.1 pz_not = true) (h1 : ¬ B s.1 = 91) : pz_K B S (pz_fact B m s) = pz_K B S (pz_com B s) := by
  cases m with
  | zero => rw [show pz_fact B 0 s = pz_com B s from if_neg (by intro z; rcases z with z | z; exact h z; exact h1 z)]
  | succ m => rw [show pz_fact B (m + 1) s = pz_com B s from (if_neg h).trans (if_neg h1)]
/-- a bracket closes -/
theorem pz_K_close {S : List Nat} {m m' : Nat} {s : Nat × Nat} (h : B s.1 = 93) : pz_K B (m :: m' :: S) (.ok s) = pz_K B (m' :: S) (.ok (pz_nx B s)) := by
  have e : pz_lp (pz_tF B (pz_fact B m)) s = .ok s := pz_tst_no (fun z => by
    rcases z with z | z
    · have := (of_decide_eq_true z).2 0 (by decide)
      rw [Nat.add_zero, h] at this
      exact absurd this (by decide)
    · have := (of_decide_eq_true z).2 0 (by decide)
      rw [Nat.add_zero, h] at this
      exact absurd this (by decide))
  show pz_K B (m' :: S) (pz_b (pz_b (.ok s) (pz_lp (pz_tF B (pz_fact B m)))) (pz_rb B)) = _
  rw [show pz_b (Except.ok s) (pz_lp (pz_tF B (pz_fact B m))) = pz_lp (pz_tF B (pz_fact B m)) s from rfl, e]
  rw [show pz_b (Except.ok s) (pz_rb B) = pz_rb B s from rfl, show pz_rb B s = .ok (pz_nx B s) from if_pos h]
/-- and, or -/
theorem pz_K_and (hB : pz_fi B) {S : List Nat} {m : Nat} {s : Nat × Nat} (h : pz_wd B s.1 pz_and = true ∨ pz_wd B s.1 pz_or = true) : pz_K B (m :: S) (.ok s) = pz_K B (m :: S) (pz_fact B m (pz_nx B s)) := by
  have e := pz_tst_on hB (m := m) h
  cases S with
  | nil => exact e
  | cons m' S =>
    show pz_K B (m' :: S) (pz_b (pz_lp (pz_tF B (pz_fact B m)) s) (pz_rb B)) = pz_K B (m' :: S) (pz_b (pz_b (pz_fact B m (pz_nx B s)) (pz_lp (pz_tF B (pz_fact B m)))) (pz_rb B))
    rw [e]
    rfl
theorem pz_K_in {S : List Nat} {m m' : Nat} {s : Nat × Nat} (h : ¬ (pz_wd B s.1 pz_and = true ∨ pz_wd B s.1 pz_or = true)) (h1 : ¬ B s.1 = 93) : pz_K B (m :: m' :: S) (.ok s) = .error (pz_er 0 s.1) := by
  show pz_K B (m' :: S) (pz_b (pz_lp (pz_tF B (pz_fact B m)) s) (pz_rb B)) = _
  rw [pz_tst_no h]
  rw [show pz_b (Except.ok s) (pz_rb B) = pz_rb B s from rfl, show pz_rb B s = .error (pz_er 0 s.1) from if_neg h1]
  exact pz_K_er _
theorem pz_K_out {m : Nat} {s : Nat × Nat} (h : ¬ (pz_wd B s.1 pz_and = true ∨ pz_wd B s.1 pz_or = true)) : pz_K B [m] (.ok s) = .ok s := pz_tst_no h
end PZP
def cB (f : Nat → Int32) (n : Int32) (k : Nat) : Int := if (k : Int) < n.toInt then (f k).toInt else -1
def Byt (f : Nat → Int32) : Prop := ∀ k : Nat, 0 ≤ (f k).toInt ∧ (f k).toInt ≤ 255
theorem cB_in {f : Nat → Int32} {n : Int32} {k : Nat} (h : (k : Int) < n.toInt) : cB f n k = (f k).toInt := if_pos h
theorem cB_out {f : Nat → Int32} {n : Int32} {k : Nat} (h : n.toInt ≤ (k : Int)) : cB f n k = -1 := if_neg (by omega)
theorem cB_fi {f : Nat → Int32} {n : Int32} (h : n.toInt ≤ 400) : pz_fi (cB f n) := fun k hk => cB_out (by omega)
theorem cB_rg {f : Nat → Int32} {n : Int32} (h : Byt f) (k : Nat) : ((k : Int) < n.toInt ∧ 0 ≤ cB f n k ∧ cB f n k ≤ 255) ∨ (n.toInt ≤ (k : Int) ∧ cB f n k = -1) := by
  by_cases z : (k : Int) < n.toInt
  · left; rw [cB_in z]; exact ⟨z, h k⟩
  · right; exact ⟨by omega, cB_out (by omega)⟩
def Rn (P : Int → Bool) (f : Nat → Int32) (n p q : Int32) : Prop := p.toInt ≤ q.toInt ∧ ∀ i : Nat, p.toInt ≤ (i : Int) → (i : Int) < q.toInt → P (cB f n i) = true
theorem Rn.rf {P : Int → Bool} {f : Nat → Int32} {n p : Int32} : Rn P f n p p := ⟨Int.le_refl _, fun i a b => by omega⟩
theorem Rn.st {P : Int → Bool} {f : Nat → Int32} {n p q q' x : Int32} (h : Rn P f n p q) (h0 : 0 ≤ q.toInt) (hx : x.toInt = cB f n q.toInt.toNat) (hP : P x.toInt = true) (hq : q'.toInt = q.toInt + 1) : Rn P f n p q' := by
  have hp := h.1
  refine ⟨by omega, fun i a b => ?_⟩
  by_cases z : (i : Int) < q.toInt
  · exact h.2 i a z
  · rw [show i = q.toInt.toNat by omega, ← hx]; exact hP
theorem Rn.run {P : Int → Bool} {f : Nat → Int32} {n p q : Int32} (h : Rn P f n p q) (h0 : 0 ≤ p.toInt) (h4 : q.toInt ≤ 400) (hq : ¬ P (cB f n q.toInt.toNat) = true) : pz_run P (cB f n) 401 p.toInt.toNat = q.toInt.toNat := by
  have hp := h.1
  exact pz_run_eq 401 _ _ (by omega) (by omega) (fun i a b => h.2 i (by omega) (by omega)) hq
def TpR (f : Nat → Int32) (n : Int32) (r : Except Int (Nat × Nat)) (a b c d : Int32) : Prop := match r with
  | .error e => d.toInt = e ∧ e ≠ 0 ∧ c.toInt = -1
  | .ok s => d.toInt = 0 ∧ a.toInt = (s.1 : Int) ∧ b.toInt = (pz_te (cB f n) s.1 : Int) ∧ c.toInt = cB f n s.1
def TpB (r : Except Int (Nat × Nat)) (b d : Int32) : Prop := match r with
  | .error e => d.toInt = e ∧ e ≠ 0
  | .ok s => d.toInt = 0 ∧ b.toInt = (s.1 : Int)
def rTE (B : Nat → Int) (r : Except Int (Nat × Nat)) : Except Int (Nat × Nat) := pz_b r (fun s => .ok (pz_te B s.1, s.2))
def rSK (B : Nat → Int) (r : Except Int (Nat × Nat)) : Except Int (Nat × Nat) := pz_b r (fun s => .ok (pz_sk B s.1, s.2))
def rNX (B : Nat → Int) (r : Except Int (Nat × Nat)) : Except Int (Nat × Nat) := pz_b r (fun s => .ok (pz_nx B s))
def rER (k : Int) (r : Except Int (Nat × Nat)) : Except Int (Nat × Nat) := pz_b r (fun s => .error (pz_er k s.1))
def rNU (B : Nat → Int) (lo hi : Int) (r : Except Int (Nat × Nat)) : Except Int (Nat × Nat) := pz_b r (fun s => pz_b (pz_num B lo hi s.1) (fun _ => .ok s))
def rEN (B : Nat → Int) (r : Except Int (Nat × Nat)) : Except Int (Nat × Nat) := pz_b r (fun s => pz_b (pz_end B s.1) (fun _ => .ok s))
theorem rNX_eq {B : Nat → Int} {r : Except Int (Nat × Nat)} : rSK B (rTE B r) = rNX B r := by cases r <;> rfl
theorem TpR.tb {f : Nat → Int32} {n : Int32} {r : Except Int (Nat × Nat)} {a b c d : Int32} (h : TpR f n r a b c d) : TpB (rTE (cB f n) r) b d := by
  cases r with
  | error e => exact ⟨h.1, h.2.1⟩
  | ok s => exact ⟨h.1, h.2.2.1⟩
theorem TpB.er {f : Nat → Int32} {n : Int32} {r : Except Int (Nat × Nat)} {g : Nat × Nat → Except Int (Nat × Nat)} {a b b' c d : Int32} (h : TpB r b d) (hd : ¬ d.toInt = 0) (hc : c.toInt = -1) : TpR f n (pz_b r g) a b' c d := by
  cases r with
  | error e => exact ⟨h.1, h.2, hc⟩
  | ok s => exact absurd h.1 hd
theorem TpR.er {f : Nat → Int32} {n : Int32} {r : Except Int (Nat × Nat)} {g : Nat × Nat → Except Int (Nat × Nat)} {a b c d a' b' : Int32} (h : TpR f n r a b c d) (hd : ¬ d.toInt = 0) : TpR f n (pz_b r g) a' b' c d := by
  cases r with
  | error e => exact h
  | ok s => exact absurd h.1 hd
theorem TpR.fault0 {f : Nat → Int32} {n : Int32} {r : Except Int (Nat × Nat)} {a b c d : Int32} (h : TpR f n r a b c d) (hd : d.toInt = 0) : ∃ s, r = .ok s ∧ a.toInt = (s.1 : Int) ∧ b.toInt = (pz_te (cB f n) s.1 : Int) ∧ c.toInt = cB f n s.1 ∧ s.1 = a.toInt.toNat := by
  cases r with
  | error e => exact absurd (h.1.symm.trans hd) h.2.1
  | ok s => exact ⟨s, rfl, h.2.1, h.2.2.1, h.2.2.2, by have := h.2.1; omega⟩
theorem TpB.at {f : Nat → Int32} {n : Int32} {r : Except Int (Nat × Nat)} {a b b0 c d : Int32} (h : TpB r b0 d) (hd : d.toInt = 0) (h0 : 0 ≤ b0.toInt) (h1 : Rn pz_isS f n b0 a) (h4 : a.toInt ≤ 400) (h2 : ¬ cB f n a.toInt.toNat = 32) (hb : b.toInt = (pz_te (cB f n) a.toInt.toNat : Int)) (hc : c.toInt = cB f n a.toInt.toNat) : TpR f n (rSK (cB f n) r) a b c d := by
  cases r with
  | error e => exact absurd (h.1.symm.trans hd) h.2
  | ok s =>
    have hs : s.1 = b0.toInt.toNat := by have := h.2; omega
    have e : pz_sk (cB f n) s.1 = a.toInt.toNat := by
      rw [hs]
      exact h1.run h0 h4 (fun z => h2 (of_decide_eq_true z))
    have hp := h1.1
    refine ⟨hd, ?_, ?_, ?_⟩
    · show a.toInt = (pz_sk (cB f n) s.1 : Int)
      rw [e]; omega
    · show b.toInt = (pz_te (cB f n) (pz_sk (cB f n) s.1) : Int)
      rw [e]; exact hb
    · show c.toInt = cB f n (pz_sk (cB f n) s.1)
      rw [e]; exact hc
theorem te_L {f : Nat → Int32} {n a b x : Int32} (h0 : 0 ≤ a.toInt) (hx : x.toInt = cB f n a.toInt.toNat) (hL : 97 ≤ x.toInt ∧ x.toInt ≤ 122) (h : Rn pz_isL f n a b) (h4 : b.toInt ≤ 400) (hn : ¬ (97 ≤ cB f n b.toInt.toNat ∧ cB f n b.toInt.toNat ≤ 122)) : b.toInt = (pz_te (cB f n) a.toInt.toNat : Int) := by
  have e : pz_te (cB f n) a.toInt.toNat = b.toInt.toNat := by
    unfold pz_te
    rw [if_pos (by rw [← hx]; exact decide_eq_true hL)]
    exact h.run h0 h4 (fun z => hn (of_decide_eq_true z))
  have := h.1
  rw [e]; omega
theorem te_D {f : Nat → Int32} {n a b x : Int32} (h0 : 0 ≤ a.toInt) (hx : x.toInt = cB f n a.toInt.toNat) (hL : 48 ≤ x.toInt ∧ x.toInt ≤ 57) (h : Rn pz_isD f n a b) (h4 : b.toInt ≤ 400) (hn : ¬ (48 ≤ cB f n b.toInt.toNat ∧ cB f n b.toInt.toNat ≤ 57)) : b.toInt = (pz_te (cB f n) a.toInt.toNat : Int) := by
  have e : pz_te (cB f n) a.toInt.toNat = b.toInt.toNat := by
    unfold pz_te
    rw [if_neg (by rw [← hx]; intro z; have := of_decide_eq_true z; omega), if_pos (by rw [← hx]; exact decide_eq_true hL)]
    exact h.run h0 h4 (fun z => hn (of_decide_eq_true z))
  have := h.1
  rw [e]; omega
theorem te_1 {f : Nat → Int32} {n a b x : Int32} (h0 : 0 ≤ a.toInt) (hx : x.toInt = cB f n a.toInt.toNat) (hL : ¬ (97 ≤ x.toInt ∧ x.toInt ≤ 122)) (hD : ¬ (48 ≤ x.toInt ∧ x.toInt ≤ 57)) (hE : ¬ x.toInt = -1) (h2 : ¬ ((x.toInt = 60 ∨ x.toInt = 62) ∧ cB f n (a.toInt.toNat + 1) = 61)) (hb : b.toInt = a.toInt + 1) : b.toInt = (pz_te (cB f n) a.toInt.toNat : Int) := by
  have e : pz_te (cB f n) a.toInt.toNat = a.toInt.toNat + 1 := by
    unfold pz_te
    rw [← hx, if_neg (show ¬ pz_isL x.toInt = true from fun z => hL (of_decide_eq_true z)), if_neg (show ¬ pz_isD x.toInt = true from fun z => hD (of_decide_eq_true z)), if_neg hE, if_neg h2]
  rw [e]; omega
theorem te_2 {f : Nat → Int32} {n a b x : Int32} (h0 : 0 ≤ a.toInt) (hx : x.toInt = cB f n a.toInt.toNat) (h2 : (x.toInt = 60 ∨ x.toInt = 62) ∧ cB f n (a.toInt.toNat + 1) = 61) (hb : b.toInt = a.toInt + 2) : b.toInt = (pz_te (cB f n) a.toInt.toNat : Int) := by
  have e : pz_te (cB f n) a.toInt.toNat = a.toInt.toNat + 2 := by
    unfold pz_te
    rw [← hx, if_neg (fun z => by have := of_decide_eq_true z; omega), if_neg (fun z => by have := of_decide_eq_true z; omega), if_neg (by omega), if_pos h2]
  rw [e]; omega
theorem te_0 {f : Nat → Int32} {n a x : Int32} (h0 : 0 ≤ a.toInt) (hx : x.toInt = cB f n a.toInt.toNat) (hE : x.toInt = -1) : a.toInt = (pz_te (cB f n) a.toInt.toNat : Int) := by
  have e : pz_te (cB f n) a.toInt.toNat = a.toInt.toNat := by
    unfold pz_te
    rw [← hx, hE, if_neg (by decide), if_neg (by decide), if_pos rfl]
  rw [e]; omega
theorem pz_run_le {P : Int → Bool} {f : Nat → Int32} {n : Int32} (hP : P (-1) = false) : ∀ (k p : Nat), (p : Int) ≤ n.toInt → (pz_run P (cB f n) k p : Int) ≤ n.toInt
  | 0, p, h => h
  | k + 1, p, h => by
    unfold pz_run
    by_cases z : P (cB f n p) = true
    · rw [if_pos z]
      have hp : (p : Int) < n.toInt := by
        refine Int.lt_of_not_ge (fun y => ?_)
        rw [cB_out y, hP] at z
        cases z
      exact pz_run_le hP k (p + 1) (by omega)
    · rw [if_neg z]; exact h
theorem pz_te_le {f : Nat → Int32} {n : Int32} {p : Nat} (h : (p : Int) ≤ n.toInt) : (pz_te (cB f n) p : Int) ≤ n.toInt := by
  have ne : ∀ k : Nat, cB f n k ≠ -1 → (k : Int) < n.toInt := fun k hk => Int.lt_of_not_ge (fun y => hk (cB_out y))
  unfold pz_te
  split
  · exact pz_run_le rfl _ _ h
  · split
    · exact pz_run_le rfl _ _ h
    · split
      · exact h
      · rename_i hE
        split
        · rename_i h2
          have := ne (p + 1) (by rw [h2.2]; decide)
          omega
        · have := ne p hE
          omega
theorem TpR.fail {f : Nat → Int32} {n : Int32} {r : Except Int (Nat × Nat)} {a b c d c' d' : Int32} {k : Int} (h : TpR f n r a b c d) (hd : d.toInt = 0) (hk : 0 ≤ k) (he : d'.toInt = 1 + 8 * a.toInt + k) (hc : c'.toInt = -1) : TpR f n (rER k r) a b c' d' := by
  obtain ⟨s, rfl, ha, -, -, -⟩ := h.fault0 hd
  refine ⟨?_, ?_, hc⟩
  · show d'.toInt = pz_er k s.1
    unfold pz_er; omega
  · show pz_er k s.1 ≠ 0
    unfold pz_er; omega
theorem TpR.end0 {f : Nat → Int32} {n : Int32} {r : Except Int (Nat × Nat)} {a b c d : Int32} (h : TpR f n r a b c d) (hd : d.toInt = 0) (ha : n.toInt ≤ a.toInt) : TpR f n (rEN (cB f n) r) a b c d := by
  obtain ⟨s, rfl, h1, h2, h3, h4⟩ := h.fault0 hd
  have : pz_end (cB f n) s.1 = .ok s.1 := if_pos (cB_out (by omega))
  show TpR f n (pz_b (pz_end (cB f n) s.1) (fun _ => .ok s)) a b c d
  rw [this]
  exact ⟨hd, h1, h2, h3⟩
theorem TpR.end1 {f : Nat → Int32} {n : Int32} {r : Except Int (Nat × Nat)} {a b c d a' b' c' d' : Int32} (hB : Byt f) (h : TpR f n r a b c d) (ha : d.toInt = 0 → a.toInt < n.toInt) (h' : TpR f n (rER 0 r) a' b' c' d') : TpR f n (rEN (cB f n) r) a' b' c' d' := by
  cases r with
  | error e => exact h'
  | ok s =>
    have h1 := ha h.1
    have h2 := h.2.1
    have : pz_end (cB f n) s.1 = .error (pz_er 0 s.1) := if_neg (by rw [cB_in (by omega)]; have := hB s.1; omega)
    show TpR f n (pz_b (pz_end (cB f n) s.1) (fun _ => .ok s)) a' b' c' d'
    rw [this]
    exact h'
theorem cB_yes {f : Nat → Int32} {n x1 x : Int32} (hB : Byt f) (ex : x = f x1.toNatClampNeg) (h : x1.toInt < n.toInt ∧ 0 ≤ x1.toInt) : x.toInt = cB f n x1.toInt.toNat ∧ ((n.toInt ≤ x1.toInt ∧ x.toInt = -1) ∨ (x1.toInt < n.toInt ∧ 0 ≤ x.toInt ∧ x.toInt ≤ 255)) := by
  have e : x.toInt = (f x1.toInt.toNat).toInt := congrArg Int32.toInt ex
  refine ⟨?_, Or.inr ⟨h.1, ?_⟩⟩
  · rw [cB_in (by omega)]; exact e
  · rw [e]; exact hB _
theorem cB_no {f : Nat → Int32} {n x1 : Int32} (h : n.toInt ≤ x1.toInt ∧ 0 ≤ x1.toInt) : (-1 : Int32).toInt = cB f n x1.toInt.toNat ∧ ((n.toInt ≤ x1.toInt ∧ (-1 : Int32).toInt = -1) ∨ (x1.toInt < n.toInt ∧ 0 ≤ (-1 : Int32).toInt ∧ (-1 : Int32).toInt ≤ 255)) := by
  refine ⟨?_, Or.inl ⟨h.1, by decide⟩⟩
  rw [cB_out (by omega)]; decide
def Sg (B : Nat → Int) (x : Int) (r : Except Int (Nat × Nat)) : Prop := ∃ s, r = .ok s ∧ B s.1 = x
def NSg (B : Nat → Int) (x : Int) (r : Except Int (Nat × Nat)) : Prop := ∀ s, r = .ok s → ¬ B s.1 = x
theorem TpR.sg {f : Nat → Int32} {n : Int32} {r : Except Int (Nat × Nat)} {a b c d : Int32} {x : Int} (h : TpR f n r a b c d) (hx : c.toInt = x) (h0 : 0 ≤ x) : Sg (cB f n) x r := by
  cases r with
  | error e => have := h.2.2; omega
  | ok s => exact ⟨s, rfl, h.2.2.2.symm.trans hx⟩
theorem TpR.nsg {f : Nat → Int32} {n : Int32} {r : Except Int (Nat × Nat)} {a b c d : Int32} {x : Int} (h : TpR f n r a b c d) (hx : ¬ c.toInt = x) : NSg (cB f n) x r := fun s hs z => by
  subst hs
  exact hx (h.2.2.2.trans z)
def stB (i k : Nat) : Int := ((bytS.getD i []).getD k 0).toInt
def sbS (i a b : Nat) : List Int := (List.range (b - a)).map (fun j => stB i (a + j))
def wS (i : Nat) : List Int := sbS i 0 (lenS.getD i 0)
theorem sbS_len {i a b : Nat} : (sbS i a b).length = b - a := by unfold sbS; rw [List.length_map, List.length_range]
theorem sbS_get {i a b j : Nat} (h : j < b - a) : (sbS i a b).getD j 0 = stB i (a + j) := by
  unfold sbS
  rw [List.getD_eq_getElem?_getD, List.getElem?_map, List.getElem?_range h]
  rfl
def TWd (B : Nat → Int) (w : List Int) (r : Except Int (Nat × Nat)) : Prop := ∃ s, r = .ok s ∧ pz_wd B s.1 w = true
def NWd (B : Nat → Int) (w : List Int) (r : Except Int (Nat × Nat)) : Prop := ∀ s, r = .ok s → ¬ pz_wd B s.1 w = true
theorem NWd.er {f : Nat → Int32} {n : Int32} {r : Except Int (Nat × Nat)} {a b c d : Int32} {w : List Int} (h : TpR f n r a b c d) (hd : ¬ d.toInt = 0) : NWd (cB f n) w r := fun s hs => by
  subst hs
  exact absurd h.1 hd
theorem NWd.len {f : Nat → Int32} {n : Int32} {r : Except Int (Nat × Nat)} {a b c d : Int32} {w : List Int} (h : TpR f n r a b c d) (hd : ¬ b.toInt - a.toInt = (w.length : Int)) : NWd (cB f n) w r := fun s hs z => by
  subst hs
  have h1 := (of_decide_eq_true z).1
  have h2 := h.2.1
  have h3 := h.2.2.1
  omega
theorem NWd.at {f : Nat → Int32} {n : Int32} {r : Except Int (Nat × Nat)} {a b c d : Int32} {w : List Int} (h : TpR f n r a b c d) (j : Nat) (hj : j < w.length) (hd : ¬ cB f n (a.toInt.toNat + j) = w.getD j 0) : NWd (cB f n) w r := fun s hs z => by
  subst hs
  have h1 := (of_decide_eq_true z).2 j hj
  have h2 : s.1 = a.toInt.toNat := by have := h.2.1; omega
  rw [h2] at h1
  exact hd h1
theorem pz_te_in {f : Nat → Int32} {n : Int32} {p j : Nat} (h : p + j < pz_te (cB f n) p) : ((p + j : Nat) : Int) < n.toInt := by
  by_cases z : (p : Int) < n.toInt
  · have := pz_te_le (f := f) (n := n) (p := p) (by omega)
    omega
  · have e : cB f n p = -1 := cB_out (by omega)
    have : pz_te (cB f n) p = p := by
      unfold pz_te
      rw [e, if_neg (by decide), if_neg (by decide), if_pos rfl]
    omega
def Mt (f : Nat → Int32) (i : Nat) (a x2 k : Int32) : Prop := ∀ j : Nat, x2.toInt ≤ (j : Int) → (j : Int) < k.toInt → (f (a.toInt.toNat + (j - x2.toInt.toNat))).toInt = stB i j
theorem Mt.nil {f : Nat → Int32} {i : Nat} {a x2 : Int32} : Mt f i a x2 x2 := fun j h1 h2 => by omega
theorem Mt.st {f : Nat → Int32} {i : Nat} {a x2 k k' x y r : Int32} (h : Mt f i a x2 k) (h2 : 0 ≤ x2.toInt ∧ x2.toInt ≤ k.toInt ∧ 0 ≤ a.toInt) (ey : y = f x.toNatClampNeg) (hx : x.toInt = a.toInt + k.toInt - x2.toInt) (hr : r.toInt = stB i k.toInt.toNat) (hyr : y.toInt = r.toInt) (hk : k'.toInt = k.toInt + 1) : Mt f i a x2 k' := fun j h1 hj => by
  by_cases z : (j : Int) < k.toInt
  · exact h j h1 z
  · have e1 : j = k.toInt.toNat := by omega
    have e2 : a.toInt.toNat + (j - x2.toInt.toNat) = x.toInt.toNat := by omega
    rw [e2, e1, ← hr, ← hyr, ey]
    rfl
theorem TWd.of {f : Nat → Int32} {n : Int32} {r : Except Int (Nat × Nat)} {a b c d x2 x3 : Int32} {i : Nat} (h : TpR f n r a b c d) (hd : d.toInt = 0) (hl : b.toInt - a.toInt = x3.toInt - x2.toInt) (h2 : 0 ≤ x2.toInt ∧ x2.toInt ≤ x3.toInt) (hm : Mt f i a x2 x3) : TWd (cB f n) (sbS i x2.toInt.toNat x3.toInt.toNat) r := by
  obtain ⟨s, rfl, h1, hb, h3, h4⟩ := h.fault0 hd
  refine ⟨s, rfl, decide_eq_true ⟨?_, fun j hj => ?_⟩⟩
  · rw [sbS_len]; omega
  · rw [sbS_len] at hj
    rw [sbS_get hj, ← hm (x2.toInt.toNat + j) (by omega) (by omega)]
    have hin := pz_te_in (f := f) (n := n) (p := s.1) (j := j) (by omega)
    rw [cB_in hin]
    rw [show a.toInt.toNat + (x2.toInt.toNat + j - x2.toInt.toNat) = s.1 + j by omega]
theorem NWd.ch {f : Nat → Int32} {n : Int32} {r : Except Int (Nat × Nat)} {a b c d x2 x3 k x y q : Int32} {i : Nat} (h : TpR f n r a b c d) (hd : d.toInt = 0) (hl : b.toInt - a.toInt = x3.toInt - x2.toInt) (h2 : 0 ≤ x2.toInt ∧ x2.toInt ≤ k.toInt ∧ k.toInt < x3.toInt) (ey : y = f x.toNatClampNeg) (hx : x.toInt = a.toInt + k.toInt - x2.toInt) (hr : q.toInt = stB i k.toInt.toNat) (hyr : ¬ y.toInt = q.toInt) : NWd (cB f n) (sbS i x2.toInt.toNat x3.toInt.toNat) r := by
  obtain ⟨s, rfl, h1, hb, h3, h4⟩ := h.fault0 hd
  refine NWd.at h (k.toInt.toNat - x2.toInt.toNat) (by rw [sbS_len]; omega) (fun z => hyr ?_)
  have hin := pz_te_in (f := f) (n := n) (p := s.1) (j := k.toInt.toNat - x2.toInt.toNat) (by omega)
  rw [sbS_get (by omega), ← h4, cB_in hin, show x2.toInt.toNat + (k.toInt.toNat - x2.toInt.toNat) = k.toInt.toNat by omega, ← hr] at z
  rw [← z, ey]
  rw [show s.1 + (k.toInt.toNat - x2.toInt.toNat) = x.toInt.toNat by omega]
  rfl
def wR (i : Nat) : Nat → Nat → Nat → List (List Int)
  | 0, _, _ => []
  | k + 1, at', from' => if stB i at' = 32 then sbS i from' at' :: wR i k (at' + 1) (at' + 1) else wR i k (at' + 1) from'
def waR (B : Nat → Int) (ws : List (List Int)) (k : Int) (r : Except Int (Nat × Nat)) : Int := match r with
  | .error _ => -1
  | .ok s => pz_wa B s.1 ws k
def wL (i : Nat) : List (List Int) := wR i (lenS.getD i 0) 0 0
def Wa (B : Nat → Int) (i : Nat) (r : Except Int (Nat × Nat)) (num frm k : Int32) : Prop := waR B (wL i) 0 r = waR B (wR i (lenS.getD i 0 - k.toInt.toNat) k.toInt.toNat frm.toInt.toNat) num.toInt r
theorem Wa.nil {B : Nat → Int} {i : Nat} {r : Except Int (Nat × Nat)} : Wa B i r 0 0 0 := rfl
theorem Wa.end {B : Nat → Int} {i : Nat} {r : Except Int (Nat × Nat)} {num frm k : Int32} (h : Wa B i r num frm k) (hk : ((lenS.getD i 0 : Nat) : Int) ≤ k.toInt) : waR B (wL i) 0 r = -1 := by
  unfold Wa at h
  rw [h, show lenS.getD i 0 - k.toInt.toNat = 0 by omega]
  cases r <;> rfl
theorem Wa.go {B : Nat → Int} {i : Nat} {r : Except Int (Nat × Nat)} {num frm k k' x : Int32} (h : Wa B i r num frm k) (hk : 0 ≤ k.toInt ∧ k.toInt < ((lenS.getD i 0 : Nat) : Int)) (hx : x.toInt = stB i k.toInt.toNat) (h32 : ¬ x.toInt = 32) (hk' : k'.toInt = k.toInt + 1) : Wa B i r num frm k' := by
  unfold Wa at h ⊢
  rw [h, show lenS.getD i 0 - k.toInt.toNat = (lenS.getD i 0 - k'.toInt.toNat) + 1 by omega]
  rw [show wR i (lenS.getD i 0 - k'.toInt.toNat + 1) k.toInt.toNat frm.toInt.toNat = wR i (lenS.getD i 0 - k'.toInt.toNat) (k.toInt.toNat + 1) frm.toInt.toNat from if_neg (by rw [← hx]; exact h32)]
  rw [show k.toInt.toNat + 1 = k'.toInt.toNat by omega]
theorem Wa.no {B : Nat → Int} {i : Nat} {r : Except Int (Nat × Nat)} {num num' frm frm' k k' x : Int32} (h : Wa B i r num frm k) (hk : 0 ≤ k.toInt ∧ k.toInt < ((lenS.getD i 0 : Nat) : Int)) (hx : x.toInt = stB i k.toInt.toNat) (h32 : x.toInt = 32) (hw : NWd B (sbS i frm.toInt.toNat k.toInt.toNat) r) (hk' : k'.toInt = k.toInt + 1) (hf' : frm'.toInt = k.toInt + 1) (hn' : num'.toInt = num.toInt + 1) : Wa B i r num' frm' k' := by
  unfold Wa at h ⊢
  rw [h, show lenS.getD i 0 - k.toInt.toNat = (lenS.getD i 0 - k'.toInt.toNat) + 1 by omega]
  rw [show wR i (lenS.getD i 0 - k'.toInt.toNat + 1) k.toInt.toNat frm.toInt.toNat = sbS i frm.toInt.toNat k.toInt.toNat :: wR i (lenS.getD i 0 - k'.toInt.toNat) (k.toInt.toNat + 1) (k.toInt.toNat + 1) from if_pos (by rw [← hx]; exact h32)]
  rw [show k.toInt.toNat + 1 = k'.toInt.toNat by omega, show frm'.toInt.toNat = k'.toInt.toNat by omega, hn']
  cases r with
  | error e => rfl
  | ok s => exact if_neg (hw s rfl)
theorem Wa.yes {B : Nat → Int} {i : Nat} {r : Except Int (Nat × Nat)} {num frm k x : Int32} (h : Wa B i r num frm k) (hk : 0 ≤ k.toInt ∧ k.toInt < ((lenS.getD i 0 : Nat) : Int)) (hx : x.toInt = stB i k.toInt.toNat) (h32 : x.toInt = 32) (hw : TWd B (sbS i frm.toInt.toNat k.toInt.toNat) r) : waR B (wL i) 0 r = num.toInt := by
  unfold Wa at h
  rw [h, show lenS.getD i 0 - k.toInt.toNat = (lenS.getD i 0 - k.toInt.toNat - 1) + 1 by omega]
  rw [show wR i (lenS.getD i 0 - k.toInt.toNat - 1 + 1) k.toInt.toNat frm.toInt.toNat = sbS i frm.toInt.toNat k.toInt.toNat :: wR i (lenS.getD i 0 - k.toInt.toNat - 1) (k.toInt.toNat + 1) (k.toInt.toNat + 1) from if_pos (by rw [← hx]; exact h32)]
  obtain ⟨s, rfl, hs⟩ := hw
  exact if_pos hs
theorem wL2 : wL 2 = pz_words := by decide +kernel
theorem wL0 : wL 0 = [pz_book, pz_sky, pz_buyer, pz_watch] := by decide +kernel
theorem wS1 : wS 1 = pz_buy := by decide +kernel
theorem wS3 : wS 3 = pz_if := by decide +kernel
theorem wS4 : wS 4 = pz_not := by decide +kernel
theorem wS5 : wS 5 = pz_and := by decide +kernel
theorem wS6 : wS 6 = pz_or := by decide +kernel
theorem pz_run_all {P : Int → Bool} {B : Nat → Int} : ∀ (k p i : Nat), p ≤ i → i < pz_run P B k p → P (B i) = true
  | 0, p, i, h1, h2 => by have : i < p := h2; omega
  | k + 1, p, i, h1, h2 => by
    unfold pz_run at h2
    by_cases z : P (B p) = true
    · rw [if_pos z] at h2
      by_cases y : i = p
      · rw [y]; exact z
      · exact pz_run_all k (p + 1) i (by omega) h2
    · rw [if_neg z] at h2; omega
theorem pz_te_dig {B : Nat → Int} {p i : Nat} (h : pz_isD (B p) = true) (h1 : p ≤ i) (h2 : i < pz_te B p) : 48 ≤ B i ∧ B i ≤ 57 := by
  unfold pz_te at h2
  have hD := of_decide_eq_true h
  rw [if_neg (fun z => by have := of_decide_eq_true z; omega), if_pos h] at h2
  exact of_decide_eq_true (pz_run_all 401 p i h1 h2)
def Nv (B : Nat → Int) (a v i : Int32) : Prop := v.toInt = pz_nv B a.toInt.toNat (i.toInt - a.toInt).toNat ∧ 0 ≤ v.toInt ∧ v.toInt + 1 ≤ 10 ^ (i.toInt - a.toInt).toNat
theorem Nv.nil {B : Nat → Int} {a : Int32} : Nv B a 0 a := by
  unfold Nv
  rw [show (a.toInt - a.toInt).toNat = 0 by omega]
  exact ⟨rfl, by decide, by decide⟩
theorem Nv.ar {B : Nat → Int} {a v i : Int32} (h : Nv B a v i) : 0 ≤ v.toInt ∧ (i.toInt - a.toInt ≤ 5 → v.toInt ≤ 99999) ∧ (i.toInt - a.toInt ≤ 4 → v.toInt ≤ 9999) := by
  refine ⟨h.2.1, fun z => ?_, fun z => ?_⟩
  · have h1 : (10 : Int) ^ (i.toInt - a.toInt).toNat ≤ 10 ^ 5 := by
      have := Nat.pow_le_pow_right (n := 10) (by decide) (show (i.toInt - a.toInt).toNat ≤ 5 by omega)
      exact_mod_cast this
    have := h.2.2
    omega
  · have h1 : (10 : Int) ^ (i.toInt - a.toInt).toNat ≤ 10 ^ 4 := by
      have := Nat.pow_le_pow_right (n := 10) (by decide) (show (i.toInt - a.toInt).toNat ≤ 4 by omega)
      exact_mod_cast this
    have := h.2.2
    omega
theorem Nv.st {B : Nat → Int} {a v v' i i' x : Int32} (h : Nv B a v i) (hi : 0 ≤ a.toInt ∧ a.toInt ≤ i.toInt) (hx : x.toInt = B i.toInt.toNat) (hd : 48 ≤ x.toInt ∧ x.toInt ≤ 57) (hv : v'.toInt = v.toInt * 10 + x.toInt - 48) (hi' : i'.toInt = i.toInt + 1) : Nv B a v' i' := by
  obtain ⟨h1, h2, h3⟩ := h
  unfold Nv
  rw [show (i'.toInt - a.toInt).toNat = (i.toInt - a.toInt).toNat + 1 by omega]
  have e : a.toInt.toNat + (i.toInt - a.toInt).toNat = i.toInt.toNat := by omega
  refine ⟨?_, by omega, ?_⟩
  · show v'.toInt = 10 * pz_nv B a.toInt.toNat (i.toInt - a.toInt).toNat + (B (a.toInt.toNat + (i.toInt - a.toInt).toNat) - 48)
    rw [e, ← hx, ← h1]; omega
  · rw [Int.pow_succ]; omega
def NuV (B : Nat → Int) (lo hi : Int) (r : Except Int (Nat × Nat)) (v : Int32) : Prop := ∀ s x, r = .ok s → pz_num B lo hi s.1 = .ok x → v.toInt = x
theorem TpR.lt {f : Nat → Int32} {n : Int32} {r : Except Int (Nat × Nat)} {a b c d : Int32} (h : TpR f n r a b c d) (hc : 0 ≤ c.toInt) : a.toInt < b.toInt := by
  cases r with
  | error e => have := h.2.2; omega
  | ok s =>
    have h1 := h.2.1
    have h2 := h.2.2.1
    have h3 := h.2.2.2
    have h4 := pz_te_gt (B := cB f n) (p := s.1) (by omega)
    omega
theorem TpR.sgc {f : Nat → Int32} {n : Int32} {r : Except Int (Nat × Nat)} {a b c d : Int32} {x : Int} (h : TpR f n r a b c d) (hx : Sg (cB f n) x r) : c.toInt = x := by
  obtain ⟨s, rfl, e⟩ := hx
  exact h.2.2.2.trans e
theorem TpR.okc {f : Nat → Int32} {n : Int32} {r : Except Int (Nat × Nat)} {a b c d : Int32} (h : TpR f n r a b c d) (hc : 0 ≤ c.toInt) : ∃ s, r = .ok s ∧ d.toInt = 0 ∧ a.toInt = (s.1 : Int) ∧ b.toInt = (pz_te (cB f n) s.1 : Int) ∧ c.toInt = cB f n s.1 := by
  cases r with
  | error e => have := h.2.2; omega
  | ok s => exact ⟨s, rfl, h⟩
theorem rNU_nd {f : Nat → Int32} {n : Int32} {r : Except Int (Nat × Nat)} {a b c d : Int32} {lo hi : Int} (h : TpR f n r a b c d) (hc : ¬ (48 ≤ c.toInt ∧ c.toInt ≤ 57)) : rNU (cB f n) lo hi r = rER 0 r := by
  cases r with
  | error e => rfl
  | ok s =>
    have h1 := h.2.2.2
    show pz_b (pz_num (cB f n) lo hi s.1) (fun _ => .ok s) = .error (pz_er 0 s.1)
    rw [show pz_num (cB f n) lo hi s.1 = .error (pz_er 0 s.1) from if_neg (fun z => hc (by rw [h1]; exact of_decide_eq_true z))]
    rfl
theorem NuV.nd {f : Nat → Int32} {n : Int32} {r : Except Int (Nat × Nat)} {a b c d v : Int32} {lo hi : Int} (h : TpR f n r a b c d) (hc : ¬ (48 ≤ c.toInt ∧ c.toInt ≤ 57)) : NuV (cB f n) lo hi r v := fun s x hs hx => by
  subst hs
  have h1 := h.2.2.2
  rw [show pz_num (cB f n) lo hi s.1 = .error (pz_er 0 s.1) from if_neg (fun z => hc (by rw [h1]; exact of_decide_eq_true z))] at hx
  cases hx
theorem num_dig {B : Nat → Int} {lo hi : Int} {p : Nat} (h : pz_isD (B p) = true) : pz_num B lo hi p = if 5 < pz_te B p - p then .error (pz_er 1 p) else if pz_nv B p (pz_te B p - p) < lo ∨ hi < pz_nv B p (pz_te B p - p) then .error (pz_er 1 p) else .ok (pz_nv B p (pz_te B p - p)) := if_pos h
theorem num_long {f : Nat → Int32} {n : Int32} {s : Nat × Nat} {a b c d : Int32} {lo hi : Int} (h : TpR f n (.ok s) a b c d) (hc : 48 ≤ c.toInt ∧ c.toInt ≤ 57) (hl : 5 < b.toInt - a.toInt) : pz_num (cB f n) lo hi s.1 = .error (pz_er 1 s.1) := by
  have h1 := h.2.2.2
  have h2 := h.2.1
  have h3 := h.2.2.1
  rw [num_dig (decide_eq_true (by rw [← h1]; exact hc)), if_pos (by omega)]
theorem num_val {f : Nat → Int32} {n : Int32} {s : Nat × Nat} {a b c d v : Int32} {lo hi : Int} (h : TpR f n (.ok s) a b c d) (hc : 48 ≤ c.toInt ∧ c.toInt ≤ 57) (hl : b.toInt - a.toInt ≤ 5) (hv : Nv (cB f n) a v b) : pz_num (cB f n) lo hi s.1 = if v.toInt < lo ∨ hi < v.toInt then .error (pz_er 1 s.1) else .ok v.toInt := by
  have h1 := h.2.2.2
  have h2 := h.2.1
  have h3 := h.2.2.1
  have h4 := hv.1
  rw [show a.toInt.toNat = s.1 by omega, show (b.toInt - a.toInt).toNat = pz_te (cB f n) s.1 - s.1 by omega] at h4
  rw [num_dig (decide_eq_true (by rw [← h1]; exact hc)), if_neg (by omega), ← h4]
theorem rNU_long {f : Nat → Int32} {n : Int32} {r : Except Int (Nat × Nat)} {a b c d : Int32} {lo hi : Int} (h : TpR f n r a b c d) (hc : 48 ≤ c.toInt ∧ c.toInt ≤ 57) (hl : 5 < b.toInt - a.toInt) : rNU (cB f n) lo hi r = rER 1 r := by
  obtain ⟨s, rfl, -⟩ := h.okc (by omega)
  show pz_b (pz_num (cB f n) lo hi s.1) (fun _ => .ok s) = .error (pz_er 1 s.1)
  rw [num_long h hc hl]
  rfl
theorem NuV.long {f : Nat → Int32} {n : Int32} {r : Except Int (Nat × Nat)} {a b c d v : Int32} {lo hi : Int} (h : TpR f n r a b c d) (hc : 48 ≤ c.toInt ∧ c.toInt ≤ 57) (hl : 5 < b.toInt - a.toInt) : NuV (cB f n) lo hi r v := fun s x hs hx => by
  subst hs
  rw [num_long h hc hl] at hx
  cases hx
theorem rNU_out {f : Nat → Int32} {n : Int32} {r : Except Int (Nat × Nat)} {a b c d v : Int32} {lo hi : Int} (h : TpR f n r a b c d) (hc : 48 ≤ c.toInt ∧ c.toInt ≤ 57) (hl : b.toInt - a.toInt ≤ 5) (hv : Nv (cB f n) a v b) (ho : v.toInt < lo ∨ hi < v.toInt) : rNU (cB f n) lo hi r = rER 1 r := by
  obtain ⟨s, rfl, -⟩ := h.okc (by omega)
  show pz_b (pz_num (cB f n) lo hi s.1) (fun _ => .ok s) = .error (pz_er 1 s.1)
  rw [num_val h hc hl hv, if_pos ho]
  rfl
theorem NuV.out {f : Nat → Int32} {n : Int32} {r : Except Int (Nat × Nat)} {a b c d v v' : Int32} {lo hi : Int} (h : TpR f n r a b c d) (hc : 48 ≤ c.toInt ∧ c.toInt ≤ 57) (hl : b.toInt - a.toInt ≤ 5) (hv : Nv (cB f n) a v b) (ho : v.toInt < lo ∨ hi < v.toInt) : NuV (cB f n) lo hi r v' := fun s x hs hx => by
  subst hs
  rw [num_val h hc hl hv, if_pos ho] at hx
  cases hx
theorem rNU_ok {f : Nat → Int32} {n : Int32} {r : Except Int (Nat × Nat)} {a b c d v : Int32} {lo hi : Int} (h : TpR f n r a b c d) (hc : 48 ≤ c.toInt ∧ c.toInt ≤ 57) (hl : b.toInt - a.toInt ≤ 5) (hv : Nv (cB f n) a v b) (ho : ¬ (v.toInt < lo ∨ hi < v.toInt)) : rNU (cB f n) lo hi r = r := by
  obtain ⟨s, rfl, -⟩ := h.okc (by omega)
  show pz_b (pz_num (cB f n) lo hi s.1) (fun _ => .ok s) = .ok s
  rw [num_val h hc hl hv, if_neg ho]
  rfl
theorem NuV.ok {f : Nat → Int32} {n : Int32} {r : Except Int (Nat × Nat)} {a b c d v : Int32} {lo hi : Int} (h : TpR f n r a b c d) (hc : 48 ≤ c.toInt ∧ c.toInt ≤ 57) (hl : b.toInt - a.toInt ≤ 5) (hv : Nv (cB f n) a v b) (ho : ¬ (v.toInt < lo ∨ hi < v.toInt)) : NuV (cB f n) lo hi r v := fun s x hs hx => by
  subst hs
  rw [num_val h hc hl hv, if_neg ho] at hx
  cases hx
  rfl
theorem TpR.dig {f : Nat → Int32} {n : Int32} {r : Except Int (Nat × Nat)} {a b c d i : Int32} (h : TpR f n r a b c d) (hc : 48 ≤ c.toInt ∧ c.toInt ≤ 57) (hi : a.toInt ≤ i.toInt ∧ i.toInt < b.toInt) : 48 ≤ cB f n i.toInt.toNat ∧ cB f n i.toInt.toNat ≤ 57 := by
  obtain ⟨s, rfl, h0, h1, h2, h3⟩ := h.okc (by omega)
  exact pz_te_dig (p := s.1) (decide_eq_true (by rw [← h3]; exact hc)) (by omega) (by omega)
def Ctd (r : Except Int (Nat × Nat)) (ct : Int32) : Prop := ∀ s, r = .ok s → ct.toInt = (s.2 : Int)
def rC1 (r : Except Int (Nat × Nat)) : Except Int (Nat × Nat) := pz_b r (fun s => if 60 ≤ s.2 then .error (pz_er 3 s.1) else .ok (s.1, s.2 + 1))
theorem Ctd.nx {B : Nat → Int} {r : Except Int (Nat × Nat)} {ct : Int32} (h : Ctd r ct) : Ctd (rNX B r) ct := fun s hs => by
  cases r with
  | error e => cases hs
  | ok t => cases hs; exact h t rfl
theorem Ctd.er {k : Int} {r : Except Int (Nat × Nat)} {ct : Int32} : Ctd (rER k r) ct := fun s hs => by cases r <;> cases hs
theorem Ctd.nu {B : Nat → Int} {lo hi : Int} {r : Except Int (Nat × Nat)} {ct : Int32} (h : Ctd r ct) : Ctd (rNU B lo hi r) ct := fun s hs => by
  cases r with
  | error e => cases hs
  | ok t =>
    have hs : pz_b (pz_num B lo hi t.1) (fun _ => .ok t) = .ok s := hs
    cases e : pz_num B lo hi t.1 with
    | error z => rw [e] at hs; cases hs
    | ok z => rw [e] at hs; cases hs; exact h s rfl
theorem Ctd.sk {B : Nat → Int} {r : Except Int (Nat × Nat)} {ct : Int32} (h : Ctd r ct) : Ctd (rSK B r) ct := fun s hs => by
  cases r with
  | error e => cases hs
  | ok t => cases hs; exact h t rfl
theorem rC1_hi {r : Except Int (Nat × Nat)} {ct : Int32} (h : Ctd r ct) (h60 : 60 ≤ ct.toInt) : rC1 r = rER 3 r := by
  cases r with
  | error e => rfl
  | ok s => exact if_pos (by have := h s rfl; omega)
theorem TpR.c1 {f : Nat → Int32} {n : Int32} {r : Except Int (Nat × Nat)} {a b c d ct : Int32} (h : TpR f n r a b c d) (hc : Ctd r ct) (h60 : ct.toInt < 60) : TpR f n (rC1 r) a b c d := by
  cases r with
  | error e => exact h
  | ok s =>
    have : rC1 (.ok s) = .ok (s.1, s.2 + 1) := if_neg (by have := hc s rfl; omega)
    rw [this]
    exact h
theorem Ctd.c1 {r : Except Int (Nat × Nat)} {ct ct' : Int32} (hc : Ctd r ct) (h : ct.toInt < 60 → ct'.toInt = ct.toInt + 1) : Ctd (rC1 r) ct' := fun s hs => by
  cases r with
  | error e => cases hs
  | ok t =>
    have hs : (if 60 ≤ t.2 then Except.error (pz_er 3 t.1) else Except.ok (t.1, t.2 + 1)) = Except.ok s := hs
    have h1 := hc t rfl
    by_cases z : 60 ≤ t.2
    · rw [if_pos z] at hs; cases hs
    · rw [if_neg z] at hs
      cases hs
      have := h (by omega)
      show ct'.toInt = ((t.2 + 1 : Nat) : Int)
      omega
theorem val_dig {f : Nat → Int32} {n : Int32} {r : Except Int (Nat × Nat)} {a b c d : Int32} (h : TpR f n r a b c d) (hc : 48 ≤ c.toInt ∧ c.toInt ≤ 57) : pz_b r (pz_val (cB f n)) = rNX (cB f n) (rC1 (rNU (cB f n) 0 99999 r)) := by
  obtain ⟨s, rfl, h0, h1, h2, h3⟩ := h.okc (by omega)
  show pz_val (cB f n) s = _
  unfold pz_val
  rw [if_pos (show pz_isD (cB f n s.1) = true from decide_eq_true (by rw [← h3]; exact hc))]
  show _ = rNX (cB f n) (rC1 (pz_b (pz_num (cB f n) 0 99999 s.1) (fun _ => .ok s)))
  cases pz_num (cB f n) 0 99999 s.1 with
  | error e => rfl
  | ok x =>
    show pz_cnt (cB f n) s = rNX (cB f n) (if 60 ≤ s.2 then .error (pz_er 3 s.1) else .ok (s.1, s.2 + 1))
    unfold pz_cnt
    by_cases z : 60 ≤ s.2
    · rw [if_pos z, if_pos z]; rfl
    · rw [if_neg z, if_neg z]; rfl
theorem val_no {f : Nat → Int32} {n : Int32} {r : Except Int (Nat × Nat)} {a b c d : Int32} (h : TpR f n r a b c d) (hc : ¬ (48 ≤ c.toInt ∧ c.toInt ≤ 57)) (hw : waR (cB f n) (wL 2) 0 r = -1) : pz_b r (pz_val (cB f n)) = rNX (cB f n) (rC1 (rER 0 r)) := by
  cases r with
  | error e => rfl
  | ok s =>
    have h3 := h.2.2.2
    show pz_val (cB f n) s = _
    unfold pz_val
    rw [wL2] at hw
    have hw := hw
    simp only [waR] at hw
    rw [if_neg (fun z => hc (by rw [h3]; exact of_decide_eq_true z)), if_pos hw]
    rfl
theorem val_wd {f : Nat → Int32} {n : Int32} {r : Except Int (Nat × Nat)} {a b c d : Int32} (h : TpR f n r a b c d) (hc : ¬ (48 ≤ c.toInt ∧ c.toInt ≤ 57)) (hw : ¬ waR (cB f n) (wL 2) 0 r = -1) : pz_b r (pz_val (cB f n)) = rNX (cB f n) (rC1 r) := by
  cases r with
  | error e => rfl
  | ok s =>
    have h3 := h.2.2.2
    show pz_val (cB f n) s = _
    unfold pz_val
    rw [wL2] at hw
    have hw := hw
    simp only [waR] at hw
    rw [if_neg (fun z => hc (by rw [h3]; exact of_decide_eq_true z)), if_neg hw]
    show pz_cnt (cB f n) s = rNX (cB f n) (if 60 ≤ s.2 then .error (pz_er 3 s.1) else .ok (s.1, s.2 + 1))
    unfold pz_cnt
    by_cases z : 60 ≤ s.2
    · rw [if_pos z, if_pos z]; rfl
    · rw [if_neg z, if_neg z]; rfl
theorem sum_turn {f : Nat → Int32} {n : Int32} {q : Except Int (Nat × Nat)} {a b c d : Int32} (hn : n.toInt ≤ 400) (h : TpR f n q a b c d) (hc : c.toInt = 43 ∨ c.toInt = 45 ∨ c.toInt = 42 ∨ c.toInt = 47 ∨ c.toInt = 37) : pz_b q (pz_lp (pz_sF (cB f n))) = pz_b (pz_b (rNX (cB f n) q) (pz_val (cB f n))) (pz_lp (pz_sF (cB f n))) := by
  obtain ⟨s, rfl, h0, h1, h2, h3⟩ := h.okc (by omega)
  rw [h3] at hc
  exact pz_sum_on (cB_fi hn) hc
theorem sum_end {f : Nat → Int32} {n : Int32} {q : Except Int (Nat × Nat)} {a b c d i : Int32} (hn : n.toInt ≤ 400) (h : TpR f n q a b c d) (hi : ∀ s, q = .ok s → i.toInt ≤ (s.1 : Int)) (hc : 400 ≤ i.toInt ∨ ¬ (c.toInt = 43 ∨ c.toInt = 45 ∨ c.toInt = 42 ∨ c.toInt = 47 ∨ c.toInt = 37)) : pz_b q (pz_lp (pz_sF (cB f n))) = q := by
  cases q with
  | error e => rfl
  | ok s =>
    refine pz_sum_no (fun z => ?_)
    have h3 := h.2.2.2
    rcases hc with hc | hc
    · have h4 := hi s rfl
      rw [cB_out (by omega)] at z
      omega
    · rw [← h3] at z; exact hc z
theorem com_yes {f : Nat → Int32} {n : Int32} {q : Except Int (Nat × Nat)} {a b c d : Int32} (h : TpR f n q a b c d) (hc : 60 ≤ c.toInt ∧ c.toInt ≤ 62) : pz_b q (pz_cmp (cB f n)) = rNX (cB f n) (rC1 q) := by
  obtain ⟨s, rfl, h0, h1, h2, h3⟩ := h.okc (by omega)
  show pz_cmp (cB f n) s = rNX (cB f n) (if 60 ≤ s.2 then .error (pz_er 3 s.1) else .ok (s.1, s.2 + 1))
  unfold pz_cmp pz_cnt
  rw [if_pos (by omega)]
  by_cases z : 60 ≤ s.2
  · rw [if_pos z, if_pos z]; rfl
  · rw [if_neg z, if_neg z]; rfl
theorem com_no {f : Nat → Int32} {n : Int32} {q : Except Int (Nat × Nat)} {a b c d : Int32} (h : TpR f n q a b c d) (hc : ¬ (60 ≤ c.toInt ∧ c.toInt ≤ 62)) : pz_b q (pz_cmp (cB f n)) = rNX (cB f n) (rC1 (rER 0 q)) := by
  cases q with
  | error e => rfl
  | ok s =>
    have h3 := h.2.2.2
    show pz_cmp (cB f n) s = .error (pz_er 0 s.1)
    unfold pz_cmp
    rw [if_neg (by omega)]
theorem fact_com {B : Nat → Int} {m : Nat} {r : Except Int (Nat × Nat)} (h1 : NWd B pz_not r) (h2 : NSg B 91 r) : pz_b r (pz_fact B m) = pz_b (pz_b (pz_b r (pz_sum B)) (pz_cmp B)) (pz_sum B) := by
  cases r with
  | error e => rfl
  | ok s =>
    show pz_fact B m s = pz_com B s
    have z1 := h1 s rfl
    have z2 := h2 s rfl
    cases m with
    | zero => exact if_neg (fun z => z.elim z1 z2)
    | succ m => exact (if_neg z1).trans (if_neg z2)
theorem fact_deepN {B : Nat → Int} {r : Except Int (Nat × Nat)} (h1 : TWd B pz_not r) : pz_b r (pz_fact B 0) = rER 2 r := by
  obtain ⟨s, rfl, h⟩ := h1
  exact if_pos (Or.inl h)
theorem fact_deepB {B : Nat → Int} {r : Except Int (Nat × Nat)} (h1 : Sg B 91 r) : pz_b r (pz_fact B 0) = rER 2 r := by
  obtain ⟨s, rfl, h⟩ := h1
  exact if_pos (Or.inr h)
theorem fact_not {B : Nat → Int} {m : Nat} {r : Except Int (Nat × Nat)} (h1 : TWd B pz_not r) : pz_b r (pz_fact B (m + 1)) = pz_b (rNX B r) (pz_fact B m) := by
  obtain ⟨s, rfl, h⟩ := h1
  exact if_pos h
theorem fact_br {B : Nat → Int} {m : Nat} {r : Except Int (Nat × Nat)} (h1 : NWd B pz_not r) (h2 : Sg B 91 r) : pz_b r (pz_fact B (m + 1)) = pz_b (pz_b (rNX B r) (pz_tst B (pz_fact B m))) (pz_rb B) := by
  obtain ⟨s, rfl, h⟩ := h2
  exact (if_neg (h1 s rfl)).trans (if_pos h)
theorem rb_yes {B : Nat → Int} {r : Except Int (Nat × Nat)} (h : Sg B 93 r) : pz_b r (pz_rb B) = rNX B r := by
  obtain ⟨s, rfl, h⟩ := h
  exact if_pos h
theorem rb_no {B : Nat → Int} {r : Except Int (Nat × Nat)} (h : NSg B 93 r) : pz_b r (pz_rb B) = rER 0 r := by
  cases r with
  | error e => rfl
  | ok s => exact if_neg (h s rfl)
theorem tst_turn {f : Nat → Int32} {n : Int32} {m : Nat} {q : Except Int (Nat × Nat)} (hn : n.toInt ≤ 400) (hc : TWd (cB f n) pz_and q ∨ TWd (cB f n) pz_or q) : pz_b q (pz_lp (pz_tF (cB f n) (pz_fact (cB f n) m))) = pz_b (pz_b (rNX (cB f n) q) (pz_fact (cB f n) m)) (pz_lp (pz_tF (cB f n) (pz_fact (cB f n) m))) := by
  rcases hc with ⟨s, rfl, h⟩ | ⟨s, rfl, h⟩
  · exact pz_tst_on (cB_fi hn) (Or.inl h)
  · exact pz_tst_on (cB_fi hn) (Or.inr h)
theorem tst_end {f : Nat → Int32} {n : Int32} {m : Nat} {q : Except Int (Nat × Nat)} {i : Int32} (hn : n.toInt ≤ 400) (hi : ∀ s, q = .ok s → i.toInt ≤ (s.1 : Int)) (hc : 400 ≤ i.toInt ∨ (NWd (cB f n) pz_and q ∧ NWd (cB f n) pz_or q)) : pz_b q (pz_lp (pz_tF (cB f n) (pz_fact (cB f n) m))) = q := by
  cases q with
  | error e => rfl
  | ok s =>
    refine pz_tst_no (fun z => ?_)
    rcases hc with hc | hc
    · have h4 := hi s rfl
      exact pz_and_ne z (cB_out (by omega))
    · exact z.elim (hc.1 s rfl) (hc.2 s rfl)
def rTG (l : Nat) (r : Except Int (Nat × Nat)) : Except Int ((Nat × Nat) × Nat) := pz_b r (fun t => .ok (t, l))
def RuR (B : Nat → Int) : Except Int ((Nat × Nat) × Nat) := pz_b (rTG 1 (pz_cla B 0 (pz_sk B 0, 0))) (pz_lp (pz_rF B))
def RcL (f : Nat → Int32) (n : Int32) (a b c d ct l : Int32) : Prop := ∃ q, TpR f n q a b c d ∧ Ctd q ct ∧ ((l.toInt = 0 ∧ q = .ok (pz_sk (cB f n) 0, 0)) ∨ (1 ≤ l.toInt ∧ l.toInt ≤ 12 ∧ RuR (cB f n) = pz_b (rTG l.toInt.toNat q) (pz_lp (pz_rF (cB f n)))) ∨ (l.toInt = 13 ∧ ∃ e, q = .error e ∧ RuR (cB f n) = .error e))
theorem cla_no {B : Nat → Int} {l : Nat} {q : Except Int (Nat × Nat)} (h : NWd B pz_buy q) : pz_b q (pz_cla B l) = rER 0 q := by
  cases q with
  | error e => rfl
  | ok s => exact if_neg (h s rfl)
theorem cla_12 {B : Nat → Int} {l : Nat} {q : Except Int (Nat × Nat)} (h : TWd B pz_buy q) (hl : l = 12) : pz_b q (pz_cla B l) = rER 4 q := by
  obtain ⟨s, rfl, h⟩ := h
  exact (if_pos h).trans (if_pos hl)
theorem cla_if {B : Nat → Int} {l : Nat} {q : Except Int (Nat × Nat)} (h : TWd B pz_buy q) (hl : l ≠ 12) (h2 : TWd B pz_if (pz_b (rNX B q) (pz_sum B))) : pz_b q (pz_cla B l) = pz_b (rNX B (pz_b (rNX B q) (pz_sum B))) (pz_tst B (pz_fact B 10)) := by
  obtain ⟨s, rfl, h⟩ := h
  obtain ⟨t, ht, hw⟩ := h2
  have ht : pz_sum B (pz_nx B s) = .ok t := ht
  show pz_cla B l s = _
  unfold pz_cla
  rw [if_pos h, if_neg hl]
  show pz_b (pz_sum B (pz_nx B s)) _ = pz_b (rNX B (pz_sum B (pz_nx B s))) _
  rw [ht]
  exact if_pos hw
theorem cla_un {B : Nat → Int} {l : Nat} {q : Except Int (Nat × Nat)} (h : TWd B pz_buy q) (hl : l ≠ 12) (h2 : NWd B pz_if (pz_b (rNX B q) (pz_sum B))) : pz_b q (pz_cla B l) = pz_b (rNX B q) (pz_sum B) := by
  obtain ⟨s, rfl, h⟩ := h
  show pz_cla B l s = pz_sum B (pz_nx B s)
  unfold pz_cla
  rw [if_pos h, if_neg hl]
  cases e : pz_sum B (pz_nx B s) with
  | error z => rfl
  | ok t =>
    have := h2 t e
    exact if_neg this
theorem pz_cla_gt {B : Nat → Int} (hB : pz_fi B) {l : Nat} {s t : Nat × Nat} (h : pz_cla B l s = .ok t) : B s.1 ≠ -1 ∧ s.1 < t.1 := by
  unfold pz_cla at h
  by_cases z : pz_wd B s.1 pz_buy = true
  · rw [if_pos z] at h
    have hb : B s.1 ≠ -1 := pz_wd_ne z (by decide) (by decide)
    by_cases y : l = 12
    · rw [if_pos y] at h; cases h
    · rw [if_neg y] at h
      cases e : pz_sum B (pz_nx B s) with
      | error x => rw [e] at h; cases h
      | ok s1 =>
        rw [e] at h
        have h1 := (pz_sum_gt hB e).2
        have h2 := pz_nt_gt hb
        have h3 : (pz_nx B s).1 = pz_nt B s.1 := rfl
        have h : (if pz_wd B s1.1 pz_if = true then pz_tst B (pz_fact B 10) (pz_nx B s1) else .ok s1) = .ok t := h
        by_cases x : pz_wd B s1.1 pz_if = true
        · rw [if_pos x] at h
          have h4 := (pz_tst_gt hB (pz_fact_gt hB 10) h).2
          have h5 := pz_nt_gt (B := B) (p := s1.1) (pz_wd_ne x (by decide) (by decide))
          have h6 : (pz_nx B s1).1 = pz_nt B s1.1 := rfl
          exact ⟨hb, by omega⟩
        · rw [if_neg x] at h
          cases h
          exact ⟨hb, by omega⟩
  · rw [if_neg z] at h; cases h
theorem pz_cla_12 {B : Nat → Int} {s : Nat × Nat} : ∃ e, pz_cla B 12 s = .error e := by
  unfold pz_cla
  by_cases z : pz_wd B s.1 pz_buy = true
  · rw [if_pos z]; exact ⟨_, if_pos rfl⟩
  · rw [if_neg z]; exact ⟨_, rfl⟩
theorem pz_rF_pr {B : Nat → Int} (hB : pz_fi B) : pz_pr (fun u : (Nat × Nat) × Nat => u.1.1) (pz_rF B) := by
  intro u r h
  unfold pz_rF at h
  by_cases z : B u.1.1 = 59
  · rw [if_pos z] at h
    have hb : B u.1.1 ≠ -1 := by omega
    refine ⟨hB.lt hb, fun t ht => ?_⟩
    cases h
    cases e : pz_cla B u.2 (pz_nx B u.1) with
    | error x => rw [e] at ht; cases ht
    | ok s1 =>
      rw [e] at ht
      cases ht
      have h1 := (pz_cla_gt hB e).2
      have h2 := pz_nt_gt hb
      have h3 : (pz_nx B u.1).1 = pz_nt B u.1.1 := rfl
      show u.1.1 < s1.1
      omega
  · rw [if_neg z] at h; cases h
theorem RcL.fin {f : Nat → Int32} {n : Int32} {q : Except Int (Nat × Nat)} {l : Int32} (hq : (l.toInt = 0 ∧ q = .ok (pz_sk (cB f n) 0, 0)) ∨ (1 ≤ l.toInt ∧ l.toInt ≤ 12 ∧ RuR (cB f n) = pz_b (rTG l.toInt.toNat q) (pz_lp (pz_rF (cB f n)))) ∨ (l.toInt = 13 ∧ ∃ e, q = .error e ∧ RuR (cB f n) = .error e)) (h0 : ¬ l.toInt = 0) (hx : 12 < l.toInt ∨ NSg (cB f n) 59 q) : pz_rule (cB f n) = pz_b q (fun s => pz_end (cB f n) s.1) := by
  have e0 : pz_rule (cB f n) = pz_b (RuR (cB f n)) (fun u => pz_end (cB f n) u.1.1) := rfl
  rcases hq with hq | hq | hq
  · omega
  · rw [e0, hq.2.2]
    rcases hx with hx | hx
    · omega
    · cases q with
      | error e => rfl
      | ok s =>
        show pz_b (pz_lp (pz_rF (cB f n)) (s, l.toInt.toNat)) _ = _
        rw [pz_lp_no (F := pz_rF (cB f n)) (s := (s, l.toInt.toNat)) (if_neg (hx s rfl))]
        rfl
  · obtain ⟨-, e, rfl, he⟩ := hq
    rw [e0, he]
    rfl
def RuK (B : Nat → Int) : Prop := ∃ p, pz_rule B = .ok p
def RuF (B : Nat → Int) (d : Int32) : Prop := pz_rule B = .error d.toInt ∧ ¬ d.toInt = 0
theorem RuK.of {f : Nat → Int32} {n : Int32} {q : Except Int (Nat × Nat)} {a b c d : Int32} (hr : pz_rule (cB f n) = pz_b q (fun s => pz_end (cB f n) s.1)) (h : TpR f n (rEN (cB f n) q) a b c d) (hd : d.toInt = 0) : RuK (cB f n) := by
  obtain ⟨s, hs, -⟩ := h.fault0 hd
  cases q with
  | error e => cases hs
  | ok t =>
    have hs : pz_b (pz_end (cB f n) t.1) (fun _ => .ok t) = .ok s := hs
    have hr : pz_rule (cB f n) = pz_end (cB f n) t.1 := hr
    cases e : pz_end (cB f n) t.1 with
    | error z => rw [e] at hs; cases hs
    | ok z => exact ⟨z, hr.trans e⟩
theorem RuF.of {f : Nat → Int32} {n : Int32} {q : Except Int (Nat × Nat)} {a b c d : Int32} (hr : pz_rule (cB f n) = pz_b q (fun s => pz_end (cB f n) s.1)) (h : TpR f n (rEN (cB f n) q) a b c d) (hd : ¬ d.toInt = 0) : RuF (cB f n) d := by
  cases q with
  | error e => exact ⟨hr.trans (congrArg Except.error h.1.symm), hd⟩
  | ok t =>
    have hr : pz_rule (cB f n) = pz_end (cB f n) t.1 := hr
    have h : TpR f n (pz_b (pz_end (cB f n) t.1) (fun _ => .ok t)) a b c d := h
    cases e : pz_end (cB f n) t.1 with
    | error z => rw [e] at h; exact ⟨(hr.trans e).trans (congrArg Except.error h.1.symm), hd⟩
    | ok z => rw [e] at h; exact absurd h.1 hd
set_option maxHeartbeats 4000000 in
set_option maxRecDepth 100000 in
theorem ct_fX10_isLetter (l : Launch) (D : va_G) (tc : Nat → ClassId) (sk : (Nat → Nat) × (Nat → Nat)) (x1 : Int32)  : Ct l yX10_isLetter cX10_isLetter 1 (some .boolean) { frames := 0, cells := 0, slots := 0, locals := 0 } D tc sk [.int x1] [] (fun (v : Option Value) (_ : Unit) => ∃ r : Int32, v = some (.int r) ∧ (((r.toInt = 1 ∧ 97 ≤ x1.toInt ∧ x1.toInt ≤ 122) ∨ (r.toInt = 0 ∧ (x1.toInt < 97 ∨ 122 < x1.toInt))))) (fun (_ : Unit) => []) 0 0 := by
  refine Ct.start (by decide) (Nat.le_of_ble_eq_true rfl) (fun p e s m below meth c A ls hx hb hr hlk hin hml hown hts hK hX hP hD hA hl hS => ?_)
  have hl : lv_has ls 1 [(0, .int x1)] := hl
  refine lv_iload_n hx hb dX10_isLetter_0 rfl (lv_at hl 0 rfl) ?_
  refine lv_bipush (v := 97) hx hb dX10_isLetter_1 (by decide) ?_
  refine lv_icmp_lt (tgt := 16) hx hb dX10_isLetter_3 (by decide) (fun c_1 => ?_) (fun c_1 => ?_)
  · skip
    refine lv_iconst (v := 0) hx hb dX10_isLetter_16 (by decide) ?_
    have hp_2 : (((0 : Int32).toInt = 1 ∧ 97 ≤ x1.toInt ∧ x1.toInt ≤ 122) ∨ ((0 : Int32).toInt = 0 ∧ (x1.toInt < 97 ∨ 122 < x1.toInt))) := by
      have z_1 := Int32.lt_iff_toInt_lt.mp c_1
      have y_97 : (97 : Int32).toInt = 97 := by decide
      have y_0 : (0 : Int32).toInt = 0 := by decide
      have yr : (0 : Int32).toInt = 0 := by decide
      omega
    exact retI (v := 0) hx hb hr hlk (rfl) hP hD hS () ⟨_, rfl, hp_2⟩ [] rfl rfl dX10_isLetter_17 (Nat.le_of_ble_eq_true rfl) (Nat.le_of_ble_eq_true rfl) rfl
  · skip
    refine lv_iload_n hx hb dX10_isLetter_6 rfl (lv_at hl 0 rfl) ?_
    refine lv_bipush (v := 122) hx hb dX10_isLetter_7 (by decide) ?_
    refine lv_icmp_gt (tgt := 16) hx hb dX10_isLetter_9 (by decide) (fun c_3 => ?_) (fun c_3 => ?_)
    · skip
      refine lv_iconst (v := 0) hx hb dX10_isLetter_16 (by decide) ?_
      have hp_4 : (((0 : Int32).toInt = 1 ∧ 97 ≤ x1.toInt ∧ x1.toInt ≤ 122) ∨ ((0 : Int32).toInt = 0 ∧ (x1.toInt < 97 ∨ 122 < x1.toInt))) := by
        have z_1 := Int32.le_iff_toInt_le.mp (Int32.not_lt.mp c_1)
        have z_2 := Int32.lt_iff_toInt_lt.mp c_3
        have y_97 : (97 : Int32).toInt = 97 := by decide
        have y_122 : (122 : Int32).toInt = 122 := by decide
        have y_0 : (0 : Int32).toInt = 0 := by decide
        have yr : (0 : Int32).toInt = 0 := by decide
        omega
      exact retI (v := 0) hx hb hr hlk (rfl) hP hD hS () ⟨_, rfl, hp_4⟩ [] rfl rfl dX10_isLetter_17 (Nat.le_of_ble_eq_true rfl) (Nat.le_of_ble_eq_true rfl) rfl
    · skip
      refine lv_iconst (v := 1) hx hb dX10_isLetter_12 (by decide) ?_
      refine lv_goto (tgt := 17) hx hb dX10_isLetter_13 (by decide) ?_
      have hp_5 : (((1 : Int32).toInt = 1 ∧ 97 ≤ x1.toInt ∧ x1.toInt ≤ 122) ∨ ((1 : Int32).toInt = 0 ∧ (x1.toInt < 97 ∨ 122 < x1.toInt))) := by
        have z_1 := Int32.le_iff_toInt_le.mp (Int32.not_lt.mp c_1)
        have z_2 := Int32.le_iff_toInt_le.mp (Int32.not_lt.mp c_3)
        have y_97 : (97 : Int32).toInt = 97 := by decide
        have y_122 : (122 : Int32).toInt = 122 := by decide
        have y_1 : (1 : Int32).toInt = 1 := by decide
        have yr : (1 : Int32).toInt = 1 := by decide
        omega
      exact retI (v := 1) hx hb hr hlk (rfl) hP hD hS () ⟨_, rfl, hp_5⟩ [] rfl rfl dX10_isLetter_17 (Nat.le_of_ble_eq_true rfl) (Nat.le_of_ble_eq_true rfl) rfl
set_option maxHeartbeats 4000000 in
set_option maxRecDepth 100000 in
theorem ct_fX10_isDigit (l : Launch) (D : va_G) (tc : Nat → ClassId) (sk : (Nat → Nat) × (Nat → Nat)) (x1 : Int32)  : Ct l yX10_isDigit cX10_isDigit 1 (some .boolean) { frames := 0, cells := 0, slots := 0, locals := 0 } D tc sk [.int x1] [] (fun (v : Option Value) (_ : Unit) => ∃ r : Int32, v = some (.int r) ∧ (((r.toInt = 1 ∧ 48 ≤ x1.toInt ∧ x1.toInt ≤ 57) ∨ (r.toInt = 0 ∧ (x1.toInt < 48 ∨ 57 < x1.toInt))))) (fun (_ : Unit) => []) 0 0 := by
  refine Ct.start (by decide) (Nat.le_of_ble_eq_true rfl) (fun p e s m below meth c A ls hx hb hr hlk hin hml hown hts hK hX hP hD hA hl hS => ?_)
  have hl : lv_has ls 1 [(0, .int x1)] := hl
  refine lv_iload_n hx hb dX10_isDigit_0 rfl (lv_at hl 0 rfl) ?_
  refine lv_bipush (v := 48) hx hb dX10_isDigit_1 (by decide) ?_
  refine lv_icmp_lt (tgt := 16) hx hb dX10_isDigit_3 (by decide) (fun c_1 => ?_) (fun c_1 => ?_)
  · skip
    refine lv_iconst (v := 0) hx hb dX10_isDigit_16 (by decide) ?_
    have hp_2 : (((0 : Int32).toInt = 1 ∧ 48 ≤ x1.toInt ∧ x1.toInt ≤ 57) ∨ ((0 : Int32).toInt = 0 ∧ (x1.toInt < 48 ∨ 57 < x1.toInt))) := by
      have z_1 := Int32.lt_iff_toInt_lt.mp c_1
      have y_48 : (48 : Int32).toInt = 48 := by decide
      have y_0 : (0 : Int32).toInt = 0 := by decide
      have yr : (0 : Int32).toInt = 0 := by decide
      omega
    exact retI (v := 0) hx hb hr hlk (rfl) hP hD hS () ⟨_, rfl, hp_2⟩ [] rfl rfl dX10_isDigit_17 (Nat.le_of_ble_eq_true rfl) (Nat.le_of_ble_eq_true rfl) rfl
  · skip
    refine lv_iload_n hx hb dX10_isDigit_6 rfl (lv_at hl 0 rfl) ?_
    refine lv_bipush (v := 57) hx hb dX10_isDigit_7 (by decide) ?_
    refine lv_icmp_gt (tgt := 16) hx hb dX10_isDigit_9 (by decide) (fun c_3 => ?_) (fun c_3 => ?_)
    · skip
      refine lv_iconst (v := 0) hx hb dX10_isDigit_16 (by decide) ?_
      have hp_4 : (((0 : Int32).toInt = 1 ∧ 48 ≤ x1.toInt ∧ x1.toInt ≤ 57) ∨ ((0 : Int32).toInt = 0 ∧ (x1.toInt < 48 ∨ 57 < x1.toInt))) := by
        have z_1 := Int32.le_iff_toInt_le.mp (Int32.not_lt.mp c_1)
        have z_2 := Int32.lt_iff_toInt_lt.mp c_3
        have y_48 : (48 : Int32).toInt = 48 := by decide
        have y_57 : (57 : Int32).toInt = 57 := by decide
        have y_0 : (0 : Int32).toInt = 0 := by decide
        have yr : (0 : Int32).toInt = 0 := by decide
        omega
      exact retI (v := 0) hx hb hr hlk (rfl) hP hD hS () ⟨_, rfl, hp_4⟩ [] rfl rfl dX10_isDigit_17 (Nat.le_of_ble_eq_true rfl) (Nat.le_of_ble_eq_true rfl) rfl
    · skip
      refine lv_iconst (v := 1) hx hb dX10_isDigit_12 (by decide) ?_
      refine lv_goto (tgt := 17) hx hb dX10_isDigit_13 (by decide) ?_
      have hp_5 : (((1 : Int32).toInt = 1 ∧ 48 ≤ x1.toInt ∧ x1.toInt ≤ 57) ∨ ((1 : Int32).toInt = 0 ∧ (x1.toInt < 48 ∨ 57 < x1.toInt))) := by
        have z_1 := Int32.le_iff_toInt_le.mp (Int32.not_lt.mp c_1)
        have z_2 := Int32.le_iff_toInt_le.mp (Int32.not_lt.mp c_3)
        have y_48 : (48 : Int32).toInt = 48 := by decide
        have y_57 : (57 : Int32).toInt = 57 := by decide
        have y_1 : (1 : Int32).toInt = 1 := by decide
        have yr : (1 : Int32).toInt = 1 := by decide
        omega
      exact retI (v := 1) hx hb hr hlk (rfl) hP hD hS () ⟨_, rfl, hp_5⟩ [] rfl rfl dX10_isDigit_17 (Nat.le_of_ble_eq_true rfl) (Nat.le_of_ble_eq_true rfl) rfl
set_option maxHeartbeats 4000000 in
set_option maxRecDepth 100000 in
theorem ct_fX10_byteAt (l : Launch) (D : va_G) (tc : Nat → ClassId) (sk : (Nat → Nat) × (Nat → Nat)) (Ta : Nat → Nat) (Tv : Nat → Int32) (Tf : Nat → Nat → Int32) (x1 : Int32) (h_tape : 0 ≤ ((Tv 0) : Int32).toInt ∧ ((Tv 0) : Int32).toInt ≤ 400 ∧ 0 ≤ ((Tv 1) : Int32).toInt ∧ ((Tv 1) : Int32).toInt ≤ 400 ∧ 0 ≤ ((Tv 2) : Int32).toInt ∧ ((Tv 2) : Int32).toInt ≤ 400) (h_by : Byt (Tf 1)) (h_x : 0 ≤ x1.toInt) : Ct l yX10_byteAt cX10_byteAt 2 (some .int) { frames := 0, cells := 0, slots := 0, locals := 0 } D tc sk [.ref (Ta 0), .int x1] [((Ta 0), .inr (10, [.ref (Ta 1), .int (Tv 0), .int (Tv 1), .int (Tv 2), .int (Tv 3), .int (Tv 4)])), ((Ta 1), .inl (tc 0, 400, .inl (Tf 1)))] (fun (v : Option Value) (_ : Unit) => ∃ r : Int32, v = some (.int r) ∧ ((r.toInt = cB (Tf 1) (Tv 0) x1.toInt.toNat ∧ (((Tv 0).toInt ≤ x1.toInt ∧ r.toInt = -1) ∨ (x1.toInt < (Tv 0).toInt ∧ 0 ≤ r.toInt ∧ r.toInt ≤ 255))))) (fun (_ : Unit) => [((Ta 0), .inr (10, [.ref (Ta 1), .int (Tv 0), .int (Tv 1), .int (Tv 2), .int (Tv 3), .int (Tv 4)])), ((Ta 1), .inl (tc 0, 400, .inl (Tf 1)))]) 0 0 := by
  refine Ct.start (by decide) (Nat.le_of_ble_eq_true rfl) (fun p e s m below meth c A ls hx hb hr hlk hin hml hown hts hK hX hP hD hA hl hS => ?_)
  have hl : lv_has ls 2 [(0, .ref (Ta 0)), (1, .int x1)] := hl
  refine lv_iload_n hx hb dX10_byteAt_0 rfl (lv_at hl 1 rfl) ?_
  refine lv_if_lt (tgt := 30) hx hb dX10_byteAt_1 (by decide) (fun c_1 => ?_) (fun c_1 => ?_)
  · skip
    refine lv_iconst (v := (-1)) hx hb dX10_byteAt_30 (by decide) ?_
    have hr_2 : (Tv 0).toInt ≤ x1.toInt ∧ 0 ≤ x1.toInt := by
      have z_1 := Int32.lt_iff_toInt_lt.mp c_1
      have y_0 : (0 : Int32).toInt = 0 := by decide
      omega
    exact retI (v := (-1)) hx hb hr hlk (rfl) hP hD hS () ⟨_, rfl, (cB_no hr_2)⟩ [0, 1] rfl rfl dX10_byteAt_31 (Nat.le_of_ble_eq_true rfl) (Nat.le_of_ble_eq_true rfl) rfl
  · skip
    refine lv_iload_n hx hb dX10_byteAt_4 rfl (lv_at hl 1 rfl) ?_
    refine lv_aload_n hx hb dX10_byteAt_5 rfl (lv_at hl 0 rfl) ?_
    refine gf_X10_15 hx hb hts hown hK hP 0 rfl rfl dX10_byteAt_6 ?_
    refine lv_icmp_ge (tgt := 30) hx hb dX10_byteAt_9 (by decide) (fun c_3 => ?_) (fun c_3 => ?_)
    · skip
      refine lv_iconst (v := (-1)) hx hb dX10_byteAt_30 (by decide) ?_
      have hr_4 : (Tv 0).toInt ≤ x1.toInt ∧ 0 ≤ x1.toInt := by
        have z_1 := Int32.le_iff_toInt_le.mp (Int32.not_lt.mp c_1)
        have z_2 := Int32.le_iff_toInt_le.mp c_3
        have y_0 : (0 : Int32).toInt = 0 := by decide
        omega
      exact retI (v := (-1)) hx hb hr hlk (rfl) hP hD hS () ⟨_, rfl, (cB_no hr_4)⟩ [0, 1] rfl rfl dX10_byteAt_31 (Nat.le_of_ble_eq_true rfl) (Nat.le_of_ble_eq_true rfl) rfl
    · skip
      refine lv_iload_n hx hb dX10_byteAt_12 rfl (lv_at hl 1 rfl) ?_
      refine lv_aload_n hx hb dX10_byteAt_13 rfl (lv_at hl 0 rfl) ?_
      refine gf_X10_9 hx hb hts hown hK hP 0 rfl rfl dX10_byteAt_14 ?_
      refine va_alen hx hb hK hP 1 0 rfl rfl (v := 400) rfl dX10_byteAt_17 ?_
      refine lv_icmp_ge (tgt := 30) hx hb dX10_byteAt_18 (by decide) (fun c_5 => ?_) (fun c_5 => ?_)
      · skip
        refine lv_iconst (v := (-1)) hx hb dX10_byteAt_30 (by decide) ?_
        have hr_6 : (Tv 0).toInt ≤ x1.toInt ∧ 0 ≤ x1.toInt := by
          have z_1 := Int32.le_iff_toInt_le.mp (Int32.not_lt.mp c_1)
          have z_2 := Int32.lt_iff_toInt_lt.mp (Int32.not_le.mp c_3)
          have z_3 := Int32.le_iff_toInt_le.mp c_5
          have y_0 : (0 : Int32).toInt = 0 := by decide
          have y_400 : (400 : Int32).toInt = 400 := by decide
          omega
        exact retI (v := (-1)) hx hb hr hlk (rfl) hP hD hS () ⟨_, rfl, (cB_no hr_6)⟩ [0, 1] rfl rfl dX10_byteAt_31 (Nat.le_of_ble_eq_true rfl) (Nat.le_of_ble_eq_true rfl) rfl
      · skip
        refine lv_aload_n hx hb dX10_byteAt_21 rfl (lv_at hl 0 rfl) ?_
        refine gf_X10_9 hx hb hts hown hK hP 0 rfl rfl dX10_byteAt_22 ?_
        refine lv_iload_n hx hb dX10_byteAt_25 rfl (lv_at hl 1 rfl) ?_
        have hi_7 : vp_in x1 400 := by
          have z_1 := Int32.le_iff_toInt_le.mp (Int32.not_lt.mp c_1)
          have z_2 := Int32.lt_iff_toInt_lt.mp (Int32.not_le.mp c_3)
          have z_3 := Int32.lt_iff_toInt_lt.mp (Int32.not_le.mp c_5)
          have y_0 : (0 : Int32).toInt = 0 := by decide
          have y_400 : (400 : Int32).toInt = 400 := by decide
          refine vp_in_iff.mpr ⟨?_, ?_⟩ <;> omega
        refine va_iald hx hb hK hP 1 0 rfl rfl hi_7 dX10_byteAt_26 ?_
        refine lv_topi (fun x_8 ex_8 => ?_)
        refine lv_goto (tgt := 31) hx hb dX10_byteAt_27 (by decide) ?_
        have hr_9 : x1.toInt < (Tv 0).toInt ∧ 0 ≤ x1.toInt := by
          have z_1 := Int32.le_iff_toInt_le.mp (Int32.not_lt.mp c_1)
          have z_2 := Int32.lt_iff_toInt_lt.mp (Int32.not_le.mp c_3)
          have z_3 := Int32.lt_iff_toInt_lt.mp (Int32.not_le.mp c_5)
          have y_0 : (0 : Int32).toInt = 0 := by decide
          have y_400 : (400 : Int32).toInt = 400 := by decide
          omega
        exact retI (v := x_8) hx hb hr hlk (rfl) hP hD hS () ⟨_, rfl, (cB_yes h_by ex_8 hr_9)⟩ [0, 1] rfl rfl dX10_byteAt_31 (Nat.le_of_ble_eq_true rfl) (Nat.le_of_ble_eq_true rfl) rfl
set_option maxRecDepth 100000 in
theorem cu_fX10_byteAt (l : Launch) (D : va_G) (tc : Nat → ClassId) (sk : (Nat → Nat) × (Nat → Nat)) (Ta_0 : Nat) (Ta_1 : Nat) (Tv_0 : Int32) (Tv_1 : Int32) (Tv_2 : Int32) (Tv_3 : Int32) (Tv_4 : Int32) (Tf_1 : Nat → Int32) (x1 : Int32) (h_tape : 0 ≤ (Tv_0 : Int32).toInt ∧ (Tv_0 : Int32).toInt ≤ 400 ∧ 0 ≤ (Tv_1 : Int32).toInt ∧ (Tv_1 : Int32).toInt ≤ 400 ∧ 0 ≤ (Tv_2 : Int32).toInt ∧ (Tv_2 : Int32).toInt ≤ 400) (h_by : Byt Tf_1) (h_x : 0 ≤ x1.toInt) : Ct l yX10_byteAt cX10_byteAt 2 (some .int) { frames := 0, cells := 0, slots := 0, locals := 0 } D tc sk [.ref Ta_0, .int x1] [(Ta_0, .inr (10, [.ref Ta_1, .int Tv_0, .int Tv_1, .int Tv_2, .int Tv_3, .int Tv_4])), (Ta_1, .inl (tc 0, 400, .inl Tf_1))] (fun (v : Option Value) (_ : Unit) => ∃ r : Int32, v = some (.int r) ∧ ((r.toInt = cB Tf_1 Tv_0 x1.toInt.toNat ∧ ((Tv_0.toInt ≤ x1.toInt ∧ r.toInt = -1) ∨ (x1.toInt < Tv_0.toInt ∧ 0 ≤ r.toInt ∧ r.toInt ≤ 255))))) (fun (_ : Unit) => [(Ta_0, .inr (10, [.ref Ta_1, .int Tv_0, .int Tv_1, .int Tv_2, .int Tv_3, .int Tv_4])), (Ta_1, .inl (tc 0, 400, .inl Tf_1))]) 0 0 :=
  ct_fX10_byteAt l D tc sk (fun k => ([Ta_0, Ta_1] : List (Nat)).getD k 0) (fun k => ([Tv_0, Tv_1, Tv_2, Tv_3, Tv_4] : List (Int32)).getD k 0) (fun k => ([(fun _ => 0), Tf_1] : List (Nat → Int32)).getD k (fun _ => 0)) x1 h_tape h_by h_x
set_option maxHeartbeats 4000000 in
set_option maxRecDepth 100000 in
theorem ct_fX10_step (l : Launch) (D : va_G) (tc : Nat → ClassId) (sk : (Nat → Nat) × (Nat → Nat)) (Ta : Nat → Nat) (Tv : Nat → Int32) (Tf : Nat → Nat → Int32) (rr : Except Int (Nat × Nat)) (h_tape : 0 ≤ ((Tv 0) : Int32).toInt ∧ ((Tv 0) : Int32).toInt ≤ 400 ∧ 0 ≤ ((Tv 1) : Int32).toInt ∧ ((Tv 1) : Int32).toInt ≤ 400 ∧ 0 ≤ ((Tv 2) : Int32).toInt ∧ ((Tv 2) : Int32).toInt ≤ 400) (h_by : Byt (Tf 1)) (h_tb : TpB rr (Tv 2) (Tv 4)) : Ct l yX10_step cX10_step 2 none { frames := 1, cells := 0, slots := 0, locals := 21 } D tc sk [.ref (Ta 0)] [((Ta 0), .inr (10, [.ref (Ta 1), .int (Tv 0), .int (Tv 1), .int (Tv 2), .int (Tv 3), .int (Tv 4)])), ((Ta 1), .inl (tc 0, 400, .inl (Tf 1)))] (fun (v : Option Value) (u : (Int32) × (Int32) × (Int32)) => match u with | (oo0x1, oo0x2, oo0x3) => v = none ∧ (0 ≤ ((Tv 0) : Int32).toInt ∧ ((Tv 0) : Int32).toInt ≤ 400 ∧ 0 ≤ (oo0x1 : Int32).toInt ∧ (oo0x1 : Int32).toInt ≤ 400 ∧ 0 ≤ (oo0x2 : Int32).toInt ∧ (oo0x2 : Int32).toInt ≤ 400) ∧ (TpR (Tf 1) (Tv 0) (rSK (cB (Tf 1) (Tv 0)) rr) oo0x1 oo0x2 oo0x3 (Tv 4))) (fun (u : (Int32) × (Int32) × (Int32)) => match u with | (oo0x1, oo0x2, oo0x3) => [((Ta 0), .inr (10, [.ref (Ta 1), .int (Tv 0), .int oo0x1, .int oo0x2, .int oo0x3, .int (Tv 4)])), ((Ta 1), .inl (tc 0, 400, .inl (Tf 1)))]) 0 0 := by
  refine Ct.start (by decide) (Nat.le_of_ble_eq_true rfl) (fun p e s m below meth c A ls hx hb hr hlk hin hml hown hts hK hX hP hD hA hl hS => ?_)
  have hl : lv_has ls 2 [(0, .ref (Ta 0))] := hl
  refine lv_aload_n hx hb dX10_step_0 rfl (lv_at hl 0 rfl) ?_
  refine lv_aload_n hx hb dX10_step_1 rfl (lv_at hl 0 rfl) ?_
  refine gf_X10_22 hx hb hts hown hK hP 0 rfl rfl dX10_step_2 ?_
  refine pf_X10_19 hx hb hts hown hK hP hD hS 0 rfl (Nat.le_of_ble_eq_true rfl) rfl rfl dX10_step_5 (fun H locs hP₀ hD₀ hS₀ => ?_)
  replace hP : va_P D classes [((Ta 0), .inr (10, [.ref (Ta 1), .int (Tv 0), .int (Tv 2), .int (Tv 2), .int (Tv 3), .int (Tv 4)])), ((Ta 1), .inl (tc 0, 400, .inl (Tf 1)))] H := hP₀
  replace hD : va_D A [((Ta 0), .inr (10, [.ref (Ta 1), .int (Tv 0), .int (Tv 2), .int (Tv 2), .int (Tv 3), .int (Tv 4)])), ((Ta 1), .inl (tc 0, 400, .inl (Tf 1)))] := hD₀
  replace hS := hS₀
  clear hP₀ hD₀ hS₀
  have loop_5 : ∀ (n_3 : Nat) (vy_2 : Int32) (H : Heap) (locs : List Loc) (ls : Array Slot), (401 - (vy_2 : Int32).toInt).toNat < n_3 → (0 ≤ (vy_2 : Int32).toInt ∧ (vy_2 : Int32).toInt ≤ 400) → (Rn pz_isS (Tf 1) (Tv 0) (Tv 2) vy_2) → va_P D classes [((Ta 0), .inr (10, [.ref (Ta 1), .int (Tv 0), .int vy_2, .int (Tv 2), .int (Tv 3), .int (Tv 4)])), ((Ta 1), .inl (tc 0, 400, .inl (Tf 1)))] H → va_D A [((Ta 0), .inr (10, [.ref (Ta 1), .int (Tv 0), .int vy_2, .int (Tv 2), .int (Tv 3), .int (Tv 4)])), ((Ta 1), .inl (tc 0, 400, .inl (Tf 1)))] → va_S A s.heap H locs → lv_has ls 2 [(0, .ref (Ta 0))] → W p l e ({ frames := 1, cells := 0, slots := 0, locals := 21 }) s m ([.ref (Ta 0)].toArray) below meth c H locs 0 0 (MQ below (QW (fun (v : Option Value) (u : (Int32) × (Int32) × (Int32)) => match u with | (oo0x1, oo0x2, oo0x3) => v = none ∧ (0 ≤ ((Tv 0) : Int32).toInt ∧ ((Tv 0) : Int32).toInt ≤ 400 ∧ 0 ≤ (oo0x1 : Int32).toInt ∧ (oo0x1 : Int32).toInt ≤ 400 ∧ 0 ≤ (oo0x2 : Int32).toInt ∧ (oo0x2 : Int32).toInt ≤ 400) ∧ (TpR (Tf 1) (Tv 0) (rSK (cB (Tf 1) (Tv 0)) rr) oo0x1 oo0x2 oo0x3 (Tv 4))) (BW D (fun (u : (Int32) × (Int32) × (Int32)) => match u with | (oo0x1, oo0x2, oo0x3) => [((Ta 0), .inr (10, [.ref (Ta 1), .int (Tv 0), .int oo0x1, .int oo0x2, .int oo0x3, .int (Tv 4)])), ((Ta 1), .inl (tc 0, 400, .inl (Tf 1)))]) A) A) ([.ref (Ta 0)].toArray) s 0 0 A) (F0 m 8 ls []) := by
    clear hP hD hS hl
    intro n_3
    induction n_3 with
    | zero =>
      intro vy_2 H locs ls h1
      exact absurd h1 (Nat.not_lt_zero _)
    | succ n_3 ih_4 =>
      intro vy_2 H locs ls hn_8 pf_6 pf_7 hP hD hS hl
      refine lv_aload_n hx hb dX10_step_8 rfl (lv_at hl 0 rfl) ?_
      refine gf_X10_19 hx hb hts hown hK hP 0 rfl rfl dX10_step_9 ?_
      refine lv_aload_n hx hb dX10_step_12 rfl (lv_at hl 0 rfl) ?_
      refine gf_X10_15 hx hb hts hown hK hP 0 rfl rfl dX10_step_13 ?_
      refine lv_icmp_ge (tgt := 45) hx hb dX10_step_16 (by decide) (fun c_9 => ?_) (fun c_9 => ?_)
      · skip
        refine lv_aload_n hx hb dX10_step_45 rfl (lv_at hl 0 rfl) ?_
        refine lv_aload_n hx hb dX10_step_46 rfl (lv_at hl 0 rfl) ?_
        refine gf_X10_19 hx hb hts hown hK hP 0 rfl rfl dX10_step_47 ?_
        refine pf_X10_22 hx hb hts hown hK hP hD hS 0 rfl (Nat.le_of_ble_eq_true rfl) rfl rfl dX10_step_50 (fun H locs hP₀ hD₀ hS₀ => ?_)
        replace hP : va_P D classes [((Ta 0), .inr (10, [.ref (Ta 1), .int (Tv 0), .int vy_2, .int vy_2, .int (Tv 3), .int (Tv 4)])), ((Ta 1), .inl (tc 0, 400, .inl (Tf 1)))] H := hP₀
        replace hD : va_D A [((Ta 0), .inr (10, [.ref (Ta 1), .int (Tv 0), .int vy_2, .int vy_2, .int (Tv 3), .int (Tv 4)])), ((Ta 1), .inl (tc 0, 400, .inl (Tf 1)))] := hD₀
        replace hS := hS₀
        clear hP₀ hD₀ hS₀
        refine lv_aload_n hx hb dX10_step_53 rfl (lv_at hl 0 rfl) ?_
        refine lv_aload_n hx hb dX10_step_54 rfl (lv_at hl 0 rfl) ?_
        refine gf_X10_28 hx hb hts hown hK hP 0 rfl rfl dX10_step_55 ?_
        refine lv_if_ne (tgt := 72) hx hb dX10_step_58 (by decide) (fun c_10 => ?_) (fun c_10 => ?_)
        · skip
          refine lv_iconst (v := (-1)) hx hb dX10_step_72 (by decide) ?_
          refine pf_X10_25 hx hb hts hown hK hP hD hS 0 rfl (Nat.le_of_ble_eq_true rfl) rfl rfl dX10_step_73 (fun H locs hP₀ hD₀ hS₀ => ?_)
          replace hP : va_P D classes [((Ta 0), .inr (10, [.ref (Ta 1), .int (Tv 0), .int vy_2, .int vy_2, .int (-1), .int (Tv 4)])), ((Ta 1), .inl (tc 0, 400, .inl (Tf 1)))] H := hP₀
          replace hD : va_D A [((Ta 0), .inr (10, [.ref (Ta 1), .int (Tv 0), .int vy_2, .int vy_2, .int (-1), .int (Tv 4)])), ((Ta 1), .inl (tc 0, 400, .inl (Tf 1)))] := hD₀
          replace hS := hS₀
          clear hP₀ hD₀ hS₀
          refine lv_aload_n hx hb dX10_step_76 rfl (lv_at hl 0 rfl) ?_
          refine gf_X10_25 hx hb hts hown hK hP 0 rfl rfl dX10_step_77 ?_
          refine cS (As := [.int (-1)]) (rest := []) (wr := [((Ta 0), .inr (10, [.ref (Ta 1), .int (Tv 0), .int vy_2, .int vy_2, .int (-1), .int (Tv 4)])), ((Ta 1), .inl (tc 0, 400, .inl (Tf 1)))]) ⟨hx, hb, hml, hown, hts⟩ hK hX hA (ct_fX10_isLetter l D tc sk (-1)) k_485 k_483 k_484 k_96 pl_X10_isLetter ⟨Nat.le_of_ble_eq_true rfl, Nat.le_of_ble_eq_true rfl⟩ rfl rfl  hP hD hS [] [0, 1] rfl rfl rfl rfl rfl (by decide) rfl hl.1 rfl (Nat.le_of_ble_eq_true rfl) dX10_step_80 ⟨Nat.le_of_ble_eq_true rfl, Nat.le_of_ble_eq_true rfl⟩ (fun v_11 u_12 H locs hv_13 hP₀ hD₀ hS₀ => ?_)
          obtain ⟨r_14, rfl, he_15⟩ := hv_13
          have he_15 : ((r_14.toInt = 1 ∧ 97 ≤ ((-1) : Int32).toInt ∧ ((-1) : Int32).toInt ≤ 122) ∨ (r_14.toInt = 0 ∧ (((-1) : Int32).toInt < 97 ∨ 122 < ((-1) : Int32).toInt))) := he_15
          refine W.eq (g2 := F0 m 83 ls [.int r_14]) rfl ?_
          replace hP : va_P D classes [((Ta 0), .inr (10, [.ref (Ta 1), .int (Tv 0), .int vy_2, .int vy_2, .int (-1), .int (Tv 4)])), ((Ta 1), .inl (tc 0, 400, .inl (Tf 1)))] H := hP₀
          replace hD : va_D A [((Ta 0), .inr (10, [.ref (Ta 1), .int (Tv 0), .int vy_2, .int vy_2, .int (-1), .int (Tv 4)])), ((Ta 1), .inl (tc 0, 400, .inl (Tf 1)))] := hD₀
          replace hS := hS₀
          clear hP₀ hD₀ hS₀
          refine lv_if_eq (tgt := 124) hx hb dX10_step_83 (by decide) (fun c_17 => ?_) (fun c_17 => ?_)
          · skip
            refine lv_aload_n hx hb dX10_step_124 rfl (lv_at hl 0 rfl) ?_
            refine gf_X10_25 hx hb hts hown hK hP 0 rfl rfl dX10_step_125 ?_
            refine cS (As := [.int (-1)]) (rest := []) (wr := [((Ta 0), .inr (10, [.ref (Ta 1), .int (Tv 0), .int vy_2, .int vy_2, .int (-1), .int (Tv 4)])), ((Ta 1), .inl (tc 0, 400, .inl (Tf 1)))]) ⟨hx, hb, hml, hown, hts⟩ hK hX hA (ct_fX10_isDigit l D tc sk (-1)) k_488 k_486 k_487 k_96 pl_X10_isDigit ⟨Nat.le_of_ble_eq_true rfl, Nat.le_of_ble_eq_true rfl⟩ rfl rfl  hP hD hS [] [0, 1] rfl rfl rfl rfl rfl (by decide) rfl hl.1 rfl (Nat.le_of_ble_eq_true rfl) dX10_step_128 ⟨Nat.le_of_ble_eq_true rfl, Nat.le_of_ble_eq_true rfl⟩ (fun v_18 u_19 H locs hv_20 hP₀ hD₀ hS₀ => ?_)
            obtain ⟨r_21, rfl, he_22⟩ := hv_20
            have he_22 : ((r_21.toInt = 1 ∧ 48 ≤ ((-1) : Int32).toInt ∧ ((-1) : Int32).toInt ≤ 57) ∨ (r_21.toInt = 0 ∧ (((-1) : Int32).toInt < 48 ∨ 57 < ((-1) : Int32).toInt))) := he_22
            refine W.eq (g2 := F0 m 131 ls [.int r_21]) rfl ?_
            replace hP : va_P D classes [((Ta 0), .inr (10, [.ref (Ta 1), .int (Tv 0), .int vy_2, .int vy_2, .int (-1), .int (Tv 4)])), ((Ta 1), .inl (tc 0, 400, .inl (Tf 1)))] H := hP₀
            replace hD : va_D A [((Ta 0), .inr (10, [.ref (Ta 1), .int (Tv 0), .int vy_2, .int vy_2, .int (-1), .int (Tv 4)])), ((Ta 1), .inl (tc 0, 400, .inl (Tf 1)))] := hD₀
            replace hS := hS₀
            clear hP₀ hD₀ hS₀
            refine lv_if_eq (tgt := 172) hx hb dX10_step_131 (by decide) (fun c_24 => ?_) (fun c_24 => ?_)
            · skip
              refine lv_aload_n hx hb dX10_step_172 rfl (lv_at hl 0 rfl) ?_
              refine gf_X10_25 hx hb hts hown hK hP 0 rfl rfl dX10_step_173 ?_
              refine lv_iconst (v := (-1)) hx hb dX10_step_176 (by decide) ?_
              refine lv_icmp_eq (tgt := 242) hx hb dX10_step_177 (by decide) (fun c_25 => ?_) (fun c_25 => absurd c_25 (by decide))
              have ha_26 : 0 ≤ ((Tv 0) : Int32).toInt ∧ ((Tv 0) : Int32).toInt ≤ 400 ∧ 0 ≤ (vy_2 : Int32).toInt ∧ (vy_2 : Int32).toInt ≤ 400 ∧ 0 ≤ (vy_2 : Int32).toInt ∧ (vy_2 : Int32).toInt ≤ 400 := by
                have z_1 := Int32.le_iff_toInt_le.mp c_9
                have z_2 : ¬ ((Tv 4) : Int32).toInt = (0 : Int32).toInt := fun z => c_10 (Int32.toInt_inj.mp z)
                have z_3 := congrArg Int32.toInt c_17
                have z_4 := congrArg Int32.toInt c_24
                have y_0 : (0 : Int32).toInt = 0 := by decide
                omega
              have hr_27 : ¬ ((Tv 4) : Int32).toInt = 0 := by
                have z_1 := Int32.le_iff_toInt_le.mp c_9
                have z_2 : ¬ ((Tv 4) : Int32).toInt = (0 : Int32).toInt := fun z => c_10 (Int32.toInt_inj.mp z)
                have z_3 := congrArg Int32.toInt c_17
                have z_4 := congrArg Int32.toInt c_24
                have y_0 : (0 : Int32).toInt = 0 := by decide
                omega
              have hr_28 : ((-1) : Int32).toInt = -1 := by
                have z_1 := Int32.le_iff_toInt_le.mp c_9
                have z_2 : ¬ ((Tv 4) : Int32).toInt = (0 : Int32).toInt := fun z => c_10 (Int32.toInt_inj.mp z)
                have z_3 := congrArg Int32.toInt c_17
                have z_4 := congrArg Int32.toInt c_24
                have y_0 : (0 : Int32).toInt = 0 := by decide
                have y_m1 : (-1 : Int32).toInt = -1 := by decide
                omega
              exact retV hx hb hr hlk hP hD hS (vy_2, vy_2, (-1)) ⟨rfl, ha_26, (TpB.er h_tb hr_27 hr_28)⟩ [0, 1] rfl rfl dX10_step_242 (Nat.le_of_ble_eq_true rfl) (Nat.le_of_ble_eq_true rfl) rfl
            · skip
              have loop_33 : ∀ (n_31 : Nat) (vy_30 : Int32) (H : Heap) (locs : List Loc) (ls : Array Slot), (401 - (vy_30 : Int32).toInt).toNat < n_31 → (0 ≤ (vy_30 : Int32).toInt ∧ (vy_30 : Int32).toInt ≤ 400) → (Rn pz_isD (Tf 1) (Tv 0) vy_2 vy_30) → va_P D classes [((Ta 0), .inr (10, [.ref (Ta 1), .int (Tv 0), .int vy_2, .int vy_30, .int (-1), .int (Tv 4)])), ((Ta 1), .inl (tc 0, 400, .inl (Tf 1)))] H → va_D A [((Ta 0), .inr (10, [.ref (Ta 1), .int (Tv 0), .int vy_2, .int vy_30, .int (-1), .int (Tv 4)])), ((Ta 1), .inl (tc 0, 400, .inl (Tf 1)))] → va_S A s.heap H locs → lv_has ls 2 [(0, .ref (Ta 0))] → W p l e ({ frames := 1, cells := 0, slots := 0, locals := 21 }) s m ([.ref (Ta 0)].toArray) below meth c H locs 0 0 (MQ below (QW (fun (v : Option Value) (u : (Int32) × (Int32) × (Int32)) => match u with | (oo0x1, oo0x2, oo0x3) => v = none ∧ (0 ≤ ((Tv 0) : Int32).toInt ∧ ((Tv 0) : Int32).toInt ≤ 400 ∧ 0 ≤ (oo0x1 : Int32).toInt ∧ (oo0x1 : Int32).toInt ≤ 400 ∧ 0 ≤ (oo0x2 : Int32).toInt ∧ (oo0x2 : Int32).toInt ≤ 400) ∧ (TpR (Tf 1) (Tv 0) (rSK (cB (Tf 1) (Tv 0)) rr) oo0x1 oo0x2 oo0x3 (Tv 4))) (BW D (fun (u : (Int32) × (Int32) × (Int32)) => match u with | (oo0x1, oo0x2, oo0x3) => [((Ta 0), .inr (10, [.ref (Ta 1), .int (Tv 0), .int oo0x1, .int oo0x2, .int oo0x3, .int (Tv 4)])), ((Ta 1), .inl (tc 0, 400, .inl (Tf 1)))]) A) A) ([.ref (Ta 0)].toArray) s 0 0 A) (F0 m 134 ls []) := by
                clear hP hD hS hl
                intro n_31
                induction n_31 with
                | zero =>
                  intro vy_30 H locs ls h1
                  exact absurd h1 (Nat.not_lt_zero _)
                | succ n_31 ih_32 =>
                  intro vy_30 H locs ls hn_36 pf_34 pf_35 hP hD hS hl
                  refine lv_aload_n hx hb dX10_step_134 rfl (lv_at hl 0 rfl) ?_
                  refine gf_X10_22 hx hb hts hown hK hP 0 rfl rfl dX10_step_135 ?_
                  refine lv_aload_n hx hb dX10_step_138 rfl (lv_at hl 0 rfl) ?_
                  refine gf_X10_15 hx hb hts hown hK hP 0 rfl rfl dX10_step_139 ?_
                  refine lv_icmp_ge (tgt := 242) hx hb dX10_step_142 (by decide) (fun c_37 => ?_) (fun c_37 => ?_)
                  · skip
                    have ha_38 : 0 ≤ ((Tv 0) : Int32).toInt ∧ ((Tv 0) : Int32).toInt ≤ 400 ∧ 0 ≤ (vy_2 : Int32).toInt ∧ (vy_2 : Int32).toInt ≤ 400 ∧ 0 ≤ (vy_30 : Int32).toInt ∧ (vy_30 : Int32).toInt ≤ 400 := by
                      have z_1 := Int32.le_iff_toInt_le.mp c_9
                      have z_2 : ¬ ((Tv 4) : Int32).toInt = (0 : Int32).toInt := fun z => c_10 (Int32.toInt_inj.mp z)
                      have z_3 := congrArg Int32.toInt c_17
                      have z_4 : ¬ (r_21 : Int32).toInt = (0 : Int32).toInt := fun z => c_24 (Int32.toInt_inj.mp z)
                      have z_5 := Int32.le_iff_toInt_le.mp c_37
                      have y_0 : (0 : Int32).toInt = 0 := by decide
                      omega
                    have hr_39 : ¬ ((Tv 4) : Int32).toInt = 0 := by
                      have z_1 := Int32.le_iff_toInt_le.mp c_9
                      have z_2 : ¬ ((Tv 4) : Int32).toInt = (0 : Int32).toInt := fun z => c_10 (Int32.toInt_inj.mp z)
                      have z_3 := congrArg Int32.toInt c_17
                      have z_4 : ¬ (r_21 : Int32).toInt = (0 : Int32).toInt := fun z => c_24 (Int32.toInt_inj.mp z)
                      have z_5 := Int32.le_iff_toInt_le.mp c_37
                      have y_0 : (0 : Int32).toInt = 0 := by decide
                      omega
                    have hr_40 : ((-1) : Int32).toInt = -1 := by
                      have z_1 := Int32.le_iff_toInt_le.mp c_9
                      have z_2 : ¬ ((Tv 4) : Int32).toInt = (0 : Int32).toInt := fun z => c_10 (Int32.toInt_inj.mp z)
                      have z_3 := congrArg Int32.toInt c_17
                      have z_4 : ¬ (r_21 : Int32).toInt = (0 : Int32).toInt := fun z => c_24 (Int32.toInt_inj.mp z)
                      have z_5 := Int32.le_iff_toInt_le.mp c_37
                      have y_0 : (0 : Int32).toInt = 0 := by decide
                      have y_m1 : (-1 : Int32).toInt = -1 := by decide
                      omega
                    exact retV hx hb hr hlk hP hD hS (vy_2, vy_30, (-1)) ⟨rfl, ha_38, (TpB.er h_tb hr_39 hr_40)⟩ [0, 1] rfl rfl dX10_step_242 (Nat.le_of_ble_eq_true rfl) (Nat.le_of_ble_eq_true rfl) rfl
                  · skip
                    refine lv_aload_n hx hb dX10_step_145 rfl (lv_at hl 0 rfl) ?_
                    refine lv_aload_n hx hb dX10_step_146 rfl (lv_at hl 0 rfl) ?_
                    refine gf_X10_22 hx hb hts hown hK hP 0 rfl rfl dX10_step_147 ?_
                    have ha_41 : 0 ≤ ((Tv 0) : Int32).toInt ∧ ((Tv 0) : Int32).toInt ≤ 400 ∧ 0 ≤ (vy_2 : Int32).toInt ∧ (vy_2 : Int32).toInt ≤ 400 ∧ 0 ≤ (vy_30 : Int32).toInt ∧ (vy_30 : Int32).toInt ≤ 400 := by
                      have z_1 := Int32.le_iff_toInt_le.mp c_9
                      have z_2 : ¬ ((Tv 4) : Int32).toInt = (0 : Int32).toInt := fun z => c_10 (Int32.toInt_inj.mp z)
                      have z_3 := congrArg Int32.toInt c_17
                      have z_4 : ¬ (r_21 : Int32).toInt = (0 : Int32).toInt := fun z => c_24 (Int32.toInt_inj.mp z)
                      have z_5 := Int32.lt_iff_toInt_lt.mp (Int32.not_le.mp c_37)
                      have y_0 : (0 : Int32).toInt = 0 := by decide
                      omega
                    have ha_42 : 0 ≤ vy_30.toInt := by
                      have z_1 := Int32.le_iff_toInt_le.mp c_9
                      have z_2 : ¬ ((Tv 4) : Int32).toInt = (0 : Int32).toInt := fun z => c_10 (Int32.toInt_inj.mp z)
                      have z_3 := congrArg Int32.toInt c_17
                      have z_4 : ¬ (r_21 : Int32).toInt = (0 : Int32).toInt := fun z => c_24 (Int32.toInt_inj.mp z)
                      have z_5 := Int32.lt_iff_toInt_lt.mp (Int32.not_le.mp c_37)
                      have y_0 : (0 : Int32).toInt = 0 := by decide
                      omega
                    refine cV (a := (Ta 0)) (As := [.int vy_30]) (rest := []) (wr := []) ⟨hx, hb, hml, hown, hts⟩ hK hX hA (cu_fX10_byteAt l D tc sk (Ta 0) (Ta 1) (Tv 0) vy_2 vy_30 (-1) (Tv 4) (Tf 1) vy_30 ha_41 h_by ha_42) k_482 k_479 k_481 k_0 k_96 pl_X10_byteAt ⟨Nat.le_of_ble_eq_true rfl, Nat.le_of_ble_eq_true rfl⟩ rfl rfl (va_recv hK hP (ci := 10) (q0 := 0) rfl rfl) hP hD hS [0, 1] [] rfl rfl rfl rfl rfl (by decide) rfl hl.1 rfl (Nat.le_of_ble_eq_true rfl) dX10_step_150 ⟨Nat.le_of_ble_eq_true rfl, Nat.le_of_ble_eq_true rfl⟩ (fun v_43 u_44 H locs hv_45 hP₀ hD₀ hS₀ => ?_)
                    obtain ⟨r_46, rfl, he_47⟩ := hv_45
                    have he_47 : (r_46.toInt = cB (Tf 1) (Tv 0) vy_30.toInt.toNat ∧ (((Tv 0).toInt ≤ vy_30.toInt ∧ r_46.toInt = -1) ∨ (vy_30.toInt < (Tv 0).toInt ∧ 0 ≤ r_46.toInt ∧ r_46.toInt ≤ 255))) := he_47
                    refine W.eq (g2 := F0 m 153 ls [.int r_46]) rfl ?_
                    replace hP : va_P D classes [((Ta 0), .inr (10, [.ref (Ta 1), .int (Tv 0), .int vy_2, .int vy_30, .int (-1), .int (Tv 4)])), ((Ta 1), .inl (tc 0, 400, .inl (Tf 1)))] H := hP₀
                    replace hD : va_D A [((Ta 0), .inr (10, [.ref (Ta 1), .int (Tv 0), .int vy_2, .int vy_30, .int (-1), .int (Tv 4)])), ((Ta 1), .inl (tc 0, 400, .inl (Tf 1)))] := hD₀
                    replace hS := hS₀
                    clear hP₀ hD₀ hS₀
                    refine cS (As := [.int r_46]) (rest := []) (wr := [((Ta 0), .inr (10, [.ref (Ta 1), .int (Tv 0), .int vy_2, .int vy_30, .int (-1), .int (Tv 4)])), ((Ta 1), .inl (tc 0, 400, .inl (Tf 1)))]) ⟨hx, hb, hml, hown, hts⟩ hK hX hA (ct_fX10_isDigit l D tc sk r_46) k_488 k_486 k_487 k_96 pl_X10_isDigit ⟨Nat.le_of_ble_eq_true rfl, Nat.le_of_ble_eq_true rfl⟩ rfl rfl  hP hD hS [] [0, 1] rfl rfl rfl rfl rfl (by decide) rfl hl.1 rfl (Nat.le_of_ble_eq_true rfl) dX10_step_153 ⟨Nat.le_of_ble_eq_true rfl, Nat.le_of_ble_eq_true rfl⟩ (fun v_49 u_50 H locs hv_51 hP₀ hD₀ hS₀ => ?_)
                    obtain ⟨r_52, rfl, he_53⟩ := hv_51
                    have he_53 : ((r_52.toInt = 1 ∧ 48 ≤ r_46.toInt ∧ r_46.toInt ≤ 57) ∨ (r_52.toInt = 0 ∧ (r_46.toInt < 48 ∨ 57 < r_46.toInt))) := he_53
                    refine W.eq (g2 := F0 m 156 ls [.int r_52]) rfl ?_
                    replace hP : va_P D classes [((Ta 0), .inr (10, [.ref (Ta 1), .int (Tv 0), .int vy_2, .int vy_30, .int (-1), .int (Tv 4)])), ((Ta 1), .inl (tc 0, 400, .inl (Tf 1)))] H := hP₀
                    replace hD : va_D A [((Ta 0), .inr (10, [.ref (Ta 1), .int (Tv 0), .int vy_2, .int vy_30, .int (-1), .int (Tv 4)])), ((Ta 1), .inl (tc 0, 400, .inl (Tf 1)))] := hD₀
                    replace hS := hS₀
                    clear hP₀ hD₀ hS₀
                    refine lv_if_eq (tgt := 242) hx hb dX10_step_156 (by decide) (fun c_55 => ?_) (fun c_55 => ?_)
                    · skip
                      have ha_56 : 0 ≤ ((Tv 0) : Int32).toInt ∧ ((Tv 0) : Int32).toInt ≤ 400 ∧ 0 ≤ (vy_2 : Int32).toInt ∧ (vy_2 : Int32).toInt ≤ 400 ∧ 0 ≤ (vy_30 : Int32).toInt ∧ (vy_30 : Int32).toInt ≤ 400 := by
                        have z_1 := Int32.le_iff_toInt_le.mp c_9
                        have z_2 : ¬ ((Tv 4) : Int32).toInt = (0 : Int32).toInt := fun z => c_10 (Int32.toInt_inj.mp z)
                        have z_3 := congrArg Int32.toInt c_17
                        have z_4 : ¬ (r_21 : Int32).toInt = (0 : Int32).toInt := fun z => c_24 (Int32.toInt_inj.mp z)
                        have z_5 := Int32.lt_iff_toInt_lt.mp (Int32.not_le.mp c_37)
                        have z_6 := congrArg Int32.toInt c_55
                        have y_0 : (0 : Int32).toInt = 0 := by decide
                        omega
                      have hr_57 : ¬ ((Tv 4) : Int32).toInt = 0 := by
                        have z_1 := Int32.le_iff_toInt_le.mp c_9
                        have z_2 : ¬ ((Tv 4) : Int32).toInt = (0 : Int32).toInt := fun z => c_10 (Int32.toInt_inj.mp z)
                        have z_3 := congrArg Int32.toInt c_17
                        have z_4 : ¬ (r_21 : Int32).toInt = (0 : Int32).toInt := fun z => c_24 (Int32.toInt_inj.mp z)
                        have z_5 := Int32.lt_iff_toInt_lt.mp (Int32.not_le.mp c_37)
                        have z_6 := congrArg Int32.toInt c_55
                        have y_0 : (0 : Int32).toInt = 0 := by decide
                        omega
                      have hr_58 : ((-1) : Int32).toInt = -1 := by
                        have z_1 := Int32.le_iff_toInt_le.mp c_9
                        have z_2 : ¬ ((Tv 4) : Int32).toInt = (0 : Int32).toInt := fun z => c_10 (Int32.toInt_inj.mp z)
                        have z_3 := congrArg Int32.toInt c_17
                        have z_4 : ¬ (r_21 : Int32).toInt = (0 : Int32).toInt := fun z => c_24 (Int32.toInt_inj.mp z)
                        have z_5 := Int32.lt_iff_toInt_lt.mp (Int32.not_le.mp c_37)
                        have z_6 := congrArg Int32.toInt c_55
                        have y_0 : (0 : Int32).toInt = 0 := by decide
                        have y_m1 : (-1 : Int32).toInt = -1 := by decide
                        omega
                      exact retV hx hb hr hlk hP hD hS (vy_2, vy_30, (-1)) ⟨rfl, ha_56, (TpB.er h_tb hr_57 hr_58)⟩ [0, 1] rfl rfl dX10_step_242 (Nat.le_of_ble_eq_true rfl) (Nat.le_of_ble_eq_true rfl) rfl
                    · skip
                      refine lv_aload_n hx hb dX10_step_159 rfl (lv_at hl 0 rfl) ?_
                      refine lv_dup hx hb dX10_step_160 rfl ?_
                      refine gf_X10_22 hx hb hts hown hK hP 0 rfl rfl dX10_step_161 ?_
                      refine lv_iconst (v := 1) hx hb dX10_step_164 (by decide) ?_
                      refine lv_iadd hx hb dX10_step_165 ?_
                      refine lv_topi (fun x_59 ex_59 => ?_)
                      refine pf_X10_22 hx hb hts hown hK hP hD hS 0 rfl (Nat.le_of_ble_eq_true rfl) rfl rfl dX10_step_166 (fun H locs hP₀ hD₀ hS₀ => ?_)
                      replace hP : va_P D classes [((Ta 0), .inr (10, [.ref (Ta 1), .int (Tv 0), .int vy_2, .int x_59, .int (-1), .int (Tv 4)])), ((Ta 1), .inl (tc 0, 400, .inl (Tf 1)))] H := hP₀
                      replace hD : va_D A [((Ta 0), .inr (10, [.ref (Ta 1), .int (Tv 0), .int vy_2, .int x_59, .int (-1), .int (Tv 4)])), ((Ta 1), .inl (tc 0, 400, .inl (Tf 1)))] := hD₀
                      replace hS := hS₀
                      clear hP₀ hD₀ hS₀
                      refine lv_goto (tgt := 134) hx hb dX10_step_169 (by decide) ?_
                      have hb_60 : 401 - (x_59 : Int32).toInt < 401 - (vy_30 : Int32).toInt ∧ 1 ≤ 401 - (vy_30 : Int32).toInt := by
                        have z_1 := Int32.le_iff_toInt_le.mp c_9
                        have z_2 : ¬ ((Tv 4) : Int32).toInt = (0 : Int32).toInt := fun z => c_10 (Int32.toInt_inj.mp z)
                        have z_3 := congrArg Int32.toInt c_17
                        have z_4 : ¬ (r_21 : Int32).toInt = (0 : Int32).toInt := fun z => c_24 (Int32.toInt_inj.mp z)
                        have z_5 := Int32.lt_iff_toInt_lt.mp (Int32.not_le.mp c_37)
                        have z_6 : ¬ (r_52 : Int32).toInt = (0 : Int32).toInt := fun z => c_55 (Int32.toInt_inj.mp z)
                        have y_0 : (0 : Int32).toInt = 0 := by decide
                        have y_1 : (1 : Int32).toInt = 1 := by decide
                        have t_x_59 : x_59.toInt = (vy_30 : Int32).toInt + (1 : Int32).toInt := by rw [ex_59]; exact add_toInt (by omega) (by omega)
                        omega
                      have ha_61 : 0 ≤ (x_59 : Int32).toInt ∧ (x_59 : Int32).toInt ≤ 400 := by
                        have z_1 := Int32.le_iff_toInt_le.mp c_9
                        have z_2 : ¬ ((Tv 4) : Int32).toInt = (0 : Int32).toInt := fun z => c_10 (Int32.toInt_inj.mp z)
                        have z_3 := congrArg Int32.toInt c_17
                        have z_4 : ¬ (r_21 : Int32).toInt = (0 : Int32).toInt := fun z => c_24 (Int32.toInt_inj.mp z)
                        have z_5 := Int32.lt_iff_toInt_lt.mp (Int32.not_le.mp c_37)
                        have z_6 : ¬ (r_52 : Int32).toInt = (0 : Int32).toInt := fun z => c_55 (Int32.toInt_inj.mp z)
                        have y_0 : (0 : Int32).toInt = 0 := by decide
                        have y_1 : (1 : Int32).toInt = 1 := by decide
                        have t_x_59 : x_59.toInt = (vy_30 : Int32).toInt + (1 : Int32).toInt := by rw [ex_59]; exact add_toInt (by omega) (by omega)
                        omega
                      have hr_62 : 0 ≤ (vy_30 : Int32).toInt := by
                        have z_1 := Int32.le_iff_toInt_le.mp c_9
                        have z_2 : ¬ ((Tv 4) : Int32).toInt = (0 : Int32).toInt := fun z => c_10 (Int32.toInt_inj.mp z)
                        have z_3 := congrArg Int32.toInt c_17
                        have z_4 : ¬ (r_21 : Int32).toInt = (0 : Int32).toInt := fun z => c_24 (Int32.toInt_inj.mp z)
                        have z_5 := Int32.lt_iff_toInt_lt.mp (Int32.not_le.mp c_37)
                        have z_6 : ¬ (r_52 : Int32).toInt = (0 : Int32).toInt := fun z => c_55 (Int32.toInt_inj.mp z)
                        have y_0 : (0 : Int32).toInt = 0 := by decide
                        omega
                      have hr_63 : 48 ≤ (r_46 : Int32).toInt ∧ (r_46 : Int32).toInt ≤ 57 := by
                        have z_1 := Int32.le_iff_toInt_le.mp c_9
                        have z_2 : ¬ ((Tv 4) : Int32).toInt = (0 : Int32).toInt := fun z => c_10 (Int32.toInt_inj.mp z)
                        have z_3 := congrArg Int32.toInt c_17
                        have z_4 : ¬ (r_21 : Int32).toInt = (0 : Int32).toInt := fun z => c_24 (Int32.toInt_inj.mp z)
                        have z_5 := Int32.lt_iff_toInt_lt.mp (Int32.not_le.mp c_37)
                        have z_6 : ¬ (r_52 : Int32).toInt = (0 : Int32).toInt := fun z => c_55 (Int32.toInt_inj.mp z)
                        have y_0 : (0 : Int32).toInt = 0 := by decide
                        omega
                      have hi_64 : (x_59 : Int32).toInt = (vy_30 : Int32).toInt + 1 := by
                        have z_1 := Int32.le_iff_toInt_le.mp c_9
                        have z_2 : ¬ ((Tv 4) : Int32).toInt = (0 : Int32).toInt := fun z => c_10 (Int32.toInt_inj.mp z)
                        have z_3 := congrArg Int32.toInt c_17
                        have z_4 : ¬ (r_21 : Int32).toInt = (0 : Int32).toInt := fun z => c_24 (Int32.toInt_inj.mp z)
                        have z_5 := Int32.lt_iff_toInt_lt.mp (Int32.not_le.mp c_37)
                        have z_6 : ¬ (r_52 : Int32).toInt = (0 : Int32).toInt := fun z => c_55 (Int32.toInt_inj.mp z)
                        have y_0 : (0 : Int32).toInt = 0 := by decide
                        have y_1 : (1 : Int32).toInt = 1 := by decide
                        have t_x_59 : x_59.toInt = (vy_30 : Int32).toInt + (1 : Int32).toInt := by rw [ex_59]; exact add_toInt (by omega) (by omega)
                        omega
                      exact ih_32 x_59 _ _ _ (by omega) ha_61 (Rn.st pf_35 hr_62 he_47.1 (decide_eq_true hr_63) hi_64) (hP.sub [0, 1] rfl) (hD.sub [0, 1] rfl rfl) hS (lv_sub hl [0] rfl)
              exact loop_33 _ vy_2 _ _ _ (Nat.lt_succ_self _) pf_6 (Rn.rf) hP hD hS hl
          · skip
            have loop_69 : ∀ (n_67 : Nat) (vy_66 : Int32) (H : Heap) (locs : List Loc) (ls : Array Slot), (401 - (vy_66 : Int32).toInt).toNat < n_67 → (0 ≤ (vy_66 : Int32).toInt ∧ (vy_66 : Int32).toInt ≤ 400) → (Rn pz_isL (Tf 1) (Tv 0) vy_2 vy_66) → va_P D classes [((Ta 0), .inr (10, [.ref (Ta 1), .int (Tv 0), .int vy_2, .int vy_66, .int (-1), .int (Tv 4)])), ((Ta 1), .inl (tc 0, 400, .inl (Tf 1)))] H → va_D A [((Ta 0), .inr (10, [.ref (Ta 1), .int (Tv 0), .int vy_2, .int vy_66, .int (-1), .int (Tv 4)])), ((Ta 1), .inl (tc 0, 400, .inl (Tf 1)))] → va_S A s.heap H locs → lv_has ls 2 [(0, .ref (Ta 0))] → W p l e ({ frames := 1, cells := 0, slots := 0, locals := 21 }) s m ([.ref (Ta 0)].toArray) below meth c H locs 0 0 (MQ below (QW (fun (v : Option Value) (u : (Int32) × (Int32) × (Int32)) => match u with | (oo0x1, oo0x2, oo0x3) => v = none ∧ (0 ≤ ((Tv 0) : Int32).toInt ∧ ((Tv 0) : Int32).toInt ≤ 400 ∧ 0 ≤ (oo0x1 : Int32).toInt ∧ (oo0x1 : Int32).toInt ≤ 400 ∧ 0 ≤ (oo0x2 : Int32).toInt ∧ (oo0x2 : Int32).toInt ≤ 400) ∧ (TpR (Tf 1) (Tv 0) (rSK (cB (Tf 1) (Tv 0)) rr) oo0x1 oo0x2 oo0x3 (Tv 4))) (BW D (fun (u : (Int32) × (Int32) × (Int32)) => match u with | (oo0x1, oo0x2, oo0x3) => [((Ta 0), .inr (10, [.ref (Ta 1), .int (Tv 0), .int oo0x1, .int oo0x2, .int oo0x3, .int (Tv 4)])), ((Ta 1), .inl (tc 0, 400, .inl (Tf 1)))]) A) A) ([.ref (Ta 0)].toArray) s 0 0 A) (F0 m 86 ls []) := by
              clear hP hD hS hl
              intro n_67
              induction n_67 with
              | zero =>
                intro vy_66 H locs ls h1
                exact absurd h1 (Nat.not_lt_zero _)
              | succ n_67 ih_68 =>
                intro vy_66 H locs ls hn_72 pf_70 pf_71 hP hD hS hl
                refine lv_aload_n hx hb dX10_step_86 rfl (lv_at hl 0 rfl) ?_
                refine gf_X10_22 hx hb hts hown hK hP 0 rfl rfl dX10_step_87 ?_
                refine lv_aload_n hx hb dX10_step_90 rfl (lv_at hl 0 rfl) ?_
                refine gf_X10_15 hx hb hts hown hK hP 0 rfl rfl dX10_step_91 ?_
                refine lv_icmp_ge (tgt := 242) hx hb dX10_step_94 (by decide) (fun c_73 => ?_) (fun c_73 => ?_)
                · skip
                  have ha_74 : 0 ≤ ((Tv 0) : Int32).toInt ∧ ((Tv 0) : Int32).toInt ≤ 400 ∧ 0 ≤ (vy_2 : Int32).toInt ∧ (vy_2 : Int32).toInt ≤ 400 ∧ 0 ≤ (vy_66 : Int32).toInt ∧ (vy_66 : Int32).toInt ≤ 400 := by
                    have z_1 := Int32.le_iff_toInt_le.mp c_9
                    have z_2 : ¬ ((Tv 4) : Int32).toInt = (0 : Int32).toInt := fun z => c_10 (Int32.toInt_inj.mp z)
                    have z_3 : ¬ (r_14 : Int32).toInt = (0 : Int32).toInt := fun z => c_17 (Int32.toInt_inj.mp z)
                    have z_4 := Int32.le_iff_toInt_le.mp c_73
                    have y_0 : (0 : Int32).toInt = 0 := by decide
                    omega
                  have hr_75 : ¬ ((Tv 4) : Int32).toInt = 0 := by
                    have z_1 := Int32.le_iff_toInt_le.mp c_9
                    have z_2 : ¬ ((Tv 4) : Int32).toInt = (0 : Int32).toInt := fun z => c_10 (Int32.toInt_inj.mp z)
                    have z_3 : ¬ (r_14 : Int32).toInt = (0 : Int32).toInt := fun z => c_17 (Int32.toInt_inj.mp z)
                    have z_4 := Int32.le_iff_toInt_le.mp c_73
                    have y_0 : (0 : Int32).toInt = 0 := by decide
                    omega
                  have hr_76 : ((-1) : Int32).toInt = -1 := by
                    have z_1 := Int32.le_iff_toInt_le.mp c_9
                    have z_2 : ¬ ((Tv 4) : Int32).toInt = (0 : Int32).toInt := fun z => c_10 (Int32.toInt_inj.mp z)
                    have z_3 : ¬ (r_14 : Int32).toInt = (0 : Int32).toInt := fun z => c_17 (Int32.toInt_inj.mp z)
                    have z_4 := Int32.le_iff_toInt_le.mp c_73
                    have y_0 : (0 : Int32).toInt = 0 := by decide
                    have y_m1 : (-1 : Int32).toInt = -1 := by decide
                    omega
                  exact retV hx hb hr hlk hP hD hS (vy_2, vy_66, (-1)) ⟨rfl, ha_74, (TpB.er h_tb hr_75 hr_76)⟩ [0, 1] rfl rfl dX10_step_242 (Nat.le_of_ble_eq_true rfl) (Nat.le_of_ble_eq_true rfl) rfl
                · skip
                  refine lv_aload_n hx hb dX10_step_97 rfl (lv_at hl 0 rfl) ?_
                  refine lv_aload_n hx hb dX10_step_98 rfl (lv_at hl 0 rfl) ?_
                  refine gf_X10_22 hx hb hts hown hK hP 0 rfl rfl dX10_step_99 ?_
                  have ha_77 : 0 ≤ ((Tv 0) : Int32).toInt ∧ ((Tv 0) : Int32).toInt ≤ 400 ∧ 0 ≤ (vy_2 : Int32).toInt ∧ (vy_2 : Int32).toInt ≤ 400 ∧ 0 ≤ (vy_66 : Int32).toInt ∧ (vy_66 : Int32).toInt ≤ 400 := by
                    have z_1 := Int32.le_iff_toInt_le.mp c_9
                    have z_2 : ¬ ((Tv 4) : Int32).toInt = (0 : Int32).toInt := fun z => c_10 (Int32.toInt_inj.mp z)
                    have z_3 : ¬ (r_14 : Int32).toInt = (0 : Int32).toInt := fun z => c_17 (Int32.toInt_inj.mp z)
                    have z_4 := Int32.lt_iff_toInt_lt.mp (Int32.not_le.mp c_73)
                    have y_0 : (0 : Int32).toInt = 0 := by decide
                    omega
                  have ha_78 : 0 ≤ vy_66.toInt := by
                    have z_1 := Int32.le_iff_toInt_le.mp c_9
                    have z_2 : ¬ ((Tv 4) : Int32).toInt = (0 : Int32).toInt := fun z => c_10 (Int32.toInt_inj.mp z)
                    have z_3 : ¬ (r_14 : Int32).toInt = (0 : Int32).toInt := fun z => c_17 (Int32.toInt_inj.mp z)
                    have z_4 := Int32.lt_iff_toInt_lt.mp (Int32.not_le.mp c_73)
                    have y_0 : (0 : Int32).toInt = 0 := by decide
                    omega
                  refine cV (a := (Ta 0)) (As := [.int vy_66]) (rest := []) (wr := []) ⟨hx, hb, hml, hown, hts⟩ hK hX hA (cu_fX10_byteAt l D tc sk (Ta 0) (Ta 1) (Tv 0) vy_2 vy_66 (-1) (Tv 4) (Tf 1) vy_66 ha_77 h_by ha_78) k_482 k_479 k_481 k_0 k_96 pl_X10_byteAt ⟨Nat.le_of_ble_eq_true rfl, Nat.le_of_ble_eq_true rfl⟩ rfl rfl (va_recv hK hP (ci := 10) (q0 := 0) rfl rfl) hP hD hS [0, 1] [] rfl rfl rfl rfl rfl (by decide) rfl hl.1 rfl (Nat.le_of_ble_eq_true rfl) dX10_step_102 ⟨Nat.le_of_ble_eq_true rfl, Nat.le_of_ble_eq_true rfl⟩ (fun v_79 u_80 H locs hv_81 hP₀ hD₀ hS₀ => ?_)
                  obtain ⟨r_82, rfl, he_83⟩ := hv_81
                  have he_83 : (r_82.toInt = cB (Tf 1) (Tv 0) vy_66.toInt.toNat ∧ (((Tv 0).toInt ≤ vy_66.toInt ∧ r_82.toInt = -1) ∨ (vy_66.toInt < (Tv 0).toInt ∧ 0 ≤ r_82.toInt ∧ r_82.toInt ≤ 255))) := he_83
                  refine W.eq (g2 := F0 m 105 ls [.int r_82]) rfl ?_
                  replace hP : va_P D classes [((Ta 0), .inr (10, [.ref (Ta 1), .int (Tv 0), .int vy_2, .int vy_66, .int (-1), .int (Tv 4)])), ((Ta 1), .inl (tc 0, 400, .inl (Tf 1)))] H := hP₀
                  replace hD : va_D A [((Ta 0), .inr (10, [.ref (Ta 1), .int (Tv 0), .int vy_2, .int vy_66, .int (-1), .int (Tv 4)])), ((Ta 1), .inl (tc 0, 400, .inl (Tf 1)))] := hD₀
                  replace hS := hS₀
                  clear hP₀ hD₀ hS₀
                  refine cS (As := [.int r_82]) (rest := []) (wr := [((Ta 0), .inr (10, [.ref (Ta 1), .int (Tv 0), .int vy_2, .int vy_66, .int (-1), .int (Tv 4)])), ((Ta 1), .inl (tc 0, 400, .inl (Tf 1)))]) ⟨hx, hb, hml, hown, hts⟩ hK hX hA (ct_fX10_isLetter l D tc sk r_82) k_485 k_483 k_484 k_96 pl_X10_isLetter ⟨Nat.le_of_ble_eq_true rfl, Nat.le_of_ble_eq_true rfl⟩ rfl rfl  hP hD hS [] [0, 1] rfl rfl rfl rfl rfl (by decide) rfl hl.1 rfl (Nat.le_of_ble_eq_true rfl) dX10_step_105 ⟨Nat.le_of_ble_eq_true rfl, Nat.le_of_ble_eq_true rfl⟩ (fun v_85 u_86 H locs hv_87 hP₀ hD₀ hS₀ => ?_)
                  obtain ⟨r_88, rfl, he_89⟩ := hv_87
                  have he_89 : ((r_88.toInt = 1 ∧ 97 ≤ r_82.toInt ∧ r_82.toInt ≤ 122) ∨ (r_88.toInt = 0 ∧ (r_82.toInt < 97 ∨ 122 < r_82.toInt))) := he_89
                  refine W.eq (g2 := F0 m 108 ls [.int r_88]) rfl ?_
                  replace hP : va_P D classes [((Ta 0), .inr (10, [.ref (Ta 1), .int (Tv 0), .int vy_2, .int vy_66, .int (-1), .int (Tv 4)])), ((Ta 1), .inl (tc 0, 400, .inl (Tf 1)))] H := hP₀
                  replace hD : va_D A [((Ta 0), .inr (10, [.ref (Ta 1), .int (Tv 0), .int vy_2, .int vy_66, .int (-1), .int (Tv 4)])), ((Ta 1), .inl (tc 0, 400, .inl (Tf 1)))] := hD₀
                  replace hS := hS₀
                  clear hP₀ hD₀ hS₀
                  refine lv_if_eq (tgt := 242) hx hb dX10_step_108 (by decide) (fun c_91 => ?_) (fun c_91 => ?_)
                  · skip
                    have ha_92 : 0 ≤ ((Tv 0) : Int32).toInt ∧ ((Tv 0) : Int32).toInt ≤ 400 ∧ 0 ≤ (vy_2 : Int32).toInt ∧ (vy_2 : Int32).toInt ≤ 400 ∧ 0 ≤ (vy_66 : Int32).toInt ∧ (vy_66 : Int32).toInt ≤ 400 := by
                      have z_1 := Int32.le_iff_toInt_le.mp c_9
                      have z_2 : ¬ ((Tv 4) : Int32).toInt = (0 : Int32).toInt := fun z => c_10 (Int32.toInt_inj.mp z)
                      have z_3 : ¬ (r_14 : Int32).toInt = (0 : Int32).toInt := fun z => c_17 (Int32.toInt_inj.mp z)
                      have z_4 := Int32.lt_iff_toInt_lt.mp (Int32.not_le.mp c_73)
                      have z_5 := congrArg Int32.toInt c_91
                      have y_0 : (0 : Int32).toInt = 0 := by decide
                      omega
                    have hr_93 : ¬ ((Tv 4) : Int32).toInt = 0 := by
                      have z_1 := Int32.le_iff_toInt_le.mp c_9
                      have z_2 : ¬ ((Tv 4) : Int32).toInt = (0 : Int32).toInt := fun z => c_10 (Int32.toInt_inj.mp z)
                      have z_3 : ¬ (r_14 : Int32).toInt = (0 : Int32).toInt := fun z => c_17 (Int32.toInt_inj.mp z)
                      have z_4 := Int32.lt_iff_toInt_lt.mp (Int32.not_le.mp c_73)
                      have z_5 := congrArg Int32.toInt c_91
                      have y_0 : (0 : Int32).toInt = 0 := by decide
                      omega
                    have hr_94 : ((-1) : Int32).toInt = -1 := by
                      have z_1 := Int32.le_iff_toInt_le.mp c_9
                      have z_2 : ¬ ((Tv 4) : Int32).toInt = (0 : Int32).toInt := fun z => c_10 (Int32.toInt_inj.mp z)
                      have z_3 : ¬ (r_14 : Int32).toInt = (0 : Int32).toInt := fun z => c_17 (Int32.toInt_inj.mp z)
                      have z_4 := Int32.lt_iff_toInt_lt.mp (Int32.not_le.mp c_73)
                      have z_5 := congrArg Int32.toInt c_91
                      have y_0 : (0 : Int32).toInt = 0 := by decide
                      have y_m1 : (-1 : Int32).toInt = -1 := by decide
                      omega
                    exact retV hx hb hr hlk hP hD hS (vy_2, vy_66, (-1)) ⟨rfl, ha_92, (TpB.er h_tb hr_93 hr_94)⟩ [0, 1] rfl rfl dX10_step_242 (Nat.le_of_ble_eq_true rfl) (Nat.le_of_ble_eq_true rfl) rfl
                  · skip
                    refine lv_aload_n hx hb dX10_step_111 rfl (lv_at hl 0 rfl) ?_
                    refine lv_dup hx hb dX10_step_112 rfl ?_
                    refine gf_X10_22 hx hb hts hown hK hP 0 rfl rfl dX10_step_113 ?_
                    refine lv_iconst (v := 1) hx hb dX10_step_116 (by decide) ?_
                    refine lv_iadd hx hb dX10_step_117 ?_
                    refine lv_topi (fun x_95 ex_95 => ?_)
                    refine pf_X10_22 hx hb hts hown hK hP hD hS 0 rfl (Nat.le_of_ble_eq_true rfl) rfl rfl dX10_step_118 (fun H locs hP₀ hD₀ hS₀ => ?_)
                    replace hP : va_P D classes [((Ta 0), .inr (10, [.ref (Ta 1), .int (Tv 0), .int vy_2, .int x_95, .int (-1), .int (Tv 4)])), ((Ta 1), .inl (tc 0, 400, .inl (Tf 1)))] H := hP₀
                    replace hD : va_D A [((Ta 0), .inr (10, [.ref (Ta 1), .int (Tv 0), .int vy_2, .int x_95, .int (-1), .int (Tv 4)])), ((Ta 1), .inl (tc 0, 400, .inl (Tf 1)))] := hD₀
                    replace hS := hS₀
                    clear hP₀ hD₀ hS₀
                    refine lv_goto (tgt := 86) hx hb dX10_step_121 (by decide) ?_
                    have hb_96 : 401 - (x_95 : Int32).toInt < 401 - (vy_66 : Int32).toInt ∧ 1 ≤ 401 - (vy_66 : Int32).toInt := by
                      have z_1 := Int32.le_iff_toInt_le.mp c_9
                      have z_2 : ¬ ((Tv 4) : Int32).toInt = (0 : Int32).toInt := fun z => c_10 (Int32.toInt_inj.mp z)
                      have z_3 : ¬ (r_14 : Int32).toInt = (0 : Int32).toInt := fun z => c_17 (Int32.toInt_inj.mp z)
                      have z_4 := Int32.lt_iff_toInt_lt.mp (Int32.not_le.mp c_73)
                      have z_5 : ¬ (r_88 : Int32).toInt = (0 : Int32).toInt := fun z => c_91 (Int32.toInt_inj.mp z)
                      have y_0 : (0 : Int32).toInt = 0 := by decide
                      have y_1 : (1 : Int32).toInt = 1 := by decide
                      have t_x_95 : x_95.toInt = (vy_66 : Int32).toInt + (1 : Int32).toInt := by rw [ex_95]; exact add_toInt (by omega) (by omega)
                      omega
                    have ha_97 : 0 ≤ (x_95 : Int32).toInt ∧ (x_95 : Int32).toInt ≤ 400 := by
                      have z_1 := Int32.le_iff_toInt_le.mp c_9
                      have z_2 : ¬ ((Tv 4) : Int32).toInt = (0 : Int32).toInt := fun z => c_10 (Int32.toInt_inj.mp z)
                      have z_3 : ¬ (r_14 : Int32).toInt = (0 : Int32).toInt := fun z => c_17 (Int32.toInt_inj.mp z)
                      have z_4 := Int32.lt_iff_toInt_lt.mp (Int32.not_le.mp c_73)
                      have z_5 : ¬ (r_88 : Int32).toInt = (0 : Int32).toInt := fun z => c_91 (Int32.toInt_inj.mp z)
                      have y_0 : (0 : Int32).toInt = 0 := by decide
                      have y_1 : (1 : Int32).toInt = 1 := by decide
                      have t_x_95 : x_95.toInt = (vy_66 : Int32).toInt + (1 : Int32).toInt := by rw [ex_95]; exact add_toInt (by omega) (by omega)
                      omega
                    have hr_98 : 0 ≤ (vy_66 : Int32).toInt := by
                      have z_1 := Int32.le_iff_toInt_le.mp c_9
                      have z_2 : ¬ ((Tv 4) : Int32).toInt = (0 : Int32).toInt := fun z => c_10 (Int32.toInt_inj.mp z)
                      have z_3 : ¬ (r_14 : Int32).toInt = (0 : Int32).toInt := fun z => c_17 (Int32.toInt_inj.mp z)
                      have z_4 := Int32.lt_iff_toInt_lt.mp (Int32.not_le.mp c_73)
                      have z_5 : ¬ (r_88 : Int32).toInt = (0 : Int32).toInt := fun z => c_91 (Int32.toInt_inj.mp z)
                      have y_0 : (0 : Int32).toInt = 0 := by decide
                      omega
                    have hr_99 : 97 ≤ (r_82 : Int32).toInt ∧ (r_82 : Int32).toInt ≤ 122 := by
                      have z_1 := Int32.le_iff_toInt_le.mp c_9
                      have z_2 : ¬ ((Tv 4) : Int32).toInt = (0 : Int32).toInt := fun z => c_10 (Int32.toInt_inj.mp z)
                      have z_3 : ¬ (r_14 : Int32).toInt = (0 : Int32).toInt := fun z => c_17 (Int32.toInt_inj.mp z)
                      have z_4 := Int32.lt_iff_toInt_lt.mp (Int32.not_le.mp c_73)
                      have z_5 : ¬ (r_88 : Int32).toInt = (0 : Int32).toInt := fun z => c_91 (Int32.toInt_inj.mp z)
                      have y_0 : (0 : Int32).toInt = 0 := by decide
                      omega
                    have hi_100 : (x_95 : Int32).toInt = (vy_66 : Int32).toInt + 1 := by
                      have z_1 := Int32.le_iff_toInt_le.mp c_9
                      have z_2 : ¬ ((Tv 4) : Int32).toInt = (0 : Int32).toInt := fun z => c_10 (Int32.toInt_inj.mp z)
                      have z_3 : ¬ (r_14 : Int32).toInt = (0 : Int32).toInt := fun z => c_17 (Int32.toInt_inj.mp z)
                      have z_4 := Int32.lt_iff_toInt_lt.mp (Int32.not_le.mp c_73)
                      have z_5 : ¬ (r_88 : Int32).toInt = (0 : Int32).toInt := fun z => c_91 (Int32.toInt_inj.mp z)
                      have y_0 : (0 : Int32).toInt = 0 := by decide
                      have y_1 : (1 : Int32).toInt = 1 := by decide
                      have t_x_95 : x_95.toInt = (vy_66 : Int32).toInt + (1 : Int32).toInt := by rw [ex_95]; exact add_toInt (by omega) (by omega)
                      omega
                    exact ih_68 x_95 _ _ _ (by omega) ha_97 (Rn.st pf_71 hr_98 he_83.1 (decide_eq_true hr_99) hi_100) (hP.sub [0, 1] rfl) (hD.sub [0, 1] rfl rfl) hS (lv_sub hl [0] rfl)
            exact loop_69 _ vy_2 _ _ _ (Nat.lt_succ_self _) pf_6 (Rn.rf) hP hD hS hl
        · skip
          refine lv_aload_n hx hb dX10_step_61 rfl (lv_at hl 0 rfl) ?_
          refine lv_aload_n hx hb dX10_step_62 rfl (lv_at hl 0 rfl) ?_
          refine gf_X10_19 hx hb hts hown hK hP 0 rfl rfl dX10_step_63 ?_
          have ha_101 : 0 ≤ ((Tv 0) : Int32).toInt ∧ ((Tv 0) : Int32).toInt ≤ 400 ∧ 0 ≤ (vy_2 : Int32).toInt ∧ (vy_2 : Int32).toInt ≤ 400 ∧ 0 ≤ (vy_2 : Int32).toInt ∧ (vy_2 : Int32).toInt ≤ 400 := by
            have z_1 := Int32.le_iff_toInt_le.mp c_9
            have z_2 := congrArg Int32.toInt c_10
            have y_0 : (0 : Int32).toInt = 0 := by decide
            omega
          have ha_102 : 0 ≤ vy_2.toInt := by
            have z_1 := Int32.le_iff_toInt_le.mp c_9
            have z_2 := congrArg Int32.toInt c_10
            have y_0 : (0 : Int32).toInt = 0 := by decide
            omega
          refine cV (a := (Ta 0)) (As := [.int vy_2]) (rest := [.ref (Ta 0)]) (wr := []) ⟨hx, hb, hml, hown, hts⟩ hK hX hA (cu_fX10_byteAt l D tc sk (Ta 0) (Ta 1) (Tv 0) vy_2 vy_2 (Tv 3) (Tv 4) (Tf 1) vy_2 ha_101 h_by ha_102) k_482 k_479 k_481 k_0 k_96 pl_X10_byteAt ⟨Nat.le_of_ble_eq_true rfl, Nat.le_of_ble_eq_true rfl⟩ rfl rfl (va_recv hK hP (ci := 10) (q0 := 0) rfl rfl) hP hD hS [0, 1] [] rfl rfl rfl rfl rfl (by decide) rfl hl.1 rfl (Nat.le_of_ble_eq_true rfl) dX10_step_66 ⟨Nat.le_of_ble_eq_true rfl, Nat.le_of_ble_eq_true rfl⟩ (fun v_103 u_104 H locs hv_105 hP₀ hD₀ hS₀ => ?_)
          obtain ⟨r_106, rfl, he_107⟩ := hv_105
          have he_107 : (r_106.toInt = cB (Tf 1) (Tv 0) vy_2.toInt.toNat ∧ (((Tv 0).toInt ≤ vy_2.toInt ∧ r_106.toInt = -1) ∨ (vy_2.toInt < (Tv 0).toInt ∧ 0 ≤ r_106.toInt ∧ r_106.toInt ≤ 255))) := he_107
          refine W.eq (g2 := F0 m 69 ls [.int r_106, .ref (Ta 0)]) rfl ?_
          replace hP : va_P D classes [((Ta 0), .inr (10, [.ref (Ta 1), .int (Tv 0), .int vy_2, .int vy_2, .int (Tv 3), .int (Tv 4)])), ((Ta 1), .inl (tc 0, 400, .inl (Tf 1)))] H := hP₀
          replace hD : va_D A [((Ta 0), .inr (10, [.ref (Ta 1), .int (Tv 0), .int vy_2, .int vy_2, .int (Tv 3), .int (Tv 4)])), ((Ta 1), .inl (tc 0, 400, .inl (Tf 1)))] := hD₀
          replace hS := hS₀
          clear hP₀ hD₀ hS₀
          refine lv_goto (tgt := 73) hx hb dX10_step_69 (by decide) ?_
          refine pf_X10_25 hx hb hts hown hK hP hD hS 0 rfl (Nat.le_of_ble_eq_true rfl) rfl rfl dX10_step_73 (fun H locs hP₀ hD₀ hS₀ => ?_)
          replace hP : va_P D classes [((Ta 0), .inr (10, [.ref (Ta 1), .int (Tv 0), .int vy_2, .int vy_2, .int r_106, .int (Tv 4)])), ((Ta 1), .inl (tc 0, 400, .inl (Tf 1)))] H := hP₀
          replace hD : va_D A [((Ta 0), .inr (10, [.ref (Ta 1), .int (Tv 0), .int vy_2, .int vy_2, .int r_106, .int (Tv 4)])), ((Ta 1), .inl (tc 0, 400, .inl (Tf 1)))] := hD₀
          replace hS := hS₀
          clear hP₀ hD₀ hS₀
          refine lv_aload_n hx hb dX10_step_76 rfl (lv_at hl 0 rfl) ?_
          refine gf_X10_25 hx hb hts hown hK hP 0 rfl rfl dX10_step_77 ?_
          refine cS (As := [.int r_106]) (rest := []) (wr := [((Ta 0), .inr (10, [.ref (Ta 1), .int (Tv 0), .int vy_2, .int vy_2, .int r_106, .int (Tv 4)])), ((Ta 1), .inl (tc 0, 400, .inl (Tf 1)))]) ⟨hx, hb, hml, hown, hts⟩ hK hX hA (ct_fX10_isLetter l D tc sk r_106) k_485 k_483 k_484 k_96 pl_X10_isLetter ⟨Nat.le_of_ble_eq_true rfl, Nat.le_of_ble_eq_true rfl⟩ rfl rfl  hP hD hS [] [0, 1] rfl rfl rfl rfl rfl (by decide) rfl hl.1 rfl (Nat.le_of_ble_eq_true rfl) dX10_step_80 ⟨Nat.le_of_ble_eq_true rfl, Nat.le_of_ble_eq_true rfl⟩ (fun v_109 u_110 H locs hv_111 hP₀ hD₀ hS₀ => ?_)
          obtain ⟨r_112, rfl, he_113⟩ := hv_111
          have he_113 : ((r_112.toInt = 1 ∧ 97 ≤ r_106.toInt ∧ r_106.toInt ≤ 122) ∨ (r_112.toInt = 0 ∧ (r_106.toInt < 97 ∨ 122 < r_106.toInt))) := he_113
          refine W.eq (g2 := F0 m 83 ls [.int r_112]) rfl ?_
          replace hP : va_P D classes [((Ta 0), .inr (10, [.ref (Ta 1), .int (Tv 0), .int vy_2, .int vy_2, .int r_106, .int (Tv 4)])), ((Ta 1), .inl (tc 0, 400, .inl (Tf 1)))] H := hP₀
          replace hD : va_D A [((Ta 0), .inr (10, [.ref (Ta 1), .int (Tv 0), .int vy_2, .int vy_2, .int r_106, .int (Tv 4)])), ((Ta 1), .inl (tc 0, 400, .inl (Tf 1)))] := hD₀
          replace hS := hS₀
          clear hP₀ hD₀ hS₀
          refine lv_if_eq (tgt := 124) hx hb dX10_step_83 (by decide) (fun c_115 => ?_) (fun c_115 => ?_)
          · skip
            refine lv_aload_n hx hb dX10_step_124 rfl (lv_at hl 0 rfl) ?_
            refine gf_X10_25 hx hb hts hown hK hP 0 rfl rfl dX10_step_125 ?_
            refine cS (As := [.int r_106]) (rest := []) (wr := [((Ta 0), .inr (10, [.ref (Ta 1), .int (Tv 0), .int vy_2, .int vy_2, .int r_106, .int (Tv 4)])), ((Ta 1), .inl (tc 0, 400, .inl (Tf 1)))]) ⟨hx, hb, hml, hown, hts⟩ hK hX hA (ct_fX10_isDigit l D tc sk r_106) k_488 k_486 k_487 k_96 pl_X10_isDigit ⟨Nat.le_of_ble_eq_true rfl, Nat.le_of_ble_eq_true rfl⟩ rfl rfl  hP hD hS [] [0, 1] rfl rfl rfl rfl rfl (by decide) rfl hl.1 rfl (Nat.le_of_ble_eq_true rfl) dX10_step_128 ⟨Nat.le_of_ble_eq_true rfl, Nat.le_of_ble_eq_true rfl⟩ (fun v_116 u_117 H locs hv_118 hP₀ hD₀ hS₀ => ?_)
            obtain ⟨r_119, rfl, he_120⟩ := hv_118
            have he_120 : ((r_119.toInt = 1 ∧ 48 ≤ r_106.toInt ∧ r_106.toInt ≤ 57) ∨ (r_119.toInt = 0 ∧ (r_106.toInt < 48 ∨ 57 < r_106.toInt))) := he_120
            refine W.eq (g2 := F0 m 131 ls [.int r_119]) rfl ?_
            replace hP : va_P D classes [((Ta 0), .inr (10, [.ref (Ta 1), .int (Tv 0), .int vy_2, .int vy_2, .int r_106, .int (Tv 4)])), ((Ta 1), .inl (tc 0, 400, .inl (Tf 1)))] H := hP₀
            replace hD : va_D A [((Ta 0), .inr (10, [.ref (Ta 1), .int (Tv 0), .int vy_2, .int vy_2, .int r_106, .int (Tv 4)])), ((Ta 1), .inl (tc 0, 400, .inl (Tf 1)))] := hD₀
            replace hS := hS₀
            clear hP₀ hD₀ hS₀
            refine lv_if_eq (tgt := 172) hx hb dX10_step_131 (by decide) (fun c_122 => ?_) (fun c_122 => ?_)
            · skip
              refine lv_aload_n hx hb dX10_step_172 rfl (lv_at hl 0 rfl) ?_
              refine gf_X10_25 hx hb hts hown hK hP 0 rfl rfl dX10_step_173 ?_
              refine lv_iconst (v := (-1)) hx hb dX10_step_176 (by decide) ?_
              refine lv_icmp_eq (tgt := 242) hx hb dX10_step_177 (by decide) (fun c_123 => ?_) (fun c_123 => ?_)
              · skip
                have ha_124 : 0 ≤ ((Tv 0) : Int32).toInt ∧ ((Tv 0) : Int32).toInt ≤ 400 ∧ 0 ≤ (vy_2 : Int32).toInt ∧ (vy_2 : Int32).toInt ≤ 400 ∧ 0 ≤ (vy_2 : Int32).toInt ∧ (vy_2 : Int32).toInt ≤ 400 := by
                  have z_1 := Int32.le_iff_toInt_le.mp c_9
                  have z_2 := congrArg Int32.toInt c_10
                  have z_3 := congrArg Int32.toInt c_115
                  have z_4 := congrArg Int32.toInt c_122
                  have z_5 := congrArg Int32.toInt c_123
                  have y_m1 : (-1 : Int32).toInt = -1 := by decide
                  have y_0 : (0 : Int32).toInt = 0 := by decide
                  omega
                have rg_125 := cB_rg (n := (Tv 0)) h_by (vy_2 : Int32).toInt.toNat
                have h2_126 : ¬ cB (Tf 1) (Tv 0) (vy_2 : Int32).toInt.toNat = 32 := by
                  have z_1 := Int32.le_iff_toInt_le.mp c_9
                  have z_2 := congrArg Int32.toInt c_10
                  have z_3 := congrArg Int32.toInt c_115
                  have z_4 := congrArg Int32.toInt c_122
                  have z_5 := congrArg Int32.toInt c_123
                  have y_m1 : (-1 : Int32).toInt = -1 := by decide
                  have y_0 : (0 : Int32).toInt = 0 := by decide
                  omega
                have hr_127 : 0 ≤ (vy_2 : Int32).toInt := by
                  have z_1 := Int32.le_iff_toInt_le.mp c_9
                  have z_2 := congrArg Int32.toInt c_10
                  have z_3 := congrArg Int32.toInt c_115
                  have z_4 := congrArg Int32.toInt c_122
                  have z_5 := congrArg Int32.toInt c_123
                  have y_m1 : (-1 : Int32).toInt = -1 := by decide
                  have y_0 : (0 : Int32).toInt = 0 := by decide
                  omega
                have hr_128 : (r_106 : Int32).toInt = -1 := by
                  have z_1 := Int32.le_iff_toInt_le.mp c_9
                  have z_2 := congrArg Int32.toInt c_10
                  have z_3 := congrArg Int32.toInt c_115
                  have z_4 := congrArg Int32.toInt c_122
                  have z_5 := congrArg Int32.toInt c_123
                  have y_m1 : (-1 : Int32).toInt = -1 := by decide
                  have y_0 : (0 : Int32).toInt = 0 := by decide
                  omega
                have hr_129 : ((Tv 4) : Int32).toInt = 0 := by
                  have z_1 := Int32.le_iff_toInt_le.mp c_9
                  have z_2 := congrArg Int32.toInt c_10
                  have z_3 := congrArg Int32.toInt c_115
                  have z_4 := congrArg Int32.toInt c_122
                  have z_5 := congrArg Int32.toInt c_123
                  have y_m1 : (-1 : Int32).toInt = -1 := by decide
                  have y_0 : (0 : Int32).toInt = 0 := by decide
                  omega
                have hr_130 : (vy_2 : Int32).toInt ≤ 400 := by
                  have z_1 := Int32.le_iff_toInt_le.mp c_9
                  have z_2 := congrArg Int32.toInt c_10
                  have z_3 := congrArg Int32.toInt c_115
                  have z_4 := congrArg Int32.toInt c_122
                  have z_5 := congrArg Int32.toInt c_123
                  have y_m1 : (-1 : Int32).toInt = -1 := by decide
                  have y_0 : (0 : Int32).toInt = 0 := by decide
                  omega
                exact retV hx hb hr hlk hP hD hS (vy_2, vy_2, r_106) ⟨rfl, ha_124, (TpB.at h_tb hr_129 h_tape.2.2.2.2.1 pf_7 hr_130 h2_126 (te_0 hr_127 he_107.1 hr_128) he_107.1)⟩ [0, 1] rfl rfl dX10_step_242 (Nat.le_of_ble_eq_true rfl) (Nat.le_of_ble_eq_true rfl) rfl
              · skip
                refine lv_aload_n hx hb dX10_step_180 rfl (lv_at hl 0 rfl) ?_
                refine gf_X10_25 hx hb hts hown hK hP 0 rfl rfl dX10_step_181 ?_
                refine lv_bipush (v := 60) hx hb dX10_step_184 (by decide) ?_
                refine lv_icmp_eq (tgt := 198) hx hb dX10_step_186 (by decide) (fun c_131 => ?_) (fun c_131 => ?_)
                · skip
                  refine lv_iconst (v := 1) hx hb dX10_step_198 (by decide) ?_
                  refine lv_goto (tgt := 203) hx hb dX10_step_199 (by decide) ?_
                  refine lv_istore_n (lv' := [(1, .int 1), (0, .ref (Ta 0))]) hx hb dX10_step_203 rfl hl (by decide) rfl (fun ls hl₀ => ?_)
                  replace hl := hl₀
                  clear hl₀
                  refine lv_aload_n hx hb dX10_step_204 rfl (lv_at hl 1 rfl) ?_
                  refine lv_iload_n hx hb dX10_step_205 rfl (lv_at hl 0 rfl) ?_
                  refine lv_if_eq (tgt := 233) hx hb dX10_step_206 (by decide) (fun c_132 => absurd c_132 (by decide)) (fun c_132 => ?_)
                  refine lv_aload_n hx hb dX10_step_209 rfl (lv_at hl 1 rfl) ?_
                  refine lv_aload_n hx hb dX10_step_210 rfl (lv_at hl 1 rfl) ?_
                  refine gf_X10_19 hx hb hts hown hK hP 0 rfl rfl dX10_step_211 ?_
                  refine lv_iconst (v := 1) hx hb dX10_step_214 (by decide) ?_
                  refine lv_iadd hx hb dX10_step_215 ?_
                  refine lv_topi (fun x_133 ex_133 => ?_)
                  have ha_134 : 0 ≤ ((Tv 0) : Int32).toInt ∧ ((Tv 0) : Int32).toInt ≤ 400 ∧ 0 ≤ (vy_2 : Int32).toInt ∧ (vy_2 : Int32).toInt ≤ 400 ∧ 0 ≤ (vy_2 : Int32).toInt ∧ (vy_2 : Int32).toInt ≤ 400 := by
                    have z_1 := Int32.le_iff_toInt_le.mp c_9
                    have z_2 := congrArg Int32.toInt c_10
                    have z_3 := congrArg Int32.toInt c_115
                    have z_4 := congrArg Int32.toInt c_122
                    have z_5 : ¬ (r_106 : Int32).toInt = ((-1) : Int32).toInt := fun z => c_123 (Int32.toInt_inj.mp z)
                    have z_6 := congrArg Int32.toInt c_131
                    have y_m1 : (-1 : Int32).toInt = -1 := by decide
                    have y_0 : (0 : Int32).toInt = 0 := by decide
                    have y_60 : (60 : Int32).toInt = 60 := by decide
                    have y_1 : (1 : Int32).toInt = 1 := by decide
                    have t_x_133 : x_133.toInt = (vy_2 : Int32).toInt + (1 : Int32).toInt := by rw [ex_133]; exact add_toInt (by omega) (by omega)
                    omega
                  have ha_135 : 0 ≤ x_133.toInt := by
                    have z_1 := Int32.le_iff_toInt_le.mp c_9
                    have z_2 := congrArg Int32.toInt c_10
                    have z_3 := congrArg Int32.toInt c_115
                    have z_4 := congrArg Int32.toInt c_122
                    have z_5 : ¬ (r_106 : Int32).toInt = ((-1) : Int32).toInt := fun z => c_123 (Int32.toInt_inj.mp z)
                    have z_6 := congrArg Int32.toInt c_131
                    have y_m1 : (-1 : Int32).toInt = -1 := by decide
                    have y_0 : (0 : Int32).toInt = 0 := by decide
                    have y_60 : (60 : Int32).toInt = 60 := by decide
                    have y_1 : (1 : Int32).toInt = 1 := by decide
                    have t_x_133 : x_133.toInt = (vy_2 : Int32).toInt + (1 : Int32).toInt := by rw [ex_133]; exact add_toInt (by omega) (by omega)
                    omega
                  refine cV (a := (Ta 0)) (As := [.int x_133]) (rest := [.ref (Ta 0)]) (wr := []) ⟨hx, hb, hml, hown, hts⟩ hK hX hA (cu_fX10_byteAt l D tc sk (Ta 0) (Ta 1) (Tv 0) vy_2 vy_2 r_106 (Tv 4) (Tf 1) x_133 ha_134 h_by ha_135) k_482 k_479 k_481 k_0 k_96 pl_X10_byteAt ⟨Nat.le_of_ble_eq_true rfl, Nat.le_of_ble_eq_true rfl⟩ rfl rfl (va_recv hK hP (ci := 10) (q0 := 0) rfl rfl) hP hD hS [0, 1] [] rfl rfl rfl rfl rfl (by decide) rfl hl.1 rfl (Nat.le_of_ble_eq_true rfl) dX10_step_216 ⟨Nat.le_of_ble_eq_true rfl, Nat.le_of_ble_eq_true rfl⟩ (fun v_136 u_137 H locs hv_138 hP₀ hD₀ hS₀ => ?_)
                  obtain ⟨r_139, rfl, he_140⟩ := hv_138
                  have he_140 : (r_139.toInt = cB (Tf 1) (Tv 0) x_133.toInt.toNat ∧ (((Tv 0).toInt ≤ x_133.toInt ∧ r_139.toInt = -1) ∨ (x_133.toInt < (Tv 0).toInt ∧ 0 ≤ r_139.toInt ∧ r_139.toInt ≤ 255))) := he_140
                  refine W.eq (g2 := F0 m 219 ls [.int r_139, .ref (Ta 0)]) rfl ?_
                  replace hP : va_P D classes [((Ta 0), .inr (10, [.ref (Ta 1), .int (Tv 0), .int vy_2, .int vy_2, .int r_106, .int (Tv 4)])), ((Ta 1), .inl (tc 0, 400, .inl (Tf 1)))] H := hP₀
                  replace hD : va_D A [((Ta 0), .inr (10, [.ref (Ta 1), .int (Tv 0), .int vy_2, .int vy_2, .int r_106, .int (Tv 4)])), ((Ta 1), .inl (tc 0, 400, .inl (Tf 1)))] := hD₀
                  replace hS := hS₀
                  clear hP₀ hD₀ hS₀
                  refine lv_bipush (v := 61) hx hb dX10_step_219 (by decide) ?_
                  refine lv_icmp_ne (tgt := 233) hx hb dX10_step_221 (by decide) (fun c_142 => ?_) (fun c_142 => ?_)
                  · skip
                    refine lv_aload_n hx hb dX10_step_233 rfl (lv_at hl 1 rfl) ?_
                    refine gf_X10_19 hx hb hts hown hK hP 0 rfl rfl dX10_step_234 ?_
                    refine lv_iconst (v := 1) hx hb dX10_step_237 (by decide) ?_
                    refine lv_iadd hx hb dX10_step_238 ?_
                    refine lv_topi (fun x_143 ex_143 => ?_)
                    refine pf_X10_22 hx hb hts hown hK hP hD hS 0 rfl (Nat.le_of_ble_eq_true rfl) rfl rfl dX10_step_239 (fun H locs hP₀ hD₀ hS₀ => ?_)
                    replace hP : va_P D classes [((Ta 0), .inr (10, [.ref (Ta 1), .int (Tv 0), .int vy_2, .int x_143, .int r_106, .int (Tv 4)])), ((Ta 1), .inl (tc 0, 400, .inl (Tf 1)))] H := hP₀
                    replace hD : va_D A [((Ta 0), .inr (10, [.ref (Ta 1), .int (Tv 0), .int vy_2, .int x_143, .int r_106, .int (Tv 4)])), ((Ta 1), .inl (tc 0, 400, .inl (Tf 1)))] := hD₀
                    replace hS := hS₀
                    clear hP₀ hD₀ hS₀
                    have ha_144 : 0 ≤ ((Tv 0) : Int32).toInt ∧ ((Tv 0) : Int32).toInt ≤ 400 ∧ 0 ≤ (vy_2 : Int32).toInt ∧ (vy_2 : Int32).toInt ≤ 400 ∧ 0 ≤ (x_143 : Int32).toInt ∧ (x_143 : Int32).toInt ≤ 400 := by
                      have z_1 := Int32.le_iff_toInt_le.mp c_9
                      have z_2 := congrArg Int32.toInt c_10
                      have z_3 := congrArg Int32.toInt c_115
                      have z_4 := congrArg Int32.toInt c_122
                      have z_5 : ¬ (r_106 : Int32).toInt = ((-1) : Int32).toInt := fun z => c_123 (Int32.toInt_inj.mp z)
                      have z_6 := congrArg Int32.toInt c_131
                      have z_7 : ¬ (r_139 : Int32).toInt = (61 : Int32).toInt := fun z => c_142 (Int32.toInt_inj.mp z)
                      have y_m1 : (-1 : Int32).toInt = -1 := by decide
                      have y_0 : (0 : Int32).toInt = 0 := by decide
                      have y_60 : (60 : Int32).toInt = 60 := by decide
                      have y_61 : (61 : Int32).toInt = 61 := by decide
                      have y_1 : (1 : Int32).toInt = 1 := by decide
                      have t_x_143 : x_143.toInt = (vy_2 : Int32).toInt + (1 : Int32).toInt := by rw [ex_143]; exact add_toInt (by omega) (by omega)
                      have t_x_133 : x_133.toInt = (vy_2 : Int32).toInt + (1 : Int32).toInt := by rw [ex_133]; exact add_toInt (by omega) (by omega)
                      omega
                    have rg_145 := cB_rg (n := (Tv 0)) h_by (vy_2 : Int32).toInt.toNat
                    have h2_146 : ¬ cB (Tf 1) (Tv 0) (vy_2 : Int32).toInt.toNat = 32 := by
                      have z_1 := Int32.le_iff_toInt_le.mp c_9
                      have z_2 := congrArg Int32.toInt c_10
                      have z_3 := congrArg Int32.toInt c_115
                      have z_4 := congrArg Int32.toInt c_122
                      have z_5 : ¬ (r_106 : Int32).toInt = ((-1) : Int32).toInt := fun z => c_123 (Int32.toInt_inj.mp z)
                      have z_6 := congrArg Int32.toInt c_131
                      have z_7 : ¬ (r_139 : Int32).toInt = (61 : Int32).toInt := fun z => c_142 (Int32.toInt_inj.mp z)
                      have y_m1 : (-1 : Int32).toInt = -1 := by decide
                      have y_0 : (0 : Int32).toInt = 0 := by decide
                      have y_60 : (60 : Int32).toInt = 60 := by decide
                      have y_61 : (61 : Int32).toInt = 61 := by decide
                      have y_1 : (1 : Int32).toInt = 1 := by decide
                      have t_x_133 : x_133.toInt = (vy_2 : Int32).toInt + (1 : Int32).toInt := by rw [ex_133]; exact add_toInt (by omega) (by omega)
                      omega
                    have hr_147 : 0 ≤ (vy_2 : Int32).toInt := by
                      have z_1 := Int32.le_iff_toInt_le.mp c_9
                      have z_2 := congrArg Int32.toInt c_10
                      have z_3 := congrArg Int32.toInt c_115
                      have z_4 := congrArg Int32.toInt c_122
                      have z_5 : ¬ (r_106 : Int32).toInt = ((-1) : Int32).toInt := fun z => c_123 (Int32.toInt_inj.mp z)
                      have z_6 := congrArg Int32.toInt c_131
                      have z_7 : ¬ (r_139 : Int32).toInt = (61 : Int32).toInt := fun z => c_142 (Int32.toInt_inj.mp z)
                      have y_m1 : (-1 : Int32).toInt = -1 := by decide
                      have y_0 : (0 : Int32).toInt = 0 := by decide
                      have y_60 : (60 : Int32).toInt = 60 := by decide
                      have y_61 : (61 : Int32).toInt = 61 := by decide
                      have y_1 : (1 : Int32).toInt = 1 := by decide
                      have t_x_133 : x_133.toInt = (vy_2 : Int32).toInt + (1 : Int32).toInt := by rw [ex_133]; exact add_toInt (by omega) (by omega)
                      omega
                    have hi_148 : (x_143 : Int32).toInt = (vy_2 : Int32).toInt + 1 := by
                      have z_1 := Int32.le_iff_toInt_le.mp c_9
                      have z_2 := congrArg Int32.toInt c_10
                      have z_3 := congrArg Int32.toInt c_115
                      have z_4 := congrArg Int32.toInt c_122
                      have z_5 : ¬ (r_106 : Int32).toInt = ((-1) : Int32).toInt := fun z => c_123 (Int32.toInt_inj.mp z)
                      have z_6 := congrArg Int32.toInt c_131
                      have z_7 : ¬ (r_139 : Int32).toInt = (61 : Int32).toInt := fun z => c_142 (Int32.toInt_inj.mp z)
                      have y_m1 : (-1 : Int32).toInt = -1 := by decide
                      have y_0 : (0 : Int32).toInt = 0 := by decide
                      have y_60 : (60 : Int32).toInt = 60 := by decide
                      have y_61 : (61 : Int32).toInt = 61 := by decide
                      have y_1 : (1 : Int32).toInt = 1 := by decide
                      have t_x_143 : x_143.toInt = (vy_2 : Int32).toInt + (1 : Int32).toInt := by rw [ex_143]; exact add_toInt (by omega) (by omega)
                      have t_x_133 : x_133.toInt = (vy_2 : Int32).toInt + (1 : Int32).toInt := by rw [ex_133]; exact add_toInt (by omega) (by omega)
                      omega
                    have hx_149 : (x_133 : Int32).toInt.toNat = (vy_2 : Int32).toInt.toNat + 1 := by
                      have z_1 := Int32.le_iff_toInt_le.mp c_9
                      have z_2 := congrArg Int32.toInt c_10
                      have z_3 := congrArg Int32.toInt c_115
                      have z_4 := congrArg Int32.toInt c_122
                      have z_5 : ¬ (r_106 : Int32).toInt = ((-1) : Int32).toInt := fun z => c_123 (Int32.toInt_inj.mp z)
                      have z_6 := congrArg Int32.toInt c_131
                      have z_7 : ¬ (r_139 : Int32).toInt = (61 : Int32).toInt := fun z => c_142 (Int32.toInt_inj.mp z)
                      have y_m1 : (-1 : Int32).toInt = -1 := by decide
                      have y_0 : (0 : Int32).toInt = 0 := by decide
                      have y_60 : (60 : Int32).toInt = 60 := by decide
                      have y_61 : (61 : Int32).toInt = 61 := by decide
                      have y_1 : (1 : Int32).toInt = 1 := by decide
                      have t_x_133 : x_133.toInt = (vy_2 : Int32).toInt + (1 : Int32).toInt := by rw [ex_133]; exact add_toInt (by omega) (by omega)
                      omega
                    rw [hx_149] at he_140
                    have h2_150 : ¬ (((r_106 : Int32).toInt = 60 ∨ (r_106 : Int32).toInt = 62) ∧ cB (Tf 1) (Tv 0) ((vy_2 : Int32).toInt.toNat + 1) = 61) := by
                      have z_1 := Int32.le_iff_toInt_le.mp c_9
                      have z_2 := congrArg Int32.toInt c_10
                      have z_3 := congrArg Int32.toInt c_115
                      have z_4 := congrArg Int32.toInt c_122
                      have z_5 : ¬ (r_106 : Int32).toInt = ((-1) : Int32).toInt := fun z => c_123 (Int32.toInt_inj.mp z)
                      have z_6 := congrArg Int32.toInt c_131
                      have z_7 : ¬ (r_139 : Int32).toInt = (61 : Int32).toInt := fun z => c_142 (Int32.toInt_inj.mp z)
                      have y_m1 : (-1 : Int32).toInt = -1 := by decide
                      have y_0 : (0 : Int32).toInt = 0 := by decide
                      have y_60 : (60 : Int32).toInt = 60 := by decide
                      have y_61 : (61 : Int32).toInt = 61 := by decide
                      have y_1 : (1 : Int32).toInt = 1 := by decide
                      have t_x_133 : x_133.toInt = (vy_2 : Int32).toInt + (1 : Int32).toInt := by rw [ex_133]; exact add_toInt (by omega) (by omega)
                      omega
                    have hr_151 : ¬ (97 ≤ (r_106 : Int32).toInt ∧ (r_106 : Int32).toInt ≤ 122) := by
                      have z_1 := Int32.le_iff_toInt_le.mp c_9
                      have z_2 := congrArg Int32.toInt c_10
                      have z_3 := congrArg Int32.toInt c_115
                      have z_4 := congrArg Int32.toInt c_122
                      have z_5 : ¬ (r_106 : Int32).toInt = ((-1) : Int32).toInt := fun z => c_123 (Int32.toInt_inj.mp z)
                      have z_6 := congrArg Int32.toInt c_131
                      have z_7 : ¬ (r_139 : Int32).toInt = (61 : Int32).toInt := fun z => c_142 (Int32.toInt_inj.mp z)
                      have y_m1 : (-1 : Int32).toInt = -1 := by decide
                      have y_0 : (0 : Int32).toInt = 0 := by decide
                      have y_60 : (60 : Int32).toInt = 60 := by decide
                      have y_61 : (61 : Int32).toInt = 61 := by decide
                      have y_1 : (1 : Int32).toInt = 1 := by decide
                      have t_x_133 : x_133.toInt = (vy_2 : Int32).toInt + (1 : Int32).toInt := by rw [ex_133]; exact add_toInt (by omega) (by omega)
                      omega
                    have hr_152 : ¬ (48 ≤ (r_106 : Int32).toInt ∧ (r_106 : Int32).toInt ≤ 57) := by
                      have z_1 := Int32.le_iff_toInt_le.mp c_9
                      have z_2 := congrArg Int32.toInt c_10
                      have z_3 := congrArg Int32.toInt c_115
                      have z_4 := congrArg Int32.toInt c_122
                      have z_5 : ¬ (r_106 : Int32).toInt = ((-1) : Int32).toInt := fun z => c_123 (Int32.toInt_inj.mp z)
                      have z_6 := congrArg Int32.toInt c_131
                      have z_7 : ¬ (r_139 : Int32).toInt = (61 : Int32).toInt := fun z => c_142 (Int32.toInt_inj.mp z)
                      have y_m1 : (-1 : Int32).toInt = -1 := by decide
                      have y_0 : (0 : Int32).toInt = 0 := by decide
                      have y_60 : (60 : Int32).toInt = 60 := by decide
                      have y_61 : (61 : Int32).toInt = 61 := by decide
                      have y_1 : (1 : Int32).toInt = 1 := by decide
                      have t_x_133 : x_133.toInt = (vy_2 : Int32).toInt + (1 : Int32).toInt := by rw [ex_133]; exact add_toInt (by omega) (by omega)
                      omega
                    have hr_153 : ¬ (r_106 : Int32).toInt = -1 := by
                      have z_1 := Int32.le_iff_toInt_le.mp c_9
                      have z_2 := congrArg Int32.toInt c_10
                      have z_3 := congrArg Int32.toInt c_115
                      have z_4 := congrArg Int32.toInt c_122
                      have z_5 : ¬ (r_106 : Int32).toInt = ((-1) : Int32).toInt := fun z => c_123 (Int32.toInt_inj.mp z)
                      have z_6 := congrArg Int32.toInt c_131
                      have z_7 : ¬ (r_139 : Int32).toInt = (61 : Int32).toInt := fun z => c_142 (Int32.toInt_inj.mp z)
                      have y_m1 : (-1 : Int32).toInt = -1 := by decide
                      have y_0 : (0 : Int32).toInt = 0 := by decide
                      have y_60 : (60 : Int32).toInt = 60 := by decide
                      have y_61 : (61 : Int32).toInt = 61 := by decide
                      have y_1 : (1 : Int32).toInt = 1 := by decide
                      have t_x_133 : x_133.toInt = (vy_2 : Int32).toInt + (1 : Int32).toInt := by rw [ex_133]; exact add_toInt (by omega) (by omega)
                      omega
                    have hr_154 : ((Tv 4) : Int32).toInt = 0 := by
                      have z_1 := Int32.le_iff_toInt_le.mp c_9
                      have z_2 := congrArg Int32.toInt c_10
                      have z_3 := congrArg Int32.toInt c_115
                      have z_4 := congrArg Int32.toInt c_122
                      have z_5 : ¬ (r_106 : Int32).toInt = ((-1) : Int32).toInt := fun z => c_123 (Int32.toInt_inj.mp z)
                      have z_6 := congrArg Int32.toInt c_131
                      have z_7 : ¬ (r_139 : Int32).toInt = (61 : Int32).toInt := fun z => c_142 (Int32.toInt_inj.mp z)
                      have y_m1 : (-1 : Int32).toInt = -1 := by decide
                      have y_0 : (0 : Int32).toInt = 0 := by decide
                      have y_60 : (60 : Int32).toInt = 60 := by decide
                      have y_61 : (61 : Int32).toInt = 61 := by decide
                      have y_1 : (1 : Int32).toInt = 1 := by decide
                      have t_x_133 : x_133.toInt = (vy_2 : Int32).toInt + (1 : Int32).toInt := by rw [ex_133]; exact add_toInt (by omega) (by omega)
                      omega
                    have hr_155 : (vy_2 : Int32).toInt ≤ 400 := by
                      have z_1 := Int32.le_iff_toInt_le.mp c_9
                      have z_2 := congrArg Int32.toInt c_10
                      have z_3 := congrArg Int32.toInt c_115
                      have z_4 := congrArg Int32.toInt c_122
                      have z_5 : ¬ (r_106 : Int32).toInt = ((-1) : Int32).toInt := fun z => c_123 (Int32.toInt_inj.mp z)
                      have z_6 := congrArg Int32.toInt c_131
                      have z_7 : ¬ (r_139 : Int32).toInt = (61 : Int32).toInt := fun z => c_142 (Int32.toInt_inj.mp z)
                      have y_m1 : (-1 : Int32).toInt = -1 := by decide
                      have y_0 : (0 : Int32).toInt = 0 := by decide
                      have y_60 : (60 : Int32).toInt = 60 := by decide
                      have y_61 : (61 : Int32).toInt = 61 := by decide
                      have y_1 : (1 : Int32).toInt = 1 := by decide
                      have t_x_133 : x_133.toInt = (vy_2 : Int32).toInt + (1 : Int32).toInt := by rw [ex_133]; exact add_toInt (by omega) (by omega)
                      omega
                    exact retV hx hb hr hlk hP hD hS (vy_2, x_143, r_106) ⟨rfl, ha_144, (TpB.at h_tb hr_154 h_tape.2.2.2.2.1 pf_7 hr_155 h2_146 (te_1 hr_147 he_107.1 hr_151 hr_152 hr_153 h2_150 hi_148) he_107.1)⟩ [0, 1] rfl rfl dX10_step_242 (Nat.le_of_ble_eq_true rfl) (Nat.le_of_ble_eq_true rfl) rfl
                  · skip
                    refine lv_aload_n hx hb dX10_step_224 rfl (lv_at hl 1 rfl) ?_
                    refine gf_X10_19 hx hb hts hown hK hP 0 rfl rfl dX10_step_225 ?_
                    refine lv_iconst (v := 2) hx hb dX10_step_228 (by decide) ?_
                    refine lv_iadd hx hb dX10_step_229 ?_
                    refine lv_topi (fun x_156 ex_156 => ?_)
                    refine lv_goto (tgt := 239) hx hb dX10_step_230 (by decide) ?_
                    refine pf_X10_22 hx hb hts hown hK hP hD hS 0 rfl (Nat.le_of_ble_eq_true rfl) rfl rfl dX10_step_239 (fun H locs hP₀ hD₀ hS₀ => ?_)
                    replace hP : va_P D classes [((Ta 0), .inr (10, [.ref (Ta 1), .int (Tv 0), .int vy_2, .int x_156, .int r_106, .int (Tv 4)])), ((Ta 1), .inl (tc 0, 400, .inl (Tf 1)))] H := hP₀
                    replace hD : va_D A [((Ta 0), .inr (10, [.ref (Ta 1), .int (Tv 0), .int vy_2, .int x_156, .int r_106, .int (Tv 4)])), ((Ta 1), .inl (tc 0, 400, .inl (Tf 1)))] := hD₀
                    replace hS := hS₀
                    clear hP₀ hD₀ hS₀
                    have ha_157 : 0 ≤ ((Tv 0) : Int32).toInt ∧ ((Tv 0) : Int32).toInt ≤ 400 ∧ 0 ≤ (vy_2 : Int32).toInt ∧ (vy_2 : Int32).toInt ≤ 400 ∧ 0 ≤ (x_156 : Int32).toInt ∧ (x_156 : Int32).toInt ≤ 400 := by
                      have z_1 := Int32.le_iff_toInt_le.mp c_9
                      have z_2 := congrArg Int32.toInt c_10
                      have z_3 := congrArg Int32.toInt c_115
                      have z_4 := congrArg Int32.toInt c_122
                      have z_5 : ¬ (r_106 : Int32).toInt = ((-1) : Int32).toInt := fun z => c_123 (Int32.toInt_inj.mp z)
                      have z_6 := congrArg Int32.toInt c_131
                      have z_7 := congrArg Int32.toInt c_142
                      have y_m1 : (-1 : Int32).toInt = -1 := by decide
                      have y_0 : (0 : Int32).toInt = 0 := by decide
                      have y_60 : (60 : Int32).toInt = 60 := by decide
                      have y_61 : (61 : Int32).toInt = 61 := by decide
                      have y_1 : (1 : Int32).toInt = 1 := by decide
                      have y_2 : (2 : Int32).toInt = 2 := by decide
                      have t_x_156 : x_156.toInt = (vy_2 : Int32).toInt + (2 : Int32).toInt := by rw [ex_156]; exact add_toInt (by omega) (by omega)
                      have t_x_133 : x_133.toInt = (vy_2 : Int32).toInt + (1 : Int32).toInt := by rw [ex_133]; exact add_toInt (by omega) (by omega)
                      omega
                    have rg_158 := cB_rg (n := (Tv 0)) h_by (vy_2 : Int32).toInt.toNat
                    have h2_159 : ¬ cB (Tf 1) (Tv 0) (vy_2 : Int32).toInt.toNat = 32 := by
                      have z_1 := Int32.le_iff_toInt_le.mp c_9
                      have z_2 := congrArg Int32.toInt c_10
                      have z_3 := congrArg Int32.toInt c_115
                      have z_4 := congrArg Int32.toInt c_122
                      have z_5 : ¬ (r_106 : Int32).toInt = ((-1) : Int32).toInt := fun z => c_123 (Int32.toInt_inj.mp z)
                      have z_6 := congrArg Int32.toInt c_131
                      have z_7 := congrArg Int32.toInt c_142
                      have y_m1 : (-1 : Int32).toInt = -1 := by decide
                      have y_0 : (0 : Int32).toInt = 0 := by decide
                      have y_60 : (60 : Int32).toInt = 60 := by decide
                      have y_61 : (61 : Int32).toInt = 61 := by decide
                      have y_1 : (1 : Int32).toInt = 1 := by decide
                      have t_x_133 : x_133.toInt = (vy_2 : Int32).toInt + (1 : Int32).toInt := by rw [ex_133]; exact add_toInt (by omega) (by omega)
                      omega
                    have hr_160 : 0 ≤ (vy_2 : Int32).toInt := by
                      have z_1 := Int32.le_iff_toInt_le.mp c_9
                      have z_2 := congrArg Int32.toInt c_10
                      have z_3 := congrArg Int32.toInt c_115
                      have z_4 := congrArg Int32.toInt c_122
                      have z_5 : ¬ (r_106 : Int32).toInt = ((-1) : Int32).toInt := fun z => c_123 (Int32.toInt_inj.mp z)
                      have z_6 := congrArg Int32.toInt c_131
                      have z_7 := congrArg Int32.toInt c_142
                      have y_m1 : (-1 : Int32).toInt = -1 := by decide
                      have y_0 : (0 : Int32).toInt = 0 := by decide
                      have y_60 : (60 : Int32).toInt = 60 := by decide
                      have y_61 : (61 : Int32).toInt = 61 := by decide
                      have y_1 : (1 : Int32).toInt = 1 := by decide
                      have t_x_133 : x_133.toInt = (vy_2 : Int32).toInt + (1 : Int32).toInt := by rw [ex_133]; exact add_toInt (by omega) (by omega)
                      omega
                    have hi_161 : (x_156 : Int32).toInt = (vy_2 : Int32).toInt + 2 := by
                      have z_1 := Int32.le_iff_toInt_le.mp c_9
                      have z_2 := congrArg Int32.toInt c_10
                      have z_3 := congrArg Int32.toInt c_115
                      have z_4 := congrArg Int32.toInt c_122
                      have z_5 : ¬ (r_106 : Int32).toInt = ((-1) : Int32).toInt := fun z => c_123 (Int32.toInt_inj.mp z)
                      have z_6 := congrArg Int32.toInt c_131
                      have z_7 := congrArg Int32.toInt c_142
                      have y_m1 : (-1 : Int32).toInt = -1 := by decide
                      have y_0 : (0 : Int32).toInt = 0 := by decide
                      have y_60 : (60 : Int32).toInt = 60 := by decide
                      have y_61 : (61 : Int32).toInt = 61 := by decide
                      have y_1 : (1 : Int32).toInt = 1 := by decide
                      have y_2 : (2 : Int32).toInt = 2 := by decide
                      have t_x_156 : x_156.toInt = (vy_2 : Int32).toInt + (2 : Int32).toInt := by rw [ex_156]; exact add_toInt (by omega) (by omega)
                      have t_x_133 : x_133.toInt = (vy_2 : Int32).toInt + (1 : Int32).toInt := by rw [ex_133]; exact add_toInt (by omega) (by omega)
                      omega
                    have hx_162 : (x_133 : Int32).toInt.toNat = (vy_2 : Int32).toInt.toNat + 1 := by
                      have z_1 := Int32.le_iff_toInt_le.mp c_9
                      have z_2 := congrArg Int32.toInt c_10
                      have z_3 := congrArg Int32.toInt c_115
                      have z_4 := congrArg Int32.toInt c_122
                      have z_5 : ¬ (r_106 : Int32).toInt = ((-1) : Int32).toInt := fun z => c_123 (Int32.toInt_inj.mp z)
                      have z_6 := congrArg Int32.toInt c_131
                      have z_7 := congrArg Int32.toInt c_142
                      have y_m1 : (-1 : Int32).toInt = -1 := by decide
                      have y_0 : (0 : Int32).toInt = 0 := by decide
                      have y_60 : (60 : Int32).toInt = 60 := by decide
                      have y_61 : (61 : Int32).toInt = 61 := by decide
                      have y_1 : (1 : Int32).toInt = 1 := by decide
                      have t_x_133 : x_133.toInt = (vy_2 : Int32).toInt + (1 : Int32).toInt := by rw [ex_133]; exact add_toInt (by omega) (by omega)
                      omega
                    rw [hx_162] at he_140
                    have h2_163 : (((r_106 : Int32).toInt = 60 ∨ (r_106 : Int32).toInt = 62) ∧ cB (Tf 1) (Tv 0) ((vy_2 : Int32).toInt.toNat + 1) = 61) := by
                      have z_1 := Int32.le_iff_toInt_le.mp c_9
                      have z_2 := congrArg Int32.toInt c_10
                      have z_3 := congrArg Int32.toInt c_115
                      have z_4 := congrArg Int32.toInt c_122
                      have z_5 : ¬ (r_106 : Int32).toInt = ((-1) : Int32).toInt := fun z => c_123 (Int32.toInt_inj.mp z)
                      have z_6 := congrArg Int32.toInt c_131
                      have z_7 := congrArg Int32.toInt c_142
                      have y_m1 : (-1 : Int32).toInt = -1 := by decide
                      have y_0 : (0 : Int32).toInt = 0 := by decide
                      have y_60 : (60 : Int32).toInt = 60 := by decide
                      have y_61 : (61 : Int32).toInt = 61 := by decide
                      have y_1 : (1 : Int32).toInt = 1 := by decide
                      have t_x_133 : x_133.toInt = (vy_2 : Int32).toInt + (1 : Int32).toInt := by rw [ex_133]; exact add_toInt (by omega) (by omega)
                      omega
                    have hr_164 : ((Tv 4) : Int32).toInt = 0 := by
                      have z_1 := Int32.le_iff_toInt_le.mp c_9
                      have z_2 := congrArg Int32.toInt c_10
                      have z_3 := congrArg Int32.toInt c_115
                      have z_4 := congrArg Int32.toInt c_122
                      have z_5 : ¬ (r_106 : Int32).toInt = ((-1) : Int32).toInt := fun z => c_123 (Int32.toInt_inj.mp z)
                      have z_6 := congrArg Int32.toInt c_131
                      have z_7 := congrArg Int32.toInt c_142
                      have y_m1 : (-1 : Int32).toInt = -1 := by decide
                      have y_0 : (0 : Int32).toInt = 0 := by decide
                      have y_60 : (60 : Int32).toInt = 60 := by decide
                      have y_61 : (61 : Int32).toInt = 61 := by decide
                      have y_1 : (1 : Int32).toInt = 1 := by decide
                      have t_x_133 : x_133.toInt = (vy_2 : Int32).toInt + (1 : Int32).toInt := by rw [ex_133]; exact add_toInt (by omega) (by omega)
                      omega
                    have hr_165 : (vy_2 : Int32).toInt ≤ 400 := by
                      have z_1 := Int32.le_iff_toInt_le.mp c_9
                      have z_2 := congrArg Int32.toInt c_10
                      have z_3 := congrArg Int32.toInt c_115
                      have z_4 := congrArg Int32.toInt c_122
                      have z_5 : ¬ (r_106 : Int32).toInt = ((-1) : Int32).toInt := fun z => c_123 (Int32.toInt_inj.mp z)
                      have z_6 := congrArg Int32.toInt c_131
                      have z_7 := congrArg Int32.toInt c_142
                      have y_m1 : (-1 : Int32).toInt = -1 := by decide
                      have y_0 : (0 : Int32).toInt = 0 := by decide
                      have y_60 : (60 : Int32).toInt = 60 := by decide
                      have y_61 : (61 : Int32).toInt = 61 := by decide
                      have y_1 : (1 : Int32).toInt = 1 := by decide
                      have t_x_133 : x_133.toInt = (vy_2 : Int32).toInt + (1 : Int32).toInt := by rw [ex_133]; exact add_toInt (by omega) (by omega)
                      omega
                    exact retV hx hb hr hlk hP hD hS (vy_2, x_156, r_106) ⟨rfl, ha_157, (TpB.at h_tb hr_164 h_tape.2.2.2.2.1 pf_7 hr_165 h2_159 (te_2 hr_160 he_107.1 h2_163 hi_161) he_107.1)⟩ [0, 1] rfl rfl dX10_step_242 (Nat.le_of_ble_eq_true rfl) (Nat.le_of_ble_eq_true rfl) rfl
                · skip
                  refine lv_aload_n hx hb dX10_step_189 rfl (lv_at hl 0 rfl) ?_
                  refine gf_X10_25 hx hb hts hown hK hP 0 rfl rfl dX10_step_190 ?_
                  refine lv_bipush (v := 62) hx hb dX10_step_193 (by decide) ?_
                  refine lv_icmp_ne (tgt := 202) hx hb dX10_step_195 (by decide) (fun c_166 => ?_) (fun c_166 => ?_)
                  · skip
                    refine lv_iconst (v := 0) hx hb dX10_step_202 (by decide) ?_
                    refine lv_istore_n (lv' := [(1, .int 0), (0, .ref (Ta 0))]) hx hb dX10_step_203 rfl hl (by decide) rfl (fun ls hl₀ => ?_)
                    replace hl := hl₀
                    clear hl₀
                    refine lv_aload_n hx hb dX10_step_204 rfl (lv_at hl 1 rfl) ?_
                    refine lv_iload_n hx hb dX10_step_205 rfl (lv_at hl 0 rfl) ?_
                    refine lv_if_eq (tgt := 233) hx hb dX10_step_206 (by decide) (fun c_167 => ?_) (fun c_167 => absurd c_167 (by decide))
                    refine lv_aload_n hx hb dX10_step_233 rfl (lv_at hl 1 rfl) ?_
                    refine gf_X10_19 hx hb hts hown hK hP 0 rfl rfl dX10_step_234 ?_
                    refine lv_iconst (v := 1) hx hb dX10_step_237 (by decide) ?_
                    refine lv_iadd hx hb dX10_step_238 ?_
                    refine lv_topi (fun x_168 ex_168 => ?_)
                    refine pf_X10_22 hx hb hts hown hK hP hD hS 0 rfl (Nat.le_of_ble_eq_true rfl) rfl rfl dX10_step_239 (fun H locs hP₀ hD₀ hS₀ => ?_)
                    replace hP : va_P D classes [((Ta 0), .inr (10, [.ref (Ta 1), .int (Tv 0), .int vy_2, .int x_168, .int r_106, .int (Tv 4)])), ((Ta 1), .inl (tc 0, 400, .inl (Tf 1)))] H := hP₀
                    replace hD : va_D A [((Ta 0), .inr (10, [.ref (Ta 1), .int (Tv 0), .int vy_2, .int x_168, .int r_106, .int (Tv 4)])), ((Ta 1), .inl (tc 0, 400, .inl (Tf 1)))] := hD₀
                    replace hS := hS₀
                    clear hP₀ hD₀ hS₀
                    have ha_169 : 0 ≤ ((Tv 0) : Int32).toInt ∧ ((Tv 0) : Int32).toInt ≤ 400 ∧ 0 ≤ (vy_2 : Int32).toInt ∧ (vy_2 : Int32).toInt ≤ 400 ∧ 0 ≤ (x_168 : Int32).toInt ∧ (x_168 : Int32).toInt ≤ 400 := by
                      have z_1 := Int32.le_iff_toInt_le.mp c_9
                      have z_2 := congrArg Int32.toInt c_10
                      have z_3 := congrArg Int32.toInt c_115
                      have z_4 := congrArg Int32.toInt c_122
                      have z_5 : ¬ (r_106 : Int32).toInt = ((-1) : Int32).toInt := fun z => c_123 (Int32.toInt_inj.mp z)
                      have z_6 : ¬ (r_106 : Int32).toInt = (60 : Int32).toInt := fun z => c_131 (Int32.toInt_inj.mp z)
                      have z_7 : ¬ (r_106 : Int32).toInt = (62 : Int32).toInt := fun z => c_166 (Int32.toInt_inj.mp z)
                      have y_m1 : (-1 : Int32).toInt = -1 := by decide
                      have y_0 : (0 : Int32).toInt = 0 := by decide
                      have y_60 : (60 : Int32).toInt = 60 := by decide
                      have y_62 : (62 : Int32).toInt = 62 := by decide
                      have y_1 : (1 : Int32).toInt = 1 := by decide
                      have t_x_168 : x_168.toInt = (vy_2 : Int32).toInt + (1 : Int32).toInt := by rw [ex_168]; exact add_toInt (by omega) (by omega)
                      omega
                    have rg_170 := cB_rg (n := (Tv 0)) h_by (vy_2 : Int32).toInt.toNat
                    have h2_171 : ¬ cB (Tf 1) (Tv 0) (vy_2 : Int32).toInt.toNat = 32 := by
                      have z_1 := Int32.le_iff_toInt_le.mp c_9
                      have z_2 := congrArg Int32.toInt c_10
                      have z_3 := congrArg Int32.toInt c_115
                      have z_4 := congrArg Int32.toInt c_122
                      have z_5 : ¬ (r_106 : Int32).toInt = ((-1) : Int32).toInt := fun z => c_123 (Int32.toInt_inj.mp z)
                      have z_6 : ¬ (r_106 : Int32).toInt = (60 : Int32).toInt := fun z => c_131 (Int32.toInt_inj.mp z)
                      have z_7 : ¬ (r_106 : Int32).toInt = (62 : Int32).toInt := fun z => c_166 (Int32.toInt_inj.mp z)
                      have y_m1 : (-1 : Int32).toInt = -1 := by decide
                      have y_0 : (0 : Int32).toInt = 0 := by decide
                      have y_60 : (60 : Int32).toInt = 60 := by decide
                      have y_62 : (62 : Int32).toInt = 62 := by decide
                      omega
                    have hr_172 : 0 ≤ (vy_2 : Int32).toInt := by
                      have z_1 := Int32.le_iff_toInt_le.mp c_9
                      have z_2 := congrArg Int32.toInt c_10
                      have z_3 := congrArg Int32.toInt c_115
                      have z_4 := congrArg Int32.toInt c_122
                      have z_5 : ¬ (r_106 : Int32).toInt = ((-1) : Int32).toInt := fun z => c_123 (Int32.toInt_inj.mp z)
                      have z_6 : ¬ (r_106 : Int32).toInt = (60 : Int32).toInt := fun z => c_131 (Int32.toInt_inj.mp z)
                      have z_7 : ¬ (r_106 : Int32).toInt = (62 : Int32).toInt := fun z => c_166 (Int32.toInt_inj.mp z)
                      have y_m1 : (-1 : Int32).toInt = -1 := by decide
                      have y_0 : (0 : Int32).toInt = 0 := by decide
                      have y_60 : (60 : Int32).toInt = 60 := by decide
                      have y_62 : (62 : Int32).toInt = 62 := by decide
                      omega
                    have hi_173 : (x_168 : Int32).toInt = (vy_2 : Int32).toInt + 1 := by
                      have z_1 := Int32.le_iff_toInt_le.mp c_9
                      have z_2 := congrArg Int32.toInt c_10
                      have z_3 := congrArg Int32.toInt c_115
                      have z_4 := congrArg Int32.toInt c_122
                      have z_5 : ¬ (r_106 : Int32).toInt = ((-1) : Int32).toInt := fun z => c_123 (Int32.toInt_inj.mp z)
                      have z_6 : ¬ (r_106 : Int32).toInt = (60 : Int32).toInt := fun z => c_131 (Int32.toInt_inj.mp z)
                      have z_7 : ¬ (r_106 : Int32).toInt = (62 : Int32).toInt := fun z => c_166 (Int32.toInt_inj.mp z)
                      have y_m1 : (-1 : Int32).toInt = -1 := by decide
                      have y_0 : (0 : Int32).toInt = 0 := by decide
                      have y_60 : (60 : Int32).toInt = 60 := by decide
                      have y_62 : (62 : Int32).toInt = 62 := by decide
                      have y_1 : (1 : Int32).toInt = 1 := by decide
                      have t_x_168 : x_168.toInt = (vy_2 : Int32).toInt + (1 : Int32).toInt := by rw [ex_168]; exact add_toInt (by omega) (by omega)
                      omega
                    have h2_174 : ¬ (((r_106 : Int32).toInt = 60 ∨ (r_106 : Int32).toInt = 62) ∧ cB (Tf 1) (Tv 0) ((vy_2 : Int32).toInt.toNat + 1) = 61) := by
                      have z_1 := Int32.le_iff_toInt_le.mp c_9
                      have z_2 := congrArg Int32.toInt c_10
                      have z_3 := congrArg Int32.toInt c_115
                      have z_4 := congrArg Int32.toInt c_122
                      have z_5 : ¬ (r_106 : Int32).toInt = ((-1) : Int32).toInt := fun z => c_123 (Int32.toInt_inj.mp z)
                      have z_6 : ¬ (r_106 : Int32).toInt = (60 : Int32).toInt := fun z => c_131 (Int32.toInt_inj.mp z)
                      have z_7 : ¬ (r_106 : Int32).toInt = (62 : Int32).toInt := fun z => c_166 (Int32.toInt_inj.mp z)
                      have y_m1 : (-1 : Int32).toInt = -1 := by decide
                      have y_0 : (0 : Int32).toInt = 0 := by decide
                      have y_60 : (60 : Int32).toInt = 60 := by decide
                      have y_62 : (62 : Int32).toInt = 62 := by decide
                      omega
                    have hr_175 : ¬ (97 ≤ (r_106 : Int32).toInt ∧ (r_106 : Int32).toInt ≤ 122) := by
                      have z_1 := Int32.le_iff_toInt_le.mp c_9
                      have z_2 := congrArg Int32.toInt c_10
                      have z_3 := congrArg Int32.toInt c_115
                      have z_4 := congrArg Int32.toInt c_122
                      have z_5 : ¬ (r_106 : Int32).toInt = ((-1) : Int32).toInt := fun z => c_123 (Int32.toInt_inj.mp z)
                      have z_6 : ¬ (r_106 : Int32).toInt = (60 : Int32).toInt := fun z => c_131 (Int32.toInt_inj.mp z)
                      have z_7 : ¬ (r_106 : Int32).toInt = (62 : Int32).toInt := fun z => c_166 (Int32.toInt_inj.mp z)
                      have y_m1 : (-1 : Int32).toInt = -1 := by decide
                      have y_0 : (0 : Int32).toInt = 0 := by decide
                      have y_60 : (60 : Int32).toInt = 60 := by decide
                      have y_62 : (62 : Int32).toInt = 62 := by decide
                      omega
                    have hr_176 : ¬ (48 ≤ (r_106 : Int32).toInt ∧ (r_106 : Int32).toInt ≤ 57) := by
                      have z_1 := Int32.le_iff_toInt_le.mp c_9
                      have z_2 := congrArg Int32.toInt c_10
                      have z_3 := congrArg Int32.toInt c_115
                      have z_4 := congrArg Int32.toInt c_122
                      have z_5 : ¬ (r_106 : Int32).toInt = ((-1) : Int32).toInt := fun z => c_123 (Int32.toInt_inj.mp z)
                      have z_6 : ¬ (r_106 : Int32).toInt = (60 : Int32).toInt := fun z => c_131 (Int32.toInt_inj.mp z)
                      have z_7 : ¬ (r_106 : Int32).toInt = (62 : Int32).toInt := fun z => c_166 (Int32.toInt_inj.mp z)
                      have y_m1 : (-1 : Int32).toInt = -1 := by decide
                      have y_0 : (0 : Int32).toInt = 0 := by decide
                      have y_60 : (60 : Int32).toInt = 60 := by decide
                      have y_62 : (62 : Int32).toInt = 62 := by decide
                      omega
                    have hr_177 : ¬ (r_106 : Int32).toInt = -1 := by
                      have z_1 := Int32.le_iff_toInt_le.mp c_9
                      have z_2 := congrArg Int32.toInt c_10
                      have z_3 := congrArg Int32.toInt c_115
                      have z_4 := congrArg Int32.toInt c_122
                      have z_5 : ¬ (r_106 : Int32).toInt = ((-1) : Int32).toInt := fun z => c_123 (Int32.toInt_inj.mp z)
                      have z_6 : ¬ (r_106 : Int32).toInt = (60 : Int32).toInt := fun z => c_131 (Int32.toInt_inj.mp z)
                      have z_7 : ¬ (r_106 : Int32).toInt = (62 : Int32).toInt := fun z => c_166 (Int32.toInt_inj.mp z)
                      have y_m1 : (-1 : Int32).toInt = -1 := by decide
                      have y_0 : (0 : Int32).toInt = 0 := by decide
                      have y_60 : (60 : Int32).toInt = 60 := by decide
                      have y_62 : (62 : Int32).toInt = 62 := by decide
                      omega
                    have hr_178 : ((Tv 4) : Int32).toInt = 0 := by
                      have z_1 := Int32.le_iff_toInt_le.mp c_9
                      have z_2 := congrArg Int32.toInt c_10
                      have z_3 := congrArg Int32.toInt c_115
                      have z_4 := congrArg Int32.toInt c_122
                      have z_5 : ¬ (r_106 : Int32).toInt = ((-1) : Int32).toInt := fun z => c_123 (Int32.toInt_inj.mp z)
                      have z_6 : ¬ (r_106 : Int32).toInt = (60 : Int32).toInt := fun z => c_131 (Int32.toInt_inj.mp z)
                      have z_7 : ¬ (r_106 : Int32).toInt = (62 : Int32).toInt := fun z => c_166 (Int32.toInt_inj.mp z)
                      have y_m1 : (-1 : Int32).toInt = -1 := by decide
                      have y_0 : (0 : Int32).toInt = 0 := by decide
                      have y_60 : (60 : Int32).toInt = 60 := by decide
                      have y_62 : (62 : Int32).toInt = 62 := by decide
                      omega
                    have hr_179 : (vy_2 : Int32).toInt ≤ 400 := by
                      have z_1 := Int32.le_iff_toInt_le.mp c_9
                      have z_2 := congrArg Int32.toInt c_10
                      have z_3 := congrArg Int32.toInt c_115
                      have z_4 := congrArg Int32.toInt c_122
                      have z_5 : ¬ (r_106 : Int32).toInt = ((-1) : Int32).toInt := fun z => c_123 (Int32.toInt_inj.mp z)
                      have z_6 : ¬ (r_106 : Int32).toInt = (60 : Int32).toInt := fun z => c_131 (Int32.toInt_inj.mp z)
                      have z_7 : ¬ (r_106 : Int32).toInt = (62 : Int32).toInt := fun z => c_166 (Int32.toInt_inj.mp z)
                      have y_m1 : (-1 : Int32).toInt = -1 := by decide
                      have y_0 : (0 : Int32).toInt = 0 := by decide
                      have y_60 : (60 : Int32).toInt = 60 := by decide
                      have y_62 : (62 : Int32).toInt = 62 := by decide
                      omega
                    exact retV hx hb hr hlk hP hD hS (vy_2, x_168, r_106) ⟨rfl, ha_169, (TpB.at h_tb hr_178 h_tape.2.2.2.2.1 pf_7 hr_179 h2_171 (te_1 hr_172 he_107.1 hr_175 hr_176 hr_177 h2_174 hi_173) he_107.1)⟩ [0, 1] rfl rfl dX10_step_242 (Nat.le_of_ble_eq_true rfl) (Nat.le_of_ble_eq_true rfl) rfl
                  · skip
                    refine lv_iconst (v := 1) hx hb dX10_step_198 (by decide) ?_
                    refine lv_goto (tgt := 203) hx hb dX10_step_199 (by decide) ?_
                    refine lv_istore_n (lv' := [(1, .int 1), (0, .ref (Ta 0))]) hx hb dX10_step_203 rfl hl (by decide) rfl (fun ls hl₀ => ?_)
                    replace hl := hl₀
                    clear hl₀
                    refine lv_aload_n hx hb dX10_step_204 rfl (lv_at hl 1 rfl) ?_
                    refine lv_iload_n hx hb dX10_step_205 rfl (lv_at hl 0 rfl) ?_
                    refine lv_if_eq (tgt := 233) hx hb dX10_step_206 (by decide) (fun c_180 => absurd c_180 (by decide)) (fun c_180 => ?_)
                    refine lv_aload_n hx hb dX10_step_209 rfl (lv_at hl 1 rfl) ?_
                    refine lv_aload_n hx hb dX10_step_210 rfl (lv_at hl 1 rfl) ?_
                    refine gf_X10_19 hx hb hts hown hK hP 0 rfl rfl dX10_step_211 ?_
                    refine lv_iconst (v := 1) hx hb dX10_step_214 (by decide) ?_
                    refine lv_iadd hx hb dX10_step_215 ?_
                    refine lv_topi (fun x_181 ex_181 => ?_)
                    have ha_182 : 0 ≤ ((Tv 0) : Int32).toInt ∧ ((Tv 0) : Int32).toInt ≤ 400 ∧ 0 ≤ (vy_2 : Int32).toInt ∧ (vy_2 : Int32).toInt ≤ 400 ∧ 0 ≤ (vy_2 : Int32).toInt ∧ (vy_2 : Int32).toInt ≤ 400 := by
                      have z_1 := Int32.le_iff_toInt_le.mp c_9
                      have z_2 := congrArg Int32.toInt c_10
                      have z_3 := congrArg Int32.toInt c_115
                      have z_4 := congrArg Int32.toInt c_122
                      have z_5 : ¬ (r_106 : Int32).toInt = ((-1) : Int32).toInt := fun z => c_123 (Int32.toInt_inj.mp z)
                      have z_6 : ¬ (r_106 : Int32).toInt = (60 : Int32).toInt := fun z => c_131 (Int32.toInt_inj.mp z)
                      have z_7 := congrArg Int32.toInt c_166
                      have y_m1 : (-1 : Int32).toInt = -1 := by decide
                      have y_0 : (0 : Int32).toInt = 0 := by decide
                      have y_60 : (60 : Int32).toInt = 60 := by decide
                      have y_62 : (62 : Int32).toInt = 62 := by decide
                      have y_1 : (1 : Int32).toInt = 1 := by decide
                      have t_x_181 : x_181.toInt = (vy_2 : Int32).toInt + (1 : Int32).toInt := by rw [ex_181]; exact add_toInt (by omega) (by omega)
                      omega
                    have ha_183 : 0 ≤ x_181.toInt := by
                      have z_1 := Int32.le_iff_toInt_le.mp c_9
                      have z_2 := congrArg Int32.toInt c_10
                      have z_3 := congrArg Int32.toInt c_115
                      have z_4 := congrArg Int32.toInt c_122
                      have z_5 : ¬ (r_106 : Int32).toInt = ((-1) : Int32).toInt := fun z => c_123 (Int32.toInt_inj.mp z)
                      have z_6 : ¬ (r_106 : Int32).toInt = (60 : Int32).toInt := fun z => c_131 (Int32.toInt_inj.mp z)
                      have z_7 := congrArg Int32.toInt c_166
                      have y_m1 : (-1 : Int32).toInt = -1 := by decide
                      have y_0 : (0 : Int32).toInt = 0 := by decide
                      have y_60 : (60 : Int32).toInt = 60 := by decide
                      have y_62 : (62 : Int32).toInt = 62 := by decide
                      have y_1 : (1 : Int32).toInt = 1 := by decide
                      have t_x_181 : x_181.toInt = (vy_2 : Int32).toInt + (1 : Int32).toInt := by rw [ex_181]; exact add_toInt (by omega) (by omega)
                      omega
                    refine cV (a := (Ta 0)) (As := [.int x_181]) (rest := [.ref (Ta 0)]) (wr := []) ⟨hx, hb, hml, hown, hts⟩ hK hX hA (cu_fX10_byteAt l D tc sk (Ta 0) (Ta 1) (Tv 0) vy_2 vy_2 r_106 (Tv 4) (Tf 1) x_181 ha_182 h_by ha_183) k_482 k_479 k_481 k_0 k_96 pl_X10_byteAt ⟨Nat.le_of_ble_eq_true rfl, Nat.le_of_ble_eq_true rfl⟩ rfl rfl (va_recv hK hP (ci := 10) (q0 := 0) rfl rfl) hP hD hS [0, 1] [] rfl rfl rfl rfl rfl (by decide) rfl hl.1 rfl (Nat.le_of_ble_eq_true rfl) dX10_step_216 ⟨Nat.le_of_ble_eq_true rfl, Nat.le_of_ble_eq_true rfl⟩ (fun v_184 u_185 H locs hv_186 hP₀ hD₀ hS₀ => ?_)
                    obtain ⟨r_187, rfl, he_188⟩ := hv_186
                    have he_188 : (r_187.toInt = cB (Tf 1) (Tv 0) x_181.toInt.toNat ∧ (((Tv 0).toInt ≤ x_181.toInt ∧ r_187.toInt = -1) ∨ (x_181.toInt < (Tv 0).toInt ∧ 0 ≤ r_187.toInt ∧ r_187.toInt ≤ 255))) := he_188
                    refine W.eq (g2 := F0 m 219 ls [.int r_187, .ref (Ta 0)]) rfl ?_
                    replace hP : va_P D classes [((Ta 0), .inr (10, [.ref (Ta 1), .int (Tv 0), .int vy_2, .int vy_2, .int r_106, .int (Tv 4)])), ((Ta 1), .inl (tc 0, 400, .inl (Tf 1)))] H := hP₀
                    replace hD : va_D A [((Ta 0), .inr (10, [.ref (Ta 1), .int (Tv 0), .int vy_2, .int vy_2, .int r_106, .int (Tv 4)])), ((Ta 1), .inl (tc 0, 400, .inl (Tf 1)))] := hD₀
                    replace hS := hS₀
                    clear hP₀ hD₀ hS₀
                    refine lv_bipush (v := 61) hx hb dX10_step_219 (by decide) ?_
                    refine lv_icmp_ne (tgt := 233) hx hb dX10_step_221 (by decide) (fun c_190 => ?_) (fun c_190 => ?_)
                    · skip
                      refine lv_aload_n hx hb dX10_step_233 rfl (lv_at hl 1 rfl) ?_
                      refine gf_X10_19 hx hb hts hown hK hP 0 rfl rfl dX10_step_234 ?_
                      refine lv_iconst (v := 1) hx hb dX10_step_237 (by decide) ?_
                      refine lv_iadd hx hb dX10_step_238 ?_
                      refine lv_topi (fun x_191 ex_191 => ?_)
                      refine pf_X10_22 hx hb hts hown hK hP hD hS 0 rfl (Nat.le_of_ble_eq_true rfl) rfl rfl dX10_step_239 (fun H locs hP₀ hD₀ hS₀ => ?_)
                      replace hP : va_P D classes [((Ta 0), .inr (10, [.ref (Ta 1), .int (Tv 0), .int vy_2, .int x_191, .int r_106, .int (Tv 4)])), ((Ta 1), .inl (tc 0, 400, .inl (Tf 1)))] H := hP₀
                      replace hD : va_D A [((Ta 0), .inr (10, [.ref (Ta 1), .int (Tv 0), .int vy_2, .int x_191, .int r_106, .int (Tv 4)])), ((Ta 1), .inl (tc 0, 400, .inl (Tf 1)))] := hD₀
                      replace hS := hS₀
                      clear hP₀ hD₀ hS₀
                      have ha_192 : 0 ≤ ((Tv 0) : Int32).toInt ∧ ((Tv 0) : Int32).toInt ≤ 400 ∧ 0 ≤ (vy_2 : Int32).toInt ∧ (vy_2 : Int32).toInt ≤ 400 ∧ 0 ≤ (x_191 : Int32).toInt ∧ (x_191 : Int32).toInt ≤ 400 := by
                        have z_1 := Int32.le_iff_toInt_le.mp c_9
                        have z_2 := congrArg Int32.toInt c_10
                        have z_3 := congrArg Int32.toInt c_115
                        have z_4 := congrArg Int32.toInt c_122
                        have z_5 : ¬ (r_106 : Int32).toInt = ((-1) : Int32).toInt := fun z => c_123 (Int32.toInt_inj.mp z)
                        have z_6 : ¬ (r_106 : Int32).toInt = (60 : Int32).toInt := fun z => c_131 (Int32.toInt_inj.mp z)
                        have z_7 := congrArg Int32.toInt c_166
                        have z_8 : ¬ (r_187 : Int32).toInt = (61 : Int32).toInt := fun z => c_190 (Int32.toInt_inj.mp z)
                        have y_m1 : (-1 : Int32).toInt = -1 := by decide
                        have y_0 : (0 : Int32).toInt = 0 := by decide
                        have y_60 : (60 : Int32).toInt = 60 := by decide
                        have y_61 : (61 : Int32).toInt = 61 := by decide
                        have y_62 : (62 : Int32).toInt = 62 := by decide
                        have y_1 : (1 : Int32).toInt = 1 := by decide
                        have t_x_191 : x_191.toInt = (vy_2 : Int32).toInt + (1 : Int32).toInt := by rw [ex_191]; exact add_toInt (by omega) (by omega)
                        have t_x_181 : x_181.toInt = (vy_2 : Int32).toInt + (1 : Int32).toInt := by rw [ex_181]; exact add_toInt (by omega) (by omega)
                        omega
                      have rg_193 := cB_rg (n := (Tv 0)) h_by (vy_2 : Int32).toInt.toNat
                      have h2_194 : ¬ cB (Tf 1) (Tv 0) (vy_2 : Int32).toInt.toNat = 32 := by
                        have z_1 := Int32.le_iff_toInt_le.mp c_9
                        have z_2 := congrArg Int32.toInt c_10
                        have z_3 := congrArg Int32.toInt c_115
                        have z_4 := congrArg Int32.toInt c_122
                        have z_5 : ¬ (r_106 : Int32).toInt = ((-1) : Int32).toInt := fun z => c_123 (Int32.toInt_inj.mp z)
                        have z_6 : ¬ (r_106 : Int32).toInt = (60 : Int32).toInt := fun z => c_131 (Int32.toInt_inj.mp z)
                        have z_7 := congrArg Int32.toInt c_166
                        have z_8 : ¬ (r_187 : Int32).toInt = (61 : Int32).toInt := fun z => c_190 (Int32.toInt_inj.mp z)
                        have y_m1 : (-1 : Int32).toInt = -1 := by decide
                        have y_0 : (0 : Int32).toInt = 0 := by decide
                        have y_60 : (60 : Int32).toInt = 60 := by decide
                        have y_61 : (61 : Int32).toInt = 61 := by decide
                        have y_62 : (62 : Int32).toInt = 62 := by decide
                        have y_1 : (1 : Int32).toInt = 1 := by decide
                        have t_x_181 : x_181.toInt = (vy_2 : Int32).toInt + (1 : Int32).toInt := by rw [ex_181]; exact add_toInt (by omega) (by omega)
                        omega
                      have hr_195 : 0 ≤ (vy_2 : Int32).toInt := by
                        have z_1 := Int32.le_iff_toInt_le.mp c_9
                        have z_2 := congrArg Int32.toInt c_10
                        have z_3 := congrArg Int32.toInt c_115
                        have z_4 := congrArg Int32.toInt c_122
                        have z_5 : ¬ (r_106 : Int32).toInt = ((-1) : Int32).toInt := fun z => c_123 (Int32.toInt_inj.mp z)
                        have z_6 : ¬ (r_106 : Int32).toInt = (60 : Int32).toInt := fun z => c_131 (Int32.toInt_inj.mp z)
                        have z_7 := congrArg Int32.toInt c_166
                        have z_8 : ¬ (r_187 : Int32).toInt = (61 : Int32).toInt := fun z => c_190 (Int32.toInt_inj.mp z)
                        have y_m1 : (-1 : Int32).toInt = -1 := by decide
                        have y_0 : (0 : Int32).toInt = 0 := by decide
                        have y_60 : (60 : Int32).toInt = 60 := by decide
                        have y_61 : (61 : Int32).toInt = 61 := by decide
                        have y_62 : (62 : Int32).toInt = 62 := by decide
                        have y_1 : (1 : Int32).toInt = 1 := by decide
                        have t_x_181 : x_181.toInt = (vy_2 : Int32).toInt + (1 : Int32).toInt := by rw [ex_181]; exact add_toInt (by omega) (by omega)
                        omega
                      have hi_196 : (x_191 : Int32).toInt = (vy_2 : Int32).toInt + 1 := by
                        have z_1 := Int32.le_iff_toInt_le.mp c_9
                        have z_2 := congrArg Int32.toInt c_10
                        have z_3 := congrArg Int32.toInt c_115
                        have z_4 := congrArg Int32.toInt c_122
                        have z_5 : ¬ (r_106 : Int32).toInt = ((-1) : Int32).toInt := fun z => c_123 (Int32.toInt_inj.mp z)
                        have z_6 : ¬ (r_106 : Int32).toInt = (60 : Int32).toInt := fun z => c_131 (Int32.toInt_inj.mp z)
                        have z_7 := congrArg Int32.toInt c_166
                        have z_8 : ¬ (r_187 : Int32).toInt = (61 : Int32).toInt := fun z => c_190 (Int32.toInt_inj.mp z)
                        have y_m1 : (-1 : Int32).toInt = -1 := by decide
                        have y_0 : (0 : Int32).toInt = 0 := by decide
                        have y_60 : (60 : Int32).toInt = 60 := by decide
                        have y_61 : (61 : Int32).toInt = 61 := by decide
                        have y_62 : (62 : Int32).toInt = 62 := by decide
                        have y_1 : (1 : Int32).toInt = 1 := by decide
                        have t_x_191 : x_191.toInt = (vy_2 : Int32).toInt + (1 : Int32).toInt := by rw [ex_191]; exact add_toInt (by omega) (by omega)
                        have t_x_181 : x_181.toInt = (vy_2 : Int32).toInt + (1 : Int32).toInt := by rw [ex_181]; exact add_toInt (by omega) (by omega)
                        omega
                      have hx_197 : (x_181 : Int32).toInt.toNat = (vy_2 : Int32).toInt.toNat + 1 := by
                        have z_1 := Int32.le_iff_toInt_le.mp c_9
                        have z_2 := congrArg Int32.toInt c_10
                        have z_3 := congrArg Int32.toInt c_115
                        have z_4 := congrArg Int32.toInt c_122
                        have z_5 : ¬ (r_106 : Int32).toInt = ((-1) : Int32).toInt := fun z => c_123 (Int32.toInt_inj.mp z)
                        have z_6 : ¬ (r_106 : Int32).toInt = (60 : Int32).toInt := fun z => c_131 (Int32.toInt_inj.mp z)
                        have z_7 := congrArg Int32.toInt c_166
                        have z_8 : ¬ (r_187 : Int32).toInt = (61 : Int32).toInt := fun z => c_190 (Int32.toInt_inj.mp z)
                        have y_m1 : (-1 : Int32).toInt = -1 := by decide
                        have y_0 : (0 : Int32).toInt = 0 := by decide
                        have y_60 : (60 : Int32).toInt = 60 := by decide
                        have y_61 : (61 : Int32).toInt = 61 := by decide
                        have y_62 : (62 : Int32).toInt = 62 := by decide
                        have y_1 : (1 : Int32).toInt = 1 := by decide
                        have t_x_181 : x_181.toInt = (vy_2 : Int32).toInt + (1 : Int32).toInt := by rw [ex_181]; exact add_toInt (by omega) (by omega)
                        omega
                      rw [hx_197] at he_188
                      have h2_198 : ¬ (((r_106 : Int32).toInt = 60 ∨ (r_106 : Int32).toInt = 62) ∧ cB (Tf 1) (Tv 0) ((vy_2 : Int32).toInt.toNat + 1) = 61) := by
                        have z_1 := Int32.le_iff_toInt_le.mp c_9
                        have z_2 := congrArg Int32.toInt c_10
                        have z_3 := congrArg Int32.toInt c_115
                        have z_4 := congrArg Int32.toInt c_122
                        have z_5 : ¬ (r_106 : Int32).toInt = ((-1) : Int32).toInt := fun z => c_123 (Int32.toInt_inj.mp z)
                        have z_6 : ¬ (r_106 : Int32).toInt = (60 : Int32).toInt := fun z => c_131 (Int32.toInt_inj.mp z)
                        have z_7 := congrArg Int32.toInt c_166
                        have z_8 : ¬ (r_187 : Int32).toInt = (61 : Int32).toInt := fun z => c_190 (Int32.toInt_inj.mp z)
                        have y_m1 : (-1 : Int32).toInt = -1 := by decide
                        have y_0 : (0 : Int32).toInt = 0 := by decide
                        have y_60 : (60 : Int32).toInt = 60 := by decide
                        have y_61 : (61 : Int32).toInt = 61 := by decide
                        have y_62 : (62 : Int32).toInt = 62 := by decide
                        have y_1 : (1 : Int32).toInt = 1 := by decide
                        have t_x_181 : x_181.toInt = (vy_2 : Int32).toInt + (1 : Int32).toInt := by rw [ex_181]; exact add_toInt (by omega) (by omega)
                        omega
                      have hr_199 : ¬ (97 ≤ (r_106 : Int32).toInt ∧ (r_106 : Int32).toInt ≤ 122) := by
                        have z_1 := Int32.le_iff_toInt_le.mp c_9
                        have z_2 := congrArg Int32.toInt c_10
                        have z_3 := congrArg Int32.toInt c_115
                        have z_4 := congrArg Int32.toInt c_122
                        have z_5 : ¬ (r_106 : Int32).toInt = ((-1) : Int32).toInt := fun z => c_123 (Int32.toInt_inj.mp z)
                        have z_6 : ¬ (r_106 : Int32).toInt = (60 : Int32).toInt := fun z => c_131 (Int32.toInt_inj.mp z)
                        have z_7 := congrArg Int32.toInt c_166
                        have z_8 : ¬ (r_187 : Int32).toInt = (61 : Int32).toInt := fun z => c_190 (Int32.toInt_inj.mp z)
                        have y_m1 : (-1 : Int32).toInt = -1 := by decide
                        have y_0 : (0 : Int32).toInt = 0 := by decide
                        have y_60 : (60 : Int32).toInt = 60 := by decide
                        have y_61 : (61 : Int32).toInt = 61 := by decide
                        have y_62 : (62 : Int32).toInt = 62 := by decide
                        have y_1 : (1 : Int32).toInt = 1 := by decide
                        have t_x_181 : x_181.toInt = (vy_2 : Int32).toInt + (1 : Int32).toInt := by rw [ex_181]; exact add_toInt (by omega) (by omega)
                        omega
                      have hr_200 : ¬ (48 ≤ (r_106 : Int32).toInt ∧ (r_106 : Int32).toInt ≤ 57) := by
                        have z_1 := Int32.le_iff_toInt_le.mp c_9
                        have z_2 := congrArg Int32.toInt c_10
                        have z_3 := congrArg Int32.toInt c_115
                        have z_4 := congrArg Int32.toInt c_122
                        have z_5 : ¬ (r_106 : Int32).toInt = ((-1) : Int32).toInt := fun z => c_123 (Int32.toInt_inj.mp z)
                        have z_6 : ¬ (r_106 : Int32).toInt = (60 : Int32).toInt := fun z => c_131 (Int32.toInt_inj.mp z)
                        have z_7 := congrArg Int32.toInt c_166
                        have z_8 : ¬ (r_187 : Int32).toInt = (61 : Int32).toInt := fun z => c_190 (Int32.toInt_inj.mp z)
                        have y_m1 : (-1 : Int32).toInt = -1 := by decide
                        have y_0 : (0 : Int32).toInt = 0 := by decide
                        have y_60 : (60 : Int32).toInt = 60 := by decide
                        have y_61 : (61 : Int32).toInt = 61 := by decide
                        have y_62 : (62 : Int32).toInt = 62 := by decide
                        have y_1 : (1 : Int32).toInt = 1 := by decide
                        have t_x_181 : x_181.toInt = (vy_2 : Int32).toInt + (1 : Int32).toInt := by rw [ex_181]; exact add_toInt (by omega) (by omega)
                        omega
                      have hr_201 : ¬ (r_106 : Int32).toInt = -1 := by
                        have z_1 := Int32.le_iff_toInt_le.mp c_9
                        have z_2 := congrArg Int32.toInt c_10
                        have z_3 := congrArg Int32.toInt c_115
                        have z_4 := congrArg Int32.toInt c_122
                        have z_5 : ¬ (r_106 : Int32).toInt = ((-1) : Int32).toInt := fun z => c_123 (Int32.toInt_inj.mp z)
                        have z_6 : ¬ (r_106 : Int32).toInt = (60 : Int32).toInt := fun z => c_131 (Int32.toInt_inj.mp z)
                        have z_7 := congrArg Int32.toInt c_166
                        have z_8 : ¬ (r_187 : Int32).toInt = (61 : Int32).toInt := fun z => c_190 (Int32.toInt_inj.mp z)
                        have y_m1 : (-1 : Int32).toInt = -1 := by decide
                        have y_0 : (0 : Int32).toInt = 0 := by decide
                        have y_60 : (60 : Int32).toInt = 60 := by decide
                        have y_61 : (61 : Int32).toInt = 61 := by decide
                        have y_62 : (62 : Int32).toInt = 62 := by decide
                        have y_1 : (1 : Int32).toInt = 1 := by decide
                        have t_x_181 : x_181.toInt = (vy_2 : Int32).toInt + (1 : Int32).toInt := by rw [ex_181]; exact add_toInt (by omega) (by omega)
                        omega
                      have hr_202 : ((Tv 4) : Int32).toInt = 0 := by
                        have z_1 := Int32.le_iff_toInt_le.mp c_9
                        have z_2 := congrArg Int32.toInt c_10
                        have z_3 := congrArg Int32.toInt c_115
                        have z_4 := congrArg Int32.toInt c_122
                        have z_5 : ¬ (r_106 : Int32).toInt = ((-1) : Int32).toInt := fun z => c_123 (Int32.toInt_inj.mp z)
                        have z_6 : ¬ (r_106 : Int32).toInt = (60 : Int32).toInt := fun z => c_131 (Int32.toInt_inj.mp z)
                        have z_7 := congrArg Int32.toInt c_166
                        have z_8 : ¬ (r_187 : Int32).toInt = (61 : Int32).toInt := fun z => c_190 (Int32.toInt_inj.mp z)
                        have y_m1 : (-1 : Int32).toInt = -1 := by decide
                        have y_0 : (0 : Int32).toInt = 0 := by decide
                        have y_60 : (60 : Int32).toInt = 60 := by decide
                        have y_61 : (61 : Int32).toInt = 61 := by decide
                        have y_62 : (62 : Int32).toInt = 62 := by decide
                        have y_1 : (1 : Int32).toInt = 1 := by decide
                        have t_x_181 : x_181.toInt = (vy_2 : Int32).toInt + (1 : Int32).toInt := by rw [ex_181]; exact add_toInt (by omega) (by omega)
                        omega
                      have hr_203 : (vy_2 : Int32).toInt ≤ 400 := by
                        have z_1 := Int32.le_iff_toInt_le.mp c_9
                        have z_2 := congrArg Int32.toInt c_10
                        have z_3 := congrArg Int32.toInt c_115
                        have z_4 := congrArg Int32.toInt c_122
                        have z_5 : ¬ (r_106 : Int32).toInt = ((-1) : Int32).toInt := fun z => c_123 (Int32.toInt_inj.mp z)
                        have z_6 : ¬ (r_106 : Int32).toInt = (60 : Int32).toInt := fun z => c_131 (Int32.toInt_inj.mp z)
                        have z_7 := congrArg Int32.toInt c_166
                        have z_8 : ¬ (r_187 : Int32).toInt = (61 : Int32).toInt := fun z => c_190 (Int32.toInt_inj.mp z)
                        have y_m1 : (-1 : Int32).toInt = -1 := by decide
                        have y_0 : (0 : Int32).toInt = 0 := by decide
                        have y_60 : (60 : Int32).toInt = 60 := by decide
                        have y_61 : (61 : Int32).toInt = 61 := by decide
                        have y_62 : (62 : Int32).toInt = 62 := by decide
                        have y_1 : (1 : Int32).toInt = 1 := by decide
                        have t_x_181 : x_181.toInt = (vy_2 : Int32).toInt + (1 : Int32).toInt := by rw [ex_181]; exact add_toInt (by omega) (by omega)
                        omega
                      exact retV hx hb hr hlk hP hD hS (vy_2, x_191, r_106) ⟨rfl, ha_192, (TpB.at h_tb hr_202 h_tape.2.2.2.2.1 pf_7 hr_203 h2_194 (te_1 hr_195 he_107.1 hr_199 hr_200 hr_201 h2_198 hi_196) he_107.1)⟩ [0, 1] rfl rfl dX10_step_242 (Nat.le_of_ble_eq_true rfl) (Nat.le_of_ble_eq_true rfl) rfl
                    · skip
                      refine lv_aload_n hx hb dX10_step_224 rfl (lv_at hl 1 rfl) ?_
                      refine gf_X10_19 hx hb hts hown hK hP 0 rfl rfl dX10_step_225 ?_
                      refine lv_iconst (v := 2) hx hb dX10_step_228 (by decide) ?_
                      refine lv_iadd hx hb dX10_step_229 ?_
                      refine lv_topi (fun x_204 ex_204 => ?_)
                      refine lv_goto (tgt := 239) hx hb dX10_step_230 (by decide) ?_
                      refine pf_X10_22 hx hb hts hown hK hP hD hS 0 rfl (Nat.le_of_ble_eq_true rfl) rfl rfl dX10_step_239 (fun H locs hP₀ hD₀ hS₀ => ?_)
                      replace hP : va_P D classes [((Ta 0), .inr (10, [.ref (Ta 1), .int (Tv 0), .int vy_2, .int x_204, .int r_106, .int (Tv 4)])), ((Ta 1), .inl (tc 0, 400, .inl (Tf 1)))] H := hP₀
                      replace hD : va_D A [((Ta 0), .inr (10, [.ref (Ta 1), .int (Tv 0), .int vy_2, .int x_204, .int r_106, .int (Tv 4)])), ((Ta 1), .inl (tc 0, 400, .inl (Tf 1)))] := hD₀
                      replace hS := hS₀
                      clear hP₀ hD₀ hS₀
                      have ha_205 : 0 ≤ ((Tv 0) : Int32).toInt ∧ ((Tv 0) : Int32).toInt ≤ 400 ∧ 0 ≤ (vy_2 : Int32).toInt ∧ (vy_2 : Int32).toInt ≤ 400 ∧ 0 ≤ (x_204 : Int32).toInt ∧ (x_204 : Int32).toInt ≤ 400 := by
                        have z_1 := Int32.le_iff_toInt_le.mp c_9
                        have z_2 := congrArg Int32.toInt c_10
                        have z_3 := congrArg Int32.toInt c_115
                        have z_4 := congrArg Int32.toInt c_122
                        have z_5 : ¬ (r_106 : Int32).toInt = ((-1) : Int32).toInt := fun z => c_123 (Int32.toInt_inj.mp z)
                        have z_6 : ¬ (r_106 : Int32).toInt = (60 : Int32).toInt := fun z => c_131 (Int32.toInt_inj.mp z)
                        have z_7 := congrArg Int32.toInt c_166
                        have z_8 := congrArg Int32.toInt c_190
                        have y_m1 : (-1 : Int32).toInt = -1 := by decide
                        have y_0 : (0 : Int32).toInt = 0 := by decide
                        have y_60 : (60 : Int32).toInt = 60 := by decide
                        have y_61 : (61 : Int32).toInt = 61 := by decide
                        have y_62 : (62 : Int32).toInt = 62 := by decide
                        have y_1 : (1 : Int32).toInt = 1 := by decide
                        have y_2 : (2 : Int32).toInt = 2 := by decide
                        have t_x_204 : x_204.toInt = (vy_2 : Int32).toInt + (2 : Int32).toInt := by rw [ex_204]; exact add_toInt (by omega) (by omega)
                        have t_x_181 : x_181.toInt = (vy_2 : Int32).toInt + (1 : Int32).toInt := by rw [ex_181]; exact add_toInt (by omega) (by omega)
                        omega
                      have rg_206 := cB_rg (n := (Tv 0)) h_by (vy_2 : Int32).toInt.toNat
                      have h2_207 : ¬ cB (Tf 1) (Tv 0) (vy_2 : Int32).toInt.toNat = 32 := by
                        have z_1 := Int32.le_iff_toInt_le.mp c_9
                        have z_2 := congrArg Int32.toInt c_10
                        have z_3 := congrArg Int32.toInt c_115
                        have z_4 := congrArg Int32.toInt c_122
                        have z_5 : ¬ (r_106 : Int32).toInt = ((-1) : Int32).toInt := fun z => c_123 (Int32.toInt_inj.mp z)
                        have z_6 : ¬ (r_106 : Int32).toInt = (60 : Int32).toInt := fun z => c_131 (Int32.toInt_inj.mp z)
                        have z_7 := congrArg Int32.toInt c_166
                        have z_8 := congrArg Int32.toInt c_190
                        have y_m1 : (-1 : Int32).toInt = -1 := by decide
                        have y_0 : (0 : Int32).toInt = 0 := by decide
                        have y_60 : (60 : Int32).toInt = 60 := by decide
                        have y_61 : (61 : Int32).toInt = 61 := by decide
                        have y_62 : (62 : Int32).toInt = 62 := by decide
                        have y_1 : (1 : Int32).toInt = 1 := by decide
                        have t_x_181 : x_181.toInt = (vy_2 : Int32).toInt + (1 : Int32).toInt := by rw [ex_181]; exact add_toInt (by omega) (by omega)
                        omega
                      have hr_208 : 0 ≤ (vy_2 : Int32).toInt := by
                        have z_1 := Int32.le_iff_toInt_le.mp c_9
                        have z_2 := congrArg Int32.toInt c_10
                        have z_3 := congrArg Int32.toInt c_115
                        have z_4 := congrArg Int32.toInt c_122
                        have z_5 : ¬ (r_106 : Int32).toInt = ((-1) : Int32).toInt := fun z => c_123 (Int32.toInt_inj.mp z)
                        have z_6 : ¬ (r_106 : Int32).toInt = (60 : Int32).toInt := fun z => c_131 (Int32.toInt_inj.mp z)
                        have z_7 := congrArg Int32.toInt c_166
                        have z_8 := congrArg Int32.toInt c_190
                        have y_m1 : (-1 : Int32).toInt = -1 := by decide
                        have y_0 : (0 : Int32).toInt = 0 := by decide
                        have y_60 : (60 : Int32).toInt = 60 := by decide
                        have y_61 : (61 : Int32).toInt = 61 := by decide
                        have y_62 : (62 : Int32).toInt = 62 := by decide
                        have y_1 : (1 : Int32).toInt = 1 := by decide
                        have t_x_181 : x_181.toInt = (vy_2 : Int32).toInt + (1 : Int32).toInt := by rw [ex_181]; exact add_toInt (by omega) (by omega)
                        omega
                      have hi_209 : (x_204 : Int32).toInt = (vy_2 : Int32).toInt + 2 := by
                        have z_1 := Int32.le_iff_toInt_le.mp c_9
                        have z_2 := congrArg Int32.toInt c_10
                        have z_3 := congrArg Int32.toInt c_115
                        have z_4 := congrArg Int32.toInt c_122
                        have z_5 : ¬ (r_106 : Int32).toInt = ((-1) : Int32).toInt := fun z => c_123 (Int32.toInt_inj.mp z)
                        have z_6 : ¬ (r_106 : Int32).toInt = (60 : Int32).toInt := fun z => c_131 (Int32.toInt_inj.mp z)
                        have z_7 := congrArg Int32.toInt c_166
                        have z_8 := congrArg Int32.toInt c_190
                        have y_m1 : (-1 : Int32).toInt = -1 := by decide
                        have y_0 : (0 : Int32).toInt = 0 := by decide
                        have y_60 : (60 : Int32).toInt = 60 := by decide
                        have y_61 : (61 : Int32).toInt = 61 := by decide
                        have y_62 : (62 : Int32).toInt = 62 := by decide
                        have y_1 : (1 : Int32).toInt = 1 := by decide
                        have y_2 : (2 : Int32).toInt = 2 := by decide
                        have t_x_204 : x_204.toInt = (vy_2 : Int32).toInt + (2 : Int32).toInt := by rw [ex_204]; exact add_toInt (by omega) (by omega)
                        have t_x_181 : x_181.toInt = (vy_2 : Int32).toInt + (1 : Int32).toInt := by rw [ex_181]; exact add_toInt (by omega) (by omega)
                        omega
                      have hx_210 : (x_181 : Int32).toInt.toNat = (vy_2 : Int32).toInt.toNat + 1 := by
                        have z_1 := Int32.le_iff_toInt_le.mp c_9
                        have z_2 := congrArg Int32.toInt c_10
                        have z_3 := congrArg Int32.toInt c_115
                        have z_4 := congrArg Int32.toInt c_122
                        have z_5 : ¬ (r_106 : Int32).toInt = ((-1) : Int32).toInt := fun z => c_123 (Int32.toInt_inj.mp z)
                        have z_6 : ¬ (r_106 : Int32).toInt = (60 : Int32).toInt := fun z => c_131 (Int32.toInt_inj.mp z)
                        have z_7 := congrArg Int32.toInt c_166
                        have z_8 := congrArg Int32.toInt c_190
                        have y_m1 : (-1 : Int32).toInt = -1 := by decide
                        have y_0 : (0 : Int32).toInt = 0 := by decide
                        have y_60 : (60 : Int32).toInt = 60 := by decide
                        have y_61 : (61 : Int32).toInt = 61 := by decide
                        have y_62 : (62 : Int32).toInt = 62 := by decide
                        have y_1 : (1 : Int32).toInt = 1 := by decide
                        have t_x_181 : x_181.toInt = (vy_2 : Int32).toInt + (1 : Int32).toInt := by rw [ex_181]; exact add_toInt (by omega) (by omega)
                        omega
                      rw [hx_210] at he_188
                      have h2_211 : (((r_106 : Int32).toInt = 60 ∨ (r_106 : Int32).toInt = 62) ∧ cB (Tf 1) (Tv 0) ((vy_2 : Int32).toInt.toNat + 1) = 61) := by
                        have z_1 := Int32.le_iff_toInt_le.mp c_9
                        have z_2 := congrArg Int32.toInt c_10
                        have z_3 := congrArg Int32.toInt c_115
                        have z_4 := congrArg Int32.toInt c_122
                        have z_5 : ¬ (r_106 : Int32).toInt = ((-1) : Int32).toInt := fun z => c_123 (Int32.toInt_inj.mp z)
                        have z_6 : ¬ (r_106 : Int32).toInt = (60 : Int32).toInt := fun z => c_131 (Int32.toInt_inj.mp z)
                        have z_7 := congrArg Int32.toInt c_166
                        have z_8 := congrArg Int32.toInt c_190
                        have y_m1 : (-1 : Int32).toInt = -1 := by decide
                        have y_0 : (0 : Int32).toInt = 0 := by decide
                        have y_60 : (60 : Int32).toInt = 60 := by decide
                        have y_61 : (61 : Int32).toInt = 61 := by decide
                        have y_62 : (62 : Int32).toInt = 62 := by decide
                        have y_1 : (1 : Int32).toInt = 1 := by decide
                        have t_x_181 : x_181.toInt = (vy_2 : Int32).toInt + (1 : Int32).toInt := by rw [ex_181]; exact add_toInt (by omega) (by omega)
                        omega
                      have hr_212 : ((Tv 4) : Int32).toInt = 0 := by
                        have z_1 := Int32.le_iff_toInt_le.mp c_9
                        have z_2 := congrArg Int32.toInt c_10
                        have z_3 := congrArg Int32.toInt c_115
                        have z_4 := congrArg Int32.toInt c_122
                        have z_5 : ¬ (r_106 : Int32).toInt = ((-1) : Int32).toInt := fun z => c_123 (Int32.toInt_inj.mp z)
                        have z_6 : ¬ (r_106 : Int32).toInt = (60 : Int32).toInt := fun z => c_131 (Int32.toInt_inj.mp z)
                        have z_7 := congrArg Int32.toInt c_166
                        have z_8 := congrArg Int32.toInt c_190
                        have y_m1 : (-1 : Int32).toInt = -1 := by decide
                        have y_0 : (0 : Int32).toInt = 0 := by decide
                        have y_60 : (60 : Int32).toInt = 60 := by decide
                        have y_61 : (61 : Int32).toInt = 61 := by decide
                        have y_62 : (62 : Int32).toInt = 62 := by decide
                        have y_1 : (1 : Int32).toInt = 1 := by decide
                        have t_x_181 : x_181.toInt = (vy_2 : Int32).toInt + (1 : Int32).toInt := by rw [ex_181]; exact add_toInt (by omega) (by omega)
                        omega
                      have hr_213 : (vy_2 : Int32).toInt ≤ 400 := by
                        have z_1 := Int32.le_iff_toInt_le.mp c_9
                        have z_2 := congrArg Int32.toInt c_10
                        have z_3 := congrArg Int32.toInt c_115
                        have z_4 := congrArg Int32.toInt c_122
                        have z_5 : ¬ (r_106 : Int32).toInt = ((-1) : Int32).toInt := fun z => c_123 (Int32.toInt_inj.mp z)
                        have z_6 : ¬ (r_106 : Int32).toInt = (60 : Int32).toInt := fun z => c_131 (Int32.toInt_inj.mp z)
                        have z_7 := congrArg Int32.toInt c_166
                        have z_8 := congrArg Int32.toInt c_190
                        have y_m1 : (-1 : Int32).toInt = -1 := by decide
                        have y_0 : (0 : Int32).toInt = 0 := by decide
                        have y_60 : (60 : Int32).toInt = 60 := by decide
                        have y_61 : (61 : Int32).toInt = 61 := by decide
                        have y_62 : (62 : Int32).toInt = 62 := by decide
                        have y_1 : (1 : Int32).toInt = 1 := by decide
                        have t_x_181 : x_181.toInt = (vy_2 : Int32).toInt + (1 : Int32).toInt := by rw [ex_181]; exact add_toInt (by omega) (by omega)
                        omega
                      exact retV hx hb hr hlk hP hD hS (vy_2, x_204, r_106) ⟨rfl, ha_205, (TpB.at h_tb hr_212 h_tape.2.2.2.2.1 pf_7 hr_213 h2_207 (te_2 hr_208 he_107.1 h2_211 hi_209) he_107.1)⟩ [0, 1] rfl rfl dX10_step_242 (Nat.le_of_ble_eq_true rfl) (Nat.le_of_ble_eq_true rfl) rfl
            · skip
              have loop_218 : ∀ (n_216 : Nat) (vy_215 : Int32) (H : Heap) (locs : List Loc) (ls : Array Slot), (401 - (vy_215 : Int32).toInt).toNat < n_216 → (0 ≤ (vy_215 : Int32).toInt ∧ (vy_215 : Int32).toInt ≤ 400) → (Rn pz_isD (Tf 1) (Tv 0) vy_2 vy_215) → va_P D classes [((Ta 0), .inr (10, [.ref (Ta 1), .int (Tv 0), .int vy_2, .int vy_215, .int r_106, .int (Tv 4)])), ((Ta 1), .inl (tc 0, 400, .inl (Tf 1)))] H → va_D A [((Ta 0), .inr (10, [.ref (Ta 1), .int (Tv 0), .int vy_2, .int vy_215, .int r_106, .int (Tv 4)])), ((Ta 1), .inl (tc 0, 400, .inl (Tf 1)))] → va_S A s.heap H locs → lv_has ls 2 [(0, .ref (Ta 0))] → W p l e ({ frames := 1, cells := 0, slots := 0, locals := 21 }) s m ([.ref (Ta 0)].toArray) below meth c H locs 0 0 (MQ below (QW (fun (v : Option Value) (u : (Int32) × (Int32) × (Int32)) => match u with | (oo0x1, oo0x2, oo0x3) => v = none ∧ (0 ≤ ((Tv 0) : Int32).toInt ∧ ((Tv 0) : Int32).toInt ≤ 400 ∧ 0 ≤ (oo0x1 : Int32).toInt ∧ (oo0x1 : Int32).toInt ≤ 400 ∧ 0 ≤ (oo0x2 : Int32).toInt ∧ (oo0x2 : Int32).toInt ≤ 400) ∧ (TpR (Tf 1) (Tv 0) (rSK (cB (Tf 1) (Tv 0)) rr) oo0x1 oo0x2 oo0x3 (Tv 4))) (BW D (fun (u : (Int32) × (Int32) × (Int32)) => match u with | (oo0x1, oo0x2, oo0x3) => [((Ta 0), .inr (10, [.ref (Ta 1), .int (Tv 0), .int oo0x1, .int oo0x2, .int oo0x3, .int (Tv 4)])), ((Ta 1), .inl (tc 0, 400, .inl (Tf 1)))]) A) A) ([.ref (Ta 0)].toArray) s 0 0 A) (F0 m 134 ls []) := by
                clear hP hD hS hl
                intro n_216
                induction n_216 with
                | zero =>
                  intro vy_215 H locs ls h1
                  exact absurd h1 (Nat.not_lt_zero _)
                | succ n_216 ih_217 =>
                  intro vy_215 H locs ls hn_221 pf_219 pf_220 hP hD hS hl
                  refine lv_aload_n hx hb dX10_step_134 rfl (lv_at hl 0 rfl) ?_
                  refine gf_X10_22 hx hb hts hown hK hP 0 rfl rfl dX10_step_135 ?_
                  refine lv_aload_n hx hb dX10_step_138 rfl (lv_at hl 0 rfl) ?_
                  refine gf_X10_15 hx hb hts hown hK hP 0 rfl rfl dX10_step_139 ?_
                  refine lv_icmp_ge (tgt := 242) hx hb dX10_step_142 (by decide) (fun c_222 => ?_) (fun c_222 => ?_)
                  · skip
                    have ha_223 : 0 ≤ ((Tv 0) : Int32).toInt ∧ ((Tv 0) : Int32).toInt ≤ 400 ∧ 0 ≤ (vy_2 : Int32).toInt ∧ (vy_2 : Int32).toInt ≤ 400 ∧ 0 ≤ (vy_215 : Int32).toInt ∧ (vy_215 : Int32).toInt ≤ 400 := by
                      have z_1 := Int32.le_iff_toInt_le.mp c_9
                      have z_2 := congrArg Int32.toInt c_10
                      have z_3 := congrArg Int32.toInt c_115
                      have z_4 : ¬ (r_119 : Int32).toInt = (0 : Int32).toInt := fun z => c_122 (Int32.toInt_inj.mp z)
                      have z_5 := Int32.le_iff_toInt_le.mp c_222
                      have y_0 : (0 : Int32).toInt = 0 := by decide
                      omega
                    have rg_224 := cB_rg (n := (Tv 0)) h_by (vy_2 : Int32).toInt.toNat
                    have h2_225 : ¬ cB (Tf 1) (Tv 0) (vy_2 : Int32).toInt.toNat = 32 := by
                      have z_1 := Int32.le_iff_toInt_le.mp c_9
                      have z_2 := congrArg Int32.toInt c_10
                      have z_3 := congrArg Int32.toInt c_115
                      have z_4 : ¬ (r_119 : Int32).toInt = (0 : Int32).toInt := fun z => c_122 (Int32.toInt_inj.mp z)
                      have z_5 := Int32.le_iff_toInt_le.mp c_222
                      have y_0 : (0 : Int32).toInt = 0 := by decide
                      omega
                    have hr_226 : 0 ≤ (vy_2 : Int32).toInt := by
                      have z_1 := Int32.le_iff_toInt_le.mp c_9
                      have z_2 := congrArg Int32.toInt c_10
                      have z_3 := congrArg Int32.toInt c_115
                      have z_4 : ¬ (r_119 : Int32).toInt = (0 : Int32).toInt := fun z => c_122 (Int32.toInt_inj.mp z)
                      have z_5 := Int32.le_iff_toInt_le.mp c_222
                      have y_0 : (0 : Int32).toInt = 0 := by decide
                      omega
                    have rg_227 := cB_rg (n := (Tv 0)) h_by (vy_215 : Int32).toInt.toNat
                    have hn_228 : ¬ (48 ≤ cB (Tf 1) (Tv 0) (vy_215 : Int32).toInt.toNat ∧ cB (Tf 1) (Tv 0) (vy_215 : Int32).toInt.toNat ≤ 57) := by
                      have z_1 := Int32.le_iff_toInt_le.mp c_9
                      have z_2 := congrArg Int32.toInt c_10
                      have z_3 := congrArg Int32.toInt c_115
                      have z_4 : ¬ (r_119 : Int32).toInt = (0 : Int32).toInt := fun z => c_122 (Int32.toInt_inj.mp z)
                      have z_5 := Int32.le_iff_toInt_le.mp c_222
                      have y_0 : (0 : Int32).toInt = 0 := by decide
                      omega
                    have hr_229 : 48 ≤ (r_106 : Int32).toInt ∧ (r_106 : Int32).toInt ≤ 57 := by
                      have z_1 := Int32.le_iff_toInt_le.mp c_9
                      have z_2 := congrArg Int32.toInt c_10
                      have z_3 := congrArg Int32.toInt c_115
                      have z_4 : ¬ (r_119 : Int32).toInt = (0 : Int32).toInt := fun z => c_122 (Int32.toInt_inj.mp z)
                      have z_5 := Int32.le_iff_toInt_le.mp c_222
                      have y_0 : (0 : Int32).toInt = 0 := by decide
                      omega
                    have hr_230 : (vy_215 : Int32).toInt ≤ 400 := by
                      have z_1 := Int32.le_iff_toInt_le.mp c_9
                      have z_2 := congrArg Int32.toInt c_10
                      have z_3 := congrArg Int32.toInt c_115
                      have z_4 : ¬ (r_119 : Int32).toInt = (0 : Int32).toInt := fun z => c_122 (Int32.toInt_inj.mp z)
                      have z_5 := Int32.le_iff_toInt_le.mp c_222
                      have y_0 : (0 : Int32).toInt = 0 := by decide
                      omega
                    have hr_231 : ((Tv 4) : Int32).toInt = 0 := by
                      have z_1 := Int32.le_iff_toInt_le.mp c_9
                      have z_2 := congrArg Int32.toInt c_10
                      have z_3 := congrArg Int32.toInt c_115
                      have z_4 : ¬ (r_119 : Int32).toInt = (0 : Int32).toInt := fun z => c_122 (Int32.toInt_inj.mp z)
                      have z_5 := Int32.le_iff_toInt_le.mp c_222
                      have y_0 : (0 : Int32).toInt = 0 := by decide
                      omega
                    have hr_232 : (vy_2 : Int32).toInt ≤ 400 := by
                      have z_1 := Int32.le_iff_toInt_le.mp c_9
                      have z_2 := congrArg Int32.toInt c_10
                      have z_3 := congrArg Int32.toInt c_115
                      have z_4 : ¬ (r_119 : Int32).toInt = (0 : Int32).toInt := fun z => c_122 (Int32.toInt_inj.mp z)
                      have z_5 := Int32.le_iff_toInt_le.mp c_222
                      have y_0 : (0 : Int32).toInt = 0 := by decide
                      omega
                    exact retV hx hb hr hlk hP hD hS (vy_2, vy_215, r_106) ⟨rfl, ha_223, (TpB.at h_tb hr_231 h_tape.2.2.2.2.1 pf_7 hr_232 h2_225 (te_D hr_226 he_107.1 hr_229 pf_220 hr_230 hn_228) he_107.1)⟩ [0, 1] rfl rfl dX10_step_242 (Nat.le_of_ble_eq_true rfl) (Nat.le_of_ble_eq_true rfl) rfl
                  · skip
                    refine lv_aload_n hx hb dX10_step_145 rfl (lv_at hl 0 rfl) ?_
                    refine lv_aload_n hx hb dX10_step_146 rfl (lv_at hl 0 rfl) ?_
                    refine gf_X10_22 hx hb hts hown hK hP 0 rfl rfl dX10_step_147 ?_
                    have ha_233 : 0 ≤ ((Tv 0) : Int32).toInt ∧ ((Tv 0) : Int32).toInt ≤ 400 ∧ 0 ≤ (vy_2 : Int32).toInt ∧ (vy_2 : Int32).toInt ≤ 400 ∧ 0 ≤ (vy_215 : Int32).toInt ∧ (vy_215 : Int32).toInt ≤ 400 := by
                      have z_1 := Int32.le_iff_toInt_le.mp c_9
                      have z_2 := congrArg Int32.toInt c_10
                      have z_3 := congrArg Int32.toInt c_115
                      have z_4 : ¬ (r_119 : Int32).toInt = (0 : Int32).toInt := fun z => c_122 (Int32.toInt_inj.mp z)
                      have z_5 := Int32.lt_iff_toInt_lt.mp (Int32.not_le.mp c_222)
                      have y_0 : (0 : Int32).toInt = 0 := by decide
                      omega
                    have ha_234 : 0 ≤ vy_215.toInt := by
                      have z_1 := Int32.le_iff_toInt_le.mp c_9
                      have z_2 := congrArg Int32.toInt c_10
                      have z_3 := congrArg Int32.toInt c_115
                      have z_4 : ¬ (r_119 : Int32).toInt = (0 : Int32).toInt := fun z => c_122 (Int32.toInt_inj.mp z)
                      have z_5 := Int32.lt_iff_toInt_lt.mp (Int32.not_le.mp c_222)
                      have y_0 : (0 : Int32).toInt = 0 := by decide
                      omega
                    refine cV (a := (Ta 0)) (As := [.int vy_215]) (rest := []) (wr := []) ⟨hx, hb, hml, hown, hts⟩ hK hX hA (cu_fX10_byteAt l D tc sk (Ta 0) (Ta 1) (Tv 0) vy_2 vy_215 r_106 (Tv 4) (Tf 1) vy_215 ha_233 h_by ha_234) k_482 k_479 k_481 k_0 k_96 pl_X10_byteAt ⟨Nat.le_of_ble_eq_true rfl, Nat.le_of_ble_eq_true rfl⟩ rfl rfl (va_recv hK hP (ci := 10) (q0 := 0) rfl rfl) hP hD hS [0, 1] [] rfl rfl rfl rfl rfl (by decide) rfl hl.1 rfl (Nat.le_of_ble_eq_true rfl) dX10_step_150 ⟨Nat.le_of_ble_eq_true rfl, Nat.le_of_ble_eq_true rfl⟩ (fun v_235 u_236 H locs hv_237 hP₀ hD₀ hS₀ => ?_)
                    obtain ⟨r_238, rfl, he_239⟩ := hv_237
                    have he_239 : (r_238.toInt = cB (Tf 1) (Tv 0) vy_215.toInt.toNat ∧ (((Tv 0).toInt ≤ vy_215.toInt ∧ r_238.toInt = -1) ∨ (vy_215.toInt < (Tv 0).toInt ∧ 0 ≤ r_238.toInt ∧ r_238.toInt ≤ 255))) := he_239
                    refine W.eq (g2 := F0 m 153 ls [.int r_238]) rfl ?_
                    replace hP : va_P D classes [((Ta 0), .inr (10, [.ref (Ta 1), .int (Tv 0), .int vy_2, .int vy_215, .int r_106, .int (Tv 4)])), ((Ta 1), .inl (tc 0, 400, .inl (Tf 1)))] H := hP₀
                    replace hD : va_D A [((Ta 0), .inr (10, [.ref (Ta 1), .int (Tv 0), .int vy_2, .int vy_215, .int r_106, .int (Tv 4)])), ((Ta 1), .inl (tc 0, 400, .inl (Tf 1)))] := hD₀
                    replace hS := hS₀
                    clear hP₀ hD₀ hS₀
                    refine cS (As := [.int r_238]) (rest := []) (wr := [((Ta 0), .inr (10, [.ref (Ta 1), .int (Tv 0), .int vy_2, .int vy_215, .int r_106, .int (Tv 4)])), ((Ta 1), .inl (tc 0, 400, .inl (Tf 1)))]) ⟨hx, hb, hml, hown, hts⟩ hK hX hA (ct_fX10_isDigit l D tc sk r_238) k_488 k_486 k_487 k_96 pl_X10_isDigit ⟨Nat.le_of_ble_eq_true rfl, Nat.le_of_ble_eq_true rfl⟩ rfl rfl  hP hD hS [] [0, 1] rfl rfl rfl rfl rfl (by decide) rfl hl.1 rfl (Nat.le_of_ble_eq_true rfl) dX10_step_153 ⟨Nat.le_of_ble_eq_true rfl, Nat.le_of_ble_eq_true rfl⟩ (fun v_241 u_242 H locs hv_243 hP₀ hD₀ hS₀ => ?_)
                    obtain ⟨r_244, rfl, he_245⟩ := hv_243
                    have he_245 : ((r_244.toInt = 1 ∧ 48 ≤ r_238.toInt ∧ r_238.toInt ≤ 57) ∨ (r_244.toInt = 0 ∧ (r_238.toInt < 48 ∨ 57 < r_238.toInt))) := he_245
                    refine W.eq (g2 := F0 m 156 ls [.int r_244]) rfl ?_
                    replace hP : va_P D classes [((Ta 0), .inr (10, [.ref (Ta 1), .int (Tv 0), .int vy_2, .int vy_215, .int r_106, .int (Tv 4)])), ((Ta 1), .inl (tc 0, 400, .inl (Tf 1)))] H := hP₀
                    replace hD : va_D A [((Ta 0), .inr (10, [.ref (Ta 1), .int (Tv 0), .int vy_2, .int vy_215, .int r_106, .int (Tv 4)])), ((Ta 1), .inl (tc 0, 400, .inl (Tf 1)))] := hD₀
                    replace hS := hS₀
                    clear hP₀ hD₀ hS₀
                    refine lv_if_eq (tgt := 242) hx hb dX10_step_156 (by decide) (fun c_247 => ?_) (fun c_247 => ?_)
                    · skip
                      have ha_248 : 0 ≤ ((Tv 0) : Int32).toInt ∧ ((Tv 0) : Int32).toInt ≤ 400 ∧ 0 ≤ (vy_2 : Int32).toInt ∧ (vy_2 : Int32).toInt ≤ 400 ∧ 0 ≤ (vy_215 : Int32).toInt ∧ (vy_215 : Int32).toInt ≤ 400 := by
                        have z_1 := Int32.le_iff_toInt_le.mp c_9
                        have z_2 := congrArg Int32.toInt c_10
                        have z_3 := congrArg Int32.toInt c_115
                        have z_4 : ¬ (r_119 : Int32).toInt = (0 : Int32).toInt := fun z => c_122 (Int32.toInt_inj.mp z)
                        have z_5 := Int32.lt_iff_toInt_lt.mp (Int32.not_le.mp c_222)
                        have z_6 := congrArg Int32.toInt c_247
                        have y_0 : (0 : Int32).toInt = 0 := by decide
                        omega
                      have rg_249 := cB_rg (n := (Tv 0)) h_by (vy_2 : Int32).toInt.toNat
                      have h2_250 : ¬ cB (Tf 1) (Tv 0) (vy_2 : Int32).toInt.toNat = 32 := by
                        have z_1 := Int32.le_iff_toInt_le.mp c_9
                        have z_2 := congrArg Int32.toInt c_10
                        have z_3 := congrArg Int32.toInt c_115
                        have z_4 : ¬ (r_119 : Int32).toInt = (0 : Int32).toInt := fun z => c_122 (Int32.toInt_inj.mp z)
                        have z_5 := Int32.lt_iff_toInt_lt.mp (Int32.not_le.mp c_222)
                        have z_6 := congrArg Int32.toInt c_247
                        have y_0 : (0 : Int32).toInt = 0 := by decide
                        omega
                      have hr_251 : 0 ≤ (vy_2 : Int32).toInt := by
                        have z_1 := Int32.le_iff_toInt_le.mp c_9
                        have z_2 := congrArg Int32.toInt c_10
                        have z_3 := congrArg Int32.toInt c_115
                        have z_4 : ¬ (r_119 : Int32).toInt = (0 : Int32).toInt := fun z => c_122 (Int32.toInt_inj.mp z)
                        have z_5 := Int32.lt_iff_toInt_lt.mp (Int32.not_le.mp c_222)
                        have z_6 := congrArg Int32.toInt c_247
                        have y_0 : (0 : Int32).toInt = 0 := by decide
                        omega
                      have rg_252 := cB_rg (n := (Tv 0)) h_by (vy_215 : Int32).toInt.toNat
                      have hn_253 : ¬ (48 ≤ cB (Tf 1) (Tv 0) (vy_215 : Int32).toInt.toNat ∧ cB (Tf 1) (Tv 0) (vy_215 : Int32).toInt.toNat ≤ 57) := by
                        have z_1 := Int32.le_iff_toInt_le.mp c_9
                        have z_2 := congrArg Int32.toInt c_10
                        have z_3 := congrArg Int32.toInt c_115
                        have z_4 : ¬ (r_119 : Int32).toInt = (0 : Int32).toInt := fun z => c_122 (Int32.toInt_inj.mp z)
                        have z_5 := Int32.lt_iff_toInt_lt.mp (Int32.not_le.mp c_222)
                        have z_6 := congrArg Int32.toInt c_247
                        have y_0 : (0 : Int32).toInt = 0 := by decide
                        omega
                      have hr_254 : 48 ≤ (r_106 : Int32).toInt ∧ (r_106 : Int32).toInt ≤ 57 := by
                        have z_1 := Int32.le_iff_toInt_le.mp c_9
                        have z_2 := congrArg Int32.toInt c_10
                        have z_3 := congrArg Int32.toInt c_115
                        have z_4 : ¬ (r_119 : Int32).toInt = (0 : Int32).toInt := fun z => c_122 (Int32.toInt_inj.mp z)
                        have z_5 := Int32.lt_iff_toInt_lt.mp (Int32.not_le.mp c_222)
                        have z_6 := congrArg Int32.toInt c_247
                        have y_0 : (0 : Int32).toInt = 0 := by decide
                        omega
                      have hr_255 : (vy_215 : Int32).toInt ≤ 400 := by
                        have z_1 := Int32.le_iff_toInt_le.mp c_9
                        have z_2 := congrArg Int32.toInt c_10
                        have z_3 := congrArg Int32.toInt c_115
                        have z_4 : ¬ (r_119 : Int32).toInt = (0 : Int32).toInt := fun z => c_122 (Int32.toInt_inj.mp z)
                        have z_5 := Int32.lt_iff_toInt_lt.mp (Int32.not_le.mp c_222)
                        have z_6 := congrArg Int32.toInt c_247
                        have y_0 : (0 : Int32).toInt = 0 := by decide
                        omega
                      have hr_256 : ((Tv 4) : Int32).toInt = 0 := by
                        have z_1 := Int32.le_iff_toInt_le.mp c_9
                        have z_2 := congrArg Int32.toInt c_10
                        have z_3 := congrArg Int32.toInt c_115
                        have z_4 : ¬ (r_119 : Int32).toInt = (0 : Int32).toInt := fun z => c_122 (Int32.toInt_inj.mp z)
                        have z_5 := Int32.lt_iff_toInt_lt.mp (Int32.not_le.mp c_222)
                        have z_6 := congrArg Int32.toInt c_247
                        have y_0 : (0 : Int32).toInt = 0 := by decide
                        omega
                      have hr_257 : (vy_2 : Int32).toInt ≤ 400 := by
                        have z_1 := Int32.le_iff_toInt_le.mp c_9
                        have z_2 := congrArg Int32.toInt c_10
                        have z_3 := congrArg Int32.toInt c_115
                        have z_4 : ¬ (r_119 : Int32).toInt = (0 : Int32).toInt := fun z => c_122 (Int32.toInt_inj.mp z)
                        have z_5 := Int32.lt_iff_toInt_lt.mp (Int32.not_le.mp c_222)
                        have z_6 := congrArg Int32.toInt c_247
                        have y_0 : (0 : Int32).toInt = 0 := by decide
                        omega
                      exact retV hx hb hr hlk hP hD hS (vy_2, vy_215, r_106) ⟨rfl, ha_248, (TpB.at h_tb hr_256 h_tape.2.2.2.2.1 pf_7 hr_257 h2_250 (te_D hr_251 he_107.1 hr_254 pf_220 hr_255 hn_253) he_107.1)⟩ [0, 1] rfl rfl dX10_step_242 (Nat.le_of_ble_eq_true rfl) (Nat.le_of_ble_eq_true rfl) rfl
                    · skip
                      refine lv_aload_n hx hb dX10_step_159 rfl (lv_at hl 0 rfl) ?_
                      refine lv_dup hx hb dX10_step_160 rfl ?_
                      refine gf_X10_22 hx hb hts hown hK hP 0 rfl rfl dX10_step_161 ?_
                      refine lv_iconst (v := 1) hx hb dX10_step_164 (by decide) ?_
                      refine lv_iadd hx hb dX10_step_165 ?_
                      refine lv_topi (fun x_258 ex_258 => ?_)
                      refine pf_X10_22 hx hb hts hown hK hP hD hS 0 rfl (Nat.le_of_ble_eq_true rfl) rfl rfl dX10_step_166 (fun H locs hP₀ hD₀ hS₀ => ?_)
                      replace hP : va_P D classes [((Ta 0), .inr (10, [.ref (Ta 1), .int (Tv 0), .int vy_2, .int x_258, .int r_106, .int (Tv 4)])), ((Ta 1), .inl (tc 0, 400, .inl (Tf 1)))] H := hP₀
                      replace hD : va_D A [((Ta 0), .inr (10, [.ref (Ta 1), .int (Tv 0), .int vy_2, .int x_258, .int r_106, .int (Tv 4)])), ((Ta 1), .inl (tc 0, 400, .inl (Tf 1)))] := hD₀
                      replace hS := hS₀
                      clear hP₀ hD₀ hS₀
                      refine lv_goto (tgt := 134) hx hb dX10_step_169 (by decide) ?_
                      have hb_259 : 401 - (x_258 : Int32).toInt < 401 - (vy_215 : Int32).toInt ∧ 1 ≤ 401 - (vy_215 : Int32).toInt := by
                        have z_1 := Int32.le_iff_toInt_le.mp c_9
                        have z_2 := congrArg Int32.toInt c_10
                        have z_3 := congrArg Int32.toInt c_115
                        have z_4 : ¬ (r_119 : Int32).toInt = (0 : Int32).toInt := fun z => c_122 (Int32.toInt_inj.mp z)
                        have z_5 := Int32.lt_iff_toInt_lt.mp (Int32.not_le.mp c_222)
                        have z_6 : ¬ (r_244 : Int32).toInt = (0 : Int32).toInt := fun z => c_247 (Int32.toInt_inj.mp z)
                        have y_0 : (0 : Int32).toInt = 0 := by decide
                        have y_1 : (1 : Int32).toInt = 1 := by decide
                        have t_x_258 : x_258.toInt = (vy_215 : Int32).toInt + (1 : Int32).toInt := by rw [ex_258]; exact add_toInt (by omega) (by omega)
                        omega
                      have ha_260 : 0 ≤ (x_258 : Int32).toInt ∧ (x_258 : Int32).toInt ≤ 400 := by
                        have z_1 := Int32.le_iff_toInt_le.mp c_9
                        have z_2 := congrArg Int32.toInt c_10
                        have z_3 := congrArg Int32.toInt c_115
                        have z_4 : ¬ (r_119 : Int32).toInt = (0 : Int32).toInt := fun z => c_122 (Int32.toInt_inj.mp z)
                        have z_5 := Int32.lt_iff_toInt_lt.mp (Int32.not_le.mp c_222)
                        have z_6 : ¬ (r_244 : Int32).toInt = (0 : Int32).toInt := fun z => c_247 (Int32.toInt_inj.mp z)
                        have y_0 : (0 : Int32).toInt = 0 := by decide
                        have y_1 : (1 : Int32).toInt = 1 := by decide
                        have t_x_258 : x_258.toInt = (vy_215 : Int32).toInt + (1 : Int32).toInt := by rw [ex_258]; exact add_toInt (by omega) (by omega)
                        omega
                      have hr_261 : 0 ≤ (vy_215 : Int32).toInt := by
                        have z_1 := Int32.le_iff_toInt_le.mp c_9
                        have z_2 := congrArg Int32.toInt c_10
                        have z_3 := congrArg Int32.toInt c_115
                        have z_4 : ¬ (r_119 : Int32).toInt = (0 : Int32).toInt := fun z => c_122 (Int32.toInt_inj.mp z)
                        have z_5 := Int32.lt_iff_toInt_lt.mp (Int32.not_le.mp c_222)
                        have z_6 : ¬ (r_244 : Int32).toInt = (0 : Int32).toInt := fun z => c_247 (Int32.toInt_inj.mp z)
                        have y_0 : (0 : Int32).toInt = 0 := by decide
                        omega
                      have hr_262 : 48 ≤ (r_238 : Int32).toInt ∧ (r_238 : Int32).toInt ≤ 57 := by
                        have z_1 := Int32.le_iff_toInt_le.mp c_9
                        have z_2 := congrArg Int32.toInt c_10
                        have z_3 := congrArg Int32.toInt c_115
                        have z_4 : ¬ (r_119 : Int32).toInt = (0 : Int32).toInt := fun z => c_122 (Int32.toInt_inj.mp z)
                        have z_5 := Int32.lt_iff_toInt_lt.mp (Int32.not_le.mp c_222)
                        have z_6 : ¬ (r_244 : Int32).toInt = (0 : Int32).toInt := fun z => c_247 (Int32.toInt_inj.mp z)
                        have y_0 : (0 : Int32).toInt = 0 := by decide
                        omega
                      have hi_263 : (x_258 : Int32).toInt = (vy_215 : Int32).toInt + 1 := by
                        have z_1 := Int32.le_iff_toInt_le.mp c_9
                        have z_2 := congrArg Int32.toInt c_10
                        have z_3 := congrArg Int32.toInt c_115
                        have z_4 : ¬ (r_119 : Int32).toInt = (0 : Int32).toInt := fun z => c_122 (Int32.toInt_inj.mp z)
                        have z_5 := Int32.lt_iff_toInt_lt.mp (Int32.not_le.mp c_222)
                        have z_6 : ¬ (r_244 : Int32).toInt = (0 : Int32).toInt := fun z => c_247 (Int32.toInt_inj.mp z)
                        have y_0 : (0 : Int32).toInt = 0 := by decide
                        have y_1 : (1 : Int32).toInt = 1 := by decide
                        have t_x_258 : x_258.toInt = (vy_215 : Int32).toInt + (1 : Int32).toInt := by rw [ex_258]; exact add_toInt (by omega) (by omega)
                        omega
                      exact ih_217 x_258 _ _ _ (by omega) ha_260 (Rn.st pf_220 hr_261 he_239.1 (decide_eq_true hr_262) hi_263) (hP.sub [0, 1] rfl) (hD.sub [0, 1] rfl rfl) hS (lv_sub hl [0] rfl)
              exact loop_218 _ vy_2 _ _ _ (Nat.lt_succ_self _) pf_6 (Rn.rf) hP hD hS hl
          · skip
            have loop_268 : ∀ (n_266 : Nat) (vy_265 : Int32) (H : Heap) (locs : List Loc) (ls : Array Slot), (401 - (vy_265 : Int32).toInt).toNat < n_266 → (0 ≤ (vy_265 : Int32).toInt ∧ (vy_265 : Int32).toInt ≤ 400) → (Rn pz_isL (Tf 1) (Tv 0) vy_2 vy_265) → va_P D classes [((Ta 0), .inr (10, [.ref (Ta 1), .int (Tv 0), .int vy_2, .int vy_265, .int r_106, .int (Tv 4)])), ((Ta 1), .inl (tc 0, 400, .inl (Tf 1)))] H → va_D A [((Ta 0), .inr (10, [.ref (Ta 1), .int (Tv 0), .int vy_2, .int vy_265, .int r_106, .int (Tv 4)])), ((Ta 1), .inl (tc 0, 400, .inl (Tf 1)))] → va_S A s.heap H locs → lv_has ls 2 [(0, .ref (Ta 0))] → W p l e ({ frames := 1, cells := 0, slots := 0, locals := 21 }) s m ([.ref (Ta 0)].toArray) below meth c H locs 0 0 (MQ below (QW (fun (v : Option Value) (u : (Int32) × (Int32) × (Int32)) => match u with | (oo0x1, oo0x2, oo0x3) => v = none ∧ (0 ≤ ((Tv 0) : Int32).toInt ∧ ((Tv 0) : Int32).toInt ≤ 400 ∧ 0 ≤ (oo0x1 : Int32).toInt ∧ (oo0x1 : Int32).toInt ≤ 400 ∧ 0 ≤ (oo0x2 : Int32).toInt ∧ (oo0x2 : Int32).toInt ≤ 400) ∧ (TpR (Tf 1) (Tv 0) (rSK (cB (Tf 1) (Tv 0)) rr) oo0x1 oo0x2 oo0x3 (Tv 4))) (BW D (fun (u : (Int32) × (Int32) × (Int32)) => match u with | (oo0x1, oo0x2, oo0x3) => [((Ta 0), .inr (10, [.ref (Ta 1), .int (Tv 0), .int oo0x1, .int oo0x2, .int oo0x3, .int (Tv 4)])), ((Ta 1), .inl (tc 0, 400, .inl (Tf 1)))]) A) A) ([.ref (Ta 0)].toArray) s 0 0 A) (F0 m 86 ls []) := by
              clear hP hD hS hl
              intro n_266
              induction n_266 with
              | zero =>
                intro vy_265 H locs ls h1
                exact absurd h1 (Nat.not_lt_zero _)
              | succ n_266 ih_267 =>
                intro vy_265 H locs ls hn_271 pf_269 pf_270 hP hD hS hl
                refine lv_aload_n hx hb dX10_step_86 rfl (lv_at hl 0 rfl) ?_
                refine gf_X10_22 hx hb hts hown hK hP 0 rfl rfl dX10_step_87 ?_
                refine lv_aload_n hx hb dX10_step_90 rfl (lv_at hl 0 rfl) ?_
                refine gf_X10_15 hx hb hts hown hK hP 0 rfl rfl dX10_step_91 ?_
                refine lv_icmp_ge (tgt := 242) hx hb dX10_step_94 (by decide) (fun c_272 => ?_) (fun c_272 => ?_)
                · skip
                  have ha_273 : 0 ≤ ((Tv 0) : Int32).toInt ∧ ((Tv 0) : Int32).toInt ≤ 400 ∧ 0 ≤ (vy_2 : Int32).toInt ∧ (vy_2 : Int32).toInt ≤ 400 ∧ 0 ≤ (vy_265 : Int32).toInt ∧ (vy_265 : Int32).toInt ≤ 400 := by
                    have z_1 := Int32.le_iff_toInt_le.mp c_9
                    have z_2 := congrArg Int32.toInt c_10
                    have z_3 : ¬ (r_112 : Int32).toInt = (0 : Int32).toInt := fun z => c_115 (Int32.toInt_inj.mp z)
                    have z_4 := Int32.le_iff_toInt_le.mp c_272
                    have y_0 : (0 : Int32).toInt = 0 := by decide
                    omega
                  have rg_274 := cB_rg (n := (Tv 0)) h_by (vy_2 : Int32).toInt.toNat
                  have h2_275 : ¬ cB (Tf 1) (Tv 0) (vy_2 : Int32).toInt.toNat = 32 := by
                    have z_1 := Int32.le_iff_toInt_le.mp c_9
                    have z_2 := congrArg Int32.toInt c_10
                    have z_3 : ¬ (r_112 : Int32).toInt = (0 : Int32).toInt := fun z => c_115 (Int32.toInt_inj.mp z)
                    have z_4 := Int32.le_iff_toInt_le.mp c_272
                    have y_0 : (0 : Int32).toInt = 0 := by decide
                    omega
                  have hr_276 : 0 ≤ (vy_2 : Int32).toInt := by
                    have z_1 := Int32.le_iff_toInt_le.mp c_9
                    have z_2 := congrArg Int32.toInt c_10
                    have z_3 : ¬ (r_112 : Int32).toInt = (0 : Int32).toInt := fun z => c_115 (Int32.toInt_inj.mp z)
                    have z_4 := Int32.le_iff_toInt_le.mp c_272
                    have y_0 : (0 : Int32).toInt = 0 := by decide
                    omega
                  have rg_277 := cB_rg (n := (Tv 0)) h_by (vy_265 : Int32).toInt.toNat
                  have hn_278 : ¬ (97 ≤ cB (Tf 1) (Tv 0) (vy_265 : Int32).toInt.toNat ∧ cB (Tf 1) (Tv 0) (vy_265 : Int32).toInt.toNat ≤ 122) := by
                    have z_1 := Int32.le_iff_toInt_le.mp c_9
                    have z_2 := congrArg Int32.toInt c_10
                    have z_3 : ¬ (r_112 : Int32).toInt = (0 : Int32).toInt := fun z => c_115 (Int32.toInt_inj.mp z)
                    have z_4 := Int32.le_iff_toInt_le.mp c_272
                    have y_0 : (0 : Int32).toInt = 0 := by decide
                    omega
                  have hr_279 : 97 ≤ (r_106 : Int32).toInt ∧ (r_106 : Int32).toInt ≤ 122 := by
                    have z_1 := Int32.le_iff_toInt_le.mp c_9
                    have z_2 := congrArg Int32.toInt c_10
                    have z_3 : ¬ (r_112 : Int32).toInt = (0 : Int32).toInt := fun z => c_115 (Int32.toInt_inj.mp z)
                    have z_4 := Int32.le_iff_toInt_le.mp c_272
                    have y_0 : (0 : Int32).toInt = 0 := by decide
                    omega
                  have hr_280 : (vy_265 : Int32).toInt ≤ 400 := by
                    have z_1 := Int32.le_iff_toInt_le.mp c_9
                    have z_2 := congrArg Int32.toInt c_10
                    have z_3 : ¬ (r_112 : Int32).toInt = (0 : Int32).toInt := fun z => c_115 (Int32.toInt_inj.mp z)
                    have z_4 := Int32.le_iff_toInt_le.mp c_272
                    have y_0 : (0 : Int32).toInt = 0 := by decide
                    omega
                  have hr_281 : ((Tv 4) : Int32).toInt = 0 := by
                    have z_1 := Int32.le_iff_toInt_le.mp c_9
                    have z_2 := congrArg Int32.toInt c_10
                    have z_3 : ¬ (r_112 : Int32).toInt = (0 : Int32).toInt := fun z => c_115 (Int32.toInt_inj.mp z)
                    have z_4 := Int32.le_iff_toInt_le.mp c_272
                    have y_0 : (0 : Int32).toInt = 0 := by decide
                    omega
                  have hr_282 : (vy_2 : Int32).toInt ≤ 400 := by
                    have z_1 := Int32.le_iff_toInt_le.mp c_9
                    have z_2 := congrArg Int32.toInt c_10
                    have z_3 : ¬ (r_112 : Int32).toInt = (0 : Int32).toInt := fun z => c_115 (Int32.toInt_inj.mp z)
                    have z_4 := Int32.le_iff_toInt_le.mp c_272
                    have y_0 : (0 : Int32).toInt = 0 := by decide
                    omega
                  exact retV hx hb hr hlk hP hD hS (vy_2, vy_265, r_106) ⟨rfl, ha_273, (TpB.at h_tb hr_281 h_tape.2.2.2.2.1 pf_7 hr_282 h2_275 (te_L hr_276 he_107.1 hr_279 pf_270 hr_280 hn_278) he_107.1)⟩ [0, 1] rfl rfl dX10_step_242 (Nat.le_of_ble_eq_true rfl) (Nat.le_of_ble_eq_true rfl) rfl
                · skip
                  refine lv_aload_n hx hb dX10_step_97 rfl (lv_at hl 0 rfl) ?_
                  refine lv_aload_n hx hb dX10_step_98 rfl (lv_at hl 0 rfl) ?_
                  refine gf_X10_22 hx hb hts hown hK hP 0 rfl rfl dX10_step_99 ?_
                  have ha_283 : 0 ≤ ((Tv 0) : Int32).toInt ∧ ((Tv 0) : Int32).toInt ≤ 400 ∧ 0 ≤ (vy_2 : Int32).toInt ∧ (vy_2 : Int32).toInt ≤ 400 ∧ 0 ≤ (vy_265 : Int32).toInt ∧ (vy_265 : Int32).toInt ≤ 400 := by
                    have z_1 := Int32.le_iff_toInt_le.mp c_9
                    have z_2 := congrArg Int32.toInt c_10
                    have z_3 : ¬ (r_112 : Int32).toInt = (0 : Int32).toInt := fun z => c_115 (Int32.toInt_inj.mp z)
                    have z_4 := Int32.lt_iff_toInt_lt.mp (Int32.not_le.mp c_272)
                    have y_0 : (0 : Int32).toInt = 0 := by decide
                    omega
                  have ha_284 : 0 ≤ vy_265.toInt := by
                    have z_1 := Int32.le_iff_toInt_le.mp c_9
                    have z_2 := congrArg Int32.toInt c_10
                    have z_3 : ¬ (r_112 : Int32).toInt = (0 : Int32).toInt := fun z => c_115 (Int32.toInt_inj.mp z)
                    have z_4 := Int32.lt_iff_toInt_lt.mp (Int32.not_le.mp c_272)
                    have y_0 : (0 : Int32).toInt = 0 := by decide
                    omega
                  refine cV (a := (Ta 0)) (As := [.int vy_265]) (rest := []) (wr := []) ⟨hx, hb, hml, hown, hts⟩ hK hX hA (cu_fX10_byteAt l D tc sk (Ta 0) (Ta 1) (Tv 0) vy_2 vy_265 r_106 (Tv 4) (Tf 1) vy_265 ha_283 h_by ha_284) k_482 k_479 k_481 k_0 k_96 pl_X10_byteAt ⟨Nat.le_of_ble_eq_true rfl, Nat.le_of_ble_eq_true rfl⟩ rfl rfl (va_recv hK hP (ci := 10) (q0 := 0) rfl rfl) hP hD hS [0, 1] [] rfl rfl rfl rfl rfl (by decide) rfl hl.1 rfl (Nat.le_of_ble_eq_true rfl) dX10_step_102 ⟨Nat.le_of_ble_eq_true rfl, Nat.le_of_ble_eq_true rfl⟩ (fun v_285 u_286 H locs hv_287 hP₀ hD₀ hS₀ => ?_)
                  obtain ⟨r_288, rfl, he_289⟩ := hv_287
                  have he_289 : (r_288.toInt = cB (Tf 1) (Tv 0) vy_265.toInt.toNat ∧ (((Tv 0).toInt ≤ vy_265.toInt ∧ r_288.toInt = -1) ∨ (vy_265.toInt < (Tv 0).toInt ∧ 0 ≤ r_288.toInt ∧ r_288.toInt ≤ 255))) := he_289
                  refine W.eq (g2 := F0 m 105 ls [.int r_288]) rfl ?_
                  replace hP : va_P D classes [((Ta 0), .inr (10, [.ref (Ta 1), .int (Tv 0), .int vy_2, .int vy_265, .int r_106, .int (Tv 4)])), ((Ta 1), .inl (tc 0, 400, .inl (Tf 1)))] H := hP₀
                  replace hD : va_D A [((Ta 0), .inr (10, [.ref (Ta 1), .int (Tv 0), .int vy_2, .int vy_265, .int r_106, .int (Tv 4)])), ((Ta 1), .inl (tc 0, 400, .inl (Tf 1)))] := hD₀
                  replace hS := hS₀
                  clear hP₀ hD₀ hS₀
                  refine cS (As := [.int r_288]) (rest := []) (wr := [((Ta 0), .inr (10, [.ref (Ta 1), .int (Tv 0), .int vy_2, .int vy_265, .int r_106, .int (Tv 4)])), ((Ta 1), .inl (tc 0, 400, .inl (Tf 1)))]) ⟨hx, hb, hml, hown, hts⟩ hK hX hA (ct_fX10_isLetter l D tc sk r_288) k_485 k_483 k_484 k_96 pl_X10_isLetter ⟨Nat.le_of_ble_eq_true rfl, Nat.le_of_ble_eq_true rfl⟩ rfl rfl  hP hD hS [] [0, 1] rfl rfl rfl rfl rfl (by decide) rfl hl.1 rfl (Nat.le_of_ble_eq_true rfl) dX10_step_105 ⟨Nat.le_of_ble_eq_true rfl, Nat.le_of_ble_eq_true rfl⟩ (fun v_291 u_292 H locs hv_293 hP₀ hD₀ hS₀ => ?_)
                  obtain ⟨r_294, rfl, he_295⟩ := hv_293
                  have he_295 : ((r_294.toInt = 1 ∧ 97 ≤ r_288.toInt ∧ r_288.toInt ≤ 122) ∨ (r_294.toInt = 0 ∧ (r_288.toInt < 97 ∨ 122 < r_288.toInt))) := he_295
                  refine W.eq (g2 := F0 m 108 ls [.int r_294]) rfl ?_
                  replace hP : va_P D classes [((Ta 0), .inr (10, [.ref (Ta 1), .int (Tv 0), .int vy_2, .int vy_265, .int r_106, .int (Tv 4)])), ((Ta 1), .inl (tc 0, 400, .inl (Tf 1)))] H := hP₀
                  replace hD : va_D A [((Ta 0), .inr (10, [.ref (Ta 1), .int (Tv 0), .int vy_2, .int vy_265, .int r_106, .int (Tv 4)])), ((Ta 1), .inl (tc 0, 400, .inl (Tf 1)))] := hD₀
                  replace hS := hS₀
                  clear hP₀ hD₀ hS₀
                  refine lv_if_eq (tgt := 242) hx hb dX10_step_108 (by decide) (fun c_297 => ?_) (fun c_297 => ?_)
                  · skip
                    have ha_298 : 0 ≤ ((Tv 0) : Int32).toInt ∧ ((Tv 0) : Int32).toInt ≤ 400 ∧ 0 ≤ (vy_2 : Int32).toInt ∧ (vy_2 : Int32).toInt ≤ 400 ∧ 0 ≤ (vy_265 : Int32).toInt ∧ (vy_265 : Int32).toInt ≤ 400 := by
                      have z_1 := Int32.le_iff_toInt_le.mp c_9
                      have z_2 := congrArg Int32.toInt c_10
                      have z_3 : ¬ (r_112 : Int32).toInt = (0 : Int32).toInt := fun z => c_115 (Int32.toInt_inj.mp z)
                      have z_4 := Int32.lt_iff_toInt_lt.mp (Int32.not_le.mp c_272)
                      have z_5 := congrArg Int32.toInt c_297
                      have y_0 : (0 : Int32).toInt = 0 := by decide
                      omega
                    have rg_299 := cB_rg (n := (Tv 0)) h_by (vy_2 : Int32).toInt.toNat
                    have h2_300 : ¬ cB (Tf 1) (Tv 0) (vy_2 : Int32).toInt.toNat = 32 := by
                      have z_1 := Int32.le_iff_toInt_le.mp c_9
                      have z_2 := congrArg Int32.toInt c_10
                      have z_3 : ¬ (r_112 : Int32).toInt = (0 : Int32).toInt := fun z => c_115 (Int32.toInt_inj.mp z)
                      have z_4 := Int32.lt_iff_toInt_lt.mp (Int32.not_le.mp c_272)
                      have z_5 := congrArg Int32.toInt c_297
                      have y_0 : (0 : Int32).toInt = 0 := by decide
                      omega
                    have hr_301 : 0 ≤ (vy_2 : Int32).toInt := by
                      have z_1 := Int32.le_iff_toInt_le.mp c_9
                      have z_2 := congrArg Int32.toInt c_10
                      have z_3 : ¬ (r_112 : Int32).toInt = (0 : Int32).toInt := fun z => c_115 (Int32.toInt_inj.mp z)
                      have z_4 := Int32.lt_iff_toInt_lt.mp (Int32.not_le.mp c_272)
                      have z_5 := congrArg Int32.toInt c_297
                      have y_0 : (0 : Int32).toInt = 0 := by decide
                      omega
                    have rg_302 := cB_rg (n := (Tv 0)) h_by (vy_265 : Int32).toInt.toNat
                    have hn_303 : ¬ (97 ≤ cB (Tf 1) (Tv 0) (vy_265 : Int32).toInt.toNat ∧ cB (Tf 1) (Tv 0) (vy_265 : Int32).toInt.toNat ≤ 122) := by
                      have z_1 := Int32.le_iff_toInt_le.mp c_9
                      have z_2 := congrArg Int32.toInt c_10
                      have z_3 : ¬ (r_112 : Int32).toInt = (0 : Int32).toInt := fun z => c_115 (Int32.toInt_inj.mp z)
                      have z_4 := Int32.lt_iff_toInt_lt.mp (Int32.not_le.mp c_272)
                      have z_5 := congrArg Int32.toInt c_297
                      have y_0 : (0 : Int32).toInt = 0 := by decide
                      omega
                    have hr_304 : 97 ≤ (r_106 : Int32).toInt ∧ (r_106 : Int32).toInt ≤ 122 := by
                      have z_1 := Int32.le_iff_toInt_le.mp c_9
                      have z_2 := congrArg Int32.toInt c_10
                      have z_3 : ¬ (r_112 : Int32).toInt = (0 : Int32).toInt := fun z => c_115 (Int32.toInt_inj.mp z)
                      have z_4 := Int32.lt_iff_toInt_lt.mp (Int32.not_le.mp c_272)
                      have z_5 := congrArg Int32.toInt c_297
                      have y_0 : (0 : Int32).toInt = 0 := by decide
                      omega
                    have hr_305 : (vy_265 : Int32).toInt ≤ 400 := by
                      have z_1 := Int32.le_iff_toInt_le.mp c_9
                      have z_2 := congrArg Int32.toInt c_10
                      have z_3 : ¬ (r_112 : Int32).toInt = (0 : Int32).toInt := fun z => c_115 (Int32.toInt_inj.mp z)
                      have z_4 := Int32.lt_iff_toInt_lt.mp (Int32.not_le.mp c_272)
                      have z_5 := congrArg Int32.toInt c_297
                      have y_0 : (0 : Int32).toInt = 0 := by decide
                      omega
                    have hr_306 : ((Tv 4) : Int32).toInt = 0 := by
                      have z_1 := Int32.le_iff_toInt_le.mp c_9
                      have z_2 := congrArg Int32.toInt c_10
                      have z_3 : ¬ (r_112 : Int32).toInt = (0 : Int32).toInt := fun z => c_115 (Int32.toInt_inj.mp z)
                      have z_4 := Int32.lt_iff_toInt_lt.mp (Int32.not_le.mp c_272)
                      have z_5 := congrArg Int32.toInt c_297
                      have y_0 : (0 : Int32).toInt = 0 := by decide
                      omega
                    have hr_307 : (vy_2 : Int32).toInt ≤ 400 := by
                      have z_1 := Int32.le_iff_toInt_le.mp c_9
                      have z_2 := congrArg Int32.toInt c_10
                      have z_3 : ¬ (r_112 : Int32).toInt = (0 : Int32).toInt := fun z => c_115 (Int32.toInt_inj.mp z)
                      have z_4 := Int32.lt_iff_toInt_lt.mp (Int32.not_le.mp c_272)
                      have z_5 := congrArg Int32.toInt c_297
                      have y_0 : (0 : Int32).toInt = 0 := by decide
                      omega
                    exact retV hx hb hr hlk hP hD hS (vy_2, vy_265, r_106) ⟨rfl, ha_298, (TpB.at h_tb hr_306 h_tape.2.2.2.2.1 pf_7 hr_307 h2_300 (te_L hr_301 he_107.1 hr_304 pf_270 hr_305 hn_303) he_107.1)⟩ [0, 1] rfl rfl dX10_step_242 (Nat.le_of_ble_eq_true rfl) (Nat.le_of_ble_eq_true rfl) rfl
                  · skip
                    refine lv_aload_n hx hb dX10_step_111 rfl (lv_at hl 0 rfl) ?_
                    refine lv_dup hx hb dX10_step_112 rfl ?_
                    refine gf_X10_22 hx hb hts hown hK hP 0 rfl rfl dX10_step_113 ?_
                    refine lv_iconst (v := 1) hx hb dX10_step_116 (by decide) ?_
                    refine lv_iadd hx hb dX10_step_117 ?_
                    refine lv_topi (fun x_308 ex_308 => ?_)
                    refine pf_X10_22 hx hb hts hown hK hP hD hS 0 rfl (Nat.le_of_ble_eq_true rfl) rfl rfl dX10_step_118 (fun H locs hP₀ hD₀ hS₀ => ?_)
                    replace hP : va_P D classes [((Ta 0), .inr (10, [.ref (Ta 1), .int (Tv 0), .int vy_2, .int x_308, .int r_106, .int (Tv 4)])), ((Ta 1), .inl (tc 0, 400, .inl (Tf 1)))] H := hP₀
                    replace hD : va_D A [((Ta 0), .inr (10, [.ref (Ta 1), .int (Tv 0), .int vy_2, .int x_308, .int r_106, .int (Tv 4)])), ((Ta 1), .inl (tc 0, 400, .inl (Tf 1)))] := hD₀
                    replace hS := hS₀
                    clear hP₀ hD₀ hS₀
                    refine lv_goto (tgt := 86) hx hb dX10_step_121 (by decide) ?_
                    have hb_309 : 401 - (x_308 : Int32).toInt < 401 - (vy_265 : Int32).toInt ∧ 1 ≤ 401 - (vy_265 : Int32).toInt := by
                      have z_1 := Int32.le_iff_toInt_le.mp c_9
                      have z_2 := congrArg Int32.toInt c_10
                      have z_3 : ¬ (r_112 : Int32).toInt = (0 : Int32).toInt := fun z => c_115 (Int32.toInt_inj.mp z)
                      have z_4 := Int32.lt_iff_toInt_lt.mp (Int32.not_le.mp c_272)
                      have z_5 : ¬ (r_294 : Int32).toInt = (0 : Int32).toInt := fun z => c_297 (Int32.toInt_inj.mp z)
                      have y_0 : (0 : Int32).toInt = 0 := by decide
                      have y_1 : (1 : Int32).toInt = 1 := by decide
                      have t_x_308 : x_308.toInt = (vy_265 : Int32).toInt + (1 : Int32).toInt := by rw [ex_308]; exact add_toInt (by omega) (by omega)
                      omega
                    have ha_310 : 0 ≤ (x_308 : Int32).toInt ∧ (x_308 : Int32).toInt ≤ 400 := by
                      have z_1 := Int32.le_iff_toInt_le.mp c_9
                      have z_2 := congrArg Int32.toInt c_10
                      have z_3 : ¬ (r_112 : Int32).toInt = (0 : Int32).toInt := fun z => c_115 (Int32.toInt_inj.mp z)
                      have z_4 := Int32.lt_iff_toInt_lt.mp (Int32.not_le.mp c_272)
                      have z_5 : ¬ (r_294 : Int32).toInt = (0 : Int32).toInt := fun z => c_297 (Int32.toInt_inj.mp z)
                      have y_0 : (0 : Int32).toInt = 0 := by decide
                      have y_1 : (1 : Int32).toInt = 1 := by decide
                      have t_x_308 : x_308.toInt = (vy_265 : Int32).toInt + (1 : Int32).toInt := by rw [ex_308]; exact add_toInt (by omega) (by omega)
                      omega
                    have hr_311 : 0 ≤ (vy_265 : Int32).toInt := by
                      have z_1 := Int32.le_iff_toInt_le.mp c_9
                      have z_2 := congrArg Int32.toInt c_10
                      have z_3 : ¬ (r_112 : Int32).toInt = (0 : Int32).toInt := fun z => c_115 (Int32.toInt_inj.mp z)
                      have z_4 := Int32.lt_iff_toInt_lt.mp (Int32.not_le.mp c_272)
                      have z_5 : ¬ (r_294 : Int32).toInt = (0 : Int32).toInt := fun z => c_297 (Int32.toInt_inj.mp z)
                      have y_0 : (0 : Int32).toInt = 0 := by decide
                      omega
                    have hr_312 : 97 ≤ (r_288 : Int32).toInt ∧ (r_288 : Int32).toInt ≤ 122 := by
                      have z_1 := Int32.le_iff_toInt_le.mp c_9
                      have z_2 := congrArg Int32.toInt c_10
                      have z_3 : ¬ (r_112 : Int32).toInt = (0 : Int32).toInt := fun z => c_115 (Int32.toInt_inj.mp z)
                      have z_4 := Int32.lt_iff_toInt_lt.mp (Int32.not_le.mp c_272)
                      have z_5 : ¬ (r_294 : Int32).toInt = (0 : Int32).toInt := fun z => c_297 (Int32.toInt_inj.mp z)
                      have y_0 : (0 : Int32).toInt = 0 := by decide
                      omega
                    have hi_313 : (x_308 : Int32).toInt = (vy_265 : Int32).toInt + 1 := by
                      have z_1 := Int32.le_iff_toInt_le.mp c_9
                      have z_2 := congrArg Int32.toInt c_10
                      have z_3 : ¬ (r_112 : Int32).toInt = (0 : Int32).toInt := fun z => c_115 (Int32.toInt_inj.mp z)
                      have z_4 := Int32.lt_iff_toInt_lt.mp (Int32.not_le.mp c_272)
                      have z_5 : ¬ (r_294 : Int32).toInt = (0 : Int32).toInt := fun z => c_297 (Int32.toInt_inj.mp z)
                      have y_0 : (0 : Int32).toInt = 0 := by decide
                      have y_1 : (1 : Int32).toInt = 1 := by decide
                      have t_x_308 : x_308.toInt = (vy_265 : Int32).toInt + (1 : Int32).toInt := by rw [ex_308]; exact add_toInt (by omega) (by omega)
                      omega
                    exact ih_267 x_308 _ _ _ (by omega) ha_310 (Rn.st pf_270 hr_311 he_289.1 (decide_eq_true hr_312) hi_313) (hP.sub [0, 1] rfl) (hD.sub [0, 1] rfl rfl) hS (lv_sub hl [0] rfl)
            exact loop_268 _ vy_2 _ _ _ (Nat.lt_succ_self _) pf_6 (Rn.rf) hP hD hS hl
      · skip
        refine lv_aload_n hx hb dX10_step_19 rfl (lv_at hl 0 rfl) ?_
        refine lv_aload_n hx hb dX10_step_20 rfl (lv_at hl 0 rfl) ?_
        refine gf_X10_19 hx hb hts hown hK hP 0 rfl rfl dX10_step_21 ?_
        have ha_314 : 0 ≤ ((Tv 0) : Int32).toInt ∧ ((Tv 0) : Int32).toInt ≤ 400 ∧ 0 ≤ (vy_2 : Int32).toInt ∧ (vy_2 : Int32).toInt ≤ 400 ∧ 0 ≤ ((Tv 2) : Int32).toInt ∧ ((Tv 2) : Int32).toInt ≤ 400 := by
          have z_1 := Int32.lt_iff_toInt_lt.mp (Int32.not_le.mp c_9)
          omega
        have ha_315 : 0 ≤ vy_2.toInt := by
          have z_1 := Int32.lt_iff_toInt_lt.mp (Int32.not_le.mp c_9)
          omega
        refine cV (a := (Ta 0)) (As := [.int vy_2]) (rest := []) (wr := []) ⟨hx, hb, hml, hown, hts⟩ hK hX hA (cu_fX10_byteAt l D tc sk (Ta 0) (Ta 1) (Tv 0) vy_2 (Tv 2) (Tv 3) (Tv 4) (Tf 1) vy_2 ha_314 h_by ha_315) k_482 k_479 k_481 k_0 k_96 pl_X10_byteAt ⟨Nat.le_of_ble_eq_true rfl, Nat.le_of_ble_eq_true rfl⟩ rfl rfl (va_recv hK hP (ci := 10) (q0 := 0) rfl rfl) hP hD hS [0, 1] [] rfl rfl rfl rfl rfl (by decide) rfl hl.1 rfl (Nat.le_of_ble_eq_true rfl) dX10_step_24 ⟨Nat.le_of_ble_eq_true rfl, Nat.le_of_ble_eq_true rfl⟩ (fun v_316 u_317 H locs hv_318 hP₀ hD₀ hS₀ => ?_)
        obtain ⟨r_319, rfl, he_320⟩ := hv_318
        have he_320 : (r_319.toInt = cB (Tf 1) (Tv 0) vy_2.toInt.toNat ∧ (((Tv 0).toInt ≤ vy_2.toInt ∧ r_319.toInt = -1) ∨ (vy_2.toInt < (Tv 0).toInt ∧ 0 ≤ r_319.toInt ∧ r_319.toInt ≤ 255))) := he_320
        refine W.eq (g2 := F0 m 27 ls [.int r_319]) rfl ?_
        replace hP : va_P D classes [((Ta 0), .inr (10, [.ref (Ta 1), .int (Tv 0), .int vy_2, .int (Tv 2), .int (Tv 3), .int (Tv 4)])), ((Ta 1), .inl (tc 0, 400, .inl (Tf 1)))] H := hP₀
        replace hD : va_D A [((Ta 0), .inr (10, [.ref (Ta 1), .int (Tv 0), .int vy_2, .int (Tv 2), .int (Tv 3), .int (Tv 4)])), ((Ta 1), .inl (tc 0, 400, .inl (Tf 1)))] := hD₀
        replace hS := hS₀
        clear hP₀ hD₀ hS₀
        refine lv_bipush (v := 32) hx hb dX10_step_27 (by decide) ?_
        refine lv_icmp_ne (tgt := 45) hx hb dX10_step_29 (by decide) (fun c_322 => ?_) (fun c_322 => ?_)
        · skip
          refine lv_aload_n hx hb dX10_step_45 rfl (lv_at hl 0 rfl) ?_
          refine lv_aload_n hx hb dX10_step_46 rfl (lv_at hl 0 rfl) ?_
          refine gf_X10_19 hx hb hts hown hK hP 0 rfl rfl dX10_step_47 ?_
          refine pf_X10_22 hx hb hts hown hK hP hD hS 0 rfl (Nat.le_of_ble_eq_true rfl) rfl rfl dX10_step_50 (fun H locs hP₀ hD₀ hS₀ => ?_)
          replace hP : va_P D classes [((Ta 0), .inr (10, [.ref (Ta 1), .int (Tv 0), .int vy_2, .int vy_2, .int (Tv 3), .int (Tv 4)])), ((Ta 1), .inl (tc 0, 400, .inl (Tf 1)))] H := hP₀
          replace hD : va_D A [((Ta 0), .inr (10, [.ref (Ta 1), .int (Tv 0), .int vy_2, .int vy_2, .int (Tv 3), .int (Tv 4)])), ((Ta 1), .inl (tc 0, 400, .inl (Tf 1)))] := hD₀
          replace hS := hS₀
          clear hP₀ hD₀ hS₀
          refine lv_aload_n hx hb dX10_step_53 rfl (lv_at hl 0 rfl) ?_
          refine lv_aload_n hx hb dX10_step_54 rfl (lv_at hl 0 rfl) ?_
          refine gf_X10_28 hx hb hts hown hK hP 0 rfl rfl dX10_step_55 ?_
          refine lv_if_ne (tgt := 72) hx hb dX10_step_58 (by decide) (fun c_323 => ?_) (fun c_323 => ?_)
          · skip
            refine lv_iconst (v := (-1)) hx hb dX10_step_72 (by decide) ?_
            refine pf_X10_25 hx hb hts hown hK hP hD hS 0 rfl (Nat.le_of_ble_eq_true rfl) rfl rfl dX10_step_73 (fun H locs hP₀ hD₀ hS₀ => ?_)
            replace hP : va_P D classes [((Ta 0), .inr (10, [.ref (Ta 1), .int (Tv 0), .int vy_2, .int vy_2, .int (-1), .int (Tv 4)])), ((Ta 1), .inl (tc 0, 400, .inl (Tf 1)))] H := hP₀
            replace hD : va_D A [((Ta 0), .inr (10, [.ref (Ta 1), .int (Tv 0), .int vy_2, .int vy_2, .int (-1), .int (Tv 4)])), ((Ta 1), .inl (tc 0, 400, .inl (Tf 1)))] := hD₀
            replace hS := hS₀
            clear hP₀ hD₀ hS₀
            refine lv_aload_n hx hb dX10_step_76 rfl (lv_at hl 0 rfl) ?_
            refine gf_X10_25 hx hb hts hown hK hP 0 rfl rfl dX10_step_77 ?_
            refine cS (As := [.int (-1)]) (rest := []) (wr := [((Ta 0), .inr (10, [.ref (Ta 1), .int (Tv 0), .int vy_2, .int vy_2, .int (-1), .int (Tv 4)])), ((Ta 1), .inl (tc 0, 400, .inl (Tf 1)))]) ⟨hx, hb, hml, hown, hts⟩ hK hX hA (ct_fX10_isLetter l D tc sk (-1)) k_485 k_483 k_484 k_96 pl_X10_isLetter ⟨Nat.le_of_ble_eq_true rfl, Nat.le_of_ble_eq_true rfl⟩ rfl rfl  hP hD hS [] [0, 1] rfl rfl rfl rfl rfl (by decide) rfl hl.1 rfl (Nat.le_of_ble_eq_true rfl) dX10_step_80 ⟨Nat.le_of_ble_eq_true rfl, Nat.le_of_ble_eq_true rfl⟩ (fun v_324 u_325 H locs hv_326 hP₀ hD₀ hS₀ => ?_)
            obtain ⟨r_327, rfl, he_328⟩ := hv_326
            have he_328 : ((r_327.toInt = 1 ∧ 97 ≤ ((-1) : Int32).toInt ∧ ((-1) : Int32).toInt ≤ 122) ∨ (r_327.toInt = 0 ∧ (((-1) : Int32).toInt < 97 ∨ 122 < ((-1) : Int32).toInt))) := he_328
            refine W.eq (g2 := F0 m 83 ls [.int r_327]) rfl ?_
            replace hP : va_P D classes [((Ta 0), .inr (10, [.ref (Ta 1), .int (Tv 0), .int vy_2, .int vy_2, .int (-1), .int (Tv 4)])), ((Ta 1), .inl (tc 0, 400, .inl (Tf 1)))] H := hP₀
            replace hD : va_D A [((Ta 0), .inr (10, [.ref (Ta 1), .int (Tv 0), .int vy_2, .int vy_2, .int (-1), .int (Tv 4)])), ((Ta 1), .inl (tc 0, 400, .inl (Tf 1)))] := hD₀
            replace hS := hS₀
            clear hP₀ hD₀ hS₀
            refine lv_if_eq (tgt := 124) hx hb dX10_step_83 (by decide) (fun c_330 => ?_) (fun c_330 => ?_)
            · skip
              refine lv_aload_n hx hb dX10_step_124 rfl (lv_at hl 0 rfl) ?_
              refine gf_X10_25 hx hb hts hown hK hP 0 rfl rfl dX10_step_125 ?_
              refine cS (As := [.int (-1)]) (rest := []) (wr := [((Ta 0), .inr (10, [.ref (Ta 1), .int (Tv 0), .int vy_2, .int vy_2, .int (-1), .int (Tv 4)])), ((Ta 1), .inl (tc 0, 400, .inl (Tf 1)))]) ⟨hx, hb, hml, hown, hts⟩ hK hX hA (ct_fX10_isDigit l D tc sk (-1)) k_488 k_486 k_487 k_96 pl_X10_isDigit ⟨Nat.le_of_ble_eq_true rfl, Nat.le_of_ble_eq_true rfl⟩ rfl rfl  hP hD hS [] [0, 1] rfl rfl rfl rfl rfl (by decide) rfl hl.1 rfl (Nat.le_of_ble_eq_true rfl) dX10_step_128 ⟨Nat.le_of_ble_eq_true rfl, Nat.le_of_ble_eq_true rfl⟩ (fun v_331 u_332 H locs hv_333 hP₀ hD₀ hS₀ => ?_)
              obtain ⟨r_334, rfl, he_335⟩ := hv_333
              have he_335 : ((r_334.toInt = 1 ∧ 48 ≤ ((-1) : Int32).toInt ∧ ((-1) : Int32).toInt ≤ 57) ∨ (r_334.toInt = 0 ∧ (((-1) : Int32).toInt < 48 ∨ 57 < ((-1) : Int32).toInt))) := he_335
              refine W.eq (g2 := F0 m 131 ls [.int r_334]) rfl ?_
              replace hP : va_P D classes [((Ta 0), .inr (10, [.ref (Ta 1), .int (Tv 0), .int vy_2, .int vy_2, .int (-1), .int (Tv 4)])), ((Ta 1), .inl (tc 0, 400, .inl (Tf 1)))] H := hP₀
              replace hD : va_D A [((Ta 0), .inr (10, [.ref (Ta 1), .int (Tv 0), .int vy_2, .int vy_2, .int (-1), .int (Tv 4)])), ((Ta 1), .inl (tc 0, 400, .inl (Tf 1)))] := hD₀
              replace hS := hS₀
              clear hP₀ hD₀ hS₀
              refine lv_if_eq (tgt := 172) hx hb dX10_step_131 (by decide) (fun c_337 => ?_) (fun c_337 => ?_)
              · skip
                refine lv_aload_n hx hb dX10_step_172 rfl (lv_at hl 0 rfl) ?_
                refine gf_X10_25 hx hb hts hown hK hP 0 rfl rfl dX10_step_173 ?_
                refine lv_iconst (v := (-1)) hx hb dX10_step_176 (by decide) ?_
                refine lv_icmp_eq (tgt := 242) hx hb dX10_step_177 (by decide) (fun c_338 => ?_) (fun c_338 => absurd c_338 (by decide))
                have ha_339 : 0 ≤ ((Tv 0) : Int32).toInt ∧ ((Tv 0) : Int32).toInt ≤ 400 ∧ 0 ≤ (vy_2 : Int32).toInt ∧ (vy_2 : Int32).toInt ≤ 400 ∧ 0 ≤ (vy_2 : Int32).toInt ∧ (vy_2 : Int32).toInt ≤ 400 := by
                  have z_1 := Int32.lt_iff_toInt_lt.mp (Int32.not_le.mp c_9)
                  have z_2 : ¬ (r_319 : Int32).toInt = (32 : Int32).toInt := fun z => c_322 (Int32.toInt_inj.mp z)
                  have z_3 : ¬ ((Tv 4) : Int32).toInt = (0 : Int32).toInt := fun z => c_323 (Int32.toInt_inj.mp z)
                  have z_4 := congrArg Int32.toInt c_330
                  have z_5 := congrArg Int32.toInt c_337
                  have y_0 : (0 : Int32).toInt = 0 := by decide
                  have y_32 : (32 : Int32).toInt = 32 := by decide
                  omega
                have hr_340 : ¬ ((Tv 4) : Int32).toInt = 0 := by
                  have z_1 := Int32.lt_iff_toInt_lt.mp (Int32.not_le.mp c_9)
                  have z_2 : ¬ (r_319 : Int32).toInt = (32 : Int32).toInt := fun z => c_322 (Int32.toInt_inj.mp z)
                  have z_3 : ¬ ((Tv 4) : Int32).toInt = (0 : Int32).toInt := fun z => c_323 (Int32.toInt_inj.mp z)
                  have z_4 := congrArg Int32.toInt c_330
                  have z_5 := congrArg Int32.toInt c_337
                  have y_0 : (0 : Int32).toInt = 0 := by decide
                  have y_32 : (32 : Int32).toInt = 32 := by decide
                  omega
                have hr_341 : ((-1) : Int32).toInt = -1 := by
                  have z_1 := Int32.lt_iff_toInt_lt.mp (Int32.not_le.mp c_9)
                  have z_2 : ¬ (r_319 : Int32).toInt = (32 : Int32).toInt := fun z => c_322 (Int32.toInt_inj.mp z)
                  have z_3 : ¬ ((Tv 4) : Int32).toInt = (0 : Int32).toInt := fun z => c_323 (Int32.toInt_inj.mp z)
                  have z_4 := congrArg Int32.toInt c_330
                  have z_5 := congrArg Int32.toInt c_337
                  have y_0 : (0 : Int32).toInt = 0 := by decide
                  have y_32 : (32 : Int32).toInt = 32 := by decide
                  have y_m1 : (-1 : Int32).toInt = -1 := by decide
                  omega
                exact retV hx hb hr hlk hP hD hS (vy_2, vy_2, (-1)) ⟨rfl, ha_339, (TpB.er h_tb hr_340 hr_341)⟩ [0, 1] rfl rfl dX10_step_242 (Nat.le_of_ble_eq_true rfl) (Nat.le_of_ble_eq_true rfl) rfl
              · skip
                have loop_346 : ∀ (n_344 : Nat) (vy_343 : Int32) (H : Heap) (locs : List Loc) (ls : Array Slot), (401 - (vy_343 : Int32).toInt).toNat < n_344 → (0 ≤ (vy_343 : Int32).toInt ∧ (vy_343 : Int32).toInt ≤ 400) → (Rn pz_isD (Tf 1) (Tv 0) vy_2 vy_343) → va_P D classes [((Ta 0), .inr (10, [.ref (Ta 1), .int (Tv 0), .int vy_2, .int vy_343, .int (-1), .int (Tv 4)])), ((Ta 1), .inl (tc 0, 400, .inl (Tf 1)))] H → va_D A [((Ta 0), .inr (10, [.ref (Ta 1), .int (Tv 0), .int vy_2, .int vy_343, .int (-1), .int (Tv 4)])), ((Ta 1), .inl (tc 0, 400, .inl (Tf 1)))] → va_S A s.heap H locs → lv_has ls 2 [(0, .ref (Ta 0))] → W p l e ({ frames := 1, cells := 0, slots := 0, locals := 21 }) s m ([.ref (Ta 0)].toArray) below meth c H locs 0 0 (MQ below (QW (fun (v : Option Value) (u : (Int32) × (Int32) × (Int32)) => match u with | (oo0x1, oo0x2, oo0x3) => v = none ∧ (0 ≤ ((Tv 0) : Int32).toInt ∧ ((Tv 0) : Int32).toInt ≤ 400 ∧ 0 ≤ (oo0x1 : Int32).toInt ∧ (oo0x1 : Int32).toInt ≤ 400 ∧ 0 ≤ (oo0x2 : Int32).toInt ∧ (oo0x2 : Int32).toInt ≤ 400) ∧ (TpR (Tf 1) (Tv 0) (rSK (cB (Tf 1) (Tv 0)) rr) oo0x1 oo0x2 oo0x3 (Tv 4))) (BW D (fun (u : (Int32) × (Int32) × (Int32)) => match u with | (oo0x1, oo0x2, oo0x3) => [((Ta 0), .inr (10, [.ref (Ta 1), .int (Tv 0), .int oo0x1, .int oo0x2, .int oo0x3, .int (Tv 4)])), ((Ta 1), .inl (tc 0, 400, .inl (Tf 1)))]) A) A) ([.ref (Ta 0)].toArray) s 0 0 A) (F0 m 134 ls []) := by
                  clear hP hD hS hl
                  intro n_344
                  induction n_344 with
                  | zero =>
                    intro vy_343 H locs ls h1
                    exact absurd h1 (Nat.not_lt_zero _)
                  | succ n_344 ih_345 =>
                    intro vy_343 H locs ls hn_349 pf_347 pf_348 hP hD hS hl
                    refine lv_aload_n hx hb dX10_step_134 rfl (lv_at hl 0 rfl) ?_
                    refine gf_X10_22 hx hb hts hown hK hP 0 rfl rfl dX10_step_135 ?_
                    refine lv_aload_n hx hb dX10_step_138 rfl (lv_at hl 0 rfl) ?_
                    refine gf_X10_15 hx hb hts hown hK hP 0 rfl rfl dX10_step_139 ?_
                    refine lv_icmp_ge (tgt := 242) hx hb dX10_step_142 (by decide) (fun c_350 => ?_) (fun c_350 => ?_)
                    · skip
                      have ha_351 : 0 ≤ ((Tv 0) : Int32).toInt ∧ ((Tv 0) : Int32).toInt ≤ 400 ∧ 0 ≤ (vy_2 : Int32).toInt ∧ (vy_2 : Int32).toInt ≤ 400 ∧ 0 ≤ (vy_343 : Int32).toInt ∧ (vy_343 : Int32).toInt ≤ 400 := by
                        have z_1 := Int32.lt_iff_toInt_lt.mp (Int32.not_le.mp c_9)
                        have z_2 : ¬ (r_319 : Int32).toInt = (32 : Int32).toInt := fun z => c_322 (Int32.toInt_inj.mp z)
                        have z_3 : ¬ ((Tv 4) : Int32).toInt = (0 : Int32).toInt := fun z => c_323 (Int32.toInt_inj.mp z)
                        have z_4 := congrArg Int32.toInt c_330
                        have z_5 : ¬ (r_334 : Int32).toInt = (0 : Int32).toInt := fun z => c_337 (Int32.toInt_inj.mp z)
                        have z_6 := Int32.le_iff_toInt_le.mp c_350
                        have y_0 : (0 : Int32).toInt = 0 := by decide
                        have y_32 : (32 : Int32).toInt = 32 := by decide
                        omega
                      have hr_352 : ¬ ((Tv 4) : Int32).toInt = 0 := by
                        have z_1 := Int32.lt_iff_toInt_lt.mp (Int32.not_le.mp c_9)
                        have z_2 : ¬ (r_319 : Int32).toInt = (32 : Int32).toInt := fun z => c_322 (Int32.toInt_inj.mp z)
                        have z_3 : ¬ ((Tv 4) : Int32).toInt = (0 : Int32).toInt := fun z => c_323 (Int32.toInt_inj.mp z)
                        have z_4 := congrArg Int32.toInt c_330
                        have z_5 : ¬ (r_334 : Int32).toInt = (0 : Int32).toInt := fun z => c_337 (Int32.toInt_inj.mp z)
                        have z_6 := Int32.le_iff_toInt_le.mp c_350
                        have y_0 : (0 : Int32).toInt = 0 := by decide
                        have y_32 : (32 : Int32).toInt = 32 := by decide
                        omega
                      have hr_353 : ((-1) : Int32).toInt = -1 := by
                        have z_1 := Int32.lt_iff_toInt_lt.mp (Int32.not_le.mp c_9)
                        have z_2 : ¬ (r_319 : Int32).toInt = (32 : Int32).toInt := fun z => c_322 (Int32.toInt_inj.mp z)
                        have z_3 : ¬ ((Tv 4) : Int32).toInt = (0 : Int32).toInt := fun z => c_323 (Int32.toInt_inj.mp z)
                        have z_4 := congrArg Int32.toInt c_330
                        have z_5 : ¬ (r_334 : Int32).toInt = (0 : Int32).toInt := fun z => c_337 (Int32.toInt_inj.mp z)
                        have z_6 := Int32.le_iff_toInt_le.mp c_350
                        have y_0 : (0 : Int32).toInt = 0 := by decide
                        have y_32 : (32 : Int32).toInt = 32 := by decide
                        have y_m1 : (-1 : Int32).toInt = -1 := by decide
                        omega
                      exact retV hx hb hr hlk hP hD hS (vy_2, vy_343, (-1)) ⟨rfl, ha_351, (TpB.er h_tb hr_352 hr_353)⟩ [0, 1] rfl rfl dX10_step_242 (Nat.le_of_ble_eq_true rfl) (Nat.le_of_ble_eq_true rfl) rfl
                    · skip
                      refine lv_aload_n hx hb dX10_step_145 rfl (lv_at hl 0 rfl) ?_
                      refine lv_aload_n hx hb dX10_step_146 rfl (lv_at hl 0 rfl) ?_
                      refine gf_X10_22 hx hb hts hown hK hP 0 rfl rfl dX10_step_147 ?_
                      have ha_354 : 0 ≤ ((Tv 0) : Int32).toInt ∧ ((Tv 0) : Int32).toInt ≤ 400 ∧ 0 ≤ (vy_2 : Int32).toInt ∧ (vy_2 : Int32).toInt ≤ 400 ∧ 0 ≤ (vy_343 : Int32).toInt ∧ (vy_343 : Int32).toInt ≤ 400 := by
                        have z_1 := Int32.lt_iff_toInt_lt.mp (Int32.not_le.mp c_9)
                        have z_2 : ¬ (r_319 : Int32).toInt = (32 : Int32).toInt := fun z => c_322 (Int32.toInt_inj.mp z)
                        have z_3 : ¬ ((Tv 4) : Int32).toInt = (0 : Int32).toInt := fun z => c_323 (Int32.toInt_inj.mp z)
                        have z_4 := congrArg Int32.toInt c_330
                        have z_5 : ¬ (r_334 : Int32).toInt = (0 : Int32).toInt := fun z => c_337 (Int32.toInt_inj.mp z)
                        have z_6 := Int32.lt_iff_toInt_lt.mp (Int32.not_le.mp c_350)
                        have y_0 : (0 : Int32).toInt = 0 := by decide
                        have y_32 : (32 : Int32).toInt = 32 := by decide
                        omega
                      have ha_355 : 0 ≤ vy_343.toInt := by
                        have z_1 := Int32.lt_iff_toInt_lt.mp (Int32.not_le.mp c_9)
                        have z_2 : ¬ (r_319 : Int32).toInt = (32 : Int32).toInt := fun z => c_322 (Int32.toInt_inj.mp z)
                        have z_3 : ¬ ((Tv 4) : Int32).toInt = (0 : Int32).toInt := fun z => c_323 (Int32.toInt_inj.mp z)
                        have z_4 := congrArg Int32.toInt c_330
                        have z_5 : ¬ (r_334 : Int32).toInt = (0 : Int32).toInt := fun z => c_337 (Int32.toInt_inj.mp z)
                        have z_6 := Int32.lt_iff_toInt_lt.mp (Int32.not_le.mp c_350)
                        have y_0 : (0 : Int32).toInt = 0 := by decide
                        have y_32 : (32 : Int32).toInt = 32 := by decide
                        omega
                      refine cV (a := (Ta 0)) (As := [.int vy_343]) (rest := []) (wr := []) ⟨hx, hb, hml, hown, hts⟩ hK hX hA (cu_fX10_byteAt l D tc sk (Ta 0) (Ta 1) (Tv 0) vy_2 vy_343 (-1) (Tv 4) (Tf 1) vy_343 ha_354 h_by ha_355) k_482 k_479 k_481 k_0 k_96 pl_X10_byteAt ⟨Nat.le_of_ble_eq_true rfl, Nat.le_of_ble_eq_true rfl⟩ rfl rfl (va_recv hK hP (ci := 10) (q0 := 0) rfl rfl) hP hD hS [0, 1] [] rfl rfl rfl rfl rfl (by decide) rfl hl.1 rfl (Nat.le_of_ble_eq_true rfl) dX10_step_150 ⟨Nat.le_of_ble_eq_true rfl, Nat.le_of_ble_eq_true rfl⟩ (fun v_356 u_357 H locs hv_358 hP₀ hD₀ hS₀ => ?_)
                      obtain ⟨r_359, rfl, he_360⟩ := hv_358
                      have he_360 : (r_359.toInt = cB (Tf 1) (Tv 0) vy_343.toInt.toNat ∧ (((Tv 0).toInt ≤ vy_343.toInt ∧ r_359.toInt = -1) ∨ (vy_343.toInt < (Tv 0).toInt ∧ 0 ≤ r_359.toInt ∧ r_359.toInt ≤ 255))) := he_360
                      refine W.eq (g2 := F0 m 153 ls [.int r_359]) rfl ?_
                      replace hP : va_P D classes [((Ta 0), .inr (10, [.ref (Ta 1), .int (Tv 0), .int vy_2, .int vy_343, .int (-1), .int (Tv 4)])), ((Ta 1), .inl (tc 0, 400, .inl (Tf 1)))] H := hP₀
                      replace hD : va_D A [((Ta 0), .inr (10, [.ref (Ta 1), .int (Tv 0), .int vy_2, .int vy_343, .int (-1), .int (Tv 4)])), ((Ta 1), .inl (tc 0, 400, .inl (Tf 1)))] := hD₀
                      replace hS := hS₀
                      clear hP₀ hD₀ hS₀
                      refine cS (As := [.int r_359]) (rest := []) (wr := [((Ta 0), .inr (10, [.ref (Ta 1), .int (Tv 0), .int vy_2, .int vy_343, .int (-1), .int (Tv 4)])), ((Ta 1), .inl (tc 0, 400, .inl (Tf 1)))]) ⟨hx, hb, hml, hown, hts⟩ hK hX hA (ct_fX10_isDigit l D tc sk r_359) k_488 k_486 k_487 k_96 pl_X10_isDigit ⟨Nat.le_of_ble_eq_true rfl, Nat.le_of_ble_eq_true rfl⟩ rfl rfl  hP hD hS [] [0, 1] rfl rfl rfl rfl rfl (by decide) rfl hl.1 rfl (Nat.le_of_ble_eq_true rfl) dX10_step_153 ⟨Nat.le_of_ble_eq_true rfl, Nat.le_of_ble_eq_true rfl⟩ (fun v_362 u_363 H locs hv_364 hP₀ hD₀ hS₀ => ?_)
                      obtain ⟨r_365, rfl, he_366⟩ := hv_364
                      have he_366 : ((r_365.toInt = 1 ∧ 48 ≤ r_359.toInt ∧ r_359.toInt ≤ 57) ∨ (r_365.toInt = 0 ∧ (r_359.toInt < 48 ∨ 57 < r_359.toInt))) := he_366
                      refine W.eq (g2 := F0 m 156 ls [.int r_365]) rfl ?_
                      replace hP : va_P D classes [((Ta 0), .inr (10, [.ref (Ta 1), .int (Tv 0), .int vy_2, .int vy_343, .int (-1), .int (Tv 4)])), ((Ta 1), .inl (tc 0, 400, .inl (Tf 1)))] H := hP₀
                      replace hD : va_D A [((Ta 0), .inr (10, [.ref (Ta 1), .int (Tv 0), .int vy_2, .int vy_343, .int (-1), .int (Tv 4)])), ((Ta 1), .inl (tc 0, 400, .inl (Tf 1)))] := hD₀
                      replace hS := hS₀
                      clear hP₀ hD₀ hS₀
                      refine lv_if_eq (tgt := 242) hx hb dX10_step_156 (by decide) (fun c_368 => ?_) (fun c_368 => ?_)
                      · skip
                        have ha_369 : 0 ≤ ((Tv 0) : Int32).toInt ∧ ((Tv 0) : Int32).toInt ≤ 400 ∧ 0 ≤ (vy_2 : Int32).toInt ∧ (vy_2 : Int32).toInt ≤ 400 ∧ 0 ≤ (vy_343 : Int32).toInt ∧ (vy_343 : Int32).toInt ≤ 400 := by
                          have z_1 := Int32.lt_iff_toInt_lt.mp (Int32.not_le.mp c_9)
                          have z_2 : ¬ (r_319 : Int32).toInt = (32 : Int32).toInt := fun z => c_322 (Int32.toInt_inj.mp z)
                          have z_3 : ¬ ((Tv 4) : Int32).toInt = (0 : Int32).toInt := fun z => c_323 (Int32.toInt_inj.mp z)
                          have z_4 := congrArg Int32.toInt c_330
                          have z_5 : ¬ (r_334 : Int32).toInt = (0 : Int32).toInt := fun z => c_337 (Int32.toInt_inj.mp z)
                          have z_6 := Int32.lt_iff_toInt_lt.mp (Int32.not_le.mp c_350)
                          have z_7 := congrArg Int32.toInt c_368
                          have y_0 : (0 : Int32).toInt = 0 := by decide
                          have y_32 : (32 : Int32).toInt = 32 := by decide
                          omega
                        have hr_370 : ¬ ((Tv 4) : Int32).toInt = 0 := by
                          have z_1 := Int32.lt_iff_toInt_lt.mp (Int32.not_le.mp c_9)
                          have z_2 : ¬ (r_319 : Int32).toInt = (32 : Int32).toInt := fun z => c_322 (Int32.toInt_inj.mp z)
                          have z_3 : ¬ ((Tv 4) : Int32).toInt = (0 : Int32).toInt := fun z => c_323 (Int32.toInt_inj.mp z)
                          have z_4 := congrArg Int32.toInt c_330
                          have z_5 : ¬ (r_334 : Int32).toInt = (0 : Int32).toInt := fun z => c_337 (Int32.toInt_inj.mp z)
                          have z_6 := Int32.lt_iff_toInt_lt.mp (Int32.not_le.mp c_350)
                          have z_7 := congrArg Int32.toInt c_368
                          have y_0 : (0 : Int32).toInt = 0 := by decide
                          have y_32 : (32 : Int32).toInt = 32 := by decide
                          omega
                        have hr_371 : ((-1) : Int32).toInt = -1 := by
                          have z_1 := Int32.lt_iff_toInt_lt.mp (Int32.not_le.mp c_9)
                          have z_2 : ¬ (r_319 : Int32).toInt = (32 : Int32).toInt := fun z => c_322 (Int32.toInt_inj.mp z)
                          have z_3 : ¬ ((Tv 4) : Int32).toInt = (0 : Int32).toInt := fun z => c_323 (Int32.toInt_inj.mp z)
                          have z_4 := congrArg Int32.toInt c_330
                          have z_5 : ¬ (r_334 : Int32).toInt = (0 : Int32).toInt := fun z => c_337 (Int32.toInt_inj.mp z)
                          have z_6 := Int32.lt_iff_toInt_lt.mp (Int32.not_le.mp c_350)
                          have z_7 := congrArg Int32.toInt c_368
                          have y_0 : (0 : Int32).toInt = 0 := by decide
                          have y_32 : (32 : Int32).toInt = 32 := by decide
                          have y_m1 : (-1 : Int32).toInt = -1 := by decide
                          omega
                        exact retV hx hb hr hlk hP hD hS (vy_2, vy_343, (-1)) ⟨rfl, ha_369, (TpB.er h_tb hr_370 hr_371)⟩ [0, 1] rfl rfl dX10_step_242 (Nat.le_of_ble_eq_true rfl) (Nat.le_of_ble_eq_true rfl) rfl
                      · skip
                        refine lv_aload_n hx hb dX10_step_159 rfl (lv_at hl 0 rfl) ?_
                        refine lv_dup hx hb dX10_step_160 rfl ?_
                        refine gf_X10_22 hx hb hts hown hK hP 0 rfl rfl dX10_step_161 ?_
                        refine lv_iconst (v := 1) hx hb dX10_step_164 (by decide) ?_
                        refine lv_iadd hx hb dX10_step_165 ?_
                        refine lv_topi (fun x_372 ex_372 => ?_)
                        refine pf_X10_22 hx hb hts hown hK hP hD hS 0 rfl (Nat.le_of_ble_eq_true rfl) rfl rfl dX10_step_166 (fun H locs hP₀ hD₀ hS₀ => ?_)
                        replace hP : va_P D classes [((Ta 0), .inr (10, [.ref (Ta 1), .int (Tv 0), .int vy_2, .int x_372, .int (-1), .int (Tv 4)])), ((Ta 1), .inl (tc 0, 400, .inl (Tf 1)))] H := hP₀
                        replace hD : va_D A [((Ta 0), .inr (10, [.ref (Ta 1), .int (Tv 0), .int vy_2, .int x_372, .int (-1), .int (Tv 4)])), ((Ta 1), .inl (tc 0, 400, .inl (Tf 1)))] := hD₀
                        replace hS := hS₀
                        clear hP₀ hD₀ hS₀
                        refine lv_goto (tgt := 134) hx hb dX10_step_169 (by decide) ?_
                        have hb_373 : 401 - (x_372 : Int32).toInt < 401 - (vy_343 : Int32).toInt ∧ 1 ≤ 401 - (vy_343 : Int32).toInt := by
                          have z_1 := Int32.lt_iff_toInt_lt.mp (Int32.not_le.mp c_9)
                          have z_2 : ¬ (r_319 : Int32).toInt = (32 : Int32).toInt := fun z => c_322 (Int32.toInt_inj.mp z)
                          have z_3 : ¬ ((Tv 4) : Int32).toInt = (0 : Int32).toInt := fun z => c_323 (Int32.toInt_inj.mp z)
                          have z_4 := congrArg Int32.toInt c_330
                          have z_5 : ¬ (r_334 : Int32).toInt = (0 : Int32).toInt := fun z => c_337 (Int32.toInt_inj.mp z)
                          have z_6 := Int32.lt_iff_toInt_lt.mp (Int32.not_le.mp c_350)
                          have z_7 : ¬ (r_365 : Int32).toInt = (0 : Int32).toInt := fun z => c_368 (Int32.toInt_inj.mp z)
                          have y_0 : (0 : Int32).toInt = 0 := by decide
                          have y_32 : (32 : Int32).toInt = 32 := by decide
                          have y_1 : (1 : Int32).toInt = 1 := by decide
                          have t_x_372 : x_372.toInt = (vy_343 : Int32).toInt + (1 : Int32).toInt := by rw [ex_372]; exact add_toInt (by omega) (by omega)
                          omega
                        have ha_374 : 0 ≤ (x_372 : Int32).toInt ∧ (x_372 : Int32).toInt ≤ 400 := by
                          have z_1 := Int32.lt_iff_toInt_lt.mp (Int32.not_le.mp c_9)
                          have z_2 : ¬ (r_319 : Int32).toInt = (32 : Int32).toInt := fun z => c_322 (Int32.toInt_inj.mp z)
                          have z_3 : ¬ ((Tv 4) : Int32).toInt = (0 : Int32).toInt := fun z => c_323 (Int32.toInt_inj.mp z)
                          have z_4 := congrArg Int32.toInt c_330
                          have z_5 : ¬ (r_334 : Int32).toInt = (0 : Int32).toInt := fun z => c_337 (Int32.toInt_inj.mp z)
                          have z_6 := Int32.lt_iff_toInt_lt.mp (Int32.not_le.mp c_350)
                          have z_7 : ¬ (r_365 : Int32).toInt = (0 : Int32).toInt := fun z => c_368 (Int32.toInt_inj.mp z)
                          have y_0 : (0 : Int32).toInt = 0 := by decide
                          have y_32 : (32 : Int32).toInt = 32 := by decide
                          have y_1 : (1 : Int32).toInt = 1 := by decide
                          have t_x_372 : x_372.toInt = (vy_343 : Int32).toInt + (1 : Int32).toInt := by rw [ex_372]; exact add_toInt (by omega) (by omega)
                          omega
                        have hr_375 : 0 ≤ (vy_343 : Int32).toInt := by
                          have z_1 := Int32.lt_iff_toInt_lt.mp (Int32.not_le.mp c_9)
                          have z_2 : ¬ (r_319 : Int32).toInt = (32 : Int32).toInt := fun z => c_322 (Int32.toInt_inj.mp z)
                          have z_3 : ¬ ((Tv 4) : Int32).toInt = (0 : Int32).toInt := fun z => c_323 (Int32.toInt_inj.mp z)
                          have z_4 := congrArg Int32.toInt c_330
                          have z_5 : ¬ (r_334 : Int32).toInt = (0 : Int32).toInt := fun z => c_337 (Int32.toInt_inj.mp z)
                          have z_6 := Int32.lt_iff_toInt_lt.mp (Int32.not_le.mp c_350)
                          have z_7 : ¬ (r_365 : Int32).toInt = (0 : Int32).toInt := fun z => c_368 (Int32.toInt_inj.mp z)
                          have y_0 : (0 : Int32).toInt = 0 := by decide
                          have y_32 : (32 : Int32).toInt = 32 := by decide
                          omega
                        have hr_376 : 48 ≤ (r_359 : Int32).toInt ∧ (r_359 : Int32).toInt ≤ 57 := by
                          have z_1 := Int32.lt_iff_toInt_lt.mp (Int32.not_le.mp c_9)
                          have z_2 : ¬ (r_319 : Int32).toInt = (32 : Int32).toInt := fun z => c_322 (Int32.toInt_inj.mp z)
                          have z_3 : ¬ ((Tv 4) : Int32).toInt = (0 : Int32).toInt := fun z => c_323 (Int32.toInt_inj.mp z)
                          have z_4 := congrArg Int32.toInt c_330
                          have z_5 : ¬ (r_334 : Int32).toInt = (0 : Int32).toInt := fun z => c_337 (Int32.toInt_inj.mp z)
                          have z_6 := Int32.lt_iff_toInt_lt.mp (Int32.not_le.mp c_350)
                          have z_7 : ¬ (r_365 : Int32).toInt = (0 : Int32).toInt := fun z => c_368 (Int32.toInt_inj.mp z)
                          have y_0 : (0 : Int32).toInt = 0 := by decide
                          have y_32 : (32 : Int32).toInt = 32 := by decide
                          omega
                        have hi_377 : (x_372 : Int32).toInt = (vy_343 : Int32).toInt + 1 := by
                          have z_1 := Int32.lt_iff_toInt_lt.mp (Int32.not_le.mp c_9)
                          have z_2 : ¬ (r_319 : Int32).toInt = (32 : Int32).toInt := fun z => c_322 (Int32.toInt_inj.mp z)
                          have z_3 : ¬ ((Tv 4) : Int32).toInt = (0 : Int32).toInt := fun z => c_323 (Int32.toInt_inj.mp z)
                          have z_4 := congrArg Int32.toInt c_330
                          have z_5 : ¬ (r_334 : Int32).toInt = (0 : Int32).toInt := fun z => c_337 (Int32.toInt_inj.mp z)
                          have z_6 := Int32.lt_iff_toInt_lt.mp (Int32.not_le.mp c_350)
                          have z_7 : ¬ (r_365 : Int32).toInt = (0 : Int32).toInt := fun z => c_368 (Int32.toInt_inj.mp z)
                          have y_0 : (0 : Int32).toInt = 0 := by decide
                          have y_32 : (32 : Int32).toInt = 32 := by decide
                          have y_1 : (1 : Int32).toInt = 1 := by decide
                          have t_x_372 : x_372.toInt = (vy_343 : Int32).toInt + (1 : Int32).toInt := by rw [ex_372]; exact add_toInt (by omega) (by omega)
                          omega
                        exact ih_345 x_372 _ _ _ (by omega) ha_374 (Rn.st pf_348 hr_375 he_360.1 (decide_eq_true hr_376) hi_377) (hP.sub [0, 1] rfl) (hD.sub [0, 1] rfl rfl) hS (lv_sub hl [0] rfl)
                exact loop_346 _ vy_2 _ _ _ (Nat.lt_succ_self _) pf_6 (Rn.rf) hP hD hS hl
            · skip
              have loop_382 : ∀ (n_380 : Nat) (vy_379 : Int32) (H : Heap) (locs : List Loc) (ls : Array Slot), (401 - (vy_379 : Int32).toInt).toNat < n_380 → (0 ≤ (vy_379 : Int32).toInt ∧ (vy_379 : Int32).toInt ≤ 400) → (Rn pz_isL (Tf 1) (Tv 0) vy_2 vy_379) → va_P D classes [((Ta 0), .inr (10, [.ref (Ta 1), .int (Tv 0), .int vy_2, .int vy_379, .int (-1), .int (Tv 4)])), ((Ta 1), .inl (tc 0, 400, .inl (Tf 1)))] H → va_D A [((Ta 0), .inr (10, [.ref (Ta 1), .int (Tv 0), .int vy_2, .int vy_379, .int (-1), .int (Tv 4)])), ((Ta 1), .inl (tc 0, 400, .inl (Tf 1)))] → va_S A s.heap H locs → lv_has ls 2 [(0, .ref (Ta 0))] → W p l e ({ frames := 1, cells := 0, slots := 0, locals := 21 }) s m ([.ref (Ta 0)].toArray) below meth c H locs 0 0 (MQ below (QW (fun (v : Option Value) (u : (Int32) × (Int32) × (Int32)) => match u with | (oo0x1, oo0x2, oo0x3) => v = none ∧ (0 ≤ ((Tv 0) : Int32).toInt ∧ ((Tv 0) : Int32).toInt ≤ 400 ∧ 0 ≤ (oo0x1 : Int32).toInt ∧ (oo0x1 : Int32).toInt ≤ 400 ∧ 0 ≤ (oo0x2 : Int32).toInt ∧ (oo0x2 : Int32).toInt ≤ 400) ∧ (TpR (Tf 1) (Tv 0) (rSK (cB (Tf 1) (Tv 0)) rr) oo0x1 oo0x2 oo0x3 (Tv 4))) (BW D (fun (u : (Int32) × (Int32) × (Int32)) => match u with | (oo0x1, oo0x2, oo0x3) => [((Ta 0), .inr (10, [.ref (Ta 1), .int (Tv 0), .int oo0x1, .int oo0x2, .int oo0x3, .int (Tv 4)])), ((Ta 1), .inl (tc 0, 400, .inl (Tf 1)))]) A) A) ([.ref (Ta 0)].toArray) s 0 0 A) (F0 m 86 ls []) := by
                clear hP hD hS hl
                intro n_380
                induction n_380 with
                | zero =>
                  intro vy_379 H locs ls h1
                  exact absurd h1 (Nat.not_lt_zero _)
                | succ n_380 ih_381 =>
                  intro vy_379 H locs ls hn_385 pf_383 pf_384 hP hD hS hl
                  refine lv_aload_n hx hb dX10_step_86 rfl (lv_at hl 0 rfl) ?_
                  refine gf_X10_22 hx hb hts hown hK hP 0 rfl rfl dX10_step_87 ?_
                  refine lv_aload_n hx hb dX10_step_90 rfl (lv_at hl 0 rfl) ?_
                  refine gf_X10_15 hx hb hts hown hK hP 0 rfl rfl dX10_step_91 ?_
                  refine lv_icmp_ge (tgt := 242) hx hb dX10_step_94 (by decide) (fun c_386 => ?_) (fun c_386 => ?_)
                  · skip
                    have ha_387 : 0 ≤ ((Tv 0) : Int32).toInt ∧ ((Tv 0) : Int32).toInt ≤ 400 ∧ 0 ≤ (vy_2 : Int32).toInt ∧ (vy_2 : Int32).toInt ≤ 400 ∧ 0 ≤ (vy_379 : Int32).toInt ∧ (vy_379 : Int32).toInt ≤ 400 := by
                      have z_1 := Int32.lt_iff_toInt_lt.mp (Int32.not_le.mp c_9)
                      have z_2 : ¬ (r_319 : Int32).toInt = (32 : Int32).toInt := fun z => c_322 (Int32.toInt_inj.mp z)
                      have z_3 : ¬ ((Tv 4) : Int32).toInt = (0 : Int32).toInt := fun z => c_323 (Int32.toInt_inj.mp z)
                      have z_4 : ¬ (r_327 : Int32).toInt = (0 : Int32).toInt := fun z => c_330 (Int32.toInt_inj.mp z)
                      have z_5 := Int32.le_iff_toInt_le.mp c_386
                      have y_0 : (0 : Int32).toInt = 0 := by decide
                      have y_32 : (32 : Int32).toInt = 32 := by decide
                      omega
                    have hr_388 : ¬ ((Tv 4) : Int32).toInt = 0 := by
                      have z_1 := Int32.lt_iff_toInt_lt.mp (Int32.not_le.mp c_9)
                      have z_2 : ¬ (r_319 : Int32).toInt = (32 : Int32).toInt := fun z => c_322 (Int32.toInt_inj.mp z)
                      have z_3 : ¬ ((Tv 4) : Int32).toInt = (0 : Int32).toInt := fun z => c_323 (Int32.toInt_inj.mp z)
                      have z_4 : ¬ (r_327 : Int32).toInt = (0 : Int32).toInt := fun z => c_330 (Int32.toInt_inj.mp z)
                      have z_5 := Int32.le_iff_toInt_le.mp c_386
                      have y_0 : (0 : Int32).toInt = 0 := by decide
                      have y_32 : (32 : Int32).toInt = 32 := by decide
                      omega
                    have hr_389 : ((-1) : Int32).toInt = -1 := by
                      have z_1 := Int32.lt_iff_toInt_lt.mp (Int32.not_le.mp c_9)
                      have z_2 : ¬ (r_319 : Int32).toInt = (32 : Int32).toInt := fun z => c_322 (Int32.toInt_inj.mp z)
                      have z_3 : ¬ ((Tv 4) : Int32).toInt = (0 : Int32).toInt := fun z => c_323 (Int32.toInt_inj.mp z)
                      have z_4 : ¬ (r_327 : Int32).toInt = (0 : Int32).toInt := fun z => c_330 (Int32.toInt_inj.mp z)
                      have z_5 := Int32.le_iff_toInt_le.mp c_386
                      have y_0 : (0 : Int32).toInt = 0 := by decide
                      have y_32 : (32 : Int32).toInt = 32 := by decide
                      have y_m1 : (-1 : Int32).toInt = -1 := by decide
                      omega
                    exact retV hx hb hr hlk hP hD hS (vy_2, vy_379, (-1)) ⟨rfl, ha_387, (TpB.er h_tb hr_388 hr_389)⟩ [0, 1] rfl rfl dX10_step_242 (Nat.le_of_ble_eq_true rfl) (Nat.le_of_ble_eq_true rfl) rfl
                  · skip
                    refine lv_aload_n hx hb dX10_step_97 rfl (lv_at hl 0 rfl) ?_
                    refine lv_aload_n hx hb dX10_step_98 rfl (lv_at hl 0 rfl) ?_
                    refine gf_X10_22 hx hb hts hown hK hP 0 rfl rfl dX10_step_99 ?_
                    have ha_390 : 0 ≤ ((Tv 0) : Int32).toInt ∧ ((Tv 0) : Int32).toInt ≤ 400 ∧ 0 ≤ (vy_2 : Int32).toInt ∧ (vy_2 : Int32).toInt ≤ 400 ∧ 0 ≤ (vy_379 : Int32).toInt ∧ (vy_379 : Int32).toInt ≤ 400 := by
                      have z_1 := Int32.lt_iff_toInt_lt.mp (Int32.not_le.mp c_9)
                      have z_2 : ¬ (r_319 : Int32).toInt = (32 : Int32).toInt := fun z => c_322 (Int32.toInt_inj.mp z)
                      have z_3 : ¬ ((Tv 4) : Int32).toInt = (0 : Int32).toInt := fun z => c_323 (Int32.toInt_inj.mp z)
                      have z_4 : ¬ (r_327 : Int32).toInt = (0 : Int32).toInt := fun z => c_330 (Int32.toInt_inj.mp z)
                      have z_5 := Int32.lt_iff_toInt_lt.mp (Int32.not_le.mp c_386)
                      have y_0 : (0 : Int32).toInt = 0 := by decide
                      have y_32 : (32 : Int32).toInt = 32 := by decide
                      omega
                    have ha_391 : 0 ≤ vy_379.toInt := by
                      have z_1 := Int32.lt_iff_toInt_lt.mp (Int32.not_le.mp c_9)
                      have z_2 : ¬ (r_319 : Int32).toInt = (32 : Int32).toInt := fun z => c_322 (Int32.toInt_inj.mp z)
                      have z_3 : ¬ ((Tv 4) : Int32).toInt = (0 : Int32).toInt := fun z => c_323 (Int32.toInt_inj.mp z)
                      have z_4 : ¬ (r_327 : Int32).toInt = (0 : Int32).toInt := fun z => c_330 (Int32.toInt_inj.mp z)
                      have z_5 := Int32.lt_iff_toInt_lt.mp (Int32.not_le.mp c_386)
                      have y_0 : (0 : Int32).toInt = 0 := by decide
                      have y_32 : (32 : Int32).toInt = 32 := by decide
                      omega
                    refine cV (a := (Ta 0)) (As := [.int vy_379]) (rest := []) (wr := []) ⟨hx, hb, hml, hown, hts⟩ hK hX hA (cu_fX10_byteAt l D tc sk (Ta 0) (Ta 1) (Tv 0) vy_2 vy_379 (-1) (Tv 4) (Tf 1) vy_379 ha_390 h_by ha_391) k_482 k_479 k_481 k_0 k_96 pl_X10_byteAt ⟨Nat.le_of_ble_eq_true rfl, Nat.le_of_ble_eq_true rfl⟩ rfl rfl (va_recv hK hP (ci := 10) (q0 := 0) rfl rfl) hP hD hS [0, 1] [] rfl rfl rfl rfl rfl (by decide) rfl hl.1 rfl (Nat.le_of_ble_eq_true rfl) dX10_step_102 ⟨Nat.le_of_ble_eq_true rfl, Nat.le_of_ble_eq_true rfl⟩ (fun v_392 u_393 H locs hv_394 hP₀ hD₀ hS₀ => ?_)
                    obtain ⟨r_395, rfl, he_396⟩ := hv_394
                    have he_396 : (r_395.toInt = cB (Tf 1) (Tv 0) vy_379.toInt.toNat ∧ (((Tv 0).toInt ≤ vy_379.toInt ∧ r_395.toInt = -1) ∨ (vy_379.toInt < (Tv 0).toInt ∧ 0 ≤ r_395.toInt ∧ r_395.toInt ≤ 255))) := he_396
                    refine W.eq (g2 := F0 m 105 ls [.int r_395]) rfl ?_
                    replace hP : va_P D classes [((Ta 0), .inr (10, [.ref (Ta 1), .int (Tv 0), .int vy_2, .int vy_379, .int (-1), .int (Tv 4)])), ((Ta 1), .inl (tc 0, 400, .inl (Tf 1)))] H := hP₀
                    replace hD : va_D A [((Ta 0), .inr (10, [.ref (Ta 1), .int (Tv 0), .int vy_2, .int vy_379, .int (-1), .int (Tv 4)])), ((Ta 1), .inl (tc 0, 400, .inl (Tf 1)))] := hD₀
                    replace hS := hS₀
                    clear hP₀ hD₀ hS₀
                    refine cS (As := [.int r_395]) (rest := []) (wr := [((Ta 0), .inr (10, [.ref (Ta 1), .int (Tv 0), .int vy_2, .int vy_379, .int (-1), .int (Tv 4)])), ((Ta 1), .inl (tc 0, 400, .inl (Tf 1)))]) ⟨hx, hb, hml, hown, hts⟩ hK hX hA (ct_fX10_isLetter l D tc sk r_395) k_485 k_483 k_484 k_96 pl_X10_isLetter ⟨Nat.le_of_ble_eq_true rfl, Nat.le_of_ble_eq_true rfl⟩ rfl rfl  hP hD hS [] [0, 1] rfl rfl rfl rfl rfl (by decide) rfl hl.1 rfl (Nat.le_of_ble_eq_true rfl) dX10_step_105 ⟨Nat.le_of_ble_eq_true rfl, Nat.le_of_ble_eq_true rfl⟩ (fun v_398 u_399 H locs hv_400 hP₀ hD₀ hS₀ => ?_)
                    obtain ⟨r_401, rfl, he_402⟩ := hv_400
                    have he_402 : ((r_401.toInt = 1 ∧ 97 ≤ r_395.toInt ∧ r_395.toInt ≤ 122) ∨ (r_401.toInt = 0 ∧ (r_395.toInt < 97 ∨ 122 < r_395.toInt))) := he_402
                    refine W.eq (g2 := F0 m 108 ls [.int r_401]) rfl ?_
                    replace hP : va_P D classes [((Ta 0), .inr (10, [.ref (Ta 1), .int (Tv 0), .int vy_2, .int vy_379, .int (-1), .int (Tv 4)])), ((Ta 1), .inl (tc 0, 400, .inl (Tf 1)))] H := hP₀
                    replace hD : va_D A [((Ta 0), .inr (10, [.ref (Ta 1), .int (Tv 0), .int vy_2, .int vy_379, .int (-1), .int (Tv 4)])), ((Ta 1), .inl (tc 0, 400, .inl (Tf 1)))] := hD₀
                    replace hS := hS₀
                    clear hP₀ hD₀ hS₀
                    refine lv_if_eq (tgt := 242) hx hb dX10_step_108 (by decide) (fun c_404 => ?_) (fun c_404 => ?_)
                    · skip
                      have ha_405 : 0 ≤ ((Tv 0) : Int32).toInt ∧ ((Tv 0) : Int32).toInt ≤ 400 ∧ 0 ≤ (vy_2 : Int32).toInt ∧ (vy_2 : Int32).toInt ≤ 400 ∧ 0 ≤ (vy_379 : Int32).toInt ∧ (vy_379 : Int32).toInt ≤ 400 := by
                        have z_1 := Int32.lt_iff_toInt_lt.mp (Int32.not_le.mp c_9)
                        have z_2 : ¬ (r_319 : Int32).toInt = (32 : Int32).toInt := fun z => c_322 (Int32.toInt_inj.mp z)
                        have z_3 : ¬ ((Tv 4) : Int32).toInt = (0 : Int32).toInt := fun z => c_323 (Int32.toInt_inj.mp z)
                        have z_4 : ¬ (r_327 : Int32).toInt = (0 : Int32).toInt := fun z => c_330 (Int32.toInt_inj.mp z)
                        have z_5 := Int32.lt_iff_toInt_lt.mp (Int32.not_le.mp c_386)
                        have z_6 := congrArg Int32.toInt c_404
                        have y_0 : (0 : Int32).toInt = 0 := by decide
                        have y_32 : (32 : Int32).toInt = 32 := by decide
                        omega
                      have hr_406 : ¬ ((Tv 4) : Int32).toInt = 0 := by
                        have z_1 := Int32.lt_iff_toInt_lt.mp (Int32.not_le.mp c_9)
                        have z_2 : ¬ (r_319 : Int32).toInt = (32 : Int32).toInt := fun z => c_322 (Int32.toInt_inj.mp z)
                        have z_3 : ¬ ((Tv 4) : Int32).toInt = (0 : Int32).toInt := fun z => c_323 (Int32.toInt_inj.mp z)
                        have z_4 : ¬ (r_327 : Int32).toInt = (0 : Int32).toInt := fun z => c_330 (Int32.toInt_inj.mp z)
                        have z_5 := Int32.lt_iff_toInt_lt.mp (Int32.not_le.mp c_386)
                        have z_6 := congrArg Int32.toInt c_404
                        have y_0 : (0 : Int32).toInt = 0 := by decide
                        have y_32 : (32 : Int32).toInt = 32 := by decide
                        omega
                      have hr_407 : ((-1) : Int32).toInt = -1 := by
                        have z_1 := Int32.lt_iff_toInt_lt.mp (Int32.not_le.mp c_9)
                        have z_2 : ¬ (r_319 : Int32).toInt = (32 : Int32).toInt := fun z => c_322 (Int32.toInt_inj.mp z)
                        have z_3 : ¬ ((Tv 4) : Int32).toInt = (0 : Int32).toInt := fun z => c_323 (Int32.toInt_inj.mp z)
                        have z_4 : ¬ (r_327 : Int32).toInt = (0 : Int32).toInt := fun z => c_330 (Int32.toInt_inj.mp z)
                        have z_5 := Int32.lt_iff_toInt_lt.mp (Int32.not_le.mp c_386)
                        have z_6 := congrArg Int32.toInt c_404
                        have y_0 : (0 : Int32).toInt = 0 := by decide
                        have y_32 : (32 : Int32).toInt = 32 := by decide
                        have y_m1 : (-1 : Int32).toInt = -1 := by decide
                        omega
                      exact retV hx hb hr hlk hP hD hS (vy_2, vy_379, (-1)) ⟨rfl, ha_405, (TpB.er h_tb hr_406 hr_407)⟩ [0, 1] rfl rfl dX10_step_242 (Nat.le_of_ble_eq_true rfl) (Nat.le_of_ble_eq_true rfl) rfl
                    · skip
                      refine lv_aload_n hx hb dX10_step_111 rfl (lv_at hl 0 rfl) ?_
                      refine lv_dup hx hb dX10_step_112 rfl ?_
                      refine gf_X10_22 hx hb hts hown hK hP 0 rfl rfl dX10_step_113 ?_
                      refine lv_iconst (v := 1) hx hb dX10_step_116 (by decide) ?_
                      refine lv_iadd hx hb dX10_step_117 ?_
                      refine lv_topi (fun x_408 ex_408 => ?_)
                      refine pf_X10_22 hx hb hts hown hK hP hD hS 0 rfl (Nat.le_of_ble_eq_true rfl) rfl rfl dX10_step_118 (fun H locs hP₀ hD₀ hS₀ => ?_)
                      replace hP : va_P D classes [((Ta 0), .inr (10, [.ref (Ta 1), .int (Tv 0), .int vy_2, .int x_408, .int (-1), .int (Tv 4)])), ((Ta 1), .inl (tc 0, 400, .inl (Tf 1)))] H := hP₀
                      replace hD : va_D A [((Ta 0), .inr (10, [.ref (Ta 1), .int (Tv 0), .int vy_2, .int x_408, .int (-1), .int (Tv 4)])), ((Ta 1), .inl (tc 0, 400, .inl (Tf 1)))] := hD₀
                      replace hS := hS₀
                      clear hP₀ hD₀ hS₀
                      refine lv_goto (tgt := 86) hx hb dX10_step_121 (by decide) ?_
                      have hb_409 : 401 - (x_408 : Int32).toInt < 401 - (vy_379 : Int32).toInt ∧ 1 ≤ 401 - (vy_379 : Int32).toInt := by
                        have z_1 := Int32.lt_iff_toInt_lt.mp (Int32.not_le.mp c_9)
                        have z_2 : ¬ (r_319 : Int32).toInt = (32 : Int32).toInt := fun z => c_322 (Int32.toInt_inj.mp z)
                        have z_3 : ¬ ((Tv 4) : Int32).toInt = (0 : Int32).toInt := fun z => c_323 (Int32.toInt_inj.mp z)
                        have z_4 : ¬ (r_327 : Int32).toInt = (0 : Int32).toInt := fun z => c_330 (Int32.toInt_inj.mp z)
                        have z_5 := Int32.lt_iff_toInt_lt.mp (Int32.not_le.mp c_386)
                        have z_6 : ¬ (r_401 : Int32).toInt = (0 : Int32).toInt := fun z => c_404 (Int32.toInt_inj.mp z)
                        have y_0 : (0 : Int32).toInt = 0 := by decide
                        have y_32 : (32 : Int32).toInt = 32 := by decide
                        have y_1 : (1 : Int32).toInt = 1 := by decide
                        have t_x_408 : x_408.toInt = (vy_379 : Int32).toInt + (1 : Int32).toInt := by rw [ex_408]; exact add_toInt (by omega) (by omega)
                        omega
                      have ha_410 : 0 ≤ (x_408 : Int32).toInt ∧ (x_408 : Int32).toInt ≤ 400 := by
                        have z_1 := Int32.lt_iff_toInt_lt.mp (Int32.not_le.mp c_9)
                        have z_2 : ¬ (r_319 : Int32).toInt = (32 : Int32).toInt := fun z => c_322 (Int32.toInt_inj.mp z)
                        have z_3 : ¬ ((Tv 4) : Int32).toInt = (0 : Int32).toInt := fun z => c_323 (Int32.toInt_inj.mp z)
                        have z_4 : ¬ (r_327 : Int32).toInt = (0 : Int32).toInt := fun z => c_330 (Int32.toInt_inj.mp z)
                        have z_5 := Int32.lt_iff_toInt_lt.mp (Int32.not_le.mp c_386)
                        have z_6 : ¬ (r_401 : Int32).toInt = (0 : Int32).toInt := fun z => c_404 (Int32.toInt_inj.mp z)
                        have y_0 : (0 : Int32).toInt = 0 := by decide
                        have y_32 : (32 : Int32).toInt = 32 := by decide
                        have y_1 : (1 : Int32).toInt = 1 := by decide
                        have t_x_408 : x_408.toInt = (vy_379 : Int32).toInt + (1 : Int32).toInt := by rw [ex_408]; exact add_toInt (by omega) (by omega)
                        omega
                      have hr_411 : 0 ≤ (vy_379 : Int32).toInt := by
                        have z_1 := Int32.lt_iff_toInt_lt.mp (Int32.not_le.mp c_9)
                        have z_2 : ¬ (r_319 : Int32).toInt = (32 : Int32).toInt := fun z => c_322 (Int32.toInt_inj.mp z)
                        have z_3 : ¬ ((Tv 4) : Int32).toInt = (0 : Int32).toInt := fun z => c_323 (Int32.toInt_inj.mp z)
                        have z_4 : ¬ (r_327 : Int32).toInt = (0 : Int32).toInt := fun z => c_330 (Int32.toInt_inj.mp z)
                        have z_5 := Int32.lt_iff_toInt_lt.mp (Int32.not_le.mp c_386)
                        have z_6 : ¬ (r_401 : Int32).toInt = (0 : Int32).toInt := fun z => c_404 (Int32.toInt_inj.mp z)
                        have y_0 : (0 : Int32).toInt = 0 := by decide
                        have y_32 : (32 : Int32).toInt = 32 := by decide
                        omega
                      have hr_412 : 97 ≤ (r_395 : Int32).toInt ∧ (r_395 : Int32).toInt ≤ 122 := by
                        have z_1 := Int32.lt_iff_toInt_lt.mp (Int32.not_le.mp c_9)
                        have z_2 : ¬ (r_319 : Int32).toInt = (32 : Int32).toInt := fun z => c_322 (Int32.toInt_inj.mp z)
                        have z_3 : ¬ ((Tv 4) : Int32).toInt = (0 : Int32).toInt := fun z => c_323 (Int32.toInt_inj.mp z)
                        have z_4 : ¬ (r_327 : Int32).toInt = (0 : Int32).toInt := fun z => c_330 (Int32.toInt_inj.mp z)
                        have z_5 := Int32.lt_iff_toInt_lt.mp (Int32.not_le.mp c_386)
                        have z_6 : ¬ (r_401 : Int32).toInt = (0 : Int32).toInt := fun z => c_404 (Int32.toInt_inj.mp z)
                        have y_0 : (0 : Int32).toInt = 0 := by decide
                        have y_32 : (32 : Int32).toInt = 32 := by decide
                        omega
                      have hi_413 : (x_408 : Int32).toInt = (vy_379 : Int32).toInt + 1 := by
                        have z_1 := Int32.lt_iff_toInt_lt.mp (Int32.not_le.mp c_9)
                        have z_2 : ¬ (r_319 : Int32).toInt = (32 : Int32).toInt := fun z => c_322 (Int32.toInt_inj.mp z)
                        have z_3 : ¬ ((Tv 4) : Int32).toInt = (0 : Int32).toInt := fun z => c_323 (Int32.toInt_inj.mp z)
                        have z_4 : ¬ (r_327 : Int32).toInt = (0 : Int32).toInt := fun z => c_330 (Int32.toInt_inj.mp z)
                        have z_5 := Int32.lt_iff_toInt_lt.mp (Int32.not_le.mp c_386)
                        have z_6 : ¬ (r_401 : Int32).toInt = (0 : Int32).toInt := fun z => c_404 (Int32.toInt_inj.mp z)
                        have y_0 : (0 : Int32).toInt = 0 := by decide
                        have y_32 : (32 : Int32).toInt = 32 := by decide
                        have y_1 : (1 : Int32).toInt = 1 := by decide
                        have t_x_408 : x_408.toInt = (vy_379 : Int32).toInt + (1 : Int32).toInt := by rw [ex_408]; exact add_toInt (by omega) (by omega)
                        omega
                      exact ih_381 x_408 _ _ _ (by omega) ha_410 (Rn.st pf_384 hr_411 he_396.1 (decide_eq_true hr_412) hi_413) (hP.sub [0, 1] rfl) (hD.sub [0, 1] rfl rfl) hS (lv_sub hl [0] rfl)
              exact loop_382 _ vy_2 _ _ _ (Nat.lt_succ_self _) pf_6 (Rn.rf) hP hD hS hl
          · skip
            refine lv_aload_n hx hb dX10_step_61 rfl (lv_at hl 0 rfl) ?_
            refine lv_aload_n hx hb dX10_step_62 rfl (lv_at hl 0 rfl) ?_
            refine gf_X10_19 hx hb hts hown hK hP 0 rfl rfl dX10_step_63 ?_
            have ha_414 : 0 ≤ ((Tv 0) : Int32).toInt ∧ ((Tv 0) : Int32).toInt ≤ 400 ∧ 0 ≤ (vy_2 : Int32).toInt ∧ (vy_2 : Int32).toInt ≤ 400 ∧ 0 ≤ (vy_2 : Int32).toInt ∧ (vy_2 : Int32).toInt ≤ 400 := by
              have z_1 := Int32.lt_iff_toInt_lt.mp (Int32.not_le.mp c_9)
              have z_2 : ¬ (r_319 : Int32).toInt = (32 : Int32).toInt := fun z => c_322 (Int32.toInt_inj.mp z)
              have z_3 := congrArg Int32.toInt c_323
              have y_0 : (0 : Int32).toInt = 0 := by decide
              have y_32 : (32 : Int32).toInt = 32 := by decide
              omega
            have ha_415 : 0 ≤ vy_2.toInt := by
              have z_1 := Int32.lt_iff_toInt_lt.mp (Int32.not_le.mp c_9)
              have z_2 : ¬ (r_319 : Int32).toInt = (32 : Int32).toInt := fun z => c_322 (Int32.toInt_inj.mp z)
              have z_3 := congrArg Int32.toInt c_323
              have y_0 : (0 : Int32).toInt = 0 := by decide
              have y_32 : (32 : Int32).toInt = 32 := by decide
              omega
            refine cV (a := (Ta 0)) (As := [.int vy_2]) (rest := [.ref (Ta 0)]) (wr := []) ⟨hx, hb, hml, hown, hts⟩ hK hX hA (cu_fX10_byteAt l D tc sk (Ta 0) (Ta 1) (Tv 0) vy_2 vy_2 (Tv 3) (Tv 4) (Tf 1) vy_2 ha_414 h_by ha_415) k_482 k_479 k_481 k_0 k_96 pl_X10_byteAt ⟨Nat.le_of_ble_eq_true rfl, Nat.le_of_ble_eq_true rfl⟩ rfl rfl (va_recv hK hP (ci := 10) (q0 := 0) rfl rfl) hP hD hS [0, 1] [] rfl rfl rfl rfl rfl (by decide) rfl hl.1 rfl (Nat.le_of_ble_eq_true rfl) dX10_step_66 ⟨Nat.le_of_ble_eq_true rfl, Nat.le_of_ble_eq_true rfl⟩ (fun v_416 u_417 H locs hv_418 hP₀ hD₀ hS₀ => ?_)
            obtain ⟨r_419, rfl, he_420⟩ := hv_418
            have he_420 : (r_419.toInt = cB (Tf 1) (Tv 0) vy_2.toInt.toNat ∧ (((Tv 0).toInt ≤ vy_2.toInt ∧ r_419.toInt = -1) ∨ (vy_2.toInt < (Tv 0).toInt ∧ 0 ≤ r_419.toInt ∧ r_419.toInt ≤ 255))) := he_420
            refine W.eq (g2 := F0 m 69 ls [.int r_419, .ref (Ta 0)]) rfl ?_
            replace hP : va_P D classes [((Ta 0), .inr (10, [.ref (Ta 1), .int (Tv 0), .int vy_2, .int vy_2, .int (Tv 3), .int (Tv 4)])), ((Ta 1), .inl (tc 0, 400, .inl (Tf 1)))] H := hP₀
            replace hD : va_D A [((Ta 0), .inr (10, [.ref (Ta 1), .int (Tv 0), .int vy_2, .int vy_2, .int (Tv 3), .int (Tv 4)])), ((Ta 1), .inl (tc 0, 400, .inl (Tf 1)))] := hD₀
            replace hS := hS₀
            clear hP₀ hD₀ hS₀
            refine lv_goto (tgt := 73) hx hb dX10_step_69 (by decide) ?_
            refine pf_X10_25 hx hb hts hown hK hP hD hS 0 rfl (Nat.le_of_ble_eq_true rfl) rfl rfl dX10_step_73 (fun H locs hP₀ hD₀ hS₀ => ?_)
            replace hP : va_P D classes [((Ta 0), .inr (10, [.ref (Ta 1), .int (Tv 0), .int vy_2, .int vy_2, .int r_419, .int (Tv 4)])), ((Ta 1), .inl (tc 0, 400, .inl (Tf 1)))] H := hP₀
            replace hD : va_D A [((Ta 0), .inr (10, [.ref (Ta 1), .int (Tv 0), .int vy_2, .int vy_2, .int r_419, .int (Tv 4)])), ((Ta 1), .inl (tc 0, 400, .inl (Tf 1)))] := hD₀
            replace hS := hS₀
            clear hP₀ hD₀ hS₀
            refine lv_aload_n hx hb dX10_step_76 rfl (lv_at hl 0 rfl) ?_
            refine gf_X10_25 hx hb hts hown hK hP 0 rfl rfl dX10_step_77 ?_
            refine cS (As := [.int r_419]) (rest := []) (wr := [((Ta 0), .inr (10, [.ref (Ta 1), .int (Tv 0), .int vy_2, .int vy_2, .int r_419, .int (Tv 4)])), ((Ta 1), .inl (tc 0, 400, .inl (Tf 1)))]) ⟨hx, hb, hml, hown, hts⟩ hK hX hA (ct_fX10_isLetter l D tc sk r_419) k_485 k_483 k_484 k_96 pl_X10_isLetter ⟨Nat.le_of_ble_eq_true rfl, Nat.le_of_ble_eq_true rfl⟩ rfl rfl  hP hD hS [] [0, 1] rfl rfl rfl rfl rfl (by decide) rfl hl.1 rfl (Nat.le_of_ble_eq_true rfl) dX10_step_80 ⟨Nat.le_of_ble_eq_true rfl, Nat.le_of_ble_eq_true rfl⟩ (fun v_422 u_423 H locs hv_424 hP₀ hD₀ hS₀ => ?_)
            obtain ⟨r_425, rfl, he_426⟩ := hv_424
            have he_426 : ((r_425.toInt = 1 ∧ 97 ≤ r_419.toInt ∧ r_419.toInt ≤ 122) ∨ (r_425.toInt = 0 ∧ (r_419.toInt < 97 ∨ 122 < r_419.toInt))) := he_426
            refine W.eq (g2 := F0 m 83 ls [.int r_425]) rfl ?_
            replace hP : va_P D classes [((Ta 0), .inr (10, [.ref (Ta 1), .int (Tv 0), .int vy_2, .int vy_2, .int r_419, .int (Tv 4)])), ((Ta 1), .inl (tc 0, 400, .inl (Tf 1)))] H := hP₀
            replace hD : va_D A [((Ta 0), .inr (10, [.ref (Ta 1), .int (Tv 0), .int vy_2, .int vy_2, .int r_419, .int (Tv 4)])), ((Ta 1), .inl (tc 0, 400, .inl (Tf 1)))] := hD₀
            replace hS := hS₀
            clear hP₀ hD₀ hS₀
            refine lv_if_eq (tgt := 124) hx hb dX10_step_83 (by decide) (fun c_428 => ?_) (fun c_428 => ?_)
            · skip
              refine lv_aload_n hx hb dX10_step_124 rfl (lv_at hl 0 rfl) ?_
              refine gf_X10_25 hx hb hts hown hK hP 0 rfl rfl dX10_step_125 ?_
              refine cS (As := [.int r_419]) (rest := []) (wr := [((Ta 0), .inr (10, [.ref (Ta 1), .int (Tv 0), .int vy_2, .int vy_2, .int r_419, .int (Tv 4)])), ((Ta 1), .inl (tc 0, 400, .inl (Tf 1)))]) ⟨hx, hb, hml, hown, hts⟩ hK hX hA (ct_fX10_isDigit l D tc sk r_419) k_488 k_486 k_487 k_96 pl_X10_isDigit ⟨Nat.le_of_ble_eq_true rfl, Nat.le_of_ble_eq_true rfl⟩ rfl rfl  hP hD hS [] [0, 1] rfl rfl rfl rfl rfl (by decide) rfl hl.1 rfl (Nat.le_of_ble_eq_true rfl) dX10_step_128 ⟨Nat.le_of_ble_eq_true rfl, Nat.le_of_ble_eq_true rfl⟩ (fun v_429 u_430 H locs hv_431 hP₀ hD₀ hS₀ => ?_)
              obtain ⟨r_432, rfl, he_433⟩ := hv_431
              have he_433 : ((r_432.toInt = 1 ∧ 48 ≤ r_419.toInt ∧ r_419.toInt ≤ 57) ∨ (r_432.toInt = 0 ∧ (r_419.toInt < 48 ∨ 57 < r_419.toInt))) := he_433
              refine W.eq (g2 := F0 m 131 ls [.int r_432]) rfl ?_
              replace hP : va_P D classes [((Ta 0), .inr (10, [.ref (Ta 1), .int (Tv 0), .int vy_2, .int vy_2, .int r_419, .int (Tv 4)])), ((Ta 1), .inl (tc 0, 400, .inl (Tf 1)))] H := hP₀
              replace hD : va_D A [((Ta 0), .inr (10, [.ref (Ta 1), .int (Tv 0), .int vy_2, .int vy_2, .int r_419, .int (Tv 4)])), ((Ta 1), .inl (tc 0, 400, .inl (Tf 1)))] := hD₀
              replace hS := hS₀
              clear hP₀ hD₀ hS₀
              refine lv_if_eq (tgt := 172) hx hb dX10_step_131 (by decide) (fun c_435 => ?_) (fun c_435 => ?_)
              · skip
                refine lv_aload_n hx hb dX10_step_172 rfl (lv_at hl 0 rfl) ?_
                refine gf_X10_25 hx hb hts hown hK hP 0 rfl rfl dX10_step_173 ?_
                refine lv_iconst (v := (-1)) hx hb dX10_step_176 (by decide) ?_
                refine lv_icmp_eq (tgt := 242) hx hb dX10_step_177 (by decide) (fun c_436 => ?_) (fun c_436 => ?_)
                · skip
                  have ha_437 : 0 ≤ ((Tv 0) : Int32).toInt ∧ ((Tv 0) : Int32).toInt ≤ 400 ∧ 0 ≤ (vy_2 : Int32).toInt ∧ (vy_2 : Int32).toInt ≤ 400 ∧ 0 ≤ (vy_2 : Int32).toInt ∧ (vy_2 : Int32).toInt ≤ 400 := by
                    have z_1 := Int32.lt_iff_toInt_lt.mp (Int32.not_le.mp c_9)
                    have z_2 : ¬ (r_319 : Int32).toInt = (32 : Int32).toInt := fun z => c_322 (Int32.toInt_inj.mp z)
                    have z_3 := congrArg Int32.toInt c_323
                    have z_4 := congrArg Int32.toInt c_428
                    have z_5 := congrArg Int32.toInt c_435
                    have z_6 := congrArg Int32.toInt c_436
                    have y_m1 : (-1 : Int32).toInt = -1 := by decide
                    have y_0 : (0 : Int32).toInt = 0 := by decide
                    have y_32 : (32 : Int32).toInt = 32 := by decide
                    omega
                  have rg_438 := cB_rg (n := (Tv 0)) h_by (vy_2 : Int32).toInt.toNat
                  have h2_439 : ¬ cB (Tf 1) (Tv 0) (vy_2 : Int32).toInt.toNat = 32 := by
                    have z_1 := Int32.lt_iff_toInt_lt.mp (Int32.not_le.mp c_9)
                    have z_2 : ¬ (r_319 : Int32).toInt = (32 : Int32).toInt := fun z => c_322 (Int32.toInt_inj.mp z)
                    have z_3 := congrArg Int32.toInt c_323
                    have z_4 := congrArg Int32.toInt c_428
                    have z_5 := congrArg Int32.toInt c_435
                    have z_6 := congrArg Int32.toInt c_436
                    have y_m1 : (-1 : Int32).toInt = -1 := by decide
                    have y_0 : (0 : Int32).toInt = 0 := by decide
                    have y_32 : (32 : Int32).toInt = 32 := by decide
                    omega
                  have hr_440 : 0 ≤ (vy_2 : Int32).toInt := by
                    have z_1 := Int32.lt_iff_toInt_lt.mp (Int32.not_le.mp c_9)
                    have z_2 : ¬ (r_319 : Int32).toInt = (32 : Int32).toInt := fun z => c_322 (Int32.toInt_inj.mp z)
                    have z_3 := congrArg Int32.toInt c_323
                    have z_4 := congrArg Int32.toInt c_428
                    have z_5 := congrArg Int32.toInt c_435
                    have z_6 := congrArg Int32.toInt c_436
                    have y_m1 : (-1 : Int32).toInt = -1 := by decide
                    have y_0 : (0 : Int32).toInt = 0 := by decide
                    have y_32 : (32 : Int32).toInt = 32 := by decide
                    omega
                  have hr_441 : (r_419 : Int32).toInt = -1 := by
                    have z_1 := Int32.lt_iff_toInt_lt.mp (Int32.not_le.mp c_9)
                    have z_2 : ¬ (r_319 : Int32).toInt = (32 : Int32).toInt := fun z => c_322 (Int32.toInt_inj.mp z)
                    have z_3 := congrArg Int32.toInt c_323
                    have z_4 := congrArg Int32.toInt c_428
                    have z_5 := congrArg Int32.toInt c_435
                    have z_6 := congrArg Int32.toInt c_436
                    have y_m1 : (-1 : Int32).toInt = -1 := by decide
                    have y_0 : (0 : Int32).toInt = 0 := by decide
                    have y_32 : (32 : Int32).toInt = 32 := by decide
                    omega
                  have hr_442 : ((Tv 4) : Int32).toInt = 0 := by
                    have z_1 := Int32.lt_iff_toInt_lt.mp (Int32.not_le.mp c_9)
                    have z_2 : ¬ (r_319 : Int32).toInt = (32 : Int32).toInt := fun z => c_322 (Int32.toInt_inj.mp z)
                    have z_3 := congrArg Int32.toInt c_323
                    have z_4 := congrArg Int32.toInt c_428
                    have z_5 := congrArg Int32.toInt c_435
                    have z_6 := congrArg Int32.toInt c_436
                    have y_m1 : (-1 : Int32).toInt = -1 := by decide
                    have y_0 : (0 : Int32).toInt = 0 := by decide
                    have y_32 : (32 : Int32).toInt = 32 := by decide
                    omega
                  have hr_443 : (vy_2 : Int32).toInt ≤ 400 := by
                    have z_1 := Int32.lt_iff_toInt_lt.mp (Int32.not_le.mp c_9)
                    have z_2 : ¬ (r_319 : Int32).toInt = (32 : Int32).toInt := fun z => c_322 (Int32.toInt_inj.mp z)
                    have z_3 := congrArg Int32.toInt c_323
                    have z_4 := congrArg Int32.toInt c_428
                    have z_5 := congrArg Int32.toInt c_435
                    have z_6 := congrArg Int32.toInt c_436
                    have y_m1 : (-1 : Int32).toInt = -1 := by decide
                    have y_0 : (0 : Int32).toInt = 0 := by decide
                    have y_32 : (32 : Int32).toInt = 32 := by decide
                    omega
                  exact retV hx hb hr hlk hP hD hS (vy_2, vy_2, r_419) ⟨rfl, ha_437, (TpB.at h_tb hr_442 h_tape.2.2.2.2.1 pf_7 hr_443 h2_439 (te_0 hr_440 he_420.1 hr_441) he_420.1)⟩ [0, 1] rfl rfl dX10_step_242 (Nat.le_of_ble_eq_true rfl) (Nat.le_of_ble_eq_true rfl) rfl
                · skip
                  refine lv_aload_n hx hb dX10_step_180 rfl (lv_at hl 0 rfl) ?_
                  refine gf_X10_25 hx hb hts hown hK hP 0 rfl rfl dX10_step_181 ?_
                  refine lv_bipush (v := 60) hx hb dX10_step_184 (by decide) ?_
                  refine lv_icmp_eq (tgt := 198) hx hb dX10_step_186 (by decide) (fun c_444 => ?_) (fun c_444 => ?_)
                  · skip
                    refine lv_iconst (v := 1) hx hb dX10_step_198 (by decide) ?_
                    refine lv_goto (tgt := 203) hx hb dX10_step_199 (by decide) ?_
                    refine lv_istore_n (lv' := [(1, .int 1), (0, .ref (Ta 0))]) hx hb dX10_step_203 rfl hl (by decide) rfl (fun ls hl₀ => ?_)
                    replace hl := hl₀
                    clear hl₀
                    refine lv_aload_n hx hb dX10_step_204 rfl (lv_at hl 1 rfl) ?_
                    refine lv_iload_n hx hb dX10_step_205 rfl (lv_at hl 0 rfl) ?_
                    refine lv_if_eq (tgt := 233) hx hb dX10_step_206 (by decide) (fun c_445 => absurd c_445 (by decide)) (fun c_445 => ?_)
                    refine lv_aload_n hx hb dX10_step_209 rfl (lv_at hl 1 rfl) ?_
                    refine lv_aload_n hx hb dX10_step_210 rfl (lv_at hl 1 rfl) ?_
                    refine gf_X10_19 hx hb hts hown hK hP 0 rfl rfl dX10_step_211 ?_
                    refine lv_iconst (v := 1) hx hb dX10_step_214 (by decide) ?_
                    refine lv_iadd hx hb dX10_step_215 ?_
                    refine lv_topi (fun x_446 ex_446 => ?_)
                    have ha_447 : 0 ≤ ((Tv 0) : Int32).toInt ∧ ((Tv 0) : Int32).toInt ≤ 400 ∧ 0 ≤ (vy_2 : Int32).toInt ∧ (vy_2 : Int32).toInt ≤ 400 ∧ 0 ≤ (vy_2 : Int32).toInt ∧ (vy_2 : Int32).toInt ≤ 400 := by
                      have z_1 := Int32.lt_iff_toInt_lt.mp (Int32.not_le.mp c_9)
                      have z_2 : ¬ (r_319 : Int32).toInt = (32 : Int32).toInt := fun z => c_322 (Int32.toInt_inj.mp z)
                      have z_3 := congrArg Int32.toInt c_323
                      have z_4 := congrArg Int32.toInt c_428
                      have z_5 := congrArg Int32.toInt c_435
                      have z_6 : ¬ (r_419 : Int32).toInt = ((-1) : Int32).toInt := fun z => c_436 (Int32.toInt_inj.mp z)
                      have z_7 := congrArg Int32.toInt c_444
                      have y_m1 : (-1 : Int32).toInt = -1 := by decide
                      have y_0 : (0 : Int32).toInt = 0 := by decide
                      have y_32 : (32 : Int32).toInt = 32 := by decide
                      have y_60 : (60 : Int32).toInt = 60 := by decide
                      have y_1 : (1 : Int32).toInt = 1 := by decide
                      have t_x_446 : x_446.toInt = (vy_2 : Int32).toInt + (1 : Int32).toInt := by rw [ex_446]; exact add_toInt (by omega) (by omega)
                      omega
                    have ha_448 : 0 ≤ x_446.toInt := by
                      have z_1 := Int32.lt_iff_toInt_lt.mp (Int32.not_le.mp c_9)
                      have z_2 : ¬ (r_319 : Int32).toInt = (32 : Int32).toInt := fun z => c_322 (Int32.toInt_inj.mp z)
                      have z_3 := congrArg Int32.toInt c_323
                      have z_4 := congrArg Int32.toInt c_428
                      have z_5 := congrArg Int32.toInt c_435
                      have z_6 : ¬ (r_419 : Int32).toInt = ((-1) : Int32).toInt := fun z => c_436 (Int32.toInt_inj.mp z)
                      have z_7 := congrArg Int32.toInt c_444
                      have y_m1 : (-1 : Int32).toInt = -1 := by decide
                      have y_0 : (0 : Int32).toInt = 0 := by decide
                      have y_32 : (32 : Int32).toInt = 32 := by decide
                      have y_60 : (60 : Int32).toInt = 60 := by decide
                      have y_1 : (1 : Int32).toInt = 1 := by decide
                      have t_x_446 : x_446.toInt = (vy_2 : Int32).toInt + (1 : Int32).toInt := by rw [ex_446]; exact add_toInt (by omega) (by omega)
                      omega
                    refine cV (a := (Ta 0)) (As := [.int x_446]) (rest := [.ref (Ta 0)]) (wr := []) ⟨hx, hb, hml, hown, hts⟩ hK hX hA (cu_fX10_byteAt l D tc sk (Ta 0) (Ta 1) (Tv 0) vy_2 vy_2 r_419 (Tv 4) (Tf 1) x_446 ha_447 h_by ha_448) k_482 k_479 k_481 k_0 k_96 pl_X10_byteAt ⟨Nat.le_of_ble_eq_true rfl, Nat.le_of_ble_eq_true rfl⟩ rfl rfl (va_recv hK hP (ci := 10) (q0 := 0) rfl rfl) hP hD hS [0, 1] [] rfl rfl rfl rfl rfl (by decide) rfl hl.1 rfl (Nat.le_of_ble_eq_true rfl) dX10_step_216 ⟨Nat.le_of_ble_eq_true rfl, Nat.le_of_ble_eq_true rfl⟩ (fun v_449 u_450 H locs hv_451 hP₀ hD₀ hS₀ => ?_)
                    obtain ⟨r_452, rfl, he_453⟩ := hv_451
                    have he_453 : (r_452.toInt = cB (Tf 1) (Tv 0) x_446.toInt.toNat ∧ (((Tv 0).toInt ≤ x_446.toInt ∧ r_452.toInt = -1) ∨ (x_446.toInt < (Tv 0).toInt ∧ 0 ≤ r_452.toInt ∧ r_452.toInt ≤ 255))) := he_453
                    refine W.eq (g2 := F0 m 219 ls [.int r_452, .ref (Ta 0)]) rfl ?_
                    replace hP : va_P D classes [((Ta 0), .inr (10, [.ref (Ta 1), .int (Tv 0), .int vy_2, .int vy_2, .int r_419, .int (Tv 4)])), ((Ta 1), .inl (tc 0, 400, .inl (Tf 1)))] H := hP₀
                    replace hD : va_D A [((Ta 0), .inr (10, [.ref (Ta 1), .int (Tv 0), .int vy_2, .int vy_2, .int r_419, .int (Tv 4)])), ((Ta 1), .inl (tc 0, 400, .inl (Tf 1)))] := hD₀
                    replace hS := hS₀
                    clear hP₀ hD₀ hS₀
                    refine lv_bipush (v := 61) hx hb dX10_step_219 (by decide) ?_
                    refine lv_icmp_ne (tgt := 233) hx hb dX10_step_221 (by decide) (fun c_455 => ?_) (fun c_455 => ?_)
                    · skip
                      refine lv_aload_n hx hb dX10_step_233 rfl (lv_at hl 1 rfl) ?_
                      refine gf_X10_19 hx hb hts hown hK hP 0 rfl rfl dX10_step_234 ?_
                      refine lv_iconst (v := 1) hx hb dX10_step_237 (by decide) ?_
                      refine lv_iadd hx hb dX10_step_238 ?_
                      refine lv_topi (fun x_456 ex_456 => ?_)
                      refine pf_X10_22 hx hb hts hown hK hP hD hS 0 rfl (Nat.le_of_ble_eq_true rfl) rfl rfl dX10_step_239 (fun H locs hP₀ hD₀ hS₀ => ?_)
                      replace hP : va_P D classes [((Ta 0), .inr (10, [.ref (Ta 1), .int (Tv 0), .int vy_2, .int x_456, .int r_419, .int (Tv 4)])), ((Ta 1), .inl (tc 0, 400, .inl (Tf 1)))] H := hP₀
                      replace hD : va_D A [((Ta 0), .inr (10, [.ref (Ta 1), .int (Tv 0), .int vy_2, .int x_456, .int r_419, .int (Tv 4)])), ((Ta 1), .inl (tc 0, 400, .inl (Tf 1)))] := hD₀
                      replace hS := hS₀
                      clear hP₀ hD₀ hS₀
                      have ha_457 : 0 ≤ ((Tv 0) : Int32).toInt ∧ ((Tv 0) : Int32).toInt ≤ 400 ∧ 0 ≤ (vy_2 : Int32).toInt ∧ (vy_2 : Int32).toInt ≤ 400 ∧ 0 ≤ (x_456 : Int32).toInt ∧ (x_456 : Int32).toInt ≤ 400 := by
                        have z_1 := Int32.lt_iff_toInt_lt.mp (Int32.not_le.mp c_9)
                        have z_2 : ¬ (r_319 : Int32).toInt = (32 : Int32).toInt := fun z => c_322 (Int32.toInt_inj.mp z)
                        have z_3 := congrArg Int32.toInt c_323
                        have z_4 := congrArg Int32.toInt c_428
                        have z_5 := congrArg Int32.toInt c_435
                        have z_6 : ¬ (r_419 : Int32).toInt = ((-1) : Int32).toInt := fun z => c_436 (Int32.toInt_inj.mp z)
                        have z_7 := congrArg Int32.toInt c_444
                        have z_8 : ¬ (r_452 : Int32).toInt = (61 : Int32).toInt := fun z => c_455 (Int32.toInt_inj.mp z)
                        have y_m1 : (-1 : Int32).toInt = -1 := by decide
                        have y_0 : (0 : Int32).toInt = 0 := by decide
                        have y_32 : (32 : Int32).toInt = 32 := by decide
                        have y_60 : (60 : Int32).toInt = 60 := by decide
                        have y_61 : (61 : Int32).toInt = 61 := by decide
                        have y_1 : (1 : Int32).toInt = 1 := by decide
                        have t_x_456 : x_456.toInt = (vy_2 : Int32).toInt + (1 : Int32).toInt := by rw [ex_456]; exact add_toInt (by omega) (by omega)
                        have t_x_446 : x_446.toInt = (vy_2 : Int32).toInt + (1 : Int32).toInt := by rw [ex_446]; exact add_toInt (by omega) (by omega)
                        omega
                      have rg_458 := cB_rg (n := (Tv 0)) h_by (vy_2 : Int32).toInt.toNat
                      have h2_459 : ¬ cB (Tf 1) (Tv 0) (vy_2 : Int32).toInt.toNat = 32 := by
                        have z_1 := Int32.lt_iff_toInt_lt.mp (Int32.not_le.mp c_9)
                        have z_2 : ¬ (r_319 : Int32).toInt = (32 : Int32).toInt := fun z => c_322 (Int32.toInt_inj.mp z)
                        have z_3 := congrArg Int32.toInt c_323
                        have z_4 := congrArg Int32.toInt c_428
                        have z_5 := congrArg Int32.toInt c_435
                        have z_6 : ¬ (r_419 : Int32).toInt = ((-1) : Int32).toInt := fun z => c_436 (Int32.toInt_inj.mp z)
                        have z_7 := congrArg Int32.toInt c_444
                        have z_8 : ¬ (r_452 : Int32).toInt = (61 : Int32).toInt := fun z => c_455 (Int32.toInt_inj.mp z)
                        have y_m1 : (-1 : Int32).toInt = -1 := by decide
                        have y_0 : (0 : Int32).toInt = 0 := by decide
                        have y_32 : (32 : Int32).toInt = 32 := by decide
                        have y_60 : (60 : Int32).toInt = 60 := by decide
                        have y_61 : (61 : Int32).toInt = 61 := by decide
                        have y_1 : (1 : Int32).toInt = 1 := by decide
                        have t_x_446 : x_446.toInt = (vy_2 : Int32).toInt + (1 : Int32).toInt := by rw [ex_446]; exact add_toInt (by omega) (by omega)
                        omega
                      have hr_460 : 0 ≤ (vy_2 : Int32).toInt := by
                        have z_1 := Int32.lt_iff_toInt_lt.mp (Int32.not_le.mp c_9)
                        have z_2 : ¬ (r_319 : Int32).toInt = (32 : Int32).toInt := fun z => c_322 (Int32.toInt_inj.mp z)
                        have z_3 := congrArg Int32.toInt c_323
                        have z_4 := congrArg Int32.toInt c_428
                        have z_5 := congrArg Int32.toInt c_435
                        have z_6 : ¬ (r_419 : Int32).toInt = ((-1) : Int32).toInt := fun z => c_436 (Int32.toInt_inj.mp z)
                        have z_7 := congrArg Int32.toInt c_444
                        have z_8 : ¬ (r_452 : Int32).toInt = (61 : Int32).toInt := fun z => c_455 (Int32.toInt_inj.mp z)
                        have y_m1 : (-1 : Int32).toInt = -1 := by decide
                        have y_0 : (0 : Int32).toInt = 0 := by decide
                        have y_32 : (32 : Int32).toInt = 32 := by decide
                        have y_60 : (60 : Int32).toInt = 60 := by decide
                        have y_61 : (61 : Int32).toInt = 61 := by decide
                        have y_1 : (1 : Int32).toInt = 1 := by decide
                        have t_x_446 : x_446.toInt = (vy_2 : Int32).toInt + (1 : Int32).toInt := by rw [ex_446]; exact add_toInt (by omega) (by omega)
                        omega
                      have hi_461 : (x_456 : Int32).toInt = (vy_2 : Int32).toInt + 1 := by
                        have z_1 := Int32.lt_iff_toInt_lt.mp (Int32.not_le.mp c_9)
                        have z_2 : ¬ (r_319 : Int32).toInt = (32 : Int32).toInt := fun z => c_322 (Int32.toInt_inj.mp z)
                        have z_3 := congrArg Int32.toInt c_323
                        have z_4 := congrArg Int32.toInt c_428
                        have z_5 := congrArg Int32.toInt c_435
                        have z_6 : ¬ (r_419 : Int32).toInt = ((-1) : Int32).toInt := fun z => c_436 (Int32.toInt_inj.mp z)
                        have z_7 := congrArg Int32.toInt c_444
                        have z_8 : ¬ (r_452 : Int32).toInt = (61 : Int32).toInt := fun z => c_455 (Int32.toInt_inj.mp z)
                        have y_m1 : (-1 : Int32).toInt = -1 := by decide
                        have y_0 : (0 : Int32).toInt = 0 := by decide
                        have y_32 : (32 : Int32).toInt = 32 := by decide
                        have y_60 : (60 : Int32).toInt = 60 := by decide
                        have y_61 : (61 : Int32).toInt = 61 := by decide
                        have y_1 : (1 : Int32).toInt = 1 := by decide
                        have t_x_456 : x_456.toInt = (vy_2 : Int32).toInt + (1 : Int32).toInt := by rw [ex_456]; exact add_toInt (by omega) (by omega)
                        have t_x_446 : x_446.toInt = (vy_2 : Int32).toInt + (1 : Int32).toInt := by rw [ex_446]; exact add_toInt (by omega) (by omega)
                        omega
                      have hx_462 : (x_446 : Int32).toInt.toNat = (vy_2 : Int32).toInt.toNat + 1 := by
                        have z_1 := Int32.lt_iff_toInt_lt.mp (Int32.not_le.mp c_9)
                        have z_2 : ¬ (r_319 : Int32).toInt = (32 : Int32).toInt := fun z => c_322 (Int32.toInt_inj.mp z)
                        have z_3 := congrArg Int32.toInt c_323
                        have z_4 := congrArg Int32.toInt c_428
                        have z_5 := congrArg Int32.toInt c_435
                        have z_6 : ¬ (r_419 : Int32).toInt = ((-1) : Int32).toInt := fun z => c_436 (Int32.toInt_inj.mp z)
                        have z_7 := congrArg Int32.toInt c_444
                        have z_8 : ¬ (r_452 : Int32).toInt = (61 : Int32).toInt := fun z => c_455 (Int32.toInt_inj.mp z)
                        have y_m1 : (-1 : Int32).toInt = -1 := by decide
                        have y_0 : (0 : Int32).toInt = 0 := by decide
                        have y_32 : (32 : Int32).toInt = 32 := by decide
                        have y_60 : (60 : Int32).toInt = 60 := by decide
                        have y_61 : (61 : Int32).toInt = 61 := by decide
                        have y_1 : (1 : Int32).toInt = 1 := by decide
                        have t_x_446 : x_446.toInt = (vy_2 : Int32).toInt + (1 : Int32).toInt := by rw [ex_446]; exact add_toInt (by omega) (by omega)
                        omega
                      rw [hx_462] at he_453
                      have h2_463 : ¬ (((r_419 : Int32).toInt = 60 ∨ (r_419 : Int32).toInt = 62) ∧ cB (Tf 1) (Tv 0) ((vy_2 : Int32).toInt.toNat + 1) = 61) := by
                        have z_1 := Int32.lt_iff_toInt_lt.mp (Int32.not_le.mp c_9)
                        have z_2 : ¬ (r_319 : Int32).toInt = (32 : Int32).toInt := fun z => c_322 (Int32.toInt_inj.mp z)
                        have z_3 := congrArg Int32.toInt c_323
                        have z_4 := congrArg Int32.toInt c_428
                        have z_5 := congrArg Int32.toInt c_435
                        have z_6 : ¬ (r_419 : Int32).toInt = ((-1) : Int32).toInt := fun z => c_436 (Int32.toInt_inj.mp z)
                        have z_7 := congrArg Int32.toInt c_444
                        have z_8 : ¬ (r_452 : Int32).toInt = (61 : Int32).toInt := fun z => c_455 (Int32.toInt_inj.mp z)
                        have y_m1 : (-1 : Int32).toInt = -1 := by decide
                        have y_0 : (0 : Int32).toInt = 0 := by decide
                        have y_32 : (32 : Int32).toInt = 32 := by decide
                        have y_60 : (60 : Int32).toInt = 60 := by decide
                        have y_61 : (61 : Int32).toInt = 61 := by decide
                        have y_1 : (1 : Int32).toInt = 1 := by decide
                        have t_x_446 : x_446.toInt = (vy_2 : Int32).toInt + (1 : Int32).toInt := by rw [ex_446]; exact add_toInt (by omega) (by omega)
                        omega
                      have hr_464 : ¬ (97 ≤ (r_419 : Int32).toInt ∧ (r_419 : Int32).toInt ≤ 122) := by
                        have z_1 := Int32.lt_iff_toInt_lt.mp (Int32.not_le.mp c_9)
                        have z_2 : ¬ (r_319 : Int32).toInt = (32 : Int32).toInt := fun z => c_322 (Int32.toInt_inj.mp z)
                        have z_3 := congrArg Int32.toInt c_323
                        have z_4 := congrArg Int32.toInt c_428
                        have z_5 := congrArg Int32.toInt c_435
                        have z_6 : ¬ (r_419 : Int32).toInt = ((-1) : Int32).toInt := fun z => c_436 (Int32.toInt_inj.mp z)
                        have z_7 := congrArg Int32.toInt c_444
                        have z_8 : ¬ (r_452 : Int32).toInt = (61 : Int32).toInt := fun z => c_455 (Int32.toInt_inj.mp z)
                        have y_m1 : (-1 : Int32).toInt = -1 := by decide
                        have y_0 : (0 : Int32).toInt = 0 := by decide
                        have y_32 : (32 : Int32).toInt = 32 := by decide
                        have y_60 : (60 : Int32).toInt = 60 := by decide
                        have y_61 : (61 : Int32).toInt = 61 := by decide
                        have y_1 : (1 : Int32).toInt = 1 := by decide
                        have t_x_446 : x_446.toInt = (vy_2 : Int32).toInt + (1 : Int32).toInt := by rw [ex_446]; exact add_toInt (by omega) (by omega)
                        omega
                      have hr_465 : ¬ (48 ≤ (r_419 : Int32).toInt ∧ (r_419 : Int32).toInt ≤ 57) := by
                        have z_1 := Int32.lt_iff_toInt_lt.mp (Int32.not_le.mp c_9)
                        have z_2 : ¬ (r_319 : Int32).toInt = (32 : Int32).toInt := fun z => c_322 (Int32.toInt_inj.mp z)
                        have z_3 := congrArg Int32.toInt c_323
                        have z_4 := congrArg Int32.toInt c_428
                        have z_5 := congrArg Int32.toInt c_435
                        have z_6 : ¬ (r_419 : Int32).toInt = ((-1) : Int32).toInt := fun z => c_436 (Int32.toInt_inj.mp z)
                        have z_7 := congrArg Int32.toInt c_444
                        have z_8 : ¬ (r_452 : Int32).toInt = (61 : Int32).toInt := fun z => c_455 (Int32.toInt_inj.mp z)
                        have y_m1 : (-1 : Int32).toInt = -1 := by decide
                        have y_0 : (0 : Int32).toInt = 0 := by decide
                        have y_32 : (32 : Int32).toInt = 32 := by decide
                        have y_60 : (60 : Int32).toInt = 60 := by decide
                        have y_61 : (61 : Int32).toInt = 61 := by decide
                        have y_1 : (1 : Int32).toInt = 1 := by decide
                        have t_x_446 : x_446.toInt = (vy_2 : Int32).toInt + (1 : Int32).toInt := by rw [ex_446]; exact add_toInt (by omega) (by omega)
                        omega
                      have hr_466 : ¬ (r_419 : Int32).toInt = -1 := by
                        have z_1 := Int32.lt_iff_toInt_lt.mp (Int32.not_le.mp c_9)
                        have z_2 : ¬ (r_319 : Int32).toInt = (32 : Int32).toInt := fun z => c_322 (Int32.toInt_inj.mp z)
                        have z_3 := congrArg Int32.toInt c_323
                        have z_4 := congrArg Int32.toInt c_428
                        have z_5 := congrArg Int32.toInt c_435
                        have z_6 : ¬ (r_419 : Int32).toInt = ((-1) : Int32).toInt := fun z => c_436 (Int32.toInt_inj.mp z)
                        have z_7 := congrArg Int32.toInt c_444
                        have z_8 : ¬ (r_452 : Int32).toInt = (61 : Int32).toInt := fun z => c_455 (Int32.toInt_inj.mp z)
                        have y_m1 : (-1 : Int32).toInt = -1 := by decide
                        have y_0 : (0 : Int32).toInt = 0 := by decide
                        have y_32 : (32 : Int32).toInt = 32 := by decide
                        have y_60 : (60 : Int32).toInt = 60 := by decide
                        have y_61 : (61 : Int32).toInt = 61 := by decide
                        have y_1 : (1 : Int32).toInt = 1 := by decide
                        have t_x_446 : x_446.toInt = (vy_2 : Int32).toInt + (1 : Int32).toInt := by rw [ex_446]; exact add_toInt (by omega) (by omega)
                        omega
                      have hr_467 : ((Tv 4) : Int32).toInt = 0 := by
                        have z_1 := Int32.lt_iff_toInt_lt.mp (Int32.not_le.mp c_9)
                        have z_2 : ¬ (r_319 : Int32).toInt = (32 : Int32).toInt := fun z => c_322 (Int32.toInt_inj.mp z)
                        have z_3 := congrArg Int32.toInt c_323
                        have z_4 := congrArg Int32.toInt c_428
                        have z_5 := congrArg Int32.toInt c_435
                        have z_6 : ¬ (r_419 : Int32).toInt = ((-1) : Int32).toInt := fun z => c_436 (Int32.toInt_inj.mp z)
                        have z_7 := congrArg Int32.toInt c_444
                        have z_8 : ¬ (r_452 : Int32).toInt = (61 : Int32).toInt := fun z => c_455 (Int32.toInt_inj.mp z)
                        have y_m1 : (-1 : Int32).toInt = -1 := by decide
                        have y_0 : (0 : Int32).toInt = 0 := by decide
                        have y_32 : (32 : Int32).toInt = 32 := by decide
                        have y_60 : (60 : Int32).toInt = 60 := by decide
                        have y_61 : (61 : Int32).toInt = 61 := by decide
                        have y_1 : (1 : Int32).toInt = 1 := by decide
                        have t_x_446 : x_446.toInt = (vy_2 : Int32).toInt + (1 : Int32).toInt := by rw [ex_446]; exact add_toInt (by omega) (by omega)
                        omega
                      have hr_468 : (vy_2 : Int32).toInt ≤ 400 := by
                        have z_1 := Int32.lt_iff_toInt_lt.mp (Int32.not_le.mp c_9)
                        have z_2 : ¬ (r_319 : Int32).toInt = (32 : Int32).toInt := fun z => c_322 (Int32.toInt_inj.mp z)
                        have z_3 := congrArg Int32.toInt c_323
                        have z_4 := congrArg Int32.toInt c_428
                        have z_5 := congrArg Int32.toInt c_435
                        have z_6 : ¬ (r_419 : Int32).toInt = ((-1) : Int32).toInt := fun z => c_436 (Int32.toInt_inj.mp z)
                        have z_7 := congrArg Int32.toInt c_444
                        have z_8 : ¬ (r_452 : Int32).toInt = (61 : Int32).toInt := fun z => c_455 (Int32.toInt_inj.mp z)
                        have y_m1 : (-1 : Int32).toInt = -1 := by decide
                        have y_0 : (0 : Int32).toInt = 0 := by decide
                        have y_32 : (32 : Int32).toInt = 32 := by decide
                        have y_60 : (60 : Int32).toInt = 60 := by decide
                        have y_61 : (61 : Int32).toInt = 61 := by decide
                        have y_1 : (1 : Int32).toInt = 1 := by decide
                        have t_x_446 : x_446.toInt = (vy_2 : Int32).toInt + (1 : Int32).toInt := by rw [ex_446]; exact add_toInt (by omega) (by omega)
                        omega
                      exact retV hx hb hr hlk hP hD hS (vy_2, x_456, r_419) ⟨rfl, ha_457, (TpB.at h_tb hr_467 h_tape.2.2.2.2.1 pf_7 hr_468 h2_459 (te_1 hr_460 he_420.1 hr_464 hr_465 hr_466 h2_463 hi_461) he_420.1)⟩ [0, 1] rfl rfl dX10_step_242 (Nat.le_of_ble_eq_true rfl) (Nat.le_of_ble_eq_true rfl) rfl
                    · skip
                      refine lv_aload_n hx hb dX10_step_224 rfl (lv_at hl 1 rfl) ?_
                      refine gf_X10_19 hx hb hts hown hK hP 0 rfl rfl dX10_step_225 ?_
                      refine lv_iconst (v := 2) hx hb dX10_step_228 (by decide) ?_
                      refine lv_iadd hx hb dX10_step_229 ?_
                      refine lv_topi (fun x_469 ex_469 => ?_)
                      refine lv_goto (tgt := 239) hx hb dX10_step_230 (by decide) ?_
                      refine pf_X10_22 hx hb hts hown hK hP hD hS 0 rfl (Nat.le_of_ble_eq_true rfl) rfl rfl dX10_step_239 (fun H locs hP₀ hD₀ hS₀ => ?_)
                      replace hP : va_P D classes [((Ta 0), .inr (10, [.ref (Ta 1), .int (Tv 0), .int vy_2, .int x_469, .int r_419, .int (Tv 4)])), ((Ta 1), .inl (tc 0, 400, .inl (Tf 1)))] H := hP₀
                      replace hD : va_D A [((Ta 0), .inr (10, [.ref (Ta 1), .int (Tv 0), .int vy_2, .int x_469, .int r_419, .int (Tv 4)])), ((Ta 1), .inl (tc 0, 400, .inl (Tf 1)))] := hD₀
                      replace hS := hS₀
                      clear hP₀ hD₀ hS₀
                      have ha_470 : 0 ≤ ((Tv 0) : Int32).toInt ∧ ((Tv 0) : Int32).toInt ≤ 400 ∧ 0 ≤ (vy_2 : Int32).toInt ∧ (vy_2 : Int32).toInt ≤ 400 ∧ 0 ≤ (x_469 : Int32).toInt ∧ (x_469 : Int32).toInt ≤ 400 := by
                        have z_1 := Int32.lt_iff_toInt_lt.mp (Int32.not_le.mp c_9)
                        have z_2 : ¬ (r_319 : Int32).toInt = (32 : Int32).toInt := fun z => c_322 (Int32.toInt_inj.mp z)
                        have z_3 := congrArg Int32.toInt c_323
                        have z_4 := congrArg Int32.toInt c_428
                        have z_5 := congrArg Int32.toInt c_435
                        have z_6 : ¬ (r_419 : Int32).toInt = ((-1) : Int32).toInt := fun z => c_436 (Int32.toInt_inj.mp z)
                        have z_7 := congrArg Int32.toInt c_444
                        have z_8 := congrArg Int32.toInt c_455
                        have y_m1 : (-1 : Int32).toInt = -1 := by decide
                        have y_0 : (0 : Int32).toInt = 0 := by decide
                        have y_32 : (32 : Int32).toInt = 32 := by decide
                        have y_60 : (60 : Int32).toInt = 60 := by decide
                        have y_61 : (61 : Int32).toInt = 61 := by decide
                        have y_1 : (1 : Int32).toInt = 1 := by decide
                        have y_2 : (2 : Int32).toInt = 2 := by decide
                        have t_x_469 : x_469.toInt = (vy_2 : Int32).toInt + (2 : Int32).toInt := by rw [ex_469]; exact add_toInt (by omega) (by omega)
                        have t_x_446 : x_446.toInt = (vy_2 : Int32).toInt + (1 : Int32).toInt := by rw [ex_446]; exact add_toInt (by omega) (by omega)
                        omega
                      have rg_471 := cB_rg (n := (Tv 0)) h_by (vy_2 : Int32).toInt.toNat
                      have h2_472 : ¬ cB (Tf 1) (Tv 0) (vy_2 : Int32).toInt.toNat = 32 := by
                        have z_1 := Int32.lt_iff_toInt_lt.mp (Int32.not_le.mp c_9)
                        have z_2 : ¬ (r_319 : Int32).toInt = (32 : Int32).toInt := fun z => c_322 (Int32.toInt_inj.mp z)
                        have z_3 := congrArg Int32.toInt c_323
                        have z_4 := congrArg Int32.toInt c_428
                        have z_5 := congrArg Int32.toInt c_435
                        have z_6 : ¬ (r_419 : Int32).toInt = ((-1) : Int32).toInt := fun z => c_436 (Int32.toInt_inj.mp z)
                        have z_7 := congrArg Int32.toInt c_444
                        have z_8 := congrArg Int32.toInt c_455
                        have y_m1 : (-1 : Int32).toInt = -1 := by decide
                        have y_0 : (0 : Int32).toInt = 0 := by decide
                        have y_32 : (32 : Int32).toInt = 32 := by decide
                        have y_60 : (60 : Int32).toInt = 60 := by decide
                        have y_61 : (61 : Int32).toInt = 61 := by decide
                        have y_1 : (1 : Int32).toInt = 1 := by decide
                        have t_x_446 : x_446.toInt = (vy_2 : Int32).toInt + (1 : Int32).toInt := by rw [ex_446]; exact add_toInt (by omega) (by omega)
                        omega
                      have hr_473 : 0 ≤ (vy_2 : Int32).toInt := by
                        have z_1 := Int32.lt_iff_toInt_lt.mp (Int32.not_le.mp c_9)
                        have z_2 : ¬ (r_319 : Int32).toInt = (32 : Int32).toInt := fun z => c_322 (Int32.toInt_inj.mp z)
                        have z_3 := congrArg Int32.toInt c_323
                        have z_4 := congrArg Int32.toInt c_428
                        have z_5 := congrArg Int32.toInt c_435
                        have z_6 : ¬ (r_419 : Int32).toInt = ((-1) : Int32).toInt := fun z => c_436 (Int32.toInt_inj.mp z)
                        have z_7 := congrArg Int32.toInt c_444
                        have z_8 := congrArg Int32.toInt c_455
                        have y_m1 : (-1 : Int32).toInt = -1 := by decide
                        have y_0 : (0 : Int32).toInt = 0 := by decide
                        have y_32 : (32 : Int32).toInt = 32 := by decide
                        have y_60 : (60 : Int32).toInt = 60 := by decide
                        have y_61 : (61 : Int32).toInt = 61 := by decide
                        have y_1 : (1 : Int32).toInt = 1 := by decide
                        have t_x_446 : x_446.toInt = (vy_2 : Int32).toInt + (1 : Int32).toInt := by rw [ex_446]; exact add_toInt (by omega) (by omega)
                        omega
                      have hi_474 : (x_469 : Int32).toInt = (vy_2 : Int32).toInt + 2 := by
                        have z_1 := Int32.lt_iff_toInt_lt.mp (Int32.not_le.mp c_9)
                        have z_2 : ¬ (r_319 : Int32).toInt = (32 : Int32).toInt := fun z => c_322 (Int32.toInt_inj.mp z)
                        have z_3 := congrArg Int32.toInt c_323
                        have z_4 := congrArg Int32.toInt c_428
                        have z_5 := congrArg Int32.toInt c_435
                        have z_6 : ¬ (r_419 : Int32).toInt = ((-1) : Int32).toInt := fun z => c_436 (Int32.toInt_inj.mp z)
                        have z_7 := congrArg Int32.toInt c_444
                        have z_8 := congrArg Int32.toInt c_455
                        have y_m1 : (-1 : Int32).toInt = -1 := by decide
                        have y_0 : (0 : Int32).toInt = 0 := by decide
                        have y_32 : (32 : Int32).toInt = 32 := by decide
                        have y_60 : (60 : Int32).toInt = 60 := by decide
                        have y_61 : (61 : Int32).toInt = 61 := by decide
                        have y_1 : (1 : Int32).toInt = 1 := by decide
                        have y_2 : (2 : Int32).toInt = 2 := by decide
                        have t_x_469 : x_469.toInt = (vy_2 : Int32).toInt + (2 : Int32).toInt := by rw [ex_469]; exact add_toInt (by omega) (by omega)
                        have t_x_446 : x_446.toInt = (vy_2 : Int32).toInt + (1 : Int32).toInt := by rw [ex_446]; exact add_toInt (by omega) (by omega)
                        omega
                      have hx_475 : (x_446 : Int32).toInt.toNat = (vy_2 : Int32).toInt.toNat + 1 := by
                        have z_1 := Int32.lt_iff_toInt_lt.mp (Int32.not_le.mp c_9)
                        have z_2 : ¬ (r_319 : Int32).toInt = (32 : Int32).toInt := fun z => c_322 (Int32.toInt_inj.mp z)
                        have z_3 := congrArg Int32.toInt c_323
                        have z_4 := congrArg Int32.toInt c_428
                        have z_5 := congrArg Int32.toInt c_435
                        have z_6 : ¬ (r_419 : Int32).toInt = ((-1) : Int32).toInt := fun z => c_436 (Int32.toInt_inj.mp z)
                        have z_7 := congrArg Int32.toInt c_444
                        have z_8 := congrArg Int32.toInt c_455
                        have y_m1 : (-1 : Int32).toInt = -1 := by decide
                        have y_0 : (0 : Int32).toInt = 0 := by decide
                        have y_32 : (32 : Int32).toInt = 32 := by decide
                        have y_60 : (60 : Int32).toInt = 60 := by decide
                        have y_61 : (61 : Int32).toInt = 61 := by decide
                        have y_1 : (1 : Int32).toInt = 1 := by decide
                        have t_x_446 : x_446.toInt = (vy_2 : Int32).toInt + (1 : Int32).toInt := by rw [ex_446]; exact add_toInt (by omega) (by omega)
                        omega
                      rw [hx_475] at he_453
                      have h2_476 : (((r_419 : Int32).toInt = 60 ∨ (r_419 : Int32).toInt = 62) ∧ cB (Tf 1) (Tv 0) ((vy_2 : Int32).toInt.toNat + 1) = 61) := by
                        have z_1 := Int32.lt_iff_toInt_lt.mp (Int32.not_le.mp c_9)
                        have z_2 : ¬ (r_319 : Int32).toInt = (32 : Int32).toInt := fun z => c_322 (Int32.toInt_inj.mp z)
                        have z_3 := congrArg Int32.toInt c_323
                        have z_4 := congrArg Int32.toInt c_428
                        have z_5 := congrArg Int32.toInt c_435
                        have z_6 : ¬ (r_419 : Int32).toInt = ((-1) : Int32).toInt := fun z => c_436 (Int32.toInt_inj.mp z)
                        have z_7 := congrArg Int32.toInt c_444
                        have z_8 := congrArg Int32.toInt c_455
                        have y_m1 : (-1 : Int32).toInt = -1 := by decide
                        have y_0 : (0 : Int32).toInt = 0 := by decide
                        have y_32 : (32 : Int32).toInt = 32 := by decide
                        have y_60 : (60 : Int32).toInt = 60 := by decide
                        have y_61 : (61 : Int32).toInt = 61 := by decide
                        have y_1 : (1 : Int32).toInt = 1 := by decide
                        have t_x_446 : x_446.toInt = (vy_2 : Int32).toInt + (1 : Int32).toInt := by rw [ex_446]; exact add_toInt (by omega) (by omega)
                        omega
                      have hr_477 : ((Tv 4) : Int32).toInt = 0 := by
                        have z_1 := Int32.lt_iff_toInt_lt.mp (Int32.not_le.mp c_9)
                        have z_2 : ¬ (r_319 : Int32).toInt = (32 : Int32).toInt := fun z => c_322 (Int32.toInt_inj.mp z)
                        have z_3 := congrArg Int32.toInt c_323
                        have z_4 := congrArg Int32.toInt c_428
                        have z_5 := congrArg Int32.toInt c_435
                        have z_6 : ¬ (r_419 : Int32).toInt = ((-1) : Int32).toInt := fun z => c_436 (Int32.toInt_inj.mp z)
                        have z_7 := congrArg Int32.toInt c_444
                        have z_8 := congrArg Int32.toInt c_455
                        have y_m1 : (-1 : Int32).toInt = -1 := by decide
                        have y_0 : (0 : Int32).toInt = 0 := by decide
                        have y_32 : (32 : Int32).toInt = 32 := by decide
                        have y_60 : (60 : Int32).toInt = 60 := by decide
                        have y_61 : (61 : Int32).toInt = 61 := by decide
                        have y_1 : (1 : Int32).toInt = 1 := by decide
                        have t_x_446 : x_446.toInt = (vy_2 : Int32).toInt + (1 : Int32).toInt := by rw [ex_446]; exact add_toInt (by omega) (by omega)
                        omega
                      have hr_478 : (vy_2 : Int32).toInt ≤ 400 := by
                        have z_1 := Int32.lt_iff_toInt_lt.mp (Int32.not_le.mp c_9)
                        have z_2 : ¬ (r_319 : Int32).toInt = (32 : Int32).toInt := fun z => c_322 (Int32.toInt_inj.mp z)
                        have z_3 := congrArg Int32.toInt c_323
                        have z_4 := congrArg Int32.toInt c_428
                        have z_5 := congrArg Int32.toInt c_435
                        have z_6 : ¬ (r_419 : Int32).toInt = ((-1) : Int32).toInt := fun z => c_436 (Int32.toInt_inj.mp z)
                        have z_7 := congrArg Int32.toInt c_444
                        have z_8 := congrArg Int32.toInt c_455
                        have y_m1 : (-1 : Int32).toInt = -1 := by decide
                        have y_0 : (0 : Int32).toInt = 0 := by decide
                        have y_32 : (32 : Int32).toInt = 32 := by decide
                        have y_60 : (60 : Int32).toInt = 60 := by decide
                        have y_61 : (61 : Int32).toInt = 61 := by decide
                        have y_1 : (1 : Int32).toInt = 1 := by decide
                        have t_x_446 : x_446.toInt = (vy_2 : Int32).toInt + (1 : Int32).toInt := by rw [ex_446]; exact add_toInt (by omega) (by omega)
                        omega
                      exact retV hx hb hr hlk hP hD hS (vy_2, x_469, r_419) ⟨rfl, ha_470, (TpB.at h_tb hr_477 h_tape.2.2.2.2.1 pf_7 hr_478 h2_472 (te_2 hr_473 he_420.1 h2_476 hi_474) he_420.1)⟩ [0, 1] rfl rfl dX10_step_242 (Nat.le_of_ble_eq_true rfl) (Nat.le_of_ble_eq_true rfl) rfl
                  · skip
                    refine lv_aload_n hx hb dX10_step_189 rfl (lv_at hl 0 rfl) ?_
                    refine gf_X10_25 hx hb hts hown hK hP 0 rfl rfl dX10_step_190 ?_
                    refine lv_bipush (v := 62) hx hb dX10_step_193 (by decide) ?_
                    refine lv_icmp_ne (tgt := 202) hx hb dX10_step_195 (by decide) (fun c_479 => ?_) (fun c_479 => ?_)
                    · skip
                      refine lv_iconst (v := 0) hx hb dX10_step_202 (by decide) ?_
                      refine lv_istore_n (lv' := [(1, .int 0), (0, .ref (Ta 0))]) hx hb dX10_step_203 rfl hl (by decide) rfl (fun ls hl₀ => ?_)
                      replace hl := hl₀
                      clear hl₀
                      refine lv_aload_n hx hb dX10_step_204 rfl (lv_at hl 1 rfl) ?_
                      refine lv_iload_n hx hb dX10_step_205 rfl (lv_at hl 0 rfl) ?_
                      refine lv_if_eq (tgt := 233) hx hb dX10_step_206 (by decide) (fun c_480 => ?_) (fun c_480 => absurd c_480 (by decide))
                      refine lv_aload_n hx hb dX10_step_233 rfl (lv_at hl 1 rfl) ?_
                      refine gf_X10_19 hx hb hts hown hK hP 0 rfl rfl dX10_step_234 ?_
                      refine lv_iconst (v := 1) hx hb dX10_step_237 (by decide) ?_
                      refine lv_iadd hx hb dX10_step_238 ?_
                      refine lv_topi (fun x_481 ex_481 => ?_)
                      refine pf_X10_22 hx hb hts hown hK hP hD hS 0 rfl (Nat.le_of_ble_eq_true rfl) rfl rfl dX10_step_239 (fun H locs hP₀ hD₀ hS₀ => ?_)
                      replace hP : va_P D classes [((Ta 0), .inr (10, [.ref (Ta 1), .int (Tv 0), .int vy_2, .int x_481, .int r_419, .int (Tv 4)])), ((Ta 1), .inl (tc 0, 400, .inl (Tf 1)))] H := hP₀
                      replace hD : va_D A [((Ta 0), .inr (10, [.ref (Ta 1), .int (Tv 0), .int vy_2, .int x_481, .int r_419, .int (Tv 4)])), ((Ta 1), .inl (tc 0, 400, .inl (Tf 1)))] := hD₀
                      replace hS := hS₀
                      clear hP₀ hD₀ hS₀
                      have ha_482 : 0 ≤ ((Tv 0) : Int32).toInt ∧ ((Tv 0) : Int32).toInt ≤ 400 ∧ 0 ≤ (vy_2 : Int32).toInt ∧ (vy_2 : Int32).toInt ≤ 400 ∧ 0 ≤ (x_481 : Int32).toInt ∧ (x_481 : Int32).toInt ≤ 400 := by
                        have z_1 := Int32.lt_iff_toInt_lt.mp (Int32.not_le.mp c_9)
                        have z_2 : ¬ (r_319 : Int32).toInt = (32 : Int32).toInt := fun z => c_322 (Int32.toInt_inj.mp z)
                        have z_3 := congrArg Int32.toInt c_323
                        have z_4 := congrArg Int32.toInt c_428
                        have z_5 := congrArg Int32.toInt c_435
                        have z_6 : ¬ (r_419 : Int32).toInt = ((-1) : Int32).toInt := fun z => c_436 (Int32.toInt_inj.mp z)
                        have z_7 : ¬ (r_419 : Int32).toInt = (60 : Int32).toInt := fun z => c_444 (Int32.toInt_inj.mp z)
                        have z_8 : ¬ (r_419 : Int32).toInt = (62 : Int32).toInt := fun z => c_479 (Int32.toInt_inj.mp z)
                        have y_m1 : (-1 : Int32).toInt = -1 := by decide
                        have y_0 : (0 : Int32).toInt = 0 := by decide
                        have y_32 : (32 : Int32).toInt = 32 := by decide
                        have y_60 : (60 : Int32).toInt = 60 := by decide
                        have y_62 : (62 : Int32).toInt = 62 := by decide
                        have y_1 : (1 : Int32).toInt = 1 := by decide
                        have t_x_481 : x_481.toInt = (vy_2 : Int32).toInt + (1 : Int32).toInt := by rw [ex_481]; exact add_toInt (by omega) (by omega)
                        omega
                      have rg_483 := cB_rg (n := (Tv 0)) h_by (vy_2 : Int32).toInt.toNat
                      have h2_484 : ¬ cB (Tf 1) (Tv 0) (vy_2 : Int32).toInt.toNat = 32 := by
                        have z_1 := Int32.lt_iff_toInt_lt.mp (Int32.not_le.mp c_9)
                        have z_2 : ¬ (r_319 : Int32).toInt = (32 : Int32).toInt := fun z => c_322 (Int32.toInt_inj.mp z)
                        have z_3 := congrArg Int32.toInt c_323
                        have z_4 := congrArg Int32.toInt c_428
                        have z_5 := congrArg Int32.toInt c_435
                        have z_6 : ¬ (r_419 : Int32).toInt = ((-1) : Int32).toInt := fun z => c_436 (Int32.toInt_inj.mp z)
                        have z_7 : ¬ (r_419 : Int32).toInt = (60 : Int32).toInt := fun z => c_444 (Int32.toInt_inj.mp z)
                        have z_8 : ¬ (r_419 : Int32).toInt = (62 : Int32).toInt := fun z => c_479 (Int32.toInt_inj.mp z)
                        have y_m1 : (-1 : Int32).toInt = -1 := by decide
                        have y_0 : (0 : Int32).toInt = 0 := by decide
                        have y_32 : (32 : Int32).toInt = 32 := by decide
                        have y_60 : (60 : Int32).toInt = 60 := by decide
                        have y_62 : (62 : Int32).toInt = 62 := by decide
                        omega
                      have hr_485 : 0 ≤ (vy_2 : Int32).toInt := by
                        have z_1 := Int32.lt_iff_toInt_lt.mp (Int32.not_le.mp c_9)
                        have z_2 : ¬ (r_319 : Int32).toInt = (32 : Int32).toInt := fun z => c_322 (Int32.toInt_inj.mp z)
                        have z_3 := congrArg Int32.toInt c_323
                        have z_4 := congrArg Int32.toInt c_428
                        have z_5 := congrArg Int32.toInt c_435
                        have z_6 : ¬ (r_419 : Int32).toInt = ((-1) : Int32).toInt := fun z => c_436 (Int32.toInt_inj.mp z)
                        have z_7 : ¬ (r_419 : Int32).toInt = (60 : Int32).toInt := fun z => c_444 (Int32.toInt_inj.mp z)
                        have z_8 : ¬ (r_419 : Int32).toInt = (62 : Int32).toInt := fun z => c_479 (Int32.toInt_inj.mp z)
                        have y_m1 : (-1 : Int32).toInt = -1 := by decide
                        have y_0 : (0 : Int32).toInt = 0 := by decide
                        have y_32 : (32 : Int32).toInt = 32 := by decide
                        have y_60 : (60 : Int32).toInt = 60 := by decide
                        have y_62 : (62 : Int32).toInt = 62 := by decide
                        omega
                      have hi_486 : (x_481 : Int32).toInt = (vy_2 : Int32).toInt + 1 := by
                        have z_1 := Int32.lt_iff_toInt_lt.mp (Int32.not_le.mp c_9)
                        have z_2 : ¬ (r_319 : Int32).toInt = (32 : Int32).toInt := fun z => c_322 (Int32.toInt_inj.mp z)
                        have z_3 := congrArg Int32.toInt c_323
                        have z_4 := congrArg Int32.toInt c_428
                        have z_5 := congrArg Int32.toInt c_435
                        have z_6 : ¬ (r_419 : Int32).toInt = ((-1) : Int32).toInt := fun z => c_436 (Int32.toInt_inj.mp z)
                        have z_7 : ¬ (r_419 : Int32).toInt = (60 : Int32).toInt := fun z => c_444 (Int32.toInt_inj.mp z)
                        have z_8 : ¬ (r_419 : Int32).toInt = (62 : Int32).toInt := fun z => c_479 (Int32.toInt_inj.mp z)
                        have y_m1 : (-1 : Int32).toInt = -1 := by decide
                        have y_0 : (0 : Int32).toInt = 0 := by decide
                        have y_32 : (32 : Int32).toInt = 32 := by decide
                        have y_60 : (60 : Int32).toInt = 60 := by decide
                        have y_62 : (62 : Int32).toInt = 62 := by decide
                        have y_1 : (1 : Int32).toInt = 1 := by decide
                        have t_x_481 : x_481.toInt = (vy_2 : Int32).toInt + (1 : Int32).toInt := by rw [ex_481]; exact add_toInt (by omega) (by omega)
                        omega
                      have h2_487 : ¬ (((r_419 : Int32).toInt = 60 ∨ (r_419 : Int32).toInt = 62) ∧ cB (Tf 1) (Tv 0) ((vy_2 : Int32).toInt.toNat + 1) = 61) := by
                        have z_1 := Int32.lt_iff_toInt_lt.mp (Int32.not_le.mp c_9)
                        have z_2 : ¬ (r_319 : Int32).toInt = (32 : Int32).toInt := fun z => c_322 (Int32.toInt_inj.mp z)
                        have z_3 := congrArg Int32.toInt c_323
                        have z_4 := congrArg Int32.toInt c_428
                        have z_5 := congrArg Int32.toInt c_435
                        have z_6 : ¬ (r_419 : Int32).toInt = ((-1) : Int32).toInt := fun z => c_436 (Int32.toInt_inj.mp z)
                        have z_7 : ¬ (r_419 : Int32).toInt = (60 : Int32).toInt := fun z => c_444 (Int32.toInt_inj.mp z)
                        have z_8 : ¬ (r_419 : Int32).toInt = (62 : Int32).toInt := fun z => c_479 (Int32.toInt_inj.mp z)
                        have y_m1 : (-1 : Int32).toInt = -1 := by decide
                        have y_0 : (0 : Int32).toInt = 0 := by decide
                        have y_32 : (32 : Int32).toInt = 32 := by decide
                        have y_60 : (60 : Int32).toInt = 60 := by decide
                        have y_62 : (62 : Int32).toInt = 62 := by decide
                        omega
                      have hr_488 : ¬ (97 ≤ (r_419 : Int32).toInt ∧ (r_419 : Int32).toInt ≤ 122) := by
                        have z_1 := Int32.lt_iff_toInt_lt.mp (Int32.not_le.mp c_9)
                        have z_2 : ¬ (r_319 : Int32).toInt = (32 : Int32).toInt := fun z => c_322 (Int32.toInt_inj.mp z)
                        have z_3 := congrArg Int32.toInt c_323
                        have z_4 := congrArg Int32.toInt c_428
                        have z_5 := congrArg Int32.toInt c_435
                        have z_6 : ¬ (r_419 : Int32).toInt = ((-1) : Int32).toInt := fun z => c_436 (Int32.toInt_inj.mp z)
                        have z_7 : ¬ (r_419 : Int32).toInt = (60 : Int32).toInt := fun z => c_444 (Int32.toInt_inj.mp z)
                        have z_8 : ¬ (r_419 : Int32).toInt = (62 : Int32).toInt := fun z => c_479 (Int32.toInt_inj.mp z)
                        have y_m1 : (-1 : Int32).toInt = -1 := by decide
                        have y_0 : (0 : Int32).toInt = 0 := by decide
                        have y_32 : (32 : Int32).toInt = 32 := by decide
                        have y_60 : (60 : Int32).toInt = 60 := by decide
                        have y_62 : (62 : Int32).toInt = 62 := by decide
                        omega
                      have hr_489 : ¬ (48 ≤ (r_419 : Int32).toInt ∧ (r_419 : Int32).toInt ≤ 57) := by
                        have z_1 := Int32.lt_iff_toInt_lt.mp (Int32.not_le.mp c_9)
                        have z_2 : ¬ (r_319 : Int32).toInt = (32 : Int32).toInt := fun z => c_322 (Int32.toInt_inj.mp z)
                        have z_3 := congrArg Int32.toInt c_323
                        have z_4 := congrArg Int32.toInt c_428
                        have z_5 := congrArg Int32.toInt c_435
                        have z_6 : ¬ (r_419 : Int32).toInt = ((-1) : Int32).toInt := fun z => c_436 (Int32.toInt_inj.mp z)
                        have z_7 : ¬ (r_419 : Int32).toInt = (60 : Int32).toInt := fun z => c_444 (Int32.toInt_inj.mp z)
                        have z_8 : ¬ (r_419 : Int32).toInt = (62 : Int32).toInt := fun z => c_479 (Int32.toInt_inj.mp z)
                        have y_m1 : (-1 : Int32).toInt = -1 := by decide
                        have y_0 : (0 : Int32).toInt = 0 := by decide
                        have y_32 : (32 : Int32).toInt = 32 := by decide
                        have y_60 : (60 : Int32).toInt = 60 := by decide
                        have y_62 : (62 : Int32).toInt = 62 := by decide
                        omega
                      have hr_490 : ¬ (r_419 : Int32).toInt = -1 := by
                        have z_1 := Int32.lt_iff_toInt_lt.mp (Int32.not_le.mp c_9)
                        have z_2 : ¬ (r_319 : Int32).toInt = (32 : Int32).toInt := fun z => c_322 (Int32.toInt_inj.mp z)
                        have z_3 := congrArg Int32.toInt c_323
                        have z_4 := congrArg Int32.toInt c_428
                        have z_5 := congrArg Int32.toInt c_435
                        have z_6 : ¬ (r_419 : Int32).toInt = ((-1) : Int32).toInt := fun z => c_436 (Int32.toInt_inj.mp z)
                        have z_7 : ¬ (r_419 : Int32).toInt = (60 : Int32).toInt := fun z => c_444 (Int32.toInt_inj.mp z)
                        have z_8 : ¬ (r_419 : Int32).toInt = (62 : Int32).toInt := fun z => c_479 (Int32.toInt_inj.mp z)
                        have y_m1 : (-1 : Int32).toInt = -1 := by decide
                        have y_0 : (0 : Int32).toInt = 0 := by decide
                        have y_32 : (32 : Int32).toInt = 32 := by decide
                        have y_60 : (60 : Int32).toInt = 60 := by decide
                        have y_62 : (62 : Int32).toInt = 62 := by decide
                        omega
                      have hr_491 : ((Tv 4) : Int32).toInt = 0 := by
                        have z_1 := Int32.lt_iff_toInt_lt.mp (Int32.not_le.mp c_9)
                        have z_2 : ¬ (r_319 : Int32).toInt = (32 : Int32).toInt := fun z => c_322 (Int32.toInt_inj.mp z)
                        have z_3 := congrArg Int32.toInt c_323
                        have z_4 := congrArg Int32.toInt c_428
                        have z_5 := congrArg Int32.toInt c_435
                        have z_6 : ¬ (r_419 : Int32).toInt = ((-1) : Int32).toInt := fun z => c_436 (Int32.toInt_inj.mp z)
                        have z_7 : ¬ (r_419 : Int32).toInt = (60 : Int32).toInt := fun z => c_444 (Int32.toInt_inj.mp z)
                        have z_8 : ¬ (r_419 : Int32).toInt = (62 : Int32).toInt := fun z => c_479 (Int32.toInt_inj.mp z)
                        have y_m1 : (-1 : Int32).toInt = -1 := by decide
                        have y_0 : (0 : Int32).toInt = 0 := by decide
                        have y_32 : (32 : Int32).toInt = 32 := by decide
                        have y_60 : (60 : Int32).toInt = 60 := by decide
                        have y_62 : (62 : Int32).toInt = 62 := by decide
                        omega
                      have hr_492 : (vy_2 : Int32).toInt ≤ 400 := by
                        have z_1 := Int32.lt_iff_toInt_lt.mp (Int32.not_le.mp c_9)
                        have z_2 : ¬ (r_319 : Int32).toInt = (32 : Int32).toInt := fun z => c_322 (Int32.toInt_inj.mp z)
                        have z_3 := congrArg Int32.toInt c_323
                        have z_4 := congrArg Int32.toInt c_428
                        have z_5 := congrArg Int32.toInt c_435
                        have z_6 : ¬ (r_419 : Int32).toInt = ((-1) : Int32).toInt := fun z => c_436 (Int32.toInt_inj.mp z)
                        have z_7 : ¬ (r_419 : Int32).toInt = (60 : Int32).toInt := fun z => c_444 (Int32.toInt_inj.mp z)
                        have z_8 : ¬ (r_419 : Int32).toInt = (62 : Int32).toInt := fun z => c_479 (Int32.toInt_inj.mp z)
                        have y_m1 : (-1 : Int32).toInt = -1 := by decide
                        have y_0 : (0 : Int32).toInt = 0 := by decide
                        have y_32 : (32 : Int32).toInt = 32 := by decide
                        have y_60 : (60 : Int32).toInt = 60 := by decide
                        have y_62 : (62 : Int32).toInt = 62 := by decide
                        omega
                      exact retV hx hb hr hlk hP hD hS (vy_2, x_481, r_419) ⟨rfl, ha_482, (TpB.at h_tb hr_491 h_tape.2.2.2.2.1 pf_7 hr_492 h2_484 (te_1 hr_485 he_420.1 hr_488 hr_489 hr_490 h2_487 hi_486) he_420.1)⟩ [0, 1] rfl rfl dX10_step_242 (Nat.le_of_ble_eq_true rfl) (Nat.le_of_ble_eq_true rfl) rfl
                    · skip
                      refine lv_iconst (v := 1) hx hb dX10_step_198 (by decide) ?_
                      refine lv_goto (tgt := 203) hx hb dX10_step_199 (by decide) ?_
                      refine lv_istore_n (lv' := [(1, .int 1), (0, .ref (Ta 0))]) hx hb dX10_step_203 rfl hl (by decide) rfl (fun ls hl₀ => ?_)
                      replace hl := hl₀
                      clear hl₀
                      refine lv_aload_n hx hb dX10_step_204 rfl (lv_at hl 1 rfl) ?_
                      refine lv_iload_n hx hb dX10_step_205 rfl (lv_at hl 0 rfl) ?_
                      refine lv_if_eq (tgt := 233) hx hb dX10_step_206 (by decide) (fun c_493 => absurd c_493 (by decide)) (fun c_493 => ?_)
                      refine lv_aload_n hx hb dX10_step_209 rfl (lv_at hl 1 rfl) ?_
                      refine lv_aload_n hx hb dX10_step_210 rfl (lv_at hl 1 rfl) ?_
                      refine gf_X10_19 hx hb hts hown hK hP 0 rfl rfl dX10_step_211 ?_
                      refine lv_iconst (v := 1) hx hb dX10_step_214 (by decide) ?_
                      refine lv_iadd hx hb dX10_step_215 ?_
                      refine lv_topi (fun x_494 ex_494 => ?_)
                      have ha_495 : 0 ≤ ((Tv 0) : Int32).toInt ∧ ((Tv 0) : Int32).toInt ≤ 400 ∧ 0 ≤ (vy_2 : Int32).toInt ∧ (vy_2 : Int32).toInt ≤ 400 ∧ 0 ≤ (vy_2 : Int32).toInt ∧ (vy_2 : Int32).toInt ≤ 400 := by
                        have z_1 := Int32.lt_iff_toInt_lt.mp (Int32.not_le.mp c_9)
                        have z_2 : ¬ (r_319 : Int32).toInt = (32 : Int32).toInt := fun z => c_322 (Int32.toInt_inj.mp z)
                        have z_3 := congrArg Int32.toInt c_323
                        have z_4 := congrArg Int32.toInt c_428
                        have z_5 := congrArg Int32.toInt c_435
                        have z_6 : ¬ (r_419 : Int32).toInt = ((-1) : Int32).toInt := fun z => c_436 (Int32.toInt_inj.mp z)
                        have z_7 : ¬ (r_419 : Int32).toInt = (60 : Int32).toInt := fun z => c_444 (Int32.toInt_inj.mp z)
                        have z_8 := congrArg Int32.toInt c_479
                        have y_m1 : (-1 : Int32).toInt = -1 := by decide
                        have y_0 : (0 : Int32).toInt = 0 := by decide
                        have y_32 : (32 : Int32).toInt = 32 := by decide
                        have y_60 : (60 : Int32).toInt = 60 := by decide
                        have y_62 : (62 : Int32).toInt = 62 := by decide
                        have y_1 : (1 : Int32).toInt = 1 := by decide
                        have t_x_494 : x_494.toInt = (vy_2 : Int32).toInt + (1 : Int32).toInt := by rw [ex_494]; exact add_toInt (by omega) (by omega)
                        omega
                      have ha_496 : 0 ≤ x_494.toInt := by
                        have z_1 := Int32.lt_iff_toInt_lt.mp (Int32.not_le.mp c_9)
                        have z_2 : ¬ (r_319 : Int32).toInt = (32 : Int32).toInt := fun z => c_322 (Int32.toInt_inj.mp z)
                        have z_3 := congrArg Int32.toInt c_323
                        have z_4 := congrArg Int32.toInt c_428
                        have z_5 := congrArg Int32.toInt c_435
                        have z_6 : ¬ (r_419 : Int32).toInt = ((-1) : Int32).toInt := fun z => c_436 (Int32.toInt_inj.mp z)
                        have z_7 : ¬ (r_419 : Int32).toInt = (60 : Int32).toInt := fun z => c_444 (Int32.toInt_inj.mp z)
                        have z_8 := congrArg Int32.toInt c_479
                        have y_m1 : (-1 : Int32).toInt = -1 := by decide
                        have y_0 : (0 : Int32).toInt = 0 := by decide
                        have y_32 : (32 : Int32).toInt = 32 := by decide
                        have y_60 : (60 : Int32).toInt = 60 := by decide
                        have y_62 : (62 : Int32).toInt = 62 := by decide
                        have y_1 : (1 : Int32).toInt = 1 := by decide
                        have t_x_494 : x_494.toInt = (vy_2 : Int32).toInt + (1 : Int32).toInt := by rw [ex_494]; exact add_toInt (by omega) (by omega)
                        omega
                      refine cV (a := (Ta 0)) (As := [.int x_494]) (rest := [.ref (Ta 0)]) (wr := []) ⟨hx, hb, hml, hown, hts⟩ hK hX hA (cu_fX10_byteAt l D tc sk (Ta 0) (Ta 1) (Tv 0) vy_2 vy_2 r_419 (Tv 4) (Tf 1) x_494 ha_495 h_by ha_496) k_482 k_479 k_481 k_0 k_96 pl_X10_byteAt ⟨Nat.le_of_ble_eq_true rfl, Nat.le_of_ble_eq_true rfl⟩ rfl rfl (va_recv hK hP (ci := 10) (q0 := 0) rfl rfl) hP hD hS [0, 1] [] rfl rfl rfl rfl rfl (by decide) rfl hl.1 rfl (Nat.le_of_ble_eq_true rfl) dX10_step_216 ⟨Nat.le_of_ble_eq_true rfl, Nat.le_of_ble_eq_true rfl⟩ (fun v_497 u_498 H locs hv_499 hP₀ hD₀ hS₀ => ?_)
                      obtain ⟨r_500, rfl, he_501⟩ := hv_499
                      have he_501 : (r_500.toInt = cB (Tf 1) (Tv 0) x_494.toInt.toNat ∧ (((Tv 0).toInt ≤ x_494.toInt ∧ r_500.toInt = -1) ∨ (x_494.toInt < (Tv 0).toInt ∧ 0 ≤ r_500.toInt ∧ r_500.toInt ≤ 255))) := he_501
                      refine W.eq (g2 := F0 m 219 ls [.int r_500, .ref (Ta 0)]) rfl ?_
                      replace hP : va_P D classes [((Ta 0), .inr (10, [.ref (Ta 1), .int (Tv 0), .int vy_2, .int vy_2, .int r_419, .int (Tv 4)])), ((Ta 1), .inl (tc 0, 400, .inl (Tf 1)))] H := hP₀
                      replace hD : va_D A [((Ta 0), .inr (10, [.ref (Ta 1), .int (Tv 0), .int vy_2, .int vy_2, .int r_419, .int (Tv 4)])), ((Ta 1), .inl (tc 0, 400, .inl (Tf 1)))] := hD₀
                      replace hS := hS₀
                      clear hP₀ hD₀ hS₀
                      refine lv_bipush (v := 61) hx hb dX10_step_219 (by decide) ?_
                      refine lv_icmp_ne (tgt := 233) hx hb dX10_step_221 (by decide) (fun c_503 => ?_) (fun c_503 => ?_)
                      · skip
                        refine lv_aload_n hx hb dX10_step_233 rfl (lv_at hl 1 rfl) ?_
                        refine gf_X10_19 hx hb hts hown hK hP 0 rfl rfl dX10_step_234 ?_
                        refine lv_iconst (v := 1) hx hb dX10_step_237 (by decide) ?_
                        refine lv_iadd hx hb dX10_step_238 ?_
                        refine lv_topi (fun x_504 ex_504 => ?_)
                        refine pf_X10_22 hx hb hts hown hK hP hD hS 0 rfl (Nat.le_of_ble_eq_true rfl) rfl rfl dX10_step_239 (fun H locs hP₀ hD₀ hS₀ => ?_)
                        replace hP : va_P D classes [((Ta 0), .inr (10, [.ref (Ta 1), .int (Tv 0), .int vy_2, .int x_504, .int r_419, .int (Tv 4)])), ((Ta 1), .inl (tc 0, 400, .inl (Tf 1)))] H := hP₀
                        replace hD : va_D A [((Ta 0), .inr (10, [.ref (Ta 1), .int (Tv 0), .int vy_2, .int x_504, .int r_419, .int (Tv 4)])), ((Ta 1), .inl (tc 0, 400, .inl (Tf 1)))] := hD₀
                        replace hS := hS₀
                        clear hP₀ hD₀ hS₀
                        have ha_505 : 0 ≤ ((Tv 0) : Int32).toInt ∧ ((Tv 0) : Int32).toInt ≤ 400 ∧ 0 ≤ (vy_2 : Int32).toInt ∧ (vy_2 : Int32).toInt ≤ 400 ∧ 0 ≤ (x_504 : Int32).toInt ∧ (x_504 : Int32).toInt ≤ 400 := by
                          have z_1 := Int32.lt_iff_toInt_lt.mp (Int32.not_le.mp c_9)
                          have z_2 : ¬ (r_319 : Int32).toInt = (32 : Int32).toInt := fun z => c_322 (Int32.toInt_inj.mp z)
                          have z_3 := congrArg Int32.toInt c_323
                          have z_4 := congrArg Int32.toInt c_428
                          have z_5 := congrArg Int32.toInt c_435
                          have z_6 : ¬ (r_419 : Int32).toInt = ((-1) : Int32).toInt := fun z => c_436 (Int32.toInt_inj.mp z)
                          have z_7 : ¬ (r_419 : Int32).toInt = (60 : Int32).toInt := fun z => c_444 (Int32.toInt_inj.mp z)
                          have z_8 := congrArg Int32.toInt c_479
                          have z_9 : ¬ (r_500 : Int32).toInt = (61 : Int32).toInt := fun z => c_503 (Int32.toInt_inj.mp z)
                          have y_m1 : (-1 : Int32).toInt = -1 := by decide
                          have y_0 : (0 : Int32).toInt = 0 := by decide
                          have y_32 : (32 : Int32).toInt = 32 := by decide
                          have y_60 : (60 : Int32).toInt = 60 := by decide
                          have y_61 : (61 : Int32).toInt = 61 := by decide
                          have y_62 : (62 : Int32).toInt = 62 := by decide
                          have y_1 : (1 : Int32).toInt = 1 := by decide
                          have t_x_504 : x_504.toInt = (vy_2 : Int32).toInt + (1 : Int32).toInt := by rw [ex_504]; exact add_toInt (by omega) (by omega)
                          have t_x_494 : x_494.toInt = (vy_2 : Int32).toInt + (1 : Int32).toInt := by rw [ex_494]; exact add_toInt (by omega) (by omega)
                          omega
                        have rg_506 := cB_rg (n := (Tv 0)) h_by (vy_2 : Int32).toInt.toNat
                        have h2_507 : ¬ cB (Tf 1) (Tv 0) (vy_2 : Int32).toInt.toNat = 32 := by
                          have z_1 := Int32.lt_iff_toInt_lt.mp (Int32.not_le.mp c_9)
                          have z_2 : ¬ (r_319 : Int32).toInt = (32 : Int32).toInt := fun z => c_322 (Int32.toInt_inj.mp z)
                          have z_3 := congrArg Int32.toInt c_323
                          have z_4 := congrArg Int32.toInt c_428
                          have z_5 := congrArg Int32.toInt c_435
                          have z_6 : ¬ (r_419 : Int32).toInt = ((-1) : Int32).toInt := fun z => c_436 (Int32.toInt_inj.mp z)
                          have z_7 : ¬ (r_419 : Int32).toInt = (60 : Int32).toInt := fun z => c_444 (Int32.toInt_inj.mp z)
                          have z_8 := congrArg Int32.toInt c_479
                          have z_9 : ¬ (r_500 : Int32).toInt = (61 : Int32).toInt := fun z => c_503 (Int32.toInt_inj.mp z)
                          have y_m1 : (-1 : Int32).toInt = -1 := by decide
                          have y_0 : (0 : Int32).toInt = 0 := by decide
                          have y_32 : (32 : Int32).toInt = 32 := by decide
                          have y_60 : (60 : Int32).toInt = 60 := by decide
                          have y_61 : (61 : Int32).toInt = 61 := by decide
                          have y_62 : (62 : Int32).toInt = 62 := by decide
                          have y_1 : (1 : Int32).toInt = 1 := by decide
                          have t_x_494 : x_494.toInt = (vy_2 : Int32).toInt + (1 : Int32).toInt := by rw [ex_494]; exact add_toInt (by omega) (by omega)
                          omega
                        have hr_508 : 0 ≤ (vy_2 : Int32).toInt := by
                          have z_1 := Int32.lt_iff_toInt_lt.mp (Int32.not_le.mp c_9)
                          have z_2 : ¬ (r_319 : Int32).toInt = (32 : Int32).toInt := fun z => c_322 (Int32.toInt_inj.mp z)
                          have z_3 := congrArg Int32.toInt c_323
                          have z_4 := congrArg Int32.toInt c_428
                          have z_5 := congrArg Int32.toInt c_435
                          have z_6 : ¬ (r_419 : Int32).toInt = ((-1) : Int32).toInt := fun z => c_436 (Int32.toInt_inj.mp z)
                          have z_7 : ¬ (r_419 : Int32).toInt = (60 : Int32).toInt := fun z => c_444 (Int32.toInt_inj.mp z)
                          have z_8 := congrArg Int32.toInt c_479
                          have z_9 : ¬ (r_500 : Int32).toInt = (61 : Int32).toInt := fun z => c_503 (Int32.toInt_inj.mp z)
                          have y_m1 : (-1 : Int32).toInt = -1 := by decide
                          have y_0 : (0 : Int32).toInt = 0 := by decide
                          have y_32 : (32 : Int32).toInt = 32 := by decide
                          have y_60 : (60 : Int32).toInt = 60 := by decide
                          have y_61 : (61 : Int32).toInt = 61 := by decide
                          have y_62 : (62 : Int32).toInt = 62 := by decide
                          have y_1 : (1 : Int32).toInt = 1 := by decide
                          have t_x_494 : x_494.toInt = (vy_2 : Int32).toInt + (1 : Int32).toInt := by rw [ex_494]; exact add_toInt (by omega) (by omega)
                          omega
                        have hi_509 : (x_504 : Int32).toInt = (vy_2 : Int32).toInt + 1 := by
                          have z_1 := Int32.lt_iff_toInt_lt.mp (Int32.not_le.mp c_9)
                          have z_2 : ¬ (r_319 : Int32).toInt = (32 : Int32).toInt := fun z => c_322 (Int32.toInt_inj.mp z)
                          have z_3 := congrArg Int32.toInt c_323
                          have z_4 := congrArg Int32.toInt c_428
                          have z_5 := congrArg Int32.toInt c_435
                          have z_6 : ¬ (r_419 : Int32).toInt = ((-1) : Int32).toInt := fun z => c_436 (Int32.toInt_inj.mp z)
                          have z_7 : ¬ (r_419 : Int32).toInt = (60 : Int32).toInt := fun z => c_444 (Int32.toInt_inj.mp z)
                          have z_8 := congrArg Int32.toInt c_479
                          have z_9 : ¬ (r_500 : Int32).toInt = (61 : Int32).toInt := fun z => c_503 (Int32.toInt_inj.mp z)
                          have y_m1 : (-1 : Int32).toInt = -1 := by decide
                          have y_0 : (0 : Int32).toInt = 0 := by decide
                          have y_32 : (32 : Int32).toInt = 32 := by decide
                          have y_60 : (60 : Int32).toInt = 60 := by decide
                          have y_61 : (61 : Int32).toInt = 61 := by decide
                          have y_62 : (62 : Int32).toInt = 62 := by decide
                          have y_1 : (1 : Int32).toInt = 1 := by decide
                          have t_x_504 : x_504.toInt = (vy_2 : Int32).toInt + (1 : Int32).toInt := by rw [ex_504]; exact add_toInt (by omega) (by omega)
                          have t_x_494 : x_494.toInt = (vy_2 : Int32).toInt + (1 : Int32).toInt := by rw [ex_494]; exact add_toInt (by omega) (by omega)
                          omega
                        have hx_510 : (x_494 : Int32).toInt.toNat = (vy_2 : Int32).toInt.toNat + 1 := by
                          have z_1 := Int32.lt_iff_toInt_lt.mp (Int32.not_le.mp c_9)
                          have z_2 : ¬ (r_319 : Int32).toInt = (32 : Int32).toInt := fun z => c_322 (Int32.toInt_inj.mp z)
                          have z_3 := congrArg Int32.toInt c_323
                          have z_4 := congrArg Int32.toInt c_428
                          have z_5 := congrArg Int32.toInt c_435
                          have z_6 : ¬ (r_419 : Int32).toInt = ((-1) : Int32).toInt := fun z => c_436 (Int32.toInt_inj.mp z)
                          have z_7 : ¬ (r_419 : Int32).toInt = (60 : Int32).toInt := fun z => c_444 (Int32.toInt_inj.mp z)
                          have z_8 := congrArg Int32.toInt c_479
                          have z_9 : ¬ (r_500 : Int32).toInt = (61 : Int32).toInt := fun z => c_503 (Int32.toInt_inj.mp z)
                          have y_m1 : (-1 : Int32).toInt = -1 := by decide
                          have y_0 : (0 : Int32).toInt = 0 := by decide
                          have y_32 : (32 : Int32).toInt = 32 := by decide
                          have y_60 : (60 : Int32).toInt = 60 := by decide
                          have y_61 : (61 : Int32).toInt = 61 := by decide
                          have y_62 : (62 : Int32).toInt = 62 := by decide
                          have y_1 : (1 : Int32).toInt = 1 := by decide
                          have t_x_494 : x_494.toInt = (vy_2 : Int32).toInt + (1 : Int32).toInt := by rw [ex_494]; exact add_toInt (by omega) (by omega)
                          omega
                        rw [hx_510] at he_501
                        have h2_511 : ¬ (((r_419 : Int32).toInt = 60 ∨ (r_419 : Int32).toInt = 62) ∧ cB (Tf 1) (Tv 0) ((vy_2 : Int32).toInt.toNat + 1) = 61) := by
                          have z_1 := Int32.lt_iff_toInt_lt.mp (Int32.not_le.mp c_9)
                          have z_2 : ¬ (r_319 : Int32).toInt = (32 : Int32).toInt := fun z => c_322 (Int32.toInt_inj.mp z)
                          have z_3 := congrArg Int32.toInt c_323
                          have z_4 := congrArg Int32.toInt c_428
                          have z_5 := congrArg Int32.toInt c_435
                          have z_6 : ¬ (r_419 : Int32).toInt = ((-1) : Int32).toInt := fun z => c_436 (Int32.toInt_inj.mp z)
                          have z_7 : ¬ (r_419 : Int32).toInt = (60 : Int32).toInt := fun z => c_444 (Int32.toInt_inj.mp z)
                          have z_8 := congrArg Int32.toInt c_479
                          have z_9 : ¬ (r_500 : Int32).toInt = (61 : Int32).toInt := fun z => c_503 (Int32.toInt_inj.mp z)
                          have y_m1 : (-1 : Int32).toInt = -1 := by decide
                          have y_0 : (0 : Int32).toInt = 0 := by decide
                          have y_32 : (32 : Int32).toInt = 32 := by decide
                          have y_60 : (60 : Int32).toInt = 60 := by decide
                          have y_61 : (61 : Int32).toInt = 61 := by decide
                          have y_62 : (62 : Int32).toInt = 62 := by decide
                          have y_1 : (1 : Int32).toInt = 1 := by decide
                          have t_x_494 : x_494.toInt = (vy_2 : Int32).toInt + (1 : Int32).toInt := by rw [ex_494]; exact add_toInt (by omega) (by omega)
                          omega
                        have hr_512 : ¬ (97 ≤ (r_419 : Int32).toInt ∧ (r_419 : Int32).toInt ≤ 122) := by
                          have z_1 := Int32.lt_iff_toInt_lt.mp (Int32.not_le.mp c_9)
                          have z_2 : ¬ (r_319 : Int32).toInt = (32 : Int32).toInt := fun z => c_322 (Int32.toInt_inj.mp z)
                          have z_3 := congrArg Int32.toInt c_323
                          have z_4 := congrArg Int32.toInt c_428
                          have z_5 := congrArg Int32.toInt c_435
                          have z_6 : ¬ (r_419 : Int32).toInt = ((-1) : Int32).toInt := fun z => c_436 (Int32.toInt_inj.mp z)
                          have z_7 : ¬ (r_419 : Int32).toInt = (60 : Int32).toInt := fun z => c_444 (Int32.toInt_inj.mp z)
                          have z_8 := congrArg Int32.toInt c_479
                          have z_9 : ¬ (r_500 : Int32).toInt = (61 : Int32).toInt := fun z => c_503 (Int32.toInt_inj.mp z)
                          have y_m1 : (-1 : Int32).toInt = -1 := by decide
                          have y_0 : (0 : Int32).toInt = 0 := by decide
                          have y_32 : (32 : Int32).toInt = 32 := by decide
                          have y_60 : (60 : Int32).toInt = 60 := by decide
                          have y_61 : (61 : Int32).toInt = 61 := by decide
                          have y_62 : (62 : Int32).toInt = 62 := by decide
                          have y_1 : (1 : Int32).toInt = 1 := by decide
                          have t_x_494 : x_494.toInt = (vy_2 : Int32).toInt + (1 : Int32).toInt := by rw [ex_494]; exact add_toInt (by omega) (by omega)
                          omega
                        have hr_513 : ¬ (48 ≤ (r_419 : Int32).toInt ∧ (r_419 : Int32).toInt ≤ 57) := by
                          have z_1 := Int32.lt_iff_toInt_lt.mp (Int32.not_le.mp c_9)
                          have z_2 : ¬ (r_319 : Int32).toInt = (32 : Int32).toInt := fun z => c_322 (Int32.toInt_inj.mp z)
                          have z_3 := congrArg Int32.toInt c_323
                          have z_4 := congrArg Int32.toInt c_428
                          have z_5 := congrArg Int32.toInt c_435
                          have z_6 : ¬ (r_419 : Int32).toInt = ((-1) : Int32).toInt := fun z => c_436 (Int32.toInt_inj.mp z)
                          have z_7 : ¬ (r_419 : Int32).toInt = (60 : Int32).toInt := fun z => c_444 (Int32.toInt_inj.mp z)
                          have z_8 := congrArg Int32.toInt c_479
                          have z_9 : ¬ (r_500 : Int32).toInt = (61 : Int32).toInt := fun z => c_503 (Int32.toInt_inj.mp z)
                          have y_m1 : (-1 : Int32).toInt = -1 := by decide
                          have y_0 : (0 : Int32).toInt = 0 := by decide
                          have y_32 : (32 : Int32).toInt = 32 := by decide
                          have y_60 : (60 : Int32).toInt = 60 := by decide
                          have y_61 : (61 : Int32).toInt = 61 := by decide
                          have y_62 : (62 : Int32).toInt = 62 := by decide
                          have y_1 : (1 : Int32).toInt = 1 := by decide
                          have t_x_494 : x_494.toInt = (vy_2 : Int32).toInt + (1 : Int32).toInt := by rw [ex_494]; exact add_toInt (by omega) (by omega)
                          omega
                        have hr_514 : ¬ (r_419 : Int32).toInt = -1 := by
                          have z_1 := Int32.lt_iff_toInt_lt.mp (Int32.not_le.mp c_9)
                          have z_2 : ¬ (r_319 : Int32).toInt = (32 : Int32).toInt := fun z => c_322 (Int32.toInt_inj.mp z)
                          have z_3 := congrArg Int32.toInt c_323
                          have z_4 := congrArg Int32.toInt c_428
                          have z_5 := congrArg Int32.toInt c_435
                          have z_6 : ¬ (r_419 : Int32).toInt = ((-1) : Int32).toInt := fun z => c_436 (Int32.toInt_inj.mp z)
                          have z_7 : ¬ (r_419 : Int32).toInt = (60 : Int32).toInt := fun z => c_444 (Int32.toInt_inj.mp z)
                          have z_8 := congrArg Int32.toInt c_479
                          have z_9 : ¬ (r_500 : Int32).toInt = (61 : Int32).toInt := fun z => c_503 (Int32.toInt_inj.mp z)
                          have y_m1 : (-1 : Int32).toInt = -1 := by decide
                          have y_0 : (0 : Int32).toInt = 0 := by decide
                          have y_32 : (32 : Int32).toInt = 32 := by decide
                          have y_60 : (60 : Int32).toInt = 60 := by decide
                          have y_61 : (61 : Int32).toInt = 61 := by decide
                          have y_62 : (62 : Int32).toInt = 62 := by decide
                          have y_1 : (1 : Int32).toInt = 1 := by decide
                          have t_x_494 : x_494.toInt = (vy_2 : Int32).toInt + (1 : Int32).toInt := by rw [ex_494]; exact add_toInt (by omega) (by omega)
                          omega
                        have hr_515 : ((Tv 4) : Int32).toInt = 0 := by
                          have z_1 := Int32.lt_iff_toInt_lt.mp (Int32.not_le.mp c_9)
                          have z_2 : ¬ (r_319 : Int32).toInt = (32 : Int32).toInt := fun z => c_322 (Int32.toInt_inj.mp z)
                          have z_3 := congrArg Int32.toInt c_323
                          have z_4 := congrArg Int32.toInt c_428
                          have z_5 := congrArg Int32.toInt c_435
                          have z_6 : ¬ (r_419 : Int32).toInt = ((-1) : Int32).toInt := fun z => c_436 (Int32.toInt_inj.mp z)
                          have z_7 : ¬ (r_419 : Int32).toInt = (60 : Int32).toInt := fun z => c_444 (Int32.toInt_inj.mp z)
                          have z_8 := congrArg Int32.toInt c_479
                          have z_9 : ¬ (r_500 : Int32).toInt = (61 : Int32).toInt := fun z => c_503 (Int32.toInt_inj.mp z)
                          have y_m1 : (-1 : Int32).toInt = -1 := by decide
                          have y_0 : (0 : Int32).toInt = 0 := by decide
                          have y_32 : (32 : Int32).toInt = 32 := by decide
                          have y_60 : (60 : Int32).toInt = 60 := by decide
                          have y_61 : (61 : Int32).toInt = 61 := by decide
                          have y_62 : (62 : Int32).toInt = 62 := by decide
                          have y_1 : (1 : Int32).toInt = 1 := by decide
                          have t_x_494 : x_494.toInt = (vy_2 : Int32).toInt + (1 : Int32).toInt := by rw [ex_494]; exact add_toInt (by omega) (by omega)
                          omega
                        have hr_516 : (vy_2 : Int32).toInt ≤ 400 := by
                          have z_1 := Int32.lt_iff_toInt_lt.mp (Int32.not_le.mp c_9)
                          have z_2 : ¬ (r_319 : Int32).toInt = (32 : Int32).toInt := fun z => c_322 (Int32.toInt_inj.mp z)
                          have z_3 := congrArg Int32.toInt c_323
                          have z_4 := congrArg Int32.toInt c_428
                          have z_5 := congrArg Int32.toInt c_435
                          have z_6 : ¬ (r_419 : Int32).toInt = ((-1) : Int32).toInt := fun z => c_436 (Int32.toInt_inj.mp z)
                          have z_7 : ¬ (r_419 : Int32).toInt = (60 : Int32).toInt := fun z => c_444 (Int32.toInt_inj.mp z)
                          have z_8 := congrArg Int32.toInt c_479
                          have z_9 : ¬ (r_500 : Int32).toInt = (61 : Int32).toInt := fun z => c_503 (Int32.toInt_inj.mp z)
                          have y_m1 : (-1 : Int32).toInt = -1 := by decide
                          have y_0 : (0 : Int32).toInt = 0 := by decide
                          have y_32 : (32 : Int32).toInt = 32 := by decide
                          have y_60 : (60 : Int32).toInt = 60 := by decide
                          have y_61 : (61 : Int32).toInt = 61 := by decide
                          have y_62 : (62 : Int32).toInt = 62 := by decide
                          have y_1 : (1 : Int32).toInt = 1 := by decide
                          have t_x_494 : x_494.toInt = (vy_2 : Int32).toInt + (1 : Int32).toInt := by rw [ex_494]; exact add_toInt (by omega) (by omega)
                          omega
                        exact retV hx hb hr hlk hP hD hS (vy_2, x_504, r_419) ⟨rfl, ha_505, (TpB.at h_tb hr_515 h_tape.2.2.2.2.1 pf_7 hr_516 h2_507 (te_1 hr_508 he_420.1 hr_512 hr_513 hr_514 h2_511 hi_509) he_420.1)⟩ [0, 1] rfl rfl dX10_step_242 (Nat.le_of_ble_eq_true rfl) (Nat.le_of_ble_eq_true rfl) rfl
                      · skip
                        refine lv_aload_n hx hb dX10_step_224 rfl (lv_at hl 1 rfl) ?_
                        refine gf_X10_19 hx hb hts hown hK hP 0 rfl rfl dX10_step_225 ?_
                        refine lv_iconst (v := 2) hx hb dX10_step_228 (by decide) ?_
                        refine lv_iadd hx hb dX10_step_229 ?_
                        refine lv_topi (fun x_517 ex_517 => ?_)
                        refine lv_goto (tgt := 239) hx hb dX10_step_230 (by decide) ?_
                        refine pf_X10_22 hx hb hts hown hK hP hD hS 0 rfl (Nat.le_of_ble_eq_true rfl) rfl rfl dX10_step_239 (fun H locs hP₀ hD₀ hS₀ => ?_)
                        replace hP : va_P D classes [((Ta 0), .inr (10, [.ref (Ta 1), .int (Tv 0), .int vy_2, .int x_517, .int r_419, .int (Tv 4)])), ((Ta 1), .inl (tc 0, 400, .inl (Tf 1)))] H := hP₀
                        replace hD : va_D A [((Ta 0), .inr (10, [.ref (Ta 1), .int (Tv 0), .int vy_2, .int x_517, .int r_419, .int (Tv 4)])), ((Ta 1), .inl (tc 0, 400, .inl (Tf 1)))] := hD₀
                        replace hS := hS₀
                        clear hP₀ hD₀ hS₀
                        have ha_518 : 0 ≤ ((Tv 0) : Int32).toInt ∧ ((Tv 0) : Int32).toInt ≤ 400 ∧ 0 ≤ (vy_2 : Int32).toInt ∧ (vy_2 : Int32).toInt ≤ 400 ∧ 0 ≤ (x_517 : Int32).toInt ∧ (x_517 : Int32).toInt ≤ 400 := by
                          have z_1 := Int32.lt_iff_toInt_lt.mp (Int32.not_le.mp c_9)
                          have z_2 : ¬ (r_319 : Int32).toInt = (32 : Int32).toInt := fun z => c_322 (Int32.toInt_inj.mp z)
                          have z_3 := congrArg Int32.toInt c_323
                          have z_4 := congrArg Int32.toInt c_428
                          have z_5 := congrArg Int32.toInt c_435
                          have z_6 : ¬ (r_419 : Int32).toInt = ((-1) : Int32).toInt := fun z => c_436 (Int32.toInt_inj.mp z)
                          have z_7 : ¬ (r_419 : Int32).toInt = (60 : Int32).toInt := fun z => c_444 (Int32.toInt_inj.mp z)
                          have z_8 := congrArg Int32.toInt c_479
                          have z_9 := congrArg Int32.toInt c_503
                          have y_m1 : (-1 : Int32).toInt = -1 := by decide
                          have y_0 : (0 : Int32).toInt = 0 := by decide
                          have y_32 : (32 : Int32).toInt = 32 := by decide
                          have y_60 : (60 : Int32).toInt = 60 := by decide
                          have y_61 : (61 : Int32).toInt = 61 := by decide
                          have y_62 : (62 : Int32).toInt = 62 := by decide
                          have y_1 : (1 : Int32).toInt = 1 := by decide
                          have y_2 : (2 : Int32).toInt = 2 := by decide
                          have t_x_517 : x_517.toInt = (vy_2 : Int32).toInt + (2 : Int32).toInt := by rw [ex_517]; exact add_toInt (by omega) (by omega)
                          have t_x_494 : x_494.toInt = (vy_2 : Int32).toInt + (1 : Int32).toInt := by rw [ex_494]; exact add_toInt (by omega) (by omega)
                          omega
                        have rg_519 := cB_rg (n := (Tv 0)) h_by (vy_2 : Int32).toInt.toNat
                        have h2_520 : ¬ cB (Tf 1) (Tv 0) (vy_2 : Int32).toInt.toNat = 32 := by
                          have z_1 := Int32.lt_iff_toInt_lt.mp (Int32.not_le.mp c_9)
                          have z_2 : ¬ (r_319 : Int32).toInt = (32 : Int32).toInt := fun z => c_322 (Int32.toInt_inj.mp z)
                          have z_3 := congrArg Int32.toInt c_323
                          have z_4 := congrArg Int32.toInt c_428
                          have z_5 := congrArg Int32.toInt c_435
                          have z_6 : ¬ (r_419 : Int32).toInt = ((-1) : Int32).toInt := fun z => c_436 (Int32.toInt_inj.mp z)
                          have z_7 : ¬ (r_419 : Int32).toInt = (60 : Int32).toInt := fun z => c_444 (Int32.toInt_inj.mp z)
                          have z_8 := congrArg Int32.toInt c_479
                          have z_9 := congrArg Int32.toInt c_503
                          have y_m1 : (-1 : Int32).toInt = -1 := by decide
                          have y_0 : (0 : Int32).toInt = 0 := by decide
                          have y_32 : (32 : Int32).toInt = 32 := by decide
                          have y_60 : (60 : Int32).toInt = 60 := by decide
                          have y_61 : (61 : Int32).toInt = 61 := by decide
                          have y_62 : (62 : Int32).toInt = 62 := by decide
                          have y_1 : (1 : Int32).toInt = 1 := by decide
                          have t_x_494 : x_494.toInt = (vy_2 : Int32).toInt + (1 : Int32).toInt := by rw [ex_494]; exact add_toInt (by omega) (by omega)
                          omega
                        have hr_521 : 0 ≤ (vy_2 : Int32).toInt := by
                          have z_1 := Int32.lt_iff_toInt_lt.mp (Int32.not_le.mp c_9)
                          have z_2 : ¬ (r_319 : Int32).toInt = (32 : Int32).toInt := fun z => c_322 (Int32.toInt_inj.mp z)
                          have z_3 := congrArg Int32.toInt c_323
                          have z_4 := congrArg Int32.toInt c_428
                          have z_5 := congrArg Int32.toInt c_435
                          have z_6 : ¬ (r_419 : Int32).toInt = ((-1) : Int32).toInt := fun z => c_436 (Int32.toInt_inj.mp z)
                          have z_7 : ¬ (r_419 : Int32).toInt = (60 : Int32).toInt := fun z => c_444 (Int32.toInt_inj.mp z)
                          have z_8 := congrArg Int32.toInt c_479
                          have z_9 := congrArg Int32.toInt c_503
                          have y_m1 : (-1 : Int32).toInt = -1 := by decide
                          have y_0 : (0 : Int32).toInt = 0 := by decide
                          have y_32 : (32 : Int32).toInt = 32 := by decide
                          have y_60 : (60 : Int32).toInt = 60 := by decide
                          have y_61 : (61 : Int32).toInt = 61 := by decide
                          have y_62 : (62 : Int32).toInt = 62 := by decide
                          have y_1 : (1 : Int32).toInt = 1 := by decide
                          have t_x_494 : x_494.toInt = (vy_2 : Int32).toInt + (1 : Int32).toInt := by rw [ex_494]; exact add_toInt (by omega) (by omega)
                          omega
                        have hi_522 : (x_517 : Int32).toInt = (vy_2 : Int32).toInt + 2 := by
                          have z_1 := Int32.lt_iff_toInt_lt.mp (Int32.not_le.mp c_9)
                          have z_2 : ¬ (r_319 : Int32).toInt = (32 : Int32).toInt := fun z => c_322 (Int32.toInt_inj.mp z)
                          have z_3 := congrArg Int32.toInt c_323
                          have z_4 := congrArg Int32.toInt c_428
                          have z_5 := congrArg Int32.toInt c_435
                          have z_6 : ¬ (r_419 : Int32).toInt = ((-1) : Int32).toInt := fun z => c_436 (Int32.toInt_inj.mp z)
                          have z_7 : ¬ (r_419 : Int32).toInt = (60 : Int32).toInt := fun z => c_444 (Int32.toInt_inj.mp z)
                          have z_8 := congrArg Int32.toInt c_479
                          have z_9 := congrArg Int32.toInt c_503
                          have y_m1 : (-1 : Int32).toInt = -1 := by decide
                          have y_0 : (0 : Int32).toInt = 0 := by decide
                          have y_32 : (32 : Int32).toInt = 32 := by decide
                          have y_60 : (60 : Int32).toInt = 60 := by decide
                          have y_61 : (61 : Int32).toInt = 61 := by decide
                          have y_62 : (62 : Int32).toInt = 62 := by decide
                          have y_1 : (1 : Int32).toInt = 1 := by decide
                          have y_2 : (2 : Int32).toInt = 2 := by decide
                          have t_x_517 : x_517.toInt = (vy_2 : Int32).toInt + (2 : Int32).toInt := by rw [ex_517]; exact add_toInt (by omega) (by omega)
                          have t_x_494 : x_494.toInt = (vy_2 : Int32).toInt + (1 : Int32).toInt := by rw [ex_494]; exact add_toInt (by omega) (by omega)
                          omega
                        have hx_523 : (x_494 : Int32).toInt.toNat = (vy_2 : Int32).toInt.toNat + 1 := by
                          have z_1 := Int32.lt_iff_toInt_lt.mp (Int32.not_le.mp c_9)
                          have z_2 : ¬ (r_319 : Int32).toInt = (32 : Int32).toInt := fun z => c_322 (Int32.toInt_inj.mp z)
                          have z_3 := congrArg Int32.toInt c_323
                          have z_4 := congrArg Int32.toInt c_428
                          have z_5 := congrArg Int32.toInt c_435
                          have z_6 : ¬ (r_419 : Int32).toInt = ((-1) : Int32).toInt := fun z => c_436 (Int32.toInt_inj.mp z)
                          have z_7 : ¬ (r_419 : Int32).toInt = (60 : Int32).toInt := fun z => c_444 (Int32.toInt_inj.mp z)
                          have z_8 := congrArg Int32.toInt c_479
                          have z_9 := congrArg Int32.toInt c_503
                          have y_m1 : (-1 : Int32).toInt = -1 := by decide
                          have y_0 : (0 : Int32).toInt = 0 := by decide
                          have y_32 : (32 : Int32).toInt = 32 := by decide
                          have y_60 : (60 : Int32).toInt = 60 := by decide
                          have y_61 : (61 : Int32).toInt = 61 := by decide
                          have y_62 : (62 : Int32).toInt = 62 := by decide
                          have y_1 : (1 : Int32).toInt = 1 := by decide
                          have t_x_494 : x_494.toInt = (vy_2 : Int32).toInt + (1 : Int32).toInt := by rw [ex_494]; exact add_toInt (by omega) (by omega)
                          omega
                        rw [hx_523] at he_501
                        have h2_524 : (((r_419 : Int32).toInt = 60 ∨ (r_419 : Int32).toInt = 62) ∧ cB (Tf 1) (Tv 0) ((vy_2 : Int32).toInt.toNat + 1) = 61) := by
                          have z_1 := Int32.lt_iff_toInt_lt.mp (Int32.not_le.mp c_9)
                          have z_2 : ¬ (r_319 : Int32).toInt = (32 : Int32).toInt := fun z => c_322 (Int32.toInt_inj.mp z)
                          have z_3 := congrArg Int32.toInt c_323
                          have z_4 := congrArg Int32.toInt c_428
                          have z_5 := congrArg Int32.toInt c_435
                          have z_6 : ¬ (r_419 : Int32).toInt = ((-1) : Int32).toInt := fun z => c_436 (Int32.toInt_inj.mp z)
                          have z_7 : ¬ (r_419 : Int32).toInt = (60 : Int32).toInt := fun z => c_444 (Int32.toInt_inj.mp z)
                          have z_8 := congrArg Int32.toInt c_479
                          have z_9 := congrArg Int32.toInt c_503
                          have y_m1 : (-1 : Int32).toInt = -1 := by decide
                          have y_0 : (0 : Int32).toInt = 0 := by decide
                          have y_32 : (32 : Int32).toInt = 32 := by decide
                          have y_60 : (60 : Int32).toInt = 60 := by decide
                          have y_61 : (61 : Int32).toInt = 61 := by decide
                          have y_62 : (62 : Int32).toInt = 62 := by decide
                          have y_1 : (1 : Int32).toInt = 1 := by decide
                          have t_x_494 : x_494.toInt = (vy_2 : Int32).toInt + (1 : Int32).toInt := by rw [ex_494]; exact add_toInt (by omega) (by omega)
                          omega
                        have hr_525 : ((Tv 4) : Int32).toInt = 0 := by
                          have z_1 := Int32.lt_iff_toInt_lt.mp (Int32.not_le.mp c_9)
                          have z_2 : ¬ (r_319 : Int32).toInt = (32 : Int32).toInt := fun z => c_322 (Int32.toInt_inj.mp z)
                          have z_3 := congrArg Int32.toInt c_323
                          have z_4 := congrArg Int32.toInt c_428
                          have z_5 := congrArg Int32.toInt c_435
                          have z_6 : ¬ (r_419 : Int32).toInt = ((-1) : Int32).toInt := fun z => c_436 (Int32.toInt_inj.mp z)
                          have z_7 : ¬ (r_419 : Int32).toInt = (60 : Int32).toInt := fun z => c_444 (Int32.toInt_inj.mp z)
                          have z_8 := congrArg Int32.toInt c_479
                          have z_9 := congrArg Int32.toInt c_503
                          have y_m1 : (-1 : Int32).toInt = -1 := by decide
                          have y_0 : (0 : Int32).toInt = 0 := by decide
                          have y_32 : (32 : Int32).toInt = 32 := by decide
                          have y_60 : (60 : Int32).toInt = 60 := by decide
                          have y_61 : (61 : Int32).toInt = 61 := by decide
                          have y_62 : (62 : Int32).toInt = 62 := by decide
                          have y_1 : (1 : Int32).toInt = 1 := by decide
                          have t_x_494 : x_494.toInt = (vy_2 : Int32).toInt + (1 : Int32).toInt := by rw [ex_494]; exact add_toInt (by omega) (by omega)
                          omega
                        have hr_526 : (vy_2 : Int32).toInt ≤ 400 := by
                          have z_1 := Int32.lt_iff_toInt_lt.mp (Int32.not_le.mp c_9)
                          have z_2 : ¬ (r_319 : Int32).toInt = (32 : Int32).toInt := fun z => c_322 (Int32.toInt_inj.mp z)
                          have z_3 := congrArg Int32.toInt c_323
                          have z_4 := congrArg Int32.toInt c_428
                          have z_5 := congrArg Int32.toInt c_435
                          have z_6 : ¬ (r_419 : Int32).toInt = ((-1) : Int32).toInt := fun z => c_436 (Int32.toInt_inj.mp z)
                          have z_7 : ¬ (r_419 : Int32).toInt = (60 : Int32).toInt := fun z => c_444 (Int32.toInt_inj.mp z)
                          have z_8 := congrArg Int32.toInt c_479
                          have z_9 := congrArg Int32.toInt c_503
                          have y_m1 : (-1 : Int32).toInt = -1 := by decide
                          have y_0 : (0 : Int32).toInt = 0 := by decide
                          have y_32 : (32 : Int32).toInt = 32 := by decide
                          have y_60 : (60 : Int32).toInt = 60 := by decide
                          have y_61 : (61 : Int32).toInt = 61 := by decide
                          have y_62 : (62 : Int32).toInt = 62 := by decide
                          have y_1 : (1 : Int32).toInt = 1 := by decide
                          have t_x_494 : x_494.toInt = (vy_2 : Int32).toInt + (1 : Int32).toInt := by rw [ex_494]; exact add_toInt (by omega) (by omega)
                          omega
                        exact retV hx hb hr hlk hP hD hS (vy_2, x_517, r_419) ⟨rfl, ha_518, (TpB.at h_tb hr_525 h_tape.2.2.2.2.1 pf_7 hr_526 h2_520 (te_2 hr_521 he_420.1 h2_524 hi_522) he_420.1)⟩ [0, 1] rfl rfl dX10_step_242 (Nat.le_of_ble_eq_true rfl) (Nat.le_of_ble_eq_true rfl) rfl
              · skip
                have loop_531 : ∀ (n_529 : Nat) (vy_528 : Int32) (H : Heap) (locs : List Loc) (ls : Array Slot), (401 - (vy_528 : Int32).toInt).toNat < n_529 → (0 ≤ (vy_528 : Int32).toInt ∧ (vy_528 : Int32).toInt ≤ 400) → (Rn pz_isD (Tf 1) (Tv 0) vy_2 vy_528) → va_P D classes [((Ta 0), .inr (10, [.ref (Ta 1), .int (Tv 0), .int vy_2, .int vy_528, .int r_419, .int (Tv 4)])), ((Ta 1), .inl (tc 0, 400, .inl (Tf 1)))] H → va_D A [((Ta 0), .inr (10, [.ref (Ta 1), .int (Tv 0), .int vy_2, .int vy_528, .int r_419, .int (Tv 4)])), ((Ta 1), .inl (tc 0, 400, .inl (Tf 1)))] → va_S A s.heap H locs → lv_has ls 2 [(0, .ref (Ta 0))] → W p l e ({ frames := 1, cells := 0, slots := 0, locals := 21 }) s m ([.ref (Ta 0)].toArray) below meth c H locs 0 0 (MQ below (QW (fun (v : Option Value) (u : (Int32) × (Int32) × (Int32)) => match u with | (oo0x1, oo0x2, oo0x3) => v = none ∧ (0 ≤ ((Tv 0) : Int32).toInt ∧ ((Tv 0) : Int32).toInt ≤ 400 ∧ 0 ≤ (oo0x1 : Int32).toInt ∧ (oo0x1 : Int32).toInt ≤ 400 ∧ 0 ≤ (oo0x2 : Int32).toInt ∧ (oo0x2 : Int32).toInt ≤ 400) ∧ (TpR (Tf 1) (Tv 0) (rSK (cB (Tf 1) (Tv 0)) rr) oo0x1 oo0x2 oo0x3 (Tv 4))) (BW D (fun (u : (Int32) × (Int32) × (Int32)) => match u with | (oo0x1, oo0x2, oo0x3) => [((Ta 0), .inr (10, [.ref (Ta 1), .int (Tv 0), .int oo0x1, .int oo0x2, .int oo0x3, .int (Tv 4)])), ((Ta 1), .inl (tc 0, 400, .inl (Tf 1)))]) A) A) ([.ref (Ta 0)].toArray) s 0 0 A) (F0 m 134 ls []) := by
                  clear hP hD hS hl
                  intro n_529
                  induction n_529 with
                  | zero =>
                    intro vy_528 H locs ls h1
                    exact absurd h1 (Nat.not_lt_zero _)
                  | succ n_529 ih_530 =>
                    intro vy_528 H locs ls hn_534 pf_532 pf_533 hP hD hS hl
                    refine lv_aload_n hx hb dX10_step_134 rfl (lv_at hl 0 rfl) ?_
                    refine gf_X10_22 hx hb hts hown hK hP 0 rfl rfl dX10_step_135 ?_
                    refine lv_aload_n hx hb dX10_step_138 rfl (lv_at hl 0 rfl) ?_
                    refine gf_X10_15 hx hb hts hown hK hP 0 rfl rfl dX10_step_139 ?_
                    refine lv_icmp_ge (tgt := 242) hx hb dX10_step_142 (by decide) (fun c_535 => ?_) (fun c_535 => ?_)
                    · skip
                      have ha_536 : 0 ≤ ((Tv 0) : Int32).toInt ∧ ((Tv 0) : Int32).toInt ≤ 400 ∧ 0 ≤ (vy_2 : Int32).toInt ∧ (vy_2 : Int32).toInt ≤ 400 ∧ 0 ≤ (vy_528 : Int32).toInt ∧ (vy_528 : Int32).toInt ≤ 400 := by
                        have z_1 := Int32.lt_iff_toInt_lt.mp (Int32.not_le.mp c_9)
                        have z_2 : ¬ (r_319 : Int32).toInt = (32 : Int32).toInt := fun z => c_322 (Int32.toInt_inj.mp z)
                        have z_3 := congrArg Int32.toInt c_323
                        have z_4 := congrArg Int32.toInt c_428
                        have z_5 : ¬ (r_432 : Int32).toInt = (0 : Int32).toInt := fun z => c_435 (Int32.toInt_inj.mp z)
                        have z_6 := Int32.le_iff_toInt_le.mp c_535
                        have y_0 : (0 : Int32).toInt = 0 := by decide
                        have y_32 : (32 : Int32).toInt = 32 := by decide
                        omega
                      have rg_537 := cB_rg (n := (Tv 0)) h_by (vy_2 : Int32).toInt.toNat
                      have h2_538 : ¬ cB (Tf 1) (Tv 0) (vy_2 : Int32).toInt.toNat = 32 := by
                        have z_1 := Int32.lt_iff_toInt_lt.mp (Int32.not_le.mp c_9)
                        have z_2 : ¬ (r_319 : Int32).toInt = (32 : Int32).toInt := fun z => c_322 (Int32.toInt_inj.mp z)
                        have z_3 := congrArg Int32.toInt c_323
                        have z_4 := congrArg Int32.toInt c_428
                        have z_5 : ¬ (r_432 : Int32).toInt = (0 : Int32).toInt := fun z => c_435 (Int32.toInt_inj.mp z)
                        have z_6 := Int32.le_iff_toInt_le.mp c_535
                        have y_0 : (0 : Int32).toInt = 0 := by decide
                        have y_32 : (32 : Int32).toInt = 32 := by decide
                        omega
                      have hr_539 : 0 ≤ (vy_2 : Int32).toInt := by
                        have z_1 := Int32.lt_iff_toInt_lt.mp (Int32.not_le.mp c_9)
                        have z_2 : ¬ (r_319 : Int32).toInt = (32 : Int32).toInt := fun z => c_322 (Int32.toInt_inj.mp z)
                        have z_3 := congrArg Int32.toInt c_323
                        have z_4 := congrArg Int32.toInt c_428
                        have z_5 : ¬ (r_432 : Int32).toInt = (0 : Int32).toInt := fun z => c_435 (Int32.toInt_inj.mp z)
                        have z_6 := Int32.le_iff_toInt_le.mp c_535
                        have y_0 : (0 : Int32).toInt = 0 := by decide
                        have y_32 : (32 : Int32).toInt = 32 := by decide
                        omega
                      have rg_540 := cB_rg (n := (Tv 0)) h_by (vy_528 : Int32).toInt.toNat
                      have hn_541 : ¬ (48 ≤ cB (Tf 1) (Tv 0) (vy_528 : Int32).toInt.toNat ∧ cB (Tf 1) (Tv 0) (vy_528 : Int32).toInt.toNat ≤ 57) := by
                        have z_1 := Int32.lt_iff_toInt_lt.mp (Int32.not_le.mp c_9)
                        have z_2 : ¬ (r_319 : Int32).toInt = (32 : Int32).toInt := fun z => c_322 (Int32.toInt_inj.mp z)
                        have z_3 := congrArg Int32.toInt c_323
                        have z_4 := congrArg Int32.toInt c_428
                        have z_5 : ¬ (r_432 : Int32).toInt = (0 : Int32).toInt := fun z => c_435 (Int32.toInt_inj.mp z)
                        have z_6 := Int32.le_iff_toInt_le.mp c_535
                        have y_0 : (0 : Int32).toInt = 0 := by decide
                        have y_32 : (32 : Int32).toInt = 32 := by decide
                        omega
                      have hr_542 : 48 ≤ (r_419 : Int32).toInt ∧ (r_419 : Int32).toInt ≤ 57 := by
                        have z_1 := Int32.lt_iff_toInt_lt.mp (Int32.not_le.mp c_9)
                        have z_2 : ¬ (r_319 : Int32).toInt = (32 : Int32).toInt := fun z => c_322 (Int32.toInt_inj.mp z)
                        have z_3 := congrArg Int32.toInt c_323
                        have z_4 := congrArg Int32.toInt c_428
                        have z_5 : ¬ (r_432 : Int32).toInt = (0 : Int32).toInt := fun z => c_435 (Int32.toInt_inj.mp z)
                        have z_6 := Int32.le_iff_toInt_le.mp c_535
                        have y_0 : (0 : Int32).toInt = 0 := by decide
                        have y_32 : (32 : Int32).toInt = 32 := by decide
                        omega
                      have hr_543 : (vy_528 : Int32).toInt ≤ 400 := by
                        have z_1 := Int32.lt_iff_toInt_lt.mp (Int32.not_le.mp c_9)
                        have z_2 : ¬ (r_319 : Int32).toInt = (32 : Int32).toInt := fun z => c_322 (Int32.toInt_inj.mp z)
                        have z_3 := congrArg Int32.toInt c_323
                        have z_4 := congrArg Int32.toInt c_428
                        have z_5 : ¬ (r_432 : Int32).toInt = (0 : Int32).toInt := fun z => c_435 (Int32.toInt_inj.mp z)
                        have z_6 := Int32.le_iff_toInt_le.mp c_535
                        have y_0 : (0 : Int32).toInt = 0 := by decide
                        have y_32 : (32 : Int32).toInt = 32 := by decide
                        omega
                      have hr_544 : ((Tv 4) : Int32).toInt = 0 := by
                        have z_1 := Int32.lt_iff_toInt_lt.mp (Int32.not_le.mp c_9)
                        have z_2 : ¬ (r_319 : Int32).toInt = (32 : Int32).toInt := fun z => c_322 (Int32.toInt_inj.mp z)
                        have z_3 := congrArg Int32.toInt c_323
                        have z_4 := congrArg Int32.toInt c_428
                        have z_5 : ¬ (r_432 : Int32).toInt = (0 : Int32).toInt := fun z => c_435 (Int32.toInt_inj.mp z)
                        have z_6 := Int32.le_iff_toInt_le.mp c_535
                        have y_0 : (0 : Int32).toInt = 0 := by decide
                        have y_32 : (32 : Int32).toInt = 32 := by decide
                        omega
                      have hr_545 : (vy_2 : Int32).toInt ≤ 400 := by
                        have z_1 := Int32.lt_iff_toInt_lt.mp (Int32.not_le.mp c_9)
                        have z_2 : ¬ (r_319 : Int32).toInt = (32 : Int32).toInt := fun z => c_322 (Int32.toInt_inj.mp z)
                        have z_3 := congrArg Int32.toInt c_323
                        have z_4 := congrArg Int32.toInt c_428
                        have z_5 : ¬ (r_432 : Int32).toInt = (0 : Int32).toInt := fun z => c_435 (Int32.toInt_inj.mp z)
                        have z_6 := Int32.le_iff_toInt_le.mp c_535
                        have y_0 : (0 : Int32).toInt = 0 := by decide
                        have y_32 : (32 : Int32).toInt = 32 := by decide
                        omega
                      exact retV hx hb hr hlk hP hD hS (vy_2, vy_528, r_419) ⟨rfl, ha_536, (TpB.at h_tb hr_544 h_tape.2.2.2.2.1 pf_7 hr_545 h2_538 (te_D hr_539 he_420.1 hr_542 pf_533 hr_543 hn_541) he_420.1)⟩ [0, 1] rfl rfl dX10_step_242 (Nat.le_of_ble_eq_true rfl) (Nat.le_of_ble_eq_true rfl) rfl
                    · skip
                      refine lv_aload_n hx hb dX10_step_145 rfl (lv_at hl 0 rfl) ?_
                      refine lv_aload_n hx hb dX10_step_146 rfl (lv_at hl 0 rfl) ?_
                      refine gf_X10_22 hx hb hts hown hK hP 0 rfl rfl dX10_step_147 ?_
                      have ha_546 : 0 ≤ ((Tv 0) : Int32).toInt ∧ ((Tv 0) : Int32).toInt ≤ 400 ∧ 0 ≤ (vy_2 : Int32).toInt ∧ (vy_2 : Int32).toInt ≤ 400 ∧ 0 ≤ (vy_528 : Int32).toInt ∧ (vy_528 : Int32).toInt ≤ 400 := by
                        have z_1 := Int32.lt_iff_toInt_lt.mp (Int32.not_le.mp c_9)
                        have z_2 : ¬ (r_319 : Int32).toInt = (32 : Int32).toInt := fun z => c_322 (Int32.toInt_inj.mp z)
                        have z_3 := congrArg Int32.toInt c_323
                        have z_4 := congrArg Int32.toInt c_428
                        have z_5 : ¬ (r_432 : Int32).toInt = (0 : Int32).toInt := fun z => c_435 (Int32.toInt_inj.mp z)
                        have z_6 := Int32.lt_iff_toInt_lt.mp (Int32.not_le.mp c_535)
                        have y_0 : (0 : Int32).toInt = 0 := by decide
                        have y_32 : (32 : Int32).toInt = 32 := by decide
                        omega
                      have ha_547 : 0 ≤ vy_528.toInt := by
                        have z_1 := Int32.lt_iff_toInt_lt.mp (Int32.not_le.mp c_9)
                        have z_2 : ¬ (r_319 : Int32).toInt = (32 : Int32).toInt := fun z => c_322 (Int32.toInt_inj.mp z)
                        have z_3 := congrArg Int32.toInt c_323
                        have z_4 := congrArg Int32.toInt c_428
                        have z_5 : ¬ (r_432 : Int32).toInt = (0 : Int32).toInt := fun z => c_435 (Int32.toInt_inj.mp z)
                        have z_6 := Int32.lt_iff_toInt_lt.mp (Int32.not_le.mp c_535)
                        have y_0 : (0 : Int32).toInt = 0 := by decide
                        have y_32 : (32 : Int32).toInt = 32 := by decide
                        omega
                      refine cV (a := (Ta 0)) (As := [.int vy_528]) (rest := []) (wr := []) ⟨hx, hb, hml, hown, hts⟩ hK hX hA (cu_fX10_byteAt l D tc sk (Ta 0) (Ta 1) (Tv 0) vy_2 vy_528 r_419 (Tv 4) (Tf 1) vy_528 ha_546 h_by ha_547) k_482 k_479 k_481 k_0 k_96 pl_X10_byteAt ⟨Nat.le_of_ble_eq_true rfl, Nat.le_of_ble_eq_true rfl⟩ rfl rfl (va_recv hK hP (ci := 10) (q0 := 0) rfl rfl) hP hD hS [0, 1] [] rfl rfl rfl rfl rfl (by decide) rfl hl.1 rfl (Nat.le_of_ble_eq_true rfl) dX10_step_150 ⟨Nat.le_of_ble_eq_true rfl, Nat.le_of_ble_eq_true rfl⟩ (fun v_548 u_549 H locs hv_550 hP₀ hD₀ hS₀ => ?_)
                      obtain ⟨r_551, rfl, he_552⟩ := hv_550
                      have he_552 : (r_551.toInt = cB (Tf 1) (Tv 0) vy_528.toInt.toNat ∧ (((Tv 0).toInt ≤ vy_528.toInt ∧ r_551.toInt = -1) ∨ (vy_528.toInt < (Tv 0).toInt ∧ 0 ≤ r_551.toInt ∧ r_551.toInt ≤ 255))) := he_552
                      refine W.eq (g2 := F0 m 153 ls [.int r_551]) rfl ?_
                      replace hP : va_P D classes [((Ta 0), .inr (10, [.ref (Ta 1), .int (Tv 0), .int vy_2, .int vy_528, .int r_419, .int (Tv 4)])), ((Ta 1), .inl (tc 0, 400, .inl (Tf 1)))] H := hP₀
                      replace hD : va_D A [((Ta 0), .inr (10, [.ref (Ta 1), .int (Tv 0), .int vy_2, .int vy_528, .int r_419, .int (Tv 4)])), ((Ta 1), .inl (tc 0, 400, .inl (Tf 1)))] := hD₀
                      replace hS := hS₀
                      clear hP₀ hD₀ hS₀
                      refine cS (As := [.int r_551]) (rest := []) (wr := [((Ta 0), .inr (10, [.ref (Ta 1), .int (Tv 0), .int vy_2, .int vy_528, .int r_419, .int (Tv 4)])), ((Ta 1), .inl (tc 0, 400, .inl (Tf 1)))]) ⟨hx, hb, hml, hown, hts⟩ hK hX hA (ct_fX10_isDigit l D tc sk r_551) k_488 k_486 k_487 k_96 pl_X10_isDigit ⟨Nat.le_of_ble_eq_true rfl, Nat.le_of_ble_eq_true rfl⟩ rfl rfl  hP hD hS [] [0, 1] rfl rfl rfl rfl rfl (by decide) rfl hl.1 rfl (Nat.le_of_ble_eq_true rfl) dX10_step_153 ⟨Nat.le_of_ble_eq_true rfl, Nat.le_of_ble_eq_true rfl⟩ (fun v_554 u_555 H locs hv_556 hP₀ hD₀ hS₀ => ?_)
                      obtain ⟨r_557, rfl, he_558⟩ := hv_556
                      have he_558 : ((r_557.toInt = 1 ∧ 48 ≤ r_551.toInt ∧ r_551.toInt ≤ 57) ∨ (r_557.toInt = 0 ∧ (r_551.toInt < 48 ∨ 57 < r_551.toInt))) := he_558
                      refine W.eq (g2 := F0 m 156 ls [.int r_557]) rfl ?_
                      replace hP : va_P D classes [((Ta 0), .inr (10, [.ref (Ta 1), .int (Tv 0), .int vy_2, .int vy_528, .int r_419, .int (Tv 4)])), ((Ta 1), .inl (tc 0, 400, .inl (Tf 1)))] H := hP₀
                      replace hD : va_D A [((Ta 0), .inr (10, [.ref (Ta 1), .int (Tv 0), .int vy_2, .int vy_528, .int r_419, .int (Tv 4)])), ((Ta 1), .inl (tc 0, 400, .inl (Tf 1)))] := hD₀
                      replace hS := hS₀
                      clear hP₀ hD₀ hS₀
                      refine lv_if_eq (tgt := 242) hx hb dX10_step_156 (by decide) (fun c_560 => ?_) (fun c_560 => ?_)
                      · skip
                        have ha_561 : 0 ≤ ((Tv 0) : Int32).toInt ∧ ((Tv 0) : Int32).toInt ≤ 400 ∧ 0 ≤ (vy_2 : Int32).toInt ∧ (vy_2 : Int32).toInt ≤ 400 ∧ 0 ≤ (vy_528 : Int32).toInt ∧ (vy_528 : Int32).toInt ≤ 400 := by
                          have z_1 := Int32.lt_iff_toInt_lt.mp (Int32.not_le.mp c_9)
                          have z_2 : ¬ (r_319 : Int32).toInt = (32 : Int32).toInt := fun z => c_322 (Int32.toInt_inj.mp z)
                          have z_3 := congrArg Int32.toInt c_323
                          have z_4 := congrArg Int32.toInt c_428
                          have z_5 : ¬ (r_432 : Int32).toInt = (0 : Int32).toInt := fun z => c_435 (Int32.toInt_inj.mp z)
                          have z_6 := Int32.lt_iff_toInt_lt.mp (Int32.not_le.mp c_535)
                          have z_7 := congrArg Int32.toInt c_560
                          have y_0 : (0 : Int32).toInt = 0 := by decide
                          have y_32 : (32 : Int32).toInt = 32 := by decide
                          omega
                        have rg_562 := cB_rg (n := (Tv 0)) h_by (vy_2 : Int32).toInt.toNat
                        have h2_563 : ¬ cB (Tf 1) (Tv 0) (vy_2 : Int32).toInt.toNat = 32 := by
                          have z_1 := Int32.lt_iff_toInt_lt.mp (Int32.not_le.mp c_9)
                          have z_2 : ¬ (r_319 : Int32).toInt = (32 : Int32).toInt := fun z => c_322 (Int32.toInt_inj.mp z)
                          have z_3 := congrArg Int32.toInt c_323
                          have z_4 := congrArg Int32.toInt c_428
                          have z_5 : ¬ (r_432 : Int32).toInt = (0 : Int32).toInt := fun z => c_435 (Int32.toInt_inj.mp z)
                          have z_6 := Int32.lt_iff_toInt_lt.mp (Int32.not_le.mp c_535)
                          have z_7 := congrArg Int32.toInt c_560
                          have y_0 : (0 : Int32).toInt = 0 := by decide
                          have y_32 : (32 : Int32).toInt = 32 := by decide
                          omega
                        have hr_564 : 0 ≤ (vy_2 : Int32).toInt := by
                          have z_1 := Int32.lt_iff_toInt_lt.mp (Int32.not_le.mp c_9)
                          have z_2 : ¬ (r_319 : Int32).toInt = (32 : Int32).toInt := fun z => c_322 (Int32.toInt_inj.mp z)
                          have z_3 := congrArg Int32.toInt c_323
                          have z_4 := congrArg Int32.toInt c_428
                          have z_5 : ¬ (r_432 : Int32).toInt = (0 : Int32).toInt := fun z => c_435 (Int32.toInt_inj.mp z)
                          have z_6 := Int32.lt_iff_toInt_lt.mp (Int32.not_le.mp c_535)
                          have z_7 := congrArg Int32.toInt c_560
                          have y_0 : (0 : Int32).toInt = 0 := by decide
                          have y_32 : (32 : Int32).toInt = 32 := by decide
                          omega
                        have rg_565 := cB_rg (n := (Tv 0)) h_by (vy_528 : Int32).toInt.toNat
                        have hn_566 : ¬ (48 ≤ cB (Tf 1) (Tv 0) (vy_528 : Int32).toInt.toNat ∧ cB (Tf 1) (Tv 0) (vy_528 : Int32).toInt.toNat ≤ 57) := by
                          have z_1 := Int32.lt_iff_toInt_lt.mp (Int32.not_le.mp c_9)
                          have z_2 : ¬ (r_319 : Int32).toInt = (32 : Int32).toInt := fun z => c_322 (Int32.toInt_inj.mp z)
                          have z_3 := congrArg Int32.toInt c_323
                          have z_4 := congrArg Int32.toInt c_428
                          have z_5 : ¬ (r_432 : Int32).toInt = (0 : Int32).toInt := fun z => c_435 (Int32.toInt_inj.mp z)
                          have z_6 := Int32.lt_iff_toInt_lt.mp (Int32.not_le.mp c_535)
                          have z_7 := congrArg Int32.toInt c_560
                          have y_0 : (0 : Int32).toInt = 0 := by decide
                          have y_32 : (32 : Int32).toInt = 32 := by decide
                          omega
                        have hr_567 : 48 ≤ (r_419 : Int32).toInt ∧ (r_419 : Int32).toInt ≤ 57 := by
                          have z_1 := Int32.lt_iff_toInt_lt.mp (Int32.not_le.mp c_9)
                          have z_2 : ¬ (r_319 : Int32).toInt = (32 : Int32).toInt := fun z => c_322 (Int32.toInt_inj.mp z)
                          have z_3 := congrArg Int32.toInt c_323
                          have z_4 := congrArg Int32.toInt c_428
                          have z_5 : ¬ (r_432 : Int32).toInt = (0 : Int32).toInt := fun z => c_435 (Int32.toInt_inj.mp z)
                          have z_6 := Int32.lt_iff_toInt_lt.mp (Int32.not_le.mp c_535)
                          have z_7 := congrArg Int32.toInt c_560
                          have y_0 : (0 : Int32).toInt = 0 := by decide
                          have y_32 : (32 : Int32).toInt = 32 := by decide
                          omega
                        have hr_568 : (vy_528 : Int32).toInt ≤ 400 := by
                          have z_1 := Int32.lt_iff_toInt_lt.mp (Int32.not_le.mp c_9)
                          have z_2 : ¬ (r_319 : Int32).toInt = (32 : Int32).toInt := fun z => c_322 (Int32.toInt_inj.mp z)
                          have z_3 := congrArg Int32.toInt c_323
                          have z_4 := congrArg Int32.toInt c_428
                          have z_5 : ¬ (r_432 : Int32).toInt = (0 : Int32).toInt := fun z => c_435 (Int32.toInt_inj.mp z)
                          have z_6 := Int32.lt_iff_toInt_lt.mp (Int32.not_le.mp c_535)
                          have z_7 := congrArg Int32.toInt c_560
                          have y_0 : (0 : Int32).toInt = 0 := by decide
                          have y_32 : (32 : Int32).toInt = 32 := by decide
                          omega
                        have hr_569 : ((Tv 4) : Int32).toInt = 0 := by
                          have z_1 := Int32.lt_iff_toInt_lt.mp (Int32.not_le.mp c_9)
                          have z_2 : ¬ (r_319 : Int32).toInt = (32 : Int32).toInt := fun z => c_322 (Int32.toInt_inj.mp z)
                          have z_3 := congrArg Int32.toInt c_323
                          have z_4 := congrArg Int32.toInt c_428
                          have z_5 : ¬ (r_432 : Int32).toInt = (0 : Int32).toInt := fun z => c_435 (Int32.toInt_inj.mp z)
                          have z_6 := Int32.lt_iff_toInt_lt.mp (Int32.not_le.mp c_535)
                          have z_7 := congrArg Int32.toInt c_560
                          have y_0 : (0 : Int32).toInt = 0 := by decide
                          have y_32 : (32 : Int32).toInt = 32 := by decide
                          omega
                        have hr_570 : (vy_2 : Int32).toInt ≤ 400 := by
                          have z_1 := Int32.lt_iff_toInt_lt.mp (Int32.not_le.mp c_9)
                          have z_2 : ¬ (r_319 : Int32).toInt = (32 : Int32).toInt := fun z => c_322 (Int32.toInt_inj.mp z)
                          have z_3 := congrArg Int32.toInt c_323
                          have z_4 := congrArg Int32.toInt c_428
                          have z_5 : ¬ (r_432 : Int32).toInt = (0 : Int32).toInt := fun z => c_435 (Int32.toInt_inj.mp z)
                          have z_6 := Int32.lt_iff_toInt_lt.mp (Int32.not_le.mp c_535)
                          have z_7 := congrArg Int32.toInt c_560
                          have y_0 : (0 : Int32).toInt = 0 := by decide
                          have y_32 : (32 : Int32).toInt = 32 := by decide
                          omega
                        exact retV hx hb hr hlk hP hD hS (vy_2, vy_528, r_419) ⟨rfl, ha_561, (TpB.at h_tb hr_569 h_tape.2.2.2.2.1 pf_7 hr_570 h2_563 (te_D hr_564 he_420.1 hr_567 pf_533 hr_568 hn_566) he_420.1)⟩ [0, 1] rfl rfl dX10_step_242 (Nat.le_of_ble_eq_true rfl) (Nat.le_of_ble_eq_true rfl) rfl
                      · skip
                        refine lv_aload_n hx hb dX10_step_159 rfl (lv_at hl 0 rfl) ?_
                        refine lv_dup hx hb dX10_step_160 rfl ?_
                        refine gf_X10_22 hx hb hts hown hK hP 0 rfl rfl dX10_step_161 ?_
                        refine lv_iconst (v := 1) hx hb dX10_step_164 (by decide) ?_
                        refine lv_iadd hx hb dX10_step_165 ?_
                        refine lv_topi (fun x_571 ex_571 => ?_)
                        refine pf_X10_22 hx hb hts hown hK hP hD hS 0 rfl (Nat.le_of_ble_eq_true rfl) rfl rfl dX10_step_166 (fun H locs hP₀ hD₀ hS₀ => ?_)
                        replace hP : va_P D classes [((Ta 0), .inr (10, [.ref (Ta 1), .int (Tv 0), .int vy_2, .int x_571, .int r_419, .int (Tv 4)])), ((Ta 1), .inl (tc 0, 400, .inl (Tf 1)))] H := hP₀
                        replace hD : va_D A [((Ta 0), .inr (10, [.ref (Ta 1), .int (Tv 0), .int vy_2, .int x_571, .int r_419, .int (Tv 4)])), ((Ta 1), .inl (tc 0, 400, .inl (Tf 1)))] := hD₀
                        replace hS := hS₀
                        clear hP₀ hD₀ hS₀
                        refine lv_goto (tgt := 134) hx hb dX10_step_169 (by decide) ?_
                        have hb_572 : 401 - (x_571 : Int32).toInt < 401 - (vy_528 : Int32).toInt ∧ 1 ≤ 401 - (vy_528 : Int32).toInt := by
                          have z_1 := Int32.lt_iff_toInt_lt.mp (Int32.not_le.mp c_9)
                          have z_2 : ¬ (r_319 : Int32).toInt = (32 : Int32).toInt := fun z => c_322 (Int32.toInt_inj.mp z)
                          have z_3 := congrArg Int32.toInt c_323
                          have z_4 := congrArg Int32.toInt c_428
                          have z_5 : ¬ (r_432 : Int32).toInt = (0 : Int32).toInt := fun z => c_435 (Int32.toInt_inj.mp z)
                          have z_6 := Int32.lt_iff_toInt_lt.mp (Int32.not_le.mp c_535)
                          have z_7 : ¬ (r_557 : Int32).toInt = (0 : Int32).toInt := fun z => c_560 (Int32.toInt_inj.mp z)
                          have y_0 : (0 : Int32).toInt = 0 := by decide
                          have y_32 : (32 : Int32).toInt = 32 := by decide
                          have y_1 : (1 : Int32).toInt = 1 := by decide
                          have t_x_571 : x_571.toInt = (vy_528 : Int32).toInt + (1 : Int32).toInt := by rw [ex_571]; exact add_toInt (by omega) (by omega)
                          omega
                        have ha_573 : 0 ≤ (x_571 : Int32).toInt ∧ (x_571 : Int32).toInt ≤ 400 := by
                          have z_1 := Int32.lt_iff_toInt_lt.mp (Int32.not_le.mp c_9)
                          have z_2 : ¬ (r_319 : Int32).toInt = (32 : Int32).toInt := fun z => c_322 (Int32.toInt_inj.mp z)
                          have z_3 := congrArg Int32.toInt c_323
                          have z_4 := congrArg Int32.toInt c_428
                          have z_5 : ¬ (r_432 : Int32).toInt = (0 : Int32).toInt := fun z => c_435 (Int32.toInt_inj.mp z)
                          have z_6 := Int32.lt_iff_toInt_lt.mp (Int32.not_le.mp c_535)
                          have z_7 : ¬ (r_557 : Int32).toInt = (0 : Int32).toInt := fun z => c_560 (Int32.toInt_inj.mp z)
                          have y_0 : (0 : Int32).toInt = 0 := by decide
                          have y_32 : (32 : Int32).toInt = 32 := by decide
                          have y_1 : (1 : Int32).toInt = 1 := by decide
                          have t_x_571 : x_571.toInt = (vy_528 : Int32).toInt + (1 : Int32).toInt := by rw [ex_571]; exact add_toInt (by omega) (by omega)
                          omega
                        have hr_574 : 0 ≤ (vy_528 : Int32).toInt := by
                          have z_1 := Int32.lt_iff_toInt_lt.mp (Int32.not_le.mp c_9)
                          have z_2 : ¬ (r_319 : Int32).toInt = (32 : Int32).toInt := fun z => c_322 (Int32.toInt_inj.mp z)
                          have z_3 := congrArg Int32.toInt c_323
                          have z_4 := congrArg Int32.toInt c_428
                          have z_5 : ¬ (r_432 : Int32).toInt = (0 : Int32).toInt := fun z => c_435 (Int32.toInt_inj.mp z)
                          have z_6 := Int32.lt_iff_toInt_lt.mp (Int32.not_le.mp c_535)
                          have z_7 : ¬ (r_557 : Int32).toInt = (0 : Int32).toInt := fun z => c_560 (Int32.toInt_inj.mp z)
                          have y_0 : (0 : Int32).toInt = 0 := by decide
                          have y_32 : (32 : Int32).toInt = 32 := by decide
                          omega
                        have hr_575 : 48 ≤ (r_551 : Int32).toInt ∧ (r_551 : Int32).toInt ≤ 57 := by
                          have z_1 := Int32.lt_iff_toInt_lt.mp (Int32.not_le.mp c_9)
                          have z_2 : ¬ (r_319 : Int32).toInt = (32 : Int32).toInt := fun z => c_322 (Int32.toInt_inj.mp z)
                          have z_3 := congrArg Int32.toInt c_323
                          have z_4 := congrArg Int32.toInt c_428
                          have z_5 : ¬ (r_432 : Int32).toInt = (0 : Int32).toInt := fun z => c_435 (Int32.toInt_inj.mp z)
                          have z_6 := Int32.lt_iff_toInt_lt.mp (Int32.not_le.mp c_535)
                          have z_7 : ¬ (r_557 : Int32).toInt = (0 : Int32).toInt := fun z => c_560 (Int32.toInt_inj.mp z)
                          have y_0 : (0 : Int32).toInt = 0 := by decide
                          have y_32 : (32 : Int32).toInt = 32 := by decide
                          omega
                        have hi_576 : (x_571 : Int32).toInt = (vy_528 : Int32).toInt + 1 := by
                          have z_1 := Int32.lt_iff_toInt_lt.mp (Int32.not_le.mp c_9)
                          have z_2 : ¬ (r_319 : Int32).toInt = (32 : Int32).toInt := fun z => c_322 (Int32.toInt_inj.mp z)
                          have z_3 := congrArg Int32.toInt c_323
                          have z_4 := congrArg Int32.toInt c_428
                          have z_5 : ¬ (r_432 : Int32).toInt = (0 : Int32).toInt := fun z => c_435 (Int32.toInt_inj.mp z)
                          have z_6 := Int32.lt_iff_toInt_lt.mp (Int32.not_le.mp c_535)
                          have z_7 : ¬ (r_557 : Int32).toInt = (0 : Int32).toInt := fun z => c_560 (Int32.toInt_inj.mp z)
                          have y_0 : (0 : Int32).toInt = 0 := by decide
                          have y_32 : (32 : Int32).toInt = 32 := by decide
                          have y_1 : (1 : Int32).toInt = 1 := by decide
                          have t_x_571 : x_571.toInt = (vy_528 : Int32).toInt + (1 : Int32).toInt := by rw [ex_571]; exact add_toInt (by omega) (by omega)
                          omega
                        exact ih_530 x_571 _ _ _ (by omega) ha_573 (Rn.st pf_533 hr_574 he_552.1 (decide_eq_true hr_575) hi_576) (hP.sub [0, 1] rfl) (hD.sub [0, 1] rfl rfl) hS (lv_sub hl [0] rfl)
                exact loop_531 _ vy_2 _ _ _ (Nat.lt_succ_self _) pf_6 (Rn.rf) hP hD hS hl
            · skip
              have loop_581 : ∀ (n_579 : Nat) (vy_578 : Int32) (H : Heap) (locs : List Loc) (ls : Array Slot), (401 - (vy_578 : Int32).toInt).toNat < n_579 → (0 ≤ (vy_578 : Int32).toInt ∧ (vy_578 : Int32).toInt ≤ 400) → (Rn pz_isL (Tf 1) (Tv 0) vy_2 vy_578) → va_P D classes [((Ta 0), .inr (10, [.ref (Ta 1), .int (Tv 0), .int vy_2, .int vy_578, .int r_419, .int (Tv 4)])), ((Ta 1), .inl (tc 0, 400, .inl (Tf 1)))] H → va_D A [((Ta 0), .inr (10, [.ref (Ta 1), .int (Tv 0), .int vy_2, .int vy_578, .int r_419, .int (Tv 4)])), ((Ta 1), .inl (tc 0, 400, .inl (Tf 1)))] → va_S A s.heap H locs → lv_has ls 2 [(0, .ref (Ta 0))] → W p l e ({ frames := 1, cells := 0, slots := 0, locals := 21 }) s m ([.ref (Ta 0)].toArray) below meth c H locs 0 0 (MQ below (QW (fun (v : Option Value) (u : (Int32) × (Int32) × (Int32)) => match u with | (oo0x1, oo0x2, oo0x3) => v = none ∧ (0 ≤ ((Tv 0) : Int32).toInt ∧ ((Tv 0) : Int32).toInt ≤ 400 ∧ 0 ≤ (oo0x1 : Int32).toInt ∧ (oo0x1 : Int32).toInt ≤ 400 ∧ 0 ≤ (oo0x2 : Int32).toInt ∧ (oo0x2 : Int32).toInt ≤ 400) ∧ (TpR (Tf 1) (Tv 0) (rSK (cB (Tf 1) (Tv 0)) rr) oo0x1 oo0x2 oo0x3 (Tv 4))) (BW D (fun (u : (Int32) × (Int32) × (Int32)) => match u with | (oo0x1, oo0x2, oo0x3) => [((Ta 0), .inr (10, [.ref (Ta 1), .int (Tv 0), .int oo0x1, .int oo0x2, .int oo0x3, .int (Tv 4)])), ((Ta 1), .inl (tc 0, 400, .inl (Tf 1)))]) A) A) ([.ref (Ta 0)].toArray) s 0 0 A) (F0 m 86 ls []) := by
                clear hP hD hS hl
                intro n_579
                induction n_579 with
                | zero =>
                  intro vy_578 H locs ls h1
                  exact absurd h1 (Nat.not_lt_zero _)
                | succ n_579 ih_580 =>
                  intro vy_578 H locs ls hn_584 pf_582 pf_583 hP hD hS hl
                  refine lv_aload_n hx hb dX10_step_86 rfl (lv_at hl 0 rfl) ?_
                  refine gf_X10_22 hx hb hts hown hK hP 0 rfl rfl dX10_step_87 ?_
                  refine lv_aload_n hx hb dX10_step_90 rfl (lv_at hl 0 rfl) ?_
                  refine gf_X10_15 hx hb hts hown hK hP 0 rfl rfl dX10_step_91 ?_
                  refine lv_icmp_ge (tgt := 242) hx hb dX10_step_94 (by decide) (fun c_585 => ?_) (fun c_585 => ?_)
                  · skip
                    have ha_586 : 0 ≤ ((Tv 0) : Int32).toInt ∧ ((Tv 0) : Int32).toInt ≤ 400 ∧ 0 ≤ (vy_2 : Int32).toInt ∧ (vy_2 : Int32).toInt ≤ 400 ∧ 0 ≤ (vy_578 : Int32).toInt ∧ (vy_578 : Int32).toInt ≤ 400 := by
                      have z_1 := Int32.lt_iff_toInt_lt.mp (Int32.not_le.mp c_9)
                      have z_2 : ¬ (r_319 : Int32).toInt = (32 : Int32).toInt := fun z => c_322 (Int32.toInt_inj.mp z)
                      have z_3 := congrArg Int32.toInt c_323
                      have z_4 : ¬ (r_425 : Int32).toInt = (0 : Int32).toInt := fun z => c_428 (Int32.toInt_inj.mp z)
                      have z_5 := Int32.le_iff_toInt_le.mp c_585
                      have y_0 : (0 : Int32).toInt = 0 := by decide
                      have y_32 : (32 : Int32).toInt = 32 := by decide
                      omega
                    have rg_587 := cB_rg (n := (Tv 0)) h_by (vy_2 : Int32).toInt.toNat
                    have h2_588 : ¬ cB (Tf 1) (Tv 0) (vy_2 : Int32).toInt.toNat = 32 := by
                      have z_1 := Int32.lt_iff_toInt_lt.mp (Int32.not_le.mp c_9)
                      have z_2 : ¬ (r_319 : Int32).toInt = (32 : Int32).toInt := fun z => c_322 (Int32.toInt_inj.mp z)
                      have z_3 := congrArg Int32.toInt c_323
                      have z_4 : ¬ (r_425 : Int32).toInt = (0 : Int32).toInt := fun z => c_428 (Int32.toInt_inj.mp z)
                      have z_5 := Int32.le_iff_toInt_le.mp c_585
                      have y_0 : (0 : Int32).toInt = 0 := by decide
                      have y_32 : (32 : Int32).toInt = 32 := by decide
                      omega
                    have hr_589 : 0 ≤ (vy_2 : Int32).toInt := by
                      have z_1 := Int32.lt_iff_toInt_lt.mp (Int32.not_le.mp c_9)
                      have z_2 : ¬ (r_319 : Int32).toInt = (32 : Int32).toInt := fun z => c_322 (Int32.toInt_inj.mp z)
                      have z_3 := congrArg Int32.toInt c_323
                      have z_4 : ¬ (r_425 : Int32).toInt = (0 : Int32).toInt := fun z => c_428 (Int32.toInt_inj.mp z)
                      have z_5 := Int32.le_iff_toInt_le.mp c_585
                      have y_0 : (0 : Int32).toInt = 0 := by decide
                      have y_32 : (32 : Int32).toInt = 32 := by decide
                      omega
                    have rg_590 := cB_rg (n := (Tv 0)) h_by (vy_578 : Int32).toInt.toNat
                    have hn_591 : ¬ (97 ≤ cB (Tf 1) (Tv 0) (vy_578 : Int32).toInt.toNat ∧ cB (Tf 1) (Tv 0) (vy_578 : Int32).toInt.toNat ≤ 122) := by
                      have z_1 := Int32.lt_iff_toInt_lt.mp (Int32.not_le.mp c_9)
                      have z_2 : ¬ (r_319 : Int32).toInt = (32 : Int32).toInt := fun z => c_322 (Int32.toInt_inj.mp z)
                      have z_3 := congrArg Int32.toInt c_323
                      have z_4 : ¬ (r_425 : Int32).toInt = (0 : Int32).toInt := fun z => c_428 (Int32.toInt_inj.mp z)
                      have z_5 := Int32.le_iff_toInt_le.mp c_585
                      have y_0 : (0 : Int32).toInt = 0 := by decide
                      have y_32 : (32 : Int32).toInt = 32 := by decide
                      omega
                    have hr_592 : 97 ≤ (r_419 : Int32).toInt ∧ (r_419 : Int32).toInt ≤ 122 := by
                      have z_1 := Int32.lt_iff_toInt_lt.mp (Int32.not_le.mp c_9)
                      have z_2 : ¬ (r_319 : Int32).toInt = (32 : Int32).toInt := fun z => c_322 (Int32.toInt_inj.mp z)
                      have z_3 := congrArg Int32.toInt c_323
                      have z_4 : ¬ (r_425 : Int32).toInt = (0 : Int32).toInt := fun z => c_428 (Int32.toInt_inj.mp z)
                      have z_5 := Int32.le_iff_toInt_le.mp c_585
                      have y_0 : (0 : Int32).toInt = 0 := by decide
                      have y_32 : (32 : Int32).toInt = 32 := by decide
                      omega
                    have hr_593 : (vy_578 : Int32).toInt ≤ 400 := by
                      have z_1 := Int32.lt_iff_toInt_lt.mp (Int32.not_le.mp c_9)
                      have z_2 : ¬ (r_319 : Int32).toInt = (32 : Int32).toInt := fun z => c_322 (Int32.toInt_inj.mp z)
                      have z_3 := congrArg Int32.toInt c_323
                      have z_4 : ¬ (r_425 : Int32).toInt = (0 : Int32).toInt := fun z => c_428 (Int32.toInt_inj.mp z)
                      have z_5 := Int32.le_iff_toInt_le.mp c_585
                      have y_0 : (0 : Int32).toInt = 0 := by decide
                      have y_32 : (32 : Int32).toInt = 32 := by decide
                      omega
                    have hr_594 : ((Tv 4) : Int32).toInt = 0 := by
                      have z_1 := Int32.lt_iff_toInt_lt.mp (Int32.not_le.mp c_9)
                      have z_2 : ¬ (r_319 : Int32).toInt = (32 : Int32).toInt := fun z => c_322 (Int32.toInt_inj.mp z)
                      have z_3 := congrArg Int32.toInt c_323
                      have z_4 : ¬ (r_425 : Int32).toInt = (0 : Int32).toInt := fun z => c_428 (Int32.toInt_inj.mp z)
                      have z_5 := Int32.le_iff_toInt_le.mp c_585
                      have y_0 : (0 : Int32).toInt = 0 := by decide
                      have y_32 : (32 : Int32).toInt = 32 := by decide
                      omega
                    have hr_595 : (vy_2 : Int32).toInt ≤ 400 := by
                      have z_1 := Int32.lt_iff_toInt_lt.mp (Int32.not_le.mp c_9)
                      have z_2 : ¬ (r_319 : Int32).toInt = (32 : Int32).toInt := fun z => c_322 (Int32.toInt_inj.mp z)
                      have z_3 := congrArg Int32.toInt c_323
                      have z_4 : ¬ (r_425 : Int32).toInt = (0 : Int32).toInt := fun z => c_428 (Int32.toInt_inj.mp z)
                      have z_5 := Int32.le_iff_toInt_le.mp c_585
                      have y_0 : (0 : Int32).toInt = 0 := by decide
                      have y_32 : (32 : Int32).toInt = 32 := by decide
                      omega
                    exact retV hx hb hr hlk hP hD hS (vy_2, vy_578, r_419) ⟨rfl, ha_586, (TpB.at h_tb hr_594 h_tape.2.2.2.2.1 pf_7 hr_595 h2_588 (te_L hr_589 he_420.1 hr_592 pf_583 hr_593 hn_591) he_420.1)⟩ [0, 1] rfl rfl dX10_step_242 (Nat.le_of_ble_eq_true rfl) (Nat.le_of_ble_eq_true rfl) rfl
                  · skip
                    refine lv_aload_n hx hb dX10_step_97 rfl (lv_at hl 0 rfl) ?_
                    refine lv_aload_n hx hb dX10_step_98 rfl (lv_at hl 0 rfl) ?_
                    refine gf_X10_22 hx hb hts hown hK hP 0 rfl rfl dX10_step_99 ?_
                    have ha_596 : 0 ≤ ((Tv 0) : Int32).toInt ∧ ((Tv 0) : Int32).toInt ≤ 400 ∧ 0 ≤ (vy_2 : Int32).toInt ∧ (vy_2 : Int32).toInt ≤ 400 ∧ 0 ≤ (vy_578 : Int32).toInt ∧ (vy_578 : Int32).toInt ≤ 400 := by
                      have z_1 := Int32.lt_iff_toInt_lt.mp (Int32.not_le.mp c_9)
                      have z_2 : ¬ (r_319 : Int32).toInt = (32 : Int32).toInt := fun z => c_322 (Int32.toInt_inj.mp z)
                      have z_3 := congrArg Int32.toInt c_323
                      have z_4 : ¬ (r_425 : Int32).toInt = (0 : Int32).toInt := fun z => c_428 (Int32.toInt_inj.mp z)
                      have z_5 := Int32.lt_iff_toInt_lt.mp (Int32.not_le.mp c_585)
                      have y_0 : (0 : Int32).toInt = 0 := by decide
                      have y_32 : (32 : Int32).toInt = 32 := by decide
                      omega
                    have ha_597 : 0 ≤ vy_578.toInt := by
                      have z_1 := Int32.lt_iff_toInt_lt.mp (Int32.not_le.mp c_9)
                      have z_2 : ¬ (r_319 : Int32).toInt = (32 : Int32).toInt := fun z => c_322 (Int32.toInt_inj.mp z)
                      have z_3 := congrArg Int32.toInt c_323
                      have z_4 : ¬ (r_425 : Int32).toInt = (0 : Int32).toInt := fun z => c_428 (Int32.toInt_inj.mp z)
                      have z_5 := Int32.lt_iff_toInt_lt.mp (Int32.not_le.mp c_585)
                      have y_0 : (0 : Int32).toInt = 0 := by decide
                      have y_32 : (32 : Int32).toInt = 32 := by decide
                      omega
                    refine cV (a := (Ta 0)) (As := [.int vy_578]) (rest := []) (wr := []) ⟨hx, hb, hml, hown, hts⟩ hK hX hA (cu_fX10_byteAt l D tc sk (Ta 0) (Ta 1) (Tv 0) vy_2 vy_578 r_419 (Tv 4) (Tf 1) vy_578 ha_596 h_by ha_597) k_482 k_479 k_481 k_0 k_96 pl_X10_byteAt ⟨Nat.le_of_ble_eq_true rfl, Nat.le_of_ble_eq_true rfl⟩ rfl rfl (va_recv hK hP (ci := 10) (q0 := 0) rfl rfl) hP hD hS [0, 1] [] rfl rfl rfl rfl rfl (by decide) rfl hl.1 rfl (Nat.le_of_ble_eq_true rfl) dX10_step_102 ⟨Nat.le_of_ble_eq_true rfl, Nat.le_of_ble_eq_true rfl⟩ (fun v_598 u_599 H locs hv_600 hP₀ hD₀ hS₀ => ?_)
                    obtain ⟨r_601, rfl, he_602⟩ := hv_600
                    have he_602 : (r_601.toInt = cB (Tf 1) (Tv 0) vy_578.toInt.toNat ∧ (((Tv 0).toInt ≤ vy_578.toInt ∧ r_601.toInt = -1) ∨ (vy_578.toInt < (Tv 0).toInt ∧ 0 ≤ r_601.toInt ∧ r_601.toInt ≤ 255))) := he_602
                    refine W.eq (g2 := F0 m 105 ls [.int r_601]) rfl ?_
                    replace hP : va_P D classes [((Ta 0), .inr (10, [.ref (Ta 1), .int (Tv 0), .int vy_2, .int vy_578, .int r_419, .int (Tv 4)])), ((Ta 1), .inl (tc 0, 400, .inl (Tf 1)))] H := hP₀
                    replace hD : va_D A [((Ta 0), .inr (10, [.ref (Ta 1), .int (Tv 0), .int vy_2, .int vy_578, .int r_419, .int (Tv 4)])), ((Ta 1), .inl (tc 0, 400, .inl (Tf 1)))] := hD₀
                    replace hS := hS₀
                    clear hP₀ hD₀ hS₀
                    refine cS (As := [.int r_601]) (rest := []) (wr := [((Ta 0), .inr (10, [.ref (Ta 1), .int (Tv 0), .int vy_2, .int vy_578, .int r_419, .int (Tv 4)])), ((Ta 1), .inl (tc 0, 400, .inl (Tf 1)))]) ⟨hx, hb, hml, hown, hts⟩ hK hX hA (ct_fX10_isLetter l D tc sk r_601) k_485 k_483 k_484 k_96 pl_X10_isLetter ⟨Nat.le_of_ble_eq_true rfl, Nat.le_of_ble_eq_true rfl⟩ rfl rfl  hP hD hS [] [0, 1] rfl rfl rfl rfl rfl (by decide) rfl hl.1 rfl (Nat.le_of_ble_eq_true rfl) dX10_step_105 ⟨Nat.le_of_ble_eq_true rfl, Nat.le_of_ble_eq_true rfl⟩ (fun v_604 u_605 H locs hv_606 hP₀ hD₀ hS₀ => ?_)
                    obtain ⟨r_607, rfl, he_608⟩ := hv_606
                    have he_608 : ((r_607.toInt = 1 ∧ 97 ≤ r_601.toInt ∧ r_601.toInt ≤ 122) ∨ (r_607.toInt = 0 ∧ (r_601.toInt < 97 ∨ 122 < r_601.toInt))) := he_608
                    refine W.eq (g2 := F0 m 108 ls [.int r_607]) rfl ?_
                    replace hP : va_P D classes [((Ta 0), .inr (10, [.ref (Ta 1), .int (Tv 0), .int vy_2, .int vy_578, .int r_419, .int (Tv 4)])), ((Ta 1), .inl (tc 0, 400, .inl (Tf 1)))] H := hP₀
                    replace hD : va_D A [((Ta 0), .inr (10, [.ref (Ta 1), .int (Tv 0), .int vy_2, .int vy_578, .int r_419, .int (Tv 4)])), ((Ta 1), .inl (tc 0, 400, .inl (Tf 1)))] := hD₀
                    replace hS := hS₀
                    clear hP₀ hD₀ hS₀
                    refine lv_if_eq (tgt := 242) hx hb dX10_step_108 (by decide) (fun c_610 => ?_) (fun c_610 => ?_)
                    · skip
                      have ha_611 : 0 ≤ ((Tv 0) : Int32).toInt ∧ ((Tv 0) : Int32).toInt ≤ 400 ∧ 0 ≤ (vy_2 : Int32).toInt ∧ (vy_2 : Int32).toInt ≤ 400 ∧ 0 ≤ (vy_578 : Int32).toInt ∧ (vy_578 : Int32).toInt ≤ 400 := by
                        have z_1 := Int32.lt_iff_toInt_lt.mp (Int32.not_le.mp c_9)
                        have z_2 : ¬ (r_319 : Int32).toInt = (32 : Int32).toInt := fun z => c_322 (Int32.toInt_inj.mp z)
                        have z_3 := congrArg Int32.toInt c_323
                        have z_4 : ¬ (r_425 : Int32).toInt = (0 : Int32).toInt := fun z => c_428 (Int32.toInt_inj.mp z)
                        have z_5 := Int32.lt_iff_toInt_lt.mp (Int32.not_le.mp c_585)
                        have z_6 := congrArg Int32.toInt c_610
                        have y_0 : (0 : Int32).toInt = 0 := by decide
                        have y_32 : (32 : Int32).toInt = 32 := by decide
                        omega
                      have rg_612 := cB_rg (n := (Tv 0)) h_by (vy_2 : Int32).toInt.toNat
                      have h2_613 : ¬ cB (Tf 1) (Tv 0) (vy_2 : Int32).toInt.toNat = 32 := by
                        have z_1 := Int32.lt_iff_toInt_lt.mp (Int32.not_le.mp c_9)
                        have z_2 : ¬ (r_319 : Int32).toInt = (32 : Int32).toInt := fun z => c_322 (Int32.toInt_inj.mp z)
                        have z_3 := congrArg Int32.toInt c_323
                        have z_4 : ¬ (r_425 : Int32).toInt = (0 : Int32).toInt := fun z => c_428 (Int32.toInt_inj.mp z)
                        have z_5 := Int32.lt_iff_toInt_lt.mp (Int32.not_le.mp c_585)
                        have z_6 := congrArg Int32.toInt c_610
                        have y_0 : (0 : Int32).toInt = 0 := by decide
                        have y_32 : (32 : Int32).toInt = 32 := by decide
                        omega
                      have hr_614 : 0 ≤ (vy_2 : Int32).toInt := by
                        have z_1 := Int32.lt_iff_toInt_lt.mp (Int32.not_le.mp c_9)
                        have z_2 : ¬ (r_319 : Int32).toInt = (32 : Int32).toInt := fun z => c_322 (Int32.toInt_inj.mp z)
                        have z_3 := congrArg Int32.toInt c_323
                        have z_4 : ¬ (r_425 : Int32).toInt = (0 : Int32).toInt := fun z => c_428 (Int32.toInt_inj.mp z)
                        have z_5 := Int32.lt_iff_toInt_lt.mp (Int32.not_le.mp c_585)
                        have z_6 := congrArg Int32.toInt c_610
                        have y_0 : (0 : Int32).toInt = 0 := by decide
                        have y_32 : (32 : Int32).toInt = 32 := by decide
                        omega
                      have rg_615 := cB_rg (n := (Tv 0)) h_by (vy_578 : Int32).toInt.toNat
                      have hn_616 : ¬ (97 ≤ cB (Tf 1) (Tv 0) (vy_578 : Int32).toInt.toNat ∧ cB (Tf 1) (Tv 0) (vy_578 : Int32).toInt.toNat ≤ 122) := by
                        have z_1 := Int32.lt_iff_toInt_lt.mp (Int32.not_le.mp c_9)
                        have z_2 : ¬ (r_319 : Int32).toInt = (32 : Int32).toInt := fun z => c_322 (Int32.toInt_inj.mp z)
                        have z_3 := congrArg Int32.toInt c_323
                        have z_4 : ¬ (r_425 : Int32).toInt = (0 : Int32).toInt := fun z => c_428 (Int32.toInt_inj.mp z)
                        have z_5 := Int32.lt_iff_toInt_lt.mp (Int32.not_le.mp c_585)
                        have z_6 := congrArg Int32.toInt c_610
                        have y_0 : (0 : Int32).toInt = 0 := by decide
                        have y_32 : (32 : Int32).toInt = 32 := by decide
                        omega
                      have hr_617 : 97 ≤ (r_419 : Int32).toInt ∧ (r_419 : Int32).toInt ≤ 122 := by
                        have z_1 := Int32.lt_iff_toInt_lt.mp (Int32.not_le.mp c_9)
                        have z_2 : ¬ (r_319 : Int32).toInt = (32 : Int32).toInt := fun z => c_322 (Int32.toInt_inj.mp z)
                        have z_3 := congrArg Int32.toInt c_323
                        have z_4 : ¬ (r_425 : Int32).toInt = (0 : Int32).toInt := fun z => c_428 (Int32.toInt_inj.mp z)
                        have z_5 := Int32.lt_iff_toInt_lt.mp (Int32.not_le.mp c_585)
                        have z_6 := congrArg Int32.toInt c_610
                        have y_0 : (0 : Int32).toInt = 0 := by decide
                        have y_32 : (32 : Int32).toInt = 32 := by decide
                        omega
                      have hr_618 : (vy_578 : Int32).toInt ≤ 400 := by
                        have z_1 := Int32.lt_iff_toInt_lt.mp (Int32.not_le.mp c_9)
                        have z_2 : ¬ (r_319 : Int32).toInt = (32 : Int32).toInt := fun z => c_322 (Int32.toInt_inj.mp z)
                        have z_3 := congrArg Int32.toInt c_323
                        have z_4 : ¬ (r_425 : Int32).toInt = (0 : Int32).toInt := fun z => c_428 (Int32.toInt_inj.mp z)
                        have z_5 := Int32.lt_iff_toInt_lt.mp (Int32.not_le.mp c_585)
                        have z_6 := congrArg Int32.toInt c_610
                        have y_0 : (0 : Int32).toInt = 0 := by decide
                        have y_32 : (32 : Int32).toInt = 32 := by decide
                        omega
                      have hr_619 : ((Tv 4) : Int32).toInt = 0 := by
                        have z_1 := Int32.lt_iff_toInt_lt.mp (Int32.not_le.mp c_9)
                        have z_2 : ¬ (r_319 : Int32).toInt = (32 : Int32).toInt := fun z => c_322 (Int32.toInt_inj.mp z)
                        have z_3 := congrArg Int32.toInt c_323
                        have z_4 : ¬ (r_425 : Int32).toInt = (0 : Int32).toInt := fun z => c_428 (Int32.toInt_inj.mp z)
                        have z_5 := Int32.lt_iff_toInt_lt.mp (Int32.not_le.mp c_585)
                        have z_6 := congrArg Int32.toInt c_610
                        have y_0 : (0 : Int32).toInt = 0 := by decide
                        have y_32 : (32 : Int32).toInt = 32 := by decide
                        omega
                      have hr_620 : (vy_2 : Int32).toInt ≤ 400 := by
                        have z_1 := Int32.lt_iff_toInt_lt.mp (Int32.not_le.mp c_9)
                        have z_2 : ¬ (r_319 : Int32).toInt = (32 : Int32).toInt := fun z => c_322 (Int32.toInt_inj.mp z)
                        have z_3 := congrArg Int32.toInt c_323
                        have z_4 : ¬ (r_425 : Int32).toInt = (0 : Int32).toInt := fun z => c_428 (Int32.toInt_inj.mp z)
                        have z_5 := Int32.lt_iff_toInt_lt.mp (Int32.not_le.mp c_585)
                        have z_6 := congrArg Int32.toInt c_610
                        have y_0 : (0 : Int32).toInt = 0 := by decide
                        have y_32 : (32 : Int32).toInt = 32 := by decide
                        omega
                      exact retV hx hb hr hlk hP hD hS (vy_2, vy_578, r_419) ⟨rfl, ha_611, (TpB.at h_tb hr_619 h_tape.2.2.2.2.1 pf_7 hr_620 h2_613 (te_L hr_614 he_420.1 hr_617 pf_583 hr_618 hn_616) he_420.1)⟩ [0, 1] rfl rfl dX10_step_242 (Nat.le_of_ble_eq_true rfl) (Nat.le_of_ble_eq_true rfl) rfl
                    · skip
                      refine lv_aload_n hx hb dX10_step_111 rfl (lv_at hl 0 rfl) ?_
                      refine lv_dup hx hb dX10_step_112 rfl ?_
                      refine gf_X10_22 hx hb hts hown hK hP 0 rfl rfl dX10_step_113 ?_
                      refine lv_iconst (v := 1) hx hb dX10_step_116 (by decide) ?_
                      refine lv_iadd hx hb dX10_step_117 ?_
                      refine lv_topi (fun x_621 ex_621 => ?_)
                      refine pf_X10_22 hx hb hts hown hK hP hD hS 0 rfl (Nat.le_of_ble_eq_true rfl) rfl rfl dX10_step_118 (fun H locs hP₀ hD₀ hS₀ => ?_)
                      replace hP : va_P D classes [((Ta 0), .inr (10, [.ref (Ta 1), .int (Tv 0), .int vy_2, .int x_621, .int r_419, .int (Tv 4)])), ((Ta 1), .inl (tc 0, 400, .inl (Tf 1)))] H := hP₀
                      replace hD : va_D A [((Ta 0), .inr (10, [.ref (Ta 1), .int (Tv 0), .int vy_2, .int x_621, .int r_419, .int (Tv 4)])), ((Ta 1), .inl (tc 0, 400, .inl (Tf 1)))] := hD₀
                      replace hS := hS₀
                      clear hP₀ hD₀ hS₀
                      refine lv_goto (tgt := 86) hx hb dX10_step_121 (by decide) ?_
                      have hb_622 : 401 - (x_621 : Int32).toInt < 401 - (vy_578 : Int32).toInt ∧ 1 ≤ 401 - (vy_578 : Int32).toInt := by
                        have z_1 := Int32.lt_iff_toInt_lt.mp (Int32.not_le.mp c_9)
                        have z_2 : ¬ (r_319 : Int32).toInt = (32 : Int32).toInt := fun z => c_322 (Int32.toInt_inj.mp z)
                        have z_3 := congrArg Int32.toInt c_323
                        have z_4 : ¬ (r_425 : Int32).toInt = (0 : Int32).toInt := fun z => c_428 (Int32.toInt_inj.mp z)
                        have z_5 := Int32.lt_iff_toInt_lt.mp (Int32.not_le.mp c_585)
                        have z_6 : ¬ (r_607 : Int32).toInt = (0 : Int32).toInt := fun z => c_610 (Int32.toInt_inj.mp z)
                        have y_0 : (0 : Int32).toInt = 0 := by decide
                        have y_32 : (32 : Int32).toInt = 32 := by decide
                        have y_1 : (1 : Int32).toInt = 1 := by decide
                        have t_x_621 : x_621.toInt = (vy_578 : Int32).toInt + (1 : Int32).toInt := by rw [ex_621]; exact add_toInt (by omega) (by omega)
                        omega
                      have ha_623 : 0 ≤ (x_621 : Int32).toInt ∧ (x_621 : Int32).toInt ≤ 400 := by
                        have z_1 := Int32.lt_iff_toInt_lt.mp (Int32.not_le.mp c_9)
                        have z_2 : ¬ (r_319 : Int32).toInt = (32 : Int32).toInt := fun z => c_322 (Int32.toInt_inj.mp z)
                        have z_3 := congrArg Int32.toInt c_323
                        have z_4 : ¬ (r_425 : Int32).toInt = (0 : Int32).toInt := fun z => c_428 (Int32.toInt_inj.mp z)
                        have z_5 := Int32.lt_iff_toInt_lt.mp (Int32.not_le.mp c_585)
                        have z_6 : ¬ (r_607 : Int32).toInt = (0 : Int32).toInt := fun z => c_610 (Int32.toInt_inj.mp z)
                        have y_0 : (0 : Int32).toInt = 0 := by decide
                        have y_32 : (32 : Int32).toInt = 32 := by decide
                        have y_1 : (1 : Int32).toInt = 1 := by decide
                        have t_x_621 : x_621.toInt = (vy_578 : Int32).toInt + (1 : Int32).toInt := by rw [ex_621]; exact add_toInt (by omega) (by omega)
                        omega
                      have hr_624 : 0 ≤ (vy_578 : Int32).toInt := by
                        have z_1 := Int32.lt_iff_toInt_lt.mp (Int32.not_le.mp c_9)
                        have z_2 : ¬ (r_319 : Int32).toInt = (32 : Int32).toInt := fun z => c_322 (Int32.toInt_inj.mp z)
                        have z_3 := congrArg Int32.toInt c_323
                        have z_4 : ¬ (r_425 : Int32).toInt = (0 : Int32).toInt := fun z => c_428 (Int32.toInt_inj.mp z)
                        have z_5 := Int32.lt_iff_toInt_lt.mp (Int32.not_le.mp c_585)
                        have z_6 : ¬ (r_607 : Int32).toInt = (0 : Int32).toInt := fun z => c_610 (Int32.toInt_inj.mp z)
                        have y_0 : (0 : Int32).toInt = 0 := by decide
                        have y_32 : (32 : Int32).toInt = 32 := by decide
                        omega
                      have hr_625 : 97 ≤ (r_601 : Int32).toInt ∧ (r_601 : Int32).toInt ≤ 122 := by
                        have z_1 := Int32.lt_iff_toInt_lt.mp (Int32.not_le.mp c_9)
                        have z_2 : ¬ (r_319 : Int32).toInt = (32 : Int32).toInt := fun z => c_322 (Int32.toInt_inj.mp z)
                        have z_3 := congrArg Int32.toInt c_323
                        have z_4 : ¬ (r_425 : Int32).toInt = (0 : Int32).toInt := fun z => c_428 (Int32.toInt_inj.mp z)
                        have z_5 := Int32.lt_iff_toInt_lt.mp (Int32.not_le.mp c_585)
                        have z_6 : ¬ (r_607 : Int32).toInt = (0 : Int32).toInt := fun z => c_610 (Int32.toInt_inj.mp z)
                        have y_0 : (0 : Int32).toInt = 0 := by decide
                        have y_32 : (32 : Int32).toInt = 32 := by decide
                        omega
                      have hi_626 : (x_621 : Int32).toInt = (vy_578 : Int32).toInt + 1 := by
                        have z_1 := Int32.lt_iff_toInt_lt.mp (Int32.not_le.mp c_9)
                        have z_2 : ¬ (r_319 : Int32).toInt = (32 : Int32).toInt := fun z => c_322 (Int32.toInt_inj.mp z)
                        have z_3 := congrArg Int32.toInt c_323
                        have z_4 : ¬ (r_425 : Int32).toInt = (0 : Int32).toInt := fun z => c_428 (Int32.toInt_inj.mp z)
                        have z_5 := Int32.lt_iff_toInt_lt.mp (Int32.not_le.mp c_585)
                        have z_6 : ¬ (r_607 : Int32).toInt = (0 : Int32).toInt := fun z => c_610 (Int32.toInt_inj.mp z)
                        have y_0 : (0 : Int32).toInt = 0 := by decide
                        have y_32 : (32 : Int32).toInt = 32 := by decide
                        have y_1 : (1 : Int32).toInt = 1 := by decide
                        have t_x_621 : x_621.toInt = (vy_578 : Int32).toInt + (1 : Int32).toInt := by rw [ex_621]; exact add_toInt (by omega) (by omega)
                        omega
                      exact ih_580 x_621 _ _ _ (by omega) ha_623 (Rn.st pf_583 hr_624 he_602.1 (decide_eq_true hr_625) hi_626) (hP.sub [0, 1] rfl) (hD.sub [0, 1] rfl rfl) hS (lv_sub hl [0] rfl)
              exact loop_581 _ vy_2 _ _ _ (Nat.lt_succ_self _) pf_6 (Rn.rf) hP hD hS hl
        · skip
          refine lv_aload_n hx hb dX10_step_32 rfl (lv_at hl 0 rfl) ?_
          refine lv_dup hx hb dX10_step_33 rfl ?_
          refine gf_X10_19 hx hb hts hown hK hP 0 rfl rfl dX10_step_34 ?_
          refine lv_iconst (v := 1) hx hb dX10_step_37 (by decide) ?_
          refine lv_iadd hx hb dX10_step_38 ?_
          refine lv_topi (fun x_627 ex_627 => ?_)
          refine pf_X10_19 hx hb hts hown hK hP hD hS 0 rfl (Nat.le_of_ble_eq_true rfl) rfl rfl dX10_step_39 (fun H locs hP₀ hD₀ hS₀ => ?_)
          replace hP : va_P D classes [((Ta 0), .inr (10, [.ref (Ta 1), .int (Tv 0), .int x_627, .int (Tv 2), .int (Tv 3), .int (Tv 4)])), ((Ta 1), .inl (tc 0, 400, .inl (Tf 1)))] H := hP₀
          replace hD : va_D A [((Ta 0), .inr (10, [.ref (Ta 1), .int (Tv 0), .int x_627, .int (Tv 2), .int (Tv 3), .int (Tv 4)])), ((Ta 1), .inl (tc 0, 400, .inl (Tf 1)))] := hD₀
          replace hS := hS₀
          clear hP₀ hD₀ hS₀
          refine lv_goto (tgt := 8) hx hb dX10_step_42 (by decide) ?_
          have hb_628 : 401 - (x_627 : Int32).toInt < 401 - (vy_2 : Int32).toInt ∧ 1 ≤ 401 - (vy_2 : Int32).toInt := by
            have z_1 := Int32.lt_iff_toInt_lt.mp (Int32.not_le.mp c_9)
            have z_2 := congrArg Int32.toInt c_322
            have y_32 : (32 : Int32).toInt = 32 := by decide
            have y_1 : (1 : Int32).toInt = 1 := by decide
            have t_x_627 : x_627.toInt = (vy_2 : Int32).toInt + (1 : Int32).toInt := by rw [ex_627]; exact add_toInt (by omega) (by omega)
            omega
          have ha_629 : 0 ≤ (x_627 : Int32).toInt ∧ (x_627 : Int32).toInt ≤ 400 := by
            have z_1 := Int32.lt_iff_toInt_lt.mp (Int32.not_le.mp c_9)
            have z_2 := congrArg Int32.toInt c_322
            have y_32 : (32 : Int32).toInt = 32 := by decide
            have y_1 : (1 : Int32).toInt = 1 := by decide
            have t_x_627 : x_627.toInt = (vy_2 : Int32).toInt + (1 : Int32).toInt := by rw [ex_627]; exact add_toInt (by omega) (by omega)
            omega
          have hr_630 : 0 ≤ (vy_2 : Int32).toInt := by
            have z_1 := Int32.lt_iff_toInt_lt.mp (Int32.not_le.mp c_9)
            have z_2 := congrArg Int32.toInt c_322
            have y_32 : (32 : Int32).toInt = 32 := by decide
            omega
          have hr_631 : (r_319 : Int32).toInt = 32 := by
            have z_1 := Int32.lt_iff_toInt_lt.mp (Int32.not_le.mp c_9)
            have z_2 := congrArg Int32.toInt c_322
            have y_32 : (32 : Int32).toInt = 32 := by decide
            omega
          have hi_632 : (x_627 : Int32).toInt = (vy_2 : Int32).toInt + 1 := by
            have z_1 := Int32.lt_iff_toInt_lt.mp (Int32.not_le.mp c_9)
            have z_2 := congrArg Int32.toInt c_322
            have y_32 : (32 : Int32).toInt = 32 := by decide
            have y_1 : (1 : Int32).toInt = 1 := by decide
            have t_x_627 : x_627.toInt = (vy_2 : Int32).toInt + (1 : Int32).toInt := by rw [ex_627]; exact add_toInt (by omega) (by omega)
            omega
          exact ih_4 x_627 _ _ _ (by omega) ha_629 (Rn.st pf_7 hr_630 he_320.1 (decide_eq_true hr_631) hi_632) (hP.sub [0, 1] rfl) (hD.sub [0, 1] rfl rfl) hS (lv_sub hl [0] rfl)
  have ha_633 : 0 ≤ ((Tv 2) : Int32).toInt ∧ ((Tv 2) : Int32).toInt ≤ 400 := by
    omega
  exact loop_5 _ (Tv 2) _ _ _ (Nat.lt_succ_self _) ha_633 (Rn.rf) hP hD hS hl
