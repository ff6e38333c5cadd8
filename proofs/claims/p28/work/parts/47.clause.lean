theorem dX12_clauseHere_0 : decode cX12_clauseHere 0 = .ok (.aload_n 0, 1) := by decide +kernel
theorem dX12_clauseHere_1 : decode cX12_clauseHere 1 = .ok (.invokevirtual 90, 3) := by decide +kernel
theorem dX12_clauseHere_4 : decode cX12_clauseHere 4 = .ok (.pop, 1) := by decide +kernel
theorem dX12_clauseHere_5 : decode cX12_clauseHere 5 = .ok (.aload_n 0, 1) := by decide +kernel
theorem dX12_clauseHere_6 : decode cX12_clauseHere 6 = .ok (.getfield 87, 3) := by decide +kernel
theorem dX12_clauseHere_9 : decode cX12_clauseHere 9 = .ok (.istore_n 1, 1) := by decide +kernel
theorem dX12_clauseHere_10 : decode cX12_clauseHere 10 = .ok (.aload_n 0, 1) := by decide +kernel
theorem dX12_clauseHere_11 : decode cX12_clauseHere 11 = .ok (.getfield 145, 3) := by decide +kernel
theorem dX12_clauseHere_14 : decode cX12_clauseHere 14 = .ok (.bipush 6, 2) := by decide +kernel
theorem dX12_clauseHere_16 : decode cX12_clauseHere 16 = .ok (.if_icmp .ne 7, 3) := by decide +kernel
theorem dX12_clauseHere_23 : decode cX12_clauseHere 23 = .ok (.iconst 0, 1) := by decide +kernel
theorem dX12_clauseHere_24 : decode cX12_clauseHere 24 = .ok (.istore_n 2, 1) := by decide +kernel
theorem dX12_clauseHere_25 : decode cX12_clauseHere 25 = .ok (.iload_n 2, 1) := by decide +kernel
theorem dX12_clauseHere_26 : decode cX12_clauseHere 26 = .ok (.ifCond .eq 13, 3) := by decide +kernel
theorem dX12_clauseHere_39 : decode cX12_clauseHere 39 = .ok (.aload_n 0, 1) := by decide +kernel
theorem dX12_clauseHere_40 : decode cX12_clauseHere 40 = .ok (.ldc2_w 242, 3) := by decide +kernel
theorem dX12_clauseHere_43 : decode cX12_clauseHere 43 = .ok (.invokevirtual 98, 3) := by decide +kernel
theorem dX12_clauseHere_46 : decode cX12_clauseHere 46 = .ok (.ifCond .ne 10, 3) := by decide +kernel
theorem dX12_clauseHere_49 : decode cX12_clauseHere 49 = .ok (.aload_n 0, 1) := by decide +kernel
theorem dX12_clauseHere_50 : decode cX12_clauseHere 50 = .ok (.iconst 0, 1) := by decide +kernel
theorem dX12_clauseHere_51 : decode cX12_clauseHere 51 = .ok (.iload_n 1, 1) := by decide +kernel
theorem dX12_clauseHere_52 : decode cX12_clauseHere 52 = .ok (.invokevirtual 108, 3) := by decide +kernel
theorem dX12_clauseHere_55 : decode cX12_clauseHere 55 = .ok (.ireturn, 1) := by decide +kernel
theorem dX12_clauseHere_56 : decode cX12_clauseHere 56 = .ok (.aload_n 0, 1) := by decide +kernel
theorem dX12_clauseHere_57 : decode cX12_clauseHere 57 = .ok (.getfield 244, 3) := by decide +kernel
theorem dX12_clauseHere_60 : decode cX12_clauseHere 60 = .ok (.iload_n 2, 1) := by decide +kernel
theorem dX12_clauseHere_61 : decode cX12_clauseHere 61 = .ok (.ifCond .eq 8, 3) := by decide +kernel
theorem dX12_clauseHere_69 : decode cX12_clauseHere 69 = .ok (.bipush 12, 2) := by decide +kernel
theorem dX12_clauseHere_71 : decode cX12_clauseHere 71 = .ok (.if_icmp .ne 10, 3) := by decide +kernel
theorem dX12_clauseHere_74 : decode cX12_clauseHere 74 = .ok (.aload_n 0, 1) := by decide +kernel
theorem dX12_clauseHere_75 : decode cX12_clauseHere 75 = .ok (.iconst 4, 1) := by decide +kernel
theorem dX12_clauseHere_76 : decode cX12_clauseHere 76 = .ok (.iload_n 1, 1) := by decide +kernel
theorem dX12_clauseHere_77 : decode cX12_clauseHere 77 = .ok (.invokevirtual 108, 3) := by decide +kernel
theorem dX12_clauseHere_80 : decode cX12_clauseHere 80 = .ok (.ireturn, 1) := by decide +kernel
theorem dX12_clauseHere_81 : decode cX12_clauseHere 81 = .ok (.aload_n 0, 1) := by decide +kernel
theorem dX12_clauseHere_82 : decode cX12_clauseHere 82 = .ok (.dup, 1) := by decide +kernel
theorem dX12_clauseHere_83 : decode cX12_clauseHere 83 = .ok (.getfield 244, 3) := by decide +kernel
theorem dX12_clauseHere_86 : decode cX12_clauseHere 86 = .ok (.iconst 1, 1) := by decide +kernel
theorem dX12_clauseHere_87 : decode cX12_clauseHere 87 = .ok (.iadd, 1) := by decide +kernel
theorem dX12_clauseHere_88 : decode cX12_clauseHere 88 = .ok (.putfield 244, 3) := by decide +kernel
theorem dX12_clauseHere_91 : decode cX12_clauseHere 91 = .ok (.iload_n 2, 1) := by decide +kernel
theorem dX12_clauseHere_92 : decode cX12_clauseHere 92 = .ok (.ifCond .eq 11, 3) := by decide +kernel
theorem dX12_clauseHere_103 : decode cX12_clauseHere 103 = .ok (.aload_n 0, 1) := by decide +kernel
theorem dX12_clauseHere_104 : decode cX12_clauseHere 104 = .ok (.invokevirtual 250, 3) := by decide +kernel
theorem dX12_clauseHere_107 : decode cX12_clauseHere 107 = .ok (.ireturn, 1) := by decide +kernel
theorem dX12_isBuyHere_0 : decode cX12_isBuyHere 0 = .ok (.aload_n 0, 1) := by decide +kernel
theorem dX12_isBuyHere_1 : decode cX12_isBuyHere 1 = .ok (.invokevirtual 102, 3) := by decide +kernel
theorem dX12_isBuyHere_4 : decode cX12_isBuyHere 4 = .ok (.bipush 48, 2) := by decide +kernel
theorem dX12_isBuyHere_6 : decode cX12_isBuyHere 6 = .ok (.aload_n 0, 1) := by decide +kernel
theorem dX12_isBuyHere_7 : decode cX12_isBuyHere 7 = .ok (.getfield 145, 3) := by decide +kernel
theorem dX12_isBuyHere_10 : decode cX12_isBuyHere 10 = .ok (.imul, 1) := by decide +kernel
theorem dX12_isBuyHere_11 : decode cX12_isBuyHere 11 = .ok (.iconst 4, 1) := by decide +kernel
theorem dX12_isBuyHere_12 : decode cX12_isBuyHere 12 = .ok (.aload_n 0, 1) := by decide +kernel
theorem dX12_isBuyHere_13 : decode cX12_isBuyHere 13 = .ok (.getfield 23, 3) := by decide +kernel
theorem dX12_isBuyHere_16 : decode cX12_isBuyHere 16 = .ok (.aload_n 0, 1) := by decide +kernel
theorem dX12_isBuyHere_17 : decode cX12_isBuyHere 17 = .ok (.getfield 145, 3) := by decide +kernel
theorem dX12_isBuyHere_20 : decode cX12_isBuyHere 20 = .ok (.iaload, 1) := by decide +kernel
theorem dX12_isBuyHere_21 : decode cX12_isBuyHere 21 = .ok (.imul, 1) := by decide +kernel
theorem dX12_isBuyHere_22 : decode cX12_isBuyHere 22 = .ok (.iadd, 1) := by decide +kernel
theorem dX12_isBuyHere_23 : decode cX12_isBuyHere 23 = .ok (.istore_n 1, 1) := by decide +kernel
theorem dX12_isBuyHere_24 : decode cX12_isBuyHere 24 = .ok (.aload_n 0, 1) := by decide +kernel
theorem dX12_isBuyHere_25 : decode cX12_isBuyHere 25 = .ok (.getfield 20, 3) := by decide +kernel
theorem dX12_isBuyHere_28 : decode cX12_isBuyHere 28 = .ok (.iload_n 1, 1) := by decide +kernel
theorem dX12_isBuyHere_29 : decode cX12_isBuyHere 29 = .ok (.aload_n 0, 1) := by decide +kernel
theorem dX12_isBuyHere_30 : decode cX12_isBuyHere 30 = .ok (.getfield 17, 3) := by decide +kernel
theorem dX12_isBuyHere_33 : decode cX12_isBuyHere 33 = .ok (.aload_n 0, 1) := by decide +kernel
theorem dX12_isBuyHere_34 : decode cX12_isBuyHere 34 = .ok (.getfield 145, 3) := by decide +kernel
theorem dX12_isBuyHere_37 : decode cX12_isBuyHere 37 = .ok (.iaload, 1) := by decide +kernel
theorem dX12_isBuyHere_38 : decode cX12_isBuyHere 38 = .ok (.iastore, 1) := by decide +kernel
theorem dX12_isBuyHere_39 : decode cX12_isBuyHere 39 = .ok (.aload_n 0, 1) := by decide +kernel
theorem dX12_isBuyHere_40 : decode cX12_isBuyHere 40 = .ok (.invokevirtual 182, 3) := by decide +kernel
theorem dX12_isBuyHere_43 : decode cX12_isBuyHere 43 = .ok (.ifCond .ne 5, 3) := by decide +kernel
theorem dX12_isBuyHere_46 : decode cX12_isBuyHere 46 = .ok (.iconst 0, 1) := by decide +kernel
theorem dX12_isBuyHere_47 : decode cX12_isBuyHere 47 = .ok (.ireturn, 1) := by decide +kernel
theorem dX12_isBuyHere_48 : decode cX12_isBuyHere 48 = .ok (.aload_n 0, 1) := by decide +kernel
theorem dX12_isBuyHere_49 : decode cX12_isBuyHere 49 = .ok (.getfield 20, 3) := by decide +kernel
theorem dX12_isBuyHere_52 : decode cX12_isBuyHere 52 = .ok (.iload_n 1, 1) := by decide +kernel
theorem dX12_isBuyHere_53 : decode cX12_isBuyHere 53 = .ok (.iconst 1, 1) := by decide +kernel
theorem dX12_isBuyHere_54 : decode cX12_isBuyHere 54 = .ok (.iadd, 1) := by decide +kernel
theorem dX12_isBuyHere_55 : decode cX12_isBuyHere 55 = .ok (.aload_n 0, 1) := by decide +kernel
theorem dX12_isBuyHere_56 : decode cX12_isBuyHere 56 = .ok (.getfield 17, 3) := by decide +kernel
theorem dX12_isBuyHere_59 : decode cX12_isBuyHere 59 = .ok (.aload_n 0, 1) := by decide +kernel
theorem dX12_isBuyHere_60 : decode cX12_isBuyHere 60 = .ok (.getfield 145, 3) := by decide +kernel
theorem dX12_isBuyHere_63 : decode cX12_isBuyHere 63 = .ok (.iaload, 1) := by decide +kernel
theorem dX12_isBuyHere_64 : decode cX12_isBuyHere 64 = .ok (.iastore, 1) := by decide +kernel
theorem dX12_isBuyHere_65 : decode cX12_isBuyHere 65 = .ok (.aload_n 0, 1) := by decide +kernel
theorem dX12_isBuyHere_66 : decode cX12_isBuyHere 66 = .ok (.getfield 20, 3) := by decide +kernel
theorem dX12_isBuyHere_69 : decode cX12_isBuyHere 69 = .ok (.iload_n 1, 1) := by decide +kernel
theorem dX12_isBuyHere_70 : decode cX12_isBuyHere 70 = .ok (.iconst 2, 1) := by decide +kernel
theorem dX12_isBuyHere_71 : decode cX12_isBuyHere 71 = .ok (.iadd, 1) := by decide +kernel
theorem dX12_isBuyHere_72 : decode cX12_isBuyHere 72 = .ok (.iconst (-1), 1) := by decide +kernel
theorem dX12_isBuyHere_73 : decode cX12_isBuyHere 73 = .ok (.iastore, 1) := by decide +kernel
theorem dX12_isBuyHere_74 : decode cX12_isBuyHere 74 = .ok (.aload_n 0, 1) := by decide +kernel
theorem dX12_isBuyHere_75 : decode cX12_isBuyHere 75 = .ok (.ldc2_w 209, 3) := by decide +kernel
theorem dX12_isBuyHere_78 : decode cX12_isBuyHere 78 = .ok (.invokevirtual 211, 3) := by decide +kernel
theorem dX12_isBuyHere_81 : decode cX12_isBuyHere 81 = .ok (.ifCond .eq 29, 3) := by decide +kernel
theorem dX12_isBuyHere_84 : decode cX12_isBuyHere 84 = .ok (.aload_n 0, 1) := by decide +kernel
theorem dX12_isBuyHere_85 : decode cX12_isBuyHere 85 = .ok (.getfield 20, 3) := by decide +kernel
theorem dX12_isBuyHere_88 : decode cX12_isBuyHere 88 = .ok (.iload_n 1, 1) := by decide +kernel
theorem dX12_isBuyHere_89 : decode cX12_isBuyHere 89 = .ok (.iconst 2, 1) := by decide +kernel
theorem dX12_isBuyHere_90 : decode cX12_isBuyHere 90 = .ok (.iadd, 1) := by decide +kernel
theorem dX12_isBuyHere_91 : decode cX12_isBuyHere 91 = .ok (.aload_n 0, 1) := by decide +kernel
theorem dX12_isBuyHere_92 : decode cX12_isBuyHere 92 = .ok (.getfield 17, 3) := by decide +kernel
theorem dX12_isBuyHere_95 : decode cX12_isBuyHere 95 = .ok (.aload_n 0, 1) := by decide +kernel
theorem dX12_isBuyHere_96 : decode cX12_isBuyHere 96 = .ok (.getfield 145, 3) := by decide +kernel
theorem dX12_isBuyHere_99 : decode cX12_isBuyHere 99 = .ok (.iaload, 1) := by decide +kernel
theorem dX12_isBuyHere_100 : decode cX12_isBuyHere 100 = .ok (.iastore, 1) := by decide +kernel
theorem dX12_isBuyHere_101 : decode cX12_isBuyHere 101 = .ok (.aload_n 0, 1) := by decide +kernel
theorem dX12_isBuyHere_102 : decode cX12_isBuyHere 102 = .ok (.invokevirtual 214, 3) := by decide +kernel
theorem dX12_isBuyHere_105 : decode cX12_isBuyHere 105 = .ok (.ifCond .ne 5, 3) := by decide +kernel
theorem dX12_isBuyHere_108 : decode cX12_isBuyHere 108 = .ok (.iconst 0, 1) := by decide +kernel
theorem dX12_isBuyHere_109 : decode cX12_isBuyHere 109 = .ok (.ireturn, 1) := by decide +kernel
theorem dX12_isBuyHere_110 : decode cX12_isBuyHere 110 = .ok (.aload_n 0, 1) := by decide +kernel
theorem dX12_isBuyHere_111 : decode cX12_isBuyHere 111 = .ok (.getfield 20, 3) := by decide +kernel
theorem dX12_isBuyHere_114 : decode cX12_isBuyHere 114 = .ok (.iload_n 1, 1) := by decide +kernel
theorem dX12_isBuyHere_115 : decode cX12_isBuyHere 115 = .ok (.iconst 3, 1) := by decide +kernel
theorem dX12_isBuyHere_116 : decode cX12_isBuyHere 116 = .ok (.iadd, 1) := by decide +kernel
theorem dX12_isBuyHere_117 : decode cX12_isBuyHere 117 = .ok (.aload_n 0, 1) := by decide +kernel
theorem dX12_isBuyHere_118 : decode cX12_isBuyHere 118 = .ok (.getfield 17, 3) := by decide +kernel
theorem dX12_isBuyHere_121 : decode cX12_isBuyHere 121 = .ok (.aload_n 0, 1) := by decide +kernel
theorem dX12_isBuyHere_122 : decode cX12_isBuyHere 122 = .ok (.getfield 145, 3) := by decide +kernel
theorem dX12_isBuyHere_125 : decode cX12_isBuyHere 125 = .ok (.iaload, 1) := by decide +kernel
theorem dX12_isBuyHere_126 : decode cX12_isBuyHere 126 = .ok (.iastore, 1) := by decide +kernel
theorem dX12_isBuyHere_127 : decode cX12_isBuyHere 127 = .ok (.aload_n 0, 1) := by decide +kernel
theorem dX12_isBuyHere_128 : decode cX12_isBuyHere 128 = .ok (.getfield 23, 3) := by decide +kernel
theorem dX12_isBuyHere_131 : decode cX12_isBuyHere 131 = .ok (.aload_n 0, 1) := by decide +kernel
theorem dX12_isBuyHere_132 : decode cX12_isBuyHere 132 = .ok (.getfield 145, 3) := by decide +kernel
theorem dX12_isBuyHere_135 : decode cX12_isBuyHere 135 = .ok (.dup2, 1) := by decide +kernel
theorem dX12_isBuyHere_136 : decode cX12_isBuyHere 136 = .ok (.iaload, 1) := by decide +kernel
theorem dX12_isBuyHere_137 : decode cX12_isBuyHere 137 = .ok (.iconst 1, 1) := by decide +kernel
theorem dX12_isBuyHere_138 : decode cX12_isBuyHere 138 = .ok (.iadd, 1) := by decide +kernel
theorem dX12_isBuyHere_139 : decode cX12_isBuyHere 139 = .ok (.iastore, 1) := by decide +kernel
theorem dX12_isBuyHere_140 : decode cX12_isBuyHere 140 = .ok (.iconst 1, 1) := by decide +kernel
theorem dX12_isBuyHere_141 : decode cX12_isBuyHere 141 = .ok (.ireturn, 1) := by decide +kernel
theorem dX12_readsAll_0 : decode cX12_readsAll 0 = .ok (.aload_n 0, 1) := by decide +kernel
theorem dX12_readsAll_1 : decode cX12_readsAll 1 = .ok (.getfield 17, 3) := by decide +kernel
theorem dX12_readsAll_4 : decode cX12_readsAll 4 = .ok (.aload_n 0, 1) := by decide +kernel
theorem dX12_readsAll_5 : decode cX12_readsAll 5 = .ok (.getfield 145, 3) := by decide +kernel
theorem dX12_readsAll_8 : decode cX12_readsAll 8 = .ok (.iconst 0, 1) := by decide +kernel
theorem dX12_readsAll_9 : decode cX12_readsAll 9 = .ok (.iastore, 1) := by decide +kernel
theorem dX12_readsAll_10 : decode cX12_readsAll 10 = .ok (.aload_n 0, 1) := by decide +kernel
theorem dX12_readsAll_11 : decode cX12_readsAll 11 = .ok (.iconst 0, 1) := by decide +kernel
theorem dX12_readsAll_12 : decode cX12_readsAll 12 = .ok (.putfield 244, 3) := by decide +kernel
theorem dX12_readsAll_15 : decode cX12_readsAll 15 = .ok (.aload_n 0, 1) := by decide +kernel
theorem dX12_readsAll_16 : decode cX12_readsAll 16 = .ok (.iconst 0, 1) := by decide +kernel
theorem dX12_readsAll_17 : decode cX12_readsAll 17 = .ok (.putfield 87, 3) := by decide +kernel
theorem dX12_readsAll_20 : decode cX12_readsAll 20 = .ok (.aload_n 0, 1) := by decide +kernel
theorem dX12_readsAll_21 : decode cX12_readsAll 21 = .ok (.iconst 0, 1) := by decide +kernel
theorem dX12_readsAll_22 : decode cX12_readsAll 22 = .ok (.putfield 84, 3) := by decide +kernel
theorem dX12_readsAll_25 : decode cX12_readsAll 25 = .ok (.aload_n 0, 1) := by decide +kernel
theorem dX12_readsAll_26 : decode cX12_readsAll 26 = .ok (.iconst 0, 1) := by decide +kernel
theorem dX12_readsAll_27 : decode cX12_readsAll 27 = .ok (.putfield 148, 3) := by decide +kernel
theorem dX12_readsAll_30 : decode cX12_readsAll 30 = .ok (.aload_n 0, 1) := by decide +kernel
theorem dX12_readsAll_31 : decode cX12_readsAll 31 = .ok (.invokevirtual 253, 3) := by decide +kernel
theorem dX12_readsAll_34 : decode cX12_readsAll 34 = .ok (.istore_n 1, 1) := by decide +kernel
theorem dX12_readsAll_35 : decode cX12_readsAll 35 = .ok (.iload_n 1, 1) := by decide +kernel
theorem dX12_readsAll_36 : decode cX12_readsAll 36 = .ok (.ifCond .eq 30, 3) := by decide +kernel
theorem dX12_readsAll_39 : decode cX12_readsAll 39 = .ok (.aload_n 0, 1) := by decide +kernel
theorem dX12_readsAll_40 : decode cX12_readsAll 40 = .ok (.invokevirtual 90, 3) := by decide +kernel
theorem dX12_readsAll_43 : decode cX12_readsAll 43 = .ok (.bipush 59, 2) := by decide +kernel
theorem dX12_readsAll_45 : decode cX12_readsAll 45 = .ok (.if_icmp .ne 21, 3) := by decide +kernel
theorem dX12_readsAll_48 : decode cX12_readsAll 48 = .ok (.aload_n 0, 1) := by decide +kernel
theorem dX12_readsAll_49 : decode cX12_readsAll 49 = .ok (.dup, 1) := by decide +kernel
theorem dX12_readsAll_50 : decode cX12_readsAll 50 = .ok (.getfield 87, 3) := by decide +kernel
theorem dX12_readsAll_53 : decode cX12_readsAll 53 = .ok (.iconst 1, 1) := by decide +kernel
theorem dX12_readsAll_54 : decode cX12_readsAll 54 = .ok (.iadd, 1) := by decide +kernel
theorem dX12_readsAll_55 : decode cX12_readsAll 55 = .ok (.putfield 87, 3) := by decide +kernel
theorem dX12_readsAll_58 : decode cX12_readsAll 58 = .ok (.aload_n 0, 1) := by decide +kernel
theorem dX12_readsAll_59 : decode cX12_readsAll 59 = .ok (.invokevirtual 253, 3) := by decide +kernel
theorem dX12_readsAll_62 : decode cX12_readsAll 62 = .ok (.istore_n 1, 1) := by decide +kernel
theorem dX12_readsAll_63 : decode cX12_readsAll 63 = .ok (.goto (-28), 3) := by decide +kernel
theorem dX12_readsAll_66 : decode cX12_readsAll 66 = .ok (.iload_n 1, 1) := by decide +kernel
theorem dX12_readsAll_67 : decode cX12_readsAll 67 = .ok (.ifCond .eq 21, 3) := by decide +kernel
theorem dX12_readsAll_70 : decode cX12_readsAll 70 = .ok (.aload_n 0, 1) := by decide +kernel
theorem dX12_readsAll_71 : decode cX12_readsAll 71 = .ok (.invokevirtual 90, 3) := by decide +kernel
theorem dX12_readsAll_74 : decode cX12_readsAll 74 = .ok (.iconst (-1), 1) := by decide +kernel
theorem dX12_readsAll_75 : decode cX12_readsAll 75 = .ok (.if_icmp .eq 13, 3) := by decide +kernel
theorem dX12_readsAll_78 : decode cX12_readsAll 78 = .ok (.aload_n 0, 1) := by decide +kernel
theorem dX12_readsAll_79 : decode cX12_readsAll 79 = .ok (.iconst 0, 1) := by decide +kernel
theorem dX12_readsAll_80 : decode cX12_readsAll 80 = .ok (.aload_n 0, 1) := by decide +kernel
theorem dX12_readsAll_81 : decode cX12_readsAll 81 = .ok (.getfield 87, 3) := by decide +kernel
theorem dX12_readsAll_84 : decode cX12_readsAll 84 = .ok (.invokevirtual 108, 3) := by decide +kernel
theorem dX12_readsAll_87 : decode cX12_readsAll 87 = .ok (.pop, 1) := by decide +kernel
theorem dX12_readsAll_88 : decode cX12_readsAll 88 = .ok (.aload_n 0, 1) := by decide +kernel
theorem dX12_readsAll_89 : decode cX12_readsAll 89 = .ok (.iconst 0, 1) := by decide +kernel
theorem dX12_readsAll_90 : decode cX12_readsAll 90 = .ok (.putfield 77, 3) := by decide +kernel
theorem dX12_readsAll_93 : decode cX12_readsAll 93 = .ok (.aload_n 0, 1) := by decide +kernel
theorem dX12_readsAll_94 : decode cX12_readsAll 94 = .ok (.getfield 84, 3) := by decide +kernel
theorem dX12_readsAll_97 : decode cX12_readsAll 97 = .ok (.ifCond .ne 7, 3) := by decide +kernel
theorem dX12_readsAll_100 : decode cX12_readsAll 100 = .ok (.iconst 1, 1) := by decide +kernel
theorem dX12_readsAll_101 : decode cX12_readsAll 101 = .ok (.goto 4, 3) := by decide +kernel
theorem dX12_readsAll_104 : decode cX12_readsAll 104 = .ok (.iconst 0, 1) := by decide +kernel
theorem dX12_readsAll_105 : decode cX12_readsAll 105 = .ok (.ireturn, 1) := by decide +kernel
theorem dX12_rule_0 : decode cX12_rule 0 = .ok (.aload_n 0, 1) := by decide +kernel
theorem dX12_rule_1 : decode cX12_rule 1 = .ok (.getfield 256, 3) := by decide +kernel
theorem dX12_rule_4 : decode cX12_rule 4 = .ok (.bipush 6, 2) := by decide +kernel
theorem dX12_rule_6 : decode cX12_rule 6 = .ok (.if_icmp .ne 5, 3) := by decide +kernel
theorem dX12_rule_9 : decode cX12_rule 9 = .ok (.iconst (-1), 1) := by decide +kernel
theorem dX12_rule_10 : decode cX12_rule 10 = .ok (.ireturn, 1) := by decide +kernel
theorem dX12_rule_11 : decode cX12_rule 11 = .ok (.aload_n 0, 1) := by decide +kernel
theorem dX12_rule_12 : decode cX12_rule 12 = .ok (.aload_n 0, 1) := by decide +kernel
theorem dX12_rule_13 : decode cX12_rule 13 = .ok (.getfield 256, 3) := by decide +kernel
theorem dX12_rule_16 : decode cX12_rule 16 = .ok (.putfield 145, 3) := by decide +kernel
theorem dX12_rule_19 : decode cX12_rule 19 = .ok (.aload_n 0, 1) := by decide +kernel
theorem dX12_rule_20 : decode cX12_rule 20 = .ok (.getfield 23, 3) := by decide +kernel
theorem dX12_rule_23 : decode cX12_rule 23 = .ok (.aload_n 0, 1) := by decide +kernel
theorem dX12_rule_24 : decode cX12_rule 24 = .ok (.getfield 145, 3) := by decide +kernel
theorem dX12_rule_27 : decode cX12_rule 27 = .ok (.iconst 0, 1) := by decide +kernel
theorem dX12_rule_28 : decode cX12_rule 28 = .ok (.iastore, 1) := by decide +kernel
theorem dX12_rule_29 : decode cX12_rule 29 = .ok (.aload_n 0, 1) := by decide +kernel
theorem dX12_rule_30 : decode cX12_rule 30 = .ok (.invokevirtual 259, 3) := by decide +kernel
theorem dX12_rule_33 : decode cX12_rule 33 = .ok (.ifCond .ne 11, 3) := by decide +kernel
theorem dX12_rule_36 : decode cX12_rule 36 = .ok (.bipush (-2), 2) := by decide +kernel
theorem dX12_rule_38 : decode cX12_rule 38 = .ok (.aload_n 0, 1) := by decide +kernel
theorem dX12_rule_39 : decode cX12_rule 39 = .ok (.getfield 84, 3) := by decide +kernel
theorem dX12_rule_42 : decode cX12_rule 42 = .ok (.isub, 1) := by decide +kernel
theorem dX12_rule_43 : decode cX12_rule 43 = .ok (.ireturn, 1) := by decide +kernel
theorem dX12_rule_44 : decode cX12_rule 44 = .ok (.aload_n 0, 1) := by decide +kernel
theorem dX12_rule_45 : decode cX12_rule 45 = .ok (.dup, 1) := by decide +kernel
theorem dX12_rule_46 : decode cX12_rule 46 = .ok (.getfield 256, 3) := by decide +kernel
theorem dX12_rule_49 : decode cX12_rule 49 = .ok (.iconst 1, 1) := by decide +kernel
theorem dX12_rule_50 : decode cX12_rule 50 = .ok (.iadd, 1) := by decide +kernel
theorem dX12_rule_51 : decode cX12_rule 51 = .ok (.putfield 256, 3) := by decide +kernel
theorem dX12_rule_54 : decode cX12_rule 54 = .ok (.aload_n 0, 1) := by decide +kernel
theorem dX12_rule_55 : decode cX12_rule 55 = .ok (.getfield 256, 3) := by decide +kernel
theorem dX12_rule_58 : decode cX12_rule 58 = .ok (.iconst 1, 1) := by decide +kernel
theorem dX12_rule_59 : decode cX12_rule 59 = .ok (.isub, 1) := by decide +kernel
theorem dX12_rule_60 : decode cX12_rule 60 = .ok (.ireturn, 1) := by decide +kernel
