theorem dX12_clauseHere_0 : decode cX12_clauseHere 0 = .ok (.aload_n 0, 1) := by decide +kernel
theorem dX12_clauseHere_1 : decode cX12_clauseHere 1 = .ok (.invokevirtual 90, 3) := by decide +kernel
theorem dX12_clauseHere_4 : decode cX12_clauseHere 4 = .ok (.pop, 1) := by decide +kernel
theorem dX12_clauseHere_5 : decode cX12_clauseHere 5 = .ok (.aload_n 0, 1) := by decide +kernel
theorem dX12_clauseHere_6 : decode cX12_clauseHere 6 = .ok (.getfield 87, 3) := by decide +kernel
theorem dX12_clauseHere_9 : decode cX12_clauseHere 9 = .ok (.istore_n 1, 1) := by decide +kernel
theorem dX12_clauseHere_10 : decode cX12_clauseHere 10 = .ok (.aload_n 0, 1) := by decide +kernel
theorem dX12_clauseHere_11 : decode cX12_clauseHere 11 = .ok (.getfield 145, 3) := by decide +kernel
theorem dX12_clauseHere_14 : decode cX12_clauseHere 14 = .ok (.bipush 6, 2) := by decide +kernel
theorem dX12_clauseHere_16 : decode cX12_clauseHere 16 = .ok (.if_icmp .ne 7, 3) := by decide +kernel
theorem dX12_clauseHere_23 : decode cX12_clauseHere 23 = .ok (.iconst 0, 1) := by decide +kernel
theorem dX12_clauseHere_24 : decode cX12_clauseHere 24 = .ok (.istore_n 2, 1) := by decide +kernel
theorem dX12_clauseHere_25 : decode cX12_clauseHere 25 = .ok (.iload_n 2, 1) := by decide +kernel
theorem dX12_clauseHere_26 : decode cX12_clauseHere 26 = .ok (.ifCond .eq 13, 3) := by decide +kernel
theorem dX12_clauseHere_39 : decode cX12_clauseHere 39 = .ok (.aload_n 0, 1) := by decide +kernel
theorem dX12_clauseHere_40 : decode cX12_clauseHere 40 = .ok (.ldc2_w 242, 3) := by decide +kernel
theorem dX12_clauseHere_43 : decode cX12_clauseHere 43 = .ok (.invokevirtual 98, 3) := by decide +kernel
theorem dX12_clauseHere_46 : decode cX12_clauseHere 46 = .ok (.ifCond .ne 10, 3) := by decide +kernel
theorem dX12_clauseHere_49 : decode cX12_clauseHere 49 = .ok (.aload_n 0, 1) := by decide +kernel
theorem dX12_clauseHere_50 : decode cX12_clauseHere 50 = .ok (.iconst 0, 1) := by decide +kernel
theorem dX12_clauseHere_51 : decode cX12_clauseHere 51 = .ok (.iload_n 1, 1) := by decide +kernel
theorem dX12_clauseHere_52 : decode cX12_clauseHere 52 = .ok (.invokevirtual 108, 3) := by decide +kernel
theorem dX12_clauseHere_55 : decode cX12_clauseHere 55 = .ok (.ireturn, 1) := by decide +kernel
theorem dX12_clauseHere_56 : decode cX12_clauseHere 56 = .ok (.aload_n 0, 1) := by decide +kernel
theorem dX12_clauseHere_57 : decode cX12_clauseHere 57 = .ok (.getfield 244, 3) := by decide +kernel
theorem dX12_clauseHere_60 : decode cX12_clauseHere 60 = .ok (.iload_n 2, 1) := by decide +kernel
theorem dX12_clauseHere_61 : decode cX12_clauseHere 61 = .ok (.ifCond .eq 8, 3) := by decide +kernel
theorem dX12_clauseHere_69 : decode cX12_clauseHere 69 = .ok (.bipush 12, 2) := by decide +kernel
theorem dX12_clauseHere_71 : decode cX12_clauseHere 71 = .ok (.if_icmp .ne 10, 3) := by decide +kernel
theorem dX12_clauseHere_74 : decode cX12_clauseHere 74 = .ok (.aload_n 0, 1) := by decide +kernel
theorem dX12_clauseHere_75 : decode cX12_clauseHere 75 = .ok (.iconst 4, 1) := by decide +kernel
theorem dX12_clauseHere_76 : decode cX12_clauseHere 76 = .ok (.iload_n 1, 1) := by decide +kernel
theorem dX12_clauseHere_77 : decode cX12_clauseHere 77 = .ok (.invokevirtual 108, 3) := by decide +kernel
theorem dX12_clauseHere_80 : decode cX12_clauseHere 80 = .ok (.ireturn, 1) := by decide +kernel
theorem dX12_clauseHere_81 : decode cX12_clauseHere 81 = .ok (.aload_n 0, 1) := by decide +kernel
theorem dX12_clauseHere_82 : decode cX12_clauseHere 82 = .ok (.dup, 1) := by decide +kernel
theorem dX12_clauseHere_83 : decode cX12_clauseHere 83 = .ok (.getfield 244, 3) := by decide +kernel
theorem dX12_clauseHere_86 : decode cX12_clauseHere 86 = .ok (.iconst 1, 1) := by decide +kernel
theorem dX12_clauseHere_87 : decode cX12_clauseHere 87 = .ok (.iadd, 1) := by decide +kernel
theorem dX12_clauseHere_88 : decode cX12_clauseHere 88 = .ok (.putfield 244, 3) := by decide +kernel
theorem dX12_clauseHere_91 : decode cX12_clauseHere 91 = .ok (.iload_n 2, 1) := by decide +kernel
theorem dX12_clauseHere_92 : decode cX12_clauseHere 92 = .ok (.ifCond .eq 11, 3) := by decide +kernel
theorem dX12_clauseHere_103 : decode cX12_clauseHere 103 = .ok (.aload_n 0, 1) := by decide +kernel
theorem dX12_clauseHere_104 : decode cX12_clauseHere 104 = .ok (.invokevirtual 250, 3) := by decide +kernel
theorem dX12_clauseHere_107 : decode cX12_clauseHere 107 = .ok (.ireturn, 1) := by decide +kernel
theorem dX12_isBuyHere_0 : decode cX12_isBuyHere 0 = .ok (.aload_n 0, 1) := by decide +kernel
theorem dX12_isBuyHere_1 : decode cX12_isBuyHere 1 = .ok (.invokevirtual 102, 3) := by decide +kernel
theorem dX12_isBuyHere_4 : decode cX12_isBuyHere 4 = .ok (.bipush 48, 2) := by decide +kernel
theorem dX12_isBuyHere_6 : decode cX12_isBuyHere 6 = .ok (.aload_n 0, 1) := by decide +kernel
theorem dX12_isBuyHere_7 : decode cX12_isBuyHere 7 = .ok (.getfield 145, 3) := by decide +kernel
theorem dX12_isBuyHere_10 : decode cX12_isBuyHere 10 = .ok (.imul, 1) := by decide +kernel
theorem dX12_isBuyHere_11 : decode cX12_isBuyHere 11 = .ok (.iconst 4, 1) := by decide +kernel
theorem dX12_isBuyHere_12 : decode cX12_isBuyHere 12 = .ok (.aload_n 0, 1) := by decide +kernel
theorem dX12_isBuyHere_13 : decode cX12_isBuyHere 13 = .ok (.getfield 23, 3) := by decide +kernel
theorem dX12_isBuyHere_16 : decode cX12_isBuyHere 16 = .ok (.aload_n 0, 1) := by decide +kernel
theorem dX12_isBuyHere_17 : decode cX12_isBuyHere 17 = .ok (.getfield 145, 3) := by decide +kernel
theorem dX12_isBuyHere_20 : decode cX12_isBuyHere 20 = .ok (.iaload, 1) := by decide +kernel
theorem dX12_isBuyHere_21 : decode cX12_isBuyHere 21 = .ok (.imul, 1) := by decide +kernel
theorem dX12_isBuyHere_22 : decode cX12_isBuyHere 22 = .ok (.iadd, 1) := by decide +kernel
theorem dX12_isBuyHere_23 : decode cX12_isBuyHere 23 = .ok (.istore_n 1, 1) := by decide +kernel
theorem dX12_isBuyHere_24 : decode cX12_isBuyHere 24 = .ok (.aload_n 0, 1) := by decide +kernel
theorem dX12_isBuyHere_25 : decode cX12_isBuyHere 25 = .ok (.getfield 20, 3) := by decide +kernel
theorem dX12_isBuyHere_28 : decode cX12_isBuyHere 28 = .ok (.iload_n 1, 1) := by decide +kernel
theorem dX12_isBuyHere_29 : decode cX12_isBuyHere 29 = .ok (.aload_n 0, 1) := by decide +kernel
theorem dX12_isBuyHere_30 : decode cX12_isBuyHere 30 = .ok (.getfield 17, 3) := by decide +kernel
theorem dX12_isBuyHere_33 : decode cX12_isBuyHere 33 = .ok (.aload_n 0, 1) := by decide +kernel
theorem dX12_isBuyHere_34 : decode cX12_isBuyHere 34 = .ok (.getfield 145, 3) := by decide +kernel
theorem dX12_isBuyHere_37 : decode cX12_isBuyHere 37 = .ok (.iaload, 1) := by decide +kernel
theorem dX12_isBuyHere_38 : decode cX12_isBuyHere 38 = .ok (.iastore, 1) := by decide +kernel
theorem dX12_isBuyHere_39 : decode cX12_isBuyHere 39 = .ok (.aload_n 0, 1) := by decide +kernel
theorem dX12_isBuyHere_40 : decode cX12_isBuyHere 40 = .ok (.invokevirtual 182, 3) := by decide +kernel
theorem dX12_isBuyHere_43 : decode cX12_isBuyHere 43 = .ok (.ifCond .ne 5, 3) := by decide +kernel
theorem dX12_isBuyHere_46 : decode cX12_isBuyHere 46 = .ok (.iconst 0, 1) := by decide +kernel
theorem dX12_isBuyHere_47 : decode cX12_isBuyHere 47 = .ok (.ireturn, 1) := by decide +kernel
theorem dX12_isBuyHere_48 : decode cX12_isBuyHere 48 = .ok (.aload_n 0, 1) := by decide +kernel
theorem dX12_isBuyHere_49 : decode cX12_isBuyHere 49 = .ok (.getfield 20, 3) := by decide +kernel
theorem dX12_isBuyHere_52 : decode cX12_isBuyHere 52 = .ok (.iload_n 1, 1) := by decide +kernel
theorem dX12_isBuyHere_53 : decode cX12_isBuyHere 53 = .ok (.iconst 1, 1) := by decide +kernel
theorem dX12_isBuyHere_54 : decode cX12_isBuyHere 54 = .ok (.iadd, 1) := by decide +kernel
theorem dX12_isBuyHere_55 : decode cX12_isBuyHere 55 = .ok (.aload_n 0, 1) := by decide +kernel
theorem dX12_isBuyHere_56 : decode cX12_isBuyHere 56 = .ok (.getfield 17, 3) := by decide +kernel
theorem dX12_isBuyHere_59 : decode cX12_isBuyHere 59 = .ok (.aload_n 0, 1) := by decide +kernel
theorem dX12_isBuyHere_60 : decode cX12_isBuyHere 60 = .ok (.getfield 145, 3) := by decide +kernel
theorem dX12_isBuyHere_63 : decode cX12_isBuyHere 63 = .ok (.iaload, 1) := by decide +kernel
theorem dX12_isBuyHere_64 : decode cX12_isBuyHere 64 = .ok (.iastore, 1) := by decide +kernel
theorem dX12_isBuyHere_65 : decode cX12_isBuyHere 65 = .ok (.aload_n 0, 1) := by decide +kernel
theorem dX12_isBuyHere_66 : decode cX12_isBuyHere 66 = .ok (.getfield 20, 3) := by decide +kernel
theorem dX12_isBuyHere_69 : decode cX12_isBuyHere 69 = .ok (.iload_n 1, 1) := by decide +kernel
theorem dX12_isBuyHere_70 : decode cX12_isBuyHere 70 = .ok (.iconst 2, 1) := by decide +kernel
theorem dX12_isBuyHere_71 : decode cX12_isBuyHere 71 = .ok (.iadd, 1) := by decide +kernel
theorem dX12_isBuyHere_72 : decode cX12_isBuyHere 72 = .ok (.iconst (-1), 1) := by decide +kernel
theorem dX12_isBuyHere_73 : decode cX12_isBuyHere 73 = .ok (.iastore, 1) := by decide +kernel
theorem dX12_isBuyHere_74 : decode cX12_isBuyHere 74 = .ok (.aload_n 0, 1) := by decide +kernel
theorem dX12_isBuyHere_75 : decode cX12_isBuyHere 75 = .ok (.ldc2_w 209, 3) := by decide +kernel
theorem dX12_isBuyHere_78 : decode cX12_isBuyHere 78 = .ok (.invokevirtual 211, 3) := by decide +kernel
theorem dX12_isBuyHere_81 : decode cX12_isBuyHere 81 = .ok (.ifCond .eq 29, 3) := by decide +kernel
theorem dX12_isBuyHere_84 : decode cX12_isBuyHere 84 = .ok (.aload_n 0, 1) := by decide +kernel
theorem dX12_isBuyHere_85 : decode cX12_isBuyHere 85 = .ok (.getfield 20, 3) := by decide +kernel
theorem dX12_isBuyHere_88 : decode cX12_isBuyHere 88 = .ok (.iload_n 1, 1) := by decide +kernel
theorem dX12_isBuyHere_89 : decode cX12_isBuyHere 89 = .ok (.iconst 2, 1) := by decide +kernel
theorem dX12_isBuyHere_90 : decode cX12_isBuyHere 90 = .ok (.iadd, 1) := by decide +kernel
theorem dX12_isBuyHere_91 : decode cX12_isBuyHere 91 = .ok (.aload_n 0, 1) := by decide +kernel
theorem dX12_isBuyHere_92 : decode cX12_isBuyHere 92 = .ok (.getfield 17, 3) := by decide +kernel
theorem dX12_isBuyHere_95 : decode cX12_isBuyHere 95 = .ok (.aload_n 0, 1) := by decide +kernel
theorem dX12_isBuyHere_96 : decode cX12_isBuyHere 96 = .ok (.getfield 145, 3) := by decide +kernel
theorem dX12_isBuyHere_99 : decode cX12_isBuyHere 99 = .ok (.iaload, 1) := by decide +kernel
theorem dX12_isBuyHere_100 : decode cX12_isBuyHere 100 = .ok (.iastore, 1) := by decide +kernel
theorem dX12_isBuyHere_101 : decode cX12_isBuyHere 101 = .ok (.aload_n 0, 1) := by decide +kernel
theorem dX12_isBuyHere_102 : decode cX12_isBuyHere 102 = .ok (.invokevirtual 214, 3) := by decide +kernel
theorem dX12_isBuyHere_105 : decode cX12_isBuyHere 105 = .ok (.ifCond .ne 5, 3) := by decide +kernel
theorem dX12_isBuyHere_108 : decode cX12_isBuyHere 108 = .ok (.iconst 0, 1) := by decide +kernel
theorem dX12_isBuyHere_109 : decode cX12_isBuyHere 109 = .ok (.ireturn, 1) := by decide +kernel
theorem dX12_isBuyHere_110 : decode cX12_isBuyHere 110 = .ok (.aload_n 0, 1) := by decide +kernel
theorem dX12_isBuyHere_111 : decode cX12_isBuyHere 111 = .ok (.getfield 20, 3) := by decide +kernel
theorem dX12_isBuyHere_114 : decode cX12_isBuyHere 114 = .ok (.iload_n 1, 1) := by decide +kernel
theorem dX12_isBuyHere_115 : decode cX12_isBuyHere 115 = .ok (.iconst 3, 1) := by decide +kernel
theorem dX12_isBuyHere_116 : decode cX12_isBuyHere 116 = .ok (.iadd, 1) := by decide +kernel
theorem dX12_isBuyHere_117 : decode cX12_isBuyHere 117 = .ok (.aload_n 0, 1) := by decide +kernel
theorem dX12_isBuyHere_118 : decode cX12_isBuyHere 118 = .ok (.getfield 17, 3) := by decide +kernel
theorem dX12_isBuyHere_121 : decode cX12_isBuyHere 121 = .ok (.aload_n 0, 1) := by decide +kernel
theorem dX12_isBuyHere_122 : decode cX12_isBuyHere 122 = .ok (.getfield 145, 3) := by decide +kernel
theorem dX12_isBuyHere_125 : decode cX12_isBuyHere 125 = .ok (.iaload, 1) := by decide +kernel
theorem dX12_isBuyHere_126 : decode cX12_isBuyHere 126 = .ok (.iastore, 1) := by decide +kernel
theorem dX12_isBuyHere_127 : decode cX12_isBuyHere 127 = .ok (.aload_n 0, 1) := by decide +kernel
theorem dX12_isBuyHere_128 : decode cX12_isBuyHere 128 = .ok (.getfield 23, 3) := by decide +kernel
theorem dX12_isBuyHere_131 : decode cX12_isBuyHere 131 = .ok (.aload_n 0, 1) := by decide +kernel
theorem dX12_isBuyHere_132 : decode cX12_isBuyHere 132 = .ok (.getfield 145, 3) := by decide +kernel
theorem dX12_isBuyHere_135 : decode cX12_isBuyHere 135 = .ok (.dup2, 1) := by decide +kernel
theorem dX12_isBuyHere_136 : decode cX12_isBuyHere 136 = .ok (.iaload, 1) := by decide +kernel
theorem dX12_isBuyHere_137 : decode cX12_isBuyHere 137 = .ok (.iconst 1, 1) := by decide +kernel
theorem dX12_isBuyHere_138 : decode cX12_isBuyHere 138 = .ok (.iadd, 1) := by decide +kernel
theorem dX12_isBuyHere_139 : decode cX12_isBuyHere 139 = .ok (.iastore, 1) := by decide +kernel
theorem dX12_isBuyHere_140 : decode cX12_isBuyHere 140 = .ok (.iconst 1, 1) := by decide +kernel
theorem dX12_isBuyHere_141 : decode cX12_isBuyHere 141 = .ok (.ireturn, 1) := by decide +kernel
theorem dX12_readsAll_0 : decode cX12_readsAll 0 = .ok (.aload_n 0, 1) := by decide +kernel
theorem dX12_readsAll_1 : decode cX12_readsAll 1 = .ok (.getfield 17, 3) := by decide +kernel
theorem dX12_readsAll_4 : decode cX12_readsAll 4 = .ok (.aload_n 0, 1) := by decide +kernel
theorem dX12_readsAll_5 : decode cX12_readsAll 5 = .ok (.getfield 145, 3) := by decide +kernel
theorem dX12_readsAll_8 : decode cX12_readsAll 8 = .ok (.iconst 0, 1) := by decide +kernel
theorem dX12_readsAll_9 : decode cX12_readsAll 9 = .ok (.iastore, 1) := by decide +kernel
theorem dX12_readsAll_10 : decode cX12_readsAll 10 = .ok (.aload_n 0, 1) := by decide +kernel
theorem dX12_readsAll_11 : decode cX12_readsAll 11 = .ok (.iconst 0, 1) := by decide +kernel
theorem dX12_readsAll_12 : decode cX12_readsAll 12 = .ok (.putfield 244, 3) := by decide +kernel
theorem dX12_readsAll_15 : decode cX12_readsAll 15 = .ok (.aload_n 0, 1) := by decide +kernel
theorem dX12_readsAll_16 : decode cX12_readsAll 16 = .ok (.iconst 0, 1) := by decide +kernel
theorem dX12_readsAll_17 : decode cX12_readsAll 17 = .ok (.putfield 87, 3) := by decide +kernel
theorem dX12_readsAll_20 : decode cX12_readsAll 20 = .ok (.aload_n 0, 1) := by decide +kernel
theorem dX12_readsAll_21 : decode cX12_readsAll 21 = .ok (.iconst 0, 1) := by decide +kernel
theorem dX12_readsAll_22 : decode cX12_readsAll 22 = .ok (.putfield 84, 3) := by decide +kernel
theorem dX12_readsAll_25 : decode cX12_readsAll 25 = .ok (.aload_n 0, 1) := by decide +kernel
theorem dX12_readsAll_26 : decode cX12_readsAll 26 = .ok (.iconst 0, 1) := by decide +kernel
theorem dX12_readsAll_27 : decode cX12_readsAll 27 = .ok (.putfield 148, 3) := by decide +kernel
theorem dX12_readsAll_30 : decode cX12_readsAll 30 = .ok (.aload_n 0, 1) := by decide +kernel
theorem dX12_readsAll_31 : decode cX12_readsAll 31 = .ok (.invokevirtual 253, 3) := by decide +kernel
theorem dX12_readsAll_34 : decode cX12_readsAll 34 = .ok (.istore_n 1, 1) := by decide +kernel
theorem dX12_readsAll_35 : decode cX12_readsAll 35 = .ok (.iload_n 1, 1) := by decide +kernel
theorem dX12_readsAll_36 : decode cX12_readsAll 36 = .ok (.ifCond .eq 30, 3) := by decide +kernel
theorem dX12_readsAll_39 : decode cX12_readsAll 39 = .ok (.aload_n 0, 1) := by decide +kernel
theorem dX12_readsAll_40 : decode cX12_readsAll 40 = .ok (.invokevirtual 90, 3) := by decide +kernel
theorem dX12_readsAll_43 : decode cX12_readsAll 43 = .ok (.bipush 59, 2) := by decide +kernel
theorem dX12_readsAll_45 : decode cX12_readsAll 45 = .ok (.if_icmp .ne 21, 3) := by decide +kernel
theorem dX12_readsAll_48 : decode cX12_readsAll 48 = .ok (.aload_n 0, 1) := by decide +kernel
theorem dX12_readsAll_49 : decode cX12_readsAll 49 = .ok (.dup, 1) := by decide +kernel
theorem dX12_readsAll_50 : decode cX12_readsAll 50 = .ok (.getfield 87, 3) := by decide +kernel
theorem dX12_readsAll_53 : decode cX12_readsAll 53 = .ok (.iconst 1, 1) := by decide +kernel
theorem dX12_readsAll_54 : decode cX12_readsAll 54 = .ok (.iadd, 1) := by decide +kernel
theorem dX12_readsAll_55 : decode cX12_readsAll 55 = .ok (.putfield 87, 3) := by decide +kernel
theorem dX12_readsAll_58 : decode cX12_readsAll 58 = .ok (.aload_n 0, 1) := by decide +kernel
theorem dX12_readsAll_59 : decode cX12_readsAll 59 = .ok (.invokevirtual 253, 3) := by decide +kernel
theorem dX12_readsAll_62 : decode cX12_readsAll 62 = .ok (.istore_n 1, 1) := by decide +kernel
theorem dX12_readsAll_63 : decode cX12_readsAll 63 = .ok (.goto (-28), 3) := by decide +kernel
theorem dX12_readsAll_66 : decode cX12_readsAll 66 = .ok (.iload_n 1, 1) := by decide +kernel
theorem dX12_readsAll_67 : decode cX12_readsAll 67 = .ok (.ifCond .eq 21, 3) := by decide +kernel
theorem dX12_readsAll_70 : decode cX12_readsAll 70 = .ok (.aload_n 0, 1) := by decide +kernel
theorem dX12_readsAll_71 : decode cX12_readsAll 71 = .ok (.invokevirtual 90, 3) := by decide +kernel
theorem dX12_readsAll_74 : decode cX12_readsAll 74 = .ok (.iconst (-1), 1) := by decide +kernel
theorem dX12_readsAll_75 : decode cX12_readsAll 75 = .ok (.if_icmp .eq 13, 3) := by decide +kernel
theorem dX12_readsAll_78 : decode cX12_readsAll 78 = .ok (.aload_n 0, 1) := by decide +kernel
theorem dX12_readsAll_79 : decode cX12_readsAll 79 = .ok (.iconst 0, 1) := by decide +kernel
theorem dX12_readsAll_80 : decode cX12_readsAll 80 = .ok (.aload_n 0, 1) := by decide +kernel
theorem dX12_readsAll_81 : decode cX12_readsAll 81 = .ok (.getfield 87, 3) := by decide +kernel
theorem dX12_readsAll_84 : decode cX12_readsAll 84 = .ok (.invokevirtual 108, 3) := by decide +kernel
theorem dX12_readsAll_87 : decode cX12_readsAll 87 = .ok (.pop, 1) := by decide +kernel
theorem dX12_readsAll_88 : decode cX12_readsAll 88 = .ok (.aload_n 0, 1) := by decide +kernel
theorem dX12_readsAll_89 : decode cX12_readsAll 89 = .ok (.iconst 0, 1) := by decide +kernel
theorem dX12_readsAll_90 : decode cX12_readsAll 90 = .ok (.putfield 77, 3) := by decide +kernel
theorem dX12_readsAll_93 : decode cX12_readsAll 93 = .ok (.aload_n 0, 1) := by decide +kernel
theorem dX12_readsAll_94 : decode cX12_readsAll 94 = .ok (.getfield 84, 3) := by decide +kernel
theorem dX12_readsAll_97 : decode cX12_readsAll 97 = .ok (.ifCond .ne 7, 3) := by decide +kernel
theorem dX12_readsAll_100 : decode cX12_readsAll 100 = .ok (.iconst 1, 1) := by decide +kernel
theorem dX12_readsAll_101 : decode cX12_readsAll 101 = .ok (.goto 4, 3) := by decide +kernel
theorem dX12_readsAll_104 : decode cX12_readsAll 104 = .ok (.iconst 0, 1) := by decide +kernel
theorem dX12_readsAll_105 : decode cX12_readsAll 105 = .ok (.ireturn, 1) := by decide +kernel
theorem dX12_rule_0 : decode cX12_rule 0 = .ok (.aload_n 0, 1) := by decide +kernel
theorem dX12_rule_1 : decode cX12_rule 1 = .ok (.getfield 256, 3) := by decide +kernel
theorem dX12_rule_4 : decode cX12_rule 4 = .ok (.bipush 6, 2) := by decide +kernel
theorem dX12_rule_6 : decode cX12_rule 6 = .ok (.if_icmp .ne 5, 3) := by decide +kernel
theorem dX12_rule_9 : decode cX12_rule 9 = .ok (.iconst (-1), 1) := by decide +kernel
theorem dX12_rule_10 : decode cX12_rule 10 = .ok (.ireturn, 1) := by decide +kernel
theorem dX12_rule_11 : decode cX12_rule 11 = .ok (.aload_n 0, 1) := by decide +kernel
theorem dX12_rule_12 : decode cX12_rule 12 = .ok (.aload_n 0, 1) := by decide +kernel
theorem dX12_rule_13 : decode cX12_rule 13 = .ok (.getfield 256, 3) := by decide +kernel
theorem dX12_rule_16 : decode cX12_rule 16 = .ok (.putfield 145, 3) := by decide +kernel
theorem dX12_rule_19 : decode cX12_rule 19 = .ok (.aload_n 0, 1) := by decide +kernel
theorem dX12_rule_20 : decode cX12_rule 20 = .ok (.getfield 23, 3) := by decide +kernel
theorem dX12_rule_23 : decode cX12_rule 23 = .ok (.aload_n 0, 1) := by decide +kernel
theorem dX12_rule_24 : decode cX12_rule 24 = .ok (.getfield 145, 3) := by decide +kernel
theorem dX12_rule_27 : decode cX12_rule 27 = .ok (.iconst 0, 1) := by decide +kernel
theorem dX12_rule_28 : decode cX12_rule 28 = .ok (.iastore, 1) := by decide +kernel
theorem dX12_rule_29 : decode cX12_rule 29 = .ok (.aload_n 0, 1) := by decide +kernel
theorem dX12_rule_30 : decode cX12_rule 30 = .ok (.invokevirtual 259, 3) := by decide +kernel
theorem dX12_rule_33 : decode cX12_rule 33 = .ok (.ifCond .ne 11, 3) := by decide +kernel
theorem dX12_rule_36 : decode cX12_rule 36 = .ok (.bipush (-2), 2) := by decide +kernel
theorem dX12_rule_38 : decode cX12_rule 38 = .ok (.aload_n 0, 1) := by decide +kernel
theorem dX12_rule_39 : decode cX12_rule 39 = .ok (.getfield 84, 3) := by decide +kernel
theorem dX12_rule_42 : decode cX12_rule 42 = .ok (.isub, 1) := by decide +kernel
theorem dX12_rule_43 : decode cX12_rule 43 = .ok (.ireturn, 1) := by decide +kernel
theorem dX12_rule_44 : decode cX12_rule 44 = .ok (.aload_n 0, 1) := by decide +kernel
theorem dX12_rule_45 : decode cX12_rule 45 = .ok (.dup, 1) := by decide +kernel
theorem dX12_rule_46 : decode cX12_rule 46 = .ok (.getfield 256, 3) := by decide +kernel
theorem dX12_rule_49 : decode cX12_rule 49 = .ok (.iconst 1, 1) := by decide +kernel
theorem dX12_rule_50 : decode cX12_rule 50 = .ok (.iadd, 1) := by decide +kernel
theorem dX12_rule_51 : decode cX12_rule 51 = .ok (.putfield 256, 3) := by decide +kernel
theorem dX12_rule_54 : decode cX12_rule 54 = .ok (.aload_n 0, 1) := by decide +kernel
theorem dX12_rule_55 : decode cX12_rule 55 = .ok (.getfield 256, 3) := by decide +kernel
theorem dX12_rule_58 : decode cX12_rule 58 = .ok (.iconst 1, 1) := by decide +kernel
theorem dX12_rule_59 : decode cX12_rule 59 = .ok (.isub, 1) := by decide +kernel
theorem dX12_rule_60 : decode cX12_rule 60 = .ok (.ireturn, 1) := by decide +kernel
set_option maxHeartbeats 4000000 in
set_option maxRecDepth 100000 in
theorem ct_X12_isBuyHere (l : Launch) (D : va_G) (tc : Nat → ClassId) (sk : (Nat → Nat) × (Nat → Nat)) (Ma : Nat → Nat) (Mv : Nat → Int32) (Mf : Nat → Nat → Int32) (Mj : Nat → Int64) (h_nx : 0 ≤ ((Mv 2) : Int32).toInt ∧ ((Mv 2) : Int32).toInt ≤ ((Mv 0) : Int32).toInt ∧ ((Mv 0) : Int32).toInt ≤ 400) (h_md : 0 ≤ ((Mv 6) : Int32).toInt ∧ ((Mv 6) : Int32).toInt ≤ 60) (h_t : 0 ≤ ((Mv 5) : Int32).toInt ∧ ((Mv 5) : Int32).toInt ≤ 5) (h_L : 0 ≤ ((Mf 3) (Mv 5).toNatClampNeg).toInt ∧ ((Mf 3) (Mv 5).toNatClampNeg).toInt ≤ ((Mv 2) : Int32).toInt) (h_rp : RulP (Mf 2) (Mf 4) (Mf 5) (Mv 5) (((Mf 3) (Mv 5).toNatClampNeg).toInt)) (h_c : ((Mf 5) (Mv 5).toInt.toNat).toInt + 1 = ((Mv 8) : Int32).toInt ∧ ((Mv 8) : Int32).toInt ≤ 12) : Ct l yX12_isBuyHere cX12_isBuyHere 2 (some .boolean) { frames := 9, cells := 0, slots := 0, locals := 198 } D tc sk [.ref (Ma 0)] [((Ma 0), .inr (12, [.ref (Ma 1), .int (Mv 0), .int (Mv 1), .ref (Ma 2), .ref (Ma 3), .ref (Ma 4), .ref (Ma 5), .ref (Ma 6), .int (Mv 2), .int (Mv 3), .int (Mv 4), .int (Mv 5), .int (Mv 6), .int (Mv 7), .int (Mv 8), .ref (Ma 7), .int (Mv 9), .ref (Ma 8), .int (Mv 10), .ref (Ma 9), .ref (Ma 10), .int (Mv 11), .int (Mv 12), .int (Mv 13), .ref (Ma 11), .int (Mv 14), .ref (Ma 12), .ref (Ma 13), .ref (Ma 14), .ref (Ma 15), .ref (Ma 16), .long (Mj 0), .ref (Ma 17), .ref (Ma 18), .ref (Ma 19), .ref (Ma 20)])), ((Ma 1), .inl (tc 2, 400, .inl (Mf 1))), ((Ma 2), .inl (tc 0, 2400, .inl (Mf 2))), ((Ma 3), .inl (tc 0, 7, .inl (Mf 3))), ((Ma 4), .inl (tc 0, 288, .inl (Mf 4))), ((Ma 5), .inl (tc 0, 6, .inl (Mf 5))), ((Ma 7), .inl (tc 0, 400, .inl (Mf 7)))] (fun (v : Option Value) (u : (Int32) × (Int32) × (Int32) × (Int32) × (Int32) × (Int32) × (Nat → Int32) × (Nat → Int32) × (Nat → Int32) × (Nat → Int32) × (Nat → Int32)) => match u with | (oo0x1, oo0x2, oo0x3, oo0x4, oo0x5, oo0x6, oo0x7, oo0x8, oo0x9, oo0x10, oo0x11) => ∃ r : Int32, v = some (.int r) ∧ (((r.toInt = 0 ∧ ¬ (oo0x2 : Int32).toInt = 0) ∨ (r.toInt = 1 ∧ 0 ≤ (oo0x8 (Mv 5).toNatClampNeg).toInt ∧ (oo0x8 (Mv 5).toNatClampNeg).toInt ≤ (oo0x1 : Int32).toInt ∧ (oo0x10 (Mv 5).toInt.toNat).toInt = ((Mf 5) (Mv 5).toInt.toNat).toInt + 1))) ∧ (((Mv 2) : Int32).toInt ≤ (oo0x1 : Int32).toInt ∧ (oo0x1 : Int32).toInt ≤ ((Mv 0) : Int32).toInt) ∧ (((Mv 6) : Int32).toInt ≤ (oo0x4 : Int32).toInt ∧ (oo0x4 : Int32).toInt ≤ 60) ∧ (RulD oo0x7 oo0x9 oo0x10 (Mv 5)) ∧ (r.toInt = 1 → (RulP oo0x7 oo0x9 oo0x10 (Mv 5) ((oo0x8 (Mv 5).toNatClampNeg).toInt)))) (fun (u : (Int32) × (Int32) × (Int32) × (Int32) × (Int32) × (Int32) × (Nat → Int32) × (Nat → Int32) × (Nat → Int32) × (Nat → Int32) × (Nat → Int32)) => match u with | (oo0x1, oo0x2, oo0x3, oo0x4, oo0x5, oo0x6, oo0x7, oo0x8, oo0x9, oo0x10, oo0x11) => [((Ma 0), .inr (12, [.ref (Ma 1), .int (Mv 0), .int (Mv 1), .ref (Ma 2), .ref (Ma 3), .ref (Ma 4), .ref (Ma 5), .ref (Ma 6), .int oo0x1, .int oo0x2, .int oo0x3, .int (Mv 5), .int oo0x4, .int oo0x5, .int (Mv 8), .ref (Ma 7), .int oo0x6, .ref (Ma 8), .int (Mv 10), .ref (Ma 9), .ref (Ma 10), .int (Mv 11), .int (Mv 12), .int (Mv 13), .ref (Ma 11), .int (Mv 14), .ref (Ma 12), .ref (Ma 13), .ref (Ma 14), .ref (Ma 15), .ref (Ma 16), .long (Mj 0), .ref (Ma 17), .ref (Ma 18), .ref (Ma 19), .ref (Ma 20)])), ((Ma 1), .inl (tc 2, 400, .inl (Mf 1))), ((Ma 2), .inl (tc 0, 2400, .inl oo0x7)), ((Ma 3), .inl (tc 0, 7, .inl oo0x8)), ((Ma 4), .inl (tc 0, 288, .inl oo0x9)), ((Ma 5), .inl (tc 0, 6, .inl oo0x10)), ((Ma 7), .inl (tc 0, 400, .inl oo0x11))]) 0 0 := by
  refine Ct.start (by decide) (Nat.le_of_ble_eq_true rfl) (fun p e s m below meth c A ls hx hb hr hlk hin hml hown hts hK hX hP hD hA hl hS => ?_)
  have hl : lv_has ls 2 [(0, .ref (Ma 0))] := hl
  have ar_h_rp := h_rp.2.1
  refine lv_aload_n hx hb dX12_isBuyHere_0 rfl (lv_at hl 0 rfl) ?_
  have ha_1 : 0 ≤ ((Mv 2) : Int32).toInt ∧ ((Mv 2) : Int32).toInt ≤ ((Mv 0) : Int32).toInt ∧ ((Mv 0) : Int32).toInt ≤ 400 := by
    refine ⟨?_, ?_, ?_⟩ <;> omega
  refine cV (a := (Ma 0)) (As := []) (rest := []) (wr := [((Ma 2), .inl (tc 0, 2400, .inl (Mf 2))), ((Ma 3), .inl (tc 0, 7, .inl (Mf 3))), ((Ma 4), .inl (tc 0, 288, .inl (Mf 4))), ((Ma 5), .inl (tc 0, 6, .inl (Mf 5))), ((Ma 7), .inl (tc 0, 400, .inl (Mf 7)))]) ⟨hx, hb, hml, hown, hts⟩ hK hX hA (ct_X12_passWord l D tc sk Ma Mv Mf Mj ha_1) k_1244 k_1241 k_1243 k_34 k_106 pl_X12_passWord ⟨Nat.le_of_ble_eq_true rfl, Nat.le_of_ble_eq_true rfl⟩ rfl rfl (va_recv hK hP (ci := 12) (q0 := 0) rfl rfl) hP hD hS [0, 1] [2, 3, 4, 5, 6] rfl rfl rfl rfl rfl (by decide) rfl hl.1 rfl (Nat.le_of_ble_eq_true rfl) dX12_isBuyHere_1 ⟨Nat.le_of_ble_eq_true rfl, Nat.le_of_ble_eq_true rfl⟩ (fun v_2 u_3 H locs hv_4 hP hD hS => ?_)
  obtain ⟨sv_5, rfl⟩ : ∃ z, z = u_3 := ⟨_, rfl⟩
  obtain ⟨rfl, pf_6, pf_7⟩ := hv_4
  have pf_6 : ((Mv 2) : Int32).toInt ≤ (sv_5 : Int32).toInt ∧ (sv_5 : Int32).toInt ≤ ((Mv 0) : Int32).toInt := pf_6
  have pf_7 : Pw (Mf 1) (Mv 0) (Mv 2) sv_5 := pf_7
  refine W.eq (g2 := F0 m 4 ls []) rfl ?_
  have hP : va_P D classes [((Ma 2), .inl (tc 0, 2400, .inl (Mf 2))), ((Ma 3), .inl (tc 0, 7, .inl (Mf 3))), ((Ma 4), .inl (tc 0, 288, .inl (Mf 4))), ((Ma 5), .inl (tc 0, 6, .inl (Mf 5))), ((Ma 7), .inl (tc 0, 400, .inl (Mf 7))), ((Ma 0), .inr (12, [.ref (Ma 1), .int (Mv 0), .int (Mv 1), .ref (Ma 2), .ref (Ma 3), .ref (Ma 4), .ref (Ma 5), .ref (Ma 6), .int sv_5, .int (Mv 3), .int (Mv 4), .int (Mv 5), .int (Mv 6), .int (Mv 7), .int (Mv 8), .ref (Ma 7), .int (Mv 9), .ref (Ma 8), .int (Mv 10), .ref (Ma 9), .ref (Ma 10), .int (Mv 11), .int (Mv 12), .int (Mv 13), .ref (Ma 11), .int (Mv 14), .ref (Ma 12), .ref (Ma 13), .ref (Ma 14), .ref (Ma 15), .ref (Ma 16), .long (Mj 0), .ref (Ma 17), .ref (Ma 18), .ref (Ma 19), .ref (Ma 20)])), ((Ma 1), .inl (tc 2, 400, .inl (Mf 1)))] H := hP
  have hD : va_D A [((Ma 2), .inl (tc 0, 2400, .inl (Mf 2))), ((Ma 3), .inl (tc 0, 7, .inl (Mf 3))), ((Ma 4), .inl (tc 0, 288, .inl (Mf 4))), ((Ma 5), .inl (tc 0, 6, .inl (Mf 5))), ((Ma 7), .inl (tc 0, 400, .inl (Mf 7))), ((Ma 0), .inr (12, [.ref (Ma 1), .int (Mv 0), .int (Mv 1), .ref (Ma 2), .ref (Ma 3), .ref (Ma 4), .ref (Ma 5), .ref (Ma 6), .int sv_5, .int (Mv 3), .int (Mv 4), .int (Mv 5), .int (Mv 6), .int (Mv 7), .int (Mv 8), .ref (Ma 7), .int (Mv 9), .ref (Ma 8), .int (Mv 10), .ref (Ma 9), .ref (Ma 10), .int (Mv 11), .int (Mv 12), .int (Mv 13), .ref (Ma 11), .int (Mv 14), .ref (Ma 12), .ref (Ma 13), .ref (Ma 14), .ref (Ma 15), .ref (Ma 16), .long (Mj 0), .ref (Ma 17), .ref (Ma 18), .ref (Ma 19), .ref (Ma 20)])), ((Ma 1), .inl (tc 2, 400, .inl (Mf 1)))] := hD
  refine lv_bipush (v := 48) hx hb dX12_isBuyHere_4 (by decide) ?_
  refine lv_aload_n hx hb dX12_isBuyHere_6 rfl (lv_at hl 0 rfl) ?_
  refine gf_X12_145 hx hb hts hown hK hP 5 rfl rfl dX12_isBuyHere_7 ?_
  refine lv_imul hx hb dX12_isBuyHere_10 ?_
  refine lv_topi (fun x_8 ex_8 => ?_)
  refine lv_iconst (v := 4) hx hb dX12_isBuyHere_11 (by decide) ?_
  refine lv_aload_n hx hb dX12_isBuyHere_12 rfl (lv_at hl 0 rfl) ?_
  refine gf_X12_23 hx hb hts hown hK hP 5 rfl rfl dX12_isBuyHere_13 ?_
  refine lv_aload_n hx hb dX12_isBuyHere_16 rfl (lv_at hl 0 rfl) ?_
  refine gf_X12_145 hx hb hts hown hK hP 5 rfl rfl dX12_isBuyHere_17 ?_
  have hi_9 : vp_in (Mv 5) 6 := by
    refine vp_in_iff.mpr ⟨?_, ?_⟩ <;> omega
  refine va_iald hx hb hK hP 3 0 rfl rfl hi_9 dX12_isBuyHere_20 ?_
  refine lv_topi (fun x_10 ex_10 => ?_)
  have kx_10 : x_10.toInt = ((Mf 5) ((Mv 5) : Int32).toInt.toNat).toInt := congrArg Int32.toInt ex_10
  obtain ⟨A0, hA0⟩ : ∃ A0 : Nat, A0 = 48 * (Mv 5).toInt.toNat + 4 * (((Mf 5) (Mv 5).toInt.toNat).toInt).toNat := ⟨_, rfl⟩
  refine lv_imul hx hb dX12_isBuyHere_21 ?_
  refine lv_topi (fun x_11 ex_11 => ?_)
  refine lv_iadd hx hb dX12_isBuyHere_22 ?_
  refine lv_topi (fun x_12 ex_12 => ?_)
  refine lv_istore_n (lv' := [(1, .int x_12), (0, .ref (Ma 0))]) hx hb dX12_isBuyHere_23 rfl hl (by decide) rfl (fun ls hl => ?_)
  refine lv_aload_n hx hb dX12_isBuyHere_24 rfl (lv_at hl 1 rfl) ?_
  refine gf_X12_20 hx hb hts hown hK hP 5 rfl rfl dX12_isBuyHere_25 ?_
  refine lv_iload_n hx hb dX12_isBuyHere_28 rfl (lv_at hl 0 rfl) ?_
  refine lv_aload_n hx hb dX12_isBuyHere_29 rfl (lv_at hl 1 rfl) ?_
  refine gf_X12_17 hx hb hts hown hK hP 5 rfl rfl dX12_isBuyHere_30 ?_
  refine lv_aload_n hx hb dX12_isBuyHere_33 rfl (lv_at hl 1 rfl) ?_
  refine gf_X12_145 hx hb hts hown hK hP 5 rfl rfl dX12_isBuyHere_34 ?_
  have hi_13 : vp_in (Mv 5) 7 := by
    refine vp_in_iff.mpr ⟨?_, ?_⟩ <;> omega
  refine va_iald hx hb hK hP 1 0 rfl rfl hi_13 dX12_isBuyHere_37 ?_
  refine lv_topi (fun x_14 ex_14 => ?_)
  have kx_14 : x_14.toInt = ((Mf 3) ((Mv 5) : Int32).toNatClampNeg).toInt := congrArg Int32.toInt ex_14
  have hi_15 : vp_in x_12 288 := by
    have y_4 : (4 : Int32).toInt = 4 := by decide
    have y_48 : (48 : Int32).toInt = 48 := by decide
    have t_x_8 : x_8.toInt = (48 : Int32).toInt * ((Mv 5) : Int32).toInt := by rw [ex_8]; exact mul_toInt (by first | omega | (rw [y_48]; omega)) (by first | omega | (rw [y_48]; omega))
    rw [y_48] at t_x_8
    have t_x_11 : x_11.toInt = (4 : Int32).toInt * (x_10 : Int32).toInt := by rw [ex_11]; exact mul_toInt (by first | omega | (rw [y_4]; omega)) (by first | omega | (rw [y_4]; omega))
    rw [y_4] at t_x_11
    have t_x_12 : x_12.toInt = (x_8 : Int32).toInt + (x_11 : Int32).toInt := by rw [ex_12]; exact add_toInt (by omega) (by omega)
    refine vp_in_iff.mpr ⟨?_, ?_⟩ <;> omega
  refine st_int hx hb hK hP hD hS 2 0 rfl rfl hi_15 dX12_isBuyHere_38 (fun g_16 H locs eg_16 hP hD hS => ?_)
  have hP : va_P D classes [((Ma 2), .inl (tc 0, 2400, .inl (Mf 2))), ((Ma 3), .inl (tc 0, 7, .inl (Mf 3))), ((Ma 4), .inl (tc 0, 288, .inl g_16)), ((Ma 5), .inl (tc 0, 6, .inl (Mf 5))), ((Ma 7), .inl (tc 0, 400, .inl (Mf 7))), ((Ma 0), .inr (12, [.ref (Ma 1), .int (Mv 0), .int (Mv 1), .ref (Ma 2), .ref (Ma 3), .ref (Ma 4), .ref (Ma 5), .ref (Ma 6), .int sv_5, .int (Mv 3), .int (Mv 4), .int (Mv 5), .int (Mv 6), .int (Mv 7), .int (Mv 8), .ref (Ma 7), .int (Mv 9), .ref (Ma 8), .int (Mv 10), .ref (Ma 9), .ref (Ma 10), .int (Mv 11), .int (Mv 12), .int (Mv 13), .ref (Ma 11), .int (Mv 14), .ref (Ma 12), .ref (Ma 13), .ref (Ma 14), .ref (Ma 15), .ref (Ma 16), .long (Mj 0), .ref (Ma 17), .ref (Ma 18), .ref (Ma 19), .ref (Ma 20)])), ((Ma 1), .inl (tc 2, 400, .inl (Mf 1)))] H := hP
  have hD : va_D A [((Ma 2), .inl (tc 0, 2400, .inl (Mf 2))), ((Ma 3), .inl (tc 0, 7, .inl (Mf 3))), ((Ma 4), .inl (tc 0, 288, .inl g_16)), ((Ma 5), .inl (tc 0, 6, .inl (Mf 5))), ((Ma 7), .inl (tc 0, 400, .inl (Mf 7))), ((Ma 0), .inr (12, [.ref (Ma 1), .int (Mv 0), .int (Mv 1), .ref (Ma 2), .ref (Ma 3), .ref (Ma 4), .ref (Ma 5), .ref (Ma 6), .int sv_5, .int (Mv 3), .int (Mv 4), .int (Mv 5), .int (Mv 6), .int (Mv 7), .int (Mv 8), .ref (Ma 7), .int (Mv 9), .ref (Ma 8), .int (Mv 10), .ref (Ma 9), .ref (Ma 10), .int (Mv 11), .int (Mv 12), .int (Mv 13), .ref (Ma 11), .int (Mv 14), .ref (Ma 12), .ref (Ma 13), .ref (Ma 14), .ref (Ma 15), .ref (Ma 16), .long (Mj 0), .ref (Ma 17), .ref (Ma 18), .ref (Ma 19), .ref (Ma 20)])), ((Ma 1), .inl (tc 2, 400, .inl (Mf 1)))] := hD
  have hi_17 : (x_12 : Int32).toInt = (A0 : Int) + (0 : Nat) := by
    have y_4 : (4 : Int32).toInt = 4 := by decide
    have y_48 : (48 : Int32).toInt = 48 := by decide
    have t_x_8 : x_8.toInt = (48 : Int32).toInt * ((Mv 5) : Int32).toInt := by rw [ex_8]; exact mul_toInt (by first | omega | (rw [y_48]; omega)) (by first | omega | (rw [y_48]; omega))
    rw [y_48] at t_x_8
    have t_x_11 : x_11.toInt = (4 : Int32).toInt * (x_10 : Int32).toInt := by rw [ex_11]; exact mul_toInt (by first | omega | (rw [y_4]; omega)) (by first | omega | (rw [y_4]; omega))
    rw [y_4] at t_x_11
    have t_x_12 : x_12.toInt = (x_8 : Int32).toInt + (x_11 : Int32).toInt := by rw [ex_12]; exact add_toInt (by omega) (by omega)
    omega
  have hr_19 : 48 * (Mv 5).toInt + 4 * ((Mf 5) (Mv 5).toInt.toNat).toInt ≤ (((x_12 : Int32).toNatClampNeg : Nat) : Int) := by
    have y_4 : (4 : Int32).toInt = 4 := by decide
    have y_48 : (48 : Int32).toInt = 48 := by decide
    have t_x_8 : x_8.toInt = (48 : Int32).toInt * ((Mv 5) : Int32).toInt := by rw [ex_8]; exact mul_toInt (by first | omega | (rw [y_48]; omega)) (by first | omega | (rw [y_48]; omega))
    rw [y_48] at t_x_8
    have t_x_11 : x_11.toInt = (4 : Int32).toInt * (x_10 : Int32).toInt := by rw [ex_11]; exact mul_toInt (by first | omega | (rw [y_4]; omega)) (by first | omega | (rw [y_4]; omega))
    rw [y_4] at t_x_11
    have t_x_12 : x_12.toInt = (x_8 : Int32).toInt + (x_11 : Int32).toInt := by rw [ex_12]; exact add_toInt (by omega) (by omega)
    have hcl : (x_12 : Int32).toNatClampNeg = (x_12 : Int32).toInt.toNat := rfl
    omega
  have pf_18 : RulP (Mf 2) g_16 (Mf 5) (Mv 5) (((Mf 3) (Mv 5).toNatClampNeg).toInt) := RulP.cl h_rp eg_16 h_t.1 hr_19
  have ar_pf_18 := pf_18.2.1
  have pf_20 : ClV g_16 A0 0 x_14 := ClV.put eg_16 hi_17
  have hr_22 : 0 ≤ (x_14 : Int32).toInt ∧ (x_14 : Int32).toInt ≤ 400 := by
    refine ⟨?_, ?_⟩ <;> omega
  have hr_23 : 0 ≤ ((Mv 6) : Int32).toInt ∧ ((Mv 6) : Int32).toInt ≤ 60 := by
    refine ⟨?_, ?_⟩ <;> omega
  have pf_21 : Cd (Mf 2) (Mf 3) (Mv 5) x_14 (Mv 6) 0 := Cd.nil h_t ex_14 hr_22 hr_23
  have ar_pf_21 := Cd.ar pf_21
  refine lv_aload_n hx hb dX12_isBuyHere_39 rfl (lv_at hl 1 rfl) ?_
  have ha_24 : 0 ≤ (sv_5 : Int32).toInt ∧ (sv_5 : Int32).toInt ≤ ((Mv 0) : Int32).toInt ∧ ((Mv 0) : Int32).toInt ≤ 400 := by
    refine ⟨?_, ?_, ?_⟩ <;> omega
  have ha_25 : ((Mf 3) (Mv 5).toNatClampNeg).toInt ≤ (sv_5 : Int32).toInt := by
    omega
  have ha_26 : 0 ≤ ((Mv 6) : Int32).toInt ∧ ((Mv 6) : Int32).toInt ≤ 60 := by
    refine ⟨?_, ?_⟩ <;> omega
  refine cV (a := (Ma 0)) (As := []) (rest := []) (wr := [((Ma 4), .inl (tc 0, 288, .inl g_16)), ((Ma 5), .inl (tc 0, 6, .inl (Mf 5))), ((Ma 7), .inl (tc 0, 400, .inl (Mf 7)))]) ⟨hx, hb, hml, hown, hts⟩ hK hX hA (ct_X12_sum l D tc sk Ma (fun k => ([(Mv 0), (Mv 1), sv_5, (Mv 3), (Mv 4), (Mv 5), (Mv 6), (Mv 7), (Mv 8), (Mv 9), (Mv 10), (Mv 11), (Mv 12), (Mv 13), (Mv 14)] : List (Int32)).getD k 0) Mf Mj x_14 0 ha_24 pf_21 ha_25 ha_26) k_1279 k_1276 k_1278 k_42 k_106 pl_X12_sum ⟨Nat.le_of_ble_eq_true rfl, Nat.le_of_ble_eq_true rfl⟩ rfl rfl (va_recv hK hP (ci := 12) (q0 := 5) rfl rfl) hP hD hS [5, 6, 0, 1] [2, 3, 4] rfl rfl rfl rfl rfl (by decide) rfl hl.1 rfl (Nat.le_of_ble_eq_true rfl) dX12_isBuyHere_40 ⟨Nat.le_of_ble_eq_true rfl, Nat.le_of_ble_eq_true rfl⟩ (fun v_27 u_28 H locs hv_29 hP hD hS => ?_)
  obtain ⟨sv_30, sv_31, sv_32, sv_33, sv_34, sv_35⟩ := u_28
  obtain ⟨r_39, rfl, he_40, pf_36, pf_37, pf_38, hm_42⟩ := hv_29
  have he_40 : ((r_39.toInt = 0 ∧ ¬ (sv_31 : Int32).toInt = 0) ∨ (r_39.toInt = 1 ∧ ((Mf 3) (Mv 5).toNatClampNeg).toInt + 1 ≤ (sv_35 (Mv 5).toNatClampNeg).toInt ∧ (sv_35 (Mv 5).toNatClampNeg).toInt + (sv_5 : Int32).toInt ≤ ((Mf 3) (Mv 5).toNatClampNeg).toInt + (sv_30 : Int32).toInt ∧ (sv_5 : Int32).toInt + 1 ≤ (sv_30 : Int32).toInt)) := he_40
  have pf_36 : (sv_5 : Int32).toInt ≤ (sv_30 : Int32).toInt ∧ (sv_30 : Int32).toInt ≤ ((Mv 0) : Int32).toInt := pf_36
  have pf_37 : ((Mv 6) : Int32).toInt ≤ (sv_33 : Int32).toInt ∧ (sv_33 : Int32).toInt ≤ 60 := pf_37
  have pf_38 : Agr (Mf 2) sv_34 (400 * ((Mv 5) : Int32).toInt + ((Mf 3) (Mv 5).toNatClampNeg).toInt) := pf_38
  have hr_44 : 400 * ((Mv 5) : Int32).toInt + (((Mf 3) (Mv 5).toNatClampNeg).toInt) ≤ (400 * ((Mv 5) : Int32).toInt + ((Mf 3) (Mv 5).toNatClampNeg).toInt) ∧ 0 ≤ ((Mv 5) : Int32).toInt ∧ 0 ≤ (((Mf 3) (Mv 5).toNatClampNeg).toInt) := by
    omega
  have pf_43 : RulP sv_34 (Mf 4) (Mf 5) (Mv 5) (((Mf 3) (Mv 5).toNatClampNeg).toInt) := RulP.agr h_rp pf_38 hr_44.2.1 hr_44.1 hr_44.2.2
  have ar_pf_43 := pf_43.2.1
  have hr_46 : 400 * ((Mv 5) : Int32).toInt + (((Mf 3) (Mv 5).toNatClampNeg).toInt) ≤ (400 * ((Mv 5) : Int32).toInt + ((Mf 3) (Mv 5).toNatClampNeg).toInt) ∧ 0 ≤ ((Mv 5) : Int32).toInt ∧ 0 ≤ (((Mf 3) (Mv 5).toNatClampNeg).toInt) := by
    omega
  have pf_45 : RulP sv_34 g_16 (Mf 5) (Mv 5) (((Mf 3) (Mv 5).toNatClampNeg).toInt) := RulP.agr pf_18 pf_38 hr_46.2.1 hr_46.1 hr_46.2.2
  have ar_pf_45 := pf_45.2.1
  refine W.eq (g2 := F0 m 43 ls [.int r_39]) rfl ?_
  have hP : va_P D classes [((Ma 4), .inl (tc 0, 288, .inl g_16)), ((Ma 5), .inl (tc 0, 6, .inl (Mf 5))), ((Ma 7), .inl (tc 0, 400, .inl (Mf 7))), ((Ma 0), .inr (12, [.ref (Ma 1), .int (Mv 0), .int (Mv 1), .ref (Ma 2), .ref (Ma 3), .ref (Ma 4), .ref (Ma 5), .ref (Ma 6), .int sv_30, .int sv_31, .int sv_32, .int (Mv 5), .int sv_33, .int (Mv 7), .int (Mv 8), .ref (Ma 7), .int (Mv 9), .ref (Ma 8), .int (Mv 10), .ref (Ma 9), .ref (Ma 10), .int (Mv 11), .int (Mv 12), .int (Mv 13), .ref (Ma 11), .int (Mv 14), .ref (Ma 12), .ref (Ma 13), .ref (Ma 14), .ref (Ma 15), .ref (Ma 16), .long (Mj 0), .ref (Ma 17), .ref (Ma 18), .ref (Ma 19), .ref (Ma 20)])), ((Ma 1), .inl (tc 2, 400, .inl (Mf 1))), ((Ma 2), .inl (tc 0, 2400, .inl sv_34)), ((Ma 3), .inl (tc 0, 7, .inl sv_35))] H := hP
  have hD : va_D A [((Ma 4), .inl (tc 0, 288, .inl g_16)), ((Ma 5), .inl (tc 0, 6, .inl (Mf 5))), ((Ma 7), .inl (tc 0, 400, .inl (Mf 7))), ((Ma 0), .inr (12, [.ref (Ma 1), .int (Mv 0), .int (Mv 1), .ref (Ma 2), .ref (Ma 3), .ref (Ma 4), .ref (Ma 5), .ref (Ma 6), .int sv_30, .int sv_31, .int sv_32, .int (Mv 5), .int sv_33, .int (Mv 7), .int (Mv 8), .ref (Ma 7), .int (Mv 9), .ref (Ma 8), .int (Mv 10), .ref (Ma 9), .ref (Ma 10), .int (Mv 11), .int (Mv 12), .int (Mv 13), .ref (Ma 11), .int (Mv 14), .ref (Ma 12), .ref (Ma 13), .ref (Ma 14), .ref (Ma 15), .ref (Ma 16), .long (Mj 0), .ref (Ma 17), .ref (Ma 18), .ref (Ma 19), .ref (Ma 20)])), ((Ma 1), .inl (tc 2, 400, .inl (Mf 1))), ((Ma 2), .inl (tc 0, 2400, .inl sv_34)), ((Ma 3), .inl (tc 0, 7, .inl sv_35))] := hD
  refine lv_if_ne (tgt := 48) hx hb dX12_isBuyHere_43 (by decide) (fun c_47 => ?_) (fun c_47 => ?_)
  · skip
    have hz_49 : (r_39 : Int32).toInt = 1 := by
      have z_1 : ¬ (r_39 : Int32).toInt = (0 : Int32).toInt := fun z => c_47 (Int32.toInt_inj.mp z)
      have y_0 : (0 : Int32).toInt = 0 := by decide
      omega
    obtain pf_48 := hm_42 hz_49
    have pf_48 : Cd sv_34 sv_35 (Mv 5) x_14 sv_33 ((0 : Nat) + 1) := pf_48
    have ar_pf_48 := Cd.ar pf_48
    refine lv_aload_n hx hb dX12_isBuyHere_48 rfl (lv_at hl 1 rfl) ?_
    refine gf_X12_20 hx hb hts hown hK hP 3 rfl rfl dX12_isBuyHere_49 ?_
    refine lv_iload_n hx hb dX12_isBuyHere_52 rfl (lv_at hl 0 rfl) ?_
    refine lv_iconst (v := 1) hx hb dX12_isBuyHere_53 (by decide) ?_
    refine lv_iadd hx hb dX12_isBuyHere_54 ?_
    refine lv_topi (fun x_50 ex_50 => ?_)
    refine lv_aload_n hx hb dX12_isBuyHere_55 rfl (lv_at hl 1 rfl) ?_
    refine gf_X12_17 hx hb hts hown hK hP 3 rfl rfl dX12_isBuyHere_56 ?_
    refine lv_aload_n hx hb dX12_isBuyHere_59 rfl (lv_at hl 1 rfl) ?_
    refine gf_X12_145 hx hb hts hown hK hP 3 rfl rfl dX12_isBuyHere_60 ?_
    have hi_51 : vp_in (Mv 5) 7 := by
      have z_1 : ¬ (r_39 : Int32).toInt = (0 : Int32).toInt := fun z => c_47 (Int32.toInt_inj.mp z)
      have y_0 : (0 : Int32).toInt = 0 := by decide
      refine vp_in_iff.mpr ⟨?_, ?_⟩ <;> omega
    refine va_iald hx hb hK hP 6 0 rfl rfl hi_51 dX12_isBuyHere_63 ?_
    refine lv_topi (fun x_52 ex_52 => ?_)
    have kx_52 : x_52.toInt = (sv_35 ((Mv 5) : Int32).toNatClampNeg).toInt := congrArg Int32.toInt ex_52
    have hi_53 : vp_in x_50 288 := by
      have z_1 : ¬ (r_39 : Int32).toInt = (0 : Int32).toInt := fun z => c_47 (Int32.toInt_inj.mp z)
      have y_0 : (0 : Int32).toInt = 0 := by decide
      have y_1 : (1 : Int32).toInt = 1 := by decide
      have y_4 : (4 : Int32).toInt = 4 := by decide
      have y_48 : (48 : Int32).toInt = 48 := by decide
      have t_x_8 : x_8.toInt = (48 : Int32).toInt * ((Mv 5) : Int32).toInt := by rw [ex_8]; exact mul_toInt (by first | omega | (rw [y_48]; omega)) (by first | omega | (rw [y_48]; omega))
      rw [y_48] at t_x_8
      have t_x_11 : x_11.toInt = (4 : Int32).toInt * (x_10 : Int32).toInt := by rw [ex_11]; exact mul_toInt (by first | omega | (rw [y_4]; omega)) (by first | omega | (rw [y_4]; omega))
      rw [y_4] at t_x_11
      have t_x_12 : x_12.toInt = (x_8 : Int32).toInt + (x_11 : Int32).toInt := by rw [ex_12]; exact add_toInt (by omega) (by omega)
      have t_x_50 : x_50.toInt = (x_12 : Int32).toInt + (1 : Int32).toInt := by rw [ex_50]; exact add_toInt (by omega) (by omega)
      refine vp_in_iff.mpr ⟨?_, ?_⟩ <;> omega
    refine st_int hx hb hK hP hD hS 0 0 rfl rfl hi_53 dX12_isBuyHere_64 (fun g_54 H locs eg_54 hP hD hS => ?_)
    have hP : va_P D classes [((Ma 4), .inl (tc 0, 288, .inl g_54)), ((Ma 5), .inl (tc 0, 6, .inl (Mf 5))), ((Ma 7), .inl (tc 0, 400, .inl (Mf 7))), ((Ma 0), .inr (12, [.ref (Ma 1), .int (Mv 0), .int (Mv 1), .ref (Ma 2), .ref (Ma 3), .ref (Ma 4), .ref (Ma 5), .ref (Ma 6), .int sv_30, .int sv_31, .int sv_32, .int (Mv 5), .int sv_33, .int (Mv 7), .int (Mv 8), .ref (Ma 7), .int (Mv 9), .ref (Ma 8), .int (Mv 10), .ref (Ma 9), .ref (Ma 10), .int (Mv 11), .int (Mv 12), .int (Mv 13), .ref (Ma 11), .int (Mv 14), .ref (Ma 12), .ref (Ma 13), .ref (Ma 14), .ref (Ma 15), .ref (Ma 16), .long (Mj 0), .ref (Ma 17), .ref (Ma 18), .ref (Ma 19), .ref (Ma 20)])), ((Ma 1), .inl (tc 2, 400, .inl (Mf 1))), ((Ma 2), .inl (tc 0, 2400, .inl sv_34)), ((Ma 3), .inl (tc 0, 7, .inl sv_35))] H := hP
    have hD : va_D A [((Ma 4), .inl (tc 0, 288, .inl g_54)), ((Ma 5), .inl (tc 0, 6, .inl (Mf 5))), ((Ma 7), .inl (tc 0, 400, .inl (Mf 7))), ((Ma 0), .inr (12, [.ref (Ma 1), .int (Mv 0), .int (Mv 1), .ref (Ma 2), .ref (Ma 3), .ref (Ma 4), .ref (Ma 5), .ref (Ma 6), .int sv_30, .int sv_31, .int sv_32, .int (Mv 5), .int sv_33, .int (Mv 7), .int (Mv 8), .ref (Ma 7), .int (Mv 9), .ref (Ma 8), .int (Mv 10), .ref (Ma 9), .ref (Ma 10), .int (Mv 11), .int (Mv 12), .int (Mv 13), .ref (Ma 11), .int (Mv 14), .ref (Ma 12), .ref (Ma 13), .ref (Ma 14), .ref (Ma 15), .ref (Ma 16), .long (Mj 0), .ref (Ma 17), .ref (Ma 18), .ref (Ma 19), .ref (Ma 20)])), ((Ma 1), .inl (tc 2, 400, .inl (Mf 1))), ((Ma 2), .inl (tc 0, 2400, .inl sv_34)), ((Ma 3), .inl (tc 0, 7, .inl sv_35))] := hD
    have hi_55 : (x_50 : Int32).toInt = (A0 : Int) + (1 : Nat) := by
      have z_1 : ¬ (r_39 : Int32).toInt = (0 : Int32).toInt := fun z => c_47 (Int32.toInt_inj.mp z)
      have y_0 : (0 : Int32).toInt = 0 := by decide
      have y_1 : (1 : Int32).toInt = 1 := by decide
      have y_4 : (4 : Int32).toInt = 4 := by decide
      have y_48 : (48 : Int32).toInt = 48 := by decide
      have t_x_8 : x_8.toInt = (48 : Int32).toInt * ((Mv 5) : Int32).toInt := by rw [ex_8]; exact mul_toInt (by first | omega | (rw [y_48]; omega)) (by first | omega | (rw [y_48]; omega))
      rw [y_48] at t_x_8
      have t_x_11 : x_11.toInt = (4 : Int32).toInt * (x_10 : Int32).toInt := by rw [ex_11]; exact mul_toInt (by first | omega | (rw [y_4]; omega)) (by first | omega | (rw [y_4]; omega))
      rw [y_4] at t_x_11
      have t_x_12 : x_12.toInt = (x_8 : Int32).toInt + (x_11 : Int32).toInt := by rw [ex_12]; exact add_toInt (by omega) (by omega)
      have t_x_50 : x_50.toInt = (x_12 : Int32).toInt + (1 : Int32).toInt := by rw [ex_50]; exact add_toInt (by omega) (by omega)
      omega
    have hr_57 : 48 * (Mv 5).toInt + 4 * ((Mf 5) (Mv 5).toInt.toNat).toInt ≤ (((x_50 : Int32).toNatClampNeg : Nat) : Int) := by
      have z_1 : ¬ (r_39 : Int32).toInt = (0 : Int32).toInt := fun z => c_47 (Int32.toInt_inj.mp z)
      have y_0 : (0 : Int32).toInt = 0 := by decide
      have y_1 : (1 : Int32).toInt = 1 := by decide
      have y_4 : (4 : Int32).toInt = 4 := by decide
      have y_48 : (48 : Int32).toInt = 48 := by decide
      have t_x_8 : x_8.toInt = (48 : Int32).toInt * ((Mv 5) : Int32).toInt := by rw [ex_8]; exact mul_toInt (by first | omega | (rw [y_48]; omega)) (by first | omega | (rw [y_48]; omega))
      rw [y_48] at t_x_8
      have t_x_11 : x_11.toInt = (4 : Int32).toInt * (x_10 : Int32).toInt := by rw [ex_11]; exact mul_toInt (by first | omega | (rw [y_4]; omega)) (by first | omega | (rw [y_4]; omega))
      rw [y_4] at t_x_11
      have t_x_12 : x_12.toInt = (x_8 : Int32).toInt + (x_11 : Int32).toInt := by rw [ex_12]; exact add_toInt (by omega) (by omega)
      have t_x_50 : x_50.toInt = (x_12 : Int32).toInt + (1 : Int32).toInt := by rw [ex_50]; exact add_toInt (by omega) (by omega)
      have hcl : (x_50 : Int32).toNatClampNeg = (x_50 : Int32).toInt.toNat := rfl
      omega
    have pf_56 : RulP (Mf 2) g_54 (Mf 5) (Mv 5) (((Mf 3) (Mv 5).toNatClampNeg).toInt) := RulP.cl pf_18 eg_54 h_t.1 hr_57
    have ar_pf_56 := pf_56.2.1
    have hr_59 : ¬ (x_50 : Int32).toInt = (A0 : Int) + (0 : Nat) := by omega
    have pf_58 : ClV g_54 A0 0 x_14 := ClV.keep pf_20 eg_54 hr_59 (by omega)
    have hr_61 : 48 * (Mv 5).toInt + 4 * ((Mf 5) (Mv 5).toInt.toNat).toInt ≤ (((x_50 : Int32).toNatClampNeg : Nat) : Int) := by
      have z_1 : ¬ (r_39 : Int32).toInt = (0 : Int32).toInt := fun z => c_47 (Int32.toInt_inj.mp z)
      have y_0 : (0 : Int32).toInt = 0 := by decide
      have y_1 : (1 : Int32).toInt = 1 := by decide
      have y_4 : (4 : Int32).toInt = 4 := by decide
      have y_48 : (48 : Int32).toInt = 48 := by decide
      have t_x_8 : x_8.toInt = (48 : Int32).toInt * ((Mv 5) : Int32).toInt := by rw [ex_8]; exact mul_toInt (by first | omega | (rw [y_48]; omega)) (by first | omega | (rw [y_48]; omega))
      rw [y_48] at t_x_8
      have t_x_11 : x_11.toInt = (4 : Int32).toInt * (x_10 : Int32).toInt := by rw [ex_11]; exact mul_toInt (by first | omega | (rw [y_4]; omega)) (by first | omega | (rw [y_4]; omega))
      rw [y_4] at t_x_11
      have t_x_12 : x_12.toInt = (x_8 : Int32).toInt + (x_11 : Int32).toInt := by rw [ex_12]; exact add_toInt (by omega) (by omega)
      have t_x_50 : x_50.toInt = (x_12 : Int32).toInt + (1 : Int32).toInt := by rw [ex_50]; exact add_toInt (by omega) (by omega)
      have hcl : (x_50 : Int32).toNatClampNeg = (x_50 : Int32).toInt.toNat := rfl
      omega
    have pf_60 : RulP sv_34 g_54 (Mf 5) (Mv 5) (((Mf 3) (Mv 5).toNatClampNeg).toInt) := RulP.cl pf_45 eg_54 h_t.1 hr_61
    have ar_pf_60 := pf_60.2.1
    have pf_62 : ClV g_54 A0 1 x_52 := ClV.put eg_54 hi_55
    refine lv_aload_n hx hb dX12_isBuyHere_65 rfl (lv_at hl 1 rfl) ?_
    refine gf_X12_20 hx hb hts hown hK hP 3 rfl rfl dX12_isBuyHere_66 ?_
    refine lv_iload_n hx hb dX12_isBuyHere_69 rfl (lv_at hl 0 rfl) ?_
    refine lv_iconst (v := 2) hx hb dX12_isBuyHere_70 (by decide) ?_
    refine lv_iadd hx hb dX12_isBuyHere_71 ?_
    refine lv_topi (fun x_63 ex_63 => ?_)
    refine lv_iconst (v := (-1)) hx hb dX12_isBuyHere_72 (by decide) ?_
    have hi_64 : vp_in x_63 288 := by
      have z_1 : ¬ (r_39 : Int32).toInt = (0 : Int32).toInt := fun z => c_47 (Int32.toInt_inj.mp z)
      have y_0 : (0 : Int32).toInt = 0 := by decide
      have y_2 : (2 : Int32).toInt = 2 := by decide
      have y_4 : (4 : Int32).toInt = 4 := by decide
      have y_48 : (48 : Int32).toInt = 48 := by decide
      have t_x_8 : x_8.toInt = (48 : Int32).toInt * ((Mv 5) : Int32).toInt := by rw [ex_8]; exact mul_toInt (by first | omega | (rw [y_48]; omega)) (by first | omega | (rw [y_48]; omega))
      rw [y_48] at t_x_8
      have t_x_11 : x_11.toInt = (4 : Int32).toInt * (x_10 : Int32).toInt := by rw [ex_11]; exact mul_toInt (by first | omega | (rw [y_4]; omega)) (by first | omega | (rw [y_4]; omega))
      rw [y_4] at t_x_11
      have t_x_12 : x_12.toInt = (x_8 : Int32).toInt + (x_11 : Int32).toInt := by rw [ex_12]; exact add_toInt (by omega) (by omega)
      have t_x_63 : x_63.toInt = (x_12 : Int32).toInt + (2 : Int32).toInt := by rw [ex_63]; exact add_toInt (by omega) (by omega)
      refine vp_in_iff.mpr ⟨?_, ?_⟩ <;> omega
    refine st_int hx hb hK hP hD hS 0 0 rfl rfl hi_64 dX12_isBuyHere_73 (fun g_65 H locs eg_65 hP hD hS => ?_)
    have hP : va_P D classes [((Ma 4), .inl (tc 0, 288, .inl g_65)), ((Ma 5), .inl (tc 0, 6, .inl (Mf 5))), ((Ma 7), .inl (tc 0, 400, .inl (Mf 7))), ((Ma 0), .inr (12, [.ref (Ma 1), .int (Mv 0), .int (Mv 1), .ref (Ma 2), .ref (Ma 3), .ref (Ma 4), .ref (Ma 5), .ref (Ma 6), .int sv_30, .int sv_31, .int sv_32, .int (Mv 5), .int sv_33, .int (Mv 7), .int (Mv 8), .ref (Ma 7), .int (Mv 9), .ref (Ma 8), .int (Mv 10), .ref (Ma 9), .ref (Ma 10), .int (Mv 11), .int (Mv 12), .int (Mv 13), .ref (Ma 11), .int (Mv 14), .ref (Ma 12), .ref (Ma 13), .ref (Ma 14), .ref (Ma 15), .ref (Ma 16), .long (Mj 0), .ref (Ma 17), .ref (Ma 18), .ref (Ma 19), .ref (Ma 20)])), ((Ma 1), .inl (tc 2, 400, .inl (Mf 1))), ((Ma 2), .inl (tc 0, 2400, .inl sv_34)), ((Ma 3), .inl (tc 0, 7, .inl sv_35))] H := hP
    have hD : va_D A [((Ma 4), .inl (tc 0, 288, .inl g_65)), ((Ma 5), .inl (tc 0, 6, .inl (Mf 5))), ((Ma 7), .inl (tc 0, 400, .inl (Mf 7))), ((Ma 0), .inr (12, [.ref (Ma 1), .int (Mv 0), .int (Mv 1), .ref (Ma 2), .ref (Ma 3), .ref (Ma 4), .ref (Ma 5), .ref (Ma 6), .int sv_30, .int sv_31, .int sv_32, .int (Mv 5), .int sv_33, .int (Mv 7), .int (Mv 8), .ref (Ma 7), .int (Mv 9), .ref (Ma 8), .int (Mv 10), .ref (Ma 9), .ref (Ma 10), .int (Mv 11), .int (Mv 12), .int (Mv 13), .ref (Ma 11), .int (Mv 14), .ref (Ma 12), .ref (Ma 13), .ref (Ma 14), .ref (Ma 15), .ref (Ma 16), .long (Mj 0), .ref (Ma 17), .ref (Ma 18), .ref (Ma 19), .ref (Ma 20)])), ((Ma 1), .inl (tc 2, 400, .inl (Mf 1))), ((Ma 2), .inl (tc 0, 2400, .inl sv_34)), ((Ma 3), .inl (tc 0, 7, .inl sv_35))] := hD
    have hi_66 : (x_63 : Int32).toInt = (A0 : Int) + (2 : Nat) := by
      have z_1 : ¬ (r_39 : Int32).toInt = (0 : Int32).toInt := fun z => c_47 (Int32.toInt_inj.mp z)
      have y_0 : (0 : Int32).toInt = 0 := by decide
      have y_2 : (2 : Int32).toInt = 2 := by decide
      have y_4 : (4 : Int32).toInt = 4 := by decide
      have y_48 : (48 : Int32).toInt = 48 := by decide
      have t_x_8 : x_8.toInt = (48 : Int32).toInt * ((Mv 5) : Int32).toInt := by rw [ex_8]; exact mul_toInt (by first | omega | (rw [y_48]; omega)) (by first | omega | (rw [y_48]; omega))
      rw [y_48] at t_x_8
      have t_x_11 : x_11.toInt = (4 : Int32).toInt * (x_10 : Int32).toInt := by rw [ex_11]; exact mul_toInt (by first | omega | (rw [y_4]; omega)) (by first | omega | (rw [y_4]; omega))
      rw [y_4] at t_x_11
      have t_x_12 : x_12.toInt = (x_8 : Int32).toInt + (x_11 : Int32).toInt := by rw [ex_12]; exact add_toInt (by omega) (by omega)
      have t_x_63 : x_63.toInt = (x_12 : Int32).toInt + (2 : Int32).toInt := by rw [ex_63]; exact add_toInt (by omega) (by omega)
      omega
    have hr_68 : 48 * (Mv 5).toInt + 4 * ((Mf 5) (Mv 5).toInt.toNat).toInt ≤ (((x_63 : Int32).toNatClampNeg : Nat) : Int) := by
      have z_1 : ¬ (r_39 : Int32).toInt = (0 : Int32).toInt := fun z => c_47 (Int32.toInt_inj.mp z)
      have y_0 : (0 : Int32).toInt = 0 := by decide
      have y_2 : (2 : Int32).toInt = 2 := by decide
      have y_4 : (4 : Int32).toInt = 4 := by decide
      have y_48 : (48 : Int32).toInt = 48 := by decide
      have t_x_8 : x_8.toInt = (48 : Int32).toInt * ((Mv 5) : Int32).toInt := by rw [ex_8]; exact mul_toInt (by first | omega | (rw [y_48]; omega)) (by first | omega | (rw [y_48]; omega))
      rw [y_48] at t_x_8
      have t_x_11 : x_11.toInt = (4 : Int32).toInt * (x_10 : Int32).toInt := by rw [ex_11]; exact mul_toInt (by first | omega | (rw [y_4]; omega)) (by first | omega | (rw [y_4]; omega))
      rw [y_4] at t_x_11
      have t_x_12 : x_12.toInt = (x_8 : Int32).toInt + (x_11 : Int32).toInt := by rw [ex_12]; exact add_toInt (by omega) (by omega)
      have t_x_63 : x_63.toInt = (x_12 : Int32).toInt + (2 : Int32).toInt := by rw [ex_63]; exact add_toInt (by omega) (by omega)
      have hcl : (x_63 : Int32).toNatClampNeg = (x_63 : Int32).toInt.toNat := rfl
      omega
    have pf_67 : RulP (Mf 2) g_65 (Mf 5) (Mv 5) (((Mf 3) (Mv 5).toNatClampNeg).toInt) := RulP.cl pf_56 eg_65 h_t.1 hr_68
    have ar_pf_67 := pf_67.2.1
    have hr_70 : ¬ (x_63 : Int32).toInt = (A0 : Int) + (0 : Nat) := by omega
    have pf_69 : ClV g_65 A0 0 x_14 := ClV.keep pf_58 eg_65 hr_70 (by omega)
    have hr_72 : 48 * (Mv 5).toInt + 4 * ((Mf 5) (Mv 5).toInt.toNat).toInt ≤ (((x_63 : Int32).toNatClampNeg : Nat) : Int) := by
      have z_1 : ¬ (r_39 : Int32).toInt = (0 : Int32).toInt := fun z => c_47 (Int32.toInt_inj.mp z)
      have y_0 : (0 : Int32).toInt = 0 := by decide
      have y_2 : (2 : Int32).toInt = 2 := by decide
      have y_4 : (4 : Int32).toInt = 4 := by decide
      have y_48 : (48 : Int32).toInt = 48 := by decide
      have t_x_8 : x_8.toInt = (48 : Int32).toInt * ((Mv 5) : Int32).toInt := by rw [ex_8]; exact mul_toInt (by first | omega | (rw [y_48]; omega)) (by first | omega | (rw [y_48]; omega))
      rw [y_48] at t_x_8
      have t_x_11 : x_11.toInt = (4 : Int32).toInt * (x_10 : Int32).toInt := by rw [ex_11]; exact mul_toInt (by first | omega | (rw [y_4]; omega)) (by first | omega | (rw [y_4]; omega))
      rw [y_4] at t_x_11
      have t_x_12 : x_12.toInt = (x_8 : Int32).toInt + (x_11 : Int32).toInt := by rw [ex_12]; exact add_toInt (by omega) (by omega)
      have t_x_63 : x_63.toInt = (x_12 : Int32).toInt + (2 : Int32).toInt := by rw [ex_63]; exact add_toInt (by omega) (by omega)
      have hcl : (x_63 : Int32).toNatClampNeg = (x_63 : Int32).toInt.toNat := rfl
      omega
    have pf_71 : RulP sv_34 g_65 (Mf 5) (Mv 5) (((Mf 3) (Mv 5).toNatClampNeg).toInt) := RulP.cl pf_60 eg_65 h_t.1 hr_72
    have ar_pf_71 := pf_71.2.1
    have hr_74 : ¬ (x_63 : Int32).toInt = (A0 : Int) + (1 : Nat) := by omega
    have pf_73 : ClV g_65 A0 1 x_52 := ClV.keep pf_62 eg_65 hr_74 (by omega)
    have pf_75 : ClV g_65 A0 2 (-1) := ClV.put eg_65 hi_66
    refine lv_aload_n hx hb dX12_isBuyHere_74 rfl (lv_at hl 1 rfl) ?_
    refine lv_ldc2 hx hb hown (hts _ k_1313) dX12_isBuyHere_75 ?_
    have ha_76 : 0 ≤ (sv_30 : Int32).toInt ∧ (sv_30 : Int32).toInt ≤ ((Mv 0) : Int32).toInt ∧ ((Mv 0) : Int32).toInt ≤ 400 := by
      have z_1 : ¬ (r_39 : Int32).toInt = (0 : Int32).toInt := fun z => c_47 (Int32.toInt_inj.mp z)
      have y_0 : (0 : Int32).toInt = 0 := by decide
      refine ⟨?_, ?_, ?_⟩ <;> omega
    refine cV (a := (Ma 0)) (As := [.long 26982]) (rest := []) (wr := [((Ma 4), .inl (tc 0, 288, .inl g_65)), ((Ma 5), .inl (tc 0, 6, .inl (Mf 5))), ((Ma 7), .inl (tc 0, 400, .inl (Mf 7))), ((Ma 2), .inl (tc 0, 2400, .inl sv_34)), ((Ma 3), .inl (tc 0, 7, .inl sv_35))]) ⟨hx, hb, hml, hown, hts⟩ hK hX hA (ct_X12_takesWord l D tc sk Ma (fun k => ([(Mv 0), (Mv 1), sv_30, sv_31, sv_32, (Mv 5), sv_33, (Mv 7), (Mv 8), (Mv 9), (Mv 10), (Mv 11), (Mv 12), (Mv 13), (Mv 14)] : List (Int32)).getD k 0) Mf Mj 26982 ha_76) k_1317 k_1314 k_1316 k_48 k_106 pl_X12_takesWord ⟨Nat.le_of_ble_eq_true rfl, Nat.le_of_ble_eq_true rfl⟩ rfl rfl (va_recv hK hP (ci := 12) (q0 := 3) rfl rfl) hP hD hS [3, 4] [0, 1, 2, 5, 6] rfl rfl rfl rfl rfl (by decide) rfl hl.1 rfl (Nat.le_of_ble_eq_true rfl) dX12_isBuyHere_78 ⟨Nat.le_of_ble_eq_true rfl, Nat.le_of_ble_eq_true rfl⟩ (fun v_77 u_78 H locs hv_79 hP hD hS => ?_)
    obtain ⟨sv_80, rfl⟩ : ∃ z, z = u_78 := ⟨_, rfl⟩
    obtain ⟨r_82, rfl, he_83, pf_81⟩ := hv_79
    have he_83 : (r_82.toInt = 0 ∨ r_82.toInt = 1) := he_83
    have pf_81 : (sv_30 : Int32).toInt ≤ (sv_80 : Int32).toInt ∧ (sv_80 : Int32).toInt ≤ ((Mv 0) : Int32).toInt := pf_81
    refine W.eq (g2 := F0 m 81 ls [.int r_82]) rfl ?_
    have hP : va_P D classes [((Ma 4), .inl (tc 0, 288, .inl g_65)), ((Ma 5), .inl (tc 0, 6, .inl (Mf 5))), ((Ma 7), .inl (tc 0, 400, .inl (Mf 7))), ((Ma 2), .inl (tc 0, 2400, .inl sv_34)), ((Ma 3), .inl (tc 0, 7, .inl sv_35)), ((Ma 0), .inr (12, [.ref (Ma 1), .int (Mv 0), .int (Mv 1), .ref (Ma 2), .ref (Ma 3), .ref (Ma 4), .ref (Ma 5), .ref (Ma 6), .int sv_80, .int sv_31, .int sv_32, .int (Mv 5), .int sv_33, .int (Mv 7), .int (Mv 8), .ref (Ma 7), .int (Mv 9), .ref (Ma 8), .int (Mv 10), .ref (Ma 9), .ref (Ma 10), .int (Mv 11), .int (Mv 12), .int (Mv 13), .ref (Ma 11), .int (Mv 14), .ref (Ma 12), .ref (Ma 13), .ref (Ma 14), .ref (Ma 15), .ref (Ma 16), .long (Mj 0), .ref (Ma 17), .ref (Ma 18), .ref (Ma 19), .ref (Ma 20)])), ((Ma 1), .inl (tc 2, 400, .inl (Mf 1)))] H := hP
    have hD : va_D A [((Ma 4), .inl (tc 0, 288, .inl g_65)), ((Ma 5), .inl (tc 0, 6, .inl (Mf 5))), ((Ma 7), .inl (tc 0, 400, .inl (Mf 7))), ((Ma 2), .inl (tc 0, 2400, .inl sv_34)), ((Ma 3), .inl (tc 0, 7, .inl sv_35)), ((Ma 0), .inr (12, [.ref (Ma 1), .int (Mv 0), .int (Mv 1), .ref (Ma 2), .ref (Ma 3), .ref (Ma 4), .ref (Ma 5), .ref (Ma 6), .int sv_80, .int sv_31, .int sv_32, .int (Mv 5), .int sv_33, .int (Mv 7), .int (Mv 8), .ref (Ma 7), .int (Mv 9), .ref (Ma 8), .int (Mv 10), .ref (Ma 9), .ref (Ma 10), .int (Mv 11), .int (Mv 12), .int (Mv 13), .ref (Ma 11), .int (Mv 14), .ref (Ma 12), .ref (Ma 13), .ref (Ma 14), .ref (Ma 15), .ref (Ma 16), .long (Mj 0), .ref (Ma 17), .ref (Ma 18), .ref (Ma 19), .ref (Ma 20)])), ((Ma 1), .inl (tc 2, 400, .inl (Mf 1)))] := hD
    refine lv_if_eq (tgt := 110) hx hb dX12_isBuyHere_81 (by decide) (fun c_85 => ?_) (fun c_85 => ?_)
    · skip
      refine lv_aload_n hx hb dX12_isBuyHere_110 rfl (lv_at hl 1 rfl) ?_
      refine gf_X12_20 hx hb hts hown hK hP 5 rfl rfl dX12_isBuyHere_111 ?_
      refine lv_iload_n hx hb dX12_isBuyHere_114 rfl (lv_at hl 0 rfl) ?_
      refine lv_iconst (v := 3) hx hb dX12_isBuyHere_115 (by decide) ?_
      refine lv_iadd hx hb dX12_isBuyHere_116 ?_
      refine lv_topi (fun x_86 ex_86 => ?_)
      refine lv_aload_n hx hb dX12_isBuyHere_117 rfl (lv_at hl 1 rfl) ?_
      refine gf_X12_17 hx hb hts hown hK hP 5 rfl rfl dX12_isBuyHere_118 ?_
      refine lv_aload_n hx hb dX12_isBuyHere_121 rfl (lv_at hl 1 rfl) ?_
      refine gf_X12_145 hx hb hts hown hK hP 5 rfl rfl dX12_isBuyHere_122 ?_
      have hi_87 : vp_in (Mv 5) 7 := by
        have z_1 : ¬ (r_39 : Int32).toInt = (0 : Int32).toInt := fun z => c_47 (Int32.toInt_inj.mp z)
        have z_2 := congrArg Int32.toInt c_85
        have y_0 : (0 : Int32).toInt = 0 := by decide
        refine vp_in_iff.mpr ⟨?_, ?_⟩ <;> omega
      refine va_iald hx hb hK hP 4 0 rfl rfl hi_87 dX12_isBuyHere_125 ?_
      refine lv_topi (fun x_88 ex_88 => ?_)
      have kx_88 : x_88.toInt = (sv_35 ((Mv 5) : Int32).toNatClampNeg).toInt := congrArg Int32.toInt ex_88
      have hi_89 : vp_in x_86 288 := by
        have z_1 : ¬ (r_39 : Int32).toInt = (0 : Int32).toInt := fun z => c_47 (Int32.toInt_inj.mp z)
        have z_2 := congrArg Int32.toInt c_85
        have y_0 : (0 : Int32).toInt = 0 := by decide
        have y_3 : (3 : Int32).toInt = 3 := by decide
        have y_4 : (4 : Int32).toInt = 4 := by decide
        have y_48 : (48 : Int32).toInt = 48 := by decide
        have t_x_8 : x_8.toInt = (48 : Int32).toInt * ((Mv 5) : Int32).toInt := by rw [ex_8]; exact mul_toInt (by first | omega | (rw [y_48]; omega)) (by first | omega | (rw [y_48]; omega))
        rw [y_48] at t_x_8
        have t_x_11 : x_11.toInt = (4 : Int32).toInt * (x_10 : Int32).toInt := by rw [ex_11]; exact mul_toInt (by first | omega | (rw [y_4]; omega)) (by first | omega | (rw [y_4]; omega))
        rw [y_4] at t_x_11
        have t_x_12 : x_12.toInt = (x_8 : Int32).toInt + (x_11 : Int32).toInt := by rw [ex_12]; exact add_toInt (by omega) (by omega)
        have t_x_86 : x_86.toInt = (x_12 : Int32).toInt + (3 : Int32).toInt := by rw [ex_86]; exact add_toInt (by omega) (by omega)
        refine vp_in_iff.mpr ⟨?_, ?_⟩ <;> omega
      refine st_int hx hb hK hP hD hS 0 0 rfl rfl hi_89 dX12_isBuyHere_126 (fun g_90 H locs eg_90 hP hD hS => ?_)
      have hP : va_P D classes [((Ma 4), .inl (tc 0, 288, .inl g_90)), ((Ma 5), .inl (tc 0, 6, .inl (Mf 5))), ((Ma 7), .inl (tc 0, 400, .inl (Mf 7))), ((Ma 2), .inl (tc 0, 2400, .inl sv_34)), ((Ma 3), .inl (tc 0, 7, .inl sv_35)), ((Ma 0), .inr (12, [.ref (Ma 1), .int (Mv 0), .int (Mv 1), .ref (Ma 2), .ref (Ma 3), .ref (Ma 4), .ref (Ma 5), .ref (Ma 6), .int sv_80, .int sv_31, .int sv_32, .int (Mv 5), .int sv_33, .int (Mv 7), .int (Mv 8), .ref (Ma 7), .int (Mv 9), .ref (Ma 8), .int (Mv 10), .ref (Ma 9), .ref (Ma 10), .int (Mv 11), .int (Mv 12), .int (Mv 13), .ref (Ma 11), .int (Mv 14), .ref (Ma 12), .ref (Ma 13), .ref (Ma 14), .ref (Ma 15), .ref (Ma 16), .long (Mj 0), .ref (Ma 17), .ref (Ma 18), .ref (Ma 19), .ref (Ma 20)])), ((Ma 1), .inl (tc 2, 400, .inl (Mf 1)))] H := hP
      have hD : va_D A [((Ma 4), .inl (tc 0, 288, .inl g_90)), ((Ma 5), .inl (tc 0, 6, .inl (Mf 5))), ((Ma 7), .inl (tc 0, 400, .inl (Mf 7))), ((Ma 2), .inl (tc 0, 2400, .inl sv_34)), ((Ma 3), .inl (tc 0, 7, .inl sv_35)), ((Ma 0), .inr (12, [.ref (Ma 1), .int (Mv 0), .int (Mv 1), .ref (Ma 2), .ref (Ma 3), .ref (Ma 4), .ref (Ma 5), .ref (Ma 6), .int sv_80, .int sv_31, .int sv_32, .int (Mv 5), .int sv_33, .int (Mv 7), .int (Mv 8), .ref (Ma 7), .int (Mv 9), .ref (Ma 8), .int (Mv 10), .ref (Ma 9), .ref (Ma 10), .int (Mv 11), .int (Mv 12), .int (Mv 13), .ref (Ma 11), .int (Mv 14), .ref (Ma 12), .ref (Ma 13), .ref (Ma 14), .ref (Ma 15), .ref (Ma 16), .long (Mj 0), .ref (Ma 17), .ref (Ma 18), .ref (Ma 19), .ref (Ma 20)])), ((Ma 1), .inl (tc 2, 400, .inl (Mf 1)))] := hD
      have hi_91 : (x_86 : Int32).toInt = (A0 : Int) + (3 : Nat) := by
        have z_1 : ¬ (r_39 : Int32).toInt = (0 : Int32).toInt := fun z => c_47 (Int32.toInt_inj.mp z)
        have z_2 := congrArg Int32.toInt c_85
        have y_0 : (0 : Int32).toInt = 0 := by decide
        have y_3 : (3 : Int32).toInt = 3 := by decide
        have y_4 : (4 : Int32).toInt = 4 := by decide
        have y_48 : (48 : Int32).toInt = 48 := by decide
        have t_x_8 : x_8.toInt = (48 : Int32).toInt * ((Mv 5) : Int32).toInt := by rw [ex_8]; exact mul_toInt (by first | omega | (rw [y_48]; omega)) (by first | omega | (rw [y_48]; omega))
        rw [y_48] at t_x_8
        have t_x_11 : x_11.toInt = (4 : Int32).toInt * (x_10 : Int32).toInt := by rw [ex_11]; exact mul_toInt (by first | omega | (rw [y_4]; omega)) (by first | omega | (rw [y_4]; omega))
        rw [y_4] at t_x_11
        have t_x_12 : x_12.toInt = (x_8 : Int32).toInt + (x_11 : Int32).toInt := by rw [ex_12]; exact add_toInt (by omega) (by omega)
        have t_x_86 : x_86.toInt = (x_12 : Int32).toInt + (3 : Int32).toInt := by rw [ex_86]; exact add_toInt (by omega) (by omega)
        omega
      have hr_93 : 48 * (Mv 5).toInt + 4 * ((Mf 5) (Mv 5).toInt.toNat).toInt ≤ (((x_86 : Int32).toNatClampNeg : Nat) : Int) := by
        have z_1 : ¬ (r_39 : Int32).toInt = (0 : Int32).toInt := fun z => c_47 (Int32.toInt_inj.mp z)
        have z_2 := congrArg Int32.toInt c_85
        have y_0 : (0 : Int32).toInt = 0 := by decide
        have y_3 : (3 : Int32).toInt = 3 := by decide
        have y_4 : (4 : Int32).toInt = 4 := by decide
        have y_48 : (48 : Int32).toInt = 48 := by decide
        have t_x_8 : x_8.toInt = (48 : Int32).toInt * ((Mv 5) : Int32).toInt := by rw [ex_8]; exact mul_toInt (by first | omega | (rw [y_48]; omega)) (by first | omega | (rw [y_48]; omega))
        rw [y_48] at t_x_8
        have t_x_11 : x_11.toInt = (4 : Int32).toInt * (x_10 : Int32).toInt := by rw [ex_11]; exact mul_toInt (by first | omega | (rw [y_4]; omega)) (by first | omega | (rw [y_4]; omega))
        rw [y_4] at t_x_11
        have t_x_12 : x_12.toInt = (x_8 : Int32).toInt + (x_11 : Int32).toInt := by rw [ex_12]; exact add_toInt (by omega) (by omega)
        have t_x_86 : x_86.toInt = (x_12 : Int32).toInt + (3 : Int32).toInt := by rw [ex_86]; exact add_toInt (by omega) (by omega)
        have hcl : (x_86 : Int32).toNatClampNeg = (x_86 : Int32).toInt.toNat := rfl
        omega
      have pf_92 : RulP (Mf 2) g_90 (Mf 5) (Mv 5) (((Mf 3) (Mv 5).toNatClampNeg).toInt) := RulP.cl pf_67 eg_90 h_t.1 hr_93
      have ar_pf_92 := pf_92.2.1
      have hr_95 : ¬ (x_86 : Int32).toInt = (A0 : Int) + (0 : Nat) := by omega
      have pf_94 : ClV g_90 A0 0 x_14 := ClV.keep pf_69 eg_90 hr_95 (by omega)
      have hr_97 : 48 * (Mv 5).toInt + 4 * ((Mf 5) (Mv 5).toInt.toNat).toInt ≤ (((x_86 : Int32).toNatClampNeg : Nat) : Int) := by
        have z_1 : ¬ (r_39 : Int32).toInt = (0 : Int32).toInt := fun z => c_47 (Int32.toInt_inj.mp z)
        have z_2 := congrArg Int32.toInt c_85
        have y_0 : (0 : Int32).toInt = 0 := by decide
        have y_3 : (3 : Int32).toInt = 3 := by decide
        have y_4 : (4 : Int32).toInt = 4 := by decide
        have y_48 : (48 : Int32).toInt = 48 := by decide
        have t_x_8 : x_8.toInt = (48 : Int32).toInt * ((Mv 5) : Int32).toInt := by rw [ex_8]; exact mul_toInt (by first | omega | (rw [y_48]; omega)) (by first | omega | (rw [y_48]; omega))
        rw [y_48] at t_x_8
        have t_x_11 : x_11.toInt = (4 : Int32).toInt * (x_10 : Int32).toInt := by rw [ex_11]; exact mul_toInt (by first | omega | (rw [y_4]; omega)) (by first | omega | (rw [y_4]; omega))
        rw [y_4] at t_x_11
        have t_x_12 : x_12.toInt = (x_8 : Int32).toInt + (x_11 : Int32).toInt := by rw [ex_12]; exact add_toInt (by omega) (by omega)
        have t_x_86 : x_86.toInt = (x_12 : Int32).toInt + (3 : Int32).toInt := by rw [ex_86]; exact add_toInt (by omega) (by omega)
        have hcl : (x_86 : Int32).toNatClampNeg = (x_86 : Int32).toInt.toNat := rfl
        omega
      have pf_96 : RulP sv_34 g_90 (Mf 5) (Mv 5) (((Mf 3) (Mv 5).toNatClampNeg).toInt) := RulP.cl pf_71 eg_90 h_t.1 hr_97
      have ar_pf_96 := pf_96.2.1
      have hr_99 : ¬ (x_86 : Int32).toInt = (A0 : Int) + (1 : Nat) := by omega
      have pf_98 : ClV g_90 A0 1 x_52 := ClV.keep pf_73 eg_90 hr_99 (by omega)
      have hr_101 : ¬ (x_86 : Int32).toInt = (A0 : Int) + (2 : Nat) := by omega
      have pf_100 : ClV g_90 A0 2 (-1) := ClV.keep pf_75 eg_90 hr_101 (by omega)
      have pf_102 : ClV g_90 A0 3 x_88 := ClV.put eg_90 hi_91
      refine lv_aload_n hx hb dX12_isBuyHere_127 rfl (lv_at hl 1 rfl) ?_
      refine gf_X12_23 hx hb hts hown hK hP 5 rfl rfl dX12_isBuyHere_128 ?_
      refine lv_aload_n hx hb dX12_isBuyHere_131 rfl (lv_at hl 1 rfl) ?_
      refine gf_X12_145 hx hb hts hown hK hP 5 rfl rfl dX12_isBuyHere_132 ?_
      refine lv_dup2_11 hx hb dX12_isBuyHere_135 rfl rfl ?_
      have hi_103 : vp_in (Mv 5) 6 := by
        have z_1 : ¬ (r_39 : Int32).toInt = (0 : Int32).toInt := fun z => c_47 (Int32.toInt_inj.mp z)
        have z_2 := congrArg Int32.toInt c_85
        have y_0 : (0 : Int32).toInt = 0 := by decide
        refine vp_in_iff.mpr ⟨?_, ?_⟩ <;> omega
      refine va_iald hx hb hK hP 1 0 rfl rfl hi_103 dX12_isBuyHere_136 ?_
      refine lv_topi (fun x_104 ex_104 => ?_)
      have kx_104 : x_104.toInt = ((Mf 5) ((Mv 5) : Int32).toInt.toNat).toInt := congrArg Int32.toInt ex_104
      refine lv_iconst (v := 1) hx hb dX12_isBuyHere_137 (by decide) ?_
      refine lv_iadd hx hb dX12_isBuyHere_138 ?_
      refine lv_topi (fun x_105 ex_105 => ?_)
      have hi_106 : vp_in (Mv 5) 6 := by
        have z_1 : ¬ (r_39 : Int32).toInt = (0 : Int32).toInt := fun z => c_47 (Int32.toInt_inj.mp z)
        have z_2 := congrArg Int32.toInt c_85
        have y_0 : (0 : Int32).toInt = 0 := by decide
        refine vp_in_iff.mpr ⟨?_, ?_⟩ <;> omega
      refine st_int hx hb hK hP hD hS 1 0 rfl rfl hi_106 dX12_isBuyHere_139 (fun g_107 H locs eg_107 hP hD hS => ?_)
      have hP : va_P D classes [((Ma 4), .inl (tc 0, 288, .inl g_90)), ((Ma 5), .inl (tc 0, 6, .inl g_107)), ((Ma 7), .inl (tc 0, 400, .inl (Mf 7))), ((Ma 2), .inl (tc 0, 2400, .inl sv_34)), ((Ma 3), .inl (tc 0, 7, .inl sv_35)), ((Ma 0), .inr (12, [.ref (Ma 1), .int (Mv 0), .int (Mv 1), .ref (Ma 2), .ref (Ma 3), .ref (Ma 4), .ref (Ma 5), .ref (Ma 6), .int sv_80, .int sv_31, .int sv_32, .int (Mv 5), .int sv_33, .int (Mv 7), .int (Mv 8), .ref (Ma 7), .int (Mv 9), .ref (Ma 8), .int (Mv 10), .ref (Ma 9), .ref (Ma 10), .int (Mv 11), .int (Mv 12), .int (Mv 13), .ref (Ma 11), .int (Mv 14), .ref (Ma 12), .ref (Ma 13), .ref (Ma 14), .ref (Ma 15), .ref (Ma 16), .long (Mj 0), .ref (Ma 17), .ref (Ma 18), .ref (Ma 19), .ref (Ma 20)])), ((Ma 1), .inl (tc 2, 400, .inl (Mf 1)))] H := hP
      have hD : va_D A [((Ma 4), .inl (tc 0, 288, .inl g_90)), ((Ma 5), .inl (tc 0, 6, .inl g_107)), ((Ma 7), .inl (tc 0, 400, .inl (Mf 7))), ((Ma 2), .inl (tc 0, 2400, .inl sv_34)), ((Ma 3), .inl (tc 0, 7, .inl sv_35)), ((Ma 0), .inr (12, [.ref (Ma 1), .int (Mv 0), .int (Mv 1), .ref (Ma 2), .ref (Ma 3), .ref (Ma 4), .ref (Ma 5), .ref (Ma 6), .int sv_80, .int sv_31, .int sv_32, .int (Mv 5), .int sv_33, .int (Mv 7), .int (Mv 8), .ref (Ma 7), .int (Mv 9), .ref (Ma 8), .int (Mv 10), .ref (Ma 9), .ref (Ma 10), .int (Mv 11), .int (Mv 12), .int (Mv 13), .ref (Ma 11), .int (Mv 14), .ref (Ma 12), .ref (Ma 13), .ref (Ma 14), .ref (Ma 15), .ref (Ma 16), .long (Mj 0), .ref (Ma 17), .ref (Ma 18), .ref (Ma 19), .ref (Ma 20)])), ((Ma 1), .inl (tc 2, 400, .inl (Mf 1)))] := hD
      have hr_108 : (((Mf 3) (Mv 5).toNatClampNeg).toInt) ≤ ((sv_35 (Mv 5).toNatClampNeg).toInt) := by
        have z_1 : ¬ (r_39 : Int32).toInt = (0 : Int32).toInt := fun z => c_47 (Int32.toInt_inj.mp z)
        have z_2 := congrArg Int32.toInt c_85
        have y_0 : (0 : Int32).toInt = 0 := by decide
        omega
      have hy_109 : (x_105 : Int32).toInt = ((Mf 5) (Mv 5).toInt.toNat).toInt + 1 := by
        have z_1 : ¬ (r_39 : Int32).toInt = (0 : Int32).toInt := fun z => c_47 (Int32.toInt_inj.mp z)
        have z_2 := congrArg Int32.toInt c_85
        have y_0 : (0 : Int32).toInt = 0 := by decide
        have y_1 : (1 : Int32).toInt = 1 := by decide
        have t_x_105 : x_105.toInt = (x_104 : Int32).toInt + (1 : Int32).toInt := by rw [ex_105]; exact add_toInt (by omega) (by omega)
        omega
      have hw_110 : WFc sv_34 (Mv 5) (g_90 A0) (g_90 (A0 + 1)) := by
        have z0 : g_90 A0 = x_14 := pf_94
        have z1 : g_90 (A0 + 1) = x_52 := pf_98
        rw [z0, z1]
        exact None
      have hb_111 : (g_90 (A0 + 1)).toInt ≤ ((sv_35 (Mv 5).toNatClampNeg).toInt) := by
        have z1 : g_90 (A0 + 1) = x_52 := pf_98
        rw [z1]
        have z_1 : ¬ (r_39 : Int32).toInt = (0 : Int32).toInt := fun z => c_47 (Int32.toInt_inj.mp z)
        have z_2 := congrArg Int32.toInt c_85
        have y_0 : (0 : Int32).toInt = 0 := by decide
        omega
      have hw_112 : 0 ≤ (g_90 (A0 + 2)).toInt → WFc sv_34 (Mv 5) (g_90 (A0 + 2)) (g_90 (A0 + 3)) ∧ (g_90 (A0 + 3)).toInt ≤ ((sv_35 (Mv 5).toNatClampNeg).toInt) := by
        have z2 : g_90 (A0 + 2) = (-1) := pf_100
        have z3 : g_90 (A0 + 3) = x_88 := pf_102
        rw [z2, z3]
        intro hz
        exact absurd hz (by decide)
      have pf_113 : RulP sv_34 g_90 g_107 (Mv 5) ((sv_35 (Mv 5).toNatClampNeg).toInt) := by
        subst hA0
        exact RulP.snoc (RulP.mono pf_96 hr_108) h_t.1 eg_107 hy_109 hw_110 hb_111 hw_112
      have ar_pf_113 := pf_113.2.1
      have kc_g_107 : (g_107 (Mv 5).toInt.toNat).toInt = (x_105 : Int32).toInt := upd_toInt_at eg_107
      refine lv_iconst (v := 1) hx hb dX12_isBuyHere_140 (by decide) ?_
      have ha_114 : ((Mv 2) : Int32).toInt ≤ (sv_80 : Int32).toInt ∧ (sv_80 : Int32).toInt ≤ ((Mv 0) : Int32).toInt := by
        have z_1 : ¬ (r_39 : Int32).toInt = (0 : Int32).toInt := fun z => c_47 (Int32.toInt_inj.mp z)
        have z_2 := congrArg Int32.toInt c_85
        have y_0 : (0 : Int32).toInt = 0 := by decide
        refine ⟨?_, ?_⟩ <;> omega
      have ha_115 : ((Mv 6) : Int32).toInt ≤ (sv_33 : Int32).toInt ∧ (sv_33 : Int32).toInt ≤ 60 := by
        have z_1 : ¬ (r_39 : Int32).toInt = (0 : Int32).toInt := fun z => c_47 (Int32.toInt_inj.mp z)
        have z_2 := congrArg Int32.toInt c_85
        have y_0 : (0 : Int32).toInt = 0 := by decide
        refine ⟨?_, ?_⟩ <;> omega
      have hp_116 : (((1 : Int32).toInt = 0 ∧ ¬ (sv_31 : Int32).toInt = 0) ∨ ((1 : Int32).toInt = 1 ∧ 0 ≤ (sv_35 (Mv 5).toNatClampNeg).toInt ∧ (sv_35 (Mv 5).toNatClampNeg).toInt ≤ (sv_80 : Int32).toInt ∧ (g_107 (Mv 5).toInt.toNat).toInt = ((Mf 5) (Mv 5).toInt.toNat).toInt + 1)) := by
        have z_1 : ¬ (r_39 : Int32).toInt = (0 : Int32).toInt := fun z => c_47 (Int32.toInt_inj.mp z)
        have z_2 := congrArg Int32.toInt c_85
        have y_0 : (0 : Int32).toInt = 0 := by decide
        have y_1 : (1 : Int32).toInt = 1 := by decide
        have yr : (1 : Int32).toInt = 1 := by decide
        omega
      have hm_117 : (1 : Int32).toInt = 1 → (RulP sv_34 g_90 g_107 (Mv 5) ((sv_35 (Mv 5).toNatClampNeg).toInt)) := by
        intro h1r
        exact pf_113
      exact retI (v := 1) hx hb hr hlk (rfl) hP hD hS (sv_80, sv_31, sv_32, sv_33, (Mv 7), (Mv 9), sv_34, sv_35, g_90, g_107, (Mf 7)) ⟨_, rfl, hp_116, ha_114, ha_115, pf_113.1, hm_117⟩ [5, 6, 3, 4, 0, 1, 2] rfl rfl dX12_isBuyHere_141 (Nat.le_of_ble_eq_true rfl) (Nat.le_of_ble_eq_true rfl) rfl
    · skip
      refine lv_aload_n hx hb dX12_isBuyHere_84 rfl (lv_at hl 1 rfl) ?_
      refine gf_X12_20 hx hb hts hown hK hP 5 rfl rfl dX12_isBuyHere_85 ?_
      refine lv_iload_n hx hb dX12_isBuyHere_88 rfl (lv_at hl 0 rfl) ?_
      refine lv_iconst (v := 2) hx hb dX12_isBuyHere_89 (by decide) ?_
      refine lv_iadd hx hb dX12_isBuyHere_90 ?_
      refine lv_topi (fun x_118 ex_118 => ?_)
      refine lv_aload_n hx hb dX12_isBuyHere_91 rfl (lv_at hl 1 rfl) ?_
      refine gf_X12_17 hx hb hts hown hK hP 5 rfl rfl dX12_isBuyHere_92 ?_
      refine lv_aload_n hx hb dX12_isBuyHere_95 rfl (lv_at hl 1 rfl) ?_
      refine gf_X12_145 hx hb hts hown hK hP 5 rfl rfl dX12_isBuyHere_96 ?_
      have hi_119 : vp_in (Mv 5) 7 := by
        have z_1 : ¬ (r_39 : Int32).toInt = (0 : Int32).toInt := fun z => c_47 (Int32.toInt_inj.mp z)
        have z_2 : ¬ (r_82 : Int32).toInt = (0 : Int32).toInt := fun z => c_85 (Int32.toInt_inj.mp z)
        have y_0 : (0 : Int32).toInt = 0 := by decide
        refine vp_in_iff.mpr ⟨?_, ?_⟩ <;> omega
      refine va_iald hx hb hK hP 4 0 rfl rfl hi_119 dX12_isBuyHere_99 ?_
      refine lv_topi (fun x_120 ex_120 => ?_)
      have kx_120 : x_120.toInt = (sv_35 ((Mv 5) : Int32).toNatClampNeg).toInt := congrArg Int32.toInt ex_120
      have hi_121 : vp_in x_118 288 := by
        have z_1 : ¬ (r_39 : Int32).toInt = (0 : Int32).toInt := fun z => c_47 (Int32.toInt_inj.mp z)
        have z_2 : ¬ (r_82 : Int32).toInt = (0 : Int32).toInt := fun z => c_85 (Int32.toInt_inj.mp z)
        have y_0 : (0 : Int32).toInt = 0 := by decide
        have y_2 : (2 : Int32).toInt = 2 := by decide
        have y_4 : (4 : Int32).toInt = 4 := by decide
        have y_48 : (48 : Int32).toInt = 48 := by decide
        have t_x_8 : x_8.toInt = (48 : Int32).toInt * ((Mv 5) : Int32).toInt := by rw [ex_8]; exact mul_toInt (by first | omega | (rw [y_48]; omega)) (by first | omega | (rw [y_48]; omega))
        rw [y_48] at t_x_8
        have t_x_11 : x_11.toInt = (4 : Int32).toInt * (x_10 : Int32).toInt := by rw [ex_11]; exact mul_toInt (by first | omega | (rw [y_4]; omega)) (by first | omega | (rw [y_4]; omega))
        rw [y_4] at t_x_11
        have t_x_12 : x_12.toInt = (x_8 : Int32).toInt + (x_11 : Int32).toInt := by rw [ex_12]; exact add_toInt (by omega) (by omega)
        have t_x_118 : x_118.toInt = (x_12 : Int32).toInt + (2 : Int32).toInt := by rw [ex_118]; exact add_toInt (by omega) (by omega)
        refine vp_in_iff.mpr ⟨?_, ?_⟩ <;> omega
      refine st_int hx hb hK hP hD hS 0 0 rfl rfl hi_121 dX12_isBuyHere_100 (fun g_122 H locs eg_122 hP hD hS => ?_)
      have hP : va_P D classes [((Ma 4), .inl (tc 0, 288, .inl g_122)), ((Ma 5), .inl (tc 0, 6, .inl (Mf 5))), ((Ma 7), .inl (tc 0, 400, .inl (Mf 7))), ((Ma 2), .inl (tc 0, 2400, .inl sv_34)), ((Ma 3), .inl (tc 0, 7, .inl sv_35)), ((Ma 0), .inr (12, [.ref (Ma 1), .int (Mv 0), .int (Mv 1), .ref (Ma 2), .ref (Ma 3), .ref (Ma 4), .ref (Ma 5), .ref (Ma 6), .int sv_80, .int sv_31, .int sv_32, .int (Mv 5), .int sv_33, .int (Mv 7), .int (Mv 8), .ref (Ma 7), .int (Mv 9), .ref (Ma 8), .int (Mv 10), .ref (Ma 9), .ref (Ma 10), .int (Mv 11), .int (Mv 12), .int (Mv 13), .ref (Ma 11), .int (Mv 14), .ref (Ma 12), .ref (Ma 13), .ref (Ma 14), .ref (Ma 15), .ref (Ma 16), .long (Mj 0), .ref (Ma 17), .ref (Ma 18), .ref (Ma 19), .ref (Ma 20)])), ((Ma 1), .inl (tc 2, 400, .inl (Mf 1)))] H := hP
      have hD : va_D A [((Ma 4), .inl (tc 0, 288, .inl g_122)), ((Ma 5), .inl (tc 0, 6, .inl (Mf 5))), ((Ma 7), .inl (tc 0, 400, .inl (Mf 7))), ((Ma 2), .inl (tc 0, 2400, .inl sv_34)), ((Ma 3), .inl (tc 0, 7, .inl sv_35)), ((Ma 0), .inr (12, [.ref (Ma 1), .int (Mv 0), .int (Mv 1), .ref (Ma 2), .ref (Ma 3), .ref (Ma 4), .ref (Ma 5), .ref (Ma 6), .int sv_80, .int sv_31, .int sv_32, .int (Mv 5), .int sv_33, .int (Mv 7), .int (Mv 8), .ref (Ma 7), .int (Mv 9), .ref (Ma 8), .int (Mv 10), .ref (Ma 9), .ref (Ma 10), .int (Mv 11), .int (Mv 12), .int (Mv 13), .ref (Ma 11), .int (Mv 14), .ref (Ma 12), .ref (Ma 13), .ref (Ma 14), .ref (Ma 15), .ref (Ma 16), .long (Mj 0), .ref (Ma 17), .ref (Ma 18), .ref (Ma 19), .ref (Ma 20)])), ((Ma 1), .inl (tc 2, 400, .inl (Mf 1)))] := hD
      have hi_123 : (x_118 : Int32).toInt = (A0 : Int) + (2 : Nat) := by
        have z_1 : ¬ (r_39 : Int32).toInt = (0 : Int32).toInt := fun z => c_47 (Int32.toInt_inj.mp z)
        have z_2 : ¬ (r_82 : Int32).toInt = (0 : Int32).toInt := fun z => c_85 (Int32.toInt_inj.mp z)
        have y_0 : (0 : Int32).toInt = 0 := by decide
        have y_2 : (2 : Int32).toInt = 2 := by decide
        have y_4 : (4 : Int32).toInt = 4 := by decide
        have y_48 : (48 : Int32).toInt = 48 := by decide
        have t_x_8 : x_8.toInt = (48 : Int32).toInt * ((Mv 5) : Int32).toInt := by rw [ex_8]; exact mul_toInt (by first | omega | (rw [y_48]; omega)) (by first | omega | (rw [y_48]; omega))
        rw [y_48] at t_x_8
        have t_x_11 : x_11.toInt = (4 : Int32).toInt * (x_10 : Int32).toInt := by rw [ex_11]; exact mul_toInt (by first | omega | (rw [y_4]; omega)) (by first | omega | (rw [y_4]; omega))
        rw [y_4] at t_x_11
        have t_x_12 : x_12.toInt = (x_8 : Int32).toInt + (x_11 : Int32).toInt := by rw [ex_12]; exact add_toInt (by omega) (by omega)
        have t_x_118 : x_118.toInt = (x_12 : Int32).toInt + (2 : Int32).toInt := by rw [ex_118]; exact add_toInt (by omega) (by omega)
        omega
      have hr_125 : 48 * (Mv 5).toInt + 4 * ((Mf 5) (Mv 5).toInt.toNat).toInt ≤ (((x_118 : Int32).toNatClampNeg : Nat) : Int) := by
        have z_1 : ¬ (r_39 : Int32).toInt = (0 : Int32).toInt := fun z => c_47 (Int32.toInt_inj.mp z)
        have z_2 : ¬ (r_82 : Int32).toInt = (0 : Int32).toInt := fun z => c_85 (Int32.toInt_inj.mp z)
        have y_0 : (0 : Int32).toInt = 0 := by decide
        have y_2 : (2 : Int32).toInt = 2 := by decide
        have y_4 : (4 : Int32).toInt = 4 := by decide
        have y_48 : (48 : Int32).toInt = 48 := by decide
        have t_x_8 : x_8.toInt = (48 : Int32).toInt * ((Mv 5) : Int32).toInt := by rw [ex_8]; exact mul_toInt (by first | omega | (rw [y_48]; omega)) (by first | omega | (rw [y_48]; omega))
        rw [y_48] at t_x_8
        have t_x_11 : x_11.toInt = (4 : Int32).toInt * (x_10 : Int32).toInt := by rw [ex_11]; exact mul_toInt (by first | omega | (rw [y_4]; omega)) (by first | omega | (rw [y_4]; omega))
        rw [y_4] at t_x_11
        have t_x_12 : x_12.toInt = (x_8 : Int32).toInt + (x_11 : Int32).toInt := by rw [ex_12]; exact add_toInt (by omega) (by omega)
        have t_x_118 : x_118.toInt = (x_12 : Int32).toInt + (2 : Int32).toInt := by rw [ex_118]; exact add_toInt (by omega) (by omega)
        have hcl : (x_118 : Int32).toNatClampNeg = (x_118 : Int32).toInt.toNat := rfl
        omega
      have pf_124 : RulP (Mf 2) g_122 (Mf 5) (Mv 5) (((Mf 3) (Mv 5).toNatClampNeg).toInt) := RulP.cl pf_67 eg_122 h_t.1 hr_125
      have ar_pf_124 := pf_124.2.1
      have hr_127 : ¬ (x_118 : Int32).toInt = (A0 : Int) + (0 : Nat) := by omega
      have pf_126 : ClV g_122 A0 0 x_14 := ClV.keep pf_69 eg_122 hr_127 (by omega)
      have hr_129 : 48 * (Mv 5).toInt + 4 * ((Mf 5) (Mv 5).toInt.toNat).toInt ≤ (((x_118 : Int32).toNatClampNeg : Nat) : Int) := by
        have z_1 : ¬ (r_39 : Int32).toInt = (0 : Int32).toInt := fun z => c_47 (Int32.toInt_inj.mp z)
        have z_2 : ¬ (r_82 : Int32).toInt = (0 : Int32).toInt := fun z => c_85 (Int32.toInt_inj.mp z)
        have y_0 : (0 : Int32).toInt = 0 := by decide
        have y_2 : (2 : Int32).toInt = 2 := by decide
        have y_4 : (4 : Int32).toInt = 4 := by decide
        have y_48 : (48 : Int32).toInt = 48 := by decide
        have t_x_8 : x_8.toInt = (48 : Int32).toInt * ((Mv 5) : Int32).toInt := by rw [ex_8]; exact mul_toInt (by first | omega | (rw [y_48]; omega)) (by first | omega | (rw [y_48]; omega))
        rw [y_48] at t_x_8
        have t_x_11 : x_11.toInt = (4 : Int32).toInt * (x_10 : Int32).toInt := by rw [ex_11]; exact mul_toInt (by first | omega | (rw [y_4]; omega)) (by first | omega | (rw [y_4]; omega))
        rw [y_4] at t_x_11
        have t_x_12 : x_12.toInt = (x_8 : Int32).toInt + (x_11 : Int32).toInt := by rw [ex_12]; exact add_toInt (by omega) (by omega)
        have t_x_118 : x_118.toInt = (x_12 : Int32).toInt + (2 : Int32).toInt := by rw [ex_118]; exact add_toInt (by omega) (by omega)
        have hcl : (x_118 : Int32).toNatClampNeg = (x_118 : Int32).toInt.toNat := rfl
        omega
      have pf_128 : RulP sv_34 g_122 (Mf 5) (Mv 5) (((Mf 3) (Mv 5).toNatClampNeg).toInt) := RulP.cl pf_71 eg_122 h_t.1 hr_129
      have ar_pf_128 := pf_128.2.1
      have hr_131 : ¬ (x_118 : Int32).toInt = (A0 : Int) + (1 : Nat) := by omega
      have pf_130 : ClV g_122 A0 1 x_52 := ClV.keep pf_73 eg_122 hr_131 (by omega)
      have pf_132 : ClV g_122 A0 2 x_120 := ClV.put eg_122 hi_123
      have hr_134 : 0 ≤ (x_120 : Int32).toInt ∧ (x_120 : Int32).toInt ≤ 400 := by
        have z_1 : ¬ (r_39 : Int32).toInt = (0 : Int32).toInt := fun z => c_47 (Int32.toInt_inj.mp z)
        have z_2 : ¬ (r_82 : Int32).toInt = (0 : Int32).toInt := fun z => c_85 (Int32.toInt_inj.mp z)
        have y_0 : (0 : Int32).toInt = 0 := by decide
        refine ⟨?_, ?_⟩ <;> omega
      have hr_135 : 0 ≤ (sv_33 : Int32).toInt ∧ (sv_33 : Int32).toInt ≤ 60 := by
        have z_1 : ¬ (r_39 : Int32).toInt = (0 : Int32).toInt := fun z => c_47 (Int32.toInt_inj.mp z)
        have z_2 : ¬ (r_82 : Int32).toInt = (0 : Int32).toInt := fun z => c_85 (Int32.toInt_inj.mp z)
        have y_0 : (0 : Int32).toInt = 0 := by decide
        refine ⟨?_, ?_⟩ <;> omega
      have pf_133 : Cd sv_34 sv_35 (Mv 5) x_120 sv_33 0 := Cd.nil h_t ex_120 hr_134 hr_135
      have ar_pf_133 := Cd.ar pf_133
      refine lv_aload_n hx hb dX12_isBuyHere_101 rfl (lv_at hl 1 rfl) ?_
      have ha_136 : 0 ≤ (sv_80 : Int32).toInt ∧ (sv_80 : Int32).toInt ≤ ((Mv 0) : Int32).toInt ∧ ((Mv 0) : Int32).toInt ≤ 400 := by
        have z_1 : ¬ (r_39 : Int32).toInt = (0 : Int32).toInt := fun z => c_47 (Int32.toInt_inj.mp z)
        have z_2 : ¬ (r_82 : Int32).toInt = (0 : Int32).toInt := fun z => c_85 (Int32.toInt_inj.mp z)
        have y_0 : (0 : Int32).toInt = 0 := by decide
        refine ⟨?_, ?_, ?_⟩ <;> omega
      have ha_137 : (sv_35 (Mv 5).toNatClampNeg).toInt ≤ (sv_80 : Int32).toInt := by
        have z_1 : ¬ (r_39 : Int32).toInt = (0 : Int32).toInt := fun z => c_47 (Int32.toInt_inj.mp z)
        have z_2 : ¬ (r_82 : Int32).toInt = (0 : Int32).toInt := fun z => c_85 (Int32.toInt_inj.mp z)
        have y_0 : (0 : Int32).toInt = 0 := by decide
        omega
      have ha_138 : 0 ≤ (sv_33 : Int32).toInt ∧ (sv_33 : Int32).toInt ≤ 60 := by
        have z_1 : ¬ (r_39 : Int32).toInt = (0 : Int32).toInt := fun z => c_47 (Int32.toInt_inj.mp z)
        have z_2 : ¬ (r_82 : Int32).toInt = (0 : Int32).toInt := fun z => c_85 (Int32.toInt_inj.mp z)
        have y_0 : (0 : Int32).toInt = 0 := by decide
        refine ⟨?_, ?_⟩ <;> omega
      refine cV (a := (Ma 0)) (As := []) (rest := []) (wr := [((Ma 4), .inl (tc 0, 288, .inl g_122)), ((Ma 5), .inl (tc 0, 6, .inl (Mf 5)))]) ⟨hx, hb, hml, hown, hts⟩ hK hX hA (ct_X12_tested l D tc sk Ma (fun k => ([(Mv 0), (Mv 1), sv_80, sv_31, sv_32, (Mv 5), sv_33, (Mv 7), (Mv 8), (Mv 9), (Mv 10), (Mv 11), (Mv 12), (Mv 13), (Mv 14)] : List (Int32)).getD k 0) (fun k => ([(fun _ => 0), (Mf 1), sv_34, sv_35, (fun _ => 0), (fun _ => 0), (fun _ => 0), (Mf 7)] : List (Nat → Int32)).getD k (fun _ => 0)) Mj x_120 ha_136 pf_133 ha_137 ha_138) k_1321 k_1318 k_1320 k_49 k_106 pl_X12_tested ⟨Nat.le_of_ble_eq_true rfl, Nat.le_of_ble_eq_true rfl⟩ rfl rfl (va_recv hK hP (ci := 12) (q0 := 5) rfl rfl) hP hD hS [5, 6, 3, 4, 2] [0, 1] rfl rfl rfl rfl rfl (by decide) rfl hl.1 rfl (Nat.le_of_ble_eq_true rfl) dX12_isBuyHere_102 ⟨Nat.le_of_ble_eq_true rfl, Nat.le_of_ble_eq_true rfl⟩ (fun v_139 u_140 H locs hv_141 hP hD hS => ?_)
      obtain ⟨sv_142, sv_143, sv_144, sv_145, sv_146, sv_147, sv_148, sv_149, sv_150⟩ := u_140
      obtain ⟨r_154, rfl, he_155, pf_151, pf_152, pf_153, hm_157⟩ := hv_141
      have he_155 : ((r_154.toInt = 0 ∧ ¬ (sv_143 : Int32).toInt = 0) ∨ (r_154.toInt = 1 ∧ (sv_35 (Mv 5).toNatClampNeg).toInt ≤ (sv_149 (Mv 5).toNatClampNeg).toInt ∧ (sv_149 (Mv 5).toNatClampNeg).toInt ≤ (sv_142 : Int32).toInt)) := he_155
      have pf_151 : (sv_80 : Int32).toInt ≤ (sv_142 : Int32).toInt ∧ (sv_142 : Int32).toInt ≤ ((Mv 0) : Int32).toInt := pf_151
      have pf_152 : (sv_33 : Int32).toInt ≤ (sv_145 : Int32).toInt ∧ (sv_145 : Int32).toInt ≤ 60 := pf_152
      have pf_153 : Agr sv_34 sv_148 (400 * ((Mv 5) : Int32).toInt + (sv_35 (Mv 5).toNatClampNeg).toInt) := pf_153
      have hr_159 : 400 * ((Mv 5) : Int32).toInt + (((Mf 3) (Mv 5).toNatClampNeg).toInt) ≤ (400 * ((Mv 5) : Int32).toInt + (sv_35 (Mv 5).toNatClampNeg).toInt) ∧ 0 ≤ ((Mv 5) : Int32).toInt ∧ 0 ≤ (((Mf 3) (Mv 5).toNatClampNeg).toInt) := by
        have z_1 : ¬ (r_39 : Int32).toInt = (0 : Int32).toInt := fun z => c_47 (Int32.toInt_inj.mp z)
        have z_2 : ¬ (r_82 : Int32).toInt = (0 : Int32).toInt := fun z => c_85 (Int32.toInt_inj.mp z)
        have y_0 : (0 : Int32).toInt = 0 := by decide
        omega
      have pf_158 : RulP sv_148 (Mf 4) (Mf 5) (Mv 5) (((Mf 3) (Mv 5).toNatClampNeg).toInt) := RulP.agr pf_43 pf_153 hr_159.2.1 hr_159.1 hr_159.2.2
      have ar_pf_158 := pf_158.2.1
      have hr_161 : 400 * ((Mv 5) : Int32).toInt + (((Mf 3) (Mv 5).toNatClampNeg).toInt) ≤ (400 * ((Mv 5) : Int32).toInt + (sv_35 (Mv 5).toNatClampNeg).toInt) ∧ 0 ≤ ((Mv 5) : Int32).toInt ∧ 0 ≤ (((Mf 3) (Mv 5).toNatClampNeg).toInt) := by
        have z_1 : ¬ (r_39 : Int32).toInt = (0 : Int32).toInt := fun z => c_47 (Int32.toInt_inj.mp z)
        have z_2 : ¬ (r_82 : Int32).toInt = (0 : Int32).toInt := fun z => c_85 (Int32.toInt_inj.mp z)
        have y_0 : (0 : Int32).toInt = 0 := by decide
        omega
      have pf_160 : RulP sv_148 g_16 (Mf 5) (Mv 5) (((Mf 3) (Mv 5).toNatClampNeg).toInt) := RulP.agr pf_45 pf_153 hr_161.2.1 hr_161.1 hr_161.2.2
      have ar_pf_160 := pf_160.2.1
      have hr_163 : 400 * ((Mv 5) : Int32).toInt + (((Mf 3) (Mv 5).toNatClampNeg).toInt) ≤ (400 * ((Mv 5) : Int32).toInt + (sv_35 (Mv 5).toNatClampNeg).toInt) ∧ 0 ≤ ((Mv 5) : Int32).toInt ∧ 0 ≤ (((Mf 3) (Mv 5).toNatClampNeg).toInt) := by
        have z_1 : ¬ (r_39 : Int32).toInt = (0 : Int32).toInt := fun z => c_47 (Int32.toInt_inj.mp z)
        have z_2 : ¬ (r_82 : Int32).toInt = (0 : Int32).toInt := fun z => c_85 (Int32.toInt_inj.mp z)
        have y_0 : (0 : Int32).toInt = 0 := by decide
        omega
      have pf_162 : RulP sv_148 g_54 (Mf 5) (Mv 5) (((Mf 3) (Mv 5).toNatClampNeg).toInt) := RulP.agr pf_60 pf_153 hr_163.2.1 hr_163.1 hr_163.2.2
      have ar_pf_162 := pf_162.2.1
      have hr_165 : 400 * ((Mv 5) : Int32).toInt + (((Mf 3) (Mv 5).toNatClampNeg).toInt) ≤ (400 * ((Mv 5) : Int32).toInt + (sv_35 (Mv 5).toNatClampNeg).toInt) ∧ 0 ≤ ((Mv 5) : Int32).toInt ∧ 0 ≤ (((Mf 3) (Mv 5).toNatClampNeg).toInt) := by
        have z_1 : ¬ (r_39 : Int32).toInt = (0 : Int32).toInt := fun z => c_47 (Int32.toInt_inj.mp z)
        have z_2 : ¬ (r_82 : Int32).toInt = (0 : Int32).toInt := fun z => c_85 (Int32.toInt_inj.mp z)
        have y_0 : (0 : Int32).toInt = 0 := by decide
        omega
      have pf_164 : RulP sv_148 g_65 (Mf 5) (Mv 5) (((Mf 3) (Mv 5).toNatClampNeg).toInt) := RulP.agr pf_71 pf_153 hr_165.2.1 hr_165.1 hr_165.2.2
      have ar_pf_164 := pf_164.2.1
      have hr_167 : 400 * ((Mv 5) : Int32).toInt + (((Mf 3) (Mv 5).toNatClampNeg).toInt) ≤ (400 * ((Mv 5) : Int32).toInt + (sv_35 (Mv 5).toNatClampNeg).toInt) ∧ 0 ≤ ((Mv 5) : Int32).toInt ∧ 0 ≤ (((Mf 3) (Mv 5).toNatClampNeg).toInt) := by
        have z_1 : ¬ (r_39 : Int32).toInt = (0 : Int32).toInt := fun z => c_47 (Int32.toInt_inj.mp z)
        have z_2 : ¬ (r_82 : Int32).toInt = (0 : Int32).toInt := fun z => c_85 (Int32.toInt_inj.mp z)
        have y_0 : (0 : Int32).toInt = 0 := by decide
        omega
      have pf_166 : RulP sv_148 g_122 (Mf 5) (Mv 5) (((Mf 3) (Mv 5).toNatClampNeg).toInt) := RulP.agr pf_128 pf_153 hr_167.2.1 hr_167.1 hr_167.2.2
      have ar_pf_166 := pf_166.2.1
      refine W.eq (g2 := F0 m 105 ls [.int r_154]) rfl ?_
      have hP : va_P D classes [((Ma 4), .inl (tc 0, 288, .inl g_122)), ((Ma 5), .inl (tc 0, 6, .inl (Mf 5))), ((Ma 0), .inr (12, [.ref (Ma 1), .int (Mv 0), .int (Mv 1), .ref (Ma 2), .ref (Ma 3), .ref (Ma 4), .ref (Ma 5), .ref (Ma 6), .int sv_142, .int sv_143, .int sv_144, .int (Mv 5), .int sv_145, .int sv_146, .int (Mv 8), .ref (Ma 7), .int sv_147, .ref (Ma 8), .int (Mv 10), .ref (Ma 9), .ref (Ma 10), .int (Mv 11), .int (Mv 12), .int (Mv 13), .ref (Ma 11), .int (Mv 14), .ref (Ma 12), .ref (Ma 13), .ref (Ma 14), .ref (Ma 15), .ref (Ma 16), .long (Mj 0), .ref (Ma 17), .ref (Ma 18), .ref (Ma 19), .ref (Ma 20)])), ((Ma 1), .inl (tc 2, 400, .inl (Mf 1))), ((Ma 2), .inl (tc 0, 2400, .inl sv_148)), ((Ma 3), .inl (tc 0, 7, .inl sv_149)), ((Ma 7), .inl (tc 0, 400, .inl sv_150))] H := hP
      have hD : va_D A [((Ma 4), .inl (tc 0, 288, .inl g_122)), ((Ma 5), .inl (tc 0, 6, .inl (Mf 5))), ((Ma 0), .inr (12, [.ref (Ma 1), .int (Mv 0), .int (Mv 1), .ref (Ma 2), .ref (Ma 3), .ref (Ma 4), .ref (Ma 5), .ref (Ma 6), .int sv_142, .int sv_143, .int sv_144, .int (Mv 5), .int sv_145, .int sv_146, .int (Mv 8), .ref (Ma 7), .int sv_147, .ref (Ma 8), .int (Mv 10), .ref (Ma 9), .ref (Ma 10), .int (Mv 11), .int (Mv 12), .int (Mv 13), .ref (Ma 11), .int (Mv 14), .ref (Ma 12), .ref (Ma 13), .ref (Ma 14), .ref (Ma 15), .ref (Ma 16), .long (Mj 0), .ref (Ma 17), .ref (Ma 18), .ref (Ma 19), .ref (Ma 20)])), ((Ma 1), .inl (tc 2, 400, .inl (Mf 1))), ((Ma 2), .inl (tc 0, 2400, .inl sv_148)), ((Ma 3), .inl (tc 0, 7, .inl sv_149)), ((Ma 7), .inl (tc 0, 400, .inl sv_150))] := hD
      refine lv_if_ne (tgt := 110) hx hb dX12_isBuyHere_105 (by decide) (fun c_168 => ?_) (fun c_168 => ?_)
      · skip
        have hz_170 : (r_154 : Int32).toInt = 1 := by
          have z_1 : ¬ (r_39 : Int32).toInt = (0 : Int32).toInt := fun z => c_47 (Int32.toInt_inj.mp z)
          have z_2 : ¬ (r_82 : Int32).toInt = (0 : Int32).toInt := fun z => c_85 (Int32.toInt_inj.mp z)
          have z_3 : ¬ (r_154 : Int32).toInt = (0 : Int32).toInt := fun z => c_168 (Int32.toInt_inj.mp z)
          have y_0 : (0 : Int32).toInt = 0 := by decide
          omega
        obtain pf_169 := hm_157 hz_170
        have pf_169 : Cd sv_148 sv_149 (Mv 5) x_120 sv_145 1 := pf_169
        have ar_pf_169 := Cd.ar pf_169
        refine lv_aload_n hx hb dX12_isBuyHere_110 rfl (lv_at hl 1 rfl) ?_
        refine gf_X12_20 hx hb hts hown hK hP 2 rfl rfl dX12_isBuyHere_111 ?_
        refine lv_iload_n hx hb dX12_isBuyHere_114 rfl (lv_at hl 0 rfl) ?_
        refine lv_iconst (v := 3) hx hb dX12_isBuyHere_115 (by decide) ?_
        refine lv_iadd hx hb dX12_isBuyHere_116 ?_
        refine lv_topi (fun x_171 ex_171 => ?_)
        refine lv_aload_n hx hb dX12_isBuyHere_117 rfl (lv_at hl 1 rfl) ?_
        refine gf_X12_17 hx hb hts hown hK hP 2 rfl rfl dX12_isBuyHere_118 ?_
        refine lv_aload_n hx hb dX12_isBuyHere_121 rfl (lv_at hl 1 rfl) ?_
        refine gf_X12_145 hx hb hts hown hK hP 2 rfl rfl dX12_isBuyHere_122 ?_
        have hi_172 : vp_in (Mv 5) 7 := by
          have z_1 : ¬ (r_39 : Int32).toInt = (0 : Int32).toInt := fun z => c_47 (Int32.toInt_inj.mp z)
          have z_2 : ¬ (r_82 : Int32).toInt = (0 : Int32).toInt := fun z => c_85 (Int32.toInt_inj.mp z)
          have z_3 : ¬ (r_154 : Int32).toInt = (0 : Int32).toInt := fun z => c_168 (Int32.toInt_inj.mp z)
          have y_0 : (0 : Int32).toInt = 0 := by decide
          refine vp_in_iff.mpr ⟨?_, ?_⟩ <;> omega
        refine va_iald hx hb hK hP 5 0 rfl rfl hi_172 dX12_isBuyHere_125 ?_
        refine lv_topi (fun x_173 ex_173 => ?_)
        have kx_173 : x_173.toInt = (sv_149 ((Mv 5) : Int32).toNatClampNeg).toInt := congrArg Int32.toInt ex_173
        have pf_174 : WFc sv_148 (Mv 5) x_120 x_173 := Cd.wf pf_169 ex_173
        have ar_pf_174 := WFc.ar pf_174
        have hi_175 : vp_in x_171 288 := by
          have z_1 : ¬ (r_39 : Int32).toInt = (0 : Int32).toInt := fun z => c_47 (Int32.toInt_inj.mp z)
          have z_2 : ¬ (r_82 : Int32).toInt = (0 : Int32).toInt := fun z => c_85 (Int32.toInt_inj.mp z)
          have z_3 : ¬ (r_154 : Int32).toInt = (0 : Int32).toInt := fun z => c_168 (Int32.toInt_inj.mp z)
          have y_0 : (0 : Int32).toInt = 0 := by decide
          have y_3 : (3 : Int32).toInt = 3 := by decide
          have y_4 : (4 : Int32).toInt = 4 := by decide
          have y_48 : (48 : Int32).toInt = 48 := by decide
          have t_x_8 : x_8.toInt = (48 : Int32).toInt * ((Mv 5) : Int32).toInt := by rw [ex_8]; exact mul_toInt (by first | omega | (rw [y_48]; omega)) (by first | omega | (rw [y_48]; omega))
          rw [y_48] at t_x_8
          have t_x_11 : x_11.toInt = (4 : Int32).toInt * (x_10 : Int32).toInt := by rw [ex_11]; exact mul_toInt (by first | omega | (rw [y_4]; omega)) (by first | omega | (rw [y_4]; omega))
          rw [y_4] at t_x_11
          have t_x_12 : x_12.toInt = (x_8 : Int32).toInt + (x_11 : Int32).toInt := by rw [ex_12]; exact add_toInt (by omega) (by omega)
          have t_x_171 : x_171.toInt = (x_12 : Int32).toInt + (3 : Int32).toInt := by rw [ex_171]; exact add_toInt (by omega) (by omega)
          refine vp_in_iff.mpr ⟨?_, ?_⟩ <;> omega
        refine st_int hx hb hK hP hD hS 0 0 rfl rfl hi_175 dX12_isBuyHere_126 (fun g_176 H locs eg_176 hP hD hS => ?_)
        have hP : va_P D classes [((Ma 4), .inl (tc 0, 288, .inl g_176)), ((Ma 5), .inl (tc 0, 6, .inl (Mf 5))), ((Ma 0), .inr (12, [.ref (Ma 1), .int (Mv 0), .int (Mv 1), .ref (Ma 2), .ref (Ma 3), .ref (Ma 4), .ref (Ma 5), .ref (Ma 6), .int sv_142, .int sv_143, .int sv_144, .int (Mv 5), .int sv_145, .int sv_146, .int (Mv 8), .ref (Ma 7), .int sv_147, .ref (Ma 8), .int (Mv 10), .ref (Ma 9), .ref (Ma 10), .int (Mv 11), .int (Mv 12), .int (Mv 13), .ref (Ma 11), .int (Mv 14), .ref (Ma 12), .ref (Ma 13), .ref (Ma 14), .ref (Ma 15), .ref (Ma 16), .long (Mj 0), .ref (Ma 17), .ref (Ma 18), .ref (Ma 19), .ref (Ma 20)])), ((Ma 1), .inl (tc 2, 400, .inl (Mf 1))), ((Ma 2), .inl (tc 0, 2400, .inl sv_148)), ((Ma 3), .inl (tc 0, 7, .inl sv_149)), ((Ma 7), .inl (tc 0, 400, .inl sv_150))] H := hP
        have hD : va_D A [((Ma 4), .inl (tc 0, 288, .inl g_176)), ((Ma 5), .inl (tc 0, 6, .inl (Mf 5))), ((Ma 0), .inr (12, [.ref (Ma 1), .int (Mv 0), .int (Mv 1), .ref (Ma 2), .ref (Ma 3), .ref (Ma 4), .ref (Ma 5), .ref (Ma 6), .int sv_142, .int sv_143, .int sv_144, .int (Mv 5), .int sv_145, .int sv_146, .int (Mv 8), .ref (Ma 7), .int sv_147, .ref (Ma 8), .int (Mv 10), .ref (Ma 9), .ref (Ma 10), .int (Mv 11), .int (Mv 12), .int (Mv 13), .ref (Ma 11), .int (Mv 14), .ref (Ma 12), .ref (Ma 13), .ref (Ma 14), .ref (Ma 15), .ref (Ma 16), .long (Mj 0), .ref (Ma 17), .ref (Ma 18), .ref (Ma 19), .ref (Ma 20)])), ((Ma 1), .inl (tc 2, 400, .inl (Mf 1))), ((Ma 2), .inl (tc 0, 2400, .inl sv_148)), ((Ma 3), .inl (tc 0, 7, .inl sv_149)), ((Ma 7), .inl (tc 0, 400, .inl sv_150))] := hD
        have hi_177 : (x_171 : Int32).toInt = (A0 : Int) + (3 : Nat) := by
          have z_1 : ¬ (r_39 : Int32).toInt = (0 : Int32).toInt := fun z => c_47 (Int32.toInt_inj.mp z)
          have z_2 : ¬ (r_82 : Int32).toInt = (0 : Int32).toInt := fun z => c_85 (Int32.toInt_inj.mp z)
          have z_3 : ¬ (r_154 : Int32).toInt = (0 : Int32).toInt := fun z => c_168 (Int32.toInt_inj.mp z)
          have y_0 : (0 : Int32).toInt = 0 := by decide
          have y_3 : (3 : Int32).toInt = 3 := by decide
          have y_4 : (4 : Int32).toInt = 4 := by decide
          have y_48 : (48 : Int32).toInt = 48 := by decide
          have t_x_8 : x_8.toInt = (48 : Int32).toInt * ((Mv 5) : Int32).toInt := by rw [ex_8]; exact mul_toInt (by first | omega | (rw [y_48]; omega)) (by first | omega | (rw [y_48]; omega))
          rw [y_48] at t_x_8
          have t_x_11 : x_11.toInt = (4 : Int32).toInt * (x_10 : Int32).toInt := by rw [ex_11]; exact mul_toInt (by first | omega | (rw [y_4]; omega)) (by first | omega | (rw [y_4]; omega))
          rw [y_4] at t_x_11
          have t_x_12 : x_12.toInt = (x_8 : Int32).toInt + (x_11 : Int32).toInt := by rw [ex_12]; exact add_toInt (by omega) (by omega)
          have t_x_171 : x_171.toInt = (x_12 : Int32).toInt + (3 : Int32).toInt := by rw [ex_171]; exact add_toInt (by omega) (by omega)
          omega
        have hr_179 : 48 * (Mv 5).toInt + 4 * ((Mf 5) (Mv 5).toInt.toNat).toInt ≤ (((x_171 : Int32).toNatClampNeg : Nat) : Int) := by
          have z_1 : ¬ (r_39 : Int32).toInt = (0 : Int32).toInt := fun z => c_47 (Int32.toInt_inj.mp z)
          have z_2 : ¬ (r_82 : Int32).toInt = (0 : Int32).toInt := fun z => c_85 (Int32.toInt_inj.mp z)
          have z_3 : ¬ (r_154 : Int32).toInt = (0 : Int32).toInt := fun z => c_168 (Int32.toInt_inj.mp z)
          have y_0 : (0 : Int32).toInt = 0 := by decide
          have y_3 : (3 : Int32).toInt = 3 := by decide
          have y_4 : (4 : Int32).toInt = 4 := by decide
          have y_48 : (48 : Int32).toInt = 48 := by decide
          have t_x_8 : x_8.toInt = (48 : Int32).toInt * ((Mv 5) : Int32).toInt := by rw [ex_8]; exact mul_toInt (by first | omega | (rw [y_48]; omega)) (by first | omega | (rw [y_48]; omega))
          rw [y_48] at t_x_8
          have t_x_11 : x_11.toInt = (4 : Int32).toInt * (x_10 : Int32).toInt := by rw [ex_11]; exact mul_toInt (by first | omega | (rw [y_4]; omega)) (by first | omega | (rw [y_4]; omega))
          rw [y_4] at t_x_11
          have t_x_12 : x_12.toInt = (x_8 : Int32).toInt + (x_11 : Int32).toInt := by rw [ex_12]; exact add_toInt (by omega) (by omega)
          have t_x_171 : x_171.toInt = (x_12 : Int32).toInt + (3 : Int32).toInt := by rw [ex_171]; exact add_toInt (by omega) (by omega)
          have hcl : (x_171 : Int32).toNatClampNeg = (x_171 : Int32).toInt.toNat := rfl
          omega
        have pf_178 : RulP (Mf 2) g_176 (Mf 5) (Mv 5) (((Mf 3) (Mv 5).toNatClampNeg).toInt) := RulP.cl pf_124 eg_176 h_t.1 hr_179
        have ar_pf_178 := pf_178.2.1
        have hr_181 : ¬ (x_171 : Int32).toInt = (A0 : Int) + (0 : Nat) := by omega
        have pf_180 : ClV g_176 A0 0 x_14 := ClV.keep pf_126 eg_176 hr_181 (by omega)
        have hr_183 : 48 * (Mv 5).toInt + 4 * ((Mf 5) (Mv 5).toInt.toNat).toInt ≤ (((x_171 : Int32).toNatClampNeg : Nat) : Int) := by
          have z_1 : ¬ (r_39 : Int32).toInt = (0 : Int32).toInt := fun z => c_47 (Int32.toInt_inj.mp z)
          have z_2 : ¬ (r_82 : Int32).toInt = (0 : Int32).toInt := fun z => c_85 (Int32.toInt_inj.mp z)
          have z_3 : ¬ (r_154 : Int32).toInt = (0 : Int32).toInt := fun z => c_168 (Int32.toInt_inj.mp z)
          have y_0 : (0 : Int32).toInt = 0 := by decide
          have y_3 : (3 : Int32).toInt = 3 := by decide
          have y_4 : (4 : Int32).toInt = 4 := by decide
          have y_48 : (48 : Int32).toInt = 48 := by decide
          have t_x_8 : x_8.toInt = (48 : Int32).toInt * ((Mv 5) : Int32).toInt := by rw [ex_8]; exact mul_toInt (by first | omega | (rw [y_48]; omega)) (by first | omega | (rw [y_48]; omega))
          rw [y_48] at t_x_8
          have t_x_11 : x_11.toInt = (4 : Int32).toInt * (x_10 : Int32).toInt := by rw [ex_11]; exact mul_toInt (by first | omega | (rw [y_4]; omega)) (by first | omega | (rw [y_4]; omega))
          rw [y_4] at t_x_11
          have t_x_12 : x_12.toInt = (x_8 : Int32).toInt + (x_11 : Int32).toInt := by rw [ex_12]; exact add_toInt (by omega) (by omega)
          have t_x_171 : x_171.toInt = (x_12 : Int32).toInt + (3 : Int32).toInt := by rw [ex_171]; exact add_toInt (by omega) (by omega)
          have hcl : (x_171 : Int32).toNatClampNeg = (x_171 : Int32).toInt.toNat := rfl
          omega
        have pf_182 : RulP sv_34 g_176 (Mf 5) (Mv 5) (((Mf 3) (Mv 5).toNatClampNeg).toInt) := RulP.cl pf_128 eg_176 h_t.1 hr_183
        have ar_pf_182 := pf_182.2.1
        have hr_185 : ¬ (x_171 : Int32).toInt = (A0 : Int) + (1 : Nat) := by omega
        have pf_184 : ClV g_176 A0 1 x_52 := ClV.keep pf_130 eg_176 hr_185 (by omega)
        have hr_187 : ¬ (x_171 : Int32).toInt = (A0 : Int) + (2 : Nat) := by omega
        have pf_186 : ClV g_176 A0 2 x_120 := ClV.keep pf_132 eg_176 hr_187 (by omega)
        have hr_189 : 48 * (Mv 5).toInt + 4 * ((Mf 5) (Mv 5).toInt.toNat).toInt ≤ (((x_171 : Int32).toNatClampNeg : Nat) : Int) := by
          have z_1 : ¬ (r_39 : Int32).toInt = (0 : Int32).toInt := fun z => c_47 (Int32.toInt_inj.mp z)
          have z_2 : ¬ (r_82 : Int32).toInt = (0 : Int32).toInt := fun z => c_85 (Int32.toInt_inj.mp z)
          have z_3 : ¬ (r_154 : Int32).toInt = (0 : Int32).toInt := fun z => c_168 (Int32.toInt_inj.mp z)
          have y_0 : (0 : Int32).toInt = 0 := by decide
          have y_3 : (3 : Int32).toInt = 3 := by decide
          have y_4 : (4 : Int32).toInt = 4 := by decide
          have y_48 : (48 : Int32).toInt = 48 := by decide
          have t_x_8 : x_8.toInt = (48 : Int32).toInt * ((Mv 5) : Int32).toInt := by rw [ex_8]; exact mul_toInt (by first | omega | (rw [y_48]; omega)) (by first | omega | (rw [y_48]; omega))
          rw [y_48] at t_x_8
          have t_x_11 : x_11.toInt = (4 : Int32).toInt * (x_10 : Int32).toInt := by rw [ex_11]; exact mul_toInt (by first | omega | (rw [y_4]; omega)) (by first | omega | (rw [y_4]; omega))
          rw [y_4] at t_x_11
          have t_x_12 : x_12.toInt = (x_8 : Int32).toInt + (x_11 : Int32).toInt := by rw [ex_12]; exact add_toInt (by omega) (by omega)
          have t_x_171 : x_171.toInt = (x_12 : Int32).toInt + (3 : Int32).toInt := by rw [ex_171]; exact add_toInt (by omega) (by omega)
          have hcl : (x_171 : Int32).toNatClampNeg = (x_171 : Int32).toInt.toNat := rfl
          omega
        have pf_188 : RulP sv_148 g_176 (Mf 5) (Mv 5) (((Mf 3) (Mv 5).toNatClampNeg).toInt) := RulP.cl pf_166 eg_176 h_t.1 hr_189
        have ar_pf_188 := pf_188.2.1
        have pf_190 : ClV g_176 A0 3 x_173 := ClV.put eg_176 hi_177
        refine lv_aload_n hx hb dX12_isBuyHere_127 rfl (lv_at hl 1 rfl) ?_
        refine gf_X12_23 hx hb hts hown hK hP 2 rfl rfl dX12_isBuyHere_128 ?_
        refine lv_aload_n hx hb dX12_isBuyHere_131 rfl (lv_at hl 1 rfl) ?_
        refine gf_X12_145 hx hb hts hown hK hP 2 rfl rfl dX12_isBuyHere_132 ?_
        refine lv_dup2_11 hx hb dX12_isBuyHere_135 rfl rfl ?_
        have hi_191 : vp_in (Mv 5) 6 := by
          have z_1 : ¬ (r_39 : Int32).toInt = (0 : Int32).toInt := fun z => c_47 (Int32.toInt_inj.mp z)
          have z_2 : ¬ (r_82 : Int32).toInt = (0 : Int32).toInt := fun z => c_85 (Int32.toInt_inj.mp z)
          have z_3 : ¬ (r_154 : Int32).toInt = (0 : Int32).toInt := fun z => c_168 (Int32.toInt_inj.mp z)
          have y_0 : (0 : Int32).toInt = 0 := by decide
          refine vp_in_iff.mpr ⟨?_, ?_⟩ <;> omega
        refine va_iald hx hb hK hP 1 0 rfl rfl hi_191 dX12_isBuyHere_136 ?_
        refine lv_topi (fun x_192 ex_192 => ?_)
        have kx_192 : x_192.toInt = ((Mf 5) ((Mv 5) : Int32).toInt.toNat).toInt := congrArg Int32.toInt ex_192
        refine lv_iconst (v := 1) hx hb dX12_isBuyHere_137 (by decide) ?_
        refine lv_iadd hx hb dX12_isBuyHere_138 ?_
        refine lv_topi (fun x_193 ex_193 => ?_)
        have hi_194 : vp_in (Mv 5) 6 := by
          have z_1 : ¬ (r_39 : Int32).toInt = (0 : Int32).toInt := fun z => c_47 (Int32.toInt_inj.mp z)
          have z_2 : ¬ (r_82 : Int32).toInt = (0 : Int32).toInt := fun z => c_85 (Int32.toInt_inj.mp z)
          have z_3 : ¬ (r_154 : Int32).toInt = (0 : Int32).toInt := fun z => c_168 (Int32.toInt_inj.mp z)
          have y_0 : (0 : Int32).toInt = 0 := by decide
          refine vp_in_iff.mpr ⟨?_, ?_⟩ <;> omega
        refine st_int hx hb hK hP hD hS 1 0 rfl rfl hi_194 dX12_isBuyHere_139 (fun g_195 H locs eg_195 hP hD hS => ?_)
        have hP : va_P D classes [((Ma 4), .inl (tc 0, 288, .inl g_176)), ((Ma 5), .inl (tc 0, 6, .inl g_195)), ((Ma 0), .inr (12, [.ref (Ma 1), .int (Mv 0), .int (Mv 1), .ref (Ma 2), .ref (Ma 3), .ref (Ma 4), .ref (Ma 5), .ref (Ma 6), .int sv_142, .int sv_143, .int sv_144, .int (Mv 5), .int sv_145, .int sv_146, .int (Mv 8), .ref (Ma 7), .int sv_147, .ref (Ma 8), .int (Mv 10), .ref (Ma 9), .ref (Ma 10), .int (Mv 11), .int (Mv 12), .int (Mv 13), .ref (Ma 11), .int (Mv 14), .ref (Ma 12), .ref (Ma 13), .ref (Ma 14), .ref (Ma 15), .ref (Ma 16), .long (Mj 0), .ref (Ma 17), .ref (Ma 18), .ref (Ma 19), .ref (Ma 20)])), ((Ma 1), .inl (tc 2, 400, .inl (Mf 1))), ((Ma 2), .inl (tc 0, 2400, .inl sv_148)), ((Ma 3), .inl (tc 0, 7, .inl sv_149)), ((Ma 7), .inl (tc 0, 400, .inl sv_150))] H := hP
        have hD : va_D A [((Ma 4), .inl (tc 0, 288, .inl g_176)), ((Ma 5), .inl (tc 0, 6, .inl g_195)), ((Ma 0), .inr (12, [.ref (Ma 1), .int (Mv 0), .int (Mv 1), .ref (Ma 2), .ref (Ma 3), .ref (Ma 4), .ref (Ma 5), .ref (Ma 6), .int sv_142, .int sv_143, .int sv_144, .int (Mv 5), .int sv_145, .int sv_146, .int (Mv 8), .ref (Ma 7), .int sv_147, .ref (Ma 8), .int (Mv 10), .ref (Ma 9), .ref (Ma 10), .int (Mv 11), .int (Mv 12), .int (Mv 13), .ref (Ma 11), .int (Mv 14), .ref (Ma 12), .ref (Ma 13), .ref (Ma 14), .ref (Ma 15), .ref (Ma 16), .long (Mj 0), .ref (Ma 17), .ref (Ma 18), .ref (Ma 19), .ref (Ma 20)])), ((Ma 1), .inl (tc 2, 400, .inl (Mf 1))), ((Ma 2), .inl (tc 0, 2400, .inl sv_148)), ((Ma 3), .inl (tc 0, 7, .inl sv_149)), ((Ma 7), .inl (tc 0, 400, .inl sv_150))] := hD
        have hr_196 : (((Mf 3) (Mv 5).toNatClampNeg).toInt) ≤ ((sv_149 (Mv 5).toNatClampNeg).toInt) := by
          have z_1 : ¬ (r_39 : Int32).toInt = (0 : Int32).toInt := fun z => c_47 (Int32.toInt_inj.mp z)
          have z_2 : ¬ (r_82 : Int32).toInt = (0 : Int32).toInt := fun z => c_85 (Int32.toInt_inj.mp z)
          have z_3 : ¬ (r_154 : Int32).toInt = (0 : Int32).toInt := fun z => c_168 (Int32.toInt_inj.mp z)
          have y_0 : (0 : Int32).toInt = 0 := by decide
          omega
        have hy_197 : (x_193 : Int32).toInt = ((Mf 5) (Mv 5).toInt.toNat).toInt + 1 := by
          have z_1 : ¬ (r_39 : Int32).toInt = (0 : Int32).toInt := fun z => c_47 (Int32.toInt_inj.mp z)
          have z_2 : ¬ (r_82 : Int32).toInt = (0 : Int32).toInt := fun z => c_85 (Int32.toInt_inj.mp z)
          have z_3 : ¬ (r_154 : Int32).toInt = (0 : Int32).toInt := fun z => c_168 (Int32.toInt_inj.mp z)
          have y_0 : (0 : Int32).toInt = 0 := by decide
          have y_1 : (1 : Int32).toInt = 1 := by decide
          have t_x_193 : x_193.toInt = (x_192 : Int32).toInt + (1 : Int32).toInt := by rw [ex_193]; exact add_toInt (by omega) (by omega)
          omega
        have hw_198 : WFc sv_148 (Mv 5) (g_176 A0) (g_176 (A0 + 1)) := by
          have z0 : g_176 A0 = x_14 := pf_180
          have z1 : g_176 (A0 + 1) = x_52 := pf_184
          rw [z0, z1]
          exact None
        have hb_199 : (g_176 (A0 + 1)).toInt ≤ ((sv_149 (Mv 5).toNatClampNeg).toInt) := by
          have z1 : g_176 (A0 + 1) = x_52 := pf_184
          rw [z1]
          have z_1 : ¬ (r_39 : Int32).toInt = (0 : Int32).toInt := fun z => c_47 (Int32.toInt_inj.mp z)
          have z_2 : ¬ (r_82 : Int32).toInt = (0 : Int32).toInt := fun z => c_85 (Int32.toInt_inj.mp z)
          have z_3 : ¬ (r_154 : Int32).toInt = (0 : Int32).toInt := fun z => c_168 (Int32.toInt_inj.mp z)
          have y_0 : (0 : Int32).toInt = 0 := by decide
          omega
        have hw_200 : 0 ≤ (g_176 (A0 + 2)).toInt → WFc sv_148 (Mv 5) (g_176 (A0 + 2)) (g_176 (A0 + 3)) ∧ (g_176 (A0 + 3)).toInt ≤ ((sv_149 (Mv 5).toNatClampNeg).toInt) := by
          have z2 : g_176 (A0 + 2) = x_120 := pf_186
          have z3 : g_176 (A0 + 3) = x_173 := pf_190
          rw [z2, z3]
          refine fun _ => ⟨pf_174, ?_⟩
          have z_1 : ¬ (r_39 : Int32).toInt = (0 : Int32).toInt := fun z => c_47 (Int32.toInt_inj.mp z)
          have z_2 : ¬ (r_82 : Int32).toInt = (0 : Int32).toInt := fun z => c_85 (Int32.toInt_inj.mp z)
          have z_3 : ¬ (r_154 : Int32).toInt = (0 : Int32).toInt := fun z => c_168 (Int32.toInt_inj.mp z)
          have y_0 : (0 : Int32).toInt = 0 := by decide
          omega
        have pf_201 : RulP sv_148 g_176 g_195 (Mv 5) ((sv_149 (Mv 5).toNatClampNeg).toInt) := by
          subst hA0
          exact RulP.snoc (RulP.mono pf_188 hr_196) h_t.1 eg_195 hy_197 hw_198 hb_199 hw_200
        have ar_pf_201 := pf_201.2.1
        have kc_g_195 : (g_195 (Mv 5).toInt.toNat).toInt = (x_193 : Int32).toInt := upd_toInt_at eg_195
        refine lv_iconst (v := 1) hx hb dX12_isBuyHere_140 (by decide) ?_
        have ha_202 : ((Mv 2) : Int32).toInt ≤ (sv_142 : Int32).toInt ∧ (sv_142 : Int32).toInt ≤ ((Mv 0) : Int32).toInt := by
          have z_1 : ¬ (r_39 : Int32).toInt = (0 : Int32).toInt := fun z => c_47 (Int32.toInt_inj.mp z)
          have z_2 : ¬ (r_82 : Int32).toInt = (0 : Int32).toInt := fun z => c_85 (Int32.toInt_inj.mp z)
          have z_3 : ¬ (r_154 : Int32).toInt = (0 : Int32).toInt := fun z => c_168 (Int32.toInt_inj.mp z)
          have y_0 : (0 : Int32).toInt = 0 := by decide
          refine ⟨?_, ?_⟩ <;> omega
        have ha_203 : ((Mv 6) : Int32).toInt ≤ (sv_145 : Int32).toInt ∧ (sv_145 : Int32).toInt ≤ 60 := by
          have z_1 : ¬ (r_39 : Int32).toInt = (0 : Int32).toInt := fun z => c_47 (Int32.toInt_inj.mp z)
          have z_2 : ¬ (r_82 : Int32).toInt = (0 : Int32).toInt := fun z => c_85 (Int32.toInt_inj.mp z)
          have z_3 : ¬ (r_154 : Int32).toInt = (0 : Int32).toInt := fun z => c_168 (Int32.toInt_inj.mp z)
          have y_0 : (0 : Int32).toInt = 0 := by decide
          refine ⟨?_, ?_⟩ <;> omega
        have hp_204 : (((1 : Int32).toInt = 0 ∧ ¬ (sv_143 : Int32).toInt = 0) ∨ ((1 : Int32).toInt = 1 ∧ 0 ≤ (sv_149 (Mv 5).toNatClampNeg).toInt ∧ (sv_149 (Mv 5).toNatClampNeg).toInt ≤ (sv_142 : Int32).toInt ∧ (g_195 (Mv 5).toInt.toNat).toInt = ((Mf 5) (Mv 5).toInt.toNat).toInt + 1)) := by
          have z_1 : ¬ (r_39 : Int32).toInt = (0 : Int32).toInt := fun z => c_47 (Int32.toInt_inj.mp z)
          have z_2 : ¬ (r_82 : Int32).toInt = (0 : Int32).toInt := fun z => c_85 (Int32.toInt_inj.mp z)
          have z_3 : ¬ (r_154 : Int32).toInt = (0 : Int32).toInt := fun z => c_168 (Int32.toInt_inj.mp z)
          have y_0 : (0 : Int32).toInt = 0 := by decide
          have y_1 : (1 : Int32).toInt = 1 := by decide
          have yr : (1 : Int32).toInt = 1 := by decide
          omega
        have hm_205 : (1 : Int32).toInt = 1 → (RulP sv_148 g_176 g_195 (Mv 5) ((sv_149 (Mv 5).toNatClampNeg).toInt)) := by
          intro h1r
          exact pf_201
        exact retI (v := 1) hx hb hr hlk (rfl) hP hD hS (sv_142, sv_143, sv_144, sv_145, sv_146, sv_147, sv_148, sv_149, g_176, g_195, sv_150) ⟨_, rfl, hp_204, ha_202, ha_203, pf_201.1, hm_205⟩ [2, 3, 4, 5, 0, 1, 6] rfl rfl dX12_isBuyHere_141 (Nat.le_of_ble_eq_true rfl) (Nat.le_of_ble_eq_true rfl) rfl
      · skip
        refine lv_iconst (v := 0) hx hb dX12_isBuyHere_108 (by decide) ?_
        have ha_206 : ((Mv 2) : Int32).toInt ≤ (sv_142 : Int32).toInt ∧ (sv_142 : Int32).toInt ≤ ((Mv 0) : Int32).toInt := by
          have z_1 : ¬ (r_39 : Int32).toInt = (0 : Int32).toInt := fun z => c_47 (Int32.toInt_inj.mp z)
          have z_2 : ¬ (r_82 : Int32).toInt = (0 : Int32).toInt := fun z => c_85 (Int32.toInt_inj.mp z)
          have z_3 := congrArg Int32.toInt c_168
          have y_0 : (0 : Int32).toInt = 0 := by decide
          refine ⟨?_, ?_⟩ <;> omega
        have ha_207 : ((Mv 6) : Int32).toInt ≤ (sv_145 : Int32).toInt ∧ (sv_145 : Int32).toInt ≤ 60 := by
          have z_1 : ¬ (r_39 : Int32).toInt = (0 : Int32).toInt := fun z => c_47 (Int32.toInt_inj.mp z)
          have z_2 : ¬ (r_82 : Int32).toInt = (0 : Int32).toInt := fun z => c_85 (Int32.toInt_inj.mp z)
          have z_3 := congrArg Int32.toInt c_168
          have y_0 : (0 : Int32).toInt = 0 := by decide
          refine ⟨?_, ?_⟩ <;> omega
        have hp_208 : (((0 : Int32).toInt = 0 ∧ ¬ (sv_143 : Int32).toInt = 0) ∨ ((0 : Int32).toInt = 1 ∧ 0 ≤ (sv_149 (Mv 5).toNatClampNeg).toInt ∧ (sv_149 (Mv 5).toNatClampNeg).toInt ≤ (sv_142 : Int32).toInt ∧ ((Mf 5) (Mv 5).toInt.toNat).toInt = ((Mf 5) (Mv 5).toInt.toNat).toInt + 1)) := by
          have z_1 : ¬ (r_39 : Int32).toInt = (0 : Int32).toInt := fun z => c_47 (Int32.toInt_inj.mp z)
          have z_2 : ¬ (r_82 : Int32).toInt = (0 : Int32).toInt := fun z => c_85 (Int32.toInt_inj.mp z)
          have z_3 := congrArg Int32.toInt c_168
          have y_0 : (0 : Int32).toInt = 0 := by decide
          omega
        exact retI (v := 0) hx hb hr hlk (rfl) hP hD hS (sv_142, sv_143, sv_144, sv_145, sv_146, sv_147, sv_148, sv_149, g_122, (Mf 5), sv_150) ⟨_, rfl, hp_208, ha_206, ha_207, pf_166.1, (fun h => absurd h (by decide))⟩ [2, 3, 4, 5, 0, 1, 6] rfl rfl dX12_isBuyHere_109 (Nat.le_of_ble_eq_true rfl) (Nat.le_of_ble_eq_true rfl) rfl
  · skip
    refine lv_iconst (v := 0) hx hb dX12_isBuyHere_46 (by decide) ?_
    have ha_209 : ((Mv 2) : Int32).toInt ≤ (sv_30 : Int32).toInt ∧ (sv_30 : Int32).toInt ≤ ((Mv 0) : Int32).toInt := by
      have z_1 := congrArg Int32.toInt c_47
      have y_0 : (0 : Int32).toInt = 0 := by decide
      refine ⟨?_, ?_⟩ <;> omega
    have ha_210 : ((Mv 6) : Int32).toInt ≤ (sv_33 : Int32).toInt ∧ (sv_33 : Int32).toInt ≤ 60 := by
      have z_1 := congrArg Int32.toInt c_47
      have y_0 : (0 : Int32).toInt = 0 := by decide
      refine ⟨?_, ?_⟩ <;> omega
    have hp_211 : (((0 : Int32).toInt = 0 ∧ ¬ (sv_31 : Int32).toInt = 0) ∨ ((0 : Int32).toInt = 1 ∧ 0 ≤ (sv_35 (Mv 5).toNatClampNeg).toInt ∧ (sv_35 (Mv 5).toNatClampNeg).toInt ≤ (sv_30 : Int32).toInt ∧ ((Mf 5) (Mv 5).toInt.toNat).toInt = ((Mf 5) (Mv 5).toInt.toNat).toInt + 1)) := by
      have z_1 := congrArg Int32.toInt c_47
      have y_0 : (0 : Int32).toInt = 0 := by decide
      omega
    exact retI (v := 0) hx hb hr hlk (rfl) hP hD hS (sv_30, sv_31, sv_32, sv_33, (Mv 7), (Mv 9), sv_34, sv_35, g_16, (Mf 5), (Mf 7)) ⟨_, rfl, hp_211, ha_209, ha_210, pf_45.1, (fun h => absurd h (by decide))⟩ [3, 4, 5, 6, 0, 1, 2] rfl rfl dX12_isBuyHere_47 (Nat.le_of_ble_eq_true rfl) (Nat.le_of_ble_eq_true rfl) rfl
set_option maxHeartbeats 4000000 in
set_option maxRecDepth 100000 in
theorem ct_X12_clauseHere_r (l : Launch) (D : va_G) (tc : Nat → ClassId) (sk : (Nat → Nat) × (Nat → Nat)) (Ma : Nat → Nat) (Mv : Nat → Int32) (Mf : Nat → Nat → Int32) (Mj : Nat → Int64) (h_nx : 0 ≤ ((Mv 2) : Int32).toInt ∧ ((Mv 2) : Int32).toInt ≤ ((Mv 0) : Int32).toInt ∧ ((Mv 0) : Int32).toInt ≤ 400) (h_md : 0 ≤ ((Mv 6) : Int32).toInt ∧ ((Mv 6) : Int32).toInt ≤ 60) (h_t : 0 ≤ ((Mv 5) : Int32).toInt ∧ ((Mv 5) : Int32).toInt ≤ 5) (h_L : 0 ≤ ((Mf 3) (Mv 5).toNatClampNeg).toInt ∧ ((Mf 3) (Mv 5).toNatClampNeg).toInt ≤ ((Mv 2) : Int32).toInt) (h_rp : RulP (Mf 2) (Mf 4) (Mf 5) (Mv 5) (((Mf 3) (Mv 5).toNatClampNeg).toInt)) (h_c : ((Mf 5) (Mv 5).toInt.toNat).toInt = ((Mv 8) : Int32).toInt ∧ 0 ≤ ((Mv 8) : Int32).toInt ∧ ((Mv 8) : Int32).toInt ≤ 12) : Ct l yX12_clauseHere cX12_clauseHere 3 (some .boolean) { frames := 10, cells := 0, slots := 0, locals := 219 } D tc sk [.ref (Ma 0)] [((Ma 0), .inr (12, [.ref (Ma 1), .int (Mv 0), .int (Mv 1), .ref (Ma 2), .ref (Ma 3), .ref (Ma 4), .ref (Ma 5), .ref (Ma 6), .int (Mv 2), .int (Mv 3), .int (Mv 4), .int (Mv 5), .int (Mv 6), .int (Mv 7), .int (Mv 8), .ref (Ma 7), .int (Mv 9), .ref (Ma 8), .int (Mv 10), .ref (Ma 9), .ref (Ma 10), .int (Mv 11), .int (Mv 12), .int (Mv 13), .ref (Ma 11), .int (Mv 14), .ref (Ma 12), .ref (Ma 13), .ref (Ma 14), .ref (Ma 15), .ref (Ma 16), .long (Mj 0), .ref (Ma 17), .ref (Ma 18), .ref (Ma 19), .ref (Ma 20)])), ((Ma 1), .inl (tc 2, 400, .inl (Mf 1))), ((Ma 2), .inl (tc 0, 2400, .inl (Mf 2))), ((Ma 3), .inl (tc 0, 7, .inl (Mf 3))), ((Ma 4), .inl (tc 0, 288, .inl (Mf 4))), ((Ma 5), .inl (tc 0, 6, .inl (Mf 5))), ((Ma 7), .inl (tc 0, 400, .inl (Mf 7)))] (fun (v : Option Value) (u : (Int32) × (Int32) × (Int32) × (Int32) × (Int32) × (Int32) × (Int32) × (Nat → Int32) × (Nat → Int32) × (Nat → Int32) × (Nat → Int32) × (Nat → Int32)) => match u with | (oo0x1, oo0x2, oo0x3, oo0x4, oo0x5, oo0x6, oo0x7, oo0x8, oo0x9, oo0x10, oo0x11, oo0x12) => ∃ r : Int32, v = some (.int r) ∧ (((r.toInt = 0 ∧ ¬ (oo0x2 : Int32).toInt = 0) ∨ (r.toInt = 1 ∧ 0 ≤ (oo0x9 (Mv 5).toNatClampNeg).toInt ∧ (oo0x9 (Mv 5).toNatClampNeg).toInt ≤ (oo0x1 : Int32).toInt ∧ (oo0x11 (Mv 5).toInt.toNat).toInt = (oo0x6 : Int32).toInt ∧ 0 ≤ (oo0x6 : Int32).toInt ∧ (oo0x6 : Int32).toInt ≤ 12))) ∧ (((Mv 2) : Int32).toInt ≤ (oo0x1 : Int32).toInt ∧ (oo0x1 : Int32).toInt ≤ ((Mv 0) : Int32).toInt) ∧ (((Mv 6) : Int32).toInt ≤ (oo0x4 : Int32).toInt ∧ (oo0x4 : Int32).toInt ≤ 60) ∧ (RulD oo0x8 oo0x10 oo0x11 (Mv 5)) ∧ (r.toInt = 1 → (RulP oo0x8 oo0x10 oo0x11 (Mv 5) ((oo0x9 (Mv 5).toNatClampNeg).toInt)))) (fun (u : (Int32) × (Int32) × (Int32) × (Int32) × (Int32) × (Int32) × (Int32) × (Nat → Int32) × (Nat → Int32) × (Nat → Int32) × (Nat → Int32) × (Nat → Int32)) => match u with | (oo0x1, oo0x2, oo0x3, oo0x4, oo0x5, oo0x6, oo0x7, oo0x8, oo0x9, oo0x10, oo0x11, oo0x12) => [((Ma 0), .inr (12, [.ref (Ma 1), .int (Mv 0), .int (Mv 1), .ref (Ma 2), .ref (Ma 3), .ref (Ma 4), .ref (Ma 5), .ref (Ma 6), .int oo0x1, .int oo0x2, .int oo0x3, .int (Mv 5), .int oo0x4, .int oo0x5, .int oo0x6, .ref (Ma 7), .int oo0x7, .ref (Ma 8), .int (Mv 10), .ref (Ma 9), .ref (Ma 10), .int (Mv 11), .int (Mv 12), .int (Mv 13), .ref (Ma 11), .int (Mv 14), .ref (Ma 12), .ref (Ma 13), .ref (Ma 14), .ref (Ma 15), .ref (Ma 16), .long (Mj 0), .ref (Ma 17), .ref (Ma 18), .ref (Ma 19), .ref (Ma 20)])), ((Ma 1), .inl (tc 2, 400, .inl (Mf 1))), ((Ma 2), .inl (tc 0, 2400, .inl oo0x8)), ((Ma 3), .inl (tc 0, 7, .inl oo0x9)), ((Ma 4), .inl (tc 0, 288, .inl oo0x10)), ((Ma 5), .inl (tc 0, 6, .inl oo0x11)), ((Ma 7), .inl (tc 0, 400, .inl oo0x12))]) 0 0 := by
  refine Ct.start (by decide) (Nat.le_of_ble_eq_true rfl) (fun p e s m below meth c A ls hx hb hr hlk hin hml hown hts hK hX hP hD hA hl hS => ?_)
  have hl : lv_has ls 3 [(0, .ref (Ma 0))] := hl
  have ar_h_rp := h_rp.2.1
  refine lv_aload_n hx hb dX12_clauseHere_0 rfl (lv_at hl 0 rfl) ?_
  have ha_1 : 0 ≤ ((Mv 2) : Int32).toInt ∧ ((Mv 2) : Int32).toInt ≤ ((Mv 0) : Int32).toInt ∧ ((Mv 0) : Int32).toInt ≤ 400 := by
    refine ⟨?_, ?_, ?_⟩ <;> omega
  refine cV (a := (Ma 0)) (As := []) (rest := []) (wr := [((Ma 2), .inl (tc 0, 2400, .inl (Mf 2))), ((Ma 3), .inl (tc 0, 7, .inl (Mf 3))), ((Ma 4), .inl (tc 0, 288, .inl (Mf 4))), ((Ma 5), .inl (tc 0, 6, .inl (Mf 5))), ((Ma 7), .inl (tc 0, 400, .inl (Mf 7)))]) ⟨hx, hb, hml, hown, hts⟩ hK hX hA (ct_X12_see l D tc sk Ma Mv Mf Mj ha_1) k_1211 k_1208 k_1210 k_27 k_106 pl_X12_see ⟨Nat.le_of_ble_eq_true rfl, Nat.le_of_ble_eq_true rfl⟩ rfl rfl (va_recv hK hP (ci := 12) (q0 := 0) rfl rfl) hP hD hS [0, 1] [2, 3, 4, 5, 6] rfl rfl rfl rfl rfl (by decide) rfl hl.1 rfl (Nat.le_of_ble_eq_true rfl) dX12_clauseHere_1 ⟨Nat.le_of_ble_eq_true rfl, Nat.le_of_ble_eq_true rfl⟩ (fun v_2 u_3 H locs hv_4 hP hD hS => ?_)
  obtain ⟨sv_5, rfl⟩ : ∃ z, z = u_3 := ⟨_, rfl⟩
  obtain ⟨r_9, rfl, he_10, pf_6, pf_7, pf_8⟩ := hv_4
  have he_10 : (r_9.toInt = -1 ∨ (sv_5 : Int32).toInt < ((Mv 0) : Int32).toInt) := he_10
  have pf_6 : ((Mv 2) : Int32).toInt ≤ (sv_5 : Int32).toInt ∧ (sv_5 : Int32).toInt ≤ ((Mv 0) : Int32).toInt := pf_6
  have pf_7 : NSq (Mf 1) (Mv 0) sv_5 := pf_7
  have pf_8 : Stl (Mf 1) (Mv 0) (Mv 2) sv_5 := pf_8
  refine W.eq (g2 := F0 m 4 ls [.int r_9]) rfl ?_
  have hP : va_P D classes [((Ma 2), .inl (tc 0, 2400, .inl (Mf 2))), ((Ma 3), .inl (tc 0, 7, .inl (Mf 3))), ((Ma 4), .inl (tc 0, 288, .inl (Mf 4))), ((Ma 5), .inl (tc 0, 6, .inl (Mf 5))), ((Ma 7), .inl (tc 0, 400, .inl (Mf 7))), ((Ma 0), .inr (12, [.ref (Ma 1), .int (Mv 0), .int (Mv 1), .ref (Ma 2), .ref (Ma 3), .ref (Ma 4), .ref (Ma 5), .ref (Ma 6), .int sv_5, .int (Mv 3), .int (Mv 4), .int (Mv 5), .int (Mv 6), .int (Mv 7), .int (Mv 8), .ref (Ma 7), .int (Mv 9), .ref (Ma 8), .int (Mv 10), .ref (Ma 9), .ref (Ma 10), .int (Mv 11), .int (Mv 12), .int (Mv 13), .ref (Ma 11), .int (Mv 14), .ref (Ma 12), .ref (Ma 13), .ref (Ma 14), .ref (Ma 15), .ref (Ma 16), .long (Mj 0), .ref (Ma 17), .ref (Ma 18), .ref (Ma 19), .ref (Ma 20)])), ((Ma 1), .inl (tc 2, 400, .inl (Mf 1)))] H := hP
  have hD : va_D A [((Ma 2), .inl (tc 0, 2400, .inl (Mf 2))), ((Ma 3), .inl (tc 0, 7, .inl (Mf 3))), ((Ma 4), .inl (tc 0, 288, .inl (Mf 4))), ((Ma 5), .inl (tc 0, 6, .inl (Mf 5))), ((Ma 7), .inl (tc 0, 400, .inl (Mf 7))), ((Ma 0), .inr (12, [.ref (Ma 1), .int (Mv 0), .int (Mv 1), .ref (Ma 2), .ref (Ma 3), .ref (Ma 4), .ref (Ma 5), .ref (Ma 6), .int sv_5, .int (Mv 3), .int (Mv 4), .int (Mv 5), .int (Mv 6), .int (Mv 7), .int (Mv 8), .ref (Ma 7), .int (Mv 9), .ref (Ma 8), .int (Mv 10), .ref (Ma 9), .ref (Ma 10), .int (Mv 11), .int (Mv 12), .int (Mv 13), .ref (Ma 11), .int (Mv 14), .ref (Ma 12), .ref (Ma 13), .ref (Ma 14), .ref (Ma 15), .ref (Ma 16), .long (Mj 0), .ref (Ma 17), .ref (Ma 18), .ref (Ma 19), .ref (Ma 20)])), ((Ma 1), .inl (tc 2, 400, .inl (Mf 1)))] := hD
  refine lv_pop hx hb dX12_clauseHere_4 rfl ?_
  refine lv_aload_n hx hb dX12_clauseHere_5 rfl (lv_at hl 0 rfl) ?_
  refine gf_X12_87 hx hb hts hown hK hP 5 rfl rfl dX12_clauseHere_6 ?_
  refine lv_istore_n (lv' := [(1, .int sv_5), (0, .ref (Ma 0))]) hx hb dX12_clauseHere_9 rfl hl (by decide) rfl (fun ls hl => ?_)
  refine lv_aload_n hx hb dX12_clauseHere_10 rfl (lv_at hl 1 rfl) ?_
  refine gf_X12_145 hx hb hts hown hK hP 5 rfl rfl dX12_clauseHere_11 ?_
  refine lv_bipush (v := 6) hx hb dX12_clauseHere_14 (by decide) ?_
  refine lv_icmp_ne (tgt := 23) hx hb dX12_clauseHere_16 (by decide) (fun c_12 => ?_) (fun c_12 => ?_)
  · skip
    refine lv_iconst (v := 0) hx hb dX12_clauseHere_23 (by decide) ?_
    refine lv_istore_n (lv' := [(2, .int 0), (1, .int sv_5), (0, .ref (Ma 0))]) hx hb dX12_clauseHere_24 rfl hl (by decide) rfl (fun ls hl => ?_)
    refine lv_iload_n hx hb dX12_clauseHere_25 rfl (lv_at hl 0 rfl) ?_
    refine lv_if_eq (tgt := 39) hx hb dX12_clauseHere_26 (by decide) (fun c_13 => ?_) (fun c_13 => absurd c_13 (by decide))
    refine lv_aload_n hx hb dX12_clauseHere_39 rfl (lv_at hl 2 rfl) ?_
    refine lv_ldc2 hx hb hown (hts _ k_1228) dX12_clauseHere_40 ?_
    have ha_14 : 0 ≤ (sv_5 : Int32).toInt ∧ (sv_5 : Int32).toInt ≤ ((Mv 0) : Int32).toInt ∧ ((Mv 0) : Int32).toInt ≤ 400 := by
      have z_1 : ¬ ((Mv 5) : Int32).toInt = (6 : Int32).toInt := fun z => c_12 (Int32.toInt_inj.mp z)
      have y_6 : (6 : Int32).toInt = 6 := by decide
      refine ⟨?_, ?_, ?_⟩ <;> omega
    refine cV (a := (Ma 0)) (As := [.long 6452601]) (rest := []) (wr := [((Ma 2), .inl (tc 0, 2400, .inl (Mf 2))), ((Ma 3), .inl (tc 0, 7, .inl (Mf 3))), ((Ma 4), .inl (tc 0, 288, .inl (Mf 4))), ((Ma 5), .inl (tc 0, 6, .inl (Mf 5))), ((Ma 7), .inl (tc 0, 400, .inl (Mf 7)))]) ⟨hx, hb, hml, hown, hts⟩ hK hX hA (ct_X12_isWord l D tc sk Ma (fun k => ([(Mv 0), (Mv 1), sv_5, (Mv 3), (Mv 4), (Mv 5), (Mv 6), (Mv 7), (Mv 8), (Mv 9), (Mv 10), (Mv 11), (Mv 12), (Mv 13), (Mv 14)] : List (Int32)).getD k 0) Mf Mj 6452601 ha_14) k_1220 k_1217 k_1219 k_29 k_106 pl_X12_isWord ⟨Nat.le_of_ble_eq_true rfl, Nat.le_of_ble_eq_true rfl⟩ rfl rfl (va_recv hK hP (ci := 12) (q0 := 5) rfl rfl) hP hD hS [5, 6] [0, 1, 2, 3, 4] rfl rfl rfl rfl rfl (by decide) rfl hl.1 rfl (Nat.le_of_ble_eq_true rfl) dX12_clauseHere_43 ⟨Nat.le_of_ble_eq_true rfl, Nat.le_of_ble_eq_true rfl⟩ (fun v_15 u_16 H locs hv_17 hP hD hS => ?_)
    obtain ⟨sv_18, rfl⟩ : ∃ z, z = u_16 := ⟨_, rfl⟩
    obtain ⟨r_22, rfl, he_23, pf_19, pf_20, pf_21, hm_25⟩ := hv_17
    have he_23 : (r_22.toInt = 0 ∨ r_22.toInt = 1) := he_23
    have pf_19 : (sv_5 : Int32).toInt ≤ (sv_18 : Int32).toInt ∧ (sv_18 : Int32).toInt ≤ ((Mv 0) : Int32).toInt := pf_19
    have pf_20 : NSq (Mf 1) (Mv 0) sv_18 := pf_20
    have pf_21 : Stl (Mf 1) (Mv 0) sv_5 sv_18 := pf_21
    have ar_pf_21 := Stl.or pf_21 pf_7
    refine W.eq (g2 := F0 m 46 ls [.int r_22]) rfl ?_
    have hP : va_P D classes [((Ma 2), .inl (tc 0, 2400, .inl (Mf 2))), ((Ma 3), .inl (tc 0, 7, .inl (Mf 3))), ((Ma 4), .inl (tc 0, 288, .inl (Mf 4))), ((Ma 5), .inl (tc 0, 6, .inl (Mf 5))), ((Ma 7), .inl (tc 0, 400, .inl (Mf 7))), ((Ma 0), .inr (12, [.ref (Ma 1), .int (Mv 0), .int (Mv 1), .ref (Ma 2), .ref (Ma 3), .ref (Ma 4), .ref (Ma 5), .ref (Ma 6), .int sv_18, .int (Mv 3), .int (Mv 4), .int (Mv 5), .int (Mv 6), .int (Mv 7), .int (Mv 8), .ref (Ma 7), .int (Mv 9), .ref (Ma 8), .int (Mv 10), .ref (Ma 9), .ref (Ma 10), .int (Mv 11), .int (Mv 12), .int (Mv 13), .ref (Ma 11), .int (Mv 14), .ref (Ma 12), .ref (Ma 13), .ref (Ma 14), .ref (Ma 15), .ref (Ma 16), .long (Mj 0), .ref (Ma 17), .ref (Ma 18), .ref (Ma 19), .ref (Ma 20)])), ((Ma 1), .inl (tc 2, 400, .inl (Mf 1)))] H := hP
    have hD : va_D A [((Ma 2), .inl (tc 0, 2400, .inl (Mf 2))), ((Ma 3), .inl (tc 0, 7, .inl (Mf 3))), ((Ma 4), .inl (tc 0, 288, .inl (Mf 4))), ((Ma 5), .inl (tc 0, 6, .inl (Mf 5))), ((Ma 7), .inl (tc 0, 400, .inl (Mf 7))), ((Ma 0), .inr (12, [.ref (Ma 1), .int (Mv 0), .int (Mv 1), .ref (Ma 2), .ref (Ma 3), .ref (Ma 4), .ref (Ma 5), .ref (Ma 6), .int sv_18, .int (Mv 3), .int (Mv 4), .int (Mv 5), .int (Mv 6), .int (Mv 7), .int (Mv 8), .ref (Ma 7), .int (Mv 9), .ref (Ma 8), .int (Mv 10), .ref (Ma 9), .ref (Ma 10), .int (Mv 11), .int (Mv 12), .int (Mv 13), .ref (Ma 11), .int (Mv 14), .ref (Ma 12), .ref (Ma 13), .ref (Ma 14), .ref (Ma 15), .ref (Ma 16), .long (Mj 0), .ref (Ma 17), .ref (Ma 18), .ref (Ma 19), .ref (Ma 20)])), ((Ma 1), .inl (tc 2, 400, .inl (Mf 1)))] := hD
    refine lv_if_ne (tgt := 56) hx hb dX12_clauseHere_46 (by decide) (fun c_26 => ?_) (fun c_26 => ?_)
    · skip
      have hz_28 : (r_22 : Int32).toInt = 1 := by
        have z_1 : ¬ ((Mv 5) : Int32).toInt = (6 : Int32).toInt := fun z => c_12 (Int32.toInt_inj.mp z)
        have z_2 : ¬ (r_22 : Int32).toInt = (0 : Int32).toInt := fun z => c_26 (Int32.toInt_inj.mp z)
        have y_0 : (0 : Int32).toInt = 0 := by decide
        have y_6 : (6 : Int32).toInt = 6 := by decide
        omega
      obtain pf_27 := hm_25 hz_28
      have pf_27 : Ltr (Mf 1) (Mv 0) sv_18 := pf_27
      have ar_pf_27 := pf_27.1
      refine lv_aload_n hx hb dX12_clauseHere_56 rfl (lv_at hl 2 rfl) ?_
      refine gf_X12_244 hx hb hts hown hK hP 5 rfl rfl dX12_clauseHere_57 ?_
      refine lv_iload_n hx hb dX12_clauseHere_60 rfl (lv_at hl 0 rfl) ?_
      refine lv_if_eq (tgt := 69) hx hb dX12_clauseHere_61 (by decide) (fun c_29 => ?_) (fun c_29 => absurd c_29 (by decide))
      refine lv_bipush (v := 12) hx hb dX12_clauseHere_69 (by decide) ?_
      refine lv_icmp_ne (tgt := 81) hx hb dX12_clauseHere_71 (by decide) (fun c_30 => ?_) (fun c_30 => ?_)
      · skip
        refine lv_aload_n hx hb dX12_clauseHere_81 rfl (lv_at hl 2 rfl) ?_
        refine lv_dup hx hb dX12_clauseHere_82 rfl ?_
        refine gf_X12_244 hx hb hts hown hK hP 5 rfl rfl dX12_clauseHere_83 ?_
        refine lv_iconst (v := 1) hx hb dX12_clauseHere_86 (by decide) ?_
        refine lv_iadd hx hb dX12_clauseHere_87 ?_
        refine lv_topi (fun x_31 ex_31 => ?_)
        refine pf_X12_244 hx hb hts hown hK hP hD hS 5 rfl (Nat.le_of_ble_eq_true rfl) rfl rfl dX12_clauseHere_88 (fun H locs hP hD hS => ?_)
        have hP : va_P D classes [((Ma 2), .inl (tc 0, 2400, .inl (Mf 2))), ((Ma 3), .inl (tc 0, 7, .inl (Mf 3))), ((Ma 4), .inl (tc 0, 288, .inl (Mf 4))), ((Ma 5), .inl (tc 0, 6, .inl (Mf 5))), ((Ma 7), .inl (tc 0, 400, .inl (Mf 7))), ((Ma 0), .inr (12, [.ref (Ma 1), .int (Mv 0), .int (Mv 1), .ref (Ma 2), .ref (Ma 3), .ref (Ma 4), .ref (Ma 5), .ref (Ma 6), .int sv_18, .int (Mv 3), .int (Mv 4), .int (Mv 5), .int (Mv 6), .int (Mv 7), .int x_31, .ref (Ma 7), .int (Mv 9), .ref (Ma 8), .int (Mv 10), .ref (Ma 9), .ref (Ma 10), .int (Mv 11), .int (Mv 12), .int (Mv 13), .ref (Ma 11), .int (Mv 14), .ref (Ma 12), .ref (Ma 13), .ref (Ma 14), .ref (Ma 15), .ref (Ma 16), .long (Mj 0), .ref (Ma 17), .ref (Ma 18), .ref (Ma 19), .ref (Ma 20)])), ((Ma 1), .inl (tc 2, 400, .inl (Mf 1)))] H := hP
        have hD : va_D A [((Ma 2), .inl (tc 0, 2400, .inl (Mf 2))), ((Ma 3), .inl (tc 0, 7, .inl (Mf 3))), ((Ma 4), .inl (tc 0, 288, .inl (Mf 4))), ((Ma 5), .inl (tc 0, 6, .inl (Mf 5))), ((Ma 7), .inl (tc 0, 400, .inl (Mf 7))), ((Ma 0), .inr (12, [.ref (Ma 1), .int (Mv 0), .int (Mv 1), .ref (Ma 2), .ref (Ma 3), .ref (Ma 4), .ref (Ma 5), .ref (Ma 6), .int sv_18, .int (Mv 3), .int (Mv 4), .int (Mv 5), .int (Mv 6), .int (Mv 7), .int x_31, .ref (Ma 7), .int (Mv 9), .ref (Ma 8), .int (Mv 10), .ref (Ma 9), .ref (Ma 10), .int (Mv 11), .int (Mv 12), .int (Mv 13), .ref (Ma 11), .int (Mv 14), .ref (Ma 12), .ref (Ma 13), .ref (Ma 14), .ref (Ma 15), .ref (Ma 16), .long (Mj 0), .ref (Ma 17), .ref (Ma 18), .ref (Ma 19), .ref (Ma 20)])), ((Ma 1), .inl (tc 2, 400, .inl (Mf 1)))] := hD
        refine lv_iload_n hx hb dX12_clauseHere_91 rfl (lv_at hl 0 rfl) ?_
        refine lv_if_eq (tgt := 103) hx hb dX12_clauseHere_92 (by decide) (fun c_32 => ?_) (fun c_32 => absurd c_32 (by decide))
        refine lv_aload_n hx hb dX12_clauseHere_103 rfl (lv_at hl 2 rfl) ?_
        have ha_33 : 0 ≤ (sv_18 : Int32).toInt ∧ (sv_18 : Int32).toInt ≤ ((Mv 0) : Int32).toInt ∧ ((Mv 0) : Int32).toInt ≤ 400 := by
          have z_1 : ¬ ((Mv 5) : Int32).toInt = (6 : Int32).toInt := fun z => c_12 (Int32.toInt_inj.mp z)
          have z_2 : ¬ (r_22 : Int32).toInt = (0 : Int32).toInt := fun z => c_26 (Int32.toInt_inj.mp z)
          have z_3 : ¬ ((Mv 8) : Int32).toInt = (12 : Int32).toInt := fun z => c_30 (Int32.toInt_inj.mp z)
          have y_0 : (0 : Int32).toInt = 0 := by decide
          have y_6 : (6 : Int32).toInt = 6 := by decide
          have y_12 : (12 : Int32).toInt = 12 := by decide
          refine ⟨?_, ?_, ?_⟩ <;> omega
        have ha_34 : 0 ≤ ((Mv 6) : Int32).toInt ∧ ((Mv 6) : Int32).toInt ≤ 60 := by
          have z_1 : ¬ ((Mv 5) : Int32).toInt = (6 : Int32).toInt := fun z => c_12 (Int32.toInt_inj.mp z)
          have z_2 : ¬ (r_22 : Int32).toInt = (0 : Int32).toInt := fun z => c_26 (Int32.toInt_inj.mp z)
          have z_3 : ¬ ((Mv 8) : Int32).toInt = (12 : Int32).toInt := fun z => c_30 (Int32.toInt_inj.mp z)
          have y_0 : (0 : Int32).toInt = 0 := by decide
          have y_6 : (6 : Int32).toInt = 6 := by decide
          have y_12 : (12 : Int32).toInt = 12 := by decide
          refine ⟨?_, ?_⟩ <;> omega
        have ha_35 : 0 ≤ ((Mv 5) : Int32).toInt ∧ ((Mv 5) : Int32).toInt ≤ 5 := by
          have z_1 : ¬ ((Mv 5) : Int32).toInt = (6 : Int32).toInt := fun z => c_12 (Int32.toInt_inj.mp z)
          have z_2 : ¬ (r_22 : Int32).toInt = (0 : Int32).toInt := fun z => c_26 (Int32.toInt_inj.mp z)
          have z_3 : ¬ ((Mv 8) : Int32).toInt = (12 : Int32).toInt := fun z => c_30 (Int32.toInt_inj.mp z)
          have y_0 : (0 : Int32).toInt = 0 := by decide
          have y_6 : (6 : Int32).toInt = 6 := by decide
          have y_12 : (12 : Int32).toInt = 12 := by decide
          refine ⟨?_, ?_⟩ <;> omega
        have ha_36 : 0 ≤ ((Mf 3) (Mv 5).toNatClampNeg).toInt ∧ ((Mf 3) (Mv 5).toNatClampNeg).toInt ≤ (sv_18 : Int32).toInt := by
          have z_1 : ¬ ((Mv 5) : Int32).toInt = (6 : Int32).toInt := fun z => c_12 (Int32.toInt_inj.mp z)
          have z_2 : ¬ (r_22 : Int32).toInt = (0 : Int32).toInt := fun z => c_26 (Int32.toInt_inj.mp z)
          have z_3 : ¬ ((Mv 8) : Int32).toInt = (12 : Int32).toInt := fun z => c_30 (Int32.toInt_inj.mp z)
          have y_0 : (0 : Int32).toInt = 0 := by decide
          have y_6 : (6 : Int32).toInt = 6 := by decide
          have y_12 : (12 : Int32).toInt = 12 := by decide
          refine ⟨?_, ?_⟩ <;> omega
        have ha_37 : ((Mf 5) (Mv 5).toInt.toNat).toInt + 1 = (x_31 : Int32).toInt ∧ (x_31 : Int32).toInt ≤ 12 := by
          have z_1 : ¬ ((Mv 5) : Int32).toInt = (6 : Int32).toInt := fun z => c_12 (Int32.toInt_inj.mp z)
          have z_2 : ¬ (r_22 : Int32).toInt = (0 : Int32).toInt := fun z => c_26 (Int32.toInt_inj.mp z)
          have z_3 : ¬ ((Mv 8) : Int32).toInt = (12 : Int32).toInt := fun z => c_30 (Int32.toInt_inj.mp z)
          have y_0 : (0 : Int32).toInt = 0 := by decide
          have y_6 : (6 : Int32).toInt = 6 := by decide
          have y_12 : (12 : Int32).toInt = 12 := by decide
          have y_1 : (1 : Int32).toInt = 1 := by decide
          have t_x_31 : x_31.toInt = ((Mv 8) : Int32).toInt + (1 : Int32).toInt := by rw [ex_31]; exact add_toInt (by omega) (by omega)
          refine ⟨?_, ?_⟩ <;> omega
        refine cV (a := (Ma 0)) (As := []) (rest := []) (wr := []) ⟨hx, hb, hml, hown, hts⟩ hK hX hA (ct_X12_isBuyHere l D tc sk Ma (fun k => ([(Mv 0), (Mv 1), sv_18, (Mv 3), (Mv 4), (Mv 5), (Mv 6), (Mv 7), x_31, (Mv 9), (Mv 10), (Mv 11), (Mv 12), (Mv 13), (Mv 14)] : List (Int32)).getD k 0) Mf Mj ha_33 ha_34 ha_35 ha_36 h_rp ha_37) k_1275 k_1272 k_1274 k_41 k_106 pl_X12_isBuyHere ⟨Nat.le_of_ble_eq_true rfl, Nat.le_of_ble_eq_true rfl⟩ rfl rfl (va_recv hK hP (ci := 12) (q0 := 5) rfl rfl) hP hD hS [5, 6, 0, 1, 2, 3, 4] [] rfl rfl rfl rfl rfl (by decide) rfl hl.1 rfl (Nat.le_of_ble_eq_true rfl) dX12_clauseHere_104 ⟨Nat.le_of_ble_eq_true rfl, Nat.le_of_ble_eq_true rfl⟩ (fun v_38 u_39 H locs hv_40 hP hD hS => ?_)
        obtain ⟨sv_41, sv_42, sv_43, sv_44, sv_45, sv_46, sv_47, sv_48, sv_49, sv_50, sv_51⟩ := u_39
        obtain ⟨r_55, rfl, he_56, pf_52, pf_53, pf_54, hm_58⟩ := hv_40
        have he_56 : ((r_55.toInt = 0 ∧ ¬ (sv_42 : Int32).toInt = 0) ∨ (r_55.toInt = 1 ∧ 0 ≤ (sv_48 (Mv 5).toNatClampNeg).toInt ∧ (sv_48 (Mv 5).toNatClampNeg).toInt ≤ (sv_41 : Int32).toInt ∧ (sv_50 (Mv 5).toInt.toNat).toInt = ((Mf 5) (Mv 5).toInt.toNat).toInt + 1)) := he_56
        have pf_52 : (sv_18 : Int32).toInt ≤ (sv_41 : Int32).toInt ∧ (sv_41 : Int32).toInt ≤ ((Mv 0) : Int32).toInt := pf_52
        have pf_53 : ((Mv 6) : Int32).toInt ≤ (sv_44 : Int32).toInt ∧ (sv_44 : Int32).toInt ≤ 60 := pf_53
        have pf_54 : RulD sv_47 sv_49 sv_50 (Mv 5) := pf_54
        refine W.eq (g2 := F0 m 107 ls [.int r_55]) rfl ?_
        have hP : va_P D classes [((Ma 0), .inr (12, [.ref (Ma 1), .int (Mv 0), .int (Mv 1), .ref (Ma 2), .ref (Ma 3), .ref (Ma 4), .ref (Ma 5), .ref (Ma 6), .int sv_41, .int sv_42, .int sv_43, .int (Mv 5), .int sv_44, .int sv_45, .int x_31, .ref (Ma 7), .int sv_46, .ref (Ma 8), .int (Mv 10), .ref (Ma 9), .ref (Ma 10), .int (Mv 11), .int (Mv 12), .int (Mv 13), .ref (Ma 11), .int (Mv 14), .ref (Ma 12), .ref (Ma 13), .ref (Ma 14), .ref (Ma 15), .ref (Ma 16), .long (Mj 0), .ref (Ma 17), .ref (Ma 18), .ref (Ma 19), .ref (Ma 20)])), ((Ma 1), .inl (tc 2, 400, .inl (Mf 1))), ((Ma 2), .inl (tc 0, 2400, .inl sv_47)), ((Ma 3), .inl (tc 0, 7, .inl sv_48)), ((Ma 4), .inl (tc 0, 288, .inl sv_49)), ((Ma 5), .inl (tc 0, 6, .inl sv_50)), ((Ma 7), .inl (tc 0, 400, .inl sv_51))] H := hP
        have hD : va_D A [((Ma 0), .inr (12, [.ref (Ma 1), .int (Mv 0), .int (Mv 1), .ref (Ma 2), .ref (Ma 3), .ref (Ma 4), .ref (Ma 5), .ref (Ma 6), .int sv_41, .int sv_42, .int sv_43, .int (Mv 5), .int sv_44, .int sv_45, .int x_31, .ref (Ma 7), .int sv_46, .ref (Ma 8), .int (Mv 10), .ref (Ma 9), .ref (Ma 10), .int (Mv 11), .int (Mv 12), .int (Mv 13), .ref (Ma 11), .int (Mv 14), .ref (Ma 12), .ref (Ma 13), .ref (Ma 14), .ref (Ma 15), .ref (Ma 16), .long (Mj 0), .ref (Ma 17), .ref (Ma 18), .ref (Ma 19), .ref (Ma 20)])), ((Ma 1), .inl (tc 2, 400, .inl (Mf 1))), ((Ma 2), .inl (tc 0, 2400, .inl sv_47)), ((Ma 3), .inl (tc 0, 7, .inl sv_48)), ((Ma 4), .inl (tc 0, 288, .inl sv_49)), ((Ma 5), .inl (tc 0, 6, .inl sv_50)), ((Ma 7), .inl (tc 0, 400, .inl sv_51))] := hD
        have ha_59 : ((Mv 2) : Int32).toInt ≤ (sv_41 : Int32).toInt ∧ (sv_41 : Int32).toInt ≤ ((Mv 0) : Int32).toInt := by
          have z_1 : ¬ ((Mv 5) : Int32).toInt = (6 : Int32).toInt := fun z => c_12 (Int32.toInt_inj.mp z)
          have z_2 : ¬ (r_22 : Int32).toInt = (0 : Int32).toInt := fun z => c_26 (Int32.toInt_inj.mp z)
          have z_3 : ¬ ((Mv 8) : Int32).toInt = (12 : Int32).toInt := fun z => c_30 (Int32.toInt_inj.mp z)
          have y_0 : (0 : Int32).toInt = 0 := by decide
          have y_6 : (6 : Int32).toInt = 6 := by decide
          have y_12 : (12 : Int32).toInt = 12 := by decide
          refine ⟨?_, ?_⟩ <;> omega
        have ha_60 : ((Mv 6) : Int32).toInt ≤ (sv_44 : Int32).toInt ∧ (sv_44 : Int32).toInt ≤ 60 := by
          have z_1 : ¬ ((Mv 5) : Int32).toInt = (6 : Int32).toInt := fun z => c_12 (Int32.toInt_inj.mp z)
          have z_2 : ¬ (r_22 : Int32).toInt = (0 : Int32).toInt := fun z => c_26 (Int32.toInt_inj.mp z)
          have z_3 : ¬ ((Mv 8) : Int32).toInt = (12 : Int32).toInt := fun z => c_30 (Int32.toInt_inj.mp z)
          have y_0 : (0 : Int32).toInt = 0 := by decide
          have y_6 : (6 : Int32).toInt = 6 := by decide
          have y_12 : (12 : Int32).toInt = 12 := by decide
          refine ⟨?_, ?_⟩ <;> omega
        have hb_61 : (r_55 : Int32).toInt = 0 ∨ (r_55 : Int32).toInt = 1 := by
          have z_1 : ¬ ((Mv 5) : Int32).toInt = (6 : Int32).toInt := fun z => c_12 (Int32.toInt_inj.mp z)
          have z_2 : ¬ (r_22 : Int32).toInt = (0 : Int32).toInt := fun z => c_26 (Int32.toInt_inj.mp z)
          have z_3 : ¬ ((Mv 8) : Int32).toInt = (12 : Int32).toInt := fun z => c_30 (Int32.toInt_inj.mp z)
          have y_0 : (0 : Int32).toInt = 0 := by decide
          have y_6 : (6 : Int32).toInt = 6 := by decide
          have y_12 : (12 : Int32).toInt = 12 := by decide
          omega
        have hp_62 : (((r_55 : Int32).toInt = 0 ∧ ¬ (sv_42 : Int32).toInt = 0) ∨ ((r_55 : Int32).toInt = 1 ∧ 0 ≤ (sv_48 (Mv 5).toNatClampNeg).toInt ∧ (sv_48 (Mv 5).toNatClampNeg).toInt ≤ (sv_41 : Int32).toInt ∧ (sv_50 (Mv 5).toInt.toNat).toInt = (x_31 : Int32).toInt ∧ 0 ≤ (x_31 : Int32).toInt ∧ (x_31 : Int32).toInt ≤ 12)) := by
          have z_1 : ¬ ((Mv 5) : Int32).toInt = (6 : Int32).toInt := fun z => c_12 (Int32.toInt_inj.mp z)
          have z_2 : ¬ (r_22 : Int32).toInt = (0 : Int32).toInt := fun z => c_26 (Int32.toInt_inj.mp z)
          have z_3 : ¬ ((Mv 8) : Int32).toInt = (12 : Int32).toInt := fun z => c_30 (Int32.toInt_inj.mp z)
          have y_0 : (0 : Int32).toInt = 0 := by decide
          have y_6 : (6 : Int32).toInt = 6 := by decide
          have y_12 : (12 : Int32).toInt = 12 := by decide
          have y_1 : (1 : Int32).toInt = 1 := by decide
          have t_x_31 : x_31.toInt = ((Mv 8) : Int32).toInt + (1 : Int32).toInt := by rw [ex_31]; exact add_toInt (by omega) (by omega)
          omega
        have hm_63 : (r_55 : Int32).toInt = 1 → (RulP sv_47 sv_49 sv_50 (Mv 5) ((sv_48 (Mv 5).toNatClampNeg).toInt)) := by
          intro h1r
          obtain pf_64 := hm_58 h1r
          have pf_64 : RulP sv_47 sv_49 sv_50 (Mv 5) ((sv_48 (Mv 5).toNatClampNeg).toInt) := pf_64
          have ar_pf_64 := pf_64.2.1
          exact pf_64
        exact retI (v := r_55) hx hb hr hlk (nar01 hb_61) hP hD hS (sv_41, sv_42, sv_43, sv_44, sv_45, x_31, sv_46, sv_47, sv_48, sv_49, sv_50, sv_51) ⟨_, rfl, hp_62, ha_59, ha_60, pf_54, hm_63⟩ [0, 1, 2, 3, 4, 5, 6] rfl rfl dX12_clauseHere_107 (Nat.le_of_ble_eq_true rfl) (Nat.le_of_ble_eq_true rfl) rfl
      · skip
        refine lv_aload_n hx hb dX12_clauseHere_74 rfl (lv_at hl 2 rfl) ?_
        refine lv_iconst (v := 4) hx hb dX12_clauseHere_75 (by decide) ?_
        refine lv_iload_n hx hb dX12_clauseHere_76 rfl (lv_at hl 1 rfl) ?_
        have ha_65 : 0 ≤ (4 : Int32).toInt ∧ (4 : Int32).toInt ≤ 4 := by
          have z_1 : ¬ ((Mv 5) : Int32).toInt = (6 : Int32).toInt := fun z => c_12 (Int32.toInt_inj.mp z)
          have z_2 : ¬ (r_22 : Int32).toInt = (0 : Int32).toInt := fun z => c_26 (Int32.toInt_inj.mp z)
          have z_3 := congrArg Int32.toInt c_30
          have y_0 : (0 : Int32).toInt = 0 := by decide
          have y_6 : (6 : Int32).toInt = 6 := by decide
          have y_12 : (12 : Int32).toInt = 12 := by decide
          have y_4 : (4 : Int32).toInt = 4 := by decide
          refine ⟨?_, ?_⟩ <;> omega
        have ha_66 : 0 ≤ sv_5.toInt ∧ sv_5.toInt ≤ 400 := by
          have z_1 : ¬ ((Mv 5) : Int32).toInt = (6 : Int32).toInt := fun z => c_12 (Int32.toInt_inj.mp z)
          have z_2 : ¬ (r_22 : Int32).toInt = (0 : Int32).toInt := fun z => c_26 (Int32.toInt_inj.mp z)
          have z_3 := congrArg Int32.toInt c_30
          have y_0 : (0 : Int32).toInt = 0 := by decide
          have y_6 : (6 : Int32).toInt = 6 := by decide
          have y_12 : (12 : Int32).toInt = 12 := by decide
          refine ⟨?_, ?_⟩ <;> omega
        refine cV (a := (Ma 0)) (As := [.int 4, .int sv_5]) (rest := []) (wr := [((Ma 2), .inl (tc 0, 2400, .inl (Mf 2))), ((Ma 3), .inl (tc 0, 7, .inl (Mf 3))), ((Ma 4), .inl (tc 0, 288, .inl (Mf 4))), ((Ma 5), .inl (tc 0, 6, .inl (Mf 5))), ((Ma 7), .inl (tc 0, 400, .inl (Mf 7))), ((Ma 1), .inl (tc 2, 400, .inl (Mf 1)))]) ⟨hx, hb, hml, hown, hts⟩ hK hX hA (ct_X12_fails l D tc sk Ma (fun k => ([(Mv 0), (Mv 1), sv_18, (Mv 3), (Mv 4), (Mv 5), (Mv 6), (Mv 7), (Mv 8), (Mv 9), (Mv 10), (Mv 11), (Mv 12), (Mv 13), (Mv 14)] : List (Int32)).getD k 0) Mj 4 sv_5 ha_65 ha_66) k_1232 k_1229 k_1231 k_31 k_106 pl_X12_fails ⟨Nat.le_of_ble_eq_true rfl, Nat.le_of_ble_eq_true rfl⟩ rfl rfl (va_recv hK hP (ci := 12) (q0 := 5) rfl rfl) hP hD hS [5] [0, 1, 2, 3, 4, 6] rfl rfl rfl rfl rfl (by decide) rfl hl.1 rfl (Nat.le_of_ble_eq_true rfl) dX12_clauseHere_77 ⟨Nat.le_of_ble_eq_true rfl, Nat.le_of_ble_eq_true rfl⟩ (fun v_67 u_68 H locs hv_69 hP hD hS => ?_)
        obtain ⟨sv_70, rfl⟩ : ∃ z, z = u_68 := ⟨_, rfl⟩
        obtain ⟨r_72, rfl, he_73, pf_71⟩ := hv_69
        have he_73 : r_72.toInt = 0 := he_73
        have pf_71 : ¬ (sv_70 : Int32).toInt = 0 := pf_71
        refine W.eq (g2 := F0 m 80 ls [.int r_72]) rfl ?_
        have hP : va_P D classes [((Ma 2), .inl (tc 0, 2400, .inl (Mf 2))), ((Ma 3), .inl (tc 0, 7, .inl (Mf 3))), ((Ma 4), .inl (tc 0, 288, .inl (Mf 4))), ((Ma 5), .inl (tc 0, 6, .inl (Mf 5))), ((Ma 7), .inl (tc 0, 400, .inl (Mf 7))), ((Ma 1), .inl (tc 2, 400, .inl (Mf 1))), ((Ma 0), .inr (12, [.ref (Ma 1), .int (Mv 0), .int (Mv 1), .ref (Ma 2), .ref (Ma 3), .ref (Ma 4), .ref (Ma 5), .ref (Ma 6), .int sv_18, .int sv_70, .int (Mv 4), .int (Mv 5), .int (Mv 6), .int (Mv 7), .int (Mv 8), .ref (Ma 7), .int (Mv 9), .ref (Ma 8), .int (Mv 10), .ref (Ma 9), .ref (Ma 10), .int (Mv 11), .int (Mv 12), .int (Mv 13), .ref (Ma 11), .int (Mv 14), .ref (Ma 12), .ref (Ma 13), .ref (Ma 14), .ref (Ma 15), .ref (Ma 16), .long (Mj 0), .ref (Ma 17), .ref (Ma 18), .ref (Ma 19), .ref (Ma 20)]))] H := hP
        have hD : va_D A [((Ma 2), .inl (tc 0, 2400, .inl (Mf 2))), ((Ma 3), .inl (tc 0, 7, .inl (Mf 3))), ((Ma 4), .inl (tc 0, 288, .inl (Mf 4))), ((Ma 5), .inl (tc 0, 6, .inl (Mf 5))), ((Ma 7), .inl (tc 0, 400, .inl (Mf 7))), ((Ma 1), .inl (tc 2, 400, .inl (Mf 1))), ((Ma 0), .inr (12, [.ref (Ma 1), .int (Mv 0), .int (Mv 1), .ref (Ma 2), .ref (Ma 3), .ref (Ma 4), .ref (Ma 5), .ref (Ma 6), .int sv_18, .int sv_70, .int (Mv 4), .int (Mv 5), .int (Mv 6), .int (Mv 7), .int (Mv 8), .ref (Ma 7), .int (Mv 9), .ref (Ma 8), .int (Mv 10), .ref (Ma 9), .ref (Ma 10), .int (Mv 11), .int (Mv 12), .int (Mv 13), .ref (Ma 11), .int (Mv 14), .ref (Ma 12), .ref (Ma 13), .ref (Ma 14), .ref (Ma 15), .ref (Ma 16), .long (Mj 0), .ref (Ma 17), .ref (Ma 18), .ref (Ma 19), .ref (Ma 20)]))] := hD
        have ha_75 : ((Mv 2) : Int32).toInt ≤ (sv_18 : Int32).toInt ∧ (sv_18 : Int32).toInt ≤ ((Mv 0) : Int32).toInt := by
          have z_1 : ¬ ((Mv 5) : Int32).toInt = (6 : Int32).toInt := fun z => c_12 (Int32.toInt_inj.mp z)
          have z_2 : ¬ (r_22 : Int32).toInt = (0 : Int32).toInt := fun z => c_26 (Int32.toInt_inj.mp z)
          have z_3 := congrArg Int32.toInt c_30
          have y_0 : (0 : Int32).toInt = 0 := by decide
          have y_6 : (6 : Int32).toInt = 6 := by decide
          have y_12 : (12 : Int32).toInt = 12 := by decide
          refine ⟨?_, ?_⟩ <;> omega
        have ha_76 : ((Mv 6) : Int32).toInt ≤ ((Mv 6) : Int32).toInt ∧ ((Mv 6) : Int32).toInt ≤ 60 := by
          have z_1 : ¬ ((Mv 5) : Int32).toInt = (6 : Int32).toInt := fun z => c_12 (Int32.toInt_inj.mp z)
          have z_2 : ¬ (r_22 : Int32).toInt = (0 : Int32).toInt := fun z => c_26 (Int32.toInt_inj.mp z)
          have z_3 := congrArg Int32.toInt c_30
          have y_0 : (0 : Int32).toInt = 0 := by decide
          have y_6 : (6 : Int32).toInt = 6 := by decide
          have y_12 : (12 : Int32).toInt = 12 := by decide
          refine ⟨?_, ?_⟩ <;> omega
        have hb_77 : (r_72 : Int32).toInt = 0 ∨ (r_72 : Int32).toInt = 1 := by
          have z_1 : ¬ ((Mv 5) : Int32).toInt = (6 : Int32).toInt := fun z => c_12 (Int32.toInt_inj.mp z)
          have z_2 : ¬ (r_22 : Int32).toInt = (0 : Int32).toInt := fun z => c_26 (Int32.toInt_inj.mp z)
          have z_3 := congrArg Int32.toInt c_30
          have y_0 : (0 : Int32).toInt = 0 := by decide
          have y_6 : (6 : Int32).toInt = 6 := by decide
          have y_12 : (12 : Int32).toInt = 12 := by decide
          omega
        have hp_78 : (((r_72 : Int32).toInt = 0 ∧ ¬ (sv_70 : Int32).toInt = 0) ∨ ((r_72 : Int32).toInt = 1 ∧ 0 ≤ ((Mf 3) (Mv 5).toNatClampNeg).toInt ∧ ((Mf 3) (Mv 5).toNatClampNeg).toInt ≤ (sv_18 : Int32).toInt ∧ ((Mf 5) (Mv 5).toInt.toNat).toInt = ((Mv 8) : Int32).toInt ∧ 0 ≤ ((Mv 8) : Int32).toInt ∧ ((Mv 8) : Int32).toInt ≤ 12)) := by
          have z_1 : ¬ ((Mv 5) : Int32).toInt = (6 : Int32).toInt := fun z => c_12 (Int32.toInt_inj.mp z)
          have z_2 : ¬ (r_22 : Int32).toInt = (0 : Int32).toInt := fun z => c_26 (Int32.toInt_inj.mp z)
          have z_3 := congrArg Int32.toInt c_30
          have y_0 : (0 : Int32).toInt = 0 := by decide
          have y_6 : (6 : Int32).toInt = 6 := by decide
          have y_12 : (12 : Int32).toInt = 12 := by decide
          omega
        have hm_79 : (r_72 : Int32).toInt = 1 → (RulP (Mf 2) (Mf 4) (Mf 5) (Mv 5) (((Mf 3) (Mv 5).toNatClampNeg).toInt)) := by
          intro h1r
          exfalso
          have z_1 : ¬ ((Mv 5) : Int32).toInt = (6 : Int32).toInt := fun z => c_12 (Int32.toInt_inj.mp z)
          have z_2 : ¬ (r_22 : Int32).toInt = (0 : Int32).toInt := fun z => c_26 (Int32.toInt_inj.mp z)
          have z_3 := congrArg Int32.toInt c_30
          have y_0 : (0 : Int32).toInt = 0 := by decide
          have y_6 : (6 : Int32).toInt = 6 := by decide
          have y_12 : (12 : Int32).toInt = 12 := by decide
          omega
        exact retI (v := r_72) hx hb hr hlk (nar01 hb_77) hP hD hS (sv_18, sv_70, (Mv 4), (Mv 6), (Mv 7), (Mv 8), (Mv 9), (Mf 2), (Mf 3), (Mf 4), (Mf 5), (Mf 7)) ⟨_, rfl, hp_78, ha_75, ha_76, h_rp.1, hm_79⟩ [6, 5, 0, 1, 2, 3, 4] rfl rfl dX12_clauseHere_80 (Nat.le_of_ble_eq_true rfl) (Nat.le_of_ble_eq_true rfl) rfl
    · skip
      refine lv_aload_n hx hb dX12_clauseHere_49 rfl (lv_at hl 2 rfl) ?_
      refine lv_iconst (v := 0) hx hb dX12_clauseHere_50 (by decide) ?_
      refine lv_iload_n hx hb dX12_clauseHere_51 rfl (lv_at hl 1 rfl) ?_
      have ha_80 : 0 ≤ (0 : Int32).toInt ∧ (0 : Int32).toInt ≤ 4 := by
        have z_1 : ¬ ((Mv 5) : Int32).toInt = (6 : Int32).toInt := fun z => c_12 (Int32.toInt_inj.mp z)
        have z_2 := congrArg Int32.toInt c_26
        have y_0 : (0 : Int32).toInt = 0 := by decide
        have y_6 : (6 : Int32).toInt = 6 := by decide
        refine ⟨?_, ?_⟩ <;> omega
      have ha_81 : 0 ≤ sv_5.toInt ∧ sv_5.toInt ≤ 400 := by
        have z_1 : ¬ ((Mv 5) : Int32).toInt = (6 : Int32).toInt := fun z => c_12 (Int32.toInt_inj.mp z)
        have z_2 := congrArg Int32.toInt c_26
        have y_0 : (0 : Int32).toInt = 0 := by decide
        have y_6 : (6 : Int32).toInt = 6 := by decide
        refine ⟨?_, ?_⟩ <;> omega
      refine cV (a := (Ma 0)) (As := [.int 0, .int sv_5]) (rest := []) (wr := [((Ma 2), .inl (tc 0, 2400, .inl (Mf 2))), ((Ma 3), .inl (tc 0, 7, .inl (Mf 3))), ((Ma 4), .inl (tc 0, 288, .inl (Mf 4))), ((Ma 5), .inl (tc 0, 6, .inl (Mf 5))), ((Ma 7), .inl (tc 0, 400, .inl (Mf 7))), ((Ma 1), .inl (tc 2, 400, .inl (Mf 1)))]) ⟨hx, hb, hml, hown, hts⟩ hK hX hA (ct_X12_fails l D tc sk Ma (fun k => ([(Mv 0), (Mv 1), sv_18, (Mv 3), (Mv 4), (Mv 5), (Mv 6), (Mv 7), (Mv 8), (Mv 9), (Mv 10), (Mv 11), (Mv 12), (Mv 13), (Mv 14)] : List (Int32)).getD k 0) Mj 0 sv_5 ha_80 ha_81) k_1232 k_1229 k_1231 k_31 k_106 pl_X12_fails ⟨Nat.le_of_ble_eq_true rfl, Nat.le_of_ble_eq_true rfl⟩ rfl rfl (va_recv hK hP (ci := 12) (q0 := 5) rfl rfl) hP hD hS [5] [0, 1, 2, 3, 4, 6] rfl rfl rfl rfl rfl (by decide) rfl hl.1 rfl (Nat.le_of_ble_eq_true rfl) dX12_clauseHere_52 ⟨Nat.le_of_ble_eq_true rfl, Nat.le_of_ble_eq_true rfl⟩ (fun v_82 u_83 H locs hv_84 hP hD hS => ?_)
      obtain ⟨sv_85, rfl⟩ : ∃ z, z = u_83 := ⟨_, rfl⟩
      obtain ⟨r_87, rfl, he_88, pf_86⟩ := hv_84
      have he_88 : r_87.toInt = 0 := he_88
      have pf_86 : ¬ (sv_85 : Int32).toInt = 0 := pf_86
      refine W.eq (g2 := F0 m 55 ls [.int r_87]) rfl ?_
      have hP : va_P D classes [((Ma 2), .inl (tc 0, 2400, .inl (Mf 2))), ((Ma 3), .inl (tc 0, 7, .inl (Mf 3))), ((Ma 4), .inl (tc 0, 288, .inl (Mf 4))), ((Ma 5), .inl (tc 0, 6, .inl (Mf 5))), ((Ma 7), .inl (tc 0, 400, .inl (Mf 7))), ((Ma 1), .inl (tc 2, 400, .inl (Mf 1))), ((Ma 0), .inr (12, [.ref (Ma 1), .int (Mv 0), .int (Mv 1), .ref (Ma 2), .ref (Ma 3), .ref (Ma 4), .ref (Ma 5), .ref (Ma 6), .int sv_18, .int sv_85, .int (Mv 4), .int (Mv 5), .int (Mv 6), .int (Mv 7), .int (Mv 8), .ref (Ma 7), .int (Mv 9), .ref (Ma 8), .int (Mv 10), .ref (Ma 9), .ref (Ma 10), .int (Mv 11), .int (Mv 12), .int (Mv 13), .ref (Ma 11), .int (Mv 14), .ref (Ma 12), .ref (Ma 13), .ref (Ma 14), .ref (Ma 15), .ref (Ma 16), .long (Mj 0), .ref (Ma 17), .ref (Ma 18), .ref (Ma 19), .ref (Ma 20)]))] H := hP
      have hD : va_D A [((Ma 2), .inl (tc 0, 2400, .inl (Mf 2))), ((Ma 3), .inl (tc 0, 7, .inl (Mf 3))), ((Ma 4), .inl (tc 0, 288, .inl (Mf 4))), ((Ma 5), .inl (tc 0, 6, .inl (Mf 5))), ((Ma 7), .inl (tc 0, 400, .inl (Mf 7))), ((Ma 1), .inl (tc 2, 400, .inl (Mf 1))), ((Ma 0), .inr (12, [.ref (Ma 1), .int (Mv 0), .int (Mv 1), .ref (Ma 2), .ref (Ma 3), .ref (Ma 4), .ref (Ma 5), .ref (Ma 6), .int sv_18, .int sv_85, .int (Mv 4), .int (Mv 5), .int (Mv 6), .int (Mv 7), .int (Mv 8), .ref (Ma 7), .int (Mv 9), .ref (Ma 8), .int (Mv 10), .ref (Ma 9), .ref (Ma 10), .int (Mv 11), .int (Mv 12), .int (Mv 13), .ref (Ma 11), .int (Mv 14), .ref (Ma 12), .ref (Ma 13), .ref (Ma 14), .ref (Ma 15), .ref (Ma 16), .long (Mj 0), .ref (Ma 17), .ref (Ma 18), .ref (Ma 19), .ref (Ma 20)]))] := hD
      have ha_90 : ((Mv 2) : Int32).toInt ≤ (sv_18 : Int32).toInt ∧ (sv_18 : Int32).toInt ≤ ((Mv 0) : Int32).toInt := by
        have z_1 : ¬ ((Mv 5) : Int32).toInt = (6 : Int32).toInt := fun z => c_12 (Int32.toInt_inj.mp z)
        have z_2 := congrArg Int32.toInt c_26
        have y_0 : (0 : Int32).toInt = 0 := by decide
        have y_6 : (6 : Int32).toInt = 6 := by decide
        refine ⟨?_, ?_⟩ <;> omega
      have ha_91 : ((Mv 6) : Int32).toInt ≤ ((Mv 6) : Int32).toInt ∧ ((Mv 6) : Int32).toInt ≤ 60 := by
        have z_1 : ¬ ((Mv 5) : Int32).toInt = (6 : Int32).toInt := fun z => c_12 (Int32.toInt_inj.mp z)
        have z_2 := congrArg Int32.toInt c_26
        have y_0 : (0 : Int32).toInt = 0 := by decide
        have y_6 : (6 : Int32).toInt = 6 := by decide
        refine ⟨?_, ?_⟩ <;> omega
      have hb_92 : (r_87 : Int32).toInt = 0 ∨ (r_87 : Int32).toInt = 1 := by
        have z_1 : ¬ ((Mv 5) : Int32).toInt = (6 : Int32).toInt := fun z => c_12 (Int32.toInt_inj.mp z)
        have z_2 := congrArg Int32.toInt c_26
        have y_0 : (0 : Int32).toInt = 0 := by decide
        have y_6 : (6 : Int32).toInt = 6 := by decide
        omega
      have hp_93 : (((r_87 : Int32).toInt = 0 ∧ ¬ (sv_85 : Int32).toInt = 0) ∨ ((r_87 : Int32).toInt = 1 ∧ 0 ≤ ((Mf 3) (Mv 5).toNatClampNeg).toInt ∧ ((Mf 3) (Mv 5).toNatClampNeg).toInt ≤ (sv_18 : Int32).toInt ∧ ((Mf 5) (Mv 5).toInt.toNat).toInt = ((Mv 8) : Int32).toInt ∧ 0 ≤ ((Mv 8) : Int32).toInt ∧ ((Mv 8) : Int32).toInt ≤ 12)) := by
        have z_1 : ¬ ((Mv 5) : Int32).toInt = (6 : Int32).toInt := fun z => c_12 (Int32.toInt_inj.mp z)
        have z_2 := congrArg Int32.toInt c_26
        have y_0 : (0 : Int32).toInt = 0 := by decide
        have y_6 : (6 : Int32).toInt = 6 := by decide
        omega
      have hm_94 : (r_87 : Int32).toInt = 1 → (RulP (Mf 2) (Mf 4) (Mf 5) (Mv 5) (((Mf 3) (Mv 5).toNatClampNeg).toInt)) := by
        intro h1r
        exfalso
        have z_1 : ¬ ((Mv 5) : Int32).toInt = (6 : Int32).toInt := fun z => c_12 (Int32.toInt_inj.mp z)
        have z_2 := congrArg Int32.toInt c_26
        have y_0 : (0 : Int32).toInt = 0 := by decide
        have y_6 : (6 : Int32).toInt = 6 := by decide
        omega
      exact retI (v := r_87) hx hb hr hlk (nar01 hb_92) hP hD hS (sv_18, sv_85, (Mv 4), (Mv 6), (Mv 7), (Mv 8), (Mv 9), (Mf 2), (Mf 3), (Mf 4), (Mf 5), (Mf 7)) ⟨_, rfl, hp_93, ha_90, ha_91, h_rp.1, hm_94⟩ [6, 5, 0, 1, 2, 3, 4] rfl rfl dX12_clauseHere_55 (Nat.le_of_ble_eq_true rfl) (Nat.le_of_ble_eq_true rfl) rfl
  · skip
    exfalso
    have z_1 := congrArg Int32.toInt c_12
    have y_6 : (6 : Int32).toInt = 6 := by decide
    omega
set_option maxHeartbeats 4000000 in
set_option maxRecDepth 100000 in
theorem ct_X12_readsAll_r (l : Launch) (D : va_G) (tc : Nat → ClassId) (sk : (Nat → Nat) × (Nat → Nat)) (Ma : Nat → Nat) (Mv : Nat → Int32) (Mf : Nat → Nat → Int32) (Mj : Nat → Int64) (h_tp : 0 ≤ ((Mv 0) : Int32).toInt ∧ ((Mv 0) : Int32).toInt ≤ 400) (h_t : 0 ≤ ((Mv 5) : Int32).toInt ∧ ((Mv 5) : Int32).toInt ≤ 5) (h_rp : RulP (Mf 2) (Mf 4) (Mf 5) (Mv 5) 0) (h_c : ((Mf 5) (Mv 5).toInt.toNat).toInt = 0) : Ct l yX12_readsAll cX12_readsAll 2 (some .boolean) { frames := 11, cells := 0, slots := 0, locals := 241 } D tc sk [.ref (Ma 0)] [((Ma 0), .inr (12, [.ref (Ma 1), .int (Mv 0), .int (Mv 1), .ref (Ma 2), .ref (Ma 3), .ref (Ma 4), .ref (Ma 5), .ref (Ma 6), .int (Mv 2), .int (Mv 3), .int (Mv 4), .int (Mv 5), .int (Mv 6), .int (Mv 7), .int (Mv 8), .ref (Ma 7), .int (Mv 9), .ref (Ma 8), .int (Mv 10), .ref (Ma 9), .ref (Ma 10), .int (Mv 11), .int (Mv 12), .int (Mv 13), .ref (Ma 11), .int (Mv 14), .ref (Ma 12), .ref (Ma 13), .ref (Ma 14), .ref (Ma 15), .ref (Ma 16), .long (Mj 0), .ref (Ma 17), .ref (Ma 18), .ref (Ma 19), .ref (Ma 20)])), ((Ma 1), .inl (tc 2, 400, .inl (Mf 1))), ((Ma 2), .inl (tc 0, 2400, .inl (Mf 2))), ((Ma 3), .inl (tc 0, 7, .inl (Mf 3))), ((Ma 4), .inl (tc 0, 288, .inl (Mf 4))), ((Ma 5), .inl (tc 0, 6, .inl (Mf 5))), ((Ma 7), .inl (tc 0, 400, .inl (Mf 7)))] (fun (v : Option Value) (u : (Int32) × (Int32) × (Int32) × (Int32) × (Int32) × (Int32) × (Int32) × (Nat → Int32) × (Nat → Int32) × (Nat → Int32) × (Nat → Int32) × (Nat → Int32)) => match u with | (oo0x1, oo0x2, oo0x3, oo0x4, oo0x5, oo0x6, oo0x7, oo0x8, oo0x9, oo0x10, oo0x11, oo0x12) => ∃ r : Int32, v = some (.int r) ∧ ((r.toInt = 0 ∨ (r.toInt = 1 ∧ (oo0x11 (Mv 5).toInt.toNat).toInt ≤ 12))) ∧ (RulD oo0x8 oo0x10 oo0x11 (Mv 5)) ∧ (r.toInt = 1 → (RulP oo0x8 oo0x10 oo0x11 (Mv 5) ((oo0x9 (Mv 5).toNatClampNeg).toInt)))) (fun (u : (Int32) × (Int32) × (Int32) × (Int32) × (Int32) × (Int32) × (Int32) × (Nat → Int32) × (Nat → Int32) × (Nat → Int32) × (Nat → Int32) × (Nat → Int32)) => match u with | (oo0x1, oo0x2, oo0x3, oo0x4, oo0x5, oo0x6, oo0x7, oo0x8, oo0x9, oo0x10, oo0x11, oo0x12) => [((Ma 0), .inr (12, [.ref (Ma 1), .int 0, .int (Mv 1), .ref (Ma 2), .ref (Ma 3), .ref (Ma 4), .ref (Ma 5), .ref (Ma 6), .int oo0x1, .int oo0x2, .int oo0x3, .int (Mv 5), .int oo0x4, .int oo0x5, .int oo0x6, .ref (Ma 7), .int oo0x7, .ref (Ma 8), .int (Mv 10), .ref (Ma 9), .ref (Ma 10), .int (Mv 11), .int (Mv 12), .int (Mv 13), .ref (Ma 11), .int (Mv 14), .ref (Ma 12), .ref (Ma 13), .ref (Ma 14), .ref (Ma 15), .ref (Ma 16), .long (Mj 0), .ref (Ma 17), .ref (Ma 18), .ref (Ma 19), .ref (Ma 20)])), ((Ma 1), .inl (tc 2, 400, .inl (Mf 1))), ((Ma 2), .inl (tc 0, 2400, .inl oo0x8)), ((Ma 3), .inl (tc 0, 7, .inl oo0x9)), ((Ma 4), .inl (tc 0, 288, .inl oo0x10)), ((Ma 5), .inl (tc 0, 6, .inl oo0x11)), ((Ma 7), .inl (tc 0, 400, .inl oo0x12))]) 0 0 := by
  refine Ct.start (by decide) (Nat.le_of_ble_eq_true rfl) (fun p e s m below meth c A ls hx hb hr hlk hin hml hown hts hK hX hP hD hA hl hS => ?_)
  have hl : lv_has ls 2 [(0, .ref (Ma 0))] := hl
  have ar_h_rp := h_rp.2.1
  refine lv_aload_n hx hb dX12_readsAll_0 rfl (lv_at hl 0 rfl) ?_
  refine gf_X12_17 hx hb hts hown hK hP 0 rfl rfl dX12_readsAll_1 ?_
  refine lv_aload_n hx hb dX12_readsAll_4 rfl (lv_at hl 0 rfl) ?_
  refine gf_X12_145 hx hb hts hown hK hP 0 rfl rfl dX12_readsAll_5 ?_
  refine lv_iconst (v := 0) hx hb dX12_readsAll_8 (by decide) ?_
  have hi_1 : vp_in (Mv 5) 7 := by
    refine vp_in_iff.mpr ⟨?_, ?_⟩ <;> omega
  refine st_int hx hb hK hP hD hS 3 0 rfl rfl hi_1 dX12_readsAll_9 (fun g_2 H locs eg_2 hP hD hS => ?_)
  have hP : va_P D classes [((Ma 0), .inr (12, [.ref (Ma 1), .int (Mv 0), .int (Mv 1), .ref (Ma 2), .ref (Ma 3), .ref (Ma 4), .ref (Ma 5), .ref (Ma 6), .int (Mv 2), .int (Mv 3), .int (Mv 4), .int (Mv 5), .int (Mv 6), .int (Mv 7), .int (Mv 8), .ref (Ma 7), .int (Mv 9), .ref (Ma 8), .int (Mv 10), .ref (Ma 9), .ref (Ma 10), .int (Mv 11), .int (Mv 12), .int (Mv 13), .ref (Ma 11), .int (Mv 14), .ref (Ma 12), .ref (Ma 13), .ref (Ma 14), .ref (Ma 15), .ref (Ma 16), .long (Mj 0), .ref (Ma 17), .ref (Ma 18), .ref (Ma 19), .ref (Ma 20)])), ((Ma 1), .inl (tc 2, 400, .inl (Mf 1))), ((Ma 2), .inl (tc 0, 2400, .inl (Mf 2))), ((Ma 3), .inl (tc 0, 7, .inl g_2)), ((Ma 4), .inl (tc 0, 288, .inl (Mf 4))), ((Ma 5), .inl (tc 0, 6, .inl (Mf 5))), ((Ma 7), .inl (tc 0, 400, .inl (Mf 7)))] H := hP
  have hD : va_D A [((Ma 0), .inr (12, [.ref (Ma 1), .int (Mv 0), .int (Mv 1), .ref (Ma 2), .ref (Ma 3), .ref (Ma 4), .ref (Ma 5), .ref (Ma 6), .int (Mv 2), .int (Mv 3), .int (Mv 4), .int (Mv 5), .int (Mv 6), .int (Mv 7), .int (Mv 8), .ref (Ma 7), .int (Mv 9), .ref (Ma 8), .int (Mv 10), .ref (Ma 9), .ref (Ma 10), .int (Mv 11), .int (Mv 12), .int (Mv 13), .ref (Ma 11), .int (Mv 14), .ref (Ma 12), .ref (Ma 13), .ref (Ma 14), .ref (Ma 15), .ref (Ma 16), .long (Mj 0), .ref (Ma 17), .ref (Ma 18), .ref (Ma 19), .ref (Ma 20)])), ((Ma 1), .inl (tc 2, 400, .inl (Mf 1))), ((Ma 2), .inl (tc 0, 2400, .inl (Mf 2))), ((Ma 3), .inl (tc 0, 7, .inl g_2)), ((Ma 4), .inl (tc 0, 288, .inl (Mf 4))), ((Ma 5), .inl (tc 0, 6, .inl (Mf 5))), ((Ma 7), .inl (tc 0, 400, .inl (Mf 7)))] := hD
  have kl_g_2 : (g_2 (Mv 5).toNatClampNeg).toInt = (0 : Int32).toInt := upd_toInt_at eg_2
  have kz0 : (0 : Int32).toInt = 0 := by decide
  refine lv_aload_n hx hb dX12_readsAll_10 rfl (lv_at hl 0 rfl) ?_
  refine lv_iconst (v := 0) hx hb dX12_readsAll_11 (by decide) ?_
  refine pf_X12_244 hx hb hts hown hK hP hD hS 0 rfl (Nat.le_of_ble_eq_true rfl) rfl rfl dX12_readsAll_12 (fun H locs hP hD hS => ?_)
  have hP : va_P D classes [((Ma 0), .inr (12, [.ref (Ma 1), .int (Mv 0), .int (Mv 1), .ref (Ma 2), .ref (Ma 3), .ref (Ma 4), .ref (Ma 5), .ref (Ma 6), .int (Mv 2), .int (Mv 3), .int (Mv 4), .int (Mv 5), .int (Mv 6), .int (Mv 7), .int 0, .ref (Ma 7), .int (Mv 9), .ref (Ma 8), .int (Mv 10), .ref (Ma 9), .ref (Ma 10), .int (Mv 11), .int (Mv 12), .int (Mv 13), .ref (Ma 11), .int (Mv 14), .ref (Ma 12), .ref (Ma 13), .ref (Ma 14), .ref (Ma 15), .ref (Ma 16), .long (Mj 0), .ref (Ma 17), .ref (Ma 18), .ref (Ma 19), .ref (Ma 20)])), ((Ma 1), .inl (tc 2, 400, .inl (Mf 1))), ((Ma 2), .inl (tc 0, 2400, .inl (Mf 2))), ((Ma 3), .inl (tc 0, 7, .inl g_2)), ((Ma 4), .inl (tc 0, 288, .inl (Mf 4))), ((Ma 5), .inl (tc 0, 6, .inl (Mf 5))), ((Ma 7), .inl (tc 0, 400, .inl (Mf 7)))] H := hP
  have hD : va_D A [((Ma 0), .inr (12, [.ref (Ma 1), .int (Mv 0), .int (Mv 1), .ref (Ma 2), .ref (Ma 3), .ref (Ma 4), .ref (Ma 5), .ref (Ma 6), .int (Mv 2), .int (Mv 3), .int (Mv 4), .int (Mv 5), .int (Mv 6), .int (Mv 7), .int 0, .ref (Ma 7), .int (Mv 9), .ref (Ma 8), .int (Mv 10), .ref (Ma 9), .ref (Ma 10), .int (Mv 11), .int (Mv 12), .int (Mv 13), .ref (Ma 11), .int (Mv 14), .ref (Ma 12), .ref (Ma 13), .ref (Ma 14), .ref (Ma 15), .ref (Ma 16), .long (Mj 0), .ref (Ma 17), .ref (Ma 18), .ref (Ma 19), .ref (Ma 20)])), ((Ma 1), .inl (tc 2, 400, .inl (Mf 1))), ((Ma 2), .inl (tc 0, 2400, .inl (Mf 2))), ((Ma 3), .inl (tc 0, 7, .inl g_2)), ((Ma 4), .inl (tc 0, 288, .inl (Mf 4))), ((Ma 5), .inl (tc 0, 6, .inl (Mf 5))), ((Ma 7), .inl (tc 0, 400, .inl (Mf 7)))] := hD
  refine lv_aload_n hx hb dX12_readsAll_15 rfl (lv_at hl 0 rfl) ?_
  refine lv_iconst (v := 0) hx hb dX12_readsAll_16 (by decide) ?_
  refine pf_X12_87 hx hb hts hown hK hP hD hS 0 rfl (Nat.le_of_ble_eq_true rfl) rfl rfl dX12_readsAll_17 (fun H locs hP hD hS => ?_)
  have hP : va_P D classes [((Ma 0), .inr (12, [.ref (Ma 1), .int (Mv 0), .int (Mv 1), .ref (Ma 2), .ref (Ma 3), .ref (Ma 4), .ref (Ma 5), .ref (Ma 6), .int 0, .int (Mv 3), .int (Mv 4), .int (Mv 5), .int (Mv 6), .int (Mv 7), .int 0, .ref (Ma 7), .int (Mv 9), .ref (Ma 8), .int (Mv 10), .ref (Ma 9), .ref (Ma 10), .int (Mv 11), .int (Mv 12), .int (Mv 13), .ref (Ma 11), .int (Mv 14), .ref (Ma 12), .ref (Ma 13), .ref (Ma 14), .ref (Ma 15), .ref (Ma 16), .long (Mj 0), .ref (Ma 17), .ref (Ma 18), .ref (Ma 19), .ref (Ma 20)])), ((Ma 1), .inl (tc 2, 400, .inl (Mf 1))), ((Ma 2), .inl (tc 0, 2400, .inl (Mf 2))), ((Ma 3), .inl (tc 0, 7, .inl g_2)), ((Ma 4), .inl (tc 0, 288, .inl (Mf 4))), ((Ma 5), .inl (tc 0, 6, .inl (Mf 5))), ((Ma 7), .inl (tc 0, 400, .inl (Mf 7)))] H := hP
  have hD : va_D A [((Ma 0), .inr (12, [.ref (Ma 1), .int (Mv 0), .int (Mv 1), .ref (Ma 2), .ref (Ma 3), .ref (Ma 4), .ref (Ma 5), .ref (Ma 6), .int 0, .int (Mv 3), .int (Mv 4), .int (Mv 5), .int (Mv 6), .int (Mv 7), .int 0, .ref (Ma 7), .int (Mv 9), .ref (Ma 8), .int (Mv 10), .ref (Ma 9), .ref (Ma 10), .int (Mv 11), .int (Mv 12), .int (Mv 13), .ref (Ma 11), .int (Mv 14), .ref (Ma 12), .ref (Ma 13), .ref (Ma 14), .ref (Ma 15), .ref (Ma 16), .long (Mj 0), .ref (Ma 17), .ref (Ma 18), .ref (Ma 19), .ref (Ma 20)])), ((Ma 1), .inl (tc 2, 400, .inl (Mf 1))), ((Ma 2), .inl (tc 0, 2400, .inl (Mf 2))), ((Ma 3), .inl (tc 0, 7, .inl g_2)), ((Ma 4), .inl (tc 0, 288, .inl (Mf 4))), ((Ma 5), .inl (tc 0, 6, .inl (Mf 5))), ((Ma 7), .inl (tc 0, 400, .inl (Mf 7)))] := hD
  refine lv_aload_n hx hb dX12_readsAll_20 rfl (lv_at hl 0 rfl) ?_
  refine lv_iconst (v := 0) hx hb dX12_readsAll_21 (by decide) ?_
  refine pf_X12_84 hx hb hts hown hK hP hD hS 0 rfl (Nat.le_of_ble_eq_true rfl) rfl rfl dX12_readsAll_22 (fun H locs hP hD hS => ?_)
  have hP : va_P D classes [((Ma 0), .inr (12, [.ref (Ma 1), .int (Mv 0), .int (Mv 1), .ref (Ma 2), .ref (Ma 3), .ref (Ma 4), .ref (Ma 5), .ref (Ma 6), .int 0, .int 0, .int (Mv 4), .int (Mv 5), .int (Mv 6), .int (Mv 7), .int 0, .ref (Ma 7), .int (Mv 9), .ref (Ma 8), .int (Mv 10), .ref (Ma 9), .ref (Ma 10), .int (Mv 11), .int (Mv 12), .int (Mv 13), .ref (Ma 11), .int (Mv 14), .ref (Ma 12), .ref (Ma 13), .ref (Ma 14), .ref (Ma 15), .ref (Ma 16), .long (Mj 0), .ref (Ma 17), .ref (Ma 18), .ref (Ma 19), .ref (Ma 20)])), ((Ma 1), .inl (tc 2, 400, .inl (Mf 1))), ((Ma 2), .inl (tc 0, 2400, .inl (Mf 2))), ((Ma 3), .inl (tc 0, 7, .inl g_2)), ((Ma 4), .inl (tc 0, 288, .inl (Mf 4))), ((Ma 5), .inl (tc 0, 6, .inl (Mf 5))), ((Ma 7), .inl (tc 0, 400, .inl (Mf 7)))] H := hP
  have hD : va_D A [((Ma 0), .inr (12, [.ref (Ma 1), .int (Mv 0), .int (Mv 1), .ref (Ma 2), .ref (Ma 3), .ref (Ma 4), .ref (Ma 5), .ref (Ma 6), .int 0, .int 0, .int (Mv 4), .int (Mv 5), .int (Mv 6), .int (Mv 7), .int 0, .ref (Ma 7), .int (Mv 9), .ref (Ma 8), .int (Mv 10), .ref (Ma 9), .ref (Ma 10), .int (Mv 11), .int (Mv 12), .int (Mv 13), .ref (Ma 11), .int (Mv 14), .ref (Ma 12), .ref (Ma 13), .ref (Ma 14), .ref (Ma 15), .ref (Ma 16), .long (Mj 0), .ref (Ma 17), .ref (Ma 18), .ref (Ma 19), .ref (Ma 20)])), ((Ma 1), .inl (tc 2, 400, .inl (Mf 1))), ((Ma 2), .inl (tc 0, 2400, .inl (Mf 2))), ((Ma 3), .inl (tc 0, 7, .inl g_2)), ((Ma 4), .inl (tc 0, 288, .inl (Mf 4))), ((Ma 5), .inl (tc 0, 6, .inl (Mf 5))), ((Ma 7), .inl (tc 0, 400, .inl (Mf 7)))] := hD
  refine lv_aload_n hx hb dX12_readsAll_25 rfl (lv_at hl 0 rfl) ?_
  refine lv_iconst (v := 0) hx hb dX12_readsAll_26 (by decide) ?_
  refine pf_X12_148 hx hb hts hown hK hP hD hS 0 rfl (Nat.le_of_ble_eq_true rfl) rfl rfl dX12_readsAll_27 (fun H locs hP hD hS => ?_)
  have hP : va_P D classes [((Ma 0), .inr (12, [.ref (Ma 1), .int (Mv 0), .int (Mv 1), .ref (Ma 2), .ref (Ma 3), .ref (Ma 4), .ref (Ma 5), .ref (Ma 6), .int 0, .int 0, .int (Mv 4), .int (Mv 5), .int 0, .int (Mv 7), .int 0, .ref (Ma 7), .int (Mv 9), .ref (Ma 8), .int (Mv 10), .ref (Ma 9), .ref (Ma 10), .int (Mv 11), .int (Mv 12), .int (Mv 13), .ref (Ma 11), .int (Mv 14), .ref (Ma 12), .ref (Ma 13), .ref (Ma 14), .ref (Ma 15), .ref (Ma 16), .long (Mj 0), .ref (Ma 17), .ref (Ma 18), .ref (Ma 19), .ref (Ma 20)])), ((Ma 1), .inl (tc 2, 400, .inl (Mf 1))), ((Ma 2), .inl (tc 0, 2400, .inl (Mf 2))), ((Ma 3), .inl (tc 0, 7, .inl g_2)), ((Ma 4), .inl (tc 0, 288, .inl (Mf 4))), ((Ma 5), .inl (tc 0, 6, .inl (Mf 5))), ((Ma 7), .inl (tc 0, 400, .inl (Mf 7)))] H := hP
  have hD : va_D A [((Ma 0), .inr (12, [.ref (Ma 1), .int (Mv 0), .int (Mv 1), .ref (Ma 2), .ref (Ma 3), .ref (Ma 4), .ref (Ma 5), .ref (Ma 6), .int 0, .int 0, .int (Mv 4), .int (Mv 5), .int 0, .int (Mv 7), .int 0, .ref (Ma 7), .int (Mv 9), .ref (Ma 8), .int (Mv 10), .ref (Ma 9), .ref (Ma 10), .int (Mv 11), .int (Mv 12), .int (Mv 13), .ref (Ma 11), .int (Mv 14), .ref (Ma 12), .ref (Ma 13), .ref (Ma 14), .ref (Ma 15), .ref (Ma 16), .long (Mj 0), .ref (Ma 17), .ref (Ma 18), .ref (Ma 19), .ref (Ma 20)])), ((Ma 1), .inl (tc 2, 400, .inl (Mf 1))), ((Ma 2), .inl (tc 0, 2400, .inl (Mf 2))), ((Ma 3), .inl (tc 0, 7, .inl g_2)), ((Ma 4), .inl (tc 0, 288, .inl (Mf 4))), ((Ma 5), .inl (tc 0, 6, .inl (Mf 5))), ((Ma 7), .inl (tc 0, 400, .inl (Mf 7)))] := hD
  refine lv_aload_n hx hb dX12_readsAll_30 rfl (lv_at hl 0 rfl) ?_
  have hr_3 : 0 ≤ ((g_2 (Mv 5).toNatClampNeg).toInt) := by
    omega
  have ha_4 : 0 ≤ ((0 : Int32) : Int32).toInt ∧ ((0 : Int32) : Int32).toInt ≤ ((Mv 0) : Int32).toInt ∧ ((Mv 0) : Int32).toInt ≤ 400 := by
    have y_0 : (0 : Int32).toInt = 0 := by decide
    refine ⟨?_, ?_, ?_⟩ <;> omega
  have ha_5 : 0 ≤ ((0 : Int32) : Int32).toInt ∧ ((0 : Int32) : Int32).toInt ≤ 60 := by
    have y_0 : (0 : Int32).toInt = 0 := by decide
    refine ⟨?_, ?_⟩ <;> omega
  have ha_6 : 0 ≤ ((Mv 5) : Int32).toInt ∧ ((Mv 5) : Int32).toInt ≤ 5 := by
    refine ⟨?_, ?_⟩ <;> omega
  have ha_7 : 0 ≤ (g_2 (Mv 5).toNatClampNeg).toInt ∧ (g_2 (Mv 5).toNatClampNeg).toInt ≤ ((0 : Int32) : Int32).toInt := by
    have y_0 : (0 : Int32).toInt = 0 := by decide
    refine ⟨?_, ?_⟩ <;> omega
  have ha_8 : ((Mf 5) (Mv 5).toInt.toNat).toInt = ((0 : Int32) : Int32).toInt ∧ 0 ≤ ((0 : Int32) : Int32).toInt ∧ ((0 : Int32) : Int32).toInt ≤ 12 := by
    have y_0 : (0 : Int32).toInt = 0 := by decide
    refine ⟨?_, ?_, ?_⟩ <;> omega
  refine cV (a := (Ma 0)) (As := []) (rest := []) (wr := []) ⟨hx, hb, hml, hown, hts⟩ hK hX hA (ct_X12_clauseHere_r l D tc sk Ma (fun k => ([(Mv 0), (Mv 1), 0, 0, (Mv 4), (Mv 5), 0, (Mv 7), 0, (Mv 9), (Mv 10), (Mv 11), (Mv 12), (Mv 13), (Mv 14)] : List (Int32)).getD k 0) (fun k => ([(fun _ => 0), (Mf 1), (Mf 2), g_2, (Mf 4), (Mf 5), (fun _ => 0), (Mf 7)] : List (Nat → Int32)).getD k (fun _ => 0)) Mj ha_4 ha_5 ha_6 ha_7 (RulP.mono h_rp hr_3) ha_8) k_1207 k_1204 k_1206 k_26 k_106 pl_X12_clauseHere ⟨Nat.le_of_ble_eq_true rfl, Nat.le_of_ble_eq_true rfl⟩ rfl rfl (va_recv hK hP (ci := 12) (q0 := 0) rfl rfl) hP hD hS [0, 1, 2, 3, 4, 5, 6] [] rfl rfl rfl rfl rfl (by decide) rfl hl.1 rfl (Nat.le_of_ble_eq_true rfl) dX12_readsAll_31 ⟨Nat.le_of_ble_eq_true rfl, Nat.le_of_ble_eq_true rfl⟩ (fun v_9 u_10 H locs hv_11 hP hD hS => ?_)
  obtain ⟨sv_12, sv_13, sv_14, sv_15, sv_16, sv_17, sv_18, sv_19, sv_20, sv_21, sv_22, sv_23⟩ := u_10
  obtain ⟨r_27, rfl, he_28, pf_24, pf_25, pf_26, hm_30⟩ := hv_11
  have he_28 : ((r_27.toInt = 0 ∧ ¬ (sv_13 : Int32).toInt = 0) ∨ (r_27.toInt = 1 ∧ 0 ≤ (sv_20 (Mv 5).toNatClampNeg).toInt ∧ (sv_20 (Mv 5).toNatClampNeg).toInt ≤ (sv_12 : Int32).toInt ∧ (sv_22 (Mv 5).toInt.toNat).toInt = (sv_17 : Int32).toInt ∧ 0 ≤ (sv_17 : Int32).toInt ∧ (sv_17 : Int32).toInt ≤ 12)) := he_28
  have pf_24 : ((0 : Int32) : Int32).toInt ≤ (sv_12 : Int32).toInt ∧ (sv_12 : Int32).toInt ≤ ((Mv 0) : Int32).toInt := pf_24
  have pf_25 : ((0 : Int32) : Int32).toInt ≤ (sv_15 : Int32).toInt ∧ (sv_15 : Int32).toInt ≤ 60 := pf_25
  have pf_26 : RulD sv_19 sv_21 sv_22 (Mv 5) := pf_26
  refine W.eq (g2 := F0 m 34 ls [.int r_27]) rfl ?_
  have hP : va_P D classes [((Ma 0), .inr (12, [.ref (Ma 1), .int (Mv 0), .int (Mv 1), .ref (Ma 2), .ref (Ma 3), .ref (Ma 4), .ref (Ma 5), .ref (Ma 6), .int sv_12, .int sv_13, .int sv_14, .int (Mv 5), .int sv_15, .int sv_16, .int sv_17, .ref (Ma 7), .int sv_18, .ref (Ma 8), .int (Mv 10), .ref (Ma 9), .ref (Ma 10), .int (Mv 11), .int (Mv 12), .int (Mv 13), .ref (Ma 11), .int (Mv 14), .ref (Ma 12), .ref (Ma 13), .ref (Ma 14), .ref (Ma 15), .ref (Ma 16), .long (Mj 0), .ref (Ma 17), .ref (Ma 18), .ref (Ma 19), .ref (Ma 20)])), ((Ma 1), .inl (tc 2, 400, .inl (Mf 1))), ((Ma 2), .inl (tc 0, 2400, .inl sv_19)), ((Ma 3), .inl (tc 0, 7, .inl sv_20)), ((Ma 4), .inl (tc 0, 288, .inl sv_21)), ((Ma 5), .inl (tc 0, 6, .inl sv_22)), ((Ma 7), .inl (tc 0, 400, .inl sv_23))] H := hP
  have hD : va_D A [((Ma 0), .inr (12, [.ref (Ma 1), .int (Mv 0), .int (Mv 1), .ref (Ma 2), .ref (Ma 3), .ref (Ma 4), .ref (Ma 5), .ref (Ma 6), .int sv_12, .int sv_13, .int sv_14, .int (Mv 5), .int sv_15, .int sv_16, .int sv_17, .ref (Ma 7), .int sv_18, .ref (Ma 8), .int (Mv 10), .ref (Ma 9), .ref (Ma 10), .int (Mv 11), .int (Mv 12), .int (Mv 13), .ref (Ma 11), .int (Mv 14), .ref (Ma 12), .ref (Ma 13), .ref (Ma 14), .ref (Ma 15), .ref (Ma 16), .long (Mj 0), .ref (Ma 17), .ref (Ma 18), .ref (Ma 19), .ref (Ma 20)])), ((Ma 1), .inl (tc 2, 400, .inl (Mf 1))), ((Ma 2), .inl (tc 0, 2400, .inl sv_19)), ((Ma 3), .inl (tc 0, 7, .inl sv_20)), ((Ma 4), .inl (tc 0, 288, .inl sv_21)), ((Ma 5), .inl (tc 0, 6, .inl sv_22)), ((Ma 7), .inl (tc 0, 400, .inl sv_23))] := hD
  refine lv_istore_n (lv' := [(1, .int r_27), (0, .ref (Ma 0))]) hx hb dX12_readsAll_34 rfl hl (by decide) rfl (fun ls hl => ?_)
  have loop_59 : ∀ (n_57 : Nat) (vy_44 : Int32) (vy_45 : Int32) (vy_46 : Int32) (vy_47 : Int32) (vy_48 : Int32) (vy_49 : Int32) (vy_50 : Int32) (vy_51 : Int32) (vy_52 : Nat → Int32) (vy_53 : Nat → Int32) (vy_54 : Nat → Int32) (vy_55 : Nat → Int32) (vy_56 : Nat → Int32) (H : Heap) (locs : List Loc) (ls : Array Slot), (2 * (401 - (vy_45 : Int32).toInt) + (vy_44 : Int32).toInt).toNat < n_57 → (0 ≤ (vy_45 : Int32).toInt ∧ (vy_45 : Int32).toInt ≤ ((Mv 0) : Int32).toInt ∧ ((Mv 0) : Int32).toInt ≤ 400) → (0 ≤ (vy_48 : Int32).toInt ∧ (vy_48 : Int32).toInt ≤ 60) → ((((vy_44 : Int32).toInt = 0 ∧ ¬ (vy_46 : Int32).toInt = 0) ∨ ((vy_44 : Int32).toInt = 1 ∧ 0 ≤ (vy_53 (Mv 5).toNatClampNeg).toInt ∧ (vy_53 (Mv 5).toNatClampNeg).toInt ≤ (vy_45 : Int32).toInt ∧ (vy_55 (Mv 5).toInt.toNat).toInt = (vy_50 : Int32).toInt ∧ 0 ≤ (vy_50 : Int32).toInt ∧ (vy_50 : Int32).toInt ≤ 12))) → (RuG vy_52 vy_54 vy_55 (Mv 5) ((vy_53 (Mv 5).toNatClampNeg).toInt) vy_44) → (RulD vy_52 vy_54 vy_55 (Mv 5)) → va_P D classes [((Ma 0), .inr (12, [.ref (Ma 1), .int (Mv 0), .int (Mv 1), .ref (Ma 2), .ref (Ma 3), .ref (Ma 4), .ref (Ma 5), .ref (Ma 6), .int vy_45, .int vy_46, .int vy_47, .int (Mv 5), .int vy_48, .int vy_49, .int vy_50, .ref (Ma 7), .int vy_51, .ref (Ma 8), .int (Mv 10), .ref (Ma 9), .ref (Ma 10), .int (Mv 11), .int (Mv 12), .int (Mv 13), .ref (Ma 11), .int (Mv 14), .ref (Ma 12), .ref (Ma 13), .ref (Ma 14), .ref (Ma 15), .ref (Ma 16), .long (Mj 0), .ref (Ma 17), .ref (Ma 18), .ref (Ma 19), .ref (Ma 20)])), ((Ma 1), .inl (tc 2, 400, .inl (Mf 1))), ((Ma 2), .inl (tc 0, 2400, .inl vy_52)), ((Ma 3), .inl (tc 0, 7, .inl vy_53)), ((Ma 4), .inl (tc 0, 288, .inl vy_54)), ((Ma 5), .inl (tc 0, 6, .inl vy_55)), ((Ma 7), .inl (tc 0, 400, .inl vy_56))] H → va_D A [((Ma 0), .inr (12, [.ref (Ma 1), .int (Mv 0), .int (Mv 1), .ref (Ma 2), .ref (Ma 3), .ref (Ma 4), .ref (Ma 5), .ref (Ma 6), .int vy_45, .int vy_46, .int vy_47, .int (Mv 5), .int vy_48, .int vy_49, .int vy_50, .ref (Ma 7), .int vy_51, .ref (Ma 8), .int (Mv 10), .ref (Ma 9), .ref (Ma 10), .int (Mv 11), .int (Mv 12), .int (Mv 13), .ref (Ma 11), .int (Mv 14), .ref (Ma 12), .ref (Ma 13), .ref (Ma 14), .ref (Ma 15), .ref (Ma 16), .long (Mj 0), .ref (Ma 17), .ref (Ma 18), .ref (Ma 19), .ref (Ma 20)])), ((Ma 1), .inl (tc 2, 400, .inl (Mf 1))), ((Ma 2), .inl (tc 0, 2400, .inl vy_52)), ((Ma 3), .inl (tc 0, 7, .inl vy_53)), ((Ma 4), .inl (tc 0, 288, .inl vy_54)), ((Ma 5), .inl (tc 0, 6, .inl vy_55)), ((Ma 7), .inl (tc 0, 400, .inl vy_56))] → va_S A s.heap H locs → lv_has ls 2 [(1, .int vy_44), (0, .ref (Ma 0))] → W p l e ({ frames := 11, cells := 0, slots := 0, locals := 241 }) s m ([.ref (Ma 0)].toArray) below meth c H locs 0 0 (MQ below (QW (fun (v : Option Value) (u : (Int32) × (Int32) × (Int32) × (Int32) × (Int32) × (Int32) × (Int32) × (Nat → Int32) × (Nat → Int32) × (Nat → Int32) × (Nat → Int32) × (Nat → Int32)) => match u with | (oo0x1, oo0x2, oo0x3, oo0x4, oo0x5, oo0x6, oo0x7, oo0x8, oo0x9, oo0x10, oo0x11, oo0x12) => ∃ r : Int32, v = some (.int r) ∧ ((r.toInt = 0 ∨ (r.toInt = 1 ∧ (oo0x11 (Mv 5).toInt.toNat).toInt ≤ 12))) ∧ (RulD oo0x8 oo0x10 oo0x11 (Mv 5)) ∧ (r.toInt = 1 → (RulP oo0x8 oo0x10 oo0x11 (Mv 5) ((oo0x9 (Mv 5).toNatClampNeg).toInt)))) (BW D (fun (u : (Int32) × (Int32) × (Int32) × (Int32) × (Int32) × (Int32) × (Int32) × (Nat → Int32) × (Nat → Int32) × (Nat → Int32) × (Nat → Int32) × (Nat → Int32)) => match u with | (oo0x1, oo0x2, oo0x3, oo0x4, oo0x5, oo0x6, oo0x7, oo0x8, oo0x9, oo0x10, oo0x11, oo0x12) => [((Ma 0), .inr (12, [.ref (Ma 1), .int 0, .int (Mv 1), .ref (Ma 2), .ref (Ma 3), .ref (Ma 4), .ref (Ma 5), .ref (Ma 6), .int oo0x1, .int oo0x2, .int oo0x3, .int (Mv 5), .int oo0x4, .int oo0x5, .int oo0x6, .ref (Ma 7), .int oo0x7, .ref (Ma 8), .int (Mv 10), .ref (Ma 9), .ref (Ma 10), .int (Mv 11), .int (Mv 12), .int (Mv 13), .ref (Ma 11), .int (Mv 14), .ref (Ma 12), .ref (Ma 13), .ref (Ma 14), .ref (Ma 15), .ref (Ma 16), .long (Mj 0), .ref (Ma 17), .ref (Ma 18), .ref (Ma 19), .ref (Ma 20)])), ((Ma 1), .inl (tc 2, 400, .inl (Mf 1))), ((Ma 2), .inl (tc 0, 2400, .inl oo0x8)), ((Ma 3), .inl (tc 0, 7, .inl oo0x9)), ((Ma 4), .inl (tc 0, 288, .inl oo0x10)), ((Ma 5), .inl (tc 0, 6, .inl oo0x11)), ((Ma 7), .inl (tc 0, 400, .inl oo0x12))]) A) A) ([.ref (Ma 0)].toArray) s 0 0 A) (F0 m 35 ls []) := by
    intro n_57
    induction n_57 with
    | zero =>
      intro vy_44 vy_45 vy_46 vy_47 vy_48 vy_49 vy_50 vy_51 vy_52 vy_53 vy_54 vy_55 vy_56 H locs ls h1
      exact absurd h1 (Nat.not_lt_zero _)
    | succ n_57 ih_58 =>
      intro vy_44 vy_45 vy_46 vy_47 vy_48 vy_49 vy_50 vy_51 vy_52 vy_53 vy_54 vy_55 vy_56 H locs ls hn_65 pf_60 pf_61 pf_62 pf_63 pf_64 hP hD hS hl
      refine lv_iload_n hx hb dX12_readsAll_35 rfl (lv_at hl 0 rfl) ?_
      refine lv_if_eq (tgt := 66) hx hb dX12_readsAll_36 (by decide) (fun c_66 => ?_) (fun c_66 => ?_)
      · skip
        refine lv_iload_n hx hb dX12_readsAll_66 rfl (lv_at hl 0 rfl) ?_
        refine lv_if_eq (tgt := 88) hx hb dX12_readsAll_67 (by decide) (fun c_67 => ?_) (fun c_67 => ?_)
        · skip
          refine lv_aload_n hx hb dX12_readsAll_88 rfl (lv_at hl 1 rfl) ?_
          refine lv_iconst (v := 0) hx hb dX12_readsAll_89 (by decide) ?_
          refine pf_X12_77 hx hb hts hown hK hP hD hS 0 rfl (Nat.le_of_ble_eq_true rfl) rfl rfl dX12_readsAll_90 (fun H locs hP hD hS => ?_)
          have hP : va_P D classes [((Ma 0), .inr (12, [.ref (Ma 1), .int 0, .int (Mv 1), .ref (Ma 2), .ref (Ma 3), .ref (Ma 4), .ref (Ma 5), .ref (Ma 6), .int vy_45, .int vy_46, .int vy_47, .int (Mv 5), .int vy_48, .int vy_49, .int vy_50, .ref (Ma 7), .int vy_51, .ref (Ma 8), .int (Mv 10), .ref (Ma 9), .ref (Ma 10), .int (Mv 11), .int (Mv 12), .int (Mv 13), .ref (Ma 11), .int (Mv 14), .ref (Ma 12), .ref (Ma 13), .ref (Ma 14), .ref (Ma 15), .ref (Ma 16), .long (Mj 0), .ref (Ma 17), .ref (Ma 18), .ref (Ma 19), .ref (Ma 20)])), ((Ma 1), .inl (tc 2, 400, .inl (Mf 1))), ((Ma 2), .inl (tc 0, 2400, .inl vy_52)), ((Ma 3), .inl (tc 0, 7, .inl vy_53)), ((Ma 4), .inl (tc 0, 288, .inl vy_54)), ((Ma 5), .inl (tc 0, 6, .inl vy_55)), ((Ma 7), .inl (tc 0, 400, .inl vy_56))] H := hP
          have hD : va_D A [((Ma 0), .inr (12, [.ref (Ma 1), .int 0, .int (Mv 1), .ref (Ma 2), .ref (Ma 3), .ref (Ma 4), .ref (Ma 5), .ref (Ma 6), .int vy_45, .int vy_46, .int vy_47, .int (Mv 5), .int vy_48, .int vy_49, .int vy_50, .ref (Ma 7), .int vy_51, .ref (Ma 8), .int (Mv 10), .ref (Ma 9), .ref (Ma 10), .int (Mv 11), .int (Mv 12), .int (Mv 13), .ref (Ma 11), .int (Mv 14), .ref (Ma 12), .ref (Ma 13), .ref (Ma 14), .ref (Ma 15), .ref (Ma 16), .long (Mj 0), .ref (Ma 17), .ref (Ma 18), .ref (Ma 19), .ref (Ma 20)])), ((Ma 1), .inl (tc 2, 400, .inl (Mf 1))), ((Ma 2), .inl (tc 0, 2400, .inl vy_52)), ((Ma 3), .inl (tc 0, 7, .inl vy_53)), ((Ma 4), .inl (tc 0, 288, .inl vy_54)), ((Ma 5), .inl (tc 0, 6, .inl vy_55)), ((Ma 7), .inl (tc 0, 400, .inl vy_56))] := hD
          refine lv_aload_n hx hb dX12_readsAll_93 rfl (lv_at hl 1 rfl) ?_
          refine gf_X12_84 hx hb hts hown hK hP 0 rfl rfl dX12_readsAll_94 ?_
          refine lv_if_ne (tgt := 104) hx hb dX12_readsAll_97 (by decide) (fun c_68 => ?_) (fun c_68 => ?_)
          · skip
            refine lv_iconst (v := 0) hx hb dX12_readsAll_104 (by decide) ?_
            have hp_69 : ((0 : Int32).toInt = 0 ∨ ((0 : Int32).toInt = 1 ∧ (vy_55 (Mv 5).toInt.toNat).toInt ≤ 12)) := by
              have z_1 := congrArg Int32.toInt c_66
              have z_2 := congrArg Int32.toInt c_67
              have z_3 : ¬ (vy_46 : Int32).toInt = (0 : Int32).toInt := fun z => c_68 (Int32.toInt_inj.mp z)
              have y_0 : (0 : Int32).toInt = 0 := by decide
              omega
            exact retI (v := 0) hx hb hr hlk (rfl) hP hD hS (vy_45, vy_46, vy_47, vy_48, vy_49, vy_50, vy_51, vy_52, vy_53, vy_54, vy_55, vy_56) ⟨_, rfl, hp_69, pf_64, (fun h => absurd h (by decide))⟩ [0, 1, 2, 3, 4, 5, 6] rfl rfl dX12_readsAll_105 (Nat.le_of_ble_eq_true rfl) (Nat.le_of_ble_eq_true rfl) rfl
          · skip
            refine lv_iconst (v := 1) hx hb dX12_readsAll_100 (by decide) ?_
            refine lv_goto (tgt := 105) hx hb dX12_readsAll_101 (by decide) ?_
            have hp_70 : ((1 : Int32).toInt = 0 ∨ ((1 : Int32).toInt = 1 ∧ (vy_55 (Mv 5).toInt.toNat).toInt ≤ 12)) := by
              have z_1 := congrArg Int32.toInt c_66
              have z_2 := congrArg Int32.toInt c_67
              have z_3 := congrArg Int32.toInt c_68
              have y_0 : (0 : Int32).toInt = 0 := by decide
              have y_1 : (1 : Int32).toInt = 1 := by decide
              have yr : (1 : Int32).toInt = 1 := by decide
              omega
            have hm_71 : (1 : Int32).toInt = 1 → (RulP vy_52 vy_54 vy_55 (Mv 5) ((vy_53 (Mv 5).toNatClampNeg).toInt)) := by
              intro h1r
              have hf_72 : False := by
                have z_1 := congrArg Int32.toInt c_66
                have z_2 := congrArg Int32.toInt c_67
                have z_3 := congrArg Int32.toInt c_68
                have y_0 : (0 : Int32).toInt = 0 := by decide
                omega
              exact (hf_72.elim)
            exact retI (v := 1) hx hb hr hlk (rfl) hP hD hS (vy_45, vy_46, vy_47, vy_48, vy_49, vy_50, vy_51, vy_52, vy_53, vy_54, vy_55, vy_56) ⟨_, rfl, hp_70, pf_64, hm_71⟩ [0, 1, 2, 3, 4, 5, 6] rfl rfl dX12_readsAll_105 (Nat.le_of_ble_eq_true rfl) (Nat.le_of_ble_eq_true rfl) rfl
        · skip
          exfalso
          have z_1 := congrArg Int32.toInt c_66
          have z_2 : ¬ (vy_44 : Int32).toInt = (0 : Int32).toInt := fun z => c_67 (Int32.toInt_inj.mp z)
          have y_0 : (0 : Int32).toInt = 0 := by decide
          omega
      · skip
        have hr_74 : (vy_44 : Int32).toInt = 1 := by
          have z_1 : ¬ (vy_44 : Int32).toInt = (0 : Int32).toInt := fun z => c_66 (Int32.toInt_inj.mp z)
          have y_0 : (0 : Int32).toInt = 0 := by decide
          omega
        have pf_73 : RulP vy_52 vy_54 vy_55 (Mv 5) ((vy_53 (Mv 5).toNatClampNeg).toInt) := pf_63 hr_74
        have ar_pf_73 := pf_73.2.1
        refine lv_aload_n hx hb dX12_readsAll_39 rfl (lv_at hl 1 rfl) ?_
        have ha_75 : 0 ≤ (vy_45 : Int32).toInt ∧ (vy_45 : Int32).toInt ≤ ((Mv 0) : Int32).toInt ∧ ((Mv 0) : Int32).toInt ≤ 400 := by
          have z_1 : ¬ (vy_44 : Int32).toInt = (0 : Int32).toInt := fun z => c_66 (Int32.toInt_inj.mp z)
          have y_0 : (0 : Int32).toInt = 0 := by decide
          refine ⟨?_, ?_, ?_⟩ <;> omega
        refine cV (a := (Ma 0)) (As := []) (rest := []) (wr := [((Ma 2), .inl (tc 0, 2400, .inl vy_52)), ((Ma 3), .inl (tc 0, 7, .inl vy_53)), ((Ma 4), .inl (tc 0, 288, .inl vy_54)), ((Ma 5), .inl (tc 0, 6, .inl vy_55)), ((Ma 7), .inl (tc 0, 400, .inl vy_56))]) ⟨hx, hb, hml, hown, hts⟩ hK hX hA (ct_X12_see l D tc sk Ma (fun k => ([(Mv 0), (Mv 1), vy_45, vy_46, vy_47, (Mv 5), vy_48, vy_49, vy_50, vy_51, (Mv 10), (Mv 11), (Mv 12), (Mv 13), (Mv 14)] : List (Int32)).getD k 0) Mf Mj ha_75) k_1211 k_1208 k_1210 k_27 k_106 pl_X12_see ⟨Nat.le_of_ble_eq_true rfl, Nat.le_of_ble_eq_true rfl⟩ rfl rfl (va_recv hK hP (ci := 12) (q0 := 0) rfl rfl) hP hD hS [0, 1] [2, 3, 4, 5, 6] rfl rfl rfl rfl rfl (by decide) rfl hl.1 rfl (Nat.le_of_ble_eq_true rfl) dX12_readsAll_40 ⟨Nat.le_of_ble_eq_true rfl, Nat.le_of_ble_eq_true rfl⟩ (fun v_76 u_77 H locs hv_78 hP hD hS => ?_)
        obtain ⟨sv_79, rfl⟩ : ∃ z, z = u_77 := ⟨_, rfl⟩
        obtain ⟨r_83, rfl, he_84, pf_80, pf_81, pf_82⟩ := hv_78
        have he_84 : (r_83.toInt = -1 ∨ (sv_79 : Int32).toInt < ((Mv 0) : Int32).toInt) := he_84
        have pf_80 : (vy_45 : Int32).toInt ≤ (sv_79 : Int32).toInt ∧ (sv_79 : Int32).toInt ≤ ((Mv 0) : Int32).toInt := pf_80
        have pf_81 : NSq (Mf 1) (Mv 0) sv_79 := pf_81
        have pf_82 : Stl (Mf 1) (Mv 0) vy_45 sv_79 := pf_82
        refine W.eq (g2 := F0 m 43 ls [.int r_83]) rfl ?_
        have hP : va_P D classes [((Ma 2), .inl (tc 0, 2400, .inl vy_52)), ((Ma 3), .inl (tc 0, 7, .inl vy_53)), ((Ma 4), .inl (tc 0, 288, .inl vy_54)), ((Ma 5), .inl (tc 0, 6, .inl vy_55)), ((Ma 7), .inl (tc 0, 400, .inl vy_56)), ((Ma 0), .inr (12, [.ref (Ma 1), .int (Mv 0), .int (Mv 1), .ref (Ma 2), .ref (Ma 3), .ref (Ma 4), .ref (Ma 5), .ref (Ma 6), .int sv_79, .int vy_46, .int vy_47, .int (Mv 5), .int vy_48, .int vy_49, .int vy_50, .ref (Ma 7), .int vy_51, .ref (Ma 8), .int (Mv 10), .ref (Ma 9), .ref (Ma 10), .int (Mv 11), .int (Mv 12), .int (Mv 13), .ref (Ma 11), .int (Mv 14), .ref (Ma 12), .ref (Ma 13), .ref (Ma 14), .ref (Ma 15), .ref (Ma 16), .long (Mj 0), .ref (Ma 17), .ref (Ma 18), .ref (Ma 19), .ref (Ma 20)])), ((Ma 1), .inl (tc 2, 400, .inl (Mf 1)))] H := hP
        have hD : va_D A [((Ma 2), .inl (tc 0, 2400, .inl vy_52)), ((Ma 3), .inl (tc 0, 7, .inl vy_53)), ((Ma 4), .inl (tc 0, 288, .inl vy_54)), ((Ma 5), .inl (tc 0, 6, .inl vy_55)), ((Ma 7), .inl (tc 0, 400, .inl vy_56)), ((Ma 0), .inr (12, [.ref (Ma 1), .int (Mv 0), .int (Mv 1), .ref (Ma 2), .ref (Ma 3), .ref (Ma 4), .ref (Ma 5), .ref (Ma 6), .int sv_79, .int vy_46, .int vy_47, .int (Mv 5), .int vy_48, .int vy_49, .int vy_50, .ref (Ma 7), .int vy_51, .ref (Ma 8), .int (Mv 10), .ref (Ma 9), .ref (Ma 10), .int (Mv 11), .int (Mv 12), .int (Mv 13), .ref (Ma 11), .int (Mv 14), .ref (Ma 12), .ref (Ma 13), .ref (Ma 14), .ref (Ma 15), .ref (Ma 16), .long (Mj 0), .ref (Ma 17), .ref (Ma 18), .ref (Ma 19), .ref (Ma 20)])), ((Ma 1), .inl (tc 2, 400, .inl (Mf 1)))] := hD
        refine lv_bipush (v := 59) hx hb dX12_readsAll_43 (by decide) ?_
        refine lv_icmp_ne (tgt := 66) hx hb dX12_readsAll_45 (by decide) (fun c_86 => ?_) (fun c_86 => ?_)
        · skip
          refine lv_iload_n hx hb dX12_readsAll_66 rfl (lv_at hl 0 rfl) ?_
          refine lv_if_eq (tgt := 88) hx hb dX12_readsAll_67 (by decide) (fun c_87 => ?_) (fun c_87 => ?_)
          · skip
            exfalso
            have z_1 : ¬ (vy_44 : Int32).toInt = (0 : Int32).toInt := fun z => c_66 (Int32.toInt_inj.mp z)
            have z_2 : ¬ (r_83 : Int32).toInt = (59 : Int32).toInt := fun z => c_86 (Int32.toInt_inj.mp z)
            have z_3 := congrArg Int32.toInt c_87
            have y_0 : (0 : Int32).toInt = 0 := by decide
            have y_59 : (59 : Int32).toInt = 59 := by decide
            omega
          · skip
            refine lv_aload_n hx hb dX12_readsAll_70 rfl (lv_at hl 1 rfl) ?_
            have ha_88 : 0 ≤ (sv_79 : Int32).toInt ∧ (sv_79 : Int32).toInt ≤ ((Mv 0) : Int32).toInt ∧ ((Mv 0) : Int32).toInt ≤ 400 := by
              have z_1 : ¬ (vy_44 : Int32).toInt = (0 : Int32).toInt := fun z => c_66 (Int32.toInt_inj.mp z)
              have z_2 : ¬ (r_83 : Int32).toInt = (59 : Int32).toInt := fun z => c_86 (Int32.toInt_inj.mp z)
              have z_3 : ¬ (vy_44 : Int32).toInt = (0 : Int32).toInt := fun z => c_87 (Int32.toInt_inj.mp z)
              have y_0 : (0 : Int32).toInt = 0 := by decide
              have y_59 : (59 : Int32).toInt = 59 := by decide
              refine ⟨?_, ?_, ?_⟩ <;> omega
            refine cV (a := (Ma 0)) (As := []) (rest := []) (wr := [((Ma 2), .inl (tc 0, 2400, .inl vy_52)), ((Ma 3), .inl (tc 0, 7, .inl vy_53)), ((Ma 4), .inl (tc 0, 288, .inl vy_54)), ((Ma 5), .inl (tc 0, 6, .inl vy_55)), ((Ma 7), .inl (tc 0, 400, .inl vy_56))]) ⟨hx, hb, hml, hown, hts⟩ hK hX hA (ct_X12_see l D tc sk Ma (fun k => ([(Mv 0), (Mv 1), sv_79, vy_46, vy_47, (Mv 5), vy_48, vy_49, vy_50, vy_51, (Mv 10), (Mv 11), (Mv 12), (Mv 13), (Mv 14)] : List (Int32)).getD k 0) Mf Mj ha_88) k_1211 k_1208 k_1210 k_27 k_106 pl_X12_see ⟨Nat.le_of_ble_eq_true rfl, Nat.le_of_ble_eq_true rfl⟩ rfl rfl (va_recv hK hP (ci := 12) (q0 := 5) rfl rfl) hP hD hS [5, 6] [0, 1, 2, 3, 4] rfl rfl rfl rfl rfl (by decide) rfl hl.1 rfl (Nat.le_of_ble_eq_true rfl) dX12_readsAll_71 ⟨Nat.le_of_ble_eq_true rfl, Nat.le_of_ble_eq_true rfl⟩ (fun v_89 u_90 H locs hv_91 hP hD hS => ?_)
            obtain ⟨sv_92, rfl⟩ : ∃ z, z = u_90 := ⟨_, rfl⟩
            obtain ⟨r_96, rfl, he_97, pf_93, pf_94, pf_95⟩ := hv_91
            have he_97 : (r_96.toInt = -1 ∨ (sv_92 : Int32).toInt < ((Mv 0) : Int32).toInt) := he_97
            have pf_93 : (sv_79 : Int32).toInt ≤ (sv_92 : Int32).toInt ∧ (sv_92 : Int32).toInt ≤ ((Mv 0) : Int32).toInt := pf_93
            have pf_94 : NSq (Mf 1) (Mv 0) sv_92 := pf_94
            have pf_95 : Stl (Mf 1) (Mv 0) sv_79 sv_92 := pf_95
            have ar_pf_95 := Stl.or pf_95 pf_81
            refine W.eq (g2 := F0 m 74 ls [.int r_96]) rfl ?_
            have hP : va_P D classes [((Ma 2), .inl (tc 0, 2400, .inl vy_52)), ((Ma 3), .inl (tc 0, 7, .inl vy_53)), ((Ma 4), .inl (tc 0, 288, .inl vy_54)), ((Ma 5), .inl (tc 0, 6, .inl vy_55)), ((Ma 7), .inl (tc 0, 400, .inl vy_56)), ((Ma 0), .inr (12, [.ref (Ma 1), .int (Mv 0), .int (Mv 1), .ref (Ma 2), .ref (Ma 3), .ref (Ma 4), .ref (Ma 5), .ref (Ma 6), .int sv_92, .int vy_46, .int vy_47, .int (Mv 5), .int vy_48, .int vy_49, .int vy_50, .ref (Ma 7), .int vy_51, .ref (Ma 8), .int (Mv 10), .ref (Ma 9), .ref (Ma 10), .int (Mv 11), .int (Mv 12), .int (Mv 13), .ref (Ma 11), .int (Mv 14), .ref (Ma 12), .ref (Ma 13), .ref (Ma 14), .ref (Ma 15), .ref (Ma 16), .long (Mj 0), .ref (Ma 17), .ref (Ma 18), .ref (Ma 19), .ref (Ma 20)])), ((Ma 1), .inl (tc 2, 400, .inl (Mf 1)))] H := hP
            have hD : va_D A [((Ma 2), .inl (tc 0, 2400, .inl vy_52)), ((Ma 3), .inl (tc 0, 7, .inl vy_53)), ((Ma 4), .inl (tc 0, 288, .inl vy_54)), ((Ma 5), .inl (tc 0, 6, .inl vy_55)), ((Ma 7), .inl (tc 0, 400, .inl vy_56)), ((Ma 0), .inr (12, [.ref (Ma 1), .int (Mv 0), .int (Mv 1), .ref (Ma 2), .ref (Ma 3), .ref (Ma 4), .ref (Ma 5), .ref (Ma 6), .int sv_92, .int vy_46, .int vy_47, .int (Mv 5), .int vy_48, .int vy_49, .int vy_50, .ref (Ma 7), .int vy_51, .ref (Ma 8), .int (Mv 10), .ref (Ma 9), .ref (Ma 10), .int (Mv 11), .int (Mv 12), .int (Mv 13), .ref (Ma 11), .int (Mv 14), .ref (Ma 12), .ref (Ma 13), .ref (Ma 14), .ref (Ma 15), .ref (Ma 16), .long (Mj 0), .ref (Ma 17), .ref (Ma 18), .ref (Ma 19), .ref (Ma 20)])), ((Ma 1), .inl (tc 2, 400, .inl (Mf 1)))] := hD
            refine lv_iconst (v := (-1)) hx hb dX12_readsAll_74 (by decide) ?_
            refine lv_icmp_eq (tgt := 88) hx hb dX12_readsAll_75 (by decide) (fun c_99 => ?_) (fun c_99 => ?_)
            · skip
              refine lv_aload_n hx hb dX12_readsAll_88 rfl (lv_at hl 1 rfl) ?_
              refine lv_iconst (v := 0) hx hb dX12_readsAll_89 (by decide) ?_
              refine pf_X12_77 hx hb hts hown hK hP hD hS 5 rfl (Nat.le_of_ble_eq_true rfl) rfl rfl dX12_readsAll_90 (fun H locs hP hD hS => ?_)
              have hP : va_P D classes [((Ma 2), .inl (tc 0, 2400, .inl vy_52)), ((Ma 3), .inl (tc 0, 7, .inl vy_53)), ((Ma 4), .inl (tc 0, 288, .inl vy_54)), ((Ma 5), .inl (tc 0, 6, .inl vy_55)), ((Ma 7), .inl (tc 0, 400, .inl vy_56)), ((Ma 0), .inr (12, [.ref (Ma 1), .int 0, .int (Mv 1), .ref (Ma 2), .ref (Ma 3), .ref (Ma 4), .ref (Ma 5), .ref (Ma 6), .int sv_92, .int vy_46, .int vy_47, .int (Mv 5), .int vy_48, .int vy_49, .int vy_50, .ref (Ma 7), .int vy_51, .ref (Ma 8), .int (Mv 10), .ref (Ma 9), .ref (Ma 10), .int (Mv 11), .int (Mv 12), .int (Mv 13), .ref (Ma 11), .int (Mv 14), .ref (Ma 12), .ref (Ma 13), .ref (Ma 14), .ref (Ma 15), .ref (Ma 16), .long (Mj 0), .ref (Ma 17), .ref (Ma 18), .ref (Ma 19), .ref (Ma 20)])), ((Ma 1), .inl (tc 2, 400, .inl (Mf 1)))] H := hP
              have hD : va_D A [((Ma 2), .inl (tc 0, 2400, .inl vy_52)), ((Ma 3), .inl (tc 0, 7, .inl vy_53)), ((Ma 4), .inl (tc 0, 288, .inl vy_54)), ((Ma 5), .inl (tc 0, 6, .inl vy_55)), ((Ma 7), .inl (tc 0, 400, .inl vy_56)), ((Ma 0), .inr (12, [.ref (Ma 1), .int 0, .int (Mv 1), .ref (Ma 2), .ref (Ma 3), .ref (Ma 4), .ref (Ma 5), .ref (Ma 6), .int sv_92, .int vy_46, .int vy_47, .int (Mv 5), .int vy_48, .int vy_49, .int vy_50, .ref (Ma 7), .int vy_51, .ref (Ma 8), .int (Mv 10), .ref (Ma 9), .ref (Ma 10), .int (Mv 11), .int (Mv 12), .int (Mv 13), .ref (Ma 11), .int (Mv 14), .ref (Ma 12), .ref (Ma 13), .ref (Ma 14), .ref (Ma 15), .ref (Ma 16), .long (Mj 0), .ref (Ma 17), .ref (Ma 18), .ref (Ma 19), .ref (Ma 20)])), ((Ma 1), .inl (tc 2, 400, .inl (Mf 1)))] := hD
              refine lv_aload_n hx hb dX12_readsAll_93 rfl (lv_at hl 1 rfl) ?_
              refine gf_X12_84 hx hb hts hown hK hP 5 rfl rfl dX12_readsAll_94 ?_
              refine lv_if_ne (tgt := 104) hx hb dX12_readsAll_97 (by decide) (fun c_100 => ?_) (fun c_100 => ?_)
              · skip
                refine lv_iconst (v := 0) hx hb dX12_readsAll_104 (by decide) ?_
                have hp_101 : ((0 : Int32).toInt = 0 ∨ ((0 : Int32).toInt = 1 ∧ (vy_55 (Mv 5).toInt.toNat).toInt ≤ 12)) := by
                  have z_1 : ¬ (vy_44 : Int32).toInt = (0 : Int32).toInt := fun z => c_66 (Int32.toInt_inj.mp z)
                  have z_2 : ¬ (r_83 : Int32).toInt = (59 : Int32).toInt := fun z => c_86 (Int32.toInt_inj.mp z)
                  have z_3 : ¬ (vy_44 : Int32).toInt = (0 : Int32).toInt := fun z => c_87 (Int32.toInt_inj.mp z)
                  have z_4 := congrArg Int32.toInt c_99
                  have z_5 : ¬ (vy_46 : Int32).toInt = (0 : Int32).toInt := fun z => c_100 (Int32.toInt_inj.mp z)
                  have y_m1 : (-1 : Int32).toInt = -1 := by decide
                  have y_0 : (0 : Int32).toInt = 0 := by decide
                  have y_59 : (59 : Int32).toInt = 59 := by decide
                  omega
                exact retI (v := 0) hx hb hr hlk (rfl) hP hD hS (sv_92, vy_46, vy_47, vy_48, vy_49, vy_50, vy_51, vy_52, vy_53, vy_54, vy_55, vy_56) ⟨_, rfl, hp_101, pf_64, (fun h => absurd h (by decide))⟩ [5, 6, 0, 1, 2, 3, 4] rfl rfl dX12_readsAll_105 (Nat.le_of_ble_eq_true rfl) (Nat.le_of_ble_eq_true rfl) rfl
              · skip
                refine lv_iconst (v := 1) hx hb dX12_readsAll_100 (by decide) ?_
                refine lv_goto (tgt := 105) hx hb dX12_readsAll_101 (by decide) ?_
                have hp_102 : ((1 : Int32).toInt = 0 ∨ ((1 : Int32).toInt = 1 ∧ (vy_55 (Mv 5).toInt.toNat).toInt ≤ 12)) := by
                  have z_1 : ¬ (vy_44 : Int32).toInt = (0 : Int32).toInt := fun z => c_66 (Int32.toInt_inj.mp z)
                  have z_2 : ¬ (r_83 : Int32).toInt = (59 : Int32).toInt := fun z => c_86 (Int32.toInt_inj.mp z)
                  have z_3 : ¬ (vy_44 : Int32).toInt = (0 : Int32).toInt := fun z => c_87 (Int32.toInt_inj.mp z)
                  have z_4 := congrArg Int32.toInt c_99
                  have z_5 := congrArg Int32.toInt c_100
                  have y_m1 : (-1 : Int32).toInt = -1 := by decide
                  have y_0 : (0 : Int32).toInt = 0 := by decide
                  have y_59 : (59 : Int32).toInt = 59 := by decide
                  have y_1 : (1 : Int32).toInt = 1 := by decide
                  have yr : (1 : Int32).toInt = 1 := by decide
                  omega
                have hm_103 : (1 : Int32).toInt = 1 → (RulP vy_52 vy_54 vy_55 (Mv 5) ((vy_53 (Mv 5).toNatClampNeg).toInt)) := by
                  intro h1r
                  exact pf_73
                exact retI (v := 1) hx hb hr hlk (rfl) hP hD hS (sv_92, vy_46, vy_47, vy_48, vy_49, vy_50, vy_51, vy_52, vy_53, vy_54, vy_55, vy_56) ⟨_, rfl, hp_102, pf_64, hm_103⟩ [5, 6, 0, 1, 2, 3, 4] rfl rfl dX12_readsAll_105 (Nat.le_of_ble_eq_true rfl) (Nat.le_of_ble_eq_true rfl) rfl
            · skip
              refine lv_aload_n hx hb dX12_readsAll_78 rfl (lv_at hl 1 rfl) ?_
              refine lv_iconst (v := 0) hx hb dX12_readsAll_79 (by decide) ?_
              refine lv_aload_n hx hb dX12_readsAll_80 rfl (lv_at hl 1 rfl) ?_
              refine gf_X12_87 hx hb hts hown hK hP 5 rfl rfl dX12_readsAll_81 ?_
              have ha_104 : 0 ≤ (0 : Int32).toInt ∧ (0 : Int32).toInt ≤ 4 := by
                have z_1 : ¬ (vy_44 : Int32).toInt = (0 : Int32).toInt := fun z => c_66 (Int32.toInt_inj.mp z)
                have z_2 : ¬ (r_83 : Int32).toInt = (59 : Int32).toInt := fun z => c_86 (Int32.toInt_inj.mp z)
                have z_3 : ¬ (vy_44 : Int32).toInt = (0 : Int32).toInt := fun z => c_87 (Int32.toInt_inj.mp z)
                have z_4 : ¬ (r_96 : Int32).toInt = ((-1) : Int32).toInt := fun z => c_99 (Int32.toInt_inj.mp z)
                have y_m1 : (-1 : Int32).toInt = -1 := by decide
                have y_0 : (0 : Int32).toInt = 0 := by decide
                have y_59 : (59 : Int32).toInt = 59 := by decide
                refine ⟨?_, ?_⟩ <;> omega
              have ha_105 : 0 ≤ sv_92.toInt ∧ sv_92.toInt ≤ 400 := by
                have z_1 : ¬ (vy_44 : Int32).toInt = (0 : Int32).toInt := fun z => c_66 (Int32.toInt_inj.mp z)
                have z_2 : ¬ (r_83 : Int32).toInt = (59 : Int32).toInt := fun z => c_86 (Int32.toInt_inj.mp z)
                have z_3 : ¬ (vy_44 : Int32).toInt = (0 : Int32).toInt := fun z => c_87 (Int32.toInt_inj.mp z)
                have z_4 : ¬ (r_96 : Int32).toInt = ((-1) : Int32).toInt := fun z => c_99 (Int32.toInt_inj.mp z)
                have y_m1 : (-1 : Int32).toInt = -1 := by decide
                have y_0 : (0 : Int32).toInt = 0 := by decide
                have y_59 : (59 : Int32).toInt = 59 := by decide
                refine ⟨?_, ?_⟩ <;> omega
              refine cV (a := (Ma 0)) (As := [.int 0, .int sv_92]) (rest := []) (wr := [((Ma 2), .inl (tc 0, 2400, .inl vy_52)), ((Ma 3), .inl (tc 0, 7, .inl vy_53)), ((Ma 4), .inl (tc 0, 288, .inl vy_54)), ((Ma 5), .inl (tc 0, 6, .inl vy_55)), ((Ma 7), .inl (tc 0, 400, .inl vy_56)), ((Ma 1), .inl (tc 2, 400, .inl (Mf 1)))]) ⟨hx, hb, hml, hown, hts⟩ hK hX hA (ct_X12_fails l D tc sk Ma (fun k => ([(Mv 0), (Mv 1), sv_92, vy_46, vy_47, (Mv 5), vy_48, vy_49, vy_50, vy_51, (Mv 10), (Mv 11), (Mv 12), (Mv 13), (Mv 14)] : List (Int32)).getD k 0) Mj 0 sv_92 ha_104 ha_105) k_1232 k_1229 k_1231 k_31 k_106 pl_X12_fails ⟨Nat.le_of_ble_eq_true rfl, Nat.le_of_ble_eq_true rfl⟩ rfl rfl (va_recv hK hP (ci := 12) (q0 := 5) rfl rfl) hP hD hS [5] [0, 1, 2, 3, 4, 6] rfl rfl rfl rfl rfl (by decide) rfl hl.1 rfl (Nat.le_of_ble_eq_true rfl) dX12_readsAll_84 ⟨Nat.le_of_ble_eq_true rfl, Nat.le_of_ble_eq_true rfl⟩ (fun v_106 u_107 H locs hv_108 hP hD hS => ?_)
              obtain ⟨sv_109, rfl⟩ : ∃ z, z = u_107 := ⟨_, rfl⟩
              obtain ⟨r_111, rfl, he_112, pf_110⟩ := hv_108
              have he_112 : r_111.toInt = 0 := he_112
              have pf_110 : ¬ (sv_109 : Int32).toInt = 0 := pf_110
              refine W.eq (g2 := F0 m 87 ls [.int r_111]) rfl ?_
              have hP : va_P D classes [((Ma 2), .inl (tc 0, 2400, .inl vy_52)), ((Ma 3), .inl (tc 0, 7, .inl vy_53)), ((Ma 4), .inl (tc 0, 288, .inl vy_54)), ((Ma 5), .inl (tc 0, 6, .inl vy_55)), ((Ma 7), .inl (tc 0, 400, .inl vy_56)), ((Ma 1), .inl (tc 2, 400, .inl (Mf 1))), ((Ma 0), .inr (12, [.ref (Ma 1), .int (Mv 0), .int (Mv 1), .ref (Ma 2), .ref (Ma 3), .ref (Ma 4), .ref (Ma 5), .ref (Ma 6), .int sv_92, .int sv_109, .int vy_47, .int (Mv 5), .int vy_48, .int vy_49, .int vy_50, .ref (Ma 7), .int vy_51, .ref (Ma 8), .int (Mv 10), .ref (Ma 9), .ref (Ma 10), .int (Mv 11), .int (Mv 12), .int (Mv 13), .ref (Ma 11), .int (Mv 14), .ref (Ma 12), .ref (Ma 13), .ref (Ma 14), .ref (Ma 15), .ref (Ma 16), .long (Mj 0), .ref (Ma 17), .ref (Ma 18), .ref (Ma 19), .ref (Ma 20)]))] H := hP
              have hD : va_D A [((Ma 2), .inl (tc 0, 2400, .inl vy_52)), ((Ma 3), .inl (tc 0, 7, .inl vy_53)), ((Ma 4), .inl (tc 0, 288, .inl vy_54)), ((Ma 5), .inl (tc 0, 6, .inl vy_55)), ((Ma 7), .inl (tc 0, 400, .inl vy_56)), ((Ma 1), .inl (tc 2, 400, .inl (Mf 1))), ((Ma 0), .inr (12, [.ref (Ma 1), .int (Mv 0), .int (Mv 1), .ref (Ma 2), .ref (Ma 3), .ref (Ma 4), .ref (Ma 5), .ref (Ma 6), .int sv_92, .int sv_109, .int vy_47, .int (Mv 5), .int vy_48, .int vy_49, .int vy_50, .ref (Ma 7), .int vy_51, .ref (Ma 8), .int (Mv 10), .ref (Ma 9), .ref (Ma 10), .int (Mv 11), .int (Mv 12), .int (Mv 13), .ref (Ma 11), .int (Mv 14), .ref (Ma 12), .ref (Ma 13), .ref (Ma 14), .ref (Ma 15), .ref (Ma 16), .long (Mj 0), .ref (Ma 17), .ref (Ma 18), .ref (Ma 19), .ref (Ma 20)]))] := hD
              refine lv_pop hx hb dX12_readsAll_87 rfl ?_
              refine lv_aload_n hx hb dX12_readsAll_88 rfl (lv_at hl 1 rfl) ?_
              refine lv_iconst (v := 0) hx hb dX12_readsAll_89 (by decide) ?_
              refine pf_X12_77 hx hb hts hown hK hP hD hS 6 rfl (Nat.le_of_ble_eq_true rfl) rfl rfl dX12_readsAll_90 (fun H locs hP hD hS => ?_)
              have hP : va_P D classes [((Ma 2), .inl (tc 0, 2400, .inl vy_52)), ((Ma 3), .inl (tc 0, 7, .inl vy_53)), ((Ma 4), .inl (tc 0, 288, .inl vy_54)), ((Ma 5), .inl (tc 0, 6, .inl vy_55)), ((Ma 7), .inl (tc 0, 400, .inl vy_56)), ((Ma 1), .inl (tc 2, 400, .inl (Mf 1))), ((Ma 0), .inr (12, [.ref (Ma 1), .int 0, .int (Mv 1), .ref (Ma 2), .ref (Ma 3), .ref (Ma 4), .ref (Ma 5), .ref (Ma 6), .int sv_92, .int sv_109, .int vy_47, .int (Mv 5), .int vy_48, .int vy_49, .int vy_50, .ref (Ma 7), .int vy_51, .ref (Ma 8), .int (Mv 10), .ref (Ma 9), .ref (Ma 10), .int (Mv 11), .int (Mv 12), .int (Mv 13), .ref (Ma 11), .int (Mv 14), .ref (Ma 12), .ref (Ma 13), .ref (Ma 14), .ref (Ma 15), .ref (Ma 16), .long (Mj 0), .ref (Ma 17), .ref (Ma 18), .ref (Ma 19), .ref (Ma 20)]))] H := hP
              have hD : va_D A [((Ma 2), .inl (tc 0, 2400, .inl vy_52)), ((Ma 3), .inl (tc 0, 7, .inl vy_53)), ((Ma 4), .inl (tc 0, 288, .inl vy_54)), ((Ma 5), .inl (tc 0, 6, .inl vy_55)), ((Ma 7), .inl (tc 0, 400, .inl vy_56)), ((Ma 1), .inl (tc 2, 400, .inl (Mf 1))), ((Ma 0), .inr (12, [.ref (Ma 1), .int 0, .int (Mv 1), .ref (Ma 2), .ref (Ma 3), .ref (Ma 4), .ref (Ma 5), .ref (Ma 6), .int sv_92, .int sv_109, .int vy_47, .int (Mv 5), .int vy_48, .int vy_49, .int vy_50, .ref (Ma 7), .int vy_51, .ref (Ma 8), .int (Mv 10), .ref (Ma 9), .ref (Ma 10), .int (Mv 11), .int (Mv 12), .int (Mv 13), .ref (Ma 11), .int (Mv 14), .ref (Ma 12), .ref (Ma 13), .ref (Ma 14), .ref (Ma 15), .ref (Ma 16), .long (Mj 0), .ref (Ma 17), .ref (Ma 18), .ref (Ma 19), .ref (Ma 20)]))] := hD
              refine lv_aload_n hx hb dX12_readsAll_93 rfl (lv_at hl 1 rfl) ?_
              refine gf_X12_84 hx hb hts hown hK hP 6 rfl rfl dX12_readsAll_94 ?_
              refine lv_if_ne (tgt := 104) hx hb dX12_readsAll_97 (by decide) (fun c_114 => ?_) (fun c_114 => ?_)
              · skip
                refine lv_iconst (v := 0) hx hb dX12_readsAll_104 (by decide) ?_
                have hp_115 : ((0 : Int32).toInt = 0 ∨ ((0 : Int32).toInt = 1 ∧ (vy_55 (Mv 5).toInt.toNat).toInt ≤ 12)) := by
                  have z_1 : ¬ (vy_44 : Int32).toInt = (0 : Int32).toInt := fun z => c_66 (Int32.toInt_inj.mp z)
                  have z_2 : ¬ (r_83 : Int32).toInt = (59 : Int32).toInt := fun z => c_86 (Int32.toInt_inj.mp z)
                  have z_3 : ¬ (vy_44 : Int32).toInt = (0 : Int32).toInt := fun z => c_87 (Int32.toInt_inj.mp z)
                  have z_4 : ¬ (r_96 : Int32).toInt = ((-1) : Int32).toInt := fun z => c_99 (Int32.toInt_inj.mp z)
                  have z_5 : ¬ (sv_109 : Int32).toInt = (0 : Int32).toInt := fun z => c_114 (Int32.toInt_inj.mp z)
                  have y_m1 : (-1 : Int32).toInt = -1 := by decide
                  have y_0 : (0 : Int32).toInt = 0 := by decide
                  have y_59 : (59 : Int32).toInt = 59 := by decide
                  omega
                exact retI (v := 0) hx hb hr hlk (rfl) hP hD hS (sv_92, sv_109, vy_47, vy_48, vy_49, vy_50, vy_51, vy_52, vy_53, vy_54, vy_55, vy_56) ⟨_, rfl, hp_115, pf_64, (fun h => absurd h (by decide))⟩ [6, 5, 0, 1, 2, 3, 4] rfl rfl dX12_readsAll_105 (Nat.le_of_ble_eq_true rfl) (Nat.le_of_ble_eq_true rfl) rfl
              · skip
                refine lv_iconst (v := 1) hx hb dX12_readsAll_100 (by decide) ?_
                refine lv_goto (tgt := 105) hx hb dX12_readsAll_101 (by decide) ?_
                have hp_116 : ((1 : Int32).toInt = 0 ∨ ((1 : Int32).toInt = 1 ∧ (vy_55 (Mv 5).toInt.toNat).toInt ≤ 12)) := by
                  have z_1 : ¬ (vy_44 : Int32).toInt = (0 : Int32).toInt := fun z => c_66 (Int32.toInt_inj.mp z)
                  have z_2 : ¬ (r_83 : Int32).toInt = (59 : Int32).toInt := fun z => c_86 (Int32.toInt_inj.mp z)
                  have z_3 : ¬ (vy_44 : Int32).toInt = (0 : Int32).toInt := fun z => c_87 (Int32.toInt_inj.mp z)
                  have z_4 : ¬ (r_96 : Int32).toInt = ((-1) : Int32).toInt := fun z => c_99 (Int32.toInt_inj.mp z)
                  have z_5 := congrArg Int32.toInt c_114
                  have y_m1 : (-1 : Int32).toInt = -1 := by decide
                  have y_0 : (0 : Int32).toInt = 0 := by decide
                  have y_59 : (59 : Int32).toInt = 59 := by decide
                  have y_1 : (1 : Int32).toInt = 1 := by decide
                  have yr : (1 : Int32).toInt = 1 := by decide
                  omega
                have hm_117 : (1 : Int32).toInt = 1 → (RulP vy_52 vy_54 vy_55 (Mv 5) ((vy_53 (Mv 5).toNatClampNeg).toInt)) := by
                  intro h1r
                  exact pf_73
                exact retI (v := 1) hx hb hr hlk (rfl) hP hD hS (sv_92, sv_109, vy_47, vy_48, vy_49, vy_50, vy_51, vy_52, vy_53, vy_54, vy_55, vy_56) ⟨_, rfl, hp_116, pf_64, hm_117⟩ [6, 5, 0, 1, 2, 3, 4] rfl rfl dX12_readsAll_105 (Nat.le_of_ble_eq_true rfl) (Nat.le_of_ble_eq_true rfl) rfl
        · skip
          refine lv_aload_n hx hb dX12_readsAll_48 rfl (lv_at hl 1 rfl) ?_
          refine lv_dup hx hb dX12_readsAll_49 rfl ?_
          refine gf_X12_87 hx hb hts hown hK hP 5 rfl rfl dX12_readsAll_50 ?_
          refine lv_iconst (v := 1) hx hb dX12_readsAll_53 (by decide) ?_
          refine lv_iadd hx hb dX12_readsAll_54 ?_
          refine lv_topi (fun x_118 ex_118 => ?_)
          refine pf_X12_87 hx hb hts hown hK hP hD hS 5 rfl (Nat.le_of_ble_eq_true rfl) rfl rfl dX12_readsAll_55 (fun H locs hP hD hS => ?_)
          have hP : va_P D classes [((Ma 2), .inl (tc 0, 2400, .inl vy_52)), ((Ma 3), .inl (tc 0, 7, .inl vy_53)), ((Ma 4), .inl (tc 0, 288, .inl vy_54)), ((Ma 5), .inl (tc 0, 6, .inl vy_55)), ((Ma 7), .inl (tc 0, 400, .inl vy_56)), ((Ma 0), .inr (12, [.ref (Ma 1), .int (Mv 0), .int (Mv 1), .ref (Ma 2), .ref (Ma 3), .ref (Ma 4), .ref (Ma 5), .ref (Ma 6), .int x_118, .int vy_46, .int vy_47, .int (Mv 5), .int vy_48, .int vy_49, .int vy_50, .ref (Ma 7), .int vy_51, .ref (Ma 8), .int (Mv 10), .ref (Ma 9), .ref (Ma 10), .int (Mv 11), .int (Mv 12), .int (Mv 13), .ref (Ma 11), .int (Mv 14), .ref (Ma 12), .ref (Ma 13), .ref (Ma 14), .ref (Ma 15), .ref (Ma 16), .long (Mj 0), .ref (Ma 17), .ref (Ma 18), .ref (Ma 19), .ref (Ma 20)])), ((Ma 1), .inl (tc 2, 400, .inl (Mf 1)))] H := hP
          have hD : va_D A [((Ma 2), .inl (tc 0, 2400, .inl vy_52)), ((Ma 3), .inl (tc 0, 7, .inl vy_53)), ((Ma 4), .inl (tc 0, 288, .inl vy_54)), ((Ma 5), .inl (tc 0, 6, .inl vy_55)), ((Ma 7), .inl (tc 0, 400, .inl vy_56)), ((Ma 0), .inr (12, [.ref (Ma 1), .int (Mv 0), .int (Mv 1), .ref (Ma 2), .ref (Ma 3), .ref (Ma 4), .ref (Ma 5), .ref (Ma 6), .int x_118, .int vy_46, .int vy_47, .int (Mv 5), .int vy_48, .int vy_49, .int vy_50, .ref (Ma 7), .int vy_51, .ref (Ma 8), .int (Mv 10), .ref (Ma 9), .ref (Ma 10), .int (Mv 11), .int (Mv 12), .int (Mv 13), .ref (Ma 11), .int (Mv 14), .ref (Ma 12), .ref (Ma 13), .ref (Ma 14), .ref (Ma 15), .ref (Ma 16), .long (Mj 0), .ref (Ma 17), .ref (Ma 18), .ref (Ma 19), .ref (Ma 20)])), ((Ma 1), .inl (tc 2, 400, .inl (Mf 1)))] := hD
          refine lv_aload_n hx hb dX12_readsAll_58 rfl (lv_at hl 1 rfl) ?_
          have ha_119 : 0 ≤ (x_118 : Int32).toInt ∧ (x_118 : Int32).toInt ≤ ((Mv 0) : Int32).toInt ∧ ((Mv 0) : Int32).toInt ≤ 400 := by
            have z_1 : ¬ (vy_44 : Int32).toInt = (0 : Int32).toInt := fun z => c_66 (Int32.toInt_inj.mp z)
            have z_2 := congrArg Int32.toInt c_86
            have y_0 : (0 : Int32).toInt = 0 := by decide
            have y_59 : (59 : Int32).toInt = 59 := by decide
            have y_1 : (1 : Int32).toInt = 1 := by decide
            have t_x_118 : x_118.toInt = (sv_79 : Int32).toInt + (1 : Int32).toInt := by rw [ex_118]; exact add_toInt (by omega) (by omega)
            refine ⟨?_, ?_, ?_⟩ <;> omega
          have ha_120 : 0 ≤ (vy_48 : Int32).toInt ∧ (vy_48 : Int32).toInt ≤ 60 := by
            have z_1 : ¬ (vy_44 : Int32).toInt = (0 : Int32).toInt := fun z => c_66 (Int32.toInt_inj.mp z)
            have z_2 := congrArg Int32.toInt c_86
            have y_0 : (0 : Int32).toInt = 0 := by decide
            have y_59 : (59 : Int32).toInt = 59 := by decide
            refine ⟨?_, ?_⟩ <;> omega
          have ha_121 : 0 ≤ ((Mv 5) : Int32).toInt ∧ ((Mv 5) : Int32).toInt ≤ 5 := by
            have z_1 : ¬ (vy_44 : Int32).toInt = (0 : Int32).toInt := fun z => c_66 (Int32.toInt_inj.mp z)
            have z_2 := congrArg Int32.toInt c_86
            have y_0 : (0 : Int32).toInt = 0 := by decide
            have y_59 : (59 : Int32).toInt = 59 := by decide
            refine ⟨?_, ?_⟩ <;> omega
          have ha_122 : 0 ≤ (vy_53 (Mv 5).toNatClampNeg).toInt ∧ (vy_53 (Mv 5).toNatClampNeg).toInt ≤ (x_118 : Int32).toInt := by
            have z_1 : ¬ (vy_44 : Int32).toInt = (0 : Int32).toInt := fun z => c_66 (Int32.toInt_inj.mp z)
            have z_2 := congrArg Int32.toInt c_86
            have y_0 : (0 : Int32).toInt = 0 := by decide
            have y_59 : (59 : Int32).toInt = 59 := by decide
            have y_1 : (1 : Int32).toInt = 1 := by decide
            have t_x_118 : x_118.toInt = (sv_79 : Int32).toInt + (1 : Int32).toInt := by rw [ex_118]; exact add_toInt (by omega) (by omega)
            refine ⟨?_, ?_⟩ <;> omega
          have ha_123 : (vy_55 (Mv 5).toInt.toNat).toInt = (vy_50 : Int32).toInt ∧ 0 ≤ (vy_50 : Int32).toInt ∧ (vy_50 : Int32).toInt ≤ 12 := by
            have z_1 : ¬ (vy_44 : Int32).toInt = (0 : Int32).toInt := fun z => c_66 (Int32.toInt_inj.mp z)
            have z_2 := congrArg Int32.toInt c_86
            have y_0 : (0 : Int32).toInt = 0 := by decide
            have y_59 : (59 : Int32).toInt = 59 := by decide
            refine ⟨?_, ?_, ?_⟩ <;> omega
          refine cV (a := (Ma 0)) (As := []) (rest := []) (wr := []) ⟨hx, hb, hml, hown, hts⟩ hK hX hA (ct_X12_clauseHere_r l D tc sk Ma (fun k => ([(Mv 0), (Mv 1), x_118, vy_46, vy_47, (Mv 5), vy_48, vy_49, vy_50, vy_51, (Mv 10), (Mv 11), (Mv 12), (Mv 13), (Mv 14)] : List (Int32)).getD k 0) (fun k => ([(fun _ => 0), (Mf 1), vy_52, vy_53, vy_54, vy_55, (fun _ => 0), vy_56] : List (Nat → Int32)).getD k (fun _ => 0)) Mj ha_119 ha_120 ha_121 ha_122 pf_73 ha_123) k_1207 k_1204 k_1206 k_26 k_106 pl_X12_clauseHere ⟨Nat.le_of_ble_eq_true rfl, Nat.le_of_ble_eq_true rfl⟩ rfl rfl (va_recv hK hP (ci := 12) (q0 := 5) rfl rfl) hP hD hS [5, 6, 0, 1, 2, 3, 4] [] rfl rfl rfl rfl rfl (by decide) rfl hl.1 rfl (Nat.le_of_ble_eq_true rfl) dX12_readsAll_59 ⟨Nat.le_of_ble_eq_true rfl, Nat.le_of_ble_eq_true rfl⟩ (fun v_124 u_125 H locs hv_126 hP hD hS => ?_)
          obtain ⟨sv_127, sv_128, sv_129, sv_130, sv_131, sv_132, sv_133, sv_134, sv_135, sv_136, sv_137, sv_138⟩ := u_125
          obtain ⟨r_142, rfl, he_143, pf_139, pf_140, pf_141, hm_145⟩ := hv_126
          have he_143 : ((r_142.toInt = 0 ∧ ¬ (sv_128 : Int32).toInt = 0) ∨ (r_142.toInt = 1 ∧ 0 ≤ (sv_135 (Mv 5).toNatClampNeg).toInt ∧ (sv_135 (Mv 5).toNatClampNeg).toInt ≤ (sv_127 : Int32).toInt ∧ (sv_137 (Mv 5).toInt.toNat).toInt = (sv_132 : Int32).toInt ∧ 0 ≤ (sv_132 : Int32).toInt ∧ (sv_132 : Int32).toInt ≤ 12)) := he_143
          have pf_139 : (x_118 : Int32).toInt ≤ (sv_127 : Int32).toInt ∧ (sv_127 : Int32).toInt ≤ ((Mv 0) : Int32).toInt := pf_139
          have pf_140 : (vy_48 : Int32).toInt ≤ (sv_130 : Int32).toInt ∧ (sv_130 : Int32).toInt ≤ 60 := pf_140
          have pf_141 : RulD sv_134 sv_136 sv_137 (Mv 5) := pf_141
          refine W.eq (g2 := F0 m 62 ls [.int r_142]) rfl ?_
          have hP : va_P D classes [((Ma 0), .inr (12, [.ref (Ma 1), .int (Mv 0), .int (Mv 1), .ref (Ma 2), .ref (Ma 3), .ref (Ma 4), .ref (Ma 5), .ref (Ma 6), .int sv_127, .int sv_128, .int sv_129, .int (Mv 5), .int sv_130, .int sv_131, .int sv_132, .ref (Ma 7), .int sv_133, .ref (Ma 8), .int (Mv 10), .ref (Ma 9), .ref (Ma 10), .int (Mv 11), .int (Mv 12), .int (Mv 13), .ref (Ma 11), .int (Mv 14), .ref (Ma 12), .ref (Ma 13), .ref (Ma 14), .ref (Ma 15), .ref (Ma 16), .long (Mj 0), .ref (Ma 17), .ref (Ma 18), .ref (Ma 19), .ref (Ma 20)])), ((Ma 1), .inl (tc 2, 400, .inl (Mf 1))), ((Ma 2), .inl (tc 0, 2400, .inl sv_134)), ((Ma 3), .inl (tc 0, 7, .inl sv_135)), ((Ma 4), .inl (tc 0, 288, .inl sv_136)), ((Ma 5), .inl (tc 0, 6, .inl sv_137)), ((Ma 7), .inl (tc 0, 400, .inl sv_138))] H := hP
          have hD : va_D A [((Ma 0), .inr (12, [.ref (Ma 1), .int (Mv 0), .int (Mv 1), .ref (Ma 2), .ref (Ma 3), .ref (Ma 4), .ref (Ma 5), .ref (Ma 6), .int sv_127, .int sv_128, .int sv_129, .int (Mv 5), .int sv_130, .int sv_131, .int sv_132, .ref (Ma 7), .int sv_133, .ref (Ma 8), .int (Mv 10), .ref (Ma 9), .ref (Ma 10), .int (Mv 11), .int (Mv 12), .int (Mv 13), .ref (Ma 11), .int (Mv 14), .ref (Ma 12), .ref (Ma 13), .ref (Ma 14), .ref (Ma 15), .ref (Ma 16), .long (Mj 0), .ref (Ma 17), .ref (Ma 18), .ref (Ma 19), .ref (Ma 20)])), ((Ma 1), .inl (tc 2, 400, .inl (Mf 1))), ((Ma 2), .inl (tc 0, 2400, .inl sv_134)), ((Ma 3), .inl (tc 0, 7, .inl sv_135)), ((Ma 4), .inl (tc 0, 288, .inl sv_136)), ((Ma 5), .inl (tc 0, 6, .inl sv_137)), ((Ma 7), .inl (tc 0, 400, .inl sv_138))] := hD
          refine lv_istore_n (lv' := [(1, .int r_142), (0, .ref (Ma 0))]) hx hb dX12_readsAll_62 rfl hl (by decide) rfl (fun ls hl => ?_)
          refine lv_goto (tgt := 35) hx hb dX12_readsAll_63 (by decide) ?_
          have hb_146 : 2 * (401 - (sv_127 : Int32).toInt) + (r_142 : Int32).toInt < 2 * (401 - (vy_45 : Int32).toInt) + (vy_44 : Int32).toInt ∧ 1 ≤ 2 * (401 - (vy_45 : Int32).toInt) + (vy_44 : Int32).toInt := by
            have z_1 : ¬ (vy_44 : Int32).toInt = (0 : Int32).toInt := fun z => c_66 (Int32.toInt_inj.mp z)
            have z_2 := congrArg Int32.toInt c_86
            have y_0 : (0 : Int32).toInt = 0 := by decide
            have y_59 : (59 : Int32).toInt = 59 := by decide
            refine ⟨?_, ?_⟩ <;> omega
          have ha_147 : 0 ≤ (sv_127 : Int32).toInt ∧ (sv_127 : Int32).toInt ≤ ((Mv 0) : Int32).toInt ∧ ((Mv 0) : Int32).toInt ≤ 400 := by
            have z_1 : ¬ (vy_44 : Int32).toInt = (0 : Int32).toInt := fun z => c_66 (Int32.toInt_inj.mp z)
            have z_2 := congrArg Int32.toInt c_86
            have y_0 : (0 : Int32).toInt = 0 := by decide
            have y_59 : (59 : Int32).toInt = 59 := by decide
            refine ⟨?_, ?_, ?_⟩ <;> omega
          have ha_148 : 0 ≤ (sv_130 : Int32).toInt ∧ (sv_130 : Int32).toInt ≤ 60 := by
            have z_1 : ¬ (vy_44 : Int32).toInt = (0 : Int32).toInt := fun z => c_66 (Int32.toInt_inj.mp z)
            have z_2 := congrArg Int32.toInt c_86
            have y_0 : (0 : Int32).toInt = 0 := by decide
            have y_59 : (59 : Int32).toInt = 59 := by decide
            refine ⟨?_, ?_⟩ <;> omega
          have ha_149 : (((r_142 : Int32).toInt = 0 ∧ ¬ (sv_128 : Int32).toInt = 0) ∨ ((r_142 : Int32).toInt = 1 ∧ 0 ≤ (sv_135 (Mv 5).toNatClampNeg).toInt ∧ (sv_135 (Mv 5).toNatClampNeg).toInt ≤ (sv_127 : Int32).toInt ∧ (sv_137 (Mv 5).toInt.toNat).toInt = (sv_132 : Int32).toInt ∧ 0 ≤ (sv_132 : Int32).toInt ∧ (sv_132 : Int32).toInt ≤ 12)) := by
            have z_1 : ¬ (vy_44 : Int32).toInt = (0 : Int32).toInt := fun z => c_66 (Int32.toInt_inj.mp z)
            have z_2 := congrArg Int32.toInt c_86
            have y_0 : (0 : Int32).toInt = 0 := by decide
            have y_59 : (59 : Int32).toInt = 59 := by decide
            omega
          exact ih_58 r_142 sv_127 sv_128 sv_129 sv_130 sv_131 sv_132 sv_133 sv_134 sv_135 sv_136 sv_137 sv_138 _ _ _ (by omega) ha_147 ha_148 ha_149 hm_145 pf_141 (hP.sub [0, 1, 2, 3, 4, 5, 6] rfl) (hD.sub [0, 1, 2, 3, 4, 5, 6] rfl rfl) hS (lv_sub hl [0, 1] rfl)
  have ha_150 : 0 ≤ (sv_12 : Int32).toInt ∧ (sv_12 : Int32).toInt ≤ ((Mv 0) : Int32).toInt ∧ ((Mv 0) : Int32).toInt ≤ 400 := by
    refine ⟨?_, ?_, ?_⟩ <;> omega
  have ha_151 : 0 ≤ (sv_15 : Int32).toInt ∧ (sv_15 : Int32).toInt ≤ 60 := by
    refine ⟨?_, ?_⟩ <;> omega
  have ha_152 : (((r_27 : Int32).toInt = 0 ∧ ¬ (sv_13 : Int32).toInt = 0) ∨ ((r_27 : Int32).toInt = 1 ∧ 0 ≤ (sv_20 (Mv 5).toNatClampNeg).toInt ∧ (sv_20 (Mv 5).toNatClampNeg).toInt ≤ (sv_12 : Int32).toInt ∧ (sv_22 (Mv 5).toInt.toNat).toInt = (sv_17 : Int32).toInt ∧ 0 ≤ (sv_17 : Int32).toInt ∧ (sv_17 : Int32).toInt ≤ 12)) := by
    omega
  exact loop_59 _ r_27 sv_12 sv_13 sv_14 sv_15 sv_16 sv_17 sv_18 sv_19 sv_20 sv_21 sv_22 sv_23 _ _ _ (Nat.lt_succ_self _) ha_150 ha_151 ha_152 hm_30 pf_26 hP hD hS hl
set_option maxHeartbeats 4000000 in
set_option maxRecDepth 100000 in
theorem ct_X12_rule (l : Launch) (D : va_G) (tc : Nat → ClassId) (sk : (Nat → Nat) × (Nat → Nat)) (Ma : Nat → Nat) (Mv : Nat → Int32) (Mf : Nat → Nat → Int32) (Mj : Nat → Int64) (h_tp : 0 ≤ ((Mv 0) : Int32).toInt ∧ ((Mv 0) : Int32).toInt ≤ 400) (h_r : 0 ≤ ((Mv 1) : Int32).toInt ∧ ((Mv 1) : Int32).toInt ≤ 6) (h_rul : RulD (Mf 2) (Mf 4) (Mf 5) (Mv 1)) : Ct l yX12_rule cX12_rule 1 (some .int) { frames := 12, cells := 0, slots := 0, locals := 262 } D tc sk [.ref (Ma 0)] [((Ma 0), .inr (12, [.ref (Ma 1), .int (Mv 0), .int (Mv 1), .ref (Ma 2), .ref (Ma 3), .ref (Ma 4), .ref (Ma 5), .ref (Ma 6), .int (Mv 2), .int (Mv 3), .int (Mv 4), .int (Mv 5), .int (Mv 6), .int (Mv 7), .int (Mv 8), .ref (Ma 7), .int (Mv 9), .ref (Ma 8), .int (Mv 10), .ref (Ma 9), .ref (Ma 10), .int (Mv 11), .int (Mv 12), .int (Mv 13), .ref (Ma 11), .int (Mv 14), .ref (Ma 12), .ref (Ma 13), .ref (Ma 14), .ref (Ma 15), .ref (Ma 16), .long (Mj 0), .ref (Ma 17), .ref (Ma 18), .ref (Ma 19), .ref (Ma 20)])), ((Ma 1), .inl (tc 2, 400, .inl (Mf 1))), ((Ma 2), .inl (tc 0, 2400, .inl (Mf 2))), ((Ma 3), .inl (tc 0, 7, .inl (Mf 3))), ((Ma 4), .inl (tc 0, 288, .inl (Mf 4))), ((Ma 5), .inl (tc 0, 6, .inl (Mf 5))), ((Ma 7), .inl (tc 0, 400, .inl (Mf 7)))] (fun (v : Option Value) (u : (Int32) × (Int32) × (Int32) × (Int32) × (Int32) × (Int32) × (Int32) × (Int32) × (Int32) × (Int32) × (Nat → Int32) × (Nat → Int32) × (Nat → Int32) × (Nat → Int32) × (Nat → Int32)) => match u with | (oo0x1, oo0x2, oo0x3, oo0x4, oo0x5, oo0x6, oo0x7, oo0x8, oo0x9, oo0x10, oo0x11, oo0x12, oo0x13, oo0x14, oo0x15) => ∃ r : Int32, v = some (.int r) ∧ (True) ∧ (0 ≤ (oo0x1 : Int32).toInt ∧ (oo0x1 : Int32).toInt ≤ 400) ∧ (((Mv 1) : Int32).toInt ≤ (oo0x2 : Int32).toInt ∧ (oo0x2 : Int32).toInt ≤ 6) ∧ (RulD oo0x11 oo0x13 oo0x14 oo0x2)) (fun (u : (Int32) × (Int32) × (Int32) × (Int32) × (Int32) × (Int32) × (Int32) × (Int32) × (Int32) × (Int32) × (Nat → Int32) × (Nat → Int32) × (Nat → Int32) × (Nat → Int32) × (Nat → Int32)) => match u with | (oo0x1, oo0x2, oo0x3, oo0x4, oo0x5, oo0x6, oo0x7, oo0x8, oo0x9, oo0x10, oo0x11, oo0x12, oo0x13, oo0x14, oo0x15) => [((Ma 0), .inr (12, [.ref (Ma 1), .int oo0x1, .int oo0x2, .ref (Ma 2), .ref (Ma 3), .ref (Ma 4), .ref (Ma 5), .ref (Ma 6), .int oo0x3, .int oo0x4, .int oo0x5, .int oo0x6, .int oo0x7, .int oo0x8, .int oo0x9, .ref (Ma 7), .int oo0x10, .ref (Ma 8), .int (Mv 10), .ref (Ma 9), .ref (Ma 10), .int (Mv 11), .int (Mv 12), .int (Mv 13), .ref (Ma 11), .int (Mv 14), .ref (Ma 12), .ref (Ma 13), .ref (Ma 14), .ref (Ma 15), .ref (Ma 16), .long (Mj 0), .ref (Ma 17), .ref (Ma 18), .ref (Ma 19), .ref (Ma 20)])), ((Ma 1), .inl (tc 2, 400, .inl (Mf 1))), ((Ma 2), .inl (tc 0, 2400, .inl oo0x11)), ((Ma 3), .inl (tc 0, 7, .inl oo0x12)), ((Ma 4), .inl (tc 0, 288, .inl oo0x13)), ((Ma 5), .inl (tc 0, 6, .inl oo0x14)), ((Ma 7), .inl (tc 0, 400, .inl oo0x15))]) 0 0 := by
  refine Ct.start (by decide) (Nat.le_of_ble_eq_true rfl) (fun p e s m below meth c A ls hx hb hr hlk hin hml hown hts hK hX hP hD hA hl hS => ?_)
  have hl : lv_has ls 1 [(0, .ref (Ma 0))] := hl
  refine lv_aload_n hx hb dX12_rule_0 rfl (lv_at hl 0 rfl) ?_
  refine gf_X12_256 hx hb hts hown hK hP 0 rfl rfl dX12_rule_1 ?_
  refine lv_bipush (v := 6) hx hb dX12_rule_4 (by decide) ?_
  refine lv_icmp_ne (tgt := 11) hx hb dX12_rule_6 (by decide) (fun c_1 => ?_) (fun c_1 => ?_)
  · skip
    refine lv_aload_n hx hb dX12_rule_11 rfl (lv_at hl 0 rfl) ?_
    refine lv_aload_n hx hb dX12_rule_12 rfl (lv_at hl 0 rfl) ?_
    refine gf_X12_256 hx hb hts hown hK hP 0 rfl rfl dX12_rule_13 ?_
    refine pf_X12_145 hx hb hts hown hK hP hD hS 0 rfl (Nat.le_of_ble_eq_true rfl) rfl rfl dX12_rule_16 (fun H locs hP hD hS => ?_)
    have hP : va_P D classes [((Ma 0), .inr (12, [.ref (Ma 1), .int (Mv 0), .int (Mv 1), .ref (Ma 2), .ref (Ma 3), .ref (Ma 4), .ref (Ma 5), .ref (Ma 6), .int (Mv 2), .int (Mv 3), .int (Mv 4), .int (Mv 1), .int (Mv 6), .int (Mv 7), .int (Mv 8), .ref (Ma 7), .int (Mv 9), .ref (Ma 8), .int (Mv 10), .ref (Ma 9), .ref (Ma 10), .int (Mv 11), .int (Mv 12), .int (Mv 13), .ref (Ma 11), .int (Mv 14), .ref (Ma 12), .ref (Ma 13), .ref (Ma 14), .ref (Ma 15), .ref (Ma 16), .long (Mj 0), .ref (Ma 17), .ref (Ma 18), .ref (Ma 19), .ref (Ma 20)])), ((Ma 1), .inl (tc 2, 400, .inl (Mf 1))), ((Ma 2), .inl (tc 0, 2400, .inl (Mf 2))), ((Ma 3), .inl (tc 0, 7, .inl (Mf 3))), ((Ma 4), .inl (tc 0, 288, .inl (Mf 4))), ((Ma 5), .inl (tc 0, 6, .inl (Mf 5))), ((Ma 7), .inl (tc 0, 400, .inl (Mf 7)))] H := hP
    have hD : va_D A [((Ma 0), .inr (12, [.ref (Ma 1), .int (Mv 0), .int (Mv 1), .ref (Ma 2), .ref (Ma 3), .ref (Ma 4), .ref (Ma 5), .ref (Ma 6), .int (Mv 2), .int (Mv 3), .int (Mv 4), .int (Mv 1), .int (Mv 6), .int (Mv 7), .int (Mv 8), .ref (Ma 7), .int (Mv 9), .ref (Ma 8), .int (Mv 10), .ref (Ma 9), .ref (Ma 10), .int (Mv 11), .int (Mv 12), .int (Mv 13), .ref (Ma 11), .int (Mv 14), .ref (Ma 12), .ref (Ma 13), .ref (Ma 14), .ref (Ma 15), .ref (Ma 16), .long (Mj 0), .ref (Ma 17), .ref (Ma 18), .ref (Ma 19), .ref (Ma 20)])), ((Ma 1), .inl (tc 2, 400, .inl (Mf 1))), ((Ma 2), .inl (tc 0, 2400, .inl (Mf 2))), ((Ma 3), .inl (tc 0, 7, .inl (Mf 3))), ((Ma 4), .inl (tc 0, 288, .inl (Mf 4))), ((Ma 5), .inl (tc 0, 6, .inl (Mf 5))), ((Ma 7), .inl (tc 0, 400, .inl (Mf 7)))] := hD
    refine lv_aload_n hx hb dX12_rule_19 rfl (lv_at hl 0 rfl) ?_
    refine gf_X12_23 hx hb hts hown hK hP 0 rfl rfl dX12_rule_20 ?_
    refine lv_aload_n hx hb dX12_rule_23 rfl (lv_at hl 0 rfl) ?_
    refine gf_X12_145 hx hb hts hown hK hP 0 rfl rfl dX12_rule_24 ?_
    refine lv_iconst (v := 0) hx hb dX12_rule_27 (by decide) ?_
    have hi_2 : vp_in (Mv 1) 6 := by
      have z_1 : ¬ ((Mv 1) : Int32).toInt = (6 : Int32).toInt := fun z => c_1 (Int32.toInt_inj.mp z)
      have y_6 : (6 : Int32).toInt = 6 := by decide
      refine vp_in_iff.mpr ⟨?_, ?_⟩ <;> omega
    refine st_int hx hb hK hP hD hS 5 0 rfl rfl hi_2 dX12_rule_28 (fun g_3 H locs eg_3 hP hD hS => ?_)
    have hP : va_P D classes [((Ma 0), .inr (12, [.ref (Ma 1), .int (Mv 0), .int (Mv 1), .ref (Ma 2), .ref (Ma 3), .ref (Ma 4), .ref (Ma 5), .ref (Ma 6), .int (Mv 2), .int (Mv 3), .int (Mv 4), .int (Mv 1), .int (Mv 6), .int (Mv 7), .int (Mv 8), .ref (Ma 7), .int (Mv 9), .ref (Ma 8), .int (Mv 10), .ref (Ma 9), .ref (Ma 10), .int (Mv 11), .int (Mv 12), .int (Mv 13), .ref (Ma 11), .int (Mv 14), .ref (Ma 12), .ref (Ma 13), .ref (Ma 14), .ref (Ma 15), .ref (Ma 16), .long (Mj 0), .ref (Ma 17), .ref (Ma 18), .ref (Ma 19), .ref (Ma 20)])), ((Ma 1), .inl (tc 2, 400, .inl (Mf 1))), ((Ma 2), .inl (tc 0, 2400, .inl (Mf 2))), ((Ma 3), .inl (tc 0, 7, .inl (Mf 3))), ((Ma 4), .inl (tc 0, 288, .inl (Mf 4))), ((Ma 5), .inl (tc 0, 6, .inl g_3)), ((Ma 7), .inl (tc 0, 400, .inl (Mf 7)))] H := hP
    have hD : va_D A [((Ma 0), .inr (12, [.ref (Ma 1), .int (Mv 0), .int (Mv 1), .ref (Ma 2), .ref (Ma 3), .ref (Ma 4), .ref (Ma 5), .ref (Ma 6), .int (Mv 2), .int (Mv 3), .int (Mv 4), .int (Mv 1), .int (Mv 6), .int (Mv 7), .int (Mv 8), .ref (Ma 7), .int (Mv 9), .ref (Ma 8), .int (Mv 10), .ref (Ma 9), .ref (Ma 10), .int (Mv 11), .int (Mv 12), .int (Mv 13), .ref (Ma 11), .int (Mv 14), .ref (Ma 12), .ref (Ma 13), .ref (Ma 14), .ref (Ma 15), .ref (Ma 16), .long (Mj 0), .ref (Ma 17), .ref (Ma 18), .ref (Ma 19), .ref (Ma 20)])), ((Ma 1), .inl (tc 2, 400, .inl (Mf 1))), ((Ma 2), .inl (tc 0, 2400, .inl (Mf 2))), ((Ma 3), .inl (tc 0, 7, .inl (Mf 3))), ((Ma 4), .inl (tc 0, 288, .inl (Mf 4))), ((Ma 5), .inl (tc 0, 6, .inl g_3)), ((Ma 7), .inl (tc 0, 400, .inl (Mf 7)))] := hD
    have hr_5 : 0 ≤ (Mv 1).toInt := by
      have z_1 : ¬ ((Mv 1) : Int32).toInt = (6 : Int32).toInt := fun z => c_1 (Int32.toInt_inj.mp z)
      have y_6 : (6 : Int32).toInt = 6 := by decide
      omega
    have pf_4 : RulP (Mf 2) (Mf 4) g_3 (Mv 1) 0 := RulP.start h_rul hr_5 eg_3 (by decide)
    have ar_pf_4 := pf_4.2.1
    have kc_g_3 : (g_3 (Mv 1).toInt.toNat).toInt = (0 : Int32).toInt := upd_toInt_at eg_3
    have kz0 : (0 : Int32).toInt = 0 := by decide
    refine lv_aload_n hx hb dX12_rule_29 rfl (lv_at hl 0 rfl) ?_
    have ha_6 : 0 ≤ ((Mv 0) : Int32).toInt ∧ ((Mv 0) : Int32).toInt ≤ 400 := by
      have z_1 : ¬ ((Mv 1) : Int32).toInt = (6 : Int32).toInt := fun z => c_1 (Int32.toInt_inj.mp z)
      have y_6 : (6 : Int32).toInt = 6 := by decide
      refine ⟨?_, ?_⟩ <;> omega
    have ha_7 : 0 ≤ ((Mv 1) : Int32).toInt ∧ ((Mv 1) : Int32).toInt ≤ 5 := by
      have z_1 : ¬ ((Mv 1) : Int32).toInt = (6 : Int32).toInt := fun z => c_1 (Int32.toInt_inj.mp z)
      have y_6 : (6 : Int32).toInt = 6 := by decide
      refine ⟨?_, ?_⟩ <;> omega
    have ha_8 : (g_3 (Mv 1).toInt.toNat).toInt = 0 := by
      have z_1 : ¬ ((Mv 1) : Int32).toInt = (6 : Int32).toInt := fun z => c_1 (Int32.toInt_inj.mp z)
      have y_6 : (6 : Int32).toInt = 6 := by decide
      omega
    refine cV (a := (Ma 0)) (As := []) (rest := []) (wr := []) ⟨hx, hb, hml, hown, hts⟩ hK hX hA (ct_X12_readsAll_r l D tc sk Ma (fun k => ([(Mv 0), (Mv 1), (Mv 2), (Mv 3), (Mv 4), (Mv 1), (Mv 6), (Mv 7), (Mv 8), (Mv 9), (Mv 10), (Mv 11), (Mv 12), (Mv 13), (Mv 14)] : List (Int32)).getD k 0) (fun k => ([(fun _ => 0), (Mf 1), (Mf 2), (Mf 3), (Mf 4), g_3, (fun _ => 0), (Mf 7)] : List (Nat → Int32)).getD k (fun _ => 0)) Mj ha_6 ha_7 pf_4 ha_8) k_1203 k_1200 k_1202 k_25 k_106 pl_X12_readsAll ⟨Nat.le_of_ble_eq_true rfl, Nat.le_of_ble_eq_true rfl⟩ rfl rfl (va_recv hK hP (ci := 12) (q0 := 0) rfl rfl) hP hD hS [0, 1, 2, 3, 4, 5, 6] [] rfl rfl rfl rfl rfl (by decide) rfl hl.1 rfl (Nat.le_of_ble_eq_true rfl) dX12_rule_30 ⟨Nat.le_of_ble_eq_true rfl, Nat.le_of_ble_eq_true rfl⟩ (fun v_9 u_10 H locs hv_11 hP hD hS => ?_)
    obtain ⟨sv_12, sv_13, sv_14, sv_15, sv_16, sv_17, sv_18, sv_19, sv_20, sv_21, sv_22, sv_23⟩ := u_10
    obtain ⟨r_25, rfl, he_26, pf_24, hm_28⟩ := hv_11
    have he_26 : (r_25.toInt = 0 ∨ (r_25.toInt = 1 ∧ (sv_22 (Mv 1).toInt.toNat).toInt ≤ 12)) := he_26
    have pf_24 : RulD sv_19 sv_21 sv_22 (Mv 1) := pf_24
    refine W.eq (g2 := F0 m 33 ls [.int r_25]) rfl ?_
    have hP : va_P D classes [((Ma 0), .inr (12, [.ref (Ma 1), .int 0, .int (Mv 1), .ref (Ma 2), .ref (Ma 3), .ref (Ma 4), .ref (Ma 5), .ref (Ma 6), .int sv_12, .int sv_13, .int sv_14, .int (Mv 1), .int sv_15, .int sv_16, .int sv_17, .ref (Ma 7), .int sv_18, .ref (Ma 8), .int (Mv 10), .ref (Ma 9), .ref (Ma 10), .int (Mv 11), .int (Mv 12), .int (Mv 13), .ref (Ma 11), .int (Mv 14), .ref (Ma 12), .ref (Ma 13), .ref (Ma 14), .ref (Ma 15), .ref (Ma 16), .long (Mj 0), .ref (Ma 17), .ref (Ma 18), .ref (Ma 19), .ref (Ma 20)])), ((Ma 1), .inl (tc 2, 400, .inl (Mf 1))), ((Ma 2), .inl (tc 0, 2400, .inl sv_19)), ((Ma 3), .inl (tc 0, 7, .inl sv_20)), ((Ma 4), .inl (tc 0, 288, .inl sv_21)), ((Ma 5), .inl (tc 0, 6, .inl sv_22)), ((Ma 7), .inl (tc 0, 400, .inl sv_23))] H := hP
    have hD : va_D A [((Ma 0), .inr (12, [.ref (Ma 1), .int 0, .int (Mv 1), .ref (Ma 2), .ref (Ma 3), .ref (Ma 4), .ref (Ma 5), .ref (Ma 6), .int sv_12, .int sv_13, .int sv_14, .int (Mv 1), .int sv_15, .int sv_16, .int sv_17, .ref (Ma 7), .int sv_18, .ref (Ma 8), .int (Mv 10), .ref (Ma 9), .ref (Ma 10), .int (Mv 11), .int (Mv 12), .int (Mv 13), .ref (Ma 11), .int (Mv 14), .ref (Ma 12), .ref (Ma 13), .ref (Ma 14), .ref (Ma 15), .ref (Ma 16), .long (Mj 0), .ref (Ma 17), .ref (Ma 18), .ref (Ma 19), .ref (Ma 20)])), ((Ma 1), .inl (tc 2, 400, .inl (Mf 1))), ((Ma 2), .inl (tc 0, 2400, .inl sv_19)), ((Ma 3), .inl (tc 0, 7, .inl sv_20)), ((Ma 4), .inl (tc 0, 288, .inl sv_21)), ((Ma 5), .inl (tc 0, 6, .inl sv_22)), ((Ma 7), .inl (tc 0, 400, .inl sv_23))] := hD
    refine lv_if_ne (tgt := 44) hx hb dX12_rule_33 (by decide) (fun c_29 => ?_) (fun c_29 => ?_)
    · skip
      have hz_31 : (r_25 : Int32).toInt = 1 := by
        have z_1 : ¬ ((Mv 1) : Int32).toInt = (6 : Int32).toInt := fun z => c_1 (Int32.toInt_inj.mp z)
        have z_2 : ¬ (r_25 : Int32).toInt = (0 : Int32).toInt := fun z => c_29 (Int32.toInt_inj.mp z)
        have y_0 : (0 : Int32).toInt = 0 := by decide
        have y_6 : (6 : Int32).toInt = 6 := by decide
        omega
      obtain pf_30 := hm_28 hz_31
      have pf_30 : RulP sv_19 sv_21 sv_22 (Mv 1) ((sv_20 (Mv 1).toNatClampNeg).toInt) := pf_30
      have ar_pf_30 := pf_30.2.1
      refine lv_aload_n hx hb dX12_rule_44 rfl (lv_at hl 0 rfl) ?_
      refine lv_dup hx hb dX12_rule_45 rfl ?_
      refine gf_X12_256 hx hb hts hown hK hP 0 rfl rfl dX12_rule_46 ?_
      refine lv_iconst (v := 1) hx hb dX12_rule_49 (by decide) ?_
      refine lv_iadd hx hb dX12_rule_50 ?_
      refine lv_topi (fun x_32 ex_32 => ?_)
      refine pf_X12_256 hx hb hts hown hK hP hD hS 0 rfl (Nat.le_of_ble_eq_true rfl) rfl rfl dX12_rule_51 (fun H locs hP hD hS => ?_)
      have hP : va_P D classes [((Ma 0), .inr (12, [.ref (Ma 1), .int 0, .int x_32, .ref (Ma 2), .ref (Ma 3), .ref (Ma 4), .ref (Ma 5), .ref (Ma 6), .int sv_12, .int sv_13, .int sv_14, .int (Mv 1), .int sv_15, .int sv_16, .int sv_17, .ref (Ma 7), .int sv_18, .ref (Ma 8), .int (Mv 10), .ref (Ma 9), .ref (Ma 10), .int (Mv 11), .int (Mv 12), .int (Mv 13), .ref (Ma 11), .int (Mv 14), .ref (Ma 12), .ref (Ma 13), .ref (Ma 14), .ref (Ma 15), .ref (Ma 16), .long (Mj 0), .ref (Ma 17), .ref (Ma 18), .ref (Ma 19), .ref (Ma 20)])), ((Ma 1), .inl (tc 2, 400, .inl (Mf 1))), ((Ma 2), .inl (tc 0, 2400, .inl sv_19)), ((Ma 3), .inl (tc 0, 7, .inl sv_20)), ((Ma 4), .inl (tc 0, 288, .inl sv_21)), ((Ma 5), .inl (tc 0, 6, .inl sv_22)), ((Ma 7), .inl (tc 0, 400, .inl sv_23))] H := hP
      have hD : va_D A [((Ma 0), .inr (12, [.ref (Ma 1), .int 0, .int x_32, .ref (Ma 2), .ref (Ma 3), .ref (Ma 4), .ref (Ma 5), .ref (Ma 6), .int sv_12, .int sv_13, .int sv_14, .int (Mv 1), .int sv_15, .int sv_16, .int sv_17, .ref (Ma 7), .int sv_18, .ref (Ma 8), .int (Mv 10), .ref (Ma 9), .ref (Ma 10), .int (Mv 11), .int (Mv 12), .int (Mv 13), .ref (Ma 11), .int (Mv 14), .ref (Ma 12), .ref (Ma 13), .ref (Ma 14), .ref (Ma 15), .ref (Ma 16), .long (Mj 0), .ref (Ma 17), .ref (Ma 18), .ref (Ma 19), .ref (Ma 20)])), ((Ma 1), .inl (tc 2, 400, .inl (Mf 1))), ((Ma 2), .inl (tc 0, 2400, .inl sv_19)), ((Ma 3), .inl (tc 0, 7, .inl sv_20)), ((Ma 4), .inl (tc 0, 288, .inl sv_21)), ((Ma 5), .inl (tc 0, 6, .inl sv_22)), ((Ma 7), .inl (tc 0, 400, .inl sv_23))] := hD
      refine lv_aload_n hx hb dX12_rule_54 rfl (lv_at hl 0 rfl) ?_
      refine gf_X12_256 hx hb hts hown hK hP 0 rfl rfl dX12_rule_55 ?_
      refine lv_iconst (v := 1) hx hb dX12_rule_58 (by decide) ?_
      refine lv_isub hx hb dX12_rule_59 ?_
      refine lv_topi (fun x_33 ex_33 => ?_)
      have ha_34 : 0 ≤ (0 : Int32).toInt ∧ (0 : Int32).toInt ≤ 400 := by
        have z_1 : ¬ ((Mv 1) : Int32).toInt = (6 : Int32).toInt := fun z => c_1 (Int32.toInt_inj.mp z)
        have z_2 : ¬ (r_25 : Int32).toInt = (0 : Int32).toInt := fun z => c_29 (Int32.toInt_inj.mp z)
        have y_0 : (0 : Int32).toInt = 0 := by decide
        have y_6 : (6 : Int32).toInt = 6 := by decide
        refine ⟨?_, ?_⟩ <;> omega
      have ha_35 : ((Mv 1) : Int32).toInt ≤ (x_32 : Int32).toInt ∧ (x_32 : Int32).toInt ≤ 6 := by
        have z_1 : ¬ ((Mv 1) : Int32).toInt = (6 : Int32).toInt := fun z => c_1 (Int32.toInt_inj.mp z)
        have z_2 : ¬ (r_25 : Int32).toInt = (0 : Int32).toInt := fun z => c_29 (Int32.toInt_inj.mp z)
        have y_0 : (0 : Int32).toInt = 0 := by decide
        have y_6 : (6 : Int32).toInt = 6 := by decide
        have y_1 : (1 : Int32).toInt = 1 := by decide
        have t_x_32 : x_32.toInt = ((Mv 1) : Int32).toInt + (1 : Int32).toInt := by rw [ex_32]; exact add_toInt (by omega) (by omega)
        refine ⟨?_, ?_⟩ <;> omega
      have hr_36 : 0 ≤ (Mv 1).toInt := by
        have z_1 : ¬ ((Mv 1) : Int32).toInt = (6 : Int32).toInt := fun z => c_1 (Int32.toInt_inj.mp z)
        have z_2 : ¬ (r_25 : Int32).toInt = (0 : Int32).toInt := fun z => c_29 (Int32.toInt_inj.mp z)
        have y_0 : (0 : Int32).toInt = 0 := by decide
        have y_6 : (6 : Int32).toInt = 6 := by decide
        omega
      have hi_37 : (x_32 : Int32).toInt = (Mv 1).toInt + 1 := by
        have z_1 : ¬ ((Mv 1) : Int32).toInt = (6 : Int32).toInt := fun z => c_1 (Int32.toInt_inj.mp z)
        have z_2 : ¬ (r_25 : Int32).toInt = (0 : Int32).toInt := fun z => c_29 (Int32.toInt_inj.mp z)
        have y_0 : (0 : Int32).toInt = 0 := by decide
        have y_6 : (6 : Int32).toInt = 6 := by decide
        have y_1 : (1 : Int32).toInt = 1 := by decide
        have t_x_32 : x_32.toInt = ((Mv 1) : Int32).toInt + (1 : Int32).toInt := by rw [ex_32]; exact add_toInt (by omega) (by omega)
        omega
      have hr_38 : (sv_22 (Mv 1).toInt.toNat).toInt ≤ 12 := by
        have z_1 : ¬ ((Mv 1) : Int32).toInt = (6 : Int32).toInt := fun z => c_1 (Int32.toInt_inj.mp z)
        have z_2 : ¬ (r_25 : Int32).toInt = (0 : Int32).toInt := fun z => c_29 (Int32.toInt_inj.mp z)
        have y_0 : (0 : Int32).toInt = 0 := by decide
        have y_6 : (6 : Int32).toInt = 6 := by decide
        omega
      exact retI (v := x_33) hx hb hr hlk (rfl) hP hD hS (0, x_32, sv_12, sv_13, sv_14, (Mv 1), sv_15, sv_16, sv_17, sv_18, sv_19, sv_20, sv_21, sv_22, sv_23) ⟨_, rfl, trivial, ha_34, ha_35, (RulP.done pf_30 hr_36 hi_37 hr_38)⟩ [0, 1, 2, 3, 4, 5, 6] rfl rfl dX12_rule_60 (Nat.le_of_ble_eq_true rfl) (Nat.le_of_ble_eq_true rfl) rfl
    · skip
      refine lv_bipush (v := (-2)) hx hb dX12_rule_36 (by decide) ?_
      refine lv_aload_n hx hb dX12_rule_38 rfl (lv_at hl 0 rfl) ?_
      refine gf_X12_84 hx hb hts hown hK hP 0 rfl rfl dX12_rule_39 ?_
      refine lv_isub hx hb dX12_rule_42 ?_
      refine lv_topi (fun x_39 ex_39 => ?_)
      have ha_40 : 0 ≤ (0 : Int32).toInt ∧ (0 : Int32).toInt ≤ 400 := by
        have z_1 : ¬ ((Mv 1) : Int32).toInt = (6 : Int32).toInt := fun z => c_1 (Int32.toInt_inj.mp z)
        have z_2 := congrArg Int32.toInt c_29
        have y_0 : (0 : Int32).toInt = 0 := by decide
        have y_6 : (6 : Int32).toInt = 6 := by decide
        refine ⟨?_, ?_⟩ <;> omega
      have ha_41 : ((Mv 1) : Int32).toInt ≤ ((Mv 1) : Int32).toInt ∧ ((Mv 1) : Int32).toInt ≤ 6 := by
        have z_1 : ¬ ((Mv 1) : Int32).toInt = (6 : Int32).toInt := fun z => c_1 (Int32.toInt_inj.mp z)
        have z_2 := congrArg Int32.toInt c_29
        have y_0 : (0 : Int32).toInt = 0 := by decide
        have y_6 : (6 : Int32).toInt = 6 := by decide
        refine ⟨?_, ?_⟩ <;> omega
      exact retI (v := x_39) hx hb hr hlk (rfl) hP hD hS (0, (Mv 1), sv_12, sv_13, sv_14, (Mv 1), sv_15, sv_16, sv_17, sv_18, sv_19, sv_20, sv_21, sv_22, sv_23) ⟨_, rfl, trivial, ha_40, ha_41, pf_24⟩ [0, 1, 2, 3, 4, 5, 6] rfl rfl dX12_rule_43 (Nat.le_of_ble_eq_true rfl) (Nat.le_of_ble_eq_true rfl) rfl
  · skip
    refine lv_iconst (v := (-1)) hx hb dX12_rule_9 (by decide) ?_
    have ha_42 : 0 ≤ ((Mv 0) : Int32).toInt ∧ ((Mv 0) : Int32).toInt ≤ 400 := by
      have z_1 := congrArg Int32.toInt c_1
      have y_6 : (6 : Int32).toInt = 6 := by decide
      refine ⟨?_, ?_⟩ <;> omega
    have ha_43 : ((Mv 1) : Int32).toInt ≤ ((Mv 1) : Int32).toInt ∧ ((Mv 1) : Int32).toInt ≤ 6 := by
      have z_1 := congrArg Int32.toInt c_1
      have y_6 : (6 : Int32).toInt = 6 := by decide
      refine ⟨?_, ?_⟩ <;> omega
    exact retI (v := (-1)) hx hb hr hlk (rfl) hP hD hS ((Mv 0), (Mv 1), (Mv 2), (Mv 3), (Mv 4), (Mv 5), (Mv 6), (Mv 7), (Mv 8), (Mv 9), (Mf 2), (Mf 3), (Mf 4), (Mf 5), (Mf 7)) ⟨_, rfl, trivial, ha_42, ha_43, h_rul⟩ [0, 1, 2, 3, 4, 5, 6] rfl rfl dX12_rule_10 (Nat.le_of_ble_eq_true rfl) (Nat.le_of_ble_eq_true rfl) rfl
