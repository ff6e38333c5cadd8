theorem dX12_clauseHere_0 : decode cX12_clauseHere 0 = .ok (.aload_n 0, 1) := by decide +kernel
theorem dX12_clauseHere_1 : decode cX12_clauseHere 1 = .ok (.invokevirtual 90, 3) := by decide +kernel
theorem dX12_clauseHere_4 : decode cX12_clauseHere 4 = .ok (.pop, 1) := by decide +kernel
theorem dX12_clauseHere_5 : decode cX12_clauseHere 5 = .ok (.aload_n 0, 1) := by decide +kernel
theorem dX12_clauseHere_6 : decode cX12_clauseHere 6 = .ok (.getfield 87, 3) := by decide +kernel
theorem dX12_clauseHere_9 : decode cX12_clauseHere 9 = .ok (.istore_n 1, 1) := by decide +kernel
theorem dX12_clauseHere_10 : decode cX12_clauseHere 10 = .ok (.aload_n 0, 1) := by decide +kernel
theorem dX12_clauseHere_11 : decode cX12_clauseHere 11 = .ok (.getfield 145, 3) := by decide +kernel
theorem dX12_clauseHere_14 : decode cX12_clauseHere 14 = .ok (.bipush 6, 2) := by decide +kernel
theorem dX12_clauseHere_16 : decode cX12_clauseHere 16 = .ok (.if_icmp .ne 7, 3) := by decide +kernel
theorem dX12_clauseHere_23 : decode cX12_clauseHere 23 = .ok (.iconst 0, 1) := by decide +kernel
theorem dX12_clauseHere_24 : decode cX12_clauseHere 24 = .ok (.istore_n 2, 1) := by decide +kernel
theorem dX12_clauseHere_25 : decode cX12_clauseHere 25 = .ok (.iload_n 2, 1) := by decide +kernel
theorem dX12_clauseHere_26 : decode cX12_clauseHere 26 = .ok (.ifCond .eq 13, 3) := by decide +kernel
theorem dX12_clauseHere_39 : decode cX12_clauseHere 39 = .ok (.aload_n 0, 1) := by decide +kernel
theorem dX12_clauseHere_40 : decode cX12_clauseHere 40 = .ok (.ldc2_w 242, 3) := by decide +kernel
theorem dX12_clauseHere_43 : decode cX12_clauseHere 43 = .ok (.invokevirtual 98, 3) := by decide +kernel
theorem dX12_clauseHere_46 : decode cX12_clauseHere 46 = .ok (.ifCond .ne 10, 3) := by decide +kernel
theorem dX12_clauseHere_49 : decode cX12_clauseHere 49 = .ok (.aload_n 0, 1) := by decide +kernel
theorem dX12_clauseHere_50 : decode cX12_clauseHere 50 = .ok (.iconst 0, 1) := by decide +kernel
theorem dX12_clauseHere_51 : decode cX12_clauseHere 51 = .ok (.iload_n 1, 1) := by decide +kernel
theorem dX12_clauseHere_52 : decode cX12_clauseHere 52 = .ok (.invokevirtual 108, 3) := by decide +kernel
theorem dX12_clauseHere_55 : decode cX12_clauseHere 55 = .ok (.ireturn, 1) := by decide +kernel
theorem dX12_clauseHere_56 : decode cX12_clauseHere 56 = .ok (.aload_n 0, 1) := by decide +kernel
theorem dX12_clauseHere_57 : decode cX12_clauseHere 57 = .ok (.getfield 244, 3) := by decide +kernel
theorem dX12_clauseHere_60 : decode cX12_clauseHere 60 = .ok (.iload_n 2, 1) := by decide +kernel
theorem dX12_clauseHere_61 : decode cX12_clauseHere 61 = .ok (.ifCond .eq 8, 3) := by decide +kernel
theorem dX12_clauseHere_69 : decode cX12_clauseHere 69 = .ok (.bipush 12, 2) := by decide +kernel
theorem dX12_clauseHere_71 : decode cX12_clauseHere 71 = .ok (.if_icmp .ne 10, 3) := by decide +kernel
theorem dX12_clauseHere_74 : decode cX12_clauseHere 74 = .ok (.aload_n 0, 1) := by decide +kernel
theorem dX12_clauseHere_75 : decode cX12_clauseHere 75 = .ok (.iconst 4, 1) := by decide +kernel
theorem dX12_clauseHere_76 : decode cX12_clauseHere 76 = .ok (.iload_n 1, 1) := by decide +kernel
theorem dX12_clauseHere_77 : decode cX12_clauseHere 77 = .ok (.invokevirtual 108, 3) := by decide +kernel
theorem dX12_clauseHere_80 : decode cX12_clauseHere 80 = .ok (.ireturn, 1) := by decide +kernel
theorem dX12_clauseHere_81 : decode cX12_clauseHere 81 = .ok (.aload_n 0, 1) := by decide +kernel
theorem dX12_clauseHere_82 : decode cX12_clauseHere 82 = .ok (.dup, 1) := by decide +kernel
theorem dX12_clauseHere_83 : decode cX12_clauseHere 83 = .ok (.getfield 244, 3) := by decide +kernel
theorem dX12_clauseHere_86 : decode cX12_clauseHere 86 = .ok (.iconst 1, 1) := by decide +kernel
theorem dX12_clauseHere_87 : decode cX12_clauseHere 87 = .ok (.iadd, 1) := by decide +kernel
theorem dX12_clauseHere_88 : decode cX12_clauseHere 88 = .ok (.putfield 244, 3) := by decide +kernel
theorem dX12_clauseHere_91 : decode cX12_clauseHere 91 = .ok (.iload_n 2, 1) := by decide +kernel
theorem dX12_clauseHere_92 : decode cX12_clauseHere 92 = .ok (.ifCond .eq 11, 3) := by decide +kernel
theorem dX12_clauseHere_103 : decode cX12_clauseHere 103 = .ok (.aload_n 0, 1) := by decide +kernel
theorem dX12_clauseHere_104 : decode cX12_clauseHere 104 = .ok (.invokevirtual 250, 3) := by decide +kernel
theorem dX12_clauseHere_107 : decode cX12_clauseHere 107 = .ok (.ireturn, 1) := by decide +kernel
theorem dX12_isBuyHere_0 : decode cX12_isBuyHere 0 = .ok (.aload_n 0, 1) := by decide +kernel
theorem dX12_isBuyHere_1 : decode cX12_isBuyHere 1 = .ok (.invokevirtual 102, 3) := by decide +kernel
theorem dX12_isBuyHere_4 : decode cX12_isBuyHere 4 = .ok (.bipush 48, 2) := by decide +kernel
theorem dX12_isBuyHere_6 : decode cX12_isBuyHere 6 = .ok (.aload_n 0, 1) := by decide +kernel
theorem dX12_isBuyHere_7 : decode cX12_isBuyHere 7 = .ok (.getfield 145, 3) := by decide +kernel
theorem dX12_isBuyHere_10 : decode cX12_isBuyHere 10 = .ok (.imul, 1) := by decide +kernel
theorem dX12_isBuyHere_11 : decode cX12_isBuyHere 11 = .ok (.iconst 4, 1) := by decide +kernel
theorem dX12_isBuyHere_12 : decode cX12_isBuyHere 12 = .ok (.aload_n 0, 1) := by decide +kernel
theorem dX12_isBuyHere_13 : decode cX12_isBuyHere 13 = .ok (.getfield 23, 3) := by decide +kernel
theorem dX12_isBuyHere_16 : decode cX12_isBuyHere 16 = .ok (.aload_n 0, 1) := by decide +kernel
theorem dX12_isBuyHere_17 : decode cX12_isBuyHere 17 = .ok (.getfield 145, 3) := by decide +kernel
theorem dX12_isBuyHere_20 : decode cX12_isBuyHere 20 = .ok (.iaload, 1) := by decide +kernel
theorem dX12_isBuyHere_21 : decode cX12_isBuyHere 21 = .ok (.imul, 1) := by decide +kernel
theorem dX12_isBuyHere_22 : decode cX12_isBuyHere 22 = .ok (.iadd, 1) := by decide +kernel
theorem dX12_isBuyHere_23 : decode cX12_isBuyHere 23 = .ok (.istore_n 1, 1) := by decide +kernel
theorem dX12_isBuyHere_24 : decode cX12_isBuyHere 24 = .ok (.aload_n 0, 1) := by decide +kernel
theorem dX12_isBuyHere_25 : decode cX12_isBuyHere 25 = .ok (.getfield 20, 3) := by decide +kernel
theorem dX12_isBuyHere_28 : decode cX12_isBuyHere 28 = .ok (.iload_n 1, 1) := by decide +kernel
theorem dX12_isBuyHere_29 : decode cX12_isBuyHere 29 = .ok (.aload_n 0, 1) := by decide +kernel
theorem dX12_isBuyHere_30 : decode cX12_isBuyHere 30 = .ok (.getfield 17, 3) := by decide +kernel
theorem dX12_isBuyHere_33 : decode cX12_isBuyHere 33 = .ok (.aload_n 0, 1) := by decide +kernel
theorem dX12_isBuyHere_34 : decode cX12_isBuyHere 34 = .ok (.getfield 145, 3) := by decide +kernel
theorem dX12_isBuyHere_37 : decode cX12_isBuyHere 37 = .ok (.iaload, 1) := by decide +kernel
theorem dX12_isBuyHere_38 : decode cX12_isBuyHere 38 = .ok (.iastore, 1) := by decide +kernel
theorem dX12_isBuyHere_39 : decode cX12_isBuyHere 39 = .ok (.aload_n 0, 1) := by decide +kernel
theorem dX12_isBuyHere_40 : decode cX12_isBuyHere 40 = .ok (.invokevirtual 182, 3) := by decide +kernel
theorem dX12_isBuyHere_43 : decode cX12_isBuyHere 43 = .ok (.ifCond .ne 5, 3) := by decide +kernel
theorem dX12_isBuyHere_46 : decode cX12_isBuyHere 46 = .ok (.iconst 0, 1) := by decide +kernel
theorem dX12_isBuyHere_47 : decode cX12_isBuyHere 47 = .ok (.ireturn, 1) := by decide +kernel
theorem dX12_isBuyHere_48 : decode cX12_isBuyHere 48 = .ok (.aload_n 0, 1) := by decide +kernel
theorem dX12_isBuyHere_49 : decode cX12_isBuyHere 49 = .ok (.getfield 20, 3) := by decide +kernel
theorem dX12_isBuyHere_52 : decode cX12_isBuyHere 52 = .ok (.iload_n 1, 1) := by decide +kernel
theorem dX12_isBuyHere_53 : decode cX12_isBuyHere 53 = .ok (.iconst 1, 1) := by decide +kernel
theorem dX12_isBuyHere_54 : decode cX12_isBuyHere 54 = .ok (.iadd, 1) := by decide +kernel
theorem dX12_isBuyHere_55 : decode cX12_isBuyHere 55 = .ok (.aload_n 0, 1) := by decide +kernel
theorem dX12_isBuyHere_56 : decode cX12_isBuyHere 56 = .ok (.getfield 17, 3) := by decide +kernel
theorem dX12_isBuyHere_59 : decode cX12_isBuyHere 59 = .ok (.aload_n 0, 1) := by decide +kernel
theorem dX12_isBuyHere_60 : decode cX12_isBuyHere 60 = .ok (.getfield 145, 3) := by decide +kernel
theorem dX12_isBuyHere_63 : decode cX12_isBuyHere 63 = .ok (.iaload, 1) := by decide +kernel
theorem dX12_isBuyHere_64 : decode cX12_isBuyHere 64 = .ok (.iastore, 1) := by decide +kernel
theorem dX12_isBuyHere_65 : decode cX12_isBuyHere 65 = .ok (.aload_n 0, 1) := by decide +kernel
theorem dX12_isBuyHere_66 : decode cX12_isBuyHere 66 = .ok (.getfield 20, 3) := by decide +kernel
theorem dX12_isBuyHere_69 : decode cX12_isBuyHere 69 = .ok (.iload_n 1, 1) := by decide +kernel
theorem dX12_isBuyHere_70 : decode cX12_isBuyHere 70 = .ok (.iconst 2, 1) := by decide +kernel
theorem dX12_isBuyHere_71 : decode cX12_isBuyHere 71 = .ok (.iadd, 1) := by decide +kernel
theorem dX12_isBuyHere_72 : decode cX12_isBuyHere 72 = .ok (.iconst (-1), 1) := by decide +kernel
theorem dX12_isBuyHere_73 : decode cX12_isBuyHere 73 = .ok (.iastore, 1) := by decide +kernel
theorem dX12_isBuyHere_74 : decode cX12_isBuyHere 74 = .ok (.aload_n 0, 1) := by decide +kernel
theorem dX12_isBuyHere_75 : decode cX12_isBuyHere 75 = .ok (.ldc2_w 209, 3) := by decide +kernel
theorem dX12_isBuyHere_78 : decode cX12_isBuyHere 78 = .ok (.invokevirtual 211, 3) := by decide +kernel
theorem dX12_isBuyHere_81 : decode cX12_isBuyHere 81 = .ok (.ifCond .eq 29, 3) := by decide +kernel
theorem dX12_isBuyHere_84 : decode cX12_isBuyHere 84 = .ok (.aload_n 0, 1) := by decide +kernel
theorem dX12_isBuyHere_85 : decode cX12_isBuyHere 85 = .ok (.getfield 20, 3) := by decide +kernel
theorem dX12_isBuyHere_88 : decode cX12_isBuyHere 88 = .ok (.iload_n 1, 1) := by decide +kernel
theorem dX12_isBuyHere_89 : decode cX12_isBuyHere 89 = .ok (.iconst 2, 1) := by decide +kernel
theorem dX12_isBuyHere_90 : decode cX12_isBuyHere 90 = .ok (.iadd, 1) := by decide +kernel
theorem dX12_isBuyHere_91 : decode cX12_isBuyHere 91 = .ok (.aload_n 0, 1) := by decide +kernel
theorem dX12_isBuyHere_92 : decode cX12_isBuyHere 92 = .ok (.getfield 17, 3) := by decide +kernel
theorem dX12_isBuyHere_95 : decode cX12_isBuyHere 95 = .ok (.aload_n 0, 1) := by decide +kernel
theorem dX12_isBuyHere_96 : decode cX12_isBuyHere 96 = .ok (.getfield 145, 3) := by decide +kernel
theorem dX12_isBuyHere_99 : decode cX12_isBuyHere 99 = .ok (.iaload, 1) := by decide +kernel
theorem dX12_isBuyHere_100 : decode cX12_isBuyHere 100 = .ok (.iastore, 1) := by decide +kernel
theorem dX12_isBuyHere_101 : decode cX12_isBuyHere 101 = .ok (.aload_n 0, 1) := by decide +kernel
theorem dX12_isBuyHere_102 : decode cX12_isBuyHere 102 = .ok (.invokevirtual 214, 3) := by decide +kernel
theorem dX12_isBuyHere_105 : decode cX12_isBuyHere 105 = .ok (.ifCond .ne 5, 3) := by decide +kernel
theorem dX12_isBuyHere_108 : decode cX12_isBuyHere 108 = .ok (.iconst 0, 1) := by decide +kernel
theorem dX12_isBuyHere_109 : decode cX12_isBuyHere 109 = .ok (.ireturn, 1) := by decide +kernel
theorem dX12_isBuyHere_110 : decode cX12_isBuyHere 110 = .ok (.aload_n 0, 1) := by decide +kernel
theorem dX12_isBuyHere_111 : decode cX12_isBuyHere 111 = .ok (.getfield 20, 3) := by decide +kernel
theorem dX12_isBuyHere_114 : decode cX12_isBuyHere 114 = .ok (.iload_n 1, 1) := by decide +kernel
theorem dX12_isBuyHere_115 : decode cX12_isBuyHere 115 = .ok (.iconst 3, 1) := by decide +kernel
theorem dX12_isBuyHere_116 : decode cX12_isBuyHere 116 = .ok (.iadd, 1) := by decide +kernel
theorem dX12_isBuyHere_117 : decode cX12_isBuyHere 117 = .ok (.aload_n 0, 1) := by decide +kernel
theorem dX12_isBuyHere_118 : decode cX12_isBuyHere 118 = .ok (.getfield 17, 3) := by decide +kernel
theorem dX12_isBuyHere_121 : decode cX12_isBuyHere 121 = .ok (.aload_n 0, 1) := by decide +kernel
theorem dX12_isBuyHere_122 : decode cX12_isBuyHere 122 = .ok (.getfield 145, 3) := by decide +kernel
theorem dX12_isBuyHere_125 : decode cX12_isBuyHere 125 = .ok (.iaload, 1) := by decide +kernel
theorem dX12_isBuyHere_126 : decode cX12_isBuyHere 126 = .ok (.iastore, 1) := by decide +kernel
theorem dX12_isBuyHere_127 : decode cX12_isBuyHere 127 = .ok (.aload_n 0, 1) := by decide +kernel
theorem dX12_isBuyHere_128 : decode cX12_isBuyHere 128 = .ok (.getfield 23, 3) := by decide +kernel
theorem dX12_isBuyHere_131 : decode cX12_isBuyHere 131 = .ok (.aload_n 0, 1) := by decide +kernel
theorem dX12_isBuyHere_132 : decode cX12_isBuyHere 132 = .ok (.getfield 145, 3) := by decide +kernel
theorem dX12_isBuyHere_135 : decode cX12_isBuyHere 135 = .ok (.dup2, 1) := by decide +kernel
theorem dX12_isBuyHere_136 : decode cX12_isBuyHere 136 = .ok (.iaload, 1) := by decide +kernel
theorem dX12_isBuyHere_137 : decode cX12_isBuyHere 137 = .ok (.iconst 1, 1) := by decide +kernel
theorem dX12_isBuyHere_138 : decode cX12_isBuyHere 138 = .ok (.iadd, 1) := by decide +kernel
theorem dX12_isBuyHere_139 : decode cX12_isBuyHere 139 = .ok (.iastore, 1) := by decide +kernel
theorem dX12_isBuyHere_140 : decode cX12_isBuyHere 140 = .ok (.iconst 1, 1) := by decide +kernel
theorem dX12_isBuyHere_141 : decode cX12_isBuyHere 141 = .ok (.ireturn, 1) := by decide +kernel
theorem dX12_readsAll_0 : decode cX12_readsAll 0 = .ok (.aload_n 0, 1) := by decide +kernel
theorem dX12_readsAll_1 : decode cX12_readsAll 1 = .ok (.getfield 17, 3) := by decide +kernel
theorem dX12_readsAll_4 : decode cX12_readsAll 4 = .ok (.aload_n 0, 1) := by decide +kernel
theorem dX12_readsAll_5 : decode cX12_readsAll 5 = .ok (.getfield 145, 3) := by decide +kernel
theorem dX12_readsAll_8 : decode cX12_readsAll 8 = .ok (.iconst 0, 1) := by decide +kernel
theorem dX12_readsAll_9 : decode cX12_readsAll 9 = .ok (.iastore, 1) := by decide +kernel
theorem dX12_readsAll_10 : decode cX12_readsAll 10 = .ok (.aload_n 0, 1) := by decide +kernel
theorem dX12_readsAll_11 : decode cX12_readsAll 11 = .ok (.iconst 0, 1) := by decide +kernel
theorem dX12_readsAll_12 : decode cX12_readsAll 12 = .ok (.putfield 244, 3) := by decide +kernel
theorem dX12_readsAll_15 : decode cX12_readsAll 15 = .ok (.aload_n 0, 1) := by decide +kernel
theorem dX12_readsAll_16 : decode cX12_readsAll 16 = .ok (.iconst 0, 1) := by decide +kernel
theorem dX12_readsAll_17 : decode cX12_readsAll 17 = .ok (.putfield 87, 3) := by decide +kernel
theorem dX12_readsAll_20 : decode cX12_readsAll 20 = .ok (.aload_n 0, 1) := by decide +kernel
theorem dX12_readsAll_21 : decode cX12_readsAll 21 = .ok (.iconst 0, 1) := by decide +kernel
theorem dX12_readsAll_22 : decode cX12_readsAll 22 = .ok (.putfield 84, 3) := by decide +kernel
theorem dX12_readsAll_25 : decode cX12_readsAll 25 = .ok (.aload_n 0, 1) := by decide +kernel
theorem dX12_readsAll_26 : decode cX12_readsAll 26 = .ok (.iconst 0, 1) := by decide +kernel
theorem dX12_readsAll_27 : decode cX12_readsAll 27 = .ok (.putfield 148, 3) := by decide +kernel
theorem dX12_readsAll_30 : decode cX12_readsAll 30 = .ok (.aload_n 0, 1) := by decide +kernel
theorem dX12_readsAll_31 : decode cX12_readsAll 31 = .ok (.invokevirtual 253, 3) := by decide +kernel
theorem dX12_readsAll_34 : decode cX12_readsAll 34 = .ok (.istore_n 1, 1) := by decide +kernel
theorem dX12_readsAll_35 : decode cX12_readsAll 35 = .ok (.iload_n 1, 1) := by decide +kernel
theorem dX12_readsAll_36 : decode cX12_readsAll 36 = .ok (.ifCond .eq 30, 3) := by decide +kernel
theorem dX12_readsAll_39 : decode cX12_readsAll 39 = .ok (.aload_n 0, 1) := by decide +kernel
theorem dX12_readsAll_40 : decode cX12_readsAll 40 = .ok (.invokevirtual 90, 3) := by decide +kernel
theorem dX12_readsAll_43 : decode cX12_readsAll 43 = .ok (.bipush 59, 2) := by decide +kernel
theorem dX12_readsAll_45 : decode cX12_readsAll 45 = .ok (.if_icmp .ne 21, 3) := by decide +kernel
theorem dX12_readsAll_48 : decode cX12_readsAll 48 = .ok (.aload_n 0, 1) := by decide +kernel
theorem dX12_readsAll_49 : decode cX12_readsAll 49 = .ok (.dup, 1) := by decide +kernel
theorem dX12_readsAll_50 : decode cX12_readsAll 50 = .ok (.getfield 87, 3) := by decide +kernel
theorem dX12_readsAll_53 : decode cX12_readsAll 53 = .ok (.iconst 1, 1) := by decide +kernel
theorem dX12_readsAll_54 : decode cX12_readsAll 54 = .ok (.iadd, 1) := by decide +kernel
theorem dX12_readsAll_55 : decode cX12_readsAll 55 = .ok (.putfield 87, 3) := by decide +kernel
theorem dX12_readsAll_58 : decode cX12_readsAll 58 = .ok (.aload_n 0, 1) := by decide +kernel
theorem dX12_readsAll_59 : decode cX12_readsAll 59 = .ok (.invokevirtual 253, 3) := by decide +kernel
theorem dX12_readsAll_62 : decode cX12_readsAll 62 = .ok (.istore_n 1, 1) := by decide +kernel
theorem dX12_readsAll_63 : decode cX12_readsAll 63 = .ok (.goto (-28), 3) := by decide +kernel
theorem dX12_readsAll_66 : decode cX12_readsAll 66 = .ok (.iload_n 1, 1) := by decide +kernel
theorem dX12_readsAll_67 : decode cX12_readsAll 67 = .ok (.ifCond .eq 21, 3) := by decide +kernel
theorem dX12_readsAll_70 : decode cX12_readsAll 70 = .ok (.aload_n 0, 1) := by decide +kernel
theorem dX12_readsAll_71 : decode cX12_readsAll 71 = .ok (.invokevirtual 90, 3) := by decide +kernel
theorem dX12_readsAll_74 : decode cX12_readsAll 74 = .ok (.iconst (-1), 1) := by decide +kernel
theorem dX12_readsAll_75 : decode cX12_readsAll 75 = .ok (.if_icmp .eq 13, 3) := by decide +kernel
theorem dX12_readsAll_78 : decode cX12_readsAll 78 = .ok (.aload_n 0, 1) := by decide +kernel
theorem dX12_readsAll_79 : decode cX12_readsAll 79 = .ok (.iconst 0, 1) := by decide +kernel
theorem dX12_readsAll_80 : decode cX12_readsAll 80 = .ok (.aload_n 0, 1) := by decide +kernel
theorem dX12_readsAll_81 : decode cX12_readsAll 81 = .ok (.getfield 87, 3) := by decide +kernel
theorem dX12_readsAll_84 : decode cX12_readsAll 84 = .ok (.invokevirtual 108, 3) := by decide +kernel
theorem dX12_readsAll_87 : decode cX12_readsAll 87 = .ok (.pop, 1) := by decide +kernel
theorem dX12_readsAll_88 : decode cX12_readsAll 88 = .ok (.aload_n 0, 1) := by decide +kernel
theorem dX12_readsAll_89 : decode cX12_readsAll 89 = .ok (.iconst 0, 1) := by decide +kernel
theorem dX12_readsAll_90 : decode cX12_readsAll 90 = .ok (.putfield 77, 3) := by decide +kernel
theorem dX12_readsAll_93 : decode cX12_readsAll 93 = .ok (.aload_n 0, 1) := by decide +kernel
theorem dX12_readsAll_94 : decode cX12_readsAll 94 = .ok (.getfield 84, 3) := by decide +kernel
theorem dX12_readsAll_97 : decode cX12_readsAll 97 = .ok (.ifCond .ne 7, 3) := by decide +kernel
theorem dX12_readsAll_100 : decode cX12_readsAll 100 = .ok (.iconst 1, 1) := by decide +kernel
theorem dX12_readsAll_101 : decode cX12_readsAll 101 = .ok (.goto 4, 3) := by decide +kernel
theorem dX12_readsAll_104 : decode cX12_readsAll 104 = .ok (.iconst 0, 1) := by decide +kernel
theorem dX12_readsAll_105 : decode cX12_readsAll 105 = .ok (.ireturn, 1) := by decide +kernel
theorem dX12_rule_0 : decode cX12_rule 0 = .ok (.aload_n 0, 1) := by decide +kernel
theorem dX12_rule_1 : decode cX12_rule 1 = .ok (.getfield 256, 3) := by decide +kernel
theorem dX12_rule_4 : decode cX12_rule 4 = .ok (.bipush 6, 2) := by decide +kernel
theorem dX12_rule_6 : decode cX12_rule 6 = .ok (.if_icmp .ne 5, 3) := by decide +kernel
theorem dX12_rule_9 : decode cX12_rule 9 = .ok (.iconst (-1), 1) := by decide +kernel
theorem dX12_rule_10 : decode cX12_rule 10 = .ok (.ireturn, 1) := by decide +kernel
theorem dX12_rule_11 : decode cX12_rule 11 = .ok (.aload_n 0, 1) := by decide +kernel
theorem dX12_rule_12 : decode cX12_rule 12 = .ok (.aload_n 0, 1) := by decide +kernel
theorem dX12_rule_13 : decode cX12_rule 13 = .ok (.getfield 256, 3) := by decide +kernel
theorem dX12_rule_16 : decode cX12_rule 16 = .ok (.putfield 145, 3) := by decide +kernel
theorem dX12_rule_19 : decode cX12_rule 19 = .ok (.aload_n 0, 1) := by decide +kernel
theorem dX12_rule_20 : decode cX12_rule 20 = .ok (.getfield 23, 3) := by decide +kernel
theorem dX12_rule_23 : decode cX12_rule 23 = .ok (.aload_n 0, 1) := by decide +kernel
theorem dX12_rule_24 : decode cX12_rule 24 = .ok (.getfield 145, 3) := by decide +kernel
theorem dX12_rule_27 : decode cX12_rule 27 = .ok (.iconst 0, 1) := by decide +kernel
theorem dX12_rule_28 : decode cX12_rule 28 = .ok (.iastore, 1) := by decide +kernel
theorem dX12_rule_29 : decode cX12_rule 29 = .ok (.aload_n 0, 1) := by decide +kernel
theorem dX12_rule_30 : decode cX12_rule 30 = .ok (.invokevirtual 259, 3) := by decide +kernel
theorem dX12_rule_33 : decode cX12_rule 33 = .ok (.ifCond .ne 11, 3) := by decide +kernel
theorem dX12_rule_36 : decode cX12_rule 36 = .ok (.bipush (-2), 2) := by decide +kernel
theorem dX12_rule_38 : decode cX12_rule 38 = .ok (.aload_n 0, 1) := by decide +kernel
theorem dX12_rule_39 : decode cX12_rule 39 = .ok (.getfield 84, 3) := by decide +kernel
theorem dX12_rule_42 : decode cX12_rule 42 = .ok (.isub, 1) := by decide +kernel
theorem dX12_rule_43 : decode cX12_rule 43 = .ok (.ireturn, 1) := by decide +kernel
theorem dX12_rule_44 : decode cX12_rule 44 = .ok (.aload_n 0, 1) := by decide +kernel
theorem dX12_rule_45 : decode cX12_rule 45 = .ok (.dup, 1) := by decide +kernel
theorem dX12_rule_46 : decode cX12_rule 46 = .ok (.getfield 256, 3) := by decide +kernel
theorem dX12_rule_49 : decode cX12_rule 49 = .ok (.iconst 1, 1) := by decide +kernel
theorem dX12_rule_50 : decode cX12_rule 50 = .ok (.iadd, 1) := by decide +kernel
theorem dX12_rule_51 : decode cX12_rule 51 = .ok (.putfield 256, 3) := by decide +kernel
theorem dX12_rule_54 : decode cX12_rule 54 = .ok (.aload_n 0, 1) := by decide +kernel
theorem dX12_rule_55 : decode cX12_rule 55 = .ok (.getfield 256, 3) := by decide +kernel
theorem dX12_rule_58 : decode cX12_rule 58 = .ok (.iconst 1, 1) := by decide +kernel
theorem dX12_rule_59 : decode cX12_rule 59 = .ok (.isub, 1) := by decide +kernel
theorem dX12_rule_60 : decode cX12_rule 60 = .ok (.ireturn, 1) := by decide +kernel
set_option maxHeartbeats 4000000 in
set_option maxRecDepth 100000 in
theorem ct_X12_isBuyHere (l : Launch) (D : va_G) (tc : Nat → ClassId) (sk : (Nat → Nat) × (Nat → Nat)) (Ma : Nat → Nat) (Mv : Nat → Int32) (Mf : Nat → Nat → Int32) (Mj : Nat → Int64) (h_nx : 0 ≤ ((Mv 2) : Int32).toInt ∧ ((Mv 2) : Int32).toInt ≤ ((Mv 0) : Int32).toInt ∧ ((Mv 0) : Int32).toInt ≤ 400) (h_md : 0 ≤ ((Mv 6) : Int32).toInt ∧ ((Mv 6) : Int32).toInt ≤ 60) (h_t : 0 ≤ ((Mv 5) : Int32).toInt ∧ ((Mv 5) : Int32).toInt ≤ 5) (h_L : 0 ≤ ((Mf 3) (Mv 5).toNatClampNeg).toInt ∧ ((Mf 3) (Mv 5).toNatClampNeg).toInt ≤ ((Mv 2) : Int32).toInt) (h_rp : RulP (Mf 2) (Mf 4) (Mf 5) (Mv 5) (((Mf 3) (Mv 5).toNatClampNeg).toInt)) (h_c : ((Mf 5) (Mv 5).toInt.toNat).toInt + 1 = ((Mv 8) : Int32).toInt ∧ ((Mv 8) : Int32).toInt ≤ 12) : Ct l yX12_isBuyHere cX12_isBuyHere 2 (some .boolean) { frames := 9, cells := 0, slots := 0, locals := 198 } D tc sk [.ref (Ma 0)] [((Ma 0), .inr (12, [.ref (Ma 1), .int (Mv 0), .int (Mv 1), .ref (Ma 2), .ref (Ma 3), .ref (Ma 4), .ref (Ma 5), .ref (Ma 6), .int (Mv 2), .int (Mv 3), .int (Mv 4), .int (Mv 5), .int (Mv 6), .int (Mv 7), .int (Mv 8), .ref (Ma 7), .int (Mv 9), .ref (Ma 8), .int (Mv 10), .ref (Ma 9), .ref (Ma 10), .int (Mv 11), .int (Mv 12), .int (Mv 13), .ref (Ma 11), .int (Mv 14), .ref (Ma 12), .ref (Ma 13), .ref (Ma 14), .ref (Ma 15), .ref (Ma 16), .long (Mj 0), .ref (Ma 17), .ref (Ma 18), .ref (Ma 19), .ref (Ma 20)])), ((Ma 1), .inl (tc 2, 400, .inl (Mf 1))), ((Ma 2), .inl (tc 0, 2400, .inl (Mf 2))), ((Ma 3), .inl (tc 0, 7, .inl (Mf 3))), ((Ma 4), .inl (tc 0, 288, .inl (Mf 4))), ((Ma 5), .inl (tc 0, 6, .inl (Mf 5))), ((Ma 7), .inl (tc 0, 400, .inl (Mf 7)))] (fun (v : Option Value) (u : (Int32) × (Int32) × (Int32) × (Int32) × (Int32) × (Int32) × (Nat → Int32) × (Nat → Int32) × (Nat → Int32) × (Nat → Int32) × (Nat → Int32)) => match u with | (oo0x1, oo0x2, oo0x3, oo0x4, oo0x5, oo0x6, oo0x7, oo0x8, oo0x9, oo0x10, oo0x11) => ∃ r : Int32, v = some (.int r) ∧ (((r.toInt = 0 ∧ ¬ (oo0x2 : Int32).toInt = 0) ∨ (r.toInt = 1 ∧ 0 ≤ (oo0x8 (Mv 5).toNatClampNeg).toInt ∧ (oo0x8 (Mv 5).toNatClampNeg).toInt ≤ (oo0x1 : Int32).toInt ∧ (oo0x10 (Mv 5).toInt.toNat).toInt = ((Mf 5) (Mv 5).toInt.toNat).toInt + 1))) ∧ (((Mv 2) : Int32).toInt ≤ (oo0x1 : Int32).toInt ∧ (oo0x1 : Int32).toInt ≤ ((Mv 0) : Int32).toInt) ∧ (((Mv 6) : Int32).toInt ≤ (oo0x4 : Int32).toInt ∧ (oo0x4 : Int32).toInt ≤ 60) ∧ (RulD oo0x7 oo0x9 oo0x10 (Mv 5)) ∧ (r.toInt = 1 → (RulP oo0x7 oo0x9 oo0x10 (Mv 5) ((oo0x8 (Mv 5).toNatClampNeg).toInt)))) (fun (u : (Int32) × (Int32) × (Int32) × (Int32) × (Int32) × (Int32) × (Nat → Int32) × (Nat → Int32) × (Nat → Int32) × (Nat → Int32) × (Nat → Int32)) => match u with | (oo0x1, oo0x2, oo0x3, oo0x4, oo0x5, oo0x6, oo0x7, oo0x8, oo0x9, oo0x10, oo0x11) => [((Ma 0), .inr (12, [.ref (Ma 1), .int (Mv 0), .int (Mv 1), .ref (Ma 2), .ref (Ma 3), .ref (Ma 4), .ref (Ma 5), .ref (Ma 6), .int oo0x1, .int oo0x2, .int oo0x3, .int (Mv 5), .int oo0x4, .int oo0x5, .int (Mv 8), .ref (Ma 7), .int oo0x6, .ref (Ma 8), .int (Mv 10), .ref (Ma 9), .ref (Ma 10), .int (Mv 11), .int (Mv 12), .int (Mv 13), .ref (Ma 11), .int (Mv 14), .ref (Ma 12), .ref (Ma 13), .ref (Ma 14), .ref (Ma 15), .ref (Ma 16), .long (Mj 0), .ref (Ma 17), .ref (Ma 18), .ref (Ma 19), .ref (Ma 20)])), ((Ma 1), .inl (tc 2, 400, .inl (Mf 1))), ((Ma 2), .inl (tc 0, 2400, .inl oo0x7)), ((Ma 3), .inl (tc 0, 7, .inl oo0x8)), ((Ma 4), .inl (tc 0, 288, .inl oo0x9)), ((Ma 5), .inl (tc 0, 6, .inl oo0x10)), ((Ma 7), .inl (tc 0, 400, .inl oo0x11))]) 0 0 := by
  refine Ct.start (by decide) (Nat.le_of_ble_eq_true rfl) (fun p e s m below meth c A ls hx hb hr hlk hin hml hown hts hK hX hP hD hA hl hS => ?_)
  have hl : lv_has ls 2 [(0, .ref (Ma 0))] := hl
  have ar_h_rp := h_rp.2.1
  refine lv_aload_n hx hb dX12_isBuyHere_0 rfl (lv_at hl 0 rfl) ?_
  refine cV (a := (Ma 0)) (As := []) (rest := []) (wr := [((Ma 2), .inl (tc 0, 2400, .inl (Mf 2))), ((Ma 3), .inl (tc 0, 7, .inl (Mf 3))), ((Ma 4), .inl (tc 0, 288, .inl (Mf 4))), ((Ma 5), .inl (tc 0, 6, .inl (Mf 5))), ((Ma 7), .inl (tc 0, 400, .inl (Mf 7)))]) ⟨hx, hb, hml, hown, hts⟩ hK hX hA (cu_X12_passWord l D tc sk (Ma 0) (Ma 1) (Ma 2) (Ma 3) (Ma 4) (Ma 5) (Ma 6) (Ma 7) (Ma 8) (Ma 9) (Ma 10) (Ma 11) (Ma 12) (Ma 13) (Ma 14) (Ma 15) (Ma 16) (Ma 17) (Ma 18) (Ma 19) (Ma 20) (Mv 0) (Mv 1) (Mv 2) (Mv 3) (Mv 4) (Mv 5) (Mv 6) (Mv 7) (Mv 8) (Mv 9) (Mv 10) (Mv 11) (Mv 12) (Mv 13) (Mv 14) (Mf 1) (Mj 0) h_nx) k_1244 k_1241 k_1243 k_34 k_106 pl_X12_passWord ⟨Nat.le_of_ble_eq_true rfl, Nat.le_of_ble_eq_true rfl⟩ rfl rfl (va_recv hK hP (ci := 12) (q0 := 0) rfl rfl) hP hD hS [0, 1] [2, 3, 4, 5, 6] rfl rfl rfl rfl rfl (by decide) rfl hl.1 rfl (Nat.le_of_ble_eq_true rfl) dX12_isBuyHere_1 ⟨Nat.le_of_ble_eq_true rfl, Nat.le_of_ble_eq_true rfl⟩ (fun v_1 u_2 H locs hv_3 hP₀ hD₀ hS₀ => ?_)
  obtain ⟨sv_4, rfl⟩ : ∃ z, z = u_2 := ⟨_, rfl⟩
  obtain ⟨rfl, pf_5, pf_6⟩ := hv_3
  have pf_5 : ((Mv 2) : Int32).toInt ≤ (sv_4 : Int32).toInt ∧ (sv_4 : Int32).toInt ≤ ((Mv 0) : Int32).toInt := pf_5
  have pf_6 : Pw (Mf 1) (Mv 0) (Mv 2) sv_4 := pf_6
  refine W.eq (g2 := F0 m 4 ls []) rfl ?_
  replace hP : va_P D classes [((Ma 2), .inl (tc 0, 2400, .inl (Mf 2))), ((Ma 3), .inl (tc 0, 7, .inl (Mf 3))), ((Ma 4), .inl (tc 0, 288, .inl (Mf 4))), ((Ma 5), .inl (tc 0, 6, .inl (Mf 5))), ((Ma 7), .inl (tc 0, 400, .inl (Mf 7))), ((Ma 0), .inr (12, [.ref (Ma 1), .int (Mv 0), .int (Mv 1), .ref (Ma 2), .ref (Ma 3), .ref (Ma 4), .ref (Ma 5), .ref (Ma 6), .int sv_4, .int (Mv 3), .int (Mv 4), .int (Mv 5), .int (Mv 6), .int (Mv 7), .int (Mv 8), .ref (Ma 7), .int (Mv 9), .ref (Ma 8), .int (Mv 10), .ref (Ma 9), .ref (Ma 10), .int (Mv 11), .int (Mv 12), .int (Mv 13), .ref (Ma 11), .int (Mv 14), .ref (Ma 12), .ref (Ma 13), .ref (Ma 14), .ref (Ma 15), .ref (Ma 16), .long (Mj 0), .ref (Ma 17), .ref (Ma 18), .ref (Ma 19), .ref (Ma 20)])), ((Ma 1), .inl (tc 2, 400, .inl (Mf 1)))] H := hP₀
  replace hD : va_D A [((Ma 2), .inl (tc 0, 2400, .inl (Mf 2))), ((Ma 3), .inl (tc 0, 7, .inl (Mf 3))), ((Ma 4), .inl (tc 0, 288, .inl (Mf 4))), ((Ma 5), .inl (tc 0, 6, .inl (Mf 5))), ((Ma 7), .inl (tc 0, 400, .inl (Mf 7))), ((Ma 0), .inr (12, [.ref (Ma 1), .int (Mv 0), .int (Mv 1), .ref (Ma 2), .ref (Ma 3), .ref (Ma 4), .ref (Ma 5), .ref (Ma 6), .int sv_4, .int (Mv 3), .int (Mv 4), .int (Mv 5), .int (Mv 6), .int (Mv 7), .int (Mv 8), .ref (Ma 7), .int (Mv 9), .ref (Ma 8), .int (Mv 10), .ref (Ma 9), .ref (Ma 10), .int (Mv 11), .int (Mv 12), .int (Mv 13), .ref (Ma 11), .int (Mv 14), .ref (Ma 12), .ref (Ma 13), .ref (Ma 14), .ref (Ma 15), .ref (Ma 16), .long (Mj 0), .ref (Ma 17), .ref (Ma 18), .ref (Ma 19), .ref (Ma 20)])), ((Ma 1), .inl (tc 2, 400, .inl (Mf 1)))] := hD₀
  replace hS := hS₀
  clear hP₀ hD₀ hS₀
  refine lv_bipush (v := 48) hx hb dX12_isBuyHere_4 (by decide) ?_
  refine lv_aload_n hx hb dX12_isBuyHere_6 rfl (lv_at hl 0 rfl) ?_
  refine gf_X12_145 hx hb hts hown hK hP 5 rfl rfl dX12_isBuyHere_7 ?_
  refine lv_imul hx hb dX12_isBuyHere_10 ?_
  refine lv_topi (fun x_7 ex_7 => ?_)
  refine lv_iconst (v := 4) hx hb dX12_isBuyHere_11 (by decide) ?_
  refine lv_aload_n hx hb dX12_isBuyHere_12 rfl (lv_at hl 0 rfl) ?_
  refine gf_X12_23 hx hb hts hown hK hP 5 rfl rfl dX12_isBuyHere_13 ?_
  refine lv_aload_n hx hb dX12_isBuyHere_16 rfl (lv_at hl 0 rfl) ?_
  refine gf_X12_145 hx hb hts hown hK hP 5 rfl rfl dX12_isBuyHere_17 ?_
  have hi_8 : vp_in (Mv 5) 6 := by
    refine vp_in_iff.mpr ⟨?_, ?_⟩ <;> omega
  refine va_iald hx hb hK hP 3 0 rfl rfl hi_8 dX12_isBuyHere_20 ?_
  refine lv_topi (fun x_9 ex_9 => ?_)
  have kx_9 : x_9.toInt = ((Mf 5) ((Mv 5) : Int32).toInt.toNat).toInt := congrArg Int32.toInt ex_9
  obtain ⟨A0, hA0⟩ : ∃ A0 : Nat, A0 = 48 * (Mv 5).toInt.toNat + 4 * (((Mf 5) (Mv 5).toInt.toNat).toInt).toNat := ⟨_, rfl⟩
  refine lv_imul hx hb dX12_isBuyHere_21 ?_
  refine lv_topi (fun x_10 ex_10 => ?_)
  refine lv_iadd hx hb dX12_isBuyHere_22 ?_
  refine lv_topi (fun x_11 ex_11 => ?_)
  refine lv_istore_n (lv' := [(1, .int x_11), (0, .ref (Ma 0))]) hx hb dX12_isBuyHere_23 rfl hl (by decide) rfl (fun ls hl₀ => ?_)
  replace hl := hl₀
  clear hl₀
  refine lv_aload_n hx hb dX12_isBuyHere_24 rfl (lv_at hl 1 rfl) ?_
  refine gf_X12_20 hx hb hts hown hK hP 5 rfl rfl dX12_isBuyHere_25 ?_
  refine lv_iload_n hx hb dX12_isBuyHere_28 rfl (lv_at hl 0 rfl) ?_
  refine lv_aload_n hx hb dX12_isBuyHere_29 rfl (lv_at hl 1 rfl) ?_
  refine gf_X12_17 hx hb hts hown hK hP 5 rfl rfl dX12_isBuyHere_30 ?_
  refine lv_aload_n hx hb dX12_isBuyHere_33 rfl (lv_at hl 1 rfl) ?_
  refine gf_X12_145 hx hb hts hown hK hP 5 rfl rfl dX12_isBuyHere_34 ?_
  have hi_12 : vp_in (Mv 5) 7 := by
    refine vp_in_iff.mpr ⟨?_, ?_⟩ <;> omega
  refine va_iald hx hb hK hP 1 0 rfl rfl hi_12 dX12_isBuyHere_37 ?_
  refine lv_topi (fun x_13 ex_13 => ?_)
  have kx_13 : x_13.toInt = ((Mf 3) ((Mv 5) : Int32).toNatClampNeg).toInt := congrArg Int32.toInt ex_13
  have hi_14 : vp_in x_11 288 := by
    have y_4 : (4 : Int32).toInt = 4 := by decide
    have y_48 : (48 : Int32).toInt = 48 := by decide
    have t_x_7 : x_7.toInt = (48 : Int32).toInt * ((Mv 5) : Int32).toInt := by rw [ex_7]; exact mul_toInt (by first | omega | (rw [y_48]; omega)) (by first | omega | (rw [y_48]; omega))
    rw [y_48] at t_x_7
    have t_x_10 : x_10.toInt = (4 : Int32).toInt * (x_9 : Int32).toInt := by rw [ex_10]; exact mul_toInt (by first | omega | (rw [y_4]; omega)) (by first | omega | (rw [y_4]; omega))
    rw [y_4] at t_x_10
    have t_x_11 : x_11.toInt = (x_7 : Int32).toInt + (x_10 : Int32).toInt := by rw [ex_11]; exact add_toInt (by omega) (by omega)
    refine vp_in_iff.mpr ⟨?_, ?_⟩ <;> omega
  refine st_int hx hb hK hP hD hS 2 0 rfl rfl hi_14 dX12_isBuyHere_38 (fun g_15 H locs eg_15 hP₀ hD₀ hS₀ => ?_)
  replace hP : va_P D classes [((Ma 2), .inl (tc 0, 2400, .inl (Mf 2))), ((Ma 3), .inl (tc 0, 7, .inl (Mf 3))), ((Ma 4), .inl (tc 0, 288, .inl g_15)), ((Ma 5), .inl (tc 0, 6, .inl (Mf 5))), ((Ma 7), .inl (tc 0, 400, .inl (Mf 7))), ((Ma 0), .inr (12, [.ref (Ma 1), .int (Mv 0), .int (Mv 1), .ref (Ma 2), .ref (Ma 3), .ref (Ma 4), .ref (Ma 5), .ref (Ma 6), .int sv_4, .int (Mv 3), .int (Mv 4), .int (Mv 5), .int (Mv 6), .int (Mv 7), .int (Mv 8), .ref (Ma 7), .int (Mv 9), .ref (Ma 8), .int (Mv 10), .ref (Ma 9), .ref (Ma 10), .int (Mv 11), .int (Mv 12), .int (Mv 13), .ref (Ma 11), .int (Mv 14), .ref (Ma 12), .ref (Ma 13), .ref (Ma 14), .ref (Ma 15), .ref (Ma 16), .long (Mj 0), .ref (Ma 17), .ref (Ma 18), .ref (Ma 19), .ref (Ma 20)])), ((Ma 1), .inl (tc 2, 400, .inl (Mf 1)))] H := hP₀
  replace hD : va_D A [((Ma 2), .inl (tc 0, 2400, .inl (Mf 2))), ((Ma 3), .inl (tc 0, 7, .inl (Mf 3))), ((Ma 4), .inl (tc 0, 288, .inl g_15)), ((Ma 5), .inl (tc 0, 6, .inl (Mf 5))), ((Ma 7), .inl (tc 0, 400, .inl (Mf 7))), ((Ma 0), .inr (12, [.ref (Ma 1), .int (Mv 0), .int (Mv 1), .ref (Ma 2), .ref (Ma 3), .ref (Ma 4), .ref (Ma 5), .ref (Ma 6), .int sv_4, .int (Mv 3), .int (Mv 4), .int (Mv 5), .int (Mv 6), .int (Mv 7), .int (Mv 8), .ref (Ma 7), .int (Mv 9), .ref (Ma 8), .int (Mv 10), .ref (Ma 9), .ref (Ma 10), .int (Mv 11), .int (Mv 12), .int (Mv 13), .ref (Ma 11), .int (Mv 14), .ref (Ma 12), .ref (Ma 13), .ref (Ma 14), .ref (Ma 15), .ref (Ma 16), .long (Mj 0), .ref (Ma 17), .ref (Ma 18), .ref (Ma 19), .ref (Ma 20)])), ((Ma 1), .inl (tc 2, 400, .inl (Mf 1)))] := hD₀
  replace hS := hS₀
  clear hP₀ hD₀ hS₀
  have hi_16 : (x_11 : Int32).toInt = (A0 : Int) + (0 : Nat) := by
    have y_4 : (4 : Int32).toInt = 4 := by decide
    have y_48 : (48 : Int32).toInt = 48 := by decide
    have t_x_7 : x_7.toInt = (48 : Int32).toInt * ((Mv 5) : Int32).toInt := by rw [ex_7]; exact mul_toInt (by first | omega | (rw [y_48]; omega)) (by first | omega | (rw [y_48]; omega))
    rw [y_48] at t_x_7
    have t_x_10 : x_10.toInt = (4 : Int32).toInt * (x_9 : Int32).toInt := by rw [ex_10]; exact mul_toInt (by first | omega | (rw [y_4]; omega)) (by first | omega | (rw [y_4]; omega))
    rw [y_4] at t_x_10
    have t_x_11 : x_11.toInt = (x_7 : Int32).toInt + (x_10 : Int32).toInt := by rw [ex_11]; exact add_toInt (by omega) (by omega)
    omega
  have hr_18 : 48 * (Mv 5).toInt + 4 * ((Mf 5) (Mv 5).toInt.toNat).toInt ≤ (((x_11 : Int32).toNatClampNeg : Nat) : Int) := by
    have y_4 : (4 : Int32).toInt = 4 := by decide
    have y_48 : (48 : Int32).toInt = 48 := by decide
    have t_x_7 : x_7.toInt = (48 : Int32).toInt * ((Mv 5) : Int32).toInt := by rw [ex_7]; exact mul_toInt (by first | omega | (rw [y_48]; omega)) (by first | omega | (rw [y_48]; omega))
    rw [y_48] at t_x_7
    have t_x_10 : x_10.toInt = (4 : Int32).toInt * (x_9 : Int32).toInt := by rw [ex_10]; exact mul_toInt (by first | omega | (rw [y_4]; omega)) (by first | omega | (rw [y_4]; omega))
    rw [y_4] at t_x_10
    have t_x_11 : x_11.toInt = (x_7 : Int32).toInt + (x_10 : Int32).toInt := by rw [ex_11]; exact add_toInt (by omega) (by omega)
    have hcl : (x_11 : Int32).toNatClampNeg = (x_11 : Int32).toInt.toNat := rfl
    omega
  have pf_17 : RulP (Mf 2) g_15 (Mf 5) (Mv 5) (((Mf 3) (Mv 5).toNatClampNeg).toInt) := RulP.cl h_rp eg_15 h_t.1 hr_18
  have ar_pf_17 := pf_17.2.1
  have pf_19 : ClV g_15 A0 0 x_13 := ClV.put eg_15 hi_16
  have hr_21 : 0 ≤ (x_13 : Int32).toInt ∧ (x_13 : Int32).toInt ≤ 400 := by
    refine ⟨?_, ?_⟩ <;> omega
  have hr_22 : 0 ≤ ((Mv 6) : Int32).toInt ∧ ((Mv 6) : Int32).toInt ≤ 60 := by
    refine ⟨?_, ?_⟩ <;> omega
  have pf_20 : Cd (Mf 2) (Mf 3) (Mv 5) x_13 (Mv 6) 0 := Cd.nil h_t ex_13 hr_21 hr_22
  have ar_pf_20 := Cd.ar pf_20
  refine lv_aload_n hx hb dX12_isBuyHere_39 rfl (lv_at hl 1 rfl) ?_
  have ha_23 : 0 ≤ (sv_4 : Int32).toInt ∧ (sv_4 : Int32).toInt ≤ ((Mv 0) : Int32).toInt ∧ ((Mv 0) : Int32).toInt ≤ 400 := by
    refine ⟨?_, ?_, ?_⟩ <;> omega
  have ha_24 : ((Mf 3) (Mv 5).toNatClampNeg).toInt ≤ (sv_4 : Int32).toInt := by
    omega
  refine cV (a := (Ma 0)) (As := []) (rest := []) (wr := [((Ma 4), .inl (tc 0, 288, .inl g_15)), ((Ma 5), .inl (tc 0, 6, .inl (Mf 5))), ((Ma 7), .inl (tc 0, 400, .inl (Mf 7)))]) ⟨hx, hb, hml, hown, hts⟩ hK hX hA (cu_X12_sum l D tc sk (Ma 0) (Ma 1) (Ma 2) (Ma 3) (Ma 4) (Ma 5) (Ma 6) (Ma 7) (Ma 8) (Ma 9) (Ma 10) (Ma 11) (Ma 12) (Ma 13) (Ma 14) (Ma 15) (Ma 16) (Ma 17) (Ma 18) (Ma 19) (Ma 20) (Mv 0) (Mv 1) sv_4 (Mv 3) (Mv 4) (Mv 5) (Mv 6) (Mv 7) (Mv 8) (Mv 9) (Mv 10) (Mv 11) (Mv 12) (Mv 13) (Mv 14) (Mf 1) (Mf 2) (Mf 3) (Mj 0) x_13 0 ha_23 pf_20 ha_24 h_md) k_1279 k_1276 k_1278 k_42 k_106 pl_X12_sum ⟨Nat.le_of_ble_eq_true rfl, Nat.le_of_ble_eq_true rfl⟩ rfl rfl (va_recv hK hP (ci := 12) (q0 := 5) rfl rfl) hP hD hS [5, 6, 0, 1] [2, 3, 4] rfl rfl rfl rfl rfl (by decide) rfl hl.1 rfl (Nat.le_of_ble_eq_true rfl) dX12_isBuyHere_40 ⟨Nat.le_of_ble_eq_true rfl, Nat.le_of_ble_eq_true rfl⟩ (fun v_25 u_26 H locs hv_27 hP₀ hD₀ hS₀ => ?_)
  obtain ⟨sv_28, sv_29, sv_30, sv_31, sv_32, sv_33⟩ := u_26
  obtain ⟨r_37, rfl, he_38, pf_34, pf_35, pf_36, hm_40⟩ := hv_27
  have he_38 : ((r_37.toInt = 0 ∧ ¬ (sv_29 : Int32).toInt = 0) ∨ (r_37.toInt = 1 ∧ ((Mf 3) (Mv 5).toNatClampNeg).toInt + 1 ≤ (sv_33 (Mv 5).toNatClampNeg).toInt ∧ (sv_33 (Mv 5).toNatClampNeg).toInt + (sv_4 : Int32).toInt ≤ ((Mf 3) (Mv 5).toNatClampNeg).toInt + (sv_28 : Int32).toInt ∧ (sv_4 : Int32).toInt + 1 ≤ (sv_28 : Int32).toInt)) := he_38
  have pf_34 : (sv_4 : Int32).toInt ≤ (sv_28 : Int32).toInt ∧ (sv_28 : Int32).toInt ≤ ((Mv 0) : Int32).toInt := pf_34
  have pf_35 : ((Mv 6) : Int32).toInt ≤ (sv_31 : Int32).toInt ∧ (sv_31 : Int32).toInt ≤ 60 := pf_35
  have pf_36 : Agr (Mf 2) sv_32 (400 * ((Mv 5) : Int32).toInt + ((Mf 3) (Mv 5).toNatClampNeg).toInt) := pf_36
  have hr_42 : 400 * ((Mv 5) : Int32).toInt + (((Mf 3) (Mv 5).toNatClampNeg).toInt) ≤ (400 * ((Mv 5) : Int32).toInt + ((Mf 3) (Mv 5).toNatClampNeg).toInt) ∧ 0 ≤ ((Mv 5) : Int32).toInt ∧ 0 ≤ (((Mf 3) (Mv 5).toNatClampNeg).toInt) := by
    omega
  have pf_41 : RulP sv_32 (Mf 4) (Mf 5) (Mv 5) (((Mf 3) (Mv 5).toNatClampNeg).toInt) := RulP.agr h_rp pf_36 hr_42.2.1 hr_42.1 hr_42.2.2
  have ar_pf_41 := pf_41.2.1
  have hr_44 : 400 * ((Mv 5) : Int32).toInt + (((Mf 3) (Mv 5).toNatClampNeg).toInt) ≤ (400 * ((Mv 5) : Int32).toInt + ((Mf 3) (Mv 5).toNatClampNeg).toInt) ∧ 0 ≤ ((Mv 5) : Int32).toInt ∧ 0 ≤ (((Mf 3) (Mv 5).toNatClampNeg).toInt) := by
    omega
  have pf_43 : RulP sv_32 g_15 (Mf 5) (Mv 5) (((Mf 3) (Mv 5).toNatClampNeg).toInt) := RulP.agr pf_17 pf_36 hr_44.2.1 hr_44.1 hr_44.2.2
  have ar_pf_43 := pf_43.2.1
  refine W.eq (g2 := F0 m 43 ls [.int r_37]) rfl ?_
  replace hP : va_P D classes [((Ma 4), .inl (tc 0, 288, .inl g_15)), ((Ma 5), .inl (tc 0, 6, .inl (Mf 5))), ((Ma 7), .inl (tc 0, 400, .inl (Mf 7))), ((Ma 0), .inr (12, [.ref (Ma 1), .int (Mv 0), .int (Mv 1), .ref (Ma 2), .ref (Ma 3), .ref (Ma 4), .ref (Ma 5), .ref (Ma 6), .int sv_28, .int sv_29, .int sv_30, .int (Mv 5), .int sv_31, .int (Mv 7), .int (Mv 8), .ref (Ma 7), .int (Mv 9), .ref (Ma 8), .int (Mv 10), .ref (Ma 9), .ref (Ma 10), .int (Mv 11), .int (Mv 12), .int (Mv 13), .ref (Ma 11), .int (Mv 14), .ref (Ma 12), .ref (Ma 13), .ref (Ma 14), .ref (Ma 15), .ref (Ma 16), .long (Mj 0), .ref (Ma 17), .ref (Ma 18), .ref (Ma 19), .ref (Ma 20)])), ((Ma 1), .inl (tc 2, 400, .inl (Mf 1))), ((Ma 2), .inl (tc 0, 2400, .inl sv_32)), ((Ma 3), .inl (tc 0, 7, .inl sv_33))] H := hP₀
  replace hD : va_D A [((Ma 4), .inl (tc 0, 288, .inl g_15)), ((Ma 5), .inl (tc 0, 6, .inl (Mf 5))), ((Ma 7), .inl (tc 0, 400, .inl (Mf 7))), ((Ma 0), .inr (12, [.ref (Ma 1), .int (Mv 0), .int (Mv 1), .ref (Ma 2), .ref (Ma 3), .ref (Ma 4), .ref (Ma 5), .ref (Ma 6), .int sv_28, .int sv_29, .int sv_30, .int (Mv 5), .int sv_31, .int (Mv 7), .int (Mv 8), .ref (Ma 7), .int (Mv 9), .ref (Ma 8), .int (Mv 10), .ref (Ma 9), .ref (Ma 10), .int (Mv 11), .int (Mv 12), .int (Mv 13), .ref (Ma 11), .int (Mv 14), .ref (Ma 12), .ref (Ma 13), .ref (Ma 14), .ref (Ma 15), .ref (Ma 16), .long (Mj 0), .ref (Ma 17), .ref (Ma 18), .ref (Ma 19), .ref (Ma 20)])), ((Ma 1), .inl (tc 2, 400, .inl (Mf 1))), ((Ma 2), .inl (tc 0, 2400, .inl sv_32)), ((Ma 3), .inl (tc 0, 7, .inl sv_33))] := hD₀
  replace hS := hS₀
  clear hP₀ hD₀ hS₀
  refine lv_if_ne (tgt := 48) hx hb dX12_isBuyHere_43 (by decide) (fun c_45 => ?_) (fun c_45 => ?_)
  · skip
    have hz_47 : (r_37 : Int32).toInt = 1 := by
      have z_1 : ¬ (r_37 : Int32).toInt = (0 : Int32).toInt := fun z => c_45 (Int32.toInt_inj.mp z)
      have y_0 : (0 : Int32).toInt = 0 := by decide
      omega
    obtain pf_46 := hm_40 hz_47
    have pf_46 : Cd sv_32 sv_33 (Mv 5) x_13 sv_31 ((0 : Nat) + 1) := pf_46
    have ar_pf_46 := Cd.ar pf_46
    refine lv_aload_n hx hb dX12_isBuyHere_48 rfl (lv_at hl 1 rfl) ?_
    refine gf_X12_20 hx hb hts hown hK hP 3 rfl rfl dX12_isBuyHere_49 ?_
    refine lv_iload_n hx hb dX12_isBuyHere_52 rfl (lv_at hl 0 rfl) ?_
    refine lv_iconst (v := 1) hx hb dX12_isBuyHere_53 (by decide) ?_
    refine lv_iadd hx hb dX12_isBuyHere_54 ?_
    refine lv_topi (fun x_48 ex_48 => ?_)
    refine lv_aload_n hx hb dX12_isBuyHere_55 rfl (lv_at hl 1 rfl) ?_
    refine gf_X12_17 hx hb hts hown hK hP 3 rfl rfl dX12_isBuyHere_56 ?_
    refine lv_aload_n hx hb dX12_isBuyHere_59 rfl (lv_at hl 1 rfl) ?_
    refine gf_X12_145 hx hb hts hown hK hP 3 rfl rfl dX12_isBuyHere_60 ?_
    have hi_49 : vp_in (Mv 5) 7 := by
      have z_1 : ¬ (r_37 : Int32).toInt = (0 : Int32).toInt := fun z => c_45 (Int32.toInt_inj.mp z)
      have y_0 : (0 : Int32).toInt = 0 := by decide
      refine vp_in_iff.mpr ⟨?_, ?_⟩ <;> omega
    refine va_iald hx hb hK hP 6 0 rfl rfl hi_49 dX12_isBuyHere_63 ?_
    refine lv_topi (fun x_50 ex_50 => ?_)
    have kx_50 : x_50.toInt = (sv_33 ((Mv 5) : Int32).toNatClampNeg).toInt := congrArg Int32.toInt ex_50
    have pf_51 : WFc sv_32 (Mv 5) x_13 x_50 := Cd.wf pf_46 ex_50
    have ar_pf_51 := WFc.ar pf_51
    have hi_52 : vp_in x_48 288 := by
      have z_1 : ¬ (r_37 : Int32).toInt = (0 : Int32).toInt := fun z => c_45 (Int32.toInt_inj.mp z)
      have y_0 : (0 : Int32).toInt = 0 := by decide
      have y_1 : (1 : Int32).toInt = 1 := by decide
      have y_4 : (4 : Int32).toInt = 4 := by decide
      have y_48 : (48 : Int32).toInt = 48 := by decide
      have t_x_7 : x_7.toInt = (48 : Int32).toInt * ((Mv 5) : Int32).toInt := by rw [ex_7]; exact mul_toInt (by first | omega | (rw [y_48]; omega)) (by first | omega | (rw [y_48]; omega))
      rw [y_48] at t_x_7
      have t_x_10 : x_10.toInt = (4 : Int32).toInt * (x_9 : Int32).toInt := by rw [ex_10]; exact mul_toInt (by first | omega | (rw [y_4]; omega)) (by first | omega | (rw [y_4]; omega))
      rw [y_4] at t_x_10
      have t_x_11 : x_11.toInt = (x_7 : Int32).toInt + (x_10 : Int32).toInt := by rw [ex_11]; exact add_toInt (by omega) (by omega)
      have t_x_48 : x_48.toInt = (x_11 : Int32).toInt + (1 : Int32).toInt := by rw [ex_48]; exact add_toInt (by omega) (by omega)
      refine vp_in_iff.mpr ⟨?_, ?_⟩ <;> omega
    refine st_int hx hb hK hP hD hS 0 0 rfl rfl hi_52 dX12_isBuyHere_64 (fun g_53 H locs eg_53 hP₀ hD₀ hS₀ => ?_)
    replace hP : va_P D classes [((Ma 4), .inl (tc 0, 288, .inl g_53)), ((Ma 5), .inl (tc 0, 6, .inl (Mf 5))), ((Ma 7), .inl (tc 0, 400, .inl (Mf 7))), ((Ma 0), .inr (12, [.ref (Ma 1), .int (Mv 0), .int (Mv 1), .ref (Ma 2), .ref (Ma 3), .ref (Ma 4), .ref (Ma 5), .ref (Ma 6), .int sv_28, .int sv_29, .int sv_30, .int (Mv 5), .int sv_31, .int (Mv 7), .int (Mv 8), .ref (Ma 7), .int (Mv 9), .ref (Ma 8), .int (Mv 10), .ref (Ma 9), .ref (Ma 10), .int (Mv 11), .int (Mv 12), .int (Mv 13), .ref (Ma 11), .int (Mv 14), .ref (Ma 12), .ref (Ma 13), .ref (Ma 14), .ref (Ma 15), .ref (Ma 16), .long (Mj 0), .ref (Ma 17), .ref (Ma 18), .ref (Ma 19), .ref (Ma 20)])), ((Ma 1), .inl (tc 2, 400, .inl (Mf 1))), ((Ma 2), .inl (tc 0, 2400, .inl sv_32)), ((Ma 3), .inl (tc 0, 7, .inl sv_33))] H := hP₀
    replace hD : va_D A [((Ma 4), .inl (tc 0, 288, .inl g_53)), ((Ma 5), .inl (tc 0, 6, .inl (Mf 5))), ((Ma 7), .inl (tc 0, 400, .inl (Mf 7))), ((Ma 0), .inr (12, [.ref (Ma 1), .int (Mv 0), .int (Mv 1), .ref (Ma 2), .ref (Ma 3), .ref (Ma 4), .ref (Ma 5), .ref (Ma 6), .int sv_28, .int sv_29, .int sv_30, .int (Mv 5), .int sv_31, .int (Mv 7), .int (Mv 8), .ref (Ma 7), .int (Mv 9), .ref (Ma 8), .int (Mv 10), .ref (Ma 9), .ref (Ma 10), .int (Mv 11), .int (Mv 12), .int (Mv 13), .ref (Ma 11), .int (Mv 14), .ref (Ma 12), .ref (Ma 13), .ref (Ma 14), .ref (Ma 15), .ref (Ma 16), .long (Mj 0), .ref (Ma 17), .ref (Ma 18), .ref (Ma 19), .ref (Ma 20)])), ((Ma 1), .inl (tc 2, 400, .inl (Mf 1))), ((Ma 2), .inl (tc 0, 2400, .inl sv_32)), ((Ma 3), .inl (tc 0, 7, .inl sv_33))] := hD₀
    replace hS := hS₀
    clear hP₀ hD₀ hS₀
    have hi_54 : (x_48 : Int32).toInt = (A0 : Int) + (1 : Nat) := by
      have z_1 : ¬ (r_37 : Int32).toInt = (0 : Int32).toInt := fun z => c_45 (Int32.toInt_inj.mp z)
      have y_0 : (0 : Int32).toInt = 0 := by decide
      have y_1 : (1 : Int32).toInt = 1 := by decide
      have y_4 : (4 : Int32).toInt = 4 := by decide
      have y_48 : (48 : Int32).toInt = 48 := by decide
      have t_x_7 : x_7.toInt = (48 : Int32).toInt * ((Mv 5) : Int32).toInt := by rw [ex_7]; exact mul_toInt (by first | omega | (rw [y_48]; omega)) (by first | omega | (rw [y_48]; omega))
      rw [y_48] at t_x_7
      have t_x_10 : x_10.toInt = (4 : Int32).toInt * (x_9 : Int32).toInt := by rw [ex_10]; exact mul_toInt (by first | omega | (rw [y_4]; omega)) (by first | omega | (rw [y_4]; omega))
      rw [y_4] at t_x_10
      have t_x_11 : x_11.toInt = (x_7 : Int32).toInt + (x_10 : Int32).toInt := by rw [ex_11]; exact add_toInt (by omega) (by omega)
      have t_x_48 : x_48.toInt = (x_11 : Int32).toInt + (1 : Int32).toInt := by rw [ex_48]; exact add_toInt (by omega) (by omega)
      omega
    have hr_56 : 48 * (Mv 5).toInt + 4 * ((Mf 5) (Mv 5).toInt.toNat).toInt ≤ (((x_48 : Int32).toNatClampNeg : Nat) : Int) := by
      have z_1 : ¬ (r_37 : Int32).toInt = (0 : Int32).toInt := fun z => c_45 (Int32.toInt_inj.mp z)
      have y_0 : (0 : Int32).toInt = 0 := by decide
      have y_1 : (1 : Int32).toInt = 1 := by decide
      have y_4 : (4 : Int32).toInt = 4 := by decide
      have y_48 : (48 : Int32).toInt = 48 := by decide
      have t_x_7 : x_7.toInt = (48 : Int32).toInt * ((Mv 5) : Int32).toInt := by rw [ex_7]; exact mul_toInt (by first | omega | (rw [y_48]; omega)) (by first | omega | (rw [y_48]; omega))
      rw [y_48] at t_x_7
      have t_x_10 : x_10.toInt = (4 : Int32).toInt * (x_9 : Int32).toInt := by rw [ex_10]; exact mul_toInt (by first | omega | (rw [y_4]; omega)) (by first | omega | (rw [y_4]; omega))
      rw [y_4] at t_x_10
      have t_x_11 : x_11.toInt = (x_7 : Int32).toInt + (x_10 : Int32).toInt := by rw [ex_11]; exact add_toInt (by omega) (by omega)
      have t_x_48 : x_48.toInt = (x_11 : Int32).toInt + (1 : Int32).toInt := by rw [ex_48]; exact add_toInt (by omega) (by omega)
      have hcl : (x_48 : Int32).toNatClampNeg = (x_48 : Int32).toInt.toNat := rfl
      omega
    have pf_55 : RulP (Mf 2) g_53 (Mf 5) (Mv 5) (((Mf 3) (Mv 5).toNatClampNeg).toInt) := RulP.cl pf_17 eg_53 h_t.1 hr_56
    have ar_pf_55 := pf_55.2.1
    have hr_58 : ¬ (x_48 : Int32).toInt = (A0 : Int) + (0 : Nat) := by omega
    have pf_57 : ClV g_53 A0 0 x_13 := ClV.keep pf_19 eg_53 hr_58 (by omega)
    have hr_60 : 48 * (Mv 5).toInt + 4 * ((Mf 5) (Mv 5).toInt.toNat).toInt ≤ (((x_48 : Int32).toNatClampNeg : Nat) : Int) := by
      have z_1 : ¬ (r_37 : Int32).toInt = (0 : Int32).toInt := fun z => c_45 (Int32.toInt_inj.mp z)
      have y_0 : (0 : Int32).toInt = 0 := by decide
      have y_1 : (1 : Int32).toInt = 1 := by decide
      have y_4 : (4 : Int32).toInt = 4 := by decide
      have y_48 : (48 : Int32).toInt = 48 := by decide
      have t_x_7 : x_7.toInt = (48 : Int32).toInt * ((Mv 5) : Int32).toInt := by rw [ex_7]; exact mul_toInt (by first | omega | (rw [y_48]; omega)) (by first | omega | (rw [y_48]; omega))
      rw [y_48] at t_x_7
      have t_x_10 : x_10.toInt = (4 : Int32).toInt * (x_9 : Int32).toInt := by rw [ex_10]; exact mul_toInt (by first | omega | (rw [y_4]; omega)) (by first | omega | (rw [y_4]; omega))
      rw [y_4] at t_x_10
      have t_x_11 : x_11.toInt = (x_7 : Int32).toInt + (x_10 : Int32).toInt := by rw [ex_11]; exact add_toInt (by omega) (by omega)
      have t_x_48 : x_48.toInt = (x_11 : Int32).toInt + (1 : Int32).toInt := by rw [ex_48]; exact add_toInt (by omega) (by omega)
      have hcl : (x_48 : Int32).toNatClampNeg = (x_48 : Int32).toInt.toNat := rfl
      omega
    have pf_59 : RulP sv_32 g_53 (Mf 5) (Mv 5) (((Mf 3) (Mv 5).toNatClampNeg).toInt) := RulP.cl pf_43 eg_53 h_t.1 hr_60
    have ar_pf_59 := pf_59.2.1
    have pf_61 : ClV g_53 A0 1 x_50 := ClV.put eg_53 hi_54
    refine lv_aload_n hx hb dX12_isBuyHere_65 rfl (lv_at hl 1 rfl) ?_
    refine gf_X12_20 hx hb hts hown hK hP 3 rfl rfl dX12_isBuyHere_66 ?_
    refine lv_iload_n hx hb dX12_isBuyHere_69 rfl (lv_at hl 0 rfl) ?_
    refine lv_iconst (v := 2) hx hb dX12_isBuyHere_70 (by decide) ?_
    refine lv_iadd hx hb dX12_isBuyHere_71 ?_
    refine lv_topi (fun x_62 ex_62 => ?_)
    refine lv_iconst (v := (-1)) hx hb dX12_isBuyHere_72 (by decide) ?_
    have hi_63 : vp_in x_62 288 := by
      have z_1 : ¬ (r_37 : Int32).toInt = (0 : Int32).toInt := fun z => c_45 (Int32.toInt_inj.mp z)
      have y_0 : (0 : Int32).toInt = 0 := by decide
      have y_2 : (2 : Int32).toInt = 2 := by decide
      have y_4 : (4 : Int32).toInt = 4 := by decide
      have y_48 : (48 : Int32).toInt = 48 := by decide
      have t_x_7 : x_7.toInt = (48 : Int32).toInt * ((Mv 5) : Int32).toInt := by rw [ex_7]; exact mul_toInt (by first | omega | (rw [y_48]; omega)) (by first | omega | (rw [y_48]; omega))
      rw [y_48] at t_x_7
      have t_x_10 : x_10.toInt = (4 : Int32).toInt * (x_9 : Int32).toInt := by rw [ex_10]; exact mul_toInt (by first | omega | (rw [y_4]; omega)) (by first | omega | (rw [y_4]; omega))
      rw [y_4] at t_x_10
      have t_x_11 : x_11.toInt = (x_7 : Int32).toInt + (x_10 : Int32).toInt := by rw [ex_11]; exact add_toInt (by omega) (by omega)
      have t_x_62 : x_62.toInt = (x_11 : Int32).toInt + (2 : Int32).toInt := by rw [ex_62]; exact add_toInt (by omega) (by omega)
      refine vp_in_iff.mpr ⟨?_, ?_⟩ <;> omega
    refine st_int hx hb hK hP hD hS 0 0 rfl rfl hi_63 dX12_isBuyHere_73 (fun g_64 H locs eg_64 hP₀ hD₀ hS₀ => ?_)
    replace hP : va_P D classes [((Ma 4), .inl (tc 0, 288, .inl g_64)), ((Ma 5), .inl (tc 0, 6, .inl (Mf 5))), ((Ma 7), .inl (tc 0, 400, .inl (Mf 7))), ((Ma 0), .inr (12, [.ref (Ma 1), .int (Mv 0), .int (Mv 1), .ref (Ma 2), .ref (Ma 3), .ref (Ma 4), .ref (Ma 5), .ref (Ma 6), .int sv_28, .int sv_29, .int sv_30, .int (Mv 5), .int sv_31, .int (Mv 7), .int (Mv 8), .ref (Ma 7), .int (Mv 9), .ref (Ma 8), .int (Mv 10), .ref (Ma 9), .ref (Ma 10), .int (Mv 11), .int (Mv 12), .int (Mv 13), .ref (Ma 11), .int (Mv 14), .ref (Ma 12), .ref (Ma 13), .ref (Ma 14), .ref (Ma 15), .ref (Ma 16), .long (Mj 0), .ref (Ma 17), .ref (Ma 18), .ref (Ma 19), .ref (Ma 20)])), ((Ma 1), .inl (tc 2, 400, .inl (Mf 1))), ((Ma 2), .inl (tc 0, 2400, .inl sv_32)), ((Ma 3), .inl (tc 0, 7, .inl sv_33))] H := hP₀
    replace hD : va_D A [((Ma 4), .inl (tc 0, 288, .inl g_64)), ((Ma 5), .inl (tc 0, 6, .inl (Mf 5))), ((Ma 7), .inl (tc 0, 400, .inl (Mf 7))), ((Ma 0), .inr (12, [.ref (Ma 1), .int (Mv 0), .int (Mv 1), .ref (Ma 2), .ref (Ma 3), .ref (Ma 4), .ref (Ma 5), .ref (Ma 6), .int sv_28, .int sv_29, .int sv_30, .int (Mv 5), .int sv_31, .int (Mv 7), .int (Mv 8), .ref (Ma 7), .int (Mv 9), .ref (Ma 8), .int (Mv 10), .ref (Ma 9), .ref (Ma 10), .int (Mv 11), .int (Mv 12), .int (Mv 13), .ref (Ma 11), .int (Mv 14), .ref (Ma 12), .ref (Ma 13), .ref (Ma 14), .ref (Ma 15), .ref (Ma 16), .long (Mj 0), .ref (Ma 17), .ref (Ma 18), .ref (Ma 19), .ref (Ma 20)])), ((Ma 1), .inl (tc 2, 400, .inl (Mf 1))), ((Ma 2), .inl (tc 0, 2400, .inl sv_32)), ((Ma 3), .inl (tc 0, 7, .inl sv_33))] := hD₀
    replace hS := hS₀
    clear hP₀ hD₀ hS₀
    have hi_65 : (x_62 : Int32).toInt = (A0 : Int) + (2 : Nat) := by
      have z_1 : ¬ (r_37 : Int32).toInt = (0 : Int32).toInt := fun z => c_45 (Int32.toInt_inj.mp z)
      have y_0 : (0 : Int32).toInt = 0 := by decide
      have y_2 : (2 : Int32).toInt = 2 := by decide
      have y_4 : (4 : Int32).toInt = 4 := by decide
      have y_48 : (48 : Int32).toInt = 48 := by decide
      have t_x_7 : x_7.toInt = (48 : Int32).toInt * ((Mv 5) : Int32).toInt := by rw [ex_7]; exact mul_toInt (by first | omega | (rw [y_48]; omega)) (by first | omega | (rw [y_48]; omega))
      rw [y_48] at t_x_7
      have t_x_10 : x_10.toInt = (4 : Int32).toInt * (x_9 : Int32).toInt := by rw [ex_10]; exact mul_toInt (by first | omega | (rw [y_4]; omega)) (by first | omega | (rw [y_4]; omega))
      rw [y_4] at t_x_10
      have t_x_11 : x_11.toInt = (x_7 : Int32).toInt + (x_10 : Int32).toInt := by rw [ex_11]; exact add_toInt (by omega) (by omega)
      have t_x_62 : x_62.toInt = (x_11 : Int32).toInt + (2 : Int32).toInt := by rw [ex_62]; exact add_toInt (by omega) (by omega)
      omega
    have hr_67 : 48 * (Mv 5).toInt + 4 * ((Mf 5) (Mv 5).toInt.toNat).toInt ≤ (((x_62 : Int32).toNatClampNeg : Nat) : Int) := by
      have z_1 : ¬ (r_37 : Int32).toInt = (0 : Int32).toInt := fun z => c_45 (Int32.toInt_inj.mp z)
      have y_0 : (0 : Int32).toInt = 0 := by decide
      have y_2 : (2 : Int32).toInt = 2 := by decide
      have y_4 : (4 : Int32).toInt = 4 := by decide
      have y_48 : (48 : Int32).toInt = 48 := by decide
      have t_x_7 : x_7.toInt = (48 : Int32).toInt * ((Mv 5) : Int32).toInt := by rw [ex_7]; exact mul_toInt (by first | omega | (rw [y_48]; omega)) (by first | omega | (rw [y_48]; omega))
      rw [y_48] at t_x_7
      have t_x_10 : x_10.toInt = (4 : Int32).toInt * (x_9 : Int32).toInt := by rw [ex_10]; exact mul_toInt (by first | omega | (rw [y_4]; omega)) (by first | omega | (rw [y_4]; omega))
      rw [y_4] at t_x_10
      have t_x_11 : x_11.toInt = (x_7 : Int32).toInt + (x_10 : Int32).toInt := by rw [ex_11]; exact add_toInt (by omega) (by omega)
      have t_x_62 : x_62.toInt = (x_11 : Int32).toInt + (2 : Int32).toInt := by rw [ex_62]; exact add_toInt (by omega) (by omega)
      have hcl : (x_62 : Int32).toNatClampNeg = (x_62 : Int32).toInt.toNat := rfl
      omega
    have pf_66 : RulP (Mf 2) g_64 (Mf 5) (Mv 5) (((Mf 3) (Mv 5).toNatClampNeg).toInt) := RulP.cl pf_55 eg_64 h_t.1 hr_67
    have ar_pf_66 := pf_66.2.1
    have hr_69 : ¬ (x_62 : Int32).toInt = (A0 : Int) + (0 : Nat) := by omega
    have pf_68 : ClV g_64 A0 0 x_13 := ClV.keep pf_57 eg_64 hr_69 (by omega)
    have hr_71 : 48 * (Mv 5).toInt + 4 * ((Mf 5) (Mv 5).toInt.toNat).toInt ≤ (((x_62 : Int32).toNatClampNeg : Nat) : Int) := by
      have z_1 : ¬ (r_37 : Int32).toInt = (0 : Int32).toInt := fun z => c_45 (Int32.toInt_inj.mp z)
      have y_0 : (0 : Int32).toInt = 0 := by decide
      have y_2 : (2 : Int32).toInt = 2 := by decide
      have y_4 : (4 : Int32).toInt = 4 := by decide
      have y_48 : (48 : Int32).toInt = 48 := by decide
      have t_x_7 : x_7.toInt = (48 : Int32).toInt * ((Mv 5) : Int32).toInt := by rw [ex_7]; exact mul_toInt (by first | omega | (rw [y_48]; omega)) (by first | omega | (rw [y_48]; omega))
      rw [y_48] at t_x_7
      have t_x_10 : x_10.toInt = (4 : Int32).toInt * (x_9 : Int32).toInt := by rw [ex_10]; exact mul_toInt (by first | omega | (rw [y_4]; omega)) (by first | omega | (rw [y_4]; omega))
      rw [y_4] at t_x_10
      have t_x_11 : x_11.toInt = (x_7 : Int32).toInt + (x_10 : Int32).toInt := by rw [ex_11]; exact add_toInt (by omega) (by omega)
      have t_x_62 : x_62.toInt = (x_11 : Int32).toInt + (2 : Int32).toInt := by rw [ex_62]; exact add_toInt (by omega) (by omega)
      have hcl : (x_62 : Int32).toNatClampNeg = (x_62 : Int32).toInt.toNat := rfl
      omega
    have pf_70 : RulP sv_32 g_64 (Mf 5) (Mv 5) (((Mf 3) (Mv 5).toNatClampNeg).toInt) := RulP.cl pf_59 eg_64 h_t.1 hr_71
    have ar_pf_70 := pf_70.2.1
    have hr_73 : ¬ (x_62 : Int32).toInt = (A0 : Int) + (1 : Nat) := by omega
    have pf_72 : ClV g_64 A0 1 x_50 := ClV.keep pf_61 eg_64 hr_73 (by omega)
    have pf_74 : ClV g_64 A0 2 (-1) := ClV.put eg_64 hi_65
    refine lv_aload_n hx hb dX12_isBuyHere_74 rfl (lv_at hl 1 rfl) ?_
    refine lv_ldc2 hx hb hown (hts _ k_1313) dX12_isBuyHere_75 ?_
    have ha_75 : 0 ≤ (sv_28 : Int32).toInt ∧ (sv_28 : Int32).toInt ≤ ((Mv 0) : Int32).toInt ∧ ((Mv 0) : Int32).toInt ≤ 400 := by
      have z_1 : ¬ (r_37 : Int32).toInt = (0 : Int32).toInt := fun z => c_45 (Int32.toInt_inj.mp z)
      have y_0 : (0 : Int32).toInt = 0 := by decide
      refine ⟨?_, ?_, ?_⟩ <;> omega
    refine cV (a := (Ma 0)) (As := [.long 26982]) (rest := []) (wr := [((Ma 4), .inl (tc 0, 288, .inl g_64)), ((Ma 5), .inl (tc 0, 6, .inl (Mf 5))), ((Ma 7), .inl (tc 0, 400, .inl (Mf 7))), ((Ma 2), .inl (tc 0, 2400, .inl sv_32)), ((Ma 3), .inl (tc 0, 7, .inl sv_33))]) ⟨hx, hb, hml, hown, hts⟩ hK hX hA (cu_X12_takesWord l D tc sk (Ma 0) (Ma 1) (Ma 2) (Ma 3) (Ma 4) (Ma 5) (Ma 6) (Ma 7) (Ma 8) (Ma 9) (Ma 10) (Ma 11) (Ma 12) (Ma 13) (Ma 14) (Ma 15) (Ma 16) (Ma 17) (Ma 18) (Ma 19) (Ma 20) (Mv 0) (Mv 1) sv_28 sv_29 sv_30 (Mv 5) sv_31 (Mv 7) (Mv 8) (Mv 9) (Mv 10) (Mv 11) (Mv 12) (Mv 13) (Mv 14) (Mf 1) (Mj 0) 26982 ha_75) k_1317 k_1314 k_1316 k_48 k_106 pl_X12_takesWord ⟨Nat.le_of_ble_eq_true rfl, Nat.le_of_ble_eq_true rfl⟩ rfl rfl (va_recv hK hP (ci := 12) (q0 := 3) rfl rfl) hP hD hS [3, 4] [0, 1, 2, 5, 6] rfl rfl rfl rfl rfl (by decide) rfl hl.1 rfl (Nat.le_of_ble_eq_true rfl) dX12_isBuyHere_78 ⟨Nat.le_of_ble_eq_true rfl, Nat.le_of_ble_eq_true rfl⟩ (fun v_76 u_77 H locs hv_78 hP₀ hD₀ hS₀ => ?_)
    obtain ⟨sv_79, rfl⟩ : ∃ z, z = u_77 := ⟨_, rfl⟩
    obtain ⟨r_81, rfl, he_82, pf_80⟩ := hv_78
    have he_82 : (r_81.toInt = 0 ∨ r_81.toInt = 1) := he_82
    have pf_80 : (sv_28 : Int32).toInt ≤ (sv_79 : Int32).toInt ∧ (sv_79 : Int32).toInt ≤ ((Mv 0) : Int32).toInt := pf_80
    refine W.eq (g2 := F0 m 81 ls [.int r_81]) rfl ?_
    replace hP : va_P D classes [((Ma 4), .inl (tc 0, 288, .inl g_64)), ((Ma 5), .inl (tc 0, 6, .inl (Mf 5))), ((Ma 7), .inl (tc 0, 400, .inl (Mf 7))), ((Ma 2), .inl (tc 0, 2400, .inl sv_32)), ((Ma 3), .inl (tc 0, 7, .inl sv_33)), ((Ma 0), .inr (12, [.ref (Ma 1), .int (Mv 0), .int (Mv 1), .ref (Ma 2), .ref (Ma 3), .ref (Ma 4), .ref (Ma 5), .ref (Ma 6), .int sv_79, .int sv_29, .int sv_30, .int (Mv 5), .int sv_31, .int (Mv 7), .int (Mv 8), .ref (Ma 7), .int (Mv 9), .ref (Ma 8), .int (Mv 10), .ref (Ma 9), .ref (Ma 10), .int (Mv 11), .int (Mv 12), .int (Mv 13), .ref (Ma 11), .int (Mv 14), .ref (Ma 12), .ref (Ma 13), .ref (Ma 14), .ref (Ma 15), .ref (Ma 16), .long (Mj 0), .ref (Ma 17), .ref (Ma 18), .ref (Ma 19), .ref (Ma 20)])), ((Ma 1), .inl (tc 2, 400, .inl (Mf 1)))] H := hP₀
    replace hD : va_D A [((Ma 4), .inl (tc 0, 288, .inl g_64)), ((Ma 5), .inl (tc 0, 6, .inl (Mf 5))), ((Ma 7), .inl (tc 0, 400, .inl (Mf 7))), ((Ma 2), .inl (tc 0, 2400, .inl sv_32)), ((Ma 3), .inl (tc 0, 7, .inl sv_33)), ((Ma 0), .inr (12, [.ref (Ma 1), .int (Mv 0), .int (Mv 1), .ref (Ma 2), .ref (Ma 3), .ref (Ma 4), .ref (Ma 5), .ref (Ma 6), .int sv_79, .int sv_29, .int sv_30, .int (Mv 5), .int sv_31, .int (Mv 7), .int (Mv 8), .ref (Ma 7), .int (Mv 9), .ref (Ma 8), .int (Mv 10), .ref (Ma 9), .ref (Ma 10), .int (Mv 11), .int (Mv 12), .int (Mv 13), .ref (Ma 11), .int (Mv 14), .ref (Ma 12), .ref (Ma 13), .ref (Ma 14), .ref (Ma 15), .ref (Ma 16), .long (Mj 0), .ref (Ma 17), .ref (Ma 18), .ref (Ma 19), .ref (Ma 20)])), ((Ma 1), .inl (tc 2, 400, .inl (Mf 1)))] := hD₀
    replace hS := hS₀
    clear hP₀ hD₀ hS₀
    refine lv_if_eq (tgt := 110) hx hb dX12_isBuyHere_81 (by decide) (fun c_84 => ?_) (fun c_84 => ?_)
    · skip
      refine lv_aload_n hx hb dX12_isBuyHere_110 rfl (lv_at hl 1 rfl) ?_
      refine gf_X12_20 hx hb hts hown hK hP 5 rfl rfl dX12_isBuyHere_111 ?_
      refine lv_iload_n hx hb dX12_isBuyHere_114 rfl (lv_at hl 0 rfl) ?_
      refine lv_iconst (v := 3) hx hb dX12_isBuyHere_115 (by decide) ?_
      refine lv_iadd hx hb dX12_isBuyHere_116 ?_
      refine lv_topi (fun x_85 ex_85 => ?_)
      refine lv_aload_n hx hb dX12_isBuyHere_117 rfl (lv_at hl 1 rfl) ?_
      refine gf_X12_17 hx hb hts hown hK hP 5 rfl rfl dX12_isBuyHere_118 ?_
      refine lv_aload_n hx hb dX12_isBuyHere_121 rfl (lv_at hl 1 rfl) ?_
      refine gf_X12_145 hx hb hts hown hK hP 5 rfl rfl dX12_isBuyHere_122 ?_
      have hi_86 : vp_in (Mv 5) 7 := by
        have z_1 : ¬ (r_37 : Int32).toInt = (0 : Int32).toInt := fun z => c_45 (Int32.toInt_inj.mp z)
        have z_2 := congrArg Int32.toInt c_84
        have y_0 : (0 : Int32).toInt = 0 := by decide
        refine vp_in_iff.mpr ⟨?_, ?_⟩ <;> omega
      refine va_iald hx hb hK hP 4 0 rfl rfl hi_86 dX12_isBuyHere_125 ?_
      refine lv_topi (fun x_87 ex_87 => ?_)
      have kx_87 : x_87.toInt = (sv_33 ((Mv 5) : Int32).toNatClampNeg).toInt := congrArg Int32.toInt ex_87
      have pf_88 : WFc sv_32 (Mv 5) x_13 x_87 := Cd.wf pf_46 ex_87
      have ar_pf_88 := WFc.ar pf_88
      have hi_89 : vp_in x_85 288 := by
        have z_1 : ¬ (r_37 : Int32).toInt = (0 : Int32).toInt := fun z => c_45 (Int32.toInt_inj.mp z)
        have z_2 := congrArg Int32.toInt c_84
        have y_0 : (0 : Int32).toInt = 0 := by decide
        have y_3 : (3 : Int32).toInt = 3 := by decide
        have y_4 : (4 : Int32).toInt = 4 := by decide
        have y_48 : (48 : Int32).toInt = 48 := by decide
        have t_x_7 : x_7.toInt = (48 : Int32).toInt * ((Mv 5) : Int32).toInt := by rw [ex_7]; exact mul_toInt (by first | omega | (rw [y_48]; omega)) (by first | omega | (rw [y_48]; omega))
        rw [y_48] at t_x_7
        have t_x_10 : x_10.toInt = (4 : Int32).toInt * (x_9 : Int32).toInt := by rw [ex_10]; exact mul_toInt (by first | omega | (rw [y_4]; omega)) (by first | omega | (rw [y_4]; omega))
        rw [y_4] at t_x_10
        have t_x_11 : x_11.toInt = (x_7 : Int32).toInt + (x_10 : Int32).toInt := by rw [ex_11]; exact add_toInt (by omega) (by omega)
        have t_x_85 : x_85.toInt = (x_11 : Int32).toInt + (3 : Int32).toInt := by rw [ex_85]; exact add_toInt (by omega) (by omega)
        refine vp_in_iff.mpr ⟨?_, ?_⟩ <;> omega
      refine st_int hx hb hK hP hD hS 0 0 rfl rfl hi_89 dX12_isBuyHere_126 (fun g_90 H locs eg_90 hP₀ hD₀ hS₀ => ?_)
      replace hP : va_P D classes [((Ma 4), .inl (tc 0, 288, .inl g_90)), ((Ma 5), .inl (tc 0, 6, .inl (Mf 5))), ((Ma 7), .inl (tc 0, 400, .inl (Mf 7))), ((Ma 2), .inl (tc 0, 2400, .inl sv_32)), ((Ma 3), .inl (tc 0, 7, .inl sv_33)), ((Ma 0), .inr (12, [.ref (Ma 1), .int (Mv 0), .int (Mv 1), .ref (Ma 2), .ref (Ma 3), .ref (Ma 4), .ref (Ma 5), .ref (Ma 6), .int sv_79, .int sv_29, .int sv_30, .int (Mv 5), .int sv_31, .int (Mv 7), .int (Mv 8), .ref (Ma 7), .int (Mv 9), .ref (Ma 8), .int (Mv 10), .ref (Ma 9), .ref (Ma 10), .int (Mv 11), .int (Mv 12), .int (Mv 13), .ref (Ma 11), .int (Mv 14), .ref (Ma 12), .ref (Ma 13), .ref (Ma 14), .ref (Ma 15), .ref (Ma 16), .long (Mj 0), .ref (Ma 17), .ref (Ma 18), .ref (Ma 19), .ref (Ma 20)])), ((Ma 1), .inl (tc 2, 400, .inl (Mf 1)))] H := hP₀
      replace hD : va_D A [((Ma 4), .inl (tc 0, 288, .inl g_90)), ((Ma 5), .inl (tc 0, 6, .inl (Mf 5))), ((Ma 7), .inl (tc 0, 400, .inl (Mf 7))), ((Ma 2), .inl (tc 0, 2400, .inl sv_32)), ((Ma 3), .inl (tc 0, 7, .inl sv_33)), ((Ma 0), .inr (12, [.ref (Ma 1), .int (Mv 0), .int (Mv 1), .ref (Ma 2), .ref (Ma 3), .ref (Ma 4), .ref (Ma 5), .ref (Ma 6), .int sv_79, .int sv_29, .int sv_30, .int (Mv 5), .int sv_31, .int (Mv 7), .int (Mv 8), .ref (Ma 7), .int (Mv 9), .ref (Ma 8), .int (Mv 10), .ref (Ma 9), .ref (Ma 10), .int (Mv 11), .int (Mv 12), .int (Mv 13), .ref (Ma 11), .int (Mv 14), .ref (Ma 12), .ref (Ma 13), .ref (Ma 14), .ref (Ma 15), .ref (Ma 16), .long (Mj 0), .ref (Ma 17), .ref (Ma 18), .ref (Ma 19), .ref (Ma 20)])), ((Ma 1), .inl (tc 2, 400, .inl (Mf 1)))] := hD₀
      replace hS := hS₀
      clear hP₀ hD₀ hS₀
      have hi_91 : (x_85 : Int32).toInt = (A0 : Int) + (3 : Nat) := by
        have z_1 : ¬ (r_37 : Int32).toInt = (0 : Int32).toInt := fun z => c_45 (Int32.toInt_inj.mp z)
        have z_2 := congrArg Int32.toInt c_84
        have y_0 : (0 : Int32).toInt = 0 := by decide
        have y_3 : (3 : Int32).toInt = 3 := by decide
        have y_4 : (4 : Int32).toInt = 4 := by decide
        have y_48 : (48 : Int32).toInt = 48 := by decide
        have t_x_7 : x_7.toInt = (48 : Int32).toInt * ((Mv 5) : Int32).toInt := by rw [ex_7]; exact mul_toInt (by first | omega | (rw [y_48]; omega)) (by first | omega | (rw [y_48]; omega))
        rw [y_48] at t_x_7
        have t_x_10 : x_10.toInt = (4 : Int32).toInt * (x_9 : Int32).toInt := by rw [ex_10]; exact mul_toInt (by first | omega | (rw [y_4]; omega)) (by first | omega | (rw [y_4]; omega))
        rw [y_4] at t_x_10
        have t_x_11 : x_11.toInt = (x_7 : Int32).toInt + (x_10 : Int32).toInt := by rw [ex_11]; exact add_toInt (by omega) (by omega)
        have t_x_85 : x_85.toInt = (x_11 : Int32).toInt + (3 : Int32).toInt := by rw [ex_85]; exact add_toInt (by omega) (by omega)
        omega
      have hr_93 : 48 * (Mv 5).toInt + 4 * ((Mf 5) (Mv 5).toInt.toNat).toInt ≤ (((x_85 : Int32).toNatClampNeg : Nat) : Int) := by
        have z_1 : ¬ (r_37 : Int32).toInt = (0 : Int32).toInt := fun z => c_45 (Int32.toInt_inj.mp z)
        have z_2 := congrArg Int32.toInt c_84
        have y_0 : (0 : Int32).toInt = 0 := by decide
        have y_3 : (3 : Int32).toInt = 3 := by decide
        have y_4 : (4 : Int32).toInt = 4 := by decide
        have y_48 : (48 : Int32).toInt = 48 := by decide
        have t_x_7 : x_7.toInt = (48 : Int32).toInt * ((Mv 5) : Int32).toInt := by rw [ex_7]; exact mul_toInt (by first | omega | (rw [y_48]; omega)) (by first | omega | (rw [y_48]; omega))
        rw [y_48] at t_x_7
        have t_x_10 : x_10.toInt = (4 : Int32).toInt * (x_9 : Int32).toInt := by rw [ex_10]; exact mul_toInt (by first | omega | (rw [y_4]; omega)) (by first | omega | (rw [y_4]; omega))
        rw [y_4] at t_x_10
        have t_x_11 : x_11.toInt = (x_7 : Int32).toInt + (x_10 : Int32).toInt := by rw [ex_11]; exact add_toInt (by omega) (by omega)
        have t_x_85 : x_85.toInt = (x_11 : Int32).toInt + (3 : Int32).toInt := by rw [ex_85]; exact add_toInt (by omega) (by omega)
        have hcl : (x_85 : Int32).toNatClampNeg = (x_85 : Int32).toInt.toNat := rfl
        omega
      have pf_92 : RulP (Mf 2) g_90 (Mf 5) (Mv 5) (((Mf 3) (Mv 5).toNatClampNeg).toInt) := RulP.cl pf_66 eg_90 h_t.1 hr_93
      have ar_pf_92 := pf_92.2.1
      have hr_95 : ¬ (x_85 : Int32).toInt = (A0 : Int) + (0 : Nat) := by omega
      have pf_94 : ClV g_90 A0 0 x_13 := ClV.keep pf_68 eg_90 hr_95 (by omega)
      have hr_97 : 48 * (Mv 5).toInt + 4 * ((Mf 5) (Mv 5).toInt.toNat).toInt ≤ (((x_85 : Int32).toNatClampNeg : Nat) : Int) := by
        have z_1 : ¬ (r_37 : Int32).toInt = (0 : Int32).toInt := fun z => c_45 (Int32.toInt_inj.mp z)
        have z_2 := congrArg Int32.toInt c_84
        have y_0 : (0 : Int32).toInt = 0 := by decide
        have y_3 : (3 : Int32).toInt = 3 := by decide
        have y_4 : (4 : Int32).toInt = 4 := by decide
        have y_48 : (48 : Int32).toInt = 48 := by decide
        have t_x_7 : x_7.toInt = (48 : Int32).toInt * ((Mv 5) : Int32).toInt := by rw [ex_7]; exact mul_toInt (by first | omega | (rw [y_48]; omega)) (by first | omega | (rw [y_48]; omega))
        rw [y_48] at t_x_7
        have t_x_10 : x_10.toInt = (4 : Int32).toInt * (x_9 : Int32).toInt := by rw [ex_10]; exact mul_toInt (by first | omega | (rw [y_4]; omega)) (by first | omega | (rw [y_4]; omega))
        rw [y_4] at t_x_10
        have t_x_11 : x_11.toInt = (x_7 : Int32).toInt + (x_10 : Int32).toInt := by rw [ex_11]; exact add_toInt (by omega) (by omega)
        have t_x_85 : x_85.toInt = (x_11 : Int32).toInt + (3 : Int32).toInt := by rw [ex_85]; exact add_toInt (by omega) (by omega)
        have hcl : (x_85 : Int32).toNatClampNeg = (x_85 : Int32).toInt.toNat := rfl
        omega
      have pf_96 : RulP sv_32 g_90 (Mf 5) (Mv 5) (((Mf 3) (Mv 5).toNatClampNeg).toInt) := RulP.cl pf_70 eg_90 h_t.1 hr_97
      have ar_pf_96 := pf_96.2.1
      have hr_99 : ¬ (x_85 : Int32).toInt = (A0 : Int) + (1 : Nat) := by omega
      have pf_98 : ClV g_90 A0 1 x_50 := ClV.keep pf_72 eg_90 hr_99 (by omega)
      have hr_101 : ¬ (x_85 : Int32).toInt = (A0 : Int) + (2 : Nat) := by omega
      have pf_100 : ClV g_90 A0 2 (-1) := ClV.keep pf_74 eg_90 hr_101 (by omega)
      have pf_102 : ClV g_90 A0 3 x_87 := ClV.put eg_90 hi_91
      refine lv_aload_n hx hb dX12_isBuyHere_127 rfl (lv_at hl 1 rfl) ?_
      refine gf_X12_23 hx hb hts hown hK hP 5 rfl rfl dX12_isBuyHere_128 ?_
      refine lv_aload_n hx hb dX12_isBuyHere_131 rfl (lv_at hl 1 rfl) ?_
      refine gf_X12_145 hx hb hts hown hK hP 5 rfl rfl dX12_isBuyHere_132 ?_
      refine lv_dup2_11 hx hb dX12_isBuyHere_135 rfl rfl ?_
      have hi_103 : vp_in (Mv 5) 6 := by
        have z_1 : ¬ (r_37 : Int32).toInt = (0 : Int32).toInt := fun z => c_45 (Int32.toInt_inj.mp z)
        have z_2 := congrArg Int32.toInt c_84
        have y_0 : (0 : Int32).toInt = 0 := by decide
        refine vp_in_iff.mpr ⟨?_, ?_⟩ <;> omega
      refine va_iald hx hb hK hP 1 0 rfl rfl hi_103 dX12_isBuyHere_136 ?_
      refine lv_topi (fun x_104 ex_104 => ?_)
      have kx_104 : x_104.toInt = ((Mf 5) ((Mv 5) : Int32).toInt.toNat).toInt := congrArg Int32.toInt ex_104
      refine lv_iconst (v := 1) hx hb dX12_isBuyHere_137 (by decide) ?_
      refine lv_iadd hx hb dX12_isBuyHere_138 ?_
      refine lv_topi (fun x_105 ex_105 => ?_)
      have hi_106 : vp_in (Mv 5) 6 := by
        have z_1 : ¬ (r_37 : Int32).toInt = (0 : Int32).toInt := fun z => c_45 (Int32.toInt_inj.mp z)
        have z_2 := congrArg Int32.toInt c_84
        have y_0 : (0 : Int32).toInt = 0 := by decide
        refine vp_in_iff.mpr ⟨?_, ?_⟩ <;> omega
      refine st_int hx hb hK hP hD hS 1 0 rfl rfl hi_106 dX12_isBuyHere_139 (fun g_107 H locs eg_107 hP₀ hD₀ hS₀ => ?_)
      replace hP : va_P D classes [((Ma 4), .inl (tc 0, 288, .inl g_90)), ((Ma 5), .inl (tc 0, 6, .inl g_107)), ((Ma 7), .inl (tc 0, 400, .inl (Mf 7))), ((Ma 2), .inl (tc 0, 2400, .inl sv_32)), ((Ma 3), .inl (tc 0, 7, .inl sv_33)), ((Ma 0), .inr (12, [.ref (Ma 1), .int (Mv 0), .int (Mv 1), .ref (Ma 2), .ref (Ma 3), .ref (Ma 4), .ref (Ma 5), .ref (Ma 6), .int sv_79, .int sv_29, .int sv_30, .int (Mv 5), .int sv_31, .int (Mv 7), .int (Mv 8), .ref (Ma 7), .int (Mv 9), .ref (Ma 8), .int (Mv 10), .ref (Ma 9), .ref (Ma 10), .int (Mv 11), .int (Mv 12), .int (Mv 13), .ref (Ma 11), .int (Mv 14), .ref (Ma 12), .ref (Ma 13), .ref (Ma 14), .ref (Ma 15), .ref (Ma 16), .long (Mj 0), .ref (Ma 17), .ref (Ma 18), .ref (Ma 19), .ref (Ma 20)])), ((Ma 1), .inl (tc 2, 400, .inl (Mf 1)))] H := hP₀
      replace hD : va_D A [((Ma 4), .inl (tc 0, 288, .inl g_90)), ((Ma 5), .inl (tc 0, 6, .inl g_107)), ((Ma 7), .inl (tc 0, 400, .inl (Mf 7))), ((Ma 2), .inl (tc 0, 2400, .inl sv_32)), ((Ma 3), .inl (tc 0, 7, .inl sv_33)), ((Ma 0), .inr (12, [.ref (Ma 1), .int (Mv 0), .int (Mv 1), .ref (Ma 2), .ref (Ma 3), .ref (Ma 4), .ref (Ma 5), .ref (Ma 6), .int sv_79, .int sv_29, .int sv_30, .int (Mv 5), .int sv_31, .int (Mv 7), .int (Mv 8), .ref (Ma 7), .int (Mv 9), .ref (Ma 8), .int (Mv 10), .ref (Ma 9), .ref (Ma 10), .int (Mv 11), .int (Mv 12), .int (Mv 13), .ref (Ma 11), .int (Mv 14), .ref (Ma 12), .ref (Ma 13), .ref (Ma 14), .ref (Ma 15), .ref (Ma 16), .long (Mj 0), .ref (Ma 17), .ref (Ma 18), .ref (Ma 19), .ref (Ma 20)])), ((Ma 1), .inl (tc 2, 400, .inl (Mf 1)))] := hD₀
      replace hS := hS₀
      clear hP₀ hD₀ hS₀
      have hr_108 : (((Mf 3) (Mv 5).toNatClampNeg).toInt) ≤ ((sv_33 (Mv 5).toNatClampNeg).toInt) := by
        have z_1 : ¬ (r_37 : Int32).toInt = (0 : Int32).toInt := fun z => c_45 (Int32.toInt_inj.mp z)
        have z_2 := congrArg Int32.toInt c_84
        have y_0 : (0 : Int32).toInt = 0 := by decide
        omega
      have hy_109 : (x_105 : Int32).toInt = ((Mf 5) (Mv 5).toInt.toNat).toInt + 1 := by
        have z_1 : ¬ (r_37 : Int32).toInt = (0 : Int32).toInt := fun z => c_45 (Int32.toInt_inj.mp z)
        have z_2 := congrArg Int32.toInt c_84
        have y_0 : (0 : Int32).toInt = 0 := by decide
        have y_1 : (1 : Int32).toInt = 1 := by decide
        have t_x_105 : x_105.toInt = (x_104 : Int32).toInt + (1 : Int32).toInt := by rw [ex_105]; exact add_toInt (by omega) (by omega)
        omega
      have hw_110 : WFc sv_32 (Mv 5) (g_90 A0) (g_90 (A0 + 1)) := by
        have z0 : g_90 A0 = x_13 := pf_94
        have z1 : g_90 (A0 + 1) = x_50 := pf_98
        rw [z0, z1]
        exact pf_51
      have hb_111 : (g_90 (A0 + 1)).toInt ≤ ((sv_33 (Mv 5).toNatClampNeg).toInt) := by
        have z1 : g_90 (A0 + 1) = x_50 := pf_98
        rw [z1]
        have z_1 : ¬ (r_37 : Int32).toInt = (0 : Int32).toInt := fun z => c_45 (Int32.toInt_inj.mp z)
        have z_2 := congrArg Int32.toInt c_84
        have y_0 : (0 : Int32).toInt = 0 := by decide
        omega
      have hw_112 : 0 ≤ (g_90 (A0 + 2)).toInt → WFc sv_32 (Mv 5) (g_90 (A0 + 2)) (g_90 (A0 + 3)) ∧ (g_90 (A0 + 3)).toInt ≤ ((sv_33 (Mv 5).toNatClampNeg).toInt) := by
        have z2 : g_90 (A0 + 2) = (-1) := pf_100
        have z3 : g_90 (A0 + 3) = x_87 := pf_102
        rw [z2, z3]
        intro hz
        exact absurd hz (by decide)
      have pf_113 : RulP sv_32 g_90 g_107 (Mv 5) ((sv_33 (Mv 5).toNatClampNeg).toInt) := by
        subst hA0
        exact RulP.snoc (RulP.mono pf_96 hr_108) h_t.1 eg_107 hy_109 hw_110 hb_111 hw_112
      have ar_pf_113 := pf_113.2.1
      have kc_g_107 : (g_107 (Mv 5).toInt.toNat).toInt = (x_105 : Int32).toInt := upd_toInt_at eg_107
      refine lv_iconst (v := 1) hx hb dX12_isBuyHere_140 (by decide) ?_
      have ha_114 : ((Mv 2) : Int32).toInt ≤ (sv_79 : Int32).toInt ∧ (sv_79 : Int32).toInt ≤ ((Mv 0) : Int32).toInt := by
        have z_1 : ¬ (r_37 : Int32).toInt = (0 : Int32).toInt := fun z => c_45 (Int32.toInt_inj.mp z)
        have z_2 := congrArg Int32.toInt c_84
        have y_0 : (0 : Int32).toInt = 0 := by decide
        refine ⟨?_, ?_⟩ <;> omega
      have hp_115 : (((1 : Int32).toInt = 0 ∧ ¬ (sv_29 : Int32).toInt = 0) ∨ ((1 : Int32).toInt = 1 ∧ 0 ≤ (sv_33 (Mv 5).toNatClampNeg).toInt ∧ (sv_33 (Mv 5).toNatClampNeg).toInt ≤ (sv_79 : Int32).toInt ∧ (g_107 (Mv 5).toInt.toNat).toInt = ((Mf 5) (Mv 5).toInt.toNat).toInt + 1)) := by
        have z_1 : ¬ (r_37 : Int32).toInt = (0 : Int32).toInt := fun z => c_45 (Int32.toInt_inj.mp z)
        have z_2 := congrArg Int32.toInt c_84
        have y_0 : (0 : Int32).toInt = 0 := by decide
        have y_1 : (1 : Int32).toInt = 1 := by decide
        have yr : (1 : Int32).toInt = 1 := by decide
        omega
      have hm_116 : (1 : Int32).toInt = 1 → (RulP sv_32 g_90 g_107 (Mv 5) ((sv_33 (Mv 5).toNatClampNeg).toInt)) := by
        intro h1r
        exact pf_113
      exact retI (v := 1) hx hb hr hlk (rfl) hP hD hS (sv_79, sv_29, sv_30, sv_31, (Mv 7), (Mv 9), sv_32, sv_33, g_90, g_107, (Mf 7)) ⟨_, rfl, hp_115, ha_114, pf_35, pf_113.1, hm_116⟩ [5, 6, 3, 4, 0, 1, 2] rfl rfl dX12_isBuyHere_141 (Nat.le_of_ble_eq_true rfl) (Nat.le_of_ble_eq_true rfl) rfl
    · skip
      refine lv_aload_n hx hb dX12_isBuyHere_84 rfl (lv_at hl 1 rfl) ?_
      refine gf_X12_20 hx hb hts hown hK hP 5 rfl rfl dX12_isBuyHere_85 ?_
      refine lv_iload_n hx hb dX12_isBuyHere_88 rfl (lv_at hl 0 rfl) ?_
      refine lv_iconst (v := 2) hx hb dX12_isBuyHere_89 (by decide) ?_
      refine lv_iadd hx hb dX12_isBuyHere_90 ?_
      refine lv_topi (fun x_117 ex_117 => ?_)
      refine lv_aload_n hx hb dX12_isBuyHere_91 rfl (lv_at hl 1 rfl) ?_
      refine gf_X12_17 hx hb hts hown hK hP 5 rfl rfl dX12_isBuyHere_92 ?_
      refine lv_aload_n hx hb dX12_isBuyHere_95 rfl (lv_at hl 1 rfl) ?_
      refine gf_X12_145 hx hb hts hown hK hP 5 rfl rfl dX12_isBuyHere_96 ?_
      have hi_118 : vp_in (Mv 5) 7 := by
        have z_1 : ¬ (r_37 : Int32).toInt = (0 : Int32).toInt := fun z => c_45 (Int32.toInt_inj.mp z)
        have z_2 : ¬ (r_81 : Int32).toInt = (0 : Int32).toInt := fun z => c_84 (Int32.toInt_inj.mp z)
        have y_0 : (0 : Int32).toInt = 0 := by decide
        refine vp_in_iff.mpr ⟨?_, ?_⟩ <;> omega
      refine va_iald hx hb hK hP 4 0 rfl rfl hi_118 dX12_isBuyHere_99 ?_
      refine lv_topi (fun x_119 ex_119 => ?_)
      have kx_119 : x_119.toInt = (sv_33 ((Mv 5) : Int32).toNatClampNeg).toInt := congrArg Int32.toInt ex_119
      have pf_120 : WFc sv_32 (Mv 5) x_13 x_119 := Cd.wf pf_46 ex_119
      have ar_pf_120 := WFc.ar pf_120
      have hi_121 : vp_in x_117 288 := by
        have z_1 : ¬ (r_37 : Int32).toInt = (0 : Int32).toInt := fun z => c_45 (Int32.toInt_inj.mp z)
        have z_2 : ¬ (r_81 : Int32).toInt = (0 : Int32).toInt := fun z => c_84 (Int32.toInt_inj.mp z)
        have y_0 : (0 : Int32).toInt = 0 := by decide
        have y_2 : (2 : Int32).toInt = 2 := by decide
        have y_4 : (4 : Int32).toInt = 4 := by decide
        have y_48 : (48 : Int32).toInt = 48 := by decide
        have t_x_7 : x_7.toInt = (48 : Int32).toInt * ((Mv 5) : Int32).toInt := by rw [ex_7]; exact mul_toInt (by first | omega | (rw [y_48]; omega)) (by first | omega | (rw [y_48]; omega))
        rw [y_48] at t_x_7
        have t_x_10 : x_10.toInt = (4 : Int32).toInt * (x_9 : Int32).toInt := by rw [ex_10]; exact mul_toInt (by first | omega | (rw [y_4]; omega)) (by first | omega | (rw [y_4]; omega))
        rw [y_4] at t_x_10
        have t_x_11 : x_11.toInt = (x_7 : Int32).toInt + (x_10 : Int32).toInt := by rw [ex_11]; exact add_toInt (by omega) (by omega)
        have t_x_117 : x_117.toInt = (x_11 : Int32).toInt + (2 : Int32).toInt := by rw [ex_117]; exact add_toInt (by omega) (by omega)
        refine vp_in_iff.mpr ⟨?_, ?_⟩ <;> omega
      refine st_int hx hb hK hP hD hS 0 0 rfl rfl hi_121 dX12_isBuyHere_100 (fun g_122 H locs eg_122 hP₀ hD₀ hS₀ => ?_)
      replace hP : va_P D classes [((Ma 4), .inl (tc 0, 288, .inl g_122)), ((Ma 5), .inl (tc 0, 6, .inl (Mf 5))), ((Ma 7), .inl (tc 0, 400, .inl (Mf 7))), ((Ma 2), .inl (tc 0, 2400, .inl sv_32)), ((Ma 3), .inl (tc 0, 7, .inl sv_33)), ((Ma 0), .inr (12, [.ref (Ma 1), .int (Mv 0), .int (Mv 1), .ref (Ma 2), .ref (Ma 3), .ref (Ma 4), .ref (Ma 5), .ref (Ma 6), .int sv_79, .int sv_29, .int sv_30, .int (Mv 5), .int sv_31, .int (Mv 7), .int (Mv 8), .ref (Ma 7), .int (Mv 9), .ref (Ma 8), .int (Mv 10), .ref (Ma 9), .ref (Ma 10), .int (Mv 11), .int (Mv 12), .int (Mv 13), .ref (Ma 11), .int (Mv 14), .ref (Ma 12), .ref (Ma 13), .ref (Ma 14), .ref (Ma 15), .ref (Ma 16), .long (Mj 0), .ref (Ma 17), .ref (Ma 18), .ref (Ma 19), .ref (Ma 20)])), ((Ma 1), .inl (tc 2, 400, .inl (Mf 1)))] H := hP₀
      replace hD : va_D A [((Ma 4), .inl (tc 0, 288, .inl g_122)), ((Ma 5), .inl (tc 0, 6, .inl (Mf 5))), ((Ma 7), .inl (tc 0, 400, .inl (Mf 7))), ((Ma 2), .inl (tc 0, 2400, .inl sv_32)), ((Ma 3), .inl (tc 0, 7, .inl sv_33)), ((Ma 0), .inr (12, [.ref (Ma 1), .int (Mv 0), .int (Mv 1), .ref (Ma 2), .ref (Ma 3), .ref (Ma 4), .ref (Ma 5), .ref (Ma 6), .int sv_79, .int sv_29, .int sv_30, .int (Mv 5), .int sv_31, .int (Mv 7), .int (Mv 8), .ref (Ma 7), .int (Mv 9), .ref (Ma 8), .int (Mv 10), .ref (Ma 9), .ref (Ma 10), .int (Mv 11), .int (Mv 12), .int (Mv 13), .ref (Ma 11), .int (Mv 14), .ref (Ma 12), .ref (Ma 13), .ref (Ma 14), .ref (Ma 15), .ref (Ma 16), .long (Mj 0), .ref (Ma 17), .ref (Ma 18), .ref (Ma 19), .ref (Ma 20)])), ((Ma 1), .inl (tc 2, 400, .inl (Mf 1)))] := hD₀
      replace hS := hS₀
      clear hP₀ hD₀ hS₀
      have hi_123 : (x_117 : Int32).toInt = (A0 : Int) + (2 : Nat) := by
        have z_1 : ¬ (r_37 : Int32).toInt = (0 : Int32).toInt := fun z => c_45 (Int32.toInt_inj.mp z)
        have z_2 : ¬ (r_81 : Int32).toInt = (0 : Int32).toInt := fun z => c_84 (Int32.toInt_inj.mp z)
        have y_0 : (0 : Int32).toInt = 0 := by decide
        have y_2 : (2 : Int32).toInt = 2 := by decide
        have y_4 : (4 : Int32).toInt = 4 := by decide
        have y_48 : (48 : Int32).toInt = 48 := by decide
        have t_x_7 : x_7.toInt = (48 : Int32).toInt * ((Mv 5) : Int32).toInt := by rw [ex_7]; exact mul_toInt (by first | omega | (rw [y_48]; omega)) (by first | omega | (rw [y_48]; omega))
        rw [y_48] at t_x_7
        have t_x_10 : x_10.toInt = (4 : Int32).toInt * (x_9 : Int32).toInt := by rw [ex_10]; exact mul_toInt (by first | omega | (rw [y_4]; omega)) (by first | omega | (rw [y_4]; omega))
        rw [y_4] at t_x_10
        have t_x_11 : x_11.toInt = (x_7 : Int32).toInt + (x_10 : Int32).toInt := by rw [ex_11]; exact add_toInt (by omega) (by omega)
        have t_x_117 : x_117.toInt = (x_11 : Int32).toInt + (2 : Int32).toInt := by rw [ex_117]; exact add_toInt (by omega) (by omega)
        omega
      have hr_125 : 48 * (Mv 5).toInt + 4 * ((Mf 5) (Mv 5).toInt.toNat).toInt ≤ (((x_117 : Int32).toNatClampNeg : Nat) : Int) := by
        have z_1 : ¬ (r_37 : Int32).toInt = (0 : Int32).toInt := fun z => c_45 (Int32.toInt_inj.mp z)
        have z_2 : ¬ (r_81 : Int32).toInt = (0 : Int32).toInt := fun z => c_84 (Int32.toInt_inj.mp z)
        have y_0 : (0 : Int32).toInt = 0 := by decide
        have y_2 : (2 : Int32).toInt = 2 := by decide
        have y_4 : (4 : Int32).toInt = 4 := by decide
        have y_48 : (48 : Int32).toInt = 48 := by decide
        have t_x_7 : x_7.toInt = (48 : Int32).toInt * ((Mv 5) : Int32).toInt := by rw [ex_7]; exact mul_toInt (by first | omega | (rw [y_48]; omega)) (by first | omega | (rw [y_48]; omega))
        rw [y_48] at t_x_7
        have t_x_10 : x_10.toInt = (4 : Int32).toInt * (x_9 : Int32).toInt := by rw [ex_10]; exact mul_toInt (by first | omega | (rw [y_4]; omega)) (by first | omega | (rw [y_4]; omega))
        rw [y_4] at t_x_10
        have t_x_11 : x_11.toInt = (x_7 : Int32).toInt + (x_10 : Int32).toInt := by rw [ex_11]; exact add_toInt (by omega) (by omega)
        have t_x_117 : x_117.toInt = (x_11 : Int32).toInt + (2 : Int32).toInt := by rw [ex_117]; exact add_toInt (by omega) (by omega)
        have hcl : (x_117 : Int32).toNatClampNeg = (x_117 : Int32).toInt.toNat := rfl
        omega
      have pf_124 : RulP (Mf 2) g_122 (Mf 5) (Mv 5) (((Mf 3) (Mv 5).toNatClampNeg).toInt) := RulP.cl pf_66 eg_122 h_t.1 hr_125
      have ar_pf_124 := pf_124.2.1
      have hr_127 : ¬ (x_117 : Int32).toInt = (A0 : Int) + (0 : Nat) := by omega
      have pf_126 : ClV g_122 A0 0 x_13 := ClV.keep pf_68 eg_122 hr_127 (by omega)
      have hr_129 : 48 * (Mv 5).toInt + 4 * ((Mf 5) (Mv 5).toInt.toNat).toInt ≤ (((x_117 : Int32).toNatClampNeg : Nat) : Int) := by
        have z_1 : ¬ (r_37 : Int32).toInt = (0 : Int32).toInt := fun z => c_45 (Int32.toInt_inj.mp z)
        have z_2 : ¬ (r_81 : Int32).toInt = (0 : Int32).toInt := fun z => c_84 (Int32.toInt_inj.mp z)
        have y_0 : (0 : Int32).toInt = 0 := by decide
        have y_2 : (2 : Int32).toInt = 2 := by decide
        have y_4 : (4 : Int32).toInt = 4 := by decide
        have y_48 : (48 : Int32).toInt = 48 := by decide
        have t_x_7 : x_7.toInt = (48 : Int32).toInt * ((Mv 5) : Int32).toInt := by rw [ex_7]; exact mul_toInt (by first | omega | (rw [y_48]; omega)) (by first | omega | (rw [y_48]; omega))
        rw [y_48] at t_x_7
        have t_x_10 : x_10.toInt = (4 : Int32).toInt * (x_9 : Int32).toInt := by rw [ex_10]; exact mul_toInt (by first | omega | (rw [y_4]; omega)) (by first | omega | (rw [y_4]; omega))
        rw [y_4] at t_x_10
        have t_x_11 : x_11.toInt = (x_7 : Int32).toInt + (x_10 : Int32).toInt := by rw [ex_11]; exact add_toInt (by omega) (by omega)
        have t_x_117 : x_117.toInt = (x_11 : Int32).toInt + (2 : Int32).toInt := by rw [ex_117]; exact add_toInt (by omega) (by omega)
        have hcl : (x_117 : Int32).toNatClampNeg = (x_117 : Int32).toInt.toNat := rfl
        omega
      have pf_128 : RulP sv_32 g_122 (Mf 5) (Mv 5) (((Mf 3) (Mv 5).toNatClampNeg).toInt) := RulP.cl pf_70 eg_122 h_t.1 hr_129
      have ar_pf_128 := pf_128.2.1
      have hr_131 : ¬ (x_117 : Int32).toInt = (A0 : Int) + (1 : Nat) := by omega
      have pf_130 : ClV g_122 A0 1 x_50 := ClV.keep pf_72 eg_122 hr_131 (by omega)
      have pf_132 : ClV g_122 A0 2 x_119 := ClV.put eg_122 hi_123
      have hr_134 : 0 ≤ (x_119 : Int32).toInt ∧ (x_119 : Int32).toInt ≤ 400 := by
        have z_1 : ¬ (r_37 : Int32).toInt = (0 : Int32).toInt := fun z => c_45 (Int32.toInt_inj.mp z)
        have z_2 : ¬ (r_81 : Int32).toInt = (0 : Int32).toInt := fun z => c_84 (Int32.toInt_inj.mp z)
        have y_0 : (0 : Int32).toInt = 0 := by decide
        refine ⟨?_, ?_⟩ <;> omega
      have hr_135 : 0 ≤ (sv_31 : Int32).toInt ∧ (sv_31 : Int32).toInt ≤ 60 := by
        have z_1 : ¬ (r_37 : Int32).toInt = (0 : Int32).toInt := fun z => c_45 (Int32.toInt_inj.mp z)
        have z_2 : ¬ (r_81 : Int32).toInt = (0 : Int32).toInt := fun z => c_84 (Int32.toInt_inj.mp z)
        have y_0 : (0 : Int32).toInt = 0 := by decide
        refine ⟨?_, ?_⟩ <;> omega
      have pf_133 : Cd sv_32 sv_33 (Mv 5) x_119 sv_31 0 := Cd.nil h_t ex_119 hr_134 hr_135
      have ar_pf_133 := Cd.ar pf_133
      refine lv_aload_n hx hb dX12_isBuyHere_101 rfl (lv_at hl 1 rfl) ?_
      have ha_136 : 0 ≤ (sv_79 : Int32).toInt ∧ (sv_79 : Int32).toInt ≤ ((Mv 0) : Int32).toInt ∧ ((Mv 0) : Int32).toInt ≤ 400 := by
        have z_1 : ¬ (r_37 : Int32).toInt = (0 : Int32).toInt := fun z => c_45 (Int32.toInt_inj.mp z)
        have z_2 : ¬ (r_81 : Int32).toInt = (0 : Int32).toInt := fun z => c_84 (Int32.toInt_inj.mp z)
        have y_0 : (0 : Int32).toInt = 0 := by decide
        refine ⟨?_, ?_, ?_⟩ <;> omega
      have ha_137 : (sv_33 (Mv 5).toNatClampNeg).toInt ≤ (sv_79 : Int32).toInt := by
        have z_1 : ¬ (r_37 : Int32).toInt = (0 : Int32).toInt := fun z => c_45 (Int32.toInt_inj.mp z)
        have z_2 : ¬ (r_81 : Int32).toInt = (0 : Int32).toInt := fun z => c_84 (Int32.toInt_inj.mp z)
        have y_0 : (0 : Int32).toInt = 0 := by decide
        omega
      have ha_138 : 0 ≤ (sv_31 : Int32).toInt ∧ (sv_31 : Int32).toInt ≤ 60 := by
        have z_1 : ¬ (r_37 : Int32).toInt = (0 : Int32).toInt := fun z => c_45 (Int32.toInt_inj.mp z)
        have z_2 : ¬ (r_81 : Int32).toInt = (0 : Int32).toInt := fun z => c_84 (Int32.toInt_inj.mp z)
        have y_0 : (0 : Int32).toInt = 0 := by decide
        refine ⟨?_, ?_⟩ <;> omega
      refine cV (a := (Ma 0)) (As := []) (rest := []) (wr := [((Ma 4), .inl (tc 0, 288, .inl g_122)), ((Ma 5), .inl (tc 0, 6, .inl (Mf 5)))]) ⟨hx, hb, hml, hown, hts⟩ hK hX hA (cu_X12_tested l D tc sk (Ma 0) (Ma 1) (Ma 2) (Ma 3) (Ma 4) (Ma 5) (Ma 6) (Ma 7) (Ma 8) (Ma 9) (Ma 10) (Ma 11) (Ma 12) (Ma 13) (Ma 14) (Ma 15) (Ma 16) (Ma 17) (Ma 18) (Ma 19) (Ma 20) (Mv 0) (Mv 1) sv_79 sv_29 sv_30 (Mv 5) sv_31 (Mv 7) (Mv 8) (Mv 9) (Mv 10) (Mv 11) (Mv 12) (Mv 13) (Mv 14) (Mf 1) sv_32 sv_33 (Mf 7) (Mj 0) x_119 ha_136 pf_133 ha_137 ha_138) k_1321 k_1318 k_1320 k_49 k_106 pl_X12_tested ⟨Nat.le_of_ble_eq_true rfl, Nat.le_of_ble_eq_true rfl⟩ rfl rfl (va_recv hK hP (ci := 12) (q0 := 5) rfl rfl) hP hD hS [5, 6, 3, 4, 2] [0, 1] rfl rfl rfl rfl rfl (by decide) rfl hl.1 rfl (Nat.le_of_ble_eq_true rfl) dX12_isBuyHere_102 ⟨Nat.le_of_ble_eq_true rfl, Nat.le_of_ble_eq_true rfl⟩ (fun v_139 u_140 H locs hv_141 hP₀ hD₀ hS₀ => ?_)
      obtain ⟨sv_142, sv_143, sv_144, sv_145, sv_146, sv_147, sv_148, sv_149, sv_150⟩ := u_140
      obtain ⟨r_154, rfl, he_155, pf_151, pf_152, pf_153, hm_157⟩ := hv_141
      have he_155 : ((r_154.toInt = 0 ∧ ¬ (sv_143 : Int32).toInt = 0) ∨ (r_154.toInt = 1 ∧ (sv_33 (Mv 5).toNatClampNeg).toInt ≤ (sv_149 (Mv 5).toNatClampNeg).toInt ∧ (sv_149 (Mv 5).toNatClampNeg).toInt ≤ (sv_142 : Int32).toInt)) := he_155
      have pf_151 : (sv_79 : Int32).toInt ≤ (sv_142 : Int32).toInt ∧ (sv_142 : Int32).toInt ≤ ((Mv 0) : Int32).toInt := pf_151
      have pf_152 : (sv_31 : Int32).toInt ≤ (sv_145 : Int32).toInt ∧ (sv_145 : Int32).toInt ≤ 60 := pf_152
      have pf_153 : Agr sv_32 sv_148 (400 * ((Mv 5) : Int32).toInt + (sv_33 (Mv 5).toNatClampNeg).toInt) := pf_153
      have hr_159 : 400 * ((Mv 5) : Int32).toInt + (((Mf 3) (Mv 5).toNatClampNeg).toInt) ≤ (400 * ((Mv 5) : Int32).toInt + (sv_33 (Mv 5).toNatClampNeg).toInt) ∧ 0 ≤ ((Mv 5) : Int32).toInt ∧ 0 ≤ (((Mf 3) (Mv 5).toNatClampNeg).toInt) := by
        have z_1 : ¬ (r_37 : Int32).toInt = (0 : Int32).toInt := fun z => c_45 (Int32.toInt_inj.mp z)
        have z_2 : ¬ (r_81 : Int32).toInt = (0 : Int32).toInt := fun z => c_84 (Int32.toInt_inj.mp z)
        have y_0 : (0 : Int32).toInt = 0 := by decide
        omega
      have pf_158 : RulP sv_148 (Mf 4) (Mf 5) (Mv 5) (((Mf 3) (Mv 5).toNatClampNeg).toInt) := RulP.agr pf_41 pf_153 hr_159.2.1 hr_159.1 hr_159.2.2
      have ar_pf_158 := pf_158.2.1
      have hr_161 : 400 * ((Mv 5) : Int32).toInt + (((Mf 3) (Mv 5).toNatClampNeg).toInt) ≤ (400 * ((Mv 5) : Int32).toInt + (sv_33 (Mv 5).toNatClampNeg).toInt) ∧ 0 ≤ ((Mv 5) : Int32).toInt ∧ 0 ≤ (((Mf 3) (Mv 5).toNatClampNeg).toInt) := by
        have z_1 : ¬ (r_37 : Int32).toInt = (0 : Int32).toInt := fun z => c_45 (Int32.toInt_inj.mp z)
        have z_2 : ¬ (r_81 : Int32).toInt = (0 : Int32).toInt := fun z => c_84 (Int32.toInt_inj.mp z)
        have y_0 : (0 : Int32).toInt = 0 := by decide
        omega
      have pf_160 : RulP sv_148 g_15 (Mf 5) (Mv 5) (((Mf 3) (Mv 5).toNatClampNeg).toInt) := RulP.agr pf_43 pf_153 hr_161.2.1 hr_161.1 hr_161.2.2
      have ar_pf_160 := pf_160.2.1
      have hr_163 : 400 * ((Mv 5) : Int32).toInt + (x_50 : Int32).toInt ≤ (400 * ((Mv 5) : Int32).toInt + (sv_33 (Mv 5).toNatClampNeg).toInt) ∧ 0 ≤ ((Mv 5) : Int32).toInt := by
        have z_1 : ¬ (r_37 : Int32).toInt = (0 : Int32).toInt := fun z => c_45 (Int32.toInt_inj.mp z)
        have z_2 : ¬ (r_81 : Int32).toInt = (0 : Int32).toInt := fun z => c_84 (Int32.toInt_inj.mp z)
        have y_0 : (0 : Int32).toInt = 0 := by decide
        omega
      have pf_162 : WFc sv_148 (Mv 5) x_13 x_50 := WFc.agr pf_51 pf_153 hr_163.2 hr_163.1
      have hr_165 : 400 * ((Mv 5) : Int32).toInt + (((Mf 3) (Mv 5).toNatClampNeg).toInt) ≤ (400 * ((Mv 5) : Int32).toInt + (sv_33 (Mv 5).toNatClampNeg).toInt) ∧ 0 ≤ ((Mv 5) : Int32).toInt ∧ 0 ≤ (((Mf 3) (Mv 5).toNatClampNeg).toInt) := by
        have z_1 : ¬ (r_37 : Int32).toInt = (0 : Int32).toInt := fun z => c_45 (Int32.toInt_inj.mp z)
        have z_2 : ¬ (r_81 : Int32).toInt = (0 : Int32).toInt := fun z => c_84 (Int32.toInt_inj.mp z)
        have y_0 : (0 : Int32).toInt = 0 := by decide
        omega
      have pf_164 : RulP sv_148 g_53 (Mf 5) (Mv 5) (((Mf 3) (Mv 5).toNatClampNeg).toInt) := RulP.agr pf_59 pf_153 hr_165.2.1 hr_165.1 hr_165.2.2
      have ar_pf_164 := pf_164.2.1
      have hr_167 : 400 * ((Mv 5) : Int32).toInt + (((Mf 3) (Mv 5).toNatClampNeg).toInt) ≤ (400 * ((Mv 5) : Int32).toInt + (sv_33 (Mv 5).toNatClampNeg).toInt) ∧ 0 ≤ ((Mv 5) : Int32).toInt ∧ 0 ≤ (((Mf 3) (Mv 5).toNatClampNeg).toInt) := by
        have z_1 : ¬ (r_37 : Int32).toInt = (0 : Int32).toInt := fun z => c_45 (Int32.toInt_inj.mp z)
        have z_2 : ¬ (r_81 : Int32).toInt = (0 : Int32).toInt := fun z => c_84 (Int32.toInt_inj.mp z)
        have y_0 : (0 : Int32).toInt = 0 := by decide
        omega
      have pf_166 : RulP sv_148 g_64 (Mf 5) (Mv 5) (((Mf 3) (Mv 5).toNatClampNeg).toInt) := RulP.agr pf_70 pf_153 hr_167.2.1 hr_167.1 hr_167.2.2
      have ar_pf_166 := pf_166.2.1
      have hr_169 : 400 * ((Mv 5) : Int32).toInt + (x_119 : Int32).toInt ≤ (400 * ((Mv 5) : Int32).toInt + (sv_33 (Mv 5).toNatClampNeg).toInt) ∧ 0 ≤ ((Mv 5) : Int32).toInt := by
        have z_1 : ¬ (r_37 : Int32).toInt = (0 : Int32).toInt := fun z => c_45 (Int32.toInt_inj.mp z)
        have z_2 : ¬ (r_81 : Int32).toInt = (0 : Int32).toInt := fun z => c_84 (Int32.toInt_inj.mp z)
        have y_0 : (0 : Int32).toInt = 0 := by decide
        omega
      have pf_168 : WFc sv_148 (Mv 5) x_13 x_119 := WFc.agr pf_120 pf_153 hr_169.2 hr_169.1
      have hr_171 : 400 * ((Mv 5) : Int32).toInt + (((Mf 3) (Mv 5).toNatClampNeg).toInt) ≤ (400 * ((Mv 5) : Int32).toInt + (sv_33 (Mv 5).toNatClampNeg).toInt) ∧ 0 ≤ ((Mv 5) : Int32).toInt ∧ 0 ≤ (((Mf 3) (Mv 5).toNatClampNeg).toInt) := by
        have z_1 : ¬ (r_37 : Int32).toInt = (0 : Int32).toInt := fun z => c_45 (Int32.toInt_inj.mp z)
        have z_2 : ¬ (r_81 : Int32).toInt = (0 : Int32).toInt := fun z => c_84 (Int32.toInt_inj.mp z)
        have y_0 : (0 : Int32).toInt = 0 := by decide
        omega
      have pf_170 : RulP sv_148 g_122 (Mf 5) (Mv 5) (((Mf 3) (Mv 5).toNatClampNeg).toInt) := RulP.agr pf_128 pf_153 hr_171.2.1 hr_171.1 hr_171.2.2
      have ar_pf_170 := pf_170.2.1
      refine W.eq (g2 := F0 m 105 ls [.int r_154]) rfl ?_
      replace hP : va_P D classes [((Ma 4), .inl (tc 0, 288, .inl g_122)), ((Ma 5), .inl (tc 0, 6, .inl (Mf 5))), ((Ma 0), .inr (12, [.ref (Ma 1), .int (Mv 0), .int (Mv 1), .ref (Ma 2), .ref (Ma 3), .ref (Ma 4), .ref (Ma 5), .ref (Ma 6), .int sv_142, .int sv_143, .int sv_144, .int (Mv 5), .int sv_145, .int sv_146, .int (Mv 8), .ref (Ma 7), .int sv_147, .ref (Ma 8), .int (Mv 10), .ref (Ma 9), .ref (Ma 10), .int (Mv 11), .int (Mv 12), .int (Mv 13), .ref (Ma 11), .int (Mv 14), .ref (Ma 12), .ref (Ma 13), .ref (Ma 14), .ref (Ma 15), .ref (Ma 16), .long (Mj 0), .ref (Ma 17), .ref (Ma 18), .ref (Ma 19), .ref (Ma 20)])), ((Ma 1), .inl (tc 2, 400, .inl (Mf 1))), ((Ma 2), .inl (tc 0, 2400, .inl sv_148)), ((Ma 3), .inl (tc 0, 7, .inl sv_149)), ((Ma 7), .inl (tc 0, 400, .inl sv_150))] H := hP₀
      replace hD : va_D A [((Ma 4), .inl (tc 0, 288, .inl g_122)), ((Ma 5), .inl (tc 0, 6, .inl (Mf 5))), ((Ma 0), .inr (12, [.ref (Ma 1), .int (Mv 0), .int (Mv 1), .ref (Ma 2), .ref (Ma 3), .ref (Ma 4), .ref (Ma 5), .ref (Ma 6), .int sv_142, .int sv_143, .int sv_144, .int (Mv 5), .int sv_145, .int sv_146, .int (Mv 8), .ref (Ma 7), .int sv_147, .ref (Ma 8), .int (Mv 10), .ref (Ma 9), .ref (Ma 10), .int (Mv 11), .int (Mv 12), .int (Mv 13), .ref (Ma 11), .int (Mv 14), .ref (Ma 12), .ref (Ma 13), .ref (Ma 14), .ref (Ma 15), .ref (Ma 16), .long (Mj 0), .ref (Ma 17), .ref (Ma 18), .ref (Ma 19), .ref (Ma 20)])), ((Ma 1), .inl (tc 2, 400, .inl (Mf 1))), ((Ma 2), .inl (tc 0, 2400, .inl sv_148)), ((Ma 3), .inl (tc 0, 7, .inl sv_149)), ((Ma 7), .inl (tc 0, 400, .inl sv_150))] := hD₀
      replace hS := hS₀
      clear hP₀ hD₀ hS₀
      refine lv_if_ne (tgt := 110) hx hb dX12_isBuyHere_105 (by decide) (fun c_172 => ?_) (fun c_172 => ?_)
      · skip
        have hz_174 : (r_154 : Int32).toInt = 1 := by
          have z_1 : ¬ (r_37 : Int32).toInt = (0 : Int32).toInt := fun z => c_45 (Int32.toInt_inj.mp z)
          have z_2 : ¬ (r_81 : Int32).toInt = (0 : Int32).toInt := fun z => c_84 (Int32.toInt_inj.mp z)
          have z_3 : ¬ (r_154 : Int32).toInt = (0 : Int32).toInt := fun z => c_172 (Int32.toInt_inj.mp z)
          have y_0 : (0 : Int32).toInt = 0 := by decide
          omega
        obtain pf_173 := hm_157 hz_174
        have pf_173 : Cd sv_148 sv_149 (Mv 5) x_119 sv_145 1 := pf_173
        have ar_pf_173 := Cd.ar pf_173
        refine lv_aload_n hx hb dX12_isBuyHere_110 rfl (lv_at hl 1 rfl) ?_
        refine gf_X12_20 hx hb hts hown hK hP 2 rfl rfl dX12_isBuyHere_111 ?_
        refine lv_iload_n hx hb dX12_isBuyHere_114 rfl (lv_at hl 0 rfl) ?_
        refine lv_iconst (v := 3) hx hb dX12_isBuyHere_115 (by decide) ?_
        refine lv_iadd hx hb dX12_isBuyHere_116 ?_
        refine lv_topi (fun x_175 ex_175 => ?_)
        refine lv_aload_n hx hb dX12_isBuyHere_117 rfl (lv_at hl 1 rfl) ?_
        refine gf_X12_17 hx hb hts hown hK hP 2 rfl rfl dX12_isBuyHere_118 ?_
        refine lv_aload_n hx hb dX12_isBuyHere_121 rfl (lv_at hl 1 rfl) ?_
        refine gf_X12_145 hx hb hts hown hK hP 2 rfl rfl dX12_isBuyHere_122 ?_
        have hi_176 : vp_in (Mv 5) 7 := by
          have z_1 : ¬ (r_37 : Int32).toInt = (0 : Int32).toInt := fun z => c_45 (Int32.toInt_inj.mp z)
          have z_2 : ¬ (r_81 : Int32).toInt = (0 : Int32).toInt := fun z => c_84 (Int32.toInt_inj.mp z)
          have z_3 : ¬ (r_154 : Int32).toInt = (0 : Int32).toInt := fun z => c_172 (Int32.toInt_inj.mp z)
          have y_0 : (0 : Int32).toInt = 0 := by decide
          refine vp_in_iff.mpr ⟨?_, ?_⟩ <;> omega
        refine va_iald hx hb hK hP 5 0 rfl rfl hi_176 dX12_isBuyHere_125 ?_
        refine lv_topi (fun x_177 ex_177 => ?_)
        have kx_177 : x_177.toInt = (sv_149 ((Mv 5) : Int32).toNatClampNeg).toInt := congrArg Int32.toInt ex_177
        have pf_178 : WFc sv_148 (Mv 5) x_119 x_177 := Cd.wf pf_173 ex_177
        have ar_pf_178 := WFc.ar pf_178
        have hi_179 : vp_in x_175 288 := by
          have z_1 : ¬ (r_37 : Int32).toInt = (0 : Int32).toInt := fun z => c_45 (Int32.toInt_inj.mp z)
          have z_2 : ¬ (r_81 : Int32).toInt = (0 : Int32).toInt := fun z => c_84 (Int32.toInt_inj.mp z)
          have z_3 : ¬ (r_154 : Int32).toInt = (0 : Int32).toInt := fun z => c_172 (Int32.toInt_inj.mp z)
          have y_0 : (0 : Int32).toInt = 0 := by decide
          have y_3 : (3 : Int32).toInt = 3 := by decide
          have y_4 : (4 : Int32).toInt = 4 := by decide
          have y_48 : (48 : Int32).toInt = 48 := by decide
          have t_x_7 : x_7.toInt = (48 : Int32).toInt * ((Mv 5) : Int32).toInt := by rw [ex_7]; exact mul_toInt (by first | omega | (rw [y_48]; omega)) (by first | omega | (rw [y_48]; omega))
          rw [y_48] at t_x_7
          have t_x_10 : x_10.toInt = (4 : Int32).toInt * (x_9 : Int32).toInt := by rw [ex_10]; exact mul_toInt (by first | omega | (rw [y_4]; omega)) (by first | omega | (rw [y_4]; omega))
          rw [y_4] at t_x_10
          have t_x_11 : x_11.toInt = (x_7 : Int32).toInt + (x_10 : Int32).toInt := by rw [ex_11]; exact add_toInt (by omega) (by omega)
          have t_x_175 : x_175.toInt = (x_11 : Int32).toInt + (3 : Int32).toInt := by rw [ex_175]; exact add_toInt (by omega) (by omega)
          refine vp_in_iff.mpr ⟨?_, ?_⟩ <;> omega
        refine st_int hx hb hK hP hD hS 0 0 rfl rfl hi_179 dX12_isBuyHere_126 (fun g_180 H locs eg_180 hP₀ hD₀ hS₀ => ?_)
        replace hP : va_P D classes [((Ma 4), .inl (tc 0, 288, .inl g_180)), ((Ma 5), .inl (tc 0, 6, .inl (Mf 5))), ((Ma 0), .inr (12, [.ref (Ma 1), .int (Mv 0), .int (Mv 1), .ref (Ma 2), .ref (Ma 3), .ref (Ma 4), .ref (Ma 5), .ref (Ma 6), .int sv_142, .int sv_143, .int sv_144, .int (Mv 5), .int sv_145, .int sv_146, .int (Mv 8), .ref (Ma 7), .int sv_147, .ref (Ma 8), .int (Mv 10), .ref (Ma 9), .ref (Ma 10), .int (Mv 11), .int (Mv 12), .int (Mv 13), .ref (Ma 11), .int (Mv 14), .ref (Ma 12), .ref (Ma 13), .ref (Ma 14), .ref (Ma 15), .ref (Ma 16), .long (Mj 0), .ref (Ma 17), .ref (Ma 18), .ref (Ma 19), .ref (Ma 20)])), ((Ma 1), .inl (tc 2, 400, .inl (Mf 1))), ((Ma 2), .inl (tc 0, 2400, .inl sv_148)), ((Ma 3), .inl (tc 0, 7, .inl sv_149)), ((Ma 7), .inl (tc 0, 400, .inl sv_150))] H := hP₀
        replace hD : va_D A [((Ma 4), .inl (tc 0, 288, .inl g_180)), ((Ma 5), .inl (tc 0, 6, .inl (Mf 5))), ((Ma 0), .inr (12, [.ref (Ma 1), .int (Mv 0), .int (Mv 1), .ref (Ma 2), .ref (Ma 3), .ref (Ma 4), .ref (Ma 5), .ref (Ma 6), .int sv_142, .int sv_143, .int sv_144, .int (Mv 5), .int sv_145, .int sv_146, .int (Mv 8), .ref (Ma 7), .int sv_147, .ref (Ma 8), .int (Mv 10), .ref (Ma 9), .ref (Ma 10), .int (Mv 11), .int (Mv 12), .int (Mv 13), .ref (Ma 11), .int (Mv 14), .ref (Ma 12), .ref (Ma 13), .ref (Ma 14), .ref (Ma 15), .ref (Ma 16), .long (Mj 0), .ref (Ma 17), .ref (Ma 18), .ref (Ma 19), .ref (Ma 20)])), ((Ma 1), .inl (tc 2, 400, .inl (Mf 1))), ((Ma 2), .inl (tc 0, 2400, .inl sv_148)), ((Ma 3), .inl (tc 0, 7, .inl sv_149)), ((Ma 7), .inl (tc 0, 400, .inl sv_150))] := hD₀
        replace hS := hS₀
        clear hP₀ hD₀ hS₀
        have hi_181 : (x_175 : Int32).toInt = (A0 : Int) + (3 : Nat) := by
          have z_1 : ¬ (r_37 : Int32).toInt = (0 : Int32).toInt := fun z => c_45 (Int32.toInt_inj.mp z)
          have z_2 : ¬ (r_81 : Int32).toInt = (0 : Int32).toInt := fun z => c_84 (Int32.toInt_inj.mp z)
          have z_3 : ¬ (r_154 : Int32).toInt = (0 : Int32).toInt := fun z => c_172 (Int32.toInt_inj.mp z)
          have y_0 : (0 : Int32).toInt = 0 := by decide
          have y_3 : (3 : Int32).toInt = 3 := by decide
          have y_4 : (4 : Int32).toInt = 4 := by decide
          have y_48 : (48 : Int32).toInt = 48 := by decide
          have t_x_7 : x_7.toInt = (48 : Int32).toInt * ((Mv 5) : Int32).toInt := by rw [ex_7]; exact mul_toInt (by first | omega | (rw [y_48]; omega)) (by first | omega | (rw [y_48]; omega))
          rw [y_48] at t_x_7
          have t_x_10 : x_10.toInt = (4 : Int32).toInt * (x_9 : Int32).toInt := by rw [ex_10]; exact mul_toInt (by first | omega | (rw [y_4]; omega)) (by first | omega | (rw [y_4]; omega))
          rw [y_4] at t_x_10
          have t_x_11 : x_11.toInt = (x_7 : Int32).toInt + (x_10 : Int32).toInt := by rw [ex_11]; exact add_toInt (by omega) (by omega)
          have t_x_175 : x_175.toInt = (x_11 : Int32).toInt + (3 : Int32).toInt := by rw [ex_175]; exact add_toInt (by omega) (by omega)
          omega
        have hr_183 : 48 * (Mv 5).toInt + 4 * ((Mf 5) (Mv 5).toInt.toNat).toInt ≤ (((x_175 : Int32).toNatClampNeg : Nat) : Int) := by
          have z_1 : ¬ (r_37 : Int32).toInt = (0 : Int32).toInt := fun z => c_45 (Int32.toInt_inj.mp z)
          have z_2 : ¬ (r_81 : Int32).toInt = (0 : Int32).toInt := fun z => c_84 (Int32.toInt_inj.mp z)
          have z_3 : ¬ (r_154 : Int32).toInt = (0 : Int32).toInt := fun z => c_172 (Int32.toInt_inj.mp z)
          have y_0 : (0 : Int32).toInt = 0 := by decide
          have y_3 : (3 : Int32).toInt = 3 := by decide
          have y_4 : (4 : Int32).toInt = 4 := by decide
          have y_48 : (48 : Int32).toInt = 48 := by decide
          have t_x_7 : x_7.toInt = (48 : Int32).toInt * ((Mv 5) : Int32).toInt := by rw [ex_7]; exact mul_toInt (by first | omega | (rw [y_48]; omega)) (by first | omega | (rw [y_48]; omega))
          rw [y_48] at t_x_7
          have t_x_10 : x_10.toInt = (4 : Int32).toInt * (x_9 : Int32).toInt := by rw [ex_10]; exact mul_toInt (by first | omega | (rw [y_4]; omega)) (by first | omega | (rw [y_4]; omega))
          rw [y_4] at t_x_10
          have t_x_11 : x_11.toInt = (x_7 : Int32).toInt + (x_10 : Int32).toInt := by rw [ex_11]; exact add_toInt (by omega) (by omega)
          have t_x_175 : x_175.toInt = (x_11 : Int32).toInt + (3 : Int32).toInt := by rw [ex_175]; exact add_toInt (by omega) (by omega)
          have hcl : (x_175 : Int32).toNatClampNeg = (x_175 : Int32).toInt.toNat := rfl
          omega
        have pf_182 : RulP (Mf 2) g_180 (Mf 5) (Mv 5) (((Mf 3) (Mv 5).toNatClampNeg).toInt) := RulP.cl pf_124 eg_180 h_t.1 hr_183
        have ar_pf_182 := pf_182.2.1
        have hr_185 : ¬ (x_175 : Int32).toInt = (A0 : Int) + (0 : Nat) := by omega
        have pf_184 : ClV g_180 A0 0 x_13 := ClV.keep pf_126 eg_180 hr_185 (by omega)
        have hr_187 : 48 * (Mv 5).toInt + 4 * ((Mf 5) (Mv 5).toInt.toNat).toInt ≤ (((x_175 : Int32).toNatClampNeg : Nat) : Int) := by
          have z_1 : ¬ (r_37 : Int32).toInt = (0 : Int32).toInt := fun z => c_45 (Int32.toInt_inj.mp z)
          have z_2 : ¬ (r_81 : Int32).toInt = (0 : Int32).toInt := fun z => c_84 (Int32.toInt_inj.mp z)
          have z_3 : ¬ (r_154 : Int32).toInt = (0 : Int32).toInt := fun z => c_172 (Int32.toInt_inj.mp z)
          have y_0 : (0 : Int32).toInt = 0 := by decide
          have y_3 : (3 : Int32).toInt = 3 := by decide
          have y_4 : (4 : Int32).toInt = 4 := by decide
          have y_48 : (48 : Int32).toInt = 48 := by decide
          have t_x_7 : x_7.toInt = (48 : Int32).toInt * ((Mv 5) : Int32).toInt := by rw [ex_7]; exact mul_toInt (by first | omega | (rw [y_48]; omega)) (by first | omega | (rw [y_48]; omega))
          rw [y_48] at t_x_7
          have t_x_10 : x_10.toInt = (4 : Int32).toInt * (x_9 : Int32).toInt := by rw [ex_10]; exact mul_toInt (by first | omega | (rw [y_4]; omega)) (by first | omega | (rw [y_4]; omega))
          rw [y_4] at t_x_10
          have t_x_11 : x_11.toInt = (x_7 : Int32).toInt + (x_10 : Int32).toInt := by rw [ex_11]; exact add_toInt (by omega) (by omega)
          have t_x_175 : x_175.toInt = (x_11 : Int32).toInt + (3 : Int32).toInt := by rw [ex_175]; exact add_toInt (by omega) (by omega)
          have hcl : (x_175 : Int32).toNatClampNeg = (x_175 : Int32).toInt.toNat := rfl
          omega
        have pf_186 : RulP sv_32 g_180 (Mf 5) (Mv 5) (((Mf 3) (Mv 5).toNatClampNeg).toInt) := RulP.cl pf_128 eg_180 h_t.1 hr_187
        have ar_pf_186 := pf_186.2.1
        have hr_189 : ¬ (x_175 : Int32).toInt = (A0 : Int) + (1 : Nat) := by omega
        have pf_188 : ClV g_180 A0 1 x_50 := ClV.keep pf_130 eg_180 hr_189 (by omega)
        have hr_191 : ¬ (x_175 : Int32).toInt = (A0 : Int) + (2 : Nat) := by omega
        have pf_190 : ClV g_180 A0 2 x_119 := ClV.keep pf_132 eg_180 hr_191 (by omega)
        have hr_193 : 48 * (Mv 5).toInt + 4 * ((Mf 5) (Mv 5).toInt.toNat).toInt ≤ (((x_175 : Int32).toNatClampNeg : Nat) : Int) := by
          have z_1 : ¬ (r_37 : Int32).toInt = (0 : Int32).toInt := fun z => c_45 (Int32.toInt_inj.mp z)
          have z_2 : ¬ (r_81 : Int32).toInt = (0 : Int32).toInt := fun z => c_84 (Int32.toInt_inj.mp z)
          have z_3 : ¬ (r_154 : Int32).toInt = (0 : Int32).toInt := fun z => c_172 (Int32.toInt_inj.mp z)
          have y_0 : (0 : Int32).toInt = 0 := by decide
          have y_3 : (3 : Int32).toInt = 3 := by decide
          have y_4 : (4 : Int32).toInt = 4 := by decide
          have y_48 : (48 : Int32).toInt = 48 := by decide
          have t_x_7 : x_7.toInt = (48 : Int32).toInt * ((Mv 5) : Int32).toInt := by rw [ex_7]; exact mul_toInt (by first | omega | (rw [y_48]; omega)) (by first | omega | (rw [y_48]; omega))
          rw [y_48] at t_x_7
          have t_x_10 : x_10.toInt = (4 : Int32).toInt * (x_9 : Int32).toInt := by rw [ex_10]; exact mul_toInt (by first | omega | (rw [y_4]; omega)) (by first | omega | (rw [y_4]; omega))
          rw [y_4] at t_x_10
          have t_x_11 : x_11.toInt = (x_7 : Int32).toInt + (x_10 : Int32).toInt := by rw [ex_11]; exact add_toInt (by omega) (by omega)
          have t_x_175 : x_175.toInt = (x_11 : Int32).toInt + (3 : Int32).toInt := by rw [ex_175]; exact add_toInt (by omega) (by omega)
          have hcl : (x_175 : Int32).toNatClampNeg = (x_175 : Int32).toInt.toNat := rfl
          omega
        have pf_192 : RulP sv_148 g_180 (Mf 5) (Mv 5) (((Mf 3) (Mv 5).toNatClampNeg).toInt) := RulP.cl pf_170 eg_180 h_t.1 hr_193
        have ar_pf_192 := pf_192.2.1
        have pf_194 : ClV g_180 A0 3 x_177 := ClV.put eg_180 hi_181
        refine lv_aload_n hx hb dX12_isBuyHere_127 rfl (lv_at hl 1 rfl) ?_
        refine gf_X12_23 hx hb hts hown hK hP 2 rfl rfl dX12_isBuyHere_128 ?_
        refine lv_aload_n hx hb dX12_isBuyHere_131 rfl (lv_at hl 1 rfl) ?_
        refine gf_X12_145 hx hb hts hown hK hP 2 rfl rfl dX12_isBuyHere_132 ?_
        refine lv_dup2_11 hx hb dX12_isBuyHere_135 rfl rfl ?_
        have hi_195 : vp_in (Mv 5) 6 := by
          have z_1 : ¬ (r_37 : Int32).toInt = (0 : Int32).toInt := fun z => c_45 (Int32.toInt_inj.mp z)
          have z_2 : ¬ (r_81 : Int32).toInt = (0 : Int32).toInt := fun z => c_84 (Int32.toInt_inj.mp z)
          have z_3 : ¬ (r_154 : Int32).toInt = (0 : Int32).toInt := fun z => c_172 (Int32.toInt_inj.mp z)
          have y_0 : (0 : Int32).toInt = 0 := by decide
          refine vp_in_iff.mpr ⟨?_, ?_⟩ <;> omega
        refine va_iald hx hb hK hP 1 0 rfl rfl hi_195 dX12_isBuyHere_136 ?_
        refine lv_topi (fun x_196 ex_196 => ?_)
        have kx_196 : x_196.toInt = ((Mf 5) ((Mv 5) : Int32).toInt.toNat).toInt := congrArg Int32.toInt ex_196
        refine lv_iconst (v := 1) hx hb dX12_isBuyHere_137 (by decide) ?_
        refine lv_iadd hx hb dX12_isBuyHere_138 ?_
        refine lv_topi (fun x_197 ex_197 => ?_)
        have hi_198 : vp_in (Mv 5) 6 := by
          have z_1 : ¬ (r_37 : Int32).toInt = (0 : Int32).toInt := fun z => c_45 (Int32.toInt_inj.mp z)
          have z_2 : ¬ (r_81 : Int32).toInt = (0 : Int32).toInt := fun z => c_84 (Int32.toInt_inj.mp z)
          have z_3 : ¬ (r_154 : Int32).toInt = (0 : Int32).toInt := fun z => c_172 (Int32.toInt_inj.mp z)
          have y_0 : (0 : Int32).toInt = 0 := by decide
          refine vp_in_iff.mpr ⟨?_, ?_⟩ <;> omega
        refine st_int hx hb hK hP hD hS 1 0 rfl rfl hi_198 dX12_isBuyHere_139 (fun g_199 H locs eg_199 hP₀ hD₀ hS₀ => ?_)
        replace hP : va_P D classes [((Ma 4), .inl (tc 0, 288, .inl g_180)), ((Ma 5), .inl (tc 0, 6, .inl g_199)), ((Ma 0), .inr (12, [.ref (Ma 1), .int (Mv 0), .int (Mv 1), .ref (Ma 2), .ref (Ma 3), .ref (Ma 4), .ref (Ma 5), .ref (Ma 6), .int sv_142, .int sv_143, .int sv_144, .int (Mv 5), .int sv_145, .int sv_146, .int (Mv 8), .ref (Ma 7), .int sv_147, .ref (Ma 8), .int (Mv 10), .ref (Ma 9), .ref (Ma 10), .int (Mv 11), .int (Mv 12), .int (Mv 13), .ref (Ma 11), .int (Mv 14), .ref (Ma 12), .ref (Ma 13), .ref (Ma 14), .ref (Ma 15), .ref (Ma 16), .long (Mj 0), .ref (Ma 17), .ref (Ma 18), .ref (Ma 19), .ref (Ma 20)])), ((Ma 1), .inl (tc 2, 400, .inl (Mf 1))), ((Ma 2), .inl (tc 0, 2400, .inl sv_148)), ((Ma 3), .inl (tc 0, 7, .inl sv_149)), ((Ma 7), .inl (tc 0, 400, .inl sv_150))] H := hP₀
        replace hD : va_D A [((Ma 4), .inl (tc 0, 288, .inl g_180)), ((Ma 5), .inl (tc 0, 6, .inl g_199)), ((Ma 0), .inr (12, [.ref (Ma 1), .int (Mv 0), .int (Mv 1), .ref (Ma 2), .ref (Ma 3), .ref (Ma 4), .ref (Ma 5), .ref (Ma 6), .int sv_142, .int sv_143, .int sv_144, .int (Mv 5), .int sv_145, .int sv_146, .int (Mv 8), .ref (Ma 7), .int sv_147, .ref (Ma 8), .int (Mv 10), .ref (Ma 9), .ref (Ma 10), .int (Mv 11), .int (Mv 12), .int (Mv 13), .ref (Ma 11), .int (Mv 14), .ref (Ma 12), .ref (Ma 13), .ref (Ma 14), .ref (Ma 15), .ref (Ma 16), .long (Mj 0), .ref (Ma 17), .ref (Ma 18), .ref (Ma 19), .ref (Ma 20)])), ((Ma 1), .inl (tc 2, 400, .inl (Mf 1))), ((Ma 2), .inl (tc 0, 2400, .inl sv_148)), ((Ma 3), .inl (tc 0, 7, .inl sv_149)), ((Ma 7), .inl (tc 0, 400, .inl sv_150))] := hD₀
        replace hS := hS₀
        clear hP₀ hD₀ hS₀
        have hr_200 : (((Mf 3) (Mv 5).toNatClampNeg).toInt) ≤ ((sv_149 (Mv 5).toNatClampNeg).toInt) := by
          have z_1 : ¬ (r_37 : Int32).toInt = (0 : Int32).toInt := fun z => c_45 (Int32.toInt_inj.mp z)
          have z_2 : ¬ (r_81 : Int32).toInt = (0 : Int32).toInt := fun z => c_84 (Int32.toInt_inj.mp z)
          have z_3 : ¬ (r_154 : Int32).toInt = (0 : Int32).toInt := fun z => c_172 (Int32.toInt_inj.mp z)
          have y_0 : (0 : Int32).toInt = 0 := by decide
          omega
        have hy_201 : (x_197 : Int32).toInt = ((Mf 5) (Mv 5).toInt.toNat).toInt + 1 := by
          have z_1 : ¬ (r_37 : Int32).toInt = (0 : Int32).toInt := fun z => c_45 (Int32.toInt_inj.mp z)
          have z_2 : ¬ (r_81 : Int32).toInt = (0 : Int32).toInt := fun z => c_84 (Int32.toInt_inj.mp z)
          have z_3 : ¬ (r_154 : Int32).toInt = (0 : Int32).toInt := fun z => c_172 (Int32.toInt_inj.mp z)
          have y_0 : (0 : Int32).toInt = 0 := by decide
          have y_1 : (1 : Int32).toInt = 1 := by decide
          have t_x_197 : x_197.toInt = (x_196 : Int32).toInt + (1 : Int32).toInt := by rw [ex_197]; exact add_toInt (by omega) (by omega)
          omega
        have hw_202 : WFc sv_148 (Mv 5) (g_180 A0) (g_180 (A0 + 1)) := by
          have z0 : g_180 A0 = x_13 := pf_184
          have z1 : g_180 (A0 + 1) = x_50 := pf_188
          rw [z0, z1]
          exact pf_162
        have hb_203 : (g_180 (A0 + 1)).toInt ≤ ((sv_149 (Mv 5).toNatClampNeg).toInt) := by
          have z1 : g_180 (A0 + 1) = x_50 := pf_188
          rw [z1]
          have z_1 : ¬ (r_37 : Int32).toInt = (0 : Int32).toInt := fun z => c_45 (Int32.toInt_inj.mp z)
          have z_2 : ¬ (r_81 : Int32).toInt = (0 : Int32).toInt := fun z => c_84 (Int32.toInt_inj.mp z)
          have z_3 : ¬ (r_154 : Int32).toInt = (0 : Int32).toInt := fun z => c_172 (Int32.toInt_inj.mp z)
          have y_0 : (0 : Int32).toInt = 0 := by decide
          omega
        have hw_204 : 0 ≤ (g_180 (A0 + 2)).toInt → WFc sv_148 (Mv 5) (g_180 (A0 + 2)) (g_180 (A0 + 3)) ∧ (g_180 (A0 + 3)).toInt ≤ ((sv_149 (Mv 5).toNatClampNeg).toInt) := by
          have z2 : g_180 (A0 + 2) = x_119 := pf_190
          have z3 : g_180 (A0 + 3) = x_177 := pf_194
          rw [z2, z3]
          refine fun _ => ⟨pf_178, ?_⟩
          have z_1 : ¬ (r_37 : Int32).toInt = (0 : Int32).toInt := fun z => c_45 (Int32.toInt_inj.mp z)
          have z_2 : ¬ (r_81 : Int32).toInt = (0 : Int32).toInt := fun z => c_84 (Int32.toInt_inj.mp z)
          have z_3 : ¬ (r_154 : Int32).toInt = (0 : Int32).toInt := fun z => c_172 (Int32.toInt_inj.mp z)
          have y_0 : (0 : Int32).toInt = 0 := by decide
          omega
        have pf_205 : RulP sv_148 g_180 g_199 (Mv 5) ((sv_149 (Mv 5).toNatClampNeg).toInt) := by
          subst hA0
          exact RulP.snoc (RulP.mono pf_192 hr_200) h_t.1 eg_199 hy_201 hw_202 hb_203 hw_204
        have ar_pf_205 := pf_205.2.1
        have kc_g_199 : (g_199 (Mv 5).toInt.toNat).toInt = (x_197 : Int32).toInt := upd_toInt_at eg_199
        refine lv_iconst (v := 1) hx hb dX12_isBuyHere_140 (by decide) ?_
        have ha_206 : ((Mv 2) : Int32).toInt ≤ (sv_142 : Int32).toInt ∧ (sv_142 : Int32).toInt ≤ ((Mv 0) : Int32).toInt := by
          have z_1 : ¬ (r_37 : Int32).toInt = (0 : Int32).toInt := fun z => c_45 (Int32.toInt_inj.mp z)
          have z_2 : ¬ (r_81 : Int32).toInt = (0 : Int32).toInt := fun z => c_84 (Int32.toInt_inj.mp z)
          have z_3 : ¬ (r_154 : Int32).toInt = (0 : Int32).toInt := fun z => c_172 (Int32.toInt_inj.mp z)
          have y_0 : (0 : Int32).toInt = 0 := by decide
          refine ⟨?_, ?_⟩ <;> omega
        have ha_207 : ((Mv 6) : Int32).toInt ≤ (sv_145 : Int32).toInt ∧ (sv_145 : Int32).toInt ≤ 60 := by
          have z_1 : ¬ (r_37 : Int32).toInt = (0 : Int32).toInt := fun z => c_45 (Int32.toInt_inj.mp z)
          have z_2 : ¬ (r_81 : Int32).toInt = (0 : Int32).toInt := fun z => c_84 (Int32.toInt_inj.mp z)
          have z_3 : ¬ (r_154 : Int32).toInt = (0 : Int32).toInt := fun z => c_172 (Int32.toInt_inj.mp z)
          have y_0 : (0 : Int32).toInt = 0 := by decide
          refine ⟨?_, ?_⟩ <;> omega
        have hp_208 : (((1 : Int32).toInt = 0 ∧ ¬ (sv_143 : Int32).toInt = 0) ∨ ((1 : Int32).toInt = 1 ∧ 0 ≤ (sv_149 (Mv 5).toNatClampNeg).toInt ∧ (sv_149 (Mv 5).toNatClampNeg).toInt ≤ (sv_142 : Int32).toInt ∧ (g_199 (Mv 5).toInt.toNat).toInt = ((Mf 5) (Mv 5).toInt.toNat).toInt + 1)) := by
          have z_1 : ¬ (r_37 : Int32).toInt = (0 : Int32).toInt := fun z => c_45 (Int32.toInt_inj.mp z)
          have z_2 : ¬ (r_81 : Int32).toInt = (0 : Int32).toInt := fun z => c_84 (Int32.toInt_inj.mp z)
          have z_3 : ¬ (r_154 : Int32).toInt = (0 : Int32).toInt := fun z => c_172 (Int32.toInt_inj.mp z)
          have y_0 : (0 : Int32).toInt = 0 := by decide
          have y_1 : (1 : Int32).toInt = 1 := by decide
          have yr : (1 : Int32).toInt = 1 := by decide
          omega
        have hm_209 : (1 : Int32).toInt = 1 → (RulP sv_148 g_180 g_199 (Mv 5) ((sv_149 (Mv 5).toNatClampNeg).toInt)) := by
          intro h1r
          exact pf_205
        exact retI (v := 1) hx hb hr hlk (rfl) hP hD hS (sv_142, sv_143, sv_144, sv_145, sv_146, sv_147, sv_148, sv_149, g_180, g_199, sv_150) ⟨_, rfl, hp_208, ha_206, ha_207, pf_205.1, hm_209⟩ [2, 3, 4, 5, 0, 1, 6] rfl rfl dX12_isBuyHere_141 (Nat.le_of_ble_eq_true rfl) (Nat.le_of_ble_eq_true rfl) rfl
      · skip
        refine lv_iconst (v := 0) hx hb dX12_isBuyHere_108 (by decide) ?_
        have ha_210 : ((Mv 2) : Int32).toInt ≤ (sv_142 : Int32).toInt ∧ (sv_142 : Int32).toInt ≤ ((Mv 0) : Int32).toInt := by
          have z_1 : ¬ (r_37 : Int32).toInt = (0 : Int32).toInt := fun z => c_45 (Int32.toInt_inj.mp z)
          have z_2 : ¬ (r_81 : Int32).toInt = (0 : Int32).toInt := fun z => c_84 (Int32.toInt_inj.mp z)
          have z_3 := congrArg Int32.toInt c_172
          have y_0 : (0 : Int32).toInt = 0 := by decide
          refine ⟨?_, ?_⟩ <;> omega
        have ha_211 : ((Mv 6) : Int32).toInt ≤ (sv_145 : Int32).toInt ∧ (sv_145 : Int32).toInt ≤ 60 := by
          have z_1 : ¬ (r_37 : Int32).toInt = (0 : Int32).toInt := fun z => c_45 (Int32.toInt_inj.mp z)
          have z_2 : ¬ (r_81 : Int32).toInt = (0 : Int32).toInt := fun z => c_84 (Int32.toInt_inj.mp z)
          have z_3 := congrArg Int32.toInt c_172
          have y_0 : (0 : Int32).toInt = 0 := by decide
          refine ⟨?_, ?_⟩ <;> omega
        have hp_212 : (((0 : Int32).toInt = 0 ∧ ¬ (sv_143 : Int32).toInt = 0) ∨ ((0 : Int32).toInt = 1 ∧ 0 ≤ (sv_149 (Mv 5).toNatClampNeg).toInt ∧ (sv_149 (Mv 5).toNatClampNeg).toInt ≤ (sv_142 : Int32).toInt ∧ ((Mf 5) (Mv 5).toInt.toNat).toInt = ((Mf 5) (Mv 5).toInt.toNat).toInt + 1)) := by
          have z_1 : ¬ (r_37 : Int32).toInt = (0 : Int32).toInt := fun z => c_45 (Int32.toInt_inj.mp z)
          have z_2 : ¬ (r_81 : Int32).toInt = (0 : Int32).toInt := fun z => c_84 (Int32.toInt_inj.mp z)
          have z_3 := congrArg Int32.toInt c_172
          have y_0 : (0 : Int32).toInt = 0 := by decide
          omega
        exact retI (v := 0) hx hb hr hlk (rfl) hP hD hS (sv_142, sv_143, sv_144, sv_145, sv_146, sv_147, sv_148, sv_149, g_122, (Mf 5), sv_150) ⟨_, rfl, hp_212, ha_210, ha_211, pf_170.1, (fun h => absurd h (by decide))⟩ [2, 3, 4, 5, 0, 1, 6] rfl rfl dX12_isBuyHere_109 (Nat.le_of_ble_eq_true rfl) (Nat.le_of_ble_eq_true rfl) rfl
  · skip
    refine lv_iconst (v := 0) hx hb dX12_isBuyHere_46 (by decide) ?_
    have ha_213 : ((Mv 2) : Int32).toInt ≤ (sv_28 : Int32).toInt ∧ (sv_28 : Int32).toInt ≤ ((Mv 0) : Int32).toInt := by
      have z_1 := congrArg Int32.toInt c_45
      have y_0 : (0 : Int32).toInt = 0 := by decide
      refine ⟨?_, ?_⟩ <;> omega
    have hp_214 : (((0 : Int32).toInt = 0 ∧ ¬ (sv_29 : Int32).toInt = 0) ∨ ((0 : Int32).toInt = 1 ∧ 0 ≤ (sv_33 (Mv 5).toNatClampNeg).toInt ∧ (sv_33 (Mv 5).toNatClampNeg).toInt ≤ (sv_28 : Int32).toInt ∧ ((Mf 5) (Mv 5).toInt.toNat).toInt = ((Mf 5) (Mv 5).toInt.toNat).toInt + 1)) := by
      have z_1 := congrArg Int32.toInt c_45
      have y_0 : (0 : Int32).toInt = 0 := by decide
      omega
    exact retI (v := 0) hx hb hr hlk (rfl) hP hD hS (sv_28, sv_29, sv_30, sv_31, (Mv 7), (Mv 9), sv_32, sv_33, g_15, (Mf 5), (Mf 7)) ⟨_, rfl, hp_214, ha_213, pf_35, pf_43.1, (fun h => absurd h (by decide))⟩ [3, 4, 5, 6, 0, 1, 2] rfl rfl dX12_isBuyHere_47 (Nat.le_of_ble_eq_true rfl) (Nat.le_of_ble_eq_true rfl) rfl
set_option maxRecDepth 100000 in
theorem cu_X12_isBuyHere (l : Launch) (D : va_G) (tc : Nat → ClassId) (sk : (Nat → Nat) × (Nat → Nat)) (Ma_0 : Nat) (Ma_1 : Nat) (Ma_2 : Nat) (Ma_3 : Nat) (Ma_4 : Nat) (Ma_5 : Nat) (Ma_6 : Nat) (Ma_7 : Nat) (Ma_8 : Nat) (Ma_9 : Nat) (Ma_10 : Nat) (Ma_11 : Nat) (Ma_12 : Nat) (Ma_13 : Nat) (Ma_14 : Nat) (Ma_15 : Nat) (Ma_16 : Nat) (Ma_17 : Nat) (Ma_18 : Nat) (Ma_19 : Nat) (Ma_20 : Nat) (Mv_0 : Int32) (Mv_1 : Int32) (Mv_2 : Int32) (Mv_3 : Int32) (Mv_4 : Int32) (Mv_5 : Int32) (Mv_6 : Int32) (Mv_7 : Int32) (Mv_8 : Int32) (Mv_9 : Int32) (Mv_10 : Int32) (Mv_11 : Int32) (Mv_12 : Int32) (Mv_13 : Int32) (Mv_14 : Int32) (Mf_1 : Nat → Int32) (Mf_2 : Nat → Int32) (Mf_3 : Nat → Int32) (Mf_4 : Nat → Int32) (Mf_5 : Nat → Int32) (Mf_7 : Nat → Int32) (Mj_0 : Int64) (h_nx : 0 ≤ (Mv_2 : Int32).toInt ∧ (Mv_2 : Int32).toInt ≤ (Mv_0 : Int32).toInt ∧ (Mv_0 : Int32).toInt ≤ 400) (h_md : 0 ≤ (Mv_6 : Int32).toInt ∧ (Mv_6 : Int32).toInt ≤ 60) (h_t : 0 ≤ (Mv_5 : Int32).toInt ∧ (Mv_5 : Int32).toInt ≤ 5) (h_L : 0 ≤ (Mf_3 Mv_5.toNatClampNeg).toInt ∧ (Mf_3 Mv_5.toNatClampNeg).toInt ≤ (Mv_2 : Int32).toInt) (h_rp : RulP Mf_2 Mf_4 Mf_5 Mv_5 ((Mf_3 Mv_5.toNatClampNeg).toInt)) (h_c : (Mf_5 Mv_5.toInt.toNat).toInt + 1 = (Mv_8 : Int32).toInt ∧ (Mv_8 : Int32).toInt ≤ 12) : Ct l yX12_isBuyHere cX12_isBuyHere 2 (some .boolean) { frames := 9, cells := 0, slots := 0, locals := 198 } D tc sk [.ref Ma_0] [(Ma_0, .inr (12, [.ref Ma_1, .int Mv_0, .int Mv_1, .ref Ma_2, .ref Ma_3, .ref Ma_4, .ref Ma_5, .ref Ma_6, .int Mv_2, .int Mv_3, .int Mv_4, .int Mv_5, .int Mv_6, .int Mv_7, .int Mv_8, .ref Ma_7, .int Mv_9, .ref Ma_8, .int Mv_10, .ref Ma_9, .ref Ma_10, .int Mv_11, .int Mv_12, .int Mv_13, .ref Ma_11, .int Mv_14, .ref Ma_12, .ref Ma_13, .ref Ma_14, .ref Ma_15, .ref Ma_16, .long Mj_0, .ref Ma_17, .ref Ma_18, .ref Ma_19, .ref Ma_20])), (Ma_1, .inl (tc 2, 400, .inl Mf_1)), (Ma_2, .inl (tc 0, 2400, .inl Mf_2)), (Ma_3, .inl (tc 0, 7, .inl Mf_3)), (Ma_4, .inl (tc 0, 288, .inl Mf_4)), (Ma_5, .inl (tc 0, 6, .inl Mf_5)), (Ma_7, .inl (tc 0, 400, .inl Mf_7))] (fun (v : Option Value) (u : (Int32) × (Int32) × (Int32) × (Int32) × (Int32) × (Int32) × (Nat → Int32) × (Nat → Int32) × (Nat → Int32) × (Nat → Int32) × (Nat → Int32)) => match u with | (oo0x1, oo0x2, oo0x3, oo0x4, oo0x5, oo0x6, oo0x7, oo0x8, oo0x9, oo0x10, oo0x11) => ∃ r : Int32, v = some (.int r) ∧ (((r.toInt = 0 ∧ ¬ (oo0x2 : Int32).toInt = 0) ∨ (r.toInt = 1 ∧ 0 ≤ (oo0x8 Mv_5.toNatClampNeg).toInt ∧ (oo0x8 Mv_5.toNatClampNeg).toInt ≤ (oo0x1 : Int32).toInt ∧ (oo0x10 Mv_5.toInt.toNat).toInt = (Mf_5 Mv_5.toInt.toNat).toInt + 1))) ∧ ((Mv_2 : Int32).toInt ≤ (oo0x1 : Int32).toInt ∧ (oo0x1 : Int32).toInt ≤ (Mv_0 : Int32).toInt) ∧ ((Mv_6 : Int32).toInt ≤ (oo0x4 : Int32).toInt ∧ (oo0x4 : Int32).toInt ≤ 60) ∧ (RulD oo0x7 oo0x9 oo0x10 Mv_5) ∧ (r.toInt = 1 → (RulP oo0x7 oo0x9 oo0x10 Mv_5 ((oo0x8 Mv_5.toNatClampNeg).toInt)))) (fun (u : (Int32) × (Int32) × (Int32) × (Int32) × (Int32) × (Int32) × (Nat → Int32) × (Nat → Int32) × (Nat → Int32) × (Nat → Int32) × (Nat → Int32)) => match u with | (oo0x1, oo0x2, oo0x3, oo0x4, oo0x5, oo0x6, oo0x7, oo0x8, oo0x9, oo0x10, oo0x11) => [(Ma_0, .inr (12, [.ref Ma_1, .int Mv_0, .int Mv_1, .ref Ma_2, .ref Ma_3, .ref Ma_4, .ref Ma_5, .ref Ma_6, .int oo0x1, .int oo0x2, .int oo0x3, .int Mv_5, .int oo0x4, .int oo0x5, .int Mv_8, .ref Ma_7, .int oo0x6, .ref Ma_8, .int Mv_10, .ref Ma_9, .ref Ma_10, .int Mv_11, .int Mv_12, .int Mv_13, .ref Ma_11, .int Mv_14, .ref Ma_12, .ref Ma_13, .ref Ma_14, .ref Ma_15, .ref Ma_16, .long Mj_0, .ref Ma_17, .ref Ma_18, .ref Ma_19, .ref Ma_20])), (Ma_1, .inl (tc 2, 400, .inl Mf_1)), (Ma_2, .inl (tc 0, 2400, .inl oo0x7)), (Ma_3, .inl (tc 0, 7, .inl oo0x8)), (Ma_4, .inl (tc 0, 288, .inl oo0x9)), (Ma_5, .inl (tc 0, 6, .inl oo0x10)), (Ma_7, .inl (tc 0, 400, .inl oo0x11))]) 0 0 :=
  ct_X12_isBuyHere l D tc sk (fun k => ([Ma_0, Ma_1, Ma_2, Ma_3, Ma_4, Ma_5, Ma_6, Ma_7, Ma_8, Ma_9, Ma_10, Ma_11, Ma_12, Ma_13, Ma_14, Ma_15, Ma_16, Ma_17, Ma_18, Ma_19, Ma_20] : List (Nat)).getD k 0) (fun k => ([Mv_0, Mv_1, Mv_2, Mv_3, Mv_4, Mv_5, Mv_6, Mv_7, Mv_8, Mv_9, Mv_10, Mv_11, Mv_12, Mv_13, Mv_14] : List (Int32)).getD k 0) (fun k => ([(fun _ => 0), Mf_1, Mf_2, Mf_3, Mf_4, Mf_5, (fun _ => 0), Mf_7] : List (Nat → Int32)).getD k (fun _ => 0)) (fun k => ([Mj_0] : List (Int64)).getD k 0) h_nx h_md h_t h_L h_rp h_c
set_option maxHeartbeats 4000000 in
set_option maxRecDepth 100000 in
theorem ct_X12_clauseHere_r (l : Launch) (D : va_G) (tc : Nat → ClassId) (sk : (Nat → Nat) × (Nat → Nat)) (Ma : Nat → Nat) (Mv : Nat → Int32) (Mf : Nat → Nat → Int32) (Mj : Nat → Int64) (h_nx : 0 ≤ ((Mv 2) : Int32).toInt ∧ ((Mv 2) : Int32).toInt ≤ ((Mv 0) : Int32).toInt ∧ ((Mv 0) : Int32).toInt ≤ 400) (h_md : 0 ≤ ((Mv 6) : Int32).toInt ∧ ((Mv 6) : Int32).toInt ≤ 60) (h_t : 0 ≤ ((Mv 5) : Int32).toInt ∧ ((Mv 5) : Int32).toInt ≤ 5) (h_L : 0 ≤ ((Mf 3) (Mv 5).toNatClampNeg).toInt ∧ ((Mf 3) (Mv 5).toNatClampNeg).toInt ≤ ((Mv 2) : Int32).toInt) (h_rp : RulP (Mf 2) (Mf 4) (Mf 5) (Mv 5) (((Mf 3) (Mv 5).toNatClampNeg).toInt)) (h_c : ((Mf 5) (Mv 5).toInt.toNat).toInt = ((Mv 8) : Int32).toInt ∧ 0 ≤ ((Mv 8) : Int32).toInt ∧ ((Mv 8) : Int32).toInt ≤ 12) : Ct l yX12_clauseHere cX12_clauseHere 3 (some .boolean) { frames := 10, cells := 0, slots := 0, locals := 219 } D tc sk [.ref (Ma 0)] [((Ma 0), .inr (12, [.ref (Ma 1), .int (Mv 0), .int (Mv 1), .ref (Ma 2), .ref (Ma 3), .ref (Ma 4), .ref (Ma 5), .ref (Ma 6), .int (Mv 2), .int (Mv 3), .int (Mv 4), .int (Mv 5), .int (Mv 6), .int (Mv 7), .int (Mv 8), .ref (Ma 7), .int (Mv 9), .ref (Ma 8), .int (Mv 10), .ref (Ma 9), .ref (Ma 10), .int (Mv 11), .int (Mv 12), .int (Mv 13), .ref (Ma 11), .int (Mv 14), .ref (Ma 12), .ref (Ma 13), .ref (Ma 14), .ref (Ma 15), .ref (Ma 16), .long (Mj 0), .ref (Ma 17), .ref (Ma 18), .ref (Ma 19), .ref (Ma 20)])), ((Ma 1), .inl (tc 2, 400, .inl (Mf 1))), ((Ma 2), .inl (tc 0, 2400, .inl (Mf 2))), ((Ma 3), .inl (tc 0, 7, .inl (Mf 3))), ((Ma 4), .inl (tc 0, 288, .inl (Mf 4))), ((Ma 5), .inl (tc 0, 6, .inl (Mf 5))), ((Ma 7), .inl (tc 0, 400, .inl (Mf 7)))] (fun (v : Option Value) (u : (Int32) × (Int32) × (Int32) × (Int32) × (Int32) × (Int32) × (Int32) × (Nat → Int32) × (Nat → Int32) × (Nat → Int32) × (Nat → Int32) × (Nat → Int32)) => match u with | (oo0x1, oo0x2, oo0x3, oo0x4, oo0x5, oo0x6, oo0x7, oo0x8, oo0x9, oo0x10, oo0x11, oo0x12) => ∃ r : Int32, v = some (.int r) ∧ (((r.toInt = 0 ∧ ¬ (oo0x2 : Int32).toInt = 0) ∨ (r.toInt = 1 ∧ 0 ≤ (oo0x9 (Mv 5).toNatClampNeg).toInt ∧ (oo0x9 (Mv 5).toNatClampNeg).toInt ≤ (oo0x1 : Int32).toInt ∧ (oo0x11 (Mv 5).toInt.toNat).toInt = (oo0x6 : Int32).toInt ∧ 0 ≤ (oo0x6 : Int32).toInt ∧ (oo0x6 : Int32).toInt ≤ 12))) ∧ (((Mv 2) : Int32).toInt ≤ (oo0x1 : Int32).toInt ∧ (oo0x1 : Int32).toInt ≤ ((Mv 0) : Int32).toInt) ∧ (((Mv 6) : Int32).toInt ≤ (oo0x4 : Int32).toInt ∧ (oo0x4 : Int32).toInt ≤ 60) ∧ (RulD oo0x8 oo0x10 oo0x11 (Mv 5)) ∧ (r.toInt = 1 → (RulP oo0x8 oo0x10 oo0x11 (Mv 5) ((oo0x9 (Mv 5).toNatClampNeg).toInt)))) (fun (u : (Int32) × (Int32) × (Int32) × (Int32) × (Int32) × (Int32) × (Int32) × (Nat → Int32) × (Nat → Int32) × (Nat → Int32) × (Nat → Int32) × (Nat → Int32)) => match u with | (oo0x1, oo0x2, oo0x3, oo0x4, oo0x5, oo0x6, oo0x7, oo0x8, oo0x9, oo0x10, oo0x11, oo0x12) => [((Ma 0), .inr (12, [.ref (Ma 1), .int (Mv 0), .int (Mv 1), .ref (Ma 2), .ref (Ma 3), .ref (Ma 4), .ref (Ma 5), .ref (Ma 6), .int oo0x1, .int oo0x2, .int oo0x3, .int (Mv 5), .int oo0x4, .int oo0x5, .int oo0x6, .ref (Ma 7), .int oo0x7, .ref (Ma 8), .int (Mv 10), .ref (Ma 9), .ref (Ma 10), .int (Mv 11), .int (Mv 12), .int (Mv 13), .ref (Ma 11), .int (Mv 14), .ref (Ma 12), .ref (Ma 13), .ref (Ma 14), .ref (Ma 15), .ref (Ma 16), .long (Mj 0), .ref (Ma 17), .ref (Ma 18), .ref (Ma 19), .ref (Ma 20)])), ((Ma 1), .inl (tc 2, 400, .inl (Mf 1))), ((Ma 2), .inl (tc 0, 2400, .inl oo0x8)), ((Ma 3), .inl (tc 0, 7, .inl oo0x9)), ((Ma 4), .inl (tc 0, 288, .inl oo0x10)), ((Ma 5), .inl (tc 0, 6, .inl oo0x11)), ((Ma 7), .inl (tc 0, 400, .inl oo0x12))]) 0 0 := by
  refine Ct.start (by decide) (Nat.le_of_ble_eq_true rfl) (fun p e s m below meth c A ls hx hb hr hlk hin hml hown hts hK hX hP hD hA hl hS => ?_)
  have hl : lv_has ls 3 [(0, .ref (Ma 0))] := hl
  have ar_h_rp := h_rp.2.1
  refine lv_aload_n hx hb dX12_clauseHere_0 rfl (lv_at hl 0 rfl) ?_
  refine cV (a := (Ma 0)) (As := []) (rest := []) (wr := [((Ma 2), .inl (tc 0, 2400, .inl (Mf 2))), ((Ma 3), .inl (tc 0, 7, .inl (Mf 3))), ((Ma 4), .inl (tc 0, 288, .inl (Mf 4))), ((Ma 5), .inl (tc 0, 6, .inl (Mf 5))), ((Ma 7), .inl (tc 0, 400, .inl (Mf 7)))]) ⟨hx, hb, hml, hown, hts⟩ hK hX hA (cu_X12_see l D tc sk (Ma 0) (Ma 1) (Ma 2) (Ma 3) (Ma 4) (Ma 5) (Ma 6) (Ma 7) (Ma 8) (Ma 9) (Ma 10) (Ma 11) (Ma 12) (Ma 13) (Ma 14) (Ma 15) (Ma 16) (Ma 17) (Ma 18) (Ma 19) (Ma 20) (Mv 0) (Mv 1) (Mv 2) (Mv 3) (Mv 4) (Mv 5) (Mv 6) (Mv 7) (Mv 8) (Mv 9) (Mv 10) (Mv 11) (Mv 12) (Mv 13) (Mv 14) (Mf 1) (Mj 0) h_nx) k_1211 k_1208 k_1210 k_27 k_106 pl_X12_see ⟨Nat.le_of_ble_eq_true rfl, Nat.le_of_ble_eq_true rfl⟩ rfl rfl (va_recv hK hP (ci := 12) (q0 := 0) rfl rfl) hP hD hS [0, 1] [2, 3, 4, 5, 6] rfl rfl rfl rfl rfl (by decide) rfl hl.1 rfl (Nat.le_of_ble_eq_true rfl) dX12_clauseHere_1 ⟨Nat.le_of_ble_eq_true rfl, Nat.le_of_ble_eq_true rfl⟩ (fun v_1 u_2 H locs hv_3 hP₀ hD₀ hS₀ => ?_)
  obtain ⟨sv_4, rfl⟩ : ∃ z, z = u_2 := ⟨_, rfl⟩
  obtain ⟨r_8, rfl, he_9, pf_5, pf_6, pf_7⟩ := hv_3
  have he_9 : (r_8.toInt = -1 ∨ (sv_4 : Int32).toInt < ((Mv 0) : Int32).toInt) := he_9
  have pf_5 : ((Mv 2) : Int32).toInt ≤ (sv_4 : Int32).toInt ∧ (sv_4 : Int32).toInt ≤ ((Mv 0) : Int32).toInt := pf_5
  have pf_6 : NSq (Mf 1) (Mv 0) sv_4 := pf_6
  have pf_7 : Stl (Mf 1) (Mv 0) (Mv 2) sv_4 := pf_7
  refine W.eq (g2 := F0 m 4 ls [.int r_8]) rfl ?_
  replace hP : va_P D classes [((Ma 2), .inl (tc 0, 2400, .inl (Mf 2))), ((Ma 3), .inl (tc 0, 7, .inl (Mf 3))), ((Ma 4), .inl (tc 0, 288, .inl (Mf 4))), ((Ma 5), .inl (tc 0, 6, .inl (Mf 5))), ((Ma 7), .inl (tc 0, 400, .inl (Mf 7))), ((Ma 0), .inr (12, [.ref (Ma 1), .int (Mv 0), .int (Mv 1), .ref (Ma 2), .ref (Ma 3), .ref (Ma 4), .ref (Ma 5), .ref (Ma 6), .int sv_4, .int (Mv 3), .int (Mv 4), .int (Mv 5), .int (Mv 6), .int (Mv 7), .int (Mv 8), .ref (Ma 7), .int (Mv 9), .ref (Ma 8), .int (Mv 10), .ref (Ma 9), .ref (Ma 10), .int (Mv 11), .int (Mv 12), .int (Mv 13), .ref (Ma 11), .int (Mv 14), .ref (Ma 12), .ref (Ma 13), .ref (Ma 14), .ref (Ma 15), .ref (Ma 16), .long (Mj 0), .ref (Ma 17), .ref (Ma 18), .ref (Ma 19), .ref (Ma 20)])), ((Ma 1), .inl (tc 2, 400, .inl (Mf 1)))] H := hP₀
  replace hD : va_D A [((Ma 2), .inl (tc 0, 2400, .inl (Mf 2))), ((Ma 3), .inl (tc 0, 7, .inl (Mf 3))), ((Ma 4), .inl (tc 0, 288, .inl (Mf 4))), ((Ma 5), .inl (tc 0, 6, .inl (Mf 5))), ((Ma 7), .inl (tc 0, 400, .inl (Mf 7))), ((Ma 0), .inr (12, [.ref (Ma 1), .int (Mv 0), .int (Mv 1), .ref (Ma 2), .ref (Ma 3), .ref (Ma 4), .ref (Ma 5), .ref (Ma 6), .int sv_4, .int (Mv 3), .int (Mv 4), .int (Mv 5), .int (Mv 6), .int (Mv 7), .int (Mv 8), .ref (Ma 7), .int (Mv 9), .ref (Ma 8), .int (Mv 10), .ref (Ma 9), .ref (Ma 10), .int (Mv 11), .int (Mv 12), .int (Mv 13), .ref (Ma 11), .int (Mv 14), .ref (Ma 12), .ref (Ma 13), .ref (Ma 14), .ref (Ma 15), .ref (Ma 16), .long (Mj 0), .ref (Ma 17), .ref (Ma 18), .ref (Ma 19), .ref (Ma 20)])), ((Ma 1), .inl (tc 2, 400, .inl (Mf 1)))] := hD₀
  replace hS := hS₀
  clear hP₀ hD₀ hS₀
  refine lv_pop hx hb dX12_clauseHere_4 rfl ?_
  refine lv_aload_n hx hb dX12_clauseHere_5 rfl (lv_at hl 0 rfl) ?_
  refine gf_X12_87 hx hb hts hown hK hP 5 rfl rfl dX12_clauseHere_6 ?_
  refine lv_istore_n (lv' := [(1, .int sv_4), (0, .ref (Ma 0))]) hx hb dX12_clauseHere_9 rfl hl (by decide) rfl (fun ls hl₀ => ?_)
  replace hl := hl₀
  clear hl₀
  refine lv_aload_n hx hb dX12_clauseHere_10 rfl (lv_at hl 1 rfl) ?_
  refine gf_X12_145 hx hb hts hown hK hP 5 rfl rfl dX12_clauseHere_11 ?_
  refine lv_bipush (v := 6) hx hb dX12_clauseHere_14 (by decide) ?_
  refine lv_icmp_ne (tgt := 23) hx hb dX12_clauseHere_16 (by decide) (fun c_11 => ?_) (fun c_11 => ?_)
  · skip
    refine lv_iconst (v := 0) hx hb dX12_clauseHere_23 (by decide) ?_
    refine lv_istore_n (lv' := [(2, .int 0), (1, .int sv_4), (0, .ref (Ma 0))]) hx hb dX12_clauseHere_24 rfl hl (by decide) rfl (fun ls hl₀ => ?_)
    replace hl := hl₀
    clear hl₀
    refine lv_iload_n hx hb dX12_clauseHere_25 rfl (lv_at hl 0 rfl) ?_
    refine lv_if_eq (tgt := 39) hx hb dX12_clauseHere_26 (by decide) (fun c_12 => ?_) (fun c_12 => absurd c_12 (by decide))
    refine lv_aload_n hx hb dX12_clauseHere_39 rfl (lv_at hl 2 rfl) ?_
    refine lv_ldc2 hx hb hown (hts _ k_1228) dX12_clauseHere_40 ?_
    have ha_13 : 0 ≤ (sv_4 : Int32).toInt ∧ (sv_4 : Int32).toInt ≤ ((Mv 0) : Int32).toInt ∧ ((Mv 0) : Int32).toInt ≤ 400 := by
      have z_1 : ¬ ((Mv 5) : Int32).toInt = (6 : Int32).toInt := fun z => c_11 (Int32.toInt_inj.mp z)
      have y_6 : (6 : Int32).toInt = 6 := by decide
      refine ⟨?_, ?_, ?_⟩ <;> omega
    refine cV (a := (Ma 0)) (As := [.long 6452601]) (rest := []) (wr := [((Ma 2), .inl (tc 0, 2400, .inl (Mf 2))), ((Ma 3), .inl (tc 0, 7, .inl (Mf 3))), ((Ma 4), .inl (tc 0, 288, .inl (Mf 4))), ((Ma 5), .inl (tc 0, 6, .inl (Mf 5))), ((Ma 7), .inl (tc 0, 400, .inl (Mf 7)))]) ⟨hx, hb, hml, hown, hts⟩ hK hX hA (cu_X12_isWord l D tc sk (Ma 0) (Ma 1) (Ma 2) (Ma 3) (Ma 4) (Ma 5) (Ma 6) (Ma 7) (Ma 8) (Ma 9) (Ma 10) (Ma 11) (Ma 12) (Ma 13) (Ma 14) (Ma 15) (Ma 16) (Ma 17) (Ma 18) (Ma 19) (Ma 20) (Mv 0) (Mv 1) sv_4 (Mv 3) (Mv 4) (Mv 5) (Mv 6) (Mv 7) (Mv 8) (Mv 9) (Mv 10) (Mv 11) (Mv 12) (Mv 13) (Mv 14) (Mf 1) (Mj 0) 6452601 ha_13) k_1220 k_1217 k_1219 k_29 k_106 pl_X12_isWord ⟨Nat.le_of_ble_eq_true rfl, Nat.le_of_ble_eq_true rfl⟩ rfl rfl (va_recv hK hP (ci := 12) (q0 := 5) rfl rfl) hP hD hS [5, 6] [0, 1, 2, 3, 4] rfl rfl rfl rfl rfl (by decide) rfl hl.1 rfl (Nat.le_of_ble_eq_true rfl) dX12_clauseHere_43 ⟨Nat.le_of_ble_eq_true rfl, Nat.le_of_ble_eq_true rfl⟩ (fun v_14 u_15 H locs hv_16 hP₀ hD₀ hS₀ => ?_)
    obtain ⟨sv_17, rfl⟩ : ∃ z, z = u_15 := ⟨_, rfl⟩
    obtain ⟨r_21, rfl, he_22, pf_18, pf_19, pf_20, hm_24⟩ := hv_16
    have he_22 : (r_21.toInt = 0 ∨ r_21.toInt = 1) := he_22
    have pf_18 : (sv_4 : Int32).toInt ≤ (sv_17 : Int32).toInt ∧ (sv_17 : Int32).toInt ≤ ((Mv 0) : Int32).toInt := pf_18
    have pf_19 : NSq (Mf 1) (Mv 0) sv_17 := pf_19
    have pf_20 : Stl (Mf 1) (Mv 0) sv_4 sv_17 := pf_20
    have ar_pf_20 := Stl.or pf_20 pf_6
    refine W.eq (g2 := F0 m 46 ls [.int r_21]) rfl ?_
    replace hP : va_P D classes [((Ma 2), .inl (tc 0, 2400, .inl (Mf 2))), ((Ma 3), .inl (tc 0, 7, .inl (Mf 3))), ((Ma 4), .inl (tc 0, 288, .inl (Mf 4))), ((Ma 5), .inl (tc 0, 6, .inl (Mf 5))), ((Ma 7), .inl (tc 0, 400, .inl (Mf 7))), ((Ma 0), .inr (12, [.ref (Ma 1), .int (Mv 0), .int (Mv 1), .ref (Ma 2), .ref (Ma 3), .ref (Ma 4), .ref (Ma 5), .ref (Ma 6), .int sv_17, .int (Mv 3), .int (Mv 4), .int (Mv 5), .int (Mv 6), .int (Mv 7), .int (Mv 8), .ref (Ma 7), .int (Mv 9), .ref (Ma 8), .int (Mv 10), .ref (Ma 9), .ref (Ma 10), .int (Mv 11), .int (Mv 12), .int (Mv 13), .ref (Ma 11), .int (Mv 14), .ref (Ma 12), .ref (Ma 13), .ref (Ma 14), .ref (Ma 15), .ref (Ma 16), .long (Mj 0), .ref (Ma 17), .ref (Ma 18), .ref (Ma 19), .ref (Ma 20)])), ((Ma 1), .inl (tc 2, 400, .inl (Mf 1)))] H := hP₀
    replace hD : va_D A [((Ma 2), .inl (tc 0, 2400, .inl (Mf 2))), ((Ma 3), .inl (tc 0, 7, .inl (Mf 3))), ((Ma 4), .inl (tc 0, 288, .inl (Mf 4))), ((Ma 5), .inl (tc 0, 6, .inl (Mf 5))), ((Ma 7), .inl (tc 0, 400, .inl (Mf 7))), ((Ma 0), .inr (12, [.ref (Ma 1), .int (Mv 0), .int (Mv 1), .ref (Ma 2), .ref (Ma 3), .ref (Ma 4), .ref (Ma 5), .ref (Ma 6), .int sv_17, .int (Mv 3), .int (Mv 4), .int (Mv 5), .int (Mv 6), .int (Mv 7), .int (Mv 8), .ref (Ma 7), .int (Mv 9), .ref (Ma 8), .int (Mv 10), .ref (Ma 9), .ref (Ma 10), .int (Mv 11), .int (Mv 12), .int (Mv 13), .ref (Ma 11), .int (Mv 14), .ref (Ma 12), .ref (Ma 13), .ref (Ma 14), .ref (Ma 15), .ref (Ma 16), .long (Mj 0), .ref (Ma 17), .ref (Ma 18), .ref (Ma 19), .ref (Ma 20)])), ((Ma 1), .inl (tc 2, 400, .inl (Mf 1)))] := hD₀
    replace hS := hS₀
    clear hP₀ hD₀ hS₀
    refine lv_if_ne (tgt := 56) hx hb dX12_clauseHere_46 (by decide) (fun c_25 => ?_) (fun c_25 => ?_)
    · skip
      have hz_27 : (r_21 : Int32).toInt = 1 := by
        have z_1 : ¬ ((Mv 5) : Int32).toInt = (6 : Int32).toInt := fun z => c_11 (Int32.toInt_inj.mp z)
        have z_2 : ¬ (r_21 : Int32).toInt = (0 : Int32).toInt := fun z => c_25 (Int32.toInt_inj.mp z)
        have y_0 : (0 : Int32).toInt = 0 := by decide
        have y_6 : (6 : Int32).toInt = 6 := by decide
        omega
      obtain pf_26 := hm_24 hz_27
      have pf_26 : Ltr (Mf 1) (Mv 0) sv_17 := pf_26
      have ar_pf_26 := pf_26.1
      refine lv_aload_n hx hb dX12_clauseHere_56 rfl (lv_at hl 2 rfl) ?_
      refine gf_X12_244 hx hb hts hown hK hP 5 rfl rfl dX12_clauseHere_57 ?_
      refine lv_iload_n hx hb dX12_clauseHere_60 rfl (lv_at hl 0 rfl) ?_
      refine lv_if_eq (tgt := 69) hx hb dX12_clauseHere_61 (by decide) (fun c_28 => ?_) (fun c_28 => absurd c_28 (by decide))
      refine lv_bipush (v := 12) hx hb dX12_clauseHere_69 (by decide) ?_
      refine lv_icmp_ne (tgt := 81) hx hb dX12_clauseHere_71 (by decide) (fun c_29 => ?_) (fun c_29 => ?_)
      · skip
        refine lv_aload_n hx hb dX12_clauseHere_81 rfl (lv_at hl 2 rfl) ?_
        refine lv_dup hx hb dX12_clauseHere_82 rfl ?_
        refine gf_X12_244 hx hb hts hown hK hP 5 rfl rfl dX12_clauseHere_83 ?_
        refine lv_iconst (v := 1) hx hb dX12_clauseHere_86 (by decide) ?_
        refine lv_iadd hx hb dX12_clauseHere_87 ?_
        refine lv_topi (fun x_30 ex_30 => ?_)
        refine pf_X12_244 hx hb hts hown hK hP hD hS 5 rfl (Nat.le_of_ble_eq_true rfl) rfl rfl dX12_clauseHere_88 (fun H locs hP₀ hD₀ hS₀ => ?_)
        replace hP : va_P D classes [((Ma 2), .inl (tc 0, 2400, .inl (Mf 2))), ((Ma 3), .inl (tc 0, 7, .inl (Mf 3))), ((Ma 4), .inl (tc 0, 288, .inl (Mf 4))), ((Ma 5), .inl (tc 0, 6, .inl (Mf 5))), ((Ma 7), .inl (tc 0, 400, .inl (Mf 7))), ((Ma 0), .inr (12, [.ref (Ma 1), .int (Mv 0), .int (Mv 1), .ref (Ma 2), .ref (Ma 3), .ref (Ma 4), .ref (Ma 5), .ref (Ma 6), .int sv_17, .int (Mv 3), .int (Mv 4), .int (Mv 5), .int (Mv 6), .int (Mv 7), .int x_30, .ref (Ma 7), .int (Mv 9), .ref (Ma 8), .int (Mv 10), .ref (Ma 9), .ref (Ma 10), .int (Mv 11), .int (Mv 12), .int (Mv 13), .ref (Ma 11), .int (Mv 14), .ref (Ma 12), .ref (Ma 13), .ref (Ma 14), .ref (Ma 15), .ref (Ma 16), .long (Mj 0), .ref (Ma 17), .ref (Ma 18), .ref (Ma 19), .ref (Ma 20)])), ((Ma 1), .inl (tc 2, 400, .inl (Mf 1)))] H := hP₀
        replace hD : va_D A [((Ma 2), .inl (tc 0, 2400, .inl (Mf 2))), ((Ma 3), .inl (tc 0, 7, .inl (Mf 3))), ((Ma 4), .inl (tc 0, 288, .inl (Mf 4))), ((Ma 5), .inl (tc 0, 6, .inl (Mf 5))), ((Ma 7), .inl (tc 0, 400, .inl (Mf 7))), ((Ma 0), .inr (12, [.ref (Ma 1), .int (Mv 0), .int (Mv 1), .ref (Ma 2), .ref (Ma 3), .ref (Ma 4), .ref (Ma 5), .ref (Ma 6), .int sv_17, .int (Mv 3), .int (Mv 4), .int (Mv 5), .int (Mv 6), .int (Mv 7), .int x_30, .ref (Ma 7), .int (Mv 9), .ref (Ma 8), .int (Mv 10), .ref (Ma 9), .ref (Ma 10), .int (Mv 11), .int (Mv 12), .int (Mv 13), .ref (Ma 11), .int (Mv 14), .ref (Ma 12), .ref (Ma 13), .ref (Ma 14), .ref (Ma 15), .ref (Ma 16), .long (Mj 0), .ref (Ma 17), .ref (Ma 18), .ref (Ma 19), .ref (Ma 20)])), ((Ma 1), .inl (tc 2, 400, .inl (Mf 1)))] := hD₀
        replace hS := hS₀
        clear hP₀ hD₀ hS₀
        have tp_x_30 : (x_30 : Int32).toInt = ((Mv 8) : Int32).toInt + 1 := by
          have z_1 : ¬ ((Mv 5) : Int32).toInt = (6 : Int32).toInt := fun z => c_11 (Int32.toInt_inj.mp z)
          have z_2 : ¬ (r_21 : Int32).toInt = (0 : Int32).toInt := fun z => c_25 (Int32.toInt_inj.mp z)
          have z_3 : ¬ ((Mv 8) : Int32).toInt = (12 : Int32).toInt := fun z => c_29 (Int32.toInt_inj.mp z)
          have y_0 : (0 : Int32).toInt = 0 := by decide
          have y_6 : (6 : Int32).toInt = 6 := by decide
          have y_12 : (12 : Int32).toInt = 12 := by decide
          have y_1 : (1 : Int32).toInt = 1 := by decide
          have t_x_30 : x_30.toInt = ((Mv 8) : Int32).toInt + (1 : Int32).toInt := by rw [ex_30]; exact add_toInt (by omega) (by omega)
          omega
        refine lv_iload_n hx hb dX12_clauseHere_91 rfl (lv_at hl 0 rfl) ?_
        refine lv_if_eq (tgt := 103) hx hb dX12_clauseHere_92 (by decide) (fun c_31 => ?_) (fun c_31 => absurd c_31 (by decide))
        refine lv_aload_n hx hb dX12_clauseHere_103 rfl (lv_at hl 2 rfl) ?_
        have ha_32 : 0 ≤ (sv_17 : Int32).toInt ∧ (sv_17 : Int32).toInt ≤ ((Mv 0) : Int32).toInt ∧ ((Mv 0) : Int32).toInt ≤ 400 := by
          have z_1 : ¬ ((Mv 5) : Int32).toInt = (6 : Int32).toInt := fun z => c_11 (Int32.toInt_inj.mp z)
          have z_2 : ¬ (r_21 : Int32).toInt = (0 : Int32).toInt := fun z => c_25 (Int32.toInt_inj.mp z)
          have z_3 : ¬ ((Mv 8) : Int32).toInt = (12 : Int32).toInt := fun z => c_29 (Int32.toInt_inj.mp z)
          have y_0 : (0 : Int32).toInt = 0 := by decide
          have y_6 : (6 : Int32).toInt = 6 := by decide
          have y_12 : (12 : Int32).toInt = 12 := by decide
          refine ⟨?_, ?_, ?_⟩ <;> omega
        have ha_33 : 0 ≤ ((Mf 3) (Mv 5).toNatClampNeg).toInt ∧ ((Mf 3) (Mv 5).toNatClampNeg).toInt ≤ (sv_17 : Int32).toInt := by
          have z_1 : ¬ ((Mv 5) : Int32).toInt = (6 : Int32).toInt := fun z => c_11 (Int32.toInt_inj.mp z)
          have z_2 : ¬ (r_21 : Int32).toInt = (0 : Int32).toInt := fun z => c_25 (Int32.toInt_inj.mp z)
          have z_3 : ¬ ((Mv 8) : Int32).toInt = (12 : Int32).toInt := fun z => c_29 (Int32.toInt_inj.mp z)
          have y_0 : (0 : Int32).toInt = 0 := by decide
          have y_6 : (6 : Int32).toInt = 6 := by decide
          have y_12 : (12 : Int32).toInt = 12 := by decide
          refine ⟨?_, ?_⟩ <;> omega
        have ha_34 : ((Mf 5) (Mv 5).toInt.toNat).toInt + 1 = (x_30 : Int32).toInt ∧ (x_30 : Int32).toInt ≤ 12 := by
          have z_1 : ¬ ((Mv 5) : Int32).toInt = (6 : Int32).toInt := fun z => c_11 (Int32.toInt_inj.mp z)
          have z_2 : ¬ (r_21 : Int32).toInt = (0 : Int32).toInt := fun z => c_25 (Int32.toInt_inj.mp z)
          have z_3 : ¬ ((Mv 8) : Int32).toInt = (12 : Int32).toInt := fun z => c_29 (Int32.toInt_inj.mp z)
          have y_0 : (0 : Int32).toInt = 0 := by decide
          have y_6 : (6 : Int32).toInt = 6 := by decide
          have y_12 : (12 : Int32).toInt = 12 := by decide
          have y_1 : (1 : Int32).toInt = 1 := by decide
          have t_x_30 : x_30.toInt = ((Mv 8) : Int32).toInt + (1 : Int32).toInt := by rw [ex_30]; exact add_toInt (by omega) (by omega)
          refine ⟨?_, ?_⟩ <;> omega
        refine cV (a := (Ma 0)) (As := []) (rest := []) (wr := []) ⟨hx, hb, hml, hown, hts⟩ hK hX hA (cu_X12_isBuyHere l D tc sk (Ma 0) (Ma 1) (Ma 2) (Ma 3) (Ma 4) (Ma 5) (Ma 6) (Ma 7) (Ma 8) (Ma 9) (Ma 10) (Ma 11) (Ma 12) (Ma 13) (Ma 14) (Ma 15) (Ma 16) (Ma 17) (Ma 18) (Ma 19) (Ma 20) (Mv 0) (Mv 1) sv_17 (Mv 3) (Mv 4) (Mv 5) (Mv 6) (Mv 7) x_30 (Mv 9) (Mv 10) (Mv 11) (Mv 12) (Mv 13) (Mv 14) (Mf 1) (Mf 2) (Mf 3) (Mf 4) (Mf 5) (Mf 7) (Mj 0) ha_32 h_md h_t ha_33 h_rp ha_34) k_1275 k_1272 k_1274 k_41 k_106 pl_X12_isBuyHere ⟨Nat.le_of_ble_eq_true rfl, Nat.le_of_ble_eq_true rfl⟩ rfl rfl (va_recv hK hP (ci := 12) (q0 := 5) rfl rfl) hP hD hS [5, 6, 0, 1, 2, 3, 4] [] rfl rfl rfl rfl rfl (by decide) rfl hl.1 rfl (Nat.le_of_ble_eq_true rfl) dX12_clauseHere_104 ⟨Nat.le_of_ble_eq_true rfl, Nat.le_of_ble_eq_true rfl⟩ (fun v_35 u_36 H locs hv_37 hP₀ hD₀ hS₀ => ?_)
        obtain ⟨sv_38, sv_39, sv_40, sv_41, sv_42, sv_43, sv_44, sv_45, sv_46, sv_47, sv_48⟩ := u_36
        obtain ⟨r_52, rfl, he_53, pf_49, pf_50, pf_51, hm_55⟩ := hv_37
        have he_53 : ((r_52.toInt = 0 ∧ ¬ (sv_39 : Int32).toInt = 0) ∨ (r_52.toInt = 1 ∧ 0 ≤ (sv_45 (Mv 5).toNatClampNeg).toInt ∧ (sv_45 (Mv 5).toNatClampNeg).toInt ≤ (sv_38 : Int32).toInt ∧ (sv_47 (Mv 5).toInt.toNat).toInt = ((Mf 5) (Mv 5).toInt.toNat).toInt + 1)) := he_53
        have pf_49 : (sv_17 : Int32).toInt ≤ (sv_38 : Int32).toInt ∧ (sv_38 : Int32).toInt ≤ ((Mv 0) : Int32).toInt := pf_49
        have pf_50 : ((Mv 6) : Int32).toInt ≤ (sv_41 : Int32).toInt ∧ (sv_41 : Int32).toInt ≤ 60 := pf_50
        have pf_51 : RulD sv_44 sv_46 sv_47 (Mv 5) := pf_51
        refine W.eq (g2 := F0 m 107 ls [.int r_52]) rfl ?_
        replace hP : va_P D classes [((Ma 0), .inr (12, [.ref (Ma 1), .int (Mv 0), .int (Mv 1), .ref (Ma 2), .ref (Ma 3), .ref (Ma 4), .ref (Ma 5), .ref (Ma 6), .int sv_38, .int sv_39, .int sv_40, .int (Mv 5), .int sv_41, .int sv_42, .int x_30, .ref (Ma 7), .int sv_43, .ref (Ma 8), .int (Mv 10), .ref (Ma 9), .ref (Ma 10), .int (Mv 11), .int (Mv 12), .int (Mv 13), .ref (Ma 11), .int (Mv 14), .ref (Ma 12), .ref (Ma 13), .ref (Ma 14), .ref (Ma 15), .ref (Ma 16), .long (Mj 0), .ref (Ma 17), .ref (Ma 18), .ref (Ma 19), .ref (Ma 20)])), ((Ma 1), .inl (tc 2, 400, .inl (Mf 1))), ((Ma 2), .inl (tc 0, 2400, .inl sv_44)), ((Ma 3), .inl (tc 0, 7, .inl sv_45)), ((Ma 4), .inl (tc 0, 288, .inl sv_46)), ((Ma 5), .inl (tc 0, 6, .inl sv_47)), ((Ma 7), .inl (tc 0, 400, .inl sv_48))] H := hP₀
        replace hD : va_D A [((Ma 0), .inr (12, [.ref (Ma 1), .int (Mv 0), .int (Mv 1), .ref (Ma 2), .ref (Ma 3), .ref (Ma 4), .ref (Ma 5), .ref (Ma 6), .int sv_38, .int sv_39, .int sv_40, .int (Mv 5), .int sv_41, .int sv_42, .int x_30, .ref (Ma 7), .int sv_43, .ref (Ma 8), .int (Mv 10), .ref (Ma 9), .ref (Ma 10), .int (Mv 11), .int (Mv 12), .int (Mv 13), .ref (Ma 11), .int (Mv 14), .ref (Ma 12), .ref (Ma 13), .ref (Ma 14), .ref (Ma 15), .ref (Ma 16), .long (Mj 0), .ref (Ma 17), .ref (Ma 18), .ref (Ma 19), .ref (Ma 20)])), ((Ma 1), .inl (tc 2, 400, .inl (Mf 1))), ((Ma 2), .inl (tc 0, 2400, .inl sv_44)), ((Ma 3), .inl (tc 0, 7, .inl sv_45)), ((Ma 4), .inl (tc 0, 288, .inl sv_46)), ((Ma 5), .inl (tc 0, 6, .inl sv_47)), ((Ma 7), .inl (tc 0, 400, .inl sv_48))] := hD₀
        replace hS := hS₀
        clear hP₀ hD₀ hS₀
        have ha_56 : ((Mv 2) : Int32).toInt ≤ (sv_38 : Int32).toInt ∧ (sv_38 : Int32).toInt ≤ ((Mv 0) : Int32).toInt := by
          have z_1 : ¬ ((Mv 5) : Int32).toInt = (6 : Int32).toInt := fun z => c_11 (Int32.toInt_inj.mp z)
          have z_2 : ¬ (r_21 : Int32).toInt = (0 : Int32).toInt := fun z => c_25 (Int32.toInt_inj.mp z)
          have z_3 : ¬ ((Mv 8) : Int32).toInt = (12 : Int32).toInt := fun z => c_29 (Int32.toInt_inj.mp z)
          have y_0 : (0 : Int32).toInt = 0 := by decide
          have y_6 : (6 : Int32).toInt = 6 := by decide
          have y_12 : (12 : Int32).toInt = 12 := by decide
          refine ⟨?_, ?_⟩ <;> omega
        have hb_57 : (r_52 : Int32).toInt = 0 ∨ (r_52 : Int32).toInt = 1 := by
          have z_1 : ¬ ((Mv 5) : Int32).toInt = (6 : Int32).toInt := fun z => c_11 (Int32.toInt_inj.mp z)
          have z_2 : ¬ (r_21 : Int32).toInt = (0 : Int32).toInt := fun z => c_25 (Int32.toInt_inj.mp z)
          have z_3 : ¬ ((Mv 8) : Int32).toInt = (12 : Int32).toInt := fun z => c_29 (Int32.toInt_inj.mp z)
          have y_0 : (0 : Int32).toInt = 0 := by decide
          have y_6 : (6 : Int32).toInt = 6 := by decide
          have y_12 : (12 : Int32).toInt = 12 := by decide
          omega
        have hp_58 : (((r_52 : Int32).toInt = 0 ∧ ¬ (sv_39 : Int32).toInt = 0) ∨ ((r_52 : Int32).toInt = 1 ∧ 0 ≤ (sv_45 (Mv 5).toNatClampNeg).toInt ∧ (sv_45 (Mv 5).toNatClampNeg).toInt ≤ (sv_38 : Int32).toInt ∧ (sv_47 (Mv 5).toInt.toNat).toInt = (x_30 : Int32).toInt ∧ 0 ≤ (x_30 : Int32).toInt ∧ (x_30 : Int32).toInt ≤ 12)) := by
          have z_1 : ¬ ((Mv 5) : Int32).toInt = (6 : Int32).toInt := fun z => c_11 (Int32.toInt_inj.mp z)
          have z_2 : ¬ (r_21 : Int32).toInt = (0 : Int32).toInt := fun z => c_25 (Int32.toInt_inj.mp z)
          have z_3 : ¬ ((Mv 8) : Int32).toInt = (12 : Int32).toInt := fun z => c_29 (Int32.toInt_inj.mp z)
          have y_0 : (0 : Int32).toInt = 0 := by decide
          have y_6 : (6 : Int32).toInt = 6 := by decide
          have y_12 : (12 : Int32).toInt = 12 := by decide
          have y_1 : (1 : Int32).toInt = 1 := by decide
          have t_x_30 : x_30.toInt = ((Mv 8) : Int32).toInt + (1 : Int32).toInt := by rw [ex_30]; exact add_toInt (by omega) (by omega)
          omega
        have hm_59 : (r_52 : Int32).toInt = 1 → (RulP sv_44 sv_46 sv_47 (Mv 5) ((sv_45 (Mv 5).toNatClampNeg).toInt)) := by
          intro h1r
          obtain pf_60 := hm_55 h1r
          have pf_60 : RulP sv_44 sv_46 sv_47 (Mv 5) ((sv_45 (Mv 5).toNatClampNeg).toInt) := pf_60
          have ar_pf_60 := pf_60.2.1
          exact pf_60
        exact retI (v := r_52) hx hb hr hlk (nar01 hb_57) hP hD hS (sv_38, sv_39, sv_40, sv_41, sv_42, x_30, sv_43, sv_44, sv_45, sv_46, sv_47, sv_48) ⟨_, rfl, hp_58, ha_56, pf_50, pf_51, hm_59⟩ [0, 1, 2, 3, 4, 5, 6] rfl rfl dX12_clauseHere_107 (Nat.le_of_ble_eq_true rfl) (Nat.le_of_ble_eq_true rfl) rfl
      · skip
        refine lv_aload_n hx hb dX12_clauseHere_74 rfl (lv_at hl 2 rfl) ?_
        refine lv_iconst (v := 4) hx hb dX12_clauseHere_75 (by decide) ?_
        refine lv_iload_n hx hb dX12_clauseHere_76 rfl (lv_at hl 1 rfl) ?_
        have ha_61 : 0 ≤ (4 : Int32).toInt ∧ (4 : Int32).toInt ≤ 4 := by
          have z_1 : ¬ ((Mv 5) : Int32).toInt = (6 : Int32).toInt := fun z => c_11 (Int32.toInt_inj.mp z)
          have z_2 : ¬ (r_21 : Int32).toInt = (0 : Int32).toInt := fun z => c_25 (Int32.toInt_inj.mp z)
          have z_3 := congrArg Int32.toInt c_29
          have y_0 : (0 : Int32).toInt = 0 := by decide
          have y_6 : (6 : Int32).toInt = 6 := by decide
          have y_12 : (12 : Int32).toInt = 12 := by decide
          have y_4 : (4 : Int32).toInt = 4 := by decide
          refine ⟨?_, ?_⟩ <;> omega
        have ha_62 : 0 ≤ sv_4.toInt ∧ sv_4.toInt ≤ 400 := by
          have z_1 : ¬ ((Mv 5) : Int32).toInt = (6 : Int32).toInt := fun z => c_11 (Int32.toInt_inj.mp z)
          have z_2 : ¬ (r_21 : Int32).toInt = (0 : Int32).toInt := fun z => c_25 (Int32.toInt_inj.mp z)
          have z_3 := congrArg Int32.toInt c_29
          have y_0 : (0 : Int32).toInt = 0 := by decide
          have y_6 : (6 : Int32).toInt = 6 := by decide
          have y_12 : (12 : Int32).toInt = 12 := by decide
          refine ⟨?_, ?_⟩ <;> omega
        refine cV (a := (Ma 0)) (As := [.int 4, .int sv_4]) (rest := []) (wr := [((Ma 2), .inl (tc 0, 2400, .inl (Mf 2))), ((Ma 3), .inl (tc 0, 7, .inl (Mf 3))), ((Ma 4), .inl (tc 0, 288, .inl (Mf 4))), ((Ma 5), .inl (tc 0, 6, .inl (Mf 5))), ((Ma 7), .inl (tc 0, 400, .inl (Mf 7))), ((Ma 1), .inl (tc 2, 400, .inl (Mf 1)))]) ⟨hx, hb, hml, hown, hts⟩ hK hX hA (cu_X12_fails l D tc sk (Ma 0) (Ma 1) (Ma 2) (Ma 3) (Ma 4) (Ma 5) (Ma 6) (Ma 7) (Ma 8) (Ma 9) (Ma 10) (Ma 11) (Ma 12) (Ma 13) (Ma 14) (Ma 15) (Ma 16) (Ma 17) (Ma 18) (Ma 19) (Ma 20) (Mv 0) (Mv 1) sv_17 (Mv 3) (Mv 4) (Mv 5) (Mv 6) (Mv 7) (Mv 8) (Mv 9) (Mv 10) (Mv 11) (Mv 12) (Mv 13) (Mv 14) (Mj 0) 4 sv_4 ha_61 ha_62) k_1232 k_1229 k_1231 k_31 k_106 pl_X12_fails ⟨Nat.le_of_ble_eq_true rfl, Nat.le_of_ble_eq_true rfl⟩ rfl rfl (va_recv hK hP (ci := 12) (q0 := 5) rfl rfl) hP hD hS [5] [0, 1, 2, 3, 4, 6] rfl rfl rfl rfl rfl (by decide) rfl hl.1 rfl (Nat.le_of_ble_eq_true rfl) dX12_clauseHere_77 ⟨Nat.le_of_ble_eq_true rfl, Nat.le_of_ble_eq_true rfl⟩ (fun v_63 u_64 H locs hv_65 hP₀ hD₀ hS₀ => ?_)
        obtain ⟨sv_66, rfl⟩ : ∃ z, z = u_64 := ⟨_, rfl⟩
        obtain ⟨r_68, rfl, he_69, pf_67⟩ := hv_65
        have he_69 : r_68.toInt = 0 := he_69
        have pf_67 : ¬ (sv_66 : Int32).toInt = 0 := pf_67
        refine W.eq (g2 := F0 m 80 ls [.int r_68]) rfl ?_
        replace hP : va_P D classes [((Ma 2), .inl (tc 0, 2400, .inl (Mf 2))), ((Ma 3), .inl (tc 0, 7, .inl (Mf 3))), ((Ma 4), .inl (tc 0, 288, .inl (Mf 4))), ((Ma 5), .inl (tc 0, 6, .inl (Mf 5))), ((Ma 7), .inl (tc 0, 400, .inl (Mf 7))), ((Ma 1), .inl (tc 2, 400, .inl (Mf 1))), ((Ma 0), .inr (12, [.ref (Ma 1), .int (Mv 0), .int (Mv 1), .ref (Ma 2), .ref (Ma 3), .ref (Ma 4), .ref (Ma 5), .ref (Ma 6), .int sv_17, .int sv_66, .int (Mv 4), .int (Mv 5), .int (Mv 6), .int (Mv 7), .int (Mv 8), .ref (Ma 7), .int (Mv 9), .ref (Ma 8), .int (Mv 10), .ref (Ma 9), .ref (Ma 10), .int (Mv 11), .int (Mv 12), .int (Mv 13), .ref (Ma 11), .int (Mv 14), .ref (Ma 12), .ref (Ma 13), .ref (Ma 14), .ref (Ma 15), .ref (Ma 16), .long (Mj 0), .ref (Ma 17), .ref (Ma 18), .ref (Ma 19), .ref (Ma 20)]))] H := hP₀
        replace hD : va_D A [((Ma 2), .inl (tc 0, 2400, .inl (Mf 2))), ((Ma 3), .inl (tc 0, 7, .inl (Mf 3))), ((Ma 4), .inl (tc 0, 288, .inl (Mf 4))), ((Ma 5), .inl (tc 0, 6, .inl (Mf 5))), ((Ma 7), .inl (tc 0, 400, .inl (Mf 7))), ((Ma 1), .inl (tc 2, 400, .inl (Mf 1))), ((Ma 0), .inr (12, [.ref (Ma 1), .int (Mv 0), .int (Mv 1), .ref (Ma 2), .ref (Ma 3), .ref (Ma 4), .ref (Ma 5), .ref (Ma 6), .int sv_17, .int sv_66, .int (Mv 4), .int (Mv 5), .int (Mv 6), .int (Mv 7), .int (Mv 8), .ref (Ma 7), .int (Mv 9), .ref (Ma 8), .int (Mv 10), .ref (Ma 9), .ref (Ma 10), .int (Mv 11), .int (Mv 12), .int (Mv 13), .ref (Ma 11), .int (Mv 14), .ref (Ma 12), .ref (Ma 13), .ref (Ma 14), .ref (Ma 15), .ref (Ma 16), .long (Mj 0), .ref (Ma 17), .ref (Ma 18), .ref (Ma 19), .ref (Ma 20)]))] := hD₀
        replace hS := hS₀
        clear hP₀ hD₀ hS₀
        have ha_71 : ((Mv 2) : Int32).toInt ≤ (sv_17 : Int32).toInt ∧ (sv_17 : Int32).toInt ≤ ((Mv 0) : Int32).toInt := by
          have z_1 : ¬ ((Mv 5) : Int32).toInt = (6 : Int32).toInt := fun z => c_11 (Int32.toInt_inj.mp z)
          have z_2 : ¬ (r_21 : Int32).toInt = (0 : Int32).toInt := fun z => c_25 (Int32.toInt_inj.mp z)
          have z_3 := congrArg Int32.toInt c_29
          have y_0 : (0 : Int32).toInt = 0 := by decide
          have y_6 : (6 : Int32).toInt = 6 := by decide
          have y_12 : (12 : Int32).toInt = 12 := by decide
          refine ⟨?_, ?_⟩ <;> omega
        have ha_72 : ((Mv 6) : Int32).toInt ≤ ((Mv 6) : Int32).toInt ∧ ((Mv 6) : Int32).toInt ≤ 60 := by
          have z_1 : ¬ ((Mv 5) : Int32).toInt = (6 : Int32).toInt := fun z => c_11 (Int32.toInt_inj.mp z)
          have z_2 : ¬ (r_21 : Int32).toInt = (0 : Int32).toInt := fun z => c_25 (Int32.toInt_inj.mp z)
          have z_3 := congrArg Int32.toInt c_29
          have y_0 : (0 : Int32).toInt = 0 := by decide
          have y_6 : (6 : Int32).toInt = 6 := by decide
          have y_12 : (12 : Int32).toInt = 12 := by decide
          refine ⟨?_, ?_⟩ <;> omega
        have hb_73 : (r_68 : Int32).toInt = 0 ∨ (r_68 : Int32).toInt = 1 := by
          have z_1 : ¬ ((Mv 5) : Int32).toInt = (6 : Int32).toInt := fun z => c_11 (Int32.toInt_inj.mp z)
          have z_2 : ¬ (r_21 : Int32).toInt = (0 : Int32).toInt := fun z => c_25 (Int32.toInt_inj.mp z)
          have z_3 := congrArg Int32.toInt c_29
          have y_0 : (0 : Int32).toInt = 0 := by decide
          have y_6 : (6 : Int32).toInt = 6 := by decide
          have y_12 : (12 : Int32).toInt = 12 := by decide
          omega
        have hp_74 : (((r_68 : Int32).toInt = 0 ∧ ¬ (sv_66 : Int32).toInt = 0) ∨ ((r_68 : Int32).toInt = 1 ∧ 0 ≤ ((Mf 3) (Mv 5).toNatClampNeg).toInt ∧ ((Mf 3) (Mv 5).toNatClampNeg).toInt ≤ (sv_17 : Int32).toInt ∧ ((Mf 5) (Mv 5).toInt.toNat).toInt = ((Mv 8) : Int32).toInt ∧ 0 ≤ ((Mv 8) : Int32).toInt ∧ ((Mv 8) : Int32).toInt ≤ 12)) := by
          have z_1 : ¬ ((Mv 5) : Int32).toInt = (6 : Int32).toInt := fun z => c_11 (Int32.toInt_inj.mp z)
          have z_2 : ¬ (r_21 : Int32).toInt = (0 : Int32).toInt := fun z => c_25 (Int32.toInt_inj.mp z)
          have z_3 := congrArg Int32.toInt c_29
          have y_0 : (0 : Int32).toInt = 0 := by decide
          have y_6 : (6 : Int32).toInt = 6 := by decide
          have y_12 : (12 : Int32).toInt = 12 := by decide
          omega
        have hm_75 : (r_68 : Int32).toInt = 1 → (RulP (Mf 2) (Mf 4) (Mf 5) (Mv 5) (((Mf 3) (Mv 5).toNatClampNeg).toInt)) := by
          intro h1r
          exfalso
          have z_1 : ¬ ((Mv 5) : Int32).toInt = (6 : Int32).toInt := fun z => c_11 (Int32.toInt_inj.mp z)
          have z_2 : ¬ (r_21 : Int32).toInt = (0 : Int32).toInt := fun z => c_25 (Int32.toInt_inj.mp z)
          have z_3 := congrArg Int32.toInt c_29
          have y_0 : (0 : Int32).toInt = 0 := by decide
          have y_6 : (6 : Int32).toInt = 6 := by decide
          have y_12 : (12 : Int32).toInt = 12 := by decide
          omega
        exact retI (v := r_68) hx hb hr hlk (nar01 hb_73) hP hD hS (sv_17, sv_66, (Mv 4), (Mv 6), (Mv 7), (Mv 8), (Mv 9), (Mf 2), (Mf 3), (Mf 4), (Mf 5), (Mf 7)) ⟨_, rfl, hp_74, ha_71, ha_72, h_rp.1, hm_75⟩ [6, 5, 0, 1, 2, 3, 4] rfl rfl dX12_clauseHere_80 (Nat.le_of_ble_eq_true rfl) (Nat.le_of_ble_eq_true rfl) rfl
    · skip
      refine lv_aload_n hx hb dX12_clauseHere_49 rfl (lv_at hl 2 rfl) ?_
      refine lv_iconst (v := 0) hx hb dX12_clauseHere_50 (by decide) ?_
      refine lv_iload_n hx hb dX12_clauseHere_51 rfl (lv_at hl 1 rfl) ?_
      have ha_76 : 0 ≤ (0 : Int32).toInt ∧ (0 : Int32).toInt ≤ 4 := by
        have z_1 : ¬ ((Mv 5) : Int32).toInt = (6 : Int32).toInt := fun z => c_11 (Int32.toInt_inj.mp z)
        have z_2 := congrArg Int32.toInt c_25
        have y_0 : (0 : Int32).toInt = 0 := by decide
        have y_6 : (6 : Int32).toInt = 6 := by decide
        refine ⟨?_, ?_⟩ <;> omega
      have ha_77 : 0 ≤ sv_4.toInt ∧ sv_4.toInt ≤ 400 := by
        have z_1 : ¬ ((Mv 5) : Int32).toInt = (6 : Int32).toInt := fun z => c_11 (Int32.toInt_inj.mp z)
        have z_2 := congrArg Int32.toInt c_25
        have y_0 : (0 : Int32).toInt = 0 := by decide
        have y_6 : (6 : Int32).toInt = 6 := by decide
        refine ⟨?_, ?_⟩ <;> omega
      refine cV (a := (Ma 0)) (As := [.int 0, .int sv_4]) (rest := []) (wr := [((Ma 2), .inl (tc 0, 2400, .inl (Mf 2))), ((Ma 3), .inl (tc 0, 7, .inl (Mf 3))), ((Ma 4), .inl (tc 0, 288, .inl (Mf 4))), ((Ma 5), .inl (tc 0, 6, .inl (Mf 5))), ((Ma 7), .inl (tc 0, 400, .inl (Mf 7))), ((Ma 1), .inl (tc 2, 400, .inl (Mf 1)))]) ⟨hx, hb, hml, hown, hts⟩ hK hX hA (cu_X12_fails l D tc sk (Ma 0) (Ma 1) (Ma 2) (Ma 3) (Ma 4) (Ma 5) (Ma 6) (Ma 7) (Ma 8) (Ma 9) (Ma 10) (Ma 11) (Ma 12) (Ma 13) (Ma 14) (Ma 15) (Ma 16) (Ma 17) (Ma 18) (Ma 19) (Ma 20) (Mv 0) (Mv 1) sv_17 (Mv 3) (Mv 4) (Mv 5) (Mv 6) (Mv 7) (Mv 8) (Mv 9) (Mv 10) (Mv 11) (Mv 12) (Mv 13) (Mv 14) (Mj 0) 0 sv_4 ha_76 ha_77) k_1232 k_1229 k_1231 k_31 k_106 pl_X12_fails ⟨Nat.le_of_ble_eq_true rfl, Nat.le_of_ble_eq_true rfl⟩ rfl rfl (va_recv hK hP (ci := 12) (q0 := 5) rfl rfl) hP hD hS [5] [0, 1, 2, 3, 4, 6] rfl rfl rfl rfl rfl (by decide) rfl hl.1 rfl (Nat.le_of_ble_eq_true rfl) dX12_clauseHere_52 ⟨Nat.le_of_ble_eq_true rfl, Nat.le_of_ble_eq_true rfl⟩ (fun v_78 u_79 H locs hv_80 hP₀ hD₀ hS₀ => ?_)
      obtain ⟨sv_81, rfl⟩ : ∃ z, z = u_79 := ⟨_, rfl⟩
      obtain ⟨r_83, rfl, he_84, pf_82⟩ := hv_80
      have he_84 : r_83.toInt = 0 := he_84
      have pf_82 : ¬ (sv_81 : Int32).toInt = 0 := pf_82
      refine W.eq (g2 := F0 m 55 ls [.int r_83]) rfl ?_
      replace hP : va_P D classes [((Ma 2), .inl (tc 0, 2400, .inl (Mf 2))), ((Ma 3), .inl (tc 0, 7, .inl (Mf 3))), ((Ma 4), .inl (tc 0, 288, .inl (Mf 4))), ((Ma 5), .inl (tc 0, 6, .inl (Mf 5))), ((Ma 7), .inl (tc 0, 400, .inl (Mf 7))), ((Ma 1), .inl (tc 2, 400, .inl (Mf 1))), ((Ma 0), .inr (12, [.ref (Ma 1), .int (Mv 0), .int (Mv 1), .ref (Ma 2), .ref (Ma 3), .ref (Ma 4), .ref (Ma 5), .ref (Ma 6), .int sv_17, .int sv_81, .int (Mv 4), .int (Mv 5), .int (Mv 6), .int (Mv 7), .int (Mv 8), .ref (Ma 7), .int (Mv 9), .ref (Ma 8), .int (Mv 10), .ref (Ma 9), .ref (Ma 10), .int (Mv 11), .int (Mv 12), .int (Mv 13), .ref (Ma 11), .int (Mv 14), .ref (Ma 12), .ref (Ma 13), .ref (Ma 14), .ref (Ma 15), .ref (Ma 16), .long (Mj 0), .ref (Ma 17), .ref (Ma 18), .ref (Ma 19), .ref (Ma 20)]))] H := hP₀
      replace hD : va_D A [((Ma 2), .inl (tc 0, 2400, .inl (Mf 2))), ((Ma 3), .inl (tc 0, 7, .inl (Mf 3))), ((Ma 4), .inl (tc 0, 288, .inl (Mf 4))), ((Ma 5), .inl (tc 0, 6, .inl (Mf 5))), ((Ma 7), .inl (tc 0, 400, .inl (Mf 7))), ((Ma 1), .inl (tc 2, 400, .inl (Mf 1))), ((Ma 0), .inr (12, [.ref (Ma 1), .int (Mv 0), .int (Mv 1), .ref (Ma 2), .ref (Ma 3), .ref (Ma 4), .ref (Ma 5), .ref (Ma 6), .int sv_17, .int sv_81, .int (Mv 4), .int (Mv 5), .int (Mv 6), .int (Mv 7), .int (Mv 8), .ref (Ma 7), .int (Mv 9), .ref (Ma 8), .int (Mv 10), .ref (Ma 9), .ref (Ma 10), .int (Mv 11), .int (Mv 12), .int (Mv 13), .ref (Ma 11), .int (Mv 14), .ref (Ma 12), .ref (Ma 13), .ref (Ma 14), .ref (Ma 15), .ref (Ma 16), .long (Mj 0), .ref (Ma 17), .ref (Ma 18), .ref (Ma 19), .ref (Ma 20)]))] := hD₀
      replace hS := hS₀
      clear hP₀ hD₀ hS₀
      have ha_86 : ((Mv 2) : Int32).toInt ≤ (sv_17 : Int32).toInt ∧ (sv_17 : Int32).toInt ≤ ((Mv 0) : Int32).toInt := by
        have z_1 : ¬ ((Mv 5) : Int32).toInt = (6 : Int32).toInt := fun z => c_11 (Int32.toInt_inj.mp z)
        have z_2 := congrArg Int32.toInt c_25
        have y_0 : (0 : Int32).toInt = 0 := by decide
        have y_6 : (6 : Int32).toInt = 6 := by decide
        refine ⟨?_, ?_⟩ <;> omega
      have ha_87 : ((Mv 6) : Int32).toInt ≤ ((Mv 6) : Int32).toInt ∧ ((Mv 6) : Int32).toInt ≤ 60 := by
        have z_1 : ¬ ((Mv 5) : Int32).toInt = (6 : Int32).toInt := fun z => c_11 (Int32.toInt_inj.mp z)
        have z_2 := congrArg Int32.toInt c_25
        have y_0 : (0 : Int32).toInt = 0 := by decide
        have y_6 : (6 : Int32).toInt = 6 := by decide
        refine ⟨?_, ?_⟩ <;> omega
      have hb_88 : (r_83 : Int32).toInt = 0 ∨ (r_83 : Int32).toInt = 1 := by
        have z_1 : ¬ ((Mv 5) : Int32).toInt = (6 : Int32).toInt := fun z => c_11 (Int32.toInt_inj.mp z)
        have z_2 := congrArg Int32.toInt c_25
        have y_0 : (0 : Int32).toInt = 0 := by decide
        have y_6 : (6 : Int32).toInt = 6 := by decide
        omega
      have hp_89 : (((r_83 : Int32).toInt = 0 ∧ ¬ (sv_81 : Int32).toInt = 0) ∨ ((r_83 : Int32).toInt = 1 ∧ 0 ≤ ((Mf 3) (Mv 5).toNatClampNeg).toInt ∧ ((Mf 3) (Mv 5).toNatClampNeg).toInt ≤ (sv_17 : Int32).toInt ∧ ((Mf 5) (Mv 5).toInt.toNat).toInt = ((Mv 8) : Int32).toInt ∧ 0 ≤ ((Mv 8) : Int32).toInt ∧ ((Mv 8) : Int32).toInt ≤ 12)) := by
        have z_1 : ¬ ((Mv 5) : Int32).toInt = (6 : Int32).toInt := fun z => c_11 (Int32.toInt_inj.mp z)
        have z_2 := congrArg Int32.toInt c_25
        have y_0 : (0 : Int32).toInt = 0 := by decide
        have y_6 : (6 : Int32).toInt = 6 := by decide
        omega
      have hm_90 : (r_83 : Int32).toInt = 1 → (RulP (Mf 2) (Mf 4) (Mf 5) (Mv 5) (((Mf 3) (Mv 5).toNatClampNeg).toInt)) := by
        intro h1r
        exfalso
        have z_1 : ¬ ((Mv 5) : Int32).toInt = (6 : Int32).toInt := fun z => c_11 (Int32.toInt_inj.mp z)
        have z_2 := congrArg Int32.toInt c_25
        have y_0 : (0 : Int32).toInt = 0 := by decide
        have y_6 : (6 : Int32).toInt = 6 := by decide
        omega
      exact retI (v := r_83) hx hb hr hlk (nar01 hb_88) hP hD hS (sv_17, sv_81, (Mv 4), (Mv 6), (Mv 7), (Mv 8), (Mv 9), (Mf 2), (Mf 3), (Mf 4), (Mf 5), (Mf 7)) ⟨_, rfl, hp_89, ha_86, ha_87, h_rp.1, hm_90⟩ [6, 5, 0, 1, 2, 3, 4] rfl rfl dX12_clauseHere_55 (Nat.le_of_ble_eq_true rfl) (Nat.le_of_ble_eq_true rfl) rfl
  · skip
    exfalso
    have z_1 := congrArg Int32.toInt c_11
    have y_6 : (6 : Int32).toInt = 6 := by decide
    omega
set_option maxRecDepth 100000 in
theorem cu_X12_clauseHere_r (l : Launch) (D : va_G) (tc : Nat → ClassId) (sk : (Nat → Nat) × (Nat → Nat)) (Ma_0 : Nat) (Ma_1 : Nat) (Ma_2 : Nat) (Ma_3 : Nat) (Ma_4 : Nat) (Ma_5 : Nat) (Ma_6 : Nat) (Ma_7 : Nat) (Ma_8 : Nat) (Ma_9 : Nat) (Ma_10 : Nat) (Ma_11 : Nat) (Ma_12 : Nat) (Ma_13 : Nat) (Ma_14 : Nat) (Ma_15 : Nat) (Ma_16 : Nat) (Ma_17 : Nat) (Ma_18 : Nat) (Ma_19 : Nat) (Ma_20 : Nat) (Mv_0 : Int32) (Mv_1 : Int32) (Mv_2 : Int32) (Mv_3 : Int32) (Mv_4 : Int32) (Mv_5 : Int32) (Mv_6 : Int32) (Mv_7 : Int32) (Mv_8 : Int32) (Mv_9 : Int32) (Mv_10 : Int32) (Mv_11 : Int32) (Mv_12 : Int32) (Mv_13 : Int32) (Mv_14 : Int32) (Mf_1 : Nat → Int32) (Mf_2 : Nat → Int32) (Mf_3 : Nat → Int32) (Mf_4 : Nat → Int32) (Mf_5 : Nat → Int32) (Mf_7 : Nat → Int32) (Mj_0 : Int64) (h_nx : 0 ≤ (Mv_2 : Int32).toInt ∧ (Mv_2 : Int32).toInt ≤ (Mv_0 : Int32).toInt ∧ (Mv_0 : Int32).toInt ≤ 400) (h_md : 0 ≤ (Mv_6 : Int32).toInt ∧ (Mv_6 : Int32).toInt ≤ 60) (h_t : 0 ≤ (Mv_5 : Int32).toInt ∧ (Mv_5 : Int32).toInt ≤ 5) (h_L : 0 ≤ (Mf_3 Mv_5.toNatClampNeg).toInt ∧ (Mf_3 Mv_5.toNatClampNeg).toInt ≤ (Mv_2 : Int32).toInt) (h_rp : RulP Mf_2 Mf_4 Mf_5 Mv_5 ((Mf_3 Mv_5.toNatClampNeg).toInt)) (h_c : (Mf_5 Mv_5.toInt.toNat).toInt = (Mv_8 : Int32).toInt ∧ 0 ≤ (Mv_8 : Int32).toInt ∧ (Mv_8 : Int32).toInt ≤ 12) : Ct l yX12_clauseHere cX12_clauseHere 3 (some .boolean) { frames := 10, cells := 0, slots := 0, locals := 219 } D tc sk [.ref Ma_0] [(Ma_0, .inr (12, [.ref Ma_1, .int Mv_0, .int Mv_1, .ref Ma_2, .ref Ma_3, .ref Ma_4, .ref Ma_5, .ref Ma_6, .int Mv_2, .int Mv_3, .int Mv_4, .int Mv_5, .int Mv_6, .int Mv_7, .int Mv_8, .ref Ma_7, .int Mv_9, .ref Ma_8, .int Mv_10, .ref Ma_9, .ref Ma_10, .int Mv_11, .int Mv_12, .int Mv_13, .ref Ma_11, .int Mv_14, .ref Ma_12, .ref Ma_13, .ref Ma_14, .ref Ma_15, .ref Ma_16, .long Mj_0, .ref Ma_17, .ref Ma_18, .ref Ma_19, .ref Ma_20])), (Ma_1, .inl (tc 2, 400, .inl Mf_1)), (Ma_2, .inl (tc 0, 2400, .inl Mf_2)), (Ma_3, .inl (tc 0, 7, .inl Mf_3)), (Ma_4, .inl (tc 0, 288, .inl Mf_4)), (Ma_5, .inl (tc 0, 6, .inl Mf_5)), (Ma_7, .inl (tc 0, 400, .inl Mf_7))] (fun (v : Option Value) (u : (Int32) × (Int32) × (Int32) × (Int32) × (Int32) × (Int32) × (Int32) × (Nat → Int32) × (Nat → Int32) × (Nat → Int32) × (Nat → Int32) × (Nat → Int32)) => match u with | (oo0x1, oo0x2, oo0x3, oo0x4, oo0x5, oo0x6, oo0x7, oo0x8, oo0x9, oo0x10, oo0x11, oo0x12) => ∃ r : Int32, v = some (.int r) ∧ (((r.toInt = 0 ∧ ¬ (oo0x2 : Int32).toInt = 0) ∨ (r.toInt = 1 ∧ 0 ≤ (oo0x9 Mv_5.toNatClampNeg).toInt ∧ (oo0x9 Mv_5.toNatClampNeg).toInt ≤ (oo0x1 : Int32).toInt ∧ (oo0x11 Mv_5.toInt.toNat).toInt = (oo0x6 : Int32).toInt ∧ 0 ≤ (oo0x6 : Int32).toInt ∧ (oo0x6 : Int32).toInt ≤ 12))) ∧ ((Mv_2 : Int32).toInt ≤ (oo0x1 : Int32).toInt ∧ (oo0x1 : Int32).toInt ≤ (Mv_0 : Int32).toInt) ∧ ((Mv_6 : Int32).toInt ≤ (oo0x4 : Int32).toInt ∧ (oo0x4 : Int32).toInt ≤ 60) ∧ (RulD oo0x8 oo0x10 oo0x11 Mv_5) ∧ (r.toInt = 1 → (RulP oo0x8 oo0x10 oo0x11 Mv_5 ((oo0x9 Mv_5.toNatClampNeg).toInt)))) (fun (u : (Int32) × (Int32) × (Int32) × (Int32) × (Int32) × (Int32) × (Int32) × (Nat → Int32) × (Nat → Int32) × (Nat → Int32) × (Nat → Int32) × (Nat → Int32)) => match u with | (oo0x1, oo0x2, oo0x3, oo0x4, oo0x5, oo0x6, oo0x7, oo0x8, oo0x9, oo0x10, oo0x11, oo0x12) => [(Ma_0, .inr (12, [.ref Ma_1, .int Mv_0, .int Mv_1, .ref Ma_2, .ref Ma_3, .ref Ma_4, .ref Ma_5, .ref Ma_6, .int oo0x1, .int oo0x2, .int oo0x3, .int Mv_5, .int oo0x4, .int oo0x5, .int oo0x6, .ref Ma_7, .int oo0x7, .ref Ma_8, .int Mv_10, .ref Ma_9, .ref Ma_10, .int Mv_11, .int Mv_12, .int Mv_13, .ref Ma_11, .int Mv_14, .ref Ma_12, .ref Ma_13, .ref Ma_14, .ref Ma_15, .ref Ma_16, .long Mj_0, .ref Ma_17, .ref Ma_18, .ref Ma_19, .ref Ma_20])), (Ma_1, .inl (tc 2, 400, .inl Mf_1)), (Ma_2, .inl (tc 0, 2400, .inl oo0x8)), (Ma_3, .inl (tc 0, 7, .inl oo0x9)), (Ma_4, .inl (tc 0, 288, .inl oo0x10)), (Ma_5, .inl (tc 0, 6, .inl oo0x11)), (Ma_7, .inl (tc 0, 400, .inl oo0x12))]) 0 0 :=
  ct_X12_clauseHere_r l D tc sk (fun k => ([Ma_0, Ma_1, Ma_2, Ma_3, Ma_4, Ma_5, Ma_6, Ma_7, Ma_8, Ma_9, Ma_10, Ma_11, Ma_12, Ma_13, Ma_14, Ma_15, Ma_16, Ma_17, Ma_18, Ma_19, Ma_20] : List (Nat)).getD k 0) (fun k => ([Mv_0, Mv_1, Mv_2, Mv_3, Mv_4, Mv_5, Mv_6, Mv_7, Mv_8, Mv_9, Mv_10, Mv_11, Mv_12, Mv_13, Mv_14] : List (Int32)).getD k 0) (fun k => ([(fun _ => 0), Mf_1, Mf_2, Mf_3, Mf_4, Mf_5, (fun _ => 0), Mf_7] : List (Nat → Int32)).getD k (fun _ => 0)) (fun k => ([Mj_0] : List (Int64)).getD k 0) h_nx h_md h_t h_L h_rp h_c
set_option maxHeartbeats 4000000 in
set_option maxRecDepth 100000 in
theorem ct_X12_readsAll_r (l : Launch) (D : va_G) (tc : Nat → ClassId) (sk : (Nat → Nat) × (Nat → Nat)) (Ma : Nat → Nat) (Mv : Nat → Int32) (Mf : Nat → Nat → Int32) (Mj : Nat → Int64) (h_tp : 0 ≤ ((Mv 0) : Int32).toInt ∧ ((Mv 0) : Int32).toInt ≤ 400) (h_t : 0 ≤ ((Mv 5) : Int32).toInt ∧ ((Mv 5) : Int32).toInt ≤ 5) (h_rp : RulP (Mf 2) (Mf 4) (Mf 5) (Mv 5) 0) (h_c : ((Mf 5) (Mv 5).toInt.toNat).toInt = 0) : Ct l yX12_readsAll cX12_readsAll 2 (some .boolean) { frames := 11, cells := 0, slots := 0, locals := 241 } D tc sk [.ref (Ma 0)] [((Ma 0), .inr (12, [.ref (Ma 1), .int (Mv 0), .int (Mv 1), .ref (Ma 2), .ref (Ma 3), .ref (Ma 4), .ref (Ma 5), .ref (Ma 6), .int (Mv 2), .int (Mv 3), .int (Mv 4), .int (Mv 5), .int (Mv 6), .int (Mv 7), .int (Mv 8), .ref (Ma 7), .int (Mv 9), .ref (Ma 8), .int (Mv 10), .ref (Ma 9), .ref (Ma 10), .int (Mv 11), .int (Mv 12), .int (Mv 13), .ref (Ma 11), .int (Mv 14), .ref (Ma 12), .ref (Ma 13), .ref (Ma 14), .ref (Ma 15), .ref (Ma 16), .long (Mj 0), .ref (Ma 17), .ref (Ma 18), .ref (Ma 19), .ref (Ma 20)])), ((Ma 1), .inl (tc 2, 400, .inl (Mf 1))), ((Ma 2), .inl (tc 0, 2400, .inl (Mf 2))), ((Ma 3), .inl (tc 0, 7, .inl (Mf 3))), ((Ma 4), .inl (tc 0, 288, .inl (Mf 4))), ((Ma 5), .inl (tc 0, 6, .inl (Mf 5))), ((Ma 7), .inl (tc 0, 400, .inl (Mf 7)))] (fun (v : Option Value) (u : (Int32) × (Int32) × (Int32) × (Int32) × (Int32) × (Int32) × (Int32) × (Nat → Int32) × (Nat → Int32) × (Nat → Int32) × (Nat → Int32) × (Nat → Int32)) => match u with | (oo0x1, oo0x2, oo0x3, oo0x4, oo0x5, oo0x6, oo0x7, oo0x8, oo0x9, oo0x10, oo0x11, oo0x12) => ∃ r : Int32, v = some (.int r) ∧ ((r.toInt = 0 ∨ (r.toInt = 1 ∧ (oo0x11 (Mv 5).toInt.toNat).toInt ≤ 12))) ∧ (RulD oo0x8 oo0x10 oo0x11 (Mv 5)) ∧ (r.toInt = 1 → (RulP oo0x8 oo0x10 oo0x11 (Mv 5) ((oo0x9 (Mv 5).toNatClampNeg).toInt)))) (fun (u : (Int32) × (Int32) × (Int32) × (Int32) × (Int32) × (Int32) × (Int32) × (Nat → Int32) × (Nat → Int32) × (Nat → Int32) × (Nat → Int32) × (Nat → Int32)) => match u with | (oo0x1, oo0x2, oo0x3, oo0x4, oo0x5, oo0x6, oo0x7, oo0x8, oo0x9, oo0x10, oo0x11, oo0x12) => [((Ma 0), .inr (12, [.ref (Ma 1), .int 0, .int (Mv 1), .ref (Ma 2), .ref (Ma 3), .ref (Ma 4), .ref (Ma 5), .ref (Ma 6), .int oo0x1, .int oo0x2, .int oo0x3, .int (Mv 5), .int oo0x4, .int oo0x5, .int oo0x6, .ref (Ma 7), .int oo0x7, .ref (Ma 8), .int (Mv 10), .ref (Ma 9), .ref (Ma 10), .int (Mv 11), .int (Mv 12), .int (Mv 13), .ref (Ma 11), .int (Mv 14), .ref (Ma 12), .ref (Ma 13), .ref (Ma 14), .ref (Ma 15), .ref (Ma 16), .long (Mj 0), .ref (Ma 17), .ref (Ma 18), .ref (Ma 19), .ref (Ma 20)])), ((Ma 1), .inl (tc 2, 400, .inl (Mf 1))), ((Ma 2), .inl (tc 0, 2400, .inl oo0x8)), ((Ma 3), .inl (tc 0, 7, .inl oo0x9)), ((Ma 4), .inl (tc 0, 288, .inl oo0x10)), ((Ma 5), .inl (tc 0, 6, .inl oo0x11)), ((Ma 7), .inl (tc 0, 400, .inl oo0x12))]) 0 0 := by
  refine Ct.start (by decide) (Nat.le_of_ble_eq_true rfl) (fun p e s m below meth c A ls hx hb hr hlk hin hml hown hts hK hX hP hD hA hl hS => ?_)
  have hl : lv_has ls 2 [(0, .ref (Ma 0))] := hl
  have ar_h_rp := h_rp.2.1
  refine lv_aload_n hx hb dX12_readsAll_0 rfl (lv_at hl 0 rfl) ?_
  refine gf_X12_17 hx hb hts hown hK hP 0 rfl rfl dX12_readsAll_1 ?_
  refine lv_aload_n hx hb dX12_readsAll_4 rfl (lv_at hl 0 rfl) ?_
  refine gf_X12_145 hx hb hts hown hK hP 0 rfl rfl dX12_readsAll_5 ?_
  refine lv_iconst (v := 0) hx hb dX12_readsAll_8 (by decide) ?_
  have hi_1 : vp_in (Mv 5) 7 := by
    refine vp_in_iff.mpr ⟨?_, ?_⟩ <;> omega
  refine st_int hx hb hK hP hD hS 3 0 rfl rfl hi_1 dX12_readsAll_9 (fun g_2 H locs eg_2 hP₀ hD₀ hS₀ => ?_)
  replace hP : va_P D classes [((Ma 0), .inr (12, [.ref (Ma 1), .int (Mv 0), .int (Mv 1), .ref (Ma 2), .ref (Ma 3), .ref (Ma 4), .ref (Ma 5), .ref (Ma 6), .int (Mv 2), .int (Mv 3), .int (Mv 4), .int (Mv 5), .int (Mv 6), .int (Mv 7), .int (Mv 8), .ref (Ma 7), .int (Mv 9), .ref (Ma 8), .int (Mv 10), .ref (Ma 9), .ref (Ma 10), .int (Mv 11), .int (Mv 12), .int (Mv 13), .ref (Ma 11), .int (Mv 14), .ref (Ma 12), .ref (Ma 13), .ref (Ma 14), .ref (Ma 15), .ref (Ma 16), .long (Mj 0), .ref (Ma 17), .ref (Ma 18), .ref (Ma 19), .ref (Ma 20)])), ((Ma 1), .inl (tc 2, 400, .inl (Mf 1))), ((Ma 2), .inl (tc 0, 2400, .inl (Mf 2))), ((Ma 3), .inl (tc 0, 7, .inl g_2)), ((Ma 4), .inl (tc 0, 288, .inl (Mf 4))), ((Ma 5), .inl (tc 0, 6, .inl (Mf 5))), ((Ma 7), .inl (tc 0, 400, .inl (Mf 7)))] H := hP₀
  replace hD : va_D A [((Ma 0), .inr (12, [.ref (Ma 1), .int (Mv 0), .int (Mv 1), .ref (Ma 2), .ref (Ma 3), .ref (Ma 4), .ref (Ma 5), .ref (Ma 6), .int (Mv 2), .int (Mv 3), .int (Mv 4), .int (Mv 5), .int (Mv 6), .int (Mv 7), .int (Mv 8), .ref (Ma 7), .int (Mv 9), .ref (Ma 8), .int (Mv 10), .ref (Ma 9), .ref (Ma 10), .int (Mv 11), .int (Mv 12), .int (Mv 13), .ref (Ma 11), .int (Mv 14), .ref (Ma 12), .ref (Ma 13), .ref (Ma 14), .ref (Ma 15), .ref (Ma 16), .long (Mj 0), .ref (Ma 17), .ref (Ma 18), .ref (Ma 19), .ref (Ma 20)])), ((Ma 1), .inl (tc 2, 400, .inl (Mf 1))), ((Ma 2), .inl (tc 0, 2400, .inl (Mf 2))), ((Ma 3), .inl (tc 0, 7, .inl g_2)), ((Ma 4), .inl (tc 0, 288, .inl (Mf 4))), ((Ma 5), .inl (tc 0, 6, .inl (Mf 5))), ((Ma 7), .inl (tc 0, 400, .inl (Mf 7)))] := hD₀
  replace hS := hS₀
  clear hP₀ hD₀ hS₀
  have kl_g_2 : (g_2 (Mv 5).toNatClampNeg).toInt = (0 : Int32).toInt := upd_toInt_at eg_2
  have kz0 : (0 : Int32).toInt = 0 := by decide
  refine lv_aload_n hx hb dX12_readsAll_10 rfl (lv_at hl 0 rfl) ?_
  refine lv_iconst (v := 0) hx hb dX12_readsAll_11 (by decide) ?_
  refine pf_X12_244 hx hb hts hown hK hP hD hS 0 rfl (Nat.le_of_ble_eq_true rfl) rfl rfl dX12_readsAll_12 (fun H locs hP₀ hD₀ hS₀ => ?_)
  replace hP : va_P D classes [((Ma 0), .inr (12, [.ref (Ma 1), .int (Mv 0), .int (Mv 1), .ref (Ma 2), .ref (Ma 3), .ref (Ma 4), .ref (Ma 5), .ref (Ma 6), .int (Mv 2), .int (Mv 3), .int (Mv 4), .int (Mv 5), .int (Mv 6), .int (Mv 7), .int 0, .ref (Ma 7), .int (Mv 9), .ref (Ma 8), .int (Mv 10), .ref (Ma 9), .ref (Ma 10), .int (Mv 11), .int (Mv 12), .int (Mv 13), .ref (Ma 11), .int (Mv 14), .ref (Ma 12), .ref (Ma 13), .ref (Ma 14), .ref (Ma 15), .ref (Ma 16), .long (Mj 0), .ref (Ma 17), .ref (Ma 18), .ref (Ma 19), .ref (Ma 20)])), ((Ma 1), .inl (tc 2, 400, .inl (Mf 1))), ((Ma 2), .inl (tc 0, 2400, .inl (Mf 2))), ((Ma 3), .inl (tc 0, 7, .inl g_2)), ((Ma 4), .inl (tc 0, 288, .inl (Mf 4))), ((Ma 5), .inl (tc 0, 6, .inl (Mf 5))), ((Ma 7), .inl (tc 0, 400, .inl (Mf 7)))] H := hP₀
  replace hD : va_D A [((Ma 0), .inr (12, [.ref (Ma 1), .int (Mv 0), .int (Mv 1), .ref (Ma 2), .ref (Ma 3), .ref (Ma 4), .ref (Ma 5), .ref (Ma 6), .int (Mv 2), .int (Mv 3), .int (Mv 4), .int (Mv 5), .int (Mv 6), .int (Mv 7), .int 0, .ref (Ma 7), .int (Mv 9), .ref (Ma 8), .int (Mv 10), .ref (Ma 9), .ref (Ma 10), .int (Mv 11), .int (Mv 12), .int (Mv 13), .ref (Ma 11), .int (Mv 14), .ref (Ma 12), .ref (Ma 13), .ref (Ma 14), .ref (Ma 15), .ref (Ma 16), .long (Mj 0), .ref (Ma 17), .ref (Ma 18), .ref (Ma 19), .ref (Ma 20)])), ((Ma 1), .inl (tc 2, 400, .inl (Mf 1))), ((Ma 2), .inl (tc 0, 2400, .inl (Mf 2))), ((Ma 3), .inl (tc 0, 7, .inl g_2)), ((Ma 4), .inl (tc 0, 288, .inl (Mf 4))), ((Ma 5), .inl (tc 0, 6, .inl (Mf 5))), ((Ma 7), .inl (tc 0, 400, .inl (Mf 7)))] := hD₀
  replace hS := hS₀
  clear hP₀ hD₀ hS₀
  refine lv_aload_n hx hb dX12_readsAll_15 rfl (lv_at hl 0 rfl) ?_
  refine lv_iconst (v := 0) hx hb dX12_readsAll_16 (by decide) ?_
  refine pf_X12_87 hx hb hts hown hK hP hD hS 0 rfl (Nat.le_of_ble_eq_true rfl) rfl rfl dX12_readsAll_17 (fun H locs hP₀ hD₀ hS₀ => ?_)
  replace hP : va_P D classes [((Ma 0), .inr (12, [.ref (Ma 1), .int (Mv 0), .int (Mv 1), .ref (Ma 2), .ref (Ma 3), .ref (Ma 4), .ref (Ma 5), .ref (Ma 6), .int 0, .int (Mv 3), .int (Mv 4), .int (Mv 5), .int (Mv 6), .int (Mv 7), .int 0, .ref (Ma 7), .int (Mv 9), .ref (Ma 8), .int (Mv 10), .ref (Ma 9), .ref (Ma 10), .int (Mv 11), .int (Mv 12), .int (Mv 13), .ref (Ma 11), .int (Mv 14), .ref (Ma 12), .ref (Ma 13), .ref (Ma 14), .ref (Ma 15), .ref (Ma 16), .long (Mj 0), .ref (Ma 17), .ref (Ma 18), .ref (Ma 19), .ref (Ma 20)])), ((Ma 1), .inl (tc 2, 400, .inl (Mf 1))), ((Ma 2), .inl (tc 0, 2400, .inl (Mf 2))), ((Ma 3), .inl (tc 0, 7, .inl g_2)), ((Ma 4), .inl (tc 0, 288, .inl (Mf 4))), ((Ma 5), .inl (tc 0, 6, .inl (Mf 5))), ((Ma 7), .inl (tc 0, 400, .inl (Mf 7)))] H := hP₀
  replace hD : va_D A [((Ma 0), .inr (12, [.ref (Ma 1), .int (Mv 0), .int (Mv 1), .ref (Ma 2), .ref (Ma 3), .ref (Ma 4), .ref (Ma 5), .ref (Ma 6), .int 0, .int (Mv 3), .int (Mv 4), .int (Mv 5), .int (Mv 6), .int (Mv 7), .int 0, .ref (Ma 7), .int (Mv 9), .ref (Ma 8), .int (Mv 10), .ref (Ma 9), .ref (Ma 10), .int (Mv 11), .int (Mv 12), .int (Mv 13), .ref (Ma 11), .int (Mv 14), .ref (Ma 12), .ref (Ma 13), .ref (Ma 14), .ref (Ma 15), .ref (Ma 16), .long (Mj 0), .ref (Ma 17), .ref (Ma 18), .ref (Ma 19), .ref (Ma 20)])), ((Ma 1), .inl (tc 2, 400, .inl (Mf 1))), ((Ma 2), .inl (tc 0, 2400, .inl (Mf 2))), ((Ma 3), .inl (tc 0, 7, .inl g_2)), ((Ma 4), .inl (tc 0, 288, .inl (Mf 4))), ((Ma 5), .inl (tc 0, 6, .inl (Mf 5))), ((Ma 7), .inl (tc 0, 400, .inl (Mf 7)))] := hD₀
  replace hS := hS₀
  clear hP₀ hD₀ hS₀
  refine lv_aload_n hx hb dX12_readsAll_20 rfl (lv_at hl 0 rfl) ?_
  refine lv_iconst (v := 0) hx hb dX12_readsAll_21 (by decide) ?_
  refine pf_X12_84 hx hb hts hown hK hP hD hS 0 rfl (Nat.le_of_ble_eq_true rfl) rfl rfl dX12_readsAll_22 (fun H locs hP₀ hD₀ hS₀ => ?_)
  replace hP : va_P D classes [((Ma 0), .inr (12, [.ref (Ma 1), .int (Mv 0), .int (Mv 1), .ref (Ma 2), .ref (Ma 3), .ref (Ma 4), .ref (Ma 5), .ref (Ma 6), .int 0, .int 0, .int (Mv 4), .int (Mv 5), .int (Mv 6), .int (Mv 7), .int 0, .ref (Ma 7), .int (Mv 9), .ref (Ma 8), .int (Mv 10), .ref (Ma 9), .ref (Ma 10), .int (Mv 11), .int (Mv 12), .int (Mv 13), .ref (Ma 11), .int (Mv 14), .ref (Ma 12), .ref (Ma 13), .ref (Ma 14), .ref (Ma 15), .ref (Ma 16), .long (Mj 0), .ref (Ma 17), .ref (Ma 18), .ref (Ma 19), .ref (Ma 20)])), ((Ma 1), .inl (tc 2, 400, .inl (Mf 1))), ((Ma 2), .inl (tc 0, 2400, .inl (Mf 2))), ((Ma 3), .inl (tc 0, 7, .inl g_2)), ((Ma 4), .inl (tc 0, 288, .inl (Mf 4))), ((Ma 5), .inl (tc 0, 6, .inl (Mf 5))), ((Ma 7), .inl (tc 0, 400, .inl (Mf 7)))] H := hP₀
  replace hD : va_D A [((Ma 0), .inr (12, [.ref (Ma 1), .int (Mv 0), .int (Mv 1), .ref (Ma 2), .ref (Ma 3), .ref (Ma 4), .ref (Ma 5), .ref (Ma 6), .int 0, .int 0, .int (Mv 4), .int (Mv 5), .int (Mv 6), .int (Mv 7), .int 0, .ref (Ma 7), .int (Mv 9), .ref (Ma 8), .int (Mv 10), .ref (Ma 9), .ref (Ma 10), .int (Mv 11), .int (Mv 12), .int (Mv 13), .ref (Ma 11), .int (Mv 14), .ref (Ma 12), .ref (Ma 13), .ref (Ma 14), .ref (Ma 15), .ref (Ma 16), .long (Mj 0), .ref (Ma 17), .ref (Ma 18), .ref (Ma 19), .ref (Ma 20)])), ((Ma 1), .inl (tc 2, 400, .inl (Mf 1))), ((Ma 2), .inl (tc 0, 2400, .inl (Mf 2))), ((Ma 3), .inl (tc 0, 7, .inl g_2)), ((Ma 4), .inl (tc 0, 288, .inl (Mf 4))), ((Ma 5), .inl (tc 0, 6, .inl (Mf 5))), ((Ma 7), .inl (tc 0, 400, .inl (Mf 7)))] := hD₀
  replace hS := hS₀
  clear hP₀ hD₀ hS₀
  refine lv_aload_n hx hb dX12_readsAll_25 rfl (lv_at hl 0 rfl) ?_
  refine lv_iconst (v := 0) hx hb dX12_readsAll_26 (by decide) ?_
  refine pf_X12_148 hx hb hts hown hK hP hD hS 0 rfl (Nat.le_of_ble_eq_true rfl) rfl rfl dX12_readsAll_27 (fun H locs hP₀ hD₀ hS₀ => ?_)
  replace hP : va_P D classes [((Ma 0), .inr (12, [.ref (Ma 1), .int (Mv 0), .int (Mv 1), .ref (Ma 2), .ref (Ma 3), .ref (Ma 4), .ref (Ma 5), .ref (Ma 6), .int 0, .int 0, .int (Mv 4), .int (Mv 5), .int 0, .int (Mv 7), .int 0, .ref (Ma 7), .int (Mv 9), .ref (Ma 8), .int (Mv 10), .ref (Ma 9), .ref (Ma 10), .int (Mv 11), .int (Mv 12), .int (Mv 13), .ref (Ma 11), .int (Mv 14), .ref (Ma 12), .ref (Ma 13), .ref (Ma 14), .ref (Ma 15), .ref (Ma 16), .long (Mj 0), .ref (Ma 17), .ref (Ma 18), .ref (Ma 19), .ref (Ma 20)])), ((Ma 1), .inl (tc 2, 400, .inl (Mf 1))), ((Ma 2), .inl (tc 0, 2400, .inl (Mf 2))), ((Ma 3), .inl (tc 0, 7, .inl g_2)), ((Ma 4), .inl (tc 0, 288, .inl (Mf 4))), ((Ma 5), .inl (tc 0, 6, .inl (Mf 5))), ((Ma 7), .inl (tc 0, 400, .inl (Mf 7)))] H := hP₀
  replace hD : va_D A [((Ma 0), .inr (12, [.ref (Ma 1), .int (Mv 0), .int (Mv 1), .ref (Ma 2), .ref (Ma 3), .ref (Ma 4), .ref (Ma 5), .ref (Ma 6), .int 0, .int 0, .int (Mv 4), .int (Mv 5), .int 0, .int (Mv 7), .int 0, .ref (Ma 7), .int (Mv 9), .ref (Ma 8), .int (Mv 10), .ref (Ma 9), .ref (Ma 10), .int (Mv 11), .int (Mv 12), .int (Mv 13), .ref (Ma 11), .int (Mv 14), .ref (Ma 12), .ref (Ma 13), .ref (Ma 14), .ref (Ma 15), .ref (Ma 16), .long (Mj 0), .ref (Ma 17), .ref (Ma 18), .ref (Ma 19), .ref (Ma 20)])), ((Ma 1), .inl (tc 2, 400, .inl (Mf 1))), ((Ma 2), .inl (tc 0, 2400, .inl (Mf 2))), ((Ma 3), .inl (tc 0, 7, .inl g_2)), ((Ma 4), .inl (tc 0, 288, .inl (Mf 4))), ((Ma 5), .inl (tc 0, 6, .inl (Mf 5))), ((Ma 7), .inl (tc 0, 400, .inl (Mf 7)))] := hD₀
  replace hS := hS₀
  clear hP₀ hD₀ hS₀
  refine lv_aload_n hx hb dX12_readsAll_30 rfl (lv_at hl 0 rfl) ?_
  have hr_3 : 0 ≤ ((g_2 (Mv 5).toNatClampNeg).toInt) := by
    omega
  have ha_4 : 0 ≤ ((0 : Int32) : Int32).toInt ∧ ((0 : Int32) : Int32).toInt ≤ ((Mv 0) : Int32).toInt ∧ ((Mv 0) : Int32).toInt ≤ 400 := by
    have y_0 : (0 : Int32).toInt = 0 := by decide
    refine ⟨?_, ?_, ?_⟩ <;> omega
  have ha_5 : 0 ≤ ((0 : Int32) : Int32).toInt ∧ ((0 : Int32) : Int32).toInt ≤ 60 := by
    have y_0 : (0 : Int32).toInt = 0 := by decide
    refine ⟨?_, ?_⟩ <;> omega
  have ha_6 : 0 ≤ (g_2 (Mv 5).toNatClampNeg).toInt ∧ (g_2 (Mv 5).toNatClampNeg).toInt ≤ ((0 : Int32) : Int32).toInt := by
    have y_0 : (0 : Int32).toInt = 0 := by decide
    refine ⟨?_, ?_⟩ <;> omega
  have ha_7 : ((Mf 5) (Mv 5).toInt.toNat).toInt = ((0 : Int32) : Int32).toInt ∧ 0 ≤ ((0 : Int32) : Int32).toInt ∧ ((0 : Int32) : Int32).toInt ≤ 12 := by
    have y_0 : (0 : Int32).toInt = 0 := by decide
    refine ⟨?_, ?_, ?_⟩ <;> omega
  refine cV (a := (Ma 0)) (As := []) (rest := []) (wr := []) ⟨hx, hb, hml, hown, hts⟩ hK hX hA (cu_X12_clauseHere_r l D tc sk (Ma 0) (Ma 1) (Ma 2) (Ma 3) (Ma 4) (Ma 5) (Ma 6) (Ma 7) (Ma 8) (Ma 9) (Ma 10) (Ma 11) (Ma 12) (Ma 13) (Ma 14) (Ma 15) (Ma 16) (Ma 17) (Ma 18) (Ma 19) (Ma 20) (Mv 0) (Mv 1) 0 0 (Mv 4) (Mv 5) 0 (Mv 7) 0 (Mv 9) (Mv 10) (Mv 11) (Mv 12) (Mv 13) (Mv 14) (Mf 1) (Mf 2) g_2 (Mf 4) (Mf 5) (Mf 7) (Mj 0) ha_4 ha_5 h_t ha_6 (RulP.mono h_rp hr_3) ha_7) k_1207 k_1204 k_1206 k_26 k_106 pl_X12_clauseHere ⟨Nat.le_of_ble_eq_true rfl, Nat.le_of_ble_eq_true rfl⟩ rfl rfl (va_recv hK hP (ci := 12) (q0 := 0) rfl rfl) hP hD hS [0, 1, 2, 3, 4, 5, 6] [] rfl rfl rfl rfl rfl (by decide) rfl hl.1 rfl (Nat.le_of_ble_eq_true rfl) dX12_readsAll_31 ⟨Nat.le_of_ble_eq_true rfl, Nat.le_of_ble_eq_true rfl⟩ (fun v_8 u_9 H locs hv_10 hP₀ hD₀ hS₀ => ?_)
  obtain ⟨sv_11, sv_12, sv_13, sv_14, sv_15, sv_16, sv_17, sv_18, sv_19, sv_20, sv_21, sv_22⟩ := u_9
  obtain ⟨r_26, rfl, he_27, pf_23, pf_24, pf_25, hm_29⟩ := hv_10
  have he_27 : ((r_26.toInt = 0 ∧ ¬ (sv_12 : Int32).toInt = 0) ∨ (r_26.toInt = 1 ∧ 0 ≤ (sv_19 (Mv 5).toNatClampNeg).toInt ∧ (sv_19 (Mv 5).toNatClampNeg).toInt ≤ (sv_11 : Int32).toInt ∧ (sv_21 (Mv 5).toInt.toNat).toInt = (sv_16 : Int32).toInt ∧ 0 ≤ (sv_16 : Int32).toInt ∧ (sv_16 : Int32).toInt ≤ 12)) := he_27
  have pf_23 : ((0 : Int32) : Int32).toInt ≤ (sv_11 : Int32).toInt ∧ (sv_11 : Int32).toInt ≤ ((Mv 0) : Int32).toInt := pf_23
  have pf_24 : ((0 : Int32) : Int32).toInt ≤ (sv_14 : Int32).toInt ∧ (sv_14 : Int32).toInt ≤ 60 := pf_24
  have pf_25 : RulD sv_18 sv_20 sv_21 (Mv 5) := pf_25
  refine W.eq (g2 := F0 m 34 ls [.int r_26]) rfl ?_
  replace hP : va_P D classes [((Ma 0), .inr (12, [.ref (Ma 1), .int (Mv 0), .int (Mv 1), .ref (Ma 2), .ref (Ma 3), .ref (Ma 4), .ref (Ma 5), .ref (Ma 6), .int sv_11, .int sv_12, .int sv_13, .int (Mv 5), .int sv_14, .int sv_15, .int sv_16, .ref (Ma 7), .int sv_17, .ref (Ma 8), .int (Mv 10), .ref (Ma 9), .ref (Ma 10), .int (Mv 11), .int (Mv 12), .int (Mv 13), .ref (Ma 11), .int (Mv 14), .ref (Ma 12), .ref (Ma 13), .ref (Ma 14), .ref (Ma 15), .ref (Ma 16), .long (Mj 0), .ref (Ma 17), .ref (Ma 18), .ref (Ma 19), .ref (Ma 20)])), ((Ma 1), .inl (tc 2, 400, .inl (Mf 1))), ((Ma 2), .inl (tc 0, 2400, .inl sv_18)), ((Ma 3), .inl (tc 0, 7, .inl sv_19)), ((Ma 4), .inl (tc 0, 288, .inl sv_20)), ((Ma 5), .inl (tc 0, 6, .inl sv_21)), ((Ma 7), .inl (tc 0, 400, .inl sv_22))] H := hP₀
  replace hD : va_D A [((Ma 0), .inr (12, [.ref (Ma 1), .int (Mv 0), .int (Mv 1), .ref (Ma 2), .ref (Ma 3), .ref (Ma 4), .ref (Ma 5), .ref (Ma 6), .int sv_11, .int sv_12, .int sv_13, .int (Mv 5), .int sv_14, .int sv_15, .int sv_16, .ref (Ma 7), .int sv_17, .ref (Ma 8), .int (Mv 10), .ref (Ma 9), .ref (Ma 10), .int (Mv 11), .int (Mv 12), .int (Mv 13), .ref (Ma 11), .int (Mv 14), .ref (Ma 12), .ref (Ma 13), .ref (Ma 14), .ref (Ma 15), .ref (Ma 16), .long (Mj 0), .ref (Ma 17), .ref (Ma 18), .ref (Ma 19), .ref (Ma 20)])), ((Ma 1), .inl (tc 2, 400, .inl (Mf 1))), ((Ma 2), .inl (tc 0, 2400, .inl sv_18)), ((Ma 3), .inl (tc 0, 7, .inl sv_19)), ((Ma 4), .inl (tc 0, 288, .inl sv_20)), ((Ma 5), .inl (tc 0, 6, .inl sv_21)), ((Ma 7), .inl (tc 0, 400, .inl sv_22))] := hD₀
  replace hS := hS₀
  clear hP₀ hD₀ hS₀
  refine lv_istore_n (lv' := [(1, .int r_26), (0, .ref (Ma 0))]) hx hb dX12_readsAll_34 rfl hl (by decide) rfl (fun ls hl₀ => ?_)
  replace hl := hl₀
  clear hl₀
  have loop_58 : ∀ (n_56 : Nat) (vy_43 : Int32) (vy_44 : Int32) (vy_45 : Int32) (vy_46 : Int32) (vy_47 : Int32) (vy_48 : Int32) (vy_49 : Int32) (vy_50 : Int32) (vy_51 : Nat → Int32) (vy_52 : Nat → Int32) (vy_53 : Nat → Int32) (vy_54 : Nat → Int32) (vy_55 : Nat → Int32) (H : Heap) (locs : List Loc) (ls : Array Slot), (2 * (401 - (vy_44 : Int32).toInt) + (vy_43 : Int32).toInt).toNat < n_56 → (0 ≤ (vy_44 : Int32).toInt ∧ (vy_44 : Int32).toInt ≤ ((Mv 0) : Int32).toInt ∧ ((Mv 0) : Int32).toInt ≤ 400) → (0 ≤ (vy_47 : Int32).toInt ∧ (vy_47 : Int32).toInt ≤ 60) → ((((vy_43 : Int32).toInt = 0 ∧ ¬ (vy_45 : Int32).toInt = 0) ∨ ((vy_43 : Int32).toInt = 1 ∧ 0 ≤ (vy_52 (Mv 5).toNatClampNeg).toInt ∧ (vy_52 (Mv 5).toNatClampNeg).toInt ≤ (vy_44 : Int32).toInt ∧ (vy_54 (Mv 5).toInt.toNat).toInt = (vy_49 : Int32).toInt ∧ 0 ≤ (vy_49 : Int32).toInt ∧ (vy_49 : Int32).toInt ≤ 12))) → (RuG vy_51 vy_53 vy_54 (Mv 5) ((vy_52 (Mv 5).toNatClampNeg).toInt) vy_43) → (RulD vy_51 vy_53 vy_54 (Mv 5)) → va_P D classes [((Ma 0), .inr (12, [.ref (Ma 1), .int (Mv 0), .int (Mv 1), .ref (Ma 2), .ref (Ma 3), .ref (Ma 4), .ref (Ma 5), .ref (Ma 6), .int vy_44, .int vy_45, .int vy_46, .int (Mv 5), .int vy_47, .int vy_48, .int vy_49, .ref (Ma 7), .int vy_50, .ref (Ma 8), .int (Mv 10), .ref (Ma 9), .ref (Ma 10), .int (Mv 11), .int (Mv 12), .int (Mv 13), .ref (Ma 11), .int (Mv 14), .ref (Ma 12), .ref (Ma 13), .ref (Ma 14), .ref (Ma 15), .ref (Ma 16), .long (Mj 0), .ref (Ma 17), .ref (Ma 18), .ref (Ma 19), .ref (Ma 20)])), ((Ma 1), .inl (tc 2, 400, .inl (Mf 1))), ((Ma 2), .inl (tc 0, 2400, .inl vy_51)), ((Ma 3), .inl (tc 0, 7, .inl vy_52)), ((Ma 4), .inl (tc 0, 288, .inl vy_53)), ((Ma 5), .inl (tc 0, 6, .inl vy_54)), ((Ma 7), .inl (tc 0, 400, .inl vy_55))] H → va_D A [((Ma 0), .inr (12, [.ref (Ma 1), .int (Mv 0), .int (Mv 1), .ref (Ma 2), .ref (Ma 3), .ref (Ma 4), .ref (Ma 5), .ref (Ma 6), .int vy_44, .int vy_45, .int vy_46, .int (Mv 5), .int vy_47, .int vy_48, .int vy_49, .ref (Ma 7), .int vy_50, .ref (Ma 8), .int (Mv 10), .ref (Ma 9), .ref (Ma 10), .int (Mv 11), .int (Mv 12), .int (Mv 13), .ref (Ma 11), .int (Mv 14), .ref (Ma 12), .ref (Ma 13), .ref (Ma 14), .ref (Ma 15), .ref (Ma 16), .long (Mj 0), .ref (Ma 17), .ref (Ma 18), .ref (Ma 19), .ref (Ma 20)])), ((Ma 1), .inl (tc 2, 400, .inl (Mf 1))), ((Ma 2), .inl (tc 0, 2400, .inl vy_51)), ((Ma 3), .inl (tc 0, 7, .inl vy_52)), ((Ma 4), .inl (tc 0, 288, .inl vy_53)), ((Ma 5), .inl (tc 0, 6, .inl vy_54)), ((Ma 7), .inl (tc 0, 400, .inl vy_55))] → va_S A s.heap H locs → lv_has ls 2 [(1, .int vy_43), (0, .ref (Ma 0))] → W p l e ({ frames := 11, cells := 0, slots := 0, locals := 241 }) s m ([.ref (Ma 0)].toArray) below meth c H locs 0 0 (MQ below (QW (fun (v : Option Value) (u : (Int32) × (Int32) × (Int32) × (Int32) × (Int32) × (Int32) × (Int32) × (Nat → Int32) × (Nat → Int32) × (Nat → Int32) × (Nat → Int32) × (Nat → Int32)) => match u with | (oo0x1, oo0x2, oo0x3, oo0x4, oo0x5, oo0x6, oo0x7, oo0x8, oo0x9, oo0x10, oo0x11, oo0x12) => ∃ r : Int32, v = some (.int r) ∧ ((r.toInt = 0 ∨ (r.toInt = 1 ∧ (oo0x11 (Mv 5).toInt.toNat).toInt ≤ 12))) ∧ (RulD oo0x8 oo0x10 oo0x11 (Mv 5)) ∧ (r.toInt = 1 → (RulP oo0x8 oo0x10 oo0x11 (Mv 5) ((oo0x9 (Mv 5).toNatClampNeg).toInt)))) (BW D (fun (u : (Int32) × (Int32) × (Int32) × (Int32) × (Int32) × (Int32) × (Int32) × (Nat → Int32) × (Nat → Int32) × (Nat → Int32) × (Nat → Int32) × (Nat → Int32)) => match u with | (oo0x1, oo0x2, oo0x3, oo0x4, oo0x5, oo0x6, oo0x7, oo0x8, oo0x9, oo0x10, oo0x11, oo0x12) => [((Ma 0), .inr (12, [.ref (Ma 1), .int 0, .int (Mv 1), .ref (Ma 2), .ref (Ma 3), .ref (Ma 4), .ref (Ma 5), .ref (Ma 6), .int oo0x1, .int oo0x2, .int oo0x3, .int (Mv 5), .int oo0x4, .int oo0x5, .int oo0x6, .ref (Ma 7), .int oo0x7, .ref (Ma 8), .int (Mv 10), .ref (Ma 9), .ref (Ma 10), .int (Mv 11), .int (Mv 12), .int (Mv 13), .ref (Ma 11), .int (Mv 14), .ref (Ma 12), .ref (Ma 13), .ref (Ma 14), .ref (Ma 15), .ref (Ma 16), .long (Mj 0), .ref (Ma 17), .ref (Ma 18), .ref (Ma 19), .ref (Ma 20)])), ((Ma 1), .inl (tc 2, 400, .inl (Mf 1))), ((Ma 2), .inl (tc 0, 2400, .inl oo0x8)), ((Ma 3), .inl (tc 0, 7, .inl oo0x9)), ((Ma 4), .inl (tc 0, 288, .inl oo0x10)), ((Ma 5), .inl (tc 0, 6, .inl oo0x11)), ((Ma 7), .inl (tc 0, 400, .inl oo0x12))]) A) A) ([.ref (Ma 0)].toArray) s 0 0 A) (F0 m 35 ls []) := by
    clear hP hD hS hl
    intro n_56
    induction n_56 with
    | zero =>
      intro vy_43 vy_44 vy_45 vy_46 vy_47 vy_48 vy_49 vy_50 vy_51 vy_52 vy_53 vy_54 vy_55 H locs ls h1
      exact absurd h1 (Nat.not_lt_zero _)
    | succ n_56 ih_57 =>
      intro vy_43 vy_44 vy_45 vy_46 vy_47 vy_48 vy_49 vy_50 vy_51 vy_52 vy_53 vy_54 vy_55 H locs ls hn_64 pf_59 pf_60 pf_61 pf_62 pf_63 hP hD hS hl
      refine lv_iload_n hx hb dX12_readsAll_35 rfl (lv_at hl 0 rfl) ?_
      refine lv_if_eq (tgt := 66) hx hb dX12_readsAll_36 (by decide) (fun c_65 => ?_) (fun c_65 => ?_)
      · skip
        refine lv_iload_n hx hb dX12_readsAll_66 rfl (lv_at hl 0 rfl) ?_
        refine lv_if_eq (tgt := 88) hx hb dX12_readsAll_67 (by decide) (fun c_66 => ?_) (fun c_66 => ?_)
        · skip
          refine lv_aload_n hx hb dX12_readsAll_88 rfl (lv_at hl 1 rfl) ?_
          refine lv_iconst (v := 0) hx hb dX12_readsAll_89 (by decide) ?_
          refine pf_X12_77 hx hb hts hown hK hP hD hS 0 rfl (Nat.le_of_ble_eq_true rfl) rfl rfl dX12_readsAll_90 (fun H locs hP₀ hD₀ hS₀ => ?_)
          replace hP : va_P D classes [((Ma 0), .inr (12, [.ref (Ma 1), .int 0, .int (Mv 1), .ref (Ma 2), .ref (Ma 3), .ref (Ma 4), .ref (Ma 5), .ref (Ma 6), .int vy_44, .int vy_45, .int vy_46, .int (Mv 5), .int vy_47, .int vy_48, .int vy_49, .ref (Ma 7), .int vy_50, .ref (Ma 8), .int (Mv 10), .ref (Ma 9), .ref (Ma 10), .int (Mv 11), .int (Mv 12), .int (Mv 13), .ref (Ma 11), .int (Mv 14), .ref (Ma 12), .ref (Ma 13), .ref (Ma 14), .ref (Ma 15), .ref (Ma 16), .long (Mj 0), .ref (Ma 17), .ref (Ma 18), .ref (Ma 19), .ref (Ma 20)])), ((Ma 1), .inl (tc 2, 400, .inl (Mf 1))), ((Ma 2), .inl (tc 0, 2400, .inl vy_51)), ((Ma 3), .inl (tc 0, 7, .inl vy_52)), ((Ma 4), .inl (tc 0, 288, .inl vy_53)), ((Ma 5), .inl (tc 0, 6, .inl vy_54)), ((Ma 7), .inl (tc 0, 400, .inl vy_55))] H := hP₀
          replace hD : va_D A [((Ma 0), .inr (12, [.ref (Ma 1), .int 0, .int (Mv 1), .ref (Ma 2), .ref (Ma 3), .ref (Ma 4), .ref (Ma 5), .ref (Ma 6), .int vy_44, .int vy_45, .int vy_46, .int (Mv 5), .int vy_47, .int vy_48, .int vy_49, .ref (Ma 7), .int vy_50, .ref (Ma 8), .int (Mv 10), .ref (Ma 9), .ref (Ma 10), .int (Mv 11), .int (Mv 12), .int (Mv 13), .ref (Ma 11), .int (Mv 14), .ref (Ma 12), .ref (Ma 13), .ref (Ma 14), .ref (Ma 15), .ref (Ma 16), .long (Mj 0), .ref (Ma 17), .ref (Ma 18), .ref (Ma 19), .ref (Ma 20)])), ((Ma 1), .inl (tc 2, 400, .inl (Mf 1))), ((Ma 2), .inl (tc 0, 2400, .inl vy_51)), ((Ma 3), .inl (tc 0, 7, .inl vy_52)), ((Ma 4), .inl (tc 0, 288, .inl vy_53)), ((Ma 5), .inl (tc 0, 6, .inl vy_54)), ((Ma 7), .inl (tc 0, 400, .inl vy_55))] := hD₀
          replace hS := hS₀
          clear hP₀ hD₀ hS₀
          refine lv_aload_n hx hb dX12_readsAll_93 rfl (lv_at hl 1 rfl) ?_
          refine gf_X12_84 hx hb hts hown hK hP 0 rfl rfl dX12_readsAll_94 ?_
          refine lv_if_ne (tgt := 104) hx hb dX12_readsAll_97 (by decide) (fun c_67 => ?_) (fun c_67 => ?_)
          · skip
            refine lv_iconst (v := 0) hx hb dX12_readsAll_104 (by decide) ?_
            have hp_68 : ((0 : Int32).toInt = 0 ∨ ((0 : Int32).toInt = 1 ∧ (vy_54 (Mv 5).toInt.toNat).toInt ≤ 12)) := by
              have z_1 := congrArg Int32.toInt c_65
              have z_2 := congrArg Int32.toInt c_66
              have z_3 : ¬ (vy_45 : Int32).toInt = (0 : Int32).toInt := fun z => c_67 (Int32.toInt_inj.mp z)
              have y_0 : (0 : Int32).toInt = 0 := by decide
              omega
            exact retI (v := 0) hx hb hr hlk (rfl) hP hD hS (vy_44, vy_45, vy_46, vy_47, vy_48, vy_49, vy_50, vy_51, vy_52, vy_53, vy_54, vy_55) ⟨_, rfl, hp_68, pf_63, (fun h => absurd h (by decide))⟩ [0, 1, 2, 3, 4, 5, 6] rfl rfl dX12_readsAll_105 (Nat.le_of_ble_eq_true rfl) (Nat.le_of_ble_eq_true rfl) rfl
          · skip
            refine lv_iconst (v := 1) hx hb dX12_readsAll_100 (by decide) ?_
            refine lv_goto (tgt := 105) hx hb dX12_readsAll_101 (by decide) ?_
            have hp_69 : ((1 : Int32).toInt = 0 ∨ ((1 : Int32).toInt = 1 ∧ (vy_54 (Mv 5).toInt.toNat).toInt ≤ 12)) := by
              have z_1 := congrArg Int32.toInt c_65
              have z_2 := congrArg Int32.toInt c_66
              have z_3 := congrArg Int32.toInt c_67
              have y_0 : (0 : Int32).toInt = 0 := by decide
              have y_1 : (1 : Int32).toInt = 1 := by decide
              have yr : (1 : Int32).toInt = 1 := by decide
              omega
            have hm_70 : (1 : Int32).toInt = 1 → (RulP vy_51 vy_53 vy_54 (Mv 5) ((vy_52 (Mv 5).toNatClampNeg).toInt)) := by
              intro h1r
              have hf_71 : False := by
                have z_1 := congrArg Int32.toInt c_65
                have z_2 := congrArg Int32.toInt c_66
                have z_3 := congrArg Int32.toInt c_67
                have y_0 : (0 : Int32).toInt = 0 := by decide
                omega
              exact (hf_71.elim)
            exact retI (v := 1) hx hb hr hlk (rfl) hP hD hS (vy_44, vy_45, vy_46, vy_47, vy_48, vy_49, vy_50, vy_51, vy_52, vy_53, vy_54, vy_55) ⟨_, rfl, hp_69, pf_63, hm_70⟩ [0, 1, 2, 3, 4, 5, 6] rfl rfl dX12_readsAll_105 (Nat.le_of_ble_eq_true rfl) (Nat.le_of_ble_eq_true rfl) rfl
        · skip
          exfalso
          have z_1 := congrArg Int32.toInt c_65
          have z_2 : ¬ (vy_43 : Int32).toInt = (0 : Int32).toInt := fun z => c_66 (Int32.toInt_inj.mp z)
          have y_0 : (0 : Int32).toInt = 0 := by decide
          omega
      · skip
        have hr_73 : (vy_43 : Int32).toInt = 1 := by
          have z_1 : ¬ (vy_43 : Int32).toInt = (0 : Int32).toInt := fun z => c_65 (Int32.toInt_inj.mp z)
          have y_0 : (0 : Int32).toInt = 0 := by decide
          omega
        have pf_72 : RulP vy_51 vy_53 vy_54 (Mv 5) ((vy_52 (Mv 5).toNatClampNeg).toInt) := pf_62 hr_73
        have ar_pf_72 := pf_72.2.1
        refine lv_aload_n hx hb dX12_readsAll_39 rfl (lv_at hl 1 rfl) ?_
        refine cV (a := (Ma 0)) (As := []) (rest := []) (wr := [((Ma 2), .inl (tc 0, 2400, .inl vy_51)), ((Ma 3), .inl (tc 0, 7, .inl vy_52)), ((Ma 4), .inl (tc 0, 288, .inl vy_53)), ((Ma 5), .inl (tc 0, 6, .inl vy_54)), ((Ma 7), .inl (tc 0, 400, .inl vy_55))]) ⟨hx, hb, hml, hown, hts⟩ hK hX hA (cu_X12_see l D tc sk (Ma 0) (Ma 1) (Ma 2) (Ma 3) (Ma 4) (Ma 5) (Ma 6) (Ma 7) (Ma 8) (Ma 9) (Ma 10) (Ma 11) (Ma 12) (Ma 13) (Ma 14) (Ma 15) (Ma 16) (Ma 17) (Ma 18) (Ma 19) (Ma 20) (Mv 0) (Mv 1) vy_44 vy_45 vy_46 (Mv 5) vy_47 vy_48 vy_49 vy_50 (Mv 10) (Mv 11) (Mv 12) (Mv 13) (Mv 14) (Mf 1) (Mj 0) pf_59) k_1211 k_1208 k_1210 k_27 k_106 pl_X12_see ⟨Nat.le_of_ble_eq_true rfl, Nat.le_of_ble_eq_true rfl⟩ rfl rfl (va_recv hK hP (ci := 12) (q0 := 0) rfl rfl) hP hD hS [0, 1] [2, 3, 4, 5, 6] rfl rfl rfl rfl rfl (by decide) rfl hl.1 rfl (Nat.le_of_ble_eq_true rfl) dX12_readsAll_40 ⟨Nat.le_of_ble_eq_true rfl, Nat.le_of_ble_eq_true rfl⟩ (fun v_74 u_75 H locs hv_76 hP₀ hD₀ hS₀ => ?_)
        obtain ⟨sv_77, rfl⟩ : ∃ z, z = u_75 := ⟨_, rfl⟩
        obtain ⟨r_81, rfl, he_82, pf_78, pf_79, pf_80⟩ := hv_76
        have he_82 : (r_81.toInt = -1 ∨ (sv_77 : Int32).toInt < ((Mv 0) : Int32).toInt) := he_82
        have pf_78 : (vy_44 : Int32).toInt ≤ (sv_77 : Int32).toInt ∧ (sv_77 : Int32).toInt ≤ ((Mv 0) : Int32).toInt := pf_78
        have pf_79 : NSq (Mf 1) (Mv 0) sv_77 := pf_79
        have pf_80 : Stl (Mf 1) (Mv 0) vy_44 sv_77 := pf_80
        refine W.eq (g2 := F0 m 43 ls [.int r_81]) rfl ?_
        replace hP : va_P D classes [((Ma 2), .inl (tc 0, 2400, .inl vy_51)), ((Ma 3), .inl (tc 0, 7, .inl vy_52)), ((Ma 4), .inl (tc 0, 288, .inl vy_53)), ((Ma 5), .inl (tc 0, 6, .inl vy_54)), ((Ma 7), .inl (tc 0, 400, .inl vy_55)), ((Ma 0), .inr (12, [.ref (Ma 1), .int (Mv 0), .int (Mv 1), .ref (Ma 2), .ref (Ma 3), .ref (Ma 4), .ref (Ma 5), .ref (Ma 6), .int sv_77, .int vy_45, .int vy_46, .int (Mv 5), .int vy_47, .int vy_48, .int vy_49, .ref (Ma 7), .int vy_50, .ref (Ma 8), .int (Mv 10), .ref (Ma 9), .ref (Ma 10), .int (Mv 11), .int (Mv 12), .int (Mv 13), .ref (Ma 11), .int (Mv 14), .ref (Ma 12), .ref (Ma 13), .ref (Ma 14), .ref (Ma 15), .ref (Ma 16), .long (Mj 0), .ref (Ma 17), .ref (Ma 18), .ref (Ma 19), .ref (Ma 20)])), ((Ma 1), .inl (tc 2, 400, .inl (Mf 1)))] H := hP₀
        replace hD : va_D A [((Ma 2), .inl (tc 0, 2400, .inl vy_51)), ((Ma 3), .inl (tc 0, 7, .inl vy_52)), ((Ma 4), .inl (tc 0, 288, .inl vy_53)), ((Ma 5), .inl (tc 0, 6, .inl vy_54)), ((Ma 7), .inl (tc 0, 400, .inl vy_55)), ((Ma 0), .inr (12, [.ref (Ma 1), .int (Mv 0), .int (Mv 1), .ref (Ma 2), .ref (Ma 3), .ref (Ma 4), .ref (Ma 5), .ref (Ma 6), .int sv_77, .int vy_45, .int vy_46, .int (Mv 5), .int vy_47, .int vy_48, .int vy_49, .ref (Ma 7), .int vy_50, .ref (Ma 8), .int (Mv 10), .ref (Ma 9), .ref (Ma 10), .int (Mv 11), .int (Mv 12), .int (Mv 13), .ref (Ma 11), .int (Mv 14), .ref (Ma 12), .ref (Ma 13), .ref (Ma 14), .ref (Ma 15), .ref (Ma 16), .long (Mj 0), .ref (Ma 17), .ref (Ma 18), .ref (Ma 19), .ref (Ma 20)])), ((Ma 1), .inl (tc 2, 400, .inl (Mf 1)))] := hD₀
        replace hS := hS₀
        clear hP₀ hD₀ hS₀
        refine lv_bipush (v := 59) hx hb dX12_readsAll_43 (by decide) ?_
        refine lv_icmp_ne (tgt := 66) hx hb dX12_readsAll_45 (by decide) (fun c_84 => ?_) (fun c_84 => ?_)
        · skip
          refine lv_iload_n hx hb dX12_readsAll_66 rfl (lv_at hl 0 rfl) ?_
          refine lv_if_eq (tgt := 88) hx hb dX12_readsAll_67 (by decide) (fun c_85 => ?_) (fun c_85 => ?_)
          · skip
            exfalso
            have z_1 : ¬ (vy_43 : Int32).toInt = (0 : Int32).toInt := fun z => c_65 (Int32.toInt_inj.mp z)
            have z_2 : ¬ (r_81 : Int32).toInt = (59 : Int32).toInt := fun z => c_84 (Int32.toInt_inj.mp z)
            have z_3 := congrArg Int32.toInt c_85
            have y_0 : (0 : Int32).toInt = 0 := by decide
            have y_59 : (59 : Int32).toInt = 59 := by decide
            omega
          · skip
            refine lv_aload_n hx hb dX12_readsAll_70 rfl (lv_at hl 1 rfl) ?_
            have ha_86 : 0 ≤ (sv_77 : Int32).toInt ∧ (sv_77 : Int32).toInt ≤ ((Mv 0) : Int32).toInt ∧ ((Mv 0) : Int32).toInt ≤ 400 := by
              have z_1 : ¬ (vy_43 : Int32).toInt = (0 : Int32).toInt := fun z => c_65 (Int32.toInt_inj.mp z)
              have z_2 : ¬ (r_81 : Int32).toInt = (59 : Int32).toInt := fun z => c_84 (Int32.toInt_inj.mp z)
              have z_3 : ¬ (vy_43 : Int32).toInt = (0 : Int32).toInt := fun z => c_85 (Int32.toInt_inj.mp z)
              have y_0 : (0 : Int32).toInt = 0 := by decide
              have y_59 : (59 : Int32).toInt = 59 := by decide
              refine ⟨?_, ?_, ?_⟩ <;> omega
            refine cV (a := (Ma 0)) (As := []) (rest := []) (wr := [((Ma 2), .inl (tc 0, 2400, .inl vy_51)), ((Ma 3), .inl (tc 0, 7, .inl vy_52)), ((Ma 4), .inl (tc 0, 288, .inl vy_53)), ((Ma 5), .inl (tc 0, 6, .inl vy_54)), ((Ma 7), .inl (tc 0, 400, .inl vy_55))]) ⟨hx, hb, hml, hown, hts⟩ hK hX hA (cu_X12_see l D tc sk (Ma 0) (Ma 1) (Ma 2) (Ma 3) (Ma 4) (Ma 5) (Ma 6) (Ma 7) (Ma 8) (Ma 9) (Ma 10) (Ma 11) (Ma 12) (Ma 13) (Ma 14) (Ma 15) (Ma 16) (Ma 17) (Ma 18) (Ma 19) (Ma 20) (Mv 0) (Mv 1) sv_77 vy_45 vy_46 (Mv 5) vy_47 vy_48 vy_49 vy_50 (Mv 10) (Mv 11) (Mv 12) (Mv 13) (Mv 14) (Mf 1) (Mj 0) ha_86) k_1211 k_1208 k_1210 k_27 k_106 pl_X12_see ⟨Nat.le_of_ble_eq_true rfl, Nat.le_of_ble_eq_true rfl⟩ rfl rfl (va_recv hK hP (ci := 12) (q0 := 5) rfl rfl) hP hD hS [5, 6] [0, 1, 2, 3, 4] rfl rfl rfl rfl rfl (by decide) rfl hl.1 rfl (Nat.le_of_ble_eq_true rfl) dX12_readsAll_71 ⟨Nat.le_of_ble_eq_true rfl, Nat.le_of_ble_eq_true rfl⟩ (fun v_87 u_88 H locs hv_89 hP₀ hD₀ hS₀ => ?_)
            obtain ⟨sv_90, rfl⟩ : ∃ z, z = u_88 := ⟨_, rfl⟩
            obtain ⟨r_94, rfl, he_95, pf_91, pf_92, pf_93⟩ := hv_89
            have he_95 : (r_94.toInt = -1 ∨ (sv_90 : Int32).toInt < ((Mv 0) : Int32).toInt) := he_95
            have pf_91 : (sv_77 : Int32).toInt ≤ (sv_90 : Int32).toInt ∧ (sv_90 : Int32).toInt ≤ ((Mv 0) : Int32).toInt := pf_91
            have pf_92 : NSq (Mf 1) (Mv 0) sv_90 := pf_92
            have pf_93 : Stl (Mf 1) (Mv 0) sv_77 sv_90 := pf_93
            have ar_pf_93 := Stl.or pf_93 pf_79
            refine W.eq (g2 := F0 m 74 ls [.int r_94]) rfl ?_
            replace hP : va_P D classes [((Ma 2), .inl (tc 0, 2400, .inl vy_51)), ((Ma 3), .inl (tc 0, 7, .inl vy_52)), ((Ma 4), .inl (tc 0, 288, .inl vy_53)), ((Ma 5), .inl (tc 0, 6, .inl vy_54)), ((Ma 7), .inl (tc 0, 400, .inl vy_55)), ((Ma 0), .inr (12, [.ref (Ma 1), .int (Mv 0), .int (Mv 1), .ref (Ma 2), .ref (Ma 3), .ref (Ma 4), .ref (Ma 5), .ref (Ma 6), .int sv_90, .int vy_45, .int vy_46, .int (Mv 5), .int vy_47, .int vy_48, .int vy_49, .ref (Ma 7), .int vy_50, .ref (Ma 8), .int (Mv 10), .ref (Ma 9), .ref (Ma 10), .int (Mv 11), .int (Mv 12), .int (Mv 13), .ref (Ma 11), .int (Mv 14), .ref (Ma 12), .ref (Ma 13), .ref (Ma 14), .ref (Ma 15), .ref (Ma 16), .long (Mj 0), .ref (Ma 17), .ref (Ma 18), .ref (Ma 19), .ref (Ma 20)])), ((Ma 1), .inl (tc 2, 400, .inl (Mf 1)))] H := hP₀
            replace hD : va_D A [((Ma 2), .inl (tc 0, 2400, .inl vy_51)), ((Ma 3), .inl (tc 0, 7, .inl vy_52)), ((Ma 4), .inl (tc 0, 288, .inl vy_53)), ((Ma 5), .inl (tc 0, 6, .inl vy_54)), ((Ma 7), .inl (tc 0, 400, .inl vy_55)), ((Ma 0), .inr (12, [.ref (Ma 1), .int (Mv 0), .int (Mv 1), .ref (Ma 2), .ref (Ma 3), .ref (Ma 4), .ref (Ma 5), .ref (Ma 6), .int sv_90, .int vy_45, .int vy_46, .int (Mv 5), .int vy_47, .int vy_48, .int vy_49, .ref (Ma 7), .int vy_50, .ref (Ma 8), .int (Mv 10), .ref (Ma 9), .ref (Ma 10), .int (Mv 11), .int (Mv 12), .int (Mv 13), .ref (Ma 11), .int (Mv 14), .ref (Ma 12), .ref (Ma 13), .ref (Ma 14), .ref (Ma 15), .ref (Ma 16), .long (Mj 0), .ref (Ma 17), .ref (Ma 18), .ref (Ma 19), .ref (Ma 20)])), ((Ma 1), .inl (tc 2, 400, .inl (Mf 1)))] := hD₀
            replace hS := hS₀
            clear hP₀ hD₀ hS₀
            refine lv_iconst (v := (-1)) hx hb dX12_readsAll_74 (by decide) ?_
            refine lv_icmp_eq (tgt := 88) hx hb dX12_readsAll_75 (by decide) (fun c_97 => ?_) (fun c_97 => ?_)
            · skip
              refine lv_aload_n hx hb dX12_readsAll_88 rfl (lv_at hl 1 rfl) ?_
              refine lv_iconst (v := 0) hx hb dX12_readsAll_89 (by decide) ?_
              refine pf_X12_77 hx hb hts hown hK hP hD hS 5 rfl (Nat.le_of_ble_eq_true rfl) rfl rfl dX12_readsAll_90 (fun H locs hP₀ hD₀ hS₀ => ?_)
              replace hP : va_P D classes [((Ma 2), .inl (tc 0, 2400, .inl vy_51)), ((Ma 3), .inl (tc 0, 7, .inl vy_52)), ((Ma 4), .inl (tc 0, 288, .inl vy_53)), ((Ma 5), .inl (tc 0, 6, .inl vy_54)), ((Ma 7), .inl (tc 0, 400, .inl vy_55)), ((Ma 0), .inr (12, [.ref (Ma 1), .int 0, .int (Mv 1), .ref (Ma 2), .ref (Ma 3), .ref (Ma 4), .ref (Ma 5), .ref (Ma 6), .int sv_90, .int vy_45, .int vy_46, .int (Mv 5), .int vy_47, .int vy_48, .int vy_49, .ref (Ma 7), .int vy_50, .ref (Ma 8), .int (Mv 10), .ref (Ma 9), .ref (Ma 10), .int (Mv 11), .int (Mv 12), .int (Mv 13), .ref (Ma 11), .int (Mv 14), .ref (Ma 12), .ref (Ma 13), .ref (Ma 14), .ref (Ma 15), .ref (Ma 16), .long (Mj 0), .ref (Ma 17), .ref (Ma 18), .ref (Ma 19), .ref (Ma 20)])), ((Ma 1), .inl (tc 2, 400, .inl (Mf 1)))] H := hP₀
              replace hD : va_D A [((Ma 2), .inl (tc 0, 2400, .inl vy_51)), ((Ma 3), .inl (tc 0, 7, .inl vy_52)), ((Ma 4), .inl (tc 0, 288, .inl vy_53)), ((Ma 5), .inl (tc 0, 6, .inl vy_54)), ((Ma 7), .inl (tc 0, 400, .inl vy_55)), ((Ma 0), .inr (12, [.ref (Ma 1), .int 0, .int (Mv 1), .ref (Ma 2), .ref (Ma 3), .ref (Ma 4), .ref (Ma 5), .ref (Ma 6), .int sv_90, .int vy_45, .int vy_46, .int (Mv 5), .int vy_47, .int vy_48, .int vy_49, .ref (Ma 7), .int vy_50, .ref (Ma 8), .int (Mv 10), .ref (Ma 9), .ref (Ma 10), .int (Mv 11), .int (Mv 12), .int (Mv 13), .ref (Ma 11), .int (Mv 14), .ref (Ma 12), .ref (Ma 13), .ref (Ma 14), .ref (Ma 15), .ref (Ma 16), .long (Mj 0), .ref (Ma 17), .ref (Ma 18), .ref (Ma 19), .ref (Ma 20)])), ((Ma 1), .inl (tc 2, 400, .inl (Mf 1)))] := hD₀
              replace hS := hS₀
              clear hP₀ hD₀ hS₀
              refine lv_aload_n hx hb dX12_readsAll_93 rfl (lv_at hl 1 rfl) ?_
              refine gf_X12_84 hx hb hts hown hK hP 5 rfl rfl dX12_readsAll_94 ?_
              refine lv_if_ne (tgt := 104) hx hb dX12_readsAll_97 (by decide) (fun c_98 => ?_) (fun c_98 => ?_)
              · skip
                refine lv_iconst (v := 0) hx hb dX12_readsAll_104 (by decide) ?_
                have hp_99 : ((0 : Int32).toInt = 0 ∨ ((0 : Int32).toInt = 1 ∧ (vy_54 (Mv 5).toInt.toNat).toInt ≤ 12)) := by
                  have z_1 : ¬ (vy_43 : Int32).toInt = (0 : Int32).toInt := fun z => c_65 (Int32.toInt_inj.mp z)
                  have z_2 : ¬ (r_81 : Int32).toInt = (59 : Int32).toInt := fun z => c_84 (Int32.toInt_inj.mp z)
                  have z_3 : ¬ (vy_43 : Int32).toInt = (0 : Int32).toInt := fun z => c_85 (Int32.toInt_inj.mp z)
                  have z_4 := congrArg Int32.toInt c_97
                  have z_5 : ¬ (vy_45 : Int32).toInt = (0 : Int32).toInt := fun z => c_98 (Int32.toInt_inj.mp z)
                  have y_m1 : (-1 : Int32).toInt = -1 := by decide
                  have y_0 : (0 : Int32).toInt = 0 := by decide
                  have y_59 : (59 : Int32).toInt = 59 := by decide
                  omega
                exact retI (v := 0) hx hb hr hlk (rfl) hP hD hS (sv_90, vy_45, vy_46, vy_47, vy_48, vy_49, vy_50, vy_51, vy_52, vy_53, vy_54, vy_55) ⟨_, rfl, hp_99, pf_63, (fun h => absurd h (by decide))⟩ [5, 6, 0, 1, 2, 3, 4] rfl rfl dX12_readsAll_105 (Nat.le_of_ble_eq_true rfl) (Nat.le_of_ble_eq_true rfl) rfl
              · skip
                refine lv_iconst (v := 1) hx hb dX12_readsAll_100 (by decide) ?_
                refine lv_goto (tgt := 105) hx hb dX12_readsAll_101 (by decide) ?_
                have hp_100 : ((1 : Int32).toInt = 0 ∨ ((1 : Int32).toInt = 1 ∧ (vy_54 (Mv 5).toInt.toNat).toInt ≤ 12)) := by
                  have z_1 : ¬ (vy_43 : Int32).toInt = (0 : Int32).toInt := fun z => c_65 (Int32.toInt_inj.mp z)
                  have z_2 : ¬ (r_81 : Int32).toInt = (59 : Int32).toInt := fun z => c_84 (Int32.toInt_inj.mp z)
                  have z_3 : ¬ (vy_43 : Int32).toInt = (0 : Int32).toInt := fun z => c_85 (Int32.toInt_inj.mp z)
                  have z_4 := congrArg Int32.toInt c_97
                  have z_5 := congrArg Int32.toInt c_98
                  have y_m1 : (-1 : Int32).toInt = -1 := by decide
                  have y_0 : (0 : Int32).toInt = 0 := by decide
                  have y_59 : (59 : Int32).toInt = 59 := by decide
                  have y_1 : (1 : Int32).toInt = 1 := by decide
                  have yr : (1 : Int32).toInt = 1 := by decide
                  omega
                have hm_101 : (1 : Int32).toInt = 1 → (RulP vy_51 vy_53 vy_54 (Mv 5) ((vy_52 (Mv 5).toNatClampNeg).toInt)) := by
                  intro h1r
                  exact pf_72
                exact retI (v := 1) hx hb hr hlk (rfl) hP hD hS (sv_90, vy_45, vy_46, vy_47, vy_48, vy_49, vy_50, vy_51, vy_52, vy_53, vy_54, vy_55) ⟨_, rfl, hp_100, pf_63, hm_101⟩ [5, 6, 0, 1, 2, 3, 4] rfl rfl dX12_readsAll_105 (Nat.le_of_ble_eq_true rfl) (Nat.le_of_ble_eq_true rfl) rfl
            · skip
              refine lv_aload_n hx hb dX12_readsAll_78 rfl (lv_at hl 1 rfl) ?_
              refine lv_iconst (v := 0) hx hb dX12_readsAll_79 (by decide) ?_
              refine lv_aload_n hx hb dX12_readsAll_80 rfl (lv_at hl 1 rfl) ?_
              refine gf_X12_87 hx hb hts hown hK hP 5 rfl rfl dX12_readsAll_81 ?_
              have ha_102 : 0 ≤ (0 : Int32).toInt ∧ (0 : Int32).toInt ≤ 4 := by
                have z_1 : ¬ (vy_43 : Int32).toInt = (0 : Int32).toInt := fun z => c_65 (Int32.toInt_inj.mp z)
                have z_2 : ¬ (r_81 : Int32).toInt = (59 : Int32).toInt := fun z => c_84 (Int32.toInt_inj.mp z)
                have z_3 : ¬ (vy_43 : Int32).toInt = (0 : Int32).toInt := fun z => c_85 (Int32.toInt_inj.mp z)
                have z_4 : ¬ (r_94 : Int32).toInt = ((-1) : Int32).toInt := fun z => c_97 (Int32.toInt_inj.mp z)
                have y_m1 : (-1 : Int32).toInt = -1 := by decide
                have y_0 : (0 : Int32).toInt = 0 := by decide
                have y_59 : (59 : Int32).toInt = 59 := by decide
                refine ⟨?_, ?_⟩ <;> omega
              have ha_103 : 0 ≤ sv_90.toInt ∧ sv_90.toInt ≤ 400 := by
                have z_1 : ¬ (vy_43 : Int32).toInt = (0 : Int32).toInt := fun z => c_65 (Int32.toInt_inj.mp z)
                have z_2 : ¬ (r_81 : Int32).toInt = (59 : Int32).toInt := fun z => c_84 (Int32.toInt_inj.mp z)
                have z_3 : ¬ (vy_43 : Int32).toInt = (0 : Int32).toInt := fun z => c_85 (Int32.toInt_inj.mp z)
                have z_4 : ¬ (r_94 : Int32).toInt = ((-1) : Int32).toInt := fun z => c_97 (Int32.toInt_inj.mp z)
                have y_m1 : (-1 : Int32).toInt = -1 := by decide
                have y_0 : (0 : Int32).toInt = 0 := by decide
                have y_59 : (59 : Int32).toInt = 59 := by decide
                refine ⟨?_, ?_⟩ <;> omega
              refine cV (a := (Ma 0)) (As := [.int 0, .int sv_90]) (rest := []) (wr := [((Ma 2), .inl (tc 0, 2400, .inl vy_51)), ((Ma 3), .inl (tc 0, 7, .inl vy_52)), ((Ma 4), .inl (tc 0, 288, .inl vy_53)), ((Ma 5), .inl (tc 0, 6, .inl vy_54)), ((Ma 7), .inl (tc 0, 400, .inl vy_55)), ((Ma 1), .inl (tc 2, 400, .inl (Mf 1)))]) ⟨hx, hb, hml, hown, hts⟩ hK hX hA (cu_X12_fails l D tc sk (Ma 0) (Ma 1) (Ma 2) (Ma 3) (Ma 4) (Ma 5) (Ma 6) (Ma 7) (Ma 8) (Ma 9) (Ma 10) (Ma 11) (Ma 12) (Ma 13) (Ma 14) (Ma 15) (Ma 16) (Ma 17) (Ma 18) (Ma 19) (Ma 20) (Mv 0) (Mv 1) sv_90 vy_45 vy_46 (Mv 5) vy_47 vy_48 vy_49 vy_50 (Mv 10) (Mv 11) (Mv 12) (Mv 13) (Mv 14) (Mj 0) 0 sv_90 ha_102 ha_103) k_1232 k_1229 k_1231 k_31 k_106 pl_X12_fails ⟨Nat.le_of_ble_eq_true rfl, Nat.le_of_ble_eq_true rfl⟩ rfl rfl (va_recv hK hP (ci := 12) (q0 := 5) rfl rfl) hP hD hS [5] [0, 1, 2, 3, 4, 6] rfl rfl rfl rfl rfl (by decide) rfl hl.1 rfl (Nat.le_of_ble_eq_true rfl) dX12_readsAll_84 ⟨Nat.le_of_ble_eq_true rfl, Nat.le_of_ble_eq_true rfl⟩ (fun v_104 u_105 H locs hv_106 hP₀ hD₀ hS₀ => ?_)
              obtain ⟨sv_107, rfl⟩ : ∃ z, z = u_105 := ⟨_, rfl⟩
              obtain ⟨r_109, rfl, he_110, pf_108⟩ := hv_106
              have he_110 : r_109.toInt = 0 := he_110
              have pf_108 : ¬ (sv_107 : Int32).toInt = 0 := pf_108
              refine W.eq (g2 := F0 m 87 ls [.int r_109]) rfl ?_
              replace hP : va_P D classes [((Ma 2), .inl (tc 0, 2400, .inl vy_51)), ((Ma 3), .inl (tc 0, 7, .inl vy_52)), ((Ma 4), .inl (tc 0, 288, .inl vy_53)), ((Ma 5), .inl (tc 0, 6, .inl vy_54)), ((Ma 7), .inl (tc 0, 400, .inl vy_55)), ((Ma 1), .inl (tc 2, 400, .inl (Mf 1))), ((Ma 0), .inr (12, [.ref (Ma 1), .int (Mv 0), .int (Mv 1), .ref (Ma 2), .ref (Ma 3), .ref (Ma 4), .ref (Ma 5), .ref (Ma 6), .int sv_90, .int sv_107, .int vy_46, .int (Mv 5), .int vy_47, .int vy_48, .int vy_49, .ref (Ma 7), .int vy_50, .ref (Ma 8), .int (Mv 10), .ref (Ma 9), .ref (Ma 10), .int (Mv 11), .int (Mv 12), .int (Mv 13), .ref (Ma 11), .int (Mv 14), .ref (Ma 12), .ref (Ma 13), .ref (Ma 14), .ref (Ma 15), .ref (Ma 16), .long (Mj 0), .ref (Ma 17), .ref (Ma 18), .ref (Ma 19), .ref (Ma 20)]))] H := hP₀
              replace hD : va_D A [((Ma 2), .inl (tc 0, 2400, .inl vy_51)), ((Ma 3), .inl (tc 0, 7, .inl vy_52)), ((Ma 4), .inl (tc 0, 288, .inl vy_53)), ((Ma 5), .inl (tc 0, 6, .inl vy_54)), ((Ma 7), .inl (tc 0, 400, .inl vy_55)), ((Ma 1), .inl (tc 2, 400, .inl (Mf 1))), ((Ma 0), .inr (12, [.ref (Ma 1), .int (Mv 0), .int (Mv 1), .ref (Ma 2), .ref (Ma 3), .ref (Ma 4), .ref (Ma 5), .ref (Ma 6), .int sv_90, .int sv_107, .int vy_46, .int (Mv 5), .int vy_47, .int vy_48, .int vy_49, .ref (Ma 7), .int vy_50, .ref (Ma 8), .int (Mv 10), .ref (Ma 9), .ref (Ma 10), .int (Mv 11), .int (Mv 12), .int (Mv 13), .ref (Ma 11), .int (Mv 14), .ref (Ma 12), .ref (Ma 13), .ref (Ma 14), .ref (Ma 15), .ref (Ma 16), .long (Mj 0), .ref (Ma 17), .ref (Ma 18), .ref (Ma 19), .ref (Ma 20)]))] := hD₀
              replace hS := hS₀
              clear hP₀ hD₀ hS₀
              refine lv_pop hx hb dX12_readsAll_87 rfl ?_
              refine lv_aload_n hx hb dX12_readsAll_88 rfl (lv_at hl 1 rfl) ?_
              refine lv_iconst (v := 0) hx hb dX12_readsAll_89 (by decide) ?_
              refine pf_X12_77 hx hb hts hown hK hP hD hS 6 rfl (Nat.le_of_ble_eq_true rfl) rfl rfl dX12_readsAll_90 (fun H locs hP₀ hD₀ hS₀ => ?_)
              replace hP : va_P D classes [((Ma 2), .inl (tc 0, 2400, .inl vy_51)), ((Ma 3), .inl (tc 0, 7, .inl vy_52)), ((Ma 4), .inl (tc 0, 288, .inl vy_53)), ((Ma 5), .inl (tc 0, 6, .inl vy_54)), ((Ma 7), .inl (tc 0, 400, .inl vy_55)), ((Ma 1), .inl (tc 2, 400, .inl (Mf 1))), ((Ma 0), .inr (12, [.ref (Ma 1), .int 0, .int (Mv 1), .ref (Ma 2), .ref (Ma 3), .ref (Ma 4), .ref (Ma 5), .ref (Ma 6), .int sv_90, .int sv_107, .int vy_46, .int (Mv 5), .int vy_47, .int vy_48, .int vy_49, .ref (Ma 7), .int vy_50, .ref (Ma 8), .int (Mv 10), .ref (Ma 9), .ref (Ma 10), .int (Mv 11), .int (Mv 12), .int (Mv 13), .ref (Ma 11), .int (Mv 14), .ref (Ma 12), .ref (Ma 13), .ref (Ma 14), .ref (Ma 15), .ref (Ma 16), .long (Mj 0), .ref (Ma 17), .ref (Ma 18), .ref (Ma 19), .ref (Ma 20)]))] H := hP₀
              replace hD : va_D A [((Ma 2), .inl (tc 0, 2400, .inl vy_51)), ((Ma 3), .inl (tc 0, 7, .inl vy_52)), ((Ma 4), .inl (tc 0, 288, .inl vy_53)), ((Ma 5), .inl (tc 0, 6, .inl vy_54)), ((Ma 7), .inl (tc 0, 400, .inl vy_55)), ((Ma 1), .inl (tc 2, 400, .inl (Mf 1))), ((Ma 0), .inr (12, [.ref (Ma 1), .int 0, .int (Mv 1), .ref (Ma 2), .ref (Ma 3), .ref (Ma 4), .ref (Ma 5), .ref (Ma 6), .int sv_90, .int sv_107, .int vy_46, .int (Mv 5), .int vy_47, .int vy_48, .int vy_49, .ref (Ma 7), .int vy_50, .ref (Ma 8), .int (Mv 10), .ref (Ma 9), .ref (Ma 10), .int (Mv 11), .int (Mv 12), .int (Mv 13), .ref (Ma 11), .int (Mv 14), .ref (Ma 12), .ref (Ma 13), .ref (Ma 14), .ref (Ma 15), .ref (Ma 16), .long (Mj 0), .ref (Ma 17), .ref (Ma 18), .ref (Ma 19), .ref (Ma 20)]))] := hD₀
              replace hS := hS₀
              clear hP₀ hD₀ hS₀
              refine lv_aload_n hx hb dX12_readsAll_93 rfl (lv_at hl 1 rfl) ?_
              refine gf_X12_84 hx hb hts hown hK hP 6 rfl rfl dX12_readsAll_94 ?_
              refine lv_if_ne (tgt := 104) hx hb dX12_readsAll_97 (by decide) (fun c_112 => ?_) (fun c_112 => ?_)
              · skip
                refine lv_iconst (v := 0) hx hb dX12_readsAll_104 (by decide) ?_
                have hp_113 : ((0 : Int32).toInt = 0 ∨ ((0 : Int32).toInt = 1 ∧ (vy_54 (Mv 5).toInt.toNat).toInt ≤ 12)) := by
                  have z_1 : ¬ (vy_43 : Int32).toInt = (0 : Int32).toInt := fun z => c_65 (Int32.toInt_inj.mp z)
                  have z_2 : ¬ (r_81 : Int32).toInt = (59 : Int32).toInt := fun z => c_84 (Int32.toInt_inj.mp z)
                  have z_3 : ¬ (vy_43 : Int32).toInt = (0 : Int32).toInt := fun z => c_85 (Int32.toInt_inj.mp z)
                  have z_4 : ¬ (r_94 : Int32).toInt = ((-1) : Int32).toInt := fun z => c_97 (Int32.toInt_inj.mp z)
                  have z_5 : ¬ (sv_107 : Int32).toInt = (0 : Int32).toInt := fun z => c_112 (Int32.toInt_inj.mp z)
                  have y_m1 : (-1 : Int32).toInt = -1 := by decide
                  have y_0 : (0 : Int32).toInt = 0 := by decide
                  have y_59 : (59 : Int32).toInt = 59 := by decide
                  omega
                exact retI (v := 0) hx hb hr hlk (rfl) hP hD hS (sv_90, sv_107, vy_46, vy_47, vy_48, vy_49, vy_50, vy_51, vy_52, vy_53, vy_54, vy_55) ⟨_, rfl, hp_113, pf_63, (fun h => absurd h (by decide))⟩ [6, 5, 0, 1, 2, 3, 4] rfl rfl dX12_readsAll_105 (Nat.le_of_ble_eq_true rfl) (Nat.le_of_ble_eq_true rfl) rfl
              · skip
                refine lv_iconst (v := 1) hx hb dX12_readsAll_100 (by decide) ?_
                refine lv_goto (tgt := 105) hx hb dX12_readsAll_101 (by decide) ?_
                have hp_114 : ((1 : Int32).toInt = 0 ∨ ((1 : Int32).toInt = 1 ∧ (vy_54 (Mv 5).toInt.toNat).toInt ≤ 12)) := by
                  have z_1 : ¬ (vy_43 : Int32).toInt = (0 : Int32).toInt := fun z => c_65 (Int32.toInt_inj.mp z)
                  have z_2 : ¬ (r_81 : Int32).toInt = (59 : Int32).toInt := fun z => c_84 (Int32.toInt_inj.mp z)
                  have z_3 : ¬ (vy_43 : Int32).toInt = (0 : Int32).toInt := fun z => c_85 (Int32.toInt_inj.mp z)
                  have z_4 : ¬ (r_94 : Int32).toInt = ((-1) : Int32).toInt := fun z => c_97 (Int32.toInt_inj.mp z)
                  have z_5 := congrArg Int32.toInt c_112
                  have y_m1 : (-1 : Int32).toInt = -1 := by decide
                  have y_0 : (0 : Int32).toInt = 0 := by decide
                  have y_59 : (59 : Int32).toInt = 59 := by decide
                  have y_1 : (1 : Int32).toInt = 1 := by decide
                  have yr : (1 : Int32).toInt = 1 := by decide
                  omega
                have hm_115 : (1 : Int32).toInt = 1 → (RulP vy_51 vy_53 vy_54 (Mv 5) ((vy_52 (Mv 5).toNatClampNeg).toInt)) := by
                  intro h1r
                  exact pf_72
                exact retI (v := 1) hx hb hr hlk (rfl) hP hD hS (sv_90, sv_107, vy_46, vy_47, vy_48, vy_49, vy_50, vy_51, vy_52, vy_53, vy_54, vy_55) ⟨_, rfl, hp_114, pf_63, hm_115⟩ [6, 5, 0, 1, 2, 3, 4] rfl rfl dX12_readsAll_105 (Nat.le_of_ble_eq_true rfl) (Nat.le_of_ble_eq_true rfl) rfl
        · skip
          refine lv_aload_n hx hb dX12_readsAll_48 rfl (lv_at hl 1 rfl) ?_
          refine lv_dup hx hb dX12_readsAll_49 rfl ?_
          refine gf_X12_87 hx hb hts hown hK hP 5 rfl rfl dX12_readsAll_50 ?_
          refine lv_iconst (v := 1) hx hb dX12_readsAll_53 (by decide) ?_
          refine lv_iadd hx hb dX12_readsAll_54 ?_
          refine lv_topi (fun x_116 ex_116 => ?_)
          refine pf_X12_87 hx hb hts hown hK hP hD hS 5 rfl (Nat.le_of_ble_eq_true rfl) rfl rfl dX12_readsAll_55 (fun H locs hP₀ hD₀ hS₀ => ?_)
          replace hP : va_P D classes [((Ma 2), .inl (tc 0, 2400, .inl vy_51)), ((Ma 3), .inl (tc 0, 7, .inl vy_52)), ((Ma 4), .inl (tc 0, 288, .inl vy_53)), ((Ma 5), .inl (tc 0, 6, .inl vy_54)), ((Ma 7), .inl (tc 0, 400, .inl vy_55)), ((Ma 0), .inr (12, [.ref (Ma 1), .int (Mv 0), .int (Mv 1), .ref (Ma 2), .ref (Ma 3), .ref (Ma 4), .ref (Ma 5), .ref (Ma 6), .int x_116, .int vy_45, .int vy_46, .int (Mv 5), .int vy_47, .int vy_48, .int vy_49, .ref (Ma 7), .int vy_50, .ref (Ma 8), .int (Mv 10), .ref (Ma 9), .ref (Ma 10), .int (Mv 11), .int (Mv 12), .int (Mv 13), .ref (Ma 11), .int (Mv 14), .ref (Ma 12), .ref (Ma 13), .ref (Ma 14), .ref (Ma 15), .ref (Ma 16), .long (Mj 0), .ref (Ma 17), .ref (Ma 18), .ref (Ma 19), .ref (Ma 20)])), ((Ma 1), .inl (tc 2, 400, .inl (Mf 1)))] H := hP₀
          replace hD : va_D A [((Ma 2), .inl (tc 0, 2400, .inl vy_51)), ((Ma 3), .inl (tc 0, 7, .inl vy_52)), ((Ma 4), .inl (tc 0, 288, .inl vy_53)), ((Ma 5), .inl (tc 0, 6, .inl vy_54)), ((Ma 7), .inl (tc 0, 400, .inl vy_55)), ((Ma 0), .inr (12, [.ref (Ma 1), .int (Mv 0), .int (Mv 1), .ref (Ma 2), .ref (Ma 3), .ref (Ma 4), .ref (Ma 5), .ref (Ma 6), .int x_116, .int vy_45, .int vy_46, .int (Mv 5), .int vy_47, .int vy_48, .int vy_49, .ref (Ma 7), .int vy_50, .ref (Ma 8), .int (Mv 10), .ref (Ma 9), .ref (Ma 10), .int (Mv 11), .int (Mv 12), .int (Mv 13), .ref (Ma 11), .int (Mv 14), .ref (Ma 12), .ref (Ma 13), .ref (Ma 14), .ref (Ma 15), .ref (Ma 16), .long (Mj 0), .ref (Ma 17), .ref (Ma 18), .ref (Ma 19), .ref (Ma 20)])), ((Ma 1), .inl (tc 2, 400, .inl (Mf 1)))] := hD₀
          replace hS := hS₀
          clear hP₀ hD₀ hS₀
          have tp_x_116 : (x_116 : Int32).toInt = (sv_77 : Int32).toInt + 1 := by
            have z_1 : ¬ (vy_43 : Int32).toInt = (0 : Int32).toInt := fun z => c_65 (Int32.toInt_inj.mp z)
            have z_2 := congrArg Int32.toInt c_84
            have y_0 : (0 : Int32).toInt = 0 := by decide
            have y_59 : (59 : Int32).toInt = 59 := by decide
            have y_1 : (1 : Int32).toInt = 1 := by decide
            have t_x_116 : x_116.toInt = (sv_77 : Int32).toInt + (1 : Int32).toInt := by rw [ex_116]; exact add_toInt (by omega) (by omega)
            omega
          refine lv_aload_n hx hb dX12_readsAll_58 rfl (lv_at hl 1 rfl) ?_
          have ha_117 : 0 ≤ (x_116 : Int32).toInt ∧ (x_116 : Int32).toInt ≤ ((Mv 0) : Int32).toInt ∧ ((Mv 0) : Int32).toInt ≤ 400 := by
            have z_1 : ¬ (vy_43 : Int32).toInt = (0 : Int32).toInt := fun z => c_65 (Int32.toInt_inj.mp z)
            have z_2 := congrArg Int32.toInt c_84
            have y_0 : (0 : Int32).toInt = 0 := by decide
            have y_59 : (59 : Int32).toInt = 59 := by decide
            have y_1 : (1 : Int32).toInt = 1 := by decide
            have t_x_116 : x_116.toInt = (sv_77 : Int32).toInt + (1 : Int32).toInt := by rw [ex_116]; exact add_toInt (by omega) (by omega)
            refine ⟨?_, ?_, ?_⟩ <;> omega
          have ha_118 : 0 ≤ (vy_52 (Mv 5).toNatClampNeg).toInt ∧ (vy_52 (Mv 5).toNatClampNeg).toInt ≤ (x_116 : Int32).toInt := by
            have z_1 : ¬ (vy_43 : Int32).toInt = (0 : Int32).toInt := fun z => c_65 (Int32.toInt_inj.mp z)
            have z_2 := congrArg Int32.toInt c_84
            have y_0 : (0 : Int32).toInt = 0 := by decide
            have y_59 : (59 : Int32).toInt = 59 := by decide
            have y_1 : (1 : Int32).toInt = 1 := by decide
            have t_x_116 : x_116.toInt = (sv_77 : Int32).toInt + (1 : Int32).toInt := by rw [ex_116]; exact add_toInt (by omega) (by omega)
            refine ⟨?_, ?_⟩ <;> omega
          have ha_119 : (vy_54 (Mv 5).toInt.toNat).toInt = (vy_49 : Int32).toInt ∧ 0 ≤ (vy_49 : Int32).toInt ∧ (vy_49 : Int32).toInt ≤ 12 := by
            have z_1 : ¬ (vy_43 : Int32).toInt = (0 : Int32).toInt := fun z => c_65 (Int32.toInt_inj.mp z)
            have z_2 := congrArg Int32.toInt c_84
            have y_0 : (0 : Int32).toInt = 0 := by decide
            have y_59 : (59 : Int32).toInt = 59 := by decide
            refine ⟨?_, ?_, ?_⟩ <;> omega
          refine cV (a := (Ma 0)) (As := []) (rest := []) (wr := []) ⟨hx, hb, hml, hown, hts⟩ hK hX hA (cu_X12_clauseHere_r l D tc sk (Ma 0) (Ma 1) (Ma 2) (Ma 3) (Ma 4) (Ma 5) (Ma 6) (Ma 7) (Ma 8) (Ma 9) (Ma 10) (Ma 11) (Ma 12) (Ma 13) (Ma 14) (Ma 15) (Ma 16) (Ma 17) (Ma 18) (Ma 19) (Ma 20) (Mv 0) (Mv 1) x_116 vy_45 vy_46 (Mv 5) vy_47 vy_48 vy_49 vy_50 (Mv 10) (Mv 11) (Mv 12) (Mv 13) (Mv 14) (Mf 1) vy_51 vy_52 vy_53 vy_54 vy_55 (Mj 0) ha_117 pf_60 h_t ha_118 pf_72 ha_119) k_1207 k_1204 k_1206 k_26 k_106 pl_X12_clauseHere ⟨Nat.le_of_ble_eq_true rfl, Nat.le_of_ble_eq_true rfl⟩ rfl rfl (va_recv hK hP (ci := 12) (q0 := 5) rfl rfl) hP hD hS [5, 6, 0, 1, 2, 3, 4] [] rfl rfl rfl rfl rfl (by decide) rfl hl.1 rfl (Nat.le_of_ble_eq_true rfl) dX12_readsAll_59 ⟨Nat.le_of_ble_eq_true rfl, Nat.le_of_ble_eq_true rfl⟩ (fun v_120 u_121 H locs hv_122 hP₀ hD₀ hS₀ => ?_)
          obtain ⟨sv_123, sv_124, sv_125, sv_126, sv_127, sv_128, sv_129, sv_130, sv_131, sv_132, sv_133, sv_134⟩ := u_121
          obtain ⟨r_138, rfl, he_139, pf_135, pf_136, pf_137, hm_141⟩ := hv_122
          have he_139 : ((r_138.toInt = 0 ∧ ¬ (sv_124 : Int32).toInt = 0) ∨ (r_138.toInt = 1 ∧ 0 ≤ (sv_131 (Mv 5).toNatClampNeg).toInt ∧ (sv_131 (Mv 5).toNatClampNeg).toInt ≤ (sv_123 : Int32).toInt ∧ (sv_133 (Mv 5).toInt.toNat).toInt = (sv_128 : Int32).toInt ∧ 0 ≤ (sv_128 : Int32).toInt ∧ (sv_128 : Int32).toInt ≤ 12)) := he_139
          have pf_135 : (x_116 : Int32).toInt ≤ (sv_123 : Int32).toInt ∧ (sv_123 : Int32).toInt ≤ ((Mv 0) : Int32).toInt := pf_135
          have pf_136 : (vy_47 : Int32).toInt ≤ (sv_126 : Int32).toInt ∧ (sv_126 : Int32).toInt ≤ 60 := pf_136
          have pf_137 : RulD sv_130 sv_132 sv_133 (Mv 5) := pf_137
          refine W.eq (g2 := F0 m 62 ls [.int r_138]) rfl ?_
          replace hP : va_P D classes [((Ma 0), .inr (12, [.ref (Ma 1), .int (Mv 0), .int (Mv 1), .ref (Ma 2), .ref (Ma 3), .ref (Ma 4), .ref (Ma 5), .ref (Ma 6), .int sv_123, .int sv_124, .int sv_125, .int (Mv 5), .int sv_126, .int sv_127, .int sv_128, .ref (Ma 7), .int sv_129, .ref (Ma 8), .int (Mv 10), .ref (Ma 9), .ref (Ma 10), .int (Mv 11), .int (Mv 12), .int (Mv 13), .ref (Ma 11), .int (Mv 14), .ref (Ma 12), .ref (Ma 13), .ref (Ma 14), .ref (Ma 15), .ref (Ma 16), .long (Mj 0), .ref (Ma 17), .ref (Ma 18), .ref (Ma 19), .ref (Ma 20)])), ((Ma 1), .inl (tc 2, 400, .inl (Mf 1))), ((Ma 2), .inl (tc 0, 2400, .inl sv_130)), ((Ma 3), .inl (tc 0, 7, .inl sv_131)), ((Ma 4), .inl (tc 0, 288, .inl sv_132)), ((Ma 5), .inl (tc 0, 6, .inl sv_133)), ((Ma 7), .inl (tc 0, 400, .inl sv_134))] H := hP₀
          replace hD : va_D A [((Ma 0), .inr (12, [.ref (Ma 1), .int (Mv 0), .int (Mv 1), .ref (Ma 2), .ref (Ma 3), .ref (Ma 4), .ref (Ma 5), .ref (Ma 6), .int sv_123, .int sv_124, .int sv_125, .int (Mv 5), .int sv_126, .int sv_127, .int sv_128, .ref (Ma 7), .int sv_129, .ref (Ma 8), .int (Mv 10), .ref (Ma 9), .ref (Ma 10), .int (Mv 11), .int (Mv 12), .int (Mv 13), .ref (Ma 11), .int (Mv 14), .ref (Ma 12), .ref (Ma 13), .ref (Ma 14), .ref (Ma 15), .ref (Ma 16), .long (Mj 0), .ref (Ma 17), .ref (Ma 18), .ref (Ma 19), .ref (Ma 20)])), ((Ma 1), .inl (tc 2, 400, .inl (Mf 1))), ((Ma 2), .inl (tc 0, 2400, .inl sv_130)), ((Ma 3), .inl (tc 0, 7, .inl sv_131)), ((Ma 4), .inl (tc 0, 288, .inl sv_132)), ((Ma 5), .inl (tc 0, 6, .inl sv_133)), ((Ma 7), .inl (tc 0, 400, .inl sv_134))] := hD₀
          replace hS := hS₀
          clear hP₀ hD₀ hS₀
          refine lv_istore_n (lv' := [(1, .int r_138), (0, .ref (Ma 0))]) hx hb dX12_readsAll_62 rfl hl (by decide) rfl (fun ls hl₀ => ?_)
          replace hl := hl₀
          clear hl₀
          refine lv_goto (tgt := 35) hx hb dX12_readsAll_63 (by decide) ?_
          have hb_142 : 2 * (401 - (sv_123 : Int32).toInt) + (r_138 : Int32).toInt < 2 * (401 - (vy_44 : Int32).toInt) + (vy_43 : Int32).toInt ∧ 1 ≤ 2 * (401 - (vy_44 : Int32).toInt) + (vy_43 : Int32).toInt := by
            have z_1 : ¬ (vy_43 : Int32).toInt = (0 : Int32).toInt := fun z => c_65 (Int32.toInt_inj.mp z)
            have z_2 := congrArg Int32.toInt c_84
            have y_0 : (0 : Int32).toInt = 0 := by decide
            have y_59 : (59 : Int32).toInt = 59 := by decide
            refine ⟨?_, ?_⟩ <;> omega
          have ha_143 : 0 ≤ (sv_123 : Int32).toInt ∧ (sv_123 : Int32).toInt ≤ ((Mv 0) : Int32).toInt ∧ ((Mv 0) : Int32).toInt ≤ 400 := by
            have z_1 : ¬ (vy_43 : Int32).toInt = (0 : Int32).toInt := fun z => c_65 (Int32.toInt_inj.mp z)
            have z_2 := congrArg Int32.toInt c_84
            have y_0 : (0 : Int32).toInt = 0 := by decide
            have y_59 : (59 : Int32).toInt = 59 := by decide
            refine ⟨?_, ?_, ?_⟩ <;> omega
          have ha_144 : 0 ≤ (sv_126 : Int32).toInt ∧ (sv_126 : Int32).toInt ≤ 60 := by
            have z_1 : ¬ (vy_43 : Int32).toInt = (0 : Int32).toInt := fun z => c_65 (Int32.toInt_inj.mp z)
            have z_2 := congrArg Int32.toInt c_84
            have y_0 : (0 : Int32).toInt = 0 := by decide
            have y_59 : (59 : Int32).toInt = 59 := by decide
            refine ⟨?_, ?_⟩ <;> omega
          have ha_145 : (((r_138 : Int32).toInt = 0 ∧ ¬ (sv_124 : Int32).toInt = 0) ∨ ((r_138 : Int32).toInt = 1 ∧ 0 ≤ (sv_131 (Mv 5).toNatClampNeg).toInt ∧ (sv_131 (Mv 5).toNatClampNeg).toInt ≤ (sv_123 : Int32).toInt ∧ (sv_133 (Mv 5).toInt.toNat).toInt = (sv_128 : Int32).toInt ∧ 0 ≤ (sv_128 : Int32).toInt ∧ (sv_128 : Int32).toInt ≤ 12)) := by
            have z_1 : ¬ (vy_43 : Int32).toInt = (0 : Int32).toInt := fun z => c_65 (Int32.toInt_inj.mp z)
            have z_2 := congrArg Int32.toInt c_84
            have y_0 : (0 : Int32).toInt = 0 := by decide
            have y_59 : (59 : Int32).toInt = 59 := by decide
            omega
          exact ih_57 r_138 sv_123 sv_124 sv_125 sv_126 sv_127 sv_128 sv_129 sv_130 sv_131 sv_132 sv_133 sv_134 _ _ _ (by omega) ha_143 ha_144 ha_145 hm_141 pf_137 (hP.sub [0, 1, 2, 3, 4, 5, 6] rfl) (hD.sub [0, 1, 2, 3, 4, 5, 6] rfl rfl) hS (lv_sub hl [0, 1] rfl)
  have ha_146 : 0 ≤ (sv_11 : Int32).toInt ∧ (sv_11 : Int32).toInt ≤ ((Mv 0) : Int32).toInt ∧ ((Mv 0) : Int32).toInt ≤ 400 := by
    refine ⟨?_, ?_, ?_⟩ <;> omega
  have ha_147 : 0 ≤ (sv_14 : Int32).toInt ∧ (sv_14 : Int32).toInt ≤ 60 := by
    refine ⟨?_, ?_⟩ <;> omega
  have ha_148 : (((r_26 : Int32).toInt = 0 ∧ ¬ (sv_12 : Int32).toInt = 0) ∨ ((r_26 : Int32).toInt = 1 ∧ 0 ≤ (sv_19 (Mv 5).toNatClampNeg).toInt ∧ (sv_19 (Mv 5).toNatClampNeg).toInt ≤ (sv_11 : Int32).toInt ∧ (sv_21 (Mv 5).toInt.toNat).toInt = (sv_16 : Int32).toInt ∧ 0 ≤ (sv_16 : Int32).toInt ∧ (sv_16 : Int32).toInt ≤ 12)) := by
    omega
  exact loop_58 _ r_26 sv_11 sv_12 sv_13 sv_14 sv_15 sv_16 sv_17 sv_18 sv_19 sv_20 sv_21 sv_22 _ _ _ (Nat.lt_succ_self _) ha_146 ha_147 ha_148 hm_29 pf_25 hP hD hS hl
set_option maxRecDepth 100000 in
theorem cu_X12_readsAll_r (l : Launch) (D : va_G) (tc : Nat → ClassId) (sk : (Nat → Nat) × (Nat → Nat)) (Ma_0 : Nat) (Ma_1 : Nat) (Ma_2 : Nat) (Ma_3 : Nat) (Ma_4 : Nat) (Ma_5 : Nat) (Ma_6 : Nat) (Ma_7 : Nat) (Ma_8 : Nat) (Ma_9 : Nat) (Ma_10 : Nat) (Ma_11 : Nat) (Ma_12 : Nat) (Ma_13 : Nat) (Ma_14 : Nat) (Ma_15 : Nat) (Ma_16 : Nat) (Ma_17 : Nat) (Ma_18 : Nat) (Ma_19 : Nat) (Ma_20 : Nat) (Mv_0 : Int32) (Mv_1 : Int32) (Mv_2 : Int32) (Mv_3 : Int32) (Mv_4 : Int32) (Mv_5 : Int32) (Mv_6 : Int32) (Mv_7 : Int32) (Mv_8 : Int32) (Mv_9 : Int32) (Mv_10 : Int32) (Mv_11 : Int32) (Mv_12 : Int32) (Mv_13 : Int32) (Mv_14 : Int32) (Mf_1 : Nat → Int32) (Mf_2 : Nat → Int32) (Mf_3 : Nat → Int32) (Mf_4 : Nat → Int32) (Mf_5 : Nat → Int32) (Mf_7 : Nat → Int32) (Mj_0 : Int64) (h_tp : 0 ≤ (Mv_0 : Int32).toInt ∧ (Mv_0 : Int32).toInt ≤ 400) (h_t : 0 ≤ (Mv_5 : Int32).toInt ∧ (Mv_5 : Int32).toInt ≤ 5) (h_rp : RulP Mf_2 Mf_4 Mf_5 Mv_5 0) (h_c : (Mf_5 Mv_5.toInt.toNat).toInt = 0) : Ct l yX12_readsAll cX12_readsAll 2 (some .boolean) { frames := 11, cells := 0, slots := 0, locals := 241 } D tc sk [.ref Ma_0] [(Ma_0, .inr (12, [.ref Ma_1, .int Mv_0, .int Mv_1, .ref Ma_2, .ref Ma_3, .ref Ma_4, .ref Ma_5, .ref Ma_6, .int Mv_2, .int Mv_3, .int Mv_4, .int Mv_5, .int Mv_6, .int Mv_7, .int Mv_8, .ref Ma_7, .int Mv_9, .ref Ma_8, .int Mv_10, .ref Ma_9, .ref Ma_10, .int Mv_11, .int Mv_12, .int Mv_13, .ref Ma_11, .int Mv_14, .ref Ma_12, .ref Ma_13, .ref Ma_14, .ref Ma_15, .ref Ma_16, .long Mj_0, .ref Ma_17, .ref Ma_18, .ref Ma_19, .ref Ma_20])), (Ma_1, .inl (tc 2, 400, .inl Mf_1)), (Ma_2, .inl (tc 0, 2400, .inl Mf_2)), (Ma_3, .inl (tc 0, 7, .inl Mf_3)), (Ma_4, .inl (tc 0, 288, .inl Mf_4)), (Ma_5, .inl (tc 0, 6, .inl Mf_5)), (Ma_7, .inl (tc 0, 400, .inl Mf_7))] (fun (v : Option Value) (u : (Int32) × (Int32) × (Int32) × (Int32) × (Int32) × (Int32) × (Int32) × (Nat → Int32) × (Nat → Int32) × (Nat → Int32) × (Nat → Int32) × (Nat → Int32)) => match u with | (oo0x1, oo0x2, oo0x3, oo0x4, oo0x5, oo0x6, oo0x7, oo0x8, oo0x9, oo0x10, oo0x11, oo0x12) => ∃ r : Int32, v = some (.int r) ∧ ((r.toInt = 0 ∨ (r.toInt = 1 ∧ (oo0x11 Mv_5.toInt.toNat).toInt ≤ 12))) ∧ (RulD oo0x8 oo0x10 oo0x11 Mv_5) ∧ (r.toInt = 1 → (RulP oo0x8 oo0x10 oo0x11 Mv_5 ((oo0x9 Mv_5.toNatClampNeg).toInt)))) (fun (u : (Int32) × (Int32) × (Int32) × (Int32) × (Int32) × (Int32) × (Int32) × (Nat → Int32) × (Nat → Int32) × (Nat → Int32) × (Nat → Int32) × (Nat → Int32)) => match u with | (oo0x1, oo0x2, oo0x3, oo0x4, oo0x5, oo0x6, oo0x7, oo0x8, oo0x9, oo0x10, oo0x11, oo0x12) => [(Ma_0, .inr (12, [.ref Ma_1, .int 0, .int Mv_1, .ref Ma_2, .ref Ma_3, .ref Ma_4, .ref Ma_5, .ref Ma_6, .int oo0x1, .int oo0x2, .int oo0x3, .int Mv_5, .int oo0x4, .int oo0x5, .int oo0x6, .ref Ma_7, .int oo0x7, .ref Ma_8, .int Mv_10, .ref Ma_9, .ref Ma_10, .int Mv_11, .int Mv_12, .int Mv_13, .ref Ma_11, .int Mv_14, .ref Ma_12, .ref Ma_13, .ref Ma_14, .ref Ma_15, .ref Ma_16, .long Mj_0, .ref Ma_17, .ref Ma_18, .ref Ma_19, .ref Ma_20])), (Ma_1, .inl (tc 2, 400, .inl Mf_1)), (Ma_2, .inl (tc 0, 2400, .inl oo0x8)), (Ma_3, .inl (tc 0, 7, .inl oo0x9)), (Ma_4, .inl (tc 0, 288, .inl oo0x10)), (Ma_5, .inl (tc 0, 6, .inl oo0x11)), (Ma_7, .inl (tc 0, 400, .inl oo0x12))]) 0 0 :=
  ct_X12_readsAll_r l D tc sk (fun k => ([Ma_0, Ma_1, Ma_2, Ma_3, Ma_4, Ma_5, Ma_6, Ma_7, Ma_8, Ma_9, Ma_10, Ma_11, Ma_12, Ma_13, Ma_14, Ma_15, Ma_16, Ma_17, Ma_18, Ma_19, Ma_20] : List (Nat)).getD k 0) (fun k => ([Mv_0, Mv_1, Mv_2, Mv_3, Mv_4, Mv_5, Mv_6, Mv_7, Mv_8, Mv_9, Mv_10, Mv_11, Mv_12, Mv_13, Mv_14] : List (Int32)).getD k 0) (fun k => ([(fun _ => 0), Mf_1, Mf_2, Mf_3, Mf_4, Mf_5, (fun _ => 0), Mf_7] : List (Nat → Int32)).getD k (fun _ => 0)) (fun k => ([Mj_0] : List (Int64)).getD k 0) h_tp h_t h_rp h_c
set_option maxHeartbeats 4000000 in
set_option maxRecDepth 100000 in
theorem ct_X12_rule (l : Launch) (D : va_G) (tc : Nat → ClassId) (sk : (Nat → Nat) × (Nat → Nat)) (Ma : Nat → Nat) (Mv : Nat → Int32) (Mf : Nat → Nat → Int32) (Mj : Nat → Int64) (h_tp : 0 ≤ ((Mv 0) : Int32).toInt ∧ ((Mv 0) : Int32).toInt ≤ 400) (h_r : 0 ≤ ((Mv 1) : Int32).toInt ∧ ((Mv 1) : Int32).toInt ≤ 6) (h_rul : RulD (Mf 2) (Mf 4) (Mf 5) (Mv 1)) : Ct l yX12_rule cX12_rule 1 (some .int) { frames := 12, cells := 0, slots := 0, locals := 262 } D tc sk [.ref (Ma 0)] [((Ma 0), .inr (12, [.ref (Ma 1), .int (Mv 0), .int (Mv 1), .ref (Ma 2), .ref (Ma 3), .ref (Ma 4), .ref (Ma 5), .ref (Ma 6), .int (Mv 2), .int (Mv 3), .int (Mv 4), .int (Mv 5), .int (Mv 6), .int (Mv 7), .int (Mv 8), .ref (Ma 7), .int (Mv 9), .ref (Ma 8), .int (Mv 10), .ref (Ma 9), .ref (Ma 10), .int (Mv 11), .int (Mv 12), .int (Mv 13), .ref (Ma 11), .int (Mv 14), .ref (Ma 12), .ref (Ma 13), .ref (Ma 14), .ref (Ma 15), .ref (Ma 16), .long (Mj 0), .ref (Ma 17), .ref (Ma 18), .ref (Ma 19), .ref (Ma 20)])), ((Ma 1), .inl (tc 2, 400, .inl (Mf 1))), ((Ma 2), .inl (tc 0, 2400, .inl (Mf 2))), ((Ma 3), .inl (tc 0, 7, .inl (Mf 3))), ((Ma 4), .inl (tc 0, 288, .inl (Mf 4))), ((Ma 5), .inl (tc 0, 6, .inl (Mf 5))), ((Ma 7), .inl (tc 0, 400, .inl (Mf 7)))] (fun (v : Option Value) (u : (Int32) × (Int32) × (Int32) × (Int32) × (Int32) × (Int32) × (Int32) × (Int32) × (Int32) × (Int32) × (Nat → Int32) × (Nat → Int32) × (Nat → Int32) × (Nat → Int32) × (Nat → Int32)) => match u with | (oo0x1, oo0x2, oo0x3, oo0x4, oo0x5, oo0x6, oo0x7, oo0x8, oo0x9, oo0x10, oo0x11, oo0x12, oo0x13, oo0x14, oo0x15) => ∃ r : Int32, v = some (.int r) ∧ (True) ∧ (0 ≤ (oo0x1 : Int32).toInt ∧ (oo0x1 : Int32).toInt ≤ 400) ∧ (((Mv 1) : Int32).toInt ≤ (oo0x2 : Int32).toInt ∧ (oo0x2 : Int32).toInt ≤ 6) ∧ (RulD oo0x11 oo0x13 oo0x14 oo0x2)) (fun (u : (Int32) × (Int32) × (Int32) × (Int32) × (Int32) × (Int32) × (Int32) × (Int32) × (Int32) × (Int32) × (Nat → Int32) × (Nat → Int32) × (Nat → Int32) × (Nat → Int32) × (Nat → Int32)) => match u with | (oo0x1, oo0x2, oo0x3, oo0x4, oo0x5, oo0x6, oo0x7, oo0x8, oo0x9, oo0x10, oo0x11, oo0x12, oo0x13, oo0x14, oo0x15) => [((Ma 0), .inr (12, [.ref (Ma 1), .int oo0x1, .int oo0x2, .ref (Ma 2), .ref (Ma 3), .ref (Ma 4), .ref (Ma 5), .ref (Ma 6), .int oo0x3, .int oo0x4, .int oo0x5, .int oo0x6, .int oo0x7, .int oo0x8, .int oo0x9, .ref (Ma 7), .int oo0x10, .ref (Ma 8), .int (Mv 10), .ref (Ma 9), .ref (Ma 10), .int (Mv 11), .int (Mv 12), .int (Mv 13), .ref (Ma 11), .int (Mv 14), .ref (Ma 12), .ref (Ma 13), .ref (Ma 14), .ref (Ma 15), .ref (Ma 16), .long (Mj 0), .ref (Ma 17), .ref (Ma 18), .ref (Ma 19), .ref (Ma 20)])), ((Ma 1), .inl (tc 2, 400, .inl (Mf 1))), ((Ma 2), .inl (tc 0, 2400, .inl oo0x11)), ((Ma 3), .inl (tc 0, 7, .inl oo0x12)), ((Ma 4), .inl (tc 0, 288, .inl oo0x13)), ((Ma 5), .inl (tc 0, 6, .inl oo0x14)), ((Ma 7), .inl (tc 0, 400, .inl oo0x15))]) 0 0 := by
  refine Ct.start (by decide) (Nat.le_of_ble_eq_true rfl) (fun p e s m below meth c A ls hx hb hr hlk hin hml hown hts hK hX hP hD hA hl hS => ?_)
  have hl : lv_has ls 1 [(0, .ref (Ma 0))] := hl
  refine lv_aload_n hx hb dX12_rule_0 rfl (lv_at hl 0 rfl) ?_
  refine gf_X12_256 hx hb hts hown hK hP 0 rfl rfl dX12_rule_1 ?_
  refine lv_bipush (v := 6) hx hb dX12_rule_4 (by decide) ?_
  refine lv_icmp_ne (tgt := 11) hx hb dX12_rule_6 (by decide) (fun c_1 => ?_) (fun c_1 => ?_)
  · skip
    refine lv_aload_n hx hb dX12_rule_11 rfl (lv_at hl 0 rfl) ?_
    refine lv_aload_n hx hb dX12_rule_12 rfl (lv_at hl 0 rfl) ?_
    refine gf_X12_256 hx hb hts hown hK hP 0 rfl rfl dX12_rule_13 ?_
    refine pf_X12_145 hx hb hts hown hK hP hD hS 0 rfl (Nat.le_of_ble_eq_true rfl) rfl rfl dX12_rule_16 (fun H locs hP₀ hD₀ hS₀ => ?_)
    replace hP : va_P D classes [((Ma 0), .inr (12, [.ref (Ma 1), .int (Mv 0), .int (Mv 1), .ref (Ma 2), .ref (Ma 3), .ref (Ma 4), .ref (Ma 5), .ref (Ma 6), .int (Mv 2), .int (Mv 3), .int (Mv 4), .int (Mv 1), .int (Mv 6), .int (Mv 7), .int (Mv 8), .ref (Ma 7), .int (Mv 9), .ref (Ma 8), .int (Mv 10), .ref (Ma 9), .ref (Ma 10), .int (Mv 11), .int (Mv 12), .int (Mv 13), .ref (Ma 11), .int (Mv 14), .ref (Ma 12), .ref (Ma 13), .ref (Ma 14), .ref (Ma 15), .ref (Ma 16), .long (Mj 0), .ref (Ma 17), .ref (Ma 18), .ref (Ma 19), .ref (Ma 20)])), ((Ma 1), .inl (tc 2, 400, .inl (Mf 1))), ((Ma 2), .inl (tc 0, 2400, .inl (Mf 2))), ((Ma 3), .inl (tc 0, 7, .inl (Mf 3))), ((Ma 4), .inl (tc 0, 288, .inl (Mf 4))), ((Ma 5), .inl (tc 0, 6, .inl (Mf 5))), ((Ma 7), .inl (tc 0, 400, .inl (Mf 7)))] H := hP₀
    replace hD : va_D A [((Ma 0), .inr (12, [.ref (Ma 1), .int (Mv 0), .int (Mv 1), .ref (Ma 2), .ref (Ma 3), .ref (Ma 4), .ref (Ma 5), .ref (Ma 6), .int (Mv 2), .int (Mv 3), .int (Mv 4), .int (Mv 1), .int (Mv 6), .int (Mv 7), .int (Mv 8), .ref (Ma 7), .int (Mv 9), .ref (Ma 8), .int (Mv 10), .ref (Ma 9), .ref (Ma 10), .int (Mv 11), .int (Mv 12), .int (Mv 13), .ref (Ma 11), .int (Mv 14), .ref (Ma 12), .ref (Ma 13), .ref (Ma 14), .ref (Ma 15), .ref (Ma 16), .long (Mj 0), .ref (Ma 17), .ref (Ma 18), .ref (Ma 19), .ref (Ma 20)])), ((Ma 1), .inl (tc 2, 400, .inl (Mf 1))), ((Ma 2), .inl (tc 0, 2400, .inl (Mf 2))), ((Ma 3), .inl (tc 0, 7, .inl (Mf 3))), ((Ma 4), .inl (tc 0, 288, .inl (Mf 4))), ((Ma 5), .inl (tc 0, 6, .inl (Mf 5))), ((Ma 7), .inl (tc 0, 400, .inl (Mf 7)))] := hD₀
    replace hS := hS₀
    clear hP₀ hD₀ hS₀
    refine lv_aload_n hx hb dX12_rule_19 rfl (lv_at hl 0 rfl) ?_
    refine gf_X12_23 hx hb hts hown hK hP 0 rfl rfl dX12_rule_20 ?_
    refine lv_aload_n hx hb dX12_rule_23 rfl (lv_at hl 0 rfl) ?_
    refine gf_X12_145 hx hb hts hown hK hP 0 rfl rfl dX12_rule_24 ?_
    refine lv_iconst (v := 0) hx hb dX12_rule_27 (by decide) ?_
    have hi_2 : vp_in (Mv 1) 6 := by
      have z_1 : ¬ ((Mv 1) : Int32).toInt = (6 : Int32).toInt := fun z => c_1 (Int32.toInt_inj.mp z)
      have y_6 : (6 : Int32).toInt = 6 := by decide
      refine vp_in_iff.mpr ⟨?_, ?_⟩ <;> omega
    refine st_int hx hb hK hP hD hS 5 0 rfl rfl hi_2 dX12_rule_28 (fun g_3 H locs eg_3 hP₀ hD₀ hS₀ => ?_)
    replace hP : va_P D classes [((Ma 0), .inr (12, [.ref (Ma 1), .int (Mv 0), .int (Mv 1), .ref (Ma 2), .ref (Ma 3), .ref (Ma 4), .ref (Ma 5), .ref (Ma 6), .int (Mv 2), .int (Mv 3), .int (Mv 4), .int (Mv 1), .int (Mv 6), .int (Mv 7), .int (Mv 8), .ref (Ma 7), .int (Mv 9), .ref (Ma 8), .int (Mv 10), .ref (Ma 9), .ref (Ma 10), .int (Mv 11), .int (Mv 12), .int (Mv 13), .ref (Ma 11), .int (Mv 14), .ref (Ma 12), .ref (Ma 13), .ref (Ma 14), .ref (Ma 15), .ref (Ma 16), .long (Mj 0), .ref (Ma 17), .ref (Ma 18), .ref (Ma 19), .ref (Ma 20)])), ((Ma 1), .inl (tc 2, 400, .inl (Mf 1))), ((Ma 2), .inl (tc 0, 2400, .inl (Mf 2))), ((Ma 3), .inl (tc 0, 7, .inl (Mf 3))), ((Ma 4), .inl (tc 0, 288, .inl (Mf 4))), ((Ma 5), .inl (tc 0, 6, .inl g_3)), ((Ma 7), .inl (tc 0, 400, .inl (Mf 7)))] H := hP₀
    replace hD : va_D A [((Ma 0), .inr (12, [.ref (Ma 1), .int (Mv 0), .int (Mv 1), .ref (Ma 2), .ref (Ma 3), .ref (Ma 4), .ref (Ma 5), .ref (Ma 6), .int (Mv 2), .int (Mv 3), .int (Mv 4), .int (Mv 1), .int (Mv 6), .int (Mv 7), .int (Mv 8), .ref (Ma 7), .int (Mv 9), .ref (Ma 8), .int (Mv 10), .ref (Ma 9), .ref (Ma 10), .int (Mv 11), .int (Mv 12), .int (Mv 13), .ref (Ma 11), .int (Mv 14), .ref (Ma 12), .ref (Ma 13), .ref (Ma 14), .ref (Ma 15), .ref (Ma 16), .long (Mj 0), .ref (Ma 17), .ref (Ma 18), .ref (Ma 19), .ref (Ma 20)])), ((Ma 1), .inl (tc 2, 400, .inl (Mf 1))), ((Ma 2), .inl (tc 0, 2400, .inl (Mf 2))), ((Ma 3), .inl (tc 0, 7, .inl (Mf 3))), ((Ma 4), .inl (tc 0, 288, .inl (Mf 4))), ((Ma 5), .inl (tc 0, 6, .inl g_3)), ((Ma 7), .inl (tc 0, 400, .inl (Mf 7)))] := hD₀
    replace hS := hS₀
    clear hP₀ hD₀ hS₀
    have hr_5 : 0 ≤ (Mv 1).toInt := by
      have z_1 : ¬ ((Mv 1) : Int32).toInt = (6 : Int32).toInt := fun z => c_1 (Int32.toInt_inj.mp z)
      have y_6 : (6 : Int32).toInt = 6 := by decide
      omega
    have pf_4 : RulP (Mf 2) (Mf 4) g_3 (Mv 1) 0 := RulP.start h_rul hr_5 eg_3 (by decide)
    have ar_pf_4 := pf_4.2.1
    have kc_g_3 : (g_3 (Mv 1).toInt.toNat).toInt = (0 : Int32).toInt := upd_toInt_at eg_3
    have kz0 : (0 : Int32).toInt = 0 := by decide
    refine lv_aload_n hx hb dX12_rule_29 rfl (lv_at hl 0 rfl) ?_
    have ha_6 : 0 ≤ ((Mv 1) : Int32).toInt ∧ ((Mv 1) : Int32).toInt ≤ 5 := by
      have z_1 : ¬ ((Mv 1) : Int32).toInt = (6 : Int32).toInt := fun z => c_1 (Int32.toInt_inj.mp z)
      have y_6 : (6 : Int32).toInt = 6 := by decide
      refine ⟨?_, ?_⟩ <;> omega
    have ha_7 : (g_3 (Mv 1).toInt.toNat).toInt = 0 := by
      have z_1 : ¬ ((Mv 1) : Int32).toInt = (6 : Int32).toInt := fun z => c_1 (Int32.toInt_inj.mp z)
      have y_6 : (6 : Int32).toInt = 6 := by decide
      omega
    refine cV (a := (Ma 0)) (As := []) (rest := []) (wr := []) ⟨hx, hb, hml, hown, hts⟩ hK hX hA (cu_X12_readsAll_r l D tc sk (Ma 0) (Ma 1) (Ma 2) (Ma 3) (Ma 4) (Ma 5) (Ma 6) (Ma 7) (Ma 8) (Ma 9) (Ma 10) (Ma 11) (Ma 12) (Ma 13) (Ma 14) (Ma 15) (Ma 16) (Ma 17) (Ma 18) (Ma 19) (Ma 20) (Mv 0) (Mv 1) (Mv 2) (Mv 3) (Mv 4) (Mv 1) (Mv 6) (Mv 7) (Mv 8) (Mv 9) (Mv 10) (Mv 11) (Mv 12) (Mv 13) (Mv 14) (Mf 1) (Mf 2) (Mf 3) (Mf 4) g_3 (Mf 7) (Mj 0) h_tp ha_6 pf_4 ha_7) k_1203 k_1200 k_1202 k_25 k_106 pl_X12_readsAll ⟨Nat.le_of_ble_eq_true rfl, Nat.le_of_ble_eq_true rfl⟩ rfl rfl (va_recv hK hP (ci := 12) (q0 := 0) rfl rfl) hP hD hS [0, 1, 2, 3, 4, 5, 6] [] rfl rfl rfl rfl rfl (by decide) rfl hl.1 rfl (Nat.le_of_ble_eq_true rfl) dX12_rule_30 ⟨Nat.le_of_ble_eq_true rfl, Nat.le_of_ble_eq_true rfl⟩ (fun v_8 u_9 H locs hv_10 hP₀ hD₀ hS₀ => ?_)
    obtain ⟨sv_11, sv_12, sv_13, sv_14, sv_15, sv_16, sv_17, sv_18, sv_19, sv_20, sv_21, sv_22⟩ := u_9
    obtain ⟨r_24, rfl, he_25, pf_23, hm_27⟩ := hv_10
    have he_25 : (r_24.toInt = 0 ∨ (r_24.toInt = 1 ∧ (sv_21 (Mv 1).toInt.toNat).toInt ≤ 12)) := he_25
    have pf_23 : RulD sv_18 sv_20 sv_21 (Mv 1) := pf_23
    refine W.eq (g2 := F0 m 33 ls [.int r_24]) rfl ?_
    replace hP : va_P D classes [((Ma 0), .inr (12, [.ref (Ma 1), .int 0, .int (Mv 1), .ref (Ma 2), .ref (Ma 3), .ref (Ma 4), .ref (Ma 5), .ref (Ma 6), .int sv_11, .int sv_12, .int sv_13, .int (Mv 1), .int sv_14, .int sv_15, .int sv_16, .ref (Ma 7), .int sv_17, .ref (Ma 8), .int (Mv 10), .ref (Ma 9), .ref (Ma 10), .int (Mv 11), .int (Mv 12), .int (Mv 13), .ref (Ma 11), .int (Mv 14), .ref (Ma 12), .ref (Ma 13), .ref (Ma 14), .ref (Ma 15), .ref (Ma 16), .long (Mj 0), .ref (Ma 17), .ref (Ma 18), .ref (Ma 19), .ref (Ma 20)])), ((Ma 1), .inl (tc 2, 400, .inl (Mf 1))), ((Ma 2), .inl (tc 0, 2400, .inl sv_18)), ((Ma 3), .inl (tc 0, 7, .inl sv_19)), ((Ma 4), .inl (tc 0, 288, .inl sv_20)), ((Ma 5), .inl (tc 0, 6, .inl sv_21)), ((Ma 7), .inl (tc 0, 400, .inl sv_22))] H := hP₀
    replace hD : va_D A [((Ma 0), .inr (12, [.ref (Ma 1), .int 0, .int (Mv 1), .ref (Ma 2), .ref (Ma 3), .ref (Ma 4), .ref (Ma 5), .ref (Ma 6), .int sv_11, .int sv_12, .int sv_13, .int (Mv 1), .int sv_14, .int sv_15, .int sv_16, .ref (Ma 7), .int sv_17, .ref (Ma 8), .int (Mv 10), .ref (Ma 9), .ref (Ma 10), .int (Mv 11), .int (Mv 12), .int (Mv 13), .ref (Ma 11), .int (Mv 14), .ref (Ma 12), .ref (Ma 13), .ref (Ma 14), .ref (Ma 15), .ref (Ma 16), .long (Mj 0), .ref (Ma 17), .ref (Ma 18), .ref (Ma 19), .ref (Ma 20)])), ((Ma 1), .inl (tc 2, 400, .inl (Mf 1))), ((Ma 2), .inl (tc 0, 2400, .inl sv_18)), ((Ma 3), .inl (tc 0, 7, .inl sv_19)), ((Ma 4), .inl (tc 0, 288, .inl sv_20)), ((Ma 5), .inl (tc 0, 6, .inl sv_21)), ((Ma 7), .inl (tc 0, 400, .inl sv_22))] := hD₀
    replace hS := hS₀
    clear hP₀ hD₀ hS₀
    refine lv_if_ne (tgt := 44) hx hb dX12_rule_33 (by decide) (fun c_28 => ?_) (fun c_28 => ?_)
    · skip
      have hz_30 : (r_24 : Int32).toInt = 1 := by
        have z_1 : ¬ ((Mv 1) : Int32).toInt = (6 : Int32).toInt := fun z => c_1 (Int32.toInt_inj.mp z)
        have z_2 : ¬ (r_24 : Int32).toInt = (0 : Int32).toInt := fun z => c_28 (Int32.toInt_inj.mp z)
        have y_0 : (0 : Int32).toInt = 0 := by decide
        have y_6 : (6 : Int32).toInt = 6 := by decide
        omega
      obtain pf_29 := hm_27 hz_30
      have pf_29 : RulP sv_18 sv_20 sv_21 (Mv 1) ((sv_19 (Mv 1).toNatClampNeg).toInt) := pf_29
      have ar_pf_29 := pf_29.2.1
      refine lv_aload_n hx hb dX12_rule_44 rfl (lv_at hl 0 rfl) ?_
      refine lv_dup hx hb dX12_rule_45 rfl ?_
      refine gf_X12_256 hx hb hts hown hK hP 0 rfl rfl dX12_rule_46 ?_
      refine lv_iconst (v := 1) hx hb dX12_rule_49 (by decide) ?_
      refine lv_iadd hx hb dX12_rule_50 ?_
      refine lv_topi (fun x_31 ex_31 => ?_)
      refine pf_X12_256 hx hb hts hown hK hP hD hS 0 rfl (Nat.le_of_ble_eq_true rfl) rfl rfl dX12_rule_51 (fun H locs hP₀ hD₀ hS₀ => ?_)
      replace hP : va_P D classes [((Ma 0), .inr (12, [.ref (Ma 1), .int 0, .int x_31, .ref (Ma 2), .ref (Ma 3), .ref (Ma 4), .ref (Ma 5), .ref (Ma 6), .int sv_11, .int sv_12, .int sv_13, .int (Mv 1), .int sv_14, .int sv_15, .int sv_16, .ref (Ma 7), .int sv_17, .ref (Ma 8), .int (Mv 10), .ref (Ma 9), .ref (Ma 10), .int (Mv 11), .int (Mv 12), .int (Mv 13), .ref (Ma 11), .int (Mv 14), .ref (Ma 12), .ref (Ma 13), .ref (Ma 14), .ref (Ma 15), .ref (Ma 16), .long (Mj 0), .ref (Ma 17), .ref (Ma 18), .ref (Ma 19), .ref (Ma 20)])), ((Ma 1), .inl (tc 2, 400, .inl (Mf 1))), ((Ma 2), .inl (tc 0, 2400, .inl sv_18)), ((Ma 3), .inl (tc 0, 7, .inl sv_19)), ((Ma 4), .inl (tc 0, 288, .inl sv_20)), ((Ma 5), .inl (tc 0, 6, .inl sv_21)), ((Ma 7), .inl (tc 0, 400, .inl sv_22))] H := hP₀
      replace hD : va_D A [((Ma 0), .inr (12, [.ref (Ma 1), .int 0, .int x_31, .ref (Ma 2), .ref (Ma 3), .ref (Ma 4), .ref (Ma 5), .ref (Ma 6), .int sv_11, .int sv_12, .int sv_13, .int (Mv 1), .int sv_14, .int sv_15, .int sv_16, .ref (Ma 7), .int sv_17, .ref (Ma 8), .int (Mv 10), .ref (Ma 9), .ref (Ma 10), .int (Mv 11), .int (Mv 12), .int (Mv 13), .ref (Ma 11), .int (Mv 14), .ref (Ma 12), .ref (Ma 13), .ref (Ma 14), .ref (Ma 15), .ref (Ma 16), .long (Mj 0), .ref (Ma 17), .ref (Ma 18), .ref (Ma 19), .ref (Ma 20)])), ((Ma 1), .inl (tc 2, 400, .inl (Mf 1))), ((Ma 2), .inl (tc 0, 2400, .inl sv_18)), ((Ma 3), .inl (tc 0, 7, .inl sv_19)), ((Ma 4), .inl (tc 0, 288, .inl sv_20)), ((Ma 5), .inl (tc 0, 6, .inl sv_21)), ((Ma 7), .inl (tc 0, 400, .inl sv_22))] := hD₀
      replace hS := hS₀
      clear hP₀ hD₀ hS₀
      refine lv_aload_n hx hb dX12_rule_54 rfl (lv_at hl 0 rfl) ?_
      refine gf_X12_256 hx hb hts hown hK hP 0 rfl rfl dX12_rule_55 ?_
      refine lv_iconst (v := 1) hx hb dX12_rule_58 (by decide) ?_
      refine lv_isub hx hb dX12_rule_59 ?_
      refine lv_topi (fun x_32 ex_32 => ?_)
      have ha_33 : 0 ≤ (0 : Int32).toInt ∧ (0 : Int32).toInt ≤ 400 := by
        have z_1 : ¬ ((Mv 1) : Int32).toInt = (6 : Int32).toInt := fun z => c_1 (Int32.toInt_inj.mp z)
        have z_2 : ¬ (r_24 : Int32).toInt = (0 : Int32).toInt := fun z => c_28 (Int32.toInt_inj.mp z)
        have y_0 : (0 : Int32).toInt = 0 := by decide
        have y_6 : (6 : Int32).toInt = 6 := by decide
        refine ⟨?_, ?_⟩ <;> omega
      have ha_34 : ((Mv 1) : Int32).toInt ≤ (x_31 : Int32).toInt ∧ (x_31 : Int32).toInt ≤ 6 := by
        have z_1 : ¬ ((Mv 1) : Int32).toInt = (6 : Int32).toInt := fun z => c_1 (Int32.toInt_inj.mp z)
        have z_2 : ¬ (r_24 : Int32).toInt = (0 : Int32).toInt := fun z => c_28 (Int32.toInt_inj.mp z)
        have y_0 : (0 : Int32).toInt = 0 := by decide
        have y_6 : (6 : Int32).toInt = 6 := by decide
        have y_1 : (1 : Int32).toInt = 1 := by decide
        have t_x_31 : x_31.toInt = ((Mv 1) : Int32).toInt + (1 : Int32).toInt := by rw [ex_31]; exact add_toInt (by omega) (by omega)
        refine ⟨?_, ?_⟩ <;> omega
      have hr_35 : 0 ≤ (Mv 1).toInt := by
        have z_1 : ¬ ((Mv 1) : Int32).toInt = (6 : Int32).toInt := fun z => c_1 (Int32.toInt_inj.mp z)
        have z_2 : ¬ (r_24 : Int32).toInt = (0 : Int32).toInt := fun z => c_28 (Int32.toInt_inj.mp z)
        have y_0 : (0 : Int32).toInt = 0 := by decide
        have y_6 : (6 : Int32).toInt = 6 := by decide
        omega
      have hi_36 : (x_31 : Int32).toInt = (Mv 1).toInt + 1 := by
        have z_1 : ¬ ((Mv 1) : Int32).toInt = (6 : Int32).toInt := fun z => c_1 (Int32.toInt_inj.mp z)
        have z_2 : ¬ (r_24 : Int32).toInt = (0 : Int32).toInt := fun z => c_28 (Int32.toInt_inj.mp z)
        have y_0 : (0 : Int32).toInt = 0 := by decide
        have y_6 : (6 : Int32).toInt = 6 := by decide
        have y_1 : (1 : Int32).toInt = 1 := by decide
        have t_x_31 : x_31.toInt = ((Mv 1) : Int32).toInt + (1 : Int32).toInt := by rw [ex_31]; exact add_toInt (by omega) (by omega)
        omega
      have hr_37 : (sv_21 (Mv 1).toInt.toNat).toInt ≤ 12 := by
        have z_1 : ¬ ((Mv 1) : Int32).toInt = (6 : Int32).toInt := fun z => c_1 (Int32.toInt_inj.mp z)
        have z_2 : ¬ (r_24 : Int32).toInt = (0 : Int32).toInt := fun z => c_28 (Int32.toInt_inj.mp z)
        have y_0 : (0 : Int32).toInt = 0 := by decide
        have y_6 : (6 : Int32).toInt = 6 := by decide
        omega
      exact retI (v := x_32) hx hb hr hlk (rfl) hP hD hS (0, x_31, sv_11, sv_12, sv_13, (Mv 1), sv_14, sv_15, sv_16, sv_17, sv_18, sv_19, sv_20, sv_21, sv_22) ⟨_, rfl, trivial, ha_33, ha_34, (RulP.done pf_29 hr_35 hi_36 hr_37)⟩ [0, 1, 2, 3, 4, 5, 6] rfl rfl dX12_rule_60 (Nat.le_of_ble_eq_true rfl) (Nat.le_of_ble_eq_true rfl) rfl
    · skip
      refine lv_bipush (v := (-2)) hx hb dX12_rule_36 (by decide) ?_
      refine lv_aload_n hx hb dX12_rule_38 rfl (lv_at hl 0 rfl) ?_
      refine gf_X12_84 hx hb hts hown hK hP 0 rfl rfl dX12_rule_39 ?_
      refine lv_isub hx hb dX12_rule_42 ?_
      refine lv_topi (fun x_38 ex_38 => ?_)
      have ha_39 : 0 ≤ (0 : Int32).toInt ∧ (0 : Int32).toInt ≤ 400 := by
        have z_1 : ¬ ((Mv 1) : Int32).toInt = (6 : Int32).toInt := fun z => c_1 (Int32.toInt_inj.mp z)
        have z_2 := congrArg Int32.toInt c_28
        have y_0 : (0 : Int32).toInt = 0 := by decide
        have y_6 : (6 : Int32).toInt = 6 := by decide
        refine ⟨?_, ?_⟩ <;> omega
      have ha_40 : ((Mv 1) : Int32).toInt ≤ ((Mv 1) : Int32).toInt ∧ ((Mv 1) : Int32).toInt ≤ 6 := by
        have z_1 : ¬ ((Mv 1) : Int32).toInt = (6 : Int32).toInt := fun z => c_1 (Int32.toInt_inj.mp z)
        have z_2 := congrArg Int32.toInt c_28
        have y_0 : (0 : Int32).toInt = 0 := by decide
        have y_6 : (6 : Int32).toInt = 6 := by decide
        refine ⟨?_, ?_⟩ <;> omega
      exact retI (v := x_38) hx hb hr hlk (rfl) hP hD hS (0, (Mv 1), sv_11, sv_12, sv_13, (Mv 1), sv_14, sv_15, sv_16, sv_17, sv_18, sv_19, sv_20, sv_21, sv_22) ⟨_, rfl, trivial, ha_39, ha_40, pf_23⟩ [0, 1, 2, 3, 4, 5, 6] rfl rfl dX12_rule_43 (Nat.le_of_ble_eq_true rfl) (Nat.le_of_ble_eq_true rfl) rfl
  · skip
    refine lv_iconst (v := (-1)) hx hb dX12_rule_9 (by decide) ?_
    have ha_41 : ((Mv 1) : Int32).toInt ≤ ((Mv 1) : Int32).toInt ∧ ((Mv 1) : Int32).toInt ≤ 6 := by
      have z_1 := congrArg Int32.toInt c_1
      have y_6 : (6 : Int32).toInt = 6 := by decide
      refine ⟨?_, ?_⟩ <;> omega
    exact retI (v := (-1)) hx hb hr hlk (rfl) hP hD hS ((Mv 0), (Mv 1), (Mv 2), (Mv 3), (Mv 4), (Mv 5), (Mv 6), (Mv 7), (Mv 8), (Mv 9), (Mf 2), (Mf 3), (Mf 4), (Mf 5), (Mf 7)) ⟨_, rfl, trivial, h_tp, ha_41, h_rul⟩ [0, 1, 2, 3, 4, 5, 6] rfl rfl dX12_rule_10 (Nat.le_of_ble_eq_true rfl) (Nat.le_of_ble_eq_true rfl) rfl
set_option maxRecDepth 100000 in
theorem cu_X12_rule (l : Launch) (D : va_G) (tc : Nat → ClassId) (sk : (Nat → Nat) × (Nat → Nat)) (Ma_0 : Nat) (Ma_1 : Nat) (Ma_2 : Nat) (Ma_3 : Nat) (Ma_4 : Nat) (Ma_5 : Nat) (Ma_6 : Nat) (Ma_7 : Nat) (Ma_8 : Nat) (Ma_9 : Nat) (Ma_10 : Nat) (Ma_11 : Nat) (Ma_12 : Nat) (Ma_13 : Nat) (Ma_14 : Nat) (Ma_15 : Nat) (Ma_16 : Nat) (Ma_17 : Nat) (Ma_18 : Nat) (Ma_19 : Nat) (Ma_20 : Nat) (Mv_0 : Int32) (Mv_1 : Int32) (Mv_2 : Int32) (Mv_3 : Int32) (Mv_4 : Int32) (Mv_5 : Int32) (Mv_6 : Int32) (Mv_7 : Int32) (Mv_8 : Int32) (Mv_9 : Int32) (Mv_10 : Int32) (Mv_11 : Int32) (Mv_12 : Int32) (Mv_13 : Int32) (Mv_14 : Int32) (Mf_1 : Nat → Int32) (Mf_2 : Nat → Int32) (Mf_3 : Nat → Int32) (Mf_4 : Nat → Int32) (Mf_5 : Nat → Int32) (Mf_7 : Nat → Int32) (Mj_0 : Int64) (h_tp : 0 ≤ (Mv_0 : Int32).toInt ∧ (Mv_0 : Int32).toInt ≤ 400) (h_r : 0 ≤ (Mv_1 : Int32).toInt ∧ (Mv_1 : Int32).toInt ≤ 6) (h_rul : RulD Mf_2 Mf_4 Mf_5 Mv_1) : Ct l yX12_rule cX12_rule 1 (some .int) { frames := 12, cells := 0, slots := 0, locals := 262 } D tc sk [.ref Ma_0] [(Ma_0, .inr (12, [.ref Ma_1, .int Mv_0, .int Mv_1, .ref Ma_2, .ref Ma_3, .ref Ma_4, .ref Ma_5, .ref Ma_6, .int Mv_2, .int Mv_3, .int Mv_4, .int Mv_5, .int Mv_6, .int Mv_7, .int Mv_8, .ref Ma_7, .int Mv_9, .ref Ma_8, .int Mv_10, .ref Ma_9, .ref Ma_10, .int Mv_11, .int Mv_12, .int Mv_13, .ref Ma_11, .int Mv_14, .ref Ma_12, .ref Ma_13, .ref Ma_14, .ref Ma_15, .ref Ma_16, .long Mj_0, .ref Ma_17, .ref Ma_18, .ref Ma_19, .ref Ma_20])), (Ma_1, .inl (tc 2, 400, .inl Mf_1)), (Ma_2, .inl (tc 0, 2400, .inl Mf_2)), (Ma_3, .inl (tc 0, 7, .inl Mf_3)), (Ma_4, .inl (tc 0, 288, .inl Mf_4)), (Ma_5, .inl (tc 0, 6, .inl Mf_5)), (Ma_7, .inl (tc 0, 400, .inl Mf_7))] (fun (v : Option Value) (u : (Int32) × (Int32) × (Int32) × (Int32) × (Int32) × (Int32) × (Int32) × (Int32) × (Int32) × (Int32) × (Nat → Int32) × (Nat → Int32) × (Nat → Int32) × (Nat → Int32) × (Nat → Int32)) => match u with | (oo0x1, oo0x2, oo0x3, oo0x4, oo0x5, oo0x6, oo0x7, oo0x8, oo0x9, oo0x10, oo0x11, oo0x12, oo0x13, oo0x14, oo0x15) => ∃ r : Int32, v = some (.int r) ∧ (True) ∧ (0 ≤ (oo0x1 : Int32).toInt ∧ (oo0x1 : Int32).toInt ≤ 400) ∧ ((Mv_1 : Int32).toInt ≤ (oo0x2 : Int32).toInt ∧ (oo0x2 : Int32).toInt ≤ 6) ∧ (RulD oo0x11 oo0x13 oo0x14 oo0x2)) (fun (u : (Int32) × (Int32) × (Int32) × (Int32) × (Int32) × (Int32) × (Int32) × (Int32) × (Int32) × (Int32) × (Nat → Int32) × (Nat → Int32) × (Nat → Int32) × (Nat → Int32) × (Nat → Int32)) => match u with | (oo0x1, oo0x2, oo0x3, oo0x4, oo0x5, oo0x6, oo0x7, oo0x8, oo0x9, oo0x10, oo0x11, oo0x12, oo0x13, oo0x14, oo0x15) => [(Ma_0, .inr (12, [.ref Ma_1, .int oo0x1, .int oo0x2, .ref Ma_2, .ref Ma_3, .ref Ma_4, .ref Ma_5, .ref Ma_6, .int oo0x3, .int oo0x4, .int oo0x5, .int oo0x6, .int oo0x7, .int oo0x8, .int oo0x9, .ref Ma_7, .int oo0x10, .ref Ma_8, .int Mv_10, .ref Ma_9, .ref Ma_10, .int Mv_11, .int Mv_12, .int Mv_13, .ref Ma_11, .int Mv_14, .ref Ma_12, .ref Ma_13, .ref Ma_14, .ref Ma_15, .ref Ma_16, .long Mj_0, .ref Ma_17, .ref Ma_18, .ref Ma_19, .ref Ma_20])), (Ma_1, .inl (tc 2, 400, .inl Mf_1)), (Ma_2, .inl (tc 0, 2400, .inl oo0x11)), (Ma_3, .inl (tc 0, 7, .inl oo0x12)), (Ma_4, .inl (tc 0, 288, .inl oo0x13)), (Ma_5, .inl (tc 0, 6, .inl oo0x14)), (Ma_7, .inl (tc 0, 400, .inl oo0x15))]) 0 0 :=
  ct_X12_rule l D tc sk (fun k => ([Ma_0, Ma_1, Ma_2, Ma_3, Ma_4, Ma_5, Ma_6, Ma_7, Ma_8, Ma_9, Ma_10, Ma_11, Ma_12, Ma_13, Ma_14, Ma_15, Ma_16, Ma_17, Ma_18, Ma_19, Ma_20] : List (Nat)).getD k 0) (fun k => ([Mv_0, Mv_1, Mv_2, Mv_3, Mv_4, Mv_5, Mv_6, Mv_7, Mv_8, Mv_9, Mv_10, Mv_11, Mv_12, Mv_13, Mv_14] : List (Int32)).getD k 0) (fun k => ([(fun _ => 0), Mf_1, Mf_2, Mf_3, Mf_4, Mf_5, (fun _ => 0), Mf_7] : List (Nat → Int32)).getD k (fun _ => 0)) (fun k => ([Mj_0] : List (Int64)).getD k 0) h_tp h_r h_rul
