theorem dX11_book_0 : decode cX11_book 0 = .ok (.aload_n 0, 1) := by decide +kernel
theorem dX11_book_1 : decode cX11_book 1 = .ok (.getfield 19, 3) := by decide +kernel
theorem dX11_book_4 : decode cX11_book 4 = .ok (.aload_n 0, 1) := by decide +kernel
theorem dX11_book_5 : decode cX11_book 5 = .ok (.getfield 10, 3) := by decide +kernel
theorem dX11_book_8 : decode cX11_book 8 = .ok (.invokevirtual 97, 3) := by decide +kernel
theorem dX11_book_11 : decode cX11_book 11 = .ok (.istore_n 1, 1) := by decide +kernel
theorem dX11_book_12 : decode cX11_book 12 = .ok (.aload_n 0, 1) := by decide +kernel
theorem dX11_book_13 : decode cX11_book 13 = .ok (.getfield 10, 3) := by decide +kernel
theorem dX11_book_16 : decode cX11_book 16 = .ok (.iconst 0, 1) := by decide +kernel
theorem dX11_book_17 : decode cX11_book 17 = .ok (.putfield 94, 3) := by decide +kernel
theorem dX11_book_20 : decode cX11_book 20 = .ok (.iload_n 1, 1) := by decide +kernel
theorem dX11_book_21 : decode cX11_book 21 = .ok (.ifCond .eq 8, 3) := by decide +kernel
theorem dX11_book_24 : decode cX11_book 24 = .ok (.bipush (-2), 2) := by decide +kernel
theorem dX11_book_26 : decode cX11_book 26 = .ok (.iload_n 1, 1) := by decide +kernel
theorem dX11_book_27 : decode cX11_book 27 = .ok (.isub, 1) := by decide +kernel
theorem dX11_book_28 : decode cX11_book 28 = .ok (.ireturn, 1) := by decide +kernel
theorem dX11_book_29 : decode cX11_book 29 = .ok (.aload_n 0, 1) := by decide +kernel
theorem dX11_book_30 : decode cX11_book 30 = .ok (.getfield 43, 3) := by decide +kernel
theorem dX11_book_33 : decode cX11_book 33 = .ok (.getfield 101, 3) := by decide +kernel
theorem dX11_book_36 : decode cX11_book 36 = .ok (.aload_n 0, 1) := by decide +kernel
theorem dX11_book_37 : decode cX11_book 37 = .ok (.getfield 19, 3) := by decide +kernel
theorem dX11_book_40 : decode cX11_book 40 = .ok (.getfield 104, 3) := by decide +kernel
theorem dX11_book_43 : decode cX11_book 43 = .ok (.invokevirtual 105, 3) := by decide +kernel
theorem dX11_book_46 : decode cX11_book 46 = .ok (.aload_n 0, 1) := by decide +kernel
theorem dX11_book_47 : decode cX11_book 47 = .ok (.getfield 51, 3) := by decide +kernel
theorem dX11_book_50 : decode cX11_book 50 = .ok (.aload_n 0, 1) := by decide +kernel
theorem dX11_book_51 : decode cX11_book 51 = .ok (.getfield 19, 3) := by decide +kernel
theorem dX11_book_54 : decode cX11_book 54 = .ok (.getfield 104, 3) := by decide +kernel
theorem dX11_book_57 : decode cX11_book 57 = .ok (.invokevirtual 105, 3) := by decide +kernel
theorem dX11_book_60 : decode cX11_book 60 = .ok (.aload_n 0, 1) := by decide +kernel
theorem dX11_book_61 : decode cX11_book 61 = .ok (.getfield 43, 3) := by decide +kernel
theorem dX11_book_64 : decode cX11_book 64 = .ok (.getfield 111, 3) := by decide +kernel
theorem dX11_book_67 : decode cX11_book 67 = .ok (.iconst 0, 1) := by decide +kernel
theorem dX11_book_68 : decode cX11_book 68 = .ok (.putfield 115, 3) := by decide +kernel
theorem dX11_book_71 : decode cX11_book 71 = .ok (.aload_n 0, 1) := by decide +kernel
theorem dX11_book_72 : decode cX11_book 72 = .ok (.getfield 57, 3) := by decide +kernel
theorem dX11_book_75 : decode cX11_book 75 = .ok (.iconst 0, 1) := by decide +kernel
theorem dX11_book_76 : decode cX11_book 76 = .ok (.putfield 120, 3) := by decide +kernel
theorem dX11_book_79 : decode cX11_book 79 = .ok (.aload_n 0, 1) := by decide +kernel
theorem dX11_book_80 : decode cX11_book 80 = .ok (.getfield 51, 3) := by decide +kernel
theorem dX11_book_83 : decode cX11_book 83 = .ok (.getfield 121, 3) := by decide +kernel
theorem dX11_book_86 : decode cX11_book 86 = .ok (.ireturn, 1) := by decide +kernel
theorem dX11_buyer_0 : decode cX11_buyer 0 = .ok (.aload_n 0, 1) := by decide +kernel
theorem dX11_buyer_1 : decode cX11_buyer 1 = .ok (.getfield 51, 3) := by decide +kernel
theorem dX11_buyer_4 : decode cX11_buyer 4 = .ok (.iload_n 1, 1) := by decide +kernel
theorem dX11_buyer_5 : decode cX11_buyer 5 = .ok (.invokevirtual 133, 3) := by decide +kernel
theorem dX11_buyer_8 : decode cX11_buyer 8 = .ok (.ifCond .ne 5, 3) := by decide +kernel
theorem dX11_buyer_11 : decode cX11_buyer 11 = .ok (.iconst (-1), 1) := by decide +kernel
theorem dX11_buyer_12 : decode cX11_buyer 12 = .ok (.ireturn, 1) := by decide +kernel
theorem dX11_buyer_13 : decode cX11_buyer 13 = .ok (.iload_n 2, 1) := by decide +kernel
theorem dX11_buyer_14 : decode cX11_buyer 14 = .ok (.tableswitch 102 0 5 #[38, 48, 58, 68, 78, 88], 38) := by decide +kernel
theorem dX11_buyer_52 : decode cX11_buyer 52 = .ok (.aload_n 0, 1) := by decide +kernel
theorem dX11_buyer_53 : decode cX11_buyer 53 = .ok (.getfield 51, 3) := by decide +kernel
theorem dX11_buyer_56 : decode cX11_buyer 56 = .ok (.getfield 137, 3) := by decide +kernel
theorem dX11_buyer_59 : decode cX11_buyer 59 = .ok (.iload_n 1, 1) := by decide +kernel
theorem dX11_buyer_60 : decode cX11_buyer 60 = .ok (.iaload, 1) := by decide +kernel
theorem dX11_buyer_61 : decode cX11_buyer 61 = .ok (.ireturn, 1) := by decide +kernel
theorem dX11_buyer_62 : decode cX11_buyer 62 = .ok (.aload_n 0, 1) := by decide +kernel
theorem dX11_buyer_63 : decode cX11_buyer 63 = .ok (.getfield 51, 3) := by decide +kernel
theorem dX11_buyer_66 : decode cX11_buyer 66 = .ok (.getfield 141, 3) := by decide +kernel
theorem dX11_buyer_69 : decode cX11_buyer 69 = .ok (.iload_n 1, 1) := by decide +kernel
theorem dX11_buyer_70 : decode cX11_buyer 70 = .ok (.iaload, 1) := by decide +kernel
theorem dX11_buyer_71 : decode cX11_buyer 71 = .ok (.ireturn, 1) := by decide +kernel
theorem dX11_buyer_72 : decode cX11_buyer 72 = .ok (.aload_n 0, 1) := by decide +kernel
theorem dX11_buyer_73 : decode cX11_buyer 73 = .ok (.getfield 51, 3) := by decide +kernel
theorem dX11_buyer_76 : decode cX11_buyer 76 = .ok (.getfield 144, 3) := by decide +kernel
theorem dX11_buyer_79 : decode cX11_buyer 79 = .ok (.iload_n 1, 1) := by decide +kernel
theorem dX11_buyer_80 : decode cX11_buyer 80 = .ok (.iaload, 1) := by decide +kernel
theorem dX11_buyer_81 : decode cX11_buyer 81 = .ok (.ireturn, 1) := by decide +kernel
theorem dX11_buyer_82 : decode cX11_buyer 82 = .ok (.aload_n 0, 1) := by decide +kernel
theorem dX11_buyer_83 : decode cX11_buyer 83 = .ok (.getfield 51, 3) := by decide +kernel
theorem dX11_buyer_86 : decode cX11_buyer 86 = .ok (.getfield 147, 3) := by decide +kernel
theorem dX11_buyer_89 : decode cX11_buyer 89 = .ok (.iload_n 1, 1) := by decide +kernel
theorem dX11_buyer_90 : decode cX11_buyer 90 = .ok (.iaload, 1) := by decide +kernel
theorem dX11_buyer_91 : decode cX11_buyer 91 = .ok (.ireturn, 1) := by decide +kernel
theorem dX11_buyer_92 : decode cX11_buyer 92 = .ok (.aload_n 0, 1) := by decide +kernel
theorem dX11_buyer_93 : decode cX11_buyer 93 = .ok (.getfield 51, 3) := by decide +kernel
theorem dX11_buyer_96 : decode cX11_buyer 96 = .ok (.getfield 150, 3) := by decide +kernel
theorem dX11_buyer_99 : decode cX11_buyer 99 = .ok (.iload_n 1, 1) := by decide +kernel
theorem dX11_buyer_100 : decode cX11_buyer 100 = .ok (.iaload, 1) := by decide +kernel
theorem dX11_buyer_101 : decode cX11_buyer 101 = .ok (.ireturn, 1) := by decide +kernel
theorem dX11_buyer_102 : decode cX11_buyer 102 = .ok (.bipush 99, 2) := by decide +kernel
theorem dX11_buyer_104 : decode cX11_buyer 104 = .ok (.aload_n 0, 1) := by decide +kernel
theorem dX11_buyer_105 : decode cX11_buyer 105 = .ok (.getfield 51, 3) := by decide +kernel
theorem dX11_buyer_108 : decode cX11_buyer 108 = .ok (.iload_n 1, 1) := by decide +kernel
theorem dX11_buyer_109 : decode cX11_buyer 109 = .ok (.invokevirtual 153, 3) := by decide +kernel
theorem dX11_buyer_112 : decode cX11_buyer 112 = .ok (.invokestatic 157, 3) := by decide +kernel
theorem dX11_buyer_115 : decode cX11_buyer 115 = .ok (.ireturn, 1) := by decide +kernel
theorem dX11_buyer_116 : decode cX11_buyer 116 = .ok (.iconst (-1), 1) := by decide +kernel
theorem dX11_buyer_117 : decode cX11_buyer 117 = .ok (.ireturn, 1) := by decide +kernel
theorem dX11_calm_0 : decode cX11_calm 0 = .ok (.aload_n 0, 1) := by decide +kernel
theorem dX11_calm_1 : decode cX11_calm 1 = .ok (.getfield 51, 3) := by decide +kernel
theorem dX11_calm_4 : decode cX11_calm 4 = .ok (.iload_n 1, 1) := by decide +kernel
theorem dX11_calm_5 : decode cX11_calm 5 = .ok (.invokevirtual 133, 3) := by decide +kernel
theorem dX11_calm_8 : decode cX11_calm 8 = .ok (.ifCond .eq 26, 3) := by decide +kernel
theorem dX11_calm_11 : decode cX11_calm 11 = .ok (.iload_n 2, 1) := by decide +kernel
theorem dX11_calm_12 : decode cX11_calm 12 = .ok (.iconst 1, 1) := by decide +kernel
theorem dX11_calm_13 : decode cX11_calm 13 = .ok (.bipush 20, 2) := by decide +kernel
theorem dX11_calm_15 : decode cX11_calm 15 = .ok (.invokestatic 166, 3) := by decide +kernel
theorem dX11_calm_18 : decode cX11_calm 18 = .ok (.ifCond .eq 16, 3) := by decide +kernel
theorem dX11_calm_21 : decode cX11_calm 21 = .ok (.aload_n 0, 1) := by decide +kernel
theorem dX11_calm_22 : decode cX11_calm 22 = .ok (.getfield 51, 3) := by decide +kernel
theorem dX11_calm_25 : decode cX11_calm 25 = .ok (.getfield 137, 3) := by decide +kernel
theorem dX11_calm_28 : decode cX11_calm 28 = .ok (.iload_n 1, 1) := by decide +kernel
theorem dX11_calm_29 : decode cX11_calm 29 = .ok (.iaload, 1) := by decide +kernel
theorem dX11_calm_30 : decode cX11_calm 30 = .ok (.iload_n 2, 1) := by decide +kernel
theorem dX11_calm_31 : decode cX11_calm 31 = .ok (.if_icmp .ge 5, 3) := by decide +kernel
theorem dX11_calm_34 : decode cX11_calm 34 = .ok (.iconst (-1), 1) := by decide +kernel
theorem dX11_calm_35 : decode cX11_calm 35 = .ok (.ireturn, 1) := by decide +kernel
theorem dX11_calm_36 : decode cX11_calm 36 = .ok (.aload_n 0, 1) := by decide +kernel
theorem dX11_calm_37 : decode cX11_calm 37 = .ok (.getfield 57, 3) := by decide +kernel
theorem dX11_calm_40 : decode cX11_calm 40 = .ok (.aload_n 0, 1) := by decide +kernel
theorem dX11_calm_41 : decode cX11_calm 41 = .ok (.getfield 51, 3) := by decide +kernel
theorem dX11_calm_44 : decode cX11_calm 44 = .ok (.invokevirtual 182, 3) := by decide +kernel
theorem dX11_calm_47 : decode cX11_calm 47 = .ok (.aload_n 0, 1) := by decide +kernel
theorem dX11_calm_48 : decode cX11_calm 48 = .ok (.getfield 51, 3) := by decide +kernel
theorem dX11_calm_51 : decode cX11_calm 51 = .ok (.getfield 137, 3) := by decide +kernel
theorem dX11_calm_54 : decode cX11_calm 54 = .ok (.iload_n 1, 1) := by decide +kernel
theorem dX11_calm_55 : decode cX11_calm 55 = .ok (.dup2, 1) := by decide +kernel
theorem dX11_calm_56 : decode cX11_calm 56 = .ok (.iaload, 1) := by decide +kernel
theorem dX11_calm_57 : decode cX11_calm 57 = .ok (.iload_n 2, 1) := by decide +kernel
theorem dX11_calm_58 : decode cX11_calm 58 = .ok (.isub, 1) := by decide +kernel
theorem dX11_calm_59 : decode cX11_calm 59 = .ok (.iastore, 1) := by decide +kernel
theorem dX11_calm_60 : decode cX11_calm 60 = .ok (.aload_n 0, 1) := by decide +kernel
theorem dX11_calm_61 : decode cX11_calm 61 = .ok (.getfield 51, 3) := by decide +kernel
theorem dX11_calm_64 : decode cX11_calm 64 = .ok (.getfield 137, 3) := by decide +kernel
theorem dX11_calm_67 : decode cX11_calm 67 = .ok (.iload_n 1, 1) := by decide +kernel
theorem dX11_calm_68 : decode cX11_calm 68 = .ok (.iaload, 1) := by decide +kernel
theorem dX11_calm_69 : decode cX11_calm 69 = .ok (.ireturn, 1) := by decide +kernel
theorem dX11_change_0 : decode cX11_change 0 = .ok (.aload_n 0, 1) := by decide +kernel
theorem dX11_change_1 : decode cX11_change 1 = .ok (.getfield 51, 3) := by decide +kernel
theorem dX11_change_4 : decode cX11_change 4 = .ok (.iload_n 1, 1) := by decide +kernel
theorem dX11_change_5 : decode cX11_change 5 = .ok (.invokevirtual 163, 3) := by decide +kernel
theorem dX11_change_8 : decode cX11_change 8 = .ok (.ifCond .eq 26, 3) := by decide +kernel
theorem dX11_change_11 : decode cX11_change 11 = .ok (.iload_n 2, 1) := by decide +kernel
theorem dX11_change_12 : decode cX11_change 12 = .ok (.iconst 0, 1) := by decide +kernel
theorem dX11_change_13 : decode cX11_change 13 = .ok (.bipush 9, 2) := by decide +kernel
theorem dX11_change_15 : decode cX11_change 15 = .ok (.invokestatic 166, 3) := by decide +kernel
theorem dX11_change_18 : decode cX11_change 18 = .ok (.ifCond .eq 16, 3) := by decide +kernel
theorem dX11_change_21 : decode cX11_change 21 = .ok (.aload_n 0, 1) := by decide +kernel
theorem dX11_change_22 : decode cX11_change 22 = .ok (.getfield 51, 3) := by decide +kernel
theorem dX11_change_25 : decode cX11_change 25 = .ok (.getfield 170, 3) := by decide +kernel
theorem dX11_change_28 : decode cX11_change 28 = .ok (.iload_n 1, 1) := by decide +kernel
theorem dX11_change_29 : decode cX11_change 29 = .ok (.iaload, 1) := by decide +kernel
theorem dX11_change_30 : decode cX11_change 30 = .ok (.iload_n 2, 1) := by decide +kernel
theorem dX11_change_31 : decode cX11_change 31 = .ok (.if_icmp .ne 5, 3) := by decide +kernel
theorem dX11_change_34 : decode cX11_change 34 = .ok (.iconst (-1), 1) := by decide +kernel
theorem dX11_change_35 : decode cX11_change 35 = .ok (.ireturn, 1) := by decide +kernel
theorem dX11_change_36 : decode cX11_change 36 = .ok (.aload_n 0, 1) := by decide +kernel
theorem dX11_change_37 : decode cX11_change 37 = .ok (.getfield 57, 3) := by decide +kernel
theorem dX11_change_40 : decode cX11_change 40 = .ok (.aload_n 0, 1) := by decide +kernel
theorem dX11_change_41 : decode cX11_change 41 = .ok (.getfield 51, 3) := by decide +kernel
theorem dX11_change_44 : decode cX11_change 44 = .ok (.invokevirtual 182, 3) := by decide +kernel
theorem dX11_change_47 : decode cX11_change 47 = .ok (.aload_n 0, 1) := by decide +kernel
theorem dX11_change_48 : decode cX11_change 48 = .ok (.getfield 51, 3) := by decide +kernel
theorem dX11_change_51 : decode cX11_change 51 = .ok (.getfield 170, 3) := by decide +kernel
theorem dX11_change_54 : decode cX11_change 54 = .ok (.iload_n 1, 1) := by decide +kernel
theorem dX11_change_55 : decode cX11_change 55 = .ok (.iaload, 1) := by decide +kernel
theorem dX11_change_56 : decode cX11_change 56 = .ok (.istore_n 3, 1) := by decide +kernel
theorem dX11_change_57 : decode cX11_change 57 = .ok (.aload_n 0, 1) := by decide +kernel
theorem dX11_change_58 : decode cX11_change 58 = .ok (.getfield 51, 3) := by decide +kernel
theorem dX11_change_61 : decode cX11_change 61 = .ok (.getfield 170, 3) := by decide +kernel
theorem dX11_change_64 : decode cX11_change 64 = .ok (.iload_n 1, 1) := by decide +kernel
theorem dX11_change_65 : decode cX11_change 65 = .ok (.iload_n 2, 1) := by decide +kernel
theorem dX11_change_66 : decode cX11_change 66 = .ok (.iastore, 1) := by decide +kernel
theorem dX11_change_67 : decode cX11_change 67 = .ok (.iload_n 3, 1) := by decide +kernel
theorem dX11_change_68 : decode cX11_change 68 = .ok (.ireturn, 1) := by decide +kernel
theorem dX11_count_0 : decode cX11_count 0 = .ok (.iload_n 1, 1) := by decide +kernel
theorem dX11_count_1 : decode cX11_count 1 = .ok (.tableswitch 221 0 15 #[79, 87, 95, 103, 108, 116, 124, 139, 147, 162, 170, 178, 186, 197, 205, 213], 79) := by decide +kernel
theorem dX11_count_80 : decode cX11_count 80 = .ok (.aload_n 0, 1) := by decide +kernel
theorem dX11_count_81 : decode cX11_count 81 = .ok (.getfield 51, 3) := by decide +kernel
theorem dX11_count_84 : decode cX11_count 84 = .ok (.getfield 282, 3) := by decide +kernel
theorem dX11_count_87 : decode cX11_count 87 = .ok (.ireturn, 1) := by decide +kernel
theorem dX11_count_88 : decode cX11_count 88 = .ok (.aload_n 0, 1) := by decide +kernel
theorem dX11_count_89 : decode cX11_count 89 = .ok (.getfield 51, 3) := by decide +kernel
theorem dX11_count_92 : decode cX11_count 92 = .ok (.getfield 285, 3) := by decide +kernel
theorem dX11_count_95 : decode cX11_count 95 = .ok (.ireturn, 1) := by decide +kernel
theorem dX11_count_96 : decode cX11_count 96 = .ok (.aload_n 0, 1) := by decide +kernel
theorem dX11_count_97 : decode cX11_count 97 = .ok (.getfield 51, 3) := by decide +kernel
theorem dX11_count_100 : decode cX11_count 100 = .ok (.getfield 121, 3) := by decide +kernel
theorem dX11_count_103 : decode cX11_count 103 = .ok (.ireturn, 1) := by decide +kernel
theorem dX11_count_104 : decode cX11_count 104 = .ok (.aload_n 0, 1) := by decide +kernel
theorem dX11_count_105 : decode cX11_count 105 = .ok (.getfield 36, 3) := by decide +kernel
theorem dX11_count_108 : decode cX11_count 108 = .ok (.ireturn, 1) := by decide +kernel
theorem dX11_count_109 : decode cX11_count 109 = .ok (.aload_n 0, 1) := by decide +kernel
theorem dX11_count_110 : decode cX11_count 110 = .ok (.getfield 43, 3) := by decide +kernel
theorem dX11_count_113 : decode cX11_count 113 = .ok (.getfield 130, 3) := by decide +kernel
theorem dX11_count_116 : decode cX11_count 116 = .ok (.ireturn, 1) := by decide +kernel
theorem dX11_count_117 : decode cX11_count 117 = .ok (.aload_n 0, 1) := by decide +kernel
theorem dX11_count_118 : decode cX11_count 118 = .ok (.getfield 51, 3) := by decide +kernel
theorem dX11_count_121 : decode cX11_count 121 = .ok (.getfield 179, 3) := by decide +kernel
theorem dX11_count_124 : decode cX11_count 124 = .ok (.ireturn, 1) := by decide +kernel
theorem dX11_count_125 : decode cX11_count 125 = .ok (.aload_n 0, 1) := by decide +kernel
theorem dX11_count_126 : decode cX11_count 126 = .ok (.getfield 51, 3) := by decide +kernel
theorem dX11_count_129 : decode cX11_count 129 = .ok (.aload_n 0, 1) := by decide +kernel
theorem dX11_count_130 : decode cX11_count 130 = .ok (.getfield 51, 3) := by decide +kernel
theorem dX11_count_133 : decode cX11_count 133 = .ok (.getfield 179, 3) := by decide +kernel
theorem dX11_count_136 : decode cX11_count 136 = .ok (.invokevirtual 288, 3) := by decide +kernel
theorem dX11_count_139 : decode cX11_count 139 = .ok (.ireturn, 1) := by decide +kernel
theorem dX11_count_140 : decode cX11_count 140 = .ok (.aload_n 0, 1) := by decide +kernel
theorem dX11_count_141 : decode cX11_count 141 = .ok (.getfield 51, 3) := by decide +kernel
theorem dX11_count_144 : decode cX11_count 144 = .ok (.getfield 193, 3) := by decide +kernel
theorem dX11_count_147 : decode cX11_count 147 = .ok (.ireturn, 1) := by decide +kernel
theorem dX11_count_148 : decode cX11_count 148 = .ok (.aload_n 0, 1) := by decide +kernel
theorem dX11_count_149 : decode cX11_count 149 = .ok (.getfield 51, 3) := by decide +kernel
theorem dX11_count_152 : decode cX11_count 152 = .ok (.aload_n 0, 1) := by decide +kernel
theorem dX11_count_153 : decode cX11_count 153 = .ok (.getfield 51, 3) := by decide +kernel
theorem dX11_count_156 : decode cX11_count 156 = .ok (.getfield 179, 3) := by decide +kernel
theorem dX11_count_159 : decode cX11_count 159 = .ok (.invokevirtual 291, 3) := by decide +kernel
theorem dX11_count_162 : decode cX11_count 162 = .ok (.ireturn, 1) := by decide +kernel
theorem dX11_count_163 : decode cX11_count 163 = .ok (.aload_n 0, 1) := by decide +kernel
theorem dX11_count_164 : decode cX11_count 164 = .ok (.getfield 51, 3) := by decide +kernel
theorem dX11_count_167 : decode cX11_count 167 = .ok (.getfield 294, 3) := by decide +kernel
theorem dX11_count_170 : decode cX11_count 170 = .ok (.ireturn, 1) := by decide +kernel
theorem dX11_count_171 : decode cX11_count 171 = .ok (.aload_n 0, 1) := by decide +kernel
theorem dX11_count_172 : decode cX11_count 172 = .ok (.getfield 51, 3) := by decide +kernel
theorem dX11_count_175 : decode cX11_count 175 = .ok (.invokevirtual 297, 3) := by decide +kernel
theorem dX11_count_178 : decode cX11_count 178 = .ok (.ireturn, 1) := by decide +kernel
theorem dX11_count_179 : decode cX11_count 179 = .ok (.aload_n 0, 1) := by decide +kernel
theorem dX11_count_180 : decode cX11_count 180 = .ok (.getfield 51, 3) := by decide +kernel
theorem dX11_count_183 : decode cX11_count 183 = .ok (.invokevirtual 300, 3) := by decide +kernel
theorem dX11_count_186 : decode cX11_count 186 = .ok (.ireturn, 1) := by decide +kernel
theorem dX11_count_187 : decode cX11_count 187 = .ok (.aload_n 0, 1) := by decide +kernel
theorem dX11_count_188 : decode cX11_count 188 = .ok (.getfield 43, 3) := by decide +kernel
theorem dX11_count_191 : decode cX11_count 191 = .ok (.getfield 111, 3) := by decide +kernel
theorem dX11_count_194 : decode cX11_count 194 = .ok (.getfield 115, 3) := by decide +kernel
theorem dX11_count_197 : decode cX11_count 197 = .ok (.ireturn, 1) := by decide +kernel
theorem dX11_count_198 : decode cX11_count 198 = .ok (.aload_n 0, 1) := by decide +kernel
theorem dX11_count_199 : decode cX11_count 199 = .ok (.getfield 57, 3) := by decide +kernel
theorem dX11_count_202 : decode cX11_count 202 = .ok (.getfield 120, 3) := by decide +kernel
theorem dX11_count_205 : decode cX11_count 205 = .ok (.ireturn, 1) := by decide +kernel
theorem dX11_count_206 : decode cX11_count 206 = .ok (.aload_n 0, 1) := by decide +kernel
theorem dX11_count_207 : decode cX11_count 207 = .ok (.getfield 43, 3) := by decide +kernel
theorem dX11_count_210 : decode cX11_count 210 = .ok (.getfield 272, 3) := by decide +kernel
theorem dX11_count_213 : decode cX11_count 213 = .ok (.ireturn, 1) := by decide +kernel
theorem dX11_count_214 : decode cX11_count 214 = .ok (.aload_n 0, 1) := by decide +kernel
theorem dX11_count_215 : decode cX11_count 215 = .ok (.getfield 10, 3) := by decide +kernel
theorem dX11_count_218 : decode cX11_count 218 = .ok (.getfield 94, 3) := by decide +kernel
theorem dX11_count_221 : decode cX11_count 221 = .ok (.ireturn, 1) := by decide +kernel
theorem dX11_count_222 : decode cX11_count 222 = .ok (.iconst (-1), 1) := by decide +kernel
theorem dX11_count_223 : decode cX11_count 223 = .ok (.ireturn, 1) := by decide +kernel
theorem dX11_day_0 : decode cX11_day 0 = .ok (.aload_n 0, 1) := by decide +kernel
theorem dX11_day_1 : decode cX11_day 1 = .ok (.getfield 51, 3) := by decide +kernel
theorem dX11_day_4 : decode cX11_day 4 = .ok (.invokevirtual 176, 3) := by decide +kernel
theorem dX11_day_7 : decode cX11_day 7 = .ok (.ifCond .eq 16, 3) := by decide +kernel
theorem dX11_day_10 : decode cX11_day 10 = .ok (.aload_n 0, 1) := by decide +kernel
theorem dX11_day_11 : decode cX11_day 11 = .ok (.getfield 51, 3) := by decide +kernel
theorem dX11_day_14 : decode cX11_day 14 = .ok (.getfield 179, 3) := by decide +kernel
theorem dX11_day_17 : decode cX11_day 17 = .ok (.sipush 999, 3) := by decide +kernel
theorem dX11_day_20 : decode cX11_day 20 = .ok (.if_icmp .lt 5, 3) := by decide +kernel
theorem dX11_day_23 : decode cX11_day 23 = .ok (.iconst (-1), 1) := by decide +kernel
theorem dX11_day_24 : decode cX11_day 24 = .ok (.ireturn, 1) := by decide +kernel
theorem dX11_day_25 : decode cX11_day 25 = .ok (.aload_n 0, 1) := by decide +kernel
theorem dX11_day_26 : decode cX11_day 26 = .ok (.getfield 57, 3) := by decide +kernel
theorem dX11_day_29 : decode cX11_day 29 = .ok (.aload_n 0, 1) := by decide +kernel
theorem dX11_day_30 : decode cX11_day 30 = .ok (.getfield 51, 3) := by decide +kernel
theorem dX11_day_33 : decode cX11_day 33 = .ok (.invokevirtual 182, 3) := by decide +kernel
theorem dX11_day_36 : decode cX11_day 36 = .ok (.aload_n 0, 1) := by decide +kernel
theorem dX11_day_37 : decode cX11_day 37 = .ok (.getfield 51, 3) := by decide +kernel
theorem dX11_day_40 : decode cX11_day 40 = .ok (.aload_n 0, 1) := by decide +kernel
theorem dX11_day_41 : decode cX11_day 41 = .ok (.invokevirtual 185, 3) := by decide +kernel
theorem dX11_day_44 : decode cX11_day 44 = .ok (.invokevirtual 189, 3) := by decide +kernel
theorem dX11_day_47 : decode cX11_day 47 = .ok (.ireturn, 1) := by decide +kernel
theorem dX11_end_0 : decode cX11_end 0 = .ok (.iload_n 1, 1) := by decide +kernel
theorem dX11_end_1 : decode cX11_end 1 = .ok (.ifCond .lt 14, 3) := by decide +kernel
theorem dX11_end_4 : decode cX11_end 4 = .ok (.iload_n 1, 1) := by decide +kernel
theorem dX11_end_5 : decode cX11_end 5 = .ok (.aload_n 0, 1) := by decide +kernel
theorem dX11_end_6 : decode cX11_end 6 = .ok (.getfield 10, 3) := by decide +kernel
theorem dX11_end_9 : decode cX11_end 9 = .ok (.getfield 94, 3) := by decide +kernel
theorem dX11_end_12 : decode cX11_end 12 = .ok (.if_icmp .le 5, 3) := by decide +kernel
theorem dX11_end_15 : decode cX11_end 15 = .ok (.iconst (-1), 1) := by decide +kernel
theorem dX11_end_16 : decode cX11_end 16 = .ok (.ireturn, 1) := by decide +kernel
theorem dX11_end_17 : decode cX11_end 17 = .ok (.aload_n 0, 1) := by decide +kernel
theorem dX11_end_18 : decode cX11_end 18 = .ok (.getfield 10, 3) := by decide +kernel
theorem dX11_end_21 : decode cX11_end 21 = .ok (.iload_n 1, 1) := by decide +kernel
theorem dX11_end_22 : decode cX11_end 22 = .ok (.putfield 94, 3) := by decide +kernel
theorem dX11_end_25 : decode cX11_end 25 = .ok (.iload_n 1, 1) := by decide +kernel
theorem dX11_end_26 : decode cX11_end 26 = .ok (.ireturn, 1) := by decide +kernel
theorem dX11_feed_0 : decode cX11_feed 0 = .ok (.aload_n 0, 1) := by decide +kernel
theorem dX11_feed_1 : decode cX11_feed 1 = .ok (.getfield 10, 3) := by decide +kernel
theorem dX11_feed_4 : decode cX11_feed 4 = .ok (.invokevirtual 86, 3) := by decide +kernel
theorem dX11_feed_7 : decode cX11_feed 7 = .ok (.ifCond .ne 5, 3) := by decide +kernel
theorem dX11_feed_10 : decode cX11_feed 10 = .ok (.iconst (-1), 1) := by decide +kernel
theorem dX11_feed_11 : decode cX11_feed 11 = .ok (.ireturn, 1) := by decide +kernel
theorem dX11_feed_12 : decode cX11_feed 12 = .ok (.aload_n 0, 1) := by decide +kernel
theorem dX11_feed_13 : decode cX11_feed 13 = .ok (.getfield 10, 3) := by decide +kernel
theorem dX11_feed_16 : decode cX11_feed 16 = .ok (.iload_n 1, 1) := by decide +kernel
theorem dX11_feed_17 : decode cX11_feed 17 = .ok (.invokevirtual 90, 3) := by decide +kernel
theorem dX11_feed_20 : decode cX11_feed 20 = .ok (.aload_n 0, 1) := by decide +kernel
theorem dX11_feed_21 : decode cX11_feed 21 = .ok (.getfield 10, 3) := by decide +kernel
theorem dX11_feed_24 : decode cX11_feed 24 = .ok (.iload_n 2, 1) := by decide +kernel
theorem dX11_feed_25 : decode cX11_feed 25 = .ok (.invokevirtual 90, 3) := by decide +kernel
theorem dX11_feed_28 : decode cX11_feed 28 = .ok (.aload_n 0, 1) := by decide +kernel
theorem dX11_feed_29 : decode cX11_feed 29 = .ok (.getfield 10, 3) := by decide +kernel
theorem dX11_feed_32 : decode cX11_feed 32 = .ok (.iload_n 3, 1) := by decide +kernel
theorem dX11_feed_33 : decode cX11_feed 33 = .ok (.invokevirtual 90, 3) := by decide +kernel
theorem dX11_feed_36 : decode cX11_feed 36 = .ok (.aload_n 0, 1) := by decide +kernel
theorem dX11_feed_37 : decode cX11_feed 37 = .ok (.getfield 10, 3) := by decide +kernel
theorem dX11_feed_40 : decode cX11_feed 40 = .ok (.iload 4, 2) := by decide +kernel
theorem dX11_feed_42 : decode cX11_feed 42 = .ok (.invokevirtual 90, 3) := by decide +kernel
theorem dX11_feed_45 : decode cX11_feed 45 = .ok (.aload_n 0, 1) := by decide +kernel
theorem dX11_feed_46 : decode cX11_feed 46 = .ok (.getfield 10, 3) := by decide +kernel
theorem dX11_feed_49 : decode cX11_feed 49 = .ok (.iload 5, 2) := by decide +kernel
theorem dX11_feed_51 : decode cX11_feed 51 = .ok (.invokevirtual 90, 3) := by decide +kernel
theorem dX11_feed_54 : decode cX11_feed 54 = .ok (.aload_n 0, 1) := by decide +kernel
theorem dX11_feed_55 : decode cX11_feed 55 = .ok (.getfield 10, 3) := by decide +kernel
theorem dX11_feed_58 : decode cX11_feed 58 = .ok (.getfield 94, 3) := by decide +kernel
theorem dX11_feed_61 : decode cX11_feed 61 = .ok (.ireturn, 1) := by decide +kernel
theorem dX11_fines_0 : decode cX11_fines 0 = .ok (.iload_n 1, 1) := by decide +kernel
theorem dX11_fines_1 : decode cX11_fines 1 = .ok (.iconst 0, 1) := by decide +kernel
theorem dX11_fines_2 : decode cX11_fines 2 = .ok (.sipush 9999, 3) := by decide +kernel
theorem dX11_fines_5 : decode cX11_fines 5 = .ok (.invokestatic 166, 3) := by decide +kernel
theorem dX11_fines_8 : decode cX11_fines 8 = .ok (.ifCond .eq 14, 3) := by decide +kernel
theorem dX11_fines_11 : decode cX11_fines 11 = .ok (.aload_n 0, 1) := by decide +kernel
theorem dX11_fines_12 : decode cX11_fines 12 = .ok (.getfield 51, 3) := by decide +kernel
theorem dX11_fines_15 : decode cX11_fines 15 = .ok (.iload_n 2, 1) := by decide +kernel
theorem dX11_fines_16 : decode cX11_fines 16 = .ok (.invokevirtual 133, 3) := by decide +kernel
theorem dX11_fines_19 : decode cX11_fines 19 = .ok (.ifCond .ne 5, 3) := by decide +kernel
theorem dX11_fines_22 : decode cX11_fines 22 = .ok (.iconst (-1), 1) := by decide +kernel
theorem dX11_fines_23 : decode cX11_fines 23 = .ok (.ireturn, 1) := by decide +kernel
theorem dX11_fines_24 : decode cX11_fines 24 = .ok (.aload_n 0, 1) := by decide +kernel
theorem dX11_fines_25 : decode cX11_fines 25 = .ok (.getfield 51, 3) := by decide +kernel
theorem dX11_fines_28 : decode cX11_fines 28 = .ok (.iload_n 2, 1) := by decide +kernel
theorem dX11_fines_29 : decode cX11_fines 29 = .ok (.iload_n 1, 1) := by decide +kernel
theorem dX11_fines_30 : decode cX11_fines 30 = .ok (.invokevirtual 240, 3) := by decide +kernel
theorem dX11_fines_33 : decode cX11_fines 33 = .ok (.ireturn, 1) := by decide +kernel
theorem dX11_force_0 : decode cX11_force 0 = .ok (.iload_n 1, 1) := by decide +kernel
theorem dX11_force_1 : decode cX11_force 1 = .ok (.iconst (-1), 1) := by decide +kernel
theorem dX11_force_2 : decode cX11_force 2 = .ok (.if_icmp .lt 11, 3) := by decide +kernel
theorem dX11_force_5 : decode cX11_force 5 = .ok (.iload_n 1, 1) := by decide +kernel
theorem dX11_force_6 : decode cX11_force 6 = .ok (.aload_n 0, 1) := by decide +kernel
theorem dX11_force_7 : decode cX11_force 7 = .ok (.getfield 36, 3) := by decide +kernel
theorem dX11_force_10 : decode cX11_force 10 = .ok (.if_icmp .lt 6, 3) := by decide +kernel
theorem dX11_force_13 : decode cX11_force 13 = .ok (.bipush (-2), 2) := by decide +kernel
theorem dX11_force_15 : decode cX11_force 15 = .ok (.ireturn, 1) := by decide +kernel
theorem dX11_force_16 : decode cX11_force 16 = .ok (.aload_n 0, 1) := by decide +kernel
theorem dX11_force_17 : decode cX11_force 17 = .ok (.getfield 43, 3) := by decide +kernel
theorem dX11_force_20 : decode cX11_force 20 = .ok (.getfield 130, 3) := by decide +kernel
theorem dX11_force_23 : decode cX11_force 23 = .ok (.istore_n 2, 1) := by decide +kernel
theorem dX11_force_24 : decode cX11_force 24 = .ok (.aload_n 0, 1) := by decide +kernel
theorem dX11_force_25 : decode cX11_force 25 = .ok (.getfield 43, 3) := by decide +kernel
theorem dX11_force_28 : decode cX11_force 28 = .ok (.iload_n 1, 1) := by decide +kernel
theorem dX11_force_29 : decode cX11_force 29 = .ok (.putfield 130, 3) := by decide +kernel
theorem dX11_force_32 : decode cX11_force 32 = .ok (.iload_n 2, 1) := by decide +kernel
theorem dX11_force_33 : decode cX11_force 33 = .ok (.ireturn, 1) := by decide +kernel
theorem dX11_isWithin_0 : decode cX11_isWithin 0 = .ok (.iload_n 0, 1) := by decide +kernel
theorem dX11_isWithin_1 : decode cX11_isWithin 1 = .ok (.iload_n 1, 1) := by decide +kernel
theorem dX11_isWithin_2 : decode cX11_isWithin 2 = .ok (.if_icmp .lt 12, 3) := by decide +kernel
theorem dX11_isWithin_5 : decode cX11_isWithin 5 = .ok (.iload_n 0, 1) := by decide +kernel
theorem dX11_isWithin_6 : decode cX11_isWithin 6 = .ok (.iload_n 2, 1) := by decide +kernel
theorem dX11_isWithin_7 : decode cX11_isWithin 7 = .ok (.if_icmp .gt 7, 3) := by decide +kernel
theorem dX11_isWithin_10 : decode cX11_isWithin 10 = .ok (.iconst 1, 1) := by decide +kernel
theorem dX11_isWithin_11 : decode cX11_isWithin 11 = .ok (.goto 4, 3) := by decide +kernel
theorem dX11_isWithin_14 : decode cX11_isWithin 14 = .ok (.iconst 0, 1) := by decide +kernel
theorem dX11_isWithin_15 : decode cX11_isWithin 15 = .ok (.ireturn, 1) := by decide +kernel
theorem dX11_note_0 : decode cX11_note 0 = .ok (.iload_n 1, 1) := by decide +kernel
theorem dX11_note_1 : decode cX11_note 1 = .ok (.iconst (-1), 1) := by decide +kernel
theorem dX11_note_2 : decode cX11_note 2 = .ok (.if_icmp .ne 16, 3) := by decide +kernel
theorem dX11_note_5 : decode cX11_note 5 = .ok (.aload_n 0, 1) := by decide +kernel
theorem dX11_note_6 : decode cX11_note 6 = .ok (.getfield 43, 3) := by decide +kernel
theorem dX11_note_9 : decode cX11_note 9 = .ok (.getfield 111, 3) := by decide +kernel
theorem dX11_note_12 : decode cX11_note 12 = .ok (.iconst 0, 1) := by decide +kernel
theorem dX11_note_13 : decode cX11_note 13 = .ok (.putfield 115, 3) := by decide +kernel
theorem dX11_note_16 : decode cX11_note 16 = .ok (.iconst 0, 1) := by decide +kernel
theorem dX11_note_17 : decode cX11_note 17 = .ok (.ireturn, 1) := by decide +kernel
theorem dX11_note_18 : decode cX11_note 18 = .ok (.iload_n 1, 1) := by decide +kernel
theorem dX11_note_19 : decode cX11_note 19 = .ok (.iconst 0, 1) := by decide +kernel
theorem dX11_note_20 : decode cX11_note 20 = .ok (.bipush 60, 2) := by decide +kernel
theorem dX11_note_22 : decode cX11_note 22 = .ok (.invokestatic 166, 3) := by decide +kernel
theorem dX11_note_25 : decode cX11_note 25 = .ok (.ifCond .eq 23, 3) := by decide +kernel
theorem dX11_note_28 : decode cX11_note 28 = .ok (.aload_n 0, 1) := by decide +kernel
theorem dX11_note_29 : decode cX11_note 29 = .ok (.getfield 51, 3) := by decide +kernel
theorem dX11_note_32 : decode cX11_note 32 = .ok (.iload_n 2, 1) := by decide +kernel
theorem dX11_note_33 : decode cX11_note 33 = .ok (.invokevirtual 133, 3) := by decide +kernel
theorem dX11_note_36 : decode cX11_note 36 = .ok (.ifCond .eq 12, 3) := by decide +kernel
theorem dX11_note_39 : decode cX11_note 39 = .ok (.iload_n 3, 1) := by decide +kernel
theorem dX11_note_40 : decode cX11_note 40 = .ok (.iconst 0, 1) := by decide +kernel
theorem dX11_note_41 : decode cX11_note 41 = .ok (.iconst 1, 1) := by decide +kernel
theorem dX11_note_42 : decode cX11_note 42 = .ok (.invokestatic 166, 3) := by decide +kernel
theorem dX11_note_45 : decode cX11_note 45 = .ok (.ifCond .ne 6, 3) := by decide +kernel
theorem dX11_note_48 : decode cX11_note 48 = .ok (.bipush (-2), 2) := by decide +kernel
theorem dX11_note_50 : decode cX11_note 50 = .ok (.ireturn, 1) := by decide +kernel
theorem dX11_note_51 : decode cX11_note 51 = .ok (.aload_n 0, 1) := by decide +kernel
theorem dX11_note_52 : decode cX11_note 52 = .ok (.getfield 43, 3) := by decide +kernel
theorem dX11_note_55 : decode cX11_note 55 = .ok (.getfield 111, 3) := by decide +kernel
theorem dX11_note_58 : decode cX11_note 58 = .ok (.iload_n 1, 1) := by decide +kernel
theorem dX11_note_59 : decode cX11_note 59 = .ok (.iload_n 2, 1) := by decide +kernel
theorem dX11_note_60 : decode cX11_note 60 = .ok (.iload_n 3, 1) := by decide +kernel
theorem dX11_note_61 : decode cX11_note 61 = .ok (.invokevirtual 256, 3) := by decide +kernel
theorem dX11_note_64 : decode cX11_note 64 = .ok (.ifCond .eq 16, 3) := by decide +kernel
theorem dX11_note_67 : decode cX11_note 67 = .ok (.aload_n 0, 1) := by decide +kernel
theorem dX11_note_68 : decode cX11_note 68 = .ok (.getfield 43, 3) := by decide +kernel
theorem dX11_note_71 : decode cX11_note 71 = .ok (.getfield 111, 3) := by decide +kernel
theorem dX11_note_74 : decode cX11_note 74 = .ok (.getfield 115, 3) := by decide +kernel
theorem dX11_note_77 : decode cX11_note 77 = .ok (.goto 5, 3) := by decide +kernel
theorem dX11_note_80 : decode cX11_note 80 = .ok (.bipush (-2), 2) := by decide +kernel
theorem dX11_note_82 : decode cX11_note 82 = .ok (.ireturn, 1) := by decide +kernel
theorem dX11_rule_0 : decode cX11_rule 0 = .ok (.aload_n 0, 1) := by decide +kernel
theorem dX11_rule_1 : decode cX11_rule 1 = .ok (.getfield 36, 3) := by decide +kernel
theorem dX11_rule_4 : decode cX11_rule 4 = .ok (.ifCond .lt 15, 3) := by decide +kernel
theorem dX11_rule_7 : decode cX11_rule 7 = .ok (.aload_n 0, 1) := by decide +kernel
theorem dX11_rule_8 : decode cX11_rule 8 = .ok (.getfield 36, 3) := by decide +kernel
theorem dX11_rule_11 : decode cX11_rule 11 = .ok (.aload_n 0, 1) := by decide +kernel
theorem dX11_rule_12 : decode cX11_rule 12 = .ok (.getfield 32, 3) := by decide +kernel
theorem dX11_rule_15 : decode cX11_rule 15 = .ok (.arraylength, 1) := by decide +kernel
theorem dX11_rule_16 : decode cX11_rule 16 = .ok (.if_icmp .lt 5, 3) := by decide +kernel
theorem dX11_rule_19 : decode cX11_rule 19 = .ok (.iconst (-1), 1) := by decide +kernel
theorem dX11_rule_20 : decode cX11_rule 20 = .ok (.ireturn, 1) := by decide +kernel
theorem dX11_rule_21 : decode cX11_rule 21 = .ok (.aload_n 0, 1) := by decide +kernel
theorem dX11_rule_22 : decode cX11_rule 22 = .ok (.getfield 26, 3) := by decide +kernel
theorem dX11_rule_25 : decode cX11_rule 25 = .ok (.aload_n 0, 1) := by decide +kernel
theorem dX11_rule_26 : decode cX11_rule 26 = .ok (.getfield 10, 3) := by decide +kernel
theorem dX11_rule_29 : decode cX11_rule 29 = .ok (.invokevirtual 124, 3) := by decide +kernel
theorem dX11_rule_32 : decode cX11_rule 32 = .ok (.astore_n 1, 1) := by decide +kernel
theorem dX11_rule_33 : decode cX11_rule 33 = .ok (.aload_n 0, 1) := by decide +kernel
theorem dX11_rule_34 : decode cX11_rule 34 = .ok (.getfield 10, 3) := by decide +kernel
theorem dX11_rule_37 : decode cX11_rule 37 = .ok (.iconst 0, 1) := by decide +kernel
theorem dX11_rule_38 : decode cX11_rule 38 = .ok (.putfield 94, 3) := by decide +kernel
theorem dX11_rule_41 : decode cX11_rule 41 = .ok (.aload_n 1, 1) := by decide +kernel
theorem dX11_rule_42 : decode cX11_rule 42 = .ok (.ifnonnull 14, 3) := by decide +kernel
theorem dX11_rule_45 : decode cX11_rule 45 = .ok (.bipush (-2), 2) := by decide +kernel
theorem dX11_rule_47 : decode cX11_rule 47 = .ok (.aload_n 0, 1) := by decide +kernel
theorem dX11_rule_48 : decode cX11_rule 48 = .ok (.getfield 10, 3) := by decide +kernel
theorem dX11_rule_51 : decode cX11_rule 51 = .ok (.getfield 127, 3) := by decide +kernel
theorem dX11_rule_54 : decode cX11_rule 54 = .ok (.isub, 1) := by decide +kernel
theorem dX11_rule_55 : decode cX11_rule 55 = .ok (.ireturn, 1) := by decide +kernel
theorem dX11_rule_56 : decode cX11_rule 56 = .ok (.aload_n 0, 1) := by decide +kernel
theorem dX11_rule_57 : decode cX11_rule 57 = .ok (.getfield 32, 3) := by decide +kernel
theorem dX11_rule_60 : decode cX11_rule 60 = .ok (.aload_n 0, 1) := by decide +kernel
theorem dX11_rule_61 : decode cX11_rule 61 = .ok (.getfield 36, 3) := by decide +kernel
theorem dX11_rule_64 : decode cX11_rule 64 = .ok (.aload_n 1, 1) := by decide +kernel
theorem dX11_rule_65 : decode cX11_rule 65 = .ok (.aastore, 1) := by decide +kernel
theorem dX11_rule_66 : decode cX11_rule 66 = .ok (.aload_n 0, 1) := by decide +kernel
theorem dX11_rule_67 : decode cX11_rule 67 = .ok (.dup, 1) := by decide +kernel
theorem dX11_rule_68 : decode cX11_rule 68 = .ok (.getfield 36, 3) := by decide +kernel
theorem dX11_rule_71 : decode cX11_rule 71 = .ok (.iconst 1, 1) := by decide +kernel
theorem dX11_rule_72 : decode cX11_rule 72 = .ok (.iadd, 1) := by decide +kernel
theorem dX11_rule_73 : decode cX11_rule 73 = .ok (.putfield 36, 3) := by decide +kernel
theorem dX11_rule_76 : decode cX11_rule 76 = .ok (.aload_n 0, 1) := by decide +kernel
theorem dX11_rule_77 : decode cX11_rule 77 = .ok (.getfield 36, 3) := by decide +kernel
theorem dX11_rule_80 : decode cX11_rule 80 = .ok (.iconst 1, 1) := by decide +kernel
theorem dX11_rule_81 : decode cX11_rule 81 = .ok (.isub, 1) := by decide +kernel
theorem dX11_rule_82 : decode cX11_rule 82 = .ok (.ireturn, 1) := by decide +kernel
theorem dX11_ruleInForce_0 : decode cX11_ruleInForce 0 = .ok (.aload_n 0, 1) := by decide +kernel
theorem dX11_ruleInForce_1 : decode cX11_ruleInForce 1 = .ok (.getfield 43, 3) := by decide +kernel
theorem dX11_ruleInForce_4 : decode cX11_ruleInForce 4 = .ok (.getfield 130, 3) := by decide +kernel
theorem dX11_ruleInForce_7 : decode cX11_ruleInForce 7 = .ok (.istore_n 1, 1) := by decide +kernel
theorem dX11_ruleInForce_8 : decode cX11_ruleInForce 8 = .ok (.iload_n 1, 1) := by decide +kernel
theorem dX11_ruleInForce_9 : decode cX11_ruleInForce 9 = .ok (.ifCond .lt 21, 3) := by decide +kernel
theorem dX11_ruleInForce_12 : decode cX11_ruleInForce 12 = .ok (.iload_n 1, 1) := by decide +kernel
theorem dX11_ruleInForce_13 : decode cX11_ruleInForce 13 = .ok (.aload_n 0, 1) := by decide +kernel
theorem dX11_ruleInForce_14 : decode cX11_ruleInForce 14 = .ok (.getfield 32, 3) := by decide +kernel
theorem dX11_ruleInForce_17 : decode cX11_ruleInForce 17 = .ok (.arraylength, 1) := by decide +kernel
theorem dX11_ruleInForce_18 : decode cX11_ruleInForce 18 = .ok (.if_icmp .ge 12, 3) := by decide +kernel
theorem dX11_ruleInForce_21 : decode cX11_ruleInForce 21 = .ok (.aload_n 0, 1) := by decide +kernel
theorem dX11_ruleInForce_22 : decode cX11_ruleInForce 22 = .ok (.getfield 32, 3) := by decide +kernel
theorem dX11_ruleInForce_25 : decode cX11_ruleInForce 25 = .ok (.iload_n 1, 1) := by decide +kernel
theorem dX11_ruleInForce_26 : decode cX11_ruleInForce 26 = .ok (.aaload, 1) := by decide +kernel
theorem dX11_ruleInForce_27 : decode cX11_ruleInForce 27 = .ok (.goto 4, 3) := by decide +kernel
theorem dX11_ruleInForce_30 : decode cX11_ruleInForce 30 = .ok (.aconst_null, 1) := by decide +kernel
theorem dX11_ruleInForce_31 : decode cX11_ruleInForce 31 = .ok (.areturn, 1) := by decide +kernel
theorem dX11_seed_0 : decode cX11_seed 0 = .ok (.iload_n 1, 1) := by decide +kernel
theorem dX11_seed_1 : decode cX11_seed 1 = .ok (.ifCond .ge 5, 3) := by decide +kernel
theorem dX11_seed_4 : decode cX11_seed 4 = .ok (.iconst (-1), 1) := by decide +kernel
theorem dX11_seed_5 : decode cX11_seed 5 = .ok (.ireturn, 1) := by decide +kernel
theorem dX11_seed_6 : decode cX11_seed 6 = .ok (.aload_n 0, 1) := by decide +kernel
theorem dX11_seed_7 : decode cX11_seed 7 = .ok (.getfield 43, 3) := by decide +kernel
theorem dX11_seed_10 : decode cX11_seed 10 = .ok (.getfield 272, 3) := by decide +kernel
theorem dX11_seed_13 : decode cX11_seed 13 = .ok (.istore_n 2, 1) := by decide +kernel
theorem dX11_seed_14 : decode cX11_seed 14 = .ok (.aload_n 0, 1) := by decide +kernel
theorem dX11_seed_15 : decode cX11_seed 15 = .ok (.getfield 43, 3) := by decide +kernel
theorem dX11_seed_18 : decode cX11_seed 18 = .ok (.iload_n 1, 1) := by decide +kernel
theorem dX11_seed_19 : decode cX11_seed 19 = .ok (.putfield 272, 3) := by decide +kernel
theorem dX11_seed_22 : decode cX11_seed 22 = .ok (.iload_n 2, 1) := by decide +kernel
theorem dX11_seed_23 : decode cX11_seed 23 = .ok (.ireturn, 1) := by decide +kernel
theorem dX11_sell_0 : decode cX11_sell 0 = .ok (.aload_n 0, 1) := by decide +kernel
theorem dX11_sell_1 : decode cX11_sell 1 = .ok (.getfield 51, 3) := by decide +kernel
theorem dX11_sell_4 : decode cX11_sell 4 = .ok (.iload_n 1, 1) := by decide +kernel
theorem dX11_sell_5 : decode cX11_sell 5 = .ok (.invokevirtual 133, 3) := by decide +kernel
theorem dX11_sell_8 : decode cX11_sell 8 = .ok (.ifCond .eq 22, 3) := by decide +kernel
theorem dX11_sell_11 : decode cX11_sell 11 = .ok (.aload_n 0, 1) := by decide +kernel
theorem dX11_sell_12 : decode cX11_sell 12 = .ok (.getfield 51, 3) := by decide +kernel
theorem dX11_sell_15 : decode cX11_sell 15 = .ok (.getfield 193, 3) := by decide +kernel
theorem dX11_sell_18 : decode cX11_sell 18 = .ok (.aload_n 0, 1) := by decide +kernel
theorem dX11_sell_19 : decode cX11_sell 19 = .ok (.getfield 51, 3) := by decide +kernel
theorem dX11_sell_22 : decode cX11_sell 22 = .ok (.getfield 141, 3) := by decide +kernel
theorem dX11_sell_25 : decode cX11_sell 25 = .ok (.iload_n 1, 1) := by decide +kernel
theorem dX11_sell_26 : decode cX11_sell 26 = .ok (.iaload, 1) := by decide +kernel
theorem dX11_sell_27 : decode cX11_sell 27 = .ok (.if_icmp .ge 5, 3) := by decide +kernel
theorem dX11_sell_30 : decode cX11_sell 30 = .ok (.iconst (-1), 1) := by decide +kernel
theorem dX11_sell_31 : decode cX11_sell 31 = .ok (.ireturn, 1) := by decide +kernel
theorem dX11_sell_32 : decode cX11_sell 32 = .ok (.aload_n 0, 1) := by decide +kernel
theorem dX11_sell_33 : decode cX11_sell 33 = .ok (.getfield 57, 3) := by decide +kernel
theorem dX11_sell_36 : decode cX11_sell 36 = .ok (.aload_n 0, 1) := by decide +kernel
theorem dX11_sell_37 : decode cX11_sell 37 = .ok (.getfield 51, 3) := by decide +kernel
theorem dX11_sell_40 : decode cX11_sell 40 = .ok (.invokevirtual 182, 3) := by decide +kernel
theorem dX11_sell_43 : decode cX11_sell 43 = .ok (.aload_n 0, 1) := by decide +kernel
theorem dX11_sell_44 : decode cX11_sell 44 = .ok (.getfield 51, 3) := by decide +kernel
theorem dX11_sell_47 : decode cX11_sell 47 = .ok (.iload_n 1, 1) := by decide +kernel
theorem dX11_sell_48 : decode cX11_sell 48 = .ok (.invokevirtual 196, 3) := by decide +kernel
theorem dX11_sell_51 : decode cX11_sell 51 = .ok (.aload_n 0, 1) := by decide +kernel
theorem dX11_sell_52 : decode cX11_sell 52 = .ok (.getfield 51, 3) := by decide +kernel
theorem dX11_sell_55 : decode cX11_sell 55 = .ok (.getfield 193, 3) := by decide +kernel
theorem dX11_sell_58 : decode cX11_sell 58 = .ok (.ireturn, 1) := by decide +kernel
theorem dX11_sky_0 : decode cX11_sky 0 = .ok (.aload_n 0, 1) := by decide +kernel
theorem dX11_sky_1 : decode cX11_sky 1 = .ok (.getfield 51, 3) := by decide +kernel
theorem dX11_sky_4 : decode cX11_sky 4 = .ok (.iload_n 1, 1) := by decide +kernel
theorem dX11_sky_5 : decode cX11_sky 5 = .ok (.invokevirtual 163, 3) := by decide +kernel
theorem dX11_sky_8 : decode cX11_sky 8 = .ok (.ifCond .eq 12, 3) := by decide +kernel
theorem dX11_sky_11 : decode cX11_sky 11 = .ok (.iload_n 2, 1) := by decide +kernel
theorem dX11_sky_12 : decode cX11_sky 12 = .ok (.iconst 0, 1) := by decide +kernel
theorem dX11_sky_13 : decode cX11_sky 13 = .ok (.iconst 1, 1) := by decide +kernel
theorem dX11_sky_14 : decode cX11_sky 14 = .ok (.invokestatic 166, 3) := by decide +kernel
theorem dX11_sky_17 : decode cX11_sky 17 = .ok (.ifCond .ne 5, 3) := by decide +kernel
theorem dX11_sky_20 : decode cX11_sky 20 = .ok (.iconst (-1), 1) := by decide +kernel
theorem dX11_sky_21 : decode cX11_sky 21 = .ok (.ireturn, 1) := by decide +kernel
theorem dX11_sky_22 : decode cX11_sky 22 = .ok (.iload_n 2, 1) := by decide +kernel
theorem dX11_sky_23 : decode cX11_sky 23 = .ok (.ifCond .ne 15, 3) := by decide +kernel
theorem dX11_sky_26 : decode cX11_sky 26 = .ok (.aload_n 0, 1) := by decide +kernel
theorem dX11_sky_27 : decode cX11_sky 27 = .ok (.getfield 51, 3) := by decide +kernel
theorem dX11_sky_30 : decode cX11_sky 30 = .ok (.getfield 170, 3) := by decide +kernel
theorem dX11_sky_33 : decode cX11_sky 33 = .ok (.iload_n 1, 1) := by decide +kernel
theorem dX11_sky_34 : decode cX11_sky 34 = .ok (.iaload, 1) := by decide +kernel
theorem dX11_sky_35 : decode cX11_sky 35 = .ok (.goto 12, 3) := by decide +kernel
theorem dX11_sky_38 : decode cX11_sky 38 = .ok (.aload_n 0, 1) := by decide +kernel
theorem dX11_sky_39 : decode cX11_sky 39 = .ok (.getfield 51, 3) := by decide +kernel
theorem dX11_sky_42 : decode cX11_sky 42 = .ok (.getfield 173, 3) := by decide +kernel
theorem dX11_sky_45 : decode cX11_sky 45 = .ok (.iload_n 1, 1) := by decide +kernel
theorem dX11_sky_46 : decode cX11_sky 46 = .ok (.iaload, 1) := by decide +kernel
theorem dX11_sky_47 : decode cX11_sky 47 = .ok (.ireturn, 1) := by decide +kernel
theorem dX11_undo_0 : decode cX11_undo 0 = .ok (.aload_n 0, 1) := by decide +kernel
theorem dX11_undo_1 : decode cX11_undo 1 = .ok (.getfield 57, 3) := by decide +kernel
theorem dX11_undo_4 : decode cX11_undo 4 = .ok (.aload_n 0, 1) := by decide +kernel
theorem dX11_undo_5 : decode cX11_undo 5 = .ok (.getfield 51, 3) := by decide +kernel
theorem dX11_undo_8 : decode cX11_undo 8 = .ok (.invokevirtual 199, 3) := by decide +kernel
theorem dX11_undo_11 : decode cX11_undo 11 = .ok (.ireturn, 1) := by decide +kernel
theorem dX11_watch_0 : decode cX11_watch 0 = .ok (.aload_n 0, 1) := by decide +kernel
theorem dX11_watch_1 : decode cX11_watch 1 = .ok (.getfield 51, 3) := by decide +kernel
theorem dX11_watch_4 : decode cX11_watch 4 = .ok (.iload_n 1, 1) := by decide +kernel
theorem dX11_watch_5 : decode cX11_watch 5 = .ok (.invokevirtual 163, 3) := by decide +kernel
theorem dX11_watch_8 : decode cX11_watch 8 = .ok (.ifCond .eq 14, 3) := by decide +kernel
theorem dX11_watch_11 : decode cX11_watch 11 = .ok (.aload_n 0, 1) := by decide +kernel
theorem dX11_watch_12 : decode cX11_watch 12 = .ok (.getfield 51, 3) := by decide +kernel
theorem dX11_watch_15 : decode cX11_watch 15 = .ok (.iload_n 2, 1) := by decide +kernel
theorem dX11_watch_16 : decode cX11_watch 16 = .ok (.invokevirtual 133, 3) := by decide +kernel
theorem dX11_watch_19 : decode cX11_watch 19 = .ok (.ifCond .ne 5, 3) := by decide +kernel
theorem dX11_watch_22 : decode cX11_watch 22 = .ok (.iconst (-1), 1) := by decide +kernel
theorem dX11_watch_23 : decode cX11_watch 23 = .ok (.ireturn, 1) := by decide +kernel
theorem dX11_watch_24 : decode cX11_watch 24 = .ok (.aload_n 0, 1) := by decide +kernel
theorem dX11_watch_25 : decode cX11_watch 25 = .ok (.getfield 57, 3) := by decide +kernel
theorem dX11_watch_28 : decode cX11_watch 28 = .ok (.aload_n 0, 1) := by decide +kernel
theorem dX11_watch_29 : decode cX11_watch 29 = .ok (.getfield 51, 3) := by decide +kernel
theorem dX11_watch_32 : decode cX11_watch 32 = .ok (.invokevirtual 182, 3) := by decide +kernel
theorem dX11_watch_35 : decode cX11_watch 35 = .ok (.aload_n 0, 1) := by decide +kernel
theorem dX11_watch_36 : decode cX11_watch 36 = .ok (.getfield 51, 3) := by decide +kernel
theorem dX11_watch_39 : decode cX11_watch 39 = .ok (.getfield 173, 3) := by decide +kernel
theorem dX11_watch_42 : decode cX11_watch 42 = .ok (.iload_n 1, 1) := by decide +kernel
theorem dX11_watch_43 : decode cX11_watch 43 = .ok (.dup2, 1) := by decide +kernel
theorem dX11_watch_44 : decode cX11_watch 44 = .ok (.iaload, 1) := by decide +kernel
theorem dX11_watch_45 : decode cX11_watch 45 = .ok (.iconst 1, 1) := by decide +kernel
theorem dX11_watch_46 : decode cX11_watch 46 = .ok (.iload_n 2, 1) := by decide +kernel
theorem dX11_watch_47 : decode cX11_watch 47 = .ok (.ishl, 1) := by decide +kernel
theorem dX11_watch_48 : decode cX11_watch 48 = .ok (.ixor, 1) := by decide +kernel
theorem dX11_watch_49 : decode cX11_watch 49 = .ok (.iastore, 1) := by decide +kernel
theorem dX11_watch_50 : decode cX11_watch 50 = .ok (.aload_n 0, 1) := by decide +kernel
theorem dX11_watch_51 : decode cX11_watch 51 = .ok (.getfield 51, 3) := by decide +kernel
theorem dX11_watch_54 : decode cX11_watch 54 = .ok (.getfield 173, 3) := by decide +kernel
theorem dX11_watch_57 : decode cX11_watch 57 = .ok (.iload_n 1, 1) := by decide +kernel
theorem dX11_watch_58 : decode cX11_watch 58 = .ok (.iaload, 1) := by decide +kernel
theorem dX11_watch_59 : decode cX11_watch 59 = .ok (.iload_n 2, 1) := by decide +kernel
theorem dX11_watch_60 : decode cX11_watch 60 = .ok (.ishr, 1) := by decide +kernel
theorem dX11_watch_61 : decode cX11_watch 61 = .ok (.iconst 1, 1) := by decide +kernel
theorem dX11_watch_62 : decode cX11_watch 62 = .ok (.iand, 1) := by decide +kernel
theorem dX11_watch_63 : decode cX11_watch 63 = .ok (.ireturn, 1) := by decide +kernel
set_option maxHeartbeats 4000000 in
set_option maxRecDepth 100000 in
theorem ct_X11_isWithin (l : Launch) (D : va_G) (tc : Nat → ClassId) (sk : (Nat → Nat) × (Nat → Nat)) (x1 : Int32) (x2 : Int32) (x3 : Int32)  : Ct l yX11_isWithin cX11_isWithin 3 (some .boolean) { frames := 0, cells := 0, slots := 0, locals := 0 } D tc sk [.int x1, .int x2, .int x3] [] (fun (v : Option Value) (_ : Unit) => ∃ r : Int32, v = some (.int r) ∧ ((r.toInt = 0 ∨ (r.toInt = 1 ∧ x2.toInt ≤ x1.toInt ∧ x1.toInt ≤ x3.toInt)))) (fun (_ : Unit) => []) 0 0 := by
  refine Ct.start (by decide) (Nat.le_of_ble_eq_true rfl) (fun p e s m below meth c A ls hx hb hr hlk hin hml hown hts hK hX hP hD hA hl hS => ?_)
  have hl : lv_has ls 3 [(0, .int x1), (1, .int x2), (2, .int x3)] := hl
  refine lv_iload_n hx hb dX11_isWithin_0 rfl (lv_at hl 0 rfl) ?_
  refine lv_iload_n hx hb dX11_isWithin_1 rfl (lv_at hl 1 rfl) ?_
  refine lv_icmp_lt (tgt := 14) hx hb dX11_isWithin_2 (by decide) (fun c_1 => ?_) (fun c_1 => ?_)
  · skip
    refine lv_iconst (v := 0) hx hb dX11_isWithin_14 (by decide) ?_
    have hp_2 : ((0 : Int32).toInt = 0 ∨ ((0 : Int32).toInt = 1 ∧ x2.toInt ≤ x1.toInt ∧ x1.toInt ≤ x3.toInt)) := by
      have z_1 := Int32.lt_iff_toInt_lt.mp c_1
      have y_0 : (0 : Int32).toInt = 0 := by decide
      have yr : (0 : Int32).toInt = 0 := by decide
      omega
    exact retI (v := 0) hx hb hr hlk (rfl) hP hD hS () ⟨_, rfl, hp_2⟩ [] rfl rfl dX11_isWithin_15 (Nat.le_of_ble_eq_true rfl) (Nat.le_of_ble_eq_true rfl) rfl
  · skip
    refine lv_iload_n hx hb dX11_isWithin_5 rfl (lv_at hl 0 rfl) ?_
    refine lv_iload_n hx hb dX11_isWithin_6 rfl (lv_at hl 2 rfl) ?_
    refine lv_icmp_gt (tgt := 14) hx hb dX11_isWithin_7 (by decide) (fun c_3 => ?_) (fun c_3 => ?_)
    · skip
      refine lv_iconst (v := 0) hx hb dX11_isWithin_14 (by decide) ?_
      have hp_4 : ((0 : Int32).toInt = 0 ∨ ((0 : Int32).toInt = 1 ∧ x2.toInt ≤ x1.toInt ∧ x1.toInt ≤ x3.toInt)) := by
        have z_1 := Int32.le_iff_toInt_le.mp (Int32.not_lt.mp c_1)
        have z_2 := Int32.lt_iff_toInt_lt.mp c_3
        have y_0 : (0 : Int32).toInt = 0 := by decide
        have yr : (0 : Int32).toInt = 0 := by decide
        omega
      exact retI (v := 0) hx hb hr hlk (rfl) hP hD hS () ⟨_, rfl, hp_4⟩ [] rfl rfl dX11_isWithin_15 (Nat.le_of_ble_eq_true rfl) (Nat.le_of_ble_eq_true rfl) rfl
    · skip
      refine lv_iconst (v := 1) hx hb dX11_isWithin_10 (by decide) ?_
      refine lv_goto (tgt := 15) hx hb dX11_isWithin_11 (by decide) ?_
      have hp_5 : ((1 : Int32).toInt = 0 ∨ ((1 : Int32).toInt = 1 ∧ x2.toInt ≤ x1.toInt ∧ x1.toInt ≤ x3.toInt)) := by
        have z_1 := Int32.le_iff_toInt_le.mp (Int32.not_lt.mp c_1)
        have z_2 := Int32.le_iff_toInt_le.mp (Int32.not_lt.mp c_3)
        have y_1 : (1 : Int32).toInt = 1 := by decide
        have yr : (1 : Int32).toInt = 1 := by decide
        omega
      exact retI (v := 1) hx hb hr hlk (rfl) hP hD hS () ⟨_, rfl, hp_5⟩ [] rfl rfl dX11_isWithin_15 (Nat.le_of_ble_eq_true rfl) (Nat.le_of_ble_eq_true rfl) rfl
set_option maxHeartbeats 4000000 in
set_option maxRecDepth 100000 in
theorem ct_X11_ruleInForce_n (l : Launch) (D : va_G) (tc : Nat → ClassId) (sk : (Nat → Nat) × (Nat → Nat)) (Ga : Nat → Nat) (Gv : Nat → Int32) (Sa : Nat → Nat) (Sv : Nat → Int32) (La : Nat → Nat) (Lq : Nat → Nat → Option Nat) (h_r : 0 ≤ (Sv 0).toInt ∧ (Sv 0).toInt < 6 → (Lq 0) (Sv 0).toNatClampNeg = none) : Ct l yX11_ruleInForce cX11_ruleInForce 2 (some (.object "PoisonBook$Rule")) { frames := 0, cells := 0, slots := 0, locals := 0 } D tc sk [.ref (Ga 0)] [((Ga 0), .inr (11, [.ref (Ga 1), .ref (Ga 2), .ref (Ga 3), .ref (La 0), .int (Gv 0), .ref (Sa 0), .ref (Ga 6), .ref (Ga 7), .ref (Ga 8), .ref (Ga 9), .ref (Ga 10), .ref (Ga 11)])), ((Sa 0), .inr (8, [.ref (Sa 1), .ref (Sa 2), .ref (Sa 3), .int (Sv 0), .int (Sv 1)])), ((La 0), .inl (tc 4, 6, .inr (.inr (.inr (.inr (Lq 0))))))] (fun (v : Option Value) (_ : Unit) => v = some (.null)) (fun (_ : Unit) => [((Ga 0), .inr (11, [.ref (Ga 1), .ref (Ga 2), .ref (Ga 3), .ref (La 0), .int (Gv 0), .ref (Sa 0), .ref (Ga 6), .ref (Ga 7), .ref (Ga 8), .ref (Ga 9), .ref (Ga 10), .ref (Ga 11)])), ((Sa 0), .inr (8, [.ref (Sa 1), .ref (Sa 2), .ref (Sa 3), .int (Sv 0), .int (Sv 1)])), ((La 0), .inl (tc 4, 6, .inr (.inr (.inr (.inr (Lq 0))))))]) 0 0 := by
  refine Ct.start (by decide) (Nat.le_of_ble_eq_true rfl) (fun p e s m below meth c A ls hx hb hr hlk hin hml hown hts hK hX hP hD hA hl hS => ?_)
  have hl : lv_has ls 2 [(0, .ref (Ga 0))] := hl
  refine lv_aload_n hx hb dX11_ruleInForce_0 rfl (lv_at hl 0 rfl) ?_
  refine gf_X11_43 hx hb hts hown hK hP 0 rfl rfl dX11_ruleInForce_1 ?_
  refine gf_X11_130 hx hb hts hown hK hP 1 rfl rfl dX11_ruleInForce_4 ?_
  refine lv_istore_n (lv' := [(1, .int (Sv 0)), (0, .ref (Ga 0))]) hx hb dX11_ruleInForce_7 rfl hl (by decide) rfl (fun ls hl => ?_)
  refine lv_iload_n hx hb dX11_ruleInForce_8 rfl (lv_at hl 0 rfl) ?_
  refine lv_if_lt (tgt := 30) hx hb dX11_ruleInForce_9 (by decide) (fun c_1 => ?_) (fun c_1 => ?_)
  · skip
    refine lv_null hx hb dX11_ruleInForce_30 ?_
    exact retA (v := .null) hx hb hr hlk (Or.inl ⟨_, rfl⟩) (Or.inl rfl) hP hD hS () rfl [0, 1, 2] rfl rfl dX11_ruleInForce_31 (Nat.le_of_ble_eq_true rfl) (Nat.le_of_ble_eq_true rfl) rfl
  · skip
    refine lv_iload_n hx hb dX11_ruleInForce_12 rfl (lv_at hl 0 rfl) ?_
    refine lv_aload_n hx hb dX11_ruleInForce_13 rfl (lv_at hl 1 rfl) ?_
    refine gf_X11_32 hx hb hts hown hK hP 0 rfl rfl dX11_ruleInForce_14 ?_
    refine va_alen hx hb hK hP 2 4 rfl rfl (v := 6) rfl dX11_ruleInForce_17 ?_
    refine lv_icmp_ge (tgt := 30) hx hb dX11_ruleInForce_18 (by decide) (fun c_2 => ?_) (fun c_2 => ?_)
    · skip
      refine lv_null hx hb dX11_ruleInForce_30 ?_
      exact retA (v := .null) hx hb hr hlk (Or.inl ⟨_, rfl⟩) (Or.inl rfl) hP hD hS () rfl [0, 1, 2] rfl rfl dX11_ruleInForce_31 (Nat.le_of_ble_eq_true rfl) (Nat.le_of_ble_eq_true rfl) rfl
    · skip
      refine lv_aload_n hx hb dX11_ruleInForce_21 rfl (lv_at hl 1 rfl) ?_
      refine gf_X11_32 hx hb hts hown hK hP 0 rfl rfl dX11_ruleInForce_22 ?_
      refine lv_iload_n hx hb dX11_ruleInForce_25 rfl (lv_at hl 0 rfl) ?_
      have hi_3 : vp_in (Sv 0) 6 := by
        have z_1 := Int32.le_iff_toInt_le.mp (Int32.not_lt.mp c_1)
        have z_2 := Int32.lt_iff_toInt_lt.mp (Int32.not_le.mp c_2)
        have y_0 : (0 : Int32).toInt = 0 := by decide
        have y_6 : (6 : Int32).toInt = 6 := by decide
        refine vp_in_iff.mpr ⟨?_, ?_⟩ <;> omega
      refine va_aldq hx hb hK hP 2 4 rfl rfl hi_3 dX11_ruleInForce_26 ?_
      have hz_4 : 0 ≤ (Sv 0).toInt ∧ (Sv 0).toInt < 6 := by
        have z_1 := Int32.le_iff_toInt_le.mp (Int32.not_lt.mp c_1)
        have z_2 := Int32.lt_iff_toInt_lt.mp (Int32.not_le.mp c_2)
        have y_0 : (0 : Int32).toInt = 0 := by decide
        have y_6 : (6 : Int32).toInt = 6 := by decide
        omega
      refine lv_val (v := .null) (by rw [h_r hz_4]; rfl) ?_
      refine lv_goto (tgt := 31) hx hb dX11_ruleInForce_27 (by decide) ?_
      exact retA (v := .null) hx hb hr hlk (Or.inl ⟨_, rfl⟩) (Or.inl rfl) hP hD hS () rfl [0, 1, 2] rfl rfl dX11_ruleInForce_31 (Nat.le_of_ble_eq_true rfl) (Nat.le_of_ble_eq_true rfl) rfl
set_option maxHeartbeats 4000000 in
set_option maxRecDepth 100000 in
theorem ct_X11_ruleInForce_r (l : Launch) (D : va_G) (tc : Nat → ClassId) (sk : (Nat → Nat) × (Nat → Nat)) (Ga : Nat → Nat) (Gv : Nat → Int32) (Sa : Nat → Nat) (Sv : Nat → Int32) (La : Nat → Nat) (Lq : Nat → Nat → Option Nat) (ra : Nat) (h_r : (0 ≤ (Sv 0).toInt ∧ (Sv 0).toInt < 6) ∧ (Lq 0) (Sv 0).toNatClampNeg = some ra) : Ct l yX11_ruleInForce cX11_ruleInForce 2 (some (.object "PoisonBook$Rule")) { frames := 0, cells := 0, slots := 0, locals := 0 } D tc sk [.ref (Ga 0)] [((Ga 0), .inr (11, [.ref (Ga 1), .ref (Ga 2), .ref (Ga 3), .ref (La 0), .int (Gv 0), .ref (Sa 0), .ref (Ga 6), .ref (Ga 7), .ref (Ga 8), .ref (Ga 9), .ref (Ga 10), .ref (Ga 11)])), ((Sa 0), .inr (8, [.ref (Sa 1), .ref (Sa 2), .ref (Sa 3), .int (Sv 0), .int (Sv 1)])), ((La 0), .inl (tc 4, 6, .inr (.inr (.inr (.inr (Lq 0))))))] (fun (v : Option Value) (_ : Unit) => v = some (.ref ra)) (fun (_ : Unit) => [((Ga 0), .inr (11, [.ref (Ga 1), .ref (Ga 2), .ref (Ga 3), .ref (La 0), .int (Gv 0), .ref (Sa 0), .ref (Ga 6), .ref (Ga 7), .ref (Ga 8), .ref (Ga 9), .ref (Ga 10), .ref (Ga 11)])), ((Sa 0), .inr (8, [.ref (Sa 1), .ref (Sa 2), .ref (Sa 3), .int (Sv 0), .int (Sv 1)])), ((La 0), .inl (tc 4, 6, .inr (.inr (.inr (.inr (Lq 0))))))]) 0 0 := by
  refine Ct.start (by decide) (Nat.le_of_ble_eq_true rfl) (fun p e s m below meth c A ls hx hb hr hlk hin hml hown hts hK hX hP hD hA hl hS => ?_)
  have hl : lv_has ls 2 [(0, .ref (Ga 0))] := hl
  refine lv_aload_n hx hb dX11_ruleInForce_0 rfl (lv_at hl 0 rfl) ?_
  refine gf_X11_43 hx hb hts hown hK hP 0 rfl rfl dX11_ruleInForce_1 ?_
  refine gf_X11_130 hx hb hts hown hK hP 1 rfl rfl dX11_ruleInForce_4 ?_
  refine lv_istore_n (lv' := [(1, .int (Sv 0)), (0, .ref (Ga 0))]) hx hb dX11_ruleInForce_7 rfl hl (by decide) rfl (fun ls hl => ?_)
  refine lv_iload_n hx hb dX11_ruleInForce_8 rfl (lv_at hl 0 rfl) ?_
  refine lv_if_lt (tgt := 30) hx hb dX11_ruleInForce_9 (by decide) (fun c_1 => ?_) (fun c_1 => ?_)
  · skip
    exfalso
    have z_1 := Int32.lt_iff_toInt_lt.mp c_1
    have y_0 : (0 : Int32).toInt = 0 := by decide
    omega
  · skip
    refine lv_iload_n hx hb dX11_ruleInForce_12 rfl (lv_at hl 0 rfl) ?_
    refine lv_aload_n hx hb dX11_ruleInForce_13 rfl (lv_at hl 1 rfl) ?_
    refine gf_X11_32 hx hb hts hown hK hP 0 rfl rfl dX11_ruleInForce_14 ?_
    refine va_alen hx hb hK hP 2 4 rfl rfl (v := 6) rfl dX11_ruleInForce_17 ?_
    refine lv_icmp_ge (tgt := 30) hx hb dX11_ruleInForce_18 (by decide) (fun c_2 => ?_) (fun c_2 => ?_)
    · skip
      exfalso
      have z_1 := Int32.le_iff_toInt_le.mp (Int32.not_lt.mp c_1)
      have z_2 := Int32.le_iff_toInt_le.mp c_2
      have y_0 : (0 : Int32).toInt = 0 := by decide
      have y_6 : (6 : Int32).toInt = 6 := by decide
      omega
    · skip
      refine lv_aload_n hx hb dX11_ruleInForce_21 rfl (lv_at hl 1 rfl) ?_
      refine gf_X11_32 hx hb hts hown hK hP 0 rfl rfl dX11_ruleInForce_22 ?_
      refine lv_iload_n hx hb dX11_ruleInForce_25 rfl (lv_at hl 0 rfl) ?_
      have hi_3 : vp_in (Sv 0) 6 := by
        have z_1 := Int32.le_iff_toInt_le.mp (Int32.not_lt.mp c_1)
        have z_2 := Int32.lt_iff_toInt_lt.mp (Int32.not_le.mp c_2)
        have y_0 : (0 : Int32).toInt = 0 := by decide
        have y_6 : (6 : Int32).toInt = 6 := by decide
        refine vp_in_iff.mpr ⟨?_, ?_⟩ <;> omega
      refine va_aldq hx hb hK hP 2 4 rfl rfl hi_3 dX11_ruleInForce_26 ?_
      refine lv_val (v := .ref ra) (by rw [h_r.2]; rfl) ?_
      refine lv_goto (tgt := 31) hx hb dX11_ruleInForce_27 (by decide) ?_
      exact retA (v := .ref ra) hx hb hr hlk (Or.inl ⟨_, rfl⟩) (Or.inr ⟨_, rfl⟩) hP hD hS () rfl [0, 1, 2] rfl rfl dX11_ruleInForce_31 (Nat.le_of_ble_eq_true rfl) (Nat.le_of_ble_eq_true rfl) rfl
set_option maxHeartbeats 4000000 in
set_option maxRecDepth 100000 in
theorem ct_X11_feed (l : Launch) (D : va_G) (tc : Nat → ClassId) (sk : (Nat → Nat) × (Nat → Nat)) (Ga : Nat → Nat) (Gv : Nat → Int32) (Ta : Nat → Nat) (Tv : Nat → Int32) (Tf : Nat → Nat → Int32) (x1 : Int32) (x2 : Int32) (x3 : Int32) (x4 : Int32) (x5 : Int32) (h_tape : 0 ≤ ((Tv 0) : Int32).toInt ∧ ((Tv 0) : Int32).toInt ≤ 400 ∧ 0 ≤ ((Tv 1) : Int32).toInt ∧ ((Tv 1) : Int32).toInt ≤ 400 ∧ 0 ≤ ((Tv 2) : Int32).toInt ∧ ((Tv 2) : Int32).toInt ≤ 400) : Ct l yX11_feed cX11_feed 6 (some .int) { frames := 1, cells := 0, slots := 0, locals := 22 } D tc sk [.ref (Ga 0), .int x1, .int x2, .int x3, .int x4, .int x5] [((Ga 0), .inr (11, [.ref (Ta 0), .ref (Ga 2), .ref (Ga 3), .ref (Ga 4), .int (Gv 0), .ref (Ga 5), .ref (Ga 6), .ref (Ga 7), .ref (Ga 8), .ref (Ga 9), .ref (Ga 10), .ref (Ga 11)])), ((Ta 0), .inr (10, [.ref (Ta 1), .int (Tv 0), .int (Tv 1), .int (Tv 2), .int (Tv 3), .int (Tv 4)])), ((Ta 1), .inl (tc 0, 400, .inl (Tf 1)))] (fun (v : Option Value) (u : (Int32) × (Nat → Int32)) => match u with | (oo0x1, oo0x2) => ∃ r : Int32, v = some (.int r) ∧ (True) ∧ (0 ≤ (oo0x1 : Int32).toInt ∧ (oo0x1 : Int32).toInt ≤ 400 ∧ 0 ≤ ((Tv 1) : Int32).toInt ∧ ((Tv 1) : Int32).toInt ≤ 400 ∧ 0 ≤ ((Tv 2) : Int32).toInt ∧ ((Tv 2) : Int32).toInt ≤ 400)) (fun (u : (Int32) × (Nat → Int32)) => match u with | (oo0x1, oo0x2) => [((Ga 0), .inr (11, [.ref (Ta 0), .ref (Ga 2), .ref (Ga 3), .ref (Ga 4), .int (Gv 0), .ref (Ga 5), .ref (Ga 6), .ref (Ga 7), .ref (Ga 8), .ref (Ga 9), .ref (Ga 10), .ref (Ga 11)])), ((Ta 0), .inr (10, [.ref (Ta 1), .int oo0x1, .int (Tv 1), .int (Tv 2), .int (Tv 3), .int (Tv 4)])), ((Ta 1), .inl (tc 0, 400, .inl oo0x2))]) 0 0 := by
  refine Ct.start (by decide) (Nat.le_of_ble_eq_true rfl) (fun p e s m below meth c A ls hx hb hr hlk hin hml hown hts hK hX hP hD hA hl hS => ?_)
  have hl : lv_has ls 6 [(0, .ref (Ga 0)), (1, .int x1), (2, .int x2), (3, .int x3), (4, .int x4), (5, .int x5)] := hl
  refine lv_aload_n hx hb dX11_feed_0 rfl (lv_at hl 0 rfl) ?_
  refine gf_X11_10 hx hb hts hown hK hP 0 rfl rfl dX11_feed_1 ?_
  have ha_1 : 0 ≤ ((Tv 0) : Int32).toInt ∧ ((Tv 0) : Int32).toInt ≤ 400 ∧ 0 ≤ ((Tv 1) : Int32).toInt ∧ ((Tv 1) : Int32).toInt ≤ 400 ∧ 0 ≤ ((Tv 2) : Int32).toInt ∧ ((Tv 2) : Int32).toInt ≤ 400 := by
    omega
  refine cV (a := (Ta 0)) (As := []) (rest := []) (wr := [((Ga 0), .inr (11, [.ref (Ta 0), .ref (Ga 2), .ref (Ga 3), .ref (Ga 4), .int (Gv 0), .ref (Ga 5), .ref (Ga 6), .ref (Ga 7), .ref (Ga 8), .ref (Ga 9), .ref (Ga 10), .ref (Ga 11)]))]) ⟨hx, hb, hml, hown, hts⟩ hK hX hA (ct_X10_hasRoom l D tc sk Ta Tv Tf ha_1) k_450 k_447 k_448 k_449 k_96 pl_X10_hasRoom ⟨Nat.le_of_ble_eq_true rfl, Nat.le_of_ble_eq_true rfl⟩ rfl rfl (va_recv hK hP (ci := 10) (q0 := 1) rfl rfl) hP hD hS [1, 2] [0] rfl rfl rfl rfl rfl (by decide) rfl hl.1 rfl (Nat.le_of_ble_eq_true rfl) dX11_feed_4 ⟨Nat.le_of_ble_eq_true rfl, Nat.le_of_ble_eq_true rfl⟩ (fun v_2 u_3 H locs hv_4 hP hD hS => ?_)
  obtain ⟨r_5, rfl, he_6⟩ := hv_4
  have he_6 : ((r_5.toInt = 0 ∨ (r_5.toInt = 1 ∧ (Tv 0).toInt ≤ 380))) ∧ (0 ≤ ((Tv 0) : Int32).toInt ∧ ((Tv 0) : Int32).toInt ≤ 400 ∧ 0 ≤ ((Tv 1) : Int32).toInt ∧ ((Tv 1) : Int32).toInt ≤ 400 ∧ 0 ≤ ((Tv 2) : Int32).toInt ∧ ((Tv 2) : Int32).toInt ≤ 400) := he_6
  refine W.eq (g2 := F0 m 7 ls [.int r_5]) rfl ?_
  have hP : va_P D classes [((Ga 0), .inr (11, [.ref (Ta 0), .ref (Ga 2), .ref (Ga 3), .ref (Ga 4), .int (Gv 0), .ref (Ga 5), .ref (Ga 6), .ref (Ga 7), .ref (Ga 8), .ref (Ga 9), .ref (Ga 10), .ref (Ga 11)])), ((Ta 0), .inr (10, [.ref (Ta 1), .int (Tv 0), .int (Tv 1), .int (Tv 2), .int (Tv 3), .int (Tv 4)])), ((Ta 1), .inl (tc 0, 400, .inl (Tf 1)))] H := hP
  have hD : va_D A [((Ga 0), .inr (11, [.ref (Ta 0), .ref (Ga 2), .ref (Ga 3), .ref (Ga 4), .int (Gv 0), .ref (Ga 5), .ref (Ga 6), .ref (Ga 7), .ref (Ga 8), .ref (Ga 9), .ref (Ga 10), .ref (Ga 11)])), ((Ta 0), .inr (10, [.ref (Ta 1), .int (Tv 0), .int (Tv 1), .int (Tv 2), .int (Tv 3), .int (Tv 4)])), ((Ta 1), .inl (tc 0, 400, .inl (Tf 1)))] := hD
  refine lv_if_ne (tgt := 12) hx hb dX11_feed_7 (by decide) (fun c_7 => ?_) (fun c_7 => ?_)
  · skip
    refine lv_aload_n hx hb dX11_feed_12 rfl (lv_at hl 0 rfl) ?_
    refine gf_X11_10 hx hb hts hown hK hP 0 rfl rfl dX11_feed_13 ?_
    refine lv_iload_n hx hb dX11_feed_16 rfl (lv_at hl 1 rfl) ?_
    have ha_8 : (Tv 0).toInt ≤ 396 := by
      have z_1 : ¬ (r_5 : Int32).toInt = (0 : Int32).toInt := fun z => c_7 (Int32.toInt_inj.mp z)
      have y_0 : (0 : Int32).toInt = 0 := by decide
      omega
    have ha_9 : 0 ≤ ((Tv 0) : Int32).toInt ∧ ((Tv 0) : Int32).toInt ≤ 400 ∧ 0 ≤ ((Tv 1) : Int32).toInt ∧ ((Tv 1) : Int32).toInt ≤ 400 ∧ 0 ≤ ((Tv 2) : Int32).toInt ∧ ((Tv 2) : Int32).toInt ≤ 400 := by
      have z_1 : ¬ (r_5 : Int32).toInt = (0 : Int32).toInt := fun z => c_7 (Int32.toInt_inj.mp z)
      have y_0 : (0 : Int32).toInt = 0 := by decide
      omega
    refine cV (a := (Ta 0)) (As := [.int x1]) (rest := []) (wr := [((Ga 0), .inr (11, [.ref (Ta 0), .ref (Ga 2), .ref (Ga 3), .ref (Ga 4), .int (Gv 0), .ref (Ga 5), .ref (Ga 6), .ref (Ga 7), .ref (Ga 8), .ref (Ga 9), .ref (Ga 10), .ref (Ga 11)]))]) ⟨hx, hb, hml, hown, hts⟩ hK hX hA (ct_X10_add l D tc sk Ta Tv Tf x1 ha_8 ha_9) k_454 k_451 k_452 k_453 k_96 pl_X10_add ⟨Nat.le_of_ble_eq_true rfl, Nat.le_of_ble_eq_true rfl⟩ rfl rfl (va_recv hK hP (ci := 10) (q0 := 1) rfl rfl) hP hD hS [1, 2] [0] rfl rfl rfl rfl rfl (by decide) rfl hl.1 rfl (Nat.le_of_ble_eq_true rfl) dX11_feed_17 ⟨Nat.le_of_ble_eq_true rfl, Nat.le_of_ble_eq_true rfl⟩ (fun v_10 u_11 H locs hv_12 hP hD hS => ?_)
    obtain ⟨sv_13, sv_14⟩ := u_11
    obtain ⟨rfl, he_15⟩ := hv_12
    have he_15 : (0 ≤ (sv_13 : Int32).toInt ∧ (sv_13 : Int32).toInt ≤ 400 ∧ 0 ≤ ((Tv 1) : Int32).toInt ∧ ((Tv 1) : Int32).toInt ≤ 400 ∧ 0 ≤ ((Tv 2) : Int32).toInt ∧ ((Tv 2) : Int32).toInt ≤ 400) ∧ ((sv_13 : Int32).toInt = ((Tv 0) : Int32).toInt + 4) := he_15
    refine W.eq (g2 := F0 m 20 ls []) rfl ?_
    have hP : va_P D classes [((Ga 0), .inr (11, [.ref (Ta 0), .ref (Ga 2), .ref (Ga 3), .ref (Ga 4), .int (Gv 0), .ref (Ga 5), .ref (Ga 6), .ref (Ga 7), .ref (Ga 8), .ref (Ga 9), .ref (Ga 10), .ref (Ga 11)])), ((Ta 0), .inr (10, [.ref (Ta 1), .int sv_13, .int (Tv 1), .int (Tv 2), .int (Tv 3), .int (Tv 4)])), ((Ta 1), .inl (tc 0, 400, .inl sv_14))] H := hP
    have hD : va_D A [((Ga 0), .inr (11, [.ref (Ta 0), .ref (Ga 2), .ref (Ga 3), .ref (Ga 4), .int (Gv 0), .ref (Ga 5), .ref (Ga 6), .ref (Ga 7), .ref (Ga 8), .ref (Ga 9), .ref (Ga 10), .ref (Ga 11)])), ((Ta 0), .inr (10, [.ref (Ta 1), .int sv_13, .int (Tv 1), .int (Tv 2), .int (Tv 3), .int (Tv 4)])), ((Ta 1), .inl (tc 0, 400, .inl sv_14))] := hD
    refine lv_aload_n hx hb dX11_feed_20 rfl (lv_at hl 0 rfl) ?_
    refine gf_X11_10 hx hb hts hown hK hP 0 rfl rfl dX11_feed_21 ?_
    refine lv_iload_n hx hb dX11_feed_24 rfl (lv_at hl 2 rfl) ?_
    have ha_16 : sv_13.toInt ≤ 396 := by
      have z_1 : ¬ (r_5 : Int32).toInt = (0 : Int32).toInt := fun z => c_7 (Int32.toInt_inj.mp z)
      have y_0 : (0 : Int32).toInt = 0 := by decide
      omega
    have ha_17 : 0 ≤ (sv_13 : Int32).toInt ∧ (sv_13 : Int32).toInt ≤ 400 ∧ 0 ≤ ((Tv 1) : Int32).toInt ∧ ((Tv 1) : Int32).toInt ≤ 400 ∧ 0 ≤ ((Tv 2) : Int32).toInt ∧ ((Tv 2) : Int32).toInt ≤ 400 := by
      have z_1 : ¬ (r_5 : Int32).toInt = (0 : Int32).toInt := fun z => c_7 (Int32.toInt_inj.mp z)
      have y_0 : (0 : Int32).toInt = 0 := by decide
      omega
    refine cV (a := (Ta 0)) (As := [.int x2]) (rest := []) (wr := [((Ga 0), .inr (11, [.ref (Ta 0), .ref (Ga 2), .ref (Ga 3), .ref (Ga 4), .int (Gv 0), .ref (Ga 5), .ref (Ga 6), .ref (Ga 7), .ref (Ga 8), .ref (Ga 9), .ref (Ga 10), .ref (Ga 11)]))]) ⟨hx, hb, hml, hown, hts⟩ hK hX hA (ct_X10_add l D tc sk Ta (fun k => ([sv_13, (Tv 1), (Tv 2), (Tv 3), (Tv 4)] : List (Int32)).getD k 0) (fun k => ([(fun _ => 0), sv_14] : List (Nat → Int32)).getD k (fun _ => 0)) x2 ha_16 ha_17) k_454 k_451 k_452 k_453 k_96 pl_X10_add ⟨Nat.le_of_ble_eq_true rfl, Nat.le_of_ble_eq_true rfl⟩ rfl rfl (va_recv hK hP (ci := 10) (q0 := 1) rfl rfl) hP hD hS [1, 2] [0] rfl rfl rfl rfl rfl (by decide) rfl hl.1 rfl (Nat.le_of_ble_eq_true rfl) dX11_feed_25 ⟨Nat.le_of_ble_eq_true rfl, Nat.le_of_ble_eq_true rfl⟩ (fun v_18 u_19 H locs hv_20 hP hD hS => ?_)
    obtain ⟨sv_21, sv_22⟩ := u_19
    obtain ⟨rfl, he_23⟩ := hv_20
    have he_23 : (0 ≤ (sv_21 : Int32).toInt ∧ (sv_21 : Int32).toInt ≤ 400 ∧ 0 ≤ ((Tv 1) : Int32).toInt ∧ ((Tv 1) : Int32).toInt ≤ 400 ∧ 0 ≤ ((Tv 2) : Int32).toInt ∧ ((Tv 2) : Int32).toInt ≤ 400) ∧ ((sv_21 : Int32).toInt = (sv_13 : Int32).toInt + 4) := he_23
    refine W.eq (g2 := F0 m 28 ls []) rfl ?_
    have hP : va_P D classes [((Ga 0), .inr (11, [.ref (Ta 0), .ref (Ga 2), .ref (Ga 3), .ref (Ga 4), .int (Gv 0), .ref (Ga 5), .ref (Ga 6), .ref (Ga 7), .ref (Ga 8), .ref (Ga 9), .ref (Ga 10), .ref (Ga 11)])), ((Ta 0), .inr (10, [.ref (Ta 1), .int sv_21, .int (Tv 1), .int (Tv 2), .int (Tv 3), .int (Tv 4)])), ((Ta 1), .inl (tc 0, 400, .inl sv_22))] H := hP
    have hD : va_D A [((Ga 0), .inr (11, [.ref (Ta 0), .ref (Ga 2), .ref (Ga 3), .ref (Ga 4), .int (Gv 0), .ref (Ga 5), .ref (Ga 6), .ref (Ga 7), .ref (Ga 8), .ref (Ga 9), .ref (Ga 10), .ref (Ga 11)])), ((Ta 0), .inr (10, [.ref (Ta 1), .int sv_21, .int (Tv 1), .int (Tv 2), .int (Tv 3), .int (Tv 4)])), ((Ta 1), .inl (tc 0, 400, .inl sv_22))] := hD
    refine lv_aload_n hx hb dX11_feed_28 rfl (lv_at hl 0 rfl) ?_
    refine gf_X11_10 hx hb hts hown hK hP 0 rfl rfl dX11_feed_29 ?_
    refine lv_iload_n hx hb dX11_feed_32 rfl (lv_at hl 3 rfl) ?_
    have ha_24 : sv_21.toInt ≤ 396 := by
      have z_1 : ¬ (r_5 : Int32).toInt = (0 : Int32).toInt := fun z => c_7 (Int32.toInt_inj.mp z)
      have y_0 : (0 : Int32).toInt = 0 := by decide
      omega
    have ha_25 : 0 ≤ (sv_21 : Int32).toInt ∧ (sv_21 : Int32).toInt ≤ 400 ∧ 0 ≤ ((Tv 1) : Int32).toInt ∧ ((Tv 1) : Int32).toInt ≤ 400 ∧ 0 ≤ ((Tv 2) : Int32).toInt ∧ ((Tv 2) : Int32).toInt ≤ 400 := by
      have z_1 : ¬ (r_5 : Int32).toInt = (0 : Int32).toInt := fun z => c_7 (Int32.toInt_inj.mp z)
      have y_0 : (0 : Int32).toInt = 0 := by decide
      omega
    refine cV (a := (Ta 0)) (As := [.int x3]) (rest := []) (wr := [((Ga 0), .inr (11, [.ref (Ta 0), .ref (Ga 2), .ref (Ga 3), .ref (Ga 4), .int (Gv 0), .ref (Ga 5), .ref (Ga 6), .ref (Ga 7), .ref (Ga 8), .ref (Ga 9), .ref (Ga 10), .ref (Ga 11)]))]) ⟨hx, hb, hml, hown, hts⟩ hK hX hA (ct_X10_add l D tc sk Ta (fun k => ([sv_21, (Tv 1), (Tv 2), (Tv 3), (Tv 4)] : List (Int32)).getD k 0) (fun k => ([(fun _ => 0), sv_22] : List (Nat → Int32)).getD k (fun _ => 0)) x3 ha_24 ha_25) k_454 k_451 k_452 k_453 k_96 pl_X10_add ⟨Nat.le_of_ble_eq_true rfl, Nat.le_of_ble_eq_true rfl⟩ rfl rfl (va_recv hK hP (ci := 10) (q0 := 1) rfl rfl) hP hD hS [1, 2] [0] rfl rfl rfl rfl rfl (by decide) rfl hl.1 rfl (Nat.le_of_ble_eq_true rfl) dX11_feed_33 ⟨Nat.le_of_ble_eq_true rfl, Nat.le_of_ble_eq_true rfl⟩ (fun v_26 u_27 H locs hv_28 hP hD hS => ?_)
    obtain ⟨sv_29, sv_30⟩ := u_27
    obtain ⟨rfl, he_31⟩ := hv_28
    have he_31 : (0 ≤ (sv_29 : Int32).toInt ∧ (sv_29 : Int32).toInt ≤ 400 ∧ 0 ≤ ((Tv 1) : Int32).toInt ∧ ((Tv 1) : Int32).toInt ≤ 400 ∧ 0 ≤ ((Tv 2) : Int32).toInt ∧ ((Tv 2) : Int32).toInt ≤ 400) ∧ ((sv_29 : Int32).toInt = (sv_21 : Int32).toInt + 4) := he_31
    refine W.eq (g2 := F0 m 36 ls []) rfl ?_
    have hP : va_P D classes [((Ga 0), .inr (11, [.ref (Ta 0), .ref (Ga 2), .ref (Ga 3), .ref (Ga 4), .int (Gv 0), .ref (Ga 5), .ref (Ga 6), .ref (Ga 7), .ref (Ga 8), .ref (Ga 9), .ref (Ga 10), .ref (Ga 11)])), ((Ta 0), .inr (10, [.ref (Ta 1), .int sv_29, .int (Tv 1), .int (Tv 2), .int (Tv 3), .int (Tv 4)])), ((Ta 1), .inl (tc 0, 400, .inl sv_30))] H := hP
    have hD : va_D A [((Ga 0), .inr (11, [.ref (Ta 0), .ref (Ga 2), .ref (Ga 3), .ref (Ga 4), .int (Gv 0), .ref (Ga 5), .ref (Ga 6), .ref (Ga 7), .ref (Ga 8), .ref (Ga 9), .ref (Ga 10), .ref (Ga 11)])), ((Ta 0), .inr (10, [.ref (Ta 1), .int sv_29, .int (Tv 1), .int (Tv 2), .int (Tv 3), .int (Tv 4)])), ((Ta 1), .inl (tc 0, 400, .inl sv_30))] := hD
    refine lv_aload_n hx hb dX11_feed_36 rfl (lv_at hl 0 rfl) ?_
    refine gf_X11_10 hx hb hts hown hK hP 0 rfl rfl dX11_feed_37 ?_
    refine lv_iload hx hb dX11_feed_40 (lv_at hl 4 rfl) ?_
    have ha_32 : sv_29.toInt ≤ 396 := by
      have z_1 : ¬ (r_5 : Int32).toInt = (0 : Int32).toInt := fun z => c_7 (Int32.toInt_inj.mp z)
      have y_0 : (0 : Int32).toInt = 0 := by decide
      omega
    have ha_33 : 0 ≤ (sv_29 : Int32).toInt ∧ (sv_29 : Int32).toInt ≤ 400 ∧ 0 ≤ ((Tv 1) : Int32).toInt ∧ ((Tv 1) : Int32).toInt ≤ 400 ∧ 0 ≤ ((Tv 2) : Int32).toInt ∧ ((Tv 2) : Int32).toInt ≤ 400 := by
      have z_1 : ¬ (r_5 : Int32).toInt = (0 : Int32).toInt := fun z => c_7 (Int32.toInt_inj.mp z)
      have y_0 : (0 : Int32).toInt = 0 := by decide
      omega
    refine cV (a := (Ta 0)) (As := [.int x4]) (rest := []) (wr := [((Ga 0), .inr (11, [.ref (Ta 0), .ref (Ga 2), .ref (Ga 3), .ref (Ga 4), .int (Gv 0), .ref (Ga 5), .ref (Ga 6), .ref (Ga 7), .ref (Ga 8), .ref (Ga 9), .ref (Ga 10), .ref (Ga 11)]))]) ⟨hx, hb, hml, hown, hts⟩ hK hX hA (ct_X10_add l D tc sk Ta (fun k => ([sv_29, (Tv 1), (Tv 2), (Tv 3), (Tv 4)] : List (Int32)).getD k 0) (fun k => ([(fun _ => 0), sv_30] : List (Nat → Int32)).getD k (fun _ => 0)) x4 ha_32 ha_33) k_454 k_451 k_452 k_453 k_96 pl_X10_add ⟨Nat.le_of_ble_eq_true rfl, Nat.le_of_ble_eq_true rfl⟩ rfl rfl (va_recv hK hP (ci := 10) (q0 := 1) rfl rfl) hP hD hS [1, 2] [0] rfl rfl rfl rfl rfl (by decide) rfl hl.1 rfl (Nat.le_of_ble_eq_true rfl) dX11_feed_42 ⟨Nat.le_of_ble_eq_true rfl, Nat.le_of_ble_eq_true rfl⟩ (fun v_34 u_35 H locs hv_36 hP hD hS => ?_)
    obtain ⟨sv_37, sv_38⟩ := u_35
    obtain ⟨rfl, he_39⟩ := hv_36
    have he_39 : (0 ≤ (sv_37 : Int32).toInt ∧ (sv_37 : Int32).toInt ≤ 400 ∧ 0 ≤ ((Tv 1) : Int32).toInt ∧ ((Tv 1) : Int32).toInt ≤ 400 ∧ 0 ≤ ((Tv 2) : Int32).toInt ∧ ((Tv 2) : Int32).toInt ≤ 400) ∧ ((sv_37 : Int32).toInt = (sv_29 : Int32).toInt + 4) := he_39
    refine W.eq (g2 := F0 m 45 ls []) rfl ?_
    have hP : va_P D classes [((Ga 0), .inr (11, [.ref (Ta 0), .ref (Ga 2), .ref (Ga 3), .ref (Ga 4), .int (Gv 0), .ref (Ga 5), .ref (Ga 6), .ref (Ga 7), .ref (Ga 8), .ref (Ga 9), .ref (Ga 10), .ref (Ga 11)])), ((Ta 0), .inr (10, [.ref (Ta 1), .int sv_37, .int (Tv 1), .int (Tv 2), .int (Tv 3), .int (Tv 4)])), ((Ta 1), .inl (tc 0, 400, .inl sv_38))] H := hP
    have hD : va_D A [((Ga 0), .inr (11, [.ref (Ta 0), .ref (Ga 2), .ref (Ga 3), .ref (Ga 4), .int (Gv 0), .ref (Ga 5), .ref (Ga 6), .ref (Ga 7), .ref (Ga 8), .ref (Ga 9), .ref (Ga 10), .ref (Ga 11)])), ((Ta 0), .inr (10, [.ref (Ta 1), .int sv_37, .int (Tv 1), .int (Tv 2), .int (Tv 3), .int (Tv 4)])), ((Ta 1), .inl (tc 0, 400, .inl sv_38))] := hD
    refine lv_aload_n hx hb dX11_feed_45 rfl (lv_at hl 0 rfl) ?_
    refine gf_X11_10 hx hb hts hown hK hP 0 rfl rfl dX11_feed_46 ?_
    refine lv_iload hx hb dX11_feed_49 (lv_at hl 5 rfl) ?_
    have ha_40 : sv_37.toInt ≤ 396 := by
      have z_1 : ¬ (r_5 : Int32).toInt = (0 : Int32).toInt := fun z => c_7 (Int32.toInt_inj.mp z)
      have y_0 : (0 : Int32).toInt = 0 := by decide
      omega
    have ha_41 : 0 ≤ (sv_37 : Int32).toInt ∧ (sv_37 : Int32).toInt ≤ 400 ∧ 0 ≤ ((Tv 1) : Int32).toInt ∧ ((Tv 1) : Int32).toInt ≤ 400 ∧ 0 ≤ ((Tv 2) : Int32).toInt ∧ ((Tv 2) : Int32).toInt ≤ 400 := by
      have z_1 : ¬ (r_5 : Int32).toInt = (0 : Int32).toInt := fun z => c_7 (Int32.toInt_inj.mp z)
      have y_0 : (0 : Int32).toInt = 0 := by decide
      omega
    refine cV (a := (Ta 0)) (As := [.int x5]) (rest := []) (wr := [((Ga 0), .inr (11, [.ref (Ta 0), .ref (Ga 2), .ref (Ga 3), .ref (Ga 4), .int (Gv 0), .ref (Ga 5), .ref (Ga 6), .ref (Ga 7), .ref (Ga 8), .ref (Ga 9), .ref (Ga 10), .ref (Ga 11)]))]) ⟨hx, hb, hml, hown, hts⟩ hK hX hA (ct_X10_add l D tc sk Ta (fun k => ([sv_37, (Tv 1), (Tv 2), (Tv 3), (Tv 4)] : List (Int32)).getD k 0) (fun k => ([(fun _ => 0), sv_38] : List (Nat → Int32)).getD k (fun _ => 0)) x5 ha_40 ha_41) k_454 k_451 k_452 k_453 k_96 pl_X10_add ⟨Nat.le_of_ble_eq_true rfl, Nat.le_of_ble_eq_true rfl⟩ rfl rfl (va_recv hK hP (ci := 10) (q0 := 1) rfl rfl) hP hD hS [1, 2] [0] rfl rfl rfl rfl rfl (by decide) rfl hl.1 rfl (Nat.le_of_ble_eq_true rfl) dX11_feed_51 ⟨Nat.le_of_ble_eq_true rfl, Nat.le_of_ble_eq_true rfl⟩ (fun v_42 u_43 H locs hv_44 hP hD hS => ?_)
    obtain ⟨sv_45, sv_46⟩ := u_43
    obtain ⟨rfl, he_47⟩ := hv_44
    have he_47 : (0 ≤ (sv_45 : Int32).toInt ∧ (sv_45 : Int32).toInt ≤ 400 ∧ 0 ≤ ((Tv 1) : Int32).toInt ∧ ((Tv 1) : Int32).toInt ≤ 400 ∧ 0 ≤ ((Tv 2) : Int32).toInt ∧ ((Tv 2) : Int32).toInt ≤ 400) ∧ ((sv_45 : Int32).toInt = (sv_37 : Int32).toInt + 4) := he_47
    refine W.eq (g2 := F0 m 54 ls []) rfl ?_
    have hP : va_P D classes [((Ga 0), .inr (11, [.ref (Ta 0), .ref (Ga 2), .ref (Ga 3), .ref (Ga 4), .int (Gv 0), .ref (Ga 5), .ref (Ga 6), .ref (Ga 7), .ref (Ga 8), .ref (Ga 9), .ref (Ga 10), .ref (Ga 11)])), ((Ta 0), .inr (10, [.ref (Ta 1), .int sv_45, .int (Tv 1), .int (Tv 2), .int (Tv 3), .int (Tv 4)])), ((Ta 1), .inl (tc 0, 400, .inl sv_46))] H := hP
    have hD : va_D A [((Ga 0), .inr (11, [.ref (Ta 0), .ref (Ga 2), .ref (Ga 3), .ref (Ga 4), .int (Gv 0), .ref (Ga 5), .ref (Ga 6), .ref (Ga 7), .ref (Ga 8), .ref (Ga 9), .ref (Ga 10), .ref (Ga 11)])), ((Ta 0), .inr (10, [.ref (Ta 1), .int sv_45, .int (Tv 1), .int (Tv 2), .int (Tv 3), .int (Tv 4)])), ((Ta 1), .inl (tc 0, 400, .inl sv_46))] := hD
    refine lv_aload_n hx hb dX11_feed_54 rfl (lv_at hl 0 rfl) ?_
    refine gf_X11_10 hx hb hts hown hK hP 0 rfl rfl dX11_feed_55 ?_
    refine gf_X11_94 hx hb hts hown hK hP 1 rfl rfl dX11_feed_58 ?_
    have ha_48 : 0 ≤ (sv_45 : Int32).toInt ∧ (sv_45 : Int32).toInt ≤ 400 ∧ 0 ≤ ((Tv 1) : Int32).toInt ∧ ((Tv 1) : Int32).toInt ≤ 400 ∧ 0 ≤ ((Tv 2) : Int32).toInt ∧ ((Tv 2) : Int32).toInt ≤ 400 := by
      have z_1 : ¬ (r_5 : Int32).toInt = (0 : Int32).toInt := fun z => c_7 (Int32.toInt_inj.mp z)
      have y_0 : (0 : Int32).toInt = 0 := by decide
      omega
    exact retI (v := sv_45) hx hb hr hlk (rfl) hP hD hS (sv_45, sv_46) ⟨_, rfl, trivial, ha_48⟩ [0, 1, 2] rfl rfl dX11_feed_61 (Nat.le_of_ble_eq_true rfl) (Nat.le_of_ble_eq_true rfl) rfl
  · skip
    refine lv_iconst (v := (-1)) hx hb dX11_feed_10 (by decide) ?_
    have ha_49 : 0 ≤ ((Tv 0) : Int32).toInt ∧ ((Tv 0) : Int32).toInt ≤ 400 ∧ 0 ≤ ((Tv 1) : Int32).toInt ∧ ((Tv 1) : Int32).toInt ≤ 400 ∧ 0 ≤ ((Tv 2) : Int32).toInt ∧ ((Tv 2) : Int32).toInt ≤ 400 := by
      have z_1 := congrArg Int32.toInt c_7
      have y_0 : (0 : Int32).toInt = 0 := by decide
      omega
    exact retI (v := (-1)) hx hb hr hlk (rfl) hP hD hS ((Tv 0), (Tf 1)) ⟨_, rfl, trivial, ha_49⟩ [0, 1, 2] rfl rfl dX11_feed_11 (Nat.le_of_ble_eq_true rfl) (Nat.le_of_ble_eq_true rfl) rfl
set_option maxHeartbeats 4000000 in
set_option maxRecDepth 100000 in
theorem ct_X11_end (l : Launch) (D : va_G) (tc : Nat → ClassId) (sk : (Nat → Nat) × (Nat → Nat)) (Ga : Nat → Nat) (Gv : Nat → Int32) (Ta : Nat → Nat) (Tv : Nat → Int32) (Tf : Nat → Nat → Int32) (x1 : Int32) (h_tape : 0 ≤ ((Tv 0) : Int32).toInt ∧ ((Tv 0) : Int32).toInt ≤ 400 ∧ 0 ≤ ((Tv 1) : Int32).toInt ∧ ((Tv 1) : Int32).toInt ≤ 400 ∧ 0 ≤ ((Tv 2) : Int32).toInt ∧ ((Tv 2) : Int32).toInt ≤ 400) : Ct l yX11_end cX11_end 2 (some .int) { frames := 0, cells := 0, slots := 0, locals := 0 } D tc sk [.ref (Ga 0), .int x1] [((Ga 0), .inr (11, [.ref (Ta 0), .ref (Ga 2), .ref (Ga 3), .ref (Ga 4), .int (Gv 0), .ref (Ga 5), .ref (Ga 6), .ref (Ga 7), .ref (Ga 8), .ref (Ga 9), .ref (Ga 10), .ref (Ga 11)])), ((Ta 0), .inr (10, [.ref (Ta 1), .int (Tv 0), .int (Tv 1), .int (Tv 2), .int (Tv 3), .int (Tv 4)])), ((Ta 1), .inl (tc 0, 400, .inl (Tf 1)))] (fun (v : Option Value) (oo0x1 : Int32) => ∃ r : Int32, v = some (.int r) ∧ (True) ∧ (0 ≤ (oo0x1 : Int32).toInt ∧ (oo0x1 : Int32).toInt ≤ 400 ∧ 0 ≤ ((Tv 1) : Int32).toInt ∧ ((Tv 1) : Int32).toInt ≤ 400 ∧ 0 ≤ ((Tv 2) : Int32).toInt ∧ ((Tv 2) : Int32).toInt ≤ 400)) (fun (oo0x1 : Int32) => [((Ga 0), .inr (11, [.ref (Ta 0), .ref (Ga 2), .ref (Ga 3), .ref (Ga 4), .int (Gv 0), .ref (Ga 5), .ref (Ga 6), .ref (Ga 7), .ref (Ga 8), .ref (Ga 9), .ref (Ga 10), .ref (Ga 11)])), ((Ta 0), .inr (10, [.ref (Ta 1), .int oo0x1, .int (Tv 1), .int (Tv 2), .int (Tv 3), .int (Tv 4)])), ((Ta 1), .inl (tc 0, 400, .inl (Tf 1)))]) 0 0 := by
  refine Ct.start (by decide) (Nat.le_of_ble_eq_true rfl) (fun p e s m below meth c A ls hx hb hr hlk hin hml hown hts hK hX hP hD hA hl hS => ?_)
  have hl : lv_has ls 2 [(0, .ref (Ga 0)), (1, .int x1)] := hl
  refine lv_iload_n hx hb dX11_end_0 rfl (lv_at hl 1 rfl) ?_
  refine lv_if_lt (tgt := 15) hx hb dX11_end_1 (by decide) (fun c_1 => ?_) (fun c_1 => ?_)
  · skip
    refine lv_iconst (v := (-1)) hx hb dX11_end_15 (by decide) ?_
    have ha_2 : 0 ≤ ((Tv 0) : Int32).toInt ∧ ((Tv 0) : Int32).toInt ≤ 400 ∧ 0 ≤ ((Tv 1) : Int32).toInt ∧ ((Tv 1) : Int32).toInt ≤ 400 ∧ 0 ≤ ((Tv 2) : Int32).toInt ∧ ((Tv 2) : Int32).toInt ≤ 400 := by
      have z_1 := Int32.lt_iff_toInt_lt.mp c_1
      have y_0 : (0 : Int32).toInt = 0 := by decide
      omega
    exact retI (v := (-1)) hx hb hr hlk (rfl) hP hD hS (Tv 0) ⟨_, rfl, trivial, ha_2⟩ [0, 1, 2] rfl rfl dX11_end_16 (Nat.le_of_ble_eq_true rfl) (Nat.le_of_ble_eq_true rfl) rfl
  · skip
    refine lv_iload_n hx hb dX11_end_4 rfl (lv_at hl 1 rfl) ?_
    refine lv_aload_n hx hb dX11_end_5 rfl (lv_at hl 0 rfl) ?_
    refine gf_X11_10 hx hb hts hown hK hP 0 rfl rfl dX11_end_6 ?_
    refine gf_X11_94 hx hb hts hown hK hP 1 rfl rfl dX11_end_9 ?_
    refine lv_icmp_le (tgt := 17) hx hb dX11_end_12 (by decide) (fun c_3 => ?_) (fun c_3 => ?_)
    · skip
      refine lv_aload_n hx hb dX11_end_17 rfl (lv_at hl 0 rfl) ?_
      refine gf_X11_10 hx hb hts hown hK hP 0 rfl rfl dX11_end_18 ?_
      refine lv_iload_n hx hb dX11_end_21 rfl (lv_at hl 1 rfl) ?_
      refine pf_X11_94 hx hb hts hown hK hP hD hS 1 rfl (Nat.le_of_ble_eq_true rfl) rfl rfl dX11_end_22 (fun H locs hP hD hS => ?_)
      have hP : va_P D classes [((Ga 0), .inr (11, [.ref (Ta 0), .ref (Ga 2), .ref (Ga 3), .ref (Ga 4), .int (Gv 0), .ref (Ga 5), .ref (Ga 6), .ref (Ga 7), .ref (Ga 8), .ref (Ga 9), .ref (Ga 10), .ref (Ga 11)])), ((Ta 0), .inr (10, [.ref (Ta 1), .int x1, .int (Tv 1), .int (Tv 2), .int (Tv 3), .int (Tv 4)])), ((Ta 1), .inl (tc 0, 400, .inl (Tf 1)))] H := hP
      have hD : va_D A [((Ga 0), .inr (11, [.ref (Ta 0), .ref (Ga 2), .ref (Ga 3), .ref (Ga 4), .int (Gv 0), .ref (Ga 5), .ref (Ga 6), .ref (Ga 7), .ref (Ga 8), .ref (Ga 9), .ref (Ga 10), .ref (Ga 11)])), ((Ta 0), .inr (10, [.ref (Ta 1), .int x1, .int (Tv 1), .int (Tv 2), .int (Tv 3), .int (Tv 4)])), ((Ta 1), .inl (tc 0, 400, .inl (Tf 1)))] := hD
      refine lv_iload_n hx hb dX11_end_25 rfl (lv_at hl 1 rfl) ?_
      have ha_4 : 0 ≤ (x1 : Int32).toInt ∧ (x1 : Int32).toInt ≤ 400 ∧ 0 ≤ ((Tv 1) : Int32).toInt ∧ ((Tv 1) : Int32).toInt ≤ 400 ∧ 0 ≤ ((Tv 2) : Int32).toInt ∧ ((Tv 2) : Int32).toInt ≤ 400 := by
        have z_1 := Int32.le_iff_toInt_le.mp (Int32.not_lt.mp c_1)
        have z_2 := Int32.le_iff_toInt_le.mp c_3
        have y_0 : (0 : Int32).toInt = 0 := by decide
        omega
      exact retI (v := x1) hx hb hr hlk (rfl) hP hD hS x1 ⟨_, rfl, trivial, ha_4⟩ [0, 1, 2] rfl rfl dX11_end_26 (Nat.le_of_ble_eq_true rfl) (Nat.le_of_ble_eq_true rfl) rfl
    · skip
      refine lv_iconst (v := (-1)) hx hb dX11_end_15 (by decide) ?_
      have ha_5 : 0 ≤ ((Tv 0) : Int32).toInt ∧ ((Tv 0) : Int32).toInt ≤ 400 ∧ 0 ≤ ((Tv 1) : Int32).toInt ∧ ((Tv 1) : Int32).toInt ≤ 400 ∧ 0 ≤ ((Tv 2) : Int32).toInt ∧ ((Tv 2) : Int32).toInt ≤ 400 := by
        have z_1 := Int32.le_iff_toInt_le.mp (Int32.not_lt.mp c_1)
        have z_2 := Int32.lt_iff_toInt_lt.mp (Int32.not_le.mp c_3)
        have y_0 : (0 : Int32).toInt = 0 := by decide
        omega
      exact retI (v := (-1)) hx hb hr hlk (rfl) hP hD hS (Tv 0) ⟨_, rfl, trivial, ha_5⟩ [0, 1, 2] rfl rfl dX11_end_16 (Nat.le_of_ble_eq_true rfl) (Nat.le_of_ble_eq_true rfl) rfl
set_option maxHeartbeats 4000000 in
set_option maxRecDepth 100000 in
theorem ct_X11_book (l : Launch) (D : va_G) (tc : Nat → ClassId) (sk : (Nat → Nat) × (Nat → Nat)) (Ga : Nat → Nat) (Gv : Nat → Int32) (Ta : Nat → Nat) (Tv : Nat → Int32) (Tf : Nat → Nat → Int32) (Wa : Nat → Nat) (Da : Nat → Nat) (Dv : Nat → Int32) (Df : Nat → Nat → Int32) (Sa : Nat → Nat) (Sv : Nat → Int32) (Aa : Nat → Nat) (Av : Nat → Int32) (Af : Nat → Nat → Int32) (Ba : Nat → Nat) (Bv : Nat → Int32) (Bf : Nat → Nat → Int32) (Na : Nat → Nat) (Nv : Nat → Int32) (Nf : Nat → Nat → Int32) (Pa : Nat → Nat) (Pv : Nat → Int32) (Pq : Nat → Nat → Option Nat) (h_tape : 0 ≤ ((Tv 0) : Int32).toInt ∧ ((Tv 0) : Int32).toInt ≤ 400 ∧ 0 ≤ ((Tv 1) : Int32).toInt ∧ ((Tv 1) : Int32).toInt ≤ 400 ∧ 0 ≤ ((Tv 2) : Int32).toInt ∧ ((Tv 2) : Int32).toInt ≤ 400) (h_bD : 0 ≤ ((Dv 3) : Int32).toInt ∧ ((Dv 3) : Int32).toInt ≤ 6) (h_bA : 0 ≤ ((Av 3) : Int32).toInt ∧ ((Av 3) : Int32).toInt ≤ 6) (h_bB : 0 ≤ ((Bv 3) : Int32).toInt ∧ ((Bv 3) : Int32).toInt ≤ 6) : Ct l yX11_book cX11_book 2 (some .int) { frames := 8, cells := 0, slots := 0, locals := 178 } D tc sk [.ref (Ga 0)] [((Ga 0), .inr (11, [.ref (Ta 0), .ref (Wa 0), .ref (Ga 3), .ref (Ga 4), .int (Gv 0), .ref (Sa 0), .ref (Aa 0), .ref (Pa 0), .ref (Ga 8), .ref (Ga 9), .ref (Ga 10), .ref (Ga 11)])), ((Ta 0), .inr (10, [.ref (Ta 1), .int (Tv 0), .int (Tv 1), .int (Tv 2), .int (Tv 3), .int (Tv 4)])), ((Ta 1), .inl (tc 0, 400, .inl (Tf 1))), ((Wa 0), .inr (0, [.ref (Da 0)])), ((Da 0), .inr (9, [.int (Dv 0), .int (Dv 1), .int (Dv 2), .int (Dv 3), .int (Dv 4), .int (Dv 5), .ref (Da 1), .ref (Da 2), .ref (Da 3), .ref (Da 4), .ref (Da 5), .ref (Da 6), .ref (Da 7), .ref (Da 8)])), ((Da 1), .inl (tc 0, 10, .inl (Df 1))), ((Da 2), .inl (tc 0, 10, .inl (Df 2))), ((Da 3), .inl (tc 0, 6, .inl (Df 3))), ((Da 4), .inl (tc 0, 6, .inl (Df 4))), ((Da 5), .inl (tc 0, 6, .inl (Df 5))), ((Da 6), .inl (tc 0, 6, .inl (Df 6))), ((Da 7), .inl (tc 0, 6, .inl (Df 7))), ((Da 8), .inl (tc 0, 6, .inl (Df 8))), ((Sa 0), .inr (8, [.ref (Aa 0), .ref (Ba 0), .ref (Na 0), .int (Sv 0), .int (Sv 1)])), ((Aa 0), .inr (9, [.int (Av 0), .int (Av 1), .int (Av 2), .int (Av 3), .int (Av 4), .int (Av 5), .ref (Aa 1), .ref (Aa 2), .ref (Aa 3), .ref (Aa 4), .ref (Aa 5), .ref (Aa 6), .ref (Aa 7), .ref (Aa 8)])), ((Aa 1), .inl (tc 0, 10, .inl (Af 1))), ((Aa 2), .inl (tc 0, 10, .inl (Af 2))), ((Aa 3), .inl (tc 0, 6, .inl (Af 3))), ((Aa 4), .inl (tc 0, 6, .inl (Af 4))), ((Aa 5), .inl (tc 0, 6, .inl (Af 5))), ((Aa 6), .inl (tc 0, 6, .inl (Af 6))), ((Aa 7), .inl (tc 0, 6, .inl (Af 7))), ((Aa 8), .inl (tc 0, 6, .inl (Af 8))), ((Ba 0), .inr (9, [.int (Bv 0), .int (Bv 1), .int (Bv 2), .int (Bv 3), .int (Bv 4), .int (Bv 5), .ref (Ba 1), .ref (Ba 2), .ref (Ba 3), .ref (Ba 4), .ref (Ba 5), .ref (Ba 6), .ref (Ba 7), .ref (Ba 8)])), ((Ba 1), .inl (tc 0, 10, .inl (Bf 1))), ((Ba 2), .inl (tc 0, 10, .inl (Bf 2))), ((Ba 3), .inl (tc 0, 6, .inl (Bf 3))), ((Ba 4), .inl (tc 0, 6, .inl (Bf 4))), ((Ba 5), .inl (tc 0, 6, .inl (Bf 5))), ((Ba 6), .inl (tc 0, 6, .inl (Bf 6))), ((Ba 7), .inl (tc 0, 6, .inl (Bf 7))), ((Ba 8), .inl (tc 0, 6, .inl (Bf 8))), ((Na 0), .inr (3, [.ref (Na 1), .ref (Na 2), .ref (Na 3), .int (Nv 0)])), ((Na 1), .inl (tc 0, 10, .inl (Nf 1))), ((Na 2), .inl (tc 0, 10, .inl (Nf 2))), ((Na 3), .inl (tc 0, 10, .inl (Nf 3))), ((Pa 0), .inr (5, [.ref (Pa 1), .int (Pv 0), .int (Pv 1)])), ((Pa 1), .inl (tc 5, 20, .inr (.inr (.inr (.inr (Pq 1))))))] (fun (v : Option Value) (u : (Int32) × (Int32) × (Int32) × (Int32) × (Int32) × (Int32) × (Int32) × (Int32) × (Nat → Int32) × (Nat → Int32) × (Nat → Int32) × (Nat → Int32) × (Nat → Int32) × (Nat → Int32) × (Nat → Int32) × (Nat → Int32) × (Int32) × (Int32) × (Int32) × (Int32) × (Int32) × (Int32) × (Nat → Int32) × (Nat → Int32) × (Nat → Int32) × (Nat → Int32) × (Nat → Int32) × (Nat → Int32) × (Nat → Int32) × (Nat → Int32) × (Int32) × (Int32) × (Int32) × (Int32) × (Int32) × (Int32) × (Nat → Int32) × (Nat → Int32) × (Nat → Int32) × (Nat → Int32) × (Nat → Int32) × (Nat → Int32) × (Nat → Int32) × (Nat → Int32) × (Int32) × (Int32)) => match u with | (oo0x1, oo0x2, oo0x3, oo0x4, oo0x5, oo0x6, oo0x7, oo0x8, oo0x9, oo0x10, oo0x11, oo0x12, oo0x13, oo0x14, oo0x15, oo0x16, oo0x17, oo0x18, oo0x19, oo0x20, oo0x21, oo0x22, oo0x23, oo0x24, oo0x25, oo0x26, oo0x27, oo0x28, oo0x29, oo0x30, oo0x31, oo0x32, oo0x33, oo0x34, oo0x35, oo0x36, oo0x37, oo0x38, oo0x39, oo0x40, oo0x41, oo0x42, oo0x43, oo0x44, oo0x45, oo0x46) => ∃ r : Int32, v = some (.int r) ∧ (True) ∧ (0 ≤ (0 : Int32).toInt ∧ (0 : Int32).toInt ≤ 400 ∧ 0 ≤ (oo0x1 : Int32).toInt ∧ (oo0x1 : Int32).toInt ≤ 400 ∧ 0 ≤ (oo0x2 : Int32).toInt ∧ (oo0x2 : Int32).toInt ≤ 400) ∧ (0 ≤ (oo0x8 : Int32).toInt ∧ (oo0x8 : Int32).toInt ≤ 6) ∧ (0 ≤ (oo0x20 : Int32).toInt ∧ (oo0x20 : Int32).toInt ≤ 6) ∧ (0 ≤ (oo0x34 : Int32).toInt ∧ (oo0x34 : Int32).toInt ≤ 6)) (fun (u : (Int32) × (Int32) × (Int32) × (Int32) × (Int32) × (Int32) × (Int32) × (Int32) × (Nat → Int32) × (Nat → Int32) × (Nat → Int32) × (Nat → Int32) × (Nat → Int32) × (Nat → Int32) × (Nat → Int32) × (Nat → Int32) × (Int32) × (Int32) × (Int32) × (Int32) × (Int32) × (Int32) × (Nat → Int32) × (Nat → Int32) × (Nat → Int32) × (Nat → Int32) × (Nat → Int32) × (Nat → Int32) × (Nat → Int32) × (Nat → Int32) × (Int32) × (Int32) × (Int32) × (Int32) × (Int32) × (Int32) × (Nat → Int32) × (Nat → Int32) × (Nat → Int32) × (Nat → Int32) × (Nat → Int32) × (Nat → Int32) × (Nat → Int32) × (Nat → Int32) × (Int32) × (Int32)) => match u with | (oo0x1, oo0x2, oo0x3, oo0x4, oo0x5, oo0x6, oo0x7, oo0x8, oo0x9, oo0x10, oo0x11, oo0x12, oo0x13, oo0x14, oo0x15, oo0x16, oo0x17, oo0x18, oo0x19, oo0x20, oo0x21, oo0x22, oo0x23, oo0x24, oo0x25, oo0x26, oo0x27, oo0x28, oo0x29, oo0x30, oo0x31, oo0x32, oo0x33, oo0x34, oo0x35, oo0x36, oo0x37, oo0x38, oo0x39, oo0x40, oo0x41, oo0x42, oo0x43, oo0x44, oo0x45, oo0x46) => [((Ga 0), .inr (11, [.ref (Ta 0), .ref (Wa 0), .ref (Ga 3), .ref (Ga 4), .int (Gv 0), .ref (Sa 0), .ref (Aa 0), .ref (Pa 0), .ref (Ga 8), .ref (Ga 9), .ref (Ga 10), .ref (Ga 11)])), ((Ta 0), .inr (10, [.ref (Ta 1), .int 0, .int oo0x1, .int oo0x2, .int oo0x3, .int oo0x4])), ((Ta 1), .inl (tc 0, 400, .inl (Tf 1))), ((Wa 0), .inr (0, [.ref (Da 0)])), ((Da 0), .inr (9, [.int oo0x5, .int oo0x6, .int oo0x7, .int oo0x8, .int 0, .int 0, .ref (Da 1), .ref (Da 2), .ref (Da 3), .ref (Da 4), .ref (Da 5), .ref (Da 6), .ref (Da 7), .ref (Da 8)])), ((Da 1), .inl (tc 0, 10, .inl oo0x9)), ((Da 2), .inl (tc 0, 10, .inl oo0x10)), ((Da 3), .inl (tc 0, 6, .inl oo0x11)), ((Da 4), .inl (tc 0, 6, .inl oo0x12)), ((Da 5), .inl (tc 0, 6, .inl oo0x13)), ((Da 6), .inl (tc 0, 6, .inl oo0x14)), ((Da 7), .inl (tc 0, 6, .inl oo0x15)), ((Da 8), .inl (tc 0, 6, .inl oo0x16)), ((Sa 0), .inr (8, [.ref (Aa 0), .ref (Ba 0), .ref (Na 0), .int (Sv 0), .int (Sv 1)])), ((Aa 0), .inr (9, [.int oo0x17, .int oo0x18, .int oo0x19, .int oo0x20, .int oo0x21, .int oo0x22, .ref (Aa 1), .ref (Aa 2), .ref (Aa 3), .ref (Aa 4), .ref (Aa 5), .ref (Aa 6), .ref (Aa 7), .ref (Aa 8)])), ((Aa 1), .inl (tc 0, 10, .inl oo0x23)), ((Aa 2), .inl (tc 0, 10, .inl oo0x24)), ((Aa 3), .inl (tc 0, 6, .inl oo0x25)), ((Aa 4), .inl (tc 0, 6, .inl oo0x26)), ((Aa 5), .inl (tc 0, 6, .inl oo0x27)), ((Aa 6), .inl (tc 0, 6, .inl oo0x28)), ((Aa 7), .inl (tc 0, 6, .inl oo0x29)), ((Aa 8), .inl (tc 0, 6, .inl oo0x30)), ((Ba 0), .inr (9, [.int oo0x31, .int oo0x32, .int oo0x33, .int oo0x34, .int oo0x35, .int oo0x36, .ref (Ba 1), .ref (Ba 2), .ref (Ba 3), .ref (Ba 4), .ref (Ba 5), .ref (Ba 6), .ref (Ba 7), .ref (Ba 8)])), ((Ba 1), .inl (tc 0, 10, .inl oo0x37)), ((Ba 2), .inl (tc 0, 10, .inl oo0x38)), ((Ba 3), .inl (tc 0, 6, .inl oo0x39)), ((Ba 4), .inl (tc 0, 6, .inl oo0x40)), ((Ba 5), .inl (tc 0, 6, .inl oo0x41)), ((Ba 6), .inl (tc 0, 6, .inl oo0x42)), ((Ba 7), .inl (tc 0, 6, .inl oo0x43)), ((Ba 8), .inl (tc 0, 6, .inl oo0x44)), ((Na 0), .inr (3, [.ref (Na 1), .ref (Na 2), .ref (Na 3), .int oo0x45])), ((Na 1), .inl (tc 0, 10, .inl (Nf 1))), ((Na 2), .inl (tc 0, 10, .inl (Nf 2))), ((Na 3), .inl (tc 0, 10, .inl (Nf 3))), ((Pa 0), .inr (5, [.ref (Pa 1), .int (Pv 0), .int oo0x46])), ((Pa 1), .inl (tc 5, 20, .inr (.inr (.inr (.inr (Pq 1))))))]) 0 0 := by
  refine Ct.start (by decide) (Nat.le_of_ble_eq_true rfl) (fun p e s m below meth c A ls hx hb hr hlk hin hml hown hts hK hX hP hD hA hl hS => ?_)
  have hl : lv_has ls 2 [(0, .ref (Ga 0))] := hl
  refine lv_aload_n hx hb dX11_book_0 rfl (lv_at hl 0 rfl) ?_
  refine gf_X11_19 hx hb hts hown hK hP 0 rfl rfl dX11_book_1 ?_
  refine lv_aload_n hx hb dX11_book_4 rfl (lv_at hl 0 rfl) ?_
  refine gf_X11_10 hx hb hts hown hK hP 0 rfl rfl dX11_book_5 ?_
  have ha_1 : 0 ≤ ((Tv 0) : Int32).toInt ∧ ((Tv 0) : Int32).toInt ≤ 400 ∧ 0 ≤ ((Tv 1) : Int32).toInt ∧ ((Tv 1) : Int32).toInt ≤ 400 ∧ 0 ≤ ((Tv 2) : Int32).toInt ∧ ((Tv 2) : Int32).toInt ≤ 400 := by
    omega
  have ha_2 : 0 ≤ ((Dv 3) : Int32).toInt ∧ ((Dv 3) : Int32).toInt ≤ 6 := by
    omega
  refine cV (a := (Wa 0)) (As := [.ref (Ta 0)]) (rest := []) (wr := [((Ga 0), .inr (11, [.ref (Ta 0), .ref (Wa 0), .ref (Ga 3), .ref (Ga 4), .int (Gv 0), .ref (Sa 0), .ref (Aa 0), .ref (Pa 0), .ref (Ga 8), .ref (Ga 9), .ref (Ga 10), .ref (Ga 11)])), ((Sa 0), .inr (8, [.ref (Aa 0), .ref (Ba 0), .ref (Na 0), .int (Sv 0), .int (Sv 1)])), ((Aa 0), .inr (9, [.int (Av 0), .int (Av 1), .int (Av 2), .int (Av 3), .int (Av 4), .int (Av 5), .ref (Aa 1), .ref (Aa 2), .ref (Aa 3), .ref (Aa 4), .ref (Aa 5), .ref (Aa 6), .ref (Aa 7), .ref (Aa 8)])), ((Aa 1), .inl (tc 0, 10, .inl (Af 1))), ((Aa 2), .inl (tc 0, 10, .inl (Af 2))), ((Aa 3), .inl (tc 0, 6, .inl (Af 3))), ((Aa 4), .inl (tc 0, 6, .inl (Af 4))), ((Aa 5), .inl (tc 0, 6, .inl (Af 5))), ((Aa 6), .inl (tc 0, 6, .inl (Af 6))), ((Aa 7), .inl (tc 0, 6, .inl (Af 7))), ((Aa 8), .inl (tc 0, 6, .inl (Af 8))), ((Ba 0), .inr (9, [.int (Bv 0), .int (Bv 1), .int (Bv 2), .int (Bv 3), .int (Bv 4), .int (Bv 5), .ref (Ba 1), .ref (Ba 2), .ref (Ba 3), .ref (Ba 4), .ref (Ba 5), .ref (Ba 6), .ref (Ba 7), .ref (Ba 8)])), ((Ba 1), .inl (tc 0, 10, .inl (Bf 1))), ((Ba 2), .inl (tc 0, 10, .inl (Bf 2))), ((Ba 3), .inl (tc 0, 6, .inl (Bf 3))), ((Ba 4), .inl (tc 0, 6, .inl (Bf 4))), ((Ba 5), .inl (tc 0, 6, .inl (Bf 5))), ((Ba 6), .inl (tc 0, 6, .inl (Bf 6))), ((Ba 7), .inl (tc 0, 6, .inl (Bf 7))), ((Ba 8), .inl (tc 0, 6, .inl (Bf 8))), ((Na 0), .inr (3, [.ref (Na 1), .ref (Na 2), .ref (Na 3), .int (Nv 0)])), ((Na 1), .inl (tc 0, 10, .inl (Nf 1))), ((Na 2), .inl (tc 0, 10, .inl (Nf 2))), ((Na 3), .inl (tc 0, 10, .inl (Nf 3))), ((Pa 0), .inr (5, [.ref (Pa 1), .int (Pv 0), .int (Pv 1)])), ((Pa 1), .inl (tc 5, 20, .inr (.inr (.inr (.inr (Pq 1))))))]) ⟨hx, hb, hml, hown, hts⟩ hK hX hA (ct_X0_read l D tc sk Wa Da Dv Df Ta Tv Tf ha_1 ha_2) k_466 k_463 k_464 k_465 k_97 pl_X0_read ⟨Nat.le_of_ble_eq_true rfl, Nat.le_of_ble_eq_true rfl⟩ rfl rfl (va_recv hK hP (ci := 0) (q0 := 3) rfl rfl) hP hD hS [3, 4, 5, 6, 7, 8, 9, 10, 11, 12, 1, 2] [0, 13, 14, 15, 16, 17, 18, 19, 20, 21, 22, 23, 24, 25, 26, 27, 28, 29, 30, 31, 32, 33, 34, 35, 36, 37] rfl rfl rfl rfl rfl (by decide) rfl hl.1 rfl (Nat.le_of_ble_eq_true rfl) dX11_book_8 ⟨Nat.le_of_ble_eq_true rfl, Nat.le_of_ble_eq_true rfl⟩ (fun v_3 u_4 H locs hv_5 hP hD hS => ?_)
  obtain ⟨sv_6, sv_7, sv_8, sv_9, sv_10, sv_11, sv_12, sv_13, sv_14, sv_15, sv_16, sv_17, sv_18, sv_19, sv_20, sv_21⟩ := u_4
  obtain ⟨r_22, rfl, he_23⟩ := hv_5
  have he_23 : (True) ∧ (0 ≤ ((Tv 0) : Int32).toInt ∧ ((Tv 0) : Int32).toInt ≤ 400 ∧ 0 ≤ (sv_18 : Int32).toInt ∧ (sv_18 : Int32).toInt ≤ 400 ∧ 0 ≤ (sv_19 : Int32).toInt ∧ (sv_19 : Int32).toInt ≤ 400) ∧ (0 ≤ (sv_9 : Int32).toInt ∧ (sv_9 : Int32).toInt ≤ 6) := he_23
  refine W.eq (g2 := F0 m 11 ls [.int r_22]) rfl ?_
  have hP : va_P D classes [((Ga 0), .inr (11, [.ref (Ta 0), .ref (Wa 0), .ref (Ga 3), .ref (Ga 4), .int (Gv 0), .ref (Sa 0), .ref (Aa 0), .ref (Pa 0), .ref (Ga 8), .ref (Ga 9), .ref (Ga 10), .ref (Ga 11)])), ((Sa 0), .inr (8, [.ref (Aa 0), .ref (Ba 0), .ref (Na 0), .int (Sv 0), .int (Sv 1)])), ((Aa 0), .inr (9, [.int (Av 0), .int (Av 1), .int (Av 2), .int (Av 3), .int (Av 4), .int (Av 5), .ref (Aa 1), .ref (Aa 2), .ref (Aa 3), .ref (Aa 4), .ref (Aa 5), .ref (Aa 6), .ref (Aa 7), .ref (Aa 8)])), ((Aa 1), .inl (tc 0, 10, .inl (Af 1))), ((Aa 2), .inl (tc 0, 10, .inl (Af 2))), ((Aa 3), .inl (tc 0, 6, .inl (Af 3))), ((Aa 4), .inl (tc 0, 6, .inl (Af 4))), ((Aa 5), .inl (tc 0, 6, .inl (Af 5))), ((Aa 6), .inl (tc 0, 6, .inl (Af 6))), ((Aa 7), .inl (tc 0, 6, .inl (Af 7))), ((Aa 8), .inl (tc 0, 6, .inl (Af 8))), ((Ba 0), .inr (9, [.int (Bv 0), .int (Bv 1), .int (Bv 2), .int (Bv 3), .int (Bv 4), .int (Bv 5), .ref (Ba 1), .ref (Ba 2), .ref (Ba 3), .ref (Ba 4), .ref (Ba 5), .ref (Ba 6), .ref (Ba 7), .ref (Ba 8)])), ((Ba 1), .inl (tc 0, 10, .inl (Bf 1))), ((Ba 2), .inl (tc 0, 10, .inl (Bf 2))), ((Ba 3), .inl (tc 0, 6, .inl (Bf 3))), ((Ba 4), .inl (tc 0, 6, .inl (Bf 4))), ((Ba 5), .inl (tc 0, 6, .inl (Bf 5))), ((Ba 6), .inl (tc 0, 6, .inl (Bf 6))), ((Ba 7), .inl (tc 0, 6, .inl (Bf 7))), ((Ba 8), .inl (tc 0, 6, .inl (Bf 8))), ((Na 0), .inr (3, [.ref (Na 1), .ref (Na 2), .ref (Na 3), .int (Nv 0)])), ((Na 1), .inl (tc 0, 10, .inl (Nf 1))), ((Na 2), .inl (tc 0, 10, .inl (Nf 2))), ((Na 3), .inl (tc 0, 10, .inl (Nf 3))), ((Pa 0), .inr (5, [.ref (Pa 1), .int (Pv 0), .int (Pv 1)])), ((Pa 1), .inl (tc 5, 20, .inr (.inr (.inr (.inr (Pq 1)))))), ((Wa 0), .inr (0, [.ref (Da 0)])), ((Da 0), .inr (9, [.int sv_6, .int sv_7, .int sv_8, .int sv_9, .int 0, .int 0, .ref (Da 1), .ref (Da 2), .ref (Da 3), .ref (Da 4), .ref (Da 5), .ref (Da 6), .ref (Da 7), .ref (Da 8)])), ((Da 1), .inl (tc 0, 10, .inl sv_10)), ((Da 2), .inl (tc 0, 10, .inl sv_11)), ((Da 3), .inl (tc 0, 6, .inl sv_12)), ((Da 4), .inl (tc 0, 6, .inl sv_13)), ((Da 5), .inl (tc 0, 6, .inl sv_14)), ((Da 6), .inl (tc 0, 6, .inl sv_15)), ((Da 7), .inl (tc 0, 6, .inl sv_16)), ((Da 8), .inl (tc 0, 6, .inl sv_17)), ((Ta 0), .inr (10, [.ref (Ta 1), .int (Tv 0), .int sv_18, .int sv_19, .int sv_20, .int sv_21])), ((Ta 1), .inl (tc 0, 400, .inl (Tf 1)))] H := hP
  have hD : va_D A [((Ga 0), .inr (11, [.ref (Ta 0), .ref (Wa 0), .ref (Ga 3), .ref (Ga 4), .int (Gv 0), .ref (Sa 0), .ref (Aa 0), .ref (Pa 0), .ref (Ga 8), .ref (Ga 9), .ref (Ga 10), .ref (Ga 11)])), ((Sa 0), .inr (8, [.ref (Aa 0), .ref (Ba 0), .ref (Na 0), .int (Sv 0), .int (Sv 1)])), ((Aa 0), .inr (9, [.int (Av 0), .int (Av 1), .int (Av 2), .int (Av 3), .int (Av 4), .int (Av 5), .ref (Aa 1), .ref (Aa 2), .ref (Aa 3), .ref (Aa 4), .ref (Aa 5), .ref (Aa 6), .ref (Aa 7), .ref (Aa 8)])), ((Aa 1), .inl (tc 0, 10, .inl (Af 1))), ((Aa 2), .inl (tc 0, 10, .inl (Af 2))), ((Aa 3), .inl (tc 0, 6, .inl (Af 3))), ((Aa 4), .inl (tc 0, 6, .inl (Af 4))), ((Aa 5), .inl (tc 0, 6, .inl (Af 5))), ((Aa 6), .inl (tc 0, 6, .inl (Af 6))), ((Aa 7), .inl (tc 0, 6, .inl (Af 7))), ((Aa 8), .inl (tc 0, 6, .inl (Af 8))), ((Ba 0), .inr (9, [.int (Bv 0), .int (Bv 1), .int (Bv 2), .int (Bv 3), .int (Bv 4), .int (Bv 5), .ref (Ba 1), .ref (Ba 2), .ref (Ba 3), .ref (Ba 4), .ref (Ba 5), .ref (Ba 6), .ref (Ba 7), .ref (Ba 8)])), ((Ba 1), .inl (tc 0, 10, .inl (Bf 1))), ((Ba 2), .inl (tc 0, 10, .inl (Bf 2))), ((Ba 3), .inl (tc 0, 6, .inl (Bf 3))), ((Ba 4), .inl (tc 0, 6, .inl (Bf 4))), ((Ba 5), .inl (tc 0, 6, .inl (Bf 5))), ((Ba 6), .inl (tc 0, 6, .inl (Bf 6))), ((Ba 7), .inl (tc 0, 6, .inl (Bf 7))), ((Ba 8), .inl (tc 0, 6, .inl (Bf 8))), ((Na 0), .inr (3, [.ref (Na 1), .ref (Na 2), .ref (Na 3), .int (Nv 0)])), ((Na 1), .inl (tc 0, 10, .inl (Nf 1))), ((Na 2), .inl (tc 0, 10, .inl (Nf 2))), ((Na 3), .inl (tc 0, 10, .inl (Nf 3))), ((Pa 0), .inr (5, [.ref (Pa 1), .int (Pv 0), .int (Pv 1)])), ((Pa 1), .inl (tc 5, 20, .inr (.inr (.inr (.inr (Pq 1)))))), ((Wa 0), .inr (0, [.ref (Da 0)])), ((Da 0), .inr (9, [.int sv_6, .int sv_7, .int sv_8, .int sv_9, .int 0, .int 0, .ref (Da 1), .ref (Da 2), .ref (Da 3), .ref (Da 4), .ref (Da 5), .ref (Da 6), .ref (Da 7), .ref (Da 8)])), ((Da 1), .inl (tc 0, 10, .inl sv_10)), ((Da 2), .inl (tc 0, 10, .inl sv_11)), ((Da 3), .inl (tc 0, 6, .inl sv_12)), ((Da 4), .inl (tc 0, 6, .inl sv_13)), ((Da 5), .inl (tc 0, 6, .inl sv_14)), ((Da 6), .inl (tc 0, 6, .inl sv_15)), ((Da 7), .inl (tc 0, 6, .inl sv_16)), ((Da 8), .inl (tc 0, 6, .inl sv_17)), ((Ta 0), .inr (10, [.ref (Ta 1), .int (Tv 0), .int sv_18, .int sv_19, .int sv_20, .int sv_21])), ((Ta 1), .inl (tc 0, 400, .inl (Tf 1)))] := hD
  refine lv_istore_n (lv' := [(1, .int r_22), (0, .ref (Ga 0))]) hx hb dX11_book_11 rfl hl (by decide) rfl (fun ls hl => ?_)
  refine lv_aload_n hx hb dX11_book_12 rfl (lv_at hl 1 rfl) ?_
  refine gf_X11_10 hx hb hts hown hK hP 0 rfl rfl dX11_book_13 ?_
  refine lv_iconst (v := 0) hx hb dX11_book_16 (by decide) ?_
  refine pf_X11_94 hx hb hts hown hK hP hD hS 36 rfl (Nat.le_of_ble_eq_true rfl) rfl rfl dX11_book_17 (fun H locs hP hD hS => ?_)
  have hP : va_P D classes [((Ga 0), .inr (11, [.ref (Ta 0), .ref (Wa 0), .ref (Ga 3), .ref (Ga 4), .int (Gv 0), .ref (Sa 0), .ref (Aa 0), .ref (Pa 0), .ref (Ga 8), .ref (Ga 9), .ref (Ga 10), .ref (Ga 11)])), ((Sa 0), .inr (8, [.ref (Aa 0), .ref (Ba 0), .ref (Na 0), .int (Sv 0), .int (Sv 1)])), ((Aa 0), .inr (9, [.int (Av 0), .int (Av 1), .int (Av 2), .int (Av 3), .int (Av 4), .int (Av 5), .ref (Aa 1), .ref (Aa 2), .ref (Aa 3), .ref (Aa 4), .ref (Aa 5), .ref (Aa 6), .ref (Aa 7), .ref (Aa 8)])), ((Aa 1), .inl (tc 0, 10, .inl (Af 1))), ((Aa 2), .inl (tc 0, 10, .inl (Af 2))), ((Aa 3), .inl (tc 0, 6, .inl (Af 3))), ((Aa 4), .inl (tc 0, 6, .inl (Af 4))), ((Aa 5), .inl (tc 0, 6, .inl (Af 5))), ((Aa 6), .inl (tc 0, 6, .inl (Af 6))), ((Aa 7), .inl (tc 0, 6, .inl (Af 7))), ((Aa 8), .inl (tc 0, 6, .inl (Af 8))), ((Ba 0), .inr (9, [.int (Bv 0), .int (Bv 1), .int (Bv 2), .int (Bv 3), .int (Bv 4), .int (Bv 5), .ref (Ba 1), .ref (Ba 2), .ref (Ba 3), .ref (Ba 4), .ref (Ba 5), .ref (Ba 6), .ref (Ba 7), .ref (Ba 8)])), ((Ba 1), .inl (tc 0, 10, .inl (Bf 1))), ((Ba 2), .inl (tc 0, 10, .inl (Bf 2))), ((Ba 3), .inl (tc 0, 6, .inl (Bf 3))), ((Ba 4), .inl (tc 0, 6, .inl (Bf 4))), ((Ba 5), .inl (tc 0, 6, .inl (Bf 5))), ((Ba 6), .inl (tc 0, 6, .inl (Bf 6))), ((Ba 7), .inl (tc 0, 6, .inl (Bf 7))), ((Ba 8), .inl (tc 0, 6, .inl (Bf 8))), ((Na 0), .inr (3, [.ref (Na 1), .ref (Na 2), .ref (Na 3), .int (Nv 0)])), ((Na 1), .inl (tc 0, 10, .inl (Nf 1))), ((Na 2), .inl (tc 0, 10, .inl (Nf 2))), ((Na 3), .inl (tc 0, 10, .inl (Nf 3))), ((Pa 0), .inr (5, [.ref (Pa 1), .int (Pv 0), .int (Pv 1)])), ((Pa 1), .inl (tc 5, 20, .inr (.inr (.inr (.inr (Pq 1)))))), ((Wa 0), .inr (0, [.ref (Da 0)])), ((Da 0), .inr (9, [.int sv_6, .int sv_7, .int sv_8, .int sv_9, .int 0, .int 0, .ref (Da 1), .ref (Da 2), .ref (Da 3), .ref (Da 4), .ref (Da 5), .ref (Da 6), .ref (Da 7), .ref (Da 8)])), ((Da 1), .inl (tc 0, 10, .inl sv_10)), ((Da 2), .inl (tc 0, 10, .inl sv_11)), ((Da 3), .inl (tc 0, 6, .inl sv_12)), ((Da 4), .inl (tc 0, 6, .inl sv_13)), ((Da 5), .inl (tc 0, 6, .inl sv_14)), ((Da 6), .inl (tc 0, 6, .inl sv_15)), ((Da 7), .inl (tc 0, 6, .inl sv_16)), ((Da 8), .inl (tc 0, 6, .inl sv_17)), ((Ta 0), .inr (10, [.ref (Ta 1), .int 0, .int sv_18, .int sv_19, .int sv_20, .int sv_21])), ((Ta 1), .inl (tc 0, 400, .inl (Tf 1)))] H := hP
  have hD : va_D A [((Ga 0), .inr (11, [.ref (Ta 0), .ref (Wa 0), .ref (Ga 3), .ref (Ga 4), .int (Gv 0), .ref (Sa 0), .ref (Aa 0), .ref (Pa 0), .ref (Ga 8), .ref (Ga 9), .ref (Ga 10), .ref (Ga 11)])), ((Sa 0), .inr (8, [.ref (Aa 0), .ref (Ba 0), .ref (Na 0), .int (Sv 0), .int (Sv 1)])), ((Aa 0), .inr (9, [.int (Av 0), .int (Av 1), .int (Av 2), .int (Av 3), .int (Av 4), .int (Av 5), .ref (Aa 1), .ref (Aa 2), .ref (Aa 3), .ref (Aa 4), .ref (Aa 5), .ref (Aa 6), .ref (Aa 7), .ref (Aa 8)])), ((Aa 1), .inl (tc 0, 10, .inl (Af 1))), ((Aa 2), .inl (tc 0, 10, .inl (Af 2))), ((Aa 3), .inl (tc 0, 6, .inl (Af 3))), ((Aa 4), .inl (tc 0, 6, .inl (Af 4))), ((Aa 5), .inl (tc 0, 6, .inl (Af 5))), ((Aa 6), .inl (tc 0, 6, .inl (Af 6))), ((Aa 7), .inl (tc 0, 6, .inl (Af 7))), ((Aa 8), .inl (tc 0, 6, .inl (Af 8))), ((Ba 0), .inr (9, [.int (Bv 0), .int (Bv 1), .int (Bv 2), .int (Bv 3), .int (Bv 4), .int (Bv 5), .ref (Ba 1), .ref (Ba 2), .ref (Ba 3), .ref (Ba 4), .ref (Ba 5), .ref (Ba 6), .ref (Ba 7), .ref (Ba 8)])), ((Ba 1), .inl (tc 0, 10, .inl (Bf 1))), ((Ba 2), .inl (tc 0, 10, .inl (Bf 2))), ((Ba 3), .inl (tc 0, 6, .inl (Bf 3))), ((Ba 4), .inl (tc 0, 6, .inl (Bf 4))), ((Ba 5), .inl (tc 0, 6, .inl (Bf 5))), ((Ba 6), .inl (tc 0, 6, .inl (Bf 6))), ((Ba 7), .inl (tc 0, 6, .inl (Bf 7))), ((Ba 8), .inl (tc 0, 6, .inl (Bf 8))), ((Na 0), .inr (3, [.ref (Na 1), .ref (Na 2), .ref (Na 3), .int (Nv 0)])), ((Na 1), .inl (tc 0, 10, .inl (Nf 1))), ((Na 2), .inl (tc 0, 10, .inl (Nf 2))), ((Na 3), .inl (tc 0, 10, .inl (Nf 3))), ((Pa 0), .inr (5, [.ref (Pa 1), .int (Pv 0), .int (Pv 1)])), ((Pa 1), .inl (tc 5, 20, .inr (.inr (.inr (.inr (Pq 1)))))), ((Wa 0), .inr (0, [.ref (Da 0)])), ((Da 0), .inr (9, [.int sv_6, .int sv_7, .int sv_8, .int sv_9, .int 0, .int 0, .ref (Da 1), .ref (Da 2), .ref (Da 3), .ref (Da 4), .ref (Da 5), .ref (Da 6), .ref (Da 7), .ref (Da 8)])), ((Da 1), .inl (tc 0, 10, .inl sv_10)), ((Da 2), .inl (tc 0, 10, .inl sv_11)), ((Da 3), .inl (tc 0, 6, .inl sv_12)), ((Da 4), .inl (tc 0, 6, .inl sv_13)), ((Da 5), .inl (tc 0, 6, .inl sv_14)), ((Da 6), .inl (tc 0, 6, .inl sv_15)), ((Da 7), .inl (tc 0, 6, .inl sv_16)), ((Da 8), .inl (tc 0, 6, .inl sv_17)), ((Ta 0), .inr (10, [.ref (Ta 1), .int 0, .int sv_18, .int sv_19, .int sv_20, .int sv_21])), ((Ta 1), .inl (tc 0, 400, .inl (Tf 1)))] := hD
  refine lv_iload_n hx hb dX11_book_20 rfl (lv_at hl 0 rfl) ?_
  refine lv_if_eq (tgt := 29) hx hb dX11_book_21 (by decide) (fun c_24 => ?_) (fun c_24 => ?_)
  · skip
    refine lv_aload_n hx hb dX11_book_29 rfl (lv_at hl 1 rfl) ?_
    refine gf_X11_43 hx hb hts hown hK hP 0 rfl rfl dX11_book_30 ?_
    refine gf_X11_101 hx hb hts hown hK hP 1 rfl rfl dX11_book_33 ?_
    refine lv_aload_n hx hb dX11_book_36 rfl (lv_at hl 1 rfl) ?_
    refine gf_X11_19 hx hb hts hown hK hP 0 rfl rfl dX11_book_37 ?_
    refine gf_X11_104 hx hb hts hown hK hP 26 rfl rfl dX11_book_40 ?_
    refine cV (a := (Ba 0)) (As := [.ref (Da 0)]) (rest := []) (wr := [((Ga 0), .inr (11, [.ref (Ta 0), .ref (Wa 0), .ref (Ga 3), .ref (Ga 4), .int (Gv 0), .ref (Sa 0), .ref (Aa 0), .ref (Pa 0), .ref (Ga 8), .ref (Ga 9), .ref (Ga 10), .ref (Ga 11)])), ((Sa 0), .inr (8, [.ref (Aa 0), .ref (Ba 0), .ref (Na 0), .int (Sv 0), .int (Sv 1)])), ((Aa 0), .inr (9, [.int (Av 0), .int (Av 1), .int (Av 2), .int (Av 3), .int (Av 4), .int (Av 5), .ref (Aa 1), .ref (Aa 2), .ref (Aa 3), .ref (Aa 4), .ref (Aa 5), .ref (Aa 6), .ref (Aa 7), .ref (Aa 8)])), ((Aa 1), .inl (tc 0, 10, .inl (Af 1))), ((Aa 2), .inl (tc 0, 10, .inl (Af 2))), ((Aa 3), .inl (tc 0, 6, .inl (Af 3))), ((Aa 4), .inl (tc 0, 6, .inl (Af 4))), ((Aa 5), .inl (tc 0, 6, .inl (Af 5))), ((Aa 6), .inl (tc 0, 6, .inl (Af 6))), ((Aa 7), .inl (tc 0, 6, .inl (Af 7))), ((Aa 8), .inl (tc 0, 6, .inl (Af 8))), ((Na 0), .inr (3, [.ref (Na 1), .ref (Na 2), .ref (Na 3), .int (Nv 0)])), ((Na 1), .inl (tc 0, 10, .inl (Nf 1))), ((Na 2), .inl (tc 0, 10, .inl (Nf 2))), ((Na 3), .inl (tc 0, 10, .inl (Nf 3))), ((Pa 0), .inr (5, [.ref (Pa 1), .int (Pv 0), .int (Pv 1)])), ((Pa 1), .inl (tc 5, 20, .inr (.inr (.inr (.inr (Pq 1)))))), ((Wa 0), .inr (0, [.ref (Da 0)])), ((Ta 0), .inr (10, [.ref (Ta 1), .int 0, .int sv_18, .int sv_19, .int sv_20, .int sv_21])), ((Ta 1), .inl (tc 0, 400, .inl (Tf 1)))]) ⟨hx, hb, hml, hown, hts⟩ hK hX hA (ct_X9_copyFrom l D tc sk Ba Bv Bf Da (fun k => ([sv_6, sv_7, sv_8, sv_9, 0, 0] : List (Int32)).getD k 0) (fun k => ([(fun _ => 0), sv_10, sv_11, sv_12, sv_13, sv_14, sv_15, sv_16, sv_17] : List (Nat → Int32)).getD k (fun _ => 0))) k_599 k_596 k_597 k_598 k_98 pl_X9_copyFrom ⟨Nat.le_of_ble_eq_true rfl, Nat.le_of_ble_eq_true rfl⟩ rfl rfl (va_recv hK hP (ci := 9) (q0 := 11) rfl rfl) hP hD hS [11, 12, 13, 14, 15, 16, 17, 18, 19, 27, 28, 29, 30, 31, 32, 33, 34, 35] [0, 1, 2, 3, 4, 5, 6, 7, 8, 9, 10, 20, 21, 22, 23, 24, 25, 26, 36, 37] rfl rfl rfl rfl rfl (by decide) rfl hl.1 rfl (Nat.le_of_ble_eq_true rfl) dX11_book_43 ⟨Nat.le_of_ble_eq_true rfl, Nat.le_of_ble_eq_true rfl⟩ (fun v_25 u_26 H locs hv_27 hP hD hS => ?_)
    obtain ⟨sv_28, sv_29, sv_30, sv_31, sv_32, sv_33, sv_34, sv_35⟩ := u_26
    obtain rfl : v_25 = none := hv_27
    refine W.eq (g2 := F0 m 46 ls []) rfl ?_
    have hP : va_P D classes [((Ga 0), .inr (11, [.ref (Ta 0), .ref (Wa 0), .ref (Ga 3), .ref (Ga 4), .int (Gv 0), .ref (Sa 0), .ref (Aa 0), .ref (Pa 0), .ref (Ga 8), .ref (Ga 9), .ref (Ga 10), .ref (Ga 11)])), ((Sa 0), .inr (8, [.ref (Aa 0), .ref (Ba 0), .ref (Na 0), .int (Sv 0), .int (Sv 1)])), ((Aa 0), .inr (9, [.int (Av 0), .int (Av 1), .int (Av 2), .int (Av 3), .int (Av 4), .int (Av 5), .ref (Aa 1), .ref (Aa 2), .ref (Aa 3), .ref (Aa 4), .ref (Aa 5), .ref (Aa 6), .ref (Aa 7), .ref (Aa 8)])), ((Aa 1), .inl (tc 0, 10, .inl (Af 1))), ((Aa 2), .inl (tc 0, 10, .inl (Af 2))), ((Aa 3), .inl (tc 0, 6, .inl (Af 3))), ((Aa 4), .inl (tc 0, 6, .inl (Af 4))), ((Aa 5), .inl (tc 0, 6, .inl (Af 5))), ((Aa 6), .inl (tc 0, 6, .inl (Af 6))), ((Aa 7), .inl (tc 0, 6, .inl (Af 7))), ((Aa 8), .inl (tc 0, 6, .inl (Af 8))), ((Na 0), .inr (3, [.ref (Na 1), .ref (Na 2), .ref (Na 3), .int (Nv 0)])), ((Na 1), .inl (tc 0, 10, .inl (Nf 1))), ((Na 2), .inl (tc 0, 10, .inl (Nf 2))), ((Na 3), .inl (tc 0, 10, .inl (Nf 3))), ((Pa 0), .inr (5, [.ref (Pa 1), .int (Pv 0), .int (Pv 1)])), ((Pa 1), .inl (tc 5, 20, .inr (.inr (.inr (.inr (Pq 1)))))), ((Wa 0), .inr (0, [.ref (Da 0)])), ((Ta 0), .inr (10, [.ref (Ta 1), .int 0, .int sv_18, .int sv_19, .int sv_20, .int sv_21])), ((Ta 1), .inl (tc 0, 400, .inl (Tf 1))), ((Ba 0), .inr (9, [.int sv_6, .int sv_7, .int sv_8, .int sv_9, .int 0, .int 0, .ref (Ba 1), .ref (Ba 2), .ref (Ba 3), .ref (Ba 4), .ref (Ba 5), .ref (Ba 6), .ref (Ba 7), .ref (Ba 8)])), ((Ba 1), .inl (tc 0, 10, .inl sv_28)), ((Ba 2), .inl (tc 0, 10, .inl sv_29)), ((Ba 3), .inl (tc 0, 6, .inl sv_30)), ((Ba 4), .inl (tc 0, 6, .inl sv_31)), ((Ba 5), .inl (tc 0, 6, .inl sv_32)), ((Ba 6), .inl (tc 0, 6, .inl sv_33)), ((Ba 7), .inl (tc 0, 6, .inl sv_34)), ((Ba 8), .inl (tc 0, 6, .inl sv_35)), ((Da 0), .inr (9, [.int sv_6, .int sv_7, .int sv_8, .int sv_9, .int 0, .int 0, .ref (Da 1), .ref (Da 2), .ref (Da 3), .ref (Da 4), .ref (Da 5), .ref (Da 6), .ref (Da 7), .ref (Da 8)])), ((Da 1), .inl (tc 0, 10, .inl sv_10)), ((Da 2), .inl (tc 0, 10, .inl sv_11)), ((Da 3), .inl (tc 0, 6, .inl sv_12)), ((Da 4), .inl (tc 0, 6, .inl sv_13)), ((Da 5), .inl (tc 0, 6, .inl sv_14)), ((Da 6), .inl (tc 0, 6, .inl sv_15)), ((Da 7), .inl (tc 0, 6, .inl sv_16)), ((Da 8), .inl (tc 0, 6, .inl sv_17))] H := hP
    have hD : va_D A [((Ga 0), .inr (11, [.ref (Ta 0), .ref (Wa 0), .ref (Ga 3), .ref (Ga 4), .int (Gv 0), .ref (Sa 0), .ref (Aa 0), .ref (Pa 0), .ref (Ga 8), .ref (Ga 9), .ref (Ga 10), .ref (Ga 11)])), ((Sa 0), .inr (8, [.ref (Aa 0), .ref (Ba 0), .ref (Na 0), .int (Sv 0), .int (Sv 1)])), ((Aa 0), .inr (9, [.int (Av 0), .int (Av 1), .int (Av 2), .int (Av 3), .int (Av 4), .int (Av 5), .ref (Aa 1), .ref (Aa 2), .ref (Aa 3), .ref (Aa 4), .ref (Aa 5), .ref (Aa 6), .ref (Aa 7), .ref (Aa 8)])), ((Aa 1), .inl (tc 0, 10, .inl (Af 1))), ((Aa 2), .inl (tc 0, 10, .inl (Af 2))), ((Aa 3), .inl (tc 0, 6, .inl (Af 3))), ((Aa 4), .inl (tc 0, 6, .inl (Af 4))), ((Aa 5), .inl (tc 0, 6, .inl (Af 5))), ((Aa 6), .inl (tc 0, 6, .inl (Af 6))), ((Aa 7), .inl (tc 0, 6, .inl (Af 7))), ((Aa 8), .inl (tc 0, 6, .inl (Af 8))), ((Na 0), .inr (3, [.ref (Na 1), .ref (Na 2), .ref (Na 3), .int (Nv 0)])), ((Na 1), .inl (tc 0, 10, .inl (Nf 1))), ((Na 2), .inl (tc 0, 10, .inl (Nf 2))), ((Na 3), .inl (tc 0, 10, .inl (Nf 3))), ((Pa 0), .inr (5, [.ref (Pa 1), .int (Pv 0), .int (Pv 1)])), ((Pa 1), .inl (tc 5, 20, .inr (.inr (.inr (.inr (Pq 1)))))), ((Wa 0), .inr (0, [.ref (Da 0)])), ((Ta 0), .inr (10, [.ref (Ta 1), .int 0, .int sv_18, .int sv_19, .int sv_20, .int sv_21])), ((Ta 1), .inl (tc 0, 400, .inl (Tf 1))), ((Ba 0), .inr (9, [.int sv_6, .int sv_7, .int sv_8, .int sv_9, .int 0, .int 0, .ref (Ba 1), .ref (Ba 2), .ref (Ba 3), .ref (Ba 4), .ref (Ba 5), .ref (Ba 6), .ref (Ba 7), .ref (Ba 8)])), ((Ba 1), .inl (tc 0, 10, .inl sv_28)), ((Ba 2), .inl (tc 0, 10, .inl sv_29)), ((Ba 3), .inl (tc 0, 6, .inl sv_30)), ((Ba 4), .inl (tc 0, 6, .inl sv_31)), ((Ba 5), .inl (tc 0, 6, .inl sv_32)), ((Ba 6), .inl (tc 0, 6, .inl sv_33)), ((Ba 7), .inl (tc 0, 6, .inl sv_34)), ((Ba 8), .inl (tc 0, 6, .inl sv_35)), ((Da 0), .inr (9, [.int sv_6, .int sv_7, .int sv_8, .int sv_9, .int 0, .int 0, .ref (Da 1), .ref (Da 2), .ref (Da 3), .ref (Da 4), .ref (Da 5), .ref (Da 6), .ref (Da 7), .ref (Da 8)])), ((Da 1), .inl (tc 0, 10, .inl sv_10)), ((Da 2), .inl (tc 0, 10, .inl sv_11)), ((Da 3), .inl (tc 0, 6, .inl sv_12)), ((Da 4), .inl (tc 0, 6, .inl sv_13)), ((Da 5), .inl (tc 0, 6, .inl sv_14)), ((Da 6), .inl (tc 0, 6, .inl sv_15)), ((Da 7), .inl (tc 0, 6, .inl sv_16)), ((Da 8), .inl (tc 0, 6, .inl sv_17))] := hD
    refine lv_aload_n hx hb dX11_book_46 rfl (lv_at hl 1 rfl) ?_
    refine gf_X11_51 hx hb hts hown hK hP 0 rfl rfl dX11_book_47 ?_
    refine lv_aload_n hx hb dX11_book_50 rfl (lv_at hl 1 rfl) ?_
    refine gf_X11_19 hx hb hts hown hK hP 0 rfl rfl dX11_book_51 ?_
    refine gf_X11_104 hx hb hts hown hK hP 17 rfl rfl dX11_book_54 ?_
    refine cV (a := (Aa 0)) (As := [.ref (Da 0)]) (rest := []) (wr := [((Ga 0), .inr (11, [.ref (Ta 0), .ref (Wa 0), .ref (Ga 3), .ref (Ga 4), .int (Gv 0), .ref (Sa 0), .ref (Aa 0), .ref (Pa 0), .ref (Ga 8), .ref (Ga 9), .ref (Ga 10), .ref (Ga 11)])), ((Sa 0), .inr (8, [.ref (Aa 0), .ref (Ba 0), .ref (Na 0), .int (Sv 0), .int (Sv 1)])), ((Na 0), .inr (3, [.ref (Na 1), .ref (Na 2), .ref (Na 3), .int (Nv 0)])), ((Na 1), .inl (tc 0, 10, .inl (Nf 1))), ((Na 2), .inl (tc 0, 10, .inl (Nf 2))), ((Na 3), .inl (tc 0, 10, .inl (Nf 3))), ((Pa 0), .inr (5, [.ref (Pa 1), .int (Pv 0), .int (Pv 1)])), ((Pa 1), .inl (tc 5, 20, .inr (.inr (.inr (.inr (Pq 1)))))), ((Wa 0), .inr (0, [.ref (Da 0)])), ((Ta 0), .inr (10, [.ref (Ta 1), .int 0, .int sv_18, .int sv_19, .int sv_20, .int sv_21])), ((Ta 1), .inl (tc 0, 400, .inl (Tf 1))), ((Ba 0), .inr (9, [.int sv_6, .int sv_7, .int sv_8, .int sv_9, .int 0, .int 0, .ref (Ba 1), .ref (Ba 2), .ref (Ba 3), .ref (Ba 4), .ref (Ba 5), .ref (Ba 6), .ref (Ba 7), .ref (Ba 8)])), ((Ba 1), .inl (tc 0, 10, .inl sv_28)), ((Ba 2), .inl (tc 0, 10, .inl sv_29)), ((Ba 3), .inl (tc 0, 6, .inl sv_30)), ((Ba 4), .inl (tc 0, 6, .inl sv_31)), ((Ba 5), .inl (tc 0, 6, .inl sv_32)), ((Ba 6), .inl (tc 0, 6, .inl sv_33)), ((Ba 7), .inl (tc 0, 6, .inl sv_34)), ((Ba 8), .inl (tc 0, 6, .inl sv_35))]) ⟨hx, hb, hml, hown, hts⟩ hK hX hA (ct_X9_copyFrom l D tc sk Aa Av Af Da (fun k => ([sv_6, sv_7, sv_8, sv_9, 0, 0] : List (Int32)).getD k 0) (fun k => ([(fun _ => 0), sv_10, sv_11, sv_12, sv_13, sv_14, sv_15, sv_16, sv_17] : List (Nat → Int32)).getD k (fun _ => 0))) k_599 k_596 k_597 k_598 k_98 pl_X9_copyFrom ⟨Nat.le_of_ble_eq_true rfl, Nat.le_of_ble_eq_true rfl⟩ rfl rfl (va_recv hK hP (ci := 9) (q0 := 2) rfl rfl) hP hD hS [2, 3, 4, 5, 6, 7, 8, 9, 10, 29, 30, 31, 32, 33, 34, 35, 36, 37] [0, 1, 11, 12, 13, 14, 15, 16, 17, 18, 19, 20, 21, 22, 23, 24, 25, 26, 27, 28] rfl rfl rfl rfl rfl (by decide) rfl hl.1 rfl (Nat.le_of_ble_eq_true rfl) dX11_book_57 ⟨Nat.le_of_ble_eq_true rfl, Nat.le_of_ble_eq_true rfl⟩ (fun v_36 u_37 H locs hv_38 hP hD hS => ?_)
    obtain ⟨sv_39, sv_40, sv_41, sv_42, sv_43, sv_44, sv_45, sv_46⟩ := u_37
    obtain rfl : v_36 = none := hv_38
    refine W.eq (g2 := F0 m 60 ls []) rfl ?_
    have hP : va_P D classes [((Ga 0), .inr (11, [.ref (Ta 0), .ref (Wa 0), .ref (Ga 3), .ref (Ga 4), .int (Gv 0), .ref (Sa 0), .ref (Aa 0), .ref (Pa 0), .ref (Ga 8), .ref (Ga 9), .ref (Ga 10), .ref (Ga 11)])), ((Sa 0), .inr (8, [.ref (Aa 0), .ref (Ba 0), .ref (Na 0), .int (Sv 0), .int (Sv 1)])), ((Na 0), .inr (3, [.ref (Na 1), .ref (Na 2), .ref (Na 3), .int (Nv 0)])), ((Na 1), .inl (tc 0, 10, .inl (Nf 1))), ((Na 2), .inl (tc 0, 10, .inl (Nf 2))), ((Na 3), .inl (tc 0, 10, .inl (Nf 3))), ((Pa 0), .inr (5, [.ref (Pa 1), .int (Pv 0), .int (Pv 1)])), ((Pa 1), .inl (tc 5, 20, .inr (.inr (.inr (.inr (Pq 1)))))), ((Wa 0), .inr (0, [.ref (Da 0)])), ((Ta 0), .inr (10, [.ref (Ta 1), .int 0, .int sv_18, .int sv_19, .int sv_20, .int sv_21])), ((Ta 1), .inl (tc 0, 400, .inl (Tf 1))), ((Ba 0), .inr (9, [.int sv_6, .int sv_7, .int sv_8, .int sv_9, .int 0, .int 0, .ref (Ba 1), .ref (Ba 2), .ref (Ba 3), .ref (Ba 4), .ref (Ba 5), .ref (Ba 6), .ref (Ba 7), .ref (Ba 8)])), ((Ba 1), .inl (tc 0, 10, .inl sv_28)), ((Ba 2), .inl (tc 0, 10, .inl sv_29)), ((Ba 3), .inl (tc 0, 6, .inl sv_30)), ((Ba 4), .inl (tc 0, 6, .inl sv_31)), ((Ba 5), .inl (tc 0, 6, .inl sv_32)), ((Ba 6), .inl (tc 0, 6, .inl sv_33)), ((Ba 7), .inl (tc 0, 6, .inl sv_34)), ((Ba 8), .inl (tc 0, 6, .inl sv_35)), ((Aa 0), .inr (9, [.int sv_6, .int sv_7, .int sv_8, .int sv_9, .int 0, .int 0, .ref (Aa 1), .ref (Aa 2), .ref (Aa 3), .ref (Aa 4), .ref (Aa 5), .ref (Aa 6), .ref (Aa 7), .ref (Aa 8)])), ((Aa 1), .inl (tc 0, 10, .inl sv_39)), ((Aa 2), .inl (tc 0, 10, .inl sv_40)), ((Aa 3), .inl (tc 0, 6, .inl sv_41)), ((Aa 4), .inl (tc 0, 6, .inl sv_42)), ((Aa 5), .inl (tc 0, 6, .inl sv_43)), ((Aa 6), .inl (tc 0, 6, .inl sv_44)), ((Aa 7), .inl (tc 0, 6, .inl sv_45)), ((Aa 8), .inl (tc 0, 6, .inl sv_46)), ((Da 0), .inr (9, [.int sv_6, .int sv_7, .int sv_8, .int sv_9, .int 0, .int 0, .ref (Da 1), .ref (Da 2), .ref (Da 3), .ref (Da 4), .ref (Da 5), .ref (Da 6), .ref (Da 7), .ref (Da 8)])), ((Da 1), .inl (tc 0, 10, .inl sv_10)), ((Da 2), .inl (tc 0, 10, .inl sv_11)), ((Da 3), .inl (tc 0, 6, .inl sv_12)), ((Da 4), .inl (tc 0, 6, .inl sv_13)), ((Da 5), .inl (tc 0, 6, .inl sv_14)), ((Da 6), .inl (tc 0, 6, .inl sv_15)), ((Da 7), .inl (tc 0, 6, .inl sv_16)), ((Da 8), .inl (tc 0, 6, .inl sv_17))] H := hP
    have hD : va_D A [((Ga 0), .inr (11, [.ref (Ta 0), .ref (Wa 0), .ref (Ga 3), .ref (Ga 4), .int (Gv 0), .ref (Sa 0), .ref (Aa 0), .ref (Pa 0), .ref (Ga 8), .ref (Ga 9), .ref (Ga 10), .ref (Ga 11)])), ((Sa 0), .inr (8, [.ref (Aa 0), .ref (Ba 0), .ref (Na 0), .int (Sv 0), .int (Sv 1)])), ((Na 0), .inr (3, [.ref (Na 1), .ref (Na 2), .ref (Na 3), .int (Nv 0)])), ((Na 1), .inl (tc 0, 10, .inl (Nf 1))), ((Na 2), .inl (tc 0, 10, .inl (Nf 2))), ((Na 3), .inl (tc 0, 10, .inl (Nf 3))), ((Pa 0), .inr (5, [.ref (Pa 1), .int (Pv 0), .int (Pv 1)])), ((Pa 1), .inl (tc 5, 20, .inr (.inr (.inr (.inr (Pq 1)))))), ((Wa 0), .inr (0, [.ref (Da 0)])), ((Ta 0), .inr (10, [.ref (Ta 1), .int 0, .int sv_18, .int sv_19, .int sv_20, .int sv_21])), ((Ta 1), .inl (tc 0, 400, .inl (Tf 1))), ((Ba 0), .inr (9, [.int sv_6, .int sv_7, .int sv_8, .int sv_9, .int 0, .int 0, .ref (Ba 1), .ref (Ba 2), .ref (Ba 3), .ref (Ba 4), .ref (Ba 5), .ref (Ba 6), .ref (Ba 7), .ref (Ba 8)])), ((Ba 1), .inl (tc 0, 10, .inl sv_28)), ((Ba 2), .inl (tc 0, 10, .inl sv_29)), ((Ba 3), .inl (tc 0, 6, .inl sv_30)), ((Ba 4), .inl (tc 0, 6, .inl sv_31)), ((Ba 5), .inl (tc 0, 6, .inl sv_32)), ((Ba 6), .inl (tc 0, 6, .inl sv_33)), ((Ba 7), .inl (tc 0, 6, .inl sv_34)), ((Ba 8), .inl (tc 0, 6, .inl sv_35)), ((Aa 0), .inr (9, [.int sv_6, .int sv_7, .int sv_8, .int sv_9, .int 0, .int 0, .ref (Aa 1), .ref (Aa 2), .ref (Aa 3), .ref (Aa 4), .ref (Aa 5), .ref (Aa 6), .ref (Aa 7), .ref (Aa 8)])), ((Aa 1), .inl (tc 0, 10, .inl sv_39)), ((Aa 2), .inl (tc 0, 10, .inl sv_40)), ((Aa 3), .inl (tc 0, 6, .inl sv_41)), ((Aa 4), .inl (tc 0, 6, .inl sv_42)), ((Aa 5), .inl (tc 0, 6, .inl sv_43)), ((Aa 6), .inl (tc 0, 6, .inl sv_44)), ((Aa 7), .inl (tc 0, 6, .inl sv_45)), ((Aa 8), .inl (tc 0, 6, .inl sv_46)), ((Da 0), .inr (9, [.int sv_6, .int sv_7, .int sv_8, .int sv_9, .int 0, .int 0, .ref (Da 1), .ref (Da 2), .ref (Da 3), .ref (Da 4), .ref (Da 5), .ref (Da 6), .ref (Da 7), .ref (Da 8)])), ((Da 1), .inl (tc 0, 10, .inl sv_10)), ((Da 2), .inl (tc 0, 10, .inl sv_11)), ((Da 3), .inl (tc 0, 6, .inl sv_12)), ((Da 4), .inl (tc 0, 6, .inl sv_13)), ((Da 5), .inl (tc 0, 6, .inl sv_14)), ((Da 6), .inl (tc 0, 6, .inl sv_15)), ((Da 7), .inl (tc 0, 6, .inl sv_16)), ((Da 8), .inl (tc 0, 6, .inl sv_17))] := hD
    refine lv_aload_n hx hb dX11_book_60 rfl (lv_at hl 1 rfl) ?_
    refine gf_X11_43 hx hb hts hown hK hP 0 rfl rfl dX11_book_61 ?_
    refine gf_X11_111 hx hb hts hown hK hP 1 rfl rfl dX11_book_64 ?_
    refine lv_iconst (v := 0) hx hb dX11_book_67 (by decide) ?_
    refine pf_X11_115 hx hb hts hown hK hP hD hS 2 rfl (Nat.le_of_ble_eq_true rfl) rfl rfl dX11_book_68 (fun H locs hP hD hS => ?_)
    have hP : va_P D classes [((Ga 0), .inr (11, [.ref (Ta 0), .ref (Wa 0), .ref (Ga 3), .ref (Ga 4), .int (Gv 0), .ref (Sa 0), .ref (Aa 0), .ref (Pa 0), .ref (Ga 8), .ref (Ga 9), .ref (Ga 10), .ref (Ga 11)])), ((Sa 0), .inr (8, [.ref (Aa 0), .ref (Ba 0), .ref (Na 0), .int (Sv 0), .int (Sv 1)])), ((Na 0), .inr (3, [.ref (Na 1), .ref (Na 2), .ref (Na 3), .int 0])), ((Na 1), .inl (tc 0, 10, .inl (Nf 1))), ((Na 2), .inl (tc 0, 10, .inl (Nf 2))), ((Na 3), .inl (tc 0, 10, .inl (Nf 3))), ((Pa 0), .inr (5, [.ref (Pa 1), .int (Pv 0), .int (Pv 1)])), ((Pa 1), .inl (tc 5, 20, .inr (.inr (.inr (.inr (Pq 1)))))), ((Wa 0), .inr (0, [.ref (Da 0)])), ((Ta 0), .inr (10, [.ref (Ta 1), .int 0, .int sv_18, .int sv_19, .int sv_20, .int sv_21])), ((Ta 1), .inl (tc 0, 400, .inl (Tf 1))), ((Ba 0), .inr (9, [.int sv_6, .int sv_7, .int sv_8, .int sv_9, .int 0, .int 0, .ref (Ba 1), .ref (Ba 2), .ref (Ba 3), .ref (Ba 4), .ref (Ba 5), .ref (Ba 6), .ref (Ba 7), .ref (Ba 8)])), ((Ba 1), .inl (tc 0, 10, .inl sv_28)), ((Ba 2), .inl (tc 0, 10, .inl sv_29)), ((Ba 3), .inl (tc 0, 6, .inl sv_30)), ((Ba 4), .inl (tc 0, 6, .inl sv_31)), ((Ba 5), .inl (tc 0, 6, .inl sv_32)), ((Ba 6), .inl (tc 0, 6, .inl sv_33)), ((Ba 7), .inl (tc 0, 6, .inl sv_34)), ((Ba 8), .inl (tc 0, 6, .inl sv_35)), ((Aa 0), .inr (9, [.int sv_6, .int sv_7, .int sv_8, .int sv_9, .int 0, .int 0, .ref (Aa 1), .ref (Aa 2), .ref (Aa 3), .ref (Aa 4), .ref (Aa 5), .ref (Aa 6), .ref (Aa 7), .ref (Aa 8)])), ((Aa 1), .inl (tc 0, 10, .inl sv_39)), ((Aa 2), .inl (tc 0, 10, .inl sv_40)), ((Aa 3), .inl (tc 0, 6, .inl sv_41)), ((Aa 4), .inl (tc 0, 6, .inl sv_42)), ((Aa 5), .inl (tc 0, 6, .inl sv_43)), ((Aa 6), .inl (tc 0, 6, .inl sv_44)), ((Aa 7), .inl (tc 0, 6, .inl sv_45)), ((Aa 8), .inl (tc 0, 6, .inl sv_46)), ((Da 0), .inr (9, [.int sv_6, .int sv_7, .int sv_8, .int sv_9, .int 0, .int 0, .ref (Da 1), .ref (Da 2), .ref (Da 3), .ref (Da 4), .ref (Da 5), .ref (Da 6), .ref (Da 7), .ref (Da 8)])), ((Da 1), .inl (tc 0, 10, .inl sv_10)), ((Da 2), .inl (tc 0, 10, .inl sv_11)), ((Da 3), .inl (tc 0, 6, .inl sv_12)), ((Da 4), .inl (tc 0, 6, .inl sv_13)), ((Da 5), .inl (tc 0, 6, .inl sv_14)), ((Da 6), .inl (tc 0, 6, .inl sv_15)), ((Da 7), .inl (tc 0, 6, .inl sv_16)), ((Da 8), .inl (tc 0, 6, .inl sv_17))] H := hP
    have hD : va_D A [((Ga 0), .inr (11, [.ref (Ta 0), .ref (Wa 0), .ref (Ga 3), .ref (Ga 4), .int (Gv 0), .ref (Sa 0), .ref (Aa 0), .ref (Pa 0), .ref (Ga 8), .ref (Ga 9), .ref (Ga 10), .ref (Ga 11)])), ((Sa 0), .inr (8, [.ref (Aa 0), .ref (Ba 0), .ref (Na 0), .int (Sv 0), .int (Sv 1)])), ((Na 0), .inr (3, [.ref (Na 1), .ref (Na 2), .ref (Na 3), .int 0])), ((Na 1), .inl (tc 0, 10, .inl (Nf 1))), ((Na 2), .inl (tc 0, 10, .inl (Nf 2))), ((Na 3), .inl (tc 0, 10, .inl (Nf 3))), ((Pa 0), .inr (5, [.ref (Pa 1), .int (Pv 0), .int (Pv 1)])), ((Pa 1), .inl (tc 5, 20, .inr (.inr (.inr (.inr (Pq 1)))))), ((Wa 0), .inr (0, [.ref (Da 0)])), ((Ta 0), .inr (10, [.ref (Ta 1), .int 0, .int sv_18, .int sv_19, .int sv_20, .int sv_21])), ((Ta 1), .inl (tc 0, 400, .inl (Tf 1))), ((Ba 0), .inr (9, [.int sv_6, .int sv_7, .int sv_8, .int sv_9, .int 0, .int 0, .ref (Ba 1), .ref (Ba 2), .ref (Ba 3), .ref (Ba 4), .ref (Ba 5), .ref (Ba 6), .ref (Ba 7), .ref (Ba 8)])), ((Ba 1), .inl (tc 0, 10, .inl sv_28)), ((Ba 2), .inl (tc 0, 10, .inl sv_29)), ((Ba 3), .inl (tc 0, 6, .inl sv_30)), ((Ba 4), .inl (tc 0, 6, .inl sv_31)), ((Ba 5), .inl (tc 0, 6, .inl sv_32)), ((Ba 6), .inl (tc 0, 6, .inl sv_33)), ((Ba 7), .inl (tc 0, 6, .inl sv_34)), ((Ba 8), .inl (tc 0, 6, .inl sv_35)), ((Aa 0), .inr (9, [.int sv_6, .int sv_7, .int sv_8, .int sv_9, .int 0, .int 0, .ref (Aa 1), .ref (Aa 2), .ref (Aa 3), .ref (Aa 4), .ref (Aa 5), .ref (Aa 6), .ref (Aa 7), .ref (Aa 8)])), ((Aa 1), .inl (tc 0, 10, .inl sv_39)), ((Aa 2), .inl (tc 0, 10, .inl sv_40)), ((Aa 3), .inl (tc 0, 6, .inl sv_41)), ((Aa 4), .inl (tc 0, 6, .inl sv_42)), ((Aa 5), .inl (tc 0, 6, .inl sv_43)), ((Aa 6), .inl (tc 0, 6, .inl sv_44)), ((Aa 7), .inl (tc 0, 6, .inl sv_45)), ((Aa 8), .inl (tc 0, 6, .inl sv_46)), ((Da 0), .inr (9, [.int sv_6, .int sv_7, .int sv_8, .int sv_9, .int 0, .int 0, .ref (Da 1), .ref (Da 2), .ref (Da 3), .ref (Da 4), .ref (Da 5), .ref (Da 6), .ref (Da 7), .ref (Da 8)])), ((Da 1), .inl (tc 0, 10, .inl sv_10)), ((Da 2), .inl (tc 0, 10, .inl sv_11)), ((Da 3), .inl (tc 0, 6, .inl sv_12)), ((Da 4), .inl (tc 0, 6, .inl sv_13)), ((Da 5), .inl (tc 0, 6, .inl sv_14)), ((Da 6), .inl (tc 0, 6, .inl sv_15)), ((Da 7), .inl (tc 0, 6, .inl sv_16)), ((Da 8), .inl (tc 0, 6, .inl sv_17))] := hD
    refine lv_aload_n hx hb dX11_book_71 rfl (lv_at hl 1 rfl) ?_
    refine gf_X11_57 hx hb hts hown hK hP 0 rfl rfl dX11_book_72 ?_
    refine lv_iconst (v := 0) hx hb dX11_book_75 (by decide) ?_
    refine pf_X11_120 hx hb hts hown hK hP hD hS 6 rfl (Nat.le_of_ble_eq_true rfl) rfl rfl dX11_book_76 (fun H locs hP hD hS => ?_)
    have hP : va_P D classes [((Ga 0), .inr (11, [.ref (Ta 0), .ref (Wa 0), .ref (Ga 3), .ref (Ga 4), .int (Gv 0), .ref (Sa 0), .ref (Aa 0), .ref (Pa 0), .ref (Ga 8), .ref (Ga 9), .ref (Ga 10), .ref (Ga 11)])), ((Sa 0), .inr (8, [.ref (Aa 0), .ref (Ba 0), .ref (Na 0), .int (Sv 0), .int (Sv 1)])), ((Na 0), .inr (3, [.ref (Na 1), .ref (Na 2), .ref (Na 3), .int 0])), ((Na 1), .inl (tc 0, 10, .inl (Nf 1))), ((Na 2), .inl (tc 0, 10, .inl (Nf 2))), ((Na 3), .inl (tc 0, 10, .inl (Nf 3))), ((Pa 0), .inr (5, [.ref (Pa 1), .int (Pv 0), .int 0])), ((Pa 1), .inl (tc 5, 20, .inr (.inr (.inr (.inr (Pq 1)))))), ((Wa 0), .inr (0, [.ref (Da 0)])), ((Ta 0), .inr (10, [.ref (Ta 1), .int 0, .int sv_18, .int sv_19, .int sv_20, .int sv_21])), ((Ta 1), .inl (tc 0, 400, .inl (Tf 1))), ((Ba 0), .inr (9, [.int sv_6, .int sv_7, .int sv_8, .int sv_9, .int 0, .int 0, .ref (Ba 1), .ref (Ba 2), .ref (Ba 3), .ref (Ba 4), .ref (Ba 5), .ref (Ba 6), .ref (Ba 7), .ref (Ba 8)])), ((Ba 1), .inl (tc 0, 10, .inl sv_28)), ((Ba 2), .inl (tc 0, 10, .inl sv_29)), ((Ba 3), .inl (tc 0, 6, .inl sv_30)), ((Ba 4), .inl (tc 0, 6, .inl sv_31)), ((Ba 5), .inl (tc 0, 6, .inl sv_32)), ((Ba 6), .inl (tc 0, 6, .inl sv_33)), ((Ba 7), .inl (tc 0, 6, .inl sv_34)), ((Ba 8), .inl (tc 0, 6, .inl sv_35)), ((Aa 0), .inr (9, [.int sv_6, .int sv_7, .int sv_8, .int sv_9, .int 0, .int 0, .ref (Aa 1), .ref (Aa 2), .ref (Aa 3), .ref (Aa 4), .ref (Aa 5), .ref (Aa 6), .ref (Aa 7), .ref (Aa 8)])), ((Aa 1), .inl (tc 0, 10, .inl sv_39)), ((Aa 2), .inl (tc 0, 10, .inl sv_40)), ((Aa 3), .inl (tc 0, 6, .inl sv_41)), ((Aa 4), .inl (tc 0, 6, .inl sv_42)), ((Aa 5), .inl (tc 0, 6, .inl sv_43)), ((Aa 6), .inl (tc 0, 6, .inl sv_44)), ((Aa 7), .inl (tc 0, 6, .inl sv_45)), ((Aa 8), .inl (tc 0, 6, .inl sv_46)), ((Da 0), .inr (9, [.int sv_6, .int sv_7, .int sv_8, .int sv_9, .int 0, .int 0, .ref (Da 1), .ref (Da 2), .ref (Da 3), .ref (Da 4), .ref (Da 5), .ref (Da 6), .ref (Da 7), .ref (Da 8)])), ((Da 1), .inl (tc 0, 10, .inl sv_10)), ((Da 2), .inl (tc 0, 10, .inl sv_11)), ((Da 3), .inl (tc 0, 6, .inl sv_12)), ((Da 4), .inl (tc 0, 6, .inl sv_13)), ((Da 5), .inl (tc 0, 6, .inl sv_14)), ((Da 6), .inl (tc 0, 6, .inl sv_15)), ((Da 7), .inl (tc 0, 6, .inl sv_16)), ((Da 8), .inl (tc 0, 6, .inl sv_17))] H := hP
    have hD : va_D A [((Ga 0), .inr (11, [.ref (Ta 0), .ref (Wa 0), .ref (Ga 3), .ref (Ga 4), .int (Gv 0), .ref (Sa 0), .ref (Aa 0), .ref (Pa 0), .ref (Ga 8), .ref (Ga 9), .ref (Ga 10), .ref (Ga 11)])), ((Sa 0), .inr (8, [.ref (Aa 0), .ref (Ba 0), .ref (Na 0), .int (Sv 0), .int (Sv 1)])), ((Na 0), .inr (3, [.ref (Na 1), .ref (Na 2), .ref (Na 3), .int 0])), ((Na 1), .inl (tc 0, 10, .inl (Nf 1))), ((Na 2), .inl (tc 0, 10, .inl (Nf 2))), ((Na 3), .inl (tc 0, 10, .inl (Nf 3))), ((Pa 0), .inr (5, [.ref (Pa 1), .int (Pv 0), .int 0])), ((Pa 1), .inl (tc 5, 20, .inr (.inr (.inr (.inr (Pq 1)))))), ((Wa 0), .inr (0, [.ref (Da 0)])), ((Ta 0), .inr (10, [.ref (Ta 1), .int 0, .int sv_18, .int sv_19, .int sv_20, .int sv_21])), ((Ta 1), .inl (tc 0, 400, .inl (Tf 1))), ((Ba 0), .inr (9, [.int sv_6, .int sv_7, .int sv_8, .int sv_9, .int 0, .int 0, .ref (Ba 1), .ref (Ba 2), .ref (Ba 3), .ref (Ba 4), .ref (Ba 5), .ref (Ba 6), .ref (Ba 7), .ref (Ba 8)])), ((Ba 1), .inl (tc 0, 10, .inl sv_28)), ((Ba 2), .inl (tc 0, 10, .inl sv_29)), ((Ba 3), .inl (tc 0, 6, .inl sv_30)), ((Ba 4), .inl (tc 0, 6, .inl sv_31)), ((Ba 5), .inl (tc 0, 6, .inl sv_32)), ((Ba 6), .inl (tc 0, 6, .inl sv_33)), ((Ba 7), .inl (tc 0, 6, .inl sv_34)), ((Ba 8), .inl (tc 0, 6, .inl sv_35)), ((Aa 0), .inr (9, [.int sv_6, .int sv_7, .int sv_8, .int sv_9, .int 0, .int 0, .ref (Aa 1), .ref (Aa 2), .ref (Aa 3), .ref (Aa 4), .ref (Aa 5), .ref (Aa 6), .ref (Aa 7), .ref (Aa 8)])), ((Aa 1), .inl (tc 0, 10, .inl sv_39)), ((Aa 2), .inl (tc 0, 10, .inl sv_40)), ((Aa 3), .inl (tc 0, 6, .inl sv_41)), ((Aa 4), .inl (tc 0, 6, .inl sv_42)), ((Aa 5), .inl (tc 0, 6, .inl sv_43)), ((Aa 6), .inl (tc 0, 6, .inl sv_44)), ((Aa 7), .inl (tc 0, 6, .inl sv_45)), ((Aa 8), .inl (tc 0, 6, .inl sv_46)), ((Da 0), .inr (9, [.int sv_6, .int sv_7, .int sv_8, .int sv_9, .int 0, .int 0, .ref (Da 1), .ref (Da 2), .ref (Da 3), .ref (Da 4), .ref (Da 5), .ref (Da 6), .ref (Da 7), .ref (Da 8)])), ((Da 1), .inl (tc 0, 10, .inl sv_10)), ((Da 2), .inl (tc 0, 10, .inl sv_11)), ((Da 3), .inl (tc 0, 6, .inl sv_12)), ((Da 4), .inl (tc 0, 6, .inl sv_13)), ((Da 5), .inl (tc 0, 6, .inl sv_14)), ((Da 6), .inl (tc 0, 6, .inl sv_15)), ((Da 7), .inl (tc 0, 6, .inl sv_16)), ((Da 8), .inl (tc 0, 6, .inl sv_17))] := hD
    refine lv_aload_n hx hb dX11_book_79 rfl (lv_at hl 1 rfl) ?_
    refine gf_X11_51 hx hb hts hown hK hP 0 rfl rfl dX11_book_80 ?_
    refine gf_X11_121 hx hb hts hown hK hP 20 rfl rfl dX11_book_83 ?_
    have ha_47 : 0 ≤ (0 : Int32).toInt ∧ (0 : Int32).toInt ≤ 400 ∧ 0 ≤ (sv_18 : Int32).toInt ∧ (sv_18 : Int32).toInt ≤ 400 ∧ 0 ≤ (sv_19 : Int32).toInt ∧ (sv_19 : Int32).toInt ≤ 400 := by
      have z_1 := congrArg Int32.toInt c_24
      have y_0 : (0 : Int32).toInt = 0 := by decide
      omega
    have ha_48 : 0 ≤ (sv_9 : Int32).toInt ∧ (sv_9 : Int32).toInt ≤ 6 := by
      have z_1 := congrArg Int32.toInt c_24
      have y_0 : (0 : Int32).toInt = 0 := by decide
      omega
    have ha_49 : 0 ≤ (sv_9 : Int32).toInt ∧ (sv_9 : Int32).toInt ≤ 6 := by
      have z_1 := congrArg Int32.toInt c_24
      have y_0 : (0 : Int32).toInt = 0 := by decide
      omega
    have ha_50 : 0 ≤ (sv_9 : Int32).toInt ∧ (sv_9 : Int32).toInt ≤ 6 := by
      have z_1 := congrArg Int32.toInt c_24
      have y_0 : (0 : Int32).toInt = 0 := by decide
      omega
    exact retI (v := sv_9) hx hb hr hlk (rfl) hP hD hS (sv_18, sv_19, sv_20, sv_21, sv_6, sv_7, sv_8, sv_9, sv_10, sv_11, sv_12, sv_13, sv_14, sv_15, sv_16, sv_17, sv_6, sv_7, sv_8, sv_9, 0, 0, sv_39, sv_40, sv_41, sv_42, sv_43, sv_44, sv_45, sv_46, sv_6, sv_7, sv_8, sv_9, 0, 0, sv_28, sv_29, sv_30, sv_31, sv_32, sv_33, sv_34, sv_35, 0, 0) ⟨_, rfl, trivial, ha_47, ha_48, ha_49, ha_50⟩ [0, 9, 10, 8, 29, 30, 31, 32, 33, 34, 35, 36, 37, 1, 20, 21, 22, 23, 24, 25, 26, 27, 28, 11, 12, 13, 14, 15, 16, 17, 18, 19, 2, 3, 4, 5, 6, 7] rfl rfl dX11_book_86 (Nat.le_of_ble_eq_true rfl) (Nat.le_of_ble_eq_true rfl) rfl
  · skip
    refine lv_bipush (v := (-2)) hx hb dX11_book_24 (by decide) ?_
    refine lv_iload_n hx hb dX11_book_26 rfl (lv_at hl 0 rfl) ?_
    refine lv_isub hx hb dX11_book_27 ?_
    refine lv_topi (fun x_51 ex_51 => ?_)
    have ha_52 : 0 ≤ (0 : Int32).toInt ∧ (0 : Int32).toInt ≤ 400 ∧ 0 ≤ (sv_18 : Int32).toInt ∧ (sv_18 : Int32).toInt ≤ 400 ∧ 0 ≤ (sv_19 : Int32).toInt ∧ (sv_19 : Int32).toInt ≤ 400 := by
      have z_1 : ¬ (r_22 : Int32).toInt = (0 : Int32).toInt := fun z => c_24 (Int32.toInt_inj.mp z)
      have y_0 : (0 : Int32).toInt = 0 := by decide
      omega
    have ha_53 : 0 ≤ (sv_9 : Int32).toInt ∧ (sv_9 : Int32).toInt ≤ 6 := by
      have z_1 : ¬ (r_22 : Int32).toInt = (0 : Int32).toInt := fun z => c_24 (Int32.toInt_inj.mp z)
      have y_0 : (0 : Int32).toInt = 0 := by decide
      omega
    have ha_54 : 0 ≤ ((Av 3) : Int32).toInt ∧ ((Av 3) : Int32).toInt ≤ 6 := by
      have z_1 : ¬ (r_22 : Int32).toInt = (0 : Int32).toInt := fun z => c_24 (Int32.toInt_inj.mp z)
      have y_0 : (0 : Int32).toInt = 0 := by decide
      omega
    have ha_55 : 0 ≤ ((Bv 3) : Int32).toInt ∧ ((Bv 3) : Int32).toInt ≤ 6 := by
      have z_1 : ¬ (r_22 : Int32).toInt = (0 : Int32).toInt := fun z => c_24 (Int32.toInt_inj.mp z)
      have y_0 : (0 : Int32).toInt = 0 := by decide
      omega
    exact retI (v := x_51) hx hb hr hlk (rfl) hP hD hS (sv_18, sv_19, sv_20, sv_21, sv_6, sv_7, sv_8, sv_9, sv_10, sv_11, sv_12, sv_13, sv_14, sv_15, sv_16, sv_17, (Av 0), (Av 1), (Av 2), (Av 3), (Av 4), (Av 5), (Af 1), (Af 2), (Af 3), (Af 4), (Af 5), (Af 6), (Af 7), (Af 8), (Bv 0), (Bv 1), (Bv 2), (Bv 3), (Bv 4), (Bv 5), (Bf 1), (Bf 2), (Bf 3), (Bf 4), (Bf 5), (Bf 6), (Bf 7), (Bf 8), (Nv 0), (Pv 1)) ⟨_, rfl, trivial, ha_52, ha_53, ha_54, ha_55⟩ [0, 36, 37, 26, 27, 28, 29, 30, 31, 32, 33, 34, 35, 1, 2, 3, 4, 5, 6, 7, 8, 9, 10, 11, 12, 13, 14, 15, 16, 17, 18, 19, 20, 21, 22, 23, 24, 25] rfl rfl dX11_book_28 (Nat.le_of_ble_eq_true rfl) (Nat.le_of_ble_eq_true rfl) rfl
set_option maxHeartbeats 4000000 in
set_option maxRecDepth 100000 in
theorem ct_X11_rule (l : Launch) (D : va_G) (tc : Nat → ClassId) (sk : (Nat → Nat) × (Nat → Nat)) (Ga : Nat → Nat) (Gv : Nat → Int32) (Ta : Nat → Nat) (Tv : Nat → Int32) (Tf : Nat → Nat → Int32) (Va : Nat → Nat) (Vv : Nat → Int32) (Vf : Nat → Nat → Int32) (La : Nat → Nat) (Lq : Nat → Nat → Option Nat) (h_tape : 0 ≤ ((Tv 0) : Int32).toInt ∧ ((Tv 0) : Int32).toInt ≤ 400 ∧ 0 ≤ ((Tv 1) : Int32).toInt ∧ ((Tv 1) : Int32).toInt ≤ 400 ∧ 0 ≤ ((Tv 2) : Int32).toInt ∧ ((Tv 2) : Int32).toInt ≤ 400) : Ct l yX11_rule cX11_rule 2 (some .int) { frames := 31, cells := 3, slots := 466, locals := 741 } D tc sk [.ref (Ga 0)] [((Ga 0), .inr (11, [.ref (Ta 0), .ref (Ga 2), .ref (Va 0), .ref (La 0), .int (Gv 0), .ref (Ga 5), .ref (Ga 6), .ref (Ga 7), .ref (Ga 8), .ref (Ga 9), .ref (Ga 10), .ref (Ga 11)])), ((Ta 0), .inr (10, [.ref (Ta 1), .int (Tv 0), .int (Tv 1), .int (Tv 2), .int (Tv 3), .int (Tv 4)])), ((Ta 1), .inl (tc 0, 400, .inl (Tf 1))), ((Va 0), .inr (7, [.ref (Va 1), .int (Vv 0), .int (Vv 1)])), ((Va 1), .inl (tc 0, 400, .inl (Vf 1))), ((La 0), .inl (tc 4, 6, .inr (.inr (.inr (.inr (Lq 0))))))] (fun (v : Option Value) (u : (Bool) × (Nat) × (Nat) × (Nat) × (Int32) × (Int32) × (Int32) × (Int32) × (Int32) × (Int32) × (Int32) × (Nat → Int32) × (Nat → Int32) × (Nat) × (Int32) × (Int32) × (Int32) × (Int32) × (Int32) × (Int32) × (Int32) × (Int32) × (Nat → Int32) × (Nat → Option Nat)) => match u with | (true, na0x0, na0x1, na0x2, oo0x1, oo0x2, oo0x3, oo0x4, oo0x5, oo0x6, oo0x7, oo0x8, oo0x9, nn0x7, oo1x1, oo1x2, oo1x3, oo1x4, oo1x5, oo1x6, oo1x7, oo1x8, oo1x9, oo1x10) => ∃ r : Int32, v = some (.int r) ∧ (True) ∧ (0 ≤ (0 : Int32).toInt ∧ (0 : Int32).toInt ≤ 400 ∧ 0 ≤ (oo0x2 : Int32).toInt ∧ (oo0x2 : Int32).toInt ≤ 400 ∧ 0 ≤ (oo0x3 : Int32).toInt ∧ (oo0x3 : Int32).toInt ≤ 400) ∧ ((oo0x1 : Int32).toInt = (Gv 0).toInt + 1 ∧ 0 ≤ (Gv 0).toInt ∧ (Gv 0).toInt < 6 ∧ nn0x7 ≤ 400) | (false, na0x0, na0x1, na0x2, oo0x1, oo0x2, oo0x3, oo0x4, oo0x5, oo0x6, oo0x7, oo0x8, oo0x9, nn0x7, oo1x1, oo1x2, oo1x3, oo1x4, oo1x5, oo1x6, oo1x7, oo1x8, oo1x9, oo1x10) => ∃ r : Int32, v = some (.int r) ∧ (True) ∧ (0 ≤ (oo1x2 : Int32).toInt ∧ (oo1x2 : Int32).toInt ≤ 400 ∧ 0 ≤ (oo1x3 : Int32).toInt ∧ (oo1x3 : Int32).toInt ≤ 400 ∧ 0 ≤ (oo1x4 : Int32).toInt ∧ (oo1x4 : Int32).toInt ≤ 400)) (fun (u : (Bool) × (Nat) × (Nat) × (Nat) × (Int32) × (Int32) × (Int32) × (Int32) × (Int32) × (Int32) × (Int32) × (Nat → Int32) × (Nat → Int32) × (Nat) × (Int32) × (Int32) × (Int32) × (Int32) × (Int32) × (Int32) × (Int32) × (Int32) × (Nat → Int32) × (Nat → Option Nat)) => match u with | (true, na0x0, na0x1, na0x2, oo0x1, oo0x2, oo0x3, oo0x4, oo0x5, oo0x6, oo0x7, oo0x8, oo0x9, nn0x7, oo1x1, oo1x2, oo1x3, oo1x4, oo1x5, oo1x6, oo1x7, oo1x8, oo1x9, oo1x10) => [((Ga 0), .inr (11, [.ref (Ta 0), .ref (Ga 2), .ref (Va 0), .ref (La 0), .int oo0x1, .ref (Ga 5), .ref (Ga 6), .ref (Ga 7), .ref (Ga 8), .ref (Ga 9), .ref (Ga 10), .ref (Ga 11)])), ((Ta 0), .inr (10, [.ref (Ta 1), .int 0, .int oo0x2, .int oo0x3, .int oo0x4, .int oo0x5])), ((Ta 1), .inl (tc 0, 400, .inl (Tf 1))), ((Va 0), .inr (7, [.ref (Va 1), .int oo0x6, .int oo0x7])), ((Va 1), .inl (tc 0, 400, .inl oo0x8)), ((La 0), .inl (tc 4, 6, .inr (.inr (.inr (.inr (va_up (Lq 0) ((Gv 0) : Int32).toNatClampNeg (some na0x0))))))), (na0x0, .inr (6, [.ref na0x1, .ref na0x2])), (na0x1, .inl (tc 0, nn0x7, .inl oo0x9)), (na0x2, .inl (tc 1, 64, .inr (.inl (fun _ => 0))))] | (false, na0x0, na0x1, na0x2, oo0x1, oo0x2, oo0x3, oo0x4, oo0x5, oo0x6, oo0x7, oo0x8, oo0x9, nn0x7, oo1x1, oo1x2, oo1x3, oo1x4, oo1x5, oo1x6, oo1x7, oo1x8, oo1x9, oo1x10) => [((Ga 0), .inr (11, [.ref (Ta 0), .ref (Ga 2), .ref (Va 0), .ref (La 0), .int oo1x1, .ref (Ga 5), .ref (Ga 6), .ref (Ga 7), .ref (Ga 8), .ref (Ga 9), .ref (Ga 10), .ref (Ga 11)])), ((Ta 0), .inr (10, [.ref (Ta 1), .int oo1x2, .int oo1x3, .int oo1x4, .int oo1x5, .int oo1x6])), ((Ta 1), .inl (tc 0, 400, .inl (Tf 1))), ((Va 0), .inr (7, [.ref (Va 1), .int oo1x7, .int oo1x8])), ((Va 1), .inl (tc 0, 400, .inl oo1x9)), ((La 0), .inl (tc 4, 6, .inr (.inr (.inr (.inr oo1x10)))))]) 3 466 := by
  refine Ct.start (by decide) (Nat.le_of_ble_eq_true rfl) (fun p e s m below meth c A ls hx hb hr hlk hin hml hown hts hK hX hP hD hA hl hS => ?_)
  have hl : lv_has ls 2 [(0, .ref (Ga 0))] := hl
  refine lv_aload_n hx hb dX11_rule_0 rfl (lv_at hl 0 rfl) ?_
  refine gf_X11_36 hx hb hts hown hK hP 0 rfl rfl dX11_rule_1 ?_
  refine lv_if_lt (tgt := 19) hx hb dX11_rule_4 (by decide) (fun c_1 => ?_) (fun c_1 => ?_)
  · skip
    refine lv_iconst (v := (-1)) hx hb dX11_rule_19 (by decide) ?_
    have ha_2 : 0 ≤ ((Tv 0) : Int32).toInt ∧ ((Tv 0) : Int32).toInt ≤ 400 ∧ 0 ≤ ((Tv 1) : Int32).toInt ∧ ((Tv 1) : Int32).toInt ≤ 400 ∧ 0 ≤ ((Tv 2) : Int32).toInt ∧ ((Tv 2) : Int32).toInt ≤ 400 := by
      have z_1 := Int32.lt_iff_toInt_lt.mp c_1
      have y_0 : (0 : Int32).toInt = 0 := by decide
      omega
    exact retI (v := (-1)) hx hb hr hlk (rfl) hP hD hS (false, 0, 0, 0, 0, 0, 0, 0, 0, 0, 0, (fun _ => 0), (fun _ => 0), 0, (Gv 0), (Tv 0), (Tv 1), (Tv 2), (Tv 3), (Tv 4), (Vv 0), (Vv 1), (Vf 1), (Lq 0)) ⟨_, rfl, trivial, ha_2⟩ [0, 1, 2, 3, 4, 5] rfl rfl dX11_rule_20 (Nat.le_of_ble_eq_true rfl) (Nat.le_of_ble_eq_true rfl) rfl
  · skip
    refine lv_aload_n hx hb dX11_rule_7 rfl (lv_at hl 0 rfl) ?_
    refine gf_X11_36 hx hb hts hown hK hP 0 rfl rfl dX11_rule_8 ?_
    refine lv_aload_n hx hb dX11_rule_11 rfl (lv_at hl 0 rfl) ?_
    refine gf_X11_32 hx hb hts hown hK hP 0 rfl rfl dX11_rule_12 ?_
    refine va_alen hx hb hK hP 5 4 rfl rfl (v := 6) rfl dX11_rule_15 ?_
    refine lv_icmp_lt (tgt := 21) hx hb dX11_rule_16 (by decide) (fun c_3 => ?_) (fun c_3 => ?_)
    · skip
      refine lv_aload_n hx hb dX11_rule_21 rfl (lv_at hl 0 rfl) ?_
      refine gf_X11_26 hx hb hts hown hK hP 0 rfl rfl dX11_rule_22 ?_
      refine lv_aload_n hx hb dX11_rule_25 rfl (lv_at hl 0 rfl) ?_
      refine gf_X11_10 hx hb hts hown hK hP 0 rfl rfl dX11_rule_26 ?_
      have ha_4 : 0 ≤ ((Tv 0) : Int32).toInt ∧ ((Tv 0) : Int32).toInt ≤ 400 ∧ 0 ≤ ((Tv 1) : Int32).toInt ∧ ((Tv 1) : Int32).toInt ≤ 400 ∧ 0 ≤ ((Tv 2) : Int32).toInt ∧ ((Tv 2) : Int32).toInt ≤ 400 := by
        have z_1 := Int32.le_iff_toInt_le.mp (Int32.not_lt.mp c_1)
        have z_2 := Int32.lt_iff_toInt_lt.mp c_3
        have y_0 : (0 : Int32).toInt = 0 := by decide
        have y_6 : (6 : Int32).toInt = 6 := by decide
        omega
      refine cV (a := (Va 0)) (As := [.ref (Ta 0)]) (rest := []) (wr := [((Ga 0), .inr (11, [.ref (Ta 0), .ref (Ga 2), .ref (Va 0), .ref (La 0), .int (Gv 0), .ref (Ga 5), .ref (Ga 6), .ref (Ga 7), .ref (Ga 8), .ref (Ga 9), .ref (Ga 10), .ref (Ga 11)])), ((La 0), .inl (tc 4, 6, .inr (.inr (.inr (.inr (Lq 0))))))]) ⟨hx, hb, hml, hown, hts⟩ hK hX hA (ct_X7_read l D tc sk Va Vv Vf Ta Tv Tf ha_4) k_611 k_608 k_609 k_610 k_99 pl_X7_read ⟨Nat.le_of_ble_eq_true rfl, Nat.le_of_ble_eq_true rfl⟩ rfl rfl (va_recv hK hP (ci := 7) (q0 := 3) rfl rfl) hP hD hS [3, 4, 1, 2] [0, 5] rfl rfl rfl rfl rfl (by decide) rfl hl.1 rfl (Nat.le_of_ble_eq_true rfl) dX11_rule_29 ⟨Nat.le_of_ble_eq_true rfl, Nat.le_of_ble_eq_true rfl⟩ (fun v_5 u_6 H locs hv_7 hP hD hS => ?_)
      obtain ⟨sv_8, sv_9, sv_10, sv_11, sv_12, sv_13, sv_14, sv_15, sv_16, sv_17, sv_18, sv_19, sv_20, sv_21, sv_22, sv_23, sv_24, sv_25, sv_26, sv_27⟩ := u_6
      cases sv_8
      · skip
        obtain ⟨rfl, pf_28⟩ := hv_7
        have pf_28 : 0 ≤ ((Tv 0) : Int32).toInt ∧ ((Tv 0) : Int32).toInt ≤ 400 ∧ 0 ≤ (sv_24 : Int32).toInt ∧ (sv_24 : Int32).toInt ≤ 400 ∧ 0 ≤ (sv_25 : Int32).toInt ∧ (sv_25 : Int32).toInt ≤ 400 := pf_28
        refine W.eq (g2 := F0 m 32 ls [.null]) rfl ?_
        have hP : va_P D classes [((Ga 0), .inr (11, [.ref (Ta 0), .ref (Ga 2), .ref (Va 0), .ref (La 0), .int (Gv 0), .ref (Ga 5), .ref (Ga 6), .ref (Ga 7), .ref (Ga 8), .ref (Ga 9), .ref (Ga 10), .ref (Ga 11)])), ((La 0), .inl (tc 4, 6, .inr (.inr (.inr (.inr (Lq 0)))))), ((Va 0), .inr (7, [.ref (Va 1), .int sv_21, .int sv_22])), ((Va 1), .inl (tc 0, 400, .inl sv_23)), ((Ta 0), .inr (10, [.ref (Ta 1), .int (Tv 0), .int sv_24, .int sv_25, .int sv_26, .int sv_27])), ((Ta 1), .inl (tc 0, 400, .inl (Tf 1)))] H := hP
        have hD : va_D A [((Ga 0), .inr (11, [.ref (Ta 0), .ref (Ga 2), .ref (Va 0), .ref (La 0), .int (Gv 0), .ref (Ga 5), .ref (Ga 6), .ref (Ga 7), .ref (Ga 8), .ref (Ga 9), .ref (Ga 10), .ref (Ga 11)])), ((La 0), .inl (tc 4, 6, .inr (.inr (.inr (.inr (Lq 0)))))), ((Va 0), .inr (7, [.ref (Va 1), .int sv_21, .int sv_22])), ((Va 1), .inl (tc 0, 400, .inl sv_23)), ((Ta 0), .inr (10, [.ref (Ta 1), .int (Tv 0), .int sv_24, .int sv_25, .int sv_26, .int sv_27])), ((Ta 1), .inl (tc 0, 400, .inl (Tf 1)))] := hD
        refine lv_astore_nN (lv' := [(1, .null), (0, .ref (Ga 0))]) hx hb dX11_rule_32 rfl hl (by decide) rfl (fun ls hl => ?_)
        refine lv_aload_n hx hb dX11_rule_33 rfl (lv_at hl 1 rfl) ?_
        refine gf_X11_10 hx hb hts hown hK hP 0 rfl rfl dX11_rule_34 ?_
        refine lv_iconst (v := 0) hx hb dX11_rule_37 (by decide) ?_
        refine pf_X11_94 hx hb hts hown hK hP hD hS 4 rfl (Nat.le_of_ble_eq_true rfl) rfl rfl dX11_rule_38 (fun H locs hP hD hS => ?_)
        have hP : va_P D classes [((Ga 0), .inr (11, [.ref (Ta 0), .ref (Ga 2), .ref (Va 0), .ref (La 0), .int (Gv 0), .ref (Ga 5), .ref (Ga 6), .ref (Ga 7), .ref (Ga 8), .ref (Ga 9), .ref (Ga 10), .ref (Ga 11)])), ((La 0), .inl (tc 4, 6, .inr (.inr (.inr (.inr (Lq 0)))))), ((Va 0), .inr (7, [.ref (Va 1), .int sv_21, .int sv_22])), ((Va 1), .inl (tc 0, 400, .inl sv_23)), ((Ta 0), .inr (10, [.ref (Ta 1), .int 0, .int sv_24, .int sv_25, .int sv_26, .int sv_27])), ((Ta 1), .inl (tc 0, 400, .inl (Tf 1)))] H := hP
        have hD : va_D A [((Ga 0), .inr (11, [.ref (Ta 0), .ref (Ga 2), .ref (Va 0), .ref (La 0), .int (Gv 0), .ref (Ga 5), .ref (Ga 6), .ref (Ga 7), .ref (Ga 8), .ref (Ga 9), .ref (Ga 10), .ref (Ga 11)])), ((La 0), .inl (tc 4, 6, .inr (.inr (.inr (.inr (Lq 0)))))), ((Va 0), .inr (7, [.ref (Va 1), .int sv_21, .int sv_22])), ((Va 1), .inl (tc 0, 400, .inl sv_23)), ((Ta 0), .inr (10, [.ref (Ta 1), .int 0, .int sv_24, .int sv_25, .int sv_26, .int sv_27])), ((Ta 1), .inl (tc 0, 400, .inl (Tf 1)))] := hD
        refine lv_aload_nN hx hb dX11_rule_41 rfl (lv_at hl 0 rfl) ?_
        refine lv_ifnonnullN hx hb dX11_rule_42 ?_
        refine lv_bipush (v := (-2)) hx hb dX11_rule_45 (by decide) ?_
        refine lv_aload_n hx hb dX11_rule_47 rfl (lv_at hl 1 rfl) ?_
        refine gf_X11_10 hx hb hts hown hK hP 0 rfl rfl dX11_rule_48 ?_
        refine gf_X11_127 hx hb hts hown hK hP 4 rfl rfl dX11_rule_51 ?_
        refine lv_isub hx hb dX11_rule_54 ?_
        refine lv_topi (fun x_29 ex_29 => ?_)
        have ha_30 : 0 ≤ (0 : Int32).toInt ∧ (0 : Int32).toInt ≤ 400 ∧ 0 ≤ (sv_24 : Int32).toInt ∧ (sv_24 : Int32).toInt ≤ 400 ∧ 0 ≤ (sv_25 : Int32).toInt ∧ (sv_25 : Int32).toInt ≤ 400 := by
          have z_1 := Int32.le_iff_toInt_le.mp (Int32.not_lt.mp c_1)
          have z_2 := Int32.lt_iff_toInt_lt.mp c_3
          have y_0 : (0 : Int32).toInt = 0 := by decide
          have y_6 : (6 : Int32).toInt = 6 := by decide
          omega
        exact retI (v := x_29) hx hb hr hlk (rfl) hP hD hS (false, 0, 0, 0, 0, 0, 0, 0, 0, 0, 0, (fun _ => 0), (fun _ => 0), 0, (Gv 0), 0, sv_24, sv_25, sv_26, sv_27, sv_21, sv_22, sv_23, (Lq 0)) ⟨_, rfl, trivial, ha_30⟩ [0, 4, 5, 2, 3, 1] rfl rfl dX11_rule_55 (Nat.le_of_ble_eq_true rfl) (Nat.le_of_ble_eq_true rfl) rfl
      · skip
        obtain ⟨rfl, pf_31⟩ := hv_7
        have pf_31 : 0 ≤ ((Tv 0) : Int32).toInt ∧ ((Tv 0) : Int32).toInt ≤ 400 ∧ 0 ≤ (sv_15 : Int32).toInt ∧ (sv_15 : Int32).toInt ≤ 400 ∧ 0 ≤ (sv_16 : Int32).toInt ∧ (sv_16 : Int32).toInt ≤ 400 := pf_31
        refine W.eq (g2 := F0 m 32 ls [.ref sv_9]) rfl ?_
        have hP : va_P D classes [((Ga 0), .inr (11, [.ref (Ta 0), .ref (Ga 2), .ref (Va 0), .ref (La 0), .int (Gv 0), .ref (Ga 5), .ref (Ga 6), .ref (Ga 7), .ref (Ga 8), .ref (Ga 9), .ref (Ga 10), .ref (Ga 11)])), ((La 0), .inl (tc 4, 6, .inr (.inr (.inr (.inr (Lq 0)))))), ((Va 0), .inr (7, [.ref (Va 1), .int sv_12, .int sv_13])), ((Va 1), .inl (tc 0, 400, .inl sv_14)), ((Ta 0), .inr (10, [.ref (Ta 1), .int (Tv 0), .int sv_15, .int sv_16, .int sv_17, .int sv_18])), ((Ta 1), .inl (tc 0, 400, .inl (Tf 1))), (sv_9, .inr (6, [.ref sv_10, .ref sv_11])), (sv_10, .inl (tc 0, sv_20, .inl sv_19)), (sv_11, .inl (tc 1, 64, .inr (.inl (fun _ => 0))))] H := hP
        have hD : va_D A [((Ga 0), .inr (11, [.ref (Ta 0), .ref (Ga 2), .ref (Va 0), .ref (La 0), .int (Gv 0), .ref (Ga 5), .ref (Ga 6), .ref (Ga 7), .ref (Ga 8), .ref (Ga 9), .ref (Ga 10), .ref (Ga 11)])), ((La 0), .inl (tc 4, 6, .inr (.inr (.inr (.inr (Lq 0)))))), ((Va 0), .inr (7, [.ref (Va 1), .int sv_12, .int sv_13])), ((Va 1), .inl (tc 0, 400, .inl sv_14)), ((Ta 0), .inr (10, [.ref (Ta 1), .int (Tv 0), .int sv_15, .int sv_16, .int sv_17, .int sv_18])), ((Ta 1), .inl (tc 0, 400, .inl (Tf 1))), (sv_9, .inr (6, [.ref sv_10, .ref sv_11])), (sv_10, .inl (tc 0, sv_20, .inl sv_19)), (sv_11, .inl (tc 1, 64, .inr (.inl (fun _ => 0))))] := hD
        refine lv_astore_n (lv' := [(1, .ref sv_9), (0, .ref (Ga 0))]) hx hb dX11_rule_32 rfl hl (by decide) rfl (fun ls hl => ?_)
        refine lv_aload_n hx hb dX11_rule_33 rfl (lv_at hl 1 rfl) ?_
        refine gf_X11_10 hx hb hts hown hK hP 0 rfl rfl dX11_rule_34 ?_
        refine lv_iconst (v := 0) hx hb dX11_rule_37 (by decide) ?_
        refine pf_X11_94 hx hb hts hown hK hP hD hS 4 rfl (Nat.le_of_ble_eq_true rfl) rfl rfl dX11_rule_38 (fun H locs hP hD hS => ?_)
        have hP : va_P D classes [((Ga 0), .inr (11, [.ref (Ta 0), .ref (Ga 2), .ref (Va 0), .ref (La 0), .int (Gv 0), .ref (Ga 5), .ref (Ga 6), .ref (Ga 7), .ref (Ga 8), .ref (Ga 9), .ref (Ga 10), .ref (Ga 11)])), ((La 0), .inl (tc 4, 6, .inr (.inr (.inr (.inr (Lq 0)))))), ((Va 0), .inr (7, [.ref (Va 1), .int sv_12, .int sv_13])), ((Va 1), .inl (tc 0, 400, .inl sv_14)), ((Ta 0), .inr (10, [.ref (Ta 1), .int 0, .int sv_15, .int sv_16, .int sv_17, .int sv_18])), ((Ta 1), .inl (tc 0, 400, .inl (Tf 1))), (sv_9, .inr (6, [.ref sv_10, .ref sv_11])), (sv_10, .inl (tc 0, sv_20, .inl sv_19)), (sv_11, .inl (tc 1, 64, .inr (.inl (fun _ => 0))))] H := hP
        have hD : va_D A [((Ga 0), .inr (11, [.ref (Ta 0), .ref (Ga 2), .ref (Va 0), .ref (La 0), .int (Gv 0), .ref (Ga 5), .ref (Ga 6), .ref (Ga 7), .ref (Ga 8), .ref (Ga 9), .ref (Ga 10), .ref (Ga 11)])), ((La 0), .inl (tc 4, 6, .inr (.inr (.inr (.inr (Lq 0)))))), ((Va 0), .inr (7, [.ref (Va 1), .int sv_12, .int sv_13])), ((Va 1), .inl (tc 0, 400, .inl sv_14)), ((Ta 0), .inr (10, [.ref (Ta 1), .int 0, .int sv_15, .int sv_16, .int sv_17, .int sv_18])), ((Ta 1), .inl (tc 0, 400, .inl (Tf 1))), (sv_9, .inr (6, [.ref sv_10, .ref sv_11])), (sv_10, .inl (tc 0, sv_20, .inl sv_19)), (sv_11, .inl (tc 1, 64, .inr (.inl (fun _ => 0))))] := hD
        refine lv_aload_n hx hb dX11_rule_41 rfl (lv_at hl 0 rfl) ?_
        refine lv_ifnonnull (tgt := 56) hx hb dX11_rule_42 (by decide) ?_
        refine lv_aload_n hx hb dX11_rule_56 rfl (lv_at hl 1 rfl) ?_
        refine gf_X11_32 hx hb hts hown hK hP 0 rfl rfl dX11_rule_57 ?_
        refine lv_aload_n hx hb dX11_rule_60 rfl (lv_at hl 1 rfl) ?_
        refine gf_X11_36 hx hb hts hown hK hP 0 rfl rfl dX11_rule_61 ?_
        refine lv_aload_n hx hb dX11_rule_64 rfl (lv_at hl 0 rfl) ?_
        have hi_32 : vp_in (Gv 0) 6 := by
          have z_1 := Int32.le_iff_toInt_le.mp (Int32.not_lt.mp c_1)
          have z_2 := Int32.lt_iff_toInt_lt.mp c_3
          have y_0 : (0 : Int32).toInt = 0 := by decide
          have y_6 : (6 : Int32).toInt = 6 := by decide
          refine vp_in_iff.mpr ⟨?_, ?_⟩ <;> omega
        refine st_ref hx hb hK hP hD hS 1 4 6 6 (r := (RX6, TX6, 2)) rfl rfl rfl rfl hi_32 dX11_rule_65 (fun g_33 H locs eg_33 hP hD hS => ?_)
        have hP : va_P D classes [((Ga 0), .inr (11, [.ref (Ta 0), .ref (Ga 2), .ref (Va 0), .ref (La 0), .int (Gv 0), .ref (Ga 5), .ref (Ga 6), .ref (Ga 7), .ref (Ga 8), .ref (Ga 9), .ref (Ga 10), .ref (Ga 11)])), ((La 0), .inl (tc 4, 6, .inr (.inr (.inr (.inr g_33))))), ((Va 0), .inr (7, [.ref (Va 1), .int sv_12, .int sv_13])), ((Va 1), .inl (tc 0, 400, .inl sv_14)), ((Ta 0), .inr (10, [.ref (Ta 1), .int 0, .int sv_15, .int sv_16, .int sv_17, .int sv_18])), ((Ta 1), .inl (tc 0, 400, .inl (Tf 1))), (sv_9, .inr (6, [.ref sv_10, .ref sv_11])), (sv_10, .inl (tc 0, sv_20, .inl sv_19)), (sv_11, .inl (tc 1, 64, .inr (.inl (fun _ => 0))))] H := hP
        have hD : va_D A [((Ga 0), .inr (11, [.ref (Ta 0), .ref (Ga 2), .ref (Va 0), .ref (La 0), .int (Gv 0), .ref (Ga 5), .ref (Ga 6), .ref (Ga 7), .ref (Ga 8), .ref (Ga 9), .ref (Ga 10), .ref (Ga 11)])), ((La 0), .inl (tc 4, 6, .inr (.inr (.inr (.inr g_33))))), ((Va 0), .inr (7, [.ref (Va 1), .int sv_12, .int sv_13])), ((Va 1), .inl (tc 0, 400, .inl sv_14)), ((Ta 0), .inr (10, [.ref (Ta 1), .int 0, .int sv_15, .int sv_16, .int sv_17, .int sv_18])), ((Ta 1), .inl (tc 0, 400, .inl (Tf 1))), (sv_9, .inr (6, [.ref sv_10, .ref sv_11])), (sv_10, .inl (tc 0, sv_20, .inl sv_19)), (sv_11, .inl (tc 1, 64, .inr (.inl (fun _ => 0))))] := hD
        subst eg_33
        have hP : va_P D classes [((Ga 0), .inr (11, [.ref (Ta 0), .ref (Ga 2), .ref (Va 0), .ref (La 0), .int (Gv 0), .ref (Ga 5), .ref (Ga 6), .ref (Ga 7), .ref (Ga 8), .ref (Ga 9), .ref (Ga 10), .ref (Ga 11)])), ((La 0), .inl (tc 4, 6, .inr (.inr (.inr (.inr (va_up (Lq 0) ((Gv 0) : Int32).toNatClampNeg (some sv_9))))))), ((Va 0), .inr (7, [.ref (Va 1), .int sv_12, .int sv_13])), ((Va 1), .inl (tc 0, 400, .inl sv_14)), ((Ta 0), .inr (10, [.ref (Ta 1), .int 0, .int sv_15, .int sv_16, .int sv_17, .int sv_18])), ((Ta 1), .inl (tc 0, 400, .inl (Tf 1))), (sv_9, .inr (6, [.ref sv_10, .ref sv_11])), (sv_10, .inl (tc 0, sv_20, .inl sv_19)), (sv_11, .inl (tc 1, 64, .inr (.inl (fun _ => 0))))] H := hP
        have hD : va_D A [((Ga 0), .inr (11, [.ref (Ta 0), .ref (Ga 2), .ref (Va 0), .ref (La 0), .int (Gv 0), .ref (Ga 5), .ref (Ga 6), .ref (Ga 7), .ref (Ga 8), .ref (Ga 9), .ref (Ga 10), .ref (Ga 11)])), ((La 0), .inl (tc 4, 6, .inr (.inr (.inr (.inr (va_up (Lq 0) ((Gv 0) : Int32).toNatClampNeg (some sv_9))))))), ((Va 0), .inr (7, [.ref (Va 1), .int sv_12, .int sv_13])), ((Va 1), .inl (tc 0, 400, .inl sv_14)), ((Ta 0), .inr (10, [.ref (Ta 1), .int 0, .int sv_15, .int sv_16, .int sv_17, .int sv_18])), ((Ta 1), .inl (tc 0, 400, .inl (Tf 1))), (sv_9, .inr (6, [.ref sv_10, .ref sv_11])), (sv_10, .inl (tc 0, sv_20, .inl sv_19)), (sv_11, .inl (tc 1, 64, .inr (.inl (fun _ => 0))))] := hD
        refine lv_aload_n hx hb dX11_rule_66 rfl (lv_at hl 1 rfl) ?_
        refine lv_dup hx hb dX11_rule_67 rfl ?_
        refine gf_X11_36 hx hb hts hown hK hP 0 rfl rfl dX11_rule_68 ?_
        refine lv_iconst (v := 1) hx hb dX11_rule_71 (by decide) ?_
        refine lv_iadd hx hb dX11_rule_72 ?_
        refine lv_topi (fun x_34 ex_34 => ?_)
        refine pf_X11_36 hx hb hts hown hK hP hD hS 0 rfl (Nat.le_of_ble_eq_true rfl) rfl rfl dX11_rule_73 (fun H locs hP hD hS => ?_)
        have hP : va_P D classes [((Ga 0), .inr (11, [.ref (Ta 0), .ref (Ga 2), .ref (Va 0), .ref (La 0), .int x_34, .ref (Ga 5), .ref (Ga 6), .ref (Ga 7), .ref (Ga 8), .ref (Ga 9), .ref (Ga 10), .ref (Ga 11)])), ((La 0), .inl (tc 4, 6, .inr (.inr (.inr (.inr (va_up (Lq 0) ((Gv 0) : Int32).toNatClampNeg (some sv_9))))))), ((Va 0), .inr (7, [.ref (Va 1), .int sv_12, .int sv_13])), ((Va 1), .inl (tc 0, 400, .inl sv_14)), ((Ta 0), .inr (10, [.ref (Ta 1), .int 0, .int sv_15, .int sv_16, .int sv_17, .int sv_18])), ((Ta 1), .inl (tc 0, 400, .inl (Tf 1))), (sv_9, .inr (6, [.ref sv_10, .ref sv_11])), (sv_10, .inl (tc 0, sv_20, .inl sv_19)), (sv_11, .inl (tc 1, 64, .inr (.inl (fun _ => 0))))] H := hP
        have hD : va_D A [((Ga 0), .inr (11, [.ref (Ta 0), .ref (Ga 2), .ref (Va 0), .ref (La 0), .int x_34, .ref (Ga 5), .ref (Ga 6), .ref (Ga 7), .ref (Ga 8), .ref (Ga 9), .ref (Ga 10), .ref (Ga 11)])), ((La 0), .inl (tc 4, 6, .inr (.inr (.inr (.inr (va_up (Lq 0) ((Gv 0) : Int32).toNatClampNeg (some sv_9))))))), ((Va 0), .inr (7, [.ref (Va 1), .int sv_12, .int sv_13])), ((Va 1), .inl (tc 0, 400, .inl sv_14)), ((Ta 0), .inr (10, [.ref (Ta 1), .int 0, .int sv_15, .int sv_16, .int sv_17, .int sv_18])), ((Ta 1), .inl (tc 0, 400, .inl (Tf 1))), (sv_9, .inr (6, [.ref sv_10, .ref sv_11])), (sv_10, .inl (tc 0, sv_20, .inl sv_19)), (sv_11, .inl (tc 1, 64, .inr (.inl (fun _ => 0))))] := hD
        refine lv_aload_n hx hb dX11_rule_76 rfl (lv_at hl 1 rfl) ?_
        refine gf_X11_36 hx hb hts hown hK hP 0 rfl rfl dX11_rule_77 ?_
        refine lv_iconst (v := 1) hx hb dX11_rule_80 (by decide) ?_
        refine lv_isub hx hb dX11_rule_81 ?_
        refine lv_topi (fun x_35 ex_35 => ?_)
        have ha_36 : 0 ≤ (0 : Int32).toInt ∧ (0 : Int32).toInt ≤ 400 ∧ 0 ≤ (sv_15 : Int32).toInt ∧ (sv_15 : Int32).toInt ≤ 400 ∧ 0 ≤ (sv_16 : Int32).toInt ∧ (sv_16 : Int32).toInt ≤ 400 := by
          have z_1 := Int32.le_iff_toInt_le.mp (Int32.not_lt.mp c_1)
          have z_2 := Int32.lt_iff_toInt_lt.mp c_3
          have y_0 : (0 : Int32).toInt = 0 := by decide
          have y_6 : (6 : Int32).toInt = 6 := by decide
          omega
        have ha_37 : (x_34 : Int32).toInt = (Gv 0).toInt + 1 ∧ 0 ≤ (Gv 0).toInt ∧ (Gv 0).toInt < 6 ∧ sv_20 ≤ 400 := by
          have z_1 := Int32.le_iff_toInt_le.mp (Int32.not_lt.mp c_1)
          have z_2 := Int32.lt_iff_toInt_lt.mp c_3
          have y_0 : (0 : Int32).toInt = 0 := by decide
          have y_6 : (6 : Int32).toInt = 6 := by decide
          have y_1 : (1 : Int32).toInt = 1 := by decide
          have t_x_34 : x_34.toInt = ((Gv 0) : Int32).toInt + (1 : Int32).toInt := by rw [ex_34]; exact add_toInt (by omega) (by omega)
          omega
        exact retI (v := x_35) hx hb hr hlk (rfl) hP hD hS (true, sv_9, sv_10, sv_11, x_34, sv_15, sv_16, sv_17, sv_18, sv_12, sv_13, sv_14, sv_19, sv_20, 0, 0, 0, 0, 0, 0, 0, 0, (fun _ => 0), (fun _ => none)) ⟨_, rfl, trivial, ha_36, ha_37⟩ [0, 4, 5, 2, 3, 1, 6, 7, 8] rfl rfl dX11_rule_82 (Nat.le_of_ble_eq_true rfl) (Nat.le_of_ble_eq_true rfl) rfl
    · skip
      refine lv_iconst (v := (-1)) hx hb dX11_rule_19 (by decide) ?_
      have ha_38 : 0 ≤ ((Tv 0) : Int32).toInt ∧ ((Tv 0) : Int32).toInt ≤ 400 ∧ 0 ≤ ((Tv 1) : Int32).toInt ∧ ((Tv 1) : Int32).toInt ≤ 400 ∧ 0 ≤ ((Tv 2) : Int32).toInt ∧ ((Tv 2) : Int32).toInt ≤ 400 := by
        have z_1 := Int32.le_iff_toInt_le.mp (Int32.not_lt.mp c_1)
        have z_2 := Int32.le_iff_toInt_le.mp (Int32.not_lt.mp c_3)
        have y_0 : (0 : Int32).toInt = 0 := by decide
        have y_6 : (6 : Int32).toInt = 6 := by decide
        omega
      exact retI (v := (-1)) hx hb hr hlk (rfl) hP hD hS (false, 0, 0, 0, 0, 0, 0, 0, 0, 0, 0, (fun _ => 0), (fun _ => 0), 0, (Gv 0), (Tv 0), (Tv 1), (Tv 2), (Tv 3), (Tv 4), (Vv 0), (Vv 1), (Vf 1), (Lq 0)) ⟨_, rfl, trivial, ha_38⟩ [0, 1, 2, 3, 4, 5] rfl rfl dX11_rule_20 (Nat.le_of_ble_eq_true rfl) (Nat.le_of_ble_eq_true rfl) rfl
set_option maxHeartbeats 4000000 in
set_option maxRecDepth 100000 in
theorem ct_X11_force (l : Launch) (D : va_G) (tc : Nat → ClassId) (sk : (Nat → Nat) × (Nat → Nat)) (Ga : Nat → Nat) (Gv : Nat → Int32) (Sa : Nat → Nat) (Sv : Nat → Int32) (x1 : Int32)  : Ct l yX11_force cX11_force 3 (some .int) { frames := 0, cells := 0, slots := 0, locals := 0 } D tc sk [.ref (Ga 0), .int x1] [((Ga 0), .inr (11, [.ref (Ga 1), .ref (Ga 2), .ref (Ga 3), .ref (Ga 4), .int (Gv 0), .ref (Sa 0), .ref (Ga 6), .ref (Ga 7), .ref (Ga 8), .ref (Ga 9), .ref (Ga 10), .ref (Ga 11)])), ((Sa 0), .inr (8, [.ref (Sa 1), .ref (Sa 2), .ref (Sa 3), .int (Sv 0), .int (Sv 1)]))] (fun (v : Option Value) (oo0x1 : Int32) => ∃ r : Int32, v = some (.int r) ∧ (True)) (fun (oo0x1 : Int32) => [((Ga 0), .inr (11, [.ref (Ga 1), .ref (Ga 2), .ref (Ga 3), .ref (Ga 4), .int (Gv 0), .ref (Sa 0), .ref (Ga 6), .ref (Ga 7), .ref (Ga 8), .ref (Ga 9), .ref (Ga 10), .ref (Ga 11)])), ((Sa 0), .inr (8, [.ref (Sa 1), .ref (Sa 2), .ref (Sa 3), .int oo0x1, .int (Sv 1)]))]) 0 0 := by
  refine Ct.start (by decide) (Nat.le_of_ble_eq_true rfl) (fun p e s m below meth c A ls hx hb hr hlk hin hml hown hts hK hX hP hD hA hl hS => ?_)
  have hl : lv_has ls 3 [(0, .ref (Ga 0)), (1, .int x1)] := hl
  refine lv_iload_n hx hb dX11_force_0 rfl (lv_at hl 1 rfl) ?_
  refine lv_iconst (v := (-1)) hx hb dX11_force_1 (by decide) ?_
  refine lv_icmp_lt (tgt := 13) hx hb dX11_force_2 (by decide) (fun c_1 => ?_) (fun c_1 => ?_)
  · skip
    refine lv_bipush (v := (-2)) hx hb dX11_force_13 (by decide) ?_
    exact retI (v := (-2)) hx hb hr hlk (rfl) hP hD hS (Sv 0) ⟨_, rfl, trivial⟩ [0, 1] rfl rfl dX11_force_15 (Nat.le_of_ble_eq_true rfl) (Nat.le_of_ble_eq_true rfl) rfl
  · skip
    refine lv_iload_n hx hb dX11_force_5 rfl (lv_at hl 1 rfl) ?_
    refine lv_aload_n hx hb dX11_force_6 rfl (lv_at hl 0 rfl) ?_
    refine gf_X11_36 hx hb hts hown hK hP 0 rfl rfl dX11_force_7 ?_
    refine lv_icmp_lt (tgt := 16) hx hb dX11_force_10 (by decide) (fun c_2 => ?_) (fun c_2 => ?_)
    · skip
      refine lv_aload_n hx hb dX11_force_16 rfl (lv_at hl 0 rfl) ?_
      refine gf_X11_43 hx hb hts hown hK hP 0 rfl rfl dX11_force_17 ?_
      refine gf_X11_130 hx hb hts hown hK hP 1 rfl rfl dX11_force_20 ?_
      refine lv_istore_n (lv' := [(2, .int (Sv 0)), (0, .ref (Ga 0)), (1, .int x1)]) hx hb dX11_force_23 rfl hl (by decide) rfl (fun ls hl => ?_)
      refine lv_aload_n hx hb dX11_force_24 rfl (lv_at hl 1 rfl) ?_
      refine gf_X11_43 hx hb hts hown hK hP 0 rfl rfl dX11_force_25 ?_
      refine lv_iload_n hx hb dX11_force_28 rfl (lv_at hl 2 rfl) ?_
      refine pf_X11_130 hx hb hts hown hK hP hD hS 1 rfl (Nat.le_of_ble_eq_true rfl) rfl rfl dX11_force_29 (fun H locs hP hD hS => ?_)
      have hP : va_P D classes [((Ga 0), .inr (11, [.ref (Ga 1), .ref (Ga 2), .ref (Ga 3), .ref (Ga 4), .int (Gv 0), .ref (Sa 0), .ref (Ga 6), .ref (Ga 7), .ref (Ga 8), .ref (Ga 9), .ref (Ga 10), .ref (Ga 11)])), ((Sa 0), .inr (8, [.ref (Sa 1), .ref (Sa 2), .ref (Sa 3), .int x1, .int (Sv 1)]))] H := hP
      have hD : va_D A [((Ga 0), .inr (11, [.ref (Ga 1), .ref (Ga 2), .ref (Ga 3), .ref (Ga 4), .int (Gv 0), .ref (Sa 0), .ref (Ga 6), .ref (Ga 7), .ref (Ga 8), .ref (Ga 9), .ref (Ga 10), .ref (Ga 11)])), ((Sa 0), .inr (8, [.ref (Sa 1), .ref (Sa 2), .ref (Sa 3), .int x1, .int (Sv 1)]))] := hD
      refine lv_iload_n hx hb dX11_force_32 rfl (lv_at hl 0 rfl) ?_
      exact retI (v := (Sv 0)) hx hb hr hlk (rfl) hP hD hS x1 ⟨_, rfl, trivial⟩ [0, 1] rfl rfl dX11_force_33 (Nat.le_of_ble_eq_true rfl) (Nat.le_of_ble_eq_true rfl) rfl
    · skip
      refine lv_bipush (v := (-2)) hx hb dX11_force_13 (by decide) ?_
      exact retI (v := (-2)) hx hb hr hlk (rfl) hP hD hS (Sv 0) ⟨_, rfl, trivial⟩ [0, 1] rfl rfl dX11_force_15 (Nat.le_of_ble_eq_true rfl) (Nat.le_of_ble_eq_true rfl) rfl
set_option maxHeartbeats 4000000 in
set_option maxRecDepth 100000 in
theorem ct_X11_buyer (l : Launch) (D : va_G) (tc : Nat → ClassId) (sk : (Nat → Nat) × (Nat → Nat)) (Ga : Nat → Nat) (Gv : Nat → Int32) (Aa : Nat → Nat) (Av : Nat → Int32) (Af : Nat → Nat → Int32) (x1 : Int32) (x2 : Int32)  : Ct l yX11_buyer cX11_buyer 3 (some .int) { frames := 2, cells := 0, slots := 0, locals := 42 } D tc sk [.ref (Ga 0), .int x1, .int x2] [((Ga 0), .inr (11, [.ref (Ga 1), .ref (Ga 2), .ref (Ga 3), .ref (Ga 4), .int (Gv 0), .ref (Ga 5), .ref (Aa 0), .ref (Ga 7), .ref (Ga 8), .ref (Ga 9), .ref (Ga 10), .ref (Ga 11)])), ((Aa 0), .inr (9, [.int (Av 0), .int (Av 1), .int (Av 2), .int (Av 3), .int (Av 4), .int (Av 5), .ref (Aa 1), .ref (Aa 2), .ref (Aa 3), .ref (Aa 4), .ref (Aa 5), .ref (Aa 6), .ref (Aa 7), .ref (Aa 8)])), ((Aa 1), .inl (tc 0, 10, .inl (Af 1))), ((Aa 2), .inl (tc 0, 10, .inl (Af 2))), ((Aa 3), .inl (tc 0, 6, .inl (Af 3))), ((Aa 4), .inl (tc 0, 6, .inl (Af 4))), ((Aa 5), .inl (tc 0, 6, .inl (Af 5))), ((Aa 6), .inl (tc 0, 6, .inl (Af 6))), ((Aa 7), .inl (tc 0, 6, .inl (Af 7))), ((Aa 8), .inl (tc 0, 6, .inl (Af 8)))] (fun (v : Option Value) (_ : Unit) => ∃ r : Int32, v = some (.int r) ∧ (True)) (fun (_ : Unit) => [((Ga 0), .inr (11, [.ref (Ga 1), .ref (Ga 2), .ref (Ga 3), .ref (Ga 4), .int (Gv 0), .ref (Ga 5), .ref (Aa 0), .ref (Ga 7), .ref (Ga 8), .ref (Ga 9), .ref (Ga 10), .ref (Ga 11)])), ((Aa 0), .inr (9, [.int (Av 0), .int (Av 1), .int (Av 2), .int (Av 3), .int (Av 4), .int (Av 5), .ref (Aa 1), .ref (Aa 2), .ref (Aa 3), .ref (Aa 4), .ref (Aa 5), .ref (Aa 6), .ref (Aa 7), .ref (Aa 8)])), ((Aa 1), .inl (tc 0, 10, .inl (Af 1))), ((Aa 2), .inl (tc 0, 10, .inl (Af 2))), ((Aa 3), .inl (tc 0, 6, .inl (Af 3))), ((Aa 4), .inl (tc 0, 6, .inl (Af 4))), ((Aa 5), .inl (tc 0, 6, .inl (Af 5))), ((Aa 6), .inl (tc 0, 6, .inl (Af 6))), ((Aa 7), .inl (tc 0, 6, .inl (Af 7))), ((Aa 8), .inl (tc 0, 6, .inl (Af 8)))]) 0 0 := by
  refine Ct.start (by decide) (Nat.le_of_ble_eq_true rfl) (fun p e s m below meth c A ls hx hb hr hlk hin hml hown hts hK hX hP hD hA hl hS => ?_)
  have hl : lv_has ls 3 [(0, .ref (Ga 0)), (1, .int x1), (2, .int x2)] := hl
  refine lv_aload_n hx hb dX11_buyer_0 rfl (lv_at hl 0 rfl) ?_
  refine gf_X11_51 hx hb hts hown hK hP 0 rfl rfl dX11_buyer_1 ?_
  refine lv_iload_n hx hb dX11_buyer_4 rfl (lv_at hl 1 rfl) ?_
  refine cV (a := (Aa 0)) (As := [.int x1]) (rest := []) (wr := [((Ga 0), .inr (11, [.ref (Ga 1), .ref (Ga 2), .ref (Ga 3), .ref (Ga 4), .int (Gv 0), .ref (Ga 5), .ref (Aa 0), .ref (Ga 7), .ref (Ga 8), .ref (Ga 9), .ref (Ga 10), .ref (Ga 11)]))]) ⟨hx, hb, hml, hown, hts⟩ hK hX hA (ct_X9_hasBuyer l D tc sk Aa Av Af x1) k_591 k_702 k_589 k_590 k_98 pl_X9_hasBuyer ⟨Nat.le_of_ble_eq_true rfl, Nat.le_of_ble_eq_true rfl⟩ rfl rfl (va_recv hK hP (ci := 9) (q0 := 1) rfl rfl) hP hD hS [1, 2, 3, 4, 5, 6, 7, 8, 9] [0] rfl rfl rfl rfl rfl (by decide) rfl hl.1 rfl (Nat.le_of_ble_eq_true rfl) dX11_buyer_5 ⟨Nat.le_of_ble_eq_true rfl, Nat.le_of_ble_eq_true rfl⟩ (fun v_1 u_2 H locs hv_3 hP hD hS => ?_)
  obtain ⟨r_4, rfl, he_5⟩ := hv_3
  have he_5 : ((r_4.toInt = 0 ∨ (r_4.toInt = 1 ∧ 0 ≤ x1.toInt ∧ x1.toInt < 6 ∧ x1.toInt < (Av 3).toInt))) := he_5
  refine W.eq (g2 := F0 m 8 ls [.int r_4]) rfl ?_
  have hP : va_P D classes [((Ga 0), .inr (11, [.ref (Ga 1), .ref (Ga 2), .ref (Ga 3), .ref (Ga 4), .int (Gv 0), .ref (Ga 5), .ref (Aa 0), .ref (Ga 7), .ref (Ga 8), .ref (Ga 9), .ref (Ga 10), .ref (Ga 11)])), ((Aa 0), .inr (9, [.int (Av 0), .int (Av 1), .int (Av 2), .int (Av 3), .int (Av 4), .int (Av 5), .ref (Aa 1), .ref (Aa 2), .ref (Aa 3), .ref (Aa 4), .ref (Aa 5), .ref (Aa 6), .ref (Aa 7), .ref (Aa 8)])), ((Aa 1), .inl (tc 0, 10, .inl (Af 1))), ((Aa 2), .inl (tc 0, 10, .inl (Af 2))), ((Aa 3), .inl (tc 0, 6, .inl (Af 3))), ((Aa 4), .inl (tc 0, 6, .inl (Af 4))), ((Aa 5), .inl (tc 0, 6, .inl (Af 5))), ((Aa 6), .inl (tc 0, 6, .inl (Af 6))), ((Aa 7), .inl (tc 0, 6, .inl (Af 7))), ((Aa 8), .inl (tc 0, 6, .inl (Af 8)))] H := hP
  have hD : va_D A [((Ga 0), .inr (11, [.ref (Ga 1), .ref (Ga 2), .ref (Ga 3), .ref (Ga 4), .int (Gv 0), .ref (Ga 5), .ref (Aa 0), .ref (Ga 7), .ref (Ga 8), .ref (Ga 9), .ref (Ga 10), .ref (Ga 11)])), ((Aa 0), .inr (9, [.int (Av 0), .int (Av 1), .int (Av 2), .int (Av 3), .int (Av 4), .int (Av 5), .ref (Aa 1), .ref (Aa 2), .ref (Aa 3), .ref (Aa 4), .ref (Aa 5), .ref (Aa 6), .ref (Aa 7), .ref (Aa 8)])), ((Aa 1), .inl (tc 0, 10, .inl (Af 1))), ((Aa 2), .inl (tc 0, 10, .inl (Af 2))), ((Aa 3), .inl (tc 0, 6, .inl (Af 3))), ((Aa 4), .inl (tc 0, 6, .inl (Af 4))), ((Aa 5), .inl (tc 0, 6, .inl (Af 5))), ((Aa 6), .inl (tc 0, 6, .inl (Af 6))), ((Aa 7), .inl (tc 0, 6, .inl (Af 7))), ((Aa 8), .inl (tc 0, 6, .inl (Af 8)))] := hD
  refine lv_if_ne (tgt := 13) hx hb dX11_buyer_8 (by decide) (fun c_6 => ?_) (fun c_6 => ?_)
  · skip
    refine lv_iload_n hx hb dX11_buyer_13 rfl (lv_at hl 2 rfl) ?_
    refine lv_topi (fun x_7 ex_7 => ?_)
    by_cases c_8 : x_7 = 0
    · skip
      subst c_8
      refine lv_tableIn (off := 38) (tgt := 52) hx hb dX11_buyer_14 (by decide) (by decide) (by decide) (by decide) ?_
      refine lv_aload_n hx hb dX11_buyer_52 rfl (lv_at hl 0 rfl) ?_
      refine gf_X11_51 hx hb hts hown hK hP 0 rfl rfl dX11_buyer_53 ?_
      refine gf_X11_137 hx hb hts hown hK hP 1 rfl rfl dX11_buyer_56 ?_
      refine lv_iload_n hx hb dX11_buyer_59 rfl (lv_at hl 1 rfl) ?_
      have hi_9 : vp_in x1 6 := by
        have z_1 : ¬ (r_4 : Int32).toInt = (0 : Int32).toInt := fun z => c_6 (Int32.toInt_inj.mp z)
        have y_0 : (0 : Int32).toInt = 0 := by decide
        refine vp_in_iff.mpr ⟨?_, ?_⟩ <;> omega
      refine va_iald hx hb hK hP 4 0 rfl rfl hi_9 dX11_buyer_60 ?_
      refine lv_topi (fun x_10 ex_10 => ?_)
      exact retI (v := x_10) hx hb hr hlk (rfl) hP hD hS () ⟨_, rfl, trivial⟩ [0, 1, 2, 3, 4, 5, 6, 7, 8, 9] rfl rfl dX11_buyer_61 (Nat.le_of_ble_eq_true rfl) (Nat.le_of_ble_eq_true rfl) rfl
    · skip
      by_cases c_11 : x_7 = 1
      · skip
        subst c_11
        refine lv_tableIn (off := 48) (tgt := 62) hx hb dX11_buyer_14 (by decide) (by decide) (by decide) (by decide) ?_
        refine lv_aload_n hx hb dX11_buyer_62 rfl (lv_at hl 0 rfl) ?_
        refine gf_X11_51 hx hb hts hown hK hP 0 rfl rfl dX11_buyer_63 ?_
        refine gf_X11_141 hx hb hts hown hK hP 1 rfl rfl dX11_buyer_66 ?_
        refine lv_iload_n hx hb dX11_buyer_69 rfl (lv_at hl 1 rfl) ?_
        have hi_12 : vp_in x1 6 := by
          have z_1 : ¬ (r_4 : Int32).toInt = (0 : Int32).toInt := fun z => c_6 (Int32.toInt_inj.mp z)
          have y_0 : (0 : Int32).toInt = 0 := by decide
          refine vp_in_iff.mpr ⟨?_, ?_⟩ <;> omega
        refine va_iald hx hb hK hP 5 0 rfl rfl hi_12 dX11_buyer_70 ?_
        refine lv_topi (fun x_13 ex_13 => ?_)
        exact retI (v := x_13) hx hb hr hlk (rfl) hP hD hS () ⟨_, rfl, trivial⟩ [0, 1, 2, 3, 4, 5, 6, 7, 8, 9] rfl rfl dX11_buyer_71 (Nat.le_of_ble_eq_true rfl) (Nat.le_of_ble_eq_true rfl) rfl
      · skip
        by_cases c_14 : x_7 = 2
        · skip
          subst c_14
          refine lv_tableIn (off := 58) (tgt := 72) hx hb dX11_buyer_14 (by decide) (by decide) (by decide) (by decide) ?_
          refine lv_aload_n hx hb dX11_buyer_72 rfl (lv_at hl 0 rfl) ?_
          refine gf_X11_51 hx hb hts hown hK hP 0 rfl rfl dX11_buyer_73 ?_
          refine gf_X11_144 hx hb hts hown hK hP 1 rfl rfl dX11_buyer_76 ?_
          refine lv_iload_n hx hb dX11_buyer_79 rfl (lv_at hl 1 rfl) ?_
          have hi_15 : vp_in x1 6 := by
            have z_1 : ¬ (r_4 : Int32).toInt = (0 : Int32).toInt := fun z => c_6 (Int32.toInt_inj.mp z)
            have y_0 : (0 : Int32).toInt = 0 := by decide
            refine vp_in_iff.mpr ⟨?_, ?_⟩ <;> omega
          refine va_iald hx hb hK hP 6 0 rfl rfl hi_15 dX11_buyer_80 ?_
          refine lv_topi (fun x_16 ex_16 => ?_)
          exact retI (v := x_16) hx hb hr hlk (rfl) hP hD hS () ⟨_, rfl, trivial⟩ [0, 1, 2, 3, 4, 5, 6, 7, 8, 9] rfl rfl dX11_buyer_81 (Nat.le_of_ble_eq_true rfl) (Nat.le_of_ble_eq_true rfl) rfl
        · skip
          by_cases c_17 : x_7 = 3
          · skip
            subst c_17
            refine lv_tableIn (off := 68) (tgt := 82) hx hb dX11_buyer_14 (by decide) (by decide) (by decide) (by decide) ?_
            refine lv_aload_n hx hb dX11_buyer_82 rfl (lv_at hl 0 rfl) ?_
            refine gf_X11_51 hx hb hts hown hK hP 0 rfl rfl dX11_buyer_83 ?_
            refine gf_X11_147 hx hb hts hown hK hP 1 rfl rfl dX11_buyer_86 ?_
            refine lv_iload_n hx hb dX11_buyer_89 rfl (lv_at hl 1 rfl) ?_
            have hi_18 : vp_in x1 6 := by
              have z_1 : ¬ (r_4 : Int32).toInt = (0 : Int32).toInt := fun z => c_6 (Int32.toInt_inj.mp z)
              have y_0 : (0 : Int32).toInt = 0 := by decide
              refine vp_in_iff.mpr ⟨?_, ?_⟩ <;> omega
            refine va_iald hx hb hK hP 7 0 rfl rfl hi_18 dX11_buyer_90 ?_
            refine lv_topi (fun x_19 ex_19 => ?_)
            exact retI (v := x_19) hx hb hr hlk (rfl) hP hD hS () ⟨_, rfl, trivial⟩ [0, 1, 2, 3, 4, 5, 6, 7, 8, 9] rfl rfl dX11_buyer_91 (Nat.le_of_ble_eq_true rfl) (Nat.le_of_ble_eq_true rfl) rfl
          · skip
            by_cases c_20 : x_7 = 4
            · skip
              subst c_20
              refine lv_tableIn (off := 78) (tgt := 92) hx hb dX11_buyer_14 (by decide) (by decide) (by decide) (by decide) ?_
              refine lv_aload_n hx hb dX11_buyer_92 rfl (lv_at hl 0 rfl) ?_
              refine gf_X11_51 hx hb hts hown hK hP 0 rfl rfl dX11_buyer_93 ?_
              refine gf_X11_150 hx hb hts hown hK hP 1 rfl rfl dX11_buyer_96 ?_
              refine lv_iload_n hx hb dX11_buyer_99 rfl (lv_at hl 1 rfl) ?_
              have hi_21 : vp_in x1 6 := by
                have z_1 : ¬ (r_4 : Int32).toInt = (0 : Int32).toInt := fun z => c_6 (Int32.toInt_inj.mp z)
                have y_0 : (0 : Int32).toInt = 0 := by decide
                refine vp_in_iff.mpr ⟨?_, ?_⟩ <;> omega
              refine va_iald hx hb hK hP 8 0 rfl rfl hi_21 dX11_buyer_100 ?_
              refine lv_topi (fun x_22 ex_22 => ?_)
              exact retI (v := x_22) hx hb hr hlk (rfl) hP hD hS () ⟨_, rfl, trivial⟩ [0, 1, 2, 3, 4, 5, 6, 7, 8, 9] rfl rfl dX11_buyer_101 (Nat.le_of_ble_eq_true rfl) (Nat.le_of_ble_eq_true rfl) rfl
            · skip
              by_cases c_23 : x_7 = 5
              · skip
                subst c_23
                refine lv_tableIn (off := 88) (tgt := 102) hx hb dX11_buyer_14 (by decide) (by decide) (by decide) (by decide) ?_
                refine lv_bipush (v := 99) hx hb dX11_buyer_102 (by decide) ?_
                refine lv_aload_n hx hb dX11_buyer_104 rfl (lv_at hl 0 rfl) ?_
                refine gf_X11_51 hx hb hts hown hK hP 0 rfl rfl dX11_buyer_105 ?_
                refine lv_iload_n hx hb dX11_buyer_108 rfl (lv_at hl 1 rfl) ?_
                refine cV (a := (Aa 0)) (As := [.int x1]) (rest := [.int 99]) (wr := [((Ga 0), .inr (11, [.ref (Ga 1), .ref (Ga 2), .ref (Ga 3), .ref (Ga 4), .int (Gv 0), .ref (Ga 5), .ref (Aa 0), .ref (Ga 7), .ref (Ga 8), .ref (Ga 9), .ref (Ga 10), .ref (Ga 11)]))]) ⟨hx, hb, hml, hown, hts⟩ hK hX hA (ct_X9_daysSince l D tc sk Aa Av Af x1) k_706 k_703 k_704 k_705 k_98 pl_X9_daysSince ⟨Nat.le_of_ble_eq_true rfl, Nat.le_of_ble_eq_true rfl⟩ rfl rfl (va_recv hK hP (ci := 9) (q0 := 1) rfl rfl) hP hD hS [1, 2, 3, 4, 5, 6, 7, 8, 9] [0] rfl rfl rfl rfl rfl (by decide) rfl hl.1 rfl (Nat.le_of_ble_eq_true rfl) dX11_buyer_109 ⟨Nat.le_of_ble_eq_true rfl, Nat.le_of_ble_eq_true rfl⟩ (fun v_24 u_25 H locs hv_26 hP hD hS => ?_)
                obtain ⟨r_27, rfl, he_28⟩ := hv_26
                have he_28 : (True) := he_28
                refine W.eq (g2 := F0 m 112 ls [.int r_27, .int 99]) rfl ?_
                have hP : va_P D classes [((Ga 0), .inr (11, [.ref (Ga 1), .ref (Ga 2), .ref (Ga 3), .ref (Ga 4), .int (Gv 0), .ref (Ga 5), .ref (Aa 0), .ref (Ga 7), .ref (Ga 8), .ref (Ga 9), .ref (Ga 10), .ref (Ga 11)])), ((Aa 0), .inr (9, [.int (Av 0), .int (Av 1), .int (Av 2), .int (Av 3), .int (Av 4), .int (Av 5), .ref (Aa 1), .ref (Aa 2), .ref (Aa 3), .ref (Aa 4), .ref (Aa 5), .ref (Aa 6), .ref (Aa 7), .ref (Aa 8)])), ((Aa 1), .inl (tc 0, 10, .inl (Af 1))), ((Aa 2), .inl (tc 0, 10, .inl (Af 2))), ((Aa 3), .inl (tc 0, 6, .inl (Af 3))), ((Aa 4), .inl (tc 0, 6, .inl (Af 4))), ((Aa 5), .inl (tc 0, 6, .inl (Af 5))), ((Aa 6), .inl (tc 0, 6, .inl (Af 6))), ((Aa 7), .inl (tc 0, 6, .inl (Af 7))), ((Aa 8), .inl (tc 0, 6, .inl (Af 8)))] H := hP
                have hD : va_D A [((Ga 0), .inr (11, [.ref (Ga 1), .ref (Ga 2), .ref (Ga 3), .ref (Ga 4), .int (Gv 0), .ref (Ga 5), .ref (Aa 0), .ref (Ga 7), .ref (Ga 8), .ref (Ga 9), .ref (Ga 10), .ref (Ga 11)])), ((Aa 0), .inr (9, [.int (Av 0), .int (Av 1), .int (Av 2), .int (Av 3), .int (Av 4), .int (Av 5), .ref (Aa 1), .ref (Aa 2), .ref (Aa 3), .ref (Aa 4), .ref (Aa 5), .ref (Aa 6), .ref (Aa 7), .ref (Aa 8)])), ((Aa 1), .inl (tc 0, 10, .inl (Af 1))), ((Aa 2), .inl (tc 0, 10, .inl (Af 2))), ((Aa 3), .inl (tc 0, 6, .inl (Af 3))), ((Aa 4), .inl (tc 0, 6, .inl (Af 4))), ((Aa 5), .inl (tc 0, 6, .inl (Af 5))), ((Aa 6), .inl (tc 0, 6, .inl (Af 6))), ((Aa 7), .inl (tc 0, 6, .inl (Af 7))), ((Aa 8), .inl (tc 0, 6, .inl (Af 8)))] := hD
                refine va_mmin hx hb (hml.trans hl.1.symm) hown (hts _ k_708) (hts _ k_680) (hts _ k_114) (hts _ k_681) (Nat.le_of_ble_eq_true rfl) (Nat.le_of_ble_eq_true rfl) (Nat.le_of_ble_eq_true rfl) (Nat.le_of_ble_eq_true rfl) dX11_buyer_112 ?_
                refine lv_topi (fun x_29 ex_29 => ?_)
                have mx_29 := imin_f ex_29
                rw [show (99 : Int32).toInt = 99 by decide] at mx_29
                exact retI (v := x_29) hx hb hr hlk (rfl) hP hD hS () ⟨_, rfl, trivial⟩ [0, 1, 2, 3, 4, 5, 6, 7, 8, 9] rfl rfl dX11_buyer_115 (Nat.le_of_ble_eq_true rfl) (Nat.le_of_ble_eq_true rfl) rfl
              · skip
                have ho_30 : (x_7 : Int32).toInt < 0 ∨ 5 < (x_7 : Int32).toInt := by
                  have z_1 : ¬ (r_4 : Int32).toInt = (0 : Int32).toInt := fun z => c_6 (Int32.toInt_inj.mp z)
                  have z_2 : ¬ (x_7 : Int32).toInt = (0 : Int32).toInt := fun z => c_8 (Int32.toInt_inj.mp z)
                  have z_3 : ¬ (x_7 : Int32).toInt = (1 : Int32).toInt := fun z => c_11 (Int32.toInt_inj.mp z)
                  have z_4 : ¬ (x_7 : Int32).toInt = (2 : Int32).toInt := fun z => c_14 (Int32.toInt_inj.mp z)
                  have z_5 : ¬ (x_7 : Int32).toInt = (3 : Int32).toInt := fun z => c_17 (Int32.toInt_inj.mp z)
                  have z_6 : ¬ (x_7 : Int32).toInt = (4 : Int32).toInt := fun z => c_20 (Int32.toInt_inj.mp z)
                  have z_7 : ¬ (x_7 : Int32).toInt = (5 : Int32).toInt := fun z => c_23 (Int32.toInt_inj.mp z)
                  have y_0 : (0 : Int32).toInt = 0 := by decide
                  have y_1 : (1 : Int32).toInt = 1 := by decide
                  have y_2 : (2 : Int32).toInt = 2 := by decide
                  have y_3 : (3 : Int32).toInt = 3 := by decide
                  have y_4 : (4 : Int32).toInt = 4 := by decide
                  have y_5 : (5 : Int32).toInt = 5 := by decide
                  omega
                refine lv_tableOut (tgt := 116) hx hb dX11_buyer_14 ho_30 (by decide) ?_
                refine lv_iconst (v := (-1)) hx hb dX11_buyer_116 (by decide) ?_
                exact retI (v := (-1)) hx hb hr hlk (rfl) hP hD hS () ⟨_, rfl, trivial⟩ [0, 1, 2, 3, 4, 5, 6, 7, 8, 9] rfl rfl dX11_buyer_117 (Nat.le_of_ble_eq_true rfl) (Nat.le_of_ble_eq_true rfl) rfl
  · skip
    refine lv_iconst (v := (-1)) hx hb dX11_buyer_11 (by decide) ?_
    exact retI (v := (-1)) hx hb hr hlk (rfl) hP hD hS () ⟨_, rfl, trivial⟩ [0, 1, 2, 3, 4, 5, 6, 7, 8, 9] rfl rfl dX11_buyer_12 (Nat.le_of_ble_eq_true rfl) (Nat.le_of_ble_eq_true rfl) rfl
set_option maxHeartbeats 4000000 in
set_option maxRecDepth 100000 in
theorem ct_X11_sky (l : Launch) (D : va_G) (tc : Nat → ClassId) (sk : (Nat → Nat) × (Nat → Nat)) (Ga : Nat → Nat) (Gv : Nat → Int32) (Aa : Nat → Nat) (Av : Nat → Int32) (Af : Nat → Nat → Int32) (x1 : Int32) (x2 : Int32)  : Ct l yX11_sky cX11_sky 3 (some .int) { frames := 1, cells := 0, slots := 0, locals := 22 } D tc sk [.ref (Ga 0), .int x1, .int x2] [((Ga 0), .inr (11, [.ref (Ga 1), .ref (Ga 2), .ref (Ga 3), .ref (Ga 4), .int (Gv 0), .ref (Ga 5), .ref (Aa 0), .ref (Ga 7), .ref (Ga 8), .ref (Ga 9), .ref (Ga 10), .ref (Ga 11)])), ((Aa 0), .inr (9, [.int (Av 0), .int (Av 1), .int (Av 2), .int (Av 3), .int (Av 4), .int (Av 5), .ref (Aa 1), .ref (Aa 2), .ref (Aa 3), .ref (Aa 4), .ref (Aa 5), .ref (Aa 6), .ref (Aa 7), .ref (Aa 8)])), ((Aa 1), .inl (tc 0, 10, .inl (Af 1))), ((Aa 2), .inl (tc 0, 10, .inl (Af 2))), ((Aa 3), .inl (tc 0, 6, .inl (Af 3))), ((Aa 4), .inl (tc 0, 6, .inl (Af 4))), ((Aa 5), .inl (tc 0, 6, .inl (Af 5))), ((Aa 6), .inl (tc 0, 6, .inl (Af 6))), ((Aa 7), .inl (tc 0, 6, .inl (Af 7))), ((Aa 8), .inl (tc 0, 6, .inl (Af 8)))] (fun (v : Option Value) (_ : Unit) => ∃ r : Int32, v = some (.int r) ∧ (True)) (fun (_ : Unit) => [((Ga 0), .inr (11, [.ref (Ga 1), .ref (Ga 2), .ref (Ga 3), .ref (Ga 4), .int (Gv 0), .ref (Ga 5), .ref (Aa 0), .ref (Ga 7), .ref (Ga 8), .ref (Ga 9), .ref (Ga 10), .ref (Ga 11)])), ((Aa 0), .inr (9, [.int (Av 0), .int (Av 1), .int (Av 2), .int (Av 3), .int (Av 4), .int (Av 5), .ref (Aa 1), .ref (Aa 2), .ref (Aa 3), .ref (Aa 4), .ref (Aa 5), .ref (Aa 6), .ref (Aa 7), .ref (Aa 8)])), ((Aa 1), .inl (tc 0, 10, .inl (Af 1))), ((Aa 2), .inl (tc 0, 10, .inl (Af 2))), ((Aa 3), .inl (tc 0, 6, .inl (Af 3))), ((Aa 4), .inl (tc 0, 6, .inl (Af 4))), ((Aa 5), .inl (tc 0, 6, .inl (Af 5))), ((Aa 6), .inl (tc 0, 6, .inl (Af 6))), ((Aa 7), .inl (tc 0, 6, .inl (Af 7))), ((Aa 8), .inl (tc 0, 6, .inl (Af 8)))]) 0 0 := by
  refine Ct.start (by decide) (Nat.le_of_ble_eq_true rfl) (fun p e s m below meth c A ls hx hb hr hlk hin hml hown hts hK hX hP hD hA hl hS => ?_)
  have hl : lv_has ls 3 [(0, .ref (Ga 0)), (1, .int x1), (2, .int x2)] := hl
  refine lv_aload_n hx hb dX11_sky_0 rfl (lv_at hl 0 rfl) ?_
  refine gf_X11_51 hx hb hts hown hK hP 0 rfl rfl dX11_sky_1 ?_
  refine lv_iload_n hx hb dX11_sky_4 rfl (lv_at hl 1 rfl) ?_
  refine cV (a := (Aa 0)) (As := [.int x1]) (rest := []) (wr := [((Ga 0), .inr (11, [.ref (Ga 1), .ref (Ga 2), .ref (Ga 3), .ref (Ga 4), .int (Gv 0), .ref (Ga 5), .ref (Aa 0), .ref (Ga 7), .ref (Ga 8), .ref (Ga 9), .ref (Ga 10), .ref (Ga 11)]))]) ⟨hx, hb, hml, hown, hts⟩ hK hX hA (ct_X9_hasClock l D tc sk Aa Av Af x1) k_579 k_713 k_577 k_578 k_98 pl_X9_hasClock ⟨Nat.le_of_ble_eq_true rfl, Nat.le_of_ble_eq_true rfl⟩ rfl rfl (va_recv hK hP (ci := 9) (q0 := 1) rfl rfl) hP hD hS [1, 2, 3, 4, 5, 6, 7, 8, 9] [0] rfl rfl rfl rfl rfl (by decide) rfl hl.1 rfl (Nat.le_of_ble_eq_true rfl) dX11_sky_5 ⟨Nat.le_of_ble_eq_true rfl, Nat.le_of_ble_eq_true rfl⟩ (fun v_1 u_2 H locs hv_3 hP hD hS => ?_)
  obtain ⟨r_4, rfl, he_5⟩ := hv_3
  have he_5 : ((r_4.toInt = 0 ∨ (r_4.toInt = 1 ∧ 0 ≤ x1.toInt ∧ x1.toInt < 10))) := he_5
  refine W.eq (g2 := F0 m 8 ls [.int r_4]) rfl ?_
  have hP : va_P D classes [((Ga 0), .inr (11, [.ref (Ga 1), .ref (Ga 2), .ref (Ga 3), .ref (Ga 4), .int (Gv 0), .ref (Ga 5), .ref (Aa 0), .ref (Ga 7), .ref (Ga 8), .ref (Ga 9), .ref (Ga 10), .ref (Ga 11)])), ((Aa 0), .inr (9, [.int (Av 0), .int (Av 1), .int (Av 2), .int (Av 3), .int (Av 4), .int (Av 5), .ref (Aa 1), .ref (Aa 2), .ref (Aa 3), .ref (Aa 4), .ref (Aa 5), .ref (Aa 6), .ref (Aa 7), .ref (Aa 8)])), ((Aa 1), .inl (tc 0, 10, .inl (Af 1))), ((Aa 2), .inl (tc 0, 10, .inl (Af 2))), ((Aa 3), .inl (tc 0, 6, .inl (Af 3))), ((Aa 4), .inl (tc 0, 6, .inl (Af 4))), ((Aa 5), .inl (tc 0, 6, .inl (Af 5))), ((Aa 6), .inl (tc 0, 6, .inl (Af 6))), ((Aa 7), .inl (tc 0, 6, .inl (Af 7))), ((Aa 8), .inl (tc 0, 6, .inl (Af 8)))] H := hP
  have hD : va_D A [((Ga 0), .inr (11, [.ref (Ga 1), .ref (Ga 2), .ref (Ga 3), .ref (Ga 4), .int (Gv 0), .ref (Ga 5), .ref (Aa 0), .ref (Ga 7), .ref (Ga 8), .ref (Ga 9), .ref (Ga 10), .ref (Ga 11)])), ((Aa 0), .inr (9, [.int (Av 0), .int (Av 1), .int (Av 2), .int (Av 3), .int (Av 4), .int (Av 5), .ref (Aa 1), .ref (Aa 2), .ref (Aa 3), .ref (Aa 4), .ref (Aa 5), .ref (Aa 6), .ref (Aa 7), .ref (Aa 8)])), ((Aa 1), .inl (tc 0, 10, .inl (Af 1))), ((Aa 2), .inl (tc 0, 10, .inl (Af 2))), ((Aa 3), .inl (tc 0, 6, .inl (Af 3))), ((Aa 4), .inl (tc 0, 6, .inl (Af 4))), ((Aa 5), .inl (tc 0, 6, .inl (Af 5))), ((Aa 6), .inl (tc 0, 6, .inl (Af 6))), ((Aa 7), .inl (tc 0, 6, .inl (Af 7))), ((Aa 8), .inl (tc 0, 6, .inl (Af 8)))] := hD
  refine lv_if_eq (tgt := 20) hx hb dX11_sky_8 (by decide) (fun c_6 => ?_) (fun c_6 => ?_)
  · skip
    refine lv_iconst (v := (-1)) hx hb dX11_sky_20 (by decide) ?_
    exact retI (v := (-1)) hx hb hr hlk (rfl) hP hD hS () ⟨_, rfl, trivial⟩ [0, 1, 2, 3, 4, 5, 6, 7, 8, 9] rfl rfl dX11_sky_21 (Nat.le_of_ble_eq_true rfl) (Nat.le_of_ble_eq_true rfl) rfl
  · skip
    refine lv_iload_n hx hb dX11_sky_11 rfl (lv_at hl 2 rfl) ?_
    refine lv_iconst (v := 0) hx hb dX11_sky_12 (by decide) ?_
    refine lv_iconst (v := 1) hx hb dX11_sky_13 (by decide) ?_
    refine cS (As := [.int x2, .int 0, .int 1]) (rest := []) (wr := [((Ga 0), .inr (11, [.ref (Ga 1), .ref (Ga 2), .ref (Ga 3), .ref (Ga 4), .int (Gv 0), .ref (Ga 5), .ref (Aa 0), .ref (Ga 7), .ref (Ga 8), .ref (Ga 9), .ref (Ga 10), .ref (Ga 11)])), ((Aa 0), .inr (9, [.int (Av 0), .int (Av 1), .int (Av 2), .int (Av 3), .int (Av 4), .int (Av 5), .ref (Aa 1), .ref (Aa 2), .ref (Aa 3), .ref (Aa 4), .ref (Aa 5), .ref (Aa 6), .ref (Aa 7), .ref (Aa 8)])), ((Aa 1), .inl (tc 0, 10, .inl (Af 1))), ((Aa 2), .inl (tc 0, 10, .inl (Af 2))), ((Aa 3), .inl (tc 0, 6, .inl (Af 3))), ((Aa 4), .inl (tc 0, 6, .inl (Af 4))), ((Aa 5), .inl (tc 0, 6, .inl (Af 5))), ((Aa 6), .inl (tc 0, 6, .inl (Af 6))), ((Aa 7), .inl (tc 0, 6, .inl (Af 7))), ((Aa 8), .inl (tc 0, 6, .inl (Af 8)))]) ⟨hx, hb, hml, hown, hts⟩ hK hX hA (ct_X11_isWithin l D tc sk x2 0 1) k_716 k_714 k_715 k_95 pl_X11_isWithin ⟨Nat.le_of_ble_eq_true rfl, Nat.le_of_ble_eq_true rfl⟩ rfl rfl  hP hD hS [] [0, 1, 2, 3, 4, 5, 6, 7, 8, 9] rfl rfl rfl rfl rfl (by decide) rfl hl.1 rfl (Nat.le_of_ble_eq_true rfl) dX11_sky_14 ⟨Nat.le_of_ble_eq_true rfl, Nat.le_of_ble_eq_true rfl⟩ (fun v_7 u_8 H locs hv_9 hP hD hS => ?_)
    obtain ⟨r_10, rfl, he_11⟩ := hv_9
    have he_11 : (r_10.toInt = 0 ∨ (r_10.toInt = 1 ∧ (0 : Int32).toInt ≤ x2.toInt ∧ x2.toInt ≤ (1 : Int32).toInt)) := he_11
    refine W.eq (g2 := F0 m 17 ls [.int r_10]) rfl ?_
    have hP : va_P D classes [((Ga 0), .inr (11, [.ref (Ga 1), .ref (Ga 2), .ref (Ga 3), .ref (Ga 4), .int (Gv 0), .ref (Ga 5), .ref (Aa 0), .ref (Ga 7), .ref (Ga 8), .ref (Ga 9), .ref (Ga 10), .ref (Ga 11)])), ((Aa 0), .inr (9, [.int (Av 0), .int (Av 1), .int (Av 2), .int (Av 3), .int (Av 4), .int (Av 5), .ref (Aa 1), .ref (Aa 2), .ref (Aa 3), .ref (Aa 4), .ref (Aa 5), .ref (Aa 6), .ref (Aa 7), .ref (Aa 8)])), ((Aa 1), .inl (tc 0, 10, .inl (Af 1))), ((Aa 2), .inl (tc 0, 10, .inl (Af 2))), ((Aa 3), .inl (tc 0, 6, .inl (Af 3))), ((Aa 4), .inl (tc 0, 6, .inl (Af 4))), ((Aa 5), .inl (tc 0, 6, .inl (Af 5))), ((Aa 6), .inl (tc 0, 6, .inl (Af 6))), ((Aa 7), .inl (tc 0, 6, .inl (Af 7))), ((Aa 8), .inl (tc 0, 6, .inl (Af 8)))] H := hP
    have hD : va_D A [((Ga 0), .inr (11, [.ref (Ga 1), .ref (Ga 2), .ref (Ga 3), .ref (Ga 4), .int (Gv 0), .ref (Ga 5), .ref (Aa 0), .ref (Ga 7), .ref (Ga 8), .ref (Ga 9), .ref (Ga 10), .ref (Ga 11)])), ((Aa 0), .inr (9, [.int (Av 0), .int (Av 1), .int (Av 2), .int (Av 3), .int (Av 4), .int (Av 5), .ref (Aa 1), .ref (Aa 2), .ref (Aa 3), .ref (Aa 4), .ref (Aa 5), .ref (Aa 6), .ref (Aa 7), .ref (Aa 8)])), ((Aa 1), .inl (tc 0, 10, .inl (Af 1))), ((Aa 2), .inl (tc 0, 10, .inl (Af 2))), ((Aa 3), .inl (tc 0, 6, .inl (Af 3))), ((Aa 4), .inl (tc 0, 6, .inl (Af 4))), ((Aa 5), .inl (tc 0, 6, .inl (Af 5))), ((Aa 6), .inl (tc 0, 6, .inl (Af 6))), ((Aa 7), .inl (tc 0, 6, .inl (Af 7))), ((Aa 8), .inl (tc 0, 6, .inl (Af 8)))] := hD
    refine lv_if_ne (tgt := 22) hx hb dX11_sky_17 (by decide) (fun c_13 => ?_) (fun c_13 => ?_)
    · skip
      refine lv_iload_n hx hb dX11_sky_22 rfl (lv_at hl 2 rfl) ?_
      refine lv_if_ne (tgt := 38) hx hb dX11_sky_23 (by decide) (fun c_14 => ?_) (fun c_14 => ?_)
      · skip
        refine lv_aload_n hx hb dX11_sky_38 rfl (lv_at hl 0 rfl) ?_
        refine gf_X11_51 hx hb hts hown hK hP 0 rfl rfl dX11_sky_39 ?_
        refine gf_X11_173 hx hb hts hown hK hP 1 rfl rfl dX11_sky_42 ?_
        refine lv_iload_n hx hb dX11_sky_45 rfl (lv_at hl 1 rfl) ?_
        have hi_15 : vp_in x1 10 := by
          have z_1 : ¬ (r_4 : Int32).toInt = (0 : Int32).toInt := fun z => c_6 (Int32.toInt_inj.mp z)
          have z_2 : ¬ (r_10 : Int32).toInt = (0 : Int32).toInt := fun z => c_13 (Int32.toInt_inj.mp z)
          have z_3 : ¬ (x2 : Int32).toInt = (0 : Int32).toInt := fun z => c_14 (Int32.toInt_inj.mp z)
          have y_0 : (0 : Int32).toInt = 0 := by decide
          refine vp_in_iff.mpr ⟨?_, ?_⟩ <;> omega
        refine va_iald hx hb hK hP 3 0 rfl rfl hi_15 dX11_sky_46 ?_
        refine lv_topi (fun x_16 ex_16 => ?_)
        exact retI (v := x_16) hx hb hr hlk (rfl) hP hD hS () ⟨_, rfl, trivial⟩ [0, 1, 2, 3, 4, 5, 6, 7, 8, 9] rfl rfl dX11_sky_47 (Nat.le_of_ble_eq_true rfl) (Nat.le_of_ble_eq_true rfl) rfl
      · skip
        refine lv_aload_n hx hb dX11_sky_26 rfl (lv_at hl 0 rfl) ?_
        refine gf_X11_51 hx hb hts hown hK hP 0 rfl rfl dX11_sky_27 ?_
        refine gf_X11_170 hx hb hts hown hK hP 1 rfl rfl dX11_sky_30 ?_
        refine lv_iload_n hx hb dX11_sky_33 rfl (lv_at hl 1 rfl) ?_
        have hi_17 : vp_in x1 10 := by
          have z_1 : ¬ (r_4 : Int32).toInt = (0 : Int32).toInt := fun z => c_6 (Int32.toInt_inj.mp z)
          have z_2 : ¬ (r_10 : Int32).toInt = (0 : Int32).toInt := fun z => c_13 (Int32.toInt_inj.mp z)
          have z_3 := congrArg Int32.toInt c_14
          have y_0 : (0 : Int32).toInt = 0 := by decide
          refine vp_in_iff.mpr ⟨?_, ?_⟩ <;> omega
        refine va_iald hx hb hK hP 2 0 rfl rfl hi_17 dX11_sky_34 ?_
        refine lv_topi (fun x_18 ex_18 => ?_)
        refine lv_goto (tgt := 47) hx hb dX11_sky_35 (by decide) ?_
        exact retI (v := x_18) hx hb hr hlk (rfl) hP hD hS () ⟨_, rfl, trivial⟩ [0, 1, 2, 3, 4, 5, 6, 7, 8, 9] rfl rfl dX11_sky_47 (Nat.le_of_ble_eq_true rfl) (Nat.le_of_ble_eq_true rfl) rfl
    · skip
      refine lv_iconst (v := (-1)) hx hb dX11_sky_20 (by decide) ?_
      exact retI (v := (-1)) hx hb hr hlk (rfl) hP hD hS () ⟨_, rfl, trivial⟩ [0, 1, 2, 3, 4, 5, 6, 7, 8, 9] rfl rfl dX11_sky_21 (Nat.le_of_ble_eq_true rfl) (Nat.le_of_ble_eq_true rfl) rfl
set_option maxHeartbeats 4000000 in
set_option maxRecDepth 100000 in
theorem ct_X11_fines (l : Launch) (D : va_G) (tc : Nat → ClassId) (sk : (Nat → Nat) × (Nat → Nat)) (Ga : Nat → Nat) (Gv : Nat → Int32) (Aa : Nat → Nat) (Av : Nat → Int32) (Af : Nat → Nat → Int32) (x1 : Int32) (x2 : Int32)  : Ct l yX11_fines cX11_fines 3 (some .int) { frames := 2, cells := 0, slots := 0, locals := 53 } D tc sk [.ref (Ga 0), .int x1, .int x2] [((Ga 0), .inr (11, [.ref (Ga 1), .ref (Ga 2), .ref (Ga 3), .ref (Ga 4), .int (Gv 0), .ref (Ga 5), .ref (Aa 0), .ref (Ga 7), .ref (Ga 8), .ref (Ga 9), .ref (Ga 10), .ref (Ga 11)])), ((Aa 0), .inr (9, [.int (Av 0), .int (Av 1), .int (Av 2), .int (Av 3), .int (Av 4), .int (Av 5), .ref (Aa 1), .ref (Aa 2), .ref (Aa 3), .ref (Aa 4), .ref (Aa 5), .ref (Aa 6), .ref (Aa 7), .ref (Aa 8)])), ((Aa 1), .inl (tc 0, 10, .inl (Af 1))), ((Aa 2), .inl (tc 0, 10, .inl (Af 2))), ((Aa 3), .inl (tc 0, 6, .inl (Af 3))), ((Aa 4), .inl (tc 0, 6, .inl (Af 4))), ((Aa 5), .inl (tc 0, 6, .inl (Af 5))), ((Aa 6), .inl (tc 0, 6, .inl (Af 6))), ((Aa 7), .inl (tc 0, 6, .inl (Af 7))), ((Aa 8), .inl (tc 0, 6, .inl (Af 8)))] (fun (v : Option Value) (_ : Unit) => ∃ r : Int32, v = some (.int r) ∧ (True)) (fun (_ : Unit) => [((Ga 0), .inr (11, [.ref (Ga 1), .ref (Ga 2), .ref (Ga 3), .ref (Ga 4), .int (Gv 0), .ref (Ga 5), .ref (Aa 0), .ref (Ga 7), .ref (Ga 8), .ref (Ga 9), .ref (Ga 10), .ref (Ga 11)])), ((Aa 0), .inr (9, [.int (Av 0), .int (Av 1), .int (Av 2), .int (Av 3), .int (Av 4), .int (Av 5), .ref (Aa 1), .ref (Aa 2), .ref (Aa 3), .ref (Aa 4), .ref (Aa 5), .ref (Aa 6), .ref (Aa 7), .ref (Aa 8)])), ((Aa 1), .inl (tc 0, 10, .inl (Af 1))), ((Aa 2), .inl (tc 0, 10, .inl (Af 2))), ((Aa 3), .inl (tc 0, 6, .inl (Af 3))), ((Aa 4), .inl (tc 0, 6, .inl (Af 4))), ((Aa 5), .inl (tc 0, 6, .inl (Af 5))), ((Aa 6), .inl (tc 0, 6, .inl (Af 6))), ((Aa 7), .inl (tc 0, 6, .inl (Af 7))), ((Aa 8), .inl (tc 0, 6, .inl (Af 8)))]) 0 0 := by
  refine Ct.start (by decide) (Nat.le_of_ble_eq_true rfl) (fun p e s m below meth c A ls hx hb hr hlk hin hml hown hts hK hX hP hD hA hl hS => ?_)
  have hl : lv_has ls 3 [(0, .ref (Ga 0)), (1, .int x1), (2, .int x2)] := hl
  refine lv_iload_n hx hb dX11_fines_0 rfl (lv_at hl 1 rfl) ?_
  refine lv_iconst (v := 0) hx hb dX11_fines_1 (by decide) ?_
  refine lv_sipush (v := 9999) hx hb dX11_fines_2 (by decide) ?_
  refine cS (As := [.int x1, .int 0, .int 9999]) (rest := []) (wr := [((Ga 0), .inr (11, [.ref (Ga 1), .ref (Ga 2), .ref (Ga 3), .ref (Ga 4), .int (Gv 0), .ref (Ga 5), .ref (Aa 0), .ref (Ga 7), .ref (Ga 8), .ref (Ga 9), .ref (Ga 10), .ref (Ga 11)])), ((Aa 0), .inr (9, [.int (Av 0), .int (Av 1), .int (Av 2), .int (Av 3), .int (Av 4), .int (Av 5), .ref (Aa 1), .ref (Aa 2), .ref (Aa 3), .ref (Aa 4), .ref (Aa 5), .ref (Aa 6), .ref (Aa 7), .ref (Aa 8)])), ((Aa 1), .inl (tc 0, 10, .inl (Af 1))), ((Aa 2), .inl (tc 0, 10, .inl (Af 2))), ((Aa 3), .inl (tc 0, 6, .inl (Af 3))), ((Aa 4), .inl (tc 0, 6, .inl (Af 4))), ((Aa 5), .inl (tc 0, 6, .inl (Af 5))), ((Aa 6), .inl (tc 0, 6, .inl (Af 6))), ((Aa 7), .inl (tc 0, 6, .inl (Af 7))), ((Aa 8), .inl (tc 0, 6, .inl (Af 8)))]) ⟨hx, hb, hml, hown, hts⟩ hK hX hA (ct_X11_isWithin l D tc sk x1 0 9999) k_716 k_714 k_715 k_95 pl_X11_isWithin ⟨Nat.le_of_ble_eq_true rfl, Nat.le_of_ble_eq_true rfl⟩ rfl rfl  hP hD hS [] [0, 1, 2, 3, 4, 5, 6, 7, 8, 9] rfl rfl rfl rfl rfl (by decide) rfl hl.1 rfl (Nat.le_of_ble_eq_true rfl) dX11_fines_5 ⟨Nat.le_of_ble_eq_true rfl, Nat.le_of_ble_eq_true rfl⟩ (fun v_1 u_2 H locs hv_3 hP hD hS => ?_)
  obtain ⟨r_4, rfl, he_5⟩ := hv_3
  have he_5 : (r_4.toInt = 0 ∨ (r_4.toInt = 1 ∧ (0 : Int32).toInt ≤ x1.toInt ∧ x1.toInt ≤ (9999 : Int32).toInt)) := he_5
  refine W.eq (g2 := F0 m 8 ls [.int r_4]) rfl ?_
  have hP : va_P D classes [((Ga 0), .inr (11, [.ref (Ga 1), .ref (Ga 2), .ref (Ga 3), .ref (Ga 4), .int (Gv 0), .ref (Ga 5), .ref (Aa 0), .ref (Ga 7), .ref (Ga 8), .ref (Ga 9), .ref (Ga 10), .ref (Ga 11)])), ((Aa 0), .inr (9, [.int (Av 0), .int (Av 1), .int (Av 2), .int (Av 3), .int (Av 4), .int (Av 5), .ref (Aa 1), .ref (Aa 2), .ref (Aa 3), .ref (Aa 4), .ref (Aa 5), .ref (Aa 6), .ref (Aa 7), .ref (Aa 8)])), ((Aa 1), .inl (tc 0, 10, .inl (Af 1))), ((Aa 2), .inl (tc 0, 10, .inl (Af 2))), ((Aa 3), .inl (tc 0, 6, .inl (Af 3))), ((Aa 4), .inl (tc 0, 6, .inl (Af 4))), ((Aa 5), .inl (tc 0, 6, .inl (Af 5))), ((Aa 6), .inl (tc 0, 6, .inl (Af 6))), ((Aa 7), .inl (tc 0, 6, .inl (Af 7))), ((Aa 8), .inl (tc 0, 6, .inl (Af 8)))] H := hP
  have hD : va_D A [((Ga 0), .inr (11, [.ref (Ga 1), .ref (Ga 2), .ref (Ga 3), .ref (Ga 4), .int (Gv 0), .ref (Ga 5), .ref (Aa 0), .ref (Ga 7), .ref (Ga 8), .ref (Ga 9), .ref (Ga 10), .ref (Ga 11)])), ((Aa 0), .inr (9, [.int (Av 0), .int (Av 1), .int (Av 2), .int (Av 3), .int (Av 4), .int (Av 5), .ref (Aa 1), .ref (Aa 2), .ref (Aa 3), .ref (Aa 4), .ref (Aa 5), .ref (Aa 6), .ref (Aa 7), .ref (Aa 8)])), ((Aa 1), .inl (tc 0, 10, .inl (Af 1))), ((Aa 2), .inl (tc 0, 10, .inl (Af 2))), ((Aa 3), .inl (tc 0, 6, .inl (Af 3))), ((Aa 4), .inl (tc 0, 6, .inl (Af 4))), ((Aa 5), .inl (tc 0, 6, .inl (Af 5))), ((Aa 6), .inl (tc 0, 6, .inl (Af 6))), ((Aa 7), .inl (tc 0, 6, .inl (Af 7))), ((Aa 8), .inl (tc 0, 6, .inl (Af 8)))] := hD
  refine lv_if_eq (tgt := 22) hx hb dX11_fines_8 (by decide) (fun c_7 => ?_) (fun c_7 => ?_)
  · skip
    refine lv_iconst (v := (-1)) hx hb dX11_fines_22 (by decide) ?_
    exact retI (v := (-1)) hx hb hr hlk (rfl) hP hD hS () ⟨_, rfl, trivial⟩ [0, 1, 2, 3, 4, 5, 6, 7, 8, 9] rfl rfl dX11_fines_23 (Nat.le_of_ble_eq_true rfl) (Nat.le_of_ble_eq_true rfl) rfl
  · skip
    refine lv_aload_n hx hb dX11_fines_11 rfl (lv_at hl 0 rfl) ?_
    refine gf_X11_51 hx hb hts hown hK hP 0 rfl rfl dX11_fines_12 ?_
    refine lv_iload_n hx hb dX11_fines_15 rfl (lv_at hl 2 rfl) ?_
    refine cV (a := (Aa 0)) (As := [.int x2]) (rest := []) (wr := [((Ga 0), .inr (11, [.ref (Ga 1), .ref (Ga 2), .ref (Ga 3), .ref (Ga 4), .int (Gv 0), .ref (Ga 5), .ref (Aa 0), .ref (Ga 7), .ref (Ga 8), .ref (Ga 9), .ref (Ga 10), .ref (Ga 11)]))]) ⟨hx, hb, hml, hown, hts⟩ hK hX hA (ct_X9_hasBuyer l D tc sk Aa Av Af x2) k_591 k_702 k_589 k_590 k_98 pl_X9_hasBuyer ⟨Nat.le_of_ble_eq_true rfl, Nat.le_of_ble_eq_true rfl⟩ rfl rfl (va_recv hK hP (ci := 9) (q0 := 1) rfl rfl) hP hD hS [1, 2, 3, 4, 5, 6, 7, 8, 9] [0] rfl rfl rfl rfl rfl (by decide) rfl hl.1 rfl (Nat.le_of_ble_eq_true rfl) dX11_fines_16 ⟨Nat.le_of_ble_eq_true rfl, Nat.le_of_ble_eq_true rfl⟩ (fun v_8 u_9 H locs hv_10 hP hD hS => ?_)
    obtain ⟨r_11, rfl, he_12⟩ := hv_10
    have he_12 : ((r_11.toInt = 0 ∨ (r_11.toInt = 1 ∧ 0 ≤ x2.toInt ∧ x2.toInt < 6 ∧ x2.toInt < (Av 3).toInt))) := he_12
    refine W.eq (g2 := F0 m 19 ls [.int r_11]) rfl ?_
    have hP : va_P D classes [((Ga 0), .inr (11, [.ref (Ga 1), .ref (Ga 2), .ref (Ga 3), .ref (Ga 4), .int (Gv 0), .ref (Ga 5), .ref (Aa 0), .ref (Ga 7), .ref (Ga 8), .ref (Ga 9), .ref (Ga 10), .ref (Ga 11)])), ((Aa 0), .inr (9, [.int (Av 0), .int (Av 1), .int (Av 2), .int (Av 3), .int (Av 4), .int (Av 5), .ref (Aa 1), .ref (Aa 2), .ref (Aa 3), .ref (Aa 4), .ref (Aa 5), .ref (Aa 6), .ref (Aa 7), .ref (Aa 8)])), ((Aa 1), .inl (tc 0, 10, .inl (Af 1))), ((Aa 2), .inl (tc 0, 10, .inl (Af 2))), ((Aa 3), .inl (tc 0, 6, .inl (Af 3))), ((Aa 4), .inl (tc 0, 6, .inl (Af 4))), ((Aa 5), .inl (tc 0, 6, .inl (Af 5))), ((Aa 6), .inl (tc 0, 6, .inl (Af 6))), ((Aa 7), .inl (tc 0, 6, .inl (Af 7))), ((Aa 8), .inl (tc 0, 6, .inl (Af 8)))] H := hP
    have hD : va_D A [((Ga 0), .inr (11, [.ref (Ga 1), .ref (Ga 2), .ref (Ga 3), .ref (Ga 4), .int (Gv 0), .ref (Ga 5), .ref (Aa 0), .ref (Ga 7), .ref (Ga 8), .ref (Ga 9), .ref (Ga 10), .ref (Ga 11)])), ((Aa 0), .inr (9, [.int (Av 0), .int (Av 1), .int (Av 2), .int (Av 3), .int (Av 4), .int (Av 5), .ref (Aa 1), .ref (Aa 2), .ref (Aa 3), .ref (Aa 4), .ref (Aa 5), .ref (Aa 6), .ref (Aa 7), .ref (Aa 8)])), ((Aa 1), .inl (tc 0, 10, .inl (Af 1))), ((Aa 2), .inl (tc 0, 10, .inl (Af 2))), ((Aa 3), .inl (tc 0, 6, .inl (Af 3))), ((Aa 4), .inl (tc 0, 6, .inl (Af 4))), ((Aa 5), .inl (tc 0, 6, .inl (Af 5))), ((Aa 6), .inl (tc 0, 6, .inl (Af 6))), ((Aa 7), .inl (tc 0, 6, .inl (Af 7))), ((Aa 8), .inl (tc 0, 6, .inl (Af 8)))] := hD
    refine lv_if_ne (tgt := 24) hx hb dX11_fines_19 (by decide) (fun c_13 => ?_) (fun c_13 => ?_)
    · skip
      refine lv_aload_n hx hb dX11_fines_24 rfl (lv_at hl 0 rfl) ?_
      refine gf_X11_51 hx hb hts hown hK hP 0 rfl rfl dX11_fines_25 ?_
      refine lv_iload_n hx hb dX11_fines_28 rfl (lv_at hl 2 rfl) ?_
      refine lv_iload_n hx hb dX11_fines_29 rfl (lv_at hl 1 rfl) ?_
      refine cV (a := (Aa 0)) (As := [.int x2, .int x1]) (rest := []) (wr := [((Ga 0), .inr (11, [.ref (Ga 1), .ref (Ga 2), .ref (Ga 3), .ref (Ga 4), .int (Gv 0), .ref (Ga 5), .ref (Aa 0), .ref (Ga 7), .ref (Ga 8), .ref (Ga 9), .ref (Ga 10), .ref (Ga 11)]))]) ⟨hx, hb, hml, hown, hts⟩ hK hX hA (ct_X9_fineOf l D tc sk Aa Av Af x2 x1) k_921 k_918 k_919 k_920 k_98 pl_X9_fineOf ⟨Nat.le_of_ble_eq_true rfl, Nat.le_of_ble_eq_true rfl⟩ rfl rfl (va_recv hK hP (ci := 9) (q0 := 1) rfl rfl) hP hD hS [1, 2, 3, 4, 5, 6, 7, 8, 9] [0] rfl rfl rfl rfl rfl (by decide) rfl hl.1 rfl (Nat.le_of_ble_eq_true rfl) dX11_fines_30 ⟨Nat.le_of_ble_eq_true rfl, Nat.le_of_ble_eq_true rfl⟩ (fun v_14 u_15 H locs hv_16 hP hD hS => ?_)
      obtain ⟨r_17, rfl, he_18⟩ := hv_16
      have he_18 : (True) := he_18
      refine W.eq (g2 := F0 m 33 ls [.int r_17]) rfl ?_
      have hP : va_P D classes [((Ga 0), .inr (11, [.ref (Ga 1), .ref (Ga 2), .ref (Ga 3), .ref (Ga 4), .int (Gv 0), .ref (Ga 5), .ref (Aa 0), .ref (Ga 7), .ref (Ga 8), .ref (Ga 9), .ref (Ga 10), .ref (Ga 11)])), ((Aa 0), .inr (9, [.int (Av 0), .int (Av 1), .int (Av 2), .int (Av 3), .int (Av 4), .int (Av 5), .ref (Aa 1), .ref (Aa 2), .ref (Aa 3), .ref (Aa 4), .ref (Aa 5), .ref (Aa 6), .ref (Aa 7), .ref (Aa 8)])), ((Aa 1), .inl (tc 0, 10, .inl (Af 1))), ((Aa 2), .inl (tc 0, 10, .inl (Af 2))), ((Aa 3), .inl (tc 0, 6, .inl (Af 3))), ((Aa 4), .inl (tc 0, 6, .inl (Af 4))), ((Aa 5), .inl (tc 0, 6, .inl (Af 5))), ((Aa 6), .inl (tc 0, 6, .inl (Af 6))), ((Aa 7), .inl (tc 0, 6, .inl (Af 7))), ((Aa 8), .inl (tc 0, 6, .inl (Af 8)))] H := hP
      have hD : va_D A [((Ga 0), .inr (11, [.ref (Ga 1), .ref (Ga 2), .ref (Ga 3), .ref (Ga 4), .int (Gv 0), .ref (Ga 5), .ref (Aa 0), .ref (Ga 7), .ref (Ga 8), .ref (Ga 9), .ref (Ga 10), .ref (Ga 11)])), ((Aa 0), .inr (9, [.int (Av 0), .int (Av 1), .int (Av 2), .int (Av 3), .int (Av 4), .int (Av 5), .ref (Aa 1), .ref (Aa 2), .ref (Aa 3), .ref (Aa 4), .ref (Aa 5), .ref (Aa 6), .ref (Aa 7), .ref (Aa 8)])), ((Aa 1), .inl (tc 0, 10, .inl (Af 1))), ((Aa 2), .inl (tc 0, 10, .inl (Af 2))), ((Aa 3), .inl (tc 0, 6, .inl (Af 3))), ((Aa 4), .inl (tc 0, 6, .inl (Af 4))), ((Aa 5), .inl (tc 0, 6, .inl (Af 5))), ((Aa 6), .inl (tc 0, 6, .inl (Af 6))), ((Aa 7), .inl (tc 0, 6, .inl (Af 7))), ((Aa 8), .inl (tc 0, 6, .inl (Af 8)))] := hD
      exact retI (v := r_17) hx hb hr hlk (rfl) hP hD hS () ⟨_, rfl, trivial⟩ [0, 1, 2, 3, 4, 5, 6, 7, 8, 9] rfl rfl dX11_fines_33 (Nat.le_of_ble_eq_true rfl) (Nat.le_of_ble_eq_true rfl) rfl
    · skip
      refine lv_iconst (v := (-1)) hx hb dX11_fines_22 (by decide) ?_
      exact retI (v := (-1)) hx hb hr hlk (rfl) hP hD hS () ⟨_, rfl, trivial⟩ [0, 1, 2, 3, 4, 5, 6, 7, 8, 9] rfl rfl dX11_fines_23 (Nat.le_of_ble_eq_true rfl) (Nat.le_of_ble_eq_true rfl) rfl
set_option maxHeartbeats 4000000 in
set_option maxRecDepth 100000 in
theorem ct_X11_seed (l : Launch) (D : va_G) (tc : Nat → ClassId) (sk : (Nat → Nat) × (Nat → Nat)) (Ga : Nat → Nat) (Gv : Nat → Int32) (Sa : Nat → Nat) (Sv : Nat → Int32) (x1 : Int32)  : Ct l yX11_seed cX11_seed 3 (some .int) { frames := 0, cells := 0, slots := 0, locals := 0 } D tc sk [.ref (Ga 0), .int x1] [((Ga 0), .inr (11, [.ref (Ga 1), .ref (Ga 2), .ref (Ga 3), .ref (Ga 4), .int (Gv 0), .ref (Sa 0), .ref (Ga 6), .ref (Ga 7), .ref (Ga 8), .ref (Ga 9), .ref (Ga 10), .ref (Ga 11)])), ((Sa 0), .inr (8, [.ref (Sa 1), .ref (Sa 2), .ref (Sa 3), .int (Sv 0), .int (Sv 1)]))] (fun (v : Option Value) (oo0x1 : Int32) => ∃ r : Int32, v = some (.int r) ∧ (((x1.toInt < 0 ∧ r.toInt = -1) ∨ (0 ≤ x1.toInt ∧ r.toInt = (Sv 1).toInt))) ∧ ((x1.toInt < 0 ∧ (oo0x1 : Int32).toInt = (Sv 1).toInt) ∨ (0 ≤ x1.toInt ∧ (oo0x1 : Int32).toInt = x1.toInt))) (fun (oo0x1 : Int32) => [((Ga 0), .inr (11, [.ref (Ga 1), .ref (Ga 2), .ref (Ga 3), .ref (Ga 4), .int (Gv 0), .ref (Sa 0), .ref (Ga 6), .ref (Ga 7), .ref (Ga 8), .ref (Ga 9), .ref (Ga 10), .ref (Ga 11)])), ((Sa 0), .inr (8, [.ref (Sa 1), .ref (Sa 2), .ref (Sa 3), .int (Sv 0), .int oo0x1]))]) 0 0 := by
  refine Ct.start (by decide) (Nat.le_of_ble_eq_true rfl) (fun p e s m below meth c A ls hx hb hr hlk hin hml hown hts hK hX hP hD hA hl hS => ?_)
  have hl : lv_has ls 3 [(0, .ref (Ga 0)), (1, .int x1)] := hl
  refine lv_iload_n hx hb dX11_seed_0 rfl (lv_at hl 1 rfl) ?_
  refine lv_if_ge (tgt := 6) hx hb dX11_seed_1 (by decide) (fun c_1 => ?_) (fun c_1 => ?_)
  · skip
    refine lv_aload_n hx hb dX11_seed_6 rfl (lv_at hl 0 rfl) ?_
    refine gf_X11_43 hx hb hts hown hK hP 0 rfl rfl dX11_seed_7 ?_
    refine gf_X11_272 hx hb hts hown hK hP 1 rfl rfl dX11_seed_10 ?_
    refine lv_istore_n (lv' := [(2, .int (Sv 1)), (0, .ref (Ga 0)), (1, .int x1)]) hx hb dX11_seed_13 rfl hl (by decide) rfl (fun ls hl => ?_)
    refine lv_aload_n hx hb dX11_seed_14 rfl (lv_at hl 1 rfl) ?_
    refine gf_X11_43 hx hb hts hown hK hP 0 rfl rfl dX11_seed_15 ?_
    refine lv_iload_n hx hb dX11_seed_18 rfl (lv_at hl 2 rfl) ?_
    refine pf_X11_272 hx hb hts hown hK hP hD hS 1 rfl (Nat.le_of_ble_eq_true rfl) rfl rfl dX11_seed_19 (fun H locs hP hD hS => ?_)
    have hP : va_P D classes [((Ga 0), .inr (11, [.ref (Ga 1), .ref (Ga 2), .ref (Ga 3), .ref (Ga 4), .int (Gv 0), .ref (Sa 0), .ref (Ga 6), .ref (Ga 7), .ref (Ga 8), .ref (Ga 9), .ref (Ga 10), .ref (Ga 11)])), ((Sa 0), .inr (8, [.ref (Sa 1), .ref (Sa 2), .ref (Sa 3), .int (Sv 0), .int x1]))] H := hP
    have hD : va_D A [((Ga 0), .inr (11, [.ref (Ga 1), .ref (Ga 2), .ref (Ga 3), .ref (Ga 4), .int (Gv 0), .ref (Sa 0), .ref (Ga 6), .ref (Ga 7), .ref (Ga 8), .ref (Ga 9), .ref (Ga 10), .ref (Ga 11)])), ((Sa 0), .inr (8, [.ref (Sa 1), .ref (Sa 2), .ref (Sa 3), .int (Sv 0), .int x1]))] := hD
    refine lv_iload_n hx hb dX11_seed_22 rfl (lv_at hl 0 rfl) ?_
    have ha_2 : (x1.toInt < 0 ∧ (x1 : Int32).toInt = (Sv 1).toInt) ∨ (0 ≤ x1.toInt ∧ (x1 : Int32).toInt = x1.toInt) := by
      have z_1 := Int32.le_iff_toInt_le.mp c_1
      have y_0 : (0 : Int32).toInt = 0 := by decide
      omega
    have hp_3 : ((x1.toInt < 0 ∧ ((Sv 1) : Int32).toInt = -1) ∨ (0 ≤ x1.toInt ∧ ((Sv 1) : Int32).toInt = (Sv 1).toInt)) := by
      have z_1 := Int32.le_iff_toInt_le.mp c_1
      have y_0 : (0 : Int32).toInt = 0 := by decide
      omega
    exact retI (v := (Sv 1)) hx hb hr hlk (rfl) hP hD hS x1 ⟨_, rfl, hp_3, ha_2⟩ [0, 1] rfl rfl dX11_seed_23 (Nat.le_of_ble_eq_true rfl) (Nat.le_of_ble_eq_true rfl) rfl
  · skip
    refine lv_iconst (v := (-1)) hx hb dX11_seed_4 (by decide) ?_
    have ha_4 : (x1.toInt < 0 ∧ ((Sv 1) : Int32).toInt = (Sv 1).toInt) ∨ (0 ≤ x1.toInt ∧ ((Sv 1) : Int32).toInt = x1.toInt) := by
      have z_1 := Int32.lt_iff_toInt_lt.mp (Int32.not_le.mp c_1)
      have y_0 : (0 : Int32).toInt = 0 := by decide
      omega
    have hp_5 : ((x1.toInt < 0 ∧ ((-1) : Int32).toInt = -1) ∨ (0 ≤ x1.toInt ∧ ((-1) : Int32).toInt = (Sv 1).toInt)) := by
      have z_1 := Int32.lt_iff_toInt_lt.mp (Int32.not_le.mp c_1)
      have y_0 : (0 : Int32).toInt = 0 := by decide
      have y_m1 : (-1 : Int32).toInt = -1 := by decide
      have yr : (-1 : Int32).toInt = -1 := by decide
      omega
    exact retI (v := (-1)) hx hb hr hlk (rfl) hP hD hS (Sv 1) ⟨_, rfl, hp_5, ha_4⟩ [0, 1] rfl rfl dX11_seed_5 (Nat.le_of_ble_eq_true rfl) (Nat.le_of_ble_eq_true rfl) rfl
set_option maxHeartbeats 4000000 in
set_option maxRecDepth 100000 in
theorem ct_X11_note (l : Launch) (D : va_G) (tc : Nat → ClassId) (sk : (Nat → Nat) × (Nat → Nat)) (Ga : Nat → Nat) (Gv : Nat → Int32) (Sa : Nat → Nat) (Sv : Nat → Int32) (Aa : Nat → Nat) (Av : Nat → Int32) (Af : Nat → Nat → Int32) (Na : Nat → Nat) (Nv : Nat → Int32) (Nf : Nat → Nat → Int32) (x1 : Int32) (x2 : Int32) (x3 : Int32)  : Ct l yX11_note cX11_note 4 (some .int) { frames := 1, cells := 0, slots := 0, locals := 23 } D tc sk [.ref (Ga 0), .int x1, .int x2, .int x3] [((Ga 0), .inr (11, [.ref (Ga 1), .ref (Ga 2), .ref (Ga 3), .ref (Ga 4), .int (Gv 0), .ref (Sa 0), .ref (Aa 0), .ref (Ga 7), .ref (Ga 8), .ref (Ga 9), .ref (Ga 10), .ref (Ga 11)])), ((Sa 0), .inr (8, [.ref (Aa 0), .ref (Sa 2), .ref (Na 0), .int (Sv 0), .int (Sv 1)])), ((Aa 0), .inr (9, [.int (Av 0), .int (Av 1), .int (Av 2), .int (Av 3), .int (Av 4), .int (Av 5), .ref (Aa 1), .ref (Aa 2), .ref (Aa 3), .ref (Aa 4), .ref (Aa 5), .ref (Aa 6), .ref (Aa 7), .ref (Aa 8)])), ((Aa 1), .inl (tc 0, 10, .inl (Af 1))), ((Aa 2), .inl (tc 0, 10, .inl (Af 2))), ((Aa 3), .inl (tc 0, 6, .inl (Af 3))), ((Aa 4), .inl (tc 0, 6, .inl (Af 4))), ((Aa 5), .inl (tc 0, 6, .inl (Af 5))), ((Aa 6), .inl (tc 0, 6, .inl (Af 6))), ((Aa 7), .inl (tc 0, 6, .inl (Af 7))), ((Aa 8), .inl (tc 0, 6, .inl (Af 8))), ((Na 0), .inr (3, [.ref (Na 1), .ref (Na 2), .ref (Na 3), .int (Nv 0)])), ((Na 1), .inl (tc 0, 10, .inl (Nf 1))), ((Na 2), .inl (tc 0, 10, .inl (Nf 2))), ((Na 3), .inl (tc 0, 10, .inl (Nf 3)))] (fun (v : Option Value) (u : (Int32) × (Nat → Int32) × (Nat → Int32) × (Nat → Int32)) => match u with | (oo0x1, oo0x2, oo0x3, oo0x4) => ∃ r : Int32, v = some (.int r) ∧ (True)) (fun (u : (Int32) × (Nat → Int32) × (Nat → Int32) × (Nat → Int32)) => match u with | (oo0x1, oo0x2, oo0x3, oo0x4) => [((Ga 0), .inr (11, [.ref (Ga 1), .ref (Ga 2), .ref (Ga 3), .ref (Ga 4), .int (Gv 0), .ref (Sa 0), .ref (Aa 0), .ref (Ga 7), .ref (Ga 8), .ref (Ga 9), .ref (Ga 10), .ref (Ga 11)])), ((Sa 0), .inr (8, [.ref (Aa 0), .ref (Sa 2), .ref (Na 0), .int (Sv 0), .int (Sv 1)])), ((Aa 0), .inr (9, [.int (Av 0), .int (Av 1), .int (Av 2), .int (Av 3), .int (Av 4), .int (Av 5), .ref (Aa 1), .ref (Aa 2), .ref (Aa 3), .ref (Aa 4), .ref (Aa 5), .ref (Aa 6), .ref (Aa 7), .ref (Aa 8)])), ((Aa 1), .inl (tc 0, 10, .inl (Af 1))), ((Aa 2), .inl (tc 0, 10, .inl (Af 2))), ((Aa 3), .inl (tc 0, 6, .inl (Af 3))), ((Aa 4), .inl (tc 0, 6, .inl (Af 4))), ((Aa 5), .inl (tc 0, 6, .inl (Af 5))), ((Aa 6), .inl (tc 0, 6, .inl (Af 6))), ((Aa 7), .inl (tc 0, 6, .inl (Af 7))), ((Aa 8), .inl (tc 0, 6, .inl (Af 8))), ((Na 0), .inr (3, [.ref (Na 1), .ref (Na 2), .ref (Na 3), .int oo0x1])), ((Na 1), .inl (tc 0, 10, .inl oo0x2)), ((Na 2), .inl (tc 0, 10, .inl oo0x3)), ((Na 3), .inl (tc 0, 10, .inl oo0x4))]) 0 0 := by
  refine Ct.start (by decide) (Nat.le_of_ble_eq_true rfl) (fun p e s m below meth c A ls hx hb hr hlk hin hml hown hts hK hX hP hD hA hl hS => ?_)
  have hl : lv_has ls 4 [(0, .ref (Ga 0)), (1, .int x1), (2, .int x2), (3, .int x3)] := hl
  refine lv_iload_n hx hb dX11_note_0 rfl (lv_at hl 1 rfl) ?_
  refine lv_iconst (v := (-1)) hx hb dX11_note_1 (by decide) ?_
  refine lv_icmp_ne (tgt := 18) hx hb dX11_note_2 (by decide) (fun c_1 => ?_) (fun c_1 => ?_)
  · skip
    refine lv_iload_n hx hb dX11_note_18 rfl (lv_at hl 1 rfl) ?_
    refine lv_iconst (v := 0) hx hb dX11_note_19 (by decide) ?_
    refine lv_bipush (v := 60) hx hb dX11_note_20 (by decide) ?_
    refine cS (As := [.int x1, .int 0, .int 60]) (rest := []) (wr := [((Ga 0), .inr (11, [.ref (Ga 1), .ref (Ga 2), .ref (Ga 3), .ref (Ga 4), .int (Gv 0), .ref (Sa 0), .ref (Aa 0), .ref (Ga 7), .ref (Ga 8), .ref (Ga 9), .ref (Ga 10), .ref (Ga 11)])), ((Sa 0), .inr (8, [.ref (Aa 0), .ref (Sa 2), .ref (Na 0), .int (Sv 0), .int (Sv 1)])), ((Aa 0), .inr (9, [.int (Av 0), .int (Av 1), .int (Av 2), .int (Av 3), .int (Av 4), .int (Av 5), .ref (Aa 1), .ref (Aa 2), .ref (Aa 3), .ref (Aa 4), .ref (Aa 5), .ref (Aa 6), .ref (Aa 7), .ref (Aa 8)])), ((Aa 1), .inl (tc 0, 10, .inl (Af 1))), ((Aa 2), .inl (tc 0, 10, .inl (Af 2))), ((Aa 3), .inl (tc 0, 6, .inl (Af 3))), ((Aa 4), .inl (tc 0, 6, .inl (Af 4))), ((Aa 5), .inl (tc 0, 6, .inl (Af 5))), ((Aa 6), .inl (tc 0, 6, .inl (Af 6))), ((Aa 7), .inl (tc 0, 6, .inl (Af 7))), ((Aa 8), .inl (tc 0, 6, .inl (Af 8))), ((Na 0), .inr (3, [.ref (Na 1), .ref (Na 2), .ref (Na 3), .int (Nv 0)])), ((Na 1), .inl (tc 0, 10, .inl (Nf 1))), ((Na 2), .inl (tc 0, 10, .inl (Nf 2))), ((Na 3), .inl (tc 0, 10, .inl (Nf 3)))]) ⟨hx, hb, hml, hown, hts⟩ hK hX hA (ct_X11_isWithin l D tc sk x1 0 60) k_716 k_714 k_715 k_95 pl_X11_isWithin ⟨Nat.le_of_ble_eq_true rfl, Nat.le_of_ble_eq_true rfl⟩ rfl rfl  hP hD hS [] [0, 1, 2, 3, 4, 5, 6, 7, 8, 9, 10, 11, 12, 13, 14] rfl rfl rfl rfl rfl (by decide) rfl hl.1 rfl (Nat.le_of_ble_eq_true rfl) dX11_note_22 ⟨Nat.le_of_ble_eq_true rfl, Nat.le_of_ble_eq_true rfl⟩ (fun v_2 u_3 H locs hv_4 hP hD hS => ?_)
    obtain ⟨r_5, rfl, he_6⟩ := hv_4
    have he_6 : (r_5.toInt = 0 ∨ (r_5.toInt = 1 ∧ (0 : Int32).toInt ≤ x1.toInt ∧ x1.toInt ≤ (60 : Int32).toInt)) := he_6
    refine W.eq (g2 := F0 m 25 ls [.int r_5]) rfl ?_
    have hP : va_P D classes [((Ga 0), .inr (11, [.ref (Ga 1), .ref (Ga 2), .ref (Ga 3), .ref (Ga 4), .int (Gv 0), .ref (Sa 0), .ref (Aa 0), .ref (Ga 7), .ref (Ga 8), .ref (Ga 9), .ref (Ga 10), .ref (Ga 11)])), ((Sa 0), .inr (8, [.ref (Aa 0), .ref (Sa 2), .ref (Na 0), .int (Sv 0), .int (Sv 1)])), ((Aa 0), .inr (9, [.int (Av 0), .int (Av 1), .int (Av 2), .int (Av 3), .int (Av 4), .int (Av 5), .ref (Aa 1), .ref (Aa 2), .ref (Aa 3), .ref (Aa 4), .ref (Aa 5), .ref (Aa 6), .ref (Aa 7), .ref (Aa 8)])), ((Aa 1), .inl (tc 0, 10, .inl (Af 1))), ((Aa 2), .inl (tc 0, 10, .inl (Af 2))), ((Aa 3), .inl (tc 0, 6, .inl (Af 3))), ((Aa 4), .inl (tc 0, 6, .inl (Af 4))), ((Aa 5), .inl (tc 0, 6, .inl (Af 5))), ((Aa 6), .inl (tc 0, 6, .inl (Af 6))), ((Aa 7), .inl (tc 0, 6, .inl (Af 7))), ((Aa 8), .inl (tc 0, 6, .inl (Af 8))), ((Na 0), .inr (3, [.ref (Na 1), .ref (Na 2), .ref (Na 3), .int (Nv 0)])), ((Na 1), .inl (tc 0, 10, .inl (Nf 1))), ((Na 2), .inl (tc 0, 10, .inl (Nf 2))), ((Na 3), .inl (tc 0, 10, .inl (Nf 3)))] H := hP
    have hD : va_D A [((Ga 0), .inr (11, [.ref (Ga 1), .ref (Ga 2), .ref (Ga 3), .ref (Ga 4), .int (Gv 0), .ref (Sa 0), .ref (Aa 0), .ref (Ga 7), .ref (Ga 8), .ref (Ga 9), .ref (Ga 10), .ref (Ga 11)])), ((Sa 0), .inr (8, [.ref (Aa 0), .ref (Sa 2), .ref (Na 0), .int (Sv 0), .int (Sv 1)])), ((Aa 0), .inr (9, [.int (Av 0), .int (Av 1), .int (Av 2), .int (Av 3), .int (Av 4), .int (Av 5), .ref (Aa 1), .ref (Aa 2), .ref (Aa 3), .ref (Aa 4), .ref (Aa 5), .ref (Aa 6), .ref (Aa 7), .ref (Aa 8)])), ((Aa 1), .inl (tc 0, 10, .inl (Af 1))), ((Aa 2), .inl (tc 0, 10, .inl (Af 2))), ((Aa 3), .inl (tc 0, 6, .inl (Af 3))), ((Aa 4), .inl (tc 0, 6, .inl (Af 4))), ((Aa 5), .inl (tc 0, 6, .inl (Af 5))), ((Aa 6), .inl (tc 0, 6, .inl (Af 6))), ((Aa 7), .inl (tc 0, 6, .inl (Af 7))), ((Aa 8), .inl (tc 0, 6, .inl (Af 8))), ((Na 0), .inr (3, [.ref (Na 1), .ref (Na 2), .ref (Na 3), .int (Nv 0)])), ((Na 1), .inl (tc 0, 10, .inl (Nf 1))), ((Na 2), .inl (tc 0, 10, .inl (Nf 2))), ((Na 3), .inl (tc 0, 10, .inl (Nf 3)))] := hD
    refine lv_if_eq (tgt := 48) hx hb dX11_note_25 (by decide) (fun c_8 => ?_) (fun c_8 => ?_)
    · skip
      refine lv_bipush (v := (-2)) hx hb dX11_note_48 (by decide) ?_
      exact retI (v := (-2)) hx hb hr hlk (rfl) hP hD hS ((Nv 0), (Nf 1), (Nf 2), (Nf 3)) ⟨_, rfl, trivial⟩ [0, 1, 2, 3, 4, 5, 6, 7, 8, 9, 10, 11, 12, 13, 14] rfl rfl dX11_note_50 (Nat.le_of_ble_eq_true rfl) (Nat.le_of_ble_eq_true rfl) rfl
    · skip
      refine lv_aload_n hx hb dX11_note_28 rfl (lv_at hl 0 rfl) ?_
      refine gf_X11_51 hx hb hts hown hK hP 0 rfl rfl dX11_note_29 ?_
      refine lv_iload_n hx hb dX11_note_32 rfl (lv_at hl 2 rfl) ?_
      refine cV (a := (Aa 0)) (As := [.int x2]) (rest := []) (wr := [((Ga 0), .inr (11, [.ref (Ga 1), .ref (Ga 2), .ref (Ga 3), .ref (Ga 4), .int (Gv 0), .ref (Sa 0), .ref (Aa 0), .ref (Ga 7), .ref (Ga 8), .ref (Ga 9), .ref (Ga 10), .ref (Ga 11)])), ((Sa 0), .inr (8, [.ref (Aa 0), .ref (Sa 2), .ref (Na 0), .int (Sv 0), .int (Sv 1)])), ((Na 0), .inr (3, [.ref (Na 1), .ref (Na 2), .ref (Na 3), .int (Nv 0)])), ((Na 1), .inl (tc 0, 10, .inl (Nf 1))), ((Na 2), .inl (tc 0, 10, .inl (Nf 2))), ((Na 3), .inl (tc 0, 10, .inl (Nf 3)))]) ⟨hx, hb, hml, hown, hts⟩ hK hX hA (ct_X9_hasBuyer l D tc sk Aa Av Af x2) k_591 k_702 k_589 k_590 k_98 pl_X9_hasBuyer ⟨Nat.le_of_ble_eq_true rfl, Nat.le_of_ble_eq_true rfl⟩ rfl rfl (va_recv hK hP (ci := 9) (q0 := 2) rfl rfl) hP hD hS [2, 3, 4, 5, 6, 7, 8, 9, 10] [0, 1, 11, 12, 13, 14] rfl rfl rfl rfl rfl (by decide) rfl hl.1 rfl (Nat.le_of_ble_eq_true rfl) dX11_note_33 ⟨Nat.le_of_ble_eq_true rfl, Nat.le_of_ble_eq_true rfl⟩ (fun v_9 u_10 H locs hv_11 hP hD hS => ?_)
      obtain ⟨r_12, rfl, he_13⟩ := hv_11
      have he_13 : ((r_12.toInt = 0 ∨ (r_12.toInt = 1 ∧ 0 ≤ x2.toInt ∧ x2.toInt < 6 ∧ x2.toInt < (Av 3).toInt))) := he_13
      refine W.eq (g2 := F0 m 36 ls [.int r_12]) rfl ?_
      have hP : va_P D classes [((Ga 0), .inr (11, [.ref (Ga 1), .ref (Ga 2), .ref (Ga 3), .ref (Ga 4), .int (Gv 0), .ref (Sa 0), .ref (Aa 0), .ref (Ga 7), .ref (Ga 8), .ref (Ga 9), .ref (Ga 10), .ref (Ga 11)])), ((Sa 0), .inr (8, [.ref (Aa 0), .ref (Sa 2), .ref (Na 0), .int (Sv 0), .int (Sv 1)])), ((Na 0), .inr (3, [.ref (Na 1), .ref (Na 2), .ref (Na 3), .int (Nv 0)])), ((Na 1), .inl (tc 0, 10, .inl (Nf 1))), ((Na 2), .inl (tc 0, 10, .inl (Nf 2))), ((Na 3), .inl (tc 0, 10, .inl (Nf 3))), ((Aa 0), .inr (9, [.int (Av 0), .int (Av 1), .int (Av 2), .int (Av 3), .int (Av 4), .int (Av 5), .ref (Aa 1), .ref (Aa 2), .ref (Aa 3), .ref (Aa 4), .ref (Aa 5), .ref (Aa 6), .ref (Aa 7), .ref (Aa 8)])), ((Aa 1), .inl (tc 0, 10, .inl (Af 1))), ((Aa 2), .inl (tc 0, 10, .inl (Af 2))), ((Aa 3), .inl (tc 0, 6, .inl (Af 3))), ((Aa 4), .inl (tc 0, 6, .inl (Af 4))), ((Aa 5), .inl (tc 0, 6, .inl (Af 5))), ((Aa 6), .inl (tc 0, 6, .inl (Af 6))), ((Aa 7), .inl (tc 0, 6, .inl (Af 7))), ((Aa 8), .inl (tc 0, 6, .inl (Af 8)))] H := hP
      have hD : va_D A [((Ga 0), .inr (11, [.ref (Ga 1), .ref (Ga 2), .ref (Ga 3), .ref (Ga 4), .int (Gv 0), .ref (Sa 0), .ref (Aa 0), .ref (Ga 7), .ref (Ga 8), .ref (Ga 9), .ref (Ga 10), .ref (Ga 11)])), ((Sa 0), .inr (8, [.ref (Aa 0), .ref (Sa 2), .ref (Na 0), .int (Sv 0), .int (Sv 1)])), ((Na 0), .inr (3, [.ref (Na 1), .ref (Na 2), .ref (Na 3), .int (Nv 0)])), ((Na 1), .inl (tc 0, 10, .inl (Nf 1))), ((Na 2), .inl (tc 0, 10, .inl (Nf 2))), ((Na 3), .inl (tc 0, 10, .inl (Nf 3))), ((Aa 0), .inr (9, [.int (Av 0), .int (Av 1), .int (Av 2), .int (Av 3), .int (Av 4), .int (Av 5), .ref (Aa 1), .ref (Aa 2), .ref (Aa 3), .ref (Aa 4), .ref (Aa 5), .ref (Aa 6), .ref (Aa 7), .ref (Aa 8)])), ((Aa 1), .inl (tc 0, 10, .inl (Af 1))), ((Aa 2), .inl (tc 0, 10, .inl (Af 2))), ((Aa 3), .inl (tc 0, 6, .inl (Af 3))), ((Aa 4), .inl (tc 0, 6, .inl (Af 4))), ((Aa 5), .inl (tc 0, 6, .inl (Af 5))), ((Aa 6), .inl (tc 0, 6, .inl (Af 6))), ((Aa 7), .inl (tc 0, 6, .inl (Af 7))), ((Aa 8), .inl (tc 0, 6, .inl (Af 8)))] := hD
      refine lv_if_eq (tgt := 48) hx hb dX11_note_36 (by decide) (fun c_14 => ?_) (fun c_14 => ?_)
      · skip
        refine lv_bipush (v := (-2)) hx hb dX11_note_48 (by decide) ?_
        exact retI (v := (-2)) hx hb hr hlk (rfl) hP hD hS ((Nv 0), (Nf 1), (Nf 2), (Nf 3)) ⟨_, rfl, trivial⟩ [0, 1, 6, 7, 8, 9, 10, 11, 12, 13, 14, 2, 3, 4, 5] rfl rfl dX11_note_50 (Nat.le_of_ble_eq_true rfl) (Nat.le_of_ble_eq_true rfl) rfl
      · skip
        refine lv_iload_n hx hb dX11_note_39 rfl (lv_at hl 3 rfl) ?_
        refine lv_iconst (v := 0) hx hb dX11_note_40 (by decide) ?_
        refine lv_iconst (v := 1) hx hb dX11_note_41 (by decide) ?_
        refine cS (As := [.int x3, .int 0, .int 1]) (rest := []) (wr := [((Ga 0), .inr (11, [.ref (Ga 1), .ref (Ga 2), .ref (Ga 3), .ref (Ga 4), .int (Gv 0), .ref (Sa 0), .ref (Aa 0), .ref (Ga 7), .ref (Ga 8), .ref (Ga 9), .ref (Ga 10), .ref (Ga 11)])), ((Sa 0), .inr (8, [.ref (Aa 0), .ref (Sa 2), .ref (Na 0), .int (Sv 0), .int (Sv 1)])), ((Na 0), .inr (3, [.ref (Na 1), .ref (Na 2), .ref (Na 3), .int (Nv 0)])), ((Na 1), .inl (tc 0, 10, .inl (Nf 1))), ((Na 2), .inl (tc 0, 10, .inl (Nf 2))), ((Na 3), .inl (tc 0, 10, .inl (Nf 3))), ((Aa 0), .inr (9, [.int (Av 0), .int (Av 1), .int (Av 2), .int (Av 3), .int (Av 4), .int (Av 5), .ref (Aa 1), .ref (Aa 2), .ref (Aa 3), .ref (Aa 4), .ref (Aa 5), .ref (Aa 6), .ref (Aa 7), .ref (Aa 8)])), ((Aa 1), .inl (tc 0, 10, .inl (Af 1))), ((Aa 2), .inl (tc 0, 10, .inl (Af 2))), ((Aa 3), .inl (tc 0, 6, .inl (Af 3))), ((Aa 4), .inl (tc 0, 6, .inl (Af 4))), ((Aa 5), .inl (tc 0, 6, .inl (Af 5))), ((Aa 6), .inl (tc 0, 6, .inl (Af 6))), ((Aa 7), .inl (tc 0, 6, .inl (Af 7))), ((Aa 8), .inl (tc 0, 6, .inl (Af 8)))]) ⟨hx, hb, hml, hown, hts⟩ hK hX hA (ct_X11_isWithin l D tc sk x3 0 1) k_716 k_714 k_715 k_95 pl_X11_isWithin ⟨Nat.le_of_ble_eq_true rfl, Nat.le_of_ble_eq_true rfl⟩ rfl rfl  hP hD hS [] [0, 1, 2, 3, 4, 5, 6, 7, 8, 9, 10, 11, 12, 13, 14] rfl rfl rfl rfl rfl (by decide) rfl hl.1 rfl (Nat.le_of_ble_eq_true rfl) dX11_note_42 ⟨Nat.le_of_ble_eq_true rfl, Nat.le_of_ble_eq_true rfl⟩ (fun v_15 u_16 H locs hv_17 hP hD hS => ?_)
        obtain ⟨r_18, rfl, he_19⟩ := hv_17
        have he_19 : (r_18.toInt = 0 ∨ (r_18.toInt = 1 ∧ (0 : Int32).toInt ≤ x3.toInt ∧ x3.toInt ≤ (1 : Int32).toInt)) := he_19
        refine W.eq (g2 := F0 m 45 ls [.int r_18]) rfl ?_
        have hP : va_P D classes [((Ga 0), .inr (11, [.ref (Ga 1), .ref (Ga 2), .ref (Ga 3), .ref (Ga 4), .int (Gv 0), .ref (Sa 0), .ref (Aa 0), .ref (Ga 7), .ref (Ga 8), .ref (Ga 9), .ref (Ga 10), .ref (Ga 11)])), ((Sa 0), .inr (8, [.ref (Aa 0), .ref (Sa 2), .ref (Na 0), .int (Sv 0), .int (Sv 1)])), ((Na 0), .inr (3, [.ref (Na 1), .ref (Na 2), .ref (Na 3), .int (Nv 0)])), ((Na 1), .inl (tc 0, 10, .inl (Nf 1))), ((Na 2), .inl (tc 0, 10, .inl (Nf 2))), ((Na 3), .inl (tc 0, 10, .inl (Nf 3))), ((Aa 0), .inr (9, [.int (Av 0), .int (Av 1), .int (Av 2), .int (Av 3), .int (Av 4), .int (Av 5), .ref (Aa 1), .ref (Aa 2), .ref (Aa 3), .ref (Aa 4), .ref (Aa 5), .ref (Aa 6), .ref (Aa 7), .ref (Aa 8)])), ((Aa 1), .inl (tc 0, 10, .inl (Af 1))), ((Aa 2), .inl (tc 0, 10, .inl (Af 2))), ((Aa 3), .inl (tc 0, 6, .inl (Af 3))), ((Aa 4), .inl (tc 0, 6, .inl (Af 4))), ((Aa 5), .inl (tc 0, 6, .inl (Af 5))), ((Aa 6), .inl (tc 0, 6, .inl (Af 6))), ((Aa 7), .inl (tc 0, 6, .inl (Af 7))), ((Aa 8), .inl (tc 0, 6, .inl (Af 8)))] H := hP
        have hD : va_D A [((Ga 0), .inr (11, [.ref (Ga 1), .ref (Ga 2), .ref (Ga 3), .ref (Ga 4), .int (Gv 0), .ref (Sa 0), .ref (Aa 0), .ref (Ga 7), .ref (Ga 8), .ref (Ga 9), .ref (Ga 10), .ref (Ga 11)])), ((Sa 0), .inr (8, [.ref (Aa 0), .ref (Sa 2), .ref (Na 0), .int (Sv 0), .int (Sv 1)])), ((Na 0), .inr (3, [.ref (Na 1), .ref (Na 2), .ref (Na 3), .int (Nv 0)])), ((Na 1), .inl (tc 0, 10, .inl (Nf 1))), ((Na 2), .inl (tc 0, 10, .inl (Nf 2))), ((Na 3), .inl (tc 0, 10, .inl (Nf 3))), ((Aa 0), .inr (9, [.int (Av 0), .int (Av 1), .int (Av 2), .int (Av 3), .int (Av 4), .int (Av 5), .ref (Aa 1), .ref (Aa 2), .ref (Aa 3), .ref (Aa 4), .ref (Aa 5), .ref (Aa 6), .ref (Aa 7), .ref (Aa 8)])), ((Aa 1), .inl (tc 0, 10, .inl (Af 1))), ((Aa 2), .inl (tc 0, 10, .inl (Af 2))), ((Aa 3), .inl (tc 0, 6, .inl (Af 3))), ((Aa 4), .inl (tc 0, 6, .inl (Af 4))), ((Aa 5), .inl (tc 0, 6, .inl (Af 5))), ((Aa 6), .inl (tc 0, 6, .inl (Af 6))), ((Aa 7), .inl (tc 0, 6, .inl (Af 7))), ((Aa 8), .inl (tc 0, 6, .inl (Af 8)))] := hD
        refine lv_if_ne (tgt := 51) hx hb dX11_note_45 (by decide) (fun c_21 => ?_) (fun c_21 => ?_)
        · skip
          refine lv_aload_n hx hb dX11_note_51 rfl (lv_at hl 0 rfl) ?_
          refine gf_X11_43 hx hb hts hown hK hP 0 rfl rfl dX11_note_52 ?_
          refine gf_X11_111 hx hb hts hown hK hP 1 rfl rfl dX11_note_55 ?_
          refine lv_iload_n hx hb dX11_note_58 rfl (lv_at hl 1 rfl) ?_
          refine lv_iload_n hx hb dX11_note_59 rfl (lv_at hl 2 rfl) ?_
          refine lv_iload_n hx hb dX11_note_60 rfl (lv_at hl 3 rfl) ?_
          refine cV (a := (Na 0)) (As := [.int x1, .int x2, .int x3]) (rest := []) (wr := [((Ga 0), .inr (11, [.ref (Ga 1), .ref (Ga 2), .ref (Ga 3), .ref (Ga 4), .int (Gv 0), .ref (Sa 0), .ref (Aa 0), .ref (Ga 7), .ref (Ga 8), .ref (Ga 9), .ref (Ga 10), .ref (Ga 11)])), ((Sa 0), .inr (8, [.ref (Aa 0), .ref (Sa 2), .ref (Na 0), .int (Sv 0), .int (Sv 1)])), ((Aa 0), .inr (9, [.int (Av 0), .int (Av 1), .int (Av 2), .int (Av 3), .int (Av 4), .int (Av 5), .ref (Aa 1), .ref (Aa 2), .ref (Aa 3), .ref (Aa 4), .ref (Aa 5), .ref (Aa 6), .ref (Aa 7), .ref (Aa 8)])), ((Aa 1), .inl (tc 0, 10, .inl (Af 1))), ((Aa 2), .inl (tc 0, 10, .inl (Af 2))), ((Aa 3), .inl (tc 0, 6, .inl (Af 3))), ((Aa 4), .inl (tc 0, 6, .inl (Af 4))), ((Aa 5), .inl (tc 0, 6, .inl (Af 5))), ((Aa 6), .inl (tc 0, 6, .inl (Af 6))), ((Aa 7), .inl (tc 0, 6, .inl (Af 7))), ((Aa 8), .inl (tc 0, 6, .inl (Af 8)))]) ⟨hx, hb, hml, hown, hts⟩ hK hX hA (ct_X3_add l D tc sk Na Nv Nf x1 x2 x3) k_973 k_970 k_971 k_972 k_101 pl_X3_add ⟨Nat.le_of_ble_eq_true rfl, Nat.le_of_ble_eq_true rfl⟩ rfl rfl (va_recv hK hP (ci := 3) (q0 := 2) rfl rfl) hP hD hS [2, 3, 4, 5] [0, 1, 6, 7, 8, 9, 10, 11, 12, 13, 14] rfl rfl rfl rfl rfl (by decide) rfl hl.1 rfl (Nat.le_of_ble_eq_true rfl) dX11_note_61 ⟨Nat.le_of_ble_eq_true rfl, Nat.le_of_ble_eq_true rfl⟩ (fun v_22 u_23 H locs hv_24 hP hD hS => ?_)
          obtain ⟨sv_25, sv_26, sv_27, sv_28⟩ := u_23
          obtain ⟨r_29, rfl, he_30⟩ := hv_24
          have he_30 : ((r_29.toInt = 0 ∨ r_29.toInt = 1)) := he_30
          refine W.eq (g2 := F0 m 64 ls [.int r_29]) rfl ?_
          have hP : va_P D classes [((Ga 0), .inr (11, [.ref (Ga 1), .ref (Ga 2), .ref (Ga 3), .ref (Ga 4), .int (Gv 0), .ref (Sa 0), .ref (Aa 0), .ref (Ga 7), .ref (Ga 8), .ref (Ga 9), .ref (Ga 10), .ref (Ga 11)])), ((Sa 0), .inr (8, [.ref (Aa 0), .ref (Sa 2), .ref (Na 0), .int (Sv 0), .int (Sv 1)])), ((Aa 0), .inr (9, [.int (Av 0), .int (Av 1), .int (Av 2), .int (Av 3), .int (Av 4), .int (Av 5), .ref (Aa 1), .ref (Aa 2), .ref (Aa 3), .ref (Aa 4), .ref (Aa 5), .ref (Aa 6), .ref (Aa 7), .ref (Aa 8)])), ((Aa 1), .inl (tc 0, 10, .inl (Af 1))), ((Aa 2), .inl (tc 0, 10, .inl (Af 2))), ((Aa 3), .inl (tc 0, 6, .inl (Af 3))), ((Aa 4), .inl (tc 0, 6, .inl (Af 4))), ((Aa 5), .inl (tc 0, 6, .inl (Af 5))), ((Aa 6), .inl (tc 0, 6, .inl (Af 6))), ((Aa 7), .inl (tc 0, 6, .inl (Af 7))), ((Aa 8), .inl (tc 0, 6, .inl (Af 8))), ((Na 0), .inr (3, [.ref (Na 1), .ref (Na 2), .ref (Na 3), .int sv_25])), ((Na 1), .inl (tc 0, 10, .inl sv_26)), ((Na 2), .inl (tc 0, 10, .inl sv_27)), ((Na 3), .inl (tc 0, 10, .inl sv_28))] H := hP
          have hD : va_D A [((Ga 0), .inr (11, [.ref (Ga 1), .ref (Ga 2), .ref (Ga 3), .ref (Ga 4), .int (Gv 0), .ref (Sa 0), .ref (Aa 0), .ref (Ga 7), .ref (Ga 8), .ref (Ga 9), .ref (Ga 10), .ref (Ga 11)])), ((Sa 0), .inr (8, [.ref (Aa 0), .ref (Sa 2), .ref (Na 0), .int (Sv 0), .int (Sv 1)])), ((Aa 0), .inr (9, [.int (Av 0), .int (Av 1), .int (Av 2), .int (Av 3), .int (Av 4), .int (Av 5), .ref (Aa 1), .ref (Aa 2), .ref (Aa 3), .ref (Aa 4), .ref (Aa 5), .ref (Aa 6), .ref (Aa 7), .ref (Aa 8)])), ((Aa 1), .inl (tc 0, 10, .inl (Af 1))), ((Aa 2), .inl (tc 0, 10, .inl (Af 2))), ((Aa 3), .inl (tc 0, 6, .inl (Af 3))), ((Aa 4), .inl (tc 0, 6, .inl (Af 4))), ((Aa 5), .inl (tc 0, 6, .inl (Af 5))), ((Aa 6), .inl (tc 0, 6, .inl (Af 6))), ((Aa 7), .inl (tc 0, 6, .inl (Af 7))), ((Aa 8), .inl (tc 0, 6, .inl (Af 8))), ((Na 0), .inr (3, [.ref (Na 1), .ref (Na 2), .ref (Na 3), .int sv_25])), ((Na 1), .inl (tc 0, 10, .inl sv_26)), ((Na 2), .inl (tc 0, 10, .inl sv_27)), ((Na 3), .inl (tc 0, 10, .inl sv_28))] := hD
          refine lv_if_eq (tgt := 80) hx hb dX11_note_64 (by decide) (fun c_31 => ?_) (fun c_31 => ?_)
          · skip
            refine lv_bipush (v := (-2)) hx hb dX11_note_80 (by decide) ?_
            exact retI (v := (-2)) hx hb hr hlk (rfl) hP hD hS (sv_25, sv_26, sv_27, sv_28) ⟨_, rfl, trivial⟩ [0, 1, 2, 3, 4, 5, 6, 7, 8, 9, 10, 11, 12, 13, 14] rfl rfl dX11_note_82 (Nat.le_of_ble_eq_true rfl) (Nat.le_of_ble_eq_true rfl) rfl
          · skip
            refine lv_aload_n hx hb dX11_note_67 rfl (lv_at hl 0 rfl) ?_
            refine gf_X11_43 hx hb hts hown hK hP 0 rfl rfl dX11_note_68 ?_
            refine gf_X11_111 hx hb hts hown hK hP 1 rfl rfl dX11_note_71 ?_
            refine gf_X11_115 hx hb hts hown hK hP 11 rfl rfl dX11_note_74 ?_
            refine lv_goto (tgt := 82) hx hb dX11_note_77 (by decide) ?_
            exact retI (v := sv_25) hx hb hr hlk (rfl) hP hD hS (sv_25, sv_26, sv_27, sv_28) ⟨_, rfl, trivial⟩ [0, 1, 2, 3, 4, 5, 6, 7, 8, 9, 10, 11, 12, 13, 14] rfl rfl dX11_note_82 (Nat.le_of_ble_eq_true rfl) (Nat.le_of_ble_eq_true rfl) rfl
        · skip
          refine lv_bipush (v := (-2)) hx hb dX11_note_48 (by decide) ?_
          exact retI (v := (-2)) hx hb hr hlk (rfl) hP hD hS ((Nv 0), (Nf 1), (Nf 2), (Nf 3)) ⟨_, rfl, trivial⟩ [0, 1, 6, 7, 8, 9, 10, 11, 12, 13, 14, 2, 3, 4, 5] rfl rfl dX11_note_50 (Nat.le_of_ble_eq_true rfl) (Nat.le_of_ble_eq_true rfl) rfl
  · skip
    refine lv_aload_n hx hb dX11_note_5 rfl (lv_at hl 0 rfl) ?_
    refine gf_X11_43 hx hb hts hown hK hP 0 rfl rfl dX11_note_6 ?_
    refine gf_X11_111 hx hb hts hown hK hP 1 rfl rfl dX11_note_9 ?_
    refine lv_iconst (v := 0) hx hb dX11_note_12 (by decide) ?_
    refine pf_X11_115 hx hb hts hown hK hP hD hS 11 rfl (Nat.le_of_ble_eq_true rfl) rfl rfl dX11_note_13 (fun H locs hP hD hS => ?_)
    have hP : va_P D classes [((Ga 0), .inr (11, [.ref (Ga 1), .ref (Ga 2), .ref (Ga 3), .ref (Ga 4), .int (Gv 0), .ref (Sa 0), .ref (Aa 0), .ref (Ga 7), .ref (Ga 8), .ref (Ga 9), .ref (Ga 10), .ref (Ga 11)])), ((Sa 0), .inr (8, [.ref (Aa 0), .ref (Sa 2), .ref (Na 0), .int (Sv 0), .int (Sv 1)])), ((Aa 0), .inr (9, [.int (Av 0), .int (Av 1), .int (Av 2), .int (Av 3), .int (Av 4), .int (Av 5), .ref (Aa 1), .ref (Aa 2), .ref (Aa 3), .ref (Aa 4), .ref (Aa 5), .ref (Aa 6), .ref (Aa 7), .ref (Aa 8)])), ((Aa 1), .inl (tc 0, 10, .inl (Af 1))), ((Aa 2), .inl (tc 0, 10, .inl (Af 2))), ((Aa 3), .inl (tc 0, 6, .inl (Af 3))), ((Aa 4), .inl (tc 0, 6, .inl (Af 4))), ((Aa 5), .inl (tc 0, 6, .inl (Af 5))), ((Aa 6), .inl (tc 0, 6, .inl (Af 6))), ((Aa 7), .inl (tc 0, 6, .inl (Af 7))), ((Aa 8), .inl (tc 0, 6, .inl (Af 8))), ((Na 0), .inr (3, [.ref (Na 1), .ref (Na 2), .ref (Na 3), .int 0])), ((Na 1), .inl (tc 0, 10, .inl (Nf 1))), ((Na 2), .inl (tc 0, 10, .inl (Nf 2))), ((Na 3), .inl (tc 0, 10, .inl (Nf 3)))] H := hP
    have hD : va_D A [((Ga 0), .inr (11, [.ref (Ga 1), .ref (Ga 2), .ref (Ga 3), .ref (Ga 4), .int (Gv 0), .ref (Sa 0), .ref (Aa 0), .ref (Ga 7), .ref (Ga 8), .ref (Ga 9), .ref (Ga 10), .ref (Ga 11)])), ((Sa 0), .inr (8, [.ref (Aa 0), .ref (Sa 2), .ref (Na 0), .int (Sv 0), .int (Sv 1)])), ((Aa 0), .inr (9, [.int (Av 0), .int (Av 1), .int (Av 2), .int (Av 3), .int (Av 4), .int (Av 5), .ref (Aa 1), .ref (Aa 2), .ref (Aa 3), .ref (Aa 4), .ref (Aa 5), .ref (Aa 6), .ref (Aa 7), .ref (Aa 8)])), ((Aa 1), .inl (tc 0, 10, .inl (Af 1))), ((Aa 2), .inl (tc 0, 10, .inl (Af 2))), ((Aa 3), .inl (tc 0, 6, .inl (Af 3))), ((Aa 4), .inl (tc 0, 6, .inl (Af 4))), ((Aa 5), .inl (tc 0, 6, .inl (Af 5))), ((Aa 6), .inl (tc 0, 6, .inl (Af 6))), ((Aa 7), .inl (tc 0, 6, .inl (Af 7))), ((Aa 8), .inl (tc 0, 6, .inl (Af 8))), ((Na 0), .inr (3, [.ref (Na 1), .ref (Na 2), .ref (Na 3), .int 0])), ((Na 1), .inl (tc 0, 10, .inl (Nf 1))), ((Na 2), .inl (tc 0, 10, .inl (Nf 2))), ((Na 3), .inl (tc 0, 10, .inl (Nf 3)))] := hD
    refine lv_iconst (v := 0) hx hb dX11_note_16 (by decide) ?_
    exact retI (v := 0) hx hb hr hlk (rfl) hP hD hS (0, (Nf 1), (Nf 2), (Nf 3)) ⟨_, rfl, trivial⟩ [0, 1, 2, 3, 4, 5, 6, 7, 8, 9, 10, 11, 12, 13, 14] rfl rfl dX11_note_17 (Nat.le_of_ble_eq_true rfl) (Nat.le_of_ble_eq_true rfl) rfl
set_option maxHeartbeats 4000000 in
set_option maxRecDepth 100000 in
theorem ct_X11_count (l : Launch) (D : va_G) (tc : Nat → ClassId) (sk : (Nat → Nat) × (Nat → Nat)) (Ga : Nat → Nat) (Gv : Nat → Int32) (Ta : Nat → Nat) (Tv : Nat → Int32) (Tf : Nat → Nat → Int32) (Sa : Nat → Nat) (Sv : Nat → Int32) (Aa : Nat → Nat) (Av : Nat → Int32) (Af : Nat → Nat → Int32) (Na : Nat → Nat) (Nv : Nat → Int32) (Nf : Nat → Nat → Int32) (Pa : Nat → Nat) (Pv : Nat → Int32) (Pq : Nat → Nat → Option Nat) (x1 : Int32)  : Ct l yX11_count cX11_count 2 (some .int) { frames := 3, cells := 0, slots := 0, locals := 64 } D tc sk [.ref (Ga 0), .int x1] [((Ga 0), .inr (11, [.ref (Ta 0), .ref (Ga 2), .ref (Ga 3), .ref (Ga 4), .int (Gv 0), .ref (Sa 0), .ref (Aa 0), .ref (Pa 0), .ref (Ga 8), .ref (Ga 9), .ref (Ga 10), .ref (Ga 11)])), ((Ta 0), .inr (10, [.ref (Ta 1), .int (Tv 0), .int (Tv 1), .int (Tv 2), .int (Tv 3), .int (Tv 4)])), ((Ta 1), .inl (tc 0, 400, .inl (Tf 1))), ((Sa 0), .inr (8, [.ref (Aa 0), .ref (Sa 2), .ref (Na 0), .int (Sv 0), .int (Sv 1)])), ((Aa 0), .inr (9, [.int (Av 0), .int (Av 1), .int (Av 2), .int (Av 3), .int (Av 4), .int (Av 5), .ref (Aa 1), .ref (Aa 2), .ref (Aa 3), .ref (Aa 4), .ref (Aa 5), .ref (Aa 6), .ref (Aa 7), .ref (Aa 8)])), ((Aa 1), .inl (tc 0, 10, .inl (Af 1))), ((Aa 2), .inl (tc 0, 10, .inl (Af 2))), ((Aa 3), .inl (tc 0, 6, .inl (Af 3))), ((Aa 4), .inl (tc 0, 6, .inl (Af 4))), ((Aa 5), .inl (tc 0, 6, .inl (Af 5))), ((Aa 6), .inl (tc 0, 6, .inl (Af 6))), ((Aa 7), .inl (tc 0, 6, .inl (Af 7))), ((Aa 8), .inl (tc 0, 6, .inl (Af 8))), ((Na 0), .inr (3, [.ref (Na 1), .ref (Na 2), .ref (Na 3), .int (Nv 0)])), ((Na 1), .inl (tc 0, 10, .inl (Nf 1))), ((Na 2), .inl (tc 0, 10, .inl (Nf 2))), ((Na 3), .inl (tc 0, 10, .inl (Nf 3))), ((Pa 0), .inr (5, [.ref (Pa 1), .int (Pv 0), .int (Pv 1)])), ((Pa 1), .inl (tc 5, 20, .inr (.inr (.inr (.inr (Pq 1))))))] (fun (v : Option Value) (_ : Unit) => ∃ r : Int32, v = some (.int r) ∧ (True)) (fun (_ : Unit) => [((Ga 0), .inr (11, [.ref (Ta 0), .ref (Ga 2), .ref (Ga 3), .ref (Ga 4), .int (Gv 0), .ref (Sa 0), .ref (Aa 0), .ref (Pa 0), .ref (Ga 8), .ref (Ga 9), .ref (Ga 10), .ref (Ga 11)])), ((Ta 0), .inr (10, [.ref (Ta 1), .int (Tv 0), .int (Tv 1), .int (Tv 2), .int (Tv 3), .int (Tv 4)])), ((Ta 1), .inl (tc 0, 400, .inl (Tf 1))), ((Sa 0), .inr (8, [.ref (Aa 0), .ref (Sa 2), .ref (Na 0), .int (Sv 0), .int (Sv 1)])), ((Aa 0), .inr (9, [.int (Av 0), .int (Av 1), .int (Av 2), .int (Av 3), .int (Av 4), .int (Av 5), .ref (Aa 1), .ref (Aa 2), .ref (Aa 3), .ref (Aa 4), .ref (Aa 5), .ref (Aa 6), .ref (Aa 7), .ref (Aa 8)])), ((Aa 1), .inl (tc 0, 10, .inl (Af 1))), ((Aa 2), .inl (tc 0, 10, .inl (Af 2))), ((Aa 3), .inl (tc 0, 6, .inl (Af 3))), ((Aa 4), .inl (tc 0, 6, .inl (Af 4))), ((Aa 5), .inl (tc 0, 6, .inl (Af 5))), ((Aa 6), .inl (tc 0, 6, .inl (Af 6))), ((Aa 7), .inl (tc 0, 6, .inl (Af 7))), ((Aa 8), .inl (tc 0, 6, .inl (Af 8))), ((Na 0), .inr (3, [.ref (Na 1), .ref (Na 2), .ref (Na 3), .int (Nv 0)])), ((Na 1), .inl (tc 0, 10, .inl (Nf 1))), ((Na 2), .inl (tc 0, 10, .inl (Nf 2))), ((Na 3), .inl (tc 0, 10, .inl (Nf 3))), ((Pa 0), .inr (5, [.ref (Pa 1), .int (Pv 0), .int (Pv 1)])), ((Pa 1), .inl (tc 5, 20, .inr (.inr (.inr (.inr (Pq 1))))))]) 0 0 := by
  refine Ct.start (by decide) (Nat.le_of_ble_eq_true rfl) (fun p e s m below meth c A ls hx hb hr hlk hin hml hown hts hK hX hP hD hA hl hS => ?_)
  have hl : lv_has ls 2 [(0, .ref (Ga 0)), (1, .int x1)] := hl
  refine lv_iload_n hx hb dX11_count_0 rfl (lv_at hl 1 rfl) ?_
  refine lv_topi (fun x_1 ex_1 => ?_)
  by_cases c_2 : x_1 = 0
  · skip
    subst c_2
    refine lv_tableIn (off := 79) (tgt := 80) hx hb dX11_count_1 (by decide) (by decide) (by decide) (by decide) ?_
    refine lv_aload_n hx hb dX11_count_80 rfl (lv_at hl 0 rfl) ?_
    refine gf_X11_51 hx hb hts hown hK hP 0 rfl rfl dX11_count_81 ?_
    refine gf_X11_282 hx hb hts hown hK hP 4 rfl rfl dX11_count_84 ?_
    exact retI (v := (Av 1)) hx hb hr hlk (rfl) hP hD hS () ⟨_, rfl, trivial⟩ [0, 1, 2, 3, 4, 5, 6, 7, 8, 9, 10, 11, 12, 13, 14, 15, 16, 17, 18] rfl rfl dX11_count_87 (Nat.le_of_ble_eq_true rfl) (Nat.le_of_ble_eq_true rfl) rfl
  · skip
    by_cases c_3 : x_1 = 1
    · skip
      subst c_3
      refine lv_tableIn (off := 87) (tgt := 88) hx hb dX11_count_1 (by decide) (by decide) (by decide) (by decide) ?_
      refine lv_aload_n hx hb dX11_count_88 rfl (lv_at hl 0 rfl) ?_
      refine gf_X11_51 hx hb hts hown hK hP 0 rfl rfl dX11_count_89 ?_
      refine gf_X11_285 hx hb hts hown hK hP 4 rfl rfl dX11_count_92 ?_
      exact retI (v := (Av 2)) hx hb hr hlk (rfl) hP hD hS () ⟨_, rfl, trivial⟩ [0, 1, 2, 3, 4, 5, 6, 7, 8, 9, 10, 11, 12, 13, 14, 15, 16, 17, 18] rfl rfl dX11_count_95 (Nat.le_of_ble_eq_true rfl) (Nat.le_of_ble_eq_true rfl) rfl
    · skip
      by_cases c_4 : x_1 = 2
      · skip
        subst c_4
        refine lv_tableIn (off := 95) (tgt := 96) hx hb dX11_count_1 (by decide) (by decide) (by decide) (by decide) ?_
        refine lv_aload_n hx hb dX11_count_96 rfl (lv_at hl 0 rfl) ?_
        refine gf_X11_51 hx hb hts hown hK hP 0 rfl rfl dX11_count_97 ?_
        refine gf_X11_121 hx hb hts hown hK hP 4 rfl rfl dX11_count_100 ?_
        exact retI (v := (Av 3)) hx hb hr hlk (rfl) hP hD hS () ⟨_, rfl, trivial⟩ [0, 1, 2, 3, 4, 5, 6, 7, 8, 9, 10, 11, 12, 13, 14, 15, 16, 17, 18] rfl rfl dX11_count_103 (Nat.le_of_ble_eq_true rfl) (Nat.le_of_ble_eq_true rfl) rfl
      · skip
        by_cases c_5 : x_1 = 3
        · skip
          subst c_5
          refine lv_tableIn (off := 103) (tgt := 104) hx hb dX11_count_1 (by decide) (by decide) (by decide) (by decide) ?_
          refine lv_aload_n hx hb dX11_count_104 rfl (lv_at hl 0 rfl) ?_
          refine gf_X11_36 hx hb hts hown hK hP 0 rfl rfl dX11_count_105 ?_
          exact retI (v := (Gv 0)) hx hb hr hlk (rfl) hP hD hS () ⟨_, rfl, trivial⟩ [0, 1, 2, 3, 4, 5, 6, 7, 8, 9, 10, 11, 12, 13, 14, 15, 16, 17, 18] rfl rfl dX11_count_108 (Nat.le_of_ble_eq_true rfl) (Nat.le_of_ble_eq_true rfl) rfl
        · skip
          by_cases c_6 : x_1 = 4
          · skip
            subst c_6
            refine lv_tableIn (off := 108) (tgt := 109) hx hb dX11_count_1 (by decide) (by decide) (by decide) (by decide) ?_
            refine lv_aload_n hx hb dX11_count_109 rfl (lv_at hl 0 rfl) ?_
            refine gf_X11_43 hx hb hts hown hK hP 0 rfl rfl dX11_count_110 ?_
            refine gf_X11_130 hx hb hts hown hK hP 3 rfl rfl dX11_count_113 ?_
            exact retI (v := (Sv 0)) hx hb hr hlk (rfl) hP hD hS () ⟨_, rfl, trivial⟩ [0, 1, 2, 3, 4, 5, 6, 7, 8, 9, 10, 11, 12, 13, 14, 15, 16, 17, 18] rfl rfl dX11_count_116 (Nat.le_of_ble_eq_true rfl) (Nat.le_of_ble_eq_true rfl) rfl
          · skip
            by_cases c_7 : x_1 = 5
            · skip
              subst c_7
              refine lv_tableIn (off := 116) (tgt := 117) hx hb dX11_count_1 (by decide) (by decide) (by decide) (by decide) ?_
              refine lv_aload_n hx hb dX11_count_117 rfl (lv_at hl 0 rfl) ?_
              refine gf_X11_51 hx hb hts hown hK hP 0 rfl rfl dX11_count_118 ?_
              refine gf_X11_179 hx hb hts hown hK hP 4 rfl rfl dX11_count_121 ?_
              exact retI (v := (Av 4)) hx hb hr hlk (rfl) hP hD hS () ⟨_, rfl, trivial⟩ [0, 1, 2, 3, 4, 5, 6, 7, 8, 9, 10, 11, 12, 13, 14, 15, 16, 17, 18] rfl rfl dX11_count_124 (Nat.le_of_ble_eq_true rfl) (Nat.le_of_ble_eq_true rfl) rfl
            · skip
              by_cases c_8 : x_1 = 6
              · skip
                subst c_8
                refine lv_tableIn (off := 124) (tgt := 125) hx hb dX11_count_1 (by decide) (by decide) (by decide) (by decide) ?_
                refine lv_aload_n hx hb dX11_count_125 rfl (lv_at hl 0 rfl) ?_
                refine gf_X11_51 hx hb hts hown hK hP 0 rfl rfl dX11_count_126 ?_
                refine lv_aload_n hx hb dX11_count_129 rfl (lv_at hl 0 rfl) ?_
                refine gf_X11_51 hx hb hts hown hK hP 0 rfl rfl dX11_count_130 ?_
                refine gf_X11_179 hx hb hts hown hK hP 4 rfl rfl dX11_count_133 ?_
                refine cV (a := (Aa 0)) (As := [.int (Av 4)]) (rest := []) (wr := [((Ga 0), .inr (11, [.ref (Ta 0), .ref (Ga 2), .ref (Ga 3), .ref (Ga 4), .int (Gv 0), .ref (Sa 0), .ref (Aa 0), .ref (Pa 0), .ref (Ga 8), .ref (Ga 9), .ref (Ga 10), .ref (Ga 11)])), ((Ta 0), .inr (10, [.ref (Ta 1), .int (Tv 0), .int (Tv 1), .int (Tv 2), .int (Tv 3), .int (Tv 4)])), ((Ta 1), .inl (tc 0, 400, .inl (Tf 1))), ((Sa 0), .inr (8, [.ref (Aa 0), .ref (Sa 2), .ref (Na 0), .int (Sv 0), .int (Sv 1)])), ((Na 0), .inr (3, [.ref (Na 1), .ref (Na 2), .ref (Na 3), .int (Nv 0)])), ((Na 1), .inl (tc 0, 10, .inl (Nf 1))), ((Na 2), .inl (tc 0, 10, .inl (Nf 2))), ((Na 3), .inl (tc 0, 10, .inl (Nf 3))), ((Pa 0), .inr (5, [.ref (Pa 1), .int (Pv 0), .int (Pv 1)])), ((Pa 1), .inl (tc 5, 20, .inr (.inr (.inr (.inr (Pq 1))))))]) ⟨hx, hb, hml, hown, hts⟩ hK hX hA (ct_X9_clockOn l D tc sk Aa Av Af (Av 4)) k_747 k_1041 k_745 k_746 k_98 pl_X9_clockOn ⟨Nat.le_of_ble_eq_true rfl, Nat.le_of_ble_eq_true rfl⟩ rfl rfl (va_recv hK hP (ci := 9) (q0 := 4) rfl rfl) hP hD hS [4, 5, 6, 7, 8, 9, 10, 11, 12] [0, 1, 2, 3, 13, 14, 15, 16, 17, 18] rfl rfl rfl rfl rfl (by decide) rfl hl.1 rfl (Nat.le_of_ble_eq_true rfl) dX11_count_136 ⟨Nat.le_of_ble_eq_true rfl, Nat.le_of_ble_eq_true rfl⟩ (fun v_9 u_10 H locs hv_11 hP hD hS => ?_)
                obtain ⟨r_12, rfl, he_13⟩ := hv_11
                have he_13 : (True) := he_13
                refine W.eq (g2 := F0 m 139 ls [.int r_12]) rfl ?_
                have hP : va_P D classes [((Ga 0), .inr (11, [.ref (Ta 0), .ref (Ga 2), .ref (Ga 3), .ref (Ga 4), .int (Gv 0), .ref (Sa 0), .ref (Aa 0), .ref (Pa 0), .ref (Ga 8), .ref (Ga 9), .ref (Ga 10), .ref (Ga 11)])), ((Ta 0), .inr (10, [.ref (Ta 1), .int (Tv 0), .int (Tv 1), .int (Tv 2), .int (Tv 3), .int (Tv 4)])), ((Ta 1), .inl (tc 0, 400, .inl (Tf 1))), ((Sa 0), .inr (8, [.ref (Aa 0), .ref (Sa 2), .ref (Na 0), .int (Sv 0), .int (Sv 1)])), ((Na 0), .inr (3, [.ref (Na 1), .ref (Na 2), .ref (Na 3), .int (Nv 0)])), ((Na 1), .inl (tc 0, 10, .inl (Nf 1))), ((Na 2), .inl (tc 0, 10, .inl (Nf 2))), ((Na 3), .inl (tc 0, 10, .inl (Nf 3))), ((Pa 0), .inr (5, [.ref (Pa 1), .int (Pv 0), .int (Pv 1)])), ((Pa 1), .inl (tc 5, 20, .inr (.inr (.inr (.inr (Pq 1)))))), ((Aa 0), .inr (9, [.int (Av 0), .int (Av 1), .int (Av 2), .int (Av 3), .int (Av 4), .int (Av 5), .ref (Aa 1), .ref (Aa 2), .ref (Aa 3), .ref (Aa 4), .ref (Aa 5), .ref (Aa 6), .ref (Aa 7), .ref (Aa 8)])), ((Aa 1), .inl (tc 0, 10, .inl (Af 1))), ((Aa 2), .inl (tc 0, 10, .inl (Af 2))), ((Aa 3), .inl (tc 0, 6, .inl (Af 3))), ((Aa 4), .inl (tc 0, 6, .inl (Af 4))), ((Aa 5), .inl (tc 0, 6, .inl (Af 5))), ((Aa 6), .inl (tc 0, 6, .inl (Af 6))), ((Aa 7), .inl (tc 0, 6, .inl (Af 7))), ((Aa 8), .inl (tc 0, 6, .inl (Af 8)))] H := hP
                have hD : va_D A [((Ga 0), .inr (11, [.ref (Ta 0), .ref (Ga 2), .ref (Ga 3), .ref (Ga 4), .int (Gv 0), .ref (Sa 0), .ref (Aa 0), .ref (Pa 0), .ref (Ga 8), .ref (Ga 9), .ref (Ga 10), .ref (Ga 11)])), ((Ta 0), .inr (10, [.ref (Ta 1), .int (Tv 0), .int (Tv 1), .int (Tv 2), .int (Tv 3), .int (Tv 4)])), ((Ta 1), .inl (tc 0, 400, .inl (Tf 1))), ((Sa 0), .inr (8, [.ref (Aa 0), .ref (Sa 2), .ref (Na 0), .int (Sv 0), .int (Sv 1)])), ((Na 0), .inr (3, [.ref (Na 1), .ref (Na 2), .ref (Na 3), .int (Nv 0)])), ((Na 1), .inl (tc 0, 10, .inl (Nf 1))), ((Na 2), .inl (tc 0, 10, .inl (Nf 2))), ((Na 3), .inl (tc 0, 10, .inl (Nf 3))), ((Pa 0), .inr (5, [.ref (Pa 1), .int (Pv 0), .int (Pv 1)])), ((Pa 1), .inl (tc 5, 20, .inr (.inr (.inr (.inr (Pq 1)))))), ((Aa 0), .inr (9, [.int (Av 0), .int (Av 1), .int (Av 2), .int (Av 3), .int (Av 4), .int (Av 5), .ref (Aa 1), .ref (Aa 2), .ref (Aa 3), .ref (Aa 4), .ref (Aa 5), .ref (Aa 6), .ref (Aa 7), .ref (Aa 8)])), ((Aa 1), .inl (tc 0, 10, .inl (Af 1))), ((Aa 2), .inl (tc 0, 10, .inl (Af 2))), ((Aa 3), .inl (tc 0, 6, .inl (Af 3))), ((Aa 4), .inl (tc 0, 6, .inl (Af 4))), ((Aa 5), .inl (tc 0, 6, .inl (Af 5))), ((Aa 6), .inl (tc 0, 6, .inl (Af 6))), ((Aa 7), .inl (tc 0, 6, .inl (Af 7))), ((Aa 8), .inl (tc 0, 6, .inl (Af 8)))] := hD
                exact retI (v := r_12) hx hb hr hlk (rfl) hP hD hS () ⟨_, rfl, trivial⟩ [0, 1, 2, 3, 10, 11, 12, 13, 14, 15, 16, 17, 18, 4, 5, 6, 7, 8, 9] rfl rfl dX11_count_139 (Nat.le_of_ble_eq_true rfl) (Nat.le_of_ble_eq_true rfl) rfl
              · skip
                by_cases c_14 : x_1 = 7
                · skip
                  subst c_14
                  refine lv_tableIn (off := 139) (tgt := 140) hx hb dX11_count_1 (by decide) (by decide) (by decide) (by decide) ?_
                  refine lv_aload_n hx hb dX11_count_140 rfl (lv_at hl 0 rfl) ?_
                  refine gf_X11_51 hx hb hts hown hK hP 0 rfl rfl dX11_count_141 ?_
                  refine gf_X11_193 hx hb hts hown hK hP 4 rfl rfl dX11_count_144 ?_
                  exact retI (v := (Av 0)) hx hb hr hlk (rfl) hP hD hS () ⟨_, rfl, trivial⟩ [0, 1, 2, 3, 4, 5, 6, 7, 8, 9, 10, 11, 12, 13, 14, 15, 16, 17, 18] rfl rfl dX11_count_147 (Nat.le_of_ble_eq_true rfl) (Nat.le_of_ble_eq_true rfl) rfl
                · skip
                  by_cases c_15 : x_1 = 8
                  · skip
                    subst c_15
                    refine lv_tableIn (off := 147) (tgt := 148) hx hb dX11_count_1 (by decide) (by decide) (by decide) (by decide) ?_
                    refine lv_aload_n hx hb dX11_count_148 rfl (lv_at hl 0 rfl) ?_
                    refine gf_X11_51 hx hb hts hown hK hP 0 rfl rfl dX11_count_149 ?_
                    refine lv_aload_n hx hb dX11_count_152 rfl (lv_at hl 0 rfl) ?_
                    refine gf_X11_51 hx hb hts hown hK hP 0 rfl rfl dX11_count_153 ?_
                    refine gf_X11_179 hx hb hts hown hK hP 4 rfl rfl dX11_count_156 ?_
                    refine cV (a := (Aa 0)) (As := [.int (Av 4)]) (rest := []) (wr := [((Ga 0), .inr (11, [.ref (Ta 0), .ref (Ga 2), .ref (Ga 3), .ref (Ga 4), .int (Gv 0), .ref (Sa 0), .ref (Aa 0), .ref (Pa 0), .ref (Ga 8), .ref (Ga 9), .ref (Ga 10), .ref (Ga 11)])), ((Ta 0), .inr (10, [.ref (Ta 1), .int (Tv 0), .int (Tv 1), .int (Tv 2), .int (Tv 3), .int (Tv 4)])), ((Ta 1), .inl (tc 0, 400, .inl (Tf 1))), ((Sa 0), .inr (8, [.ref (Aa 0), .ref (Sa 2), .ref (Na 0), .int (Sv 0), .int (Sv 1)])), ((Na 0), .inr (3, [.ref (Na 1), .ref (Na 2), .ref (Na 3), .int (Nv 0)])), ((Na 1), .inl (tc 0, 10, .inl (Nf 1))), ((Na 2), .inl (tc 0, 10, .inl (Nf 2))), ((Na 3), .inl (tc 0, 10, .inl (Nf 3))), ((Pa 0), .inr (5, [.ref (Pa 1), .int (Pv 0), .int (Pv 1)])), ((Pa 1), .inl (tc 5, 20, .inr (.inr (.inr (.inr (Pq 1))))))]) ⟨hx, hb, hml, hown, hts⟩ hK hX hA (ct_X9_stillOn l D tc sk Aa Av Af (Av 4)) k_743 k_1042 k_741 k_742 k_98 pl_X9_stillOn ⟨Nat.le_of_ble_eq_true rfl, Nat.le_of_ble_eq_true rfl⟩ rfl rfl (va_recv hK hP (ci := 9) (q0 := 4) rfl rfl) hP hD hS [4, 5, 6, 7, 8, 9, 10, 11, 12] [0, 1, 2, 3, 13, 14, 15, 16, 17, 18] rfl rfl rfl rfl rfl (by decide) rfl hl.1 rfl (Nat.le_of_ble_eq_true rfl) dX11_count_159 ⟨Nat.le_of_ble_eq_true rfl, Nat.le_of_ble_eq_true rfl⟩ (fun v_16 u_17 H locs hv_18 hP hD hS => ?_)
                    obtain ⟨r_19, rfl, he_20⟩ := hv_18
                    have he_20 : (True) := he_20
                    refine W.eq (g2 := F0 m 162 ls [.int r_19]) rfl ?_
                    have hP : va_P D classes [((Ga 0), .inr (11, [.ref (Ta 0), .ref (Ga 2), .ref (Ga 3), .ref (Ga 4), .int (Gv 0), .ref (Sa 0), .ref (Aa 0), .ref (Pa 0), .ref (Ga 8), .ref (Ga 9), .ref (Ga 10), .ref (Ga 11)])), ((Ta 0), .inr (10, [.ref (Ta 1), .int (Tv 0), .int (Tv 1), .int (Tv 2), .int (Tv 3), .int (Tv 4)])), ((Ta 1), .inl (tc 0, 400, .inl (Tf 1))), ((Sa 0), .inr (8, [.ref (Aa 0), .ref (Sa 2), .ref (Na 0), .int (Sv 0), .int (Sv 1)])), ((Na 0), .inr (3, [.ref (Na 1), .ref (Na 2), .ref (Na 3), .int (Nv 0)])), ((Na 1), .inl (tc 0, 10, .inl (Nf 1))), ((Na 2), .inl (tc 0, 10, .inl (Nf 2))), ((Na 3), .inl (tc 0, 10, .inl (Nf 3))), ((Pa 0), .inr (5, [.ref (Pa 1), .int (Pv 0), .int (Pv 1)])), ((Pa 1), .inl (tc 5, 20, .inr (.inr (.inr (.inr (Pq 1)))))), ((Aa 0), .inr (9, [.int (Av 0), .int (Av 1), .int (Av 2), .int (Av 3), .int (Av 4), .int (Av 5), .ref (Aa 1), .ref (Aa 2), .ref (Aa 3), .ref (Aa 4), .ref (Aa 5), .ref (Aa 6), .ref (Aa 7), .ref (Aa 8)])), ((Aa 1), .inl (tc 0, 10, .inl (Af 1))), ((Aa 2), .inl (tc 0, 10, .inl (Af 2))), ((Aa 3), .inl (tc 0, 6, .inl (Af 3))), ((Aa 4), .inl (tc 0, 6, .inl (Af 4))), ((Aa 5), .inl (tc 0, 6, .inl (Af 5))), ((Aa 6), .inl (tc 0, 6, .inl (Af 6))), ((Aa 7), .inl (tc 0, 6, .inl (Af 7))), ((Aa 8), .inl (tc 0, 6, .inl (Af 8)))] H := hP
                    have hD : va_D A [((Ga 0), .inr (11, [.ref (Ta 0), .ref (Ga 2), .ref (Ga 3), .ref (Ga 4), .int (Gv 0), .ref (Sa 0), .ref (Aa 0), .ref (Pa 0), .ref (Ga 8), .ref (Ga 9), .ref (Ga 10), .ref (Ga 11)])), ((Ta 0), .inr (10, [.ref (Ta 1), .int (Tv 0), .int (Tv 1), .int (Tv 2), .int (Tv 3), .int (Tv 4)])), ((Ta 1), .inl (tc 0, 400, .inl (Tf 1))), ((Sa 0), .inr (8, [.ref (Aa 0), .ref (Sa 2), .ref (Na 0), .int (Sv 0), .int (Sv 1)])), ((Na 0), .inr (3, [.ref (Na 1), .ref (Na 2), .ref (Na 3), .int (Nv 0)])), ((Na 1), .inl (tc 0, 10, .inl (Nf 1))), ((Na 2), .inl (tc 0, 10, .inl (Nf 2))), ((Na 3), .inl (tc 0, 10, .inl (Nf 3))), ((Pa 0), .inr (5, [.ref (Pa 1), .int (Pv 0), .int (Pv 1)])), ((Pa 1), .inl (tc 5, 20, .inr (.inr (.inr (.inr (Pq 1)))))), ((Aa 0), .inr (9, [.int (Av 0), .int (Av 1), .int (Av 2), .int (Av 3), .int (Av 4), .int (Av 5), .ref (Aa 1), .ref (Aa 2), .ref (Aa 3), .ref (Aa 4), .ref (Aa 5), .ref (Aa 6), .ref (Aa 7), .ref (Aa 8)])), ((Aa 1), .inl (tc 0, 10, .inl (Af 1))), ((Aa 2), .inl (tc 0, 10, .inl (Af 2))), ((Aa 3), .inl (tc 0, 6, .inl (Af 3))), ((Aa 4), .inl (tc 0, 6, .inl (Af 4))), ((Aa 5), .inl (tc 0, 6, .inl (Af 5))), ((Aa 6), .inl (tc 0, 6, .inl (Af 6))), ((Aa 7), .inl (tc 0, 6, .inl (Af 7))), ((Aa 8), .inl (tc 0, 6, .inl (Af 8)))] := hD
                    exact retI (v := r_19) hx hb hr hlk (rfl) hP hD hS () ⟨_, rfl, trivial⟩ [0, 1, 2, 3, 10, 11, 12, 13, 14, 15, 16, 17, 18, 4, 5, 6, 7, 8, 9] rfl rfl dX11_count_162 (Nat.le_of_ble_eq_true rfl) (Nat.le_of_ble_eq_true rfl) rfl
                  · skip
                    by_cases c_21 : x_1 = 9
                    · skip
                      subst c_21
                      refine lv_tableIn (off := 162) (tgt := 163) hx hb dX11_count_1 (by decide) (by decide) (by decide) (by decide) ?_
                      refine lv_aload_n hx hb dX11_count_163 rfl (lv_at hl 0 rfl) ?_
                      refine gf_X11_51 hx hb hts hown hK hP 0 rfl rfl dX11_count_164 ?_
                      refine gf_X11_294 hx hb hts hown hK hP 4 rfl rfl dX11_count_167 ?_
                      exact retI (v := (Av 5)) hx hb hr hlk (rfl) hP hD hS () ⟨_, rfl, trivial⟩ [0, 1, 2, 3, 4, 5, 6, 7, 8, 9, 10, 11, 12, 13, 14, 15, 16, 17, 18] rfl rfl dX11_count_170 (Nat.le_of_ble_eq_true rfl) (Nat.le_of_ble_eq_true rfl) rfl
                    · skip
                      by_cases c_22 : x_1 = 10
                      · skip
                        subst c_22
                        refine lv_tableIn (off := 170) (tgt := 171) hx hb dX11_count_1 (by decide) (by decide) (by decide) (by decide) ?_
                        refine lv_aload_n hx hb dX11_count_171 rfl (lv_at hl 0 rfl) ?_
                        refine gf_X11_51 hx hb hts hown hK hP 0 rfl rfl dX11_count_172 ?_
                        refine cV (a := (Aa 0)) (As := []) (rest := []) (wr := [((Ga 0), .inr (11, [.ref (Ta 0), .ref (Ga 2), .ref (Ga 3), .ref (Ga 4), .int (Gv 0), .ref (Sa 0), .ref (Aa 0), .ref (Pa 0), .ref (Ga 8), .ref (Ga 9), .ref (Ga 10), .ref (Ga 11)])), ((Ta 0), .inr (10, [.ref (Ta 1), .int (Tv 0), .int (Tv 1), .int (Tv 2), .int (Tv 3), .int (Tv 4)])), ((Ta 1), .inl (tc 0, 400, .inl (Tf 1))), ((Sa 0), .inr (8, [.ref (Aa 0), .ref (Sa 2), .ref (Na 0), .int (Sv 0), .int (Sv 1)])), ((Na 0), .inr (3, [.ref (Na 1), .ref (Na 2), .ref (Na 3), .int (Nv 0)])), ((Na 1), .inl (tc 0, 10, .inl (Nf 1))), ((Na 2), .inl (tc 0, 10, .inl (Nf 2))), ((Na 3), .inl (tc 0, 10, .inl (Nf 3))), ((Pa 0), .inr (5, [.ref (Pa 1), .int (Pv 0), .int (Pv 1)])), ((Pa 1), .inl (tc 5, 20, .inr (.inr (.inr (.inr (Pq 1))))))]) ⟨hx, hb, hml, hown, hts⟩ hK hX hA (ct_X9_timesMet l D tc sk Aa Av Af) k_1046 k_1043 k_1044 k_1045 k_98 pl_X9_timesMet ⟨Nat.le_of_ble_eq_true rfl, Nat.le_of_ble_eq_true rfl⟩ rfl rfl (va_recv hK hP (ci := 9) (q0 := 4) rfl rfl) hP hD hS [4, 5, 6, 7, 8, 9, 10, 11, 12] [0, 1, 2, 3, 13, 14, 15, 16, 17, 18] rfl rfl rfl rfl rfl (by decide) rfl hl.1 rfl (Nat.le_of_ble_eq_true rfl) dX11_count_175 ⟨Nat.le_of_ble_eq_true rfl, Nat.le_of_ble_eq_true rfl⟩ (fun v_23 u_24 H locs hv_25 hP hD hS => ?_)
                        obtain ⟨r_26, rfl, he_27⟩ := hv_25
                        have he_27 : (True) := he_27
                        refine W.eq (g2 := F0 m 178 ls [.int r_26]) rfl ?_
                        have hP : va_P D classes [((Ga 0), .inr (11, [.ref (Ta 0), .ref (Ga 2), .ref (Ga 3), .ref (Ga 4), .int (Gv 0), .ref (Sa 0), .ref (Aa 0), .ref (Pa 0), .ref (Ga 8), .ref (Ga 9), .ref (Ga 10), .ref (Ga 11)])), ((Ta 0), .inr (10, [.ref (Ta 1), .int (Tv 0), .int (Tv 1), .int (Tv 2), .int (Tv 3), .int (Tv 4)])), ((Ta 1), .inl (tc 0, 400, .inl (Tf 1))), ((Sa 0), .inr (8, [.ref (Aa 0), .ref (Sa 2), .ref (Na 0), .int (Sv 0), .int (Sv 1)])), ((Na 0), .inr (3, [.ref (Na 1), .ref (Na 2), .ref (Na 3), .int (Nv 0)])), ((Na 1), .inl (tc 0, 10, .inl (Nf 1))), ((Na 2), .inl (tc 0, 10, .inl (Nf 2))), ((Na 3), .inl (tc 0, 10, .inl (Nf 3))), ((Pa 0), .inr (5, [.ref (Pa 1), .int (Pv 0), .int (Pv 1)])), ((Pa 1), .inl (tc 5, 20, .inr (.inr (.inr (.inr (Pq 1)))))), ((Aa 0), .inr (9, [.int (Av 0), .int (Av 1), .int (Av 2), .int (Av 3), .int (Av 4), .int (Av 5), .ref (Aa 1), .ref (Aa 2), .ref (Aa 3), .ref (Aa 4), .ref (Aa 5), .ref (Aa 6), .ref (Aa 7), .ref (Aa 8)])), ((Aa 1), .inl (tc 0, 10, .inl (Af 1))), ((Aa 2), .inl (tc 0, 10, .inl (Af 2))), ((Aa 3), .inl (tc 0, 6, .inl (Af 3))), ((Aa 4), .inl (tc 0, 6, .inl (Af 4))), ((Aa 5), .inl (tc 0, 6, .inl (Af 5))), ((Aa 6), .inl (tc 0, 6, .inl (Af 6))), ((Aa 7), .inl (tc 0, 6, .inl (Af 7))), ((Aa 8), .inl (tc 0, 6, .inl (Af 8)))] H := hP
                        have hD : va_D A [((Ga 0), .inr (11, [.ref (Ta 0), .ref (Ga 2), .ref (Ga 3), .ref (Ga 4), .int (Gv 0), .ref (Sa 0), .ref (Aa 0), .ref (Pa 0), .ref (Ga 8), .ref (Ga 9), .ref (Ga 10), .ref (Ga 11)])), ((Ta 0), .inr (10, [.ref (Ta 1), .int (Tv 0), .int (Tv 1), .int (Tv 2), .int (Tv 3), .int (Tv 4)])), ((Ta 1), .inl (tc 0, 400, .inl (Tf 1))), ((Sa 0), .inr (8, [.ref (Aa 0), .ref (Sa 2), .ref (Na 0), .int (Sv 0), .int (Sv 1)])), ((Na 0), .inr (3, [.ref (Na 1), .ref (Na 2), .ref (Na 3), .int (Nv 0)])), ((Na 1), .inl (tc 0, 10, .inl (Nf 1))), ((Na 2), .inl (tc 0, 10, .inl (Nf 2))), ((Na 3), .inl (tc 0, 10, .inl (Nf 3))), ((Pa 0), .inr (5, [.ref (Pa 1), .int (Pv 0), .int (Pv 1)])), ((Pa 1), .inl (tc 5, 20, .inr (.inr (.inr (.inr (Pq 1)))))), ((Aa 0), .inr (9, [.int (Av 0), .int (Av 1), .int (Av 2), .int (Av 3), .int (Av 4), .int (Av 5), .ref (Aa 1), .ref (Aa 2), .ref (Aa 3), .ref (Aa 4), .ref (Aa 5), .ref (Aa 6), .ref (Aa 7), .ref (Aa 8)])), ((Aa 1), .inl (tc 0, 10, .inl (Af 1))), ((Aa 2), .inl (tc 0, 10, .inl (Af 2))), ((Aa 3), .inl (tc 0, 6, .inl (Af 3))), ((Aa 4), .inl (tc 0, 6, .inl (Af 4))), ((Aa 5), .inl (tc 0, 6, .inl (Af 5))), ((Aa 6), .inl (tc 0, 6, .inl (Af 6))), ((Aa 7), .inl (tc 0, 6, .inl (Af 7))), ((Aa 8), .inl (tc 0, 6, .inl (Af 8)))] := hD
                        exact retI (v := r_26) hx hb hr hlk (rfl) hP hD hS () ⟨_, rfl, trivial⟩ [0, 1, 2, 3, 10, 11, 12, 13, 14, 15, 16, 17, 18, 4, 5, 6, 7, 8, 9] rfl rfl dX11_count_178 (Nat.le_of_ble_eq_true rfl) (Nat.le_of_ble_eq_true rfl) rfl
                      · skip
                        by_cases c_28 : x_1 = 11
                        · skip
                          subst c_28
                          refine lv_tableIn (off := 178) (tgt := 179) hx hb dX11_count_1 (by decide) (by decide) (by decide) (by decide) ?_
                          refine lv_aload_n hx hb dX11_count_179 rfl (lv_at hl 0 rfl) ?_
                          refine gf_X11_51 hx hb hts hown hK hP 0 rfl rfl dX11_count_180 ?_
                          refine cV (a := (Aa 0)) (As := []) (rest := []) (wr := [((Ga 0), .inr (11, [.ref (Ta 0), .ref (Ga 2), .ref (Ga 3), .ref (Ga 4), .int (Gv 0), .ref (Sa 0), .ref (Aa 0), .ref (Pa 0), .ref (Ga 8), .ref (Ga 9), .ref (Ga 10), .ref (Ga 11)])), ((Ta 0), .inr (10, [.ref (Ta 1), .int (Tv 0), .int (Tv 1), .int (Tv 2), .int (Tv 3), .int (Tv 4)])), ((Ta 1), .inl (tc 0, 400, .inl (Tf 1))), ((Sa 0), .inr (8, [.ref (Aa 0), .ref (Sa 2), .ref (Na 0), .int (Sv 0), .int (Sv 1)])), ((Na 0), .inr (3, [.ref (Na 1), .ref (Na 2), .ref (Na 3), .int (Nv 0)])), ((Na 1), .inl (tc 0, 10, .inl (Nf 1))), ((Na 2), .inl (tc 0, 10, .inl (Nf 2))), ((Na 3), .inl (tc 0, 10, .inl (Nf 3))), ((Pa 0), .inr (5, [.ref (Pa 1), .int (Pv 0), .int (Pv 1)])), ((Pa 1), .inl (tc 5, 20, .inr (.inr (.inr (.inr (Pq 1))))))]) ⟨hx, hb, hml, hown, hts⟩ hK hX hA (ct_X9_whoCanBuy l D tc sk Aa Av Af) k_1050 k_1047 k_1048 k_1049 k_98 pl_X9_whoCanBuy ⟨Nat.le_of_ble_eq_true rfl, Nat.le_of_ble_eq_true rfl⟩ rfl rfl (va_recv hK hP (ci := 9) (q0 := 4) rfl rfl) hP hD hS [4, 5, 6, 7, 8, 9, 10, 11, 12] [0, 1, 2, 3, 13, 14, 15, 16, 17, 18] rfl rfl rfl rfl rfl (by decide) rfl hl.1 rfl (Nat.le_of_ble_eq_true rfl) dX11_count_183 ⟨Nat.le_of_ble_eq_true rfl, Nat.le_of_ble_eq_true rfl⟩ (fun v_29 u_30 H locs hv_31 hP hD hS => ?_)
                          obtain ⟨r_32, rfl, he_33⟩ := hv_31
                          have he_33 : (True) := he_33
                          refine W.eq (g2 := F0 m 186 ls [.int r_32]) rfl ?_
                          have hP : va_P D classes [((Ga 0), .inr (11, [.ref (Ta 0), .ref (Ga 2), .ref (Ga 3), .ref (Ga 4), .int (Gv 0), .ref (Sa 0), .ref (Aa 0), .ref (Pa 0), .ref (Ga 8), .ref (Ga 9), .ref (Ga 10), .ref (Ga 11)])), ((Ta 0), .inr (10, [.ref (Ta 1), .int (Tv 0), .int (Tv 1), .int (Tv 2), .int (Tv 3), .int (Tv 4)])), ((Ta 1), .inl (tc 0, 400, .inl (Tf 1))), ((Sa 0), .inr (8, [.ref (Aa 0), .ref (Sa 2), .ref (Na 0), .int (Sv 0), .int (Sv 1)])), ((Na 0), .inr (3, [.ref (Na 1), .ref (Na 2), .ref (Na 3), .int (Nv 0)])), ((Na 1), .inl (tc 0, 10, .inl (Nf 1))), ((Na 2), .inl (tc 0, 10, .inl (Nf 2))), ((Na 3), .inl (tc 0, 10, .inl (Nf 3))), ((Pa 0), .inr (5, [.ref (Pa 1), .int (Pv 0), .int (Pv 1)])), ((Pa 1), .inl (tc 5, 20, .inr (.inr (.inr (.inr (Pq 1)))))), ((Aa 0), .inr (9, [.int (Av 0), .int (Av 1), .int (Av 2), .int (Av 3), .int (Av 4), .int (Av 5), .ref (Aa 1), .ref (Aa 2), .ref (Aa 3), .ref (Aa 4), .ref (Aa 5), .ref (Aa 6), .ref (Aa 7), .ref (Aa 8)])), ((Aa 1), .inl (tc 0, 10, .inl (Af 1))), ((Aa 2), .inl (tc 0, 10, .inl (Af 2))), ((Aa 3), .inl (tc 0, 6, .inl (Af 3))), ((Aa 4), .inl (tc 0, 6, .inl (Af 4))), ((Aa 5), .inl (tc 0, 6, .inl (Af 5))), ((Aa 6), .inl (tc 0, 6, .inl (Af 6))), ((Aa 7), .inl (tc 0, 6, .inl (Af 7))), ((Aa 8), .inl (tc 0, 6, .inl (Af 8)))] H := hP
                          have hD : va_D A [((Ga 0), .inr (11, [.ref (Ta 0), .ref (Ga 2), .ref (Ga 3), .ref (Ga 4), .int (Gv 0), .ref (Sa 0), .ref (Aa 0), .ref (Pa 0), .ref (Ga 8), .ref (Ga 9), .ref (Ga 10), .ref (Ga 11)])), ((Ta 0), .inr (10, [.ref (Ta 1), .int (Tv 0), .int (Tv 1), .int (Tv 2), .int (Tv 3), .int (Tv 4)])), ((Ta 1), .inl (tc 0, 400, .inl (Tf 1))), ((Sa 0), .inr (8, [.ref (Aa 0), .ref (Sa 2), .ref (Na 0), .int (Sv 0), .int (Sv 1)])), ((Na 0), .inr (3, [.ref (Na 1), .ref (Na 2), .ref (Na 3), .int (Nv 0)])), ((Na 1), .inl (tc 0, 10, .inl (Nf 1))), ((Na 2), .inl (tc 0, 10, .inl (Nf 2))), ((Na 3), .inl (tc 0, 10, .inl (Nf 3))), ((Pa 0), .inr (5, [.ref (Pa 1), .int (Pv 0), .int (Pv 1)])), ((Pa 1), .inl (tc 5, 20, .inr (.inr (.inr (.inr (Pq 1)))))), ((Aa 0), .inr (9, [.int (Av 0), .int (Av 1), .int (Av 2), .int (Av 3), .int (Av 4), .int (Av 5), .ref (Aa 1), .ref (Aa 2), .ref (Aa 3), .ref (Aa 4), .ref (Aa 5), .ref (Aa 6), .ref (Aa 7), .ref (Aa 8)])), ((Aa 1), .inl (tc 0, 10, .inl (Af 1))), ((Aa 2), .inl (tc 0, 10, .inl (Af 2))), ((Aa 3), .inl (tc 0, 6, .inl (Af 3))), ((Aa 4), .inl (tc 0, 6, .inl (Af 4))), ((Aa 5), .inl (tc 0, 6, .inl (Af 5))), ((Aa 6), .inl (tc 0, 6, .inl (Af 6))), ((Aa 7), .inl (tc 0, 6, .inl (Af 7))), ((Aa 8), .inl (tc 0, 6, .inl (Af 8)))] := hD
                          exact retI (v := r_32) hx hb hr hlk (rfl) hP hD hS () ⟨_, rfl, trivial⟩ [0, 1, 2, 3, 10, 11, 12, 13, 14, 15, 16, 17, 18, 4, 5, 6, 7, 8, 9] rfl rfl dX11_count_186 (Nat.le_of_ble_eq_true rfl) (Nat.le_of_ble_eq_true rfl) rfl
                        · skip
                          by_cases c_34 : x_1 = 12
                          · skip
                            subst c_34
                            refine lv_tableIn (off := 186) (tgt := 187) hx hb dX11_count_1 (by decide) (by decide) (by decide) (by decide) ?_
                            refine lv_aload_n hx hb dX11_count_187 rfl (lv_at hl 0 rfl) ?_
                            refine gf_X11_43 hx hb hts hown hK hP 0 rfl rfl dX11_count_188 ?_
                            refine gf_X11_111 hx hb hts hown hK hP 3 rfl rfl dX11_count_191 ?_
                            refine gf_X11_115 hx hb hts hown hK hP 13 rfl rfl dX11_count_194 ?_
                            exact retI (v := (Nv 0)) hx hb hr hlk (rfl) hP hD hS () ⟨_, rfl, trivial⟩ [0, 1, 2, 3, 4, 5, 6, 7, 8, 9, 10, 11, 12, 13, 14, 15, 16, 17, 18] rfl rfl dX11_count_197 (Nat.le_of_ble_eq_true rfl) (Nat.le_of_ble_eq_true rfl) rfl
                          · skip
                            by_cases c_35 : x_1 = 13
                            · skip
                              subst c_35
                              refine lv_tableIn (off := 197) (tgt := 198) hx hb dX11_count_1 (by decide) (by decide) (by decide) (by decide) ?_
                              refine lv_aload_n hx hb dX11_count_198 rfl (lv_at hl 0 rfl) ?_
                              refine gf_X11_57 hx hb hts hown hK hP 0 rfl rfl dX11_count_199 ?_
                              refine gf_X11_120 hx hb hts hown hK hP 17 rfl rfl dX11_count_202 ?_
                              exact retI (v := (Pv 1)) hx hb hr hlk (rfl) hP hD hS () ⟨_, rfl, trivial⟩ [0, 1, 2, 3, 4, 5, 6, 7, 8, 9, 10, 11, 12, 13, 14, 15, 16, 17, 18] rfl rfl dX11_count_205 (Nat.le_of_ble_eq_true rfl) (Nat.le_of_ble_eq_true rfl) rfl
                            · skip
                              by_cases c_36 : x_1 = 14
                              · skip
                                subst c_36
                                refine lv_tableIn (off := 205) (tgt := 206) hx hb dX11_count_1 (by decide) (by decide) (by decide) (by decide) ?_
                                refine lv_aload_n hx hb dX11_count_206 rfl (lv_at hl 0 rfl) ?_
                                refine gf_X11_43 hx hb hts hown hK hP 0 rfl rfl dX11_count_207 ?_
                                refine gf_X11_272 hx hb hts hown hK hP 3 rfl rfl dX11_count_210 ?_
                                exact retI (v := (Sv 1)) hx hb hr hlk (rfl) hP hD hS () ⟨_, rfl, trivial⟩ [0, 1, 2, 3, 4, 5, 6, 7, 8, 9, 10, 11, 12, 13, 14, 15, 16, 17, 18] rfl rfl dX11_count_213 (Nat.le_of_ble_eq_true rfl) (Nat.le_of_ble_eq_true rfl) rfl
                              · skip
                                by_cases c_37 : x_1 = 15
                                · skip
                                  subst c_37
                                  refine lv_tableIn (off := 213) (tgt := 214) hx hb dX11_count_1 (by decide) (by decide) (by decide) (by decide) ?_
                                  refine lv_aload_n hx hb dX11_count_214 rfl (lv_at hl 0 rfl) ?_
                                  refine gf_X11_10 hx hb hts hown hK hP 0 rfl rfl dX11_count_215 ?_
                                  refine gf_X11_94 hx hb hts hown hK hP 1 rfl rfl dX11_count_218 ?_
                                  exact retI (v := (Tv 0)) hx hb hr hlk (rfl) hP hD hS () ⟨_, rfl, trivial⟩ [0, 1, 2, 3, 4, 5, 6, 7, 8, 9, 10, 11, 12, 13, 14, 15, 16, 17, 18] rfl rfl dX11_count_221 (Nat.le_of_ble_eq_true rfl) (Nat.le_of_ble_eq_true rfl) rfl
                                · skip
                                  have ho_38 : (x_1 : Int32).toInt < 0 ∨ 15 < (x_1 : Int32).toInt := by
                                    have z_1 : ¬ (x_1 : Int32).toInt = (0 : Int32).toInt := fun z => c_2 (Int32.toInt_inj.mp z)
                                    have z_2 : ¬ (x_1 : Int32).toInt = (1 : Int32).toInt := fun z => c_3 (Int32.toInt_inj.mp z)
                                    have z_3 : ¬ (x_1 : Int32).toInt = (2 : Int32).toInt := fun z => c_4 (Int32.toInt_inj.mp z)
                                    have z_4 : ¬ (x_1 : Int32).toInt = (3 : Int32).toInt := fun z => c_5 (Int32.toInt_inj.mp z)
                                    have z_5 : ¬ (x_1 : Int32).toInt = (4 : Int32).toInt := fun z => c_6 (Int32.toInt_inj.mp z)
                                    have z_6 : ¬ (x_1 : Int32).toInt = (5 : Int32).toInt := fun z => c_7 (Int32.toInt_inj.mp z)
                                    have z_7 : ¬ (x_1 : Int32).toInt = (6 : Int32).toInt := fun z => c_8 (Int32.toInt_inj.mp z)
                                    have z_8 : ¬ (x_1 : Int32).toInt = (7 : Int32).toInt := fun z => c_14 (Int32.toInt_inj.mp z)
                                    have z_9 : ¬ (x_1 : Int32).toInt = (8 : Int32).toInt := fun z => c_15 (Int32.toInt_inj.mp z)
                                    have z_10 : ¬ (x_1 : Int32).toInt = (9 : Int32).toInt := fun z => c_21 (Int32.toInt_inj.mp z)
                                    have z_11 : ¬ (x_1 : Int32).toInt = (10 : Int32).toInt := fun z => c_22 (Int32.toInt_inj.mp z)
                                    have z_12 : ¬ (x_1 : Int32).toInt = (11 : Int32).toInt := fun z => c_28 (Int32.toInt_inj.mp z)
                                    have z_13 : ¬ (x_1 : Int32).toInt = (12 : Int32).toInt := fun z => c_34 (Int32.toInt_inj.mp z)
                                    have z_14 : ¬ (x_1 : Int32).toInt = (13 : Int32).toInt := fun z => c_35 (Int32.toInt_inj.mp z)
                                    have z_15 : ¬ (x_1 : Int32).toInt = (14 : Int32).toInt := fun z => c_36 (Int32.toInt_inj.mp z)
                                    have z_16 : ¬ (x_1 : Int32).toInt = (15 : Int32).toInt := fun z => c_37 (Int32.toInt_inj.mp z)
                                    have y_0 : (0 : Int32).toInt = 0 := by decide
                                    have y_1 : (1 : Int32).toInt = 1 := by decide
                                    have y_2 : (2 : Int32).toInt = 2 := by decide
                                    have y_3 : (3 : Int32).toInt = 3 := by decide
                                    have y_4 : (4 : Int32).toInt = 4 := by decide
                                    have y_5 : (5 : Int32).toInt = 5 := by decide
                                    have y_6 : (6 : Int32).toInt = 6 := by decide
                                    have y_7 : (7 : Int32).toInt = 7 := by decide
                                    have y_8 : (8 : Int32).toInt = 8 := by decide
                                    have y_9 : (9 : Int32).toInt = 9 := by decide
                                    have y_10 : (10 : Int32).toInt = 10 := by decide
                                    have y_11 : (11 : Int32).toInt = 11 := by decide
                                    have y_12 : (12 : Int32).toInt = 12 := by decide
                                    have y_13 : (13 : Int32).toInt = 13 := by decide
                                    have y_14 : (14 : Int32).toInt = 14 := by decide
                                    have y_15 : (15 : Int32).toInt = 15 := by decide
                                    omega
                                  refine lv_tableOut (tgt := 222) hx hb dX11_count_1 ho_38 (by decide) ?_
                                  refine lv_iconst (v := (-1)) hx hb dX11_count_222 (by decide) ?_
                                  exact retI (v := (-1)) hx hb hr hlk (rfl) hP hD hS () ⟨_, rfl, trivial⟩ [0, 1, 2, 3, 4, 5, 6, 7, 8, 9, 10, 11, 12, 13, 14, 15, 16, 17, 18] rfl rfl dX11_count_223 (Nat.le_of_ble_eq_true rfl) (Nat.le_of_ble_eq_true rfl) rfl
set_option maxHeartbeats 4000000 in
set_option maxRecDepth 100000 in
theorem ct_X11_sell_n (l : Launch) (D : va_G) (tc : Nat → ClassId) (sk : (Nat → Nat) × (Nat → Nat)) (Ga : Nat → Nat) (Gv : Nat → Int32) (Aa : Nat → Nat) (Av : Nat → Int32) (Af : Nat → Nat → Int32) (Pa : Nat → Nat) (Pv : Nat → Int32) (Pq : Nat → Nat → Option Nat) (x1 : Int32) (h_nx : 0 ≤ ((Pv 0) : Int32).toInt ∧ ((Pv 0) : Int32).toInt < 20) (h_q : (Pq 1) (Pv 0).toNatClampNeg = none) (h_bA : 0 ≤ ((Av 3) : Int32).toInt ∧ ((Av 3) : Int32).toInt ≤ 6) : Ct l yX11_sell cX11_sell 2 (some .int) { frames := 3, cells := 9, slots := 70, locals := 83 } D tc sk [.ref (Ga 0), .int x1] [((Ga 0), .inr (11, [.ref (Ga 1), .ref (Ga 2), .ref (Ga 3), .ref (Ga 4), .int (Gv 0), .ref (Ga 5), .ref (Aa 0), .ref (Pa 0), .ref (Ga 8), .ref (Ga 9), .ref (Ga 10), .ref (Ga 11)])), ((Aa 0), .inr (9, [.int (Av 0), .int (Av 1), .int (Av 2), .int (Av 3), .int (Av 4), .int (Av 5), .ref (Aa 1), .ref (Aa 2), .ref (Aa 3), .ref (Aa 4), .ref (Aa 5), .ref (Aa 6), .ref (Aa 7), .ref (Aa 8)])), ((Aa 1), .inl (tc 0, 10, .inl (Af 1))), ((Aa 2), .inl (tc 0, 10, .inl (Af 2))), ((Aa 3), .inl (tc 0, 6, .inl (Af 3))), ((Aa 4), .inl (tc 0, 6, .inl (Af 4))), ((Aa 5), .inl (tc 0, 6, .inl (Af 5))), ((Aa 6), .inl (tc 0, 6, .inl (Af 6))), ((Aa 7), .inl (tc 0, 6, .inl (Af 7))), ((Aa 8), .inl (tc 0, 6, .inl (Af 8))), ((Pa 0), .inr (5, [.ref (Pa 1), .int (Pv 0), .int (Pv 1)])), ((Pa 1), .inl (tc 5, 20, .inr (.inr (.inr (.inr (Pq 1))))))] (fun (v : Option Value) (u : (Bool) × (Nat) × (Nat) × (Nat) × (Nat) × (Nat) × (Nat) × (Nat) × (Nat) × (Nat) × (Int32) × (Int32) × (Nat → Int32) × (Nat → Int32) × (Nat → Int32) × (Int32) × (Int32) × (Nat → Int32) × (Nat → Int32) × (Nat → Int32) × (Nat → Int32) × (Nat → Int32) × (Nat → Int32) × (Nat → Int32) × (Nat → Int32) × (Int32) × (Int32) × (Nat → Int32) × (Nat → Int32) × (Nat → Int32)) => match u with | (true, na0x0, na0x1, na0x2, na0x3, na0x4, na0x5, na0x6, na0x7, na0x8, oo0x1, oo0x2, oo0x3, oo0x4, oo0x5, oo0x6, oo0x7, oo0x8, oo0x9, oo0x10, oo0x11, oo0x12, oo0x13, oo0x14, oo0x15, oo1x1, oo1x2, oo1x3, oo1x4, oo1x5) => ∃ r : Int32, v = some (.int r) ∧ (True) ∧ (0 ≤ (oo0x6 : Int32).toInt ∧ (oo0x6 : Int32).toInt < 20) ∧ (0 ≤ ((Av 3) : Int32).toInt ∧ ((Av 3) : Int32).toInt ≤ 6) ∧ (0 ≤ ((Av 3) : Int32).toInt ∧ ((Av 3) : Int32).toInt ≤ 6) | (false, na0x0, na0x1, na0x2, na0x3, na0x4, na0x5, na0x6, na0x7, na0x8, oo0x1, oo0x2, oo0x3, oo0x4, oo0x5, oo0x6, oo0x7, oo0x8, oo0x9, oo0x10, oo0x11, oo0x12, oo0x13, oo0x14, oo0x15, oo1x1, oo1x2, oo1x3, oo1x4, oo1x5) => ∃ r : Int32, v = some (.int r) ∧ (True) ∧ (0 ≤ ((Pv 0) : Int32).toInt ∧ ((Pv 0) : Int32).toInt < 20) ∧ (0 ≤ ((Av 3) : Int32).toInt ∧ ((Av 3) : Int32).toInt ≤ 6)) (fun (u : (Bool) × (Nat) × (Nat) × (Nat) × (Nat) × (Nat) × (Nat) × (Nat) × (Nat) × (Nat) × (Int32) × (Int32) × (Nat → Int32) × (Nat → Int32) × (Nat → Int32) × (Int32) × (Int32) × (Nat → Int32) × (Nat → Int32) × (Nat → Int32) × (Nat → Int32) × (Nat → Int32) × (Nat → Int32) × (Nat → Int32) × (Nat → Int32) × (Int32) × (Int32) × (Nat → Int32) × (Nat → Int32) × (Nat → Int32)) => match u with | (true, na0x0, na0x1, na0x2, na0x3, na0x4, na0x5, na0x6, na0x7, na0x8, oo0x1, oo0x2, oo0x3, oo0x4, oo0x5, oo0x6, oo0x7, oo0x8, oo0x9, oo0x10, oo0x11, oo0x12, oo0x13, oo0x14, oo0x15, oo1x1, oo1x2, oo1x3, oo1x4, oo1x5) => [((Ga 0), .inr (11, [.ref (Ga 1), .ref (Ga 2), .ref (Ga 3), .ref (Ga 4), .int (Gv 0), .ref (Ga 5), .ref (Aa 0), .ref (Pa 0), .ref (Ga 8), .ref (Ga 9), .ref (Ga 10), .ref (Ga 11)])), ((Aa 0), .inr (9, [.int oo0x1, .int (Av 1), .int (Av 2), .int (Av 3), .int (Av 4), .int oo0x2, .ref (Aa 1), .ref (Aa 2), .ref (Aa 3), .ref (Aa 4), .ref (Aa 5), .ref (Aa 6), .ref (Aa 7), .ref (Aa 8)])), ((Aa 1), .inl (tc 0, 10, .inl (Af 1))), ((Aa 2), .inl (tc 0, 10, .inl (Af 2))), ((Aa 3), .inl (tc 0, 6, .inl oo0x3)), ((Aa 4), .inl (tc 0, 6, .inl (Af 4))), ((Aa 5), .inl (tc 0, 6, .inl (Af 5))), ((Aa 6), .inl (tc 0, 6, .inl oo0x4)), ((Aa 7), .inl (tc 0, 6, .inl (Af 7))), ((Aa 8), .inl (tc 0, 6, .inl oo0x5)), ((Pa 0), .inr (5, [.ref (Pa 1), .int oo0x6, .int oo0x7])), ((Pa 1), .inl (tc 5, 20, .inr (.inr (.inr (.inr (va_up (Pq 1) ((Pv 0) : Int32).toNatClampNeg (some na0x0))))))), (na0x0, .inr (9, [.int (Av 0), .int (Av 1), .int (Av 2), .int (Av 3), .int (Av 4), .int (Av 5), .ref na0x1, .ref na0x2, .ref na0x3, .ref na0x4, .ref na0x5, .ref na0x6, .ref na0x7, .ref na0x8])), (na0x1, .inl (tc 0, 10, .inl oo0x8)), (na0x2, .inl (tc 0, 10, .inl oo0x9)), (na0x3, .inl (tc 0, 6, .inl oo0x10)), (na0x4, .inl (tc 0, 6, .inl oo0x11)), (na0x5, .inl (tc 0, 6, .inl oo0x12)), (na0x6, .inl (tc 0, 6, .inl oo0x13)), (na0x7, .inl (tc 0, 6, .inl oo0x14)), (na0x8, .inl (tc 0, 6, .inl oo0x15))] | (false, na0x0, na0x1, na0x2, na0x3, na0x4, na0x5, na0x6, na0x7, na0x8, oo0x1, oo0x2, oo0x3, oo0x4, oo0x5, oo0x6, oo0x7, oo0x8, oo0x9, oo0x10, oo0x11, oo0x12, oo0x13, oo0x14, oo0x15, oo1x1, oo1x2, oo1x3, oo1x4, oo1x5) => [((Ga 0), .inr (11, [.ref (Ga 1), .ref (Ga 2), .ref (Ga 3), .ref (Ga 4), .int (Gv 0), .ref (Ga 5), .ref (Aa 0), .ref (Pa 0), .ref (Ga 8), .ref (Ga 9), .ref (Ga 10), .ref (Ga 11)])), ((Aa 0), .inr (9, [.int oo1x1, .int (Av 1), .int (Av 2), .int (Av 3), .int (Av 4), .int oo1x2, .ref (Aa 1), .ref (Aa 2), .ref (Aa 3), .ref (Aa 4), .ref (Aa 5), .ref (Aa 6), .ref (Aa 7), .ref (Aa 8)])), ((Aa 1), .inl (tc 0, 10, .inl (Af 1))), ((Aa 2), .inl (tc 0, 10, .inl (Af 2))), ((Aa 3), .inl (tc 0, 6, .inl oo1x3)), ((Aa 4), .inl (tc 0, 6, .inl (Af 4))), ((Aa 5), .inl (tc 0, 6, .inl (Af 5))), ((Aa 6), .inl (tc 0, 6, .inl oo1x4)), ((Aa 7), .inl (tc 0, 6, .inl (Af 7))), ((Aa 8), .inl (tc 0, 6, .inl oo1x5)), ((Pa 0), .inr (5, [.ref (Pa 1), .int (Pv 0), .int (Pv 1)])), ((Pa 1), .inl (tc 5, 20, .inr (.inr (.inr (.inr (Pq 1))))))]) 9 70 := by
  refine Ct.start (by decide) (Nat.le_of_ble_eq_true rfl) (fun p e s m below meth c A ls hx hb hr hlk hin hml hown hts hK hX hP hD hA hl hS => ?_)
  have hl : lv_has ls 2 [(0, .ref (Ga 0)), (1, .int x1)] := hl
  refine lv_aload_n hx hb dX11_sell_0 rfl (lv_at hl 0 rfl) ?_
  refine gf_X11_51 hx hb hts hown hK hP 0 rfl rfl dX11_sell_1 ?_
  refine lv_iload_n hx hb dX11_sell_4 rfl (lv_at hl 1 rfl) ?_
  refine cV (a := (Aa 0)) (As := [.int x1]) (rest := []) (wr := [((Ga 0), .inr (11, [.ref (Ga 1), .ref (Ga 2), .ref (Ga 3), .ref (Ga 4), .int (Gv 0), .ref (Ga 5), .ref (Aa 0), .ref (Pa 0), .ref (Ga 8), .ref (Ga 9), .ref (Ga 10), .ref (Ga 11)])), ((Pa 0), .inr (5, [.ref (Pa 1), .int (Pv 0), .int (Pv 1)])), ((Pa 1), .inl (tc 5, 20, .inr (.inr (.inr (.inr (Pq 1))))))]) ⟨hx, hb, hml, hown, hts⟩ hK hX hA (ct_X9_hasBuyer l D tc sk Aa Av Af x1) k_591 k_702 k_589 k_590 k_98 pl_X9_hasBuyer ⟨Nat.le_of_ble_eq_true rfl, Nat.le_of_ble_eq_true rfl⟩ rfl rfl (va_recv hK hP (ci := 9) (q0 := 1) rfl rfl) hP hD hS [1, 2, 3, 4, 5, 6, 7, 8, 9] [0, 10, 11] rfl rfl rfl rfl rfl (by decide) rfl hl.1 rfl (Nat.le_of_ble_eq_true rfl) dX11_sell_5 ⟨Nat.le_of_ble_eq_true rfl, Nat.le_of_ble_eq_true rfl⟩ (fun v_1 u_2 H locs hv_3 hP hD hS => ?_)
  obtain ⟨r_4, rfl, he_5⟩ := hv_3
  have he_5 : ((r_4.toInt = 0 ∨ (r_4.toInt = 1 ∧ 0 ≤ x1.toInt ∧ x1.toInt < 6 ∧ x1.toInt < (Av 3).toInt))) := he_5
  refine W.eq (g2 := F0 m 8 ls [.int r_4]) rfl ?_
  have hP : va_P D classes [((Ga 0), .inr (11, [.ref (Ga 1), .ref (Ga 2), .ref (Ga 3), .ref (Ga 4), .int (Gv 0), .ref (Ga 5), .ref (Aa 0), .ref (Pa 0), .ref (Ga 8), .ref (Ga 9), .ref (Ga 10), .ref (Ga 11)])), ((Pa 0), .inr (5, [.ref (Pa 1), .int (Pv 0), .int (Pv 1)])), ((Pa 1), .inl (tc 5, 20, .inr (.inr (.inr (.inr (Pq 1)))))), ((Aa 0), .inr (9, [.int (Av 0), .int (Av 1), .int (Av 2), .int (Av 3), .int (Av 4), .int (Av 5), .ref (Aa 1), .ref (Aa 2), .ref (Aa 3), .ref (Aa 4), .ref (Aa 5), .ref (Aa 6), .ref (Aa 7), .ref (Aa 8)])), ((Aa 1), .inl (tc 0, 10, .inl (Af 1))), ((Aa 2), .inl (tc 0, 10, .inl (Af 2))), ((Aa 3), .inl (tc 0, 6, .inl (Af 3))), ((Aa 4), .inl (tc 0, 6, .inl (Af 4))), ((Aa 5), .inl (tc 0, 6, .inl (Af 5))), ((Aa 6), .inl (tc 0, 6, .inl (Af 6))), ((Aa 7), .inl (tc 0, 6, .inl (Af 7))), ((Aa 8), .inl (tc 0, 6, .inl (Af 8)))] H := hP
  have hD : va_D A [((Ga 0), .inr (11, [.ref (Ga 1), .ref (Ga 2), .ref (Ga 3), .ref (Ga 4), .int (Gv 0), .ref (Ga 5), .ref (Aa 0), .ref (Pa 0), .ref (Ga 8), .ref (Ga 9), .ref (Ga 10), .ref (Ga 11)])), ((Pa 0), .inr (5, [.ref (Pa 1), .int (Pv 0), .int (Pv 1)])), ((Pa 1), .inl (tc 5, 20, .inr (.inr (.inr (.inr (Pq 1)))))), ((Aa 0), .inr (9, [.int (Av 0), .int (Av 1), .int (Av 2), .int (Av 3), .int (Av 4), .int (Av 5), .ref (Aa 1), .ref (Aa 2), .ref (Aa 3), .ref (Aa 4), .ref (Aa 5), .ref (Aa 6), .ref (Aa 7), .ref (Aa 8)])), ((Aa 1), .inl (tc 0, 10, .inl (Af 1))), ((Aa 2), .inl (tc 0, 10, .inl (Af 2))), ((Aa 3), .inl (tc 0, 6, .inl (Af 3))), ((Aa 4), .inl (tc 0, 6, .inl (Af 4))), ((Aa 5), .inl (tc 0, 6, .inl (Af 5))), ((Aa 6), .inl (tc 0, 6, .inl (Af 6))), ((Aa 7), .inl (tc 0, 6, .inl (Af 7))), ((Aa 8), .inl (tc 0, 6, .inl (Af 8)))] := hD
  refine lv_if_eq (tgt := 30) hx hb dX11_sell_8 (by decide) (fun c_6 => ?_) (fun c_6 => ?_)
  · skip
    refine lv_iconst (v := (-1)) hx hb dX11_sell_30 (by decide) ?_
    have ha_7 : 0 ≤ ((Pv 0) : Int32).toInt ∧ ((Pv 0) : Int32).toInt < 20 := by
      have z_1 := congrArg Int32.toInt c_6
      have y_0 : (0 : Int32).toInt = 0 := by decide
      omega
    have ha_8 : 0 ≤ ((Av 3) : Int32).toInt ∧ ((Av 3) : Int32).toInt ≤ 6 := by
      have z_1 := congrArg Int32.toInt c_6
      have y_0 : (0 : Int32).toInt = 0 := by decide
      omega
    exact retI (v := (-1)) hx hb hr hlk (rfl) hP hD hS (false, 0, 0, 0, 0, 0, 0, 0, 0, 0, 0, 0, (fun _ => 0), (fun _ => 0), (fun _ => 0), 0, 0, (fun _ => 0), (fun _ => 0), (fun _ => 0), (fun _ => 0), (fun _ => 0), (fun _ => 0), (fun _ => 0), (fun _ => 0), (Av 0), (Av 5), (Af 3), (Af 6), (Af 8)) ⟨_, rfl, trivial, ha_7, ha_8⟩ [0, 3, 4, 5, 6, 7, 8, 9, 10, 11, 1, 2] rfl rfl dX11_sell_31 (Nat.le_of_ble_eq_true rfl) (Nat.le_of_ble_eq_true rfl) rfl
  · skip
    refine lv_aload_n hx hb dX11_sell_11 rfl (lv_at hl 0 rfl) ?_
    refine gf_X11_51 hx hb hts hown hK hP 0 rfl rfl dX11_sell_12 ?_
    refine gf_X11_193 hx hb hts hown hK hP 3 rfl rfl dX11_sell_15 ?_
    refine lv_aload_n hx hb dX11_sell_18 rfl (lv_at hl 0 rfl) ?_
    refine gf_X11_51 hx hb hts hown hK hP 0 rfl rfl dX11_sell_19 ?_
    refine gf_X11_141 hx hb hts hown hK hP 3 rfl rfl dX11_sell_22 ?_
    refine lv_iload_n hx hb dX11_sell_25 rfl (lv_at hl 1 rfl) ?_
    have hi_9 : vp_in x1 6 := by
      have z_1 : ¬ (r_4 : Int32).toInt = (0 : Int32).toInt := fun z => c_6 (Int32.toInt_inj.mp z)
      have y_0 : (0 : Int32).toInt = 0 := by decide
      refine vp_in_iff.mpr ⟨?_, ?_⟩ <;> omega
    refine va_iald hx hb hK hP 7 0 rfl rfl hi_9 dX11_sell_26 ?_
    refine lv_topi (fun x_10 ex_10 => ?_)
    refine lv_icmp_ge (tgt := 32) hx hb dX11_sell_27 (by decide) (fun c_11 => ?_) (fun c_11 => ?_)
    · skip
      refine lv_aload_n hx hb dX11_sell_32 rfl (lv_at hl 0 rfl) ?_
      refine gf_X11_57 hx hb hts hown hK hP 0 rfl rfl dX11_sell_33 ?_
      refine lv_aload_n hx hb dX11_sell_36 rfl (lv_at hl 0 rfl) ?_
      refine gf_X11_51 hx hb hts hown hK hP 0 rfl rfl dX11_sell_37 ?_
      have ha_12 : 0 ≤ ((Pv 0) : Int32).toInt ∧ ((Pv 0) : Int32).toInt < 20 := by
        have z_1 : ¬ (r_4 : Int32).toInt = (0 : Int32).toInt := fun z => c_6 (Int32.toInt_inj.mp z)
        have z_2 := Int32.le_iff_toInt_le.mp c_11
        have y_0 : (0 : Int32).toInt = 0 := by decide
        omega
      refine cV (a := (Pa 0)) (As := [.ref (Aa 0)]) (rest := []) (wr := [((Ga 0), .inr (11, [.ref (Ga 1), .ref (Ga 2), .ref (Ga 3), .ref (Ga 4), .int (Gv 0), .ref (Ga 5), .ref (Aa 0), .ref (Pa 0), .ref (Ga 8), .ref (Ga 9), .ref (Ga 10), .ref (Ga 11)]))]) ⟨hx, hb, hml, hown, hts⟩ hK hX hA (ct_X5_keep_n l D tc sk Pa Pv Pq Aa Av Af ha_12 h_q) k_728 k_725 k_726 k_727 k_102 pl_X5_keep ⟨Nat.le_of_ble_eq_true rfl, Nat.le_of_ble_eq_true rfl⟩ rfl rfl (va_recv hK hP (ci := 5) (q0 := 1) rfl rfl) hP hD hS [1, 2, 3, 4, 5, 6, 7, 8, 9, 10, 11] [0] rfl rfl rfl rfl rfl (by decide) rfl hl.1 rfl (Nat.le_of_ble_eq_true rfl) dX11_sell_40 ⟨Nat.le_of_ble_eq_true rfl, Nat.le_of_ble_eq_true rfl⟩ (fun v_13 u_14 H locs hv_15 hP hD hS => ?_)
      obtain ⟨sv_16, sv_17, sv_18, sv_19, sv_20, sv_21, sv_22, sv_23, sv_24, sv_25, sv_26, sv_27, sv_28, sv_29, sv_30, sv_31, sv_32, sv_33, sv_34, sv_35⟩ := u_14
      cases sv_16
      · skip
        obtain ⟨rfl, pf_36⟩ := hv_15
        have pf_36 : 0 ≤ ((Pv 0) : Int32).toInt ∧ ((Pv 0) : Int32).toInt < 20 := pf_36
        refine W.eq (g2 := F0 m 43 ls []) rfl ?_
        have hP : va_P D classes [((Ga 0), .inr (11, [.ref (Ga 1), .ref (Ga 2), .ref (Ga 3), .ref (Ga 4), .int (Gv 0), .ref (Ga 5), .ref (Aa 0), .ref (Pa 0), .ref (Ga 8), .ref (Ga 9), .ref (Ga 10), .ref (Ga 11)])), ((Pa 0), .inr (5, [.ref (Pa 1), .int (Pv 0), .int (Pv 1)])), ((Pa 1), .inl (tc 5, 20, .inr (.inr (.inr (.inr (Pq 1)))))), ((Aa 0), .inr (9, [.int (Av 0), .int (Av 1), .int (Av 2), .int (Av 3), .int (Av 4), .int (Av 5), .ref (Aa 1), .ref (Aa 2), .ref (Aa 3), .ref (Aa 4), .ref (Aa 5), .ref (Aa 6), .ref (Aa 7), .ref (Aa 8)])), ((Aa 1), .inl (tc 0, 10, .inl (Af 1))), ((Aa 2), .inl (tc 0, 10, .inl (Af 2))), ((Aa 3), .inl (tc 0, 6, .inl (Af 3))), ((Aa 4), .inl (tc 0, 6, .inl (Af 4))), ((Aa 5), .inl (tc 0, 6, .inl (Af 5))), ((Aa 6), .inl (tc 0, 6, .inl (Af 6))), ((Aa 7), .inl (tc 0, 6, .inl (Af 7))), ((Aa 8), .inl (tc 0, 6, .inl (Af 8)))] H := hP
        have hD : va_D A [((Ga 0), .inr (11, [.ref (Ga 1), .ref (Ga 2), .ref (Ga 3), .ref (Ga 4), .int (Gv 0), .ref (Ga 5), .ref (Aa 0), .ref (Pa 0), .ref (Ga 8), .ref (Ga 9), .ref (Ga 10), .ref (Ga 11)])), ((Pa 0), .inr (5, [.ref (Pa 1), .int (Pv 0), .int (Pv 1)])), ((Pa 1), .inl (tc 5, 20, .inr (.inr (.inr (.inr (Pq 1)))))), ((Aa 0), .inr (9, [.int (Av 0), .int (Av 1), .int (Av 2), .int (Av 3), .int (Av 4), .int (Av 5), .ref (Aa 1), .ref (Aa 2), .ref (Aa 3), .ref (Aa 4), .ref (Aa 5), .ref (Aa 6), .ref (Aa 7), .ref (Aa 8)])), ((Aa 1), .inl (tc 0, 10, .inl (Af 1))), ((Aa 2), .inl (tc 0, 10, .inl (Af 2))), ((Aa 3), .inl (tc 0, 6, .inl (Af 3))), ((Aa 4), .inl (tc 0, 6, .inl (Af 4))), ((Aa 5), .inl (tc 0, 6, .inl (Af 5))), ((Aa 6), .inl (tc 0, 6, .inl (Af 6))), ((Aa 7), .inl (tc 0, 6, .inl (Af 7))), ((Aa 8), .inl (tc 0, 6, .inl (Af 8)))] := hD
        refine lv_aload_n hx hb dX11_sell_43 rfl (lv_at hl 0 rfl) ?_
        refine gf_X11_51 hx hb hts hown hK hP 0 rfl rfl dX11_sell_44 ?_
        refine lv_iload_n hx hb dX11_sell_47 rfl (lv_at hl 1 rfl) ?_
        refine cV (a := (Aa 0)) (As := [.int x1]) (rest := []) (wr := [((Ga 0), .inr (11, [.ref (Ga 1), .ref (Ga 2), .ref (Ga 3), .ref (Ga 4), .int (Gv 0), .ref (Ga 5), .ref (Aa 0), .ref (Pa 0), .ref (Ga 8), .ref (Ga 9), .ref (Ga 10), .ref (Ga 11)])), ((Pa 0), .inr (5, [.ref (Pa 1), .int (Pv 0), .int (Pv 1)])), ((Pa 1), .inl (tc 5, 20, .inr (.inr (.inr (.inr (Pq 1))))))]) ⟨hx, hb, hml, hown, hts⟩ hK hX hA (ct_X9_handOver l D tc sk Aa Av Af x1) k_772 k_785 k_770 k_771 k_98 pl_X9_handOver ⟨Nat.le_of_ble_eq_true rfl, Nat.le_of_ble_eq_true rfl⟩ rfl rfl (va_recv hK hP (ci := 9) (q0 := 3) rfl rfl) hP hD hS [3, 4, 5, 6, 7, 8, 9, 10, 11] [0, 1, 2] rfl rfl rfl rfl rfl (by decide) rfl hl.1 rfl (Nat.le_of_ble_eq_true rfl) dX11_sell_48 ⟨Nat.le_of_ble_eq_true rfl, Nat.le_of_ble_eq_true rfl⟩ (fun v_37 u_38 H locs hv_39 hP hD hS => ?_)
        obtain ⟨sv_40, sv_41, sv_42, sv_43, sv_44⟩ := u_38
        obtain rfl : v_37 = none := hv_39
        refine W.eq (g2 := F0 m 51 ls []) rfl ?_
        have hP : va_P D classes [((Ga 0), .inr (11, [.ref (Ga 1), .ref (Ga 2), .ref (Ga 3), .ref (Ga 4), .int (Gv 0), .ref (Ga 5), .ref (Aa 0), .ref (Pa 0), .ref (Ga 8), .ref (Ga 9), .ref (Ga 10), .ref (Ga 11)])), ((Pa 0), .inr (5, [.ref (Pa 1), .int (Pv 0), .int (Pv 1)])), ((Pa 1), .inl (tc 5, 20, .inr (.inr (.inr (.inr (Pq 1)))))), ((Aa 0), .inr (9, [.int sv_40, .int (Av 1), .int (Av 2), .int (Av 3), .int (Av 4), .int sv_41, .ref (Aa 1), .ref (Aa 2), .ref (Aa 3), .ref (Aa 4), .ref (Aa 5), .ref (Aa 6), .ref (Aa 7), .ref (Aa 8)])), ((Aa 1), .inl (tc 0, 10, .inl (Af 1))), ((Aa 2), .inl (tc 0, 10, .inl (Af 2))), ((Aa 3), .inl (tc 0, 6, .inl sv_42)), ((Aa 4), .inl (tc 0, 6, .inl (Af 4))), ((Aa 5), .inl (tc 0, 6, .inl (Af 5))), ((Aa 6), .inl (tc 0, 6, .inl sv_43)), ((Aa 7), .inl (tc 0, 6, .inl (Af 7))), ((Aa 8), .inl (tc 0, 6, .inl sv_44))] H := hP
        have hD : va_D A [((Ga 0), .inr (11, [.ref (Ga 1), .ref (Ga 2), .ref (Ga 3), .ref (Ga 4), .int (Gv 0), .ref (Ga 5), .ref (Aa 0), .ref (Pa 0), .ref (Ga 8), .ref (Ga 9), .ref (Ga 10), .ref (Ga 11)])), ((Pa 0), .inr (5, [.ref (Pa 1), .int (Pv 0), .int (Pv 1)])), ((Pa 1), .inl (tc 5, 20, .inr (.inr (.inr (.inr (Pq 1)))))), ((Aa 0), .inr (9, [.int sv_40, .int (Av 1), .int (Av 2), .int (Av 3), .int (Av 4), .int sv_41, .ref (Aa 1), .ref (Aa 2), .ref (Aa 3), .ref (Aa 4), .ref (Aa 5), .ref (Aa 6), .ref (Aa 7), .ref (Aa 8)])), ((Aa 1), .inl (tc 0, 10, .inl (Af 1))), ((Aa 2), .inl (tc 0, 10, .inl (Af 2))), ((Aa 3), .inl (tc 0, 6, .inl sv_42)), ((Aa 4), .inl (tc 0, 6, .inl (Af 4))), ((Aa 5), .inl (tc 0, 6, .inl (Af 5))), ((Aa 6), .inl (tc 0, 6, .inl sv_43)), ((Aa 7), .inl (tc 0, 6, .inl (Af 7))), ((Aa 8), .inl (tc 0, 6, .inl sv_44))] := hD
        refine lv_aload_n hx hb dX11_sell_51 rfl (lv_at hl 0 rfl) ?_
        refine gf_X11_51 hx hb hts hown hK hP 0 rfl rfl dX11_sell_52 ?_
        refine gf_X11_193 hx hb hts hown hK hP 3 rfl rfl dX11_sell_55 ?_
        have ha_45 : 0 ≤ ((Pv 0) : Int32).toInt ∧ ((Pv 0) : Int32).toInt < 20 := by
          have z_1 : ¬ (r_4 : Int32).toInt = (0 : Int32).toInt := fun z => c_6 (Int32.toInt_inj.mp z)
          have z_2 := Int32.le_iff_toInt_le.mp c_11
          have y_0 : (0 : Int32).toInt = 0 := by decide
          omega
        have ha_46 : 0 ≤ ((Av 3) : Int32).toInt ∧ ((Av 3) : Int32).toInt ≤ 6 := by
          have z_1 : ¬ (r_4 : Int32).toInt = (0 : Int32).toInt := fun z => c_6 (Int32.toInt_inj.mp z)
          have z_2 := Int32.le_iff_toInt_le.mp c_11
          have y_0 : (0 : Int32).toInt = 0 := by decide
          omega
        exact retI (v := sv_40) hx hb hr hlk (rfl) hP hD hS (false, 0, 0, 0, 0, 0, 0, 0, 0, 0, 0, 0, (fun _ => 0), (fun _ => 0), (fun _ => 0), 0, 0, (fun _ => 0), (fun _ => 0), (fun _ => 0), (fun _ => 0), (fun _ => 0), (fun _ => 0), (fun _ => 0), (fun _ => 0), sv_40, sv_41, sv_42, sv_43, sv_44) ⟨_, rfl, trivial, ha_45, ha_46⟩ [0, 3, 4, 5, 6, 7, 8, 9, 10, 11, 1, 2] rfl rfl dX11_sell_58 (Nat.le_of_ble_eq_true rfl) (Nat.le_of_ble_eq_true rfl) rfl
      · skip
        obtain ⟨rfl, pf_47⟩ := hv_15
        have pf_47 : 0 ≤ (sv_26 : Int32).toInt ∧ (sv_26 : Int32).toInt < 20 := pf_47
        refine W.eq (g2 := F0 m 43 ls []) rfl ?_
        have hP : va_P D classes [((Ga 0), .inr (11, [.ref (Ga 1), .ref (Ga 2), .ref (Ga 3), .ref (Ga 4), .int (Gv 0), .ref (Ga 5), .ref (Aa 0), .ref (Pa 0), .ref (Ga 8), .ref (Ga 9), .ref (Ga 10), .ref (Ga 11)])), ((Pa 0), .inr (5, [.ref (Pa 1), .int sv_26, .int sv_27])), ((Pa 1), .inl (tc 5, 20, .inr (.inr (.inr (.inr (va_up (Pq 1) ((Pv 0) : Int32).toNatClampNeg (some sv_17))))))), ((Aa 0), .inr (9, [.int (Av 0), .int (Av 1), .int (Av 2), .int (Av 3), .int (Av 4), .int (Av 5), .ref (Aa 1), .ref (Aa 2), .ref (Aa 3), .ref (Aa 4), .ref (Aa 5), .ref (Aa 6), .ref (Aa 7), .ref (Aa 8)])), ((Aa 1), .inl (tc 0, 10, .inl (Af 1))), ((Aa 2), .inl (tc 0, 10, .inl (Af 2))), ((Aa 3), .inl (tc 0, 6, .inl (Af 3))), ((Aa 4), .inl (tc 0, 6, .inl (Af 4))), ((Aa 5), .inl (tc 0, 6, .inl (Af 5))), ((Aa 6), .inl (tc 0, 6, .inl (Af 6))), ((Aa 7), .inl (tc 0, 6, .inl (Af 7))), ((Aa 8), .inl (tc 0, 6, .inl (Af 8))), (sv_17, .inr (9, [.int (Av 0), .int (Av 1), .int (Av 2), .int (Av 3), .int (Av 4), .int (Av 5), .ref sv_18, .ref sv_19, .ref sv_20, .ref sv_21, .ref sv_22, .ref sv_23, .ref sv_24, .ref sv_25])), (sv_18, .inl (tc 0, 10, .inl sv_28)), (sv_19, .inl (tc 0, 10, .inl sv_29)), (sv_20, .inl (tc 0, 6, .inl sv_30)), (sv_21, .inl (tc 0, 6, .inl sv_31)), (sv_22, .inl (tc 0, 6, .inl sv_32)), (sv_23, .inl (tc 0, 6, .inl sv_33)), (sv_24, .inl (tc 0, 6, .inl sv_34)), (sv_25, .inl (tc 0, 6, .inl sv_35))] H := hP
        have hD : va_D A [((Ga 0), .inr (11, [.ref (Ga 1), .ref (Ga 2), .ref (Ga 3), .ref (Ga 4), .int (Gv 0), .ref (Ga 5), .ref (Aa 0), .ref (Pa 0), .ref (Ga 8), .ref (Ga 9), .ref (Ga 10), .ref (Ga 11)])), ((Pa 0), .inr (5, [.ref (Pa 1), .int sv_26, .int sv_27])), ((Pa 1), .inl (tc 5, 20, .inr (.inr (.inr (.inr (va_up (Pq 1) ((Pv 0) : Int32).toNatClampNeg (some sv_17))))))), ((Aa 0), .inr (9, [.int (Av 0), .int (Av 1), .int (Av 2), .int (Av 3), .int (Av 4), .int (Av 5), .ref (Aa 1), .ref (Aa 2), .ref (Aa 3), .ref (Aa 4), .ref (Aa 5), .ref (Aa 6), .ref (Aa 7), .ref (Aa 8)])), ((Aa 1), .inl (tc 0, 10, .inl (Af 1))), ((Aa 2), .inl (tc 0, 10, .inl (Af 2))), ((Aa 3), .inl (tc 0, 6, .inl (Af 3))), ((Aa 4), .inl (tc 0, 6, .inl (Af 4))), ((Aa 5), .inl (tc 0, 6, .inl (Af 5))), ((Aa 6), .inl (tc 0, 6, .inl (Af 6))), ((Aa 7), .inl (tc 0, 6, .inl (Af 7))), ((Aa 8), .inl (tc 0, 6, .inl (Af 8))), (sv_17, .inr (9, [.int (Av 0), .int (Av 1), .int (Av 2), .int (Av 3), .int (Av 4), .int (Av 5), .ref sv_18, .ref sv_19, .ref sv_20, .ref sv_21, .ref sv_22, .ref sv_23, .ref sv_24, .ref sv_25])), (sv_18, .inl (tc 0, 10, .inl sv_28)), (sv_19, .inl (tc 0, 10, .inl sv_29)), (sv_20, .inl (tc 0, 6, .inl sv_30)), (sv_21, .inl (tc 0, 6, .inl sv_31)), (sv_22, .inl (tc 0, 6, .inl sv_32)), (sv_23, .inl (tc 0, 6, .inl sv_33)), (sv_24, .inl (tc 0, 6, .inl sv_34)), (sv_25, .inl (tc 0, 6, .inl sv_35))] := hD
        refine lv_aload_n hx hb dX11_sell_43 rfl (lv_at hl 0 rfl) ?_
        refine gf_X11_51 hx hb hts hown hK hP 0 rfl rfl dX11_sell_44 ?_
        refine lv_iload_n hx hb dX11_sell_47 rfl (lv_at hl 1 rfl) ?_
        refine cV (a := (Aa 0)) (As := [.int x1]) (rest := []) (wr := [((Ga 0), .inr (11, [.ref (Ga 1), .ref (Ga 2), .ref (Ga 3), .ref (Ga 4), .int (Gv 0), .ref (Ga 5), .ref (Aa 0), .ref (Pa 0), .ref (Ga 8), .ref (Ga 9), .ref (Ga 10), .ref (Ga 11)])), ((Pa 0), .inr (5, [.ref (Pa 1), .int sv_26, .int sv_27])), ((Pa 1), .inl (tc 5, 20, .inr (.inr (.inr (.inr (va_up (Pq 1) ((Pv 0) : Int32).toNatClampNeg (some sv_17))))))), (sv_17, .inr (9, [.int (Av 0), .int (Av 1), .int (Av 2), .int (Av 3), .int (Av 4), .int (Av 5), .ref sv_18, .ref sv_19, .ref sv_20, .ref sv_21, .ref sv_22, .ref sv_23, .ref sv_24, .ref sv_25])), (sv_18, .inl (tc 0, 10, .inl sv_28)), (sv_19, .inl (tc 0, 10, .inl sv_29)), (sv_20, .inl (tc 0, 6, .inl sv_30)), (sv_21, .inl (tc 0, 6, .inl sv_31)), (sv_22, .inl (tc 0, 6, .inl sv_32)), (sv_23, .inl (tc 0, 6, .inl sv_33)), (sv_24, .inl (tc 0, 6, .inl sv_34)), (sv_25, .inl (tc 0, 6, .inl sv_35))]) ⟨hx, hb, hml, hown, hts⟩ hK hX hA (ct_X9_handOver l D tc sk Aa Av Af x1) k_772 k_785 k_770 k_771 k_98 pl_X9_handOver ⟨Nat.le_of_ble_eq_true rfl, Nat.le_of_ble_eq_true rfl⟩ rfl rfl (va_recv hK hP (ci := 9) (q0 := 3) rfl rfl) hP hD hS [3, 4, 5, 6, 7, 8, 9, 10, 11] [0, 1, 2, 12, 13, 14, 15, 16, 17, 18, 19, 20] rfl rfl rfl rfl rfl (by decide) rfl hl.1 rfl (Nat.le_of_ble_eq_true rfl) dX11_sell_48 ⟨Nat.le_of_ble_eq_true rfl, Nat.le_of_ble_eq_true rfl⟩ (fun v_48 u_49 H locs hv_50 hP hD hS => ?_)
        obtain ⟨sv_51, sv_52, sv_53, sv_54, sv_55⟩ := u_49
        obtain rfl : v_48 = none := hv_50
        refine W.eq (g2 := F0 m 51 ls []) rfl ?_
        have hP : va_P D classes [((Ga 0), .inr (11, [.ref (Ga 1), .ref (Ga 2), .ref (Ga 3), .ref (Ga 4), .int (Gv 0), .ref (Ga 5), .ref (Aa 0), .ref (Pa 0), .ref (Ga 8), .ref (Ga 9), .ref (Ga 10), .ref (Ga 11)])), ((Pa 0), .inr (5, [.ref (Pa 1), .int sv_26, .int sv_27])), ((Pa 1), .inl (tc 5, 20, .inr (.inr (.inr (.inr (va_up (Pq 1) ((Pv 0) : Int32).toNatClampNeg (some sv_17))))))), (sv_17, .inr (9, [.int (Av 0), .int (Av 1), .int (Av 2), .int (Av 3), .int (Av 4), .int (Av 5), .ref sv_18, .ref sv_19, .ref sv_20, .ref sv_21, .ref sv_22, .ref sv_23, .ref sv_24, .ref sv_25])), (sv_18, .inl (tc 0, 10, .inl sv_28)), (sv_19, .inl (tc 0, 10, .inl sv_29)), (sv_20, .inl (tc 0, 6, .inl sv_30)), (sv_21, .inl (tc 0, 6, .inl sv_31)), (sv_22, .inl (tc 0, 6, .inl sv_32)), (sv_23, .inl (tc 0, 6, .inl sv_33)), (sv_24, .inl (tc 0, 6, .inl sv_34)), (sv_25, .inl (tc 0, 6, .inl sv_35)), ((Aa 0), .inr (9, [.int sv_51, .int (Av 1), .int (Av 2), .int (Av 3), .int (Av 4), .int sv_52, .ref (Aa 1), .ref (Aa 2), .ref (Aa 3), .ref (Aa 4), .ref (Aa 5), .ref (Aa 6), .ref (Aa 7), .ref (Aa 8)])), ((Aa 1), .inl (tc 0, 10, .inl (Af 1))), ((Aa 2), .inl (tc 0, 10, .inl (Af 2))), ((Aa 3), .inl (tc 0, 6, .inl sv_53)), ((Aa 4), .inl (tc 0, 6, .inl (Af 4))), ((Aa 5), .inl (tc 0, 6, .inl (Af 5))), ((Aa 6), .inl (tc 0, 6, .inl sv_54)), ((Aa 7), .inl (tc 0, 6, .inl (Af 7))), ((Aa 8), .inl (tc 0, 6, .inl sv_55))] H := hP
        have hD : va_D A [((Ga 0), .inr (11, [.ref (Ga 1), .ref (Ga 2), .ref (Ga 3), .ref (Ga 4), .int (Gv 0), .ref (Ga 5), .ref (Aa 0), .ref (Pa 0), .ref (Ga 8), .ref (Ga 9), .ref (Ga 10), .ref (Ga 11)])), ((Pa 0), .inr (5, [.ref (Pa 1), .int sv_26, .int sv_27])), ((Pa 1), .inl (tc 5, 20, .inr (.inr (.inr (.inr (va_up (Pq 1) ((Pv 0) : Int32).toNatClampNeg (some sv_17))))))), (sv_17, .inr (9, [.int (Av 0), .int (Av 1), .int (Av 2), .int (Av 3), .int (Av 4), .int (Av 5), .ref sv_18, .ref sv_19, .ref sv_20, .ref sv_21, .ref sv_22, .ref sv_23, .ref sv_24, .ref sv_25])), (sv_18, .inl (tc 0, 10, .inl sv_28)), (sv_19, .inl (tc 0, 10, .inl sv_29)), (sv_20, .inl (tc 0, 6, .inl sv_30)), (sv_21, .inl (tc 0, 6, .inl sv_31)), (sv_22, .inl (tc 0, 6, .inl sv_32)), (sv_23, .inl (tc 0, 6, .inl sv_33)), (sv_24, .inl (tc 0, 6, .inl sv_34)), (sv_25, .inl (tc 0, 6, .inl sv_35)), ((Aa 0), .inr (9, [.int sv_51, .int (Av 1), .int (Av 2), .int (Av 3), .int (Av 4), .int sv_52, .ref (Aa 1), .ref (Aa 2), .ref (Aa 3), .ref (Aa 4), .ref (Aa 5), .ref (Aa 6), .ref (Aa 7), .ref (Aa 8)])), ((Aa 1), .inl (tc 0, 10, .inl (Af 1))), ((Aa 2), .inl (tc 0, 10, .inl (Af 2))), ((Aa 3), .inl (tc 0, 6, .inl sv_53)), ((Aa 4), .inl (tc 0, 6, .inl (Af 4))), ((Aa 5), .inl (tc 0, 6, .inl (Af 5))), ((Aa 6), .inl (tc 0, 6, .inl sv_54)), ((Aa 7), .inl (tc 0, 6, .inl (Af 7))), ((Aa 8), .inl (tc 0, 6, .inl sv_55))] := hD
        refine lv_aload_n hx hb dX11_sell_51 rfl (lv_at hl 0 rfl) ?_
        refine gf_X11_51 hx hb hts hown hK hP 0 rfl rfl dX11_sell_52 ?_
        refine gf_X11_193 hx hb hts hown hK hP 12 rfl rfl dX11_sell_55 ?_
        have ha_56 : 0 ≤ (sv_26 : Int32).toInt ∧ (sv_26 : Int32).toInt < 20 := by
          have z_1 : ¬ (r_4 : Int32).toInt = (0 : Int32).toInt := fun z => c_6 (Int32.toInt_inj.mp z)
          have z_2 := Int32.le_iff_toInt_le.mp c_11
          have y_0 : (0 : Int32).toInt = 0 := by decide
          omega
        have ha_57 : 0 ≤ ((Av 3) : Int32).toInt ∧ ((Av 3) : Int32).toInt ≤ 6 := by
          have z_1 : ¬ (r_4 : Int32).toInt = (0 : Int32).toInt := fun z => c_6 (Int32.toInt_inj.mp z)
          have z_2 := Int32.le_iff_toInt_le.mp c_11
          have y_0 : (0 : Int32).toInt = 0 := by decide
          omega
        have ha_58 : 0 ≤ ((Av 3) : Int32).toInt ∧ ((Av 3) : Int32).toInt ≤ 6 := by
          have z_1 : ¬ (r_4 : Int32).toInt = (0 : Int32).toInt := fun z => c_6 (Int32.toInt_inj.mp z)
          have z_2 := Int32.le_iff_toInt_le.mp c_11
          have y_0 : (0 : Int32).toInt = 0 := by decide
          omega
        exact retI (v := sv_51) hx hb hr hlk (rfl) hP hD hS (true, sv_17, sv_18, sv_19, sv_20, sv_21, sv_22, sv_23, sv_24, sv_25, sv_51, sv_52, sv_53, sv_54, sv_55, sv_26, sv_27, sv_28, sv_29, sv_30, sv_31, sv_32, sv_33, sv_34, sv_35, 0, 0, (fun _ => 0), (fun _ => 0), (fun _ => 0)) ⟨_, rfl, trivial, ha_56, ha_57, ha_58⟩ [0, 12, 13, 14, 15, 16, 17, 18, 19, 20, 1, 2, 3, 4, 5, 6, 7, 8, 9, 10, 11] rfl rfl dX11_sell_58 (Nat.le_of_ble_eq_true rfl) (Nat.le_of_ble_eq_true rfl) rfl
    · skip
      refine lv_iconst (v := (-1)) hx hb dX11_sell_30 (by decide) ?_
      have ha_59 : 0 ≤ ((Pv 0) : Int32).toInt ∧ ((Pv 0) : Int32).toInt < 20 := by
        have z_1 : ¬ (r_4 : Int32).toInt = (0 : Int32).toInt := fun z => c_6 (Int32.toInt_inj.mp z)
        have z_2 := Int32.lt_iff_toInt_lt.mp (Int32.not_le.mp c_11)
        have y_0 : (0 : Int32).toInt = 0 := by decide
        omega
      have ha_60 : 0 ≤ ((Av 3) : Int32).toInt ∧ ((Av 3) : Int32).toInt ≤ 6 := by
        have z_1 : ¬ (r_4 : Int32).toInt = (0 : Int32).toInt := fun z => c_6 (Int32.toInt_inj.mp z)
        have z_2 := Int32.lt_iff_toInt_lt.mp (Int32.not_le.mp c_11)
        have y_0 : (0 : Int32).toInt = 0 := by decide
        omega
      exact retI (v := (-1)) hx hb hr hlk (rfl) hP hD hS (false, 0, 0, 0, 0, 0, 0, 0, 0, 0, 0, 0, (fun _ => 0), (fun _ => 0), (fun _ => 0), 0, 0, (fun _ => 0), (fun _ => 0), (fun _ => 0), (fun _ => 0), (fun _ => 0), (fun _ => 0), (fun _ => 0), (fun _ => 0), (Av 0), (Av 5), (Af 3), (Af 6), (Af 8)) ⟨_, rfl, trivial, ha_59, ha_60⟩ [0, 3, 4, 5, 6, 7, 8, 9, 10, 11, 1, 2] rfl rfl dX11_sell_31 (Nat.le_of_ble_eq_true rfl) (Nat.le_of_ble_eq_true rfl) rfl
set_option maxHeartbeats 4000000 in
set_option maxRecDepth 100000 in
theorem ct_X11_calm_n (l : Launch) (D : va_G) (tc : Nat → ClassId) (sk : (Nat → Nat) × (Nat → Nat)) (Ga : Nat → Nat) (Gv : Nat → Int32) (Aa : Nat → Nat) (Av : Nat → Int32) (Af : Nat → Nat → Int32) (Pa : Nat → Nat) (Pv : Nat → Int32) (Pq : Nat → Nat → Option Nat) (x1 : Int32) (x2 : Int32) (h_nx : 0 ≤ ((Pv 0) : Int32).toInt ∧ ((Pv 0) : Int32).toInt < 20) (h_q : (Pq 1) (Pv 0).toNatClampNeg = none) (h_bA : 0 ≤ ((Av 3) : Int32).toInt ∧ ((Av 3) : Int32).toInt ≤ 6) : Ct l yX11_calm cX11_calm 3 (some .int) { frames := 3, cells := 9, slots := 70, locals := 83 } D tc sk [.ref (Ga 0), .int x1, .int x2] [((Ga 0), .inr (11, [.ref (Ga 1), .ref (Ga 2), .ref (Ga 3), .ref (Ga 4), .int (Gv 0), .ref (Ga 5), .ref (Aa 0), .ref (Pa 0), .ref (Ga 8), .ref (Ga 9), .ref (Ga 10), .ref (Ga 11)])), ((Aa 0), .inr (9, [.int (Av 0), .int (Av 1), .int (Av 2), .int (Av 3), .int (Av 4), .int (Av 5), .ref (Aa 1), .ref (Aa 2), .ref (Aa 3), .ref (Aa 4), .ref (Aa 5), .ref (Aa 6), .ref (Aa 7), .ref (Aa 8)])), ((Aa 1), .inl (tc 0, 10, .inl (Af 1))), ((Aa 2), .inl (tc 0, 10, .inl (Af 2))), ((Aa 3), .inl (tc 0, 6, .inl (Af 3))), ((Aa 4), .inl (tc 0, 6, .inl (Af 4))), ((Aa 5), .inl (tc 0, 6, .inl (Af 5))), ((Aa 6), .inl (tc 0, 6, .inl (Af 6))), ((Aa 7), .inl (tc 0, 6, .inl (Af 7))), ((Aa 8), .inl (tc 0, 6, .inl (Af 8))), ((Pa 0), .inr (5, [.ref (Pa 1), .int (Pv 0), .int (Pv 1)])), ((Pa 1), .inl (tc 5, 20, .inr (.inr (.inr (.inr (Pq 1))))))] (fun (v : Option Value) (u : (Bool) × (Nat) × (Nat) × (Nat) × (Nat) × (Nat) × (Nat) × (Nat) × (Nat) × (Nat) × (Nat → Int32) × (Int32) × (Int32) × (Nat → Int32) × (Nat → Int32) × (Nat → Int32) × (Nat → Int32) × (Nat → Int32) × (Nat → Int32) × (Nat → Int32) × (Nat → Int32) × (Nat → Int32)) => match u with | (true, na0x0, na0x1, na0x2, na0x3, na0x4, na0x5, na0x6, na0x7, na0x8, oo0x1, oo0x2, oo0x3, oo0x4, oo0x5, oo0x6, oo0x7, oo0x8, oo0x9, oo0x10, oo0x11, oo1x1) => ∃ r : Int32, v = some (.int r) ∧ (True) ∧ (0 ≤ (oo0x2 : Int32).toInt ∧ (oo0x2 : Int32).toInt < 20) ∧ (0 ≤ ((Av 3) : Int32).toInt ∧ ((Av 3) : Int32).toInt ≤ 6) ∧ (0 ≤ ((Av 3) : Int32).toInt ∧ ((Av 3) : Int32).toInt ≤ 6) | (false, na0x0, na0x1, na0x2, na0x3, na0x4, na0x5, na0x6, na0x7, na0x8, oo0x1, oo0x2, oo0x3, oo0x4, oo0x5, oo0x6, oo0x7, oo0x8, oo0x9, oo0x10, oo0x11, oo1x1) => ∃ r : Int32, v = some (.int r) ∧ (True) ∧ (0 ≤ ((Pv 0) : Int32).toInt ∧ ((Pv 0) : Int32).toInt < 20) ∧ (0 ≤ ((Av 3) : Int32).toInt ∧ ((Av 3) : Int32).toInt ≤ 6)) (fun (u : (Bool) × (Nat) × (Nat) × (Nat) × (Nat) × (Nat) × (Nat) × (Nat) × (Nat) × (Nat) × (Nat → Int32) × (Int32) × (Int32) × (Nat → Int32) × (Nat → Int32) × (Nat → Int32) × (Nat → Int32) × (Nat → Int32) × (Nat → Int32) × (Nat → Int32) × (Nat → Int32) × (Nat → Int32)) => match u with | (true, na0x0, na0x1, na0x2, na0x3, na0x4, na0x5, na0x6, na0x7, na0x8, oo0x1, oo0x2, oo0x3, oo0x4, oo0x5, oo0x6, oo0x7, oo0x8, oo0x9, oo0x10, oo0x11, oo1x1) => [((Ga 0), .inr (11, [.ref (Ga 1), .ref (Ga 2), .ref (Ga 3), .ref (Ga 4), .int (Gv 0), .ref (Ga 5), .ref (Aa 0), .ref (Pa 0), .ref (Ga 8), .ref (Ga 9), .ref (Ga 10), .ref (Ga 11)])), ((Aa 0), .inr (9, [.int (Av 0), .int (Av 1), .int (Av 2), .int (Av 3), .int (Av 4), .int (Av 5), .ref (Aa 1), .ref (Aa 2), .ref (Aa 3), .ref (Aa 4), .ref (Aa 5), .ref (Aa 6), .ref (Aa 7), .ref (Aa 8)])), ((Aa 1), .inl (tc 0, 10, .inl (Af 1))), ((Aa 2), .inl (tc 0, 10, .inl (Af 2))), ((Aa 3), .inl (tc 0, 6, .inl oo0x1)), ((Aa 4), .inl (tc 0, 6, .inl (Af 4))), ((Aa 5), .inl (tc 0, 6, .inl (Af 5))), ((Aa 6), .inl (tc 0, 6, .inl (Af 6))), ((Aa 7), .inl (tc 0, 6, .inl (Af 7))), ((Aa 8), .inl (tc 0, 6, .inl (Af 8))), ((Pa 0), .inr (5, [.ref (Pa 1), .int oo0x2, .int oo0x3])), ((Pa 1), .inl (tc 5, 20, .inr (.inr (.inr (.inr (va_up (Pq 1) ((Pv 0) : Int32).toNatClampNeg (some na0x0))))))), (na0x0, .inr (9, [.int (Av 0), .int (Av 1), .int (Av 2), .int (Av 3), .int (Av 4), .int (Av 5), .ref na0x1, .ref na0x2, .ref na0x3, .ref na0x4, .ref na0x5, .ref na0x6, .ref na0x7, .ref na0x8])), (na0x1, .inl (tc 0, 10, .inl oo0x4)), (na0x2, .inl (tc 0, 10, .inl oo0x5)), (na0x3, .inl (tc 0, 6, .inl oo0x6)), (na0x4, .inl (tc 0, 6, .inl oo0x7)), (na0x5, .inl (tc 0, 6, .inl oo0x8)), (na0x6, .inl (tc 0, 6, .inl oo0x9)), (na0x7, .inl (tc 0, 6, .inl oo0x10)), (na0x8, .inl (tc 0, 6, .inl oo0x11))] | (false, na0x0, na0x1, na0x2, na0x3, na0x4, na0x5, na0x6, na0x7, na0x8, oo0x1, oo0x2, oo0x3, oo0x4, oo0x5, oo0x6, oo0x7, oo0x8, oo0x9, oo0x10, oo0x11, oo1x1) => [((Ga 0), .inr (11, [.ref (Ga 1), .ref (Ga 2), .ref (Ga 3), .ref (Ga 4), .int (Gv 0), .ref (Ga 5), .ref (Aa 0), .ref (Pa 0), .ref (Ga 8), .ref (Ga 9), .ref (Ga 10), .ref (Ga 11)])), ((Aa 0), .inr (9, [.int (Av 0), .int (Av 1), .int (Av 2), .int (Av 3), .int (Av 4), .int (Av 5), .ref (Aa 1), .ref (Aa 2), .ref (Aa 3), .ref (Aa 4), .ref (Aa 5), .ref (Aa 6), .ref (Aa 7), .ref (Aa 8)])), ((Aa 1), .inl (tc 0, 10, .inl (Af 1))), ((Aa 2), .inl (tc 0, 10, .inl (Af 2))), ((Aa 3), .inl (tc 0, 6, .inl oo1x1)), ((Aa 4), .inl (tc 0, 6, .inl (Af 4))), ((Aa 5), .inl (tc 0, 6, .inl (Af 5))), ((Aa 6), .inl (tc 0, 6, .inl (Af 6))), ((Aa 7), .inl (tc 0, 6, .inl (Af 7))), ((Aa 8), .inl (tc 0, 6, .inl (Af 8))), ((Pa 0), .inr (5, [.ref (Pa 1), .int (Pv 0), .int (Pv 1)])), ((Pa 1), .inl (tc 5, 20, .inr (.inr (.inr (.inr (Pq 1))))))]) 9 70 := by
  refine Ct.start (by decide) (Nat.le_of_ble_eq_true rfl) (fun p e s m below meth c A ls hx hb hr hlk hin hml hown hts hK hX hP hD hA hl hS => ?_)
  have hl : lv_has ls 3 [(0, .ref (Ga 0)), (1, .int x1), (2, .int x2)] := hl
  refine lv_aload_n hx hb dX11_calm_0 rfl (lv_at hl 0 rfl) ?_
  refine gf_X11_51 hx hb hts hown hK hP 0 rfl rfl dX11_calm_1 ?_
  refine lv_iload_n hx hb dX11_calm_4 rfl (lv_at hl 1 rfl) ?_
  refine cV (a := (Aa 0)) (As := [.int x1]) (rest := []) (wr := [((Ga 0), .inr (11, [.ref (Ga 1), .ref (Ga 2), .ref (Ga 3), .ref (Ga 4), .int (Gv 0), .ref (Ga 5), .ref (Aa 0), .ref (Pa 0), .ref (Ga 8), .ref (Ga 9), .ref (Ga 10), .ref (Ga 11)])), ((Pa 0), .inr (5, [.ref (Pa 1), .int (Pv 0), .int (Pv 1)])), ((Pa 1), .inl (tc 5, 20, .inr (.inr (.inr (.inr (Pq 1))))))]) ⟨hx, hb, hml, hown, hts⟩ hK hX hA (ct_X9_hasBuyer l D tc sk Aa Av Af x1) k_591 k_702 k_589 k_590 k_98 pl_X9_hasBuyer ⟨Nat.le_of_ble_eq_true rfl, Nat.le_of_ble_eq_true rfl⟩ rfl rfl (va_recv hK hP (ci := 9) (q0 := 1) rfl rfl) hP hD hS [1, 2, 3, 4, 5, 6, 7, 8, 9] [0, 10, 11] rfl rfl rfl rfl rfl (by decide) rfl hl.1 rfl (Nat.le_of_ble_eq_true rfl) dX11_calm_5 ⟨Nat.le_of_ble_eq_true rfl, Nat.le_of_ble_eq_true rfl⟩ (fun v_1 u_2 H locs hv_3 hP hD hS => ?_)
  obtain ⟨r_4, rfl, he_5⟩ := hv_3
  have he_5 : ((r_4.toInt = 0 ∨ (r_4.toInt = 1 ∧ 0 ≤ x1.toInt ∧ x1.toInt < 6 ∧ x1.toInt < (Av 3).toInt))) := he_5
  refine W.eq (g2 := F0 m 8 ls [.int r_4]) rfl ?_
  have hP : va_P D classes [((Ga 0), .inr (11, [.ref (Ga 1), .ref (Ga 2), .ref (Ga 3), .ref (Ga 4), .int (Gv 0), .ref (Ga 5), .ref (Aa 0), .ref (Pa 0), .ref (Ga 8), .ref (Ga 9), .ref (Ga 10), .ref (Ga 11)])), ((Pa 0), .inr (5, [.ref (Pa 1), .int (Pv 0), .int (Pv 1)])), ((Pa 1), .inl (tc 5, 20, .inr (.inr (.inr (.inr (Pq 1)))))), ((Aa 0), .inr (9, [.int (Av 0), .int (Av 1), .int (Av 2), .int (Av 3), .int (Av 4), .int (Av 5), .ref (Aa 1), .ref (Aa 2), .ref (Aa 3), .ref (Aa 4), .ref (Aa 5), .ref (Aa 6), .ref (Aa 7), .ref (Aa 8)])), ((Aa 1), .inl (tc 0, 10, .inl (Af 1))), ((Aa 2), .inl (tc 0, 10, .inl (Af 2))), ((Aa 3), .inl (tc 0, 6, .inl (Af 3))), ((Aa 4), .inl (tc 0, 6, .inl (Af 4))), ((Aa 5), .inl (tc 0, 6, .inl (Af 5))), ((Aa 6), .inl (tc 0, 6, .inl (Af 6))), ((Aa 7), .inl (tc 0, 6, .inl (Af 7))), ((Aa 8), .inl (tc 0, 6, .inl (Af 8)))] H := hP
  have hD : va_D A [((Ga 0), .inr (11, [.ref (Ga 1), .ref (Ga 2), .ref (Ga 3), .ref (Ga 4), .int (Gv 0), .ref (Ga 5), .ref (Aa 0), .ref (Pa 0), .ref (Ga 8), .ref (Ga 9), .ref (Ga 10), .ref (Ga 11)])), ((Pa 0), .inr (5, [.ref (Pa 1), .int (Pv 0), .int (Pv 1)])), ((Pa 1), .inl (tc 5, 20, .inr (.inr (.inr (.inr (Pq 1)))))), ((Aa 0), .inr (9, [.int (Av 0), .int (Av 1), .int (Av 2), .int (Av 3), .int (Av 4), .int (Av 5), .ref (Aa 1), .ref (Aa 2), .ref (Aa 3), .ref (Aa 4), .ref (Aa 5), .ref (Aa 6), .ref (Aa 7), .ref (Aa 8)])), ((Aa 1), .inl (tc 0, 10, .inl (Af 1))), ((Aa 2), .inl (tc 0, 10, .inl (Af 2))), ((Aa 3), .inl (tc 0, 6, .inl (Af 3))), ((Aa 4), .inl (tc 0, 6, .inl (Af 4))), ((Aa 5), .inl (tc 0, 6, .inl (Af 5))), ((Aa 6), .inl (tc 0, 6, .inl (Af 6))), ((Aa 7), .inl (tc 0, 6, .inl (Af 7))), ((Aa 8), .inl (tc 0, 6, .inl (Af 8)))] := hD
  refine lv_if_eq (tgt := 34) hx hb dX11_calm_8 (by decide) (fun c_6 => ?_) (fun c_6 => ?_)
  · skip
    refine lv_iconst (v := (-1)) hx hb dX11_calm_34 (by decide) ?_
    have ha_7 : 0 ≤ ((Pv 0) : Int32).toInt ∧ ((Pv 0) : Int32).toInt < 20 := by
      have z_1 := congrArg Int32.toInt c_6
      have y_0 : (0 : Int32).toInt = 0 := by decide
      omega
    have ha_8 : 0 ≤ ((Av 3) : Int32).toInt ∧ ((Av 3) : Int32).toInt ≤ 6 := by
      have z_1 := congrArg Int32.toInt c_6
      have y_0 : (0 : Int32).toInt = 0 := by decide
      omega
    exact retI (v := (-1)) hx hb hr hlk (rfl) hP hD hS (false, 0, 0, 0, 0, 0, 0, 0, 0, 0, (fun _ => 0), 0, 0, (fun _ => 0), (fun _ => 0), (fun _ => 0), (fun _ => 0), (fun _ => 0), (fun _ => 0), (fun _ => 0), (fun _ => 0), (Af 3)) ⟨_, rfl, trivial, ha_7, ha_8⟩ [0, 3, 4, 5, 6, 7, 8, 9, 10, 11, 1, 2] rfl rfl dX11_calm_35 (Nat.le_of_ble_eq_true rfl) (Nat.le_of_ble_eq_true rfl) rfl
  · skip
    refine lv_iload_n hx hb dX11_calm_11 rfl (lv_at hl 2 rfl) ?_
    refine lv_iconst (v := 1) hx hb dX11_calm_12 (by decide) ?_
    refine lv_bipush (v := 20) hx hb dX11_calm_13 (by decide) ?_
    refine cS (As := [.int x2, .int 1, .int 20]) (rest := []) (wr := [((Ga 0), .inr (11, [.ref (Ga 1), .ref (Ga 2), .ref (Ga 3), .ref (Ga 4), .int (Gv 0), .ref (Ga 5), .ref (Aa 0), .ref (Pa 0), .ref (Ga 8), .ref (Ga 9), .ref (Ga 10), .ref (Ga 11)])), ((Pa 0), .inr (5, [.ref (Pa 1), .int (Pv 0), .int (Pv 1)])), ((Pa 1), .inl (tc 5, 20, .inr (.inr (.inr (.inr (Pq 1)))))), ((Aa 0), .inr (9, [.int (Av 0), .int (Av 1), .int (Av 2), .int (Av 3), .int (Av 4), .int (Av 5), .ref (Aa 1), .ref (Aa 2), .ref (Aa 3), .ref (Aa 4), .ref (Aa 5), .ref (Aa 6), .ref (Aa 7), .ref (Aa 8)])), ((Aa 1), .inl (tc 0, 10, .inl (Af 1))), ((Aa 2), .inl (tc 0, 10, .inl (Af 2))), ((Aa 3), .inl (tc 0, 6, .inl (Af 3))), ((Aa 4), .inl (tc 0, 6, .inl (Af 4))), ((Aa 5), .inl (tc 0, 6, .inl (Af 5))), ((Aa 6), .inl (tc 0, 6, .inl (Af 6))), ((Aa 7), .inl (tc 0, 6, .inl (Af 7))), ((Aa 8), .inl (tc 0, 6, .inl (Af 8)))]) ⟨hx, hb, hml, hown, hts⟩ hK hX hA (ct_X11_isWithin l D tc sk x2 1 20) k_716 k_714 k_715 k_95 pl_X11_isWithin ⟨Nat.le_of_ble_eq_true rfl, Nat.le_of_ble_eq_true rfl⟩ rfl rfl  hP hD hS [] [0, 1, 2, 3, 4, 5, 6, 7, 8, 9, 10, 11] rfl rfl rfl rfl rfl (by decide) rfl hl.1 rfl (Nat.le_of_ble_eq_true rfl) dX11_calm_15 ⟨Nat.le_of_ble_eq_true rfl, Nat.le_of_ble_eq_true rfl⟩ (fun v_9 u_10 H locs hv_11 hP hD hS => ?_)
    obtain ⟨r_12, rfl, he_13⟩ := hv_11
    have he_13 : (r_12.toInt = 0 ∨ (r_12.toInt = 1 ∧ (1 : Int32).toInt ≤ x2.toInt ∧ x2.toInt ≤ (20 : Int32).toInt)) := he_13
    refine W.eq (g2 := F0 m 18 ls [.int r_12]) rfl ?_
    have hP : va_P D classes [((Ga 0), .inr (11, [.ref (Ga 1), .ref (Ga 2), .ref (Ga 3), .ref (Ga 4), .int (Gv 0), .ref (Ga 5), .ref (Aa 0), .ref (Pa 0), .ref (Ga 8), .ref (Ga 9), .ref (Ga 10), .ref (Ga 11)])), ((Pa 0), .inr (5, [.ref (Pa 1), .int (Pv 0), .int (Pv 1)])), ((Pa 1), .inl (tc 5, 20, .inr (.inr (.inr (.inr (Pq 1)))))), ((Aa 0), .inr (9, [.int (Av 0), .int (Av 1), .int (Av 2), .int (Av 3), .int (Av 4), .int (Av 5), .ref (Aa 1), .ref (Aa 2), .ref (Aa 3), .ref (Aa 4), .ref (Aa 5), .ref (Aa 6), .ref (Aa 7), .ref (Aa 8)])), ((Aa 1), .inl (tc 0, 10, .inl (Af 1))), ((Aa 2), .inl (tc 0, 10, .inl (Af 2))), ((Aa 3), .inl (tc 0, 6, .inl (Af 3))), ((Aa 4), .inl (tc 0, 6, .inl (Af 4))), ((Aa 5), .inl (tc 0, 6, .inl (Af 5))), ((Aa 6), .inl (tc 0, 6, .inl (Af 6))), ((Aa 7), .inl (tc 0, 6, .inl (Af 7))), ((Aa 8), .inl (tc 0, 6, .inl (Af 8)))] H := hP
    have hD : va_D A [((Ga 0), .inr (11, [.ref (Ga 1), .ref (Ga 2), .ref (Ga 3), .ref (Ga 4), .int (Gv 0), .ref (Ga 5), .ref (Aa 0), .ref (Pa 0), .ref (Ga 8), .ref (Ga 9), .ref (Ga 10), .ref (Ga 11)])), ((Pa 0), .inr (5, [.ref (Pa 1), .int (Pv 0), .int (Pv 1)])), ((Pa 1), .inl (tc 5, 20, .inr (.inr (.inr (.inr (Pq 1)))))), ((Aa 0), .inr (9, [.int (Av 0), .int (Av 1), .int (Av 2), .int (Av 3), .int (Av 4), .int (Av 5), .ref (Aa 1), .ref (Aa 2), .ref (Aa 3), .ref (Aa 4), .ref (Aa 5), .ref (Aa 6), .ref (Aa 7), .ref (Aa 8)])), ((Aa 1), .inl (tc 0, 10, .inl (Af 1))), ((Aa 2), .inl (tc 0, 10, .inl (Af 2))), ((Aa 3), .inl (tc 0, 6, .inl (Af 3))), ((Aa 4), .inl (tc 0, 6, .inl (Af 4))), ((Aa 5), .inl (tc 0, 6, .inl (Af 5))), ((Aa 6), .inl (tc 0, 6, .inl (Af 6))), ((Aa 7), .inl (tc 0, 6, .inl (Af 7))), ((Aa 8), .inl (tc 0, 6, .inl (Af 8)))] := hD
    refine lv_if_eq (tgt := 34) hx hb dX11_calm_18 (by decide) (fun c_15 => ?_) (fun c_15 => ?_)
    · skip
      refine lv_iconst (v := (-1)) hx hb dX11_calm_34 (by decide) ?_
      have ha_16 : 0 ≤ ((Pv 0) : Int32).toInt ∧ ((Pv 0) : Int32).toInt < 20 := by
        have z_1 : ¬ (r_4 : Int32).toInt = (0 : Int32).toInt := fun z => c_6 (Int32.toInt_inj.mp z)
        have z_2 := congrArg Int32.toInt c_15
        have y_0 : (0 : Int32).toInt = 0 := by decide
        omega
      have ha_17 : 0 ≤ ((Av 3) : Int32).toInt ∧ ((Av 3) : Int32).toInt ≤ 6 := by
        have z_1 : ¬ (r_4 : Int32).toInt = (0 : Int32).toInt := fun z => c_6 (Int32.toInt_inj.mp z)
        have z_2 := congrArg Int32.toInt c_15
        have y_0 : (0 : Int32).toInt = 0 := by decide
        omega
      exact retI (v := (-1)) hx hb hr hlk (rfl) hP hD hS (false, 0, 0, 0, 0, 0, 0, 0, 0, 0, (fun _ => 0), 0, 0, (fun _ => 0), (fun _ => 0), (fun _ => 0), (fun _ => 0), (fun _ => 0), (fun _ => 0), (fun _ => 0), (fun _ => 0), (Af 3)) ⟨_, rfl, trivial, ha_16, ha_17⟩ [0, 3, 4, 5, 6, 7, 8, 9, 10, 11, 1, 2] rfl rfl dX11_calm_35 (Nat.le_of_ble_eq_true rfl) (Nat.le_of_ble_eq_true rfl) rfl
    · skip
      refine lv_aload_n hx hb dX11_calm_21 rfl (lv_at hl 0 rfl) ?_
      refine gf_X11_51 hx hb hts hown hK hP 0 rfl rfl dX11_calm_22 ?_
      refine gf_X11_137 hx hb hts hown hK hP 3 rfl rfl dX11_calm_25 ?_
      refine lv_iload_n hx hb dX11_calm_28 rfl (lv_at hl 1 rfl) ?_
      have hi_18 : vp_in x1 6 := by
        have z_1 : ¬ (r_4 : Int32).toInt = (0 : Int32).toInt := fun z => c_6 (Int32.toInt_inj.mp z)
        have z_2 : ¬ (r_12 : Int32).toInt = (0 : Int32).toInt := fun z => c_15 (Int32.toInt_inj.mp z)
        have y_0 : (0 : Int32).toInt = 0 := by decide
        refine vp_in_iff.mpr ⟨?_, ?_⟩ <;> omega
      refine va_iald hx hb hK hP 6 0 rfl rfl hi_18 dX11_calm_29 ?_
      refine lv_topi (fun x_19 ex_19 => ?_)
      refine lv_iload_n hx hb dX11_calm_30 rfl (lv_at hl 2 rfl) ?_
      refine lv_icmp_ge (tgt := 36) hx hb dX11_calm_31 (by decide) (fun c_20 => ?_) (fun c_20 => ?_)
      · skip
        refine lv_aload_n hx hb dX11_calm_36 rfl (lv_at hl 0 rfl) ?_
        refine gf_X11_57 hx hb hts hown hK hP 0 rfl rfl dX11_calm_37 ?_
        refine lv_aload_n hx hb dX11_calm_40 rfl (lv_at hl 0 rfl) ?_
        refine gf_X11_51 hx hb hts hown hK hP 0 rfl rfl dX11_calm_41 ?_
        have ha_21 : 0 ≤ ((Pv 0) : Int32).toInt ∧ ((Pv 0) : Int32).toInt < 20 := by
          have z_1 : ¬ (r_4 : Int32).toInt = (0 : Int32).toInt := fun z => c_6 (Int32.toInt_inj.mp z)
          have z_2 : ¬ (r_12 : Int32).toInt = (0 : Int32).toInt := fun z => c_15 (Int32.toInt_inj.mp z)
          have z_3 := Int32.le_iff_toInt_le.mp c_20
          have y_0 : (0 : Int32).toInt = 0 := by decide
          omega
        refine cV (a := (Pa 0)) (As := [.ref (Aa 0)]) (rest := []) (wr := [((Ga 0), .inr (11, [.ref (Ga 1), .ref (Ga 2), .ref (Ga 3), .ref (Ga 4), .int (Gv 0), .ref (Ga 5), .ref (Aa 0), .ref (Pa 0), .ref (Ga 8), .ref (Ga 9), .ref (Ga 10), .ref (Ga 11)]))]) ⟨hx, hb, hml, hown, hts⟩ hK hX hA (ct_X5_keep_n l D tc sk Pa Pv Pq Aa Av Af ha_21 h_q) k_728 k_725 k_726 k_727 k_102 pl_X5_keep ⟨Nat.le_of_ble_eq_true rfl, Nat.le_of_ble_eq_true rfl⟩ rfl rfl (va_recv hK hP (ci := 5) (q0 := 1) rfl rfl) hP hD hS [1, 2, 3, 4, 5, 6, 7, 8, 9, 10, 11] [0] rfl rfl rfl rfl rfl (by decide) rfl hl.1 rfl (Nat.le_of_ble_eq_true rfl) dX11_calm_44 ⟨Nat.le_of_ble_eq_true rfl, Nat.le_of_ble_eq_true rfl⟩ (fun v_22 u_23 H locs hv_24 hP hD hS => ?_)
        obtain ⟨sv_25, sv_26, sv_27, sv_28, sv_29, sv_30, sv_31, sv_32, sv_33, sv_34, sv_35, sv_36, sv_37, sv_38, sv_39, sv_40, sv_41, sv_42, sv_43, sv_44⟩ := u_23
        cases sv_25
        · skip
          obtain ⟨rfl, pf_45⟩ := hv_24
          have pf_45 : 0 ≤ ((Pv 0) : Int32).toInt ∧ ((Pv 0) : Int32).toInt < 20 := pf_45
          refine W.eq (g2 := F0 m 47 ls []) rfl ?_
          have hP : va_P D classes [((Ga 0), .inr (11, [.ref (Ga 1), .ref (Ga 2), .ref (Ga 3), .ref (Ga 4), .int (Gv 0), .ref (Ga 5), .ref (Aa 0), .ref (Pa 0), .ref (Ga 8), .ref (Ga 9), .ref (Ga 10), .ref (Ga 11)])), ((Pa 0), .inr (5, [.ref (Pa 1), .int (Pv 0), .int (Pv 1)])), ((Pa 1), .inl (tc 5, 20, .inr (.inr (.inr (.inr (Pq 1)))))), ((Aa 0), .inr (9, [.int (Av 0), .int (Av 1), .int (Av 2), .int (Av 3), .int (Av 4), .int (Av 5), .ref (Aa 1), .ref (Aa 2), .ref (Aa 3), .ref (Aa 4), .ref (Aa 5), .ref (Aa 6), .ref (Aa 7), .ref (Aa 8)])), ((Aa 1), .inl (tc 0, 10, .inl (Af 1))), ((Aa 2), .inl (tc 0, 10, .inl (Af 2))), ((Aa 3), .inl (tc 0, 6, .inl (Af 3))), ((Aa 4), .inl (tc 0, 6, .inl (Af 4))), ((Aa 5), .inl (tc 0, 6, .inl (Af 5))), ((Aa 6), .inl (tc 0, 6, .inl (Af 6))), ((Aa 7), .inl (tc 0, 6, .inl (Af 7))), ((Aa 8), .inl (tc 0, 6, .inl (Af 8)))] H := hP
          have hD : va_D A [((Ga 0), .inr (11, [.ref (Ga 1), .ref (Ga 2), .ref (Ga 3), .ref (Ga 4), .int (Gv 0), .ref (Ga 5), .ref (Aa 0), .ref (Pa 0), .ref (Ga 8), .ref (Ga 9), .ref (Ga 10), .ref (Ga 11)])), ((Pa 0), .inr (5, [.ref (Pa 1), .int (Pv 0), .int (Pv 1)])), ((Pa 1), .inl (tc 5, 20, .inr (.inr (.inr (.inr (Pq 1)))))), ((Aa 0), .inr (9, [.int (Av 0), .int (Av 1), .int (Av 2), .int (Av 3), .int (Av 4), .int (Av 5), .ref (Aa 1), .ref (Aa 2), .ref (Aa 3), .ref (Aa 4), .ref (Aa 5), .ref (Aa 6), .ref (Aa 7), .ref (Aa 8)])), ((Aa 1), .inl (tc 0, 10, .inl (Af 1))), ((Aa 2), .inl (tc 0, 10, .inl (Af 2))), ((Aa 3), .inl (tc 0, 6, .inl (Af 3))), ((Aa 4), .inl (tc 0, 6, .inl (Af 4))), ((Aa 5), .inl (tc 0, 6, .inl (Af 5))), ((Aa 6), .inl (tc 0, 6, .inl (Af 6))), ((Aa 7), .inl (tc 0, 6, .inl (Af 7))), ((Aa 8), .inl (tc 0, 6, .inl (Af 8)))] := hD
          refine lv_aload_n hx hb dX11_calm_47 rfl (lv_at hl 0 rfl) ?_
          refine gf_X11_51 hx hb hts hown hK hP 0 rfl rfl dX11_calm_48 ?_
          refine gf_X11_137 hx hb hts hown hK hP 3 rfl rfl dX11_calm_51 ?_
          refine lv_iload_n hx hb dX11_calm_54 rfl (lv_at hl 1 rfl) ?_
          refine lv_dup2_11 hx hb dX11_calm_55 rfl rfl ?_
          have hi_46 : vp_in x1 6 := by
            have z_1 : ¬ (r_4 : Int32).toInt = (0 : Int32).toInt := fun z => c_6 (Int32.toInt_inj.mp z)
            have z_2 : ¬ (r_12 : Int32).toInt = (0 : Int32).toInt := fun z => c_15 (Int32.toInt_inj.mp z)
            have z_3 := Int32.le_iff_toInt_le.mp c_20
            have y_0 : (0 : Int32).toInt = 0 := by decide
            refine vp_in_iff.mpr ⟨?_, ?_⟩ <;> omega
          refine va_iald hx hb hK hP 6 0 rfl rfl hi_46 dX11_calm_56 ?_
          refine lv_topi (fun x_47 ex_47 => ?_)
          refine lv_iload_n hx hb dX11_calm_57 rfl (lv_at hl 2 rfl) ?_
          refine lv_isub hx hb dX11_calm_58 ?_
          refine lv_topi (fun x_48 ex_48 => ?_)
          have hi_49 : vp_in x1 6 := by
            have z_1 : ¬ (r_4 : Int32).toInt = (0 : Int32).toInt := fun z => c_6 (Int32.toInt_inj.mp z)
            have z_2 : ¬ (r_12 : Int32).toInt = (0 : Int32).toInt := fun z => c_15 (Int32.toInt_inj.mp z)
            have z_3 := Int32.le_iff_toInt_le.mp c_20
            have y_0 : (0 : Int32).toInt = 0 := by decide
            refine vp_in_iff.mpr ⟨?_, ?_⟩ <;> omega
          refine st_int hx hb hK hP hD hS 6 0 rfl rfl hi_49 dX11_calm_59 (fun g_50 H locs eg_50 hP hD hS => ?_)
          have hP : va_P D classes [((Ga 0), .inr (11, [.ref (Ga 1), .ref (Ga 2), .ref (Ga 3), .ref (Ga 4), .int (Gv 0), .ref (Ga 5), .ref (Aa 0), .ref (Pa 0), .ref (Ga 8), .ref (Ga 9), .ref (Ga 10), .ref (Ga 11)])), ((Pa 0), .inr (5, [.ref (Pa 1), .int (Pv 0), .int (Pv 1)])), ((Pa 1), .inl (tc 5, 20, .inr (.inr (.inr (.inr (Pq 1)))))), ((Aa 0), .inr (9, [.int (Av 0), .int (Av 1), .int (Av 2), .int (Av 3), .int (Av 4), .int (Av 5), .ref (Aa 1), .ref (Aa 2), .ref (Aa 3), .ref (Aa 4), .ref (Aa 5), .ref (Aa 6), .ref (Aa 7), .ref (Aa 8)])), ((Aa 1), .inl (tc 0, 10, .inl (Af 1))), ((Aa 2), .inl (tc 0, 10, .inl (Af 2))), ((Aa 3), .inl (tc 0, 6, .inl g_50)), ((Aa 4), .inl (tc 0, 6, .inl (Af 4))), ((Aa 5), .inl (tc 0, 6, .inl (Af 5))), ((Aa 6), .inl (tc 0, 6, .inl (Af 6))), ((Aa 7), .inl (tc 0, 6, .inl (Af 7))), ((Aa 8), .inl (tc 0, 6, .inl (Af 8)))] H := hP
          have hD : va_D A [((Ga 0), .inr (11, [.ref (Ga 1), .ref (Ga 2), .ref (Ga 3), .ref (Ga 4), .int (Gv 0), .ref (Ga 5), .ref (Aa 0), .ref (Pa 0), .ref (Ga 8), .ref (Ga 9), .ref (Ga 10), .ref (Ga 11)])), ((Pa 0), .inr (5, [.ref (Pa 1), .int (Pv 0), .int (Pv 1)])), ((Pa 1), .inl (tc 5, 20, .inr (.inr (.inr (.inr (Pq 1)))))), ((Aa 0), .inr (9, [.int (Av 0), .int (Av 1), .int (Av 2), .int (Av 3), .int (Av 4), .int (Av 5), .ref (Aa 1), .ref (Aa 2), .ref (Aa 3), .ref (Aa 4), .ref (Aa 5), .ref (Aa 6), .ref (Aa 7), .ref (Aa 8)])), ((Aa 1), .inl (tc 0, 10, .inl (Af 1))), ((Aa 2), .inl (tc 0, 10, .inl (Af 2))), ((Aa 3), .inl (tc 0, 6, .inl g_50)), ((Aa 4), .inl (tc 0, 6, .inl (Af 4))), ((Aa 5), .inl (tc 0, 6, .inl (Af 5))), ((Aa 6), .inl (tc 0, 6, .inl (Af 6))), ((Aa 7), .inl (tc 0, 6, .inl (Af 7))), ((Aa 8), .inl (tc 0, 6, .inl (Af 8)))] := hD
          refine lv_aload_n hx hb dX11_calm_60 rfl (lv_at hl 0 rfl) ?_
          refine gf_X11_51 hx hb hts hown hK hP 0 rfl rfl dX11_calm_61 ?_
          refine gf_X11_137 hx hb hts hown hK hP 3 rfl rfl dX11_calm_64 ?_
          refine lv_iload_n hx hb dX11_calm_67 rfl (lv_at hl 1 rfl) ?_
          have hi_51 : vp_in x1 6 := by
            have z_1 : ¬ (r_4 : Int32).toInt = (0 : Int32).toInt := fun z => c_6 (Int32.toInt_inj.mp z)
            have z_2 : ¬ (r_12 : Int32).toInt = (0 : Int32).toInt := fun z => c_15 (Int32.toInt_inj.mp z)
            have z_3 := Int32.le_iff_toInt_le.mp c_20
            have y_0 : (0 : Int32).toInt = 0 := by decide
            refine vp_in_iff.mpr ⟨?_, ?_⟩ <;> omega
          refine va_iald hx hb hK hP 6 0 rfl rfl hi_51 dX11_calm_68 ?_
          refine lv_topi (fun x_52 ex_52 => ?_)
          have ha_53 : 0 ≤ ((Pv 0) : Int32).toInt ∧ ((Pv 0) : Int32).toInt < 20 := by
            have z_1 : ¬ (r_4 : Int32).toInt = (0 : Int32).toInt := fun z => c_6 (Int32.toInt_inj.mp z)
            have z_2 : ¬ (r_12 : Int32).toInt = (0 : Int32).toInt := fun z => c_15 (Int32.toInt_inj.mp z)
            have z_3 := Int32.le_iff_toInt_le.mp c_20
            have y_0 : (0 : Int32).toInt = 0 := by decide
            omega
          have ha_54 : 0 ≤ ((Av 3) : Int32).toInt ∧ ((Av 3) : Int32).toInt ≤ 6 := by
            have z_1 : ¬ (r_4 : Int32).toInt = (0 : Int32).toInt := fun z => c_6 (Int32.toInt_inj.mp z)
            have z_2 : ¬ (r_12 : Int32).toInt = (0 : Int32).toInt := fun z => c_15 (Int32.toInt_inj.mp z)
            have z_3 := Int32.le_iff_toInt_le.mp c_20
            have y_0 : (0 : Int32).toInt = 0 := by decide
            omega
          exact retI (v := x_52) hx hb hr hlk (rfl) hP hD hS (false, 0, 0, 0, 0, 0, 0, 0, 0, 0, (fun _ => 0), 0, 0, (fun _ => 0), (fun _ => 0), (fun _ => 0), (fun _ => 0), (fun _ => 0), (fun _ => 0), (fun _ => 0), (fun _ => 0), g_50) ⟨_, rfl, trivial, ha_53, ha_54⟩ [0, 3, 4, 5, 6, 7, 8, 9, 10, 11, 1, 2] rfl rfl dX11_calm_69 (Nat.le_of_ble_eq_true rfl) (Nat.le_of_ble_eq_true rfl) rfl
        · skip
          obtain ⟨rfl, pf_55⟩ := hv_24
          have pf_55 : 0 ≤ (sv_35 : Int32).toInt ∧ (sv_35 : Int32).toInt < 20 := pf_55
          refine W.eq (g2 := F0 m 47 ls []) rfl ?_
          have hP : va_P D classes [((Ga 0), .inr (11, [.ref (Ga 1), .ref (Ga 2), .ref (Ga 3), .ref (Ga 4), .int (Gv 0), .ref (Ga 5), .ref (Aa 0), .ref (Pa 0), .ref (Ga 8), .ref (Ga 9), .ref (Ga 10), .ref (Ga 11)])), ((Pa 0), .inr (5, [.ref (Pa 1), .int sv_35, .int sv_36])), ((Pa 1), .inl (tc 5, 20, .inr (.inr (.inr (.inr (va_up (Pq 1) ((Pv 0) : Int32).toNatClampNeg (some sv_26))))))), ((Aa 0), .inr (9, [.int (Av 0), .int (Av 1), .int (Av 2), .int (Av 3), .int (Av 4), .int (Av 5), .ref (Aa 1), .ref (Aa 2), .ref (Aa 3), .ref (Aa 4), .ref (Aa 5), .ref (Aa 6), .ref (Aa 7), .ref (Aa 8)])), ((Aa 1), .inl (tc 0, 10, .inl (Af 1))), ((Aa 2), .inl (tc 0, 10, .inl (Af 2))), ((Aa 3), .inl (tc 0, 6, .inl (Af 3))), ((Aa 4), .inl (tc 0, 6, .inl (Af 4))), ((Aa 5), .inl (tc 0, 6, .inl (Af 5))), ((Aa 6), .inl (tc 0, 6, .inl (Af 6))), ((Aa 7), .inl (tc 0, 6, .inl (Af 7))), ((Aa 8), .inl (tc 0, 6, .inl (Af 8))), (sv_26, .inr (9, [.int (Av 0), .int (Av 1), .int (Av 2), .int (Av 3), .int (Av 4), .int (Av 5), .ref sv_27, .ref sv_28, .ref sv_29, .ref sv_30, .ref sv_31, .ref sv_32, .ref sv_33, .ref sv_34])), (sv_27, .inl (tc 0, 10, .inl sv_37)), (sv_28, .inl (tc 0, 10, .inl sv_38)), (sv_29, .inl (tc 0, 6, .inl sv_39)), (sv_30, .inl (tc 0, 6, .inl sv_40)), (sv_31, .inl (tc 0, 6, .inl sv_41)), (sv_32, .inl (tc 0, 6, .inl sv_42)), (sv_33, .inl (tc 0, 6, .inl sv_43)), (sv_34, .inl (tc 0, 6, .inl sv_44))] H := hP
          have hD : va_D A [((Ga 0), .inr (11, [.ref (Ga 1), .ref (Ga 2), .ref (Ga 3), .ref (Ga 4), .int (Gv 0), .ref (Ga 5), .ref (Aa 0), .ref (Pa 0), .ref (Ga 8), .ref (Ga 9), .ref (Ga 10), .ref (Ga 11)])), ((Pa 0), .inr (5, [.ref (Pa 1), .int sv_35, .int sv_36])), ((Pa 1), .inl (tc 5, 20, .inr (.inr (.inr (.inr (va_up (Pq 1) ((Pv 0) : Int32).toNatClampNeg (some sv_26))))))), ((Aa 0), .inr (9, [.int (Av 0), .int (Av 1), .int (Av 2), .int (Av 3), .int (Av 4), .int (Av 5), .ref (Aa 1), .ref (Aa 2), .ref (Aa 3), .ref (Aa 4), .ref (Aa 5), .ref (Aa 6), .ref (Aa 7), .ref (Aa 8)])), ((Aa 1), .inl (tc 0, 10, .inl (Af 1))), ((Aa 2), .inl (tc 0, 10, .inl (Af 2))), ((Aa 3), .inl (tc 0, 6, .inl (Af 3))), ((Aa 4), .inl (tc 0, 6, .inl (Af 4))), ((Aa 5), .inl (tc 0, 6, .inl (Af 5))), ((Aa 6), .inl (tc 0, 6, .inl (Af 6))), ((Aa 7), .inl (tc 0, 6, .inl (Af 7))), ((Aa 8), .inl (tc 0, 6, .inl (Af 8))), (sv_26, .inr (9, [.int (Av 0), .int (Av 1), .int (Av 2), .int (Av 3), .int (Av 4), .int (Av 5), .ref sv_27, .ref sv_28, .ref sv_29, .ref sv_30, .ref sv_31, .ref sv_32, .ref sv_33, .ref sv_34])), (sv_27, .inl (tc 0, 10, .inl sv_37)), (sv_28, .inl (tc 0, 10, .inl sv_38)), (sv_29, .inl (tc 0, 6, .inl sv_39)), (sv_30, .inl (tc 0, 6, .inl sv_40)), (sv_31, .inl (tc 0, 6, .inl sv_41)), (sv_32, .inl (tc 0, 6, .inl sv_42)), (sv_33, .inl (tc 0, 6, .inl sv_43)), (sv_34, .inl (tc 0, 6, .inl sv_44))] := hD
          refine lv_aload_n hx hb dX11_calm_47 rfl (lv_at hl 0 rfl) ?_
          refine gf_X11_51 hx hb hts hown hK hP 0 rfl rfl dX11_calm_48 ?_
          refine gf_X11_137 hx hb hts hown hK hP 3 rfl rfl dX11_calm_51 ?_
          refine lv_iload_n hx hb dX11_calm_54 rfl (lv_at hl 1 rfl) ?_
          refine lv_dup2_11 hx hb dX11_calm_55 rfl rfl ?_
          have hi_56 : vp_in x1 6 := by
            have z_1 : ¬ (r_4 : Int32).toInt = (0 : Int32).toInt := fun z => c_6 (Int32.toInt_inj.mp z)
            have z_2 : ¬ (r_12 : Int32).toInt = (0 : Int32).toInt := fun z => c_15 (Int32.toInt_inj.mp z)
            have z_3 := Int32.le_iff_toInt_le.mp c_20
            have y_0 : (0 : Int32).toInt = 0 := by decide
            refine vp_in_iff.mpr ⟨?_, ?_⟩ <;> omega
          refine va_iald hx hb hK hP 6 0 rfl rfl hi_56 dX11_calm_56 ?_
          refine lv_topi (fun x_57 ex_57 => ?_)
          refine lv_iload_n hx hb dX11_calm_57 rfl (lv_at hl 2 rfl) ?_
          refine lv_isub hx hb dX11_calm_58 ?_
          refine lv_topi (fun x_58 ex_58 => ?_)
          have hi_59 : vp_in x1 6 := by
            have z_1 : ¬ (r_4 : Int32).toInt = (0 : Int32).toInt := fun z => c_6 (Int32.toInt_inj.mp z)
            have z_2 : ¬ (r_12 : Int32).toInt = (0 : Int32).toInt := fun z => c_15 (Int32.toInt_inj.mp z)
            have z_3 := Int32.le_iff_toInt_le.mp c_20
            have y_0 : (0 : Int32).toInt = 0 := by decide
            refine vp_in_iff.mpr ⟨?_, ?_⟩ <;> omega
          refine st_int hx hb hK hP hD hS 6 0 rfl rfl hi_59 dX11_calm_59 (fun g_60 H locs eg_60 hP hD hS => ?_)
          have hP : va_P D classes [((Ga 0), .inr (11, [.ref (Ga 1), .ref (Ga 2), .ref (Ga 3), .ref (Ga 4), .int (Gv 0), .ref (Ga 5), .ref (Aa 0), .ref (Pa 0), .ref (Ga 8), .ref (Ga 9), .ref (Ga 10), .ref (Ga 11)])), ((Pa 0), .inr (5, [.ref (Pa 1), .int sv_35, .int sv_36])), ((Pa 1), .inl (tc 5, 20, .inr (.inr (.inr (.inr (va_up (Pq 1) ((Pv 0) : Int32).toNatClampNeg (some sv_26))))))), ((Aa 0), .inr (9, [.int (Av 0), .int (Av 1), .int (Av 2), .int (Av 3), .int (Av 4), .int (Av 5), .ref (Aa 1), .ref (Aa 2), .ref (Aa 3), .ref (Aa 4), .ref (Aa 5), .ref (Aa 6), .ref (Aa 7), .ref (Aa 8)])), ((Aa 1), .inl (tc 0, 10, .inl (Af 1))), ((Aa 2), .inl (tc 0, 10, .inl (Af 2))), ((Aa 3), .inl (tc 0, 6, .inl g_60)), ((Aa 4), .inl (tc 0, 6, .inl (Af 4))), ((Aa 5), .inl (tc 0, 6, .inl (Af 5))), ((Aa 6), .inl (tc 0, 6, .inl (Af 6))), ((Aa 7), .inl (tc 0, 6, .inl (Af 7))), ((Aa 8), .inl (tc 0, 6, .inl (Af 8))), (sv_26, .inr (9, [.int (Av 0), .int (Av 1), .int (Av 2), .int (Av 3), .int (Av 4), .int (Av 5), .ref sv_27, .ref sv_28, .ref sv_29, .ref sv_30, .ref sv_31, .ref sv_32, .ref sv_33, .ref sv_34])), (sv_27, .inl (tc 0, 10, .inl sv_37)), (sv_28, .inl (tc 0, 10, .inl sv_38)), (sv_29, .inl (tc 0, 6, .inl sv_39)), (sv_30, .inl (tc 0, 6, .inl sv_40)), (sv_31, .inl (tc 0, 6, .inl sv_41)), (sv_32, .inl (tc 0, 6, .inl sv_42)), (sv_33, .inl (tc 0, 6, .inl sv_43)), (sv_34, .inl (tc 0, 6, .inl sv_44))] H := hP
          have hD : va_D A [((Ga 0), .inr (11, [.ref (Ga 1), .ref (Ga 2), .ref (Ga 3), .ref (Ga 4), .int (Gv 0), .ref (Ga 5), .ref (Aa 0), .ref (Pa 0), .ref (Ga 8), .ref (Ga 9), .ref (Ga 10), .ref (Ga 11)])), ((Pa 0), .inr (5, [.ref (Pa 1), .int sv_35, .int sv_36])), ((Pa 1), .inl (tc 5, 20, .inr (.inr (.inr (.inr (va_up (Pq 1) ((Pv 0) : Int32).toNatClampNeg (some sv_26))))))), ((Aa 0), .inr (9, [.int (Av 0), .int (Av 1), .int (Av 2), .int (Av 3), .int (Av 4), .int (Av 5), .ref (Aa 1), .ref (Aa 2), .ref (Aa 3), .ref (Aa 4), .ref (Aa 5), .ref (Aa 6), .ref (Aa 7), .ref (Aa 8)])), ((Aa 1), .inl (tc 0, 10, .inl (Af 1))), ((Aa 2), .inl (tc 0, 10, .inl (Af 2))), ((Aa 3), .inl (tc 0, 6, .inl g_60)), ((Aa 4), .inl (tc 0, 6, .inl (Af 4))), ((Aa 5), .inl (tc 0, 6, .inl (Af 5))), ((Aa 6), .inl (tc 0, 6, .inl (Af 6))), ((Aa 7), .inl (tc 0, 6, .inl (Af 7))), ((Aa 8), .inl (tc 0, 6, .inl (Af 8))), (sv_26, .inr (9, [.int (Av 0), .int (Av 1), .int (Av 2), .int (Av 3), .int (Av 4), .int (Av 5), .ref sv_27, .ref sv_28, .ref sv_29, .ref sv_30, .ref sv_31, .ref sv_32, .ref sv_33, .ref sv_34])), (sv_27, .inl (tc 0, 10, .inl sv_37)), (sv_28, .inl (tc 0, 10, .inl sv_38)), (sv_29, .inl (tc 0, 6, .inl sv_39)), (sv_30, .inl (tc 0, 6, .inl sv_40)), (sv_31, .inl (tc 0, 6, .inl sv_41)), (sv_32, .inl (tc 0, 6, .inl sv_42)), (sv_33, .inl (tc 0, 6, .inl sv_43)), (sv_34, .inl (tc 0, 6, .inl sv_44))] := hD
          refine lv_aload_n hx hb dX11_calm_60 rfl (lv_at hl 0 rfl) ?_
          refine gf_X11_51 hx hb hts hown hK hP 0 rfl rfl dX11_calm_61 ?_
          refine gf_X11_137 hx hb hts hown hK hP 3 rfl rfl dX11_calm_64 ?_
          refine lv_iload_n hx hb dX11_calm_67 rfl (lv_at hl 1 rfl) ?_
          have hi_61 : vp_in x1 6 := by
            have z_1 : ¬ (r_4 : Int32).toInt = (0 : Int32).toInt := fun z => c_6 (Int32.toInt_inj.mp z)
            have z_2 : ¬ (r_12 : Int32).toInt = (0 : Int32).toInt := fun z => c_15 (Int32.toInt_inj.mp z)
            have z_3 := Int32.le_iff_toInt_le.mp c_20
            have y_0 : (0 : Int32).toInt = 0 := by decide
            refine vp_in_iff.mpr ⟨?_, ?_⟩ <;> omega
          refine va_iald hx hb hK hP 6 0 rfl rfl hi_61 dX11_calm_68 ?_
          refine lv_topi (fun x_62 ex_62 => ?_)
          have ha_63 : 0 ≤ (sv_35 : Int32).toInt ∧ (sv_35 : Int32).toInt < 20 := by
            have z_1 : ¬ (r_4 : Int32).toInt = (0 : Int32).toInt := fun z => c_6 (Int32.toInt_inj.mp z)
            have z_2 : ¬ (r_12 : Int32).toInt = (0 : Int32).toInt := fun z => c_15 (Int32.toInt_inj.mp z)
            have z_3 := Int32.le_iff_toInt_le.mp c_20
            have y_0 : (0 : Int32).toInt = 0 := by decide
            omega
          have ha_64 : 0 ≤ ((Av 3) : Int32).toInt ∧ ((Av 3) : Int32).toInt ≤ 6 := by
            have z_1 : ¬ (r_4 : Int32).toInt = (0 : Int32).toInt := fun z => c_6 (Int32.toInt_inj.mp z)
            have z_2 : ¬ (r_12 : Int32).toInt = (0 : Int32).toInt := fun z => c_15 (Int32.toInt_inj.mp z)
            have z_3 := Int32.le_iff_toInt_le.mp c_20
            have y_0 : (0 : Int32).toInt = 0 := by decide
            omega
          have ha_65 : 0 ≤ ((Av 3) : Int32).toInt ∧ ((Av 3) : Int32).toInt ≤ 6 := by
            have z_1 : ¬ (r_4 : Int32).toInt = (0 : Int32).toInt := fun z => c_6 (Int32.toInt_inj.mp z)
            have z_2 : ¬ (r_12 : Int32).toInt = (0 : Int32).toInt := fun z => c_15 (Int32.toInt_inj.mp z)
            have z_3 := Int32.le_iff_toInt_le.mp c_20
            have y_0 : (0 : Int32).toInt = 0 := by decide
            omega
          exact retI (v := x_62) hx hb hr hlk (rfl) hP hD hS (true, sv_26, sv_27, sv_28, sv_29, sv_30, sv_31, sv_32, sv_33, sv_34, g_60, sv_35, sv_36, sv_37, sv_38, sv_39, sv_40, sv_41, sv_42, sv_43, sv_44, (fun _ => 0)) ⟨_, rfl, trivial, ha_63, ha_64, ha_65⟩ [0, 3, 4, 5, 6, 7, 8, 9, 10, 11, 1, 2, 12, 13, 14, 15, 16, 17, 18, 19, 20] rfl rfl dX11_calm_69 (Nat.le_of_ble_eq_true rfl) (Nat.le_of_ble_eq_true rfl) rfl
      · skip
        refine lv_iconst (v := (-1)) hx hb dX11_calm_34 (by decide) ?_
        have ha_66 : 0 ≤ ((Pv 0) : Int32).toInt ∧ ((Pv 0) : Int32).toInt < 20 := by
          have z_1 : ¬ (r_4 : Int32).toInt = (0 : Int32).toInt := fun z => c_6 (Int32.toInt_inj.mp z)
          have z_2 : ¬ (r_12 : Int32).toInt = (0 : Int32).toInt := fun z => c_15 (Int32.toInt_inj.mp z)
          have z_3 := Int32.lt_iff_toInt_lt.mp (Int32.not_le.mp c_20)
          have y_0 : (0 : Int32).toInt = 0 := by decide
          omega
        have ha_67 : 0 ≤ ((Av 3) : Int32).toInt ∧ ((Av 3) : Int32).toInt ≤ 6 := by
          have z_1 : ¬ (r_4 : Int32).toInt = (0 : Int32).toInt := fun z => c_6 (Int32.toInt_inj.mp z)
          have z_2 : ¬ (r_12 : Int32).toInt = (0 : Int32).toInt := fun z => c_15 (Int32.toInt_inj.mp z)
          have z_3 := Int32.lt_iff_toInt_lt.mp (Int32.not_le.mp c_20)
          have y_0 : (0 : Int32).toInt = 0 := by decide
          omega
        exact retI (v := (-1)) hx hb hr hlk (rfl) hP hD hS (false, 0, 0, 0, 0, 0, 0, 0, 0, 0, (fun _ => 0), 0, 0, (fun _ => 0), (fun _ => 0), (fun _ => 0), (fun _ => 0), (fun _ => 0), (fun _ => 0), (fun _ => 0), (fun _ => 0), (Af 3)) ⟨_, rfl, trivial, ha_66, ha_67⟩ [0, 3, 4, 5, 6, 7, 8, 9, 10, 11, 1, 2] rfl rfl dX11_calm_35 (Nat.le_of_ble_eq_true rfl) (Nat.le_of_ble_eq_true rfl) rfl
set_option maxHeartbeats 4000000 in
set_option maxRecDepth 100000 in
theorem ct_X11_watch_n (l : Launch) (D : va_G) (tc : Nat → ClassId) (sk : (Nat → Nat) × (Nat → Nat)) (Ga : Nat → Nat) (Gv : Nat → Int32) (Aa : Nat → Nat) (Av : Nat → Int32) (Af : Nat → Nat → Int32) (Pa : Nat → Nat) (Pv : Nat → Int32) (Pq : Nat → Nat → Option Nat) (x1 : Int32) (x2 : Int32) (h_nx : 0 ≤ ((Pv 0) : Int32).toInt ∧ ((Pv 0) : Int32).toInt < 20) (h_q : (Pq 1) (Pv 0).toNatClampNeg = none) (h_bA : 0 ≤ ((Av 3) : Int32).toInt ∧ ((Av 3) : Int32).toInt ≤ 6) : Ct l yX11_watch cX11_watch 3 (some .int) { frames := 3, cells := 9, slots := 70, locals := 83 } D tc sk [.ref (Ga 0), .int x1, .int x2] [((Ga 0), .inr (11, [.ref (Ga 1), .ref (Ga 2), .ref (Ga 3), .ref (Ga 4), .int (Gv 0), .ref (Ga 5), .ref (Aa 0), .ref (Pa 0), .ref (Ga 8), .ref (Ga 9), .ref (Ga 10), .ref (Ga 11)])), ((Aa 0), .inr (9, [.int (Av 0), .int (Av 1), .int (Av 2), .int (Av 3), .int (Av 4), .int (Av 5), .ref (Aa 1), .ref (Aa 2), .ref (Aa 3), .ref (Aa 4), .ref (Aa 5), .ref (Aa 6), .ref (Aa 7), .ref (Aa 8)])), ((Aa 1), .inl (tc 0, 10, .inl (Af 1))), ((Aa 2), .inl (tc 0, 10, .inl (Af 2))), ((Aa 3), .inl (tc 0, 6, .inl (Af 3))), ((Aa 4), .inl (tc 0, 6, .inl (Af 4))), ((Aa 5), .inl (tc 0, 6, .inl (Af 5))), ((Aa 6), .inl (tc 0, 6, .inl (Af 6))), ((Aa 7), .inl (tc 0, 6, .inl (Af 7))), ((Aa 8), .inl (tc 0, 6, .inl (Af 8))), ((Pa 0), .inr (5, [.ref (Pa 1), .int (Pv 0), .int (Pv 1)])), ((Pa 1), .inl (tc 5, 20, .inr (.inr (.inr (.inr (Pq 1))))))] (fun (v : Option Value) (u : (Bool) × (Nat) × (Nat) × (Nat) × (Nat) × (Nat) × (Nat) × (Nat) × (Nat) × (Nat) × (Nat → Int32) × (Int32) × (Int32) × (Nat → Int32) × (Nat → Int32) × (Nat → Int32) × (Nat → Int32) × (Nat → Int32) × (Nat → Int32) × (Nat → Int32) × (Nat → Int32) × (Nat → Int32)) => match u with | (true, na0x0, na0x1, na0x2, na0x3, na0x4, na0x5, na0x6, na0x7, na0x8, oo0x1, oo0x2, oo0x3, oo0x4, oo0x5, oo0x6, oo0x7, oo0x8, oo0x9, oo0x10, oo0x11, oo1x1) => ∃ r : Int32, v = some (.int r) ∧ (True) ∧ (0 ≤ (oo0x2 : Int32).toInt ∧ (oo0x2 : Int32).toInt < 20) ∧ (0 ≤ ((Av 3) : Int32).toInt ∧ ((Av 3) : Int32).toInt ≤ 6) ∧ (0 ≤ ((Av 3) : Int32).toInt ∧ ((Av 3) : Int32).toInt ≤ 6) | (false, na0x0, na0x1, na0x2, na0x3, na0x4, na0x5, na0x6, na0x7, na0x8, oo0x1, oo0x2, oo0x3, oo0x4, oo0x5, oo0x6, oo0x7, oo0x8, oo0x9, oo0x10, oo0x11, oo1x1) => ∃ r : Int32, v = some (.int r) ∧ (True) ∧ (0 ≤ ((Pv 0) : Int32).toInt ∧ ((Pv 0) : Int32).toInt < 20) ∧ (0 ≤ ((Av 3) : Int32).toInt ∧ ((Av 3) : Int32).toInt ≤ 6)) (fun (u : (Bool) × (Nat) × (Nat) × (Nat) × (Nat) × (Nat) × (Nat) × (Nat) × (Nat) × (Nat) × (Nat → Int32) × (Int32) × (Int32) × (Nat → Int32) × (Nat → Int32) × (Nat → Int32) × (Nat → Int32) × (Nat → Int32) × (Nat → Int32) × (Nat → Int32) × (Nat → Int32) × (Nat → Int32)) => match u with | (true, na0x0, na0x1, na0x2, na0x3, na0x4, na0x5, na0x6, na0x7, na0x8, oo0x1, oo0x2, oo0x3, oo0x4, oo0x5, oo0x6, oo0x7, oo0x8, oo0x9, oo0x10, oo0x11, oo1x1) => [((Ga 0), .inr (11, [.ref (Ga 1), .ref (Ga 2), .ref (Ga 3), .ref (Ga 4), .int (Gv 0), .ref (Ga 5), .ref (Aa 0), .ref (Pa 0), .ref (Ga 8), .ref (Ga 9), .ref (Ga 10), .ref (Ga 11)])), ((Aa 0), .inr (9, [.int (Av 0), .int (Av 1), .int (Av 2), .int (Av 3), .int (Av 4), .int (Av 5), .ref (Aa 1), .ref (Aa 2), .ref (Aa 3), .ref (Aa 4), .ref (Aa 5), .ref (Aa 6), .ref (Aa 7), .ref (Aa 8)])), ((Aa 1), .inl (tc 0, 10, .inl (Af 1))), ((Aa 2), .inl (tc 0, 10, .inl oo0x1)), ((Aa 3), .inl (tc 0, 6, .inl (Af 3))), ((Aa 4), .inl (tc 0, 6, .inl (Af 4))), ((Aa 5), .inl (tc 0, 6, .inl (Af 5))), ((Aa 6), .inl (tc 0, 6, .inl (Af 6))), ((Aa 7), .inl (tc 0, 6, .inl (Af 7))), ((Aa 8), .inl (tc 0, 6, .inl (Af 8))), ((Pa 0), .inr (5, [.ref (Pa 1), .int oo0x2, .int oo0x3])), ((Pa 1), .inl (tc 5, 20, .inr (.inr (.inr (.inr (va_up (Pq 1) ((Pv 0) : Int32).toNatClampNeg (some na0x0))))))), (na0x0, .inr (9, [.int (Av 0), .int (Av 1), .int (Av 2), .int (Av 3), .int (Av 4), .int (Av 5), .ref na0x1, .ref na0x2, .ref na0x3, .ref na0x4, .ref na0x5, .ref na0x6, .ref na0x7, .ref na0x8])), (na0x1, .inl (tc 0, 10, .inl oo0x4)), (na0x2, .inl (tc 0, 10, .inl oo0x5)), (na0x3, .inl (tc 0, 6, .inl oo0x6)), (na0x4, .inl (tc 0, 6, .inl oo0x7)), (na0x5, .inl (tc 0, 6, .inl oo0x8)), (na0x6, .inl (tc 0, 6, .inl oo0x9)), (na0x7, .inl (tc 0, 6, .inl oo0x10)), (na0x8, .inl (tc 0, 6, .inl oo0x11))] | (false, na0x0, na0x1, na0x2, na0x3, na0x4, na0x5, na0x6, na0x7, na0x8, oo0x1, oo0x2, oo0x3, oo0x4, oo0x5, oo0x6, oo0x7, oo0x8, oo0x9, oo0x10, oo0x11, oo1x1) => [((Ga 0), .inr (11, [.ref (Ga 1), .ref (Ga 2), .ref (Ga 3), .ref (Ga 4), .int (Gv 0), .ref (Ga 5), .ref (Aa 0), .ref (Pa 0), .ref (Ga 8), .ref (Ga 9), .ref (Ga 10), .ref (Ga 11)])), ((Aa 0), .inr (9, [.int (Av 0), .int (Av 1), .int (Av 2), .int (Av 3), .int (Av 4), .int (Av 5), .ref (Aa 1), .ref (Aa 2), .ref (Aa 3), .ref (Aa 4), .ref (Aa 5), .ref (Aa 6), .ref (Aa 7), .ref (Aa 8)])), ((Aa 1), .inl (tc 0, 10, .inl (Af 1))), ((Aa 2), .inl (tc 0, 10, .inl oo1x1)), ((Aa 3), .inl (tc 0, 6, .inl (Af 3))), ((Aa 4), .inl (tc 0, 6, .inl (Af 4))), ((Aa 5), .inl (tc 0, 6, .inl (Af 5))), ((Aa 6), .inl (tc 0, 6, .inl (Af 6))), ((Aa 7), .inl (tc 0, 6, .inl (Af 7))), ((Aa 8), .inl (tc 0, 6, .inl (Af 8))), ((Pa 0), .inr (5, [.ref (Pa 1), .int (Pv 0), .int (Pv 1)])), ((Pa 1), .inl (tc 5, 20, .inr (.inr (.inr (.inr (Pq 1))))))]) 9 70 := by
  refine Ct.start (by decide) (Nat.le_of_ble_eq_true rfl) (fun p e s m below meth c A ls hx hb hr hlk hin hml hown hts hK hX hP hD hA hl hS => ?_)
  have hl : lv_has ls 3 [(0, .ref (Ga 0)), (1, .int x1), (2, .int x2)] := hl
  refine lv_aload_n hx hb dX11_watch_0 rfl (lv_at hl 0 rfl) ?_
  refine gf_X11_51 hx hb hts hown hK hP 0 rfl rfl dX11_watch_1 ?_
  refine lv_iload_n hx hb dX11_watch_4 rfl (lv_at hl 1 rfl) ?_
  refine cV (a := (Aa 0)) (As := [.int x1]) (rest := []) (wr := [((Ga 0), .inr (11, [.ref (Ga 1), .ref (Ga 2), .ref (Ga 3), .ref (Ga 4), .int (Gv 0), .ref (Ga 5), .ref (Aa 0), .ref (Pa 0), .ref (Ga 8), .ref (Ga 9), .ref (Ga 10), .ref (Ga 11)])), ((Pa 0), .inr (5, [.ref (Pa 1), .int (Pv 0), .int (Pv 1)])), ((Pa 1), .inl (tc 5, 20, .inr (.inr (.inr (.inr (Pq 1))))))]) ⟨hx, hb, hml, hown, hts⟩ hK hX hA (ct_X9_hasClock l D tc sk Aa Av Af x1) k_579 k_713 k_577 k_578 k_98 pl_X9_hasClock ⟨Nat.le_of_ble_eq_true rfl, Nat.le_of_ble_eq_true rfl⟩ rfl rfl (va_recv hK hP (ci := 9) (q0 := 1) rfl rfl) hP hD hS [1, 2, 3, 4, 5, 6, 7, 8, 9] [0, 10, 11] rfl rfl rfl rfl rfl (by decide) rfl hl.1 rfl (Nat.le_of_ble_eq_true rfl) dX11_watch_5 ⟨Nat.le_of_ble_eq_true rfl, Nat.le_of_ble_eq_true rfl⟩ (fun v_1 u_2 H locs hv_3 hP hD hS => ?_)
  obtain ⟨r_4, rfl, he_5⟩ := hv_3
  have he_5 : ((r_4.toInt = 0 ∨ (r_4.toInt = 1 ∧ 0 ≤ x1.toInt ∧ x1.toInt < 10))) := he_5
  refine W.eq (g2 := F0 m 8 ls [.int r_4]) rfl ?_
  have hP : va_P D classes [((Ga 0), .inr (11, [.ref (Ga 1), .ref (Ga 2), .ref (Ga 3), .ref (Ga 4), .int (Gv 0), .ref (Ga 5), .ref (Aa 0), .ref (Pa 0), .ref (Ga 8), .ref (Ga 9), .ref (Ga 10), .ref (Ga 11)])), ((Pa 0), .inr (5, [.ref (Pa 1), .int (Pv 0), .int (Pv 1)])), ((Pa 1), .inl (tc 5, 20, .inr (.inr (.inr (.inr (Pq 1)))))), ((Aa 0), .inr (9, [.int (Av 0), .int (Av 1), .int (Av 2), .int (Av 3), .int (Av 4), .int (Av 5), .ref (Aa 1), .ref (Aa 2), .ref (Aa 3), .ref (Aa 4), .ref (Aa 5), .ref (Aa 6), .ref (Aa 7), .ref (Aa 8)])), ((Aa 1), .inl (tc 0, 10, .inl (Af 1))), ((Aa 2), .inl (tc 0, 10, .inl (Af 2))), ((Aa 3), .inl (tc 0, 6, .inl (Af 3))), ((Aa 4), .inl (tc 0, 6, .inl (Af 4))), ((Aa 5), .inl (tc 0, 6, .inl (Af 5))), ((Aa 6), .inl (tc 0, 6, .inl (Af 6))), ((Aa 7), .inl (tc 0, 6, .inl (Af 7))), ((Aa 8), .inl (tc 0, 6, .inl (Af 8)))] H := hP
  have hD : va_D A [((Ga 0), .inr (11, [.ref (Ga 1), .ref (Ga 2), .ref (Ga 3), .ref (Ga 4), .int (Gv 0), .ref (Ga 5), .ref (Aa 0), .ref (Pa 0), .ref (Ga 8), .ref (Ga 9), .ref (Ga 10), .ref (Ga 11)])), ((Pa 0), .inr (5, [.ref (Pa 1), .int (Pv 0), .int (Pv 1)])), ((Pa 1), .inl (tc 5, 20, .inr (.inr (.inr (.inr (Pq 1)))))), ((Aa 0), .inr (9, [.int (Av 0), .int (Av 1), .int (Av 2), .int (Av 3), .int (Av 4), .int (Av 5), .ref (Aa 1), .ref (Aa 2), .ref (Aa 3), .ref (Aa 4), .ref (Aa 5), .ref (Aa 6), .ref (Aa 7), .ref (Aa 8)])), ((Aa 1), .inl (tc 0, 10, .inl (Af 1))), ((Aa 2), .inl (tc 0, 10, .inl (Af 2))), ((Aa 3), .inl (tc 0, 6, .inl (Af 3))), ((Aa 4), .inl (tc 0, 6, .inl (Af 4))), ((Aa 5), .inl (tc 0, 6, .inl (Af 5))), ((Aa 6), .inl (tc 0, 6, .inl (Af 6))), ((Aa 7), .inl (tc 0, 6, .inl (Af 7))), ((Aa 8), .inl (tc 0, 6, .inl (Af 8)))] := hD
  refine lv_if_eq (tgt := 22) hx hb dX11_watch_8 (by decide) (fun c_6 => ?_) (fun c_6 => ?_)
  · skip
    refine lv_iconst (v := (-1)) hx hb dX11_watch_22 (by decide) ?_
    have ha_7 : 0 ≤ ((Pv 0) : Int32).toInt ∧ ((Pv 0) : Int32).toInt < 20 := by
      have z_1 := congrArg Int32.toInt c_6
      have y_0 : (0 : Int32).toInt = 0 := by decide
      omega
    have ha_8 : 0 ≤ ((Av 3) : Int32).toInt ∧ ((Av 3) : Int32).toInt ≤ 6 := by
      have z_1 := congrArg Int32.toInt c_6
      have y_0 : (0 : Int32).toInt = 0 := by decide
      omega
    exact retI (v := (-1)) hx hb hr hlk (rfl) hP hD hS (false, 0, 0, 0, 0, 0, 0, 0, 0, 0, (fun _ => 0), 0, 0, (fun _ => 0), (fun _ => 0), (fun _ => 0), (fun _ => 0), (fun _ => 0), (fun _ => 0), (fun _ => 0), (fun _ => 0), (Af 2)) ⟨_, rfl, trivial, ha_7, ha_8⟩ [0, 3, 4, 5, 6, 7, 8, 9, 10, 11, 1, 2] rfl rfl dX11_watch_23 (Nat.le_of_ble_eq_true rfl) (Nat.le_of_ble_eq_true rfl) rfl
  · skip
    refine lv_aload_n hx hb dX11_watch_11 rfl (lv_at hl 0 rfl) ?_
    refine gf_X11_51 hx hb hts hown hK hP 0 rfl rfl dX11_watch_12 ?_
    refine lv_iload_n hx hb dX11_watch_15 rfl (lv_at hl 2 rfl) ?_
    refine cV (a := (Aa 0)) (As := [.int x2]) (rest := []) (wr := [((Ga 0), .inr (11, [.ref (Ga 1), .ref (Ga 2), .ref (Ga 3), .ref (Ga 4), .int (Gv 0), .ref (Ga 5), .ref (Aa 0), .ref (Pa 0), .ref (Ga 8), .ref (Ga 9), .ref (Ga 10), .ref (Ga 11)])), ((Pa 0), .inr (5, [.ref (Pa 1), .int (Pv 0), .int (Pv 1)])), ((Pa 1), .inl (tc 5, 20, .inr (.inr (.inr (.inr (Pq 1))))))]) ⟨hx, hb, hml, hown, hts⟩ hK hX hA (ct_X9_hasBuyer l D tc sk Aa Av Af x2) k_591 k_702 k_589 k_590 k_98 pl_X9_hasBuyer ⟨Nat.le_of_ble_eq_true rfl, Nat.le_of_ble_eq_true rfl⟩ rfl rfl (va_recv hK hP (ci := 9) (q0 := 3) rfl rfl) hP hD hS [3, 4, 5, 6, 7, 8, 9, 10, 11] [0, 1, 2] rfl rfl rfl rfl rfl (by decide) rfl hl.1 rfl (Nat.le_of_ble_eq_true rfl) dX11_watch_16 ⟨Nat.le_of_ble_eq_true rfl, Nat.le_of_ble_eq_true rfl⟩ (fun v_9 u_10 H locs hv_11 hP hD hS => ?_)
    obtain ⟨r_12, rfl, he_13⟩ := hv_11
    have he_13 : ((r_12.toInt = 0 ∨ (r_12.toInt = 1 ∧ 0 ≤ x2.toInt ∧ x2.toInt < 6 ∧ x2.toInt < (Av 3).toInt))) := he_13
    refine W.eq (g2 := F0 m 19 ls [.int r_12]) rfl ?_
    have hP : va_P D classes [((Ga 0), .inr (11, [.ref (Ga 1), .ref (Ga 2), .ref (Ga 3), .ref (Ga 4), .int (Gv 0), .ref (Ga 5), .ref (Aa 0), .ref (Pa 0), .ref (Ga 8), .ref (Ga 9), .ref (Ga 10), .ref (Ga 11)])), ((Pa 0), .inr (5, [.ref (Pa 1), .int (Pv 0), .int (Pv 1)])), ((Pa 1), .inl (tc 5, 20, .inr (.inr (.inr (.inr (Pq 1)))))), ((Aa 0), .inr (9, [.int (Av 0), .int (Av 1), .int (Av 2), .int (Av 3), .int (Av 4), .int (Av 5), .ref (Aa 1), .ref (Aa 2), .ref (Aa 3), .ref (Aa 4), .ref (Aa 5), .ref (Aa 6), .ref (Aa 7), .ref (Aa 8)])), ((Aa 1), .inl (tc 0, 10, .inl (Af 1))), ((Aa 2), .inl (tc 0, 10, .inl (Af 2))), ((Aa 3), .inl (tc 0, 6, .inl (Af 3))), ((Aa 4), .inl (tc 0, 6, .inl (Af 4))), ((Aa 5), .inl (tc 0, 6, .inl (Af 5))), ((Aa 6), .inl (tc 0, 6, .inl (Af 6))), ((Aa 7), .inl (tc 0, 6, .inl (Af 7))), ((Aa 8), .inl (tc 0, 6, .inl (Af 8)))] H := hP
    have hD : va_D A [((Ga 0), .inr (11, [.ref (Ga 1), .ref (Ga 2), .ref (Ga 3), .ref (Ga 4), .int (Gv 0), .ref (Ga 5), .ref (Aa 0), .ref (Pa 0), .ref (Ga 8), .ref (Ga 9), .ref (Ga 10), .ref (Ga 11)])), ((Pa 0), .inr (5, [.ref (Pa 1), .int (Pv 0), .int (Pv 1)])), ((Pa 1), .inl (tc 5, 20, .inr (.inr (.inr (.inr (Pq 1)))))), ((Aa 0), .inr (9, [.int (Av 0), .int (Av 1), .int (Av 2), .int (Av 3), .int (Av 4), .int (Av 5), .ref (Aa 1), .ref (Aa 2), .ref (Aa 3), .ref (Aa 4), .ref (Aa 5), .ref (Aa 6), .ref (Aa 7), .ref (Aa 8)])), ((Aa 1), .inl (tc 0, 10, .inl (Af 1))), ((Aa 2), .inl (tc 0, 10, .inl (Af 2))), ((Aa 3), .inl (tc 0, 6, .inl (Af 3))), ((Aa 4), .inl (tc 0, 6, .inl (Af 4))), ((Aa 5), .inl (tc 0, 6, .inl (Af 5))), ((Aa 6), .inl (tc 0, 6, .inl (Af 6))), ((Aa 7), .inl (tc 0, 6, .inl (Af 7))), ((Aa 8), .inl (tc 0, 6, .inl (Af 8)))] := hD
    refine lv_if_ne (tgt := 24) hx hb dX11_watch_19 (by decide) (fun c_14 => ?_) (fun c_14 => ?_)
    · skip
      refine lv_aload_n hx hb dX11_watch_24 rfl (lv_at hl 0 rfl) ?_
      refine gf_X11_57 hx hb hts hown hK hP 0 rfl rfl dX11_watch_25 ?_
      refine lv_aload_n hx hb dX11_watch_28 rfl (lv_at hl 0 rfl) ?_
      refine gf_X11_51 hx hb hts hown hK hP 0 rfl rfl dX11_watch_29 ?_
      have ha_15 : 0 ≤ ((Pv 0) : Int32).toInt ∧ ((Pv 0) : Int32).toInt < 20 := by
        have z_1 : ¬ (r_4 : Int32).toInt = (0 : Int32).toInt := fun z => c_6 (Int32.toInt_inj.mp z)
        have z_2 : ¬ (r_12 : Int32).toInt = (0 : Int32).toInt := fun z => c_14 (Int32.toInt_inj.mp z)
        have y_0 : (0 : Int32).toInt = 0 := by decide
        omega
      refine cV (a := (Pa 0)) (As := [.ref (Aa 0)]) (rest := []) (wr := [((Ga 0), .inr (11, [.ref (Ga 1), .ref (Ga 2), .ref (Ga 3), .ref (Ga 4), .int (Gv 0), .ref (Ga 5), .ref (Aa 0), .ref (Pa 0), .ref (Ga 8), .ref (Ga 9), .ref (Ga 10), .ref (Ga 11)]))]) ⟨hx, hb, hml, hown, hts⟩ hK hX hA (ct_X5_keep_n l D tc sk Pa Pv Pq Aa Av Af ha_15 h_q) k_728 k_725 k_726 k_727 k_102 pl_X5_keep ⟨Nat.le_of_ble_eq_true rfl, Nat.le_of_ble_eq_true rfl⟩ rfl rfl (va_recv hK hP (ci := 5) (q0 := 1) rfl rfl) hP hD hS [1, 2, 3, 4, 5, 6, 7, 8, 9, 10, 11] [0] rfl rfl rfl rfl rfl (by decide) rfl hl.1 rfl (Nat.le_of_ble_eq_true rfl) dX11_watch_32 ⟨Nat.le_of_ble_eq_true rfl, Nat.le_of_ble_eq_true rfl⟩ (fun v_16 u_17 H locs hv_18 hP hD hS => ?_)
      obtain ⟨sv_19, sv_20, sv_21, sv_22, sv_23, sv_24, sv_25, sv_26, sv_27, sv_28, sv_29, sv_30, sv_31, sv_32, sv_33, sv_34, sv_35, sv_36, sv_37, sv_38⟩ := u_17
      cases sv_19
      · skip
        obtain ⟨rfl, pf_39⟩ := hv_18
        have pf_39 : 0 ≤ ((Pv 0) : Int32).toInt ∧ ((Pv 0) : Int32).toInt < 20 := pf_39
        refine W.eq (g2 := F0 m 35 ls []) rfl ?_
        have hP : va_P D classes [((Ga 0), .inr (11, [.ref (Ga 1), .ref (Ga 2), .ref (Ga 3), .ref (Ga 4), .int (Gv 0), .ref (Ga 5), .ref (Aa 0), .ref (Pa 0), .ref (Ga 8), .ref (Ga 9), .ref (Ga 10), .ref (Ga 11)])), ((Pa 0), .inr (5, [.ref (Pa 1), .int (Pv 0), .int (Pv 1)])), ((Pa 1), .inl (tc 5, 20, .inr (.inr (.inr (.inr (Pq 1)))))), ((Aa 0), .inr (9, [.int (Av 0), .int (Av 1), .int (Av 2), .int (Av 3), .int (Av 4), .int (Av 5), .ref (Aa 1), .ref (Aa 2), .ref (Aa 3), .ref (Aa 4), .ref (Aa 5), .ref (Aa 6), .ref (Aa 7), .ref (Aa 8)])), ((Aa 1), .inl (tc 0, 10, .inl (Af 1))), ((Aa 2), .inl (tc 0, 10, .inl (Af 2))), ((Aa 3), .inl (tc 0, 6, .inl (Af 3))), ((Aa 4), .inl (tc 0, 6, .inl (Af 4))), ((Aa 5), .inl (tc 0, 6, .inl (Af 5))), ((Aa 6), .inl (tc 0, 6, .inl (Af 6))), ((Aa 7), .inl (tc 0, 6, .inl (Af 7))), ((Aa 8), .inl (tc 0, 6, .inl (Af 8)))] H := hP
        have hD : va_D A [((Ga 0), .inr (11, [.ref (Ga 1), .ref (Ga 2), .ref (Ga 3), .ref (Ga 4), .int (Gv 0), .ref (Ga 5), .ref (Aa 0), .ref (Pa 0), .ref (Ga 8), .ref (Ga 9), .ref (Ga 10), .ref (Ga 11)])), ((Pa 0), .inr (5, [.ref (Pa 1), .int (Pv 0), .int (Pv 1)])), ((Pa 1), .inl (tc 5, 20, .inr (.inr (.inr (.inr (Pq 1)))))), ((Aa 0), .inr (9, [.int (Av 0), .int (Av 1), .int (Av 2), .int (Av 3), .int (Av 4), .int (Av 5), .ref (Aa 1), .ref (Aa 2), .ref (Aa 3), .ref (Aa 4), .ref (Aa 5), .ref (Aa 6), .ref (Aa 7), .ref (Aa 8)])), ((Aa 1), .inl (tc 0, 10, .inl (Af 1))), ((Aa 2), .inl (tc 0, 10, .inl (Af 2))), ((Aa 3), .inl (tc 0, 6, .inl (Af 3))), ((Aa 4), .inl (tc 0, 6, .inl (Af 4))), ((Aa 5), .inl (tc 0, 6, .inl (Af 5))), ((Aa 6), .inl (tc 0, 6, .inl (Af 6))), ((Aa 7), .inl (tc 0, 6, .inl (Af 7))), ((Aa 8), .inl (tc 0, 6, .inl (Af 8)))] := hD
        refine lv_aload_n hx hb dX11_watch_35 rfl (lv_at hl 0 rfl) ?_
        refine gf_X11_51 hx hb hts hown hK hP 0 rfl rfl dX11_watch_36 ?_
        refine gf_X11_173 hx hb hts hown hK hP 3 rfl rfl dX11_watch_39 ?_
        refine lv_iload_n hx hb dX11_watch_42 rfl (lv_at hl 1 rfl) ?_
        refine lv_dup2_11 hx hb dX11_watch_43 rfl rfl ?_
        have hi_40 : vp_in x1 10 := by
          have z_1 : ¬ (r_4 : Int32).toInt = (0 : Int32).toInt := fun z => c_6 (Int32.toInt_inj.mp z)
          have z_2 : ¬ (r_12 : Int32).toInt = (0 : Int32).toInt := fun z => c_14 (Int32.toInt_inj.mp z)
          have y_0 : (0 : Int32).toInt = 0 := by decide
          refine vp_in_iff.mpr ⟨?_, ?_⟩ <;> omega
        refine va_iald hx hb hK hP 5 0 rfl rfl hi_40 dX11_watch_44 ?_
        refine lv_topi (fun x_41 ex_41 => ?_)
        refine lv_iconst (v := 1) hx hb dX11_watch_45 (by decide) ?_
        refine lv_iload_n hx hb dX11_watch_46 rfl (lv_at hl 2 rfl) ?_
        refine lv_ishl hx hb dX11_watch_47 ?_
        refine lv_topi (fun x_42 ex_42 => ?_)
        refine lv_ixor hx hb dX11_watch_48 ?_
        refine lv_topi (fun x_43 ex_43 => ?_)
        have hi_44 : vp_in x1 10 := by
          have z_1 : ¬ (r_4 : Int32).toInt = (0 : Int32).toInt := fun z => c_6 (Int32.toInt_inj.mp z)
          have z_2 : ¬ (r_12 : Int32).toInt = (0 : Int32).toInt := fun z => c_14 (Int32.toInt_inj.mp z)
          have y_0 : (0 : Int32).toInt = 0 := by decide
          refine vp_in_iff.mpr ⟨?_, ?_⟩ <;> omega
        refine st_int hx hb hK hP hD hS 5 0 rfl rfl hi_44 dX11_watch_49 (fun g_45 H locs eg_45 hP hD hS => ?_)
        have hP : va_P D classes [((Ga 0), .inr (11, [.ref (Ga 1), .ref (Ga 2), .ref (Ga 3), .ref (Ga 4), .int (Gv 0), .ref (Ga 5), .ref (Aa 0), .ref (Pa 0), .ref (Ga 8), .ref (Ga 9), .ref (Ga 10), .ref (Ga 11)])), ((Pa 0), .inr (5, [.ref (Pa 1), .int (Pv 0), .int (Pv 1)])), ((Pa 1), .inl (tc 5, 20, .inr (.inr (.inr (.inr (Pq 1)))))), ((Aa 0), .inr (9, [.int (Av 0), .int (Av 1), .int (Av 2), .int (Av 3), .int (Av 4), .int (Av 5), .ref (Aa 1), .ref (Aa 2), .ref (Aa 3), .ref (Aa 4), .ref (Aa 5), .ref (Aa 6), .ref (Aa 7), .ref (Aa 8)])), ((Aa 1), .inl (tc 0, 10, .inl (Af 1))), ((Aa 2), .inl (tc 0, 10, .inl g_45)), ((Aa 3), .inl (tc 0, 6, .inl (Af 3))), ((Aa 4), .inl (tc 0, 6, .inl (Af 4))), ((Aa 5), .inl (tc 0, 6, .inl (Af 5))), ((Aa 6), .inl (tc 0, 6, .inl (Af 6))), ((Aa 7), .inl (tc 0, 6, .inl (Af 7))), ((Aa 8), .inl (tc 0, 6, .inl (Af 8)))] H := hP
        have hD : va_D A [((Ga 0), .inr (11, [.ref (Ga 1), .ref (Ga 2), .ref (Ga 3), .ref (Ga 4), .int (Gv 0), .ref (Ga 5), .ref (Aa 0), .ref (Pa 0), .ref (Ga 8), .ref (Ga 9), .ref (Ga 10), .ref (Ga 11)])), ((Pa 0), .inr (5, [.ref (Pa 1), .int (Pv 0), .int (Pv 1)])), ((Pa 1), .inl (tc 5, 20, .inr (.inr (.inr (.inr (Pq 1)))))), ((Aa 0), .inr (9, [.int (Av 0), .int (Av 1), .int (Av 2), .int (Av 3), .int (Av 4), .int (Av 5), .ref (Aa 1), .ref (Aa 2), .ref (Aa 3), .ref (Aa 4), .ref (Aa 5), .ref (Aa 6), .ref (Aa 7), .ref (Aa 8)])), ((Aa 1), .inl (tc 0, 10, .inl (Af 1))), ((Aa 2), .inl (tc 0, 10, .inl g_45)), ((Aa 3), .inl (tc 0, 6, .inl (Af 3))), ((Aa 4), .inl (tc 0, 6, .inl (Af 4))), ((Aa 5), .inl (tc 0, 6, .inl (Af 5))), ((Aa 6), .inl (tc 0, 6, .inl (Af 6))), ((Aa 7), .inl (tc 0, 6, .inl (Af 7))), ((Aa 8), .inl (tc 0, 6, .inl (Af 8)))] := hD
        refine lv_aload_n hx hb dX11_watch_50 rfl (lv_at hl 0 rfl) ?_
        refine gf_X11_51 hx hb hts hown hK hP 0 rfl rfl dX11_watch_51 ?_
        refine gf_X11_173 hx hb hts hown hK hP 3 rfl rfl dX11_watch_54 ?_
        refine lv_iload_n hx hb dX11_watch_57 rfl (lv_at hl 1 rfl) ?_
        have hi_46 : vp_in x1 10 := by
          have z_1 : ¬ (r_4 : Int32).toInt = (0 : Int32).toInt := fun z => c_6 (Int32.toInt_inj.mp z)
          have z_2 : ¬ (r_12 : Int32).toInt = (0 : Int32).toInt := fun z => c_14 (Int32.toInt_inj.mp z)
          have y_0 : (0 : Int32).toInt = 0 := by decide
          refine vp_in_iff.mpr ⟨?_, ?_⟩ <;> omega
        refine va_iald hx hb hK hP 5 0 rfl rfl hi_46 dX11_watch_58 ?_
        refine lv_topi (fun x_47 ex_47 => ?_)
        refine lv_iload_n hx hb dX11_watch_59 rfl (lv_at hl 2 rfl) ?_
        refine lv_ishr hx hb dX11_watch_60 ?_
        refine lv_topi (fun x_48 ex_48 => ?_)
        refine lv_iconst (v := 1) hx hb dX11_watch_61 (by decide) ?_
        refine lv_iand hx hb dX11_watch_62 ?_
        refine lv_topi (fun x_49 ex_49 => ?_)
        have ha_50 : 0 ≤ ((Pv 0) : Int32).toInt ∧ ((Pv 0) : Int32).toInt < 20 := by
          have z_1 : ¬ (r_4 : Int32).toInt = (0 : Int32).toInt := fun z => c_6 (Int32.toInt_inj.mp z)
          have z_2 : ¬ (r_12 : Int32).toInt = (0 : Int32).toInt := fun z => c_14 (Int32.toInt_inj.mp z)
          have y_0 : (0 : Int32).toInt = 0 := by decide
          omega
        have ha_51 : 0 ≤ ((Av 3) : Int32).toInt ∧ ((Av 3) : Int32).toInt ≤ 6 := by
          have z_1 : ¬ (r_4 : Int32).toInt = (0 : Int32).toInt := fun z => c_6 (Int32.toInt_inj.mp z)
          have z_2 : ¬ (r_12 : Int32).toInt = (0 : Int32).toInt := fun z => c_14 (Int32.toInt_inj.mp z)
          have y_0 : (0 : Int32).toInt = 0 := by decide
          omega
        exact retI (v := x_49) hx hb hr hlk (rfl) hP hD hS (false, 0, 0, 0, 0, 0, 0, 0, 0, 0, (fun _ => 0), 0, 0, (fun _ => 0), (fun _ => 0), (fun _ => 0), (fun _ => 0), (fun _ => 0), (fun _ => 0), (fun _ => 0), (fun _ => 0), g_45) ⟨_, rfl, trivial, ha_50, ha_51⟩ [0, 3, 4, 5, 6, 7, 8, 9, 10, 11, 1, 2] rfl rfl dX11_watch_63 (Nat.le_of_ble_eq_true rfl) (Nat.le_of_ble_eq_true rfl) rfl
      · skip
        obtain ⟨rfl, pf_52⟩ := hv_18
        have pf_52 : 0 ≤ (sv_29 : Int32).toInt ∧ (sv_29 : Int32).toInt < 20 := pf_52
        refine W.eq (g2 := F0 m 35 ls []) rfl ?_
        have hP : va_P D classes [((Ga 0), .inr (11, [.ref (Ga 1), .ref (Ga 2), .ref (Ga 3), .ref (Ga 4), .int (Gv 0), .ref (Ga 5), .ref (Aa 0), .ref (Pa 0), .ref (Ga 8), .ref (Ga 9), .ref (Ga 10), .ref (Ga 11)])), ((Pa 0), .inr (5, [.ref (Pa 1), .int sv_29, .int sv_30])), ((Pa 1), .inl (tc 5, 20, .inr (.inr (.inr (.inr (va_up (Pq 1) ((Pv 0) : Int32).toNatClampNeg (some sv_20))))))), ((Aa 0), .inr (9, [.int (Av 0), .int (Av 1), .int (Av 2), .int (Av 3), .int (Av 4), .int (Av 5), .ref (Aa 1), .ref (Aa 2), .ref (Aa 3), .ref (Aa 4), .ref (Aa 5), .ref (Aa 6), .ref (Aa 7), .ref (Aa 8)])), ((Aa 1), .inl (tc 0, 10, .inl (Af 1))), ((Aa 2), .inl (tc 0, 10, .inl (Af 2))), ((Aa 3), .inl (tc 0, 6, .inl (Af 3))), ((Aa 4), .inl (tc 0, 6, .inl (Af 4))), ((Aa 5), .inl (tc 0, 6, .inl (Af 5))), ((Aa 6), .inl (tc 0, 6, .inl (Af 6))), ((Aa 7), .inl (tc 0, 6, .inl (Af 7))), ((Aa 8), .inl (tc 0, 6, .inl (Af 8))), (sv_20, .inr (9, [.int (Av 0), .int (Av 1), .int (Av 2), .int (Av 3), .int (Av 4), .int (Av 5), .ref sv_21, .ref sv_22, .ref sv_23, .ref sv_24, .ref sv_25, .ref sv_26, .ref sv_27, .ref sv_28])), (sv_21, .inl (tc 0, 10, .inl sv_31)), (sv_22, .inl (tc 0, 10, .inl sv_32)), (sv_23, .inl (tc 0, 6, .inl sv_33)), (sv_24, .inl (tc 0, 6, .inl sv_34)), (sv_25, .inl (tc 0, 6, .inl sv_35)), (sv_26, .inl (tc 0, 6, .inl sv_36)), (sv_27, .inl (tc 0, 6, .inl sv_37)), (sv_28, .inl (tc 0, 6, .inl sv_38))] H := hP
        have hD : va_D A [((Ga 0), .inr (11, [.ref (Ga 1), .ref (Ga 2), .ref (Ga 3), .ref (Ga 4), .int (Gv 0), .ref (Ga 5), .ref (Aa 0), .ref (Pa 0), .ref (Ga 8), .ref (Ga 9), .ref (Ga 10), .ref (Ga 11)])), ((Pa 0), .inr (5, [.ref (Pa 1), .int sv_29, .int sv_30])), ((Pa 1), .inl (tc 5, 20, .inr (.inr (.inr (.inr (va_up (Pq 1) ((Pv 0) : Int32).toNatClampNeg (some sv_20))))))), ((Aa 0), .inr (9, [.int (Av 0), .int (Av 1), .int (Av 2), .int (Av 3), .int (Av 4), .int (Av 5), .ref (Aa 1), .ref (Aa 2), .ref (Aa 3), .ref (Aa 4), .ref (Aa 5), .ref (Aa 6), .ref (Aa 7), .ref (Aa 8)])), ((Aa 1), .inl (tc 0, 10, .inl (Af 1))), ((Aa 2), .inl (tc 0, 10, .inl (Af 2))), ((Aa 3), .inl (tc 0, 6, .inl (Af 3))), ((Aa 4), .inl (tc 0, 6, .inl (Af 4))), ((Aa 5), .inl (tc 0, 6, .inl (Af 5))), ((Aa 6), .inl (tc 0, 6, .inl (Af 6))), ((Aa 7), .inl (tc 0, 6, .inl (Af 7))), ((Aa 8), .inl (tc 0, 6, .inl (Af 8))), (sv_20, .inr (9, [.int (Av 0), .int (Av 1), .int (Av 2), .int (Av 3), .int (Av 4), .int (Av 5), .ref sv_21, .ref sv_22, .ref sv_23, .ref sv_24, .ref sv_25, .ref sv_26, .ref sv_27, .ref sv_28])), (sv_21, .inl (tc 0, 10, .inl sv_31)), (sv_22, .inl (tc 0, 10, .inl sv_32)), (sv_23, .inl (tc 0, 6, .inl sv_33)), (sv_24, .inl (tc 0, 6, .inl sv_34)), (sv_25, .inl (tc 0, 6, .inl sv_35)), (sv_26, .inl (tc 0, 6, .inl sv_36)), (sv_27, .inl (tc 0, 6, .inl sv_37)), (sv_28, .inl (tc 0, 6, .inl sv_38))] := hD
        refine lv_aload_n hx hb dX11_watch_35 rfl (lv_at hl 0 rfl) ?_
        refine gf_X11_51 hx hb hts hown hK hP 0 rfl rfl dX11_watch_36 ?_
        refine gf_X11_173 hx hb hts hown hK hP 3 rfl rfl dX11_watch_39 ?_
        refine lv_iload_n hx hb dX11_watch_42 rfl (lv_at hl 1 rfl) ?_
        refine lv_dup2_11 hx hb dX11_watch_43 rfl rfl ?_
        have hi_53 : vp_in x1 10 := by
          have z_1 : ¬ (r_4 : Int32).toInt = (0 : Int32).toInt := fun z => c_6 (Int32.toInt_inj.mp z)
          have z_2 : ¬ (r_12 : Int32).toInt = (0 : Int32).toInt := fun z => c_14 (Int32.toInt_inj.mp z)
          have y_0 : (0 : Int32).toInt = 0 := by decide
          refine vp_in_iff.mpr ⟨?_, ?_⟩ <;> omega
        refine va_iald hx hb hK hP 5 0 rfl rfl hi_53 dX11_watch_44 ?_
        refine lv_topi (fun x_54 ex_54 => ?_)
        refine lv_iconst (v := 1) hx hb dX11_watch_45 (by decide) ?_
        refine lv_iload_n hx hb dX11_watch_46 rfl (lv_at hl 2 rfl) ?_
        refine lv_ishl hx hb dX11_watch_47 ?_
        refine lv_topi (fun x_55 ex_55 => ?_)
        refine lv_ixor hx hb dX11_watch_48 ?_
        refine lv_topi (fun x_56 ex_56 => ?_)
        have hi_57 : vp_in x1 10 := by
          have z_1 : ¬ (r_4 : Int32).toInt = (0 : Int32).toInt := fun z => c_6 (Int32.toInt_inj.mp z)
          have z_2 : ¬ (r_12 : Int32).toInt = (0 : Int32).toInt := fun z => c_14 (Int32.toInt_inj.mp z)
          have y_0 : (0 : Int32).toInt = 0 := by decide
          refine vp_in_iff.mpr ⟨?_, ?_⟩ <;> omega
        refine st_int hx hb hK hP hD hS 5 0 rfl rfl hi_57 dX11_watch_49 (fun g_58 H locs eg_58 hP hD hS => ?_)
        have hP : va_P D classes [((Ga 0), .inr (11, [.ref (Ga 1), .ref (Ga 2), .ref (Ga 3), .ref (Ga 4), .int (Gv 0), .ref (Ga 5), .ref (Aa 0), .ref (Pa 0), .ref (Ga 8), .ref (Ga 9), .ref (Ga 10), .ref (Ga 11)])), ((Pa 0), .inr (5, [.ref (Pa 1), .int sv_29, .int sv_30])), ((Pa 1), .inl (tc 5, 20, .inr (.inr (.inr (.inr (va_up (Pq 1) ((Pv 0) : Int32).toNatClampNeg (some sv_20))))))), ((Aa 0), .inr (9, [.int (Av 0), .int (Av 1), .int (Av 2), .int (Av 3), .int (Av 4), .int (Av 5), .ref (Aa 1), .ref (Aa 2), .ref (Aa 3), .ref (Aa 4), .ref (Aa 5), .ref (Aa 6), .ref (Aa 7), .ref (Aa 8)])), ((Aa 1), .inl (tc 0, 10, .inl (Af 1))), ((Aa 2), .inl (tc 0, 10, .inl g_58)), ((Aa 3), .inl (tc 0, 6, .inl (Af 3))), ((Aa 4), .inl (tc 0, 6, .inl (Af 4))), ((Aa 5), .inl (tc 0, 6, .inl (Af 5))), ((Aa 6), .inl (tc 0, 6, .inl (Af 6))), ((Aa 7), .inl (tc 0, 6, .inl (Af 7))), ((Aa 8), .inl (tc 0, 6, .inl (Af 8))), (sv_20, .inr (9, [.int (Av 0), .int (Av 1), .int (Av 2), .int (Av 3), .int (Av 4), .int (Av 5), .ref sv_21, .ref sv_22, .ref sv_23, .ref sv_24, .ref sv_25, .ref sv_26, .ref sv_27, .ref sv_28])), (sv_21, .inl (tc 0, 10, .inl sv_31)), (sv_22, .inl (tc 0, 10, .inl sv_32)), (sv_23, .inl (tc 0, 6, .inl sv_33)), (sv_24, .inl (tc 0, 6, .inl sv_34)), (sv_25, .inl (tc 0, 6, .inl sv_35)), (sv_26, .inl (tc 0, 6, .inl sv_36)), (sv_27, .inl (tc 0, 6, .inl sv_37)), (sv_28, .inl (tc 0, 6, .inl sv_38))] H := hP
        have hD : va_D A [((Ga 0), .inr (11, [.ref (Ga 1), .ref (Ga 2), .ref (Ga 3), .ref (Ga 4), .int (Gv 0), .ref (Ga 5), .ref (Aa 0), .ref (Pa 0), .ref (Ga 8), .ref (Ga 9), .ref (Ga 10), .ref (Ga 11)])), ((Pa 0), .inr (5, [.ref (Pa 1), .int sv_29, .int sv_30])), ((Pa 1), .inl (tc 5, 20, .inr (.inr (.inr (.inr (va_up (Pq 1) ((Pv 0) : Int32).toNatClampNeg (some sv_20))))))), ((Aa 0), .inr (9, [.int (Av 0), .int (Av 1), .int (Av 2), .int (Av 3), .int (Av 4), .int (Av 5), .ref (Aa 1), .ref (Aa 2), .ref (Aa 3), .ref (Aa 4), .ref (Aa 5), .ref (Aa 6), .ref (Aa 7), .ref (Aa 8)])), ((Aa 1), .inl (tc 0, 10, .inl (Af 1))), ((Aa 2), .inl (tc 0, 10, .inl g_58)), ((Aa 3), .inl (tc 0, 6, .inl (Af 3))), ((Aa 4), .inl (tc 0, 6, .inl (Af 4))), ((Aa 5), .inl (tc 0, 6, .inl (Af 5))), ((Aa 6), .inl (tc 0, 6, .inl (Af 6))), ((Aa 7), .inl (tc 0, 6, .inl (Af 7))), ((Aa 8), .inl (tc 0, 6, .inl (Af 8))), (sv_20, .inr (9, [.int (Av 0), .int (Av 1), .int (Av 2), .int (Av 3), .int (Av 4), .int (Av 5), .ref sv_21, .ref sv_22, .ref sv_23, .ref sv_24, .ref sv_25, .ref sv_26, .ref sv_27, .ref sv_28])), (sv_21, .inl (tc 0, 10, .inl sv_31)), (sv_22, .inl (tc 0, 10, .inl sv_32)), (sv_23, .inl (tc 0, 6, .inl sv_33)), (sv_24, .inl (tc 0, 6, .inl sv_34)), (sv_25, .inl (tc 0, 6, .inl sv_35)), (sv_26, .inl (tc 0, 6, .inl sv_36)), (sv_27, .inl (tc 0, 6, .inl sv_37)), (sv_28, .inl (tc 0, 6, .inl sv_38))] := hD
        refine lv_aload_n hx hb dX11_watch_50 rfl (lv_at hl 0 rfl) ?_
        refine gf_X11_51 hx hb hts hown hK hP 0 rfl rfl dX11_watch_51 ?_
        refine gf_X11_173 hx hb hts hown hK hP 3 rfl rfl dX11_watch_54 ?_
        refine lv_iload_n hx hb dX11_watch_57 rfl (lv_at hl 1 rfl) ?_
        have hi_59 : vp_in x1 10 := by
          have z_1 : ¬ (r_4 : Int32).toInt = (0 : Int32).toInt := fun z => c_6 (Int32.toInt_inj.mp z)
          have z_2 : ¬ (r_12 : Int32).toInt = (0 : Int32).toInt := fun z => c_14 (Int32.toInt_inj.mp z)
          have y_0 : (0 : Int32).toInt = 0 := by decide
          refine vp_in_iff.mpr ⟨?_, ?_⟩ <;> omega
        refine va_iald hx hb hK hP 5 0 rfl rfl hi_59 dX11_watch_58 ?_
        refine lv_topi (fun x_60 ex_60 => ?_)
        refine lv_iload_n hx hb dX11_watch_59 rfl (lv_at hl 2 rfl) ?_
        refine lv_ishr hx hb dX11_watch_60 ?_
        refine lv_topi (fun x_61 ex_61 => ?_)
        refine lv_iconst (v := 1) hx hb dX11_watch_61 (by decide) ?_
        refine lv_iand hx hb dX11_watch_62 ?_
        refine lv_topi (fun x_62 ex_62 => ?_)
        have ha_63 : 0 ≤ (sv_29 : Int32).toInt ∧ (sv_29 : Int32).toInt < 20 := by
          have z_1 : ¬ (r_4 : Int32).toInt = (0 : Int32).toInt := fun z => c_6 (Int32.toInt_inj.mp z)
          have z_2 : ¬ (r_12 : Int32).toInt = (0 : Int32).toInt := fun z => c_14 (Int32.toInt_inj.mp z)
          have y_0 : (0 : Int32).toInt = 0 := by decide
          omega
        have ha_64 : 0 ≤ ((Av 3) : Int32).toInt ∧ ((Av 3) : Int32).toInt ≤ 6 := by
          have z_1 : ¬ (r_4 : Int32).toInt = (0 : Int32).toInt := fun z => c_6 (Int32.toInt_inj.mp z)
          have z_2 : ¬ (r_12 : Int32).toInt = (0 : Int32).toInt := fun z => c_14 (Int32.toInt_inj.mp z)
          have y_0 : (0 : Int32).toInt = 0 := by decide
          omega
        have ha_65 : 0 ≤ ((Av 3) : Int32).toInt ∧ ((Av 3) : Int32).toInt ≤ 6 := by
          have z_1 : ¬ (r_4 : Int32).toInt = (0 : Int32).toInt := fun z => c_6 (Int32.toInt_inj.mp z)
          have z_2 : ¬ (r_12 : Int32).toInt = (0 : Int32).toInt := fun z => c_14 (Int32.toInt_inj.mp z)
          have y_0 : (0 : Int32).toInt = 0 := by decide
          omega
        exact retI (v := x_62) hx hb hr hlk (rfl) hP hD hS (true, sv_20, sv_21, sv_22, sv_23, sv_24, sv_25, sv_26, sv_27, sv_28, g_58, sv_29, sv_30, sv_31, sv_32, sv_33, sv_34, sv_35, sv_36, sv_37, sv_38, (fun _ => 0)) ⟨_, rfl, trivial, ha_63, ha_64, ha_65⟩ [0, 3, 4, 5, 6, 7, 8, 9, 10, 11, 1, 2, 12, 13, 14, 15, 16, 17, 18, 19, 20] rfl rfl dX11_watch_63 (Nat.le_of_ble_eq_true rfl) (Nat.le_of_ble_eq_true rfl) rfl
    · skip
      refine lv_iconst (v := (-1)) hx hb dX11_watch_22 (by decide) ?_
      have ha_66 : 0 ≤ ((Pv 0) : Int32).toInt ∧ ((Pv 0) : Int32).toInt < 20 := by
        have z_1 : ¬ (r_4 : Int32).toInt = (0 : Int32).toInt := fun z => c_6 (Int32.toInt_inj.mp z)
        have z_2 := congrArg Int32.toInt c_14
        have y_0 : (0 : Int32).toInt = 0 := by decide
        omega
      have ha_67 : 0 ≤ ((Av 3) : Int32).toInt ∧ ((Av 3) : Int32).toInt ≤ 6 := by
        have z_1 : ¬ (r_4 : Int32).toInt = (0 : Int32).toInt := fun z => c_6 (Int32.toInt_inj.mp z)
        have z_2 := congrArg Int32.toInt c_14
        have y_0 : (0 : Int32).toInt = 0 := by decide
        omega
      exact retI (v := (-1)) hx hb hr hlk (rfl) hP hD hS (false, 0, 0, 0, 0, 0, 0, 0, 0, 0, (fun _ => 0), 0, 0, (fun _ => 0), (fun _ => 0), (fun _ => 0), (fun _ => 0), (fun _ => 0), (fun _ => 0), (fun _ => 0), (fun _ => 0), (Af 2)) ⟨_, rfl, trivial, ha_66, ha_67⟩ [0, 3, 4, 5, 6, 7, 8, 9, 10, 11, 1, 2] rfl rfl dX11_watch_23 (Nat.le_of_ble_eq_true rfl) (Nat.le_of_ble_eq_true rfl) rfl
set_option maxHeartbeats 4000000 in
set_option maxRecDepth 100000 in
theorem ct_X11_change_n (l : Launch) (D : va_G) (tc : Nat → ClassId) (sk : (Nat → Nat) × (Nat → Nat)) (Ga : Nat → Nat) (Gv : Nat → Int32) (Aa : Nat → Nat) (Av : Nat → Int32) (Af : Nat → Nat → Int32) (Pa : Nat → Nat) (Pv : Nat → Int32) (Pq : Nat → Nat → Option Nat) (x1 : Int32) (x2 : Int32) (h_nx : 0 ≤ ((Pv 0) : Int32).toInt ∧ ((Pv 0) : Int32).toInt < 20) (h_q : (Pq 1) (Pv 0).toNatClampNeg = none) (h_bA : 0 ≤ ((Av 3) : Int32).toInt ∧ ((Av 3) : Int32).toInt ≤ 6) : Ct l yX11_change cX11_change 4 (some .int) { frames := 3, cells := 9, slots := 70, locals := 83 } D tc sk [.ref (Ga 0), .int x1, .int x2] [((Ga 0), .inr (11, [.ref (Ga 1), .ref (Ga 2), .ref (Ga 3), .ref (Ga 4), .int (Gv 0), .ref (Ga 5), .ref (Aa 0), .ref (Pa 0), .ref (Ga 8), .ref (Ga 9), .ref (Ga 10), .ref (Ga 11)])), ((Aa 0), .inr (9, [.int (Av 0), .int (Av 1), .int (Av 2), .int (Av 3), .int (Av 4), .int (Av 5), .ref (Aa 1), .ref (Aa 2), .ref (Aa 3), .ref (Aa 4), .ref (Aa 5), .ref (Aa 6), .ref (Aa 7), .ref (Aa 8)])), ((Aa 1), .inl (tc 0, 10, .inl (Af 1))), ((Aa 2), .inl (tc 0, 10, .inl (Af 2))), ((Aa 3), .inl (tc 0, 6, .inl (Af 3))), ((Aa 4), .inl (tc 0, 6, .inl (Af 4))), ((Aa 5), .inl (tc 0, 6, .inl (Af 5))), ((Aa 6), .inl (tc 0, 6, .inl (Af 6))), ((Aa 7), .inl (tc 0, 6, .inl (Af 7))), ((Aa 8), .inl (tc 0, 6, .inl (Af 8))), ((Pa 0), .inr (5, [.ref (Pa 1), .int (Pv 0), .int (Pv 1)])), ((Pa 1), .inl (tc 5, 20, .inr (.inr (.inr (.inr (Pq 1))))))] (fun (v : Option Value) (u : (Bool) × (Nat) × (Nat) × (Nat) × (Nat) × (Nat) × (Nat) × (Nat) × (Nat) × (Nat) × (Nat → Int32) × (Int32) × (Int32) × (Nat → Int32) × (Nat → Int32) × (Nat → Int32) × (Nat → Int32) × (Nat → Int32) × (Nat → Int32) × (Nat → Int32) × (Nat → Int32) × (Nat → Int32)) => match u with | (true, na0x0, na0x1, na0x2, na0x3, na0x4, na0x5, na0x6, na0x7, na0x8, oo0x1, oo0x2, oo0x3, oo0x4, oo0x5, oo0x6, oo0x7, oo0x8, oo0x9, oo0x10, oo0x11, oo1x1) => ∃ r : Int32, v = some (.int r) ∧ (True) ∧ (0 ≤ (oo0x2 : Int32).toInt ∧ (oo0x2 : Int32).toInt < 20) ∧ (0 ≤ ((Av 3) : Int32).toInt ∧ ((Av 3) : Int32).toInt ≤ 6) ∧ (0 ≤ ((Av 3) : Int32).toInt ∧ ((Av 3) : Int32).toInt ≤ 6) | (false, na0x0, na0x1, na0x2, na0x3, na0x4, na0x5, na0x6, na0x7, na0x8, oo0x1, oo0x2, oo0x3, oo0x4, oo0x5, oo0x6, oo0x7, oo0x8, oo0x9, oo0x10, oo0x11, oo1x1) => ∃ r : Int32, v = some (.int r) ∧ (True) ∧ (0 ≤ ((Pv 0) : Int32).toInt ∧ ((Pv 0) : Int32).toInt < 20) ∧ (0 ≤ ((Av 3) : Int32).toInt ∧ ((Av 3) : Int32).toInt ≤ 6)) (fun (u : (Bool) × (Nat) × (Nat) × (Nat) × (Nat) × (Nat) × (Nat) × (Nat) × (Nat) × (Nat) × (Nat → Int32) × (Int32) × (Int32) × (Nat → Int32) × (Nat → Int32) × (Nat → Int32) × (Nat → Int32) × (Nat → Int32) × (Nat → Int32) × (Nat → Int32) × (Nat → Int32) × (Nat → Int32)) => match u with | (true, na0x0, na0x1, na0x2, na0x3, na0x4, na0x5, na0x6, na0x7, na0x8, oo0x1, oo0x2, oo0x3, oo0x4, oo0x5, oo0x6, oo0x7, oo0x8, oo0x9, oo0x10, oo0x11, oo1x1) => [((Ga 0), .inr (11, [.ref (Ga 1), .ref (Ga 2), .ref (Ga 3), .ref (Ga 4), .int (Gv 0), .ref (Ga 5), .ref (Aa 0), .ref (Pa 0), .ref (Ga 8), .ref (Ga 9), .ref (Ga 10), .ref (Ga 11)])), ((Aa 0), .inr (9, [.int (Av 0), .int (Av 1), .int (Av 2), .int (Av 3), .int (Av 4), .int (Av 5), .ref (Aa 1), .ref (Aa 2), .ref (Aa 3), .ref (Aa 4), .ref (Aa 5), .ref (Aa 6), .ref (Aa 7), .ref (Aa 8)])), ((Aa 1), .inl (tc 0, 10, .inl oo0x1)), ((Aa 2), .inl (tc 0, 10, .inl (Af 2))), ((Aa 3), .inl (tc 0, 6, .inl (Af 3))), ((Aa 4), .inl (tc 0, 6, .inl (Af 4))), ((Aa 5), .inl (tc 0, 6, .inl (Af 5))), ((Aa 6), .inl (tc 0, 6, .inl (Af 6))), ((Aa 7), .inl (tc 0, 6, .inl (Af 7))), ((Aa 8), .inl (tc 0, 6, .inl (Af 8))), ((Pa 0), .inr (5, [.ref (Pa 1), .int oo0x2, .int oo0x3])), ((Pa 1), .inl (tc 5, 20, .inr (.inr (.inr (.inr (va_up (Pq 1) ((Pv 0) : Int32).toNatClampNeg (some na0x0))))))), (na0x0, .inr (9, [.int (Av 0), .int (Av 1), .int (Av 2), .int (Av 3), .int (Av 4), .int (Av 5), .ref na0x1, .ref na0x2, .ref na0x3, .ref na0x4, .ref na0x5, .ref na0x6, .ref na0x7, .ref na0x8])), (na0x1, .inl (tc 0, 10, .inl oo0x4)), (na0x2, .inl (tc 0, 10, .inl oo0x5)), (na0x3, .inl (tc 0, 6, .inl oo0x6)), (na0x4, .inl (tc 0, 6, .inl oo0x7)), (na0x5, .inl (tc 0, 6, .inl oo0x8)), (na0x6, .inl (tc 0, 6, .inl oo0x9)), (na0x7, .inl (tc 0, 6, .inl oo0x10)), (na0x8, .inl (tc 0, 6, .inl oo0x11))] | (false, na0x0, na0x1, na0x2, na0x3, na0x4, na0x5, na0x6, na0x7, na0x8, oo0x1, oo0x2, oo0x3, oo0x4, oo0x5, oo0x6, oo0x7, oo0x8, oo0x9, oo0x10, oo0x11, oo1x1) => [((Ga 0), .inr (11, [.ref (Ga 1), .ref (Ga 2), .ref (Ga 3), .ref (Ga 4), .int (Gv 0), .ref (Ga 5), .ref (Aa 0), .ref (Pa 0), .ref (Ga 8), .ref (Ga 9), .ref (Ga 10), .ref (Ga 11)])), ((Aa 0), .inr (9, [.int (Av 0), .int (Av 1), .int (Av 2), .int (Av 3), .int (Av 4), .int (Av 5), .ref (Aa 1), .ref (Aa 2), .ref (Aa 3), .ref (Aa 4), .ref (Aa 5), .ref (Aa 6), .ref (Aa 7), .ref (Aa 8)])), ((Aa 1), .inl (tc 0, 10, .inl oo1x1)), ((Aa 2), .inl (tc 0, 10, .inl (Af 2))), ((Aa 3), .inl (tc 0, 6, .inl (Af 3))), ((Aa 4), .inl (tc 0, 6, .inl (Af 4))), ((Aa 5), .inl (tc 0, 6, .inl (Af 5))), ((Aa 6), .inl (tc 0, 6, .inl (Af 6))), ((Aa 7), .inl (tc 0, 6, .inl (Af 7))), ((Aa 8), .inl (tc 0, 6, .inl (Af 8))), ((Pa 0), .inr (5, [.ref (Pa 1), .int (Pv 0), .int (Pv 1)])), ((Pa 1), .inl (tc 5, 20, .inr (.inr (.inr (.inr (Pq 1))))))]) 9 70 := by
  refine Ct.start (by decide) (Nat.le_of_ble_eq_true rfl) (fun p e s m below meth c A ls hx hb hr hlk hin hml hown hts hK hX hP hD hA hl hS => ?_)
  have hl : lv_has ls 4 [(0, .ref (Ga 0)), (1, .int x1), (2, .int x2)] := hl
  refine lv_aload_n hx hb dX11_change_0 rfl (lv_at hl 0 rfl) ?_
  refine gf_X11_51 hx hb hts hown hK hP 0 rfl rfl dX11_change_1 ?_
  refine lv_iload_n hx hb dX11_change_4 rfl (lv_at hl 1 rfl) ?_
  refine cV (a := (Aa 0)) (As := [.int x1]) (rest := []) (wr := [((Ga 0), .inr (11, [.ref (Ga 1), .ref (Ga 2), .ref (Ga 3), .ref (Ga 4), .int (Gv 0), .ref (Ga 5), .ref (Aa 0), .ref (Pa 0), .ref (Ga 8), .ref (Ga 9), .ref (Ga 10), .ref (Ga 11)])), ((Pa 0), .inr (5, [.ref (Pa 1), .int (Pv 0), .int (Pv 1)])), ((Pa 1), .inl (tc 5, 20, .inr (.inr (.inr (.inr (Pq 1))))))]) ⟨hx, hb, hml, hown, hts⟩ hK hX hA (ct_X9_hasClock l D tc sk Aa Av Af x1) k_579 k_713 k_577 k_578 k_98 pl_X9_hasClock ⟨Nat.le_of_ble_eq_true rfl, Nat.le_of_ble_eq_true rfl⟩ rfl rfl (va_recv hK hP (ci := 9) (q0 := 1) rfl rfl) hP hD hS [1, 2, 3, 4, 5, 6, 7, 8, 9] [0, 10, 11] rfl rfl rfl rfl rfl (by decide) rfl hl.1 rfl (Nat.le_of_ble_eq_true rfl) dX11_change_5 ⟨Nat.le_of_ble_eq_true rfl, Nat.le_of_ble_eq_true rfl⟩ (fun v_1 u_2 H locs hv_3 hP hD hS => ?_)
  obtain ⟨r_4, rfl, he_5⟩ := hv_3
  have he_5 : ((r_4.toInt = 0 ∨ (r_4.toInt = 1 ∧ 0 ≤ x1.toInt ∧ x1.toInt < 10))) := he_5
  refine W.eq (g2 := F0 m 8 ls [.int r_4]) rfl ?_
  have hP : va_P D classes [((Ga 0), .inr (11, [.ref (Ga 1), .ref (Ga 2), .ref (Ga 3), .ref (Ga 4), .int (Gv 0), .ref (Ga 5), .ref (Aa 0), .ref (Pa 0), .ref (Ga 8), .ref (Ga 9), .ref (Ga 10), .ref (Ga 11)])), ((Pa 0), .inr (5, [.ref (Pa 1), .int (Pv 0), .int (Pv 1)])), ((Pa 1), .inl (tc 5, 20, .inr (.inr (.inr (.inr (Pq 1)))))), ((Aa 0), .inr (9, [.int (Av 0), .int (Av 1), .int (Av 2), .int (Av 3), .int (Av 4), .int (Av 5), .ref (Aa 1), .ref (Aa 2), .ref (Aa 3), .ref (Aa 4), .ref (Aa 5), .ref (Aa 6), .ref (Aa 7), .ref (Aa 8)])), ((Aa 1), .inl (tc 0, 10, .inl (Af 1))), ((Aa 2), .inl (tc 0, 10, .inl (Af 2))), ((Aa 3), .inl (tc 0, 6, .inl (Af 3))), ((Aa 4), .inl (tc 0, 6, .inl (Af 4))), ((Aa 5), .inl (tc 0, 6, .inl (Af 5))), ((Aa 6), .inl (tc 0, 6, .inl (Af 6))), ((Aa 7), .inl (tc 0, 6, .inl (Af 7))), ((Aa 8), .inl (tc 0, 6, .inl (Af 8)))] H := hP
  have hD : va_D A [((Ga 0), .inr (11, [.ref (Ga 1), .ref (Ga 2), .ref (Ga 3), .ref (Ga 4), .int (Gv 0), .ref (Ga 5), .ref (Aa 0), .ref (Pa 0), .ref (Ga 8), .ref (Ga 9), .ref (Ga 10), .ref (Ga 11)])), ((Pa 0), .inr (5, [.ref (Pa 1), .int (Pv 0), .int (Pv 1)])), ((Pa 1), .inl (tc 5, 20, .inr (.inr (.inr (.inr (Pq 1)))))), ((Aa 0), .inr (9, [.int (Av 0), .int (Av 1), .int (Av 2), .int (Av 3), .int (Av 4), .int (Av 5), .ref (Aa 1), .ref (Aa 2), .ref (Aa 3), .ref (Aa 4), .ref (Aa 5), .ref (Aa 6), .ref (Aa 7), .ref (Aa 8)])), ((Aa 1), .inl (tc 0, 10, .inl (Af 1))), ((Aa 2), .inl (tc 0, 10, .inl (Af 2))), ((Aa 3), .inl (tc 0, 6, .inl (Af 3))), ((Aa 4), .inl (tc 0, 6, .inl (Af 4))), ((Aa 5), .inl (tc 0, 6, .inl (Af 5))), ((Aa 6), .inl (tc 0, 6, .inl (Af 6))), ((Aa 7), .inl (tc 0, 6, .inl (Af 7))), ((Aa 8), .inl (tc 0, 6, .inl (Af 8)))] := hD
  refine lv_if_eq (tgt := 34) hx hb dX11_change_8 (by decide) (fun c_6 => ?_) (fun c_6 => ?_)
  · skip
    refine lv_iconst (v := (-1)) hx hb dX11_change_34 (by decide) ?_
    have ha_7 : 0 ≤ ((Pv 0) : Int32).toInt ∧ ((Pv 0) : Int32).toInt < 20 := by
      have z_1 := congrArg Int32.toInt c_6
      have y_0 : (0 : Int32).toInt = 0 := by decide
      omega
    have ha_8 : 0 ≤ ((Av 3) : Int32).toInt ∧ ((Av 3) : Int32).toInt ≤ 6 := by
      have z_1 := congrArg Int32.toInt c_6
      have y_0 : (0 : Int32).toInt = 0 := by decide
      omega
    exact retI (v := (-1)) hx hb hr hlk (rfl) hP hD hS (false, 0, 0, 0, 0, 0, 0, 0, 0, 0, (fun _ => 0), 0, 0, (fun _ => 0), (fun _ => 0), (fun _ => 0), (fun _ => 0), (fun _ => 0), (fun _ => 0), (fun _ => 0), (fun _ => 0), (Af 1)) ⟨_, rfl, trivial, ha_7, ha_8⟩ [0, 3, 4, 5, 6, 7, 8, 9, 10, 11, 1, 2] rfl rfl dX11_change_35 (Nat.le_of_ble_eq_true rfl) (Nat.le_of_ble_eq_true rfl) rfl
  · skip
    refine lv_iload_n hx hb dX11_change_11 rfl (lv_at hl 2 rfl) ?_
    refine lv_iconst (v := 0) hx hb dX11_change_12 (by decide) ?_
    refine lv_bipush (v := 9) hx hb dX11_change_13 (by decide) ?_
    refine cS (As := [.int x2, .int 0, .int 9]) (rest := []) (wr := [((Ga 0), .inr (11, [.ref (Ga 1), .ref (Ga 2), .ref (Ga 3), .ref (Ga 4), .int (Gv 0), .ref (Ga 5), .ref (Aa 0), .ref (Pa 0), .ref (Ga 8), .ref (Ga 9), .ref (Ga 10), .ref (Ga 11)])), ((Pa 0), .inr (5, [.ref (Pa 1), .int (Pv 0), .int (Pv 1)])), ((Pa 1), .inl (tc 5, 20, .inr (.inr (.inr (.inr (Pq 1)))))), ((Aa 0), .inr (9, [.int (Av 0), .int (Av 1), .int (Av 2), .int (Av 3), .int (Av 4), .int (Av 5), .ref (Aa 1), .ref (Aa 2), .ref (Aa 3), .ref (Aa 4), .ref (Aa 5), .ref (Aa 6), .ref (Aa 7), .ref (Aa 8)])), ((Aa 1), .inl (tc 0, 10, .inl (Af 1))), ((Aa 2), .inl (tc 0, 10, .inl (Af 2))), ((Aa 3), .inl (tc 0, 6, .inl (Af 3))), ((Aa 4), .inl (tc 0, 6, .inl (Af 4))), ((Aa 5), .inl (tc 0, 6, .inl (Af 5))), ((Aa 6), .inl (tc 0, 6, .inl (Af 6))), ((Aa 7), .inl (tc 0, 6, .inl (Af 7))), ((Aa 8), .inl (tc 0, 6, .inl (Af 8)))]) ⟨hx, hb, hml, hown, hts⟩ hK hX hA (ct_X11_isWithin l D tc sk x2 0 9) k_716 k_714 k_715 k_95 pl_X11_isWithin ⟨Nat.le_of_ble_eq_true rfl, Nat.le_of_ble_eq_true rfl⟩ rfl rfl  hP hD hS [] [0, 1, 2, 3, 4, 5, 6, 7, 8, 9, 10, 11] rfl rfl rfl rfl rfl (by decide) rfl hl.1 rfl (Nat.le_of_ble_eq_true rfl) dX11_change_15 ⟨Nat.le_of_ble_eq_true rfl, Nat.le_of_ble_eq_true rfl⟩ (fun v_9 u_10 H locs hv_11 hP hD hS => ?_)
    obtain ⟨r_12, rfl, he_13⟩ := hv_11
    have he_13 : (r_12.toInt = 0 ∨ (r_12.toInt = 1 ∧ (0 : Int32).toInt ≤ x2.toInt ∧ x2.toInt ≤ (9 : Int32).toInt)) := he_13
    refine W.eq (g2 := F0 m 18 ls [.int r_12]) rfl ?_
    have hP : va_P D classes [((Ga 0), .inr (11, [.ref (Ga 1), .ref (Ga 2), .ref (Ga 3), .ref (Ga 4), .int (Gv 0), .ref (Ga 5), .ref (Aa 0), .ref (Pa 0), .ref (Ga 8), .ref (Ga 9), .ref (Ga 10), .ref (Ga 11)])), ((Pa 0), .inr (5, [.ref (Pa 1), .int (Pv 0), .int (Pv 1)])), ((Pa 1), .inl (tc 5, 20, .inr (.inr (.inr (.inr (Pq 1)))))), ((Aa 0), .inr (9, [.int (Av 0), .int (Av 1), .int (Av 2), .int (Av 3), .int (Av 4), .int (Av 5), .ref (Aa 1), .ref (Aa 2), .ref (Aa 3), .ref (Aa 4), .ref (Aa 5), .ref (Aa 6), .ref (Aa 7), .ref (Aa 8)])), ((Aa 1), .inl (tc 0, 10, .inl (Af 1))), ((Aa 2), .inl (tc 0, 10, .inl (Af 2))), ((Aa 3), .inl (tc 0, 6, .inl (Af 3))), ((Aa 4), .inl (tc 0, 6, .inl (Af 4))), ((Aa 5), .inl (tc 0, 6, .inl (Af 5))), ((Aa 6), .inl (tc 0, 6, .inl (Af 6))), ((Aa 7), .inl (tc 0, 6, .inl (Af 7))), ((Aa 8), .inl (tc 0, 6, .inl (Af 8)))] H := hP
    have hD : va_D A [((Ga 0), .inr (11, [.ref (Ga 1), .ref (Ga 2), .ref (Ga 3), .ref (Ga 4), .int (Gv 0), .ref (Ga 5), .ref (Aa 0), .ref (Pa 0), .ref (Ga 8), .ref (Ga 9), .ref (Ga 10), .ref (Ga 11)])), ((Pa 0), .inr (5, [.ref (Pa 1), .int (Pv 0), .int (Pv 1)])), ((Pa 1), .inl (tc 5, 20, .inr (.inr (.inr (.inr (Pq 1)))))), ((Aa 0), .inr (9, [.int (Av 0), .int (Av 1), .int (Av 2), .int (Av 3), .int (Av 4), .int (Av 5), .ref (Aa 1), .ref (Aa 2), .ref (Aa 3), .ref (Aa 4), .ref (Aa 5), .ref (Aa 6), .ref (Aa 7), .ref (Aa 8)])), ((Aa 1), .inl (tc 0, 10, .inl (Af 1))), ((Aa 2), .inl (tc 0, 10, .inl (Af 2))), ((Aa 3), .inl (tc 0, 6, .inl (Af 3))), ((Aa 4), .inl (tc 0, 6, .inl (Af 4))), ((Aa 5), .inl (tc 0, 6, .inl (Af 5))), ((Aa 6), .inl (tc 0, 6, .inl (Af 6))), ((Aa 7), .inl (tc 0, 6, .inl (Af 7))), ((Aa 8), .inl (tc 0, 6, .inl (Af 8)))] := hD
    refine lv_if_eq (tgt := 34) hx hb dX11_change_18 (by decide) (fun c_15 => ?_) (fun c_15 => ?_)
    · skip
      refine lv_iconst (v := (-1)) hx hb dX11_change_34 (by decide) ?_
      have ha_16 : 0 ≤ ((Pv 0) : Int32).toInt ∧ ((Pv 0) : Int32).toInt < 20 := by
        have z_1 : ¬ (r_4 : Int32).toInt = (0 : Int32).toInt := fun z => c_6 (Int32.toInt_inj.mp z)
        have z_2 := congrArg Int32.toInt c_15
        have y_0 : (0 : Int32).toInt = 0 := by decide
        omega
      have ha_17 : 0 ≤ ((Av 3) : Int32).toInt ∧ ((Av 3) : Int32).toInt ≤ 6 := by
        have z_1 : ¬ (r_4 : Int32).toInt = (0 : Int32).toInt := fun z => c_6 (Int32.toInt_inj.mp z)
        have z_2 := congrArg Int32.toInt c_15
        have y_0 : (0 : Int32).toInt = 0 := by decide
        omega
      exact retI (v := (-1)) hx hb hr hlk (rfl) hP hD hS (false, 0, 0, 0, 0, 0, 0, 0, 0, 0, (fun _ => 0), 0, 0, (fun _ => 0), (fun _ => 0), (fun _ => 0), (fun _ => 0), (fun _ => 0), (fun _ => 0), (fun _ => 0), (fun _ => 0), (Af 1)) ⟨_, rfl, trivial, ha_16, ha_17⟩ [0, 3, 4, 5, 6, 7, 8, 9, 10, 11, 1, 2] rfl rfl dX11_change_35 (Nat.le_of_ble_eq_true rfl) (Nat.le_of_ble_eq_true rfl) rfl
    · skip
      refine lv_aload_n hx hb dX11_change_21 rfl (lv_at hl 0 rfl) ?_
      refine gf_X11_51 hx hb hts hown hK hP 0 rfl rfl dX11_change_22 ?_
      refine gf_X11_170 hx hb hts hown hK hP 3 rfl rfl dX11_change_25 ?_
      refine lv_iload_n hx hb dX11_change_28 rfl (lv_at hl 1 rfl) ?_
      have hi_18 : vp_in x1 10 := by
        have z_1 : ¬ (r_4 : Int32).toInt = (0 : Int32).toInt := fun z => c_6 (Int32.toInt_inj.mp z)
        have z_2 : ¬ (r_12 : Int32).toInt = (0 : Int32).toInt := fun z => c_15 (Int32.toInt_inj.mp z)
        have y_0 : (0 : Int32).toInt = 0 := by decide
        refine vp_in_iff.mpr ⟨?_, ?_⟩ <;> omega
      refine va_iald hx hb hK hP 4 0 rfl rfl hi_18 dX11_change_29 ?_
      refine lv_topi (fun x_19 ex_19 => ?_)
      refine lv_iload_n hx hb dX11_change_30 rfl (lv_at hl 2 rfl) ?_
      refine lv_icmp_ne (tgt := 36) hx hb dX11_change_31 (by decide) (fun c_20 => ?_) (fun c_20 => ?_)
      · skip
        refine lv_aload_n hx hb dX11_change_36 rfl (lv_at hl 0 rfl) ?_
        refine gf_X11_57 hx hb hts hown hK hP 0 rfl rfl dX11_change_37 ?_
        refine lv_aload_n hx hb dX11_change_40 rfl (lv_at hl 0 rfl) ?_
        refine gf_X11_51 hx hb hts hown hK hP 0 rfl rfl dX11_change_41 ?_
        have ha_21 : 0 ≤ ((Pv 0) : Int32).toInt ∧ ((Pv 0) : Int32).toInt < 20 := by
          have z_1 : ¬ (r_4 : Int32).toInt = (0 : Int32).toInt := fun z => c_6 (Int32.toInt_inj.mp z)
          have z_2 : ¬ (r_12 : Int32).toInt = (0 : Int32).toInt := fun z => c_15 (Int32.toInt_inj.mp z)
          have z_3 : ¬ (x_19 : Int32).toInt = (x2 : Int32).toInt := fun z => c_20 (Int32.toInt_inj.mp z)
          have y_0 : (0 : Int32).toInt = 0 := by decide
          omega
        refine cV (a := (Pa 0)) (As := [.ref (Aa 0)]) (rest := []) (wr := [((Ga 0), .inr (11, [.ref (Ga 1), .ref (Ga 2), .ref (Ga 3), .ref (Ga 4), .int (Gv 0), .ref (Ga 5), .ref (Aa 0), .ref (Pa 0), .ref (Ga 8), .ref (Ga 9), .ref (Ga 10), .ref (Ga 11)]))]) ⟨hx, hb, hml, hown, hts⟩ hK hX hA (ct_X5_keep_n l D tc sk Pa Pv Pq Aa Av Af ha_21 h_q) k_728 k_725 k_726 k_727 k_102 pl_X5_keep ⟨Nat.le_of_ble_eq_true rfl, Nat.le_of_ble_eq_true rfl⟩ rfl rfl (va_recv hK hP (ci := 5) (q0 := 1) rfl rfl) hP hD hS [1, 2, 3, 4, 5, 6, 7, 8, 9, 10, 11] [0] rfl rfl rfl rfl rfl (by decide) rfl hl.1 rfl (Nat.le_of_ble_eq_true rfl) dX11_change_44 ⟨Nat.le_of_ble_eq_true rfl, Nat.le_of_ble_eq_true rfl⟩ (fun v_22 u_23 H locs hv_24 hP hD hS => ?_)
        obtain ⟨sv_25, sv_26, sv_27, sv_28, sv_29, sv_30, sv_31, sv_32, sv_33, sv_34, sv_35, sv_36, sv_37, sv_38, sv_39, sv_40, sv_41, sv_42, sv_43, sv_44⟩ := u_23
        cases sv_25
        · skip
          obtain ⟨rfl, pf_45⟩ := hv_24
          have pf_45 : 0 ≤ ((Pv 0) : Int32).toInt ∧ ((Pv 0) : Int32).toInt < 20 := pf_45
          refine W.eq (g2 := F0 m 47 ls []) rfl ?_
          have hP : va_P D classes [((Ga 0), .inr (11, [.ref (Ga 1), .ref (Ga 2), .ref (Ga 3), .ref (Ga 4), .int (Gv 0), .ref (Ga 5), .ref (Aa 0), .ref (Pa 0), .ref (Ga 8), .ref (Ga 9), .ref (Ga 10), .ref (Ga 11)])), ((Pa 0), .inr (5, [.ref (Pa 1), .int (Pv 0), .int (Pv 1)])), ((Pa 1), .inl (tc 5, 20, .inr (.inr (.inr (.inr (Pq 1)))))), ((Aa 0), .inr (9, [.int (Av 0), .int (Av 1), .int (Av 2), .int (Av 3), .int (Av 4), .int (Av 5), .ref (Aa 1), .ref (Aa 2), .ref (Aa 3), .ref (Aa 4), .ref (Aa 5), .ref (Aa 6), .ref (Aa 7), .ref (Aa 8)])), ((Aa 1), .inl (tc 0, 10, .inl (Af 1))), ((Aa 2), .inl (tc 0, 10, .inl (Af 2))), ((Aa 3), .inl (tc 0, 6, .inl (Af 3))), ((Aa 4), .inl (tc 0, 6, .inl (Af 4))), ((Aa 5), .inl (tc 0, 6, .inl (Af 5))), ((Aa 6), .inl (tc 0, 6, .inl (Af 6))), ((Aa 7), .inl (tc 0, 6, .inl (Af 7))), ((Aa 8), .inl (tc 0, 6, .inl (Af 8)))] H := hP
          have hD : va_D A [((Ga 0), .inr (11, [.ref (Ga 1), .ref (Ga 2), .ref (Ga 3), .ref (Ga 4), .int (Gv 0), .ref (Ga 5), .ref (Aa 0), .ref (Pa 0), .ref (Ga 8), .ref (Ga 9), .ref (Ga 10), .ref (Ga 11)])), ((Pa 0), .inr (5, [.ref (Pa 1), .int (Pv 0), .int (Pv 1)])), ((Pa 1), .inl (tc 5, 20, .inr (.inr (.inr (.inr (Pq 1)))))), ((Aa 0), .inr (9, [.int (Av 0), .int (Av 1), .int (Av 2), .int (Av 3), .int (Av 4), .int (Av 5), .ref (Aa 1), .ref (Aa 2), .ref (Aa 3), .ref (Aa 4), .ref (Aa 5), .ref (Aa 6), .ref (Aa 7), .ref (Aa 8)])), ((Aa 1), .inl (tc 0, 10, .inl (Af 1))), ((Aa 2), .inl (tc 0, 10, .inl (Af 2))), ((Aa 3), .inl (tc 0, 6, .inl (Af 3))), ((Aa 4), .inl (tc 0, 6, .inl (Af 4))), ((Aa 5), .inl (tc 0, 6, .inl (Af 5))), ((Aa 6), .inl (tc 0, 6, .inl (Af 6))), ((Aa 7), .inl (tc 0, 6, .inl (Af 7))), ((Aa 8), .inl (tc 0, 6, .inl (Af 8)))] := hD
          refine lv_aload_n hx hb dX11_change_47 rfl (lv_at hl 0 rfl) ?_
          refine gf_X11_51 hx hb hts hown hK hP 0 rfl rfl dX11_change_48 ?_
          refine gf_X11_170 hx hb hts hown hK hP 3 rfl rfl dX11_change_51 ?_
          refine lv_iload_n hx hb dX11_change_54 rfl (lv_at hl 1 rfl) ?_
          have hi_46 : vp_in x1 10 := by
            have z_1 : ¬ (r_4 : Int32).toInt = (0 : Int32).toInt := fun z => c_6 (Int32.toInt_inj.mp z)
            have z_2 : ¬ (r_12 : Int32).toInt = (0 : Int32).toInt := fun z => c_15 (Int32.toInt_inj.mp z)
            have z_3 : ¬ (x_19 : Int32).toInt = (x2 : Int32).toInt := fun z => c_20 (Int32.toInt_inj.mp z)
            have y_0 : (0 : Int32).toInt = 0 := by decide
            refine vp_in_iff.mpr ⟨?_, ?_⟩ <;> omega
          refine va_iald hx hb hK hP 4 0 rfl rfl hi_46 dX11_change_55 ?_
          refine lv_topi (fun x_47 ex_47 => ?_)
          refine lv_istore_n (lv' := [(3, .int x_47), (0, .ref (Ga 0)), (1, .int x1), (2, .int x2)]) hx hb dX11_change_56 rfl hl (by decide) rfl (fun ls hl => ?_)
          refine lv_aload_n hx hb dX11_change_57 rfl (lv_at hl 1 rfl) ?_
          refine gf_X11_51 hx hb hts hown hK hP 0 rfl rfl dX11_change_58 ?_
          refine gf_X11_170 hx hb hts hown hK hP 3 rfl rfl dX11_change_61 ?_
          refine lv_iload_n hx hb dX11_change_64 rfl (lv_at hl 2 rfl) ?_
          refine lv_iload_n hx hb dX11_change_65 rfl (lv_at hl 3 rfl) ?_
          have hi_48 : vp_in x1 10 := by
            have z_1 : ¬ (r_4 : Int32).toInt = (0 : Int32).toInt := fun z => c_6 (Int32.toInt_inj.mp z)
            have z_2 : ¬ (r_12 : Int32).toInt = (0 : Int32).toInt := fun z => c_15 (Int32.toInt_inj.mp z)
            have z_3 : ¬ (x_19 : Int32).toInt = (x2 : Int32).toInt := fun z => c_20 (Int32.toInt_inj.mp z)
            have y_0 : (0 : Int32).toInt = 0 := by decide
            refine vp_in_iff.mpr ⟨?_, ?_⟩ <;> omega
          refine st_int hx hb hK hP hD hS 4 0 rfl rfl hi_48 dX11_change_66 (fun g_49 H locs eg_49 hP hD hS => ?_)
          have hP : va_P D classes [((Ga 0), .inr (11, [.ref (Ga 1), .ref (Ga 2), .ref (Ga 3), .ref (Ga 4), .int (Gv 0), .ref (Ga 5), .ref (Aa 0), .ref (Pa 0), .ref (Ga 8), .ref (Ga 9), .ref (Ga 10), .ref (Ga 11)])), ((Pa 0), .inr (5, [.ref (Pa 1), .int (Pv 0), .int (Pv 1)])), ((Pa 1), .inl (tc 5, 20, .inr (.inr (.inr (.inr (Pq 1)))))), ((Aa 0), .inr (9, [.int (Av 0), .int (Av 1), .int (Av 2), .int (Av 3), .int (Av 4), .int (Av 5), .ref (Aa 1), .ref (Aa 2), .ref (Aa 3), .ref (Aa 4), .ref (Aa 5), .ref (Aa 6), .ref (Aa 7), .ref (Aa 8)])), ((Aa 1), .inl (tc 0, 10, .inl g_49)), ((Aa 2), .inl (tc 0, 10, .inl (Af 2))), ((Aa 3), .inl (tc 0, 6, .inl (Af 3))), ((Aa 4), .inl (tc 0, 6, .inl (Af 4))), ((Aa 5), .inl (tc 0, 6, .inl (Af 5))), ((Aa 6), .inl (tc 0, 6, .inl (Af 6))), ((Aa 7), .inl (tc 0, 6, .inl (Af 7))), ((Aa 8), .inl (tc 0, 6, .inl (Af 8)))] H := hP
          have hD : va_D A [((Ga 0), .inr (11, [.ref (Ga 1), .ref (Ga 2), .ref (Ga 3), .ref (Ga 4), .int (Gv 0), .ref (Ga 5), .ref (Aa 0), .ref (Pa 0), .ref (Ga 8), .ref (Ga 9), .ref (Ga 10), .ref (Ga 11)])), ((Pa 0), .inr (5, [.ref (Pa 1), .int (Pv 0), .int (Pv 1)])), ((Pa 1), .inl (tc 5, 20, .inr (.inr (.inr (.inr (Pq 1)))))), ((Aa 0), .inr (9, [.int (Av 0), .int (Av 1), .int (Av 2), .int (Av 3), .int (Av 4), .int (Av 5), .ref (Aa 1), .ref (Aa 2), .ref (Aa 3), .ref (Aa 4), .ref (Aa 5), .ref (Aa 6), .ref (Aa 7), .ref (Aa 8)])), ((Aa 1), .inl (tc 0, 10, .inl g_49)), ((Aa 2), .inl (tc 0, 10, .inl (Af 2))), ((Aa 3), .inl (tc 0, 6, .inl (Af 3))), ((Aa 4), .inl (tc 0, 6, .inl (Af 4))), ((Aa 5), .inl (tc 0, 6, .inl (Af 5))), ((Aa 6), .inl (tc 0, 6, .inl (Af 6))), ((Aa 7), .inl (tc 0, 6, .inl (Af 7))), ((Aa 8), .inl (tc 0, 6, .inl (Af 8)))] := hD
          refine lv_iload_n hx hb dX11_change_67 rfl (lv_at hl 0 rfl) ?_
          have ha_50 : 0 ≤ ((Pv 0) : Int32).toInt ∧ ((Pv 0) : Int32).toInt < 20 := by
            have z_1 : ¬ (r_4 : Int32).toInt = (0 : Int32).toInt := fun z => c_6 (Int32.toInt_inj.mp z)
            have z_2 : ¬ (r_12 : Int32).toInt = (0 : Int32).toInt := fun z => c_15 (Int32.toInt_inj.mp z)
            have z_3 : ¬ (x_19 : Int32).toInt = (x2 : Int32).toInt := fun z => c_20 (Int32.toInt_inj.mp z)
            have y_0 : (0 : Int32).toInt = 0 := by decide
            omega
          have ha_51 : 0 ≤ ((Av 3) : Int32).toInt ∧ ((Av 3) : Int32).toInt ≤ 6 := by
            have z_1 : ¬ (r_4 : Int32).toInt = (0 : Int32).toInt := fun z => c_6 (Int32.toInt_inj.mp z)
            have z_2 : ¬ (r_12 : Int32).toInt = (0 : Int32).toInt := fun z => c_15 (Int32.toInt_inj.mp z)
            have z_3 : ¬ (x_19 : Int32).toInt = (x2 : Int32).toInt := fun z => c_20 (Int32.toInt_inj.mp z)
            have y_0 : (0 : Int32).toInt = 0 := by decide
            omega
          exact retI (v := x_47) hx hb hr hlk (rfl) hP hD hS (false, 0, 0, 0, 0, 0, 0, 0, 0, 0, (fun _ => 0), 0, 0, (fun _ => 0), (fun _ => 0), (fun _ => 0), (fun _ => 0), (fun _ => 0), (fun _ => 0), (fun _ => 0), (fun _ => 0), g_49) ⟨_, rfl, trivial, ha_50, ha_51⟩ [0, 3, 4, 5, 6, 7, 8, 9, 10, 11, 1, 2] rfl rfl dX11_change_68 (Nat.le_of_ble_eq_true rfl) (Nat.le_of_ble_eq_true rfl) rfl
        · skip
          obtain ⟨rfl, pf_52⟩ := hv_24
          have pf_52 : 0 ≤ (sv_35 : Int32).toInt ∧ (sv_35 : Int32).toInt < 20 := pf_52
          refine W.eq (g2 := F0 m 47 ls []) rfl ?_
          have hP : va_P D classes [((Ga 0), .inr (11, [.ref (Ga 1), .ref (Ga 2), .ref (Ga 3), .ref (Ga 4), .int (Gv 0), .ref (Ga 5), .ref (Aa 0), .ref (Pa 0), .ref (Ga 8), .ref (Ga 9), .ref (Ga 10), .ref (Ga 11)])), ((Pa 0), .inr (5, [.ref (Pa 1), .int sv_35, .int sv_36])), ((Pa 1), .inl (tc 5, 20, .inr (.inr (.inr (.inr (va_up (Pq 1) ((Pv 0) : Int32).toNatClampNeg (some sv_26))))))), ((Aa 0), .inr (9, [.int (Av 0), .int (Av 1), .int (Av 2), .int (Av 3), .int (Av 4), .int (Av 5), .ref (Aa 1), .ref (Aa 2), .ref (Aa 3), .ref (Aa 4), .ref (Aa 5), .ref (Aa 6), .ref (Aa 7), .ref (Aa 8)])), ((Aa 1), .inl (tc 0, 10, .inl (Af 1))), ((Aa 2), .inl (tc 0, 10, .inl (Af 2))), ((Aa 3), .inl (tc 0, 6, .inl (Af 3))), ((Aa 4), .inl (tc 0, 6, .inl (Af 4))), ((Aa 5), .inl (tc 0, 6, .inl (Af 5))), ((Aa 6), .inl (tc 0, 6, .inl (Af 6))), ((Aa 7), .inl (tc 0, 6, .inl (Af 7))), ((Aa 8), .inl (tc 0, 6, .inl (Af 8))), (sv_26, .inr (9, [.int (Av 0), .int (Av 1), .int (Av 2), .int (Av 3), .int (Av 4), .int (Av 5), .ref sv_27, .ref sv_28, .ref sv_29, .ref sv_30, .ref sv_31, .ref sv_32, .ref sv_33, .ref sv_34])), (sv_27, .inl (tc 0, 10, .inl sv_37)), (sv_28, .inl (tc 0, 10, .inl sv_38)), (sv_29, .inl (tc 0, 6, .inl sv_39)), (sv_30, .inl (tc 0, 6, .inl sv_40)), (sv_31, .inl (tc 0, 6, .inl sv_41)), (sv_32, .inl (tc 0, 6, .inl sv_42)), (sv_33, .inl (tc 0, 6, .inl sv_43)), (sv_34, .inl (tc 0, 6, .inl sv_44))] H := hP
          have hD : va_D A [((Ga 0), .inr (11, [.ref (Ga 1), .ref (Ga 2), .ref (Ga 3), .ref (Ga 4), .int (Gv 0), .ref (Ga 5), .ref (Aa 0), .ref (Pa 0), .ref (Ga 8), .ref (Ga 9), .ref (Ga 10), .ref (Ga 11)])), ((Pa 0), .inr (5, [.ref (Pa 1), .int sv_35, .int sv_36])), ((Pa 1), .inl (tc 5, 20, .inr (.inr (.inr (.inr (va_up (Pq 1) ((Pv 0) : Int32).toNatClampNeg (some sv_26))))))), ((Aa 0), .inr (9, [.int (Av 0), .int (Av 1), .int (Av 2), .int (Av 3), .int (Av 4), .int (Av 5), .ref (Aa 1), .ref (Aa 2), .ref (Aa 3), .ref (Aa 4), .ref (Aa 5), .ref (Aa 6), .ref (Aa 7), .ref (Aa 8)])), ((Aa 1), .inl (tc 0, 10, .inl (Af 1))), ((Aa 2), .inl (tc 0, 10, .inl (Af 2))), ((Aa 3), .inl (tc 0, 6, .inl (Af 3))), ((Aa 4), .inl (tc 0, 6, .inl (Af 4))), ((Aa 5), .inl (tc 0, 6, .inl (Af 5))), ((Aa 6), .inl (tc 0, 6, .inl (Af 6))), ((Aa 7), .inl (tc 0, 6, .inl (Af 7))), ((Aa 8), .inl (tc 0, 6, .inl (Af 8))), (sv_26, .inr (9, [.int (Av 0), .int (Av 1), .int (Av 2), .int (Av 3), .int (Av 4), .int (Av 5), .ref sv_27, .ref sv_28, .ref sv_29, .ref sv_30, .ref sv_31, .ref sv_32, .ref sv_33, .ref sv_34])), (sv_27, .inl (tc 0, 10, .inl sv_37)), (sv_28, .inl (tc 0, 10, .inl sv_38)), (sv_29, .inl (tc 0, 6, .inl sv_39)), (sv_30, .inl (tc 0, 6, .inl sv_40)), (sv_31, .inl (tc 0, 6, .inl sv_41)), (sv_32, .inl (tc 0, 6, .inl sv_42)), (sv_33, .inl (tc 0, 6, .inl sv_43)), (sv_34, .inl (tc 0, 6, .inl sv_44))] := hD
          refine lv_aload_n hx hb dX11_change_47 rfl (lv_at hl 0 rfl) ?_
          refine gf_X11_51 hx hb hts hown hK hP 0 rfl rfl dX11_change_48 ?_
          refine gf_X11_170 hx hb hts hown hK hP 3 rfl rfl dX11_change_51 ?_
          refine lv_iload_n hx hb dX11_change_54 rfl (lv_at hl 1 rfl) ?_
          have hi_53 : vp_in x1 10 := by
            have z_1 : ¬ (r_4 : Int32).toInt = (0 : Int32).toInt := fun z => c_6 (Int32.toInt_inj.mp z)
            have z_2 : ¬ (r_12 : Int32).toInt = (0 : Int32).toInt := fun z => c_15 (Int32.toInt_inj.mp z)
            have z_3 : ¬ (x_19 : Int32).toInt = (x2 : Int32).toInt := fun z => c_20 (Int32.toInt_inj.mp z)
            have y_0 : (0 : Int32).toInt = 0 := by decide
            refine vp_in_iff.mpr ⟨?_, ?_⟩ <;> omega
          refine va_iald hx hb hK hP 4 0 rfl rfl hi_53 dX11_change_55 ?_
          refine lv_topi (fun x_54 ex_54 => ?_)
          refine lv_istore_n (lv' := [(3, .int x_54), (0, .ref (Ga 0)), (1, .int x1), (2, .int x2)]) hx hb dX11_change_56 rfl hl (by decide) rfl (fun ls hl => ?_)
          refine lv_aload_n hx hb dX11_change_57 rfl (lv_at hl 1 rfl) ?_
          refine gf_X11_51 hx hb hts hown hK hP 0 rfl rfl dX11_change_58 ?_
          refine gf_X11_170 hx hb hts hown hK hP 3 rfl rfl dX11_change_61 ?_
          refine lv_iload_n hx hb dX11_change_64 rfl (lv_at hl 2 rfl) ?_
          refine lv_iload_n hx hb dX11_change_65 rfl (lv_at hl 3 rfl) ?_
          have hi_55 : vp_in x1 10 := by
            have z_1 : ¬ (r_4 : Int32).toInt = (0 : Int32).toInt := fun z => c_6 (Int32.toInt_inj.mp z)
            have z_2 : ¬ (r_12 : Int32).toInt = (0 : Int32).toInt := fun z => c_15 (Int32.toInt_inj.mp z)
            have z_3 : ¬ (x_19 : Int32).toInt = (x2 : Int32).toInt := fun z => c_20 (Int32.toInt_inj.mp z)
            have y_0 : (0 : Int32).toInt = 0 := by decide
            refine vp_in_iff.mpr ⟨?_, ?_⟩ <;> omega
          refine st_int hx hb hK hP hD hS 4 0 rfl rfl hi_55 dX11_change_66 (fun g_56 H locs eg_56 hP hD hS => ?_)
          have hP : va_P D classes [((Ga 0), .inr (11, [.ref (Ga 1), .ref (Ga 2), .ref (Ga 3), .ref (Ga 4), .int (Gv 0), .ref (Ga 5), .ref (Aa 0), .ref (Pa 0), .ref (Ga 8), .ref (Ga 9), .ref (Ga 10), .ref (Ga 11)])), ((Pa 0), .inr (5, [.ref (Pa 1), .int sv_35, .int sv_36])), ((Pa 1), .inl (tc 5, 20, .inr (.inr (.inr (.inr (va_up (Pq 1) ((Pv 0) : Int32).toNatClampNeg (some sv_26))))))), ((Aa 0), .inr (9, [.int (Av 0), .int (Av 1), .int (Av 2), .int (Av 3), .int (Av 4), .int (Av 5), .ref (Aa 1), .ref (Aa 2), .ref (Aa 3), .ref (Aa 4), .ref (Aa 5), .ref (Aa 6), .ref (Aa 7), .ref (Aa 8)])), ((Aa 1), .inl (tc 0, 10, .inl g_56)), ((Aa 2), .inl (tc 0, 10, .inl (Af 2))), ((Aa 3), .inl (tc 0, 6, .inl (Af 3))), ((Aa 4), .inl (tc 0, 6, .inl (Af 4))), ((Aa 5), .inl (tc 0, 6, .inl (Af 5))), ((Aa 6), .inl (tc 0, 6, .inl (Af 6))), ((Aa 7), .inl (tc 0, 6, .inl (Af 7))), ((Aa 8), .inl (tc 0, 6, .inl (Af 8))), (sv_26, .inr (9, [.int (Av 0), .int (Av 1), .int (Av 2), .int (Av 3), .int (Av 4), .int (Av 5), .ref sv_27, .ref sv_28, .ref sv_29, .ref sv_30, .ref sv_31, .ref sv_32, .ref sv_33, .ref sv_34])), (sv_27, .inl (tc 0, 10, .inl sv_37)), (sv_28, .inl (tc 0, 10, .inl sv_38)), (sv_29, .inl (tc 0, 6, .inl sv_39)), (sv_30, .inl (tc 0, 6, .inl sv_40)), (sv_31, .inl (tc 0, 6, .inl sv_41)), (sv_32, .inl (tc 0, 6, .inl sv_42)), (sv_33, .inl (tc 0, 6, .inl sv_43)), (sv_34, .inl (tc 0, 6, .inl sv_44))] H := hP
          have hD : va_D A [((Ga 0), .inr (11, [.ref (Ga 1), .ref (Ga 2), .ref (Ga 3), .ref (Ga 4), .int (Gv 0), .ref (Ga 5), .ref (Aa 0), .ref (Pa 0), .ref (Ga 8), .ref (Ga 9), .ref (Ga 10), .ref (Ga 11)])), ((Pa 0), .inr (5, [.ref (Pa 1), .int sv_35, .int sv_36])), ((Pa 1), .inl (tc 5, 20, .inr (.inr (.inr (.inr (va_up (Pq 1) ((Pv 0) : Int32).toNatClampNeg (some sv_26))))))), ((Aa 0), .inr (9, [.int (Av 0), .int (Av 1), .int (Av 2), .int (Av 3), .int (Av 4), .int (Av 5), .ref (Aa 1), .ref (Aa 2), .ref (Aa 3), .ref (Aa 4), .ref (Aa 5), .ref (Aa 6), .ref (Aa 7), .ref (Aa 8)])), ((Aa 1), .inl (tc 0, 10, .inl g_56)), ((Aa 2), .inl (tc 0, 10, .inl (Af 2))), ((Aa 3), .inl (tc 0, 6, .inl (Af 3))), ((Aa 4), .inl (tc 0, 6, .inl (Af 4))), ((Aa 5), .inl (tc 0, 6, .inl (Af 5))), ((Aa 6), .inl (tc 0, 6, .inl (Af 6))), ((Aa 7), .inl (tc 0, 6, .inl (Af 7))), ((Aa 8), .inl (tc 0, 6, .inl (Af 8))), (sv_26, .inr (9, [.int (Av 0), .int (Av 1), .int (Av 2), .int (Av 3), .int (Av 4), .int (Av 5), .ref sv_27, .ref sv_28, .ref sv_29, .ref sv_30, .ref sv_31, .ref sv_32, .ref sv_33, .ref sv_34])), (sv_27, .inl (tc 0, 10, .inl sv_37)), (sv_28, .inl (tc 0, 10, .inl sv_38)), (sv_29, .inl (tc 0, 6, .inl sv_39)), (sv_30, .inl (tc 0, 6, .inl sv_40)), (sv_31, .inl (tc 0, 6, .inl sv_41)), (sv_32, .inl (tc 0, 6, .inl sv_42)), (sv_33, .inl (tc 0, 6, .inl sv_43)), (sv_34, .inl (tc 0, 6, .inl sv_44))] := hD
          refine lv_iload_n hx hb dX11_change_67 rfl (lv_at hl 0 rfl) ?_
          have ha_57 : 0 ≤ (sv_35 : Int32).toInt ∧ (sv_35 : Int32).toInt < 20 := by
            have z_1 : ¬ (r_4 : Int32).toInt = (0 : Int32).toInt := fun z => c_6 (Int32.toInt_inj.mp z)
            have z_2 : ¬ (r_12 : Int32).toInt = (0 : Int32).toInt := fun z => c_15 (Int32.toInt_inj.mp z)
            have z_3 : ¬ (x_19 : Int32).toInt = (x2 : Int32).toInt := fun z => c_20 (Int32.toInt_inj.mp z)
            have y_0 : (0 : Int32).toInt = 0 := by decide
            omega
          have ha_58 : 0 ≤ ((Av 3) : Int32).toInt ∧ ((Av 3) : Int32).toInt ≤ 6 := by
            have z_1 : ¬ (r_4 : Int32).toInt = (0 : Int32).toInt := fun z => c_6 (Int32.toInt_inj.mp z)
            have z_2 : ¬ (r_12 : Int32).toInt = (0 : Int32).toInt := fun z => c_15 (Int32.toInt_inj.mp z)
            have z_3 : ¬ (x_19 : Int32).toInt = (x2 : Int32).toInt := fun z => c_20 (Int32.toInt_inj.mp z)
            have y_0 : (0 : Int32).toInt = 0 := by decide
            omega
          have ha_59 : 0 ≤ ((Av 3) : Int32).toInt ∧ ((Av 3) : Int32).toInt ≤ 6 := by
            have z_1 : ¬ (r_4 : Int32).toInt = (0 : Int32).toInt := fun z => c_6 (Int32.toInt_inj.mp z)
            have z_2 : ¬ (r_12 : Int32).toInt = (0 : Int32).toInt := fun z => c_15 (Int32.toInt_inj.mp z)
            have z_3 : ¬ (x_19 : Int32).toInt = (x2 : Int32).toInt := fun z => c_20 (Int32.toInt_inj.mp z)
            have y_0 : (0 : Int32).toInt = 0 := by decide
            omega
          exact retI (v := x_54) hx hb hr hlk (rfl) hP hD hS (true, sv_26, sv_27, sv_28, sv_29, sv_30, sv_31, sv_32, sv_33, sv_34, g_56, sv_35, sv_36, sv_37, sv_38, sv_39, sv_40, sv_41, sv_42, sv_43, sv_44, (fun _ => 0)) ⟨_, rfl, trivial, ha_57, ha_58, ha_59⟩ [0, 3, 4, 5, 6, 7, 8, 9, 10, 11, 1, 2, 12, 13, 14, 15, 16, 17, 18, 19, 20] rfl rfl dX11_change_68 (Nat.le_of_ble_eq_true rfl) (Nat.le_of_ble_eq_true rfl) rfl
      · skip
        refine lv_iconst (v := (-1)) hx hb dX11_change_34 (by decide) ?_
        have ha_60 : 0 ≤ ((Pv 0) : Int32).toInt ∧ ((Pv 0) : Int32).toInt < 20 := by
          have z_1 : ¬ (r_4 : Int32).toInt = (0 : Int32).toInt := fun z => c_6 (Int32.toInt_inj.mp z)
          have z_2 : ¬ (r_12 : Int32).toInt = (0 : Int32).toInt := fun z => c_15 (Int32.toInt_inj.mp z)
          have z_3 := congrArg Int32.toInt c_20
          have y_0 : (0 : Int32).toInt = 0 := by decide
          omega
        have ha_61 : 0 ≤ ((Av 3) : Int32).toInt ∧ ((Av 3) : Int32).toInt ≤ 6 := by
          have z_1 : ¬ (r_4 : Int32).toInt = (0 : Int32).toInt := fun z => c_6 (Int32.toInt_inj.mp z)
          have z_2 : ¬ (r_12 : Int32).toInt = (0 : Int32).toInt := fun z => c_15 (Int32.toInt_inj.mp z)
          have z_3 := congrArg Int32.toInt c_20
          have y_0 : (0 : Int32).toInt = 0 := by decide
          omega
        exact retI (v := (-1)) hx hb hr hlk (rfl) hP hD hS (false, 0, 0, 0, 0, 0, 0, 0, 0, 0, (fun _ => 0), 0, 0, (fun _ => 0), (fun _ => 0), (fun _ => 0), (fun _ => 0), (fun _ => 0), (fun _ => 0), (fun _ => 0), (fun _ => 0), (Af 1)) ⟨_, rfl, trivial, ha_60, ha_61⟩ [0, 3, 4, 5, 6, 7, 8, 9, 10, 11, 1, 2] rfl rfl dX11_change_35 (Nat.le_of_ble_eq_true rfl) (Nat.le_of_ble_eq_true rfl) rfl
set_option maxHeartbeats 4000000 in
set_option maxRecDepth 100000 in
theorem ct_X11_undo_n (l : Launch) (D : va_G) (tc : Nat → ClassId) (sk : (Nat → Nat) × (Nat → Nat)) (Ga : Nat → Nat) (Gv : Nat → Int32) (Aa : Nat → Nat) (Av : Nat → Int32) (Af : Nat → Nat → Int32) (Pa : Nat → Nat) (Pv : Nat → Int32) (Pq : Nat → Nat → Option Nat) (h_nx : 0 ≤ ((Pv 0) : Int32).toInt ∧ ((Pv 0) : Int32).toInt < 20) (h_q : ∀ j : Int32, j.toInt = ((Pv 0).toInt + 19) % 20 → (Pq 1) j.toNatClampNeg = none) (h_bA : 0 ≤ ((Av 3) : Int32).toInt ∧ ((Av 3) : Int32).toInt ≤ 6) : Ct l yX11_undo cX11_undo 1 (some .int) { frames := 1, cells := 0, slots := 0, locals := 23 } D tc sk [.ref (Ga 0)] [((Ga 0), .inr (11, [.ref (Ga 1), .ref (Ga 2), .ref (Ga 3), .ref (Ga 4), .int (Gv 0), .ref (Ga 5), .ref (Aa 0), .ref (Pa 0), .ref (Ga 8), .ref (Ga 9), .ref (Ga 10), .ref (Ga 11)])), ((Aa 0), .inr (9, [.int (Av 0), .int (Av 1), .int (Av 2), .int (Av 3), .int (Av 4), .int (Av 5), .ref (Aa 1), .ref (Aa 2), .ref (Aa 3), .ref (Aa 4), .ref (Aa 5), .ref (Aa 6), .ref (Aa 7), .ref (Aa 8)])), ((Aa 1), .inl (tc 0, 10, .inl (Af 1))), ((Aa 2), .inl (tc 0, 10, .inl (Af 2))), ((Aa 3), .inl (tc 0, 6, .inl (Af 3))), ((Aa 4), .inl (tc 0, 6, .inl (Af 4))), ((Aa 5), .inl (tc 0, 6, .inl (Af 5))), ((Aa 6), .inl (tc 0, 6, .inl (Af 6))), ((Aa 7), .inl (tc 0, 6, .inl (Af 7))), ((Aa 8), .inl (tc 0, 6, .inl (Af 8))), ((Pa 0), .inr (5, [.ref (Pa 1), .int (Pv 0), .int (Pv 1)])), ((Pa 1), .inl (tc 5, 20, .inr (.inr (.inr (.inr (Pq 1))))))] (fun (v : Option Value) (_ : Unit) => ∃ r : Int32, v = some (.int r) ∧ (True) ∧ (0 ≤ ((Pv 0) : Int32).toInt ∧ ((Pv 0) : Int32).toInt < 20) ∧ (0 ≤ ((Av 3) : Int32).toInt ∧ ((Av 3) : Int32).toInt ≤ 6)) (fun (_ : Unit) => [((Ga 0), .inr (11, [.ref (Ga 1), .ref (Ga 2), .ref (Ga 3), .ref (Ga 4), .int (Gv 0), .ref (Ga 5), .ref (Aa 0), .ref (Pa 0), .ref (Ga 8), .ref (Ga 9), .ref (Ga 10), .ref (Ga 11)])), ((Aa 0), .inr (9, [.int (Av 0), .int (Av 1), .int (Av 2), .int (Av 3), .int (Av 4), .int (Av 5), .ref (Aa 1), .ref (Aa 2), .ref (Aa 3), .ref (Aa 4), .ref (Aa 5), .ref (Aa 6), .ref (Aa 7), .ref (Aa 8)])), ((Aa 1), .inl (tc 0, 10, .inl (Af 1))), ((Aa 2), .inl (tc 0, 10, .inl (Af 2))), ((Aa 3), .inl (tc 0, 6, .inl (Af 3))), ((Aa 4), .inl (tc 0, 6, .inl (Af 4))), ((Aa 5), .inl (tc 0, 6, .inl (Af 5))), ((Aa 6), .inl (tc 0, 6, .inl (Af 6))), ((Aa 7), .inl (tc 0, 6, .inl (Af 7))), ((Aa 8), .inl (tc 0, 6, .inl (Af 8))), ((Pa 0), .inr (5, [.ref (Pa 1), .int (Pv 0), .int (Pv 1)])), ((Pa 1), .inl (tc 5, 20, .inr (.inr (.inr (.inr (Pq 1))))))]) 0 0 := by
  refine Ct.start (by decide) (Nat.le_of_ble_eq_true rfl) (fun p e s m below meth c A ls hx hb hr hlk hin hml hown hts hK hX hP hD hA hl hS => ?_)
  have hl : lv_has ls 1 [(0, .ref (Ga 0))] := hl
  refine lv_aload_n hx hb dX11_undo_0 rfl (lv_at hl 0 rfl) ?_
  refine gf_X11_57 hx hb hts hown hK hP 0 rfl rfl dX11_undo_1 ?_
  refine lv_aload_n hx hb dX11_undo_4 rfl (lv_at hl 0 rfl) ?_
  refine gf_X11_51 hx hb hts hown hK hP 0 rfl rfl dX11_undo_5 ?_
  have ha_1 : 0 ≤ ((Pv 0) : Int32).toInt ∧ ((Pv 0) : Int32).toInt < 20 := by
    omega
  refine cV (a := (Pa 0)) (As := [.ref (Aa 0)]) (rest := []) (wr := [((Ga 0), .inr (11, [.ref (Ga 1), .ref (Ga 2), .ref (Ga 3), .ref (Ga 4), .int (Gv 0), .ref (Ga 5), .ref (Aa 0), .ref (Pa 0), .ref (Ga 8), .ref (Ga 9), .ref (Ga 10), .ref (Ga 11)]))]) ⟨hx, hb, hml, hown, hts⟩ hK hX hA (ct_X5_giveBack_n l D tc sk Pa Pv Pq Aa Av Af ha_1 h_q) k_805 k_802 k_803 k_804 k_102 pl_X5_giveBack ⟨Nat.le_of_ble_eq_true rfl, Nat.le_of_ble_eq_true rfl⟩ rfl rfl (va_recv hK hP (ci := 5) (q0 := 10) rfl rfl) hP hD hS [10, 11, 1, 2, 3, 4, 5, 6, 7, 8, 9] [0] rfl rfl rfl rfl rfl (by decide) rfl hl.1 rfl (Nat.le_of_ble_eq_true rfl) dX11_undo_8 ⟨Nat.le_of_ble_eq_true rfl, Nat.le_of_ble_eq_true rfl⟩ (fun v_2 u_3 H locs hv_4 hP hD hS => ?_)
  obtain ⟨r_6, rfl, he_7, pf_5⟩ := hv_4
  have pf_5 : 0 ≤ ((Pv 0) : Int32).toInt ∧ ((Pv 0) : Int32).toInt < 20 := pf_5
  refine W.eq (g2 := F0 m 11 ls [.int r_6]) rfl ?_
  have hP : va_P D classes [((Ga 0), .inr (11, [.ref (Ga 1), .ref (Ga 2), .ref (Ga 3), .ref (Ga 4), .int (Gv 0), .ref (Ga 5), .ref (Aa 0), .ref (Pa 0), .ref (Ga 8), .ref (Ga 9), .ref (Ga 10), .ref (Ga 11)])), ((Pa 0), .inr (5, [.ref (Pa 1), .int (Pv 0), .int (Pv 1)])), ((Pa 1), .inl (tc 5, 20, .inr (.inr (.inr (.inr (Pq 1)))))), ((Aa 0), .inr (9, [.int (Av 0), .int (Av 1), .int (Av 2), .int (Av 3), .int (Av 4), .int (Av 5), .ref (Aa 1), .ref (Aa 2), .ref (Aa 3), .ref (Aa 4), .ref (Aa 5), .ref (Aa 6), .ref (Aa 7), .ref (Aa 8)])), ((Aa 1), .inl (tc 0, 10, .inl (Af 1))), ((Aa 2), .inl (tc 0, 10, .inl (Af 2))), ((Aa 3), .inl (tc 0, 6, .inl (Af 3))), ((Aa 4), .inl (tc 0, 6, .inl (Af 4))), ((Aa 5), .inl (tc 0, 6, .inl (Af 5))), ((Aa 6), .inl (tc 0, 6, .inl (Af 6))), ((Aa 7), .inl (tc 0, 6, .inl (Af 7))), ((Aa 8), .inl (tc 0, 6, .inl (Af 8)))] H := hP
  have hD : va_D A [((Ga 0), .inr (11, [.ref (Ga 1), .ref (Ga 2), .ref (Ga 3), .ref (Ga 4), .int (Gv 0), .ref (Ga 5), .ref (Aa 0), .ref (Pa 0), .ref (Ga 8), .ref (Ga 9), .ref (Ga 10), .ref (Ga 11)])), ((Pa 0), .inr (5, [.ref (Pa 1), .int (Pv 0), .int (Pv 1)])), ((Pa 1), .inl (tc 5, 20, .inr (.inr (.inr (.inr (Pq 1)))))), ((Aa 0), .inr (9, [.int (Av 0), .int (Av 1), .int (Av 2), .int (Av 3), .int (Av 4), .int (Av 5), .ref (Aa 1), .ref (Aa 2), .ref (Aa 3), .ref (Aa 4), .ref (Aa 5), .ref (Aa 6), .ref (Aa 7), .ref (Aa 8)])), ((Aa 1), .inl (tc 0, 10, .inl (Af 1))), ((Aa 2), .inl (tc 0, 10, .inl (Af 2))), ((Aa 3), .inl (tc 0, 6, .inl (Af 3))), ((Aa 4), .inl (tc 0, 6, .inl (Af 4))), ((Aa 5), .inl (tc 0, 6, .inl (Af 5))), ((Aa 6), .inl (tc 0, 6, .inl (Af 6))), ((Aa 7), .inl (tc 0, 6, .inl (Af 7))), ((Aa 8), .inl (tc 0, 6, .inl (Af 8)))] := hD
  have ha_9 : 0 ≤ ((Pv 0) : Int32).toInt ∧ ((Pv 0) : Int32).toInt < 20 := by
    omega
  have ha_10 : 0 ≤ ((Av 3) : Int32).toInt ∧ ((Av 3) : Int32).toInt ≤ 6 := by
    omega
  exact retI (v := r_6) hx hb hr hlk (rfl) hP hD hS () ⟨_, rfl, trivial, ha_9, ha_10⟩ [0, 3, 4, 5, 6, 7, 8, 9, 10, 11, 1, 2] rfl rfl dX11_undo_11 (Nat.le_of_ble_eq_true rfl) (Nat.le_of_ble_eq_true rfl) rfl
set_option maxHeartbeats 4000000 in
set_option maxRecDepth 100000 in
theorem ct_X11_day_nn (l : Launch) (D : va_G) (tc : Nat → ClassId) (sk : (Nat → Nat) × (Nat → Nat)) (Ga : Nat → Nat) (Gv : Nat → Int32) (Sa : Nat → Nat) (Sv : Nat → Int32) (Aa : Nat → Nat) (Av : Nat → Int32) (Af : Nat → Nat → Int32) (Pa : Nat → Nat) (Pv : Nat → Int32) (Pq : Nat → Nat → Option Nat) (La : Nat → Nat) (Lq : Nat → Nat → Option Nat) (h_nx : 0 ≤ ((Pv 0) : Int32).toInt ∧ ((Pv 0) : Int32).toInt < 20) (h_q : (Pq 1) (Pv 0).toNatClampNeg = none) (h_r : 0 ≤ (Sv 0).toInt ∧ (Sv 0).toInt < 6 → (Lq 0) (Sv 0).toNatClampNeg = none) (h_bA : 0 ≤ ((Av 3) : Int32).toInt ∧ ((Av 3) : Int32).toInt ≤ 6) : Ct l yX11_day cX11_day 1 (some .int) { frames := 3, cells := 9, slots := 70, locals := 83 } D tc sk [.ref (Ga 0)] [((Ga 0), .inr (11, [.ref (Ga 1), .ref (Ga 2), .ref (Ga 3), .ref (La 0), .int (Gv 0), .ref (Sa 0), .ref (Aa 0), .ref (Pa 0), .ref (Ga 8), .ref (Ga 9), .ref (Ga 10), .ref (Ga 11)])), ((Sa 0), .inr (8, [.ref (Aa 0), .ref (Sa 2), .ref (Sa 3), .int (Sv 0), .int (Sv 1)])), ((Aa 0), .inr (9, [.int (Av 0), .int (Av 1), .int (Av 2), .int (Av 3), .int (Av 4), .int (Av 5), .ref (Aa 1), .ref (Aa 2), .ref (Aa 3), .ref (Aa 4), .ref (Aa 5), .ref (Aa 6), .ref (Aa 7), .ref (Aa 8)])), ((Aa 1), .inl (tc 0, 10, .inl (Af 1))), ((Aa 2), .inl (tc 0, 10, .inl (Af 2))), ((Aa 3), .inl (tc 0, 6, .inl (Af 3))), ((Aa 4), .inl (tc 0, 6, .inl (Af 4))), ((Aa 5), .inl (tc 0, 6, .inl (Af 5))), ((Aa 6), .inl (tc 0, 6, .inl (Af 6))), ((Aa 7), .inl (tc 0, 6, .inl (Af 7))), ((Aa 8), .inl (tc 0, 6, .inl (Af 8))), ((Pa 0), .inr (5, [.ref (Pa 1), .int (Pv 0), .int (Pv 1)])), ((Pa 1), .inl (tc 5, 20, .inr (.inr (.inr (.inr (Pq 1)))))), ((La 0), .inl (tc 4, 6, .inr (.inr (.inr (.inr (Lq 0))))))] (fun (v : Option Value) (u : (Bool) × (Nat) × (Nat) × (Nat) × (Nat) × (Nat) × (Nat) × (Nat) × (Nat) × (Nat) × (Int32) × (Int32) × (Int32) × (Nat → Int32) × (Nat → Int32) × (Nat → Int32) × (Nat → Int32) × (Int32) × (Int32) × (Nat → Int32) × (Nat → Int32) × (Nat → Int32) × (Nat → Int32) × (Nat → Int32) × (Nat → Int32) × (Nat → Int32) × (Nat → Int32) × (Int32) × (Int32) × (Int32) × (Nat → Int32) × (Nat → Int32) × (Nat → Int32) × (Nat → Int32)) => match u with | (true, na0x0, na0x1, na0x2, na0x3, na0x4, na0x5, na0x6, na0x7, na0x8, oo0x1, oo0x2, oo0x3, oo0x4, oo0x5, oo0x6, oo0x7, oo0x8, oo0x9, oo0x10, oo0x11, oo0x12, oo0x13, oo0x14, oo0x15, oo0x16, oo0x17, oo1x1, oo1x2, oo1x3, oo1x4, oo1x5, oo1x6, oo1x7) => ∃ r : Int32, v = some (.int r) ∧ (True) ∧ (0 ≤ (oo0x8 : Int32).toInt ∧ (oo0x8 : Int32).toInt < 20) ∧ (0 ≤ ((Av 3) : Int32).toInt ∧ ((Av 3) : Int32).toInt ≤ 6) ∧ (0 ≤ ((Av 3) : Int32).toInt ∧ ((Av 3) : Int32).toInt ≤ 6) | (false, na0x0, na0x1, na0x2, na0x3, na0x4, na0x5, na0x6, na0x7, na0x8, oo0x1, oo0x2, oo0x3, oo0x4, oo0x5, oo0x6, oo0x7, oo0x8, oo0x9, oo0x10, oo0x11, oo0x12, oo0x13, oo0x14, oo0x15, oo0x16, oo0x17, oo1x1, oo1x2, oo1x3, oo1x4, oo1x5, oo1x6, oo1x7) => ∃ r : Int32, v = some (.int r) ∧ (True) ∧ (0 ≤ ((Pv 0) : Int32).toInt ∧ ((Pv 0) : Int32).toInt < 20) ∧ (0 ≤ ((Av 3) : Int32).toInt ∧ ((Av 3) : Int32).toInt ≤ 6)) (fun (u : (Bool) × (Nat) × (Nat) × (Nat) × (Nat) × (Nat) × (Nat) × (Nat) × (Nat) × (Nat) × (Int32) × (Int32) × (Int32) × (Nat → Int32) × (Nat → Int32) × (Nat → Int32) × (Nat → Int32) × (Int32) × (Int32) × (Nat → Int32) × (Nat → Int32) × (Nat → Int32) × (Nat → Int32) × (Nat → Int32) × (Nat → Int32) × (Nat → Int32) × (Nat → Int32) × (Int32) × (Int32) × (Int32) × (Nat → Int32) × (Nat → Int32) × (Nat → Int32) × (Nat → Int32)) => match u with | (true, na0x0, na0x1, na0x2, na0x3, na0x4, na0x5, na0x6, na0x7, na0x8, oo0x1, oo0x2, oo0x3, oo0x4, oo0x5, oo0x6, oo0x7, oo0x8, oo0x9, oo0x10, oo0x11, oo0x12, oo0x13, oo0x14, oo0x15, oo0x16, oo0x17, oo1x1, oo1x2, oo1x3, oo1x4, oo1x5, oo1x6, oo1x7) => [((Ga 0), .inr (11, [.ref (Ga 1), .ref (Ga 2), .ref (Ga 3), .ref (La 0), .int (Gv 0), .ref (Sa 0), .ref (Aa 0), .ref (Pa 0), .ref (Ga 8), .ref (Ga 9), .ref (Ga 10), .ref (Ga 11)])), ((Sa 0), .inr (8, [.ref (Aa 0), .ref (Sa 2), .ref (Sa 3), .int (Sv 0), .int (Sv 1)])), ((Aa 0), .inr (9, [.int oo0x1, .int (Av 1), .int (Av 2), .int (Av 3), .int oo0x2, .int oo0x3, .ref (Aa 1), .ref (Aa 2), .ref (Aa 3), .ref (Aa 4), .ref (Aa 5), .ref (Aa 6), .ref (Aa 7), .ref (Aa 8)])), ((Aa 1), .inl (tc 0, 10, .inl (Af 1))), ((Aa 2), .inl (tc 0, 10, .inl (Af 2))), ((Aa 3), .inl (tc 0, 6, .inl oo0x4)), ((Aa 4), .inl (tc 0, 6, .inl (Af 4))), ((Aa 5), .inl (tc 0, 6, .inl (Af 5))), ((Aa 6), .inl (tc 0, 6, .inl oo0x5)), ((Aa 7), .inl (tc 0, 6, .inl oo0x6)), ((Aa 8), .inl (tc 0, 6, .inl oo0x7)), ((Pa 0), .inr (5, [.ref (Pa 1), .int oo0x8, .int oo0x9])), ((Pa 1), .inl (tc 5, 20, .inr (.inr (.inr (.inr (va_up (Pq 1) ((Pv 0) : Int32).toNatClampNeg (some na0x0))))))), ((La 0), .inl (tc 4, 6, .inr (.inr (.inr (.inr (Lq 0)))))), (na0x0, .inr (9, [.int (Av 0), .int (Av 1), .int (Av 2), .int (Av 3), .int (Av 4), .int (Av 5), .ref na0x1, .ref na0x2, .ref na0x3, .ref na0x4, .ref na0x5, .ref na0x6, .ref na0x7, .ref na0x8])), (na0x1, .inl (tc 0, 10, .inl oo0x10)), (na0x2, .inl (tc 0, 10, .inl oo0x11)), (na0x3, .inl (tc 0, 6, .inl oo0x12)), (na0x4, .inl (tc 0, 6, .inl oo0x13)), (na0x5, .inl (tc 0, 6, .inl oo0x14)), (na0x6, .inl (tc 0, 6, .inl oo0x15)), (na0x7, .inl (tc 0, 6, .inl oo0x16)), (na0x8, .inl (tc 0, 6, .inl oo0x17))] | (false, na0x0, na0x1, na0x2, na0x3, na0x4, na0x5, na0x6, na0x7, na0x8, oo0x1, oo0x2, oo0x3, oo0x4, oo0x5, oo0x6, oo0x7, oo0x8, oo0x9, oo0x10, oo0x11, oo0x12, oo0x13, oo0x14, oo0x15, oo0x16, oo0x17, oo1x1, oo1x2, oo1x3, oo1x4, oo1x5, oo1x6, oo1x7) => [((Ga 0), .inr (11, [.ref (Ga 1), .ref (Ga 2), .ref (Ga 3), .ref (La 0), .int (Gv 0), .ref (Sa 0), .ref (Aa 0), .ref (Pa 0), .ref (Ga 8), .ref (Ga 9), .ref (Ga 10), .ref (Ga 11)])), ((Sa 0), .inr (8, [.ref (Aa 0), .ref (Sa 2), .ref (Sa 3), .int (Sv 0), .int (Sv 1)])), ((Aa 0), .inr (9, [.int oo1x1, .int (Av 1), .int (Av 2), .int (Av 3), .int oo1x2, .int oo1x3, .ref (Aa 1), .ref (Aa 2), .ref (Aa 3), .ref (Aa 4), .ref (Aa 5), .ref (Aa 6), .ref (Aa 7), .ref (Aa 8)])), ((Aa 1), .inl (tc 0, 10, .inl (Af 1))), ((Aa 2), .inl (tc 0, 10, .inl (Af 2))), ((Aa 3), .inl (tc 0, 6, .inl oo1x4)), ((Aa 4), .inl (tc 0, 6, .inl (Af 4))), ((Aa 5), .inl (tc 0, 6, .inl (Af 5))), ((Aa 6), .inl (tc 0, 6, .inl oo1x5)), ((Aa 7), .inl (tc 0, 6, .inl oo1x6)), ((Aa 8), .inl (tc 0, 6, .inl oo1x7)), ((Pa 0), .inr (5, [.ref (Pa 1), .int (Pv 0), .int (Pv 1)])), ((Pa 1), .inl (tc 5, 20, .inr (.inr (.inr (.inr (Pq 1)))))), ((La 0), .inl (tc 4, 6, .inr (.inr (.inr (.inr (Lq 0))))))]) 9 70 := by
  refine Ct.start (by decide) (Nat.le_of_ble_eq_true rfl) (fun p e s m below meth c A ls hx hb hr hlk hin hml hown hts hK hX hP hD hA hl hS => ?_)
  have hl : lv_has ls 1 [(0, .ref (Ga 0))] := hl
  refine lv_aload_n hx hb dX11_day_0 rfl (lv_at hl 0 rfl) ?_
  refine gf_X11_51 hx hb hts hown hK hP 0 rfl rfl dX11_day_1 ?_
  refine cV (a := (Aa 0)) (As := []) (rest := []) (wr := [((Ga 0), .inr (11, [.ref (Ga 1), .ref (Ga 2), .ref (Ga 3), .ref (La 0), .int (Gv 0), .ref (Sa 0), .ref (Aa 0), .ref (Pa 0), .ref (Ga 8), .ref (Ga 9), .ref (Ga 10), .ref (Ga 11)])), ((Sa 0), .inr (8, [.ref (Aa 0), .ref (Sa 2), .ref (Sa 3), .int (Sv 0), .int (Sv 1)])), ((Pa 0), .inr (5, [.ref (Pa 1), .int (Pv 0), .int (Pv 1)])), ((Pa 1), .inl (tc 5, 20, .inr (.inr (.inr (.inr (Pq 1)))))), ((La 0), .inl (tc 4, 6, .inr (.inr (.inr (.inr (Lq 0))))))]) ⟨hx, hb, hml, hown, hts⟩ hK hX hA (ct_X9_isTold l D tc sk Aa Av Af) k_724 k_721 k_722 k_723 k_98 pl_X9_isTold ⟨Nat.le_of_ble_eq_true rfl, Nat.le_of_ble_eq_true rfl⟩ rfl rfl (va_recv hK hP (ci := 9) (q0 := 2) rfl rfl) hP hD hS [2, 3, 4, 5, 6, 7, 8, 9, 10] [0, 1, 11, 12, 13] rfl rfl rfl rfl rfl (by decide) rfl hl.1 rfl (Nat.le_of_ble_eq_true rfl) dX11_day_4 ⟨Nat.le_of_ble_eq_true rfl, Nat.le_of_ble_eq_true rfl⟩ (fun v_1 u_2 H locs hv_3 hP hD hS => ?_)
  obtain ⟨r_4, rfl, he_5⟩ := hv_3
  have he_5 : ((r_4.toInt = 0 ∨ r_4.toInt = 1)) := he_5
  refine W.eq (g2 := F0 m 7 ls [.int r_4]) rfl ?_
  have hP : va_P D classes [((Ga 0), .inr (11, [.ref (Ga 1), .ref (Ga 2), .ref (Ga 3), .ref (La 0), .int (Gv 0), .ref (Sa 0), .ref (Aa 0), .ref (Pa 0), .ref (Ga 8), .ref (Ga 9), .ref (Ga 10), .ref (Ga 11)])), ((Sa 0), .inr (8, [.ref (Aa 0), .ref (Sa 2), .ref (Sa 3), .int (Sv 0), .int (Sv 1)])), ((Pa 0), .inr (5, [.ref (Pa 1), .int (Pv 0), .int (Pv 1)])), ((Pa 1), .inl (tc 5, 20, .inr (.inr (.inr (.inr (Pq 1)))))), ((La 0), .inl (tc 4, 6, .inr (.inr (.inr (.inr (Lq 0)))))), ((Aa 0), .inr (9, [.int (Av 0), .int (Av 1), .int (Av 2), .int (Av 3), .int (Av 4), .int (Av 5), .ref (Aa 1), .ref (Aa 2), .ref (Aa 3), .ref (Aa 4), .ref (Aa 5), .ref (Aa 6), .ref (Aa 7), .ref (Aa 8)])), ((Aa 1), .inl (tc 0, 10, .inl (Af 1))), ((Aa 2), .inl (tc 0, 10, .inl (Af 2))), ((Aa 3), .inl (tc 0, 6, .inl (Af 3))), ((Aa 4), .inl (tc 0, 6, .inl (Af 4))), ((Aa 5), .inl (tc 0, 6, .inl (Af 5))), ((Aa 6), .inl (tc 0, 6, .inl (Af 6))), ((Aa 7), .inl (tc 0, 6, .inl (Af 7))), ((Aa 8), .inl (tc 0, 6, .inl (Af 8)))] H := hP
  have hD : va_D A [((Ga 0), .inr (11, [.ref (Ga 1), .ref (Ga 2), .ref (Ga 3), .ref (La 0), .int (Gv 0), .ref (Sa 0), .ref (Aa 0), .ref (Pa 0), .ref (Ga 8), .ref (Ga 9), .ref (Ga 10), .ref (Ga 11)])), ((Sa 0), .inr (8, [.ref (Aa 0), .ref (Sa 2), .ref (Sa 3), .int (Sv 0), .int (Sv 1)])), ((Pa 0), .inr (5, [.ref (Pa 1), .int (Pv 0), .int (Pv 1)])), ((Pa 1), .inl (tc 5, 20, .inr (.inr (.inr (.inr (Pq 1)))))), ((La 0), .inl (tc 4, 6, .inr (.inr (.inr (.inr (Lq 0)))))), ((Aa 0), .inr (9, [.int (Av 0), .int (Av 1), .int (Av 2), .int (Av 3), .int (Av 4), .int (Av 5), .ref (Aa 1), .ref (Aa 2), .ref (Aa 3), .ref (Aa 4), .ref (Aa 5), .ref (Aa 6), .ref (Aa 7), .ref (Aa 8)])), ((Aa 1), .inl (tc 0, 10, .inl (Af 1))), ((Aa 2), .inl (tc 0, 10, .inl (Af 2))), ((Aa 3), .inl (tc 0, 6, .inl (Af 3))), ((Aa 4), .inl (tc 0, 6, .inl (Af 4))), ((Aa 5), .inl (tc 0, 6, .inl (Af 5))), ((Aa 6), .inl (tc 0, 6, .inl (Af 6))), ((Aa 7), .inl (tc 0, 6, .inl (Af 7))), ((Aa 8), .inl (tc 0, 6, .inl (Af 8)))] := hD
  refine lv_if_eq (tgt := 23) hx hb dX11_day_7 (by decide) (fun c_6 => ?_) (fun c_6 => ?_)
  · skip
    refine lv_iconst (v := (-1)) hx hb dX11_day_23 (by decide) ?_
    have ha_7 : 0 ≤ ((Pv 0) : Int32).toInt ∧ ((Pv 0) : Int32).toInt < 20 := by
      have z_1 := congrArg Int32.toInt c_6
      have y_0 : (0 : Int32).toInt = 0 := by decide
      omega
    have ha_8 : 0 ≤ ((Av 3) : Int32).toInt ∧ ((Av 3) : Int32).toInt ≤ 6 := by
      have z_1 := congrArg Int32.toInt c_6
      have y_0 : (0 : Int32).toInt = 0 := by decide
      omega
    exact retI (v := (-1)) hx hb hr hlk (rfl) hP hD hS (false, 0, 0, 0, 0, 0, 0, 0, 0, 0, 0, 0, 0, (fun _ => 0), (fun _ => 0), (fun _ => 0), (fun _ => 0), 0, 0, (fun _ => 0), (fun _ => 0), (fun _ => 0), (fun _ => 0), (fun _ => 0), (fun _ => 0), (fun _ => 0), (fun _ => 0), (Av 0), (Av 4), (Av 5), (Af 3), (Af 6), (Af 7), (Af 8)) ⟨_, rfl, trivial, ha_7, ha_8⟩ [0, 1, 5, 6, 7, 8, 9, 10, 11, 12, 13, 2, 3, 4] rfl rfl dX11_day_24 (Nat.le_of_ble_eq_true rfl) (Nat.le_of_ble_eq_true rfl) rfl
  · skip
    refine lv_aload_n hx hb dX11_day_10 rfl (lv_at hl 0 rfl) ?_
    refine gf_X11_51 hx hb hts hown hK hP 0 rfl rfl dX11_day_11 ?_
    refine gf_X11_179 hx hb hts hown hK hP 5 rfl rfl dX11_day_14 ?_
    refine lv_sipush (v := 999) hx hb dX11_day_17 (by decide) ?_
    refine lv_icmp_lt (tgt := 25) hx hb dX11_day_20 (by decide) (fun c_9 => ?_) (fun c_9 => ?_)
    · skip
      refine lv_aload_n hx hb dX11_day_25 rfl (lv_at hl 0 rfl) ?_
      refine gf_X11_57 hx hb hts hown hK hP 0 rfl rfl dX11_day_26 ?_
      refine lv_aload_n hx hb dX11_day_29 rfl (lv_at hl 0 rfl) ?_
      refine gf_X11_51 hx hb hts hown hK hP 0 rfl rfl dX11_day_30 ?_
      have ha_10 : 0 ≤ ((Pv 0) : Int32).toInt ∧ ((Pv 0) : Int32).toInt < 20 := by
        have z_1 : ¬ (r_4 : Int32).toInt = (0 : Int32).toInt := fun z => c_6 (Int32.toInt_inj.mp z)
        have z_2 := Int32.lt_iff_toInt_lt.mp c_9
        have y_0 : (0 : Int32).toInt = 0 := by decide
        have y_999 : (999 : Int32).toInt = 999 := by decide
        omega
      refine cV (a := (Pa 0)) (As := [.ref (Aa 0)]) (rest := []) (wr := [((Ga 0), .inr (11, [.ref (Ga 1), .ref (Ga 2), .ref (Ga 3), .ref (La 0), .int (Gv 0), .ref (Sa 0), .ref (Aa 0), .ref (Pa 0), .ref (Ga 8), .ref (Ga 9), .ref (Ga 10), .ref (Ga 11)])), ((Sa 0), .inr (8, [.ref (Aa 0), .ref (Sa 2), .ref (Sa 3), .int (Sv 0), .int (Sv 1)])), ((La 0), .inl (tc 4, 6, .inr (.inr (.inr (.inr (Lq 0))))))]) ⟨hx, hb, hml, hown, hts⟩ hK hX hA (ct_X5_keep_n l D tc sk Pa Pv Pq Aa Av Af ha_10 h_q) k_728 k_725 k_726 k_727 k_102 pl_X5_keep ⟨Nat.le_of_ble_eq_true rfl, Nat.le_of_ble_eq_true rfl⟩ rfl rfl (va_recv hK hP (ci := 5) (q0 := 2) rfl rfl) hP hD hS [2, 3, 5, 6, 7, 8, 9, 10, 11, 12, 13] [0, 1, 4] rfl rfl rfl rfl rfl (by decide) rfl hl.1 rfl (Nat.le_of_ble_eq_true rfl) dX11_day_33 ⟨Nat.le_of_ble_eq_true rfl, Nat.le_of_ble_eq_true rfl⟩ (fun v_11 u_12 H locs hv_13 hP hD hS => ?_)
      obtain ⟨sv_14, sv_15, sv_16, sv_17, sv_18, sv_19, sv_20, sv_21, sv_22, sv_23, sv_24, sv_25, sv_26, sv_27, sv_28, sv_29, sv_30, sv_31, sv_32, sv_33⟩ := u_12
      cases sv_14
      · skip
        obtain ⟨rfl, pf_34⟩ := hv_13
        have pf_34 : 0 ≤ ((Pv 0) : Int32).toInt ∧ ((Pv 0) : Int32).toInt < 20 := pf_34
        refine W.eq (g2 := F0 m 36 ls []) rfl ?_
        have hP : va_P D classes [((Ga 0), .inr (11, [.ref (Ga 1), .ref (Ga 2), .ref (Ga 3), .ref (La 0), .int (Gv 0), .ref (Sa 0), .ref (Aa 0), .ref (Pa 0), .ref (Ga 8), .ref (Ga 9), .ref (Ga 10), .ref (Ga 11)])), ((Sa 0), .inr (8, [.ref (Aa 0), .ref (Sa 2), .ref (Sa 3), .int (Sv 0), .int (Sv 1)])), ((La 0), .inl (tc 4, 6, .inr (.inr (.inr (.inr (Lq 0)))))), ((Pa 0), .inr (5, [.ref (Pa 1), .int (Pv 0), .int (Pv 1)])), ((Pa 1), .inl (tc 5, 20, .inr (.inr (.inr (.inr (Pq 1)))))), ((Aa 0), .inr (9, [.int (Av 0), .int (Av 1), .int (Av 2), .int (Av 3), .int (Av 4), .int (Av 5), .ref (Aa 1), .ref (Aa 2), .ref (Aa 3), .ref (Aa 4), .ref (Aa 5), .ref (Aa 6), .ref (Aa 7), .ref (Aa 8)])), ((Aa 1), .inl (tc 0, 10, .inl (Af 1))), ((Aa 2), .inl (tc 0, 10, .inl (Af 2))), ((Aa 3), .inl (tc 0, 6, .inl (Af 3))), ((Aa 4), .inl (tc 0, 6, .inl (Af 4))), ((Aa 5), .inl (tc 0, 6, .inl (Af 5))), ((Aa 6), .inl (tc 0, 6, .inl (Af 6))), ((Aa 7), .inl (tc 0, 6, .inl (Af 7))), ((Aa 8), .inl (tc 0, 6, .inl (Af 8)))] H := hP
        have hD : va_D A [((Ga 0), .inr (11, [.ref (Ga 1), .ref (Ga 2), .ref (Ga 3), .ref (La 0), .int (Gv 0), .ref (Sa 0), .ref (Aa 0), .ref (Pa 0), .ref (Ga 8), .ref (Ga 9), .ref (Ga 10), .ref (Ga 11)])), ((Sa 0), .inr (8, [.ref (Aa 0), .ref (Sa 2), .ref (Sa 3), .int (Sv 0), .int (Sv 1)])), ((La 0), .inl (tc 4, 6, .inr (.inr (.inr (.inr (Lq 0)))))), ((Pa 0), .inr (5, [.ref (Pa 1), .int (Pv 0), .int (Pv 1)])), ((Pa 1), .inl (tc 5, 20, .inr (.inr (.inr (.inr (Pq 1)))))), ((Aa 0), .inr (9, [.int (Av 0), .int (Av 1), .int (Av 2), .int (Av 3), .int (Av 4), .int (Av 5), .ref (Aa 1), .ref (Aa 2), .ref (Aa 3), .ref (Aa 4), .ref (Aa 5), .ref (Aa 6), .ref (Aa 7), .ref (Aa 8)])), ((Aa 1), .inl (tc 0, 10, .inl (Af 1))), ((Aa 2), .inl (tc 0, 10, .inl (Af 2))), ((Aa 3), .inl (tc 0, 6, .inl (Af 3))), ((Aa 4), .inl (tc 0, 6, .inl (Af 4))), ((Aa 5), .inl (tc 0, 6, .inl (Af 5))), ((Aa 6), .inl (tc 0, 6, .inl (Af 6))), ((Aa 7), .inl (tc 0, 6, .inl (Af 7))), ((Aa 8), .inl (tc 0, 6, .inl (Af 8)))] := hD
        refine lv_aload_n hx hb dX11_day_36 rfl (lv_at hl 0 rfl) ?_
        refine gf_X11_51 hx hb hts hown hK hP 0 rfl rfl dX11_day_37 ?_
        refine lv_aload_n hx hb dX11_day_40 rfl (lv_at hl 0 rfl) ?_
        refine cV (a := (Ga 0)) (As := []) (rest := [.ref (Aa 0)]) (wr := [((Pa 0), .inr (5, [.ref (Pa 1), .int (Pv 0), .int (Pv 1)])), ((Pa 1), .inl (tc 5, 20, .inr (.inr (.inr (.inr (Pq 1)))))), ((Aa 0), .inr (9, [.int (Av 0), .int (Av 1), .int (Av 2), .int (Av 3), .int (Av 4), .int (Av 5), .ref (Aa 1), .ref (Aa 2), .ref (Aa 3), .ref (Aa 4), .ref (Aa 5), .ref (Aa 6), .ref (Aa 7), .ref (Aa 8)])), ((Aa 1), .inl (tc 0, 10, .inl (Af 1))), ((Aa 2), .inl (tc 0, 10, .inl (Af 2))), ((Aa 3), .inl (tc 0, 6, .inl (Af 3))), ((Aa 4), .inl (tc 0, 6, .inl (Af 4))), ((Aa 5), .inl (tc 0, 6, .inl (Af 5))), ((Aa 6), .inl (tc 0, 6, .inl (Af 6))), ((Aa 7), .inl (tc 0, 6, .inl (Af 7))), ((Aa 8), .inl (tc 0, 6, .inl (Af 8)))]) ⟨hx, hb, hml, hown, hts⟩ hK hX hA (ct_X11_ruleInForce_n l D tc sk (fun k => ([(Ga 0), (Ga 1), (Ga 2), (Ga 3), 0, 0, (Aa 0), (Pa 0), (Ga 8), (Ga 9), (Ga 10), (Ga 11)] : List (Nat)).getD k 0) Gv (fun k => ([(Sa 0), (Aa 0), (Sa 2), (Sa 3)] : List (Nat)).getD k 0) Sv La Lq h_r) k_735 k_732 k_734 k_13 k_95 pl_X11_ruleInForce ⟨Nat.le_of_ble_eq_true rfl, Nat.le_of_ble_eq_true rfl⟩ rfl rfl (va_recv hK hP (ci := 11) (q0 := 0) rfl rfl) hP hD hS [0, 1, 2] [3, 4, 5, 6, 7, 8, 9, 10, 11, 12, 13] rfl rfl rfl rfl rfl (by decide) rfl hl.1 rfl (Nat.le_of_ble_eq_true rfl) dX11_day_41 ⟨Nat.le_of_ble_eq_true rfl, Nat.le_of_ble_eq_true rfl⟩ (fun v_35 u_36 H locs hv_37 hP hD hS => ?_)
        obtain rfl : v_35 = some (.null) := hv_37
        refine W.eq (g2 := F0 m 44 ls [.null, .ref (Aa 0)]) rfl ?_
        have hP : va_P D classes [((Pa 0), .inr (5, [.ref (Pa 1), .int (Pv 0), .int (Pv 1)])), ((Pa 1), .inl (tc 5, 20, .inr (.inr (.inr (.inr (Pq 1)))))), ((Aa 0), .inr (9, [.int (Av 0), .int (Av 1), .int (Av 2), .int (Av 3), .int (Av 4), .int (Av 5), .ref (Aa 1), .ref (Aa 2), .ref (Aa 3), .ref (Aa 4), .ref (Aa 5), .ref (Aa 6), .ref (Aa 7), .ref (Aa 8)])), ((Aa 1), .inl (tc 0, 10, .inl (Af 1))), ((Aa 2), .inl (tc 0, 10, .inl (Af 2))), ((Aa 3), .inl (tc 0, 6, .inl (Af 3))), ((Aa 4), .inl (tc 0, 6, .inl (Af 4))), ((Aa 5), .inl (tc 0, 6, .inl (Af 5))), ((Aa 6), .inl (tc 0, 6, .inl (Af 6))), ((Aa 7), .inl (tc 0, 6, .inl (Af 7))), ((Aa 8), .inl (tc 0, 6, .inl (Af 8))), ((Ga 0), .inr (11, [.ref (Ga 1), .ref (Ga 2), .ref (Ga 3), .ref (La 0), .int (Gv 0), .ref (Sa 0), .ref (Aa 0), .ref (Pa 0), .ref (Ga 8), .ref (Ga 9), .ref (Ga 10), .ref (Ga 11)])), ((Sa 0), .inr (8, [.ref (Aa 0), .ref (Sa 2), .ref (Sa 3), .int (Sv 0), .int (Sv 1)])), ((La 0), .inl (tc 4, 6, .inr (.inr (.inr (.inr (Lq 0))))))] H := hP
        have hD : va_D A [((Pa 0), .inr (5, [.ref (Pa 1), .int (Pv 0), .int (Pv 1)])), ((Pa 1), .inl (tc 5, 20, .inr (.inr (.inr (.inr (Pq 1)))))), ((Aa 0), .inr (9, [.int (Av 0), .int (Av 1), .int (Av 2), .int (Av 3), .int (Av 4), .int (Av 5), .ref (Aa 1), .ref (Aa 2), .ref (Aa 3), .ref (Aa 4), .ref (Aa 5), .ref (Aa 6), .ref (Aa 7), .ref (Aa 8)])), ((Aa 1), .inl (tc 0, 10, .inl (Af 1))), ((Aa 2), .inl (tc 0, 10, .inl (Af 2))), ((Aa 3), .inl (tc 0, 6, .inl (Af 3))), ((Aa 4), .inl (tc 0, 6, .inl (Af 4))), ((Aa 5), .inl (tc 0, 6, .inl (Af 5))), ((Aa 6), .inl (tc 0, 6, .inl (Af 6))), ((Aa 7), .inl (tc 0, 6, .inl (Af 7))), ((Aa 8), .inl (tc 0, 6, .inl (Af 8))), ((Ga 0), .inr (11, [.ref (Ga 1), .ref (Ga 2), .ref (Ga 3), .ref (La 0), .int (Gv 0), .ref (Sa 0), .ref (Aa 0), .ref (Pa 0), .ref (Ga 8), .ref (Ga 9), .ref (Ga 10), .ref (Ga 11)])), ((Sa 0), .inr (8, [.ref (Aa 0), .ref (Sa 2), .ref (Sa 3), .int (Sv 0), .int (Sv 1)])), ((La 0), .inl (tc 4, 6, .inr (.inr (.inr (.inr (Lq 0))))))] := hD
        refine cV (a := (Aa 0)) (As := [.null]) (rest := []) (wr := [((Pa 0), .inr (5, [.ref (Pa 1), .int (Pv 0), .int (Pv 1)])), ((Pa 1), .inl (tc 5, 20, .inr (.inr (.inr (.inr (Pq 1)))))), ((Ga 0), .inr (11, [.ref (Ga 1), .ref (Ga 2), .ref (Ga 3), .ref (La 0), .int (Gv 0), .ref (Sa 0), .ref (Aa 0), .ref (Pa 0), .ref (Ga 8), .ref (Ga 9), .ref (Ga 10), .ref (Ga 11)])), ((Sa 0), .inr (8, [.ref (Aa 0), .ref (Sa 2), .ref (Sa 3), .int (Sv 0), .int (Sv 1)])), ((La 0), .inl (tc 4, 6, .inr (.inr (.inr (.inr (Lq 0))))))]) ⟨hx, hb, hml, hown, hts⟩ hK hX hA (ct_X9_goThroughDay_n l D tc sk Aa Av Af) k_739 k_736 k_737 k_738 k_98 pl_X9_goThroughDay ⟨Nat.le_of_ble_eq_true rfl, Nat.le_of_ble_eq_true rfl⟩ rfl rfl (va_recv hK hP (ci := 9) (q0 := 2) rfl rfl) hP hD hS [2, 3, 4, 5, 6, 7, 8, 9, 10] [0, 1, 11, 12, 13] rfl rfl rfl rfl rfl (by decide) rfl hl.1 rfl (Nat.le_of_ble_eq_true rfl) dX11_day_44 ⟨Nat.le_of_ble_eq_true rfl, Nat.le_of_ble_eq_true rfl⟩ (fun v_38 u_39 H locs hv_40 hP hD hS => ?_)
        obtain ⟨sv_41, sv_42, sv_43, sv_44, sv_45, sv_46, sv_47⟩ := u_39
        obtain ⟨r_48, rfl, he_49⟩ := hv_40
        have he_49 : (True) := he_49
        refine W.eq (g2 := F0 m 47 ls [.int r_48]) rfl ?_
        have hP : va_P D classes [((Pa 0), .inr (5, [.ref (Pa 1), .int (Pv 0), .int (Pv 1)])), ((Pa 1), .inl (tc 5, 20, .inr (.inr (.inr (.inr (Pq 1)))))), ((Ga 0), .inr (11, [.ref (Ga 1), .ref (Ga 2), .ref (Ga 3), .ref (La 0), .int (Gv 0), .ref (Sa 0), .ref (Aa 0), .ref (Pa 0), .ref (Ga 8), .ref (Ga 9), .ref (Ga 10), .ref (Ga 11)])), ((Sa 0), .inr (8, [.ref (Aa 0), .ref (Sa 2), .ref (Sa 3), .int (Sv 0), .int (Sv 1)])), ((La 0), .inl (tc 4, 6, .inr (.inr (.inr (.inr (Lq 0)))))), ((Aa 0), .inr (9, [.int sv_41, .int (Av 1), .int (Av 2), .int (Av 3), .int sv_42, .int sv_43, .ref (Aa 1), .ref (Aa 2), .ref (Aa 3), .ref (Aa 4), .ref (Aa 5), .ref (Aa 6), .ref (Aa 7), .ref (Aa 8)])), ((Aa 1), .inl (tc 0, 10, .inl (Af 1))), ((Aa 2), .inl (tc 0, 10, .inl (Af 2))), ((Aa 3), .inl (tc 0, 6, .inl sv_44)), ((Aa 4), .inl (tc 0, 6, .inl (Af 4))), ((Aa 5), .inl (tc 0, 6, .inl (Af 5))), ((Aa 6), .inl (tc 0, 6, .inl sv_45)), ((Aa 7), .inl (tc 0, 6, .inl sv_46)), ((Aa 8), .inl (tc 0, 6, .inl sv_47))] H := hP
        have hD : va_D A [((Pa 0), .inr (5, [.ref (Pa 1), .int (Pv 0), .int (Pv 1)])), ((Pa 1), .inl (tc 5, 20, .inr (.inr (.inr (.inr (Pq 1)))))), ((Ga 0), .inr (11, [.ref (Ga 1), .ref (Ga 2), .ref (Ga 3), .ref (La 0), .int (Gv 0), .ref (Sa 0), .ref (Aa 0), .ref (Pa 0), .ref (Ga 8), .ref (Ga 9), .ref (Ga 10), .ref (Ga 11)])), ((Sa 0), .inr (8, [.ref (Aa 0), .ref (Sa 2), .ref (Sa 3), .int (Sv 0), .int (Sv 1)])), ((La 0), .inl (tc 4, 6, .inr (.inr (.inr (.inr (Lq 0)))))), ((Aa 0), .inr (9, [.int sv_41, .int (Av 1), .int (Av 2), .int (Av 3), .int sv_42, .int sv_43, .ref (Aa 1), .ref (Aa 2), .ref (Aa 3), .ref (Aa 4), .ref (Aa 5), .ref (Aa 6), .ref (Aa 7), .ref (Aa 8)])), ((Aa 1), .inl (tc 0, 10, .inl (Af 1))), ((Aa 2), .inl (tc 0, 10, .inl (Af 2))), ((Aa 3), .inl (tc 0, 6, .inl sv_44)), ((Aa 4), .inl (tc 0, 6, .inl (Af 4))), ((Aa 5), .inl (tc 0, 6, .inl (Af 5))), ((Aa 6), .inl (tc 0, 6, .inl sv_45)), ((Aa 7), .inl (tc 0, 6, .inl sv_46)), ((Aa 8), .inl (tc 0, 6, .inl sv_47))] := hD
        have ha_50 : 0 ≤ ((Pv 0) : Int32).toInt ∧ ((Pv 0) : Int32).toInt < 20 := by
          have z_1 : ¬ (r_4 : Int32).toInt = (0 : Int32).toInt := fun z => c_6 (Int32.toInt_inj.mp z)
          have z_2 := Int32.lt_iff_toInt_lt.mp c_9
          have y_0 : (0 : Int32).toInt = 0 := by decide
          have y_999 : (999 : Int32).toInt = 999 := by decide
          omega
        have ha_51 : 0 ≤ ((Av 3) : Int32).toInt ∧ ((Av 3) : Int32).toInt ≤ 6 := by
          have z_1 : ¬ (r_4 : Int32).toInt = (0 : Int32).toInt := fun z => c_6 (Int32.toInt_inj.mp z)
          have z_2 := Int32.lt_iff_toInt_lt.mp c_9
          have y_0 : (0 : Int32).toInt = 0 := by decide
          have y_999 : (999 : Int32).toInt = 999 := by decide
          omega
        exact retI (v := r_48) hx hb hr hlk (rfl) hP hD hS (false, 0, 0, 0, 0, 0, 0, 0, 0, 0, 0, 0, 0, (fun _ => 0), (fun _ => 0), (fun _ => 0), (fun _ => 0), 0, 0, (fun _ => 0), (fun _ => 0), (fun _ => 0), (fun _ => 0), (fun _ => 0), (fun _ => 0), (fun _ => 0), (fun _ => 0), sv_41, sv_42, sv_43, sv_44, sv_45, sv_46, sv_47) ⟨_, rfl, trivial, ha_50, ha_51⟩ [2, 3, 5, 6, 7, 8, 9, 10, 11, 12, 13, 0, 1, 4] rfl rfl dX11_day_47 (Nat.le_of_ble_eq_true rfl) (Nat.le_of_ble_eq_true rfl) rfl
      · skip
        obtain ⟨rfl, pf_52⟩ := hv_13
        have pf_52 : 0 ≤ (sv_24 : Int32).toInt ∧ (sv_24 : Int32).toInt < 20 := pf_52
        refine W.eq (g2 := F0 m 36 ls []) rfl ?_
        have hP : va_P D classes [((Ga 0), .inr (11, [.ref (Ga 1), .ref (Ga 2), .ref (Ga 3), .ref (La 0), .int (Gv 0), .ref (Sa 0), .ref (Aa 0), .ref (Pa 0), .ref (Ga 8), .ref (Ga 9), .ref (Ga 10), .ref (Ga 11)])), ((Sa 0), .inr (8, [.ref (Aa 0), .ref (Sa 2), .ref (Sa 3), .int (Sv 0), .int (Sv 1)])), ((La 0), .inl (tc 4, 6, .inr (.inr (.inr (.inr (Lq 0)))))), ((Pa 0), .inr (5, [.ref (Pa 1), .int sv_24, .int sv_25])), ((Pa 1), .inl (tc 5, 20, .inr (.inr (.inr (.inr (va_up (Pq 1) ((Pv 0) : Int32).toNatClampNeg (some sv_15))))))), ((Aa 0), .inr (9, [.int (Av 0), .int (Av 1), .int (Av 2), .int (Av 3), .int (Av 4), .int (Av 5), .ref (Aa 1), .ref (Aa 2), .ref (Aa 3), .ref (Aa 4), .ref (Aa 5), .ref (Aa 6), .ref (Aa 7), .ref (Aa 8)])), ((Aa 1), .inl (tc 0, 10, .inl (Af 1))), ((Aa 2), .inl (tc 0, 10, .inl (Af 2))), ((Aa 3), .inl (tc 0, 6, .inl (Af 3))), ((Aa 4), .inl (tc 0, 6, .inl (Af 4))), ((Aa 5), .inl (tc 0, 6, .inl (Af 5))), ((Aa 6), .inl (tc 0, 6, .inl (Af 6))), ((Aa 7), .inl (tc 0, 6, .inl (Af 7))), ((Aa 8), .inl (tc 0, 6, .inl (Af 8))), (sv_15, .inr (9, [.int (Av 0), .int (Av 1), .int (Av 2), .int (Av 3), .int (Av 4), .int (Av 5), .ref sv_16, .ref sv_17, .ref sv_18, .ref sv_19, .ref sv_20, .ref sv_21, .ref sv_22, .ref sv_23])), (sv_16, .inl (tc 0, 10, .inl sv_26)), (sv_17, .inl (tc 0, 10, .inl sv_27)), (sv_18, .inl (tc 0, 6, .inl sv_28)), (sv_19, .inl (tc 0, 6, .inl sv_29)), (sv_20, .inl (tc 0, 6, .inl sv_30)), (sv_21, .inl (tc 0, 6, .inl sv_31)), (sv_22, .inl (tc 0, 6, .inl sv_32)), (sv_23, .inl (tc 0, 6, .inl sv_33))] H := hP
        have hD : va_D A [((Ga 0), .inr (11, [.ref (Ga 1), .ref (Ga 2), .ref (Ga 3), .ref (La 0), .int (Gv 0), .ref (Sa 0), .ref (Aa 0), .ref (Pa 0), .ref (Ga 8), .ref (Ga 9), .ref (Ga 10), .ref (Ga 11)])), ((Sa 0), .inr (8, [.ref (Aa 0), .ref (Sa 2), .ref (Sa 3), .int (Sv 0), .int (Sv 1)])), ((La 0), .inl (tc 4, 6, .inr (.inr (.inr (.inr (Lq 0)))))), ((Pa 0), .inr (5, [.ref (Pa 1), .int sv_24, .int sv_25])), ((Pa 1), .inl (tc 5, 20, .inr (.inr (.inr (.inr (va_up (Pq 1) ((Pv 0) : Int32).toNatClampNeg (some sv_15))))))), ((Aa 0), .inr (9, [.int (Av 0), .int (Av 1), .int (Av 2), .int (Av 3), .int (Av 4), .int (Av 5), .ref (Aa 1), .ref (Aa 2), .ref (Aa 3), .ref (Aa 4), .ref (Aa 5), .ref (Aa 6), .ref (Aa 7), .ref (Aa 8)])), ((Aa 1), .inl (tc 0, 10, .inl (Af 1))), ((Aa 2), .inl (tc 0, 10, .inl (Af 2))), ((Aa 3), .inl (tc 0, 6, .inl (Af 3))), ((Aa 4), .inl (tc 0, 6, .inl (Af 4))), ((Aa 5), .inl (tc 0, 6, .inl (Af 5))), ((Aa 6), .inl (tc 0, 6, .inl (Af 6))), ((Aa 7), .inl (tc 0, 6, .inl (Af 7))), ((Aa 8), .inl (tc 0, 6, .inl (Af 8))), (sv_15, .inr (9, [.int (Av 0), .int (Av 1), .int (Av 2), .int (Av 3), .int (Av 4), .int (Av 5), .ref sv_16, .ref sv_17, .ref sv_18, .ref sv_19, .ref sv_20, .ref sv_21, .ref sv_22, .ref sv_23])), (sv_16, .inl (tc 0, 10, .inl sv_26)), (sv_17, .inl (tc 0, 10, .inl sv_27)), (sv_18, .inl (tc 0, 6, .inl sv_28)), (sv_19, .inl (tc 0, 6, .inl sv_29)), (sv_20, .inl (tc 0, 6, .inl sv_30)), (sv_21, .inl (tc 0, 6, .inl sv_31)), (sv_22, .inl (tc 0, 6, .inl sv_32)), (sv_23, .inl (tc 0, 6, .inl sv_33))] := hD
        refine lv_aload_n hx hb dX11_day_36 rfl (lv_at hl 0 rfl) ?_
        refine gf_X11_51 hx hb hts hown hK hP 0 rfl rfl dX11_day_37 ?_
        refine lv_aload_n hx hb dX11_day_40 rfl (lv_at hl 0 rfl) ?_
        refine cV (a := (Ga 0)) (As := []) (rest := [.ref (Aa 0)]) (wr := [((Pa 0), .inr (5, [.ref (Pa 1), .int sv_24, .int sv_25])), ((Pa 1), .inl (tc 5, 20, .inr (.inr (.inr (.inr (va_up (Pq 1) ((Pv 0) : Int32).toNatClampNeg (some sv_15))))))), ((Aa 0), .inr (9, [.int (Av 0), .int (Av 1), .int (Av 2), .int (Av 3), .int (Av 4), .int (Av 5), .ref (Aa 1), .ref (Aa 2), .ref (Aa 3), .ref (Aa 4), .ref (Aa 5), .ref (Aa 6), .ref (Aa 7), .ref (Aa 8)])), ((Aa 1), .inl (tc 0, 10, .inl (Af 1))), ((Aa 2), .inl (tc 0, 10, .inl (Af 2))), ((Aa 3), .inl (tc 0, 6, .inl (Af 3))), ((Aa 4), .inl (tc 0, 6, .inl (Af 4))), ((Aa 5), .inl (tc 0, 6, .inl (Af 5))), ((Aa 6), .inl (tc 0, 6, .inl (Af 6))), ((Aa 7), .inl (tc 0, 6, .inl (Af 7))), ((Aa 8), .inl (tc 0, 6, .inl (Af 8))), (sv_15, .inr (9, [.int (Av 0), .int (Av 1), .int (Av 2), .int (Av 3), .int (Av 4), .int (Av 5), .ref sv_16, .ref sv_17, .ref sv_18, .ref sv_19, .ref sv_20, .ref sv_21, .ref sv_22, .ref sv_23])), (sv_16, .inl (tc 0, 10, .inl sv_26)), (sv_17, .inl (tc 0, 10, .inl sv_27)), (sv_18, .inl (tc 0, 6, .inl sv_28)), (sv_19, .inl (tc 0, 6, .inl sv_29)), (sv_20, .inl (tc 0, 6, .inl sv_30)), (sv_21, .inl (tc 0, 6, .inl sv_31)), (sv_22, .inl (tc 0, 6, .inl sv_32)), (sv_23, .inl (tc 0, 6, .inl sv_33))]) ⟨hx, hb, hml, hown, hts⟩ hK hX hA (ct_X11_ruleInForce_n l D tc sk (fun k => ([(Ga 0), (Ga 1), (Ga 2), (Ga 3), 0, 0, (Aa 0), (Pa 0), (Ga 8), (Ga 9), (Ga 10), (Ga 11)] : List (Nat)).getD k 0) Gv (fun k => ([(Sa 0), (Aa 0), (Sa 2), (Sa 3)] : List (Nat)).getD k 0) Sv La Lq h_r) k_735 k_732 k_734 k_13 k_95 pl_X11_ruleInForce ⟨Nat.le_of_ble_eq_true rfl, Nat.le_of_ble_eq_true rfl⟩ rfl rfl (va_recv hK hP (ci := 11) (q0 := 0) rfl rfl) hP hD hS [0, 1, 2] [3, 4, 5, 6, 7, 8, 9, 10, 11, 12, 13, 14, 15, 16, 17, 18, 19, 20, 21, 22] rfl rfl rfl rfl rfl (by decide) rfl hl.1 rfl (Nat.le_of_ble_eq_true rfl) dX11_day_41 ⟨Nat.le_of_ble_eq_true rfl, Nat.le_of_ble_eq_true rfl⟩ (fun v_53 u_54 H locs hv_55 hP hD hS => ?_)
        obtain rfl : v_53 = some (.null) := hv_55
        refine W.eq (g2 := F0 m 44 ls [.null, .ref (Aa 0)]) rfl ?_
        have hP : va_P D classes [((Pa 0), .inr (5, [.ref (Pa 1), .int sv_24, .int sv_25])), ((Pa 1), .inl (tc 5, 20, .inr (.inr (.inr (.inr (va_up (Pq 1) ((Pv 0) : Int32).toNatClampNeg (some sv_15))))))), ((Aa 0), .inr (9, [.int (Av 0), .int (Av 1), .int (Av 2), .int (Av 3), .int (Av 4), .int (Av 5), .ref (Aa 1), .ref (Aa 2), .ref (Aa 3), .ref (Aa 4), .ref (Aa 5), .ref (Aa 6), .ref (Aa 7), .ref (Aa 8)])), ((Aa 1), .inl (tc 0, 10, .inl (Af 1))), ((Aa 2), .inl (tc 0, 10, .inl (Af 2))), ((Aa 3), .inl (tc 0, 6, .inl (Af 3))), ((Aa 4), .inl (tc 0, 6, .inl (Af 4))), ((Aa 5), .inl (tc 0, 6, .inl (Af 5))), ((Aa 6), .inl (tc 0, 6, .inl (Af 6))), ((Aa 7), .inl (tc 0, 6, .inl (Af 7))), ((Aa 8), .inl (tc 0, 6, .inl (Af 8))), (sv_15, .inr (9, [.int (Av 0), .int (Av 1), .int (Av 2), .int (Av 3), .int (Av 4), .int (Av 5), .ref sv_16, .ref sv_17, .ref sv_18, .ref sv_19, .ref sv_20, .ref sv_21, .ref sv_22, .ref sv_23])), (sv_16, .inl (tc 0, 10, .inl sv_26)), (sv_17, .inl (tc 0, 10, .inl sv_27)), (sv_18, .inl (tc 0, 6, .inl sv_28)), (sv_19, .inl (tc 0, 6, .inl sv_29)), (sv_20, .inl (tc 0, 6, .inl sv_30)), (sv_21, .inl (tc 0, 6, .inl sv_31)), (sv_22, .inl (tc 0, 6, .inl sv_32)), (sv_23, .inl (tc 0, 6, .inl sv_33)), ((Ga 0), .inr (11, [.ref (Ga 1), .ref (Ga 2), .ref (Ga 3), .ref (La 0), .int (Gv 0), .ref (Sa 0), .ref (Aa 0), .ref (Pa 0), .ref (Ga 8), .ref (Ga 9), .ref (Ga 10), .ref (Ga 11)])), ((Sa 0), .inr (8, [.ref (Aa 0), .ref (Sa 2), .ref (Sa 3), .int (Sv 0), .int (Sv 1)])), ((La 0), .inl (tc 4, 6, .inr (.inr (.inr (.inr (Lq 0))))))] H := hP
        have hD : va_D A [((Pa 0), .inr (5, [.ref (Pa 1), .int sv_24, .int sv_25])), ((Pa 1), .inl (tc 5, 20, .inr (.inr (.inr (.inr (va_up (Pq 1) ((Pv 0) : Int32).toNatClampNeg (some sv_15))))))), ((Aa 0), .inr (9, [.int (Av 0), .int (Av 1), .int (Av 2), .int (Av 3), .int (Av 4), .int (Av 5), .ref (Aa 1), .ref (Aa 2), .ref (Aa 3), .ref (Aa 4), .ref (Aa 5), .ref (Aa 6), .ref (Aa 7), .ref (Aa 8)])), ((Aa 1), .inl (tc 0, 10, .inl (Af 1))), ((Aa 2), .inl (tc 0, 10, .inl (Af 2))), ((Aa 3), .inl (tc 0, 6, .inl (Af 3))), ((Aa 4), .inl (tc 0, 6, .inl (Af 4))), ((Aa 5), .inl (tc 0, 6, .inl (Af 5))), ((Aa 6), .inl (tc 0, 6, .inl (Af 6))), ((Aa 7), .inl (tc 0, 6, .inl (Af 7))), ((Aa 8), .inl (tc 0, 6, .inl (Af 8))), (sv_15, .inr (9, [.int (Av 0), .int (Av 1), .int (Av 2), .int (Av 3), .int (Av 4), .int (Av 5), .ref sv_16, .ref sv_17, .ref sv_18, .ref sv_19, .ref sv_20, .ref sv_21, .ref sv_22, .ref sv_23])), (sv_16, .inl (tc 0, 10, .inl sv_26)), (sv_17, .inl (tc 0, 10, .inl sv_27)), (sv_18, .inl (tc 0, 6, .inl sv_28)), (sv_19, .inl (tc 0, 6, .inl sv_29)), (sv_20, .inl (tc 0, 6, .inl sv_30)), (sv_21, .inl (tc 0, 6, .inl sv_31)), (sv_22, .inl (tc 0, 6, .inl sv_32)), (sv_23, .inl (tc 0, 6, .inl sv_33)), ((Ga 0), .inr (11, [.ref (Ga 1), .ref (Ga 2), .ref (Ga 3), .ref (La 0), .int (Gv 0), .ref (Sa 0), .ref (Aa 0), .ref (Pa 0), .ref (Ga 8), .ref (Ga 9), .ref (Ga 10), .ref (Ga 11)])), ((Sa 0), .inr (8, [.ref (Aa 0), .ref (Sa 2), .ref (Sa 3), .int (Sv 0), .int (Sv 1)])), ((La 0), .inl (tc 4, 6, .inr (.inr (.inr (.inr (Lq 0))))))] := hD
        refine cV (a := (Aa 0)) (As := [.null]) (rest := []) (wr := [((Pa 0), .inr (5, [.ref (Pa 1), .int sv_24, .int sv_25])), ((Pa 1), .inl (tc 5, 20, .inr (.inr (.inr (.inr (va_up (Pq 1) ((Pv 0) : Int32).toNatClampNeg (some sv_15))))))), (sv_15, .inr (9, [.int (Av 0), .int (Av 1), .int (Av 2), .int (Av 3), .int (Av 4), .int (Av 5), .ref sv_16, .ref sv_17, .ref sv_18, .ref sv_19, .ref sv_20, .ref sv_21, .ref sv_22, .ref sv_23])), (sv_16, .inl (tc 0, 10, .inl sv_26)), (sv_17, .inl (tc 0, 10, .inl sv_27)), (sv_18, .inl (tc 0, 6, .inl sv_28)), (sv_19, .inl (tc 0, 6, .inl sv_29)), (sv_20, .inl (tc 0, 6, .inl sv_30)), (sv_21, .inl (tc 0, 6, .inl sv_31)), (sv_22, .inl (tc 0, 6, .inl sv_32)), (sv_23, .inl (tc 0, 6, .inl sv_33)), ((Ga 0), .inr (11, [.ref (Ga 1), .ref (Ga 2), .ref (Ga 3), .ref (La 0), .int (Gv 0), .ref (Sa 0), .ref (Aa 0), .ref (Pa 0), .ref (Ga 8), .ref (Ga 9), .ref (Ga 10), .ref (Ga 11)])), ((Sa 0), .inr (8, [.ref (Aa 0), .ref (Sa 2), .ref (Sa 3), .int (Sv 0), .int (Sv 1)])), ((La 0), .inl (tc 4, 6, .inr (.inr (.inr (.inr (Lq 0))))))]) ⟨hx, hb, hml, hown, hts⟩ hK hX hA (ct_X9_goThroughDay_n l D tc sk Aa Av Af) k_739 k_736 k_737 k_738 k_98 pl_X9_goThroughDay ⟨Nat.le_of_ble_eq_true rfl, Nat.le_of_ble_eq_true rfl⟩ rfl rfl (va_recv hK hP (ci := 9) (q0 := 2) rfl rfl) hP hD hS [2, 3, 4, 5, 6, 7, 8, 9, 10] [0, 1, 11, 12, 13, 14, 15, 16, 17, 18, 19, 20, 21, 22] rfl rfl rfl rfl rfl (by decide) rfl hl.1 rfl (Nat.le_of_ble_eq_true rfl) dX11_day_44 ⟨Nat.le_of_ble_eq_true rfl, Nat.le_of_ble_eq_true rfl⟩ (fun v_56 u_57 H locs hv_58 hP hD hS => ?_)
        obtain ⟨sv_59, sv_60, sv_61, sv_62, sv_63, sv_64, sv_65⟩ := u_57
        obtain ⟨r_66, rfl, he_67⟩ := hv_58
        have he_67 : (True) := he_67
        refine W.eq (g2 := F0 m 47 ls [.int r_66]) rfl ?_
        have hP : va_P D classes [((Pa 0), .inr (5, [.ref (Pa 1), .int sv_24, .int sv_25])), ((Pa 1), .inl (tc 5, 20, .inr (.inr (.inr (.inr (va_up (Pq 1) ((Pv 0) : Int32).toNatClampNeg (some sv_15))))))), (sv_15, .inr (9, [.int (Av 0), .int (Av 1), .int (Av 2), .int (Av 3), .int (Av 4), .int (Av 5), .ref sv_16, .ref sv_17, .ref sv_18, .ref sv_19, .ref sv_20, .ref sv_21, .ref sv_22, .ref sv_23])), (sv_16, .inl (tc 0, 10, .inl sv_26)), (sv_17, .inl (tc 0, 10, .inl sv_27)), (sv_18, .inl (tc 0, 6, .inl sv_28)), (sv_19, .inl (tc 0, 6, .inl sv_29)), (sv_20, .inl (tc 0, 6, .inl sv_30)), (sv_21, .inl (tc 0, 6, .inl sv_31)), (sv_22, .inl (tc 0, 6, .inl sv_32)), (sv_23, .inl (tc 0, 6, .inl sv_33)), ((Ga 0), .inr (11, [.ref (Ga 1), .ref (Ga 2), .ref (Ga 3), .ref (La 0), .int (Gv 0), .ref (Sa 0), .ref (Aa 0), .ref (Pa 0), .ref (Ga 8), .ref (Ga 9), .ref (Ga 10), .ref (Ga 11)])), ((Sa 0), .inr (8, [.ref (Aa 0), .ref (Sa 2), .ref (Sa 3), .int (Sv 0), .int (Sv 1)])), ((La 0), .inl (tc 4, 6, .inr (.inr (.inr (.inr (Lq 0)))))), ((Aa 0), .inr (9, [.int sv_59, .int (Av 1), .int (Av 2), .int (Av 3), .int sv_60, .int sv_61, .ref (Aa 1), .ref (Aa 2), .ref (Aa 3), .ref (Aa 4), .ref (Aa 5), .ref (Aa 6), .ref (Aa 7), .ref (Aa 8)])), ((Aa 1), .inl (tc 0, 10, .inl (Af 1))), ((Aa 2), .inl (tc 0, 10, .inl (Af 2))), ((Aa 3), .inl (tc 0, 6, .inl sv_62)), ((Aa 4), .inl (tc 0, 6, .inl (Af 4))), ((Aa 5), .inl (tc 0, 6, .inl (Af 5))), ((Aa 6), .inl (tc 0, 6, .inl sv_63)), ((Aa 7), .inl (tc 0, 6, .inl sv_64)), ((Aa 8), .inl (tc 0, 6, .inl sv_65))] H := hP
        have hD : va_D A [((Pa 0), .inr (5, [.ref (Pa 1), .int sv_24, .int sv_25])), ((Pa 1), .inl (tc 5, 20, .inr (.inr (.inr (.inr (va_up (Pq 1) ((Pv 0) : Int32).toNatClampNeg (some sv_15))))))), (sv_15, .inr (9, [.int (Av 0), .int (Av 1), .int (Av 2), .int (Av 3), .int (Av 4), .int (Av 5), .ref sv_16, .ref sv_17, .ref sv_18, .ref sv_19, .ref sv_20, .ref sv_21, .ref sv_22, .ref sv_23])), (sv_16, .inl (tc 0, 10, .inl sv_26)), (sv_17, .inl (tc 0, 10, .inl sv_27)), (sv_18, .inl (tc 0, 6, .inl sv_28)), (sv_19, .inl (tc 0, 6, .inl sv_29)), (sv_20, .inl (tc 0, 6, .inl sv_30)), (sv_21, .inl (tc 0, 6, .inl sv_31)), (sv_22, .inl (tc 0, 6, .inl sv_32)), (sv_23, .inl (tc 0, 6, .inl sv_33)), ((Ga 0), .inr (11, [.ref (Ga 1), .ref (Ga 2), .ref (Ga 3), .ref (La 0), .int (Gv 0), .ref (Sa 0), .ref (Aa 0), .ref (Pa 0), .ref (Ga 8), .ref (Ga 9), .ref (Ga 10), .ref (Ga 11)])), ((Sa 0), .inr (8, [.ref (Aa 0), .ref (Sa 2), .ref (Sa 3), .int (Sv 0), .int (Sv 1)])), ((La 0), .inl (tc 4, 6, .inr (.inr (.inr (.inr (Lq 0)))))), ((Aa 0), .inr (9, [.int sv_59, .int (Av 1), .int (Av 2), .int (Av 3), .int sv_60, .int sv_61, .ref (Aa 1), .ref (Aa 2), .ref (Aa 3), .ref (Aa 4), .ref (Aa 5), .ref (Aa 6), .ref (Aa 7), .ref (Aa 8)])), ((Aa 1), .inl (tc 0, 10, .inl (Af 1))), ((Aa 2), .inl (tc 0, 10, .inl (Af 2))), ((Aa 3), .inl (tc 0, 6, .inl sv_62)), ((Aa 4), .inl (tc 0, 6, .inl (Af 4))), ((Aa 5), .inl (tc 0, 6, .inl (Af 5))), ((Aa 6), .inl (tc 0, 6, .inl sv_63)), ((Aa 7), .inl (tc 0, 6, .inl sv_64)), ((Aa 8), .inl (tc 0, 6, .inl sv_65))] := hD
        have ha_68 : 0 ≤ (sv_24 : Int32).toInt ∧ (sv_24 : Int32).toInt < 20 := by
          have z_1 : ¬ (r_4 : Int32).toInt = (0 : Int32).toInt := fun z => c_6 (Int32.toInt_inj.mp z)
          have z_2 := Int32.lt_iff_toInt_lt.mp c_9
          have y_0 : (0 : Int32).toInt = 0 := by decide
          have y_999 : (999 : Int32).toInt = 999 := by decide
          omega
        have ha_69 : 0 ≤ ((Av 3) : Int32).toInt ∧ ((Av 3) : Int32).toInt ≤ 6 := by
          have z_1 : ¬ (r_4 : Int32).toInt = (0 : Int32).toInt := fun z => c_6 (Int32.toInt_inj.mp z)
          have z_2 := Int32.lt_iff_toInt_lt.mp c_9
          have y_0 : (0 : Int32).toInt = 0 := by decide
          have y_999 : (999 : Int32).toInt = 999 := by decide
          omega
        have ha_70 : 0 ≤ ((Av 3) : Int32).toInt ∧ ((Av 3) : Int32).toInt ≤ 6 := by
          have z_1 : ¬ (r_4 : Int32).toInt = (0 : Int32).toInt := fun z => c_6 (Int32.toInt_inj.mp z)
          have z_2 := Int32.lt_iff_toInt_lt.mp c_9
          have y_0 : (0 : Int32).toInt = 0 := by decide
          have y_999 : (999 : Int32).toInt = 999 := by decide
          omega
        exact retI (v := r_66) hx hb hr hlk (rfl) hP hD hS (true, sv_15, sv_16, sv_17, sv_18, sv_19, sv_20, sv_21, sv_22, sv_23, sv_59, sv_60, sv_61, sv_62, sv_63, sv_64, sv_65, sv_24, sv_25, sv_26, sv_27, sv_28, sv_29, sv_30, sv_31, sv_32, sv_33, 0, 0, 0, (fun _ => 0), (fun _ => 0), (fun _ => 0), (fun _ => 0)) ⟨_, rfl, trivial, ha_68, ha_69, ha_70⟩ [11, 12, 14, 15, 16, 17, 18, 19, 20, 21, 22, 0, 1, 13, 2, 3, 4, 5, 6, 7, 8, 9, 10] rfl rfl dX11_day_47 (Nat.le_of_ble_eq_true rfl) (Nat.le_of_ble_eq_true rfl) rfl
    · skip
      refine lv_iconst (v := (-1)) hx hb dX11_day_23 (by decide) ?_
      have ha_71 : 0 ≤ ((Pv 0) : Int32).toInt ∧ ((Pv 0) : Int32).toInt < 20 := by
        have z_1 : ¬ (r_4 : Int32).toInt = (0 : Int32).toInt := fun z => c_6 (Int32.toInt_inj.mp z)
        have z_2 := Int32.le_iff_toInt_le.mp (Int32.not_lt.mp c_9)
        have y_0 : (0 : Int32).toInt = 0 := by decide
        have y_999 : (999 : Int32).toInt = 999 := by decide
        omega
      have ha_72 : 0 ≤ ((Av 3) : Int32).toInt ∧ ((Av 3) : Int32).toInt ≤ 6 := by
        have z_1 : ¬ (r_4 : Int32).toInt = (0 : Int32).toInt := fun z => c_6 (Int32.toInt_inj.mp z)
        have z_2 := Int32.le_iff_toInt_le.mp (Int32.not_lt.mp c_9)
        have y_0 : (0 : Int32).toInt = 0 := by decide
        have y_999 : (999 : Int32).toInt = 999 := by decide
        omega
      exact retI (v := (-1)) hx hb hr hlk (rfl) hP hD hS (false, 0, 0, 0, 0, 0, 0, 0, 0, 0, 0, 0, 0, (fun _ => 0), (fun _ => 0), (fun _ => 0), (fun _ => 0), 0, 0, (fun _ => 0), (fun _ => 0), (fun _ => 0), (fun _ => 0), (fun _ => 0), (fun _ => 0), (fun _ => 0), (fun _ => 0), (Av 0), (Av 4), (Av 5), (Af 3), (Af 6), (Af 7), (Af 8)) ⟨_, rfl, trivial, ha_71, ha_72⟩ [0, 1, 5, 6, 7, 8, 9, 10, 11, 12, 13, 2, 3, 4] rfl rfl dX11_day_24 (Nat.le_of_ble_eq_true rfl) (Nat.le_of_ble_eq_true rfl) rfl
set_option maxHeartbeats 4000000 in
set_option maxRecDepth 100000 in
theorem ct_X11_day_nr (l : Launch) (D : va_G) (tc : Nat → ClassId) (sk : (Nat → Nat) × (Nat → Nat)) (Ga : Nat → Nat) (Gv : Nat → Int32) (Sa : Nat → Nat) (Sv : Nat → Int32) (Aa : Nat → Nat) (Av : Nat → Int32) (Af : Nat → Nat → Int32) (Pa : Nat → Nat) (Pv : Nat → Int32) (Pq : Nat → Nat → Option Nat) (La : Nat → Nat) (Lq : Nat → Nat → Option Nat) (Ra : Nat → Nat) (Rf : Nat → Nat → Int32) (Rg : Nat → Nat → Int64) (Rn : Nat) (h_nx : 0 ≤ ((Pv 0) : Int32).toInt ∧ ((Pv 0) : Int32).toInt < 20) (h_q : (Pq 1) (Pv 0).toNatClampNeg = none) (h_r : (0 ≤ (Sv 0).toInt ∧ (Sv 0).toInt < 6) ∧ (Lq 0) (Sv 0).toNatClampNeg = some (Ra 0)) (h_Rn : Rn ≤ 400) (h_bA : 0 ≤ ((Av 3) : Int32).toInt ∧ ((Av 3) : Int32).toInt ≤ 6) : Ct l yX11_day cX11_day 1 (some .int) { frames := 5, cells := 9, slots := 70, locals := 116 } D tc sk [.ref (Ga 0)] [((Ga 0), .inr (11, [.ref (Ga 1), .ref (Ga 2), .ref (Ga 3), .ref (La 0), .int (Gv 0), .ref (Sa 0), .ref (Aa 0), .ref (Pa 0), .ref (Ga 8), .ref (Ga 9), .ref (Ga 10), .ref (Ga 11)])), ((Sa 0), .inr (8, [.ref (Aa 0), .ref (Sa 2), .ref (Sa 3), .int (Sv 0), .int (Sv 1)])), ((Aa 0), .inr (9, [.int (Av 0), .int (Av 1), .int (Av 2), .int (Av 3), .int (Av 4), .int (Av 5), .ref (Aa 1), .ref (Aa 2), .ref (Aa 3), .ref (Aa 4), .ref (Aa 5), .ref (Aa 6), .ref (Aa 7), .ref (Aa 8)])), ((Aa 1), .inl (tc 0, 10, .inl (Af 1))), ((Aa 2), .inl (tc 0, 10, .inl (Af 2))), ((Aa 3), .inl (tc 0, 6, .inl (Af 3))), ((Aa 4), .inl (tc 0, 6, .inl (Af 4))), ((Aa 5), .inl (tc 0, 6, .inl (Af 5))), ((Aa 6), .inl (tc 0, 6, .inl (Af 6))), ((Aa 7), .inl (tc 0, 6, .inl (Af 7))), ((Aa 8), .inl (tc 0, 6, .inl (Af 8))), ((Pa 0), .inr (5, [.ref (Pa 1), .int (Pv 0), .int (Pv 1)])), ((Pa 1), .inl (tc 5, 20, .inr (.inr (.inr (.inr (Pq 1)))))), ((La 0), .inl (tc 4, 6, .inr (.inr (.inr (.inr (Lq 0)))))), ((Ra 0), .inr (6, [.ref (Ra 1), .ref (Ra 2)])), ((Ra 1), .inl (tc 0, Rn, .inl (Rf 1))), ((Ra 2), .inl (tc 1, 64, .inr (.inl (Rg 2))))] (fun (v : Option Value) (u : (Bool) × (Nat) × (Nat) × (Nat) × (Nat) × (Nat) × (Nat) × (Nat) × (Nat) × (Nat) × (Int32) × (Int32) × (Int32) × (Nat → Int32) × (Nat → Int32) × (Nat → Int32) × (Nat → Int32) × (Int32) × (Int32) × (Nat → Int64) × (Nat → Int32) × (Nat → Int32) × (Nat → Int32) × (Nat → Int32) × (Nat → Int32) × (Nat → Int32) × (Nat → Int32) × (Nat → Int32) × (Int32) × (Int32) × (Int32) × (Nat → Int32) × (Nat → Int32) × (Nat → Int32) × (Nat → Int32) × (Nat → Int64)) => match u with | (true, na0x0, na0x1, na0x2, na0x3, na0x4, na0x5, na0x6, na0x7, na0x8, oo0x1, oo0x2, oo0x3, oo0x4, oo0x5, oo0x6, oo0x7, oo0x8, oo0x9, oo0x10, oo0x11, oo0x12, oo0x13, oo0x14, oo0x15, oo0x16, oo0x17, oo0x18, oo1x1, oo1x2, oo1x3, oo1x4, oo1x5, oo1x6, oo1x7, oo1x8) => ∃ r : Int32, v = some (.int r) ∧ (True) ∧ (0 ≤ (oo0x8 : Int32).toInt ∧ (oo0x8 : Int32).toInt < 20) ∧ (0 ≤ ((Av 3) : Int32).toInt ∧ ((Av 3) : Int32).toInt ≤ 6) ∧ (0 ≤ ((Av 3) : Int32).toInt ∧ ((Av 3) : Int32).toInt ≤ 6) | (false, na0x0, na0x1, na0x2, na0x3, na0x4, na0x5, na0x6, na0x7, na0x8, oo0x1, oo0x2, oo0x3, oo0x4, oo0x5, oo0x6, oo0x7, oo0x8, oo0x9, oo0x10, oo0x11, oo0x12, oo0x13, oo0x14, oo0x15, oo0x16, oo0x17, oo0x18, oo1x1, oo1x2, oo1x3, oo1x4, oo1x5, oo1x6, oo1x7, oo1x8) => ∃ r : Int32, v = some (.int r) ∧ (True) ∧ (0 ≤ ((Pv 0) : Int32).toInt ∧ ((Pv 0) : Int32).toInt < 20) ∧ (0 ≤ ((Av 3) : Int32).toInt ∧ ((Av 3) : Int32).toInt ≤ 6)) (fun (u : (Bool) × (Nat) × (Nat) × (Nat) × (Nat) × (Nat) × (Nat) × (Nat) × (Nat) × (Nat) × (Int32) × (Int32) × (Int32) × (Nat → Int32) × (Nat → Int32) × (Nat → Int32) × (Nat → Int32) × (Int32) × (Int32) × (Nat → Int64) × (Nat → Int32) × (Nat → Int32) × (Nat → Int32) × (Nat → Int32) × (Nat → Int32) × (Nat → Int32) × (Nat → Int32) × (Nat → Int32) × (Int32) × (Int32) × (Int32) × (Nat → Int32) × (Nat → Int32) × (Nat → Int32) × (Nat → Int32) × (Nat → Int64)) => match u with | (true, na0x0, na0x1, na0x2, na0x3, na0x4, na0x5, na0x6, na0x7, na0x8, oo0x1, oo0x2, oo0x3, oo0x4, oo0x5, oo0x6, oo0x7, oo0x8, oo0x9, oo0x10, oo0x11, oo0x12, oo0x13, oo0x14, oo0x15, oo0x16, oo0x17, oo0x18, oo1x1, oo1x2, oo1x3, oo1x4, oo1x5, oo1x6, oo1x7, oo1x8) => [((Ga 0), .inr (11, [.ref (Ga 1), .ref (Ga 2), .ref (Ga 3), .ref (La 0), .int (Gv 0), .ref (Sa 0), .ref (Aa 0), .ref (Pa 0), .ref (Ga 8), .ref (Ga 9), .ref (Ga 10), .ref (Ga 11)])), ((Sa 0), .inr (8, [.ref (Aa 0), .ref (Sa 2), .ref (Sa 3), .int (Sv 0), .int (Sv 1)])), ((Aa 0), .inr (9, [.int oo0x1, .int (Av 1), .int (Av 2), .int (Av 3), .int oo0x2, .int oo0x3, .ref (Aa 1), .ref (Aa 2), .ref (Aa 3), .ref (Aa 4), .ref (Aa 5), .ref (Aa 6), .ref (Aa 7), .ref (Aa 8)])), ((Aa 1), .inl (tc 0, 10, .inl (Af 1))), ((Aa 2), .inl (tc 0, 10, .inl (Af 2))), ((Aa 3), .inl (tc 0, 6, .inl oo0x4)), ((Aa 4), .inl (tc 0, 6, .inl (Af 4))), ((Aa 5), .inl (tc 0, 6, .inl (Af 5))), ((Aa 6), .inl (tc 0, 6, .inl oo0x5)), ((Aa 7), .inl (tc 0, 6, .inl oo0x6)), ((Aa 8), .inl (tc 0, 6, .inl oo0x7)), ((Pa 0), .inr (5, [.ref (Pa 1), .int oo0x8, .int oo0x9])), ((Pa 1), .inl (tc 5, 20, .inr (.inr (.inr (.inr (va_up (Pq 1) ((Pv 0) : Int32).toNatClampNeg (some na0x0))))))), ((La 0), .inl (tc 4, 6, .inr (.inr (.inr (.inr (Lq 0)))))), ((Ra 0), .inr (6, [.ref (Ra 1), .ref (Ra 2)])), ((Ra 1), .inl (tc 0, Rn, .inl (Rf 1))), ((Ra 2), .inl (tc 1, 64, .inr (.inl oo0x10))), (na0x0, .inr (9, [.int (Av 0), .int (Av 1), .int (Av 2), .int (Av 3), .int (Av 4), .int (Av 5), .ref na0x1, .ref na0x2, .ref na0x3, .ref na0x4, .ref na0x5, .ref na0x6, .ref na0x7, .ref na0x8])), (na0x1, .inl (tc 0, 10, .inl oo0x11)), (na0x2, .inl (tc 0, 10, .inl oo0x12)), (na0x3, .inl (tc 0, 6, .inl oo0x13)), (na0x4, .inl (tc 0, 6, .inl oo0x14)), (na0x5, .inl (tc 0, 6, .inl oo0x15)), (na0x6, .inl (tc 0, 6, .inl oo0x16)), (na0x7, .inl (tc 0, 6, .inl oo0x17)), (na0x8, .inl (tc 0, 6, .inl oo0x18))] | (false, na0x0, na0x1, na0x2, na0x3, na0x4, na0x5, na0x6, na0x7, na0x8, oo0x1, oo0x2, oo0x3, oo0x4, oo0x5, oo0x6, oo0x7, oo0x8, oo0x9, oo0x10, oo0x11, oo0x12, oo0x13, oo0x14, oo0x15, oo0x16, oo0x17, oo0x18, oo1x1, oo1x2, oo1x3, oo1x4, oo1x5, oo1x6, oo1x7, oo1x8) => [((Ga 0), .inr (11, [.ref (Ga 1), .ref (Ga 2), .ref (Ga 3), .ref (La 0), .int (Gv 0), .ref (Sa 0), .ref (Aa 0), .ref (Pa 0), .ref (Ga 8), .ref (Ga 9), .ref (Ga 10), .ref (Ga 11)])), ((Sa 0), .inr (8, [.ref (Aa 0), .ref (Sa 2), .ref (Sa 3), .int (Sv 0), .int (Sv 1)])), ((Aa 0), .inr (9, [.int oo1x1, .int (Av 1), .int (Av 2), .int (Av 3), .int oo1x2, .int oo1x3, .ref (Aa 1), .ref (Aa 2), .ref (Aa 3), .ref (Aa 4), .ref (Aa 5), .ref (Aa 6), .ref (Aa 7), .ref (Aa 8)])), ((Aa 1), .inl (tc 0, 10, .inl (Af 1))), ((Aa 2), .inl (tc 0, 10, .inl (Af 2))), ((Aa 3), .inl (tc 0, 6, .inl oo1x4)), ((Aa 4), .inl (tc 0, 6, .inl (Af 4))), ((Aa 5), .inl (tc 0, 6, .inl (Af 5))), ((Aa 6), .inl (tc 0, 6, .inl oo1x5)), ((Aa 7), .inl (tc 0, 6, .inl oo1x6)), ((Aa 8), .inl (tc 0, 6, .inl oo1x7)), ((Pa 0), .inr (5, [.ref (Pa 1), .int (Pv 0), .int (Pv 1)])), ((Pa 1), .inl (tc 5, 20, .inr (.inr (.inr (.inr (Pq 1)))))), ((La 0), .inl (tc 4, 6, .inr (.inr (.inr (.inr (Lq 0)))))), ((Ra 0), .inr (6, [.ref (Ra 1), .ref (Ra 2)])), ((Ra 1), .inl (tc 0, Rn, .inl (Rf 1))), ((Ra 2), .inl (tc 1, 64, .inr (.inl oo1x8)))]) 9 70 := by
  refine Ct.start (by decide) (Nat.le_of_ble_eq_true rfl) (fun p e s m below meth c A ls hx hb hr hlk hin hml hown hts hK hX hP hD hA hl hS => ?_)
  have hl : lv_has ls 1 [(0, .ref (Ga 0))] := hl
  refine lv_aload_n hx hb dX11_day_0 rfl (lv_at hl 0 rfl) ?_
  refine gf_X11_51 hx hb hts hown hK hP 0 rfl rfl dX11_day_1 ?_
  refine cV (a := (Aa 0)) (As := []) (rest := []) (wr := [((Ga 0), .inr (11, [.ref (Ga 1), .ref (Ga 2), .ref (Ga 3), .ref (La 0), .int (Gv 0), .ref (Sa 0), .ref (Aa 0), .ref (Pa 0), .ref (Ga 8), .ref (Ga 9), .ref (Ga 10), .ref (Ga 11)])), ((Sa 0), .inr (8, [.ref (Aa 0), .ref (Sa 2), .ref (Sa 3), .int (Sv 0), .int (Sv 1)])), ((Pa 0), .inr (5, [.ref (Pa 1), .int (Pv 0), .int (Pv 1)])), ((Pa 1), .inl (tc 5, 20, .inr (.inr (.inr (.inr (Pq 1)))))), ((La 0), .inl (tc 4, 6, .inr (.inr (.inr (.inr (Lq 0)))))), ((Ra 0), .inr (6, [.ref (Ra 1), .ref (Ra 2)])), ((Ra 1), .inl (tc 0, Rn, .inl (Rf 1))), ((Ra 2), .inl (tc 1, 64, .inr (.inl (Rg 2))))]) ⟨hx, hb, hml, hown, hts⟩ hK hX hA (ct_X9_isTold l D tc sk Aa Av Af) k_724 k_721 k_722 k_723 k_98 pl_X9_isTold ⟨Nat.le_of_ble_eq_true rfl, Nat.le_of_ble_eq_true rfl⟩ rfl rfl (va_recv hK hP (ci := 9) (q0 := 2) rfl rfl) hP hD hS [2, 3, 4, 5, 6, 7, 8, 9, 10] [0, 1, 11, 12, 13, 14, 15, 16] rfl rfl rfl rfl rfl (by decide) rfl hl.1 rfl (Nat.le_of_ble_eq_true rfl) dX11_day_4 ⟨Nat.le_of_ble_eq_true rfl, Nat.le_of_ble_eq_true rfl⟩ (fun v_1 u_2 H locs hv_3 hP hD hS => ?_)
  obtain ⟨r_4, rfl, he_5⟩ := hv_3
  have he_5 : ((r_4.toInt = 0 ∨ r_4.toInt = 1)) := he_5
  refine W.eq (g2 := F0 m 7 ls [.int r_4]) rfl ?_
  have hP : va_P D classes [((Ga 0), .inr (11, [.ref (Ga 1), .ref (Ga 2), .ref (Ga 3), .ref (La 0), .int (Gv 0), .ref (Sa 0), .ref (Aa 0), .ref (Pa 0), .ref (Ga 8), .ref (Ga 9), .ref (Ga 10), .ref (Ga 11)])), ((Sa 0), .inr (8, [.ref (Aa 0), .ref (Sa 2), .ref (Sa 3), .int (Sv 0), .int (Sv 1)])), ((Pa 0), .inr (5, [.ref (Pa 1), .int (Pv 0), .int (Pv 1)])), ((Pa 1), .inl (tc 5, 20, .inr (.inr (.inr (.inr (Pq 1)))))), ((La 0), .inl (tc 4, 6, .inr (.inr (.inr (.inr (Lq 0)))))), ((Ra 0), .inr (6, [.ref (Ra 1), .ref (Ra 2)])), ((Ra 1), .inl (tc 0, Rn, .inl (Rf 1))), ((Ra 2), .inl (tc 1, 64, .inr (.inl (Rg 2)))), ((Aa 0), .inr (9, [.int (Av 0), .int (Av 1), .int (Av 2), .int (Av 3), .int (Av 4), .int (Av 5), .ref (Aa 1), .ref (Aa 2), .ref (Aa 3), .ref (Aa 4), .ref (Aa 5), .ref (Aa 6), .ref (Aa 7), .ref (Aa 8)])), ((Aa 1), .inl (tc 0, 10, .inl (Af 1))), ((Aa 2), .inl (tc 0, 10, .inl (Af 2))), ((Aa 3), .inl (tc 0, 6, .inl (Af 3))), ((Aa 4), .inl (tc 0, 6, .inl (Af 4))), ((Aa 5), .inl (tc 0, 6, .inl (Af 5))), ((Aa 6), .inl (tc 0, 6, .inl (Af 6))), ((Aa 7), .inl (tc 0, 6, .inl (Af 7))), ((Aa 8), .inl (tc 0, 6, .inl (Af 8)))] H := hP
  have hD : va_D A [((Ga 0), .inr (11, [.ref (Ga 1), .ref (Ga 2), .ref (Ga 3), .ref (La 0), .int (Gv 0), .ref (Sa 0), .ref (Aa 0), .ref (Pa 0), .ref (Ga 8), .ref (Ga 9), .ref (Ga 10), .ref (Ga 11)])), ((Sa 0), .inr (8, [.ref (Aa 0), .ref (Sa 2), .ref (Sa 3), .int (Sv 0), .int (Sv 1)])), ((Pa 0), .inr (5, [.ref (Pa 1), .int (Pv 0), .int (Pv 1)])), ((Pa 1), .inl (tc 5, 20, .inr (.inr (.inr (.inr (Pq 1)))))), ((La 0), .inl (tc 4, 6, .inr (.inr (.inr (.inr (Lq 0)))))), ((Ra 0), .inr (6, [.ref (Ra 1), .ref (Ra 2)])), ((Ra 1), .inl (tc 0, Rn, .inl (Rf 1))), ((Ra 2), .inl (tc 1, 64, .inr (.inl (Rg 2)))), ((Aa 0), .inr (9, [.int (Av 0), .int (Av 1), .int (Av 2), .int (Av 3), .int (Av 4), .int (Av 5), .ref (Aa 1), .ref (Aa 2), .ref (Aa 3), .ref (Aa 4), .ref (Aa 5), .ref (Aa 6), .ref (Aa 7), .ref (Aa 8)])), ((Aa 1), .inl (tc 0, 10, .inl (Af 1))), ((Aa 2), .inl (tc 0, 10, .inl (Af 2))), ((Aa 3), .inl (tc 0, 6, .inl (Af 3))), ((Aa 4), .inl (tc 0, 6, .inl (Af 4))), ((Aa 5), .inl (tc 0, 6, .inl (Af 5))), ((Aa 6), .inl (tc 0, 6, .inl (Af 6))), ((Aa 7), .inl (tc 0, 6, .inl (Af 7))), ((Aa 8), .inl (tc 0, 6, .inl (Af 8)))] := hD
  refine lv_if_eq (tgt := 23) hx hb dX11_day_7 (by decide) (fun c_6 => ?_) (fun c_6 => ?_)
  · skip
    refine lv_iconst (v := (-1)) hx hb dX11_day_23 (by decide) ?_
    have ha_7 : 0 ≤ ((Pv 0) : Int32).toInt ∧ ((Pv 0) : Int32).toInt < 20 := by
      have z_1 := congrArg Int32.toInt c_6
      have y_0 : (0 : Int32).toInt = 0 := by decide
      omega
    have ha_8 : 0 ≤ ((Av 3) : Int32).toInt ∧ ((Av 3) : Int32).toInt ≤ 6 := by
      have z_1 := congrArg Int32.toInt c_6
      have y_0 : (0 : Int32).toInt = 0 := by decide
      omega
    exact retI (v := (-1)) hx hb hr hlk (rfl) hP hD hS (false, 0, 0, 0, 0, 0, 0, 0, 0, 0, 0, 0, 0, (fun _ => 0), (fun _ => 0), (fun _ => 0), (fun _ => 0), 0, 0, (fun _ => 0), (fun _ => 0), (fun _ => 0), (fun _ => 0), (fun _ => 0), (fun _ => 0), (fun _ => 0), (fun _ => 0), (fun _ => 0), (Av 0), (Av 4), (Av 5), (Af 3), (Af 6), (Af 7), (Af 8), (Rg 2)) ⟨_, rfl, trivial, ha_7, ha_8⟩ [0, 1, 8, 9, 10, 11, 12, 13, 14, 15, 16, 2, 3, 4, 5, 6, 7] rfl rfl dX11_day_24 (Nat.le_of_ble_eq_true rfl) (Nat.le_of_ble_eq_true rfl) rfl
  · skip
    refine lv_aload_n hx hb dX11_day_10 rfl (lv_at hl 0 rfl) ?_
    refine gf_X11_51 hx hb hts hown hK hP 0 rfl rfl dX11_day_11 ?_
    refine gf_X11_179 hx hb hts hown hK hP 8 rfl rfl dX11_day_14 ?_
    refine lv_sipush (v := 999) hx hb dX11_day_17 (by decide) ?_
    refine lv_icmp_lt (tgt := 25) hx hb dX11_day_20 (by decide) (fun c_9 => ?_) (fun c_9 => ?_)
    · skip
      refine lv_aload_n hx hb dX11_day_25 rfl (lv_at hl 0 rfl) ?_
      refine gf_X11_57 hx hb hts hown hK hP 0 rfl rfl dX11_day_26 ?_
      refine lv_aload_n hx hb dX11_day_29 rfl (lv_at hl 0 rfl) ?_
      refine gf_X11_51 hx hb hts hown hK hP 0 rfl rfl dX11_day_30 ?_
      have ha_10 : 0 ≤ ((Pv 0) : Int32).toInt ∧ ((Pv 0) : Int32).toInt < 20 := by
        have z_1 : ¬ (r_4 : Int32).toInt = (0 : Int32).toInt := fun z => c_6 (Int32.toInt_inj.mp z)
        have z_2 := Int32.lt_iff_toInt_lt.mp c_9
        have y_0 : (0 : Int32).toInt = 0 := by decide
        have y_999 : (999 : Int32).toInt = 999 := by decide
        omega
      refine cV (a := (Pa 0)) (As := [.ref (Aa 0)]) (rest := []) (wr := [((Ga 0), .inr (11, [.ref (Ga 1), .ref (Ga 2), .ref (Ga 3), .ref (La 0), .int (Gv 0), .ref (Sa 0), .ref (Aa 0), .ref (Pa 0), .ref (Ga 8), .ref (Ga 9), .ref (Ga 10), .ref (Ga 11)])), ((Sa 0), .inr (8, [.ref (Aa 0), .ref (Sa 2), .ref (Sa 3), .int (Sv 0), .int (Sv 1)])), ((La 0), .inl (tc 4, 6, .inr (.inr (.inr (.inr (Lq 0)))))), ((Ra 0), .inr (6, [.ref (Ra 1), .ref (Ra 2)])), ((Ra 1), .inl (tc 0, Rn, .inl (Rf 1))), ((Ra 2), .inl (tc 1, 64, .inr (.inl (Rg 2))))]) ⟨hx, hb, hml, hown, hts⟩ hK hX hA (ct_X5_keep_n l D tc sk Pa Pv Pq Aa Av Af ha_10 h_q) k_728 k_725 k_726 k_727 k_102 pl_X5_keep ⟨Nat.le_of_ble_eq_true rfl, Nat.le_of_ble_eq_true rfl⟩ rfl rfl (va_recv hK hP (ci := 5) (q0 := 2) rfl rfl) hP hD hS [2, 3, 8, 9, 10, 11, 12, 13, 14, 15, 16] [0, 1, 4, 5, 6, 7] rfl rfl rfl rfl rfl (by decide) rfl hl.1 rfl (Nat.le_of_ble_eq_true rfl) dX11_day_33 ⟨Nat.le_of_ble_eq_true rfl, Nat.le_of_ble_eq_true rfl⟩ (fun v_11 u_12 H locs hv_13 hP hD hS => ?_)
      obtain ⟨sv_14, sv_15, sv_16, sv_17, sv_18, sv_19, sv_20, sv_21, sv_22, sv_23, sv_24, sv_25, sv_26, sv_27, sv_28, sv_29, sv_30, sv_31, sv_32, sv_33⟩ := u_12
      cases sv_14
      · skip
        obtain ⟨rfl, pf_34⟩ := hv_13
        have pf_34 : 0 ≤ ((Pv 0) : Int32).toInt ∧ ((Pv 0) : Int32).toInt < 20 := pf_34
        refine W.eq (g2 := F0 m 36 ls []) rfl ?_
        have hP : va_P D classes [((Ga 0), .inr (11, [.ref (Ga 1), .ref (Ga 2), .ref (Ga 3), .ref (La 0), .int (Gv 0), .ref (Sa 0), .ref (Aa 0), .ref (Pa 0), .ref (Ga 8), .ref (Ga 9), .ref (Ga 10), .ref (Ga 11)])), ((Sa 0), .inr (8, [.ref (Aa 0), .ref (Sa 2), .ref (Sa 3), .int (Sv 0), .int (Sv 1)])), ((La 0), .inl (tc 4, 6, .inr (.inr (.inr (.inr (Lq 0)))))), ((Ra 0), .inr (6, [.ref (Ra 1), .ref (Ra 2)])), ((Ra 1), .inl (tc 0, Rn, .inl (Rf 1))), ((Ra 2), .inl (tc 1, 64, .inr (.inl (Rg 2)))), ((Pa 0), .inr (5, [.ref (Pa 1), .int (Pv 0), .int (Pv 1)])), ((Pa 1), .inl (tc 5, 20, .inr (.inr (.inr (.inr (Pq 1)))))), ((Aa 0), .inr (9, [.int (Av 0), .int (Av 1), .int (Av 2), .int (Av 3), .int (Av 4), .int (Av 5), .ref (Aa 1), .ref (Aa 2), .ref (Aa 3), .ref (Aa 4), .ref (Aa 5), .ref (Aa 6), .ref (Aa 7), .ref (Aa 8)])), ((Aa 1), .inl (tc 0, 10, .inl (Af 1))), ((Aa 2), .inl (tc 0, 10, .inl (Af 2))), ((Aa 3), .inl (tc 0, 6, .inl (Af 3))), ((Aa 4), .inl (tc 0, 6, .inl (Af 4))), ((Aa 5), .inl (tc 0, 6, .inl (Af 5))), ((Aa 6), .inl (tc 0, 6, .inl (Af 6))), ((Aa 7), .inl (tc 0, 6, .inl (Af 7))), ((Aa 8), .inl (tc 0, 6, .inl (Af 8)))] H := hP
        have hD : va_D A [((Ga 0), .inr (11, [.ref (Ga 1), .ref (Ga 2), .ref (Ga 3), .ref (La 0), .int (Gv 0), .ref (Sa 0), .ref (Aa 0), .ref (Pa 0), .ref (Ga 8), .ref (Ga 9), .ref (Ga 10), .ref (Ga 11)])), ((Sa 0), .inr (8, [.ref (Aa 0), .ref (Sa 2), .ref (Sa 3), .int (Sv 0), .int (Sv 1)])), ((La 0), .inl (tc 4, 6, .inr (.inr (.inr (.inr (Lq 0)))))), ((Ra 0), .inr (6, [.ref (Ra 1), .ref (Ra 2)])), ((Ra 1), .inl (tc 0, Rn, .inl (Rf 1))), ((Ra 2), .inl (tc 1, 64, .inr (.inl (Rg 2)))), ((Pa 0), .inr (5, [.ref (Pa 1), .int (Pv 0), .int (Pv 1)])), ((Pa 1), .inl (tc 5, 20, .inr (.inr (.inr (.inr (Pq 1)))))), ((Aa 0), .inr (9, [.int (Av 0), .int (Av 1), .int (Av 2), .int (Av 3), .int (Av 4), .int (Av 5), .ref (Aa 1), .ref (Aa 2), .ref (Aa 3), .ref (Aa 4), .ref (Aa 5), .ref (Aa 6), .ref (Aa 7), .ref (Aa 8)])), ((Aa 1), .inl (tc 0, 10, .inl (Af 1))), ((Aa 2), .inl (tc 0, 10, .inl (Af 2))), ((Aa 3), .inl (tc 0, 6, .inl (Af 3))), ((Aa 4), .inl (tc 0, 6, .inl (Af 4))), ((Aa 5), .inl (tc 0, 6, .inl (Af 5))), ((Aa 6), .inl (tc 0, 6, .inl (Af 6))), ((Aa 7), .inl (tc 0, 6, .inl (Af 7))), ((Aa 8), .inl (tc 0, 6, .inl (Af 8)))] := hD
        refine lv_aload_n hx hb dX11_day_36 rfl (lv_at hl 0 rfl) ?_
        refine gf_X11_51 hx hb hts hown hK hP 0 rfl rfl dX11_day_37 ?_
        refine lv_aload_n hx hb dX11_day_40 rfl (lv_at hl 0 rfl) ?_
        refine cV (a := (Ga 0)) (As := []) (rest := [.ref (Aa 0)]) (wr := [((Ra 0), .inr (6, [.ref (Ra 1), .ref (Ra 2)])), ((Ra 1), .inl (tc 0, Rn, .inl (Rf 1))), ((Ra 2), .inl (tc 1, 64, .inr (.inl (Rg 2)))), ((Pa 0), .inr (5, [.ref (Pa 1), .int (Pv 0), .int (Pv 1)])), ((Pa 1), .inl (tc 5, 20, .inr (.inr (.inr (.inr (Pq 1)))))), ((Aa 0), .inr (9, [.int (Av 0), .int (Av 1), .int (Av 2), .int (Av 3), .int (Av 4), .int (Av 5), .ref (Aa 1), .ref (Aa 2), .ref (Aa 3), .ref (Aa 4), .ref (Aa 5), .ref (Aa 6), .ref (Aa 7), .ref (Aa 8)])), ((Aa 1), .inl (tc 0, 10, .inl (Af 1))), ((Aa 2), .inl (tc 0, 10, .inl (Af 2))), ((Aa 3), .inl (tc 0, 6, .inl (Af 3))), ((Aa 4), .inl (tc 0, 6, .inl (Af 4))), ((Aa 5), .inl (tc 0, 6, .inl (Af 5))), ((Aa 6), .inl (tc 0, 6, .inl (Af 6))), ((Aa 7), .inl (tc 0, 6, .inl (Af 7))), ((Aa 8), .inl (tc 0, 6, .inl (Af 8)))]) ⟨hx, hb, hml, hown, hts⟩ hK hX hA (ct_X11_ruleInForce_r l D tc sk (fun k => ([(Ga 0), (Ga 1), (Ga 2), (Ga 3), 0, 0, (Aa 0), (Pa 0), (Ga 8), (Ga 9), (Ga 10), (Ga 11)] : List (Nat)).getD k 0) Gv (fun k => ([(Sa 0), (Aa 0), (Sa 2), (Sa 3)] : List (Nat)).getD k 0) Sv La Lq (Ra 0) h_r) k_735 k_732 k_734 k_13 k_95 pl_X11_ruleInForce ⟨Nat.le_of_ble_eq_true rfl, Nat.le_of_ble_eq_true rfl⟩ rfl rfl (va_recv hK hP (ci := 11) (q0 := 0) rfl rfl) hP hD hS [0, 1, 2] [3, 4, 5, 6, 7, 8, 9, 10, 11, 12, 13, 14, 15, 16] rfl rfl rfl rfl rfl (by decide) rfl hl.1 rfl (Nat.le_of_ble_eq_true rfl) dX11_day_41 ⟨Nat.le_of_ble_eq_true rfl, Nat.le_of_ble_eq_true rfl⟩ (fun v_35 u_36 H locs hv_37 hP hD hS => ?_)
        obtain rfl : v_35 = some (.ref (Ra 0)) := hv_37
        refine W.eq (g2 := F0 m 44 ls [.ref (Ra 0), .ref (Aa 0)]) rfl ?_
        have hP : va_P D classes [((Ra 0), .inr (6, [.ref (Ra 1), .ref (Ra 2)])), ((Ra 1), .inl (tc 0, Rn, .inl (Rf 1))), ((Ra 2), .inl (tc 1, 64, .inr (.inl (Rg 2)))), ((Pa 0), .inr (5, [.ref (Pa 1), .int (Pv 0), .int (Pv 1)])), ((Pa 1), .inl (tc 5, 20, .inr (.inr (.inr (.inr (Pq 1)))))), ((Aa 0), .inr (9, [.int (Av 0), .int (Av 1), .int (Av 2), .int (Av 3), .int (Av 4), .int (Av 5), .ref (Aa 1), .ref (Aa 2), .ref (Aa 3), .ref (Aa 4), .ref (Aa 5), .ref (Aa 6), .ref (Aa 7), .ref (Aa 8)])), ((Aa 1), .inl (tc 0, 10, .inl (Af 1))), ((Aa 2), .inl (tc 0, 10, .inl (Af 2))), ((Aa 3), .inl (tc 0, 6, .inl (Af 3))), ((Aa 4), .inl (tc 0, 6, .inl (Af 4))), ((Aa 5), .inl (tc 0, 6, .inl (Af 5))), ((Aa 6), .inl (tc 0, 6, .inl (Af 6))), ((Aa 7), .inl (tc 0, 6, .inl (Af 7))), ((Aa 8), .inl (tc 0, 6, .inl (Af 8))), ((Ga 0), .inr (11, [.ref (Ga 1), .ref (Ga 2), .ref (Ga 3), .ref (La 0), .int (Gv 0), .ref (Sa 0), .ref (Aa 0), .ref (Pa 0), .ref (Ga 8), .ref (Ga 9), .ref (Ga 10), .ref (Ga 11)])), ((Sa 0), .inr (8, [.ref (Aa 0), .ref (Sa 2), .ref (Sa 3), .int (Sv 0), .int (Sv 1)])), ((La 0), .inl (tc 4, 6, .inr (.inr (.inr (.inr (Lq 0))))))] H := hP
        have hD : va_D A [((Ra 0), .inr (6, [.ref (Ra 1), .ref (Ra 2)])), ((Ra 1), .inl (tc 0, Rn, .inl (Rf 1))), ((Ra 2), .inl (tc 1, 64, .inr (.inl (Rg 2)))), ((Pa 0), .inr (5, [.ref (Pa 1), .int (Pv 0), .int (Pv 1)])), ((Pa 1), .inl (tc 5, 20, .inr (.inr (.inr (.inr (Pq 1)))))), ((Aa 0), .inr (9, [.int (Av 0), .int (Av 1), .int (Av 2), .int (Av 3), .int (Av 4), .int (Av 5), .ref (Aa 1), .ref (Aa 2), .ref (Aa 3), .ref (Aa 4), .ref (Aa 5), .ref (Aa 6), .ref (Aa 7), .ref (Aa 8)])), ((Aa 1), .inl (tc 0, 10, .inl (Af 1))), ((Aa 2), .inl (tc 0, 10, .inl (Af 2))), ((Aa 3), .inl (tc 0, 6, .inl (Af 3))), ((Aa 4), .inl (tc 0, 6, .inl (Af 4))), ((Aa 5), .inl (tc 0, 6, .inl (Af 5))), ((Aa 6), .inl (tc 0, 6, .inl (Af 6))), ((Aa 7), .inl (tc 0, 6, .inl (Af 7))), ((Aa 8), .inl (tc 0, 6, .inl (Af 8))), ((Ga 0), .inr (11, [.ref (Ga 1), .ref (Ga 2), .ref (Ga 3), .ref (La 0), .int (Gv 0), .ref (Sa 0), .ref (Aa 0), .ref (Pa 0), .ref (Ga 8), .ref (Ga 9), .ref (Ga 10), .ref (Ga 11)])), ((Sa 0), .inr (8, [.ref (Aa 0), .ref (Sa 2), .ref (Sa 3), .int (Sv 0), .int (Sv 1)])), ((La 0), .inl (tc 4, 6, .inr (.inr (.inr (.inr (Lq 0))))))] := hD
        have ha_38 : Rn ≤ 400 := by
          have z_1 : ¬ (r_4 : Int32).toInt = (0 : Int32).toInt := fun z => c_6 (Int32.toInt_inj.mp z)
          have z_2 := Int32.lt_iff_toInt_lt.mp c_9
          have y_0 : (0 : Int32).toInt = 0 := by decide
          have y_999 : (999 : Int32).toInt = 999 := by decide
          omega
        refine cV (a := (Aa 0)) (As := [.ref (Ra 0)]) (rest := []) (wr := [((Pa 0), .inr (5, [.ref (Pa 1), .int (Pv 0), .int (Pv 1)])), ((Pa 1), .inl (tc 5, 20, .inr (.inr (.inr (.inr (Pq 1)))))), ((Ga 0), .inr (11, [.ref (Ga 1), .ref (Ga 2), .ref (Ga 3), .ref (La 0), .int (Gv 0), .ref (Sa 0), .ref (Aa 0), .ref (Pa 0), .ref (Ga 8), .ref (Ga 9), .ref (Ga 10), .ref (Ga 11)])), ((Sa 0), .inr (8, [.ref (Aa 0), .ref (Sa 2), .ref (Sa 3), .int (Sv 0), .int (Sv 1)])), ((La 0), .inl (tc 4, 6, .inr (.inr (.inr (.inr (Lq 0))))))]) ⟨hx, hb, hml, hown, hts⟩ hK hX hA (ct_X9_goThroughDay_r l D tc sk Aa Av Af Ra Rf Rg Rn ha_38) k_739 k_736 k_737 k_738 k_98 pl_X9_goThroughDay ⟨Nat.le_of_ble_eq_true rfl, Nat.le_of_ble_eq_true rfl⟩ rfl rfl (va_recv hK hP (ci := 9) (q0 := 5) rfl rfl) hP hD hS [5, 6, 7, 8, 9, 10, 11, 12, 13, 0, 1, 2] [3, 4, 14, 15, 16] rfl rfl rfl rfl rfl (by decide) rfl hl.1 rfl (Nat.le_of_ble_eq_true rfl) dX11_day_44 ⟨Nat.le_of_ble_eq_true rfl, Nat.le_of_ble_eq_true rfl⟩ (fun v_39 u_40 H locs hv_41 hP hD hS => ?_)
        obtain ⟨sv_42, sv_43, sv_44, sv_45, sv_46, sv_47, sv_48, sv_49⟩ := u_40
        obtain ⟨r_50, rfl, he_51⟩ := hv_41
        have he_51 : (True) := he_51
        refine W.eq (g2 := F0 m 47 ls [.int r_50]) rfl ?_
        have hP : va_P D classes [((Pa 0), .inr (5, [.ref (Pa 1), .int (Pv 0), .int (Pv 1)])), ((Pa 1), .inl (tc 5, 20, .inr (.inr (.inr (.inr (Pq 1)))))), ((Ga 0), .inr (11, [.ref (Ga 1), .ref (Ga 2), .ref (Ga 3), .ref (La 0), .int (Gv 0), .ref (Sa 0), .ref (Aa 0), .ref (Pa 0), .ref (Ga 8), .ref (Ga 9), .ref (Ga 10), .ref (Ga 11)])), ((Sa 0), .inr (8, [.ref (Aa 0), .ref (Sa 2), .ref (Sa 3), .int (Sv 0), .int (Sv 1)])), ((La 0), .inl (tc 4, 6, .inr (.inr (.inr (.inr (Lq 0)))))), ((Aa 0), .inr (9, [.int sv_42, .int (Av 1), .int (Av 2), .int (Av 3), .int sv_43, .int sv_44, .ref (Aa 1), .ref (Aa 2), .ref (Aa 3), .ref (Aa 4), .ref (Aa 5), .ref (Aa 6), .ref (Aa 7), .ref (Aa 8)])), ((Aa 1), .inl (tc 0, 10, .inl (Af 1))), ((Aa 2), .inl (tc 0, 10, .inl (Af 2))), ((Aa 3), .inl (tc 0, 6, .inl sv_45)), ((Aa 4), .inl (tc 0, 6, .inl (Af 4))), ((Aa 5), .inl (tc 0, 6, .inl (Af 5))), ((Aa 6), .inl (tc 0, 6, .inl sv_46)), ((Aa 7), .inl (tc 0, 6, .inl sv_47)), ((Aa 8), .inl (tc 0, 6, .inl sv_48)), ((Ra 0), .inr (6, [.ref (Ra 1), .ref (Ra 2)])), ((Ra 1), .inl (tc 0, Rn, .inl (Rf 1))), ((Ra 2), .inl (tc 1, 64, .inr (.inl sv_49)))] H := hP
        have hD : va_D A [((Pa 0), .inr (5, [.ref (Pa 1), .int (Pv 0), .int (Pv 1)])), ((Pa 1), .inl (tc 5, 20, .inr (.inr (.inr (.inr (Pq 1)))))), ((Ga 0), .inr (11, [.ref (Ga 1), .ref (Ga 2), .ref (Ga 3), .ref (La 0), .int (Gv 0), .ref (Sa 0), .ref (Aa 0), .ref (Pa 0), .ref (Ga 8), .ref (Ga 9), .ref (Ga 10), .ref (Ga 11)])), ((Sa 0), .inr (8, [.ref (Aa 0), .ref (Sa 2), .ref (Sa 3), .int (Sv 0), .int (Sv 1)])), ((La 0), .inl (tc 4, 6, .inr (.inr (.inr (.inr (Lq 0)))))), ((Aa 0), .inr (9, [.int sv_42, .int (Av 1), .int (Av 2), .int (Av 3), .int sv_43, .int sv_44, .ref (Aa 1), .ref (Aa 2), .ref (Aa 3), .ref (Aa 4), .ref (Aa 5), .ref (Aa 6), .ref (Aa 7), .ref (Aa 8)])), ((Aa 1), .inl (tc 0, 10, .inl (Af 1))), ((Aa 2), .inl (tc 0, 10, .inl (Af 2))), ((Aa 3), .inl (tc 0, 6, .inl sv_45)), ((Aa 4), .inl (tc 0, 6, .inl (Af 4))), ((Aa 5), .inl (tc 0, 6, .inl (Af 5))), ((Aa 6), .inl (tc 0, 6, .inl sv_46)), ((Aa 7), .inl (tc 0, 6, .inl sv_47)), ((Aa 8), .inl (tc 0, 6, .inl sv_48)), ((Ra 0), .inr (6, [.ref (Ra 1), .ref (Ra 2)])), ((Ra 1), .inl (tc 0, Rn, .inl (Rf 1))), ((Ra 2), .inl (tc 1, 64, .inr (.inl sv_49)))] := hD
        have ha_52 : 0 ≤ ((Pv 0) : Int32).toInt ∧ ((Pv 0) : Int32).toInt < 20 := by
          have z_1 : ¬ (r_4 : Int32).toInt = (0 : Int32).toInt := fun z => c_6 (Int32.toInt_inj.mp z)
          have z_2 := Int32.lt_iff_toInt_lt.mp c_9
          have y_0 : (0 : Int32).toInt = 0 := by decide
          have y_999 : (999 : Int32).toInt = 999 := by decide
          omega
        have ha_53 : 0 ≤ ((Av 3) : Int32).toInt ∧ ((Av 3) : Int32).toInt ≤ 6 := by
          have z_1 : ¬ (r_4 : Int32).toInt = (0 : Int32).toInt := fun z => c_6 (Int32.toInt_inj.mp z)
          have z_2 := Int32.lt_iff_toInt_lt.mp c_9
          have y_0 : (0 : Int32).toInt = 0 := by decide
          have y_999 : (999 : Int32).toInt = 999 := by decide
          omega
        exact retI (v := r_50) hx hb hr hlk (rfl) hP hD hS (false, 0, 0, 0, 0, 0, 0, 0, 0, 0, 0, 0, 0, (fun _ => 0), (fun _ => 0), (fun _ => 0), (fun _ => 0), 0, 0, (fun _ => 0), (fun _ => 0), (fun _ => 0), (fun _ => 0), (fun _ => 0), (fun _ => 0), (fun _ => 0), (fun _ => 0), (fun _ => 0), sv_42, sv_43, sv_44, sv_45, sv_46, sv_47, sv_48, sv_49) ⟨_, rfl, trivial, ha_52, ha_53⟩ [2, 3, 5, 6, 7, 8, 9, 10, 11, 12, 13, 0, 1, 4, 14, 15, 16] rfl rfl dX11_day_47 (Nat.le_of_ble_eq_true rfl) (Nat.le_of_ble_eq_true rfl) rfl
      · skip
        obtain ⟨rfl, pf_54⟩ := hv_13
        have pf_54 : 0 ≤ (sv_24 : Int32).toInt ∧ (sv_24 : Int32).toInt < 20 := pf_54
        refine W.eq (g2 := F0 m 36 ls []) rfl ?_
        have hP : va_P D classes [((Ga 0), .inr (11, [.ref (Ga 1), .ref (Ga 2), .ref (Ga 3), .ref (La 0), .int (Gv 0), .ref (Sa 0), .ref (Aa 0), .ref (Pa 0), .ref (Ga 8), .ref (Ga 9), .ref (Ga 10), .ref (Ga 11)])), ((Sa 0), .inr (8, [.ref (Aa 0), .ref (Sa 2), .ref (Sa 3), .int (Sv 0), .int (Sv 1)])), ((La 0), .inl (tc 4, 6, .inr (.inr (.inr (.inr (Lq 0)))))), ((Ra 0), .inr (6, [.ref (Ra 1), .ref (Ra 2)])), ((Ra 1), .inl (tc 0, Rn, .inl (Rf 1))), ((Ra 2), .inl (tc 1, 64, .inr (.inl (Rg 2)))), ((Pa 0), .inr (5, [.ref (Pa 1), .int sv_24, .int sv_25])), ((Pa 1), .inl (tc 5, 20, .inr (.inr (.inr (.inr (va_up (Pq 1) ((Pv 0) : Int32).toNatClampNeg (some sv_15))))))), ((Aa 0), .inr (9, [.int (Av 0), .int (Av 1), .int (Av 2), .int (Av 3), .int (Av 4), .int (Av 5), .ref (Aa 1), .ref (Aa 2), .ref (Aa 3), .ref (Aa 4), .ref (Aa 5), .ref (Aa 6), .ref (Aa 7), .ref (Aa 8)])), ((Aa 1), .inl (tc 0, 10, .inl (Af 1))), ((Aa 2), .inl (tc 0, 10, .inl (Af 2))), ((Aa 3), .inl (tc 0, 6, .inl (Af 3))), ((Aa 4), .inl (tc 0, 6, .inl (Af 4))), ((Aa 5), .inl (tc 0, 6, .inl (Af 5))), ((Aa 6), .inl (tc 0, 6, .inl (Af 6))), ((Aa 7), .inl (tc 0, 6, .inl (Af 7))), ((Aa 8), .inl (tc 0, 6, .inl (Af 8))), (sv_15, .inr (9, [.int (Av 0), .int (Av 1), .int (Av 2), .int (Av 3), .int (Av 4), .int (Av 5), .ref sv_16, .ref sv_17, .ref sv_18, .ref sv_19, .ref sv_20, .ref sv_21, .ref sv_22, .ref sv_23])), (sv_16, .inl (tc 0, 10, .inl sv_26)), (sv_17, .inl (tc 0, 10, .inl sv_27)), (sv_18, .inl (tc 0, 6, .inl sv_28)), (sv_19, .inl (tc 0, 6, .inl sv_29)), (sv_20, .inl (tc 0, 6, .inl sv_30)), (sv_21, .inl (tc 0, 6, .inl sv_31)), (sv_22, .inl (tc 0, 6, .inl sv_32)), (sv_23, .inl (tc 0, 6, .inl sv_33))] H := hP
        have hD : va_D A [((Ga 0), .inr (11, [.ref (Ga 1), .ref (Ga 2), .ref (Ga 3), .ref (La 0), .int (Gv 0), .ref (Sa 0), .ref (Aa 0), .ref (Pa 0), .ref (Ga 8), .ref (Ga 9), .ref (Ga 10), .ref (Ga 11)])), ((Sa 0), .inr (8, [.ref (Aa 0), .ref (Sa 2), .ref (Sa 3), .int (Sv 0), .int (Sv 1)])), ((La 0), .inl (tc 4, 6, .inr (.inr (.inr (.inr (Lq 0)))))), ((Ra 0), .inr (6, [.ref (Ra 1), .ref (Ra 2)])), ((Ra 1), .inl (tc 0, Rn, .inl (Rf 1))), ((Ra 2), .inl (tc 1, 64, .inr (.inl (Rg 2)))), ((Pa 0), .inr (5, [.ref (Pa 1), .int sv_24, .int sv_25])), ((Pa 1), .inl (tc 5, 20, .inr (.inr (.inr (.inr (va_up (Pq 1) ((Pv 0) : Int32).toNatClampNeg (some sv_15))))))), ((Aa 0), .inr (9, [.int (Av 0), .int (Av 1), .int (Av 2), .int (Av 3), .int (Av 4), .int (Av 5), .ref (Aa 1), .ref (Aa 2), .ref (Aa 3), .ref (Aa 4), .ref (Aa 5), .ref (Aa 6), .ref (Aa 7), .ref (Aa 8)])), ((Aa 1), .inl (tc 0, 10, .inl (Af 1))), ((Aa 2), .inl (tc 0, 10, .inl (Af 2))), ((Aa 3), .inl (tc 0, 6, .inl (Af 3))), ((Aa 4), .inl (tc 0, 6, .inl (Af 4))), ((Aa 5), .inl (tc 0, 6, .inl (Af 5))), ((Aa 6), .inl (tc 0, 6, .inl (Af 6))), ((Aa 7), .inl (tc 0, 6, .inl (Af 7))), ((Aa 8), .inl (tc 0, 6, .inl (Af 8))), (sv_15, .inr (9, [.int (Av 0), .int (Av 1), .int (Av 2), .int (Av 3), .int (Av 4), .int (Av 5), .ref sv_16, .ref sv_17, .ref sv_18, .ref sv_19, .ref sv_20, .ref sv_21, .ref sv_22, .ref sv_23])), (sv_16, .inl (tc 0, 10, .inl sv_26)), (sv_17, .inl (tc 0, 10, .inl sv_27)), (sv_18, .inl (tc 0, 6, .inl sv_28)), (sv_19, .inl (tc 0, 6, .inl sv_29)), (sv_20, .inl (tc 0, 6, .inl sv_30)), (sv_21, .inl (tc 0, 6, .inl sv_31)), (sv_22, .inl (tc 0, 6, .inl sv_32)), (sv_23, .inl (tc 0, 6, .inl sv_33))] := hD
        refine lv_aload_n hx hb dX11_day_36 rfl (lv_at hl 0 rfl) ?_
        refine gf_X11_51 hx hb hts hown hK hP 0 rfl rfl dX11_day_37 ?_
        refine lv_aload_n hx hb dX11_day_40 rfl (lv_at hl 0 rfl) ?_
        refine cV (a := (Ga 0)) (As := []) (rest := [.ref (Aa 0)]) (wr := [((Ra 0), .inr (6, [.ref (Ra 1), .ref (Ra 2)])), ((Ra 1), .inl (tc 0, Rn, .inl (Rf 1))), ((Ra 2), .inl (tc 1, 64, .inr (.inl (Rg 2)))), ((Pa 0), .inr (5, [.ref (Pa 1), .int sv_24, .int sv_25])), ((Pa 1), .inl (tc 5, 20, .inr (.inr (.inr (.inr (va_up (Pq 1) ((Pv 0) : Int32).toNatClampNeg (some sv_15))))))), ((Aa 0), .inr (9, [.int (Av 0), .int (Av 1), .int (Av 2), .int (Av 3), .int (Av 4), .int (Av 5), .ref (Aa 1), .ref (Aa 2), .ref (Aa 3), .ref (Aa 4), .ref (Aa 5), .ref (Aa 6), .ref (Aa 7), .ref (Aa 8)])), ((Aa 1), .inl (tc 0, 10, .inl (Af 1))), ((Aa 2), .inl (tc 0, 10, .inl (Af 2))), ((Aa 3), .inl (tc 0, 6, .inl (Af 3))), ((Aa 4), .inl (tc 0, 6, .inl (Af 4))), ((Aa 5), .inl (tc 0, 6, .inl (Af 5))), ((Aa 6), .inl (tc 0, 6, .inl (Af 6))), ((Aa 7), .inl (tc 0, 6, .inl (Af 7))), ((Aa 8), .inl (tc 0, 6, .inl (Af 8))), (sv_15, .inr (9, [.int (Av 0), .int (Av 1), .int (Av 2), .int (Av 3), .int (Av 4), .int (Av 5), .ref sv_16, .ref sv_17, .ref sv_18, .ref sv_19, .ref sv_20, .ref sv_21, .ref sv_22, .ref sv_23])), (sv_16, .inl (tc 0, 10, .inl sv_26)), (sv_17, .inl (tc 0, 10, .inl sv_27)), (sv_18, .inl (tc 0, 6, .inl sv_28)), (sv_19, .inl (tc 0, 6, .inl sv_29)), (sv_20, .inl (tc 0, 6, .inl sv_30)), (sv_21, .inl (tc 0, 6, .inl sv_31)), (sv_22, .inl (tc 0, 6, .inl sv_32)), (sv_23, .inl (tc 0, 6, .inl sv_33))]) ⟨hx, hb, hml, hown, hts⟩ hK hX hA (ct_X11_ruleInForce_r l D tc sk (fun k => ([(Ga 0), (Ga 1), (Ga 2), (Ga 3), 0, 0, (Aa 0), (Pa 0), (Ga 8), (Ga 9), (Ga 10), (Ga 11)] : List (Nat)).getD k 0) Gv (fun k => ([(Sa 0), (Aa 0), (Sa 2), (Sa 3)] : List (Nat)).getD k 0) Sv La Lq (Ra 0) h_r) k_735 k_732 k_734 k_13 k_95 pl_X11_ruleInForce ⟨Nat.le_of_ble_eq_true rfl, Nat.le_of_ble_eq_true rfl⟩ rfl rfl (va_recv hK hP (ci := 11) (q0 := 0) rfl rfl) hP hD hS [0, 1, 2] [3, 4, 5, 6, 7, 8, 9, 10, 11, 12, 13, 14, 15, 16, 17, 18, 19, 20, 21, 22, 23, 24, 25] rfl rfl rfl rfl rfl (by decide) rfl hl.1 rfl (Nat.le_of_ble_eq_true rfl) dX11_day_41 ⟨Nat.le_of_ble_eq_true rfl, Nat.le_of_ble_eq_true rfl⟩ (fun v_55 u_56 H locs hv_57 hP hD hS => ?_)
        obtain rfl : v_55 = some (.ref (Ra 0)) := hv_57
        refine W.eq (g2 := F0 m 44 ls [.ref (Ra 0), .ref (Aa 0)]) rfl ?_
        have hP : va_P D classes [((Ra 0), .inr (6, [.ref (Ra 1), .ref (Ra 2)])), ((Ra 1), .inl (tc 0, Rn, .inl (Rf 1))), ((Ra 2), .inl (tc 1, 64, .inr (.inl (Rg 2)))), ((Pa 0), .inr (5, [.ref (Pa 1), .int sv_24, .int sv_25])), ((Pa 1), .inl (tc 5, 20, .inr (.inr (.inr (.inr (va_up (Pq 1) ((Pv 0) : Int32).toNatClampNeg (some sv_15))))))), ((Aa 0), .inr (9, [.int (Av 0), .int (Av 1), .int (Av 2), .int (Av 3), .int (Av 4), .int (Av 5), .ref (Aa 1), .ref (Aa 2), .ref (Aa 3), .ref (Aa 4), .ref (Aa 5), .ref (Aa 6), .ref (Aa 7), .ref (Aa 8)])), ((Aa 1), .inl (tc 0, 10, .inl (Af 1))), ((Aa 2), .inl (tc 0, 10, .inl (Af 2))), ((Aa 3), .inl (tc 0, 6, .inl (Af 3))), ((Aa 4), .inl (tc 0, 6, .inl (Af 4))), ((Aa 5), .inl (tc 0, 6, .inl (Af 5))), ((Aa 6), .inl (tc 0, 6, .inl (Af 6))), ((Aa 7), .inl (tc 0, 6, .inl (Af 7))), ((Aa 8), .inl (tc 0, 6, .inl (Af 8))), (sv_15, .inr (9, [.int (Av 0), .int (Av 1), .int (Av 2), .int (Av 3), .int (Av 4), .int (Av 5), .ref sv_16, .ref sv_17, .ref sv_18, .ref sv_19, .ref sv_20, .ref sv_21, .ref sv_22, .ref sv_23])), (sv_16, .inl (tc 0, 10, .inl sv_26)), (sv_17, .inl (tc 0, 10, .inl sv_27)), (sv_18, .inl (tc 0, 6, .inl sv_28)), (sv_19, .inl (tc 0, 6, .inl sv_29)), (sv_20, .inl (tc 0, 6, .inl sv_30)), (sv_21, .inl (tc 0, 6, .inl sv_31)), (sv_22, .inl (tc 0, 6, .inl sv_32)), (sv_23, .inl (tc 0, 6, .inl sv_33)), ((Ga 0), .inr (11, [.ref (Ga 1), .ref (Ga 2), .ref (Ga 3), .ref (La 0), .int (Gv 0), .ref (Sa 0), .ref (Aa 0), .ref (Pa 0), .ref (Ga 8), .ref (Ga 9), .ref (Ga 10), .ref (Ga 11)])), ((Sa 0), .inr (8, [.ref (Aa 0), .ref (Sa 2), .ref (Sa 3), .int (Sv 0), .int (Sv 1)])), ((La 0), .inl (tc 4, 6, .inr (.inr (.inr (.inr (Lq 0))))))] H := hP
        have hD : va_D A [((Ra 0), .inr (6, [.ref (Ra 1), .ref (Ra 2)])), ((Ra 1), .inl (tc 0, Rn, .inl (Rf 1))), ((Ra 2), .inl (tc 1, 64, .inr (.inl (Rg 2)))), ((Pa 0), .inr (5, [.ref (Pa 1), .int sv_24, .int sv_25])), ((Pa 1), .inl (tc 5, 20, .inr (.inr (.inr (.inr (va_up (Pq 1) ((Pv 0) : Int32).toNatClampNeg (some sv_15))))))), ((Aa 0), .inr (9, [.int (Av 0), .int (Av 1), .int (Av 2), .int (Av 3), .int (Av 4), .int (Av 5), .ref (Aa 1), .ref (Aa 2), .ref (Aa 3), .ref (Aa 4), .ref (Aa 5), .ref (Aa 6), .ref (Aa 7), .ref (Aa 8)])), ((Aa 1), .inl (tc 0, 10, .inl (Af 1))), ((Aa 2), .inl (tc 0, 10, .inl (Af 2))), ((Aa 3), .inl (tc 0, 6, .inl (Af 3))), ((Aa 4), .inl (tc 0, 6, .inl (Af 4))), ((Aa 5), .inl (tc 0, 6, .inl (Af 5))), ((Aa 6), .inl (tc 0, 6, .inl (Af 6))), ((Aa 7), .inl (tc 0, 6, .inl (Af 7))), ((Aa 8), .inl (tc 0, 6, .inl (Af 8))), (sv_15, .inr (9, [.int (Av 0), .int (Av 1), .int (Av 2), .int (Av 3), .int (Av 4), .int (Av 5), .ref sv_16, .ref sv_17, .ref sv_18, .ref sv_19, .ref sv_20, .ref sv_21, .ref sv_22, .ref sv_23])), (sv_16, .inl (tc 0, 10, .inl sv_26)), (sv_17, .inl (tc 0, 10, .inl sv_27)), (sv_18, .inl (tc 0, 6, .inl sv_28)), (sv_19, .inl (tc 0, 6, .inl sv_29)), (sv_20, .inl (tc 0, 6, .inl sv_30)), (sv_21, .inl (tc 0, 6, .inl sv_31)), (sv_22, .inl (tc 0, 6, .inl sv_32)), (sv_23, .inl (tc 0, 6, .inl sv_33)), ((Ga 0), .inr (11, [.ref (Ga 1), .ref (Ga 2), .ref (Ga 3), .ref (La 0), .int (Gv 0), .ref (Sa 0), .ref (Aa 0), .ref (Pa 0), .ref (Ga 8), .ref (Ga 9), .ref (Ga 10), .ref (Ga 11)])), ((Sa 0), .inr (8, [.ref (Aa 0), .ref (Sa 2), .ref (Sa 3), .int (Sv 0), .int (Sv 1)])), ((La 0), .inl (tc 4, 6, .inr (.inr (.inr (.inr (Lq 0))))))] := hD
        have ha_58 : Rn ≤ 400 := by
          have z_1 : ¬ (r_4 : Int32).toInt = (0 : Int32).toInt := fun z => c_6 (Int32.toInt_inj.mp z)
          have z_2 := Int32.lt_iff_toInt_lt.mp c_9
          have y_0 : (0 : Int32).toInt = 0 := by decide
          have y_999 : (999 : Int32).toInt = 999 := by decide
          omega
        refine cV (a := (Aa 0)) (As := [.ref (Ra 0)]) (rest := []) (wr := [((Pa 0), .inr (5, [.ref (Pa 1), .int sv_24, .int sv_25])), ((Pa 1), .inl (tc 5, 20, .inr (.inr (.inr (.inr (va_up (Pq 1) ((Pv 0) : Int32).toNatClampNeg (some sv_15))))))), (sv_15, .inr (9, [.int (Av 0), .int (Av 1), .int (Av 2), .int (Av 3), .int (Av 4), .int (Av 5), .ref sv_16, .ref sv_17, .ref sv_18, .ref sv_19, .ref sv_20, .ref sv_21, .ref sv_22, .ref sv_23])), (sv_16, .inl (tc 0, 10, .inl sv_26)), (sv_17, .inl (tc 0, 10, .inl sv_27)), (sv_18, .inl (tc 0, 6, .inl sv_28)), (sv_19, .inl (tc 0, 6, .inl sv_29)), (sv_20, .inl (tc 0, 6, .inl sv_30)), (sv_21, .inl (tc 0, 6, .inl sv_31)), (sv_22, .inl (tc 0, 6, .inl sv_32)), (sv_23, .inl (tc 0, 6, .inl sv_33)), ((Ga 0), .inr (11, [.ref (Ga 1), .ref (Ga 2), .ref (Ga 3), .ref (La 0), .int (Gv 0), .ref (Sa 0), .ref (Aa 0), .ref (Pa 0), .ref (Ga 8), .ref (Ga 9), .ref (Ga 10), .ref (Ga 11)])), ((Sa 0), .inr (8, [.ref (Aa 0), .ref (Sa 2), .ref (Sa 3), .int (Sv 0), .int (Sv 1)])), ((La 0), .inl (tc 4, 6, .inr (.inr (.inr (.inr (Lq 0))))))]) ⟨hx, hb, hml, hown, hts⟩ hK hX hA (ct_X9_goThroughDay_r l D tc sk Aa Av Af Ra Rf Rg Rn ha_58) k_739 k_736 k_737 k_738 k_98 pl_X9_goThroughDay ⟨Nat.le_of_ble_eq_true rfl, Nat.le_of_ble_eq_true rfl⟩ rfl rfl (va_recv hK hP (ci := 9) (q0 := 5) rfl rfl) hP hD hS [5, 6, 7, 8, 9, 10, 11, 12, 13, 0, 1, 2] [3, 4, 14, 15, 16, 17, 18, 19, 20, 21, 22, 23, 24, 25] rfl rfl rfl rfl rfl (by decide) rfl hl.1 rfl (Nat.le_of_ble_eq_true rfl) dX11_day_44 ⟨Nat.le_of_ble_eq_true rfl, Nat.le_of_ble_eq_true rfl⟩ (fun v_59 u_60 H locs hv_61 hP hD hS => ?_)
        obtain ⟨sv_62, sv_63, sv_64, sv_65, sv_66, sv_67, sv_68, sv_69⟩ := u_60
        obtain ⟨r_70, rfl, he_71⟩ := hv_61
        have he_71 : (True) := he_71
        refine W.eq (g2 := F0 m 47 ls [.int r_70]) rfl ?_
        have hP : va_P D classes [((Pa 0), .inr (5, [.ref (Pa 1), .int sv_24, .int sv_25])), ((Pa 1), .inl (tc 5, 20, .inr (.inr (.inr (.inr (va_up (Pq 1) ((Pv 0) : Int32).toNatClampNeg (some sv_15))))))), (sv_15, .inr (9, [.int (Av 0), .int (Av 1), .int (Av 2), .int (Av 3), .int (Av 4), .int (Av 5), .ref sv_16, .ref sv_17, .ref sv_18, .ref sv_19, .ref sv_20, .ref sv_21, .ref sv_22, .ref sv_23])), (sv_16, .inl (tc 0, 10, .inl sv_26)), (sv_17, .inl (tc 0, 10, .inl sv_27)), (sv_18, .inl (tc 0, 6, .inl sv_28)), (sv_19, .inl (tc 0, 6, .inl sv_29)), (sv_20, .inl (tc 0, 6, .inl sv_30)), (sv_21, .inl (tc 0, 6, .inl sv_31)), (sv_22, .inl (tc 0, 6, .inl sv_32)), (sv_23, .inl (tc 0, 6, .inl sv_33)), ((Ga 0), .inr (11, [.ref (Ga 1), .ref (Ga 2), .ref (Ga 3), .ref (La 0), .int (Gv 0), .ref (Sa 0), .ref (Aa 0), .ref (Pa 0), .ref (Ga 8), .ref (Ga 9), .ref (Ga 10), .ref (Ga 11)])), ((Sa 0), .inr (8, [.ref (Aa 0), .ref (Sa 2), .ref (Sa 3), .int (Sv 0), .int (Sv 1)])), ((La 0), .inl (tc 4, 6, .inr (.inr (.inr (.inr (Lq 0)))))), ((Aa 0), .inr (9, [.int sv_62, .int (Av 1), .int (Av 2), .int (Av 3), .int sv_63, .int sv_64, .ref (Aa 1), .ref (Aa 2), .ref (Aa 3), .ref (Aa 4), .ref (Aa 5), .ref (Aa 6), .ref (Aa 7), .ref (Aa 8)])), ((Aa 1), .inl (tc 0, 10, .inl (Af 1))), ((Aa 2), .inl (tc 0, 10, .inl (Af 2))), ((Aa 3), .inl (tc 0, 6, .inl sv_65)), ((Aa 4), .inl (tc 0, 6, .inl (Af 4))), ((Aa 5), .inl (tc 0, 6, .inl (Af 5))), ((Aa 6), .inl (tc 0, 6, .inl sv_66)), ((Aa 7), .inl (tc 0, 6, .inl sv_67)), ((Aa 8), .inl (tc 0, 6, .inl sv_68)), ((Ra 0), .inr (6, [.ref (Ra 1), .ref (Ra 2)])), ((Ra 1), .inl (tc 0, Rn, .inl (Rf 1))), ((Ra 2), .inl (tc 1, 64, .inr (.inl sv_69)))] H := hP
        have hD : va_D A [((Pa 0), .inr (5, [.ref (Pa 1), .int sv_24, .int sv_25])), ((Pa 1), .inl (tc 5, 20, .inr (.inr (.inr (.inr (va_up (Pq 1) ((Pv 0) : Int32).toNatClampNeg (some sv_15))))))), (sv_15, .inr (9, [.int (Av 0), .int (Av 1), .int (Av 2), .int (Av 3), .int (Av 4), .int (Av 5), .ref sv_16, .ref sv_17, .ref sv_18, .ref sv_19, .ref sv_20, .ref sv_21, .ref sv_22, .ref sv_23])), (sv_16, .inl (tc 0, 10, .inl sv_26)), (sv_17, .inl (tc 0, 10, .inl sv_27)), (sv_18, .inl (tc 0, 6, .inl sv_28)), (sv_19, .inl (tc 0, 6, .inl sv_29)), (sv_20, .inl (tc 0, 6, .inl sv_30)), (sv_21, .inl (tc 0, 6, .inl sv_31)), (sv_22, .inl (tc 0, 6, .inl sv_32)), (sv_23, .inl (tc 0, 6, .inl sv_33)), ((Ga 0), .inr (11, [.ref (Ga 1), .ref (Ga 2), .ref (Ga 3), .ref (La 0), .int (Gv 0), .ref (Sa 0), .ref (Aa 0), .ref (Pa 0), .ref (Ga 8), .ref (Ga 9), .ref (Ga 10), .ref (Ga 11)])), ((Sa 0), .inr (8, [.ref (Aa 0), .ref (Sa 2), .ref (Sa 3), .int (Sv 0), .int (Sv 1)])), ((La 0), .inl (tc 4, 6, .inr (.inr (.inr (.inr (Lq 0)))))), ((Aa 0), .inr (9, [.int sv_62, .int (Av 1), .int (Av 2), .int (Av 3), .int sv_63, .int sv_64, .ref (Aa 1), .ref (Aa 2), .ref (Aa 3), .ref (Aa 4), .ref (Aa 5), .ref (Aa 6), .ref (Aa 7), .ref (Aa 8)])), ((Aa 1), .inl (tc 0, 10, .inl (Af 1))), ((Aa 2), .inl (tc 0, 10, .inl (Af 2))), ((Aa 3), .inl (tc 0, 6, .inl sv_65)), ((Aa 4), .inl (tc 0, 6, .inl (Af 4))), ((Aa 5), .inl (tc 0, 6, .inl (Af 5))), ((Aa 6), .inl (tc 0, 6, .inl sv_66)), ((Aa 7), .inl (tc 0, 6, .inl sv_67)), ((Aa 8), .inl (tc 0, 6, .inl sv_68)), ((Ra 0), .inr (6, [.ref (Ra 1), .ref (Ra 2)])), ((Ra 1), .inl (tc 0, Rn, .inl (Rf 1))), ((Ra 2), .inl (tc 1, 64, .inr (.inl sv_69)))] := hD
        have ha_72 : 0 ≤ (sv_24 : Int32).toInt ∧ (sv_24 : Int32).toInt < 20 := by
          have z_1 : ¬ (r_4 : Int32).toInt = (0 : Int32).toInt := fun z => c_6 (Int32.toInt_inj.mp z)
          have z_2 := Int32.lt_iff_toInt_lt.mp c_9
          have y_0 : (0 : Int32).toInt = 0 := by decide
          have y_999 : (999 : Int32).toInt = 999 := by decide
          omega
        have ha_73 : 0 ≤ ((Av 3) : Int32).toInt ∧ ((Av 3) : Int32).toInt ≤ 6 := by
          have z_1 : ¬ (r_4 : Int32).toInt = (0 : Int32).toInt := fun z => c_6 (Int32.toInt_inj.mp z)
          have z_2 := Int32.lt_iff_toInt_lt.mp c_9
          have y_0 : (0 : Int32).toInt = 0 := by decide
          have y_999 : (999 : Int32).toInt = 999 := by decide
          omega
        have ha_74 : 0 ≤ ((Av 3) : Int32).toInt ∧ ((Av 3) : Int32).toInt ≤ 6 := by
          have z_1 : ¬ (r_4 : Int32).toInt = (0 : Int32).toInt := fun z => c_6 (Int32.toInt_inj.mp z)
          have z_2 := Int32.lt_iff_toInt_lt.mp c_9
          have y_0 : (0 : Int32).toInt = 0 := by decide
          have y_999 : (999 : Int32).toInt = 999 := by decide
          omega
        exact retI (v := r_70) hx hb hr hlk (rfl) hP hD hS (true, sv_15, sv_16, sv_17, sv_18, sv_19, sv_20, sv_21, sv_22, sv_23, sv_62, sv_63, sv_64, sv_65, sv_66, sv_67, sv_68, sv_24, sv_25, sv_69, sv_26, sv_27, sv_28, sv_29, sv_30, sv_31, sv_32, sv_33, 0, 0, 0, (fun _ => 0), (fun _ => 0), (fun _ => 0), (fun _ => 0), (fun _ => 0)) ⟨_, rfl, trivial, ha_72, ha_73, ha_74⟩ [11, 12, 14, 15, 16, 17, 18, 19, 20, 21, 22, 0, 1, 13, 23, 24, 25, 2, 3, 4, 5, 6, 7, 8, 9, 10] rfl rfl dX11_day_47 (Nat.le_of_ble_eq_true rfl) (Nat.le_of_ble_eq_true rfl) rfl
    · skip
      refine lv_iconst (v := (-1)) hx hb dX11_day_23 (by decide) ?_
      have ha_75 : 0 ≤ ((Pv 0) : Int32).toInt ∧ ((Pv 0) : Int32).toInt < 20 := by
        have z_1 : ¬ (r_4 : Int32).toInt = (0 : Int32).toInt := fun z => c_6 (Int32.toInt_inj.mp z)
        have z_2 := Int32.le_iff_toInt_le.mp (Int32.not_lt.mp c_9)
        have y_0 : (0 : Int32).toInt = 0 := by decide
        have y_999 : (999 : Int32).toInt = 999 := by decide
        omega
      have ha_76 : 0 ≤ ((Av 3) : Int32).toInt ∧ ((Av 3) : Int32).toInt ≤ 6 := by
        have z_1 : ¬ (r_4 : Int32).toInt = (0 : Int32).toInt := fun z => c_6 (Int32.toInt_inj.mp z)
        have z_2 := Int32.le_iff_toInt_le.mp (Int32.not_lt.mp c_9)
        have y_0 : (0 : Int32).toInt = 0 := by decide
        have y_999 : (999 : Int32).toInt = 999 := by decide
        omega
      exact retI (v := (-1)) hx hb hr hlk (rfl) hP hD hS (false, 0, 0, 0, 0, 0, 0, 0, 0, 0, 0, 0, 0, (fun _ => 0), (fun _ => 0), (fun _ => 0), (fun _ => 0), 0, 0, (fun _ => 0), (fun _ => 0), (fun _ => 0), (fun _ => 0), (fun _ => 0), (fun _ => 0), (fun _ => 0), (fun _ => 0), (fun _ => 0), (Av 0), (Av 4), (Av 5), (Af 3), (Af 6), (Af 7), (Af 8), (Rg 2)) ⟨_, rfl, trivial, ha_75, ha_76⟩ [0, 1, 8, 9, 10, 11, 12, 13, 14, 15, 16, 2, 3, 4, 5, 6, 7] rfl rfl dX11_day_24 (Nat.le_of_ble_eq_true rfl) (Nat.le_of_ble_eq_true rfl) rfl
set_option maxHeartbeats 4000000 in
set_option maxRecDepth 100000 in
theorem ct_X11_sell_s (l : Launch) (D : va_G) (tc : Nat → ClassId) (sk : (Nat → Nat) × (Nat → Nat)) (Ga : Nat → Nat) (Gv : Nat → Int32) (Aa : Nat → Nat) (Av : Nat → Int32) (Af : Nat → Nat → Int32) (Pa : Nat → Nat) (Pv : Nat → Int32) (Pq : Nat → Nat → Option Nat) (Ea : Nat → Nat) (Ev : Nat → Int32) (Ef : Nat → Nat → Int32) (x1 : Int32) (h_nx : 0 ≤ ((Pv 0) : Int32).toInt ∧ ((Pv 0) : Int32).toInt < 20) (h_q : (Pq 1) (Pv 0).toNatClampNeg = some (Ea 0)) (h_bA : 0 ≤ ((Av 3) : Int32).toInt ∧ ((Av 3) : Int32).toInt ≤ 6) (h_bE : 0 ≤ ((Ev 3) : Int32).toInt ∧ ((Ev 3) : Int32).toInt ≤ 6) : Ct l yX11_sell cX11_sell 2 (some .int) { frames := 3, cells := 0, slots := 0, locals := 83 } D tc sk [.ref (Ga 0), .int x1] [((Ga 0), .inr (11, [.ref (Ga 1), .ref (Ga 2), .ref (Ga 3), .ref (Ga 4), .int (Gv 0), .ref (Ga 5), .ref (Aa 0), .ref (Pa 0), .ref (Ga 8), .ref (Ga 9), .ref (Ga 10), .ref (Ga 11)])), ((Aa 0), .inr (9, [.int (Av 0), .int (Av 1), .int (Av 2), .int (Av 3), .int (Av 4), .int (Av 5), .ref (Aa 1), .ref (Aa 2), .ref (Aa 3), .ref (Aa 4), .ref (Aa 5), .ref (Aa 6), .ref (Aa 7), .ref (Aa 8)])), ((Aa 1), .inl (tc 0, 10, .inl (Af 1))), ((Aa 2), .inl (tc 0, 10, .inl (Af 2))), ((Aa 3), .inl (tc 0, 6, .inl (Af 3))), ((Aa 4), .inl (tc 0, 6, .inl (Af 4))), ((Aa 5), .inl (tc 0, 6, .inl (Af 5))), ((Aa 6), .inl (tc 0, 6, .inl (Af 6))), ((Aa 7), .inl (tc 0, 6, .inl (Af 7))), ((Aa 8), .inl (tc 0, 6, .inl (Af 8))), ((Pa 0), .inr (5, [.ref (Pa 1), .int (Pv 0), .int (Pv 1)])), ((Pa 1), .inl (tc 5, 20, .inr (.inr (.inr (.inr (Pq 1)))))), ((Ea 0), .inr (9, [.int (Ev 0), .int (Ev 1), .int (Ev 2), .int (Ev 3), .int (Ev 4), .int (Ev 5), .ref (Ea 1), .ref (Ea 2), .ref (Ea 3), .ref (Ea 4), .ref (Ea 5), .ref (Ea 6), .ref (Ea 7), .ref (Ea 8)])), ((Ea 1), .inl (tc 0, 10, .inl (Ef 1))), ((Ea 2), .inl (tc 0, 10, .inl (Ef 2))), ((Ea 3), .inl (tc 0, 6, .inl (Ef 3))), ((Ea 4), .inl (tc 0, 6, .inl (Ef 4))), ((Ea 5), .inl (tc 0, 6, .inl (Ef 5))), ((Ea 6), .inl (tc 0, 6, .inl (Ef 6))), ((Ea 7), .inl (tc 0, 6, .inl (Ef 7))), ((Ea 8), .inl (tc 0, 6, .inl (Ef 8)))] (fun (v : Option Value) (u : (Int32) × (Int32) × (Nat → Int32) × (Nat → Int32) × (Nat → Int32) × (Int32) × (Int32) × (Int32) × (Int32) × (Int32) × (Int32) × (Int32) × (Int32) × (Nat → Int32) × (Nat → Int32) × (Nat → Int32) × (Nat → Int32) × (Nat → Int32) × (Nat → Int32) × (Nat → Int32) × (Nat → Int32)) => match u with | (oo0x1, oo0x2, oo0x3, oo0x4, oo0x5, oo0x6, oo0x7, oo0x8, oo0x9, oo0x10, oo0x11, oo0x12, oo0x13, oo0x14, oo0x15, oo0x16, oo0x17, oo0x18, oo0x19, oo0x20, oo0x21) => ∃ r : Int32, v = some (.int r) ∧ (True) ∧ (0 ≤ (oo0x6 : Int32).toInt ∧ (oo0x6 : Int32).toInt < 20) ∧ (0 ≤ ((Av 3) : Int32).toInt ∧ ((Av 3) : Int32).toInt ≤ 6) ∧ (0 ≤ (oo0x11 : Int32).toInt ∧ (oo0x11 : Int32).toInt ≤ 6)) (fun (u : (Int32) × (Int32) × (Nat → Int32) × (Nat → Int32) × (Nat → Int32) × (Int32) × (Int32) × (Int32) × (Int32) × (Int32) × (Int32) × (Int32) × (Int32) × (Nat → Int32) × (Nat → Int32) × (Nat → Int32) × (Nat → Int32) × (Nat → Int32) × (Nat → Int32) × (Nat → Int32) × (Nat → Int32)) => match u with | (oo0x1, oo0x2, oo0x3, oo0x4, oo0x5, oo0x6, oo0x7, oo0x8, oo0x9, oo0x10, oo0x11, oo0x12, oo0x13, oo0x14, oo0x15, oo0x16, oo0x17, oo0x18, oo0x19, oo0x20, oo0x21) => [((Ga 0), .inr (11, [.ref (Ga 1), .ref (Ga 2), .ref (Ga 3), .ref (Ga 4), .int (Gv 0), .ref (Ga 5), .ref (Aa 0), .ref (Pa 0), .ref (Ga 8), .ref (Ga 9), .ref (Ga 10), .ref (Ga 11)])), ((Aa 0), .inr (9, [.int oo0x1, .int (Av 1), .int (Av 2), .int (Av 3), .int (Av 4), .int oo0x2, .ref (Aa 1), .ref (Aa 2), .ref (Aa 3), .ref (Aa 4), .ref (Aa 5), .ref (Aa 6), .ref (Aa 7), .ref (Aa 8)])), ((Aa 1), .inl (tc 0, 10, .inl (Af 1))), ((Aa 2), .inl (tc 0, 10, .inl (Af 2))), ((Aa 3), .inl (tc 0, 6, .inl oo0x3)), ((Aa 4), .inl (tc 0, 6, .inl (Af 4))), ((Aa 5), .inl (tc 0, 6, .inl (Af 5))), ((Aa 6), .inl (tc 0, 6, .inl oo0x4)), ((Aa 7), .inl (tc 0, 6, .inl (Af 7))), ((Aa 8), .inl (tc 0, 6, .inl oo0x5)), ((Pa 0), .inr (5, [.ref (Pa 1), .int oo0x6, .int oo0x7])), ((Pa 1), .inl (tc 5, 20, .inr (.inr (.inr (.inr (Pq 1)))))), ((Ea 0), .inr (9, [.int oo0x8, .int oo0x9, .int oo0x10, .int oo0x11, .int oo0x12, .int oo0x13, .ref (Ea 1), .ref (Ea 2), .ref (Ea 3), .ref (Ea 4), .ref (Ea 5), .ref (Ea 6), .ref (Ea 7), .ref (Ea 8)])), ((Ea 1), .inl (tc 0, 10, .inl oo0x14)), ((Ea 2), .inl (tc 0, 10, .inl oo0x15)), ((Ea 3), .inl (tc 0, 6, .inl oo0x16)), ((Ea 4), .inl (tc 0, 6, .inl oo0x17)), ((Ea 5), .inl (tc 0, 6, .inl oo0x18)), ((Ea 6), .inl (tc 0, 6, .inl oo0x19)), ((Ea 7), .inl (tc 0, 6, .inl oo0x20)), ((Ea 8), .inl (tc 0, 6, .inl oo0x21))]) 0 0 := by
  refine Ct.start (by decide) (Nat.le_of_ble_eq_true rfl) (fun p e s m below meth c A ls hx hb hr hlk hin hml hown hts hK hX hP hD hA hl hS => ?_)
  have hl : lv_has ls 2 [(0, .ref (Ga 0)), (1, .int x1)] := hl
  refine lv_aload_n hx hb dX11_sell_0 rfl (lv_at hl 0 rfl) ?_
  refine gf_X11_51 hx hb hts hown hK hP 0 rfl rfl dX11_sell_1 ?_
  refine lv_iload_n hx hb dX11_sell_4 rfl (lv_at hl 1 rfl) ?_
  refine cV (a := (Aa 0)) (As := [.int x1]) (rest := []) (wr := [((Ga 0), .inr (11, [.ref (Ga 1), .ref (Ga 2), .ref (Ga 3), .ref (Ga 4), .int (Gv 0), .ref (Ga 5), .ref (Aa 0), .ref (Pa 0), .ref (Ga 8), .ref (Ga 9), .ref (Ga 10), .ref (Ga 11)])), ((Pa 0), .inr (5, [.ref (Pa 1), .int (Pv 0), .int (Pv 1)])), ((Pa 1), .inl (tc 5, 20, .inr (.inr (.inr (.inr (Pq 1)))))), ((Ea 0), .inr (9, [.int (Ev 0), .int (Ev 1), .int (Ev 2), .int (Ev 3), .int (Ev 4), .int (Ev 5), .ref (Ea 1), .ref (Ea 2), .ref (Ea 3), .ref (Ea 4), .ref (Ea 5), .ref (Ea 6), .ref (Ea 7), .ref (Ea 8)])), ((Ea 1), .inl (tc 0, 10, .inl (Ef 1))), ((Ea 2), .inl (tc 0, 10, .inl (Ef 2))), ((Ea 3), .inl (tc 0, 6, .inl (Ef 3))), ((Ea 4), .inl (tc 0, 6, .inl (Ef 4))), ((Ea 5), .inl (tc 0, 6, .inl (Ef 5))), ((Ea 6), .inl (tc 0, 6, .inl (Ef 6))), ((Ea 7), .inl (tc 0, 6, .inl (Ef 7))), ((Ea 8), .inl (tc 0, 6, .inl (Ef 8)))]) ⟨hx, hb, hml, hown, hts⟩ hK hX hA (ct_X9_hasBuyer l D tc sk Aa Av Af x1) k_591 k_702 k_589 k_590 k_98 pl_X9_hasBuyer ⟨Nat.le_of_ble_eq_true rfl, Nat.le_of_ble_eq_true rfl⟩ rfl rfl (va_recv hK hP (ci := 9) (q0 := 1) rfl rfl) hP hD hS [1, 2, 3, 4, 5, 6, 7, 8, 9] [0, 10, 11, 12, 13, 14, 15, 16, 17, 18, 19, 20] rfl rfl rfl rfl rfl (by decide) rfl hl.1 rfl (Nat.le_of_ble_eq_true rfl) dX11_sell_5 ⟨Nat.le_of_ble_eq_true rfl, Nat.le_of_ble_eq_true rfl⟩ (fun v_1 u_2 H locs hv_3 hP hD hS => ?_)
  obtain ⟨r_4, rfl, he_5⟩ := hv_3
  have he_5 : ((r_4.toInt = 0 ∨ (r_4.toInt = 1 ∧ 0 ≤ x1.toInt ∧ x1.toInt < 6 ∧ x1.toInt < (Av 3).toInt))) := he_5
  refine W.eq (g2 := F0 m 8 ls [.int r_4]) rfl ?_
  have hP : va_P D classes [((Ga 0), .inr (11, [.ref (Ga 1), .ref (Ga 2), .ref (Ga 3), .ref (Ga 4), .int (Gv 0), .ref (Ga 5), .ref (Aa 0), .ref (Pa 0), .ref (Ga 8), .ref (Ga 9), .ref (Ga 10), .ref (Ga 11)])), ((Pa 0), .inr (5, [.ref (Pa 1), .int (Pv 0), .int (Pv 1)])), ((Pa 1), .inl (tc 5, 20, .inr (.inr (.inr (.inr (Pq 1)))))), ((Ea 0), .inr (9, [.int (Ev 0), .int (Ev 1), .int (Ev 2), .int (Ev 3), .int (Ev 4), .int (Ev 5), .ref (Ea 1), .ref (Ea 2), .ref (Ea 3), .ref (Ea 4), .ref (Ea 5), .ref (Ea 6), .ref (Ea 7), .ref (Ea 8)])), ((Ea 1), .inl (tc 0, 10, .inl (Ef 1))), ((Ea 2), .inl (tc 0, 10, .inl (Ef 2))), ((Ea 3), .inl (tc 0, 6, .inl (Ef 3))), ((Ea 4), .inl (tc 0, 6, .inl (Ef 4))), ((Ea 5), .inl (tc 0, 6, .inl (Ef 5))), ((Ea 6), .inl (tc 0, 6, .inl (Ef 6))), ((Ea 7), .inl (tc 0, 6, .inl (Ef 7))), ((Ea 8), .inl (tc 0, 6, .inl (Ef 8))), ((Aa 0), .inr (9, [.int (Av 0), .int (Av 1), .int (Av 2), .int (Av 3), .int (Av 4), .int (Av 5), .ref (Aa 1), .ref (Aa 2), .ref (Aa 3), .ref (Aa 4), .ref (Aa 5), .ref (Aa 6), .ref (Aa 7), .ref (Aa 8)])), ((Aa 1), .inl (tc 0, 10, .inl (Af 1))), ((Aa 2), .inl (tc 0, 10, .inl (Af 2))), ((Aa 3), .inl (tc 0, 6, .inl (Af 3))), ((Aa 4), .inl (tc 0, 6, .inl (Af 4))), ((Aa 5), .inl (tc 0, 6, .inl (Af 5))), ((Aa 6), .inl (tc 0, 6, .inl (Af 6))), ((Aa 7), .inl (tc 0, 6, .inl (Af 7))), ((Aa 8), .inl (tc 0, 6, .inl (Af 8)))] H := hP
  have hD : va_D A [((Ga 0), .inr (11, [.ref (Ga 1), .ref (Ga 2), .ref (Ga 3), .ref (Ga 4), .int (Gv 0), .ref (Ga 5), .ref (Aa 0), .ref (Pa 0), .ref (Ga 8), .ref (Ga 9), .ref (Ga 10), .ref (Ga 11)])), ((Pa 0), .inr (5, [.ref (Pa 1), .int (Pv 0), .int (Pv 1)])), ((Pa 1), .inl (tc 5, 20, .inr (.inr (.inr (.inr (Pq 1)))))), ((Ea 0), .inr (9, [.int (Ev 0), .int (Ev 1), .int (Ev 2), .int (Ev 3), .int (Ev 4), .int (Ev 5), .ref (Ea 1), .ref (Ea 2), .ref (Ea 3), .ref (Ea 4), .ref (Ea 5), .ref (Ea 6), .ref (Ea 7), .ref (Ea 8)])), ((Ea 1), .inl (tc 0, 10, .inl (Ef 1))), ((Ea 2), .inl (tc 0, 10, .inl (Ef 2))), ((Ea 3), .inl (tc 0, 6, .inl (Ef 3))), ((Ea 4), .inl (tc 0, 6, .inl (Ef 4))), ((Ea 5), .inl (tc 0, 6, .inl (Ef 5))), ((Ea 6), .inl (tc 0, 6, .inl (Ef 6))), ((Ea 7), .inl (tc 0, 6, .inl (Ef 7))), ((Ea 8), .inl (tc 0, 6, .inl (Ef 8))), ((Aa 0), .inr (9, [.int (Av 0), .int (Av 1), .int (Av 2), .int (Av 3), .int (Av 4), .int (Av 5), .ref (Aa 1), .ref (Aa 2), .ref (Aa 3), .ref (Aa 4), .ref (Aa 5), .ref (Aa 6), .ref (Aa 7), .ref (Aa 8)])), ((Aa 1), .inl (tc 0, 10, .inl (Af 1))), ((Aa 2), .inl (tc 0, 10, .inl (Af 2))), ((Aa 3), .inl (tc 0, 6, .inl (Af 3))), ((Aa 4), .inl (tc 0, 6, .inl (Af 4))), ((Aa 5), .inl (tc 0, 6, .inl (Af 5))), ((Aa 6), .inl (tc 0, 6, .inl (Af 6))), ((Aa 7), .inl (tc 0, 6, .inl (Af 7))), ((Aa 8), .inl (tc 0, 6, .inl (Af 8)))] := hD
  refine lv_if_eq (tgt := 30) hx hb dX11_sell_8 (by decide) (fun c_6 => ?_) (fun c_6 => ?_)
  · skip
    refine lv_iconst (v := (-1)) hx hb dX11_sell_30 (by decide) ?_
    have ha_7 : 0 ≤ ((Pv 0) : Int32).toInt ∧ ((Pv 0) : Int32).toInt < 20 := by
      have z_1 := congrArg Int32.toInt c_6
      have y_0 : (0 : Int32).toInt = 0 := by decide
      omega
    have ha_8 : 0 ≤ ((Av 3) : Int32).toInt ∧ ((Av 3) : Int32).toInt ≤ 6 := by
      have z_1 := congrArg Int32.toInt c_6
      have y_0 : (0 : Int32).toInt = 0 := by decide
      omega
    have ha_9 : 0 ≤ ((Ev 3) : Int32).toInt ∧ ((Ev 3) : Int32).toInt ≤ 6 := by
      have z_1 := congrArg Int32.toInt c_6
      have y_0 : (0 : Int32).toInt = 0 := by decide
      omega
    exact retI (v := (-1)) hx hb hr hlk (rfl) hP hD hS ((Av 0), (Av 5), (Af 3), (Af 6), (Af 8), (Pv 0), (Pv 1), (Ev 0), (Ev 1), (Ev 2), (Ev 3), (Ev 4), (Ev 5), (Ef 1), (Ef 2), (Ef 3), (Ef 4), (Ef 5), (Ef 6), (Ef 7), (Ef 8)) ⟨_, rfl, trivial, ha_7, ha_8, ha_9⟩ [0, 12, 13, 14, 15, 16, 17, 18, 19, 20, 1, 2, 3, 4, 5, 6, 7, 8, 9, 10, 11] rfl rfl dX11_sell_31 (Nat.le_of_ble_eq_true rfl) (Nat.le_of_ble_eq_true rfl) rfl
  · skip
    refine lv_aload_n hx hb dX11_sell_11 rfl (lv_at hl 0 rfl) ?_
    refine gf_X11_51 hx hb hts hown hK hP 0 rfl rfl dX11_sell_12 ?_
    refine gf_X11_193 hx hb hts hown hK hP 12 rfl rfl dX11_sell_15 ?_
    refine lv_aload_n hx hb dX11_sell_18 rfl (lv_at hl 0 rfl) ?_
    refine gf_X11_51 hx hb hts hown hK hP 0 rfl rfl dX11_sell_19 ?_
    refine gf_X11_141 hx hb hts hown hK hP 12 rfl rfl dX11_sell_22 ?_
    refine lv_iload_n hx hb dX11_sell_25 rfl (lv_at hl 1 rfl) ?_
    have hi_10 : vp_in x1 6 := by
      have z_1 : ¬ (r_4 : Int32).toInt = (0 : Int32).toInt := fun z => c_6 (Int32.toInt_inj.mp z)
      have y_0 : (0 : Int32).toInt = 0 := by decide
      refine vp_in_iff.mpr ⟨?_, ?_⟩ <;> omega
    refine va_iald hx hb hK hP 16 0 rfl rfl hi_10 dX11_sell_26 ?_
    refine lv_topi (fun x_11 ex_11 => ?_)
    refine lv_icmp_ge (tgt := 32) hx hb dX11_sell_27 (by decide) (fun c_12 => ?_) (fun c_12 => ?_)
    · skip
      refine lv_aload_n hx hb dX11_sell_32 rfl (lv_at hl 0 rfl) ?_
      refine gf_X11_57 hx hb hts hown hK hP 0 rfl rfl dX11_sell_33 ?_
      refine lv_aload_n hx hb dX11_sell_36 rfl (lv_at hl 0 rfl) ?_
      refine gf_X11_51 hx hb hts hown hK hP 0 rfl rfl dX11_sell_37 ?_
      have ha_13 : 0 ≤ ((Pv 0) : Int32).toInt ∧ ((Pv 0) : Int32).toInt < 20 := by
        have z_1 : ¬ (r_4 : Int32).toInt = (0 : Int32).toInt := fun z => c_6 (Int32.toInt_inj.mp z)
        have z_2 := Int32.le_iff_toInt_le.mp c_12
        have y_0 : (0 : Int32).toInt = 0 := by decide
        omega
      refine cV (a := (Pa 0)) (As := [.ref (Aa 0)]) (rest := []) (wr := [((Ga 0), .inr (11, [.ref (Ga 1), .ref (Ga 2), .ref (Ga 3), .ref (Ga 4), .int (Gv 0), .ref (Ga 5), .ref (Aa 0), .ref (Pa 0), .ref (Ga 8), .ref (Ga 9), .ref (Ga 10), .ref (Ga 11)]))]) ⟨hx, hb, hml, hown, hts⟩ hK hX hA (ct_X5_keep_s l D tc sk Pa Pv Pq Aa Av Af Ea Ev Ef ha_13 h_q) k_728 k_725 k_726 k_727 k_102 pl_X5_keep ⟨Nat.le_of_ble_eq_true rfl, Nat.le_of_ble_eq_true rfl⟩ rfl rfl (va_recv hK hP (ci := 5) (q0 := 1) rfl rfl) hP hD hS [1, 2, 12, 13, 14, 15, 16, 17, 18, 19, 20, 3, 4, 5, 6, 7, 8, 9, 10, 11] [0] rfl rfl rfl rfl rfl (by decide) rfl hl.1 rfl (Nat.le_of_ble_eq_true rfl) dX11_sell_40 ⟨Nat.le_of_ble_eq_true rfl, Nat.le_of_ble_eq_true rfl⟩ (fun v_14 u_15 H locs hv_16 hP hD hS => ?_)
      obtain ⟨sv_17, sv_18, sv_19, sv_20, sv_21, sv_22, sv_23, sv_24, sv_25, sv_26, sv_27, sv_28, sv_29, sv_30, sv_31, sv_32⟩ := u_15
      obtain ⟨rfl, pf_33⟩ := hv_16
      have pf_33 : 0 ≤ (sv_17 : Int32).toInt ∧ (sv_17 : Int32).toInt < 20 := pf_33
      refine W.eq (g2 := F0 m 43 ls []) rfl ?_
      have hP : va_P D classes [((Ga 0), .inr (11, [.ref (Ga 1), .ref (Ga 2), .ref (Ga 3), .ref (Ga 4), .int (Gv 0), .ref (Ga 5), .ref (Aa 0), .ref (Pa 0), .ref (Ga 8), .ref (Ga 9), .ref (Ga 10), .ref (Ga 11)])), ((Pa 0), .inr (5, [.ref (Pa 1), .int sv_17, .int sv_18])), ((Pa 1), .inl (tc 5, 20, .inr (.inr (.inr (.inr (Pq 1)))))), ((Aa 0), .inr (9, [.int (Av 0), .int (Av 1), .int (Av 2), .int (Av 3), .int (Av 4), .int (Av 5), .ref (Aa 1), .ref (Aa 2), .ref (Aa 3), .ref (Aa 4), .ref (Aa 5), .ref (Aa 6), .ref (Aa 7), .ref (Aa 8)])), ((Aa 1), .inl (tc 0, 10, .inl (Af 1))), ((Aa 2), .inl (tc 0, 10, .inl (Af 2))), ((Aa 3), .inl (tc 0, 6, .inl (Af 3))), ((Aa 4), .inl (tc 0, 6, .inl (Af 4))), ((Aa 5), .inl (tc 0, 6, .inl (Af 5))), ((Aa 6), .inl (tc 0, 6, .inl (Af 6))), ((Aa 7), .inl (tc 0, 6, .inl (Af 7))), ((Aa 8), .inl (tc 0, 6, .inl (Af 8))), ((Ea 0), .inr (9, [.int sv_19, .int sv_20, .int sv_21, .int sv_22, .int sv_23, .int sv_24, .ref (Ea 1), .ref (Ea 2), .ref (Ea 3), .ref (Ea 4), .ref (Ea 5), .ref (Ea 6), .ref (Ea 7), .ref (Ea 8)])), ((Ea 1), .inl (tc 0, 10, .inl sv_25)), ((Ea 2), .inl (tc 0, 10, .inl sv_26)), ((Ea 3), .inl (tc 0, 6, .inl sv_27)), ((Ea 4), .inl (tc 0, 6, .inl sv_28)), ((Ea 5), .inl (tc 0, 6, .inl sv_29)), ((Ea 6), .inl (tc 0, 6, .inl sv_30)), ((Ea 7), .inl (tc 0, 6, .inl sv_31)), ((Ea 8), .inl (tc 0, 6, .inl sv_32))] H := hP
      have hD : va_D A [((Ga 0), .inr (11, [.ref (Ga 1), .ref (Ga 2), .ref (Ga 3), .ref (Ga 4), .int (Gv 0), .ref (Ga 5), .ref (Aa 0), .ref (Pa 0), .ref (Ga 8), .ref (Ga 9), .ref (Ga 10), .ref (Ga 11)])), ((Pa 0), .inr (5, [.ref (Pa 1), .int sv_17, .int sv_18])), ((Pa 1), .inl (tc 5, 20, .inr (.inr (.inr (.inr (Pq 1)))))), ((Aa 0), .inr (9, [.int (Av 0), .int (Av 1), .int (Av 2), .int (Av 3), .int (Av 4), .int (Av 5), .ref (Aa 1), .ref (Aa 2), .ref (Aa 3), .ref (Aa 4), .ref (Aa 5), .ref (Aa 6), .ref (Aa 7), .ref (Aa 8)])), ((Aa 1), .inl (tc 0, 10, .inl (Af 1))), ((Aa 2), .inl (tc 0, 10, .inl (Af 2))), ((Aa 3), .inl (tc 0, 6, .inl (Af 3))), ((Aa 4), .inl (tc 0, 6, .inl (Af 4))), ((Aa 5), .inl (tc 0, 6, .inl (Af 5))), ((Aa 6), .inl (tc 0, 6, .inl (Af 6))), ((Aa 7), .inl (tc 0, 6, .inl (Af 7))), ((Aa 8), .inl (tc 0, 6, .inl (Af 8))), ((Ea 0), .inr (9, [.int sv_19, .int sv_20, .int sv_21, .int sv_22, .int sv_23, .int sv_24, .ref (Ea 1), .ref (Ea 2), .ref (Ea 3), .ref (Ea 4), .ref (Ea 5), .ref (Ea 6), .ref (Ea 7), .ref (Ea 8)])), ((Ea 1), .inl (tc 0, 10, .inl sv_25)), ((Ea 2), .inl (tc 0, 10, .inl sv_26)), ((Ea 3), .inl (tc 0, 6, .inl sv_27)), ((Ea 4), .inl (tc 0, 6, .inl sv_28)), ((Ea 5), .inl (tc 0, 6, .inl sv_29)), ((Ea 6), .inl (tc 0, 6, .inl sv_30)), ((Ea 7), .inl (tc 0, 6, .inl sv_31)), ((Ea 8), .inl (tc 0, 6, .inl sv_32))] := hD
      refine lv_aload_n hx hb dX11_sell_43 rfl (lv_at hl 0 rfl) ?_
      refine gf_X11_51 hx hb hts hown hK hP 0 rfl rfl dX11_sell_44 ?_
      refine lv_iload_n hx hb dX11_sell_47 rfl (lv_at hl 1 rfl) ?_
      refine cV (a := (Aa 0)) (As := [.int x1]) (rest := []) (wr := [((Ga 0), .inr (11, [.ref (Ga 1), .ref (Ga 2), .ref (Ga 3), .ref (Ga 4), .int (Gv 0), .ref (Ga 5), .ref (Aa 0), .ref (Pa 0), .ref (Ga 8), .ref (Ga 9), .ref (Ga 10), .ref (Ga 11)])), ((Pa 0), .inr (5, [.ref (Pa 1), .int sv_17, .int sv_18])), ((Pa 1), .inl (tc 5, 20, .inr (.inr (.inr (.inr (Pq 1)))))), ((Ea 0), .inr (9, [.int sv_19, .int sv_20, .int sv_21, .int sv_22, .int sv_23, .int sv_24, .ref (Ea 1), .ref (Ea 2), .ref (Ea 3), .ref (Ea 4), .ref (Ea 5), .ref (Ea 6), .ref (Ea 7), .ref (Ea 8)])), ((Ea 1), .inl (tc 0, 10, .inl sv_25)), ((Ea 2), .inl (tc 0, 10, .inl sv_26)), ((Ea 3), .inl (tc 0, 6, .inl sv_27)), ((Ea 4), .inl (tc 0, 6, .inl sv_28)), ((Ea 5), .inl (tc 0, 6, .inl sv_29)), ((Ea 6), .inl (tc 0, 6, .inl sv_30)), ((Ea 7), .inl (tc 0, 6, .inl sv_31)), ((Ea 8), .inl (tc 0, 6, .inl sv_32))]) ⟨hx, hb, hml, hown, hts⟩ hK hX hA (ct_X9_handOver l D tc sk Aa Av Af x1) k_772 k_785 k_770 k_771 k_98 pl_X9_handOver ⟨Nat.le_of_ble_eq_true rfl, Nat.le_of_ble_eq_true rfl⟩ rfl rfl (va_recv hK hP (ci := 9) (q0 := 3) rfl rfl) hP hD hS [3, 4, 5, 6, 7, 8, 9, 10, 11] [0, 1, 2, 12, 13, 14, 15, 16, 17, 18, 19, 20] rfl rfl rfl rfl rfl (by decide) rfl hl.1 rfl (Nat.le_of_ble_eq_true rfl) dX11_sell_48 ⟨Nat.le_of_ble_eq_true rfl, Nat.le_of_ble_eq_true rfl⟩ (fun v_34 u_35 H locs hv_36 hP hD hS => ?_)
      obtain ⟨sv_37, sv_38, sv_39, sv_40, sv_41⟩ := u_35
      obtain rfl : v_34 = none := hv_36
      refine W.eq (g2 := F0 m 51 ls []) rfl ?_
      have hP : va_P D classes [((Ga 0), .inr (11, [.ref (Ga 1), .ref (Ga 2), .ref (Ga 3), .ref (Ga 4), .int (Gv 0), .ref (Ga 5), .ref (Aa 0), .ref (Pa 0), .ref (Ga 8), .ref (Ga 9), .ref (Ga 10), .ref (Ga 11)])), ((Pa 0), .inr (5, [.ref (Pa 1), .int sv_17, .int sv_18])), ((Pa 1), .inl (tc 5, 20, .inr (.inr (.inr (.inr (Pq 1)))))), ((Ea 0), .inr (9, [.int sv_19, .int sv_20, .int sv_21, .int sv_22, .int sv_23, .int sv_24, .ref (Ea 1), .ref (Ea 2), .ref (Ea 3), .ref (Ea 4), .ref (Ea 5), .ref (Ea 6), .ref (Ea 7), .ref (Ea 8)])), ((Ea 1), .inl (tc 0, 10, .inl sv_25)), ((Ea 2), .inl (tc 0, 10, .inl sv_26)), ((Ea 3), .inl (tc 0, 6, .inl sv_27)), ((Ea 4), .inl (tc 0, 6, .inl sv_28)), ((Ea 5), .inl (tc 0, 6, .inl sv_29)), ((Ea 6), .inl (tc 0, 6, .inl sv_30)), ((Ea 7), .inl (tc 0, 6, .inl sv_31)), ((Ea 8), .inl (tc 0, 6, .inl sv_32)), ((Aa 0), .inr (9, [.int sv_37, .int (Av 1), .int (Av 2), .int (Av 3), .int (Av 4), .int sv_38, .ref (Aa 1), .ref (Aa 2), .ref (Aa 3), .ref (Aa 4), .ref (Aa 5), .ref (Aa 6), .ref (Aa 7), .ref (Aa 8)])), ((Aa 1), .inl (tc 0, 10, .inl (Af 1))), ((Aa 2), .inl (tc 0, 10, .inl (Af 2))), ((Aa 3), .inl (tc 0, 6, .inl sv_39)), ((Aa 4), .inl (tc 0, 6, .inl (Af 4))), ((Aa 5), .inl (tc 0, 6, .inl (Af 5))), ((Aa 6), .inl (tc 0, 6, .inl sv_40)), ((Aa 7), .inl (tc 0, 6, .inl (Af 7))), ((Aa 8), .inl (tc 0, 6, .inl sv_41))] H := hP
      have hD : va_D A [((Ga 0), .inr (11, [.ref (Ga 1), .ref (Ga 2), .ref (Ga 3), .ref (Ga 4), .int (Gv 0), .ref (Ga 5), .ref (Aa 0), .ref (Pa 0), .ref (Ga 8), .ref (Ga 9), .ref (Ga 10), .ref (Ga 11)])), ((Pa 0), .inr (5, [.ref (Pa 1), .int sv_17, .int sv_18])), ((Pa 1), .inl (tc 5, 20, .inr (.inr (.inr (.inr (Pq 1)))))), ((Ea 0), .inr (9, [.int sv_19, .int sv_20, .int sv_21, .int sv_22, .int sv_23, .int sv_24, .ref (Ea 1), .ref (Ea 2), .ref (Ea 3), .ref (Ea 4), .ref (Ea 5), .ref (Ea 6), .ref (Ea 7), .ref (Ea 8)])), ((Ea 1), .inl (tc 0, 10, .inl sv_25)), ((Ea 2), .inl (tc 0, 10, .inl sv_26)), ((Ea 3), .inl (tc 0, 6, .inl sv_27)), ((Ea 4), .inl (tc 0, 6, .inl sv_28)), ((Ea 5), .inl (tc 0, 6, .inl sv_29)), ((Ea 6), .inl (tc 0, 6, .inl sv_30)), ((Ea 7), .inl (tc 0, 6, .inl sv_31)), ((Ea 8), .inl (tc 0, 6, .inl sv_32)), ((Aa 0), .inr (9, [.int sv_37, .int (Av 1), .int (Av 2), .int (Av 3), .int (Av 4), .int sv_38, .ref (Aa 1), .ref (Aa 2), .ref (Aa 3), .ref (Aa 4), .ref (Aa 5), .ref (Aa 6), .ref (Aa 7), .ref (Aa 8)])), ((Aa 1), .inl (tc 0, 10, .inl (Af 1))), ((Aa 2), .inl (tc 0, 10, .inl (Af 2))), ((Aa 3), .inl (tc 0, 6, .inl sv_39)), ((Aa 4), .inl (tc 0, 6, .inl (Af 4))), ((Aa 5), .inl (tc 0, 6, .inl (Af 5))), ((Aa 6), .inl (tc 0, 6, .inl sv_40)), ((Aa 7), .inl (tc 0, 6, .inl (Af 7))), ((Aa 8), .inl (tc 0, 6, .inl sv_41))] := hD
      refine lv_aload_n hx hb dX11_sell_51 rfl (lv_at hl 0 rfl) ?_
      refine gf_X11_51 hx hb hts hown hK hP 0 rfl rfl dX11_sell_52 ?_
      refine gf_X11_193 hx hb hts hown hK hP 12 rfl rfl dX11_sell_55 ?_
      have ha_42 : 0 ≤ (sv_17 : Int32).toInt ∧ (sv_17 : Int32).toInt < 20 := by
        have z_1 : ¬ (r_4 : Int32).toInt = (0 : Int32).toInt := fun z => c_6 (Int32.toInt_inj.mp z)
        have z_2 := Int32.le_iff_toInt_le.mp c_12
        have y_0 : (0 : Int32).toInt = 0 := by decide
        omega
      have ha_43 : 0 ≤ ((Av 3) : Int32).toInt ∧ ((Av 3) : Int32).toInt ≤ 6 := by
        have z_1 : ¬ (r_4 : Int32).toInt = (0 : Int32).toInt := fun z => c_6 (Int32.toInt_inj.mp z)
        have z_2 := Int32.le_iff_toInt_le.mp c_12
        have y_0 : (0 : Int32).toInt = 0 := by decide
        omega
      have ha_44 : 0 ≤ (sv_22 : Int32).toInt ∧ (sv_22 : Int32).toInt ≤ 6 := by
        have z_1 : ¬ (r_4 : Int32).toInt = (0 : Int32).toInt := fun z => c_6 (Int32.toInt_inj.mp z)
        have z_2 := Int32.le_iff_toInt_le.mp c_12
        have y_0 : (0 : Int32).toInt = 0 := by decide
        omega
      exact retI (v := sv_37) hx hb hr hlk (rfl) hP hD hS (sv_37, sv_38, sv_39, sv_40, sv_41, sv_17, sv_18, sv_19, sv_20, sv_21, sv_22, sv_23, sv_24, sv_25, sv_26, sv_27, sv_28, sv_29, sv_30, sv_31, sv_32) ⟨_, rfl, trivial, ha_42, ha_43, ha_44⟩ [0, 12, 13, 14, 15, 16, 17, 18, 19, 20, 1, 2, 3, 4, 5, 6, 7, 8, 9, 10, 11] rfl rfl dX11_sell_58 (Nat.le_of_ble_eq_true rfl) (Nat.le_of_ble_eq_true rfl) rfl
    · skip
      refine lv_iconst (v := (-1)) hx hb dX11_sell_30 (by decide) ?_
      have ha_45 : 0 ≤ ((Pv 0) : Int32).toInt ∧ ((Pv 0) : Int32).toInt < 20 := by
        have z_1 : ¬ (r_4 : Int32).toInt = (0 : Int32).toInt := fun z => c_6 (Int32.toInt_inj.mp z)
        have z_2 := Int32.lt_iff_toInt_lt.mp (Int32.not_le.mp c_12)
        have y_0 : (0 : Int32).toInt = 0 := by decide
        omega
      have ha_46 : 0 ≤ ((Av 3) : Int32).toInt ∧ ((Av 3) : Int32).toInt ≤ 6 := by
        have z_1 : ¬ (r_4 : Int32).toInt = (0 : Int32).toInt := fun z => c_6 (Int32.toInt_inj.mp z)
        have z_2 := Int32.lt_iff_toInt_lt.mp (Int32.not_le.mp c_12)
        have y_0 : (0 : Int32).toInt = 0 := by decide
        omega
      have ha_47 : 0 ≤ ((Ev 3) : Int32).toInt ∧ ((Ev 3) : Int32).toInt ≤ 6 := by
        have z_1 : ¬ (r_4 : Int32).toInt = (0 : Int32).toInt := fun z => c_6 (Int32.toInt_inj.mp z)
        have z_2 := Int32.lt_iff_toInt_lt.mp (Int32.not_le.mp c_12)
        have y_0 : (0 : Int32).toInt = 0 := by decide
        omega
      exact retI (v := (-1)) hx hb hr hlk (rfl) hP hD hS ((Av 0), (Av 5), (Af 3), (Af 6), (Af 8), (Pv 0), (Pv 1), (Ev 0), (Ev 1), (Ev 2), (Ev 3), (Ev 4), (Ev 5), (Ef 1), (Ef 2), (Ef 3), (Ef 4), (Ef 5), (Ef 6), (Ef 7), (Ef 8)) ⟨_, rfl, trivial, ha_45, ha_46, ha_47⟩ [0, 12, 13, 14, 15, 16, 17, 18, 19, 20, 1, 2, 3, 4, 5, 6, 7, 8, 9, 10, 11] rfl rfl dX11_sell_31 (Nat.le_of_ble_eq_true rfl) (Nat.le_of_ble_eq_true rfl) rfl
set_option maxHeartbeats 4000000 in
set_option maxRecDepth 100000 in
theorem ct_X11_calm_s (l : Launch) (D : va_G) (tc : Nat → ClassId) (sk : (Nat → Nat) × (Nat → Nat)) (Ga : Nat → Nat) (Gv : Nat → Int32) (Aa : Nat → Nat) (Av : Nat → Int32) (Af : Nat → Nat → Int32) (Pa : Nat → Nat) (Pv : Nat → Int32) (Pq : Nat → Nat → Option Nat) (Ea : Nat → Nat) (Ev : Nat → Int32) (Ef : Nat → Nat → Int32) (x1 : Int32) (x2 : Int32) (h_nx : 0 ≤ ((Pv 0) : Int32).toInt ∧ ((Pv 0) : Int32).toInt < 20) (h_q : (Pq 1) (Pv 0).toNatClampNeg = some (Ea 0)) (h_bA : 0 ≤ ((Av 3) : Int32).toInt ∧ ((Av 3) : Int32).toInt ≤ 6) (h_bE : 0 ≤ ((Ev 3) : Int32).toInt ∧ ((Ev 3) : Int32).toInt ≤ 6) : Ct l yX11_calm cX11_calm 3 (some .int) { frames := 3, cells := 0, slots := 0, locals := 83 } D tc sk [.ref (Ga 0), .int x1, .int x2] [((Ga 0), .inr (11, [.ref (Ga 1), .ref (Ga 2), .ref (Ga 3), .ref (Ga 4), .int (Gv 0), .ref (Ga 5), .ref (Aa 0), .ref (Pa 0), .ref (Ga 8), .ref (Ga 9), .ref (Ga 10), .ref (Ga 11)])), ((Aa 0), .inr (9, [.int (Av 0), .int (Av 1), .int (Av 2), .int (Av 3), .int (Av 4), .int (Av 5), .ref (Aa 1), .ref (Aa 2), .ref (Aa 3), .ref (Aa 4), .ref (Aa 5), .ref (Aa 6), .ref (Aa 7), .ref (Aa 8)])), ((Aa 1), .inl (tc 0, 10, .inl (Af 1))), ((Aa 2), .inl (tc 0, 10, .inl (Af 2))), ((Aa 3), .inl (tc 0, 6, .inl (Af 3))), ((Aa 4), .inl (tc 0, 6, .inl (Af 4))), ((Aa 5), .inl (tc 0, 6, .inl (Af 5))), ((Aa 6), .inl (tc 0, 6, .inl (Af 6))), ((Aa 7), .inl (tc 0, 6, .inl (Af 7))), ((Aa 8), .inl (tc 0, 6, .inl (Af 8))), ((Pa 0), .inr (5, [.ref (Pa 1), .int (Pv 0), .int (Pv 1)])), ((Pa 1), .inl (tc 5, 20, .inr (.inr (.inr (.inr (Pq 1)))))), ((Ea 0), .inr (9, [.int (Ev 0), .int (Ev 1), .int (Ev 2), .int (Ev 3), .int (Ev 4), .int (Ev 5), .ref (Ea 1), .ref (Ea 2), .ref (Ea 3), .ref (Ea 4), .ref (Ea 5), .ref (Ea 6), .ref (Ea 7), .ref (Ea 8)])), ((Ea 1), .inl (tc 0, 10, .inl (Ef 1))), ((Ea 2), .inl (tc 0, 10, .inl (Ef 2))), ((Ea 3), .inl (tc 0, 6, .inl (Ef 3))), ((Ea 4), .inl (tc 0, 6, .inl (Ef 4))), ((Ea 5), .inl (tc 0, 6, .inl (Ef 5))), ((Ea 6), .inl (tc 0, 6, .inl (Ef 6))), ((Ea 7), .inl (tc 0, 6, .inl (Ef 7))), ((Ea 8), .inl (tc 0, 6, .inl (Ef 8)))] (fun (v : Option Value) (u : (Nat → Int32) × (Int32) × (Int32) × (Int32) × (Int32) × (Int32) × (Int32) × (Int32) × (Int32) × (Nat → Int32) × (Nat → Int32) × (Nat → Int32) × (Nat → Int32) × (Nat → Int32) × (Nat → Int32) × (Nat → Int32) × (Nat → Int32)) => match u with | (oo0x1, oo0x2, oo0x3, oo0x4, oo0x5, oo0x6, oo0x7, oo0x8, oo0x9, oo0x10, oo0x11, oo0x12, oo0x13, oo0x14, oo0x15, oo0x16, oo0x17) => ∃ r : Int32, v = some (.int r) ∧ (True) ∧ (0 ≤ (oo0x2 : Int32).toInt ∧ (oo0x2 : Int32).toInt < 20) ∧ (0 ≤ ((Av 3) : Int32).toInt ∧ ((Av 3) : Int32).toInt ≤ 6) ∧ (0 ≤ (oo0x7 : Int32).toInt ∧ (oo0x7 : Int32).toInt ≤ 6)) (fun (u : (Nat → Int32) × (Int32) × (Int32) × (Int32) × (Int32) × (Int32) × (Int32) × (Int32) × (Int32) × (Nat → Int32) × (Nat → Int32) × (Nat → Int32) × (Nat → Int32) × (Nat → Int32) × (Nat → Int32) × (Nat → Int32) × (Nat → Int32)) => match u with | (oo0x1, oo0x2, oo0x3, oo0x4, oo0x5, oo0x6, oo0x7, oo0x8, oo0x9, oo0x10, oo0x11, oo0x12, oo0x13, oo0x14, oo0x15, oo0x16, oo0x17) => [((Ga 0), .inr (11, [.ref (Ga 1), .ref (Ga 2), .ref (Ga 3), .ref (Ga 4), .int (Gv 0), .ref (Ga 5), .ref (Aa 0), .ref (Pa 0), .ref (Ga 8), .ref (Ga 9), .ref (Ga 10), .ref (Ga 11)])), ((Aa 0), .inr (9, [.int (Av 0), .int (Av 1), .int (Av 2), .int (Av 3), .int (Av 4), .int (Av 5), .ref (Aa 1), .ref (Aa 2), .ref (Aa 3), .ref (Aa 4), .ref (Aa 5), .ref (Aa 6), .ref (Aa 7), .ref (Aa 8)])), ((Aa 1), .inl (tc 0, 10, .inl (Af 1))), ((Aa 2), .inl (tc 0, 10, .inl (Af 2))), ((Aa 3), .inl (tc 0, 6, .inl oo0x1)), ((Aa 4), .inl (tc 0, 6, .inl (Af 4))), ((Aa 5), .inl (tc 0, 6, .inl (Af 5))), ((Aa 6), .inl (tc 0, 6, .inl (Af 6))), ((Aa 7), .inl (tc 0, 6, .inl (Af 7))), ((Aa 8), .inl (tc 0, 6, .inl (Af 8))), ((Pa 0), .inr (5, [.ref (Pa 1), .int oo0x2, .int oo0x3])), ((Pa 1), .inl (tc 5, 20, .inr (.inr (.inr (.inr (Pq 1)))))), ((Ea 0), .inr (9, [.int oo0x4, .int oo0x5, .int oo0x6, .int oo0x7, .int oo0x8, .int oo0x9, .ref (Ea 1), .ref (Ea 2), .ref (Ea 3), .ref (Ea 4), .ref (Ea 5), .ref (Ea 6), .ref (Ea 7), .ref (Ea 8)])), ((Ea 1), .inl (tc 0, 10, .inl oo0x10)), ((Ea 2), .inl (tc 0, 10, .inl oo0x11)), ((Ea 3), .inl (tc 0, 6, .inl oo0x12)), ((Ea 4), .inl (tc 0, 6, .inl oo0x13)), ((Ea 5), .inl (tc 0, 6, .inl oo0x14)), ((Ea 6), .inl (tc 0, 6, .inl oo0x15)), ((Ea 7), .inl (tc 0, 6, .inl oo0x16)), ((Ea 8), .inl (tc 0, 6, .inl oo0x17))]) 0 0 := by
  refine Ct.start (by decide) (Nat.le_of_ble_eq_true rfl) (fun p e s m below meth c A ls hx hb hr hlk hin hml hown hts hK hX hP hD hA hl hS => ?_)
  have hl : lv_has ls 3 [(0, .ref (Ga 0)), (1, .int x1), (2, .int x2)] := hl
  refine lv_aload_n hx hb dX11_calm_0 rfl (lv_at hl 0 rfl) ?_
  refine gf_X11_51 hx hb hts hown hK hP 0 rfl rfl dX11_calm_1 ?_
  refine lv_iload_n hx hb dX11_calm_4 rfl (lv_at hl 1 rfl) ?_
  refine cV (a := (Aa 0)) (As := [.int x1]) (rest := []) (wr := [((Ga 0), .inr (11, [.ref (Ga 1), .ref (Ga 2), .ref (Ga 3), .ref (Ga 4), .int (Gv 0), .ref (Ga 5), .ref (Aa 0), .ref (Pa 0), .ref (Ga 8), .ref (Ga 9), .ref (Ga 10), .ref (Ga 11)])), ((Pa 0), .inr (5, [.ref (Pa 1), .int (Pv 0), .int (Pv 1)])), ((Pa 1), .inl (tc 5, 20, .inr (.inr (.inr (.inr (Pq 1)))))), ((Ea 0), .inr (9, [.int (Ev 0), .int (Ev 1), .int (Ev 2), .int (Ev 3), .int (Ev 4), .int (Ev 5), .ref (Ea 1), .ref (Ea 2), .ref (Ea 3), .ref (Ea 4), .ref (Ea 5), .ref (Ea 6), .ref (Ea 7), .ref (Ea 8)])), ((Ea 1), .inl (tc 0, 10, .inl (Ef 1))), ((Ea 2), .inl (tc 0, 10, .inl (Ef 2))), ((Ea 3), .inl (tc 0, 6, .inl (Ef 3))), ((Ea 4), .inl (tc 0, 6, .inl (Ef 4))), ((Ea 5), .inl (tc 0, 6, .inl (Ef 5))), ((Ea 6), .inl (tc 0, 6, .inl (Ef 6))), ((Ea 7), .inl (tc 0, 6, .inl (Ef 7))), ((Ea 8), .inl (tc 0, 6, .inl (Ef 8)))]) ⟨hx, hb, hml, hown, hts⟩ hK hX hA (ct_X9_hasBuyer l D tc sk Aa Av Af x1) k_591 k_702 k_589 k_590 k_98 pl_X9_hasBuyer ⟨Nat.le_of_ble_eq_true rfl, Nat.le_of_ble_eq_true rfl⟩ rfl rfl (va_recv hK hP (ci := 9) (q0 := 1) rfl rfl) hP hD hS [1, 2, 3, 4, 5, 6, 7, 8, 9] [0, 10, 11, 12, 13, 14, 15, 16, 17, 18, 19, 20] rfl rfl rfl rfl rfl (by decide) rfl hl.1 rfl (Nat.le_of_ble_eq_true rfl) dX11_calm_5 ⟨Nat.le_of_ble_eq_true rfl, Nat.le_of_ble_eq_true rfl⟩ (fun v_1 u_2 H locs hv_3 hP hD hS => ?_)
  obtain ⟨r_4, rfl, he_5⟩ := hv_3
  have he_5 : ((r_4.toInt = 0 ∨ (r_4.toInt = 1 ∧ 0 ≤ x1.toInt ∧ x1.toInt < 6 ∧ x1.toInt < (Av 3).toInt))) := he_5
  refine W.eq (g2 := F0 m 8 ls [.int r_4]) rfl ?_
  have hP : va_P D classes [((Ga 0), .inr (11, [.ref (Ga 1), .ref (Ga 2), .ref (Ga 3), .ref (Ga 4), .int (Gv 0), .ref (Ga 5), .ref (Aa 0), .ref (Pa 0), .ref (Ga 8), .ref (Ga 9), .ref (Ga 10), .ref (Ga 11)])), ((Pa 0), .inr (5, [.ref (Pa 1), .int (Pv 0), .int (Pv 1)])), ((Pa 1), .inl (tc 5, 20, .inr (.inr (.inr (.inr (Pq 1)))))), ((Ea 0), .inr (9, [.int (Ev 0), .int (Ev 1), .int (Ev 2), .int (Ev 3), .int (Ev 4), .int (Ev 5), .ref (Ea 1), .ref (Ea 2), .ref (Ea 3), .ref (Ea 4), .ref (Ea 5), .ref (Ea 6), .ref (Ea 7), .ref (Ea 8)])), ((Ea 1), .inl (tc 0, 10, .inl (Ef 1))), ((Ea 2), .inl (tc 0, 10, .inl (Ef 2))), ((Ea 3), .inl (tc 0, 6, .inl (Ef 3))), ((Ea 4), .inl (tc 0, 6, .inl (Ef 4))), ((Ea 5), .inl (tc 0, 6, .inl (Ef 5))), ((Ea 6), .inl (tc 0, 6, .inl (Ef 6))), ((Ea 7), .inl (tc 0, 6, .inl (Ef 7))), ((Ea 8), .inl (tc 0, 6, .inl (Ef 8))), ((Aa 0), .inr (9, [.int (Av 0), .int (Av 1), .int (Av 2), .int (Av 3), .int (Av 4), .int (Av 5), .ref (Aa 1), .ref (Aa 2), .ref (Aa 3), .ref (Aa 4), .ref (Aa 5), .ref (Aa 6), .ref (Aa 7), .ref (Aa 8)])), ((Aa 1), .inl (tc 0, 10, .inl (Af 1))), ((Aa 2), .inl (tc 0, 10, .inl (Af 2))), ((Aa 3), .inl (tc 0, 6, .inl (Af 3))), ((Aa 4), .inl (tc 0, 6, .inl (Af 4))), ((Aa 5), .inl (tc 0, 6, .inl (Af 5))), ((Aa 6), .inl (tc 0, 6, .inl (Af 6))), ((Aa 7), .inl (tc 0, 6, .inl (Af 7))), ((Aa 8), .inl (tc 0, 6, .inl (Af 8)))] H := hP
  have hD : va_D A [((Ga 0), .inr (11, [.ref (Ga 1), .ref (Ga 2), .ref (Ga 3), .ref (Ga 4), .int (Gv 0), .ref (Ga 5), .ref (Aa 0), .ref (Pa 0), .ref (Ga 8), .ref (Ga 9), .ref (Ga 10), .ref (Ga 11)])), ((Pa 0), .inr (5, [.ref (Pa 1), .int (Pv 0), .int (Pv 1)])), ((Pa 1), .inl (tc 5, 20, .inr (.inr (.inr (.inr (Pq 1)))))), ((Ea 0), .inr (9, [.int (Ev 0), .int (Ev 1), .int (Ev 2), .int (Ev 3), .int (Ev 4), .int (Ev 5), .ref (Ea 1), .ref (Ea 2), .ref (Ea 3), .ref (Ea 4), .ref (Ea 5), .ref (Ea 6), .ref (Ea 7), .ref (Ea 8)])), ((Ea 1), .inl (tc 0, 10, .inl (Ef 1))), ((Ea 2), .inl (tc 0, 10, .inl (Ef 2))), ((Ea 3), .inl (tc 0, 6, .inl (Ef 3))), ((Ea 4), .inl (tc 0, 6, .inl (Ef 4))), ((Ea 5), .inl (tc 0, 6, .inl (Ef 5))), ((Ea 6), .inl (tc 0, 6, .inl (Ef 6))), ((Ea 7), .inl (tc 0, 6, .inl (Ef 7))), ((Ea 8), .inl (tc 0, 6, .inl (Ef 8))), ((Aa 0), .inr (9, [.int (Av 0), .int (Av 1), .int (Av 2), .int (Av 3), .int (Av 4), .int (Av 5), .ref (Aa 1), .ref (Aa 2), .ref (Aa 3), .ref (Aa 4), .ref (Aa 5), .ref (Aa 6), .ref (Aa 7), .ref (Aa 8)])), ((Aa 1), .inl (tc 0, 10, .inl (Af 1))), ((Aa 2), .inl (tc 0, 10, .inl (Af 2))), ((Aa 3), .inl (tc 0, 6, .inl (Af 3))), ((Aa 4), .inl (tc 0, 6, .inl (Af 4))), ((Aa 5), .inl (tc 0, 6, .inl (Af 5))), ((Aa 6), .inl (tc 0, 6, .inl (Af 6))), ((Aa 7), .inl (tc 0, 6, .inl (Af 7))), ((Aa 8), .inl (tc 0, 6, .inl (Af 8)))] := hD
  refine lv_if_eq (tgt := 34) hx hb dX11_calm_8 (by decide) (fun c_6 => ?_) (fun c_6 => ?_)
  · skip
    refine lv_iconst (v := (-1)) hx hb dX11_calm_34 (by decide) ?_
    have ha_7 : 0 ≤ ((Pv 0) : Int32).toInt ∧ ((Pv 0) : Int32).toInt < 20 := by
      have z_1 := congrArg Int32.toInt c_6
      have y_0 : (0 : Int32).toInt = 0 := by decide
      omega
    have ha_8 : 0 ≤ ((Av 3) : Int32).toInt ∧ ((Av 3) : Int32).toInt ≤ 6 := by
      have z_1 := congrArg Int32.toInt c_6
      have y_0 : (0 : Int32).toInt = 0 := by decide
      omega
    have ha_9 : 0 ≤ ((Ev 3) : Int32).toInt ∧ ((Ev 3) : Int32).toInt ≤ 6 := by
      have z_1 := congrArg Int32.toInt c_6
      have y_0 : (0 : Int32).toInt = 0 := by decide
      omega
    exact retI (v := (-1)) hx hb hr hlk (rfl) hP hD hS ((Af 3), (Pv 0), (Pv 1), (Ev 0), (Ev 1), (Ev 2), (Ev 3), (Ev 4), (Ev 5), (Ef 1), (Ef 2), (Ef 3), (Ef 4), (Ef 5), (Ef 6), (Ef 7), (Ef 8)) ⟨_, rfl, trivial, ha_7, ha_8, ha_9⟩ [0, 12, 13, 14, 15, 16, 17, 18, 19, 20, 1, 2, 3, 4, 5, 6, 7, 8, 9, 10, 11] rfl rfl dX11_calm_35 (Nat.le_of_ble_eq_true rfl) (Nat.le_of_ble_eq_true rfl) rfl
  · skip
    refine lv_iload_n hx hb dX11_calm_11 rfl (lv_at hl 2 rfl) ?_
    refine lv_iconst (v := 1) hx hb dX11_calm_12 (by decide) ?_
    refine lv_bipush (v := 20) hx hb dX11_calm_13 (by decide) ?_
    refine cS (As := [.int x2, .int 1, .int 20]) (rest := []) (wr := [((Ga 0), .inr (11, [.ref (Ga 1), .ref (Ga 2), .ref (Ga 3), .ref (Ga 4), .int (Gv 0), .ref (Ga 5), .ref (Aa 0), .ref (Pa 0), .ref (Ga 8), .ref (Ga 9), .ref (Ga 10), .ref (Ga 11)])), ((Pa 0), .inr (5, [.ref (Pa 1), .int (Pv 0), .int (Pv 1)])), ((Pa 1), .inl (tc 5, 20, .inr (.inr (.inr (.inr (Pq 1)))))), ((Ea 0), .inr (9, [.int (Ev 0), .int (Ev 1), .int (Ev 2), .int (Ev 3), .int (Ev 4), .int (Ev 5), .ref (Ea 1), .ref (Ea 2), .ref (Ea 3), .ref (Ea 4), .ref (Ea 5), .ref (Ea 6), .ref (Ea 7), .ref (Ea 8)])), ((Ea 1), .inl (tc 0, 10, .inl (Ef 1))), ((Ea 2), .inl (tc 0, 10, .inl (Ef 2))), ((Ea 3), .inl (tc 0, 6, .inl (Ef 3))), ((Ea 4), .inl (tc 0, 6, .inl (Ef 4))), ((Ea 5), .inl (tc 0, 6, .inl (Ef 5))), ((Ea 6), .inl (tc 0, 6, .inl (Ef 6))), ((Ea 7), .inl (tc 0, 6, .inl (Ef 7))), ((Ea 8), .inl (tc 0, 6, .inl (Ef 8))), ((Aa 0), .inr (9, [.int (Av 0), .int (Av 1), .int (Av 2), .int (Av 3), .int (Av 4), .int (Av 5), .ref (Aa 1), .ref (Aa 2), .ref (Aa 3), .ref (Aa 4), .ref (Aa 5), .ref (Aa 6), .ref (Aa 7), .ref (Aa 8)])), ((Aa 1), .inl (tc 0, 10, .inl (Af 1))), ((Aa 2), .inl (tc 0, 10, .inl (Af 2))), ((Aa 3), .inl (tc 0, 6, .inl (Af 3))), ((Aa 4), .inl (tc 0, 6, .inl (Af 4))), ((Aa 5), .inl (tc 0, 6, .inl (Af 5))), ((Aa 6), .inl (tc 0, 6, .inl (Af 6))), ((Aa 7), .inl (tc 0, 6, .inl (Af 7))), ((Aa 8), .inl (tc 0, 6, .inl (Af 8)))]) ⟨hx, hb, hml, hown, hts⟩ hK hX hA (ct_X11_isWithin l D tc sk x2 1 20) k_716 k_714 k_715 k_95 pl_X11_isWithin ⟨Nat.le_of_ble_eq_true rfl, Nat.le_of_ble_eq_true rfl⟩ rfl rfl  hP hD hS [] [0, 1, 2, 3, 4, 5, 6, 7, 8, 9, 10, 11, 12, 13, 14, 15, 16, 17, 18, 19, 20] rfl rfl rfl rfl rfl (by decide) rfl hl.1 rfl (Nat.le_of_ble_eq_true rfl) dX11_calm_15 ⟨Nat.le_of_ble_eq_true rfl, Nat.le_of_ble_eq_true rfl⟩ (fun v_10 u_11 H locs hv_12 hP hD hS => ?_)
    obtain ⟨r_13, rfl, he_14⟩ := hv_12
    have he_14 : (r_13.toInt = 0 ∨ (r_13.toInt = 1 ∧ (1 : Int32).toInt ≤ x2.toInt ∧ x2.toInt ≤ (20 : Int32).toInt)) := he_14
    refine W.eq (g2 := F0 m 18 ls [.int r_13]) rfl ?_
    have hP : va_P D classes [((Ga 0), .inr (11, [.ref (Ga 1), .ref (Ga 2), .ref (Ga 3), .ref (Ga 4), .int (Gv 0), .ref (Ga 5), .ref (Aa 0), .ref (Pa 0), .ref (Ga 8), .ref (Ga 9), .ref (Ga 10), .ref (Ga 11)])), ((Pa 0), .inr (5, [.ref (Pa 1), .int (Pv 0), .int (Pv 1)])), ((Pa 1), .inl (tc 5, 20, .inr (.inr (.inr (.inr (Pq 1)))))), ((Ea 0), .inr (9, [.int (Ev 0), .int (Ev 1), .int (Ev 2), .int (Ev 3), .int (Ev 4), .int (Ev 5), .ref (Ea 1), .ref (Ea 2), .ref (Ea 3), .ref (Ea 4), .ref (Ea 5), .ref (Ea 6), .ref (Ea 7), .ref (Ea 8)])), ((Ea 1), .inl (tc 0, 10, .inl (Ef 1))), ((Ea 2), .inl (tc 0, 10, .inl (Ef 2))), ((Ea 3), .inl (tc 0, 6, .inl (Ef 3))), ((Ea 4), .inl (tc 0, 6, .inl (Ef 4))), ((Ea 5), .inl (tc 0, 6, .inl (Ef 5))), ((Ea 6), .inl (tc 0, 6, .inl (Ef 6))), ((Ea 7), .inl (tc 0, 6, .inl (Ef 7))), ((Ea 8), .inl (tc 0, 6, .inl (Ef 8))), ((Aa 0), .inr (9, [.int (Av 0), .int (Av 1), .int (Av 2), .int (Av 3), .int (Av 4), .int (Av 5), .ref (Aa 1), .ref (Aa 2), .ref (Aa 3), .ref (Aa 4), .ref (Aa 5), .ref (Aa 6), .ref (Aa 7), .ref (Aa 8)])), ((Aa 1), .inl (tc 0, 10, .inl (Af 1))), ((Aa 2), .inl (tc 0, 10, .inl (Af 2))), ((Aa 3), .inl (tc 0, 6, .inl (Af 3))), ((Aa 4), .inl (tc 0, 6, .inl (Af 4))), ((Aa 5), .inl (tc 0, 6, .inl (Af 5))), ((Aa 6), .inl (tc 0, 6, .inl (Af 6))), ((Aa 7), .inl (tc 0, 6, .inl (Af 7))), ((Aa 8), .inl (tc 0, 6, .inl (Af 8)))] H := hP
    have hD : va_D A [((Ga 0), .inr (11, [.ref (Ga 1), .ref (Ga 2), .ref (Ga 3), .ref (Ga 4), .int (Gv 0), .ref (Ga 5), .ref (Aa 0), .ref (Pa 0), .ref (Ga 8), .ref (Ga 9), .ref (Ga 10), .ref (Ga 11)])), ((Pa 0), .inr (5, [.ref (Pa 1), .int (Pv 0), .int (Pv 1)])), ((Pa 1), .inl (tc 5, 20, .inr (.inr (.inr (.inr (Pq 1)))))), ((Ea 0), .inr (9, [.int (Ev 0), .int (Ev 1), .int (Ev 2), .int (Ev 3), .int (Ev 4), .int (Ev 5), .ref (Ea 1), .ref (Ea 2), .ref (Ea 3), .ref (Ea 4), .ref (Ea 5), .ref (Ea 6), .ref (Ea 7), .ref (Ea 8)])), ((Ea 1), .inl (tc 0, 10, .inl (Ef 1))), ((Ea 2), .inl (tc 0, 10, .inl (Ef 2))), ((Ea 3), .inl (tc 0, 6, .inl (Ef 3))), ((Ea 4), .inl (tc 0, 6, .inl (Ef 4))), ((Ea 5), .inl (tc 0, 6, .inl (Ef 5))), ((Ea 6), .inl (tc 0, 6, .inl (Ef 6))), ((Ea 7), .inl (tc 0, 6, .inl (Ef 7))), ((Ea 8), .inl (tc 0, 6, .inl (Ef 8))), ((Aa 0), .inr (9, [.int (Av 0), .int (Av 1), .int (Av 2), .int (Av 3), .int (Av 4), .int (Av 5), .ref (Aa 1), .ref (Aa 2), .ref (Aa 3), .ref (Aa 4), .ref (Aa 5), .ref (Aa 6), .ref (Aa 7), .ref (Aa 8)])), ((Aa 1), .inl (tc 0, 10, .inl (Af 1))), ((Aa 2), .inl (tc 0, 10, .inl (Af 2))), ((Aa 3), .inl (tc 0, 6, .inl (Af 3))), ((Aa 4), .inl (tc 0, 6, .inl (Af 4))), ((Aa 5), .inl (tc 0, 6, .inl (Af 5))), ((Aa 6), .inl (tc 0, 6, .inl (Af 6))), ((Aa 7), .inl (tc 0, 6, .inl (Af 7))), ((Aa 8), .inl (tc 0, 6, .inl (Af 8)))] := hD
    refine lv_if_eq (tgt := 34) hx hb dX11_calm_18 (by decide) (fun c_16 => ?_) (fun c_16 => ?_)
    · skip
      refine lv_iconst (v := (-1)) hx hb dX11_calm_34 (by decide) ?_
      have ha_17 : 0 ≤ ((Pv 0) : Int32).toInt ∧ ((Pv 0) : Int32).toInt < 20 := by
        have z_1 : ¬ (r_4 : Int32).toInt = (0 : Int32).toInt := fun z => c_6 (Int32.toInt_inj.mp z)
        have z_2 := congrArg Int32.toInt c_16
        have y_0 : (0 : Int32).toInt = 0 := by decide
        omega
      have ha_18 : 0 ≤ ((Av 3) : Int32).toInt ∧ ((Av 3) : Int32).toInt ≤ 6 := by
        have z_1 : ¬ (r_4 : Int32).toInt = (0 : Int32).toInt := fun z => c_6 (Int32.toInt_inj.mp z)
        have z_2 := congrArg Int32.toInt c_16
        have y_0 : (0 : Int32).toInt = 0 := by decide
        omega
      have ha_19 : 0 ≤ ((Ev 3) : Int32).toInt ∧ ((Ev 3) : Int32).toInt ≤ 6 := by
        have z_1 : ¬ (r_4 : Int32).toInt = (0 : Int32).toInt := fun z => c_6 (Int32.toInt_inj.mp z)
        have z_2 := congrArg Int32.toInt c_16
        have y_0 : (0 : Int32).toInt = 0 := by decide
        omega
      exact retI (v := (-1)) hx hb hr hlk (rfl) hP hD hS ((Af 3), (Pv 0), (Pv 1), (Ev 0), (Ev 1), (Ev 2), (Ev 3), (Ev 4), (Ev 5), (Ef 1), (Ef 2), (Ef 3), (Ef 4), (Ef 5), (Ef 6), (Ef 7), (Ef 8)) ⟨_, rfl, trivial, ha_17, ha_18, ha_19⟩ [0, 12, 13, 14, 15, 16, 17, 18, 19, 20, 1, 2, 3, 4, 5, 6, 7, 8, 9, 10, 11] rfl rfl dX11_calm_35 (Nat.le_of_ble_eq_true rfl) (Nat.le_of_ble_eq_true rfl) rfl
    · skip
      refine lv_aload_n hx hb dX11_calm_21 rfl (lv_at hl 0 rfl) ?_
      refine gf_X11_51 hx hb hts hown hK hP 0 rfl rfl dX11_calm_22 ?_
      refine gf_X11_137 hx hb hts hown hK hP 12 rfl rfl dX11_calm_25 ?_
      refine lv_iload_n hx hb dX11_calm_28 rfl (lv_at hl 1 rfl) ?_
      have hi_20 : vp_in x1 6 := by
        have z_1 : ¬ (r_4 : Int32).toInt = (0 : Int32).toInt := fun z => c_6 (Int32.toInt_inj.mp z)
        have z_2 : ¬ (r_13 : Int32).toInt = (0 : Int32).toInt := fun z => c_16 (Int32.toInt_inj.mp z)
        have y_0 : (0 : Int32).toInt = 0 := by decide
        refine vp_in_iff.mpr ⟨?_, ?_⟩ <;> omega
      refine va_iald hx hb hK hP 15 0 rfl rfl hi_20 dX11_calm_29 ?_
      refine lv_topi (fun x_21 ex_21 => ?_)
      refine lv_iload_n hx hb dX11_calm_30 rfl (lv_at hl 2 rfl) ?_
      refine lv_icmp_ge (tgt := 36) hx hb dX11_calm_31 (by decide) (fun c_22 => ?_) (fun c_22 => ?_)
      · skip
        refine lv_aload_n hx hb dX11_calm_36 rfl (lv_at hl 0 rfl) ?_
        refine gf_X11_57 hx hb hts hown hK hP 0 rfl rfl dX11_calm_37 ?_
        refine lv_aload_n hx hb dX11_calm_40 rfl (lv_at hl 0 rfl) ?_
        refine gf_X11_51 hx hb hts hown hK hP 0 rfl rfl dX11_calm_41 ?_
        have ha_23 : 0 ≤ ((Pv 0) : Int32).toInt ∧ ((Pv 0) : Int32).toInt < 20 := by
          have z_1 : ¬ (r_4 : Int32).toInt = (0 : Int32).toInt := fun z => c_6 (Int32.toInt_inj.mp z)
          have z_2 : ¬ (r_13 : Int32).toInt = (0 : Int32).toInt := fun z => c_16 (Int32.toInt_inj.mp z)
          have z_3 := Int32.le_iff_toInt_le.mp c_22
          have y_0 : (0 : Int32).toInt = 0 := by decide
          omega
        refine cV (a := (Pa 0)) (As := [.ref (Aa 0)]) (rest := []) (wr := [((Ga 0), .inr (11, [.ref (Ga 1), .ref (Ga 2), .ref (Ga 3), .ref (Ga 4), .int (Gv 0), .ref (Ga 5), .ref (Aa 0), .ref (Pa 0), .ref (Ga 8), .ref (Ga 9), .ref (Ga 10), .ref (Ga 11)]))]) ⟨hx, hb, hml, hown, hts⟩ hK hX hA (ct_X5_keep_s l D tc sk Pa Pv Pq Aa Av Af Ea Ev Ef ha_23 h_q) k_728 k_725 k_726 k_727 k_102 pl_X5_keep ⟨Nat.le_of_ble_eq_true rfl, Nat.le_of_ble_eq_true rfl⟩ rfl rfl (va_recv hK hP (ci := 5) (q0 := 1) rfl rfl) hP hD hS [1, 2, 12, 13, 14, 15, 16, 17, 18, 19, 20, 3, 4, 5, 6, 7, 8, 9, 10, 11] [0] rfl rfl rfl rfl rfl (by decide) rfl hl.1 rfl (Nat.le_of_ble_eq_true rfl) dX11_calm_44 ⟨Nat.le_of_ble_eq_true rfl, Nat.le_of_ble_eq_true rfl⟩ (fun v_24 u_25 H locs hv_26 hP hD hS => ?_)
        obtain ⟨sv_27, sv_28, sv_29, sv_30, sv_31, sv_32, sv_33, sv_34, sv_35, sv_36, sv_37, sv_38, sv_39, sv_40, sv_41, sv_42⟩ := u_25
        obtain ⟨rfl, pf_43⟩ := hv_26
        have pf_43 : 0 ≤ (sv_27 : Int32).toInt ∧ (sv_27 : Int32).toInt < 20 := pf_43
        refine W.eq (g2 := F0 m 47 ls []) rfl ?_
        have hP : va_P D classes [((Ga 0), .inr (11, [.ref (Ga 1), .ref (Ga 2), .ref (Ga 3), .ref (Ga 4), .int (Gv 0), .ref (Ga 5), .ref (Aa 0), .ref (Pa 0), .ref (Ga 8), .ref (Ga 9), .ref (Ga 10), .ref (Ga 11)])), ((Pa 0), .inr (5, [.ref (Pa 1), .int sv_27, .int sv_28])), ((Pa 1), .inl (tc 5, 20, .inr (.inr (.inr (.inr (Pq 1)))))), ((Aa 0), .inr (9, [.int (Av 0), .int (Av 1), .int (Av 2), .int (Av 3), .int (Av 4), .int (Av 5), .ref (Aa 1), .ref (Aa 2), .ref (Aa 3), .ref (Aa 4), .ref (Aa 5), .ref (Aa 6), .ref (Aa 7), .ref (Aa 8)])), ((Aa 1), .inl (tc 0, 10, .inl (Af 1))), ((Aa 2), .inl (tc 0, 10, .inl (Af 2))), ((Aa 3), .inl (tc 0, 6, .inl (Af 3))), ((Aa 4), .inl (tc 0, 6, .inl (Af 4))), ((Aa 5), .inl (tc 0, 6, .inl (Af 5))), ((Aa 6), .inl (tc 0, 6, .inl (Af 6))), ((Aa 7), .inl (tc 0, 6, .inl (Af 7))), ((Aa 8), .inl (tc 0, 6, .inl (Af 8))), ((Ea 0), .inr (9, [.int sv_29, .int sv_30, .int sv_31, .int sv_32, .int sv_33, .int sv_34, .ref (Ea 1), .ref (Ea 2), .ref (Ea 3), .ref (Ea 4), .ref (Ea 5), .ref (Ea 6), .ref (Ea 7), .ref (Ea 8)])), ((Ea 1), .inl (tc 0, 10, .inl sv_35)), ((Ea 2), .inl (tc 0, 10, .inl sv_36)), ((Ea 3), .inl (tc 0, 6, .inl sv_37)), ((Ea 4), .inl (tc 0, 6, .inl sv_38)), ((Ea 5), .inl (tc 0, 6, .inl sv_39)), ((Ea 6), .inl (tc 0, 6, .inl sv_40)), ((Ea 7), .inl (tc 0, 6, .inl sv_41)), ((Ea 8), .inl (tc 0, 6, .inl sv_42))] H := hP
        have hD : va_D A [((Ga 0), .inr (11, [.ref (Ga 1), .ref (Ga 2), .ref (Ga 3), .ref (Ga 4), .int (Gv 0), .ref (Ga 5), .ref (Aa 0), .ref (Pa 0), .ref (Ga 8), .ref (Ga 9), .ref (Ga 10), .ref (Ga 11)])), ((Pa 0), .inr (5, [.ref (Pa 1), .int sv_27, .int sv_28])), ((Pa 1), .inl (tc 5, 20, .inr (.inr (.inr (.inr (Pq 1)))))), ((Aa 0), .inr (9, [.int (Av 0), .int (Av 1), .int (Av 2), .int (Av 3), .int (Av 4), .int (Av 5), .ref (Aa 1), .ref (Aa 2), .ref (Aa 3), .ref (Aa 4), .ref (Aa 5), .ref (Aa 6), .ref (Aa 7), .ref (Aa 8)])), ((Aa 1), .inl (tc 0, 10, .inl (Af 1))), ((Aa 2), .inl (tc 0, 10, .inl (Af 2))), ((Aa 3), .inl (tc 0, 6, .inl (Af 3))), ((Aa 4), .inl (tc 0, 6, .inl (Af 4))), ((Aa 5), .inl (tc 0, 6, .inl (Af 5))), ((Aa 6), .inl (tc 0, 6, .inl (Af 6))), ((Aa 7), .inl (tc 0, 6, .inl (Af 7))), ((Aa 8), .inl (tc 0, 6, .inl (Af 8))), ((Ea 0), .inr (9, [.int sv_29, .int sv_30, .int sv_31, .int sv_32, .int sv_33, .int sv_34, .ref (Ea 1), .ref (Ea 2), .ref (Ea 3), .ref (Ea 4), .ref (Ea 5), .ref (Ea 6), .ref (Ea 7), .ref (Ea 8)])), ((Ea 1), .inl (tc 0, 10, .inl sv_35)), ((Ea 2), .inl (tc 0, 10, .inl sv_36)), ((Ea 3), .inl (tc 0, 6, .inl sv_37)), ((Ea 4), .inl (tc 0, 6, .inl sv_38)), ((Ea 5), .inl (tc 0, 6, .inl sv_39)), ((Ea 6), .inl (tc 0, 6, .inl sv_40)), ((Ea 7), .inl (tc 0, 6, .inl sv_41)), ((Ea 8), .inl (tc 0, 6, .inl sv_42))] := hD
        refine lv_aload_n hx hb dX11_calm_47 rfl (lv_at hl 0 rfl) ?_
        refine gf_X11_51 hx hb hts hown hK hP 0 rfl rfl dX11_calm_48 ?_
        refine gf_X11_137 hx hb hts hown hK hP 3 rfl rfl dX11_calm_51 ?_
        refine lv_iload_n hx hb dX11_calm_54 rfl (lv_at hl 1 rfl) ?_
        refine lv_dup2_11 hx hb dX11_calm_55 rfl rfl ?_
        have hi_44 : vp_in x1 6 := by
          have z_1 : ¬ (r_4 : Int32).toInt = (0 : Int32).toInt := fun z => c_6 (Int32.toInt_inj.mp z)
          have z_2 : ¬ (r_13 : Int32).toInt = (0 : Int32).toInt := fun z => c_16 (Int32.toInt_inj.mp z)
          have z_3 := Int32.le_iff_toInt_le.mp c_22
          have y_0 : (0 : Int32).toInt = 0 := by decide
          refine vp_in_iff.mpr ⟨?_, ?_⟩ <;> omega
        refine va_iald hx hb hK hP 6 0 rfl rfl hi_44 dX11_calm_56 ?_
        refine lv_topi (fun x_45 ex_45 => ?_)
        refine lv_iload_n hx hb dX11_calm_57 rfl (lv_at hl 2 rfl) ?_
        refine lv_isub hx hb dX11_calm_58 ?_
        refine lv_topi (fun x_46 ex_46 => ?_)
        have hi_47 : vp_in x1 6 := by
          have z_1 : ¬ (r_4 : Int32).toInt = (0 : Int32).toInt := fun z => c_6 (Int32.toInt_inj.mp z)
          have z_2 : ¬ (r_13 : Int32).toInt = (0 : Int32).toInt := fun z => c_16 (Int32.toInt_inj.mp z)
          have z_3 := Int32.le_iff_toInt_le.mp c_22
          have y_0 : (0 : Int32).toInt = 0 := by decide
          refine vp_in_iff.mpr ⟨?_, ?_⟩ <;> omega
        refine st_int hx hb hK hP hD hS 6 0 rfl rfl hi_47 dX11_calm_59 (fun g_48 H locs eg_48 hP hD hS => ?_)
        have hP : va_P D classes [((Ga 0), .inr (11, [.ref (Ga 1), .ref (Ga 2), .ref (Ga 3), .ref (Ga 4), .int (Gv 0), .ref (Ga 5), .ref (Aa 0), .ref (Pa 0), .ref (Ga 8), .ref (Ga 9), .ref (Ga 10), .ref (Ga 11)])), ((Pa 0), .inr (5, [.ref (Pa 1), .int sv_27, .int sv_28])), ((Pa 1), .inl (tc 5, 20, .inr (.inr (.inr (.inr (Pq 1)))))), ((Aa 0), .inr (9, [.int (Av 0), .int (Av 1), .int (Av 2), .int (Av 3), .int (Av 4), .int (Av 5), .ref (Aa 1), .ref (Aa 2), .ref (Aa 3), .ref (Aa 4), .ref (Aa 5), .ref (Aa 6), .ref (Aa 7), .ref (Aa 8)])), ((Aa 1), .inl (tc 0, 10, .inl (Af 1))), ((Aa 2), .inl (tc 0, 10, .inl (Af 2))), ((Aa 3), .inl (tc 0, 6, .inl g_48)), ((Aa 4), .inl (tc 0, 6, .inl (Af 4))), ((Aa 5), .inl (tc 0, 6, .inl (Af 5))), ((Aa 6), .inl (tc 0, 6, .inl (Af 6))), ((Aa 7), .inl (tc 0, 6, .inl (Af 7))), ((Aa 8), .inl (tc 0, 6, .inl (Af 8))), ((Ea 0), .inr (9, [.int sv_29, .int sv_30, .int sv_31, .int sv_32, .int sv_33, .int sv_34, .ref (Ea 1), .ref (Ea 2), .ref (Ea 3), .ref (Ea 4), .ref (Ea 5), .ref (Ea 6), .ref (Ea 7), .ref (Ea 8)])), ((Ea 1), .inl (tc 0, 10, .inl sv_35)), ((Ea 2), .inl (tc 0, 10, .inl sv_36)), ((Ea 3), .inl (tc 0, 6, .inl sv_37)), ((Ea 4), .inl (tc 0, 6, .inl sv_38)), ((Ea 5), .inl (tc 0, 6, .inl sv_39)), ((Ea 6), .inl (tc 0, 6, .inl sv_40)), ((Ea 7), .inl (tc 0, 6, .inl sv_41)), ((Ea 8), .inl (tc 0, 6, .inl sv_42))] H := hP
        have hD : va_D A [((Ga 0), .inr (11, [.ref (Ga 1), .ref (Ga 2), .ref (Ga 3), .ref (Ga 4), .int (Gv 0), .ref (Ga 5), .ref (Aa 0), .ref (Pa 0), .ref (Ga 8), .ref (Ga 9), .ref (Ga 10), .ref (Ga 11)])), ((Pa 0), .inr (5, [.ref (Pa 1), .int sv_27, .int sv_28])), ((Pa 1), .inl (tc 5, 20, .inr (.inr (.inr (.inr (Pq 1)))))), ((Aa 0), .inr (9, [.int (Av 0), .int (Av 1), .int (Av 2), .int (Av 3), .int (Av 4), .int (Av 5), .ref (Aa 1), .ref (Aa 2), .ref (Aa 3), .ref (Aa 4), .ref (Aa 5), .ref (Aa 6), .ref (Aa 7), .ref (Aa 8)])), ((Aa 1), .inl (tc 0, 10, .inl (Af 1))), ((Aa 2), .inl (tc 0, 10, .inl (Af 2))), ((Aa 3), .inl (tc 0, 6, .inl g_48)), ((Aa 4), .inl (tc 0, 6, .inl (Af 4))), ((Aa 5), .inl (tc 0, 6, .inl (Af 5))), ((Aa 6), .inl (tc 0, 6, .inl (Af 6))), ((Aa 7), .inl (tc 0, 6, .inl (Af 7))), ((Aa 8), .inl (tc 0, 6, .inl (Af 8))), ((Ea 0), .inr (9, [.int sv_29, .int sv_30, .int sv_31, .int sv_32, .int sv_33, .int sv_34, .ref (Ea 1), .ref (Ea 2), .ref (Ea 3), .ref (Ea 4), .ref (Ea 5), .ref (Ea 6), .ref (Ea 7), .ref (Ea 8)])), ((Ea 1), .inl (tc 0, 10, .inl sv_35)), ((Ea 2), .inl (tc 0, 10, .inl sv_36)), ((Ea 3), .inl (tc 0, 6, .inl sv_37)), ((Ea 4), .inl (tc 0, 6, .inl sv_38)), ((Ea 5), .inl (tc 0, 6, .inl sv_39)), ((Ea 6), .inl (tc 0, 6, .inl sv_40)), ((Ea 7), .inl (tc 0, 6, .inl sv_41)), ((Ea 8), .inl (tc 0, 6, .inl sv_42))] := hD
        refine lv_aload_n hx hb dX11_calm_60 rfl (lv_at hl 0 rfl) ?_
        refine gf_X11_51 hx hb hts hown hK hP 0 rfl rfl dX11_calm_61 ?_
        refine gf_X11_137 hx hb hts hown hK hP 3 rfl rfl dX11_calm_64 ?_
        refine lv_iload_n hx hb dX11_calm_67 rfl (lv_at hl 1 rfl) ?_
        have hi_49 : vp_in x1 6 := by
          have z_1 : ¬ (r_4 : Int32).toInt = (0 : Int32).toInt := fun z => c_6 (Int32.toInt_inj.mp z)
          have z_2 : ¬ (r_13 : Int32).toInt = (0 : Int32).toInt := fun z => c_16 (Int32.toInt_inj.mp z)
          have z_3 := Int32.le_iff_toInt_le.mp c_22
          have y_0 : (0 : Int32).toInt = 0 := by decide
          refine vp_in_iff.mpr ⟨?_, ?_⟩ <;> omega
        refine va_iald hx hb hK hP 6 0 rfl rfl hi_49 dX11_calm_68 ?_
        refine lv_topi (fun x_50 ex_50 => ?_)
        have ha_51 : 0 ≤ (sv_27 : Int32).toInt ∧ (sv_27 : Int32).toInt < 20 := by
          have z_1 : ¬ (r_4 : Int32).toInt = (0 : Int32).toInt := fun z => c_6 (Int32.toInt_inj.mp z)
          have z_2 : ¬ (r_13 : Int32).toInt = (0 : Int32).toInt := fun z => c_16 (Int32.toInt_inj.mp z)
          have z_3 := Int32.le_iff_toInt_le.mp c_22
          have y_0 : (0 : Int32).toInt = 0 := by decide
          omega
        have ha_52 : 0 ≤ ((Av 3) : Int32).toInt ∧ ((Av 3) : Int32).toInt ≤ 6 := by
          have z_1 : ¬ (r_4 : Int32).toInt = (0 : Int32).toInt := fun z => c_6 (Int32.toInt_inj.mp z)
          have z_2 : ¬ (r_13 : Int32).toInt = (0 : Int32).toInt := fun z => c_16 (Int32.toInt_inj.mp z)
          have z_3 := Int32.le_iff_toInt_le.mp c_22
          have y_0 : (0 : Int32).toInt = 0 := by decide
          omega
        have ha_53 : 0 ≤ (sv_32 : Int32).toInt ∧ (sv_32 : Int32).toInt ≤ 6 := by
          have z_1 : ¬ (r_4 : Int32).toInt = (0 : Int32).toInt := fun z => c_6 (Int32.toInt_inj.mp z)
          have z_2 : ¬ (r_13 : Int32).toInt = (0 : Int32).toInt := fun z => c_16 (Int32.toInt_inj.mp z)
          have z_3 := Int32.le_iff_toInt_le.mp c_22
          have y_0 : (0 : Int32).toInt = 0 := by decide
          omega
        exact retI (v := x_50) hx hb hr hlk (rfl) hP hD hS (g_48, sv_27, sv_28, sv_29, sv_30, sv_31, sv_32, sv_33, sv_34, sv_35, sv_36, sv_37, sv_38, sv_39, sv_40, sv_41, sv_42) ⟨_, rfl, trivial, ha_51, ha_52, ha_53⟩ [0, 3, 4, 5, 6, 7, 8, 9, 10, 11, 1, 2, 12, 13, 14, 15, 16, 17, 18, 19, 20] rfl rfl dX11_calm_69 (Nat.le_of_ble_eq_true rfl) (Nat.le_of_ble_eq_true rfl) rfl
      · skip
        refine lv_iconst (v := (-1)) hx hb dX11_calm_34 (by decide) ?_
        have ha_54 : 0 ≤ ((Pv 0) : Int32).toInt ∧ ((Pv 0) : Int32).toInt < 20 := by
          have z_1 : ¬ (r_4 : Int32).toInt = (0 : Int32).toInt := fun z => c_6 (Int32.toInt_inj.mp z)
          have z_2 : ¬ (r_13 : Int32).toInt = (0 : Int32).toInt := fun z => c_16 (Int32.toInt_inj.mp z)
          have z_3 := Int32.lt_iff_toInt_lt.mp (Int32.not_le.mp c_22)
          have y_0 : (0 : Int32).toInt = 0 := by decide
          omega
        have ha_55 : 0 ≤ ((Av 3) : Int32).toInt ∧ ((Av 3) : Int32).toInt ≤ 6 := by
          have z_1 : ¬ (r_4 : Int32).toInt = (0 : Int32).toInt := fun z => c_6 (Int32.toInt_inj.mp z)
          have z_2 : ¬ (r_13 : Int32).toInt = (0 : Int32).toInt := fun z => c_16 (Int32.toInt_inj.mp z)
          have z_3 := Int32.lt_iff_toInt_lt.mp (Int32.not_le.mp c_22)
          have y_0 : (0 : Int32).toInt = 0 := by decide
          omega
        have ha_56 : 0 ≤ ((Ev 3) : Int32).toInt ∧ ((Ev 3) : Int32).toInt ≤ 6 := by
          have z_1 : ¬ (r_4 : Int32).toInt = (0 : Int32).toInt := fun z => c_6 (Int32.toInt_inj.mp z)
          have z_2 : ¬ (r_13 : Int32).toInt = (0 : Int32).toInt := fun z => c_16 (Int32.toInt_inj.mp z)
          have z_3 := Int32.lt_iff_toInt_lt.mp (Int32.not_le.mp c_22)
          have y_0 : (0 : Int32).toInt = 0 := by decide
          omega
        exact retI (v := (-1)) hx hb hr hlk (rfl) hP hD hS ((Af 3), (Pv 0), (Pv 1), (Ev 0), (Ev 1), (Ev 2), (Ev 3), (Ev 4), (Ev 5), (Ef 1), (Ef 2), (Ef 3), (Ef 4), (Ef 5), (Ef 6), (Ef 7), (Ef 8)) ⟨_, rfl, trivial, ha_54, ha_55, ha_56⟩ [0, 12, 13, 14, 15, 16, 17, 18, 19, 20, 1, 2, 3, 4, 5, 6, 7, 8, 9, 10, 11] rfl rfl dX11_calm_35 (Nat.le_of_ble_eq_true rfl) (Nat.le_of_ble_eq_true rfl) rfl
set_option maxHeartbeats 4000000 in
set_option maxRecDepth 100000 in
theorem ct_X11_watch_s (l : Launch) (D : va_G) (tc : Nat → ClassId) (sk : (Nat → Nat) × (Nat → Nat)) (Ga : Nat → Nat) (Gv : Nat → Int32) (Aa : Nat → Nat) (Av : Nat → Int32) (Af : Nat → Nat → Int32) (Pa : Nat → Nat) (Pv : Nat → Int32) (Pq : Nat → Nat → Option Nat) (Ea : Nat → Nat) (Ev : Nat → Int32) (Ef : Nat → Nat → Int32) (x1 : Int32) (x2 : Int32) (h_nx : 0 ≤ ((Pv 0) : Int32).toInt ∧ ((Pv 0) : Int32).toInt < 20) (h_q : (Pq 1) (Pv 0).toNatClampNeg = some (Ea 0)) (h_bA : 0 ≤ ((Av 3) : Int32).toInt ∧ ((Av 3) : Int32).toInt ≤ 6) (h_bE : 0 ≤ ((Ev 3) : Int32).toInt ∧ ((Ev 3) : Int32).toInt ≤ 6) : Ct l yX11_watch cX11_watch 3 (some .int) { frames := 3, cells := 0, slots := 0, locals := 83 } D tc sk [.ref (Ga 0), .int x1, .int x2] [((Ga 0), .inr (11, [.ref (Ga 1), .ref (Ga 2), .ref (Ga 3), .ref (Ga 4), .int (Gv 0), .ref (Ga 5), .ref (Aa 0), .ref (Pa 0), .ref (Ga 8), .ref (Ga 9), .ref (Ga 10), .ref (Ga 11)])), ((Aa 0), .inr (9, [.int (Av 0), .int (Av 1), .int (Av 2), .int (Av 3), .int (Av 4), .int (Av 5), .ref (Aa 1), .ref (Aa 2), .ref (Aa 3), .ref (Aa 4), .ref (Aa 5), .ref (Aa 6), .ref (Aa 7), .ref (Aa 8)])), ((Aa 1), .inl (tc 0, 10, .inl (Af 1))), ((Aa 2), .inl (tc 0, 10, .inl (Af 2))), ((Aa 3), .inl (tc 0, 6, .inl (Af 3))), ((Aa 4), .inl (tc 0, 6, .inl (Af 4))), ((Aa 5), .inl (tc 0, 6, .inl (Af 5))), ((Aa 6), .inl (tc 0, 6, .inl (Af 6))), ((Aa 7), .inl (tc 0, 6, .inl (Af 7))), ((Aa 8), .inl (tc 0, 6, .inl (Af 8))), ((Pa 0), .inr (5, [.ref (Pa 1), .int (Pv 0), .int (Pv 1)])), ((Pa 1), .inl (tc 5, 20, .inr (.inr (.inr (.inr (Pq 1)))))), ((Ea 0), .inr (9, [.int (Ev 0), .int (Ev 1), .int (Ev 2), .int (Ev 3), .int (Ev 4), .int (Ev 5), .ref (Ea 1), .ref (Ea 2), .ref (Ea 3), .ref (Ea 4), .ref (Ea 5), .ref (Ea 6), .ref (Ea 7), .ref (Ea 8)])), ((Ea 1), .inl (tc 0, 10, .inl (Ef 1))), ((Ea 2), .inl (tc 0, 10, .inl (Ef 2))), ((Ea 3), .inl (tc 0, 6, .inl (Ef 3))), ((Ea 4), .inl (tc 0, 6, .inl (Ef 4))), ((Ea 5), .inl (tc 0, 6, .inl (Ef 5))), ((Ea 6), .inl (tc 0, 6, .inl (Ef 6))), ((Ea 7), .inl (tc 0, 6, .inl (Ef 7))), ((Ea 8), .inl (tc 0, 6, .inl (Ef 8)))] (fun (v : Option Value) (u : (Nat → Int32) × (Int32) × (Int32) × (Int32) × (Int32) × (Int32) × (Int32) × (Int32) × (Int32) × (Nat → Int32) × (Nat → Int32) × (Nat → Int32) × (Nat → Int32) × (Nat → Int32) × (Nat → Int32) × (Nat → Int32) × (Nat → Int32)) => match u with | (oo0x1, oo0x2, oo0x3, oo0x4, oo0x5, oo0x6, oo0x7, oo0x8, oo0x9, oo0x10, oo0x11, oo0x12, oo0x13, oo0x14, oo0x15, oo0x16, oo0x17) => ∃ r : Int32, v = some (.int r) ∧ (True) ∧ (0 ≤ (oo0x2 : Int32).toInt ∧ (oo0x2 : Int32).toInt < 20) ∧ (0 ≤ ((Av 3) : Int32).toInt ∧ ((Av 3) : Int32).toInt ≤ 6) ∧ (0 ≤ (oo0x7 : Int32).toInt ∧ (oo0x7 : Int32).toInt ≤ 6)) (fun (u : (Nat → Int32) × (Int32) × (Int32) × (Int32) × (Int32) × (Int32) × (Int32) × (Int32) × (Int32) × (Nat → Int32) × (Nat → Int32) × (Nat → Int32) × (Nat → Int32) × (Nat → Int32) × (Nat → Int32) × (Nat → Int32) × (Nat → Int32)) => match u with | (oo0x1, oo0x2, oo0x3, oo0x4, oo0x5, oo0x6, oo0x7, oo0x8, oo0x9, oo0x10, oo0x11, oo0x12, oo0x13, oo0x14, oo0x15, oo0x16, oo0x17) => [((Ga 0), .inr (11, [.ref (Ga 1), .ref (Ga 2), .ref (Ga 3), .ref (Ga 4), .int (Gv 0), .ref (Ga 5), .ref (Aa 0), .ref (Pa 0), .ref (Ga 8), .ref (Ga 9), .ref (Ga 10), .ref (Ga 11)])), ((Aa 0), .inr (9, [.int (Av 0), .int (Av 1), .int (Av 2), .int (Av 3), .int (Av 4), .int (Av 5), .ref (Aa 1), .ref (Aa 2), .ref (Aa 3), .ref (Aa 4), .ref (Aa 5), .ref (Aa 6), .ref (Aa 7), .ref (Aa 8)])), ((Aa 1), .inl (tc 0, 10, .inl (Af 1))), ((Aa 2), .inl (tc 0, 10, .inl oo0x1)), ((Aa 3), .inl (tc 0, 6, .inl (Af 3))), ((Aa 4), .inl (tc 0, 6, .inl (Af 4))), ((Aa 5), .inl (tc 0, 6, .inl (Af 5))), ((Aa 6), .inl (tc 0, 6, .inl (Af 6))), ((Aa 7), .inl (tc 0, 6, .inl (Af 7))), ((Aa 8), .inl (tc 0, 6, .inl (Af 8))), ((Pa 0), .inr (5, [.ref (Pa 1), .int oo0x2, .int oo0x3])), ((Pa 1), .inl (tc 5, 20, .inr (.inr (.inr (.inr (Pq 1)))))), ((Ea 0), .inr (9, [.int oo0x4, .int oo0x5, .int oo0x6, .int oo0x7, .int oo0x8, .int oo0x9, .ref (Ea 1), .ref (Ea 2), .ref (Ea 3), .ref (Ea 4), .ref (Ea 5), .ref (Ea 6), .ref (Ea 7), .ref (Ea 8)])), ((Ea 1), .inl (tc 0, 10, .inl oo0x10)), ((Ea 2), .inl (tc 0, 10, .inl oo0x11)), ((Ea 3), .inl (tc 0, 6, .inl oo0x12)), ((Ea 4), .inl (tc 0, 6, .inl oo0x13)), ((Ea 5), .inl (tc 0, 6, .inl oo0x14)), ((Ea 6), .inl (tc 0, 6, .inl oo0x15)), ((Ea 7), .inl (tc 0, 6, .inl oo0x16)), ((Ea 8), .inl (tc 0, 6, .inl oo0x17))]) 0 0 := by
  refine Ct.start (by decide) (Nat.le_of_ble_eq_true rfl) (fun p e s m below meth c A ls hx hb hr hlk hin hml hown hts hK hX hP hD hA hl hS => ?_)
  have hl : lv_has ls 3 [(0, .ref (Ga 0)), (1, .int x1), (2, .int x2)] := hl
  refine lv_aload_n hx hb dX11_watch_0 rfl (lv_at hl 0 rfl) ?_
  refine gf_X11_51 hx hb hts hown hK hP 0 rfl rfl dX11_watch_1 ?_
  refine lv_iload_n hx hb dX11_watch_4 rfl (lv_at hl 1 rfl) ?_
  refine cV (a := (Aa 0)) (As := [.int x1]) (rest := []) (wr := [((Ga 0), .inr (11, [.ref (Ga 1), .ref (Ga 2), .ref (Ga 3), .ref (Ga 4), .int (Gv 0), .ref (Ga 5), .ref (Aa 0), .ref (Pa 0), .ref (Ga 8), .ref (Ga 9), .ref (Ga 10), .ref (Ga 11)])), ((Pa 0), .inr (5, [.ref (Pa 1), .int (Pv 0), .int (Pv 1)])), ((Pa 1), .inl (tc 5, 20, .inr (.inr (.inr (.inr (Pq 1)))))), ((Ea 0), .inr (9, [.int (Ev 0), .int (Ev 1), .int (Ev 2), .int (Ev 3), .int (Ev 4), .int (Ev 5), .ref (Ea 1), .ref (Ea 2), .ref (Ea 3), .ref (Ea 4), .ref (Ea 5), .ref (Ea 6), .ref (Ea 7), .ref (Ea 8)])), ((Ea 1), .inl (tc 0, 10, .inl (Ef 1))), ((Ea 2), .inl (tc 0, 10, .inl (Ef 2))), ((Ea 3), .inl (tc 0, 6, .inl (Ef 3))), ((Ea 4), .inl (tc 0, 6, .inl (Ef 4))), ((Ea 5), .inl (tc 0, 6, .inl (Ef 5))), ((Ea 6), .inl (tc 0, 6, .inl (Ef 6))), ((Ea 7), .inl (tc 0, 6, .inl (Ef 7))), ((Ea 8), .inl (tc 0, 6, .inl (Ef 8)))]) ⟨hx, hb, hml, hown, hts⟩ hK hX hA (ct_X9_hasClock l D tc sk Aa Av Af x1) k_579 k_713 k_577 k_578 k_98 pl_X9_hasClock ⟨Nat.le_of_ble_eq_true rfl, Nat.le_of_ble_eq_true rfl⟩ rfl rfl (va_recv hK hP (ci := 9) (q0 := 1) rfl rfl) hP hD hS [1, 2, 3, 4, 5, 6, 7, 8, 9] [0, 10, 11, 12, 13, 14, 15, 16, 17, 18, 19, 20] rfl rfl rfl rfl rfl (by decide) rfl hl.1 rfl (Nat.le_of_ble_eq_true rfl) dX11_watch_5 ⟨Nat.le_of_ble_eq_true rfl, Nat.le_of_ble_eq_true rfl⟩ (fun v_1 u_2 H locs hv_3 hP hD hS => ?_)
  obtain ⟨r_4, rfl, he_5⟩ := hv_3
  have he_5 : ((r_4.toInt = 0 ∨ (r_4.toInt = 1 ∧ 0 ≤ x1.toInt ∧ x1.toInt < 10))) := he_5
  refine W.eq (g2 := F0 m 8 ls [.int r_4]) rfl ?_
  have hP : va_P D classes [((Ga 0), .inr (11, [.ref (Ga 1), .ref (Ga 2), .ref (Ga 3), .ref (Ga 4), .int (Gv 0), .ref (Ga 5), .ref (Aa 0), .ref (Pa 0), .ref (Ga 8), .ref (Ga 9), .ref (Ga 10), .ref (Ga 11)])), ((Pa 0), .inr (5, [.ref (Pa 1), .int (Pv 0), .int (Pv 1)])), ((Pa 1), .inl (tc 5, 20, .inr (.inr (.inr (.inr (Pq 1)))))), ((Ea 0), .inr (9, [.int (Ev 0), .int (Ev 1), .int (Ev 2), .int (Ev 3), .int (Ev 4), .int (Ev 5), .ref (Ea 1), .ref (Ea 2), .ref (Ea 3), .ref (Ea 4), .ref (Ea 5), .ref (Ea 6), .ref (Ea 7), .ref (Ea 8)])), ((Ea 1), .inl (tc 0, 10, .inl (Ef 1))), ((Ea 2), .inl (tc 0, 10, .inl (Ef 2))), ((Ea 3), .inl (tc 0, 6, .inl (Ef 3))), ((Ea 4), .inl (tc 0, 6, .inl (Ef 4))), ((Ea 5), .inl (tc 0, 6, .inl (Ef 5))), ((Ea 6), .inl (tc 0, 6, .inl (Ef 6))), ((Ea 7), .inl (tc 0, 6, .inl (Ef 7))), ((Ea 8), .inl (tc 0, 6, .inl (Ef 8))), ((Aa 0), .inr (9, [.int (Av 0), .int (Av 1), .int (Av 2), .int (Av 3), .int (Av 4), .int (Av 5), .ref (Aa 1), .ref (Aa 2), .ref (Aa 3), .ref (Aa 4), .ref (Aa 5), .ref (Aa 6), .ref (Aa 7), .ref (Aa 8)])), ((Aa 1), .inl (tc 0, 10, .inl (Af 1))), ((Aa 2), .inl (tc 0, 10, .inl (Af 2))), ((Aa 3), .inl (tc 0, 6, .inl (Af 3))), ((Aa 4), .inl (tc 0, 6, .inl (Af 4))), ((Aa 5), .inl (tc 0, 6, .inl (Af 5))), ((Aa 6), .inl (tc 0, 6, .inl (Af 6))), ((Aa 7), .inl (tc 0, 6, .inl (Af 7))), ((Aa 8), .inl (tc 0, 6, .inl (Af 8)))] H := hP
  have hD : va_D A [((Ga 0), .inr (11, [.ref (Ga 1), .ref (Ga 2), .ref (Ga 3), .ref (Ga 4), .int (Gv 0), .ref (Ga 5), .ref (Aa 0), .ref (Pa 0), .ref (Ga 8), .ref (Ga 9), .ref (Ga 10), .ref (Ga 11)])), ((Pa 0), .inr (5, [.ref (Pa 1), .int (Pv 0), .int (Pv 1)])), ((Pa 1), .inl (tc 5, 20, .inr (.inr (.inr (.inr (Pq 1)))))), ((Ea 0), .inr (9, [.int (Ev 0), .int (Ev 1), .int (Ev 2), .int (Ev 3), .int (Ev 4), .int (Ev 5), .ref (Ea 1), .ref (Ea 2), .ref (Ea 3), .ref (Ea 4), .ref (Ea 5), .ref (Ea 6), .ref (Ea 7), .ref (Ea 8)])), ((Ea 1), .inl (tc 0, 10, .inl (Ef 1))), ((Ea 2), .inl (tc 0, 10, .inl (Ef 2))), ((Ea 3), .inl (tc 0, 6, .inl (Ef 3))), ((Ea 4), .inl (tc 0, 6, .inl (Ef 4))), ((Ea 5), .inl (tc 0, 6, .inl (Ef 5))), ((Ea 6), .inl (tc 0, 6, .inl (Ef 6))), ((Ea 7), .inl (tc 0, 6, .inl (Ef 7))), ((Ea 8), .inl (tc 0, 6, .inl (Ef 8))), ((Aa 0), .inr (9, [.int (Av 0), .int (Av 1), .int (Av 2), .int (Av 3), .int (Av 4), .int (Av 5), .ref (Aa 1), .ref (Aa 2), .ref (Aa 3), .ref (Aa 4), .ref (Aa 5), .ref (Aa 6), .ref (Aa 7), .ref (Aa 8)])), ((Aa 1), .inl (tc 0, 10, .inl (Af 1))), ((Aa 2), .inl (tc 0, 10, .inl (Af 2))), ((Aa 3), .inl (tc 0, 6, .inl (Af 3))), ((Aa 4), .inl (tc 0, 6, .inl (Af 4))), ((Aa 5), .inl (tc 0, 6, .inl (Af 5))), ((Aa 6), .inl (tc 0, 6, .inl (Af 6))), ((Aa 7), .inl (tc 0, 6, .inl (Af 7))), ((Aa 8), .inl (tc 0, 6, .inl (Af 8)))] := hD
  refine lv_if_eq (tgt := 22) hx hb dX11_watch_8 (by decide) (fun c_6 => ?_) (fun c_6 => ?_)
  · skip
    refine lv_iconst (v := (-1)) hx hb dX11_watch_22 (by decide) ?_
    have ha_7 : 0 ≤ ((Pv 0) : Int32).toInt ∧ ((Pv 0) : Int32).toInt < 20 := by
      have z_1 := congrArg Int32.toInt c_6
      have y_0 : (0 : Int32).toInt = 0 := by decide
      omega
    have ha_8 : 0 ≤ ((Av 3) : Int32).toInt ∧ ((Av 3) : Int32).toInt ≤ 6 := by
      have z_1 := congrArg Int32.toInt c_6
      have y_0 : (0 : Int32).toInt = 0 := by decide
      omega
    have ha_9 : 0 ≤ ((Ev 3) : Int32).toInt ∧ ((Ev 3) : Int32).toInt ≤ 6 := by
      have z_1 := congrArg Int32.toInt c_6
      have y_0 : (0 : Int32).toInt = 0 := by decide
      omega
    exact retI (v := (-1)) hx hb hr hlk (rfl) hP hD hS ((Af 2), (Pv 0), (Pv 1), (Ev 0), (Ev 1), (Ev 2), (Ev 3), (Ev 4), (Ev 5), (Ef 1), (Ef 2), (Ef 3), (Ef 4), (Ef 5), (Ef 6), (Ef 7), (Ef 8)) ⟨_, rfl, trivial, ha_7, ha_8, ha_9⟩ [0, 12, 13, 14, 15, 16, 17, 18, 19, 20, 1, 2, 3, 4, 5, 6, 7, 8, 9, 10, 11] rfl rfl dX11_watch_23 (Nat.le_of_ble_eq_true rfl) (Nat.le_of_ble_eq_true rfl) rfl
  · skip
    refine lv_aload_n hx hb dX11_watch_11 rfl (lv_at hl 0 rfl) ?_
    refine gf_X11_51 hx hb hts hown hK hP 0 rfl rfl dX11_watch_12 ?_
    refine lv_iload_n hx hb dX11_watch_15 rfl (lv_at hl 2 rfl) ?_
    refine cV (a := (Aa 0)) (As := [.int x2]) (rest := []) (wr := [((Ga 0), .inr (11, [.ref (Ga 1), .ref (Ga 2), .ref (Ga 3), .ref (Ga 4), .int (Gv 0), .ref (Ga 5), .ref (Aa 0), .ref (Pa 0), .ref (Ga 8), .ref (Ga 9), .ref (Ga 10), .ref (Ga 11)])), ((Pa 0), .inr (5, [.ref (Pa 1), .int (Pv 0), .int (Pv 1)])), ((Pa 1), .inl (tc 5, 20, .inr (.inr (.inr (.inr (Pq 1)))))), ((Ea 0), .inr (9, [.int (Ev 0), .int (Ev 1), .int (Ev 2), .int (Ev 3), .int (Ev 4), .int (Ev 5), .ref (Ea 1), .ref (Ea 2), .ref (Ea 3), .ref (Ea 4), .ref (Ea 5), .ref (Ea 6), .ref (Ea 7), .ref (Ea 8)])), ((Ea 1), .inl (tc 0, 10, .inl (Ef 1))), ((Ea 2), .inl (tc 0, 10, .inl (Ef 2))), ((Ea 3), .inl (tc 0, 6, .inl (Ef 3))), ((Ea 4), .inl (tc 0, 6, .inl (Ef 4))), ((Ea 5), .inl (tc 0, 6, .inl (Ef 5))), ((Ea 6), .inl (tc 0, 6, .inl (Ef 6))), ((Ea 7), .inl (tc 0, 6, .inl (Ef 7))), ((Ea 8), .inl (tc 0, 6, .inl (Ef 8)))]) ⟨hx, hb, hml, hown, hts⟩ hK hX hA (ct_X9_hasBuyer l D tc sk Aa Av Af x2) k_591 k_702 k_589 k_590 k_98 pl_X9_hasBuyer ⟨Nat.le_of_ble_eq_true rfl, Nat.le_of_ble_eq_true rfl⟩ rfl rfl (va_recv hK hP (ci := 9) (q0 := 12) rfl rfl) hP hD hS [12, 13, 14, 15, 16, 17, 18, 19, 20] [0, 1, 2, 3, 4, 5, 6, 7, 8, 9, 10, 11] rfl rfl rfl rfl rfl (by decide) rfl hl.1 rfl (Nat.le_of_ble_eq_true rfl) dX11_watch_16 ⟨Nat.le_of_ble_eq_true rfl, Nat.le_of_ble_eq_true rfl⟩ (fun v_10 u_11 H locs hv_12 hP hD hS => ?_)
    obtain ⟨r_13, rfl, he_14⟩ := hv_12
    have he_14 : ((r_13.toInt = 0 ∨ (r_13.toInt = 1 ∧ 0 ≤ x2.toInt ∧ x2.toInt < 6 ∧ x2.toInt < (Av 3).toInt))) := he_14
    refine W.eq (g2 := F0 m 19 ls [.int r_13]) rfl ?_
    have hP : va_P D classes [((Ga 0), .inr (11, [.ref (Ga 1), .ref (Ga 2), .ref (Ga 3), .ref (Ga 4), .int (Gv 0), .ref (Ga 5), .ref (Aa 0), .ref (Pa 0), .ref (Ga 8), .ref (Ga 9), .ref (Ga 10), .ref (Ga 11)])), ((Pa 0), .inr (5, [.ref (Pa 1), .int (Pv 0), .int (Pv 1)])), ((Pa 1), .inl (tc 5, 20, .inr (.inr (.inr (.inr (Pq 1)))))), ((Ea 0), .inr (9, [.int (Ev 0), .int (Ev 1), .int (Ev 2), .int (Ev 3), .int (Ev 4), .int (Ev 5), .ref (Ea 1), .ref (Ea 2), .ref (Ea 3), .ref (Ea 4), .ref (Ea 5), .ref (Ea 6), .ref (Ea 7), .ref (Ea 8)])), ((Ea 1), .inl (tc 0, 10, .inl (Ef 1))), ((Ea 2), .inl (tc 0, 10, .inl (Ef 2))), ((Ea 3), .inl (tc 0, 6, .inl (Ef 3))), ((Ea 4), .inl (tc 0, 6, .inl (Ef 4))), ((Ea 5), .inl (tc 0, 6, .inl (Ef 5))), ((Ea 6), .inl (tc 0, 6, .inl (Ef 6))), ((Ea 7), .inl (tc 0, 6, .inl (Ef 7))), ((Ea 8), .inl (tc 0, 6, .inl (Ef 8))), ((Aa 0), .inr (9, [.int (Av 0), .int (Av 1), .int (Av 2), .int (Av 3), .int (Av 4), .int (Av 5), .ref (Aa 1), .ref (Aa 2), .ref (Aa 3), .ref (Aa 4), .ref (Aa 5), .ref (Aa 6), .ref (Aa 7), .ref (Aa 8)])), ((Aa 1), .inl (tc 0, 10, .inl (Af 1))), ((Aa 2), .inl (tc 0, 10, .inl (Af 2))), ((Aa 3), .inl (tc 0, 6, .inl (Af 3))), ((Aa 4), .inl (tc 0, 6, .inl (Af 4))), ((Aa 5), .inl (tc 0, 6, .inl (Af 5))), ((Aa 6), .inl (tc 0, 6, .inl (Af 6))), ((Aa 7), .inl (tc 0, 6, .inl (Af 7))), ((Aa 8), .inl (tc 0, 6, .inl (Af 8)))] H := hP
    have hD : va_D A [((Ga 0), .inr (11, [.ref (Ga 1), .ref (Ga 2), .ref (Ga 3), .ref (Ga 4), .int (Gv 0), .ref (Ga 5), .ref (Aa 0), .ref (Pa 0), .ref (Ga 8), .ref (Ga 9), .ref (Ga 10), .ref (Ga 11)])), ((Pa 0), .inr (5, [.ref (Pa 1), .int (Pv 0), .int (Pv 1)])), ((Pa 1), .inl (tc 5, 20, .inr (.inr (.inr (.inr (Pq 1)))))), ((Ea 0), .inr (9, [.int (Ev 0), .int (Ev 1), .int (Ev 2), .int (Ev 3), .int (Ev 4), .int (Ev 5), .ref (Ea 1), .ref (Ea 2), .ref (Ea 3), .ref (Ea 4), .ref (Ea 5), .ref (Ea 6), .ref (Ea 7), .ref (Ea 8)])), ((Ea 1), .inl (tc 0, 10, .inl (Ef 1))), ((Ea 2), .inl (tc 0, 10, .inl (Ef 2))), ((Ea 3), .inl (tc 0, 6, .inl (Ef 3))), ((Ea 4), .inl (tc 0, 6, .inl (Ef 4))), ((Ea 5), .inl (tc 0, 6, .inl (Ef 5))), ((Ea 6), .inl (tc 0, 6, .inl (Ef 6))), ((Ea 7), .inl (tc 0, 6, .inl (Ef 7))), ((Ea 8), .inl (tc 0, 6, .inl (Ef 8))), ((Aa 0), .inr (9, [.int (Av 0), .int (Av 1), .int (Av 2), .int (Av 3), .int (Av 4), .int (Av 5), .ref (Aa 1), .ref (Aa 2), .ref (Aa 3), .ref (Aa 4), .ref (Aa 5), .ref (Aa 6), .ref (Aa 7), .ref (Aa 8)])), ((Aa 1), .inl (tc 0, 10, .inl (Af 1))), ((Aa 2), .inl (tc 0, 10, .inl (Af 2))), ((Aa 3), .inl (tc 0, 6, .inl (Af 3))), ((Aa 4), .inl (tc 0, 6, .inl (Af 4))), ((Aa 5), .inl (tc 0, 6, .inl (Af 5))), ((Aa 6), .inl (tc 0, 6, .inl (Af 6))), ((Aa 7), .inl (tc 0, 6, .inl (Af 7))), ((Aa 8), .inl (tc 0, 6, .inl (Af 8)))] := hD
    refine lv_if_ne (tgt := 24) hx hb dX11_watch_19 (by decide) (fun c_15 => ?_) (fun c_15 => ?_)
    · skip
      refine lv_aload_n hx hb dX11_watch_24 rfl (lv_at hl 0 rfl) ?_
      refine gf_X11_57 hx hb hts hown hK hP 0 rfl rfl dX11_watch_25 ?_
      refine lv_aload_n hx hb dX11_watch_28 rfl (lv_at hl 0 rfl) ?_
      refine gf_X11_51 hx hb hts hown hK hP 0 rfl rfl dX11_watch_29 ?_
      have ha_16 : 0 ≤ ((Pv 0) : Int32).toInt ∧ ((Pv 0) : Int32).toInt < 20 := by
        have z_1 : ¬ (r_4 : Int32).toInt = (0 : Int32).toInt := fun z => c_6 (Int32.toInt_inj.mp z)
        have z_2 : ¬ (r_13 : Int32).toInt = (0 : Int32).toInt := fun z => c_15 (Int32.toInt_inj.mp z)
        have y_0 : (0 : Int32).toInt = 0 := by decide
        omega
      refine cV (a := (Pa 0)) (As := [.ref (Aa 0)]) (rest := []) (wr := [((Ga 0), .inr (11, [.ref (Ga 1), .ref (Ga 2), .ref (Ga 3), .ref (Ga 4), .int (Gv 0), .ref (Ga 5), .ref (Aa 0), .ref (Pa 0), .ref (Ga 8), .ref (Ga 9), .ref (Ga 10), .ref (Ga 11)]))]) ⟨hx, hb, hml, hown, hts⟩ hK hX hA (ct_X5_keep_s l D tc sk Pa Pv Pq Aa Av Af Ea Ev Ef ha_16 h_q) k_728 k_725 k_726 k_727 k_102 pl_X5_keep ⟨Nat.le_of_ble_eq_true rfl, Nat.le_of_ble_eq_true rfl⟩ rfl rfl (va_recv hK hP (ci := 5) (q0 := 1) rfl rfl) hP hD hS [1, 2, 12, 13, 14, 15, 16, 17, 18, 19, 20, 3, 4, 5, 6, 7, 8, 9, 10, 11] [0] rfl rfl rfl rfl rfl (by decide) rfl hl.1 rfl (Nat.le_of_ble_eq_true rfl) dX11_watch_32 ⟨Nat.le_of_ble_eq_true rfl, Nat.le_of_ble_eq_true rfl⟩ (fun v_17 u_18 H locs hv_19 hP hD hS => ?_)
      obtain ⟨sv_20, sv_21, sv_22, sv_23, sv_24, sv_25, sv_26, sv_27, sv_28, sv_29, sv_30, sv_31, sv_32, sv_33, sv_34, sv_35⟩ := u_18
      obtain ⟨rfl, pf_36⟩ := hv_19
      have pf_36 : 0 ≤ (sv_20 : Int32).toInt ∧ (sv_20 : Int32).toInt < 20 := pf_36
      refine W.eq (g2 := F0 m 35 ls []) rfl ?_
      have hP : va_P D classes [((Ga 0), .inr (11, [.ref (Ga 1), .ref (Ga 2), .ref (Ga 3), .ref (Ga 4), .int (Gv 0), .ref (Ga 5), .ref (Aa 0), .ref (Pa 0), .ref (Ga 8), .ref (Ga 9), .ref (Ga 10), .ref (Ga 11)])), ((Pa 0), .inr (5, [.ref (Pa 1), .int sv_20, .int sv_21])), ((Pa 1), .inl (tc 5, 20, .inr (.inr (.inr (.inr (Pq 1)))))), ((Aa 0), .inr (9, [.int (Av 0), .int (Av 1), .int (Av 2), .int (Av 3), .int (Av 4), .int (Av 5), .ref (Aa 1), .ref (Aa 2), .ref (Aa 3), .ref (Aa 4), .ref (Aa 5), .ref (Aa 6), .ref (Aa 7), .ref (Aa 8)])), ((Aa 1), .inl (tc 0, 10, .inl (Af 1))), ((Aa 2), .inl (tc 0, 10, .inl (Af 2))), ((Aa 3), .inl (tc 0, 6, .inl (Af 3))), ((Aa 4), .inl (tc 0, 6, .inl (Af 4))), ((Aa 5), .inl (tc 0, 6, .inl (Af 5))), ((Aa 6), .inl (tc 0, 6, .inl (Af 6))), ((Aa 7), .inl (tc 0, 6, .inl (Af 7))), ((Aa 8), .inl (tc 0, 6, .inl (Af 8))), ((Ea 0), .inr (9, [.int sv_22, .int sv_23, .int sv_24, .int sv_25, .int sv_26, .int sv_27, .ref (Ea 1), .ref (Ea 2), .ref (Ea 3), .ref (Ea 4), .ref (Ea 5), .ref (Ea 6), .ref (Ea 7), .ref (Ea 8)])), ((Ea 1), .inl (tc 0, 10, .inl sv_28)), ((Ea 2), .inl (tc 0, 10, .inl sv_29)), ((Ea 3), .inl (tc 0, 6, .inl sv_30)), ((Ea 4), .inl (tc 0, 6, .inl sv_31)), ((Ea 5), .inl (tc 0, 6, .inl sv_32)), ((Ea 6), .inl (tc 0, 6, .inl sv_33)), ((Ea 7), .inl (tc 0, 6, .inl sv_34)), ((Ea 8), .inl (tc 0, 6, .inl sv_35))] H := hP
      have hD : va_D A [((Ga 0), .inr (11, [.ref (Ga 1), .ref (Ga 2), .ref (Ga 3), .ref (Ga 4), .int (Gv 0), .ref (Ga 5), .ref (Aa 0), .ref (Pa 0), .ref (Ga 8), .ref (Ga 9), .ref (Ga 10), .ref (Ga 11)])), ((Pa 0), .inr (5, [.ref (Pa 1), .int sv_20, .int sv_21])), ((Pa 1), .inl (tc 5, 20, .inr (.inr (.inr (.inr (Pq 1)))))), ((Aa 0), .inr (9, [.int (Av 0), .int (Av 1), .int (Av 2), .int (Av 3), .int (Av 4), .int (Av 5), .ref (Aa 1), .ref (Aa 2), .ref (Aa 3), .ref (Aa 4), .ref (Aa 5), .ref (Aa 6), .ref (Aa 7), .ref (Aa 8)])), ((Aa 1), .inl (tc 0, 10, .inl (Af 1))), ((Aa 2), .inl (tc 0, 10, .inl (Af 2))), ((Aa 3), .inl (tc 0, 6, .inl (Af 3))), ((Aa 4), .inl (tc 0, 6, .inl (Af 4))), ((Aa 5), .inl (tc 0, 6, .inl (Af 5))), ((Aa 6), .inl (tc 0, 6, .inl (Af 6))), ((Aa 7), .inl (tc 0, 6, .inl (Af 7))), ((Aa 8), .inl (tc 0, 6, .inl (Af 8))), ((Ea 0), .inr (9, [.int sv_22, .int sv_23, .int sv_24, .int sv_25, .int sv_26, .int sv_27, .ref (Ea 1), .ref (Ea 2), .ref (Ea 3), .ref (Ea 4), .ref (Ea 5), .ref (Ea 6), .ref (Ea 7), .ref (Ea 8)])), ((Ea 1), .inl (tc 0, 10, .inl sv_28)), ((Ea 2), .inl (tc 0, 10, .inl sv_29)), ((Ea 3), .inl (tc 0, 6, .inl sv_30)), ((Ea 4), .inl (tc 0, 6, .inl sv_31)), ((Ea 5), .inl (tc 0, 6, .inl sv_32)), ((Ea 6), .inl (tc 0, 6, .inl sv_33)), ((Ea 7), .inl (tc 0, 6, .inl sv_34)), ((Ea 8), .inl (tc 0, 6, .inl sv_35))] := hD
      refine lv_aload_n hx hb dX11_watch_35 rfl (lv_at hl 0 rfl) ?_
      refine gf_X11_51 hx hb hts hown hK hP 0 rfl rfl dX11_watch_36 ?_
      refine gf_X11_173 hx hb hts hown hK hP 3 rfl rfl dX11_watch_39 ?_
      refine lv_iload_n hx hb dX11_watch_42 rfl (lv_at hl 1 rfl) ?_
      refine lv_dup2_11 hx hb dX11_watch_43 rfl rfl ?_
      have hi_37 : vp_in x1 10 := by
        have z_1 : ¬ (r_4 : Int32).toInt = (0 : Int32).toInt := fun z => c_6 (Int32.toInt_inj.mp z)
        have z_2 : ¬ (r_13 : Int32).toInt = (0 : Int32).toInt := fun z => c_15 (Int32.toInt_inj.mp z)
        have y_0 : (0 : Int32).toInt = 0 := by decide
        refine vp_in_iff.mpr ⟨?_, ?_⟩ <;> omega
      refine va_iald hx hb hK hP 5 0 rfl rfl hi_37 dX11_watch_44 ?_
      refine lv_topi (fun x_38 ex_38 => ?_)
      refine lv_iconst (v := 1) hx hb dX11_watch_45 (by decide) ?_
      refine lv_iload_n hx hb dX11_watch_46 rfl (lv_at hl 2 rfl) ?_
      refine lv_ishl hx hb dX11_watch_47 ?_
      refine lv_topi (fun x_39 ex_39 => ?_)
      refine lv_ixor hx hb dX11_watch_48 ?_
      refine lv_topi (fun x_40 ex_40 => ?_)
      have hi_41 : vp_in x1 10 := by
        have z_1 : ¬ (r_4 : Int32).toInt = (0 : Int32).toInt := fun z => c_6 (Int32.toInt_inj.mp z)
        have z_2 : ¬ (r_13 : Int32).toInt = (0 : Int32).toInt := fun z => c_15 (Int32.toInt_inj.mp z)
        have y_0 : (0 : Int32).toInt = 0 := by decide
        refine vp_in_iff.mpr ⟨?_, ?_⟩ <;> omega
      refine st_int hx hb hK hP hD hS 5 0 rfl rfl hi_41 dX11_watch_49 (fun g_42 H locs eg_42 hP hD hS => ?_)
      have hP : va_P D classes [((Ga 0), .inr (11, [.ref (Ga 1), .ref (Ga 2), .ref (Ga 3), .ref (Ga 4), .int (Gv 0), .ref (Ga 5), .ref (Aa 0), .ref (Pa 0), .ref (Ga 8), .ref (Ga 9), .ref (Ga 10), .ref (Ga 11)])), ((Pa 0), .inr (5, [.ref (Pa 1), .int sv_20, .int sv_21])), ((Pa 1), .inl (tc 5, 20, .inr (.inr (.inr (.inr (Pq 1)))))), ((Aa 0), .inr (9, [.int (Av 0), .int (Av 1), .int (Av 2), .int (Av 3), .int (Av 4), .int (Av 5), .ref (Aa 1), .ref (Aa 2), .ref (Aa 3), .ref (Aa 4), .ref (Aa 5), .ref (Aa 6), .ref (Aa 7), .ref (Aa 8)])), ((Aa 1), .inl (tc 0, 10, .inl (Af 1))), ((Aa 2), .inl (tc 0, 10, .inl g_42)), ((Aa 3), .inl (tc 0, 6, .inl (Af 3))), ((Aa 4), .inl (tc 0, 6, .inl (Af 4))), ((Aa 5), .inl (tc 0, 6, .inl (Af 5))), ((Aa 6), .inl (tc 0, 6, .inl (Af 6))), ((Aa 7), .inl (tc 0, 6, .inl (Af 7))), ((Aa 8), .inl (tc 0, 6, .inl (Af 8))), ((Ea 0), .inr (9, [.int sv_22, .int sv_23, .int sv_24, .int sv_25, .int sv_26, .int sv_27, .ref (Ea 1), .ref (Ea 2), .ref (Ea 3), .ref (Ea 4), .ref (Ea 5), .ref (Ea 6), .ref (Ea 7), .ref (Ea 8)])), ((Ea 1), .inl (tc 0, 10, .inl sv_28)), ((Ea 2), .inl (tc 0, 10, .inl sv_29)), ((Ea 3), .inl (tc 0, 6, .inl sv_30)), ((Ea 4), .inl (tc 0, 6, .inl sv_31)), ((Ea 5), .inl (tc 0, 6, .inl sv_32)), ((Ea 6), .inl (tc 0, 6, .inl sv_33)), ((Ea 7), .inl (tc 0, 6, .inl sv_34)), ((Ea 8), .inl (tc 0, 6, .inl sv_35))] H := hP
      have hD : va_D A [((Ga 0), .inr (11, [.ref (Ga 1), .ref (Ga 2), .ref (Ga 3), .ref (Ga 4), .int (Gv 0), .ref (Ga 5), .ref (Aa 0), .ref (Pa 0), .ref (Ga 8), .ref (Ga 9), .ref (Ga 10), .ref (Ga 11)])), ((Pa 0), .inr (5, [.ref (Pa 1), .int sv_20, .int sv_21])), ((Pa 1), .inl (tc 5, 20, .inr (.inr (.inr (.inr (Pq 1)))))), ((Aa 0), .inr (9, [.int (Av 0), .int (Av 1), .int (Av 2), .int (Av 3), .int (Av 4), .int (Av 5), .ref (Aa 1), .ref (Aa 2), .ref (Aa 3), .ref (Aa 4), .ref (Aa 5), .ref (Aa 6), .ref (Aa 7), .ref (Aa 8)])), ((Aa 1), .inl (tc 0, 10, .inl (Af 1))), ((Aa 2), .inl (tc 0, 10, .inl g_42)), ((Aa 3), .inl (tc 0, 6, .inl (Af 3))), ((Aa 4), .inl (tc 0, 6, .inl (Af 4))), ((Aa 5), .inl (tc 0, 6, .inl (Af 5))), ((Aa 6), .inl (tc 0, 6, .inl (Af 6))), ((Aa 7), .inl (tc 0, 6, .inl (Af 7))), ((Aa 8), .inl (tc 0, 6, .inl (Af 8))), ((Ea 0), .inr (9, [.int sv_22, .int sv_23, .int sv_24, .int sv_25, .int sv_26, .int sv_27, .ref (Ea 1), .ref (Ea 2), .ref (Ea 3), .ref (Ea 4), .ref (Ea 5), .ref (Ea 6), .ref (Ea 7), .ref (Ea 8)])), ((Ea 1), .inl (tc 0, 10, .inl sv_28)), ((Ea 2), .inl (tc 0, 10, .inl sv_29)), ((Ea 3), .inl (tc 0, 6, .inl sv_30)), ((Ea 4), .inl (tc 0, 6, .inl sv_31)), ((Ea 5), .inl (tc 0, 6, .inl sv_32)), ((Ea 6), .inl (tc 0, 6, .inl sv_33)), ((Ea 7), .inl (tc 0, 6, .inl sv_34)), ((Ea 8), .inl (tc 0, 6, .inl sv_35))] := hD
      refine lv_aload_n hx hb dX11_watch_50 rfl (lv_at hl 0 rfl) ?_
      refine gf_X11_51 hx hb hts hown hK hP 0 rfl rfl dX11_watch_51 ?_
      refine gf_X11_173 hx hb hts hown hK hP 3 rfl rfl dX11_watch_54 ?_
      refine lv_iload_n hx hb dX11_watch_57 rfl (lv_at hl 1 rfl) ?_
      have hi_43 : vp_in x1 10 := by
        have z_1 : ¬ (r_4 : Int32).toInt = (0 : Int32).toInt := fun z => c_6 (Int32.toInt_inj.mp z)
        have z_2 : ¬ (r_13 : Int32).toInt = (0 : Int32).toInt := fun z => c_15 (Int32.toInt_inj.mp z)
        have y_0 : (0 : Int32).toInt = 0 := by decide
        refine vp_in_iff.mpr ⟨?_, ?_⟩ <;> omega
      refine va_iald hx hb hK hP 5 0 rfl rfl hi_43 dX11_watch_58 ?_
      refine lv_topi (fun x_44 ex_44 => ?_)
      refine lv_iload_n hx hb dX11_watch_59 rfl (lv_at hl 2 rfl) ?_
      refine lv_ishr hx hb dX11_watch_60 ?_
      refine lv_topi (fun x_45 ex_45 => ?_)
      refine lv_iconst (v := 1) hx hb dX11_watch_61 (by decide) ?_
      refine lv_iand hx hb dX11_watch_62 ?_
      refine lv_topi (fun x_46 ex_46 => ?_)
      have ha_47 : 0 ≤ (sv_20 : Int32).toInt ∧ (sv_20 : Int32).toInt < 20 := by
        have z_1 : ¬ (r_4 : Int32).toInt = (0 : Int32).toInt := fun z => c_6 (Int32.toInt_inj.mp z)
        have z_2 : ¬ (r_13 : Int32).toInt = (0 : Int32).toInt := fun z => c_15 (Int32.toInt_inj.mp z)
        have y_0 : (0 : Int32).toInt = 0 := by decide
        omega
      have ha_48 : 0 ≤ ((Av 3) : Int32).toInt ∧ ((Av 3) : Int32).toInt ≤ 6 := by
        have z_1 : ¬ (r_4 : Int32).toInt = (0 : Int32).toInt := fun z => c_6 (Int32.toInt_inj.mp z)
        have z_2 : ¬ (r_13 : Int32).toInt = (0 : Int32).toInt := fun z => c_15 (Int32.toInt_inj.mp z)
        have y_0 : (0 : Int32).toInt = 0 := by decide
        omega
      have ha_49 : 0 ≤ (sv_25 : Int32).toInt ∧ (sv_25 : Int32).toInt ≤ 6 := by
        have z_1 : ¬ (r_4 : Int32).toInt = (0 : Int32).toInt := fun z => c_6 (Int32.toInt_inj.mp z)
        have z_2 : ¬ (r_13 : Int32).toInt = (0 : Int32).toInt := fun z => c_15 (Int32.toInt_inj.mp z)
        have y_0 : (0 : Int32).toInt = 0 := by decide
        omega
      exact retI (v := x_46) hx hb hr hlk (rfl) hP hD hS (g_42, sv_20, sv_21, sv_22, sv_23, sv_24, sv_25, sv_26, sv_27, sv_28, sv_29, sv_30, sv_31, sv_32, sv_33, sv_34, sv_35) ⟨_, rfl, trivial, ha_47, ha_48, ha_49⟩ [0, 3, 4, 5, 6, 7, 8, 9, 10, 11, 1, 2, 12, 13, 14, 15, 16, 17, 18, 19, 20] rfl rfl dX11_watch_63 (Nat.le_of_ble_eq_true rfl) (Nat.le_of_ble_eq_true rfl) rfl
    · skip
      refine lv_iconst (v := (-1)) hx hb dX11_watch_22 (by decide) ?_
      have ha_50 : 0 ≤ ((Pv 0) : Int32).toInt ∧ ((Pv 0) : Int32).toInt < 20 := by
        have z_1 : ¬ (r_4 : Int32).toInt = (0 : Int32).toInt := fun z => c_6 (Int32.toInt_inj.mp z)
        have z_2 := congrArg Int32.toInt c_15
        have y_0 : (0 : Int32).toInt = 0 := by decide
        omega
      have ha_51 : 0 ≤ ((Av 3) : Int32).toInt ∧ ((Av 3) : Int32).toInt ≤ 6 := by
        have z_1 : ¬ (r_4 : Int32).toInt = (0 : Int32).toInt := fun z => c_6 (Int32.toInt_inj.mp z)
        have z_2 := congrArg Int32.toInt c_15
        have y_0 : (0 : Int32).toInt = 0 := by decide
        omega
      have ha_52 : 0 ≤ ((Ev 3) : Int32).toInt ∧ ((Ev 3) : Int32).toInt ≤ 6 := by
        have z_1 : ¬ (r_4 : Int32).toInt = (0 : Int32).toInt := fun z => c_6 (Int32.toInt_inj.mp z)
        have z_2 := congrArg Int32.toInt c_15
        have y_0 : (0 : Int32).toInt = 0 := by decide
        omega
      exact retI (v := (-1)) hx hb hr hlk (rfl) hP hD hS ((Af 2), (Pv 0), (Pv 1), (Ev 0), (Ev 1), (Ev 2), (Ev 3), (Ev 4), (Ev 5), (Ef 1), (Ef 2), (Ef 3), (Ef 4), (Ef 5), (Ef 6), (Ef 7), (Ef 8)) ⟨_, rfl, trivial, ha_50, ha_51, ha_52⟩ [0, 12, 13, 14, 15, 16, 17, 18, 19, 20, 1, 2, 3, 4, 5, 6, 7, 8, 9, 10, 11] rfl rfl dX11_watch_23 (Nat.le_of_ble_eq_true rfl) (Nat.le_of_ble_eq_true rfl) rfl
set_option maxHeartbeats 4000000 in
set_option maxRecDepth 100000 in
theorem ct_X11_change_s (l : Launch) (D : va_G) (tc : Nat → ClassId) (sk : (Nat → Nat) × (Nat → Nat)) (Ga : Nat → Nat) (Gv : Nat → Int32) (Aa : Nat → Nat) (Av : Nat → Int32) (Af : Nat → Nat → Int32) (Pa : Nat → Nat) (Pv : Nat → Int32) (Pq : Nat → Nat → Option Nat) (Ea : Nat → Nat) (Ev : Nat → Int32) (Ef : Nat → Nat → Int32) (x1 : Int32) (x2 : Int32) (h_nx : 0 ≤ ((Pv 0) : Int32).toInt ∧ ((Pv 0) : Int32).toInt < 20) (h_q : (Pq 1) (Pv 0).toNatClampNeg = some (Ea 0)) (h_bA : 0 ≤ ((Av 3) : Int32).toInt ∧ ((Av 3) : Int32).toInt ≤ 6) (h_bE : 0 ≤ ((Ev 3) : Int32).toInt ∧ ((Ev 3) : Int32).toInt ≤ 6) : Ct l yX11_change cX11_change 4 (some .int) { frames := 3, cells := 0, slots := 0, locals := 83 } D tc sk [.ref (Ga 0), .int x1, .int x2] [((Ga 0), .inr (11, [.ref (Ga 1), .ref (Ga 2), .ref (Ga 3), .ref (Ga 4), .int (Gv 0), .ref (Ga 5), .ref (Aa 0), .ref (Pa 0), .ref (Ga 8), .ref (Ga 9), .ref (Ga 10), .ref (Ga 11)])), ((Aa 0), .inr (9, [.int (Av 0), .int (Av 1), .int (Av 2), .int (Av 3), .int (Av 4), .int (Av 5), .ref (Aa 1), .ref (Aa 2), .ref (Aa 3), .ref (Aa 4), .ref (Aa 5), .ref (Aa 6), .ref (Aa 7), .ref (Aa 8)])), ((Aa 1), .inl (tc 0, 10, .inl (Af 1))), ((Aa 2), .inl (tc 0, 10, .inl (Af 2))), ((Aa 3), .inl (tc 0, 6, .inl (Af 3))), ((Aa 4), .inl (tc 0, 6, .inl (Af 4))), ((Aa 5), .inl (tc 0, 6, .inl (Af 5))), ((Aa 6), .inl (tc 0, 6, .inl (Af 6))), ((Aa 7), .inl (tc 0, 6, .inl (Af 7))), ((Aa 8), .inl (tc 0, 6, .inl (Af 8))), ((Pa 0), .inr (5, [.ref (Pa 1), .int (Pv 0), .int (Pv 1)])), ((Pa 1), .inl (tc 5, 20, .inr (.inr (.inr (.inr (Pq 1)))))), ((Ea 0), .inr (9, [.int (Ev 0), .int (Ev 1), .int (Ev 2), .int (Ev 3), .int (Ev 4), .int (Ev 5), .ref (Ea 1), .ref (Ea 2), .ref (Ea 3), .ref (Ea 4), .ref (Ea 5), .ref (Ea 6), .ref (Ea 7), .ref (Ea 8)])), ((Ea 1), .inl (tc 0, 10, .inl (Ef 1))), ((Ea 2), .inl (tc 0, 10, .inl (Ef 2))), ((Ea 3), .inl (tc 0, 6, .inl (Ef 3))), ((Ea 4), .inl (tc 0, 6, .inl (Ef 4))), ((Ea 5), .inl (tc 0, 6, .inl (Ef 5))), ((Ea 6), .inl (tc 0, 6, .inl (Ef 6))), ((Ea 7), .inl (tc 0, 6, .inl (Ef 7))), ((Ea 8), .inl (tc 0, 6, .inl (Ef 8)))] (fun (v : Option Value) (u : (Nat → Int32) × (Int32) × (Int32) × (Int32) × (Int32) × (Int32) × (Int32) × (Int32) × (Int32) × (Nat → Int32) × (Nat → Int32) × (Nat → Int32) × (Nat → Int32) × (Nat → Int32) × (Nat → Int32) × (Nat → Int32) × (Nat → Int32)) => match u with | (oo0x1, oo0x2, oo0x3, oo0x4, oo0x5, oo0x6, oo0x7, oo0x8, oo0x9, oo0x10, oo0x11, oo0x12, oo0x13, oo0x14, oo0x15, oo0x16, oo0x17) => ∃ r : Int32, v = some (.int r) ∧ (True) ∧ (0 ≤ (oo0x2 : Int32).toInt ∧ (oo0x2 : Int32).toInt < 20) ∧ (0 ≤ ((Av 3) : Int32).toInt ∧ ((Av 3) : Int32).toInt ≤ 6) ∧ (0 ≤ (oo0x7 : Int32).toInt ∧ (oo0x7 : Int32).toInt ≤ 6)) (fun (u : (Nat → Int32) × (Int32) × (Int32) × (Int32) × (Int32) × (Int32) × (Int32) × (Int32) × (Int32) × (Nat → Int32) × (Nat → Int32) × (Nat → Int32) × (Nat → Int32) × (Nat → Int32) × (Nat → Int32) × (Nat → Int32) × (Nat → Int32)) => match u with | (oo0x1, oo0x2, oo0x3, oo0x4, oo0x5, oo0x6, oo0x7, oo0x8, oo0x9, oo0x10, oo0x11, oo0x12, oo0x13, oo0x14, oo0x15, oo0x16, oo0x17) => [((Ga 0), .inr (11, [.ref (Ga 1), .ref (Ga 2), .ref (Ga 3), .ref (Ga 4), .int (Gv 0), .ref (Ga 5), .ref (Aa 0), .ref (Pa 0), .ref (Ga 8), .ref (Ga 9), .ref (Ga 10), .ref (Ga 11)])), ((Aa 0), .inr (9, [.int (Av 0), .int (Av 1), .int (Av 2), .int (Av 3), .int (Av 4), .int (Av 5), .ref (Aa 1), .ref (Aa 2), .ref (Aa 3), .ref (Aa 4), .ref (Aa 5), .ref (Aa 6), .ref (Aa 7), .ref (Aa 8)])), ((Aa 1), .inl (tc 0, 10, .inl oo0x1)), ((Aa 2), .inl (tc 0, 10, .inl (Af 2))), ((Aa 3), .inl (tc 0, 6, .inl (Af 3))), ((Aa 4), .inl (tc 0, 6, .inl (Af 4))), ((Aa 5), .inl (tc 0, 6, .inl (Af 5))), ((Aa 6), .inl (tc 0, 6, .inl (Af 6))), ((Aa 7), .inl (tc 0, 6, .inl (Af 7))), ((Aa 8), .inl (tc 0, 6, .inl (Af 8))), ((Pa 0), .inr (5, [.ref (Pa 1), .int oo0x2, .int oo0x3])), ((Pa 1), .inl (tc 5, 20, .inr (.inr (.inr (.inr (Pq 1)))))), ((Ea 0), .inr (9, [.int oo0x4, .int oo0x5, .int oo0x6, .int oo0x7, .int oo0x8, .int oo0x9, .ref (Ea 1), .ref (Ea 2), .ref (Ea 3), .ref (Ea 4), .ref (Ea 5), .ref (Ea 6), .ref (Ea 7), .ref (Ea 8)])), ((Ea 1), .inl (tc 0, 10, .inl oo0x10)), ((Ea 2), .inl (tc 0, 10, .inl oo0x11)), ((Ea 3), .inl (tc 0, 6, .inl oo0x12)), ((Ea 4), .inl (tc 0, 6, .inl oo0x13)), ((Ea 5), .inl (tc 0, 6, .inl oo0x14)), ((Ea 6), .inl (tc 0, 6, .inl oo0x15)), ((Ea 7), .inl (tc 0, 6, .inl oo0x16)), ((Ea 8), .inl (tc 0, 6, .inl oo0x17))]) 0 0 := by
  refine Ct.start (by decide) (Nat.le_of_ble_eq_true rfl) (fun p e s m below meth c A ls hx hb hr hlk hin hml hown hts hK hX hP hD hA hl hS => ?_)
  have hl : lv_has ls 4 [(0, .ref (Ga 0)), (1, .int x1), (2, .int x2)] := hl
  refine lv_aload_n hx hb dX11_change_0 rfl (lv_at hl 0 rfl) ?_
  refine gf_X11_51 hx hb hts hown hK hP 0 rfl rfl dX11_change_1 ?_
  refine lv_iload_n hx hb dX11_change_4 rfl (lv_at hl 1 rfl) ?_
  refine cV (a := (Aa 0)) (As := [.int x1]) (rest := []) (wr := [((Ga 0), .inr (11, [.ref (Ga 1), .ref (Ga 2), .ref (Ga 3), .ref (Ga 4), .int (Gv 0), .ref (Ga 5), .ref (Aa 0), .ref (Pa 0), .ref (Ga 8), .ref (Ga 9), .ref (Ga 10), .ref (Ga 11)])), ((Pa 0), .inr (5, [.ref (Pa 1), .int (Pv 0), .int (Pv 1)])), ((Pa 1), .inl (tc 5, 20, .inr (.inr (.inr (.inr (Pq 1)))))), ((Ea 0), .inr (9, [.int (Ev 0), .int (Ev 1), .int (Ev 2), .int (Ev 3), .int (Ev 4), .int (Ev 5), .ref (Ea 1), .ref (Ea 2), .ref (Ea 3), .ref (Ea 4), .ref (Ea 5), .ref (Ea 6), .ref (Ea 7), .ref (Ea 8)])), ((Ea 1), .inl (tc 0, 10, .inl (Ef 1))), ((Ea 2), .inl (tc 0, 10, .inl (Ef 2))), ((Ea 3), .inl (tc 0, 6, .inl (Ef 3))), ((Ea 4), .inl (tc 0, 6, .inl (Ef 4))), ((Ea 5), .inl (tc 0, 6, .inl (Ef 5))), ((Ea 6), .inl (tc 0, 6, .inl (Ef 6))), ((Ea 7), .inl (tc 0, 6, .inl (Ef 7))), ((Ea 8), .inl (tc 0, 6, .inl (Ef 8)))]) ⟨hx, hb, hml, hown, hts⟩ hK hX hA (ct_X9_hasClock l D tc sk Aa Av Af x1) k_579 k_713 k_577 k_578 k_98 pl_X9_hasClock ⟨Nat.le_of_ble_eq_true rfl, Nat.le_of_ble_eq_true rfl⟩ rfl rfl (va_recv hK hP (ci := 9) (q0 := 1) rfl rfl) hP hD hS [1, 2, 3, 4, 5, 6, 7, 8, 9] [0, 10, 11, 12, 13, 14, 15, 16, 17, 18, 19, 20] rfl rfl rfl rfl rfl (by decide) rfl hl.1 rfl (Nat.le_of_ble_eq_true rfl) dX11_change_5 ⟨Nat.le_of_ble_eq_true rfl, Nat.le_of_ble_eq_true rfl⟩ (fun v_1 u_2 H locs hv_3 hP hD hS => ?_)
  obtain ⟨r_4, rfl, he_5⟩ := hv_3
  have he_5 : ((r_4.toInt = 0 ∨ (r_4.toInt = 1 ∧ 0 ≤ x1.toInt ∧ x1.toInt < 10))) := he_5
  refine W.eq (g2 := F0 m 8 ls [.int r_4]) rfl ?_
  have hP : va_P D classes [((Ga 0), .inr (11, [.ref (Ga 1), .ref (Ga 2), .ref (Ga 3), .ref (Ga 4), .int (Gv 0), .ref (Ga 5), .ref (Aa 0), .ref (Pa 0), .ref (Ga 8), .ref (Ga 9), .ref (Ga 10), .ref (Ga 11)])), ((Pa 0), .inr (5, [.ref (Pa 1), .int (Pv 0), .int (Pv 1)])), ((Pa 1), .inl (tc 5, 20, .inr (.inr (.inr (.inr (Pq 1)))))), ((Ea 0), .inr (9, [.int (Ev 0), .int (Ev 1), .int (Ev 2), .int (Ev 3), .int (Ev 4), .int (Ev 5), .ref (Ea 1), .ref (Ea 2), .ref (Ea 3), .ref (Ea 4), .ref (Ea 5), .ref (Ea 6), .ref (Ea 7), .ref (Ea 8)])), ((Ea 1), .inl (tc 0, 10, .inl (Ef 1))), ((Ea 2), .inl (tc 0, 10, .inl (Ef 2))), ((Ea 3), .inl (tc 0, 6, .inl (Ef 3))), ((Ea 4), .inl (tc 0, 6, .inl (Ef 4))), ((Ea 5), .inl (tc 0, 6, .inl (Ef 5))), ((Ea 6), .inl (tc 0, 6, .inl (Ef 6))), ((Ea 7), .inl (tc 0, 6, .inl (Ef 7))), ((Ea 8), .inl (tc 0, 6, .inl (Ef 8))), ((Aa 0), .inr (9, [.int (Av 0), .int (Av 1), .int (Av 2), .int (Av 3), .int (Av 4), .int (Av 5), .ref (Aa 1), .ref (Aa 2), .ref (Aa 3), .ref (Aa 4), .ref (Aa 5), .ref (Aa 6), .ref (Aa 7), .ref (Aa 8)])), ((Aa 1), .inl (tc 0, 10, .inl (Af 1))), ((Aa 2), .inl (tc 0, 10, .inl (Af 2))), ((Aa 3), .inl (tc 0, 6, .inl (Af 3))), ((Aa 4), .inl (tc 0, 6, .inl (Af 4))), ((Aa 5), .inl (tc 0, 6, .inl (Af 5))), ((Aa 6), .inl (tc 0, 6, .inl (Af 6))), ((Aa 7), .inl (tc 0, 6, .inl (Af 7))), ((Aa 8), .inl (tc 0, 6, .inl (Af 8)))] H := hP
  have hD : va_D A [((Ga 0), .inr (11, [.ref (Ga 1), .ref (Ga 2), .ref (Ga 3), .ref (Ga 4), .int (Gv 0), .ref (Ga 5), .ref (Aa 0), .ref (Pa 0), .ref (Ga 8), .ref (Ga 9), .ref (Ga 10), .ref (Ga 11)])), ((Pa 0), .inr (5, [.ref (Pa 1), .int (Pv 0), .int (Pv 1)])), ((Pa 1), .inl (tc 5, 20, .inr (.inr (.inr (.inr (Pq 1)))))), ((Ea 0), .inr (9, [.int (Ev 0), .int (Ev 1), .int (Ev 2), .int (Ev 3), .int (Ev 4), .int (Ev 5), .ref (Ea 1), .ref (Ea 2), .ref (Ea 3), .ref (Ea 4), .ref (Ea 5), .ref (Ea 6), .ref (Ea 7), .ref (Ea 8)])), ((Ea 1), .inl (tc 0, 10, .inl (Ef 1))), ((Ea 2), .inl (tc 0, 10, .inl (Ef 2))), ((Ea 3), .inl (tc 0, 6, .inl (Ef 3))), ((Ea 4), .inl (tc 0, 6, .inl (Ef 4))), ((Ea 5), .inl (tc 0, 6, .inl (Ef 5))), ((Ea 6), .inl (tc 0, 6, .inl (Ef 6))), ((Ea 7), .inl (tc 0, 6, .inl (Ef 7))), ((Ea 8), .inl (tc 0, 6, .inl (Ef 8))), ((Aa 0), .inr (9, [.int (Av 0), .int (Av 1), .int (Av 2), .int (Av 3), .int (Av 4), .int (Av 5), .ref (Aa 1), .ref (Aa 2), .ref (Aa 3), .ref (Aa 4), .ref (Aa 5), .ref (Aa 6), .ref (Aa 7), .ref (Aa 8)])), ((Aa 1), .inl (tc 0, 10, .inl (Af 1))), ((Aa 2), .inl (tc 0, 10, .inl (Af 2))), ((Aa 3), .inl (tc 0, 6, .inl (Af 3))), ((Aa 4), .inl (tc 0, 6, .inl (Af 4))), ((Aa 5), .inl (tc 0, 6, .inl (Af 5))), ((Aa 6), .inl (tc 0, 6, .inl (Af 6))), ((Aa 7), .inl (tc 0, 6, .inl (Af 7))), ((Aa 8), .inl (tc 0, 6, .inl (Af 8)))] := hD
  refine lv_if_eq (tgt := 34) hx hb dX11_change_8 (by decide) (fun c_6 => ?_) (fun c_6 => ?_)
  · skip
    refine lv_iconst (v := (-1)) hx hb dX11_change_34 (by decide) ?_
    have ha_7 : 0 ≤ ((Pv 0) : Int32).toInt ∧ ((Pv 0) : Int32).toInt < 20 := by
      have z_1 := congrArg Int32.toInt c_6
      have y_0 : (0 : Int32).toInt = 0 := by decide
      omega
    have ha_8 : 0 ≤ ((Av 3) : Int32).toInt ∧ ((Av 3) : Int32).toInt ≤ 6 := by
      have z_1 := congrArg Int32.toInt c_6
      have y_0 : (0 : Int32).toInt = 0 := by decide
      omega
    have ha_9 : 0 ≤ ((Ev 3) : Int32).toInt ∧ ((Ev 3) : Int32).toInt ≤ 6 := by
      have z_1 := congrArg Int32.toInt c_6
      have y_0 : (0 : Int32).toInt = 0 := by decide
      omega
    exact retI (v := (-1)) hx hb hr hlk (rfl) hP hD hS ((Af 1), (Pv 0), (Pv 1), (Ev 0), (Ev 1), (Ev 2), (Ev 3), (Ev 4), (Ev 5), (Ef 1), (Ef 2), (Ef 3), (Ef 4), (Ef 5), (Ef 6), (Ef 7), (Ef 8)) ⟨_, rfl, trivial, ha_7, ha_8, ha_9⟩ [0, 12, 13, 14, 15, 16, 17, 18, 19, 20, 1, 2, 3, 4, 5, 6, 7, 8, 9, 10, 11] rfl rfl dX11_change_35 (Nat.le_of_ble_eq_true rfl) (Nat.le_of_ble_eq_true rfl) rfl
  · skip
    refine lv_iload_n hx hb dX11_change_11 rfl (lv_at hl 2 rfl) ?_
    refine lv_iconst (v := 0) hx hb dX11_change_12 (by decide) ?_
    refine lv_bipush (v := 9) hx hb dX11_change_13 (by decide) ?_
    refine cS (As := [.int x2, .int 0, .int 9]) (rest := []) (wr := [((Ga 0), .inr (11, [.ref (Ga 1), .ref (Ga 2), .ref (Ga 3), .ref (Ga 4), .int (Gv 0), .ref (Ga 5), .ref (Aa 0), .ref (Pa 0), .ref (Ga 8), .ref (Ga 9), .ref (Ga 10), .ref (Ga 11)])), ((Pa 0), .inr (5, [.ref (Pa 1), .int (Pv 0), .int (Pv 1)])), ((Pa 1), .inl (tc 5, 20, .inr (.inr (.inr (.inr (Pq 1)))))), ((Ea 0), .inr (9, [.int (Ev 0), .int (Ev 1), .int (Ev 2), .int (Ev 3), .int (Ev 4), .int (Ev 5), .ref (Ea 1), .ref (Ea 2), .ref (Ea 3), .ref (Ea 4), .ref (Ea 5), .ref (Ea 6), .ref (Ea 7), .ref (Ea 8)])), ((Ea 1), .inl (tc 0, 10, .inl (Ef 1))), ((Ea 2), .inl (tc 0, 10, .inl (Ef 2))), ((Ea 3), .inl (tc 0, 6, .inl (Ef 3))), ((Ea 4), .inl (tc 0, 6, .inl (Ef 4))), ((Ea 5), .inl (tc 0, 6, .inl (Ef 5))), ((Ea 6), .inl (tc 0, 6, .inl (Ef 6))), ((Ea 7), .inl (tc 0, 6, .inl (Ef 7))), ((Ea 8), .inl (tc 0, 6, .inl (Ef 8))), ((Aa 0), .inr (9, [.int (Av 0), .int (Av 1), .int (Av 2), .int (Av 3), .int (Av 4), .int (Av 5), .ref (Aa 1), .ref (Aa 2), .ref (Aa 3), .ref (Aa 4), .ref (Aa 5), .ref (Aa 6), .ref (Aa 7), .ref (Aa 8)])), ((Aa 1), .inl (tc 0, 10, .inl (Af 1))), ((Aa 2), .inl (tc 0, 10, .inl (Af 2))), ((Aa 3), .inl (tc 0, 6, .inl (Af 3))), ((Aa 4), .inl (tc 0, 6, .inl (Af 4))), ((Aa 5), .inl (tc 0, 6, .inl (Af 5))), ((Aa 6), .inl (tc 0, 6, .inl (Af 6))), ((Aa 7), .inl (tc 0, 6, .inl (Af 7))), ((Aa 8), .inl (tc 0, 6, .inl (Af 8)))]) ⟨hx, hb, hml, hown, hts⟩ hK hX hA (ct_X11_isWithin l D tc sk x2 0 9) k_716 k_714 k_715 k_95 pl_X11_isWithin ⟨Nat.le_of_ble_eq_true rfl, Nat.le_of_ble_eq_true rfl⟩ rfl rfl  hP hD hS [] [0, 1, 2, 3, 4, 5, 6, 7, 8, 9, 10, 11, 12, 13, 14, 15, 16, 17, 18, 19, 20] rfl rfl rfl rfl rfl (by decide) rfl hl.1 rfl (Nat.le_of_ble_eq_true rfl) dX11_change_15 ⟨Nat.le_of_ble_eq_true rfl, Nat.le_of_ble_eq_true rfl⟩ (fun v_10 u_11 H locs hv_12 hP hD hS => ?_)
    obtain ⟨r_13, rfl, he_14⟩ := hv_12
    have he_14 : (r_13.toInt = 0 ∨ (r_13.toInt = 1 ∧ (0 : Int32).toInt ≤ x2.toInt ∧ x2.toInt ≤ (9 : Int32).toInt)) := he_14
    refine W.eq (g2 := F0 m 18 ls [.int r_13]) rfl ?_
    have hP : va_P D classes [((Ga 0), .inr (11, [.ref (Ga 1), .ref (Ga 2), .ref (Ga 3), .ref (Ga 4), .int (Gv 0), .ref (Ga 5), .ref (Aa 0), .ref (Pa 0), .ref (Ga 8), .ref (Ga 9), .ref (Ga 10), .ref (Ga 11)])), ((Pa 0), .inr (5, [.ref (Pa 1), .int (Pv 0), .int (Pv 1)])), ((Pa 1), .inl (tc 5, 20, .inr (.inr (.inr (.inr (Pq 1)))))), ((Ea 0), .inr (9, [.int (Ev 0), .int (Ev 1), .int (Ev 2), .int (Ev 3), .int (Ev 4), .int (Ev 5), .ref (Ea 1), .ref (Ea 2), .ref (Ea 3), .ref (Ea 4), .ref (Ea 5), .ref (Ea 6), .ref (Ea 7), .ref (Ea 8)])), ((Ea 1), .inl (tc 0, 10, .inl (Ef 1))), ((Ea 2), .inl (tc 0, 10, .inl (Ef 2))), ((Ea 3), .inl (tc 0, 6, .inl (Ef 3))), ((Ea 4), .inl (tc 0, 6, .inl (Ef 4))), ((Ea 5), .inl (tc 0, 6, .inl (Ef 5))), ((Ea 6), .inl (tc 0, 6, .inl (Ef 6))), ((Ea 7), .inl (tc 0, 6, .inl (Ef 7))), ((Ea 8), .inl (tc 0, 6, .inl (Ef 8))), ((Aa 0), .inr (9, [.int (Av 0), .int (Av 1), .int (Av 2), .int (Av 3), .int (Av 4), .int (Av 5), .ref (Aa 1), .ref (Aa 2), .ref (Aa 3), .ref (Aa 4), .ref (Aa 5), .ref (Aa 6), .ref (Aa 7), .ref (Aa 8)])), ((Aa 1), .inl (tc 0, 10, .inl (Af 1))), ((Aa 2), .inl (tc 0, 10, .inl (Af 2))), ((Aa 3), .inl (tc 0, 6, .inl (Af 3))), ((Aa 4), .inl (tc 0, 6, .inl (Af 4))), ((Aa 5), .inl (tc 0, 6, .inl (Af 5))), ((Aa 6), .inl (tc 0, 6, .inl (Af 6))), ((Aa 7), .inl (tc 0, 6, .inl (Af 7))), ((Aa 8), .inl (tc 0, 6, .inl (Af 8)))] H := hP
    have hD : va_D A [((Ga 0), .inr (11, [.ref (Ga 1), .ref (Ga 2), .ref (Ga 3), .ref (Ga 4), .int (Gv 0), .ref (Ga 5), .ref (Aa 0), .ref (Pa 0), .ref (Ga 8), .ref (Ga 9), .ref (Ga 10), .ref (Ga 11)])), ((Pa 0), .inr (5, [.ref (Pa 1), .int (Pv 0), .int (Pv 1)])), ((Pa 1), .inl (tc 5, 20, .inr (.inr (.inr (.inr (Pq 1)))))), ((Ea 0), .inr (9, [.int (Ev 0), .int (Ev 1), .int (Ev 2), .int (Ev 3), .int (Ev 4), .int (Ev 5), .ref (Ea 1), .ref (Ea 2), .ref (Ea 3), .ref (Ea 4), .ref (Ea 5), .ref (Ea 6), .ref (Ea 7), .ref (Ea 8)])), ((Ea 1), .inl (tc 0, 10, .inl (Ef 1))), ((Ea 2), .inl (tc 0, 10, .inl (Ef 2))), ((Ea 3), .inl (tc 0, 6, .inl (Ef 3))), ((Ea 4), .inl (tc 0, 6, .inl (Ef 4))), ((Ea 5), .inl (tc 0, 6, .inl (Ef 5))), ((Ea 6), .inl (tc 0, 6, .inl (Ef 6))), ((Ea 7), .inl (tc 0, 6, .inl (Ef 7))), ((Ea 8), .inl (tc 0, 6, .inl (Ef 8))), ((Aa 0), .inr (9, [.int (Av 0), .int (Av 1), .int (Av 2), .int (Av 3), .int (Av 4), .int (Av 5), .ref (Aa 1), .ref (Aa 2), .ref (Aa 3), .ref (Aa 4), .ref (Aa 5), .ref (Aa 6), .ref (Aa 7), .ref (Aa 8)])), ((Aa 1), .inl (tc 0, 10, .inl (Af 1))), ((Aa 2), .inl (tc 0, 10, .inl (Af 2))), ((Aa 3), .inl (tc 0, 6, .inl (Af 3))), ((Aa 4), .inl (tc 0, 6, .inl (Af 4))), ((Aa 5), .inl (tc 0, 6, .inl (Af 5))), ((Aa 6), .inl (tc 0, 6, .inl (Af 6))), ((Aa 7), .inl (tc 0, 6, .inl (Af 7))), ((Aa 8), .inl (tc 0, 6, .inl (Af 8)))] := hD
    refine lv_if_eq (tgt := 34) hx hb dX11_change_18 (by decide) (fun c_16 => ?_) (fun c_16 => ?_)
    · skip
      refine lv_iconst (v := (-1)) hx hb dX11_change_34 (by decide) ?_
      have ha_17 : 0 ≤ ((Pv 0) : Int32).toInt ∧ ((Pv 0) : Int32).toInt < 20 := by
        have z_1 : ¬ (r_4 : Int32).toInt = (0 : Int32).toInt := fun z => c_6 (Int32.toInt_inj.mp z)
        have z_2 := congrArg Int32.toInt c_16
        have y_0 : (0 : Int32).toInt = 0 := by decide
        omega
      have ha_18 : 0 ≤ ((Av 3) : Int32).toInt ∧ ((Av 3) : Int32).toInt ≤ 6 := by
        have z_1 : ¬ (r_4 : Int32).toInt = (0 : Int32).toInt := fun z => c_6 (Int32.toInt_inj.mp z)
        have z_2 := congrArg Int32.toInt c_16
        have y_0 : (0 : Int32).toInt = 0 := by decide
        omega
      have ha_19 : 0 ≤ ((Ev 3) : Int32).toInt ∧ ((Ev 3) : Int32).toInt ≤ 6 := by
        have z_1 : ¬ (r_4 : Int32).toInt = (0 : Int32).toInt := fun z => c_6 (Int32.toInt_inj.mp z)
        have z_2 := congrArg Int32.toInt c_16
        have y_0 : (0 : Int32).toInt = 0 := by decide
        omega
      exact retI (v := (-1)) hx hb hr hlk (rfl) hP hD hS ((Af 1), (Pv 0), (Pv 1), (Ev 0), (Ev 1), (Ev 2), (Ev 3), (Ev 4), (Ev 5), (Ef 1), (Ef 2), (Ef 3), (Ef 4), (Ef 5), (Ef 6), (Ef 7), (Ef 8)) ⟨_, rfl, trivial, ha_17, ha_18, ha_19⟩ [0, 12, 13, 14, 15, 16, 17, 18, 19, 20, 1, 2, 3, 4, 5, 6, 7, 8, 9, 10, 11] rfl rfl dX11_change_35 (Nat.le_of_ble_eq_true rfl) (Nat.le_of_ble_eq_true rfl) rfl
    · skip
      refine lv_aload_n hx hb dX11_change_21 rfl (lv_at hl 0 rfl) ?_
      refine gf_X11_51 hx hb hts hown hK hP 0 rfl rfl dX11_change_22 ?_
      refine gf_X11_170 hx hb hts hown hK hP 12 rfl rfl dX11_change_25 ?_
      refine lv_iload_n hx hb dX11_change_28 rfl (lv_at hl 1 rfl) ?_
      have hi_20 : vp_in x1 10 := by
        have z_1 : ¬ (r_4 : Int32).toInt = (0 : Int32).toInt := fun z => c_6 (Int32.toInt_inj.mp z)
        have z_2 : ¬ (r_13 : Int32).toInt = (0 : Int32).toInt := fun z => c_16 (Int32.toInt_inj.mp z)
        have y_0 : (0 : Int32).toInt = 0 := by decide
        refine vp_in_iff.mpr ⟨?_, ?_⟩ <;> omega
      refine va_iald hx hb hK hP 13 0 rfl rfl hi_20 dX11_change_29 ?_
      refine lv_topi (fun x_21 ex_21 => ?_)
      refine lv_iload_n hx hb dX11_change_30 rfl (lv_at hl 2 rfl) ?_
      refine lv_icmp_ne (tgt := 36) hx hb dX11_change_31 (by decide) (fun c_22 => ?_) (fun c_22 => ?_)
      · skip
        refine lv_aload_n hx hb dX11_change_36 rfl (lv_at hl 0 rfl) ?_
        refine gf_X11_57 hx hb hts hown hK hP 0 rfl rfl dX11_change_37 ?_
        refine lv_aload_n hx hb dX11_change_40 rfl (lv_at hl 0 rfl) ?_
        refine gf_X11_51 hx hb hts hown hK hP 0 rfl rfl dX11_change_41 ?_
        have ha_23 : 0 ≤ ((Pv 0) : Int32).toInt ∧ ((Pv 0) : Int32).toInt < 20 := by
          have z_1 : ¬ (r_4 : Int32).toInt = (0 : Int32).toInt := fun z => c_6 (Int32.toInt_inj.mp z)
          have z_2 : ¬ (r_13 : Int32).toInt = (0 : Int32).toInt := fun z => c_16 (Int32.toInt_inj.mp z)
          have z_3 : ¬ (x_21 : Int32).toInt = (x2 : Int32).toInt := fun z => c_22 (Int32.toInt_inj.mp z)
          have y_0 : (0 : Int32).toInt = 0 := by decide
          omega
        refine cV (a := (Pa 0)) (As := [.ref (Aa 0)]) (rest := []) (wr := [((Ga 0), .inr (11, [.ref (Ga 1), .ref (Ga 2), .ref (Ga 3), .ref (Ga 4), .int (Gv 0), .ref (Ga 5), .ref (Aa 0), .ref (Pa 0), .ref (Ga 8), .ref (Ga 9), .ref (Ga 10), .ref (Ga 11)]))]) ⟨hx, hb, hml, hown, hts⟩ hK hX hA (ct_X5_keep_s l D tc sk Pa Pv Pq Aa Av Af Ea Ev Ef ha_23 h_q) k_728 k_725 k_726 k_727 k_102 pl_X5_keep ⟨Nat.le_of_ble_eq_true rfl, Nat.le_of_ble_eq_true rfl⟩ rfl rfl (va_recv hK hP (ci := 5) (q0 := 1) rfl rfl) hP hD hS [1, 2, 12, 13, 14, 15, 16, 17, 18, 19, 20, 3, 4, 5, 6, 7, 8, 9, 10, 11] [0] rfl rfl rfl rfl rfl (by decide) rfl hl.1 rfl (Nat.le_of_ble_eq_true rfl) dX11_change_44 ⟨Nat.le_of_ble_eq_true rfl, Nat.le_of_ble_eq_true rfl⟩ (fun v_24 u_25 H locs hv_26 hP hD hS => ?_)
        obtain ⟨sv_27, sv_28, sv_29, sv_30, sv_31, sv_32, sv_33, sv_34, sv_35, sv_36, sv_37, sv_38, sv_39, sv_40, sv_41, sv_42⟩ := u_25
        obtain ⟨rfl, pf_43⟩ := hv_26
        have pf_43 : 0 ≤ (sv_27 : Int32).toInt ∧ (sv_27 : Int32).toInt < 20 := pf_43
        refine W.eq (g2 := F0 m 47 ls []) rfl ?_
        have hP : va_P D classes [((Ga 0), .inr (11, [.ref (Ga 1), .ref (Ga 2), .ref (Ga 3), .ref (Ga 4), .int (Gv 0), .ref (Ga 5), .ref (Aa 0), .ref (Pa 0), .ref (Ga 8), .ref (Ga 9), .ref (Ga 10), .ref (Ga 11)])), ((Pa 0), .inr (5, [.ref (Pa 1), .int sv_27, .int sv_28])), ((Pa 1), .inl (tc 5, 20, .inr (.inr (.inr (.inr (Pq 1)))))), ((Aa 0), .inr (9, [.int (Av 0), .int (Av 1), .int (Av 2), .int (Av 3), .int (Av 4), .int (Av 5), .ref (Aa 1), .ref (Aa 2), .ref (Aa 3), .ref (Aa 4), .ref (Aa 5), .ref (Aa 6), .ref (Aa 7), .ref (Aa 8)])), ((Aa 1), .inl (tc 0, 10, .inl (Af 1))), ((Aa 2), .inl (tc 0, 10, .inl (Af 2))), ((Aa 3), .inl (tc 0, 6, .inl (Af 3))), ((Aa 4), .inl (tc 0, 6, .inl (Af 4))), ((Aa 5), .inl (tc 0, 6, .inl (Af 5))), ((Aa 6), .inl (tc 0, 6, .inl (Af 6))), ((Aa 7), .inl (tc 0, 6, .inl (Af 7))), ((Aa 8), .inl (tc 0, 6, .inl (Af 8))), ((Ea 0), .inr (9, [.int sv_29, .int sv_30, .int sv_31, .int sv_32, .int sv_33, .int sv_34, .ref (Ea 1), .ref (Ea 2), .ref (Ea 3), .ref (Ea 4), .ref (Ea 5), .ref (Ea 6), .ref (Ea 7), .ref (Ea 8)])), ((Ea 1), .inl (tc 0, 10, .inl sv_35)), ((Ea 2), .inl (tc 0, 10, .inl sv_36)), ((Ea 3), .inl (tc 0, 6, .inl sv_37)), ((Ea 4), .inl (tc 0, 6, .inl sv_38)), ((Ea 5), .inl (tc 0, 6, .inl sv_39)), ((Ea 6), .inl (tc 0, 6, .inl sv_40)), ((Ea 7), .inl (tc 0, 6, .inl sv_41)), ((Ea 8), .inl (tc 0, 6, .inl sv_42))] H := hP
        have hD : va_D A [((Ga 0), .inr (11, [.ref (Ga 1), .ref (Ga 2), .ref (Ga 3), .ref (Ga 4), .int (Gv 0), .ref (Ga 5), .ref (Aa 0), .ref (Pa 0), .ref (Ga 8), .ref (Ga 9), .ref (Ga 10), .ref (Ga 11)])), ((Pa 0), .inr (5, [.ref (Pa 1), .int sv_27, .int sv_28])), ((Pa 1), .inl (tc 5, 20, .inr (.inr (.inr (.inr (Pq 1)))))), ((Aa 0), .inr (9, [.int (Av 0), .int (Av 1), .int (Av 2), .int (Av 3), .int (Av 4), .int (Av 5), .ref (Aa 1), .ref (Aa 2), .ref (Aa 3), .ref (Aa 4), .ref (Aa 5), .ref (Aa 6), .ref (Aa 7), .ref (Aa 8)])), ((Aa 1), .inl (tc 0, 10, .inl (Af 1))), ((Aa 2), .inl (tc 0, 10, .inl (Af 2))), ((Aa 3), .inl (tc 0, 6, .inl (Af 3))), ((Aa 4), .inl (tc 0, 6, .inl (Af 4))), ((Aa 5), .inl (tc 0, 6, .inl (Af 5))), ((Aa 6), .inl (tc 0, 6, .inl (Af 6))), ((Aa 7), .inl (tc 0, 6, .inl (Af 7))), ((Aa 8), .inl (tc 0, 6, .inl (Af 8))), ((Ea 0), .inr (9, [.int sv_29, .int sv_30, .int sv_31, .int sv_32, .int sv_33, .int sv_34, .ref (Ea 1), .ref (Ea 2), .ref (Ea 3), .ref (Ea 4), .ref (Ea 5), .ref (Ea 6), .ref (Ea 7), .ref (Ea 8)])), ((Ea 1), .inl (tc 0, 10, .inl sv_35)), ((Ea 2), .inl (tc 0, 10, .inl sv_36)), ((Ea 3), .inl (tc 0, 6, .inl sv_37)), ((Ea 4), .inl (tc 0, 6, .inl sv_38)), ((Ea 5), .inl (tc 0, 6, .inl sv_39)), ((Ea 6), .inl (tc 0, 6, .inl sv_40)), ((Ea 7), .inl (tc 0, 6, .inl sv_41)), ((Ea 8), .inl (tc 0, 6, .inl sv_42))] := hD
        refine lv_aload_n hx hb dX11_change_47 rfl (lv_at hl 0 rfl) ?_
        refine gf_X11_51 hx hb hts hown hK hP 0 rfl rfl dX11_change_48 ?_
        refine gf_X11_170 hx hb hts hown hK hP 3 rfl rfl dX11_change_51 ?_
        refine lv_iload_n hx hb dX11_change_54 rfl (lv_at hl 1 rfl) ?_
        have hi_44 : vp_in x1 10 := by
          have z_1 : ¬ (r_4 : Int32).toInt = (0 : Int32).toInt := fun z => c_6 (Int32.toInt_inj.mp z)
          have z_2 : ¬ (r_13 : Int32).toInt = (0 : Int32).toInt := fun z => c_16 (Int32.toInt_inj.mp z)
          have z_3 : ¬ (x_21 : Int32).toInt = (x2 : Int32).toInt := fun z => c_22 (Int32.toInt_inj.mp z)
          have y_0 : (0 : Int32).toInt = 0 := by decide
          refine vp_in_iff.mpr ⟨?_, ?_⟩ <;> omega
        refine va_iald hx hb hK hP 4 0 rfl rfl hi_44 dX11_change_55 ?_
        refine lv_topi (fun x_45 ex_45 => ?_)
        refine lv_istore_n (lv' := [(3, .int x_45), (0, .ref (Ga 0)), (1, .int x1), (2, .int x2)]) hx hb dX11_change_56 rfl hl (by decide) rfl (fun ls hl => ?_)
        refine lv_aload_n hx hb dX11_change_57 rfl (lv_at hl 1 rfl) ?_
        refine gf_X11_51 hx hb hts hown hK hP 0 rfl rfl dX11_change_58 ?_
        refine gf_X11_170 hx hb hts hown hK hP 3 rfl rfl dX11_change_61 ?_
        refine lv_iload_n hx hb dX11_change_64 rfl (lv_at hl 2 rfl) ?_
        refine lv_iload_n hx hb dX11_change_65 rfl (lv_at hl 3 rfl) ?_
        have hi_46 : vp_in x1 10 := by
          have z_1 : ¬ (r_4 : Int32).toInt = (0 : Int32).toInt := fun z => c_6 (Int32.toInt_inj.mp z)
          have z_2 : ¬ (r_13 : Int32).toInt = (0 : Int32).toInt := fun z => c_16 (Int32.toInt_inj.mp z)
          have z_3 : ¬ (x_21 : Int32).toInt = (x2 : Int32).toInt := fun z => c_22 (Int32.toInt_inj.mp z)
          have y_0 : (0 : Int32).toInt = 0 := by decide
          refine vp_in_iff.mpr ⟨?_, ?_⟩ <;> omega
        refine st_int hx hb hK hP hD hS 4 0 rfl rfl hi_46 dX11_change_66 (fun g_47 H locs eg_47 hP hD hS => ?_)
        have hP : va_P D classes [((Ga 0), .inr (11, [.ref (Ga 1), .ref (Ga 2), .ref (Ga 3), .ref (Ga 4), .int (Gv 0), .ref (Ga 5), .ref (Aa 0), .ref (Pa 0), .ref (Ga 8), .ref (Ga 9), .ref (Ga 10), .ref (Ga 11)])), ((Pa 0), .inr (5, [.ref (Pa 1), .int sv_27, .int sv_28])), ((Pa 1), .inl (tc 5, 20, .inr (.inr (.inr (.inr (Pq 1)))))), ((Aa 0), .inr (9, [.int (Av 0), .int (Av 1), .int (Av 2), .int (Av 3), .int (Av 4), .int (Av 5), .ref (Aa 1), .ref (Aa 2), .ref (Aa 3), .ref (Aa 4), .ref (Aa 5), .ref (Aa 6), .ref (Aa 7), .ref (Aa 8)])), ((Aa 1), .inl (tc 0, 10, .inl g_47)), ((Aa 2), .inl (tc 0, 10, .inl (Af 2))), ((Aa 3), .inl (tc 0, 6, .inl (Af 3))), ((Aa 4), .inl (tc 0, 6, .inl (Af 4))), ((Aa 5), .inl (tc 0, 6, .inl (Af 5))), ((Aa 6), .inl (tc 0, 6, .inl (Af 6))), ((Aa 7), .inl (tc 0, 6, .inl (Af 7))), ((Aa 8), .inl (tc 0, 6, .inl (Af 8))), ((Ea 0), .inr (9, [.int sv_29, .int sv_30, .int sv_31, .int sv_32, .int sv_33, .int sv_34, .ref (Ea 1), .ref (Ea 2), .ref (Ea 3), .ref (Ea 4), .ref (Ea 5), .ref (Ea 6), .ref (Ea 7), .ref (Ea 8)])), ((Ea 1), .inl (tc 0, 10, .inl sv_35)), ((Ea 2), .inl (tc 0, 10, .inl sv_36)), ((Ea 3), .inl (tc 0, 6, .inl sv_37)), ((Ea 4), .inl (tc 0, 6, .inl sv_38)), ((Ea 5), .inl (tc 0, 6, .inl sv_39)), ((Ea 6), .inl (tc 0, 6, .inl sv_40)), ((Ea 7), .inl (tc 0, 6, .inl sv_41)), ((Ea 8), .inl (tc 0, 6, .inl sv_42))] H := hP
        have hD : va_D A [((Ga 0), .inr (11, [.ref (Ga 1), .ref (Ga 2), .ref (Ga 3), .ref (Ga 4), .int (Gv 0), .ref (Ga 5), .ref (Aa 0), .ref (Pa 0), .ref (Ga 8), .ref (Ga 9), .ref (Ga 10), .ref (Ga 11)])), ((Pa 0), .inr (5, [.ref (Pa 1), .int sv_27, .int sv_28])), ((Pa 1), .inl (tc 5, 20, .inr (.inr (.inr (.inr (Pq 1)))))), ((Aa 0), .inr (9, [.int (Av 0), .int (Av 1), .int (Av 2), .int (Av 3), .int (Av 4), .int (Av 5), .ref (Aa 1), .ref (Aa 2), .ref (Aa 3), .ref (Aa 4), .ref (Aa 5), .ref (Aa 6), .ref (Aa 7), .ref (Aa 8)])), ((Aa 1), .inl (tc 0, 10, .inl g_47)), ((Aa 2), .inl (tc 0, 10, .inl (Af 2))), ((Aa 3), .inl (tc 0, 6, .inl (Af 3))), ((Aa 4), .inl (tc 0, 6, .inl (Af 4))), ((Aa 5), .inl (tc 0, 6, .inl (Af 5))), ((Aa 6), .inl (tc 0, 6, .inl (Af 6))), ((Aa 7), .inl (tc 0, 6, .inl (Af 7))), ((Aa 8), .inl (tc 0, 6, .inl (Af 8))), ((Ea 0), .inr (9, [.int sv_29, .int sv_30, .int sv_31, .int sv_32, .int sv_33, .int sv_34, .ref (Ea 1), .ref (Ea 2), .ref (Ea 3), .ref (Ea 4), .ref (Ea 5), .ref (Ea 6), .ref (Ea 7), .ref (Ea 8)])), ((Ea 1), .inl (tc 0, 10, .inl sv_35)), ((Ea 2), .inl (tc 0, 10, .inl sv_36)), ((Ea 3), .inl (tc 0, 6, .inl sv_37)), ((Ea 4), .inl (tc 0, 6, .inl sv_38)), ((Ea 5), .inl (tc 0, 6, .inl sv_39)), ((Ea 6), .inl (tc 0, 6, .inl sv_40)), ((Ea 7), .inl (tc 0, 6, .inl sv_41)), ((Ea 8), .inl (tc 0, 6, .inl sv_42))] := hD
        refine lv_iload_n hx hb dX11_change_67 rfl (lv_at hl 0 rfl) ?_
        have ha_48 : 0 ≤ (sv_27 : Int32).toInt ∧ (sv_27 : Int32).toInt < 20 := by
          have z_1 : ¬ (r_4 : Int32).toInt = (0 : Int32).toInt := fun z => c_6 (Int32.toInt_inj.mp z)
          have z_2 : ¬ (r_13 : Int32).toInt = (0 : Int32).toInt := fun z => c_16 (Int32.toInt_inj.mp z)
          have z_3 : ¬ (x_21 : Int32).toInt = (x2 : Int32).toInt := fun z => c_22 (Int32.toInt_inj.mp z)
          have y_0 : (0 : Int32).toInt = 0 := by decide
          omega
        have ha_49 : 0 ≤ ((Av 3) : Int32).toInt ∧ ((Av 3) : Int32).toInt ≤ 6 := by
          have z_1 : ¬ (r_4 : Int32).toInt = (0 : Int32).toInt := fun z => c_6 (Int32.toInt_inj.mp z)
          have z_2 : ¬ (r_13 : Int32).toInt = (0 : Int32).toInt := fun z => c_16 (Int32.toInt_inj.mp z)
          have z_3 : ¬ (x_21 : Int32).toInt = (x2 : Int32).toInt := fun z => c_22 (Int32.toInt_inj.mp z)
          have y_0 : (0 : Int32).toInt = 0 := by decide
          omega
        have ha_50 : 0 ≤ (sv_32 : Int32).toInt ∧ (sv_32 : Int32).toInt ≤ 6 := by
          have z_1 : ¬ (r_4 : Int32).toInt = (0 : Int32).toInt := fun z => c_6 (Int32.toInt_inj.mp z)
          have z_2 : ¬ (r_13 : Int32).toInt = (0 : Int32).toInt := fun z => c_16 (Int32.toInt_inj.mp z)
          have z_3 : ¬ (x_21 : Int32).toInt = (x2 : Int32).toInt := fun z => c_22 (Int32.toInt_inj.mp z)
          have y_0 : (0 : Int32).toInt = 0 := by decide
          omega
        exact retI (v := x_45) hx hb hr hlk (rfl) hP hD hS (g_47, sv_27, sv_28, sv_29, sv_30, sv_31, sv_32, sv_33, sv_34, sv_35, sv_36, sv_37, sv_38, sv_39, sv_40, sv_41, sv_42) ⟨_, rfl, trivial, ha_48, ha_49, ha_50⟩ [0, 3, 4, 5, 6, 7, 8, 9, 10, 11, 1, 2, 12, 13, 14, 15, 16, 17, 18, 19, 20] rfl rfl dX11_change_68 (Nat.le_of_ble_eq_true rfl) (Nat.le_of_ble_eq_true rfl) rfl
      · skip
        refine lv_iconst (v := (-1)) hx hb dX11_change_34 (by decide) ?_
        have ha_51 : 0 ≤ ((Pv 0) : Int32).toInt ∧ ((Pv 0) : Int32).toInt < 20 := by
          have z_1 : ¬ (r_4 : Int32).toInt = (0 : Int32).toInt := fun z => c_6 (Int32.toInt_inj.mp z)
          have z_2 : ¬ (r_13 : Int32).toInt = (0 : Int32).toInt := fun z => c_16 (Int32.toInt_inj.mp z)
          have z_3 := congrArg Int32.toInt c_22
          have y_0 : (0 : Int32).toInt = 0 := by decide
          omega
        have ha_52 : 0 ≤ ((Av 3) : Int32).toInt ∧ ((Av 3) : Int32).toInt ≤ 6 := by
          have z_1 : ¬ (r_4 : Int32).toInt = (0 : Int32).toInt := fun z => c_6 (Int32.toInt_inj.mp z)
          have z_2 : ¬ (r_13 : Int32).toInt = (0 : Int32).toInt := fun z => c_16 (Int32.toInt_inj.mp z)
          have z_3 := congrArg Int32.toInt c_22
          have y_0 : (0 : Int32).toInt = 0 := by decide
          omega
        have ha_53 : 0 ≤ ((Ev 3) : Int32).toInt ∧ ((Ev 3) : Int32).toInt ≤ 6 := by
          have z_1 : ¬ (r_4 : Int32).toInt = (0 : Int32).toInt := fun z => c_6 (Int32.toInt_inj.mp z)
          have z_2 : ¬ (r_13 : Int32).toInt = (0 : Int32).toInt := fun z => c_16 (Int32.toInt_inj.mp z)
          have z_3 := congrArg Int32.toInt c_22
          have y_0 : (0 : Int32).toInt = 0 := by decide
          omega
        exact retI (v := (-1)) hx hb hr hlk (rfl) hP hD hS ((Af 1), (Pv 0), (Pv 1), (Ev 0), (Ev 1), (Ev 2), (Ev 3), (Ev 4), (Ev 5), (Ef 1), (Ef 2), (Ef 3), (Ef 4), (Ef 5), (Ef 6), (Ef 7), (Ef 8)) ⟨_, rfl, trivial, ha_51, ha_52, ha_53⟩ [0, 12, 13, 14, 15, 16, 17, 18, 19, 20, 1, 2, 3, 4, 5, 6, 7, 8, 9, 10, 11] rfl rfl dX11_change_35 (Nat.le_of_ble_eq_true rfl) (Nat.le_of_ble_eq_true rfl) rfl
set_option maxHeartbeats 4000000 in
set_option maxRecDepth 100000 in
theorem ct_X11_undo_s (l : Launch) (D : va_G) (tc : Nat → ClassId) (sk : (Nat → Nat) × (Nat → Nat)) (Ga : Nat → Nat) (Gv : Nat → Int32) (Aa : Nat → Nat) (Av : Nat → Int32) (Af : Nat → Nat → Int32) (Pa : Nat → Nat) (Pv : Nat → Int32) (Pq : Nat → Nat → Option Nat) (Ea : Nat → Nat) (Ev : Nat → Int32) (Ef : Nat → Nat → Int32) (h_nx : 0 ≤ ((Pv 0) : Int32).toInt ∧ ((Pv 0) : Int32).toInt < 20) (h_q : ∀ j : Int32, j.toInt = ((Pv 0).toInt + 19) % 20 → (Pq 1) j.toNatClampNeg = some (Ea 0)) (h_bA : 0 ≤ ((Av 3) : Int32).toInt ∧ ((Av 3) : Int32).toInt ≤ 6) (h_bE : 0 ≤ ((Ev 3) : Int32).toInt ∧ ((Ev 3) : Int32).toInt ≤ 6) : Ct l yX11_undo cX11_undo 1 (some .int) { frames := 3, cells := 0, slots := 0, locals := 84 } D tc sk [.ref (Ga 0)] [((Ga 0), .inr (11, [.ref (Ga 1), .ref (Ga 2), .ref (Ga 3), .ref (Ga 4), .int (Gv 0), .ref (Ga 5), .ref (Aa 0), .ref (Pa 0), .ref (Ga 8), .ref (Ga 9), .ref (Ga 10), .ref (Ga 11)])), ((Aa 0), .inr (9, [.int (Av 0), .int (Av 1), .int (Av 2), .int (Av 3), .int (Av 4), .int (Av 5), .ref (Aa 1), .ref (Aa 2), .ref (Aa 3), .ref (Aa 4), .ref (Aa 5), .ref (Aa 6), .ref (Aa 7), .ref (Aa 8)])), ((Aa 1), .inl (tc 0, 10, .inl (Af 1))), ((Aa 2), .inl (tc 0, 10, .inl (Af 2))), ((Aa 3), .inl (tc 0, 6, .inl (Af 3))), ((Aa 4), .inl (tc 0, 6, .inl (Af 4))), ((Aa 5), .inl (tc 0, 6, .inl (Af 5))), ((Aa 6), .inl (tc 0, 6, .inl (Af 6))), ((Aa 7), .inl (tc 0, 6, .inl (Af 7))), ((Aa 8), .inl (tc 0, 6, .inl (Af 8))), ((Pa 0), .inr (5, [.ref (Pa 1), .int (Pv 0), .int (Pv 1)])), ((Pa 1), .inl (tc 5, 20, .inr (.inr (.inr (.inr (Pq 1)))))), ((Ea 0), .inr (9, [.int (Ev 0), .int (Ev 1), .int (Ev 2), .int (Ev 3), .int (Ev 4), .int (Ev 5), .ref (Ea 1), .ref (Ea 2), .ref (Ea 3), .ref (Ea 4), .ref (Ea 5), .ref (Ea 6), .ref (Ea 7), .ref (Ea 8)])), ((Ea 1), .inl (tc 0, 10, .inl (Ef 1))), ((Ea 2), .inl (tc 0, 10, .inl (Ef 2))), ((Ea 3), .inl (tc 0, 6, .inl (Ef 3))), ((Ea 4), .inl (tc 0, 6, .inl (Ef 4))), ((Ea 5), .inl (tc 0, 6, .inl (Ef 5))), ((Ea 6), .inl (tc 0, 6, .inl (Ef 6))), ((Ea 7), .inl (tc 0, 6, .inl (Ef 7))), ((Ea 8), .inl (tc 0, 6, .inl (Ef 8)))] (fun (v : Option Value) (u : (Int32) × (Int32) × (Int32) × (Int32) × (Int32) × (Int32) × (Nat → Int32) × (Nat → Int32) × (Nat → Int32) × (Nat → Int32) × (Nat → Int32) × (Nat → Int32) × (Nat → Int32) × (Nat → Int32) × (Int32) × (Int32)) => match u with | (oo0x1, oo0x2, oo0x3, oo0x4, oo0x5, oo0x6, oo0x7, oo0x8, oo0x9, oo0x10, oo0x11, oo0x12, oo0x13, oo0x14, oo0x15, oo0x16) => ∃ r : Int32, v = some (.int r) ∧ (True) ∧ (0 ≤ (oo0x15 : Int32).toInt ∧ (oo0x15 : Int32).toInt < 20) ∧ (0 ≤ (oo0x4 : Int32).toInt ∧ (oo0x4 : Int32).toInt ≤ 6) ∧ (0 ≤ ((Ev 3) : Int32).toInt ∧ ((Ev 3) : Int32).toInt ≤ 6)) (fun (u : (Int32) × (Int32) × (Int32) × (Int32) × (Int32) × (Int32) × (Nat → Int32) × (Nat → Int32) × (Nat → Int32) × (Nat → Int32) × (Nat → Int32) × (Nat → Int32) × (Nat → Int32) × (Nat → Int32) × (Int32) × (Int32)) => match u with | (oo0x1, oo0x2, oo0x3, oo0x4, oo0x5, oo0x6, oo0x7, oo0x8, oo0x9, oo0x10, oo0x11, oo0x12, oo0x13, oo0x14, oo0x15, oo0x16) => [((Ga 0), .inr (11, [.ref (Ga 1), .ref (Ga 2), .ref (Ga 3), .ref (Ga 4), .int (Gv 0), .ref (Ga 5), .ref (Aa 0), .ref (Pa 0), .ref (Ga 8), .ref (Ga 9), .ref (Ga 10), .ref (Ga 11)])), ((Aa 0), .inr (9, [.int oo0x1, .int oo0x2, .int oo0x3, .int oo0x4, .int oo0x5, .int oo0x6, .ref (Aa 1), .ref (Aa 2), .ref (Aa 3), .ref (Aa 4), .ref (Aa 5), .ref (Aa 6), .ref (Aa 7), .ref (Aa 8)])), ((Aa 1), .inl (tc 0, 10, .inl oo0x7)), ((Aa 2), .inl (tc 0, 10, .inl oo0x8)), ((Aa 3), .inl (tc 0, 6, .inl oo0x9)), ((Aa 4), .inl (tc 0, 6, .inl oo0x10)), ((Aa 5), .inl (tc 0, 6, .inl oo0x11)), ((Aa 6), .inl (tc 0, 6, .inl oo0x12)), ((Aa 7), .inl (tc 0, 6, .inl oo0x13)), ((Aa 8), .inl (tc 0, 6, .inl oo0x14)), ((Pa 0), .inr (5, [.ref (Pa 1), .int oo0x15, .int oo0x16])), ((Pa 1), .inl (tc 5, 20, .inr (.inr (.inr (.inr (Pq 1)))))), ((Ea 0), .inr (9, [.int (Ev 0), .int (Ev 1), .int (Ev 2), .int (Ev 3), .int (Ev 4), .int (Ev 5), .ref (Ea 1), .ref (Ea 2), .ref (Ea 3), .ref (Ea 4), .ref (Ea 5), .ref (Ea 6), .ref (Ea 7), .ref (Ea 8)])), ((Ea 1), .inl (tc 0, 10, .inl (Ef 1))), ((Ea 2), .inl (tc 0, 10, .inl (Ef 2))), ((Ea 3), .inl (tc 0, 6, .inl (Ef 3))), ((Ea 4), .inl (tc 0, 6, .inl (Ef 4))), ((Ea 5), .inl (tc 0, 6, .inl (Ef 5))), ((Ea 6), .inl (tc 0, 6, .inl (Ef 6))), ((Ea 7), .inl (tc 0, 6, .inl (Ef 7))), ((Ea 8), .inl (tc 0, 6, .inl (Ef 8)))]) 0 0 := by
  refine Ct.start (by decide) (Nat.le_of_ble_eq_true rfl) (fun p e s m below meth c A ls hx hb hr hlk hin hml hown hts hK hX hP hD hA hl hS => ?_)
  have hl : lv_has ls 1 [(0, .ref (Ga 0))] := hl
  refine lv_aload_n hx hb dX11_undo_0 rfl (lv_at hl 0 rfl) ?_
  refine gf_X11_57 hx hb hts hown hK hP 0 rfl rfl dX11_undo_1 ?_
  refine lv_aload_n hx hb dX11_undo_4 rfl (lv_at hl 0 rfl) ?_
  refine gf_X11_51 hx hb hts hown hK hP 0 rfl rfl dX11_undo_5 ?_
  have ha_1 : 0 ≤ ((Pv 0) : Int32).toInt ∧ ((Pv 0) : Int32).toInt < 20 := by
    omega
  refine cV (a := (Pa 0)) (As := [.ref (Aa 0)]) (rest := []) (wr := [((Ga 0), .inr (11, [.ref (Ga 1), .ref (Ga 2), .ref (Ga 3), .ref (Ga 4), .int (Gv 0), .ref (Ga 5), .ref (Aa 0), .ref (Pa 0), .ref (Ga 8), .ref (Ga 9), .ref (Ga 10), .ref (Ga 11)]))]) ⟨hx, hb, hml, hown, hts⟩ hK hX hA (ct_X5_giveBack_s l D tc sk Pa Pv Pq Aa Av Af Ea Ev Ef ha_1 h_q) k_805 k_802 k_803 k_804 k_102 pl_X5_giveBack ⟨Nat.le_of_ble_eq_true rfl, Nat.le_of_ble_eq_true rfl⟩ rfl rfl (va_recv hK hP (ci := 5) (q0 := 10) rfl rfl) hP hD hS [10, 11, 1, 2, 3, 4, 5, 6, 7, 8, 9, 12, 13, 14, 15, 16, 17, 18, 19, 20] [0] rfl rfl rfl rfl rfl (by decide) rfl hl.1 rfl (Nat.le_of_ble_eq_true rfl) dX11_undo_8 ⟨Nat.le_of_ble_eq_true rfl, Nat.le_of_ble_eq_true rfl⟩ (fun v_2 u_3 H locs hv_4 hP hD hS => ?_)
  obtain ⟨sv_5, sv_6, sv_7, sv_8, sv_9, sv_10, sv_11, sv_12, sv_13, sv_14, sv_15, sv_16, sv_17, sv_18, sv_19, sv_20⟩ := u_3
  obtain ⟨r_22, rfl, he_23, pf_21⟩ := hv_4
  have pf_21 : 0 ≤ (sv_5 : Int32).toInt ∧ (sv_5 : Int32).toInt < 20 := pf_21
  refine W.eq (g2 := F0 m 11 ls [.int r_22]) rfl ?_
  have hP : va_P D classes [((Ga 0), .inr (11, [.ref (Ga 1), .ref (Ga 2), .ref (Ga 3), .ref (Ga 4), .int (Gv 0), .ref (Ga 5), .ref (Aa 0), .ref (Pa 0), .ref (Ga 8), .ref (Ga 9), .ref (Ga 10), .ref (Ga 11)])), ((Pa 0), .inr (5, [.ref (Pa 1), .int sv_5, .int sv_6])), ((Pa 1), .inl (tc 5, 20, .inr (.inr (.inr (.inr (Pq 1)))))), ((Aa 0), .inr (9, [.int sv_7, .int sv_8, .int sv_9, .int sv_10, .int sv_11, .int sv_12, .ref (Aa 1), .ref (Aa 2), .ref (Aa 3), .ref (Aa 4), .ref (Aa 5), .ref (Aa 6), .ref (Aa 7), .ref (Aa 8)])), ((Aa 1), .inl (tc 0, 10, .inl sv_13)), ((Aa 2), .inl (tc 0, 10, .inl sv_14)), ((Aa 3), .inl (tc 0, 6, .inl sv_15)), ((Aa 4), .inl (tc 0, 6, .inl sv_16)), ((Aa 5), .inl (tc 0, 6, .inl sv_17)), ((Aa 6), .inl (tc 0, 6, .inl sv_18)), ((Aa 7), .inl (tc 0, 6, .inl sv_19)), ((Aa 8), .inl (tc 0, 6, .inl sv_20)), ((Ea 0), .inr (9, [.int (Ev 0), .int (Ev 1), .int (Ev 2), .int (Ev 3), .int (Ev 4), .int (Ev 5), .ref (Ea 1), .ref (Ea 2), .ref (Ea 3), .ref (Ea 4), .ref (Ea 5), .ref (Ea 6), .ref (Ea 7), .ref (Ea 8)])), ((Ea 1), .inl (tc 0, 10, .inl (Ef 1))), ((Ea 2), .inl (tc 0, 10, .inl (Ef 2))), ((Ea 3), .inl (tc 0, 6, .inl (Ef 3))), ((Ea 4), .inl (tc 0, 6, .inl (Ef 4))), ((Ea 5), .inl (tc 0, 6, .inl (Ef 5))), ((Ea 6), .inl (tc 0, 6, .inl (Ef 6))), ((Ea 7), .inl (tc 0, 6, .inl (Ef 7))), ((Ea 8), .inl (tc 0, 6, .inl (Ef 8)))] H := hP
  have hD : va_D A [((Ga 0), .inr (11, [.ref (Ga 1), .ref (Ga 2), .ref (Ga 3), .ref (Ga 4), .int (Gv 0), .ref (Ga 5), .ref (Aa 0), .ref (Pa 0), .ref (Ga 8), .ref (Ga 9), .ref (Ga 10), .ref (Ga 11)])), ((Pa 0), .inr (5, [.ref (Pa 1), .int sv_5, .int sv_6])), ((Pa 1), .inl (tc 5, 20, .inr (.inr (.inr (.inr (Pq 1)))))), ((Aa 0), .inr (9, [.int sv_7, .int sv_8, .int sv_9, .int sv_10, .int sv_11, .int sv_12, .ref (Aa 1), .ref (Aa 2), .ref (Aa 3), .ref (Aa 4), .ref (Aa 5), .ref (Aa 6), .ref (Aa 7), .ref (Aa 8)])), ((Aa 1), .inl (tc 0, 10, .inl sv_13)), ((Aa 2), .inl (tc 0, 10, .inl sv_14)), ((Aa 3), .inl (tc 0, 6, .inl sv_15)), ((Aa 4), .inl (tc 0, 6, .inl sv_16)), ((Aa 5), .inl (tc 0, 6, .inl sv_17)), ((Aa 6), .inl (tc 0, 6, .inl sv_18)), ((Aa 7), .inl (tc 0, 6, .inl sv_19)), ((Aa 8), .inl (tc 0, 6, .inl sv_20)), ((Ea 0), .inr (9, [.int (Ev 0), .int (Ev 1), .int (Ev 2), .int (Ev 3), .int (Ev 4), .int (Ev 5), .ref (Ea 1), .ref (Ea 2), .ref (Ea 3), .ref (Ea 4), .ref (Ea 5), .ref (Ea 6), .ref (Ea 7), .ref (Ea 8)])), ((Ea 1), .inl (tc 0, 10, .inl (Ef 1))), ((Ea 2), .inl (tc 0, 10, .inl (Ef 2))), ((Ea 3), .inl (tc 0, 6, .inl (Ef 3))), ((Ea 4), .inl (tc 0, 6, .inl (Ef 4))), ((Ea 5), .inl (tc 0, 6, .inl (Ef 5))), ((Ea 6), .inl (tc 0, 6, .inl (Ef 6))), ((Ea 7), .inl (tc 0, 6, .inl (Ef 7))), ((Ea 8), .inl (tc 0, 6, .inl (Ef 8)))] := hD
  have ha_25 : 0 ≤ (sv_5 : Int32).toInt ∧ (sv_5 : Int32).toInt < 20 := by
    omega
  have ha_26 : 0 ≤ (sv_10 : Int32).toInt ∧ (sv_10 : Int32).toInt ≤ 6 := by
    omega
  have ha_27 : 0 ≤ ((Ev 3) : Int32).toInt ∧ ((Ev 3) : Int32).toInt ≤ 6 := by
    omega
  exact retI (v := r_22) hx hb hr hlk (rfl) hP hD hS (sv_7, sv_8, sv_9, sv_10, sv_11, sv_12, sv_13, sv_14, sv_15, sv_16, sv_17, sv_18, sv_19, sv_20, sv_5, sv_6) ⟨_, rfl, trivial, ha_25, ha_26, ha_27⟩ [0, 3, 4, 5, 6, 7, 8, 9, 10, 11, 1, 2, 12, 13, 14, 15, 16, 17, 18, 19, 20] rfl rfl dX11_undo_11 (Nat.le_of_ble_eq_true rfl) (Nat.le_of_ble_eq_true rfl) rfl
set_option maxHeartbeats 4000000 in
set_option maxRecDepth 100000 in
theorem ct_X11_day_sn (l : Launch) (D : va_G) (tc : Nat → ClassId) (sk : (Nat → Nat) × (Nat → Nat)) (Ga : Nat → Nat) (Gv : Nat → Int32) (Sa : Nat → Nat) (Sv : Nat → Int32) (Aa : Nat → Nat) (Av : Nat → Int32) (Af : Nat → Nat → Int32) (Pa : Nat → Nat) (Pv : Nat → Int32) (Pq : Nat → Nat → Option Nat) (La : Nat → Nat) (Lq : Nat → Nat → Option Nat) (Ea : Nat → Nat) (Ev : Nat → Int32) (Ef : Nat → Nat → Int32) (h_nx : 0 ≤ ((Pv 0) : Int32).toInt ∧ ((Pv 0) : Int32).toInt < 20) (h_q : (Pq 1) (Pv 0).toNatClampNeg = some (Ea 0)) (h_r : 0 ≤ (Sv 0).toInt ∧ (Sv 0).toInt < 6 → (Lq 0) (Sv 0).toNatClampNeg = none) (h_bA : 0 ≤ ((Av 3) : Int32).toInt ∧ ((Av 3) : Int32).toInt ≤ 6) (h_bE : 0 ≤ ((Ev 3) : Int32).toInt ∧ ((Ev 3) : Int32).toInt ≤ 6) : Ct l yX11_day cX11_day 1 (some .int) { frames := 3, cells := 0, slots := 0, locals := 83 } D tc sk [.ref (Ga 0)] [((Ga 0), .inr (11, [.ref (Ga 1), .ref (Ga 2), .ref (Ga 3), .ref (La 0), .int (Gv 0), .ref (Sa 0), .ref (Aa 0), .ref (Pa 0), .ref (Ga 8), .ref (Ga 9), .ref (Ga 10), .ref (Ga 11)])), ((Sa 0), .inr (8, [.ref (Aa 0), .ref (Sa 2), .ref (Sa 3), .int (Sv 0), .int (Sv 1)])), ((Aa 0), .inr (9, [.int (Av 0), .int (Av 1), .int (Av 2), .int (Av 3), .int (Av 4), .int (Av 5), .ref (Aa 1), .ref (Aa 2), .ref (Aa 3), .ref (Aa 4), .ref (Aa 5), .ref (Aa 6), .ref (Aa 7), .ref (Aa 8)])), ((Aa 1), .inl (tc 0, 10, .inl (Af 1))), ((Aa 2), .inl (tc 0, 10, .inl (Af 2))), ((Aa 3), .inl (tc 0, 6, .inl (Af 3))), ((Aa 4), .inl (tc 0, 6, .inl (Af 4))), ((Aa 5), .inl (tc 0, 6, .inl (Af 5))), ((Aa 6), .inl (tc 0, 6, .inl (Af 6))), ((Aa 7), .inl (tc 0, 6, .inl (Af 7))), ((Aa 8), .inl (tc 0, 6, .inl (Af 8))), ((Pa 0), .inr (5, [.ref (Pa 1), .int (Pv 0), .int (Pv 1)])), ((Pa 1), .inl (tc 5, 20, .inr (.inr (.inr (.inr (Pq 1)))))), ((La 0), .inl (tc 4, 6, .inr (.inr (.inr (.inr (Lq 0)))))), ((Ea 0), .inr (9, [.int (Ev 0), .int (Ev 1), .int (Ev 2), .int (Ev 3), .int (Ev 4), .int (Ev 5), .ref (Ea 1), .ref (Ea 2), .ref (Ea 3), .ref (Ea 4), .ref (Ea 5), .ref (Ea 6), .ref (Ea 7), .ref (Ea 8)])), ((Ea 1), .inl (tc 0, 10, .inl (Ef 1))), ((Ea 2), .inl (tc 0, 10, .inl (Ef 2))), ((Ea 3), .inl (tc 0, 6, .inl (Ef 3))), ((Ea 4), .inl (tc 0, 6, .inl (Ef 4))), ((Ea 5), .inl (tc 0, 6, .inl (Ef 5))), ((Ea 6), .inl (tc 0, 6, .inl (Ef 6))), ((Ea 7), .inl (tc 0, 6, .inl (Ef 7))), ((Ea 8), .inl (tc 0, 6, .inl (Ef 8)))] (fun (v : Option Value) (u : (Int32) × (Int32) × (Int32) × (Nat → Int32) × (Nat → Int32) × (Nat → Int32) × (Nat → Int32) × (Int32) × (Int32) × (Int32) × (Int32) × (Int32) × (Int32) × (Int32) × (Int32) × (Nat → Int32) × (Nat → Int32) × (Nat → Int32) × (Nat → Int32) × (Nat → Int32) × (Nat → Int32) × (Nat → Int32) × (Nat → Int32)) => match u with | (oo0x1, oo0x2, oo0x3, oo0x4, oo0x5, oo0x6, oo0x7, oo0x8, oo0x9, oo0x10, oo0x11, oo0x12, oo0x13, oo0x14, oo0x15, oo0x16, oo0x17, oo0x18, oo0x19, oo0x20, oo0x21, oo0x22, oo0x23) => ∃ r : Int32, v = some (.int r) ∧ (True) ∧ (0 ≤ (oo0x8 : Int32).toInt ∧ (oo0x8 : Int32).toInt < 20) ∧ (0 ≤ ((Av 3) : Int32).toInt ∧ ((Av 3) : Int32).toInt ≤ 6) ∧ (0 ≤ (oo0x13 : Int32).toInt ∧ (oo0x13 : Int32).toInt ≤ 6)) (fun (u : (Int32) × (Int32) × (Int32) × (Nat → Int32) × (Nat → Int32) × (Nat → Int32) × (Nat → Int32) × (Int32) × (Int32) × (Int32) × (Int32) × (Int32) × (Int32) × (Int32) × (Int32) × (Nat → Int32) × (Nat → Int32) × (Nat → Int32) × (Nat → Int32) × (Nat → Int32) × (Nat → Int32) × (Nat → Int32) × (Nat → Int32)) => match u with | (oo0x1, oo0x2, oo0x3, oo0x4, oo0x5, oo0x6, oo0x7, oo0x8, oo0x9, oo0x10, oo0x11, oo0x12, oo0x13, oo0x14, oo0x15, oo0x16, oo0x17, oo0x18, oo0x19, oo0x20, oo0x21, oo0x22, oo0x23) => [((Ga 0), .inr (11, [.ref (Ga 1), .ref (Ga 2), .ref (Ga 3), .ref (La 0), .int (Gv 0), .ref (Sa 0), .ref (Aa 0), .ref (Pa 0), .ref (Ga 8), .ref (Ga 9), .ref (Ga 10), .ref (Ga 11)])), ((Sa 0), .inr (8, [.ref (Aa 0), .ref (Sa 2), .ref (Sa 3), .int (Sv 0), .int (Sv 1)])), ((Aa 0), .inr (9, [.int oo0x1, .int (Av 1), .int (Av 2), .int (Av 3), .int oo0x2, .int oo0x3, .ref (Aa 1), .ref (Aa 2), .ref (Aa 3), .ref (Aa 4), .ref (Aa 5), .ref (Aa 6), .ref (Aa 7), .ref (Aa 8)])), ((Aa 1), .inl (tc 0, 10, .inl (Af 1))), ((Aa 2), .inl (tc 0, 10, .inl (Af 2))), ((Aa 3), .inl (tc 0, 6, .inl oo0x4)), ((Aa 4), .inl (tc 0, 6, .inl (Af 4))), ((Aa 5), .inl (tc 0, 6, .inl (Af 5))), ((Aa 6), .inl (tc 0, 6, .inl oo0x5)), ((Aa 7), .inl (tc 0, 6, .inl oo0x6)), ((Aa 8), .inl (tc 0, 6, .inl oo0x7)), ((Pa 0), .inr (5, [.ref (Pa 1), .int oo0x8, .int oo0x9])), ((Pa 1), .inl (tc 5, 20, .inr (.inr (.inr (.inr (Pq 1)))))), ((La 0), .inl (tc 4, 6, .inr (.inr (.inr (.inr (Lq 0)))))), ((Ea 0), .inr (9, [.int oo0x10, .int oo0x11, .int oo0x12, .int oo0x13, .int oo0x14, .int oo0x15, .ref (Ea 1), .ref (Ea 2), .ref (Ea 3), .ref (Ea 4), .ref (Ea 5), .ref (Ea 6), .ref (Ea 7), .ref (Ea 8)])), ((Ea 1), .inl (tc 0, 10, .inl oo0x16)), ((Ea 2), .inl (tc 0, 10, .inl oo0x17)), ((Ea 3), .inl (tc 0, 6, .inl oo0x18)), ((Ea 4), .inl (tc 0, 6, .inl oo0x19)), ((Ea 5), .inl (tc 0, 6, .inl oo0x20)), ((Ea 6), .inl (tc 0, 6, .inl oo0x21)), ((Ea 7), .inl (tc 0, 6, .inl oo0x22)), ((Ea 8), .inl (tc 0, 6, .inl oo0x23))]) 0 0 := by
  refine Ct.start (by decide) (Nat.le_of_ble_eq_true rfl) (fun p e s m below meth c A ls hx hb hr hlk hin hml hown hts hK hX hP hD hA hl hS => ?_)
  have hl : lv_has ls 1 [(0, .ref (Ga 0))] := hl
  refine lv_aload_n hx hb dX11_day_0 rfl (lv_at hl 0 rfl) ?_
  refine gf_X11_51 hx hb hts hown hK hP 0 rfl rfl dX11_day_1 ?_
  refine cV (a := (Aa 0)) (As := []) (rest := []) (wr := [((Ga 0), .inr (11, [.ref (Ga 1), .ref (Ga 2), .ref (Ga 3), .ref (La 0), .int (Gv 0), .ref (Sa 0), .ref (Aa 0), .ref (Pa 0), .ref (Ga 8), .ref (Ga 9), .ref (Ga 10), .ref (Ga 11)])), ((Sa 0), .inr (8, [.ref (Aa 0), .ref (Sa 2), .ref (Sa 3), .int (Sv 0), .int (Sv 1)])), ((Pa 0), .inr (5, [.ref (Pa 1), .int (Pv 0), .int (Pv 1)])), ((Pa 1), .inl (tc 5, 20, .inr (.inr (.inr (.inr (Pq 1)))))), ((La 0), .inl (tc 4, 6, .inr (.inr (.inr (.inr (Lq 0)))))), ((Ea 0), .inr (9, [.int (Ev 0), .int (Ev 1), .int (Ev 2), .int (Ev 3), .int (Ev 4), .int (Ev 5), .ref (Ea 1), .ref (Ea 2), .ref (Ea 3), .ref (Ea 4), .ref (Ea 5), .ref (Ea 6), .ref (Ea 7), .ref (Ea 8)])), ((Ea 1), .inl (tc 0, 10, .inl (Ef 1))), ((Ea 2), .inl (tc 0, 10, .inl (Ef 2))), ((Ea 3), .inl (tc 0, 6, .inl (Ef 3))), ((Ea 4), .inl (tc 0, 6, .inl (Ef 4))), ((Ea 5), .inl (tc 0, 6, .inl (Ef 5))), ((Ea 6), .inl (tc 0, 6, .inl (Ef 6))), ((Ea 7), .inl (tc 0, 6, .inl (Ef 7))), ((Ea 8), .inl (tc 0, 6, .inl (Ef 8)))]) ⟨hx, hb, hml, hown, hts⟩ hK hX hA (ct_X9_isTold l D tc sk Aa Av Af) k_724 k_721 k_722 k_723 k_98 pl_X9_isTold ⟨Nat.le_of_ble_eq_true rfl, Nat.le_of_ble_eq_true rfl⟩ rfl rfl (va_recv hK hP (ci := 9) (q0 := 2) rfl rfl) hP hD hS [2, 3, 4, 5, 6, 7, 8, 9, 10] [0, 1, 11, 12, 13, 14, 15, 16, 17, 18, 19, 20, 21, 22] rfl rfl rfl rfl rfl (by decide) rfl hl.1 rfl (Nat.le_of_ble_eq_true rfl) dX11_day_4 ⟨Nat.le_of_ble_eq_true rfl, Nat.le_of_ble_eq_true rfl⟩ (fun v_1 u_2 H locs hv_3 hP hD hS => ?_)
  obtain ⟨r_4, rfl, he_5⟩ := hv_3
  have he_5 : ((r_4.toInt = 0 ∨ r_4.toInt = 1)) := he_5
  refine W.eq (g2 := F0 m 7 ls [.int r_4]) rfl ?_
  have hP : va_P D classes [((Ga 0), .inr (11, [.ref (Ga 1), .ref (Ga 2), .ref (Ga 3), .ref (La 0), .int (Gv 0), .ref (Sa 0), .ref (Aa 0), .ref (Pa 0), .ref (Ga 8), .ref (Ga 9), .ref (Ga 10), .ref (Ga 11)])), ((Sa 0), .inr (8, [.ref (Aa 0), .ref (Sa 2), .ref (Sa 3), .int (Sv 0), .int (Sv 1)])), ((Pa 0), .inr (5, [.ref (Pa 1), .int (Pv 0), .int (Pv 1)])), ((Pa 1), .inl (tc 5, 20, .inr (.inr (.inr (.inr (Pq 1)))))), ((La 0), .inl (tc 4, 6, .inr (.inr (.inr (.inr (Lq 0)))))), ((Ea 0), .inr (9, [.int (Ev 0), .int (Ev 1), .int (Ev 2), .int (Ev 3), .int (Ev 4), .int (Ev 5), .ref (Ea 1), .ref (Ea 2), .ref (Ea 3), .ref (Ea 4), .ref (Ea 5), .ref (Ea 6), .ref (Ea 7), .ref (Ea 8)])), ((Ea 1), .inl (tc 0, 10, .inl (Ef 1))), ((Ea 2), .inl (tc 0, 10, .inl (Ef 2))), ((Ea 3), .inl (tc 0, 6, .inl (Ef 3))), ((Ea 4), .inl (tc 0, 6, .inl (Ef 4))), ((Ea 5), .inl (tc 0, 6, .inl (Ef 5))), ((Ea 6), .inl (tc 0, 6, .inl (Ef 6))), ((Ea 7), .inl (tc 0, 6, .inl (Ef 7))), ((Ea 8), .inl (tc 0, 6, .inl (Ef 8))), ((Aa 0), .inr (9, [.int (Av 0), .int (Av 1), .int (Av 2), .int (Av 3), .int (Av 4), .int (Av 5), .ref (Aa 1), .ref (Aa 2), .ref (Aa 3), .ref (Aa 4), .ref (Aa 5), .ref (Aa 6), .ref (Aa 7), .ref (Aa 8)])), ((Aa 1), .inl (tc 0, 10, .inl (Af 1))), ((Aa 2), .inl (tc 0, 10, .inl (Af 2))), ((Aa 3), .inl (tc 0, 6, .inl (Af 3))), ((Aa 4), .inl (tc 0, 6, .inl (Af 4))), ((Aa 5), .inl (tc 0, 6, .inl (Af 5))), ((Aa 6), .inl (tc 0, 6, .inl (Af 6))), ((Aa 7), .inl (tc 0, 6, .inl (Af 7))), ((Aa 8), .inl (tc 0, 6, .inl (Af 8)))] H := hP
  have hD : va_D A [((Ga 0), .inr (11, [.ref (Ga 1), .ref (Ga 2), .ref (Ga 3), .ref (La 0), .int (Gv 0), .ref (Sa 0), .ref (Aa 0), .ref (Pa 0), .ref (Ga 8), .ref (Ga 9), .ref (Ga 10), .ref (Ga 11)])), ((Sa 0), .inr (8, [.ref (Aa 0), .ref (Sa 2), .ref (Sa 3), .int (Sv 0), .int (Sv 1)])), ((Pa 0), .inr (5, [.ref (Pa 1), .int (Pv 0), .int (Pv 1)])), ((Pa 1), .inl (tc 5, 20, .inr (.inr (.inr (.inr (Pq 1)))))), ((La 0), .inl (tc 4, 6, .inr (.inr (.inr (.inr (Lq 0)))))), ((Ea 0), .inr (9, [.int (Ev 0), .int (Ev 1), .int (Ev 2), .int (Ev 3), .int (Ev 4), .int (Ev 5), .ref (Ea 1), .ref (Ea 2), .ref (Ea 3), .ref (Ea 4), .ref (Ea 5), .ref (Ea 6), .ref (Ea 7), .ref (Ea 8)])), ((Ea 1), .inl (tc 0, 10, .inl (Ef 1))), ((Ea 2), .inl (tc 0, 10, .inl (Ef 2))), ((Ea 3), .inl (tc 0, 6, .inl (Ef 3))), ((Ea 4), .inl (tc 0, 6, .inl (Ef 4))), ((Ea 5), .inl (tc 0, 6, .inl (Ef 5))), ((Ea 6), .inl (tc 0, 6, .inl (Ef 6))), ((Ea 7), .inl (tc 0, 6, .inl (Ef 7))), ((Ea 8), .inl (tc 0, 6, .inl (Ef 8))), ((Aa 0), .inr (9, [.int (Av 0), .int (Av 1), .int (Av 2), .int (Av 3), .int (Av 4), .int (Av 5), .ref (Aa 1), .ref (Aa 2), .ref (Aa 3), .ref (Aa 4), .ref (Aa 5), .ref (Aa 6), .ref (Aa 7), .ref (Aa 8)])), ((Aa 1), .inl (tc 0, 10, .inl (Af 1))), ((Aa 2), .inl (tc 0, 10, .inl (Af 2))), ((Aa 3), .inl (tc 0, 6, .inl (Af 3))), ((Aa 4), .inl (tc 0, 6, .inl (Af 4))), ((Aa 5), .inl (tc 0, 6, .inl (Af 5))), ((Aa 6), .inl (tc 0, 6, .inl (Af 6))), ((Aa 7), .inl (tc 0, 6, .inl (Af 7))), ((Aa 8), .inl (tc 0, 6, .inl (Af 8)))] := hD
  refine lv_if_eq (tgt := 23) hx hb dX11_day_7 (by decide) (fun c_6 => ?_) (fun c_6 => ?_)
  · skip
    refine lv_iconst (v := (-1)) hx hb dX11_day_23 (by decide) ?_
    have ha_7 : 0 ≤ ((Pv 0) : Int32).toInt ∧ ((Pv 0) : Int32).toInt < 20 := by
      have z_1 := congrArg Int32.toInt c_6
      have y_0 : (0 : Int32).toInt = 0 := by decide
      omega
    have ha_8 : 0 ≤ ((Av 3) : Int32).toInt ∧ ((Av 3) : Int32).toInt ≤ 6 := by
      have z_1 := congrArg Int32.toInt c_6
      have y_0 : (0 : Int32).toInt = 0 := by decide
      omega
    have ha_9 : 0 ≤ ((Ev 3) : Int32).toInt ∧ ((Ev 3) : Int32).toInt ≤ 6 := by
      have z_1 := congrArg Int32.toInt c_6
      have y_0 : (0 : Int32).toInt = 0 := by decide
      omega
    exact retI (v := (-1)) hx hb hr hlk (rfl) hP hD hS ((Av 0), (Av 4), (Av 5), (Af 3), (Af 6), (Af 7), (Af 8), (Pv 0), (Pv 1), (Ev 0), (Ev 1), (Ev 2), (Ev 3), (Ev 4), (Ev 5), (Ef 1), (Ef 2), (Ef 3), (Ef 4), (Ef 5), (Ef 6), (Ef 7), (Ef 8)) ⟨_, rfl, trivial, ha_7, ha_8, ha_9⟩ [0, 1, 14, 15, 16, 17, 18, 19, 20, 21, 22, 2, 3, 4, 5, 6, 7, 8, 9, 10, 11, 12, 13] rfl rfl dX11_day_24 (Nat.le_of_ble_eq_true rfl) (Nat.le_of_ble_eq_true rfl) rfl
  · skip
    refine lv_aload_n hx hb dX11_day_10 rfl (lv_at hl 0 rfl) ?_
    refine gf_X11_51 hx hb hts hown hK hP 0 rfl rfl dX11_day_11 ?_
    refine gf_X11_179 hx hb hts hown hK hP 14 rfl rfl dX11_day_14 ?_
    refine lv_sipush (v := 999) hx hb dX11_day_17 (by decide) ?_
    refine lv_icmp_lt (tgt := 25) hx hb dX11_day_20 (by decide) (fun c_10 => ?_) (fun c_10 => ?_)
    · skip
      refine lv_aload_n hx hb dX11_day_25 rfl (lv_at hl 0 rfl) ?_
      refine gf_X11_57 hx hb hts hown hK hP 0 rfl rfl dX11_day_26 ?_
      refine lv_aload_n hx hb dX11_day_29 rfl (lv_at hl 0 rfl) ?_
      refine gf_X11_51 hx hb hts hown hK hP 0 rfl rfl dX11_day_30 ?_
      have ha_11 : 0 ≤ ((Pv 0) : Int32).toInt ∧ ((Pv 0) : Int32).toInt < 20 := by
        have z_1 : ¬ (r_4 : Int32).toInt = (0 : Int32).toInt := fun z => c_6 (Int32.toInt_inj.mp z)
        have z_2 := Int32.lt_iff_toInt_lt.mp c_10
        have y_0 : (0 : Int32).toInt = 0 := by decide
        have y_999 : (999 : Int32).toInt = 999 := by decide
        omega
      refine cV (a := (Pa 0)) (As := [.ref (Aa 0)]) (rest := []) (wr := [((Ga 0), .inr (11, [.ref (Ga 1), .ref (Ga 2), .ref (Ga 3), .ref (La 0), .int (Gv 0), .ref (Sa 0), .ref (Aa 0), .ref (Pa 0), .ref (Ga 8), .ref (Ga 9), .ref (Ga 10), .ref (Ga 11)])), ((Sa 0), .inr (8, [.ref (Aa 0), .ref (Sa 2), .ref (Sa 3), .int (Sv 0), .int (Sv 1)])), ((La 0), .inl (tc 4, 6, .inr (.inr (.inr (.inr (Lq 0))))))]) ⟨hx, hb, hml, hown, hts⟩ hK hX hA (ct_X5_keep_s l D tc sk Pa Pv Pq Aa Av Af Ea Ev Ef ha_11 h_q) k_728 k_725 k_726 k_727 k_102 pl_X5_keep ⟨Nat.le_of_ble_eq_true rfl, Nat.le_of_ble_eq_true rfl⟩ rfl rfl (va_recv hK hP (ci := 5) (q0 := 2) rfl rfl) hP hD hS [2, 3, 14, 15, 16, 17, 18, 19, 20, 21, 22, 5, 6, 7, 8, 9, 10, 11, 12, 13] [0, 1, 4] rfl rfl rfl rfl rfl (by decide) rfl hl.1 rfl (Nat.le_of_ble_eq_true rfl) dX11_day_33 ⟨Nat.le_of_ble_eq_true rfl, Nat.le_of_ble_eq_true rfl⟩ (fun v_12 u_13 H locs hv_14 hP hD hS => ?_)
      obtain ⟨sv_15, sv_16, sv_17, sv_18, sv_19, sv_20, sv_21, sv_22, sv_23, sv_24, sv_25, sv_26, sv_27, sv_28, sv_29, sv_30⟩ := u_13
      obtain ⟨rfl, pf_31⟩ := hv_14
      have pf_31 : 0 ≤ (sv_15 : Int32).toInt ∧ (sv_15 : Int32).toInt < 20 := pf_31
      refine W.eq (g2 := F0 m 36 ls []) rfl ?_
      have hP : va_P D classes [((Ga 0), .inr (11, [.ref (Ga 1), .ref (Ga 2), .ref (Ga 3), .ref (La 0), .int (Gv 0), .ref (Sa 0), .ref (Aa 0), .ref (Pa 0), .ref (Ga 8), .ref (Ga 9), .ref (Ga 10), .ref (Ga 11)])), ((Sa 0), .inr (8, [.ref (Aa 0), .ref (Sa 2), .ref (Sa 3), .int (Sv 0), .int (Sv 1)])), ((La 0), .inl (tc 4, 6, .inr (.inr (.inr (.inr (Lq 0)))))), ((Pa 0), .inr (5, [.ref (Pa 1), .int sv_15, .int sv_16])), ((Pa 1), .inl (tc 5, 20, .inr (.inr (.inr (.inr (Pq 1)))))), ((Aa 0), .inr (9, [.int (Av 0), .int (Av 1), .int (Av 2), .int (Av 3), .int (Av 4), .int (Av 5), .ref (Aa 1), .ref (Aa 2), .ref (Aa 3), .ref (Aa 4), .ref (Aa 5), .ref (Aa 6), .ref (Aa 7), .ref (Aa 8)])), ((Aa 1), .inl (tc 0, 10, .inl (Af 1))), ((Aa 2), .inl (tc 0, 10, .inl (Af 2))), ((Aa 3), .inl (tc 0, 6, .inl (Af 3))), ((Aa 4), .inl (tc 0, 6, .inl (Af 4))), ((Aa 5), .inl (tc 0, 6, .inl (Af 5))), ((Aa 6), .inl (tc 0, 6, .inl (Af 6))), ((Aa 7), .inl (tc 0, 6, .inl (Af 7))), ((Aa 8), .inl (tc 0, 6, .inl (Af 8))), ((Ea 0), .inr (9, [.int sv_17, .int sv_18, .int sv_19, .int sv_20, .int sv_21, .int sv_22, .ref (Ea 1), .ref (Ea 2), .ref (Ea 3), .ref (Ea 4), .ref (Ea 5), .ref (Ea 6), .ref (Ea 7), .ref (Ea 8)])), ((Ea 1), .inl (tc 0, 10, .inl sv_23)), ((Ea 2), .inl (tc 0, 10, .inl sv_24)), ((Ea 3), .inl (tc 0, 6, .inl sv_25)), ((Ea 4), .inl (tc 0, 6, .inl sv_26)), ((Ea 5), .inl (tc 0, 6, .inl sv_27)), ((Ea 6), .inl (tc 0, 6, .inl sv_28)), ((Ea 7), .inl (tc 0, 6, .inl sv_29)), ((Ea 8), .inl (tc 0, 6, .inl sv_30))] H := hP
      have hD : va_D A [((Ga 0), .inr (11, [.ref (Ga 1), .ref (Ga 2), .ref (Ga 3), .ref (La 0), .int (Gv 0), .ref (Sa 0), .ref (Aa 0), .ref (Pa 0), .ref (Ga 8), .ref (Ga 9), .ref (Ga 10), .ref (Ga 11)])), ((Sa 0), .inr (8, [.ref (Aa 0), .ref (Sa 2), .ref (Sa 3), .int (Sv 0), .int (Sv 1)])), ((La 0), .inl (tc 4, 6, .inr (.inr (.inr (.inr (Lq 0)))))), ((Pa 0), .inr (5, [.ref (Pa 1), .int sv_15, .int sv_16])), ((Pa 1), .inl (tc 5, 20, .inr (.inr (.inr (.inr (Pq 1)))))), ((Aa 0), .inr (9, [.int (Av 0), .int (Av 1), .int (Av 2), .int (Av 3), .int (Av 4), .int (Av 5), .ref (Aa 1), .ref (Aa 2), .ref (Aa 3), .ref (Aa 4), .ref (Aa 5), .ref (Aa 6), .ref (Aa 7), .ref (Aa 8)])), ((Aa 1), .inl (tc 0, 10, .inl (Af 1))), ((Aa 2), .inl (tc 0, 10, .inl (Af 2))), ((Aa 3), .inl (tc 0, 6, .inl (Af 3))), ((Aa 4), .inl (tc 0, 6, .inl (Af 4))), ((Aa 5), .inl (tc 0, 6, .inl (Af 5))), ((Aa 6), .inl (tc 0, 6, .inl (Af 6))), ((Aa 7), .inl (tc 0, 6, .inl (Af 7))), ((Aa 8), .inl (tc 0, 6, .inl (Af 8))), ((Ea 0), .inr (9, [.int sv_17, .int sv_18, .int sv_19, .int sv_20, .int sv_21, .int sv_22, .ref (Ea 1), .ref (Ea 2), .ref (Ea 3), .ref (Ea 4), .ref (Ea 5), .ref (Ea 6), .ref (Ea 7), .ref (Ea 8)])), ((Ea 1), .inl (tc 0, 10, .inl sv_23)), ((Ea 2), .inl (tc 0, 10, .inl sv_24)), ((Ea 3), .inl (tc 0, 6, .inl sv_25)), ((Ea 4), .inl (tc 0, 6, .inl sv_26)), ((Ea 5), .inl (tc 0, 6, .inl sv_27)), ((Ea 6), .inl (tc 0, 6, .inl sv_28)), ((Ea 7), .inl (tc 0, 6, .inl sv_29)), ((Ea 8), .inl (tc 0, 6, .inl sv_30))] := hD
      refine lv_aload_n hx hb dX11_day_36 rfl (lv_at hl 0 rfl) ?_
      refine gf_X11_51 hx hb hts hown hK hP 0 rfl rfl dX11_day_37 ?_
      refine lv_aload_n hx hb dX11_day_40 rfl (lv_at hl 0 rfl) ?_
      refine cV (a := (Ga 0)) (As := []) (rest := [.ref (Aa 0)]) (wr := [((Pa 0), .inr (5, [.ref (Pa 1), .int sv_15, .int sv_16])), ((Pa 1), .inl (tc 5, 20, .inr (.inr (.inr (.inr (Pq 1)))))), ((Aa 0), .inr (9, [.int (Av 0), .int (Av 1), .int (Av 2), .int (Av 3), .int (Av 4), .int (Av 5), .ref (Aa 1), .ref (Aa 2), .ref (Aa 3), .ref (Aa 4), .ref (Aa 5), .ref (Aa 6), .ref (Aa 7), .ref (Aa 8)])), ((Aa 1), .inl (tc 0, 10, .inl (Af 1))), ((Aa 2), .inl (tc 0, 10, .inl (Af 2))), ((Aa 3), .inl (tc 0, 6, .inl (Af 3))), ((Aa 4), .inl (tc 0, 6, .inl (Af 4))), ((Aa 5), .inl (tc 0, 6, .inl (Af 5))), ((Aa 6), .inl (tc 0, 6, .inl (Af 6))), ((Aa 7), .inl (tc 0, 6, .inl (Af 7))), ((Aa 8), .inl (tc 0, 6, .inl (Af 8))), ((Ea 0), .inr (9, [.int sv_17, .int sv_18, .int sv_19, .int sv_20, .int sv_21, .int sv_22, .ref (Ea 1), .ref (Ea 2), .ref (Ea 3), .ref (Ea 4), .ref (Ea 5), .ref (Ea 6), .ref (Ea 7), .ref (Ea 8)])), ((Ea 1), .inl (tc 0, 10, .inl sv_23)), ((Ea 2), .inl (tc 0, 10, .inl sv_24)), ((Ea 3), .inl (tc 0, 6, .inl sv_25)), ((Ea 4), .inl (tc 0, 6, .inl sv_26)), ((Ea 5), .inl (tc 0, 6, .inl sv_27)), ((Ea 6), .inl (tc 0, 6, .inl sv_28)), ((Ea 7), .inl (tc 0, 6, .inl sv_29)), ((Ea 8), .inl (tc 0, 6, .inl sv_30))]) ⟨hx, hb, hml, hown, hts⟩ hK hX hA (ct_X11_ruleInForce_n l D tc sk (fun k => ([(Ga 0), (Ga 1), (Ga 2), (Ga 3), 0, 0, (Aa 0), (Pa 0), (Ga 8), (Ga 9), (Ga 10), (Ga 11)] : List (Nat)).getD k 0) Gv (fun k => ([(Sa 0), (Aa 0), (Sa 2), (Sa 3)] : List (Nat)).getD k 0) Sv La Lq h_r) k_735 k_732 k_734 k_13 k_95 pl_X11_ruleInForce ⟨Nat.le_of_ble_eq_true rfl, Nat.le_of_ble_eq_true rfl⟩ rfl rfl (va_recv hK hP (ci := 11) (q0 := 0) rfl rfl) hP hD hS [0, 1, 2] [3, 4, 5, 6, 7, 8, 9, 10, 11, 12, 13, 14, 15, 16, 17, 18, 19, 20, 21, 22] rfl rfl rfl rfl rfl (by decide) rfl hl.1 rfl (Nat.le_of_ble_eq_true rfl) dX11_day_41 ⟨Nat.le_of_ble_eq_true rfl, Nat.le_of_ble_eq_true rfl⟩ (fun v_32 u_33 H locs hv_34 hP hD hS => ?_)
      obtain rfl : v_32 = some (.null) := hv_34
      refine W.eq (g2 := F0 m 44 ls [.null, .ref (Aa 0)]) rfl ?_
      have hP : va_P D classes [((Pa 0), .inr (5, [.ref (Pa 1), .int sv_15, .int sv_16])), ((Pa 1), .inl (tc 5, 20, .inr (.inr (.inr (.inr (Pq 1)))))), ((Aa 0), .inr (9, [.int (Av 0), .int (Av 1), .int (Av 2), .int (Av 3), .int (Av 4), .int (Av 5), .ref (Aa 1), .ref (Aa 2), .ref (Aa 3), .ref (Aa 4), .ref (Aa 5), .ref (Aa 6), .ref (Aa 7), .ref (Aa 8)])), ((Aa 1), .inl (tc 0, 10, .inl (Af 1))), ((Aa 2), .inl (tc 0, 10, .inl (Af 2))), ((Aa 3), .inl (tc 0, 6, .inl (Af 3))), ((Aa 4), .inl (tc 0, 6, .inl (Af 4))), ((Aa 5), .inl (tc 0, 6, .inl (Af 5))), ((Aa 6), .inl (tc 0, 6, .inl (Af 6))), ((Aa 7), .inl (tc 0, 6, .inl (Af 7))), ((Aa 8), .inl (tc 0, 6, .inl (Af 8))), ((Ea 0), .inr (9, [.int sv_17, .int sv_18, .int sv_19, .int sv_20, .int sv_21, .int sv_22, .ref (Ea 1), .ref (Ea 2), .ref (Ea 3), .ref (Ea 4), .ref (Ea 5), .ref (Ea 6), .ref (Ea 7), .ref (Ea 8)])), ((Ea 1), .inl (tc 0, 10, .inl sv_23)), ((Ea 2), .inl (tc 0, 10, .inl sv_24)), ((Ea 3), .inl (tc 0, 6, .inl sv_25)), ((Ea 4), .inl (tc 0, 6, .inl sv_26)), ((Ea 5), .inl (tc 0, 6, .inl sv_27)), ((Ea 6), .inl (tc 0, 6, .inl sv_28)), ((Ea 7), .inl (tc 0, 6, .inl sv_29)), ((Ea 8), .inl (tc 0, 6, .inl sv_30)), ((Ga 0), .inr (11, [.ref (Ga 1), .ref (Ga 2), .ref (Ga 3), .ref (La 0), .int (Gv 0), .ref (Sa 0), .ref (Aa 0), .ref (Pa 0), .ref (Ga 8), .ref (Ga 9), .ref (Ga 10), .ref (Ga 11)])), ((Sa 0), .inr (8, [.ref (Aa 0), .ref (Sa 2), .ref (Sa 3), .int (Sv 0), .int (Sv 1)])), ((La 0), .inl (tc 4, 6, .inr (.inr (.inr (.inr (Lq 0))))))] H := hP
      have hD : va_D A [((Pa 0), .inr (5, [.ref (Pa 1), .int sv_15, .int sv_16])), ((Pa 1), .inl (tc 5, 20, .inr (.inr (.inr (.inr (Pq 1)))))), ((Aa 0), .inr (9, [.int (Av 0), .int (Av 1), .int (Av 2), .int (Av 3), .int (Av 4), .int (Av 5), .ref (Aa 1), .ref (Aa 2), .ref (Aa 3), .ref (Aa 4), .ref (Aa 5), .ref (Aa 6), .ref (Aa 7), .ref (Aa 8)])), ((Aa 1), .inl (tc 0, 10, .inl (Af 1))), ((Aa 2), .inl (tc 0, 10, .inl (Af 2))), ((Aa 3), .inl (tc 0, 6, .inl (Af 3))), ((Aa 4), .inl (tc 0, 6, .inl (Af 4))), ((Aa 5), .inl (tc 0, 6, .inl (Af 5))), ((Aa 6), .inl (tc 0, 6, .inl (Af 6))), ((Aa 7), .inl (tc 0, 6, .inl (Af 7))), ((Aa 8), .inl (tc 0, 6, .inl (Af 8))), ((Ea 0), .inr (9, [.int sv_17, .int sv_18, .int sv_19, .int sv_20, .int sv_21, .int sv_22, .ref (Ea 1), .ref (Ea 2), .ref (Ea 3), .ref (Ea 4), .ref (Ea 5), .ref (Ea 6), .ref (Ea 7), .ref (Ea 8)])), ((Ea 1), .inl (tc 0, 10, .inl sv_23)), ((Ea 2), .inl (tc 0, 10, .inl sv_24)), ((Ea 3), .inl (tc 0, 6, .inl sv_25)), ((Ea 4), .inl (tc 0, 6, .inl sv_26)), ((Ea 5), .inl (tc 0, 6, .inl sv_27)), ((Ea 6), .inl (tc 0, 6, .inl sv_28)), ((Ea 7), .inl (tc 0, 6, .inl sv_29)), ((Ea 8), .inl (tc 0, 6, .inl sv_30)), ((Ga 0), .inr (11, [.ref (Ga 1), .ref (Ga 2), .ref (Ga 3), .ref (La 0), .int (Gv 0), .ref (Sa 0), .ref (Aa 0), .ref (Pa 0), .ref (Ga 8), .ref (Ga 9), .ref (Ga 10), .ref (Ga 11)])), ((Sa 0), .inr (8, [.ref (Aa 0), .ref (Sa 2), .ref (Sa 3), .int (Sv 0), .int (Sv 1)])), ((La 0), .inl (tc 4, 6, .inr (.inr (.inr (.inr (Lq 0))))))] := hD
      refine cV (a := (Aa 0)) (As := [.null]) (rest := []) (wr := [((Pa 0), .inr (5, [.ref (Pa 1), .int sv_15, .int sv_16])), ((Pa 1), .inl (tc 5, 20, .inr (.inr (.inr (.inr (Pq 1)))))), ((Ea 0), .inr (9, [.int sv_17, .int sv_18, .int sv_19, .int sv_20, .int sv_21, .int sv_22, .ref (Ea 1), .ref (Ea 2), .ref (Ea 3), .ref (Ea 4), .ref (Ea 5), .ref (Ea 6), .ref (Ea 7), .ref (Ea 8)])), ((Ea 1), .inl (tc 0, 10, .inl sv_23)), ((Ea 2), .inl (tc 0, 10, .inl sv_24)), ((Ea 3), .inl (tc 0, 6, .inl sv_25)), ((Ea 4), .inl (tc 0, 6, .inl sv_26)), ((Ea 5), .inl (tc 0, 6, .inl sv_27)), ((Ea 6), .inl (tc 0, 6, .inl sv_28)), ((Ea 7), .inl (tc 0, 6, .inl sv_29)), ((Ea 8), .inl (tc 0, 6, .inl sv_30)), ((Ga 0), .inr (11, [.ref (Ga 1), .ref (Ga 2), .ref (Ga 3), .ref (La 0), .int (Gv 0), .ref (Sa 0), .ref (Aa 0), .ref (Pa 0), .ref (Ga 8), .ref (Ga 9), .ref (Ga 10), .ref (Ga 11)])), ((Sa 0), .inr (8, [.ref (Aa 0), .ref (Sa 2), .ref (Sa 3), .int (Sv 0), .int (Sv 1)])), ((La 0), .inl (tc 4, 6, .inr (.inr (.inr (.inr (Lq 0))))))]) ⟨hx, hb, hml, hown, hts⟩ hK hX hA (ct_X9_goThroughDay_n l D tc sk Aa Av Af) k_739 k_736 k_737 k_738 k_98 pl_X9_goThroughDay ⟨Nat.le_of_ble_eq_true rfl, Nat.le_of_ble_eq_true rfl⟩ rfl rfl (va_recv hK hP (ci := 9) (q0 := 2) rfl rfl) hP hD hS [2, 3, 4, 5, 6, 7, 8, 9, 10] [0, 1, 11, 12, 13, 14, 15, 16, 17, 18, 19, 20, 21, 22] rfl rfl rfl rfl rfl (by decide) rfl hl.1 rfl (Nat.le_of_ble_eq_true rfl) dX11_day_44 ⟨Nat.le_of_ble_eq_true rfl, Nat.le_of_ble_eq_true rfl⟩ (fun v_35 u_36 H locs hv_37 hP hD hS => ?_)
      obtain ⟨sv_38, sv_39, sv_40, sv_41, sv_42, sv_43, sv_44⟩ := u_36
      obtain ⟨r_45, rfl, he_46⟩ := hv_37
      have he_46 : (True) := he_46
      refine W.eq (g2 := F0 m 47 ls [.int r_45]) rfl ?_
      have hP : va_P D classes [((Pa 0), .inr (5, [.ref (Pa 1), .int sv_15, .int sv_16])), ((Pa 1), .inl (tc 5, 20, .inr (.inr (.inr (.inr (Pq 1)))))), ((Ea 0), .inr (9, [.int sv_17, .int sv_18, .int sv_19, .int sv_20, .int sv_21, .int sv_22, .ref (Ea 1), .ref (Ea 2), .ref (Ea 3), .ref (Ea 4), .ref (Ea 5), .ref (Ea 6), .ref (Ea 7), .ref (Ea 8)])), ((Ea 1), .inl (tc 0, 10, .inl sv_23)), ((Ea 2), .inl (tc 0, 10, .inl sv_24)), ((Ea 3), .inl (tc 0, 6, .inl sv_25)), ((Ea 4), .inl (tc 0, 6, .inl sv_26)), ((Ea 5), .inl (tc 0, 6, .inl sv_27)), ((Ea 6), .inl (tc 0, 6, .inl sv_28)), ((Ea 7), .inl (tc 0, 6, .inl sv_29)), ((Ea 8), .inl (tc 0, 6, .inl sv_30)), ((Ga 0), .inr (11, [.ref (Ga 1), .ref (Ga 2), .ref (Ga 3), .ref (La 0), .int (Gv 0), .ref (Sa 0), .ref (Aa 0), .ref (Pa 0), .ref (Ga 8), .ref (Ga 9), .ref (Ga 10), .ref (Ga 11)])), ((Sa 0), .inr (8, [.ref (Aa 0), .ref (Sa 2), .ref (Sa 3), .int (Sv 0), .int (Sv 1)])), ((La 0), .inl (tc 4, 6, .inr (.inr (.inr (.inr (Lq 0)))))), ((Aa 0), .inr (9, [.int sv_38, .int (Av 1), .int (Av 2), .int (Av 3), .int sv_39, .int sv_40, .ref (Aa 1), .ref (Aa 2), .ref (Aa 3), .ref (Aa 4), .ref (Aa 5), .ref (Aa 6), .ref (Aa 7), .ref (Aa 8)])), ((Aa 1), .inl (tc 0, 10, .inl (Af 1))), ((Aa 2), .inl (tc 0, 10, .inl (Af 2))), ((Aa 3), .inl (tc 0, 6, .inl sv_41)), ((Aa 4), .inl (tc 0, 6, .inl (Af 4))), ((Aa 5), .inl (tc 0, 6, .inl (Af 5))), ((Aa 6), .inl (tc 0, 6, .inl sv_42)), ((Aa 7), .inl (tc 0, 6, .inl sv_43)), ((Aa 8), .inl (tc 0, 6, .inl sv_44))] H := hP
      have hD : va_D A [((Pa 0), .inr (5, [.ref (Pa 1), .int sv_15, .int sv_16])), ((Pa 1), .inl (tc 5, 20, .inr (.inr (.inr (.inr (Pq 1)))))), ((Ea 0), .inr (9, [.int sv_17, .int sv_18, .int sv_19, .int sv_20, .int sv_21, .int sv_22, .ref (Ea 1), .ref (Ea 2), .ref (Ea 3), .ref (Ea 4), .ref (Ea 5), .ref (Ea 6), .ref (Ea 7), .ref (Ea 8)])), ((Ea 1), .inl (tc 0, 10, .inl sv_23)), ((Ea 2), .inl (tc 0, 10, .inl sv_24)), ((Ea 3), .inl (tc 0, 6, .inl sv_25)), ((Ea 4), .inl (tc 0, 6, .inl sv_26)), ((Ea 5), .inl (tc 0, 6, .inl sv_27)), ((Ea 6), .inl (tc 0, 6, .inl sv_28)), ((Ea 7), .inl (tc 0, 6, .inl sv_29)), ((Ea 8), .inl (tc 0, 6, .inl sv_30)), ((Ga 0), .inr (11, [.ref (Ga 1), .ref (Ga 2), .ref (Ga 3), .ref (La 0), .int (Gv 0), .ref (Sa 0), .ref (Aa 0), .ref (Pa 0), .ref (Ga 8), .ref (Ga 9), .ref (Ga 10), .ref (Ga 11)])), ((Sa 0), .inr (8, [.ref (Aa 0), .ref (Sa 2), .ref (Sa 3), .int (Sv 0), .int (Sv 1)])), ((La 0), .inl (tc 4, 6, .inr (.inr (.inr (.inr (Lq 0)))))), ((Aa 0), .inr (9, [.int sv_38, .int (Av 1), .int (Av 2), .int (Av 3), .int sv_39, .int sv_40, .ref (Aa 1), .ref (Aa 2), .ref (Aa 3), .ref (Aa 4), .ref (Aa 5), .ref (Aa 6), .ref (Aa 7), .ref (Aa 8)])), ((Aa 1), .inl (tc 0, 10, .inl (Af 1))), ((Aa 2), .inl (tc 0, 10, .inl (Af 2))), ((Aa 3), .inl (tc 0, 6, .inl sv_41)), ((Aa 4), .inl (tc 0, 6, .inl (Af 4))), ((Aa 5), .inl (tc 0, 6, .inl (Af 5))), ((Aa 6), .inl (tc 0, 6, .inl sv_42)), ((Aa 7), .inl (tc 0, 6, .inl sv_43)), ((Aa 8), .inl (tc 0, 6, .inl sv_44))] := hD
      have ha_47 : 0 ≤ (sv_15 : Int32).toInt ∧ (sv_15 : Int32).toInt < 20 := by
        have z_1 : ¬ (r_4 : Int32).toInt = (0 : Int32).toInt := fun z => c_6 (Int32.toInt_inj.mp z)
        have z_2 := Int32.lt_iff_toInt_lt.mp c_10
        have y_0 : (0 : Int32).toInt = 0 := by decide
        have y_999 : (999 : Int32).toInt = 999 := by decide
        omega
      have ha_48 : 0 ≤ ((Av 3) : Int32).toInt ∧ ((Av 3) : Int32).toInt ≤ 6 := by
        have z_1 : ¬ (r_4 : Int32).toInt = (0 : Int32).toInt := fun z => c_6 (Int32.toInt_inj.mp z)
        have z_2 := Int32.lt_iff_toInt_lt.mp c_10
        have y_0 : (0 : Int32).toInt = 0 := by decide
        have y_999 : (999 : Int32).toInt = 999 := by decide
        omega
      have ha_49 : 0 ≤ (sv_20 : Int32).toInt ∧ (sv_20 : Int32).toInt ≤ 6 := by
        have z_1 : ¬ (r_4 : Int32).toInt = (0 : Int32).toInt := fun z => c_6 (Int32.toInt_inj.mp z)
        have z_2 := Int32.lt_iff_toInt_lt.mp c_10
        have y_0 : (0 : Int32).toInt = 0 := by decide
        have y_999 : (999 : Int32).toInt = 999 := by decide
        omega
      exact retI (v := r_45) hx hb hr hlk (rfl) hP hD hS (sv_38, sv_39, sv_40, sv_41, sv_42, sv_43, sv_44, sv_15, sv_16, sv_17, sv_18, sv_19, sv_20, sv_21, sv_22, sv_23, sv_24, sv_25, sv_26, sv_27, sv_28, sv_29, sv_30) ⟨_, rfl, trivial, ha_47, ha_48, ha_49⟩ [11, 12, 14, 15, 16, 17, 18, 19, 20, 21, 22, 0, 1, 13, 2, 3, 4, 5, 6, 7, 8, 9, 10] rfl rfl dX11_day_47 (Nat.le_of_ble_eq_true rfl) (Nat.le_of_ble_eq_true rfl) rfl
    · skip
      refine lv_iconst (v := (-1)) hx hb dX11_day_23 (by decide) ?_
      have ha_50 : 0 ≤ ((Pv 0) : Int32).toInt ∧ ((Pv 0) : Int32).toInt < 20 := by
        have z_1 : ¬ (r_4 : Int32).toInt = (0 : Int32).toInt := fun z => c_6 (Int32.toInt_inj.mp z)
        have z_2 := Int32.le_iff_toInt_le.mp (Int32.not_lt.mp c_10)
        have y_0 : (0 : Int32).toInt = 0 := by decide
        have y_999 : (999 : Int32).toInt = 999 := by decide
        omega
      have ha_51 : 0 ≤ ((Av 3) : Int32).toInt ∧ ((Av 3) : Int32).toInt ≤ 6 := by
        have z_1 : ¬ (r_4 : Int32).toInt = (0 : Int32).toInt := fun z => c_6 (Int32.toInt_inj.mp z)
        have z_2 := Int32.le_iff_toInt_le.mp (Int32.not_lt.mp c_10)
        have y_0 : (0 : Int32).toInt = 0 := by decide
        have y_999 : (999 : Int32).toInt = 999 := by decide
        omega
      have ha_52 : 0 ≤ ((Ev 3) : Int32).toInt ∧ ((Ev 3) : Int32).toInt ≤ 6 := by
        have z_1 : ¬ (r_4 : Int32).toInt = (0 : Int32).toInt := fun z => c_6 (Int32.toInt_inj.mp z)
        have z_2 := Int32.le_iff_toInt_le.mp (Int32.not_lt.mp c_10)
        have y_0 : (0 : Int32).toInt = 0 := by decide
        have y_999 : (999 : Int32).toInt = 999 := by decide
        omega
      exact retI (v := (-1)) hx hb hr hlk (rfl) hP hD hS ((Av 0), (Av 4), (Av 5), (Af 3), (Af 6), (Af 7), (Af 8), (Pv 0), (Pv 1), (Ev 0), (Ev 1), (Ev 2), (Ev 3), (Ev 4), (Ev 5), (Ef 1), (Ef 2), (Ef 3), (Ef 4), (Ef 5), (Ef 6), (Ef 7), (Ef 8)) ⟨_, rfl, trivial, ha_50, ha_51, ha_52⟩ [0, 1, 14, 15, 16, 17, 18, 19, 20, 21, 22, 2, 3, 4, 5, 6, 7, 8, 9, 10, 11, 12, 13] rfl rfl dX11_day_24 (Nat.le_of_ble_eq_true rfl) (Nat.le_of_ble_eq_true rfl) rfl
set_option maxHeartbeats 4000000 in
set_option maxRecDepth 100000 in
theorem ct_X11_day_sr (l : Launch) (D : va_G) (tc : Nat → ClassId) (sk : (Nat → Nat) × (Nat → Nat)) (Ga : Nat → Nat) (Gv : Nat → Int32) (Sa : Nat → Nat) (Sv : Nat → Int32) (Aa : Nat → Nat) (Av : Nat → Int32) (Af : Nat → Nat → Int32) (Pa : Nat → Nat) (Pv : Nat → Int32) (Pq : Nat → Nat → Option Nat) (La : Nat → Nat) (Lq : Nat → Nat → Option Nat) (Ra : Nat → Nat) (Rf : Nat → Nat → Int32) (Rg : Nat → Nat → Int64) (Rn : Nat) (Ea : Nat → Nat) (Ev : Nat → Int32) (Ef : Nat → Nat → Int32) (h_nx : 0 ≤ ((Pv 0) : Int32).toInt ∧ ((Pv 0) : Int32).toInt < 20) (h_q : (Pq 1) (Pv 0).toNatClampNeg = some (Ea 0)) (h_r : (0 ≤ (Sv 0).toInt ∧ (Sv 0).toInt < 6) ∧ (Lq 0) (Sv 0).toNatClampNeg = some (Ra 0)) (h_Rn : Rn ≤ 400) (h_bA : 0 ≤ ((Av 3) : Int32).toInt ∧ ((Av 3) : Int32).toInt ≤ 6) (h_bE : 0 ≤ ((Ev 3) : Int32).toInt ∧ ((Ev 3) : Int32).toInt ≤ 6) : Ct l yX11_day cX11_day 1 (some .int) { frames := 5, cells := 0, slots := 0, locals := 116 } D tc sk [.ref (Ga 0)] [((Ga 0), .inr (11, [.ref (Ga 1), .ref (Ga 2), .ref (Ga 3), .ref (La 0), .int (Gv 0), .ref (Sa 0), .ref (Aa 0), .ref (Pa 0), .ref (Ga 8), .ref (Ga 9), .ref (Ga 10), .ref (Ga 11)])), ((Sa 0), .inr (8, [.ref (Aa 0), .ref (Sa 2), .ref (Sa 3), .int (Sv 0), .int (Sv 1)])), ((Aa 0), .inr (9, [.int (Av 0), .int (Av 1), .int (Av 2), .int (Av 3), .int (Av 4), .int (Av 5), .ref (Aa 1), .ref (Aa 2), .ref (Aa 3), .ref (Aa 4), .ref (Aa 5), .ref (Aa 6), .ref (Aa 7), .ref (Aa 8)])), ((Aa 1), .inl (tc 0, 10, .inl (Af 1))), ((Aa 2), .inl (tc 0, 10, .inl (Af 2))), ((Aa 3), .inl (tc 0, 6, .inl (Af 3))), ((Aa 4), .inl (tc 0, 6, .inl (Af 4))), ((Aa 5), .inl (tc 0, 6, .inl (Af 5))), ((Aa 6), .inl (tc 0, 6, .inl (Af 6))), ((Aa 7), .inl (tc 0, 6, .inl (Af 7))), ((Aa 8), .inl (tc 0, 6, .inl (Af 8))), ((Pa 0), .inr (5, [.ref (Pa 1), .int (Pv 0), .int (Pv 1)])), ((Pa 1), .inl (tc 5, 20, .inr (.inr (.inr (.inr (Pq 1)))))), ((La 0), .inl (tc 4, 6, .inr (.inr (.inr (.inr (Lq 0)))))), ((Ra 0), .inr (6, [.ref (Ra 1), .ref (Ra 2)])), ((Ra 1), .inl (tc 0, Rn, .inl (Rf 1))), ((Ra 2), .inl (tc 1, 64, .inr (.inl (Rg 2)))), ((Ea 0), .inr (9, [.int (Ev 0), .int (Ev 1), .int (Ev 2), .int (Ev 3), .int (Ev 4), .int (Ev 5), .ref (Ea 1), .ref (Ea 2), .ref (Ea 3), .ref (Ea 4), .ref (Ea 5), .ref (Ea 6), .ref (Ea 7), .ref (Ea 8)])), ((Ea 1), .inl (tc 0, 10, .inl (Ef 1))), ((Ea 2), .inl (tc 0, 10, .inl (Ef 2))), ((Ea 3), .inl (tc 0, 6, .inl (Ef 3))), ((Ea 4), .inl (tc 0, 6, .inl (Ef 4))), ((Ea 5), .inl (tc 0, 6, .inl (Ef 5))), ((Ea 6), .inl (tc 0, 6, .inl (Ef 6))), ((Ea 7), .inl (tc 0, 6, .inl (Ef 7))), ((Ea 8), .inl (tc 0, 6, .inl (Ef 8)))] (fun (v : Option Value) (u : (Int32) × (Int32) × (Int32) × (Nat → Int32) × (Nat → Int32) × (Nat → Int32) × (Nat → Int32) × (Int32) × (Int32) × (Nat → Int64) × (Int32) × (Int32) × (Int32) × (Int32) × (Int32) × (Int32) × (Nat → Int32) × (Nat → Int32) × (Nat → Int32) × (Nat → Int32) × (Nat → Int32) × (Nat → Int32) × (Nat → Int32) × (Nat → Int32)) => match u with | (oo0x1, oo0x2, oo0x3, oo0x4, oo0x5, oo0x6, oo0x7, oo0x8, oo0x9, oo0x10, oo0x11, oo0x12, oo0x13, oo0x14, oo0x15, oo0x16, oo0x17, oo0x18, oo0x19, oo0x20, oo0x21, oo0x22, oo0x23, oo0x24) => ∃ r : Int32, v = some (.int r) ∧ (True) ∧ (0 ≤ (oo0x8 : Int32).toInt ∧ (oo0x8 : Int32).toInt < 20) ∧ (0 ≤ ((Av 3) : Int32).toInt ∧ ((Av 3) : Int32).toInt ≤ 6) ∧ (0 ≤ (oo0x14 : Int32).toInt ∧ (oo0x14 : Int32).toInt ≤ 6)) (fun (u : (Int32) × (Int32) × (Int32) × (Nat → Int32) × (Nat → Int32) × (Nat → Int32) × (Nat → Int32) × (Int32) × (Int32) × (Nat → Int64) × (Int32) × (Int32) × (Int32) × (Int32) × (Int32) × (Int32) × (Nat → Int32) × (Nat → Int32) × (Nat → Int32) × (Nat → Int32) × (Nat → Int32) × (Nat → Int32) × (Nat → Int32) × (Nat → Int32)) => match u with | (oo0x1, oo0x2, oo0x3, oo0x4, oo0x5, oo0x6, oo0x7, oo0x8, oo0x9, oo0x10, oo0x11, oo0x12, oo0x13, oo0x14, oo0x15, oo0x16, oo0x17, oo0x18, oo0x19, oo0x20, oo0x21, oo0x22, oo0x23, oo0x24) => [((Ga 0), .inr (11, [.ref (Ga 1), .ref (Ga 2), .ref (Ga 3), .ref (La 0), .int (Gv 0), .ref (Sa 0), .ref (Aa 0), .ref (Pa 0), .ref (Ga 8), .ref (Ga 9), .ref (Ga 10), .ref (Ga 11)])), ((Sa 0), .inr (8, [.ref (Aa 0), .ref (Sa 2), .ref (Sa 3), .int (Sv 0), .int (Sv 1)])), ((Aa 0), .inr (9, [.int oo0x1, .int (Av 1), .int (Av 2), .int (Av 3), .int oo0x2, .int oo0x3, .ref (Aa 1), .ref (Aa 2), .ref (Aa 3), .ref (Aa 4), .ref (Aa 5), .ref (Aa 6), .ref (Aa 7), .ref (Aa 8)])), ((Aa 1), .inl (tc 0, 10, .inl (Af 1))), ((Aa 2), .inl (tc 0, 10, .inl (Af 2))), ((Aa 3), .inl (tc 0, 6, .inl oo0x4)), ((Aa 4), .inl (tc 0, 6, .inl (Af 4))), ((Aa 5), .inl (tc 0, 6, .inl (Af 5))), ((Aa 6), .inl (tc 0, 6, .inl oo0x5)), ((Aa 7), .inl (tc 0, 6, .inl oo0x6)), ((Aa 8), .inl (tc 0, 6, .inl oo0x7)), ((Pa 0), .inr (5, [.ref (Pa 1), .int oo0x8, .int oo0x9])), ((Pa 1), .inl (tc 5, 20, .inr (.inr (.inr (.inr (Pq 1)))))), ((La 0), .inl (tc 4, 6, .inr (.inr (.inr (.inr (Lq 0)))))), ((Ra 0), .inr (6, [.ref (Ra 1), .ref (Ra 2)])), ((Ra 1), .inl (tc 0, Rn, .inl (Rf 1))), ((Ra 2), .inl (tc 1, 64, .inr (.inl oo0x10))), ((Ea 0), .inr (9, [.int oo0x11, .int oo0x12, .int oo0x13, .int oo0x14, .int oo0x15, .int oo0x16, .ref (Ea 1), .ref (Ea 2), .ref (Ea 3), .ref (Ea 4), .ref (Ea 5), .ref (Ea 6), .ref (Ea 7), .ref (Ea 8)])), ((Ea 1), .inl (tc 0, 10, .inl oo0x17)), ((Ea 2), .inl (tc 0, 10, .inl oo0x18)), ((Ea 3), .inl (tc 0, 6, .inl oo0x19)), ((Ea 4), .inl (tc 0, 6, .inl oo0x20)), ((Ea 5), .inl (tc 0, 6, .inl oo0x21)), ((Ea 6), .inl (tc 0, 6, .inl oo0x22)), ((Ea 7), .inl (tc 0, 6, .inl oo0x23)), ((Ea 8), .inl (tc 0, 6, .inl oo0x24))]) 0 0 := by
  refine Ct.start (by decide) (Nat.le_of_ble_eq_true rfl) (fun p e s m below meth c A ls hx hb hr hlk hin hml hown hts hK hX hP hD hA hl hS => ?_)
  have hl : lv_has ls 1 [(0, .ref (Ga 0))] := hl
  refine lv_aload_n hx hb dX11_day_0 rfl (lv_at hl 0 rfl) ?_
  refine gf_X11_51 hx hb hts hown hK hP 0 rfl rfl dX11_day_1 ?_
  refine cV (a := (Aa 0)) (As := []) (rest := []) (wr := [((Ga 0), .inr (11, [.ref (Ga 1), .ref (Ga 2), .ref (Ga 3), .ref (La 0), .int (Gv 0), .ref (Sa 0), .ref (Aa 0), .ref (Pa 0), .ref (Ga 8), .ref (Ga 9), .ref (Ga 10), .ref (Ga 11)])), ((Sa 0), .inr (8, [.ref (Aa 0), .ref (Sa 2), .ref (Sa 3), .int (Sv 0), .int (Sv 1)])), ((Pa 0), .inr (5, [.ref (Pa 1), .int (Pv 0), .int (Pv 1)])), ((Pa 1), .inl (tc 5, 20, .inr (.inr (.inr (.inr (Pq 1)))))), ((La 0), .inl (tc 4, 6, .inr (.inr (.inr (.inr (Lq 0)))))), ((Ra 0), .inr (6, [.ref (Ra 1), .ref (Ra 2)])), ((Ra 1), .inl (tc 0, Rn, .inl (Rf 1))), ((Ra 2), .inl (tc 1, 64, .inr (.inl (Rg 2)))), ((Ea 0), .inr (9, [.int (Ev 0), .int (Ev 1), .int (Ev 2), .int (Ev 3), .int (Ev 4), .int (Ev 5), .ref (Ea 1), .ref (Ea 2), .ref (Ea 3), .ref (Ea 4), .ref (Ea 5), .ref (Ea 6), .ref (Ea 7), .ref (Ea 8)])), ((Ea 1), .inl (tc 0, 10, .inl (Ef 1))), ((Ea 2), .inl (tc 0, 10, .inl (Ef 2))), ((Ea 3), .inl (tc 0, 6, .inl (Ef 3))), ((Ea 4), .inl (tc 0, 6, .inl (Ef 4))), ((Ea 5), .inl (tc 0, 6, .inl (Ef 5))), ((Ea 6), .inl (tc 0, 6, .inl (Ef 6))), ((Ea 7), .inl (tc 0, 6, .inl (Ef 7))), ((Ea 8), .inl (tc 0, 6, .inl (Ef 8)))]) ⟨hx, hb, hml, hown, hts⟩ hK hX hA (ct_X9_isTold l D tc sk Aa Av Af) k_724 k_721 k_722 k_723 k_98 pl_X9_isTold ⟨Nat.le_of_ble_eq_true rfl, Nat.le_of_ble_eq_true rfl⟩ rfl rfl (va_recv hK hP (ci := 9) (q0 := 2) rfl rfl) hP hD hS [2, 3, 4, 5, 6, 7, 8, 9, 10] [0, 1, 11, 12, 13, 14, 15, 16, 17, 18, 19, 20, 21, 22, 23, 24, 25] rfl rfl rfl rfl rfl (by decide) rfl hl.1 rfl (Nat.le_of_ble_eq_true rfl) dX11_day_4 ⟨Nat.le_of_ble_eq_true rfl, Nat.le_of_ble_eq_true rfl⟩ (fun v_1 u_2 H locs hv_3 hP hD hS => ?_)
  obtain ⟨r_4, rfl, he_5⟩ := hv_3
  have he_5 : ((r_4.toInt = 0 ∨ r_4.toInt = 1)) := he_5
  refine W.eq (g2 := F0 m 7 ls [.int r_4]) rfl ?_
  have hP : va_P D classes [((Ga 0), .inr (11, [.ref (Ga 1), .ref (Ga 2), .ref (Ga 3), .ref (La 0), .int (Gv 0), .ref (Sa 0), .ref (Aa 0), .ref (Pa 0), .ref (Ga 8), .ref (Ga 9), .ref (Ga 10), .ref (Ga 11)])), ((Sa 0), .inr (8, [.ref (Aa 0), .ref (Sa 2), .ref (Sa 3), .int (Sv 0), .int (Sv 1)])), ((Pa 0), .inr (5, [.ref (Pa 1), .int (Pv 0), .int (Pv 1)])), ((Pa 1), .inl (tc 5, 20, .inr (.inr (.inr (.inr (Pq 1)))))), ((La 0), .inl (tc 4, 6, .inr (.inr (.inr (.inr (Lq 0)))))), ((Ra 0), .inr (6, [.ref (Ra 1), .ref (Ra 2)])), ((Ra 1), .inl (tc 0, Rn, .inl (Rf 1))), ((Ra 2), .inl (tc 1, 64, .inr (.inl (Rg 2)))), ((Ea 0), .inr (9, [.int (Ev 0), .int (Ev 1), .int (Ev 2), .int (Ev 3), .int (Ev 4), .int (Ev 5), .ref (Ea 1), .ref (Ea 2), .ref (Ea 3), .ref (Ea 4), .ref (Ea 5), .ref (Ea 6), .ref (Ea 7), .ref (Ea 8)])), ((Ea 1), .inl (tc 0, 10, .inl (Ef 1))), ((Ea 2), .inl (tc 0, 10, .inl (Ef 2))), ((Ea 3), .inl (tc 0, 6, .inl (Ef 3))), ((Ea 4), .inl (tc 0, 6, .inl (Ef 4))), ((Ea 5), .inl (tc 0, 6, .inl (Ef 5))), ((Ea 6), .inl (tc 0, 6, .inl (Ef 6))), ((Ea 7), .inl (tc 0, 6, .inl (Ef 7))), ((Ea 8), .inl (tc 0, 6, .inl (Ef 8))), ((Aa 0), .inr (9, [.int (Av 0), .int (Av 1), .int (Av 2), .int (Av 3), .int (Av 4), .int (Av 5), .ref (Aa 1), .ref (Aa 2), .ref (Aa 3), .ref (Aa 4), .ref (Aa 5), .ref (Aa 6), .ref (Aa 7), .ref (Aa 8)])), ((Aa 1), .inl (tc 0, 10, .inl (Af 1))), ((Aa 2), .inl (tc 0, 10, .inl (Af 2))), ((Aa 3), .inl (tc 0, 6, .inl (Af 3))), ((Aa 4), .inl (tc 0, 6, .inl (Af 4))), ((Aa 5), .inl (tc 0, 6, .inl (Af 5))), ((Aa 6), .inl (tc 0, 6, .inl (Af 6))), ((Aa 7), .inl (tc 0, 6, .inl (Af 7))), ((Aa 8), .inl (tc 0, 6, .inl (Af 8)))] H := hP
  have hD : va_D A [((Ga 0), .inr (11, [.ref (Ga 1), .ref (Ga 2), .ref (Ga 3), .ref (La 0), .int (Gv 0), .ref (Sa 0), .ref (Aa 0), .ref (Pa 0), .ref (Ga 8), .ref (Ga 9), .ref (Ga 10), .ref (Ga 11)])), ((Sa 0), .inr (8, [.ref (Aa 0), .ref (Sa 2), .ref (Sa 3), .int (Sv 0), .int (Sv 1)])), ((Pa 0), .inr (5, [.ref (Pa 1), .int (Pv 0), .int (Pv 1)])), ((Pa 1), .inl (tc 5, 20, .inr (.inr (.inr (.inr (Pq 1)))))), ((La 0), .inl (tc 4, 6, .inr (.inr (.inr (.inr (Lq 0)))))), ((Ra 0), .inr (6, [.ref (Ra 1), .ref (Ra 2)])), ((Ra 1), .inl (tc 0, Rn, .inl (Rf 1))), ((Ra 2), .inl (tc 1, 64, .inr (.inl (Rg 2)))), ((Ea 0), .inr (9, [.int (Ev 0), .int (Ev 1), .int (Ev 2), .int (Ev 3), .int (Ev 4), .int (Ev 5), .ref (Ea 1), .ref (Ea 2), .ref (Ea 3), .ref (Ea 4), .ref (Ea 5), .ref (Ea 6), .ref (Ea 7), .ref (Ea 8)])), ((Ea 1), .inl (tc 0, 10, .inl (Ef 1))), ((Ea 2), .inl (tc 0, 10, .inl (Ef 2))), ((Ea 3), .inl (tc 0, 6, .inl (Ef 3))), ((Ea 4), .inl (tc 0, 6, .inl (Ef 4))), ((Ea 5), .inl (tc 0, 6, .inl (Ef 5))), ((Ea 6), .inl (tc 0, 6, .inl (Ef 6))), ((Ea 7), .inl (tc 0, 6, .inl (Ef 7))), ((Ea 8), .inl (tc 0, 6, .inl (Ef 8))), ((Aa 0), .inr (9, [.int (Av 0), .int (Av 1), .int (Av 2), .int (Av 3), .int (Av 4), .int (Av 5), .ref (Aa 1), .ref (Aa 2), .ref (Aa 3), .ref (Aa 4), .ref (Aa 5), .ref (Aa 6), .ref (Aa 7), .ref (Aa 8)])), ((Aa 1), .inl (tc 0, 10, .inl (Af 1))), ((Aa 2), .inl (tc 0, 10, .inl (Af 2))), ((Aa 3), .inl (tc 0, 6, .inl (Af 3))), ((Aa 4), .inl (tc 0, 6, .inl (Af 4))), ((Aa 5), .inl (tc 0, 6, .inl (Af 5))), ((Aa 6), .inl (tc 0, 6, .inl (Af 6))), ((Aa 7), .inl (tc 0, 6, .inl (Af 7))), ((Aa 8), .inl (tc 0, 6, .inl (Af 8)))] := hD
  refine lv_if_eq (tgt := 23) hx hb dX11_day_7 (by decide) (fun c_6 => ?_) (fun c_6 => ?_)
  · skip
    refine lv_iconst (v := (-1)) hx hb dX11_day_23 (by decide) ?_
    have ha_7 : 0 ≤ ((Pv 0) : Int32).toInt ∧ ((Pv 0) : Int32).toInt < 20 := by
      have z_1 := congrArg Int32.toInt c_6
      have y_0 : (0 : Int32).toInt = 0 := by decide
      omega
    have ha_8 : 0 ≤ ((Av 3) : Int32).toInt ∧ ((Av 3) : Int32).toInt ≤ 6 := by
      have z_1 := congrArg Int32.toInt c_6
      have y_0 : (0 : Int32).toInt = 0 := by decide
      omega
    have ha_9 : 0 ≤ ((Ev 3) : Int32).toInt ∧ ((Ev 3) : Int32).toInt ≤ 6 := by
      have z_1 := congrArg Int32.toInt c_6
      have y_0 : (0 : Int32).toInt = 0 := by decide
      omega
    exact retI (v := (-1)) hx hb hr hlk (rfl) hP hD hS ((Av 0), (Av 4), (Av 5), (Af 3), (Af 6), (Af 7), (Af 8), (Pv 0), (Pv 1), (Rg 2), (Ev 0), (Ev 1), (Ev 2), (Ev 3), (Ev 4), (Ev 5), (Ef 1), (Ef 2), (Ef 3), (Ef 4), (Ef 5), (Ef 6), (Ef 7), (Ef 8)) ⟨_, rfl, trivial, ha_7, ha_8, ha_9⟩ [0, 1, 17, 18, 19, 20, 21, 22, 23, 24, 25, 2, 3, 4, 5, 6, 7, 8, 9, 10, 11, 12, 13, 14, 15, 16] rfl rfl dX11_day_24 (Nat.le_of_ble_eq_true rfl) (Nat.le_of_ble_eq_true rfl) rfl
  · skip
    refine lv_aload_n hx hb dX11_day_10 rfl (lv_at hl 0 rfl) ?_
    refine gf_X11_51 hx hb hts hown hK hP 0 rfl rfl dX11_day_11 ?_
    refine gf_X11_179 hx hb hts hown hK hP 17 rfl rfl dX11_day_14 ?_
    refine lv_sipush (v := 999) hx hb dX11_day_17 (by decide) ?_
    refine lv_icmp_lt (tgt := 25) hx hb dX11_day_20 (by decide) (fun c_10 => ?_) (fun c_10 => ?_)
    · skip
      refine lv_aload_n hx hb dX11_day_25 rfl (lv_at hl 0 rfl) ?_
      refine gf_X11_57 hx hb hts hown hK hP 0 rfl rfl dX11_day_26 ?_
      refine lv_aload_n hx hb dX11_day_29 rfl (lv_at hl 0 rfl) ?_
      refine gf_X11_51 hx hb hts hown hK hP 0 rfl rfl dX11_day_30 ?_
      have ha_11 : 0 ≤ ((Pv 0) : Int32).toInt ∧ ((Pv 0) : Int32).toInt < 20 := by
        have z_1 : ¬ (r_4 : Int32).toInt = (0 : Int32).toInt := fun z => c_6 (Int32.toInt_inj.mp z)
        have z_2 := Int32.lt_iff_toInt_lt.mp c_10
        have y_0 : (0 : Int32).toInt = 0 := by decide
        have y_999 : (999 : Int32).toInt = 999 := by decide
        omega
      refine cV (a := (Pa 0)) (As := [.ref (Aa 0)]) (rest := []) (wr := [((Ga 0), .inr (11, [.ref (Ga 1), .ref (Ga 2), .ref (Ga 3), .ref (La 0), .int (Gv 0), .ref (Sa 0), .ref (Aa 0), .ref (Pa 0), .ref (Ga 8), .ref (Ga 9), .ref (Ga 10), .ref (Ga 11)])), ((Sa 0), .inr (8, [.ref (Aa 0), .ref (Sa 2), .ref (Sa 3), .int (Sv 0), .int (Sv 1)])), ((La 0), .inl (tc 4, 6, .inr (.inr (.inr (.inr (Lq 0)))))), ((Ra 0), .inr (6, [.ref (Ra 1), .ref (Ra 2)])), ((Ra 1), .inl (tc 0, Rn, .inl (Rf 1))), ((Ra 2), .inl (tc 1, 64, .inr (.inl (Rg 2))))]) ⟨hx, hb, hml, hown, hts⟩ hK hX hA (ct_X5_keep_s l D tc sk Pa Pv Pq Aa Av Af Ea Ev Ef ha_11 h_q) k_728 k_725 k_726 k_727 k_102 pl_X5_keep ⟨Nat.le_of_ble_eq_true rfl, Nat.le_of_ble_eq_true rfl⟩ rfl rfl (va_recv hK hP (ci := 5) (q0 := 2) rfl rfl) hP hD hS [2, 3, 17, 18, 19, 20, 21, 22, 23, 24, 25, 8, 9, 10, 11, 12, 13, 14, 15, 16] [0, 1, 4, 5, 6, 7] rfl rfl rfl rfl rfl (by decide) rfl hl.1 rfl (Nat.le_of_ble_eq_true rfl) dX11_day_33 ⟨Nat.le_of_ble_eq_true rfl, Nat.le_of_ble_eq_true rfl⟩ (fun v_12 u_13 H locs hv_14 hP hD hS => ?_)
      obtain ⟨sv_15, sv_16, sv_17, sv_18, sv_19, sv_20, sv_21, sv_22, sv_23, sv_24, sv_25, sv_26, sv_27, sv_28, sv_29, sv_30⟩ := u_13
      obtain ⟨rfl, pf_31⟩ := hv_14
      have pf_31 : 0 ≤ (sv_15 : Int32).toInt ∧ (sv_15 : Int32).toInt < 20 := pf_31
      refine W.eq (g2 := F0 m 36 ls []) rfl ?_
      have hP : va_P D classes [((Ga 0), .inr (11, [.ref (Ga 1), .ref (Ga 2), .ref (Ga 3), .ref (La 0), .int (Gv 0), .ref (Sa 0), .ref (Aa 0), .ref (Pa 0), .ref (Ga 8), .ref (Ga 9), .ref (Ga 10), .ref (Ga 11)])), ((Sa 0), .inr (8, [.ref (Aa 0), .ref (Sa 2), .ref (Sa 3), .int (Sv 0), .int (Sv 1)])), ((La 0), .inl (tc 4, 6, .inr (.inr (.inr (.inr (Lq 0)))))), ((Ra 0), .inr (6, [.ref (Ra 1), .ref (Ra 2)])), ((Ra 1), .inl (tc 0, Rn, .inl (Rf 1))), ((Ra 2), .inl (tc 1, 64, .inr (.inl (Rg 2)))), ((Pa 0), .inr (5, [.ref (Pa 1), .int sv_15, .int sv_16])), ((Pa 1), .inl (tc 5, 20, .inr (.inr (.inr (.inr (Pq 1)))))), ((Aa 0), .inr (9, [.int (Av 0), .int (Av 1), .int (Av 2), .int (Av 3), .int (Av 4), .int (Av 5), .ref (Aa 1), .ref (Aa 2), .ref (Aa 3), .ref (Aa 4), .ref (Aa 5), .ref (Aa 6), .ref (Aa 7), .ref (Aa 8)])), ((Aa 1), .inl (tc 0, 10, .inl (Af 1))), ((Aa 2), .inl (tc 0, 10, .inl (Af 2))), ((Aa 3), .inl (tc 0, 6, .inl (Af 3))), ((Aa 4), .inl (tc 0, 6, .inl (Af 4))), ((Aa 5), .inl (tc 0, 6, .inl (Af 5))), ((Aa 6), .inl (tc 0, 6, .inl (Af 6))), ((Aa 7), .inl (tc 0, 6, .inl (Af 7))), ((Aa 8), .inl (tc 0, 6, .inl (Af 8))), ((Ea 0), .inr (9, [.int sv_17, .int sv_18, .int sv_19, .int sv_20, .int sv_21, .int sv_22, .ref (Ea 1), .ref (Ea 2), .ref (Ea 3), .ref (Ea 4), .ref (Ea 5), .ref (Ea 6), .ref (Ea 7), .ref (Ea 8)])), ((Ea 1), .inl (tc 0, 10, .inl sv_23)), ((Ea 2), .inl (tc 0, 10, .inl sv_24)), ((Ea 3), .inl (tc 0, 6, .inl sv_25)), ((Ea 4), .inl (tc 0, 6, .inl sv_26)), ((Ea 5), .inl (tc 0, 6, .inl sv_27)), ((Ea 6), .inl (tc 0, 6, .inl sv_28)), ((Ea 7), .inl (tc 0, 6, .inl sv_29)), ((Ea 8), .inl (tc 0, 6, .inl sv_30))] H := hP
      have hD : va_D A [((Ga 0), .inr (11, [.ref (Ga 1), .ref (Ga 2), .ref (Ga 3), .ref (La 0), .int (Gv 0), .ref (Sa 0), .ref (Aa 0), .ref (Pa 0), .ref (Ga 8), .ref (Ga 9), .ref (Ga 10), .ref (Ga 11)])), ((Sa 0), .inr (8, [.ref (Aa 0), .ref (Sa 2), .ref (Sa 3), .int (Sv 0), .int (Sv 1)])), ((La 0), .inl (tc 4, 6, .inr (.inr (.inr (.inr (Lq 0)))))), ((Ra 0), .inr (6, [.ref (Ra 1), .ref (Ra 2)])), ((Ra 1), .inl (tc 0, Rn, .inl (Rf 1))), ((Ra 2), .inl (tc 1, 64, .inr (.inl (Rg 2)))), ((Pa 0), .inr (5, [.ref (Pa 1), .int sv_15, .int sv_16])), ((Pa 1), .inl (tc 5, 20, .inr (.inr (.inr (.inr (Pq 1)))))), ((Aa 0), .inr (9, [.int (Av 0), .int (Av 1), .int (Av 2), .int (Av 3), .int (Av 4), .int (Av 5), .ref (Aa 1), .ref (Aa 2), .ref (Aa 3), .ref (Aa 4), .ref (Aa 5), .ref (Aa 6), .ref (Aa 7), .ref (Aa 8)])), ((Aa 1), .inl (tc 0, 10, .inl (Af 1))), ((Aa 2), .inl (tc 0, 10, .inl (Af 2))), ((Aa 3), .inl (tc 0, 6, .inl (Af 3))), ((Aa 4), .inl (tc 0, 6, .inl (Af 4))), ((Aa 5), .inl (tc 0, 6, .inl (Af 5))), ((Aa 6), .inl (tc 0, 6, .inl (Af 6))), ((Aa 7), .inl (tc 0, 6, .inl (Af 7))), ((Aa 8), .inl (tc 0, 6, .inl (Af 8))), ((Ea 0), .inr (9, [.int sv_17, .int sv_18, .int sv_19, .int sv_20, .int sv_21, .int sv_22, .ref (Ea 1), .ref (Ea 2), .ref (Ea 3), .ref (Ea 4), .ref (Ea 5), .ref (Ea 6), .ref (Ea 7), .ref (Ea 8)])), ((Ea 1), .inl (tc 0, 10, .inl sv_23)), ((Ea 2), .inl (tc 0, 10, .inl sv_24)), ((Ea 3), .inl (tc 0, 6, .inl sv_25)), ((Ea 4), .inl (tc 0, 6, .inl sv_26)), ((Ea 5), .inl (tc 0, 6, .inl sv_27)), ((Ea 6), .inl (tc 0, 6, .inl sv_28)), ((Ea 7), .inl (tc 0, 6, .inl sv_29)), ((Ea 8), .inl (tc 0, 6, .inl sv_30))] := hD
      refine lv_aload_n hx hb dX11_day_36 rfl (lv_at hl 0 rfl) ?_
      refine gf_X11_51 hx hb hts hown hK hP 0 rfl rfl dX11_day_37 ?_
      refine lv_aload_n hx hb dX11_day_40 rfl (lv_at hl 0 rfl) ?_
      refine cV (a := (Ga 0)) (As := []) (rest := [.ref (Aa 0)]) (wr := [((Ra 0), .inr (6, [.ref (Ra 1), .ref (Ra 2)])), ((Ra 1), .inl (tc 0, Rn, .inl (Rf 1))), ((Ra 2), .inl (tc 1, 64, .inr (.inl (Rg 2)))), ((Pa 0), .inr (5, [.ref (Pa 1), .int sv_15, .int sv_16])), ((Pa 1), .inl (tc 5, 20, .inr (.inr (.inr (.inr (Pq 1)))))), ((Aa 0), .inr (9, [.int (Av 0), .int (Av 1), .int (Av 2), .int (Av 3), .int (Av 4), .int (Av 5), .ref (Aa 1), .ref (Aa 2), .ref (Aa 3), .ref (Aa 4), .ref (Aa 5), .ref (Aa 6), .ref (Aa 7), .ref (Aa 8)])), ((Aa 1), .inl (tc 0, 10, .inl (Af 1))), ((Aa 2), .inl (tc 0, 10, .inl (Af 2))), ((Aa 3), .inl (tc 0, 6, .inl (Af 3))), ((Aa 4), .inl (tc 0, 6, .inl (Af 4))), ((Aa 5), .inl (tc 0, 6, .inl (Af 5))), ((Aa 6), .inl (tc 0, 6, .inl (Af 6))), ((Aa 7), .inl (tc 0, 6, .inl (Af 7))), ((Aa 8), .inl (tc 0, 6, .inl (Af 8))), ((Ea 0), .inr (9, [.int sv_17, .int sv_18, .int sv_19, .int sv_20, .int sv_21, .int sv_22, .ref (Ea 1), .ref (Ea 2), .ref (Ea 3), .ref (Ea 4), .ref (Ea 5), .ref (Ea 6), .ref (Ea 7), .ref (Ea 8)])), ((Ea 1), .inl (tc 0, 10, .inl sv_23)), ((Ea 2), .inl (tc 0, 10, .inl sv_24)), ((Ea 3), .inl (tc 0, 6, .inl sv_25)), ((Ea 4), .inl (tc 0, 6, .inl sv_26)), ((Ea 5), .inl (tc 0, 6, .inl sv_27)), ((Ea 6), .inl (tc 0, 6, .inl sv_28)), ((Ea 7), .inl (tc 0, 6, .inl sv_29)), ((Ea 8), .inl (tc 0, 6, .inl sv_30))]) ⟨hx, hb, hml, hown, hts⟩ hK hX hA (ct_X11_ruleInForce_r l D tc sk (fun k => ([(Ga 0), (Ga 1), (Ga 2), (Ga 3), 0, 0, (Aa 0), (Pa 0), (Ga 8), (Ga 9), (Ga 10), (Ga 11)] : List (Nat)).getD k 0) Gv (fun k => ([(Sa 0), (Aa 0), (Sa 2), (Sa 3)] : List (Nat)).getD k 0) Sv La Lq (Ra 0) h_r) k_735 k_732 k_734 k_13 k_95 pl_X11_ruleInForce ⟨Nat.le_of_ble_eq_true rfl, Nat.le_of_ble_eq_true rfl⟩ rfl rfl (va_recv hK hP (ci := 11) (q0 := 0) rfl rfl) hP hD hS [0, 1, 2] [3, 4, 5, 6, 7, 8, 9, 10, 11, 12, 13, 14, 15, 16, 17, 18, 19, 20, 21, 22, 23, 24, 25] rfl rfl rfl rfl rfl (by decide) rfl hl.1 rfl (Nat.le_of_ble_eq_true rfl) dX11_day_41 ⟨Nat.le_of_ble_eq_true rfl, Nat.le_of_ble_eq_true rfl⟩ (fun v_32 u_33 H locs hv_34 hP hD hS => ?_)
      obtain rfl : v_32 = some (.ref (Ra 0)) := hv_34
      refine W.eq (g2 := F0 m 44 ls [.ref (Ra 0), .ref (Aa 0)]) rfl ?_
      have hP : va_P D classes [((Ra 0), .inr (6, [.ref (Ra 1), .ref (Ra 2)])), ((Ra 1), .inl (tc 0, Rn, .inl (Rf 1))), ((Ra 2), .inl (tc 1, 64, .inr (.inl (Rg 2)))), ((Pa 0), .inr (5, [.ref (Pa 1), .int sv_15, .int sv_16])), ((Pa 1), .inl (tc 5, 20, .inr (.inr (.inr (.inr (Pq 1)))))), ((Aa 0), .inr (9, [.int (Av 0), .int (Av 1), .int (Av 2), .int (Av 3), .int (Av 4), .int (Av 5), .ref (Aa 1), .ref (Aa 2), .ref (Aa 3), .ref (Aa 4), .ref (Aa 5), .ref (Aa 6), .ref (Aa 7), .ref (Aa 8)])), ((Aa 1), .inl (tc 0, 10, .inl (Af 1))), ((Aa 2), .inl (tc 0, 10, .inl (Af 2))), ((Aa 3), .inl (tc 0, 6, .inl (Af 3))), ((Aa 4), .inl (tc 0, 6, .inl (Af 4))), ((Aa 5), .inl (tc 0, 6, .inl (Af 5))), ((Aa 6), .inl (tc 0, 6, .inl (Af 6))), ((Aa 7), .inl (tc 0, 6, .inl (Af 7))), ((Aa 8), .inl (tc 0, 6, .inl (Af 8))), ((Ea 0), .inr (9, [.int sv_17, .int sv_18, .int sv_19, .int sv_20, .int sv_21, .int sv_22, .ref (Ea 1), .ref (Ea 2), .ref (Ea 3), .ref (Ea 4), .ref (Ea 5), .ref (Ea 6), .ref (Ea 7), .ref (Ea 8)])), ((Ea 1), .inl (tc 0, 10, .inl sv_23)), ((Ea 2), .inl (tc 0, 10, .inl sv_24)), ((Ea 3), .inl (tc 0, 6, .inl sv_25)), ((Ea 4), .inl (tc 0, 6, .inl sv_26)), ((Ea 5), .inl (tc 0, 6, .inl sv_27)), ((Ea 6), .inl (tc 0, 6, .inl sv_28)), ((Ea 7), .inl (tc 0, 6, .inl sv_29)), ((Ea 8), .inl (tc 0, 6, .inl sv_30)), ((Ga 0), .inr (11, [.ref (Ga 1), .ref (Ga 2), .ref (Ga 3), .ref (La 0), .int (Gv 0), .ref (Sa 0), .ref (Aa 0), .ref (Pa 0), .ref (Ga 8), .ref (Ga 9), .ref (Ga 10), .ref (Ga 11)])), ((Sa 0), .inr (8, [.ref (Aa 0), .ref (Sa 2), .ref (Sa 3), .int (Sv 0), .int (Sv 1)])), ((La 0), .inl (tc 4, 6, .inr (.inr (.inr (.inr (Lq 0))))))] H := hP
      have hD : va_D A [((Ra 0), .inr (6, [.ref (Ra 1), .ref (Ra 2)])), ((Ra 1), .inl (tc 0, Rn, .inl (Rf 1))), ((Ra 2), .inl (tc 1, 64, .inr (.inl (Rg 2)))), ((Pa 0), .inr (5, [.ref (Pa 1), .int sv_15, .int sv_16])), ((Pa 1), .inl (tc 5, 20, .inr (.inr (.inr (.inr (Pq 1)))))), ((Aa 0), .inr (9, [.int (Av 0), .int (Av 1), .int (Av 2), .int (Av 3), .int (Av 4), .int (Av 5), .ref (Aa 1), .ref (Aa 2), .ref (Aa 3), .ref (Aa 4), .ref (Aa 5), .ref (Aa 6), .ref (Aa 7), .ref (Aa 8)])), ((Aa 1), .inl (tc 0, 10, .inl (Af 1))), ((Aa 2), .inl (tc 0, 10, .inl (Af 2))), ((Aa 3), .inl (tc 0, 6, .inl (Af 3))), ((Aa 4), .inl (tc 0, 6, .inl (Af 4))), ((Aa 5), .inl (tc 0, 6, .inl (Af 5))), ((Aa 6), .inl (tc 0, 6, .inl (Af 6))), ((Aa 7), .inl (tc 0, 6, .inl (Af 7))), ((Aa 8), .inl (tc 0, 6, .inl (Af 8))), ((Ea 0), .inr (9, [.int sv_17, .int sv_18, .int sv_19, .int sv_20, .int sv_21, .int sv_22, .ref (Ea 1), .ref (Ea 2), .ref (Ea 3), .ref (Ea 4), .ref (Ea 5), .ref (Ea 6), .ref (Ea 7), .ref (Ea 8)])), ((Ea 1), .inl (tc 0, 10, .inl sv_23)), ((Ea 2), .inl (tc 0, 10, .inl sv_24)), ((Ea 3), .inl (tc 0, 6, .inl sv_25)), ((Ea 4), .inl (tc 0, 6, .inl sv_26)), ((Ea 5), .inl (tc 0, 6, .inl sv_27)), ((Ea 6), .inl (tc 0, 6, .inl sv_28)), ((Ea 7), .inl (tc 0, 6, .inl sv_29)), ((Ea 8), .inl (tc 0, 6, .inl sv_30)), ((Ga 0), .inr (11, [.ref (Ga 1), .ref (Ga 2), .ref (Ga 3), .ref (La 0), .int (Gv 0), .ref (Sa 0), .ref (Aa 0), .ref (Pa 0), .ref (Ga 8), .ref (Ga 9), .ref (Ga 10), .ref (Ga 11)])), ((Sa 0), .inr (8, [.ref (Aa 0), .ref (Sa 2), .ref (Sa 3), .int (Sv 0), .int (Sv 1)])), ((La 0), .inl (tc 4, 6, .inr (.inr (.inr (.inr (Lq 0))))))] := hD
      have ha_35 : Rn ≤ 400 := by
        have z_1 : ¬ (r_4 : Int32).toInt = (0 : Int32).toInt := fun z => c_6 (Int32.toInt_inj.mp z)
        have z_2 := Int32.lt_iff_toInt_lt.mp c_10
        have y_0 : (0 : Int32).toInt = 0 := by decide
        have y_999 : (999 : Int32).toInt = 999 := by decide
        omega
      refine cV (a := (Aa 0)) (As := [.ref (Ra 0)]) (rest := []) (wr := [((Pa 0), .inr (5, [.ref (Pa 1), .int sv_15, .int sv_16])), ((Pa 1), .inl (tc 5, 20, .inr (.inr (.inr (.inr (Pq 1)))))), ((Ea 0), .inr (9, [.int sv_17, .int sv_18, .int sv_19, .int sv_20, .int sv_21, .int sv_22, .ref (Ea 1), .ref (Ea 2), .ref (Ea 3), .ref (Ea 4), .ref (Ea 5), .ref (Ea 6), .ref (Ea 7), .ref (Ea 8)])), ((Ea 1), .inl (tc 0, 10, .inl sv_23)), ((Ea 2), .inl (tc 0, 10, .inl sv_24)), ((Ea 3), .inl (tc 0, 6, .inl sv_25)), ((Ea 4), .inl (tc 0, 6, .inl sv_26)), ((Ea 5), .inl (tc 0, 6, .inl sv_27)), ((Ea 6), .inl (tc 0, 6, .inl sv_28)), ((Ea 7), .inl (tc 0, 6, .inl sv_29)), ((Ea 8), .inl (tc 0, 6, .inl sv_30)), ((Ga 0), .inr (11, [.ref (Ga 1), .ref (Ga 2), .ref (Ga 3), .ref (La 0), .int (Gv 0), .ref (Sa 0), .ref (Aa 0), .ref (Pa 0), .ref (Ga 8), .ref (Ga 9), .ref (Ga 10), .ref (Ga 11)])), ((Sa 0), .inr (8, [.ref (Aa 0), .ref (Sa 2), .ref (Sa 3), .int (Sv 0), .int (Sv 1)])), ((La 0), .inl (tc 4, 6, .inr (.inr (.inr (.inr (Lq 0))))))]) ⟨hx, hb, hml, hown, hts⟩ hK hX hA (ct_X9_goThroughDay_r l D tc sk Aa Av Af Ra Rf Rg Rn ha_35) k_739 k_736 k_737 k_738 k_98 pl_X9_goThroughDay ⟨Nat.le_of_ble_eq_true rfl, Nat.le_of_ble_eq_true rfl⟩ rfl rfl (va_recv hK hP (ci := 9) (q0 := 5) rfl rfl) hP hD hS [5, 6, 7, 8, 9, 10, 11, 12, 13, 0, 1, 2] [3, 4, 14, 15, 16, 17, 18, 19, 20, 21, 22, 23, 24, 25] rfl rfl rfl rfl rfl (by decide) rfl hl.1 rfl (Nat.le_of_ble_eq_true rfl) dX11_day_44 ⟨Nat.le_of_ble_eq_true rfl, Nat.le_of_ble_eq_true rfl⟩ (fun v_36 u_37 H locs hv_38 hP hD hS => ?_)
      obtain ⟨sv_39, sv_40, sv_41, sv_42, sv_43, sv_44, sv_45, sv_46⟩ := u_37
      obtain ⟨r_47, rfl, he_48⟩ := hv_38
      have he_48 : (True) := he_48
      refine W.eq (g2 := F0 m 47 ls [.int r_47]) rfl ?_
      have hP : va_P D classes [((Pa 0), .inr (5, [.ref (Pa 1), .int sv_15, .int sv_16])), ((Pa 1), .inl (tc 5, 20, .inr (.inr (.inr (.inr (Pq 1)))))), ((Ea 0), .inr (9, [.int sv_17, .int sv_18, .int sv_19, .int sv_20, .int sv_21, .int sv_22, .ref (Ea 1), .ref (Ea 2), .ref (Ea 3), .ref (Ea 4), .ref (Ea 5), .ref (Ea 6), .ref (Ea 7), .ref (Ea 8)])), ((Ea 1), .inl (tc 0, 10, .inl sv_23)), ((Ea 2), .inl (tc 0, 10, .inl sv_24)), ((Ea 3), .inl (tc 0, 6, .inl sv_25)), ((Ea 4), .inl (tc 0, 6, .inl sv_26)), ((Ea 5), .inl (tc 0, 6, .inl sv_27)), ((Ea 6), .inl (tc 0, 6, .inl sv_28)), ((Ea 7), .inl (tc 0, 6, .inl sv_29)), ((Ea 8), .inl (tc 0, 6, .inl sv_30)), ((Ga 0), .inr (11, [.ref (Ga 1), .ref (Ga 2), .ref (Ga 3), .ref (La 0), .int (Gv 0), .ref (Sa 0), .ref (Aa 0), .ref (Pa 0), .ref (Ga 8), .ref (Ga 9), .ref (Ga 10), .ref (Ga 11)])), ((Sa 0), .inr (8, [.ref (Aa 0), .ref (Sa 2), .ref (Sa 3), .int (Sv 0), .int (Sv 1)])), ((La 0), .inl (tc 4, 6, .inr (.inr (.inr (.inr (Lq 0)))))), ((Aa 0), .inr (9, [.int sv_39, .int (Av 1), .int (Av 2), .int (Av 3), .int sv_40, .int sv_41, .ref (Aa 1), .ref (Aa 2), .ref (Aa 3), .ref (Aa 4), .ref (Aa 5), .ref (Aa 6), .ref (Aa 7), .ref (Aa 8)])), ((Aa 1), .inl (tc 0, 10, .inl (Af 1))), ((Aa 2), .inl (tc 0, 10, .inl (Af 2))), ((Aa 3), .inl (tc 0, 6, .inl sv_42)), ((Aa 4), .inl (tc 0, 6, .inl (Af 4))), ((Aa 5), .inl (tc 0, 6, .inl (Af 5))), ((Aa 6), .inl (tc 0, 6, .inl sv_43)), ((Aa 7), .inl (tc 0, 6, .inl sv_44)), ((Aa 8), .inl (tc 0, 6, .inl sv_45)), ((Ra 0), .inr (6, [.ref (Ra 1), .ref (Ra 2)])), ((Ra 1), .inl (tc 0, Rn, .inl (Rf 1))), ((Ra 2), .inl (tc 1, 64, .inr (.inl sv_46)))] H := hP
      have hD : va_D A [((Pa 0), .inr (5, [.ref (Pa 1), .int sv_15, .int sv_16])), ((Pa 1), .inl (tc 5, 20, .inr (.inr (.inr (.inr (Pq 1)))))), ((Ea 0), .inr (9, [.int sv_17, .int sv_18, .int sv_19, .int sv_20, .int sv_21, .int sv_22, .ref (Ea 1), .ref (Ea 2), .ref (Ea 3), .ref (Ea 4), .ref (Ea 5), .ref (Ea 6), .ref (Ea 7), .ref (Ea 8)])), ((Ea 1), .inl (tc 0, 10, .inl sv_23)), ((Ea 2), .inl (tc 0, 10, .inl sv_24)), ((Ea 3), .inl (tc 0, 6, .inl sv_25)), ((Ea 4), .inl (tc 0, 6, .inl sv_26)), ((Ea 5), .inl (tc 0, 6, .inl sv_27)), ((Ea 6), .inl (tc 0, 6, .inl sv_28)), ((Ea 7), .inl (tc 0, 6, .inl sv_29)), ((Ea 8), .inl (tc 0, 6, .inl sv_30)), ((Ga 0), .inr (11, [.ref (Ga 1), .ref (Ga 2), .ref (Ga 3), .ref (La 0), .int (Gv 0), .ref (Sa 0), .ref (Aa 0), .ref (Pa 0), .ref (Ga 8), .ref (Ga 9), .ref (Ga 10), .ref (Ga 11)])), ((Sa 0), .inr (8, [.ref (Aa 0), .ref (Sa 2), .ref (Sa 3), .int (Sv 0), .int (Sv 1)])), ((La 0), .inl (tc 4, 6, .inr (.inr (.inr (.inr (Lq 0)))))), ((Aa 0), .inr (9, [.int sv_39, .int (Av 1), .int (Av 2), .int (Av 3), .int sv_40, .int sv_41, .ref (Aa 1), .ref (Aa 2), .ref (Aa 3), .ref (Aa 4), .ref (Aa 5), .ref (Aa 6), .ref (Aa 7), .ref (Aa 8)])), ((Aa 1), .inl (tc 0, 10, .inl (Af 1))), ((Aa 2), .inl (tc 0, 10, .inl (Af 2))), ((Aa 3), .inl (tc 0, 6, .inl sv_42)), ((Aa 4), .inl (tc 0, 6, .inl (Af 4))), ((Aa 5), .inl (tc 0, 6, .inl (Af 5))), ((Aa 6), .inl (tc 0, 6, .inl sv_43)), ((Aa 7), .inl (tc 0, 6, .inl sv_44)), ((Aa 8), .inl (tc 0, 6, .inl sv_45)), ((Ra 0), .inr (6, [.ref (Ra 1), .ref (Ra 2)])), ((Ra 1), .inl (tc 0, Rn, .inl (Rf 1))), ((Ra 2), .inl (tc 1, 64, .inr (.inl sv_46)))] := hD
      have ha_49 : 0 ≤ (sv_15 : Int32).toInt ∧ (sv_15 : Int32).toInt < 20 := by
        have z_1 : ¬ (r_4 : Int32).toInt = (0 : Int32).toInt := fun z => c_6 (Int32.toInt_inj.mp z)
        have z_2 := Int32.lt_iff_toInt_lt.mp c_10
        have y_0 : (0 : Int32).toInt = 0 := by decide
        have y_999 : (999 : Int32).toInt = 999 := by decide
        omega
      have ha_50 : 0 ≤ ((Av 3) : Int32).toInt ∧ ((Av 3) : Int32).toInt ≤ 6 := by
        have z_1 : ¬ (r_4 : Int32).toInt = (0 : Int32).toInt := fun z => c_6 (Int32.toInt_inj.mp z)
        have z_2 := Int32.lt_iff_toInt_lt.mp c_10
        have y_0 : (0 : Int32).toInt = 0 := by decide
        have y_999 : (999 : Int32).toInt = 999 := by decide
        omega
      have ha_51 : 0 ≤ (sv_20 : Int32).toInt ∧ (sv_20 : Int32).toInt ≤ 6 := by
        have z_1 : ¬ (r_4 : Int32).toInt = (0 : Int32).toInt := fun z => c_6 (Int32.toInt_inj.mp z)
        have z_2 := Int32.lt_iff_toInt_lt.mp c_10
        have y_0 : (0 : Int32).toInt = 0 := by decide
        have y_999 : (999 : Int32).toInt = 999 := by decide
        omega
      exact retI (v := r_47) hx hb hr hlk (rfl) hP hD hS (sv_39, sv_40, sv_41, sv_42, sv_43, sv_44, sv_45, sv_15, sv_16, sv_46, sv_17, sv_18, sv_19, sv_20, sv_21, sv_22, sv_23, sv_24, sv_25, sv_26, sv_27, sv_28, sv_29, sv_30) ⟨_, rfl, trivial, ha_49, ha_50, ha_51⟩ [11, 12, 14, 15, 16, 17, 18, 19, 20, 21, 22, 0, 1, 13, 23, 24, 25, 2, 3, 4, 5, 6, 7, 8, 9, 10] rfl rfl dX11_day_47 (Nat.le_of_ble_eq_true rfl) (Nat.le_of_ble_eq_true rfl) rfl
    · skip
      refine lv_iconst (v := (-1)) hx hb dX11_day_23 (by decide) ?_
      have ha_52 : 0 ≤ ((Pv 0) : Int32).toInt ∧ ((Pv 0) : Int32).toInt < 20 := by
        have z_1 : ¬ (r_4 : Int32).toInt = (0 : Int32).toInt := fun z => c_6 (Int32.toInt_inj.mp z)
        have z_2 := Int32.le_iff_toInt_le.mp (Int32.not_lt.mp c_10)
        have y_0 : (0 : Int32).toInt = 0 := by decide
        have y_999 : (999 : Int32).toInt = 999 := by decide
        omega
      have ha_53 : 0 ≤ ((Av 3) : Int32).toInt ∧ ((Av 3) : Int32).toInt ≤ 6 := by
        have z_1 : ¬ (r_4 : Int32).toInt = (0 : Int32).toInt := fun z => c_6 (Int32.toInt_inj.mp z)
        have z_2 := Int32.le_iff_toInt_le.mp (Int32.not_lt.mp c_10)
        have y_0 : (0 : Int32).toInt = 0 := by decide
        have y_999 : (999 : Int32).toInt = 999 := by decide
        omega
      have ha_54 : 0 ≤ ((Ev 3) : Int32).toInt ∧ ((Ev 3) : Int32).toInt ≤ 6 := by
        have z_1 : ¬ (r_4 : Int32).toInt = (0 : Int32).toInt := fun z => c_6 (Int32.toInt_inj.mp z)
        have z_2 := Int32.le_iff_toInt_le.mp (Int32.not_lt.mp c_10)
        have y_0 : (0 : Int32).toInt = 0 := by decide
        have y_999 : (999 : Int32).toInt = 999 := by decide
        omega
      exact retI (v := (-1)) hx hb hr hlk (rfl) hP hD hS ((Av 0), (Av 4), (Av 5), (Af 3), (Af 6), (Af 7), (Af 8), (Pv 0), (Pv 1), (Rg 2), (Ev 0), (Ev 1), (Ev 2), (Ev 3), (Ev 4), (Ev 5), (Ef 1), (Ef 2), (Ef 3), (Ef 4), (Ef 5), (Ef 6), (Ef 7), (Ef 8)) ⟨_, rfl, trivial, ha_52, ha_53, ha_54⟩ [0, 1, 17, 18, 19, 20, 21, 22, 23, 24, 25, 2, 3, 4, 5, 6, 7, 8, 9, 10, 11, 12, 13, 14, 15, 16] rfl rfl dX11_day_24 (Nat.le_of_ble_eq_true rfl) (Nat.le_of_ble_eq_true rfl) rfl
