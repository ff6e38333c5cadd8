set_option maxRecDepth 16384
theorem dX12_begins_0 : decode cX12_begins 0 = .ok (.aload_n 0, 1) := by decide +kernel
theorem dX12_begins_1 : decode cX12_begins 1 = .ok (.getfield 39, 3) := by decide +kernel
theorem dX12_begins_4 : decode cX12_begins 4 = .ok (.bipush 10, 2) := by decide +kernel
theorem dX12_begins_6 : decode cX12_begins 6 = .ok (.iconst 0, 1) := by decide +kernel
theorem dX12_begins_7 : decode cX12_begins 7 = .ok (.iastore, 1) := by decide +kernel
theorem dX12_begins_8 : decode cX12_begins 8 = .ok (.aload_n 0, 1) := by decide +kernel
theorem dX12_begins_9 : decode cX12_begins 9 = .ok (.getfield 39, 3) := by decide +kernel
theorem dX12_begins_12 : decode cX12_begins 12 = .ok (.bipush 11, 2) := by decide +kernel
theorem dX12_begins_14 : decode cX12_begins 14 = .ok (.aload_n 0, 1) := by decide +kernel
theorem dX12_begins_15 : decode cX12_begins 15 = .ok (.getfield 39, 3) := by decide +kernel
theorem dX12_begins_18 : decode cX12_begins 18 = .ok (.bipush 94, 2) := by decide +kernel
theorem dX12_begins_20 : decode cX12_begins 20 = .ok (.iaload, 1) := by decide +kernel
theorem dX12_begins_21 : decode cX12_begins 21 = .ok (.iastore, 1) := by decide +kernel
theorem dX12_begins_22 : decode cX12_begins 22 = .ok (.iconst 0, 1) := by decide +kernel
theorem dX12_begins_23 : decode cX12_begins 23 = .ok (.istore_n 1, 1) := by decide +kernel
theorem dX12_begins_24 : decode cX12_begins 24 = .ok (.iload_n 1, 1) := by decide +kernel
theorem dX12_begins_25 : decode cX12_begins 25 = .ok (.bipush 6, 2) := by decide +kernel
theorem dX12_begins_27 : decode cX12_begins 27 = .ok (.if_icmp .ge 58, 3) := by decide +kernel
theorem dX12_begins_30 : decode cX12_begins 30 = .ok (.bipush 12, 2) := by decide +kernel
theorem dX12_begins_32 : decode cX12_begins 32 = .ok (.iconst 4, 1) := by decide +kernel
theorem dX12_begins_33 : decode cX12_begins 33 = .ok (.iload_n 1, 1) := by decide +kernel
theorem dX12_begins_34 : decode cX12_begins 34 = .ok (.imul, 1) := by decide +kernel
theorem dX12_begins_35 : decode cX12_begins 35 = .ok (.iadd, 1) := by decide +kernel
theorem dX12_begins_36 : decode cX12_begins 36 = .ok (.istore_n 2, 1) := by decide +kernel
theorem dX12_begins_37 : decode cX12_begins 37 = .ok (.aload_n 0, 1) := by decide +kernel
theorem dX12_begins_38 : decode cX12_begins 38 = .ok (.getfield 39, 3) := by decide +kernel
theorem dX12_begins_41 : decode cX12_begins 41 = .ok (.iload_n 2, 1) := by decide +kernel
theorem dX12_begins_42 : decode cX12_begins 42 = .ok (.aload_n 0, 1) := by decide +kernel
theorem dX12_begins_43 : decode cX12_begins 43 = .ok (.getfield 39, 3) := by decide +kernel
theorem dX12_begins_46 : decode cX12_begins 46 = .ok (.bipush 68, 2) := by decide +kernel
theorem dX12_begins_48 : decode cX12_begins 48 = .ok (.iload_n 1, 1) := by decide +kernel
theorem dX12_begins_49 : decode cX12_begins 49 = .ok (.iadd, 1) := by decide +kernel
theorem dX12_begins_50 : decode cX12_begins 50 = .ok (.iaload, 1) := by decide +kernel
theorem dX12_begins_51 : decode cX12_begins 51 = .ok (.iastore, 1) := by decide +kernel
theorem dX12_begins_52 : decode cX12_begins 52 = .ok (.aload_n 0, 1) := by decide +kernel
theorem dX12_begins_53 : decode cX12_begins 53 = .ok (.getfield 39, 3) := by decide +kernel
theorem dX12_begins_56 : decode cX12_begins 56 = .ok (.iload_n 2, 1) := by decide +kernel
theorem dX12_begins_57 : decode cX12_begins 57 = .ok (.iconst 1, 1) := by decide +kernel
theorem dX12_begins_58 : decode cX12_begins 58 = .ok (.iadd, 1) := by decide +kernel
theorem dX12_begins_59 : decode cX12_begins 59 = .ok (.iconst 0, 1) := by decide +kernel
theorem dX12_begins_60 : decode cX12_begins 60 = .ok (.iastore, 1) := by decide +kernel
theorem dX12_begins_61 : decode cX12_begins 61 = .ok (.aload_n 0, 1) := by decide +kernel
theorem dX12_begins_62 : decode cX12_begins 62 = .ok (.getfield 39, 3) := by decide +kernel
theorem dX12_begins_65 : decode cX12_begins 65 = .ok (.iload_n 2, 1) := by decide +kernel
theorem dX12_begins_66 : decode cX12_begins 66 = .ok (.iconst 2, 1) := by decide +kernel
theorem dX12_begins_67 : decode cX12_begins 67 = .ok (.iadd, 1) := by decide +kernel
theorem dX12_begins_68 : decode cX12_begins 68 = .ok (.iconst 0, 1) := by decide +kernel
theorem dX12_begins_69 : decode cX12_begins 69 = .ok (.iastore, 1) := by decide +kernel
theorem dX12_begins_70 : decode cX12_begins 70 = .ok (.aload_n 0, 1) := by decide +kernel
theorem dX12_begins_71 : decode cX12_begins 71 = .ok (.getfield 39, 3) := by decide +kernel
theorem dX12_begins_74 : decode cX12_begins 74 = .ok (.iload_n 2, 1) := by decide +kernel
theorem dX12_begins_75 : decode cX12_begins 75 = .ok (.iconst 3, 1) := by decide +kernel
theorem dX12_begins_76 : decode cX12_begins 76 = .ok (.iadd, 1) := by decide +kernel
theorem dX12_begins_77 : decode cX12_begins 77 = .ok (.iconst (-1), 1) := by decide +kernel
theorem dX12_begins_78 : decode cX12_begins 78 = .ok (.iastore, 1) := by decide +kernel
theorem dX12_begins_79 : decode cX12_begins 79 = .ok (.iinc 1 1, 3) := by decide +kernel
theorem dX12_begins_82 : decode cX12_begins 82 = .ok (.goto (-58), 3) := by decide +kernel
theorem dX12_begins_85 : decode cX12_begins 85 = .ok (.iconst 0, 1) := by decide +kernel
theorem dX12_begins_86 : decode cX12_begins 86 = .ok (.istore_n 1, 1) := by decide +kernel
theorem dX12_begins_87 : decode cX12_begins 87 = .ok (.iload_n 1, 1) := by decide +kernel
theorem dX12_begins_88 : decode cX12_begins 88 = .ok (.bipush 10, 2) := by decide +kernel
theorem dX12_begins_90 : decode cX12_begins 90 = .ok (.if_icmp .ge 45, 3) := by decide +kernel
theorem dX12_begins_93 : decode cX12_begins 93 = .ok (.aload_n 0, 1) := by decide +kernel
theorem dX12_begins_94 : decode cX12_begins 94 = .ok (.getfield 39, 3) := by decide +kernel
theorem dX12_begins_97 : decode cX12_begins 97 = .ok (.bipush 36, 2) := by decide +kernel
theorem dX12_begins_99 : decode cX12_begins 99 = .ok (.iload_n 1, 1) := by decide +kernel
theorem dX12_begins_100 : decode cX12_begins 100 = .ok (.iadd, 1) := by decide +kernel
theorem dX12_begins_101 : decode cX12_begins 101 = .ok (.aload_n 0, 1) := by decide +kernel
theorem dX12_begins_102 : decode cX12_begins 102 = .ok (.getfield 39, 3) := by decide +kernel
theorem dX12_begins_105 : decode cX12_begins 105 = .ok (.bipush 74, 2) := by decide +kernel
theorem dX12_begins_107 : decode cX12_begins 107 = .ok (.iload_n 1, 1) := by decide +kernel
theorem dX12_begins_108 : decode cX12_begins 108 = .ok (.iadd, 1) := by decide +kernel
theorem dX12_begins_109 : decode cX12_begins 109 = .ok (.iaload, 1) := by decide +kernel
theorem dX12_begins_110 : decode cX12_begins 110 = .ok (.iastore, 1) := by decide +kernel
theorem dX12_begins_111 : decode cX12_begins 111 = .ok (.aload_n 0, 1) := by decide +kernel
theorem dX12_begins_112 : decode cX12_begins 112 = .ok (.getfield 39, 3) := by decide +kernel
theorem dX12_begins_115 : decode cX12_begins 115 = .ok (.bipush 46, 2) := by decide +kernel
theorem dX12_begins_117 : decode cX12_begins 117 = .ok (.iload_n 1, 1) := by decide +kernel
theorem dX12_begins_118 : decode cX12_begins 118 = .ok (.iadd, 1) := by decide +kernel
theorem dX12_begins_119 : decode cX12_begins 119 = .ok (.aload_n 0, 1) := by decide +kernel
theorem dX12_begins_120 : decode cX12_begins 120 = .ok (.getfield 39, 3) := by decide +kernel
theorem dX12_begins_123 : decode cX12_begins 123 = .ok (.bipush 84, 2) := by decide +kernel
theorem dX12_begins_125 : decode cX12_begins 125 = .ok (.iload_n 1, 1) := by decide +kernel
theorem dX12_begins_126 : decode cX12_begins 126 = .ok (.iadd, 1) := by decide +kernel
theorem dX12_begins_127 : decode cX12_begins 127 = .ok (.iaload, 1) := by decide +kernel
theorem dX12_begins_128 : decode cX12_begins 128 = .ok (.iastore, 1) := by decide +kernel
theorem dX12_begins_129 : decode cX12_begins 129 = .ok (.iinc 1 1, 3) := by decide +kernel
theorem dX12_begins_132 : decode cX12_begins 132 = .ok (.goto (-45), 3) := by decide +kernel
theorem dX12_begins_135 : decode cX12_begins 135 = .ok (.return_, 1) := by decide +kernel
theorem dX12_bits_0 : decode cX12_bits 0 = .ok (.iconst 0, 1) := by decide +kernel
theorem dX12_bits_1 : decode cX12_bits 1 = .ok (.istore_n 1, 1) := by decide +kernel
theorem dX12_bits_2 : decode cX12_bits 2 = .ok (.iload_n 0, 1) := by decide +kernel
theorem dX12_bits_3 : decode cX12_bits 3 = .ok (.istore_n 2, 1) := by decide +kernel
theorem dX12_bits_4 : decode cX12_bits 4 = .ok (.iload_n 2, 1) := by decide +kernel
theorem dX12_bits_5 : decode cX12_bits 5 = .ok (.ifCond .eq 15, 3) := by decide +kernel
theorem dX12_bits_8 : decode cX12_bits 8 = .ok (.iinc 1 1, 3) := by decide +kernel
theorem dX12_bits_11 : decode cX12_bits 11 = .ok (.iload_n 2, 1) := by decide +kernel
theorem dX12_bits_12 : decode cX12_bits 12 = .ok (.iload_n 2, 1) := by decide +kernel
theorem dX12_bits_13 : decode cX12_bits 13 = .ok (.iconst 1, 1) := by decide +kernel
theorem dX12_bits_14 : decode cX12_bits 14 = .ok (.isub, 1) := by decide +kernel
theorem dX12_bits_15 : decode cX12_bits 15 = .ok (.iand, 1) := by decide +kernel
theorem dX12_bits_16 : decode cX12_bits 16 = .ok (.istore_n 2, 1) := by decide +kernel
theorem dX12_bits_17 : decode cX12_bits 17 = .ok (.goto (-13), 3) := by decide +kernel
theorem dX12_bits_20 : decode cX12_bits 20 = .ok (.iload_n 1, 1) := by decide +kernel
theorem dX12_bits_21 : decode cX12_bits 21 = .ok (.ireturn, 1) := by decide +kernel
theorem dX12_boughtBy_0 : decode cX12_boughtBy 0 = .ok (.aload_n 0, 1) := by decide +kernel
theorem dX12_boughtBy_1 : decode cX12_boughtBy 1 = .ok (.getfield 39, 3) := by decide +kernel
theorem dX12_boughtBy_4 : decode cX12_boughtBy 4 = .ok (.bipush 12, 2) := by decide +kernel
theorem dX12_boughtBy_6 : decode cX12_boughtBy 6 = .ok (.iconst 4, 1) := by decide +kernel
theorem dX12_boughtBy_7 : decode cX12_boughtBy 7 = .ok (.iload_n 1, 1) := by decide +kernel
theorem dX12_boughtBy_8 : decode cX12_boughtBy 8 = .ok (.imul, 1) := by decide +kernel
theorem dX12_boughtBy_9 : decode cX12_boughtBy 9 = .ok (.iadd, 1) := by decide +kernel
theorem dX12_boughtBy_10 : decode cX12_boughtBy 10 = .ok (.iconst 1, 1) := by decide +kernel
theorem dX12_boughtBy_11 : decode cX12_boughtBy 11 = .ok (.iadd, 1) := by decide +kernel
theorem dX12_boughtBy_12 : decode cX12_boughtBy 12 = .ok (.iaload, 1) := by decide +kernel
theorem dX12_boughtBy_13 : decode cX12_boughtBy 13 = .ok (.ireturn, 1) := by decide +kernel
theorem dX12_canBuy_0 : decode cX12_canBuy 0 = .ok (.aload_n 0, 1) := by decide +kernel
theorem dX12_canBuy_1 : decode cX12_canBuy 1 = .ok (.getfield 39, 3) := by decide +kernel
theorem dX12_canBuy_4 : decode cX12_canBuy 4 = .ok (.bipush 11, 2) := by decide +kernel
theorem dX12_canBuy_6 : decode cX12_canBuy 6 = .ok (.iaload, 1) := by decide +kernel
theorem dX12_canBuy_7 : decode cX12_canBuy 7 = .ok (.aload_n 0, 1) := by decide +kernel
theorem dX12_canBuy_8 : decode cX12_canBuy 8 = .ok (.getfield 39, 3) := by decide +kernel
theorem dX12_canBuy_11 : decode cX12_canBuy 11 = .ok (.bipush 56, 2) := by decide +kernel
theorem dX12_canBuy_13 : decode cX12_canBuy 13 = .ok (.iload_n 1, 1) := by decide +kernel
theorem dX12_canBuy_14 : decode cX12_canBuy 14 = .ok (.iadd, 1) := by decide +kernel
theorem dX12_canBuy_15 : decode cX12_canBuy 15 = .ok (.iaload, 1) := by decide +kernel
theorem dX12_canBuy_16 : decode cX12_canBuy 16 = .ok (.if_icmp .lt 40, 3) := by decide +kernel
theorem dX12_canBuy_19 : decode cX12_canBuy 19 = .ok (.aload_n 0, 1) := by decide +kernel
theorem dX12_canBuy_20 : decode cX12_canBuy 20 = .ok (.iload_n 1, 1) := by decide +kernel
theorem dX12_canBuy_21 : decode cX12_canBuy 21 = .ok (.invokevirtual 286, 3) := by decide +kernel
theorem dX12_canBuy_24 : decode cX12_canBuy 24 = .ok (.ifCond .lt 28, 3) := by decide +kernel
theorem dX12_canBuy_27 : decode cX12_canBuy 27 = .ok (.aload_n 0, 1) := by decide +kernel
theorem dX12_canBuy_28 : decode cX12_canBuy 28 = .ok (.getfield 39, 3) := by decide +kernel
theorem dX12_canBuy_31 : decode cX12_canBuy 31 = .ok (.bipush 10, 2) := by decide +kernel
theorem dX12_canBuy_33 : decode cX12_canBuy 33 = .ok (.iaload, 1) := by decide +kernel
theorem dX12_canBuy_34 : decode cX12_canBuy 34 = .ok (.aload_n 0, 1) := by decide +kernel
theorem dX12_canBuy_35 : decode cX12_canBuy 35 = .ok (.iload_n 1, 1) := by decide +kernel
theorem dX12_canBuy_36 : decode cX12_canBuy 36 = .ok (.invokevirtual 286, 3) := by decide +kernel
theorem dX12_canBuy_39 : decode cX12_canBuy 39 = .ok (.isub, 1) := by decide +kernel
theorem dX12_canBuy_40 : decode cX12_canBuy 40 = .ok (.aload_n 0, 1) := by decide +kernel
theorem dX12_canBuy_41 : decode cX12_canBuy 41 = .ok (.getfield 39, 3) := by decide +kernel
theorem dX12_canBuy_44 : decode cX12_canBuy 44 = .ok (.bipush 62, 2) := by decide +kernel
theorem dX12_canBuy_46 : decode cX12_canBuy 46 = .ok (.iload_n 1, 1) := by decide +kernel
theorem dX12_canBuy_47 : decode cX12_canBuy 47 = .ok (.iadd, 1) := by decide +kernel
theorem dX12_canBuy_48 : decode cX12_canBuy 48 = .ok (.iaload, 1) := by decide +kernel
theorem dX12_canBuy_49 : decode cX12_canBuy 49 = .ok (.if_icmp .le 7, 3) := by decide +kernel
theorem dX12_canBuy_52 : decode cX12_canBuy 52 = .ok (.iconst 1, 1) := by decide +kernel
theorem dX12_canBuy_53 : decode cX12_canBuy 53 = .ok (.goto 4, 3) := by decide +kernel
theorem dX12_canBuy_56 : decode cX12_canBuy 56 = .ok (.iconst 0, 1) := by decide +kernel
theorem dX12_canBuy_57 : decode cX12_canBuy 57 = .ok (.ireturn, 1) := by decide +kernel
theorem dX12_clock_0 : decode cX12_clock 0 = .ok (.aload_n 0, 1) := by decide +kernel
theorem dX12_clock_1 : decode cX12_clock 1 = .ok (.invokevirtual 283, 3) := by decide +kernel
theorem dX12_clock_4 : decode cX12_clock 4 = .ok (.ifCond .eq 20, 3) := by decide +kernel
theorem dX12_clock_7 : decode cX12_clock 7 = .ok (.aload_n 0, 1) := by decide +kernel
theorem dX12_clock_8 : decode cX12_clock 8 = .ok (.getfield 39, 3) := by decide +kernel
theorem dX12_clock_11 : decode cX12_clock 11 = .ok (.bipush 10, 2) := by decide +kernel
theorem dX12_clock_13 : decode cX12_clock 13 = .ok (.iaload, 1) := by decide +kernel
theorem dX12_clock_14 : decode cX12_clock 14 = .ok (.aload_n 0, 1) := by decide +kernel
theorem dX12_clock_15 : decode cX12_clock 15 = .ok (.getfield 39, 3) := by decide +kernel
theorem dX12_clock_18 : decode cX12_clock 18 = .ok (.iconst 2, 1) := by decide +kernel
theorem dX12_clock_19 : decode cX12_clock 19 = .ok (.iaload, 1) := by decide +kernel
theorem dX12_clock_20 : decode cX12_clock 20 = .ok (.irem, 1) := by decide +kernel
theorem dX12_clock_21 : decode cX12_clock 21 = .ok (.goto 4, 3) := by decide +kernel
theorem dX12_clock_24 : decode cX12_clock 24 = .ok (.iconst 0, 1) := by decide +kernel
theorem dX12_clock_25 : decode cX12_clock 25 = .ok (.ireturn, 1) := by decide +kernel
theorem dX12_comes_0 : decode cX12_comes 0 = .ok (.aload_n 0, 1) := by decide +kernel
theorem dX12_comes_1 : decode cX12_comes 1 = .ok (.iload_n 1, 1) := by decide +kernel
theorem dX12_comes_2 : decode cX12_comes 2 = .ok (.invokevirtual 330, 3) := by decide +kernel
theorem dX12_comes_5 : decode cX12_comes 5 = .ok (.ifCond .eq 42, 3) := by decide +kernel
theorem dX12_comes_8 : decode cX12_comes 8 = .ok (.aload_n 0, 1) := by decide +kernel
theorem dX12_comes_9 : decode cX12_comes 9 = .ok (.getfield 39, 3) := by decide +kernel
theorem dX12_comes_12 : decode cX12_comes 12 = .ok (.bipush 12, 2) := by decide +kernel
theorem dX12_comes_14 : decode cX12_comes 14 = .ok (.iconst 4, 1) := by decide +kernel
theorem dX12_comes_15 : decode cX12_comes 15 = .ok (.iload_n 1, 1) := by decide +kernel
theorem dX12_comes_16 : decode cX12_comes 16 = .ok (.imul, 1) := by decide +kernel
theorem dX12_comes_17 : decode cX12_comes 17 = .ok (.iadd, 1) := by decide +kernel
theorem dX12_comes_18 : decode cX12_comes 18 = .ok (.iconst 2, 1) := by decide +kernel
theorem dX12_comes_19 : decode cX12_comes 19 = .ok (.iadd, 1) := by decide +kernel
theorem dX12_comes_20 : decode cX12_comes 20 = .ok (.dup2, 1) := by decide +kernel
theorem dX12_comes_21 : decode cX12_comes 21 = .ok (.iaload, 1) := by decide +kernel
theorem dX12_comes_22 : decode cX12_comes 22 = .ok (.iconst 1, 1) := by decide +kernel
theorem dX12_comes_23 : decode cX12_comes 23 = .ok (.iadd, 1) := by decide +kernel
theorem dX12_comes_24 : decode cX12_comes 24 = .ok (.iastore, 1) := by decide +kernel
theorem dX12_comes_25 : decode cX12_comes 25 = .ok (.aload_n 0, 1) := by decide +kernel
theorem dX12_comes_26 : decode cX12_comes 26 = .ok (.getfield 39, 3) := by decide +kernel
theorem dX12_comes_29 : decode cX12_comes 29 = .ok (.bipush 12, 2) := by decide +kernel
theorem dX12_comes_31 : decode cX12_comes 31 = .ok (.iconst 4, 1) := by decide +kernel
theorem dX12_comes_32 : decode cX12_comes 32 = .ok (.iload_n 1, 1) := by decide +kernel
theorem dX12_comes_33 : decode cX12_comes 33 = .ok (.imul, 1) := by decide +kernel
theorem dX12_comes_34 : decode cX12_comes 34 = .ok (.iadd, 1) := by decide +kernel
theorem dX12_comes_35 : decode cX12_comes 35 = .ok (.iconst 3, 1) := by decide +kernel
theorem dX12_comes_36 : decode cX12_comes 36 = .ok (.iadd, 1) := by decide +kernel
theorem dX12_comes_37 : decode cX12_comes 37 = .ok (.aload_n 0, 1) := by decide +kernel
theorem dX12_comes_38 : decode cX12_comes 38 = .ok (.getfield 39, 3) := by decide +kernel
theorem dX12_comes_41 : decode cX12_comes 41 = .ok (.bipush 10, 2) := by decide +kernel
theorem dX12_comes_43 : decode cX12_comes 43 = .ok (.iaload, 1) := by decide +kernel
theorem dX12_comes_44 : decode cX12_comes 44 = .ok (.iastore, 1) := by decide +kernel
theorem dX12_comes_45 : decode cX12_comes 45 = .ok (.iconst 0, 1) := by decide +kernel
theorem dX12_comes_46 : decode cX12_comes 46 = .ok (.ireturn, 1) := by decide +kernel
theorem dX12_comes_47 : decode cX12_comes 47 = .ok (.aload_n 0, 1) := by decide +kernel
theorem dX12_comes_48 : decode cX12_comes 48 = .ok (.iload_n 1, 1) := by decide +kernel
theorem dX12_comes_49 : decode cX12_comes 49 = .ok (.invokevirtual 333, 3) := by decide +kernel
theorem dX12_comes_52 : decode cX12_comes 52 = .ok (.iconst 1, 1) := by decide +kernel
theorem dX12_comes_53 : decode cX12_comes 53 = .ok (.ireturn, 1) := by decide +kernel
theorem dX12_end_0 : decode cX12_end 0 = .ok (.iload_n 1, 1) := by decide +kernel
theorem dX12_end_1 : decode cX12_end 1 = .ok (.ifCond .lt 11, 3) := by decide +kernel
theorem dX12_end_4 : decode cX12_end 4 = .ok (.iload_n 1, 1) := by decide +kernel
theorem dX12_end_5 : decode cX12_end 5 = .ok (.aload_n 0, 1) := by decide +kernel
theorem dX12_end_6 : decode cX12_end 6 = .ok (.getfield 77, 3) := by decide +kernel
theorem dX12_end_9 : decode cX12_end 9 = .ok (.if_icmp .le 5, 3) := by decide +kernel
theorem dX12_end_12 : decode cX12_end 12 = .ok (.iconst (-1), 1) := by decide +kernel
theorem dX12_end_13 : decode cX12_end 13 = .ok (.ireturn, 1) := by decide +kernel
theorem dX12_end_14 : decode cX12_end 14 = .ok (.aload_n 0, 1) := by decide +kernel
theorem dX12_end_15 : decode cX12_end 15 = .ok (.iload_n 1, 1) := by decide +kernel
theorem dX12_end_16 : decode cX12_end 16 = .ok (.putfield 77, 3) := by decide +kernel
theorem dX12_end_19 : decode cX12_end 19 = .ok (.iload_n 1, 1) := by decide +kernel
theorem dX12_end_20 : decode cX12_end 20 = .ok (.ireturn, 1) := by decide +kernel
theorem dX12_feed_0 : decode cX12_feed 0 = .ok (.aload_n 0, 1) := by decide +kernel
theorem dX12_feed_1 : decode cX12_feed 1 = .ok (.getfield 77, 3) := by decide +kernel
theorem dX12_feed_4 : decode cX12_feed 4 = .ok (.bipush 20, 2) := by decide +kernel
theorem dX12_feed_6 : decode cX12_feed 6 = .ok (.iadd, 1) := by decide +kernel
theorem dX12_feed_7 : decode cX12_feed 7 = .ok (.sipush 400, 3) := by decide +kernel
theorem dX12_feed_10 : decode cX12_feed 10 = .ok (.if_icmp .le 5, 3) := by decide +kernel
theorem dX12_feed_13 : decode cX12_feed 13 = .ok (.iconst (-1), 1) := by decide +kernel
theorem dX12_feed_14 : decode cX12_feed 14 = .ok (.ireturn, 1) := by decide +kernel
theorem dX12_feed_15 : decode cX12_feed 15 = .ok (.aload_n 0, 1) := by decide +kernel
theorem dX12_feed_16 : decode cX12_feed 16 = .ok (.iload_n 1, 1) := by decide +kernel
theorem dX12_feed_17 : decode cX12_feed 17 = .ok (.invokevirtual 80, 3) := by decide +kernel
theorem dX12_feed_20 : decode cX12_feed 20 = .ok (.aload_n 0, 1) := by decide +kernel
theorem dX12_feed_21 : decode cX12_feed 21 = .ok (.iload_n 2, 1) := by decide +kernel
theorem dX12_feed_22 : decode cX12_feed 22 = .ok (.invokevirtual 80, 3) := by decide +kernel
theorem dX12_feed_25 : decode cX12_feed 25 = .ok (.aload_n 0, 1) := by decide +kernel
theorem dX12_feed_26 : decode cX12_feed 26 = .ok (.iload_n 3, 1) := by decide +kernel
theorem dX12_feed_27 : decode cX12_feed 27 = .ok (.invokevirtual 80, 3) := by decide +kernel
theorem dX12_feed_30 : decode cX12_feed 30 = .ok (.aload_n 0, 1) := by decide +kernel
theorem dX12_feed_31 : decode cX12_feed 31 = .ok (.iload 4, 2) := by decide +kernel
theorem dX12_feed_33 : decode cX12_feed 33 = .ok (.invokevirtual 80, 3) := by decide +kernel
theorem dX12_feed_36 : decode cX12_feed 36 = .ok (.aload_n 0, 1) := by decide +kernel
theorem dX12_feed_37 : decode cX12_feed 37 = .ok (.iload 5, 2) := by decide +kernel
theorem dX12_feed_39 : decode cX12_feed 39 = .ok (.invokevirtual 80, 3) := by decide +kernel
theorem dX12_feed_42 : decode cX12_feed 42 = .ok (.aload_n 0, 1) := by decide +kernel
theorem dX12_feed_43 : decode cX12_feed 43 = .ok (.getfield 77, 3) := by decide +kernel
theorem dX12_feed_46 : decode cX12_feed 46 = .ok (.ireturn, 1) := by decide +kernel
theorem dX12_four_0 : decode cX12_four 0 = .ok (.bipush 24, 2) := by decide +kernel
theorem dX12_four_2 : decode cX12_four 2 = .ok (.istore_n 2, 1) := by decide +kernel
theorem dX12_four_3 : decode cX12_four 3 = .ok (.iload_n 2, 1) := by decide +kernel
theorem dX12_four_4 : decode cX12_four 4 = .ok (.ifCond .lt 32, 3) := by decide +kernel
theorem dX12_four_7 : decode cX12_four 7 = .ok (.aload_n 0, 1) := by decide +kernel
theorem dX12_four_8 : decode cX12_four 8 = .ok (.getfield 7, 3) := by decide +kernel
theorem dX12_four_11 : decode cX12_four 11 = .ok (.aload_n 0, 1) := by decide +kernel
theorem dX12_four_12 : decode cX12_four 12 = .ok (.getfield 77, 3) := by decide +kernel
theorem dX12_four_15 : decode cX12_four 15 = .ok (.iload_n 1, 1) := by decide +kernel
theorem dX12_four_16 : decode cX12_four 16 = .ok (.iload_n 2, 1) := by decide +kernel
theorem dX12_four_17 : decode cX12_four 17 = .ok (.ishr, 1) := by decide +kernel
theorem dX12_four_18 : decode cX12_four 18 = .ok (.i2b, 1) := by decide +kernel
theorem dX12_four_19 : decode cX12_four 19 = .ok (.bastore, 1) := by decide +kernel
theorem dX12_four_20 : decode cX12_four 20 = .ok (.aload_n 0, 1) := by decide +kernel
theorem dX12_four_21 : decode cX12_four 21 = .ok (.dup, 1) := by decide +kernel
theorem dX12_four_22 : decode cX12_four 22 = .ok (.getfield 77, 3) := by decide +kernel
theorem dX12_four_25 : decode cX12_four 25 = .ok (.iconst 1, 1) := by decide +kernel
theorem dX12_four_26 : decode cX12_four 26 = .ok (.iadd, 1) := by decide +kernel
theorem dX12_four_27 : decode cX12_four 27 = .ok (.putfield 77, 3) := by decide +kernel
theorem dX12_four_30 : decode cX12_four 30 = .ok (.iinc 2 (-8), 3) := by decide +kernel
theorem dX12_four_33 : decode cX12_four 33 = .ok (.goto (-30), 3) := by decide +kernel
theorem dX12_four_36 : decode cX12_four 36 = .ok (.return_, 1) := by decide +kernel
theorem dX12_isBuyer_0 : decode cX12_isBuyer 0 = .ok (.iload_n 1, 1) := by decide +kernel
theorem dX12_isBuyer_1 : decode cX12_isBuyer 1 = .ok (.ifCond .lt 17, 3) := by decide +kernel
theorem dX12_isBuyer_4 : decode cX12_isBuyer 4 = .ok (.iload_n 1, 1) := by decide +kernel
theorem dX12_isBuyer_5 : decode cX12_isBuyer 5 = .ok (.aload_n 0, 1) := by decide +kernel
theorem dX12_isBuyer_6 : decode cX12_isBuyer 6 = .ok (.getfield 39, 3) := by decide +kernel
theorem dX12_isBuyer_9 : decode cX12_isBuyer 9 = .ok (.iconst 3, 1) := by decide +kernel
theorem dX12_isBuyer_10 : decode cX12_isBuyer 10 = .ok (.iaload, 1) := by decide +kernel
theorem dX12_isBuyer_11 : decode cX12_isBuyer 11 = .ok (.if_icmp .ge 7, 3) := by decide +kernel
theorem dX12_isBuyer_14 : decode cX12_isBuyer 14 = .ok (.iconst 1, 1) := by decide +kernel
theorem dX12_isBuyer_15 : decode cX12_isBuyer 15 = .ok (.goto 4, 3) := by decide +kernel
theorem dX12_isBuyer_18 : decode cX12_isBuyer 18 = .ok (.iconst 0, 1) := by decide +kernel
theorem dX12_isBuyer_19 : decode cX12_isBuyer 19 = .ok (.ireturn, 1) := by decide +kernel
theorem dX12_isClock_0 : decode cX12_isClock 0 = .ok (.aload_n 0, 1) := by decide +kernel
theorem dX12_isClock_1 : decode cX12_isClock 1 = .ok (.invokevirtual 283, 3) := by decide +kernel
theorem dX12_isClock_4 : decode cX12_isClock 4 = .ok (.ifCond .eq 21, 3) := by decide +kernel
theorem dX12_isClock_7 : decode cX12_isClock 7 = .ok (.iload_n 1, 1) := by decide +kernel
theorem dX12_isClock_8 : decode cX12_isClock 8 = .ok (.ifCond .lt 17, 3) := by decide +kernel
theorem dX12_isClock_11 : decode cX12_isClock 11 = .ok (.iload_n 1, 1) := by decide +kernel
theorem dX12_isClock_12 : decode cX12_isClock 12 = .ok (.aload_n 0, 1) := by decide +kernel
theorem dX12_isClock_13 : decode cX12_isClock 13 = .ok (.getfield 39, 3) := by decide +kernel
theorem dX12_isClock_16 : decode cX12_isClock 16 = .ok (.iconst 2, 1) := by decide +kernel
theorem dX12_isClock_17 : decode cX12_isClock 17 = .ok (.iaload, 1) := by decide +kernel
theorem dX12_isClock_18 : decode cX12_isClock 18 = .ok (.if_icmp .ge 7, 3) := by decide +kernel
theorem dX12_isClock_21 : decode cX12_isClock 21 = .ok (.iconst 1, 1) := by decide +kernel
theorem dX12_isClock_22 : decode cX12_isClock 22 = .ok (.goto 4, 3) := by decide +kernel
theorem dX12_isClock_25 : decode cX12_isClock 25 = .ok (.iconst 0, 1) := by decide +kernel
theorem dX12_isClock_26 : decode cX12_isClock 26 = .ok (.ireturn, 1) := by decide +kernel
theorem dX12_isMet_0 : decode cX12_isMet 0 = .ok (.aload_n 0, 1) := by decide +kernel
theorem dX12_isMet_1 : decode cX12_isMet 1 = .ok (.getfield 324, 3) := by decide +kernel
theorem dX12_isMet_4 : decode cX12_isMet 4 = .ok (.aload_n 0, 1) := by decide +kernel
theorem dX12_isMet_5 : decode cX12_isMet 5 = .ok (.invokevirtual 314, 3) := by decide +kernel
theorem dX12_isMet_8 : decode cX12_isMet 8 = .ok (.invokestatic 327, 3) := by decide +kernel
theorem dX12_isMet_11 : decode cX12_isMet 11 = .ok (.ifCond .ne 22, 3) := by decide +kernel
theorem dX12_isMet_14 : decode cX12_isMet 14 = .ok (.aload_n 0, 1) := by decide +kernel
theorem dX12_isMet_15 : decode cX12_isMet 15 = .ok (.getfield 39, 3) := by decide +kernel
theorem dX12_isMet_18 : decode cX12_isMet 18 = .ok (.bipush 46, 2) := by decide +kernel
theorem dX12_isMet_20 : decode cX12_isMet 20 = .ok (.aload_n 0, 1) := by decide +kernel
theorem dX12_isMet_21 : decode cX12_isMet 21 = .ok (.invokevirtual 314, 3) := by decide +kernel
theorem dX12_isMet_24 : decode cX12_isMet 24 = .ok (.iadd, 1) := by decide +kernel
theorem dX12_isMet_25 : decode cX12_isMet 25 = .ok (.iaload, 1) := by decide +kernel
theorem dX12_isMet_26 : decode cX12_isMet 26 = .ok (.iload_n 1, 1) := by decide +kernel
theorem dX12_isMet_27 : decode cX12_isMet 27 = .ok (.invokestatic 327, 3) := by decide +kernel
theorem dX12_isMet_30 : decode cX12_isMet 30 = .ok (.ifCond .eq 7, 3) := by decide +kernel
theorem dX12_isMet_33 : decode cX12_isMet 33 = .ok (.iconst 1, 1) := by decide +kernel
theorem dX12_isMet_34 : decode cX12_isMet 34 = .ok (.goto 4, 3) := by decide +kernel
theorem dX12_isMet_37 : decode cX12_isMet 37 = .ok (.iconst 0, 1) := by decide +kernel
theorem dX12_isMet_38 : decode cX12_isMet 38 = .ok (.ireturn, 1) := by decide +kernel
theorem dX12_isRule_0 : decode cX12_isRule 0 = .ok (.iload_n 1, 1) := by decide +kernel
theorem dX12_isRule_1 : decode cX12_isRule 1 = .ok (.ifCond .lt 15, 3) := by decide +kernel
theorem dX12_isRule_4 : decode cX12_isRule 4 = .ok (.iload_n 1, 1) := by decide +kernel
theorem dX12_isRule_5 : decode cX12_isRule 5 = .ok (.aload_n 0, 1) := by decide +kernel
theorem dX12_isRule_6 : decode cX12_isRule 6 = .ok (.getfield 256, 3) := by decide +kernel
theorem dX12_isRule_9 : decode cX12_isRule 9 = .ok (.if_icmp .ge 7, 3) := by decide +kernel
theorem dX12_isRule_12 : decode cX12_isRule 12 = .ok (.iconst 1, 1) := by decide +kernel
theorem dX12_isRule_13 : decode cX12_isRule 13 = .ok (.goto 4, 3) := by decide +kernel
theorem dX12_isRule_16 : decode cX12_isRule 16 = .ok (.iconst 0, 1) := by decide +kernel
theorem dX12_isRule_17 : decode cX12_isRule 17 = .ok (.ireturn, 1) := by decide +kernel
theorem dX12_isWilling_0 : decode cX12_isWilling 0 = .ok (.aload_n 0, 1) := by decide +kernel
theorem dX12_isWilling_1 : decode cX12_isWilling 1 = .ok (.getfield 39, 3) := by decide +kernel
theorem dX12_isWilling_4 : decode cX12_isWilling 4 = .ok (.bipush 36, 2) := by decide +kernel
theorem dX12_isWilling_6 : decode cX12_isWilling 6 = .ok (.aload_n 0, 1) := by decide +kernel
theorem dX12_isWilling_7 : decode cX12_isWilling 7 = .ok (.invokevirtual 314, 3) := by decide +kernel
theorem dX12_isWilling_10 : decode cX12_isWilling 10 = .ok (.iadd, 1) := by decide +kernel
theorem dX12_isWilling_11 : decode cX12_isWilling 11 = .ok (.iaload, 1) := by decide +kernel
theorem dX12_isWilling_12 : decode cX12_isWilling 12 = .ok (.istore_n 2, 1) := by decide +kernel
theorem dX12_isWilling_13 : decode cX12_isWilling 13 = .ok (.aload_n 0, 1) := by decide +kernel
theorem dX12_isWilling_14 : decode cX12_isWilling 14 = .ok (.getfield 42, 3) := by decide +kernel
theorem dX12_isWilling_17 : decode cX12_isWilling 17 = .ok (.ifCond .ge 21, 3) := by decide +kernel
theorem dX12_isWilling_20 : decode cX12_isWilling 20 = .ok (.aload_n 0, 1) := by decide +kernel
theorem dX12_isWilling_21 : decode cX12_isWilling 21 = .ok (.iload_n 1, 1) := by decide +kernel
theorem dX12_isWilling_22 : decode cX12_isWilling 22 = .ok (.invokevirtual 301, 3) := by decide +kernel
theorem dX12_isWilling_25 : decode cX12_isWilling 25 = .ok (.iload_n 2, 1) := by decide +kernel
theorem dX12_isWilling_26 : decode cX12_isWilling 26 = .ok (.iadd, 1) := by decide +kernel
theorem dX12_isWilling_27 : decode cX12_isWilling 27 = .ok (.bipush 12, 2) := by decide +kernel
theorem dX12_isWilling_29 : decode cX12_isWilling 29 = .ok (.if_icmp .lt 7, 3) := by decide +kernel
theorem dX12_isWilling_32 : decode cX12_isWilling 32 = .ok (.iconst 1, 1) := by decide +kernel
theorem dX12_isWilling_33 : decode cX12_isWilling 33 = .ok (.goto 4, 3) := by decide +kernel
theorem dX12_isWilling_36 : decode cX12_isWilling 36 = .ok (.iconst 0, 1) := by decide +kernel
theorem dX12_isWilling_37 : decode cX12_isWilling 37 = .ok (.ireturn, 1) := by decide +kernel
theorem dX12_isWilling_38 : decode cX12_isWilling 38 = .ok (.aload_n 0, 1) := by decide +kernel
theorem dX12_isWilling_39 : decode cX12_isWilling 39 = .ok (.getfield 36, 3) := by decide +kernel
theorem dX12_isWilling_42 : decode cX12_isWilling 42 = .ok (.iconst 0, 1) := by decide +kernel
theorem dX12_isWilling_43 : decode cX12_isWilling 43 = .ok (.iload_n 1, 1) := by decide +kernel
theorem dX12_isWilling_44 : decode cX12_isWilling 44 = .ok (.i2l, 1) := by decide +kernel
theorem dX12_isWilling_45 : decode cX12_isWilling 45 = .ok (.lastore, 1) := by decide +kernel
theorem dX12_isWilling_46 : decode cX12_isWilling 46 = .ok (.aload_n 0, 1) := by decide +kernel
theorem dX12_isWilling_47 : decode cX12_isWilling 47 = .ok (.getfield 36, 3) := by decide +kernel
theorem dX12_isWilling_50 : decode cX12_isWilling 50 = .ok (.iconst 1, 1) := by decide +kernel
theorem dX12_isWilling_51 : decode cX12_isWilling 51 = .ok (.aload_n 0, 1) := by decide +kernel
theorem dX12_isWilling_52 : decode cX12_isWilling 52 = .ok (.iload_n 1, 1) := by decide +kernel
theorem dX12_isWilling_53 : decode cX12_isWilling 53 = .ok (.invokevirtual 301, 3) := by decide +kernel
theorem dX12_isWilling_56 : decode cX12_isWilling 56 = .ok (.i2l, 1) := by decide +kernel
theorem dX12_isWilling_57 : decode cX12_isWilling 57 = .ok (.lastore, 1) := by decide +kernel
theorem dX12_isWilling_58 : decode cX12_isWilling 58 = .ok (.aload_n 0, 1) := by decide +kernel
theorem dX12_isWilling_59 : decode cX12_isWilling 59 = .ok (.getfield 36, 3) := by decide +kernel
theorem dX12_isWilling_62 : decode cX12_isWilling 62 = .ok (.iconst 2, 1) := by decide +kernel
theorem dX12_isWilling_63 : decode cX12_isWilling 63 = .ok (.aload_n 0, 1) := by decide +kernel
theorem dX12_isWilling_64 : decode cX12_isWilling 64 = .ok (.getfield 39, 3) := by decide +kernel
theorem dX12_isWilling_67 : decode cX12_isWilling 67 = .ok (.bipush 56, 2) := by decide +kernel
theorem dX12_isWilling_69 : decode cX12_isWilling 69 = .ok (.iload_n 1, 1) := by decide +kernel
theorem dX12_isWilling_70 : decode cX12_isWilling 70 = .ok (.iadd, 1) := by decide +kernel
theorem dX12_isWilling_71 : decode cX12_isWilling 71 = .ok (.iaload, 1) := by decide +kernel
theorem dX12_isWilling_72 : decode cX12_isWilling 72 = .ok (.i2l, 1) := by decide +kernel
theorem dX12_isWilling_73 : decode cX12_isWilling 73 = .ok (.lastore, 1) := by decide +kernel
theorem dX12_isWilling_74 : decode cX12_isWilling 74 = .ok (.aload_n 0, 1) := by decide +kernel
theorem dX12_isWilling_75 : decode cX12_isWilling 75 = .ok (.getfield 36, 3) := by decide +kernel
theorem dX12_isWilling_78 : decode cX12_isWilling 78 = .ok (.iconst 3, 1) := by decide +kernel
theorem dX12_isWilling_79 : decode cX12_isWilling 79 = .ok (.aload_n 0, 1) := by decide +kernel
theorem dX12_isWilling_80 : decode cX12_isWilling 80 = .ok (.getfield 39, 3) := by decide +kernel
theorem dX12_isWilling_83 : decode cX12_isWilling 83 = .ok (.bipush 62, 2) := by decide +kernel
theorem dX12_isWilling_85 : decode cX12_isWilling 85 = .ok (.iload_n 1, 1) := by decide +kernel
theorem dX12_isWilling_86 : decode cX12_isWilling 86 = .ok (.iadd, 1) := by decide +kernel
theorem dX12_isWilling_87 : decode cX12_isWilling 87 = .ok (.iaload, 1) := by decide +kernel
theorem dX12_isWilling_88 : decode cX12_isWilling 88 = .ok (.i2l, 1) := by decide +kernel
theorem dX12_isWilling_89 : decode cX12_isWilling 89 = .ok (.lastore, 1) := by decide +kernel
theorem dX12_isWilling_90 : decode cX12_isWilling 90 = .ok (.aload_n 0, 1) := by decide +kernel
theorem dX12_isWilling_91 : decode cX12_isWilling 91 = .ok (.getfield 36, 3) := by decide +kernel
theorem dX12_isWilling_94 : decode cX12_isWilling 94 = .ok (.iconst 4, 1) := by decide +kernel
theorem dX12_isWilling_95 : decode cX12_isWilling 95 = .ok (.iload_n 2, 1) := by decide +kernel
theorem dX12_isWilling_96 : decode cX12_isWilling 96 = .ok (.i2l, 1) := by decide +kernel
theorem dX12_isWilling_97 : decode cX12_isWilling 97 = .ok (.lastore, 1) := by decide +kernel
theorem dX12_isWilling_98 : decode cX12_isWilling 98 = .ok (.aload_n 0, 1) := by decide +kernel
theorem dX12_isWilling_99 : decode cX12_isWilling 99 = .ok (.getfield 36, 3) := by decide +kernel
theorem dX12_isWilling_102 : decode cX12_isWilling 102 = .ok (.iconst 5, 1) := by decide +kernel
theorem dX12_isWilling_103 : decode cX12_isWilling 103 = .ok (.aload_n 0, 1) := by decide +kernel
theorem dX12_isWilling_104 : decode cX12_isWilling 104 = .ok (.getfield 39, 3) := by decide +kernel
theorem dX12_isWilling_107 : decode cX12_isWilling 107 = .ok (.bipush 36, 2) := by decide +kernel
theorem dX12_isWilling_109 : decode cX12_isWilling 109 = .ok (.aload_n 0, 1) := by decide +kernel
theorem dX12_isWilling_110 : decode cX12_isWilling 110 = .ok (.getfield 39, 3) := by decide +kernel
theorem dX12_isWilling_113 : decode cX12_isWilling 113 = .ok (.bipush 10, 2) := by decide +kernel
theorem dX12_isWilling_115 : decode cX12_isWilling 115 = .ok (.iaload, 1) := by decide +kernel
theorem dX12_isWilling_116 : decode cX12_isWilling 116 = .ok (.iconst 1, 1) := by decide +kernel
theorem dX12_isWilling_117 : decode cX12_isWilling 117 = .ok (.iadd, 1) := by decide +kernel
theorem dX12_isWilling_118 : decode cX12_isWilling 118 = .ok (.aload_n 0, 1) := by decide +kernel
theorem dX12_isWilling_119 : decode cX12_isWilling 119 = .ok (.getfield 39, 3) := by decide +kernel
theorem dX12_isWilling_122 : decode cX12_isWilling 122 = .ok (.iconst 2, 1) := by decide +kernel
theorem dX12_isWilling_123 : decode cX12_isWilling 123 = .ok (.iaload, 1) := by decide +kernel
theorem dX12_isWilling_124 : decode cX12_isWilling 124 = .ok (.irem, 1) := by decide +kernel
theorem dX12_isWilling_125 : decode cX12_isWilling 125 = .ok (.iadd, 1) := by decide +kernel
theorem dX12_isWilling_126 : decode cX12_isWilling 126 = .ok (.iaload, 1) := by decide +kernel
theorem dX12_isWilling_127 : decode cX12_isWilling 127 = .ok (.i2l, 1) := by decide +kernel
theorem dX12_isWilling_128 : decode cX12_isWilling 128 = .ok (.lastore, 1) := by decide +kernel
theorem dX12_isWilling_129 : decode cX12_isWilling 129 = .ok (.aload_n 0, 1) := by decide +kernel
theorem dX12_isWilling_130 : decode cX12_isWilling 130 = .ok (.getfield 36, 3) := by decide +kernel
theorem dX12_isWilling_133 : decode cX12_isWilling 133 = .ok (.bipush 6, 2) := by decide +kernel
theorem dX12_isWilling_135 : decode cX12_isWilling 135 = .ok (.aload_n 0, 1) := by decide +kernel
theorem dX12_isWilling_136 : decode cX12_isWilling 136 = .ok (.getfield 39, 3) := by decide +kernel
theorem dX12_isWilling_139 : decode cX12_isWilling 139 = .ok (.bipush 11, 2) := by decide +kernel
theorem dX12_isWilling_141 : decode cX12_isWilling 141 = .ok (.iaload, 1) := by decide +kernel
theorem dX12_isWilling_142 : decode cX12_isWilling 142 = .ok (.i2l, 1) := by decide +kernel
theorem dX12_isWilling_143 : decode cX12_isWilling 143 = .ok (.lastore, 1) := by decide +kernel
theorem dX12_isWilling_144 : decode cX12_isWilling 144 = .ok (.aload_n 0, 1) := by decide +kernel
theorem dX12_isWilling_145 : decode cX12_isWilling 145 = .ok (.getfield 36, 3) := by decide +kernel
theorem dX12_isWilling_148 : decode cX12_isWilling 148 = .ok (.bipush 7, 2) := by decide +kernel
theorem dX12_isWilling_150 : decode cX12_isWilling 150 = .ok (.aload_n 0, 1) := by decide +kernel
theorem dX12_isWilling_151 : decode cX12_isWilling 151 = .ok (.iload_n 1, 1) := by decide +kernel
theorem dX12_isWilling_152 : decode cX12_isWilling 152 = .ok (.invokevirtual 289, 3) := by decide +kernel
theorem dX12_isWilling_155 : decode cX12_isWilling 155 = .ok (.i2l, 1) := by decide +kernel
theorem dX12_isWilling_156 : decode cX12_isWilling 156 = .ok (.lastore, 1) := by decide +kernel
theorem dX12_isWilling_157 : decode cX12_isWilling 157 = .ok (.aload_n 0, 1) := by decide +kernel
theorem dX12_isWilling_158 : decode cX12_isWilling 158 = .ok (.getfield 36, 3) := by decide +kernel
theorem dX12_isWilling_161 : decode cX12_isWilling 161 = .ok (.bipush 8, 2) := by decide +kernel
theorem dX12_isWilling_163 : decode cX12_isWilling 163 = .ok (.aload_n 0, 1) := by decide +kernel
theorem dX12_isWilling_164 : decode cX12_isWilling 164 = .ok (.iload_n 1, 1) := by decide +kernel
theorem dX12_isWilling_165 : decode cX12_isWilling 165 = .ok (.invokevirtual 292, 3) := by decide +kernel
theorem dX12_isWilling_168 : decode cX12_isWilling 168 = .ok (.i2l, 1) := by decide +kernel
theorem dX12_isWilling_169 : decode cX12_isWilling 169 = .ok (.lastore, 1) := by decide +kernel
theorem dX12_isWilling_170 : decode cX12_isWilling 170 = .ok (.aload_n 0, 1) := by decide +kernel
theorem dX12_isWilling_171 : decode cX12_isWilling 171 = .ok (.getfield 36, 3) := by decide +kernel
theorem dX12_isWilling_174 : decode cX12_isWilling 174 = .ok (.bipush 9, 2) := by decide +kernel
theorem dX12_isWilling_176 : decode cX12_isWilling 176 = .ok (.aload_n 0, 1) := by decide +kernel
theorem dX12_isWilling_177 : decode cX12_isWilling 177 = .ok (.iload_n 1, 1) := by decide +kernel
theorem dX12_isWilling_178 : decode cX12_isWilling 178 = .ok (.invokevirtual 304, 3) := by decide +kernel
theorem dX12_isWilling_181 : decode cX12_isWilling 181 = .ok (.i2l, 1) := by decide +kernel
theorem dX12_isWilling_182 : decode cX12_isWilling 182 = .ok (.lastore, 1) := by decide +kernel
theorem dX12_isWilling_183 : decode cX12_isWilling 183 = .ok (.aload_n 0, 1) := by decide +kernel
theorem dX12_isWilling_184 : decode cX12_isWilling 184 = .ok (.getfield 36, 3) := by decide +kernel
theorem dX12_isWilling_187 : decode cX12_isWilling 187 = .ok (.bipush 10, 2) := by decide +kernel
theorem dX12_isWilling_189 : decode cX12_isWilling 189 = .ok (.aload_n 0, 1) := by decide +kernel
theorem dX12_isWilling_190 : decode cX12_isWilling 190 = .ok (.invokevirtual 317, 3) := by decide +kernel
theorem dX12_isWilling_193 : decode cX12_isWilling 193 = .ok (.i2l, 1) := by decide +kernel
theorem dX12_isWilling_194 : decode cX12_isWilling 194 = .ok (.lastore, 1) := by decide +kernel
theorem dX12_isWilling_195 : decode cX12_isWilling 195 = .ok (.aload_n 0, 1) := by decide +kernel
theorem dX12_isWilling_196 : decode cX12_isWilling 196 = .ok (.getfield 36, 3) := by decide +kernel
theorem dX12_isWilling_199 : decode cX12_isWilling 199 = .ok (.bipush 11, 2) := by decide +kernel
theorem dX12_isWilling_201 : decode cX12_isWilling 201 = .ok (.aload_n 0, 1) := by decide +kernel
theorem dX12_isWilling_202 : decode cX12_isWilling 202 = .ok (.invokevirtual 314, 3) := by decide +kernel
theorem dX12_isWilling_205 : decode cX12_isWilling 205 = .ok (.i2l, 1) := by decide +kernel
theorem dX12_isWilling_206 : decode cX12_isWilling 206 = .ok (.lastore, 1) := by decide +kernel
theorem dX12_isWilling_207 : decode cX12_isWilling 207 = .ok (.aload_n 0, 1) := by decide +kernel
theorem dX12_isWilling_208 : decode cX12_isWilling 208 = .ok (.getfield 36, 3) := by decide +kernel
theorem dX12_isWilling_211 : decode cX12_isWilling 211 = .ok (.bipush 12, 2) := by decide +kernel
theorem dX12_isWilling_213 : decode cX12_isWilling 213 = .ok (.aload_n 0, 1) := by decide +kernel
theorem dX12_isWilling_214 : decode cX12_isWilling 214 = .ok (.getfield 39, 3) := by decide +kernel
theorem dX12_isWilling_217 : decode cX12_isWilling 217 = .ok (.bipush 10, 2) := by decide +kernel
theorem dX12_isWilling_219 : decode cX12_isWilling 219 = .ok (.iaload, 1) := by decide +kernel
theorem dX12_isWilling_220 : decode cX12_isWilling 220 = .ok (.i2l, 1) := by decide +kernel
theorem dX12_isWilling_221 : decode cX12_isWilling 221 = .ok (.lastore, 1) := by decide +kernel
theorem dX12_isWilling_222 : decode cX12_isWilling 222 = .ok (.aload_n 0, 1) := by decide +kernel
theorem dX12_isWilling_223 : decode cX12_isWilling 223 = .ok (.aload_n 0, 1) := by decide +kernel
theorem dX12_isWilling_224 : decode cX12_isWilling 224 = .ok (.getfield 42, 3) := by decide +kernel
theorem dX12_isWilling_227 : decode cX12_isWilling 227 = .ok (.invokevirtual 320, 3) := by decide +kernel
theorem dX12_isWilling_230 : decode cX12_isWilling 230 = .ok (.lconst 0, 1) := by decide +kernel
theorem dX12_isWilling_231 : decode cX12_isWilling 231 = .ok (.lcmp, 1) := by decide +kernel
theorem dX12_isWilling_232 : decode cX12_isWilling 232 = .ok (.ifCond .le 7, 3) := by decide +kernel
theorem dX12_isWilling_235 : decode cX12_isWilling 235 = .ok (.iconst 1, 1) := by decide +kernel
theorem dX12_isWilling_236 : decode cX12_isWilling 236 = .ok (.goto 4, 3) := by decide +kernel
theorem dX12_isWilling_239 : decode cX12_isWilling 239 = .ok (.iconst 0, 1) := by decide +kernel
theorem dX12_isWilling_240 : decode cX12_isWilling 240 = .ok (.ireturn, 1) := by decide +kernel
theorem dX12_lastOf_0 : decode cX12_lastOf 0 = .ok (.aload_n 0, 1) := by decide +kernel
theorem dX12_lastOf_1 : decode cX12_lastOf 1 = .ok (.getfield 39, 3) := by decide +kernel
theorem dX12_lastOf_4 : decode cX12_lastOf 4 = .ok (.bipush 12, 2) := by decide +kernel
theorem dX12_lastOf_6 : decode cX12_lastOf 6 = .ok (.iconst 4, 1) := by decide +kernel
theorem dX12_lastOf_7 : decode cX12_lastOf 7 = .ok (.iload_n 1, 1) := by decide +kernel
theorem dX12_lastOf_8 : decode cX12_lastOf 8 = .ok (.imul, 1) := by decide +kernel
theorem dX12_lastOf_9 : decode cX12_lastOf 9 = .ok (.iadd, 1) := by decide +kernel
theorem dX12_lastOf_10 : decode cX12_lastOf 10 = .ok (.iconst 3, 1) := by decide +kernel
theorem dX12_lastOf_11 : decode cX12_lastOf 11 = .ok (.iadd, 1) := by decide +kernel
theorem dX12_lastOf_12 : decode cX12_lastOf 12 = .ok (.iaload, 1) := by decide +kernel
theorem dX12_lastOf_13 : decode cX12_lastOf 13 = .ok (.ireturn, 1) := by decide +kernel
theorem dX12_metAll_0 : decode cX12_metAll 0 = .ok (.iconst 0, 1) := by decide +kernel
theorem dX12_metAll_1 : decode cX12_metAll 1 = .ok (.istore_n 1, 1) := by decide +kernel
theorem dX12_metAll_2 : decode cX12_metAll 2 = .ok (.iconst 0, 1) := by decide +kernel
theorem dX12_metAll_3 : decode cX12_metAll 3 = .ok (.istore_n 2, 1) := by decide +kernel
theorem dX12_metAll_4 : decode cX12_metAll 4 = .ok (.iload_n 2, 1) := by decide +kernel
theorem dX12_metAll_5 : decode cX12_metAll 5 = .ok (.aload_n 0, 1) := by decide +kernel
theorem dX12_metAll_6 : decode cX12_metAll 6 = .ok (.getfield 39, 3) := by decide +kernel
theorem dX12_metAll_9 : decode cX12_metAll 9 = .ok (.iconst 3, 1) := by decide +kernel
theorem dX12_metAll_10 : decode cX12_metAll 10 = .ok (.iaload, 1) := by decide +kernel
theorem dX12_metAll_11 : decode cX12_metAll 11 = .ok (.if_icmp .ge 17, 3) := by decide +kernel
theorem dX12_metAll_14 : decode cX12_metAll 14 = .ok (.iload_n 1, 1) := by decide +kernel
theorem dX12_metAll_15 : decode cX12_metAll 15 = .ok (.aload_n 0, 1) := by decide +kernel
theorem dX12_metAll_16 : decode cX12_metAll 16 = .ok (.iload_n 2, 1) := by decide +kernel
theorem dX12_metAll_17 : decode cX12_metAll 17 = .ok (.invokevirtual 292, 3) := by decide +kernel
theorem dX12_metAll_20 : decode cX12_metAll 20 = .ok (.iadd, 1) := by decide +kernel
theorem dX12_metAll_21 : decode cX12_metAll 21 = .ok (.istore_n 1, 1) := by decide +kernel
theorem dX12_metAll_22 : decode cX12_metAll 22 = .ok (.iinc 2 1, 3) := by decide +kernel
theorem dX12_metAll_25 : decode cX12_metAll 25 = .ok (.goto (-21), 3) := by decide +kernel
theorem dX12_metAll_28 : decode cX12_metAll 28 = .ok (.iload_n 1, 1) := by decide +kernel
theorem dX12_metAll_29 : decode cX12_metAll 29 = .ok (.ireturn, 1) := by decide +kernel
theorem dX12_metOf_0 : decode cX12_metOf 0 = .ok (.aload_n 0, 1) := by decide +kernel
theorem dX12_metOf_1 : decode cX12_metOf 1 = .ok (.getfield 39, 3) := by decide +kernel
theorem dX12_metOf_4 : decode cX12_metOf 4 = .ok (.bipush 12, 2) := by decide +kernel
theorem dX12_metOf_6 : decode cX12_metOf 6 = .ok (.iconst 4, 1) := by decide +kernel
theorem dX12_metOf_7 : decode cX12_metOf 7 = .ok (.iload_n 1, 1) := by decide +kernel
theorem dX12_metOf_8 : decode cX12_metOf 8 = .ok (.imul, 1) := by decide +kernel
theorem dX12_metOf_9 : decode cX12_metOf 9 = .ok (.iadd, 1) := by decide +kernel
theorem dX12_metOf_10 : decode cX12_metOf 10 = .ok (.iconst 2, 1) := by decide +kernel
theorem dX12_metOf_11 : decode cX12_metOf 11 = .ok (.iadd, 1) := by decide +kernel
theorem dX12_metOf_12 : decode cX12_metOf 12 = .ok (.iaload, 1) := by decide +kernel
theorem dX12_metOf_13 : decode cX12_metOf 13 = .ok (.ireturn, 1) := by decide +kernel
theorem dX12_one_0 : decode cX12_one 0 = .ok (.iload_n 0, 1) := by decide +kernel
theorem dX12_one_1 : decode cX12_one 1 = .ok (.tableswitch 171 2 14 #[67, 71, 75, 79, 107, 119, 131, 143, 155, 171, 167, 171, 93], 67) := by decide +kernel
theorem dX12_one_68 : decode cX12_one 68 = .ok (.lload_n 1, 1) := by decide +kernel
theorem dX12_one_69 : decode cX12_one 69 = .ok (.lload_n 3, 1) := by decide +kernel
theorem dX12_one_70 : decode cX12_one 70 = .ok (.ladd, 1) := by decide +kernel
theorem dX12_one_71 : decode cX12_one 71 = .ok (.lreturn, 1) := by decide +kernel
theorem dX12_one_72 : decode cX12_one 72 = .ok (.lload_n 1, 1) := by decide +kernel
theorem dX12_one_73 : decode cX12_one 73 = .ok (.lload_n 3, 1) := by decide +kernel
theorem dX12_one_74 : decode cX12_one 74 = .ok (.lsub, 1) := by decide +kernel
theorem dX12_one_75 : decode cX12_one 75 = .ok (.lreturn, 1) := by decide +kernel
theorem dX12_one_76 : decode cX12_one 76 = .ok (.lload_n 1, 1) := by decide +kernel
theorem dX12_one_77 : decode cX12_one 77 = .ok (.lload_n 3, 1) := by decide +kernel
theorem dX12_one_78 : decode cX12_one 78 = .ok (.lmul, 1) := by decide +kernel
theorem dX12_one_79 : decode cX12_one 79 = .ok (.lreturn, 1) := by decide +kernel
theorem dX12_one_80 : decode cX12_one 80 = .ok (.lload_n 3, 1) := by decide +kernel
theorem dX12_one_81 : decode cX12_one 81 = .ok (.lconst 0, 1) := by decide +kernel
theorem dX12_one_82 : decode cX12_one 82 = .ok (.lcmp, 1) := by decide +kernel
theorem dX12_one_83 : decode cX12_one 83 = .ok (.ifCond .ne 7, 3) := by decide +kernel
theorem dX12_one_86 : decode cX12_one 86 = .ok (.lconst 0, 1) := by decide +kernel
theorem dX12_one_87 : decode cX12_one 87 = .ok (.goto 6, 3) := by decide +kernel
theorem dX12_one_90 : decode cX12_one 90 = .ok (.lload_n 1, 1) := by decide +kernel
theorem dX12_one_91 : decode cX12_one 91 = .ok (.lload_n 3, 1) := by decide +kernel
theorem dX12_one_92 : decode cX12_one 92 = .ok (.ldiv, 1) := by decide +kernel
theorem dX12_one_93 : decode cX12_one 93 = .ok (.lreturn, 1) := by decide +kernel
theorem dX12_one_94 : decode cX12_one 94 = .ok (.lload_n 3, 1) := by decide +kernel
theorem dX12_one_95 : decode cX12_one 95 = .ok (.lconst 0, 1) := by decide +kernel
theorem dX12_one_96 : decode cX12_one 96 = .ok (.lcmp, 1) := by decide +kernel
theorem dX12_one_97 : decode cX12_one 97 = .ok (.ifCond .ne 7, 3) := by decide +kernel
theorem dX12_one_100 : decode cX12_one 100 = .ok (.lconst 0, 1) := by decide +kernel
theorem dX12_one_101 : decode cX12_one 101 = .ok (.goto 6, 3) := by decide +kernel
theorem dX12_one_104 : decode cX12_one 104 = .ok (.lload_n 1, 1) := by decide +kernel
theorem dX12_one_105 : decode cX12_one 105 = .ok (.lload_n 3, 1) := by decide +kernel
theorem dX12_one_106 : decode cX12_one 106 = .ok (.lrem, 1) := by decide +kernel
theorem dX12_one_107 : decode cX12_one 107 = .ok (.lreturn, 1) := by decide +kernel
theorem dX12_one_108 : decode cX12_one 108 = .ok (.lload_n 1, 1) := by decide +kernel
theorem dX12_one_109 : decode cX12_one 109 = .ok (.lload_n 3, 1) := by decide +kernel
theorem dX12_one_110 : decode cX12_one 110 = .ok (.lcmp, 1) := by decide +kernel
theorem dX12_one_111 : decode cX12_one 111 = .ok (.ifCond .ge 7, 3) := by decide +kernel
theorem dX12_one_114 : decode cX12_one 114 = .ok (.lconst 1, 1) := by decide +kernel
theorem dX12_one_115 : decode cX12_one 115 = .ok (.goto 4, 3) := by decide +kernel
theorem dX12_one_118 : decode cX12_one 118 = .ok (.lconst 0, 1) := by decide +kernel
theorem dX12_one_119 : decode cX12_one 119 = .ok (.lreturn, 1) := by decide +kernel
theorem dX12_one_120 : decode cX12_one 120 = .ok (.lload_n 1, 1) := by decide +kernel
theorem dX12_one_121 : decode cX12_one 121 = .ok (.lload_n 3, 1) := by decide +kernel
theorem dX12_one_122 : decode cX12_one 122 = .ok (.lcmp, 1) := by decide +kernel
theorem dX12_one_123 : decode cX12_one 123 = .ok (.ifCond .gt 7, 3) := by decide +kernel
theorem dX12_one_126 : decode cX12_one 126 = .ok (.lconst 1, 1) := by decide +kernel
theorem dX12_one_127 : decode cX12_one 127 = .ok (.goto 4, 3) := by decide +kernel
theorem dX12_one_130 : decode cX12_one 130 = .ok (.lconst 0, 1) := by decide +kernel
theorem dX12_one_131 : decode cX12_one 131 = .ok (.lreturn, 1) := by decide +kernel
theorem dX12_one_132 : decode cX12_one 132 = .ok (.lload_n 1, 1) := by decide +kernel
theorem dX12_one_133 : decode cX12_one 133 = .ok (.lload_n 3, 1) := by decide +kernel
theorem dX12_one_134 : decode cX12_one 134 = .ok (.lcmp, 1) := by decide +kernel
theorem dX12_one_135 : decode cX12_one 135 = .ok (.ifCond .ne 7, 3) := by decide +kernel
theorem dX12_one_138 : decode cX12_one 138 = .ok (.lconst 1, 1) := by decide +kernel
theorem dX12_one_139 : decode cX12_one 139 = .ok (.goto 4, 3) := by decide +kernel
theorem dX12_one_142 : decode cX12_one 142 = .ok (.lconst 0, 1) := by decide +kernel
theorem dX12_one_143 : decode cX12_one 143 = .ok (.lreturn, 1) := by decide +kernel
theorem dX12_one_144 : decode cX12_one 144 = .ok (.lload_n 1, 1) := by decide +kernel
theorem dX12_one_145 : decode cX12_one 145 = .ok (.lload_n 3, 1) := by decide +kernel
theorem dX12_one_146 : decode cX12_one 146 = .ok (.lcmp, 1) := by decide +kernel
theorem dX12_one_147 : decode cX12_one 147 = .ok (.ifCond .lt 7, 3) := by decide +kernel
theorem dX12_one_150 : decode cX12_one 150 = .ok (.lconst 1, 1) := by decide +kernel
theorem dX12_one_151 : decode cX12_one 151 = .ok (.goto 4, 3) := by decide +kernel
theorem dX12_one_154 : decode cX12_one 154 = .ok (.lconst 0, 1) := by decide +kernel
theorem dX12_one_155 : decode cX12_one 155 = .ok (.lreturn, 1) := by decide +kernel
theorem dX12_one_156 : decode cX12_one 156 = .ok (.lload_n 1, 1) := by decide +kernel
theorem dX12_one_157 : decode cX12_one 157 = .ok (.lload_n 3, 1) := by decide +kernel
theorem dX12_one_158 : decode cX12_one 158 = .ok (.lcmp, 1) := by decide +kernel
theorem dX12_one_159 : decode cX12_one 159 = .ok (.ifCond .le 7, 3) := by decide +kernel
theorem dX12_one_162 : decode cX12_one 162 = .ok (.lconst 1, 1) := by decide +kernel
theorem dX12_one_163 : decode cX12_one 163 = .ok (.goto 4, 3) := by decide +kernel
theorem dX12_one_166 : decode cX12_one 166 = .ok (.lconst 0, 1) := by decide +kernel
theorem dX12_one_167 : decode cX12_one 167 = .ok (.lreturn, 1) := by decide +kernel
theorem dX12_one_168 : decode cX12_one 168 = .ok (.lload_n 1, 1) := by decide +kernel
theorem dX12_one_169 : decode cX12_one 169 = .ok (.lload_n 3, 1) := by decide +kernel
theorem dX12_one_170 : decode cX12_one 170 = .ok (.land, 1) := by decide +kernel
theorem dX12_one_171 : decode cX12_one 171 = .ok (.lreturn, 1) := by decide +kernel
theorem dX12_one_172 : decode cX12_one 172 = .ok (.lload_n 1, 1) := by decide +kernel
theorem dX12_one_173 : decode cX12_one 173 = .ok (.lload_n 3, 1) := by decide +kernel
theorem dX12_one_174 : decode cX12_one 174 = .ok (.lor, 1) := by decide +kernel
theorem dX12_one_175 : decode cX12_one 175 = .ok (.lreturn, 1) := by decide +kernel
theorem dX12_passes_0 : decode cX12_passes 0 = .ok (.iconst 0, 1) := by decide +kernel
theorem dX12_passes_1 : decode cX12_passes 1 = .ok (.istore_n 1, 1) := by decide +kernel
theorem dX12_passes_2 : decode cX12_passes 2 = .ok (.iconst 0, 1) := by decide +kernel
theorem dX12_passes_3 : decode cX12_passes 3 = .ok (.istore_n 2, 1) := by decide +kernel
theorem dX12_passes_4 : decode cX12_passes 4 = .ok (.iload_n 2, 1) := by decide +kernel
theorem dX12_passes_5 : decode cX12_passes 5 = .ok (.aload_n 0, 1) := by decide +kernel
theorem dX12_passes_6 : decode cX12_passes 6 = .ok (.getfield 39, 3) := by decide +kernel
theorem dX12_passes_9 : decode cX12_passes 9 = .ok (.iconst 3, 1) := by decide +kernel
theorem dX12_passes_10 : decode cX12_passes 10 = .ok (.iaload, 1) := by decide +kernel
theorem dX12_passes_11 : decode cX12_passes 11 = .ok (.if_icmp .ge 39, 3) := by decide +kernel
theorem dX12_passes_14 : decode cX12_passes 14 = .ok (.aload_n 0, 1) := by decide +kernel
theorem dX12_passes_15 : decode cX12_passes 15 = .ok (.iload_n 2, 1) := by decide +kernel
theorem dX12_passes_16 : decode cX12_passes 16 = .ok (.invokevirtual 336, 3) := by decide +kernel
theorem dX12_passes_19 : decode cX12_passes 19 = .ok (.ifCond .eq 25, 3) := by decide +kernel
theorem dX12_passes_22 : decode cX12_passes 22 = .ok (.aload_n 0, 1) := by decide +kernel
theorem dX12_passes_23 : decode cX12_passes 23 = .ok (.iload_n 2, 1) := by decide +kernel
theorem dX12_passes_24 : decode cX12_passes 24 = .ok (.invokevirtual 339, 3) := by decide +kernel
theorem dX12_passes_27 : decode cX12_passes 27 = .ok (.ifCond .eq 17, 3) := by decide +kernel
theorem dX12_passes_30 : decode cX12_passes 30 = .ok (.aload_n 0, 1) := by decide +kernel
theorem dX12_passes_31 : decode cX12_passes 31 = .ok (.iload_n 2, 1) := by decide +kernel
theorem dX12_passes_32 : decode cX12_passes 32 = .ok (.invokevirtual 342, 3) := by decide +kernel
theorem dX12_passes_35 : decode cX12_passes 35 = .ok (.ifCond .eq 9, 3) := by decide +kernel
theorem dX12_passes_38 : decode cX12_passes 38 = .ok (.iload_n 1, 1) := by decide +kernel
theorem dX12_passes_39 : decode cX12_passes 39 = .ok (.iconst 1, 1) := by decide +kernel
theorem dX12_passes_40 : decode cX12_passes 40 = .ok (.iload_n 2, 1) := by decide +kernel
theorem dX12_passes_41 : decode cX12_passes 41 = .ok (.ishl, 1) := by decide +kernel
theorem dX12_passes_42 : decode cX12_passes 42 = .ok (.ior, 1) := by decide +kernel
theorem dX12_passes_43 : decode cX12_passes 43 = .ok (.istore_n 1, 1) := by decide +kernel
theorem dX12_passes_44 : decode cX12_passes 44 = .ok (.iinc 2 1, 3) := by decide +kernel
theorem dX12_passes_47 : decode cX12_passes 47 = .ok (.goto (-43), 3) := by decide +kernel
theorem dX12_passes_50 : decode cX12_passes 50 = .ok (.aload_n 0, 1) := by decide +kernel
theorem dX12_passes_51 : decode cX12_passes 51 = .ok (.invokevirtual 345, 3) := by decide +kernel
theorem dX12_passes_54 : decode cX12_passes 54 = .ok (.aload_n 0, 1) := by decide +kernel
theorem dX12_passes_55 : decode cX12_passes 55 = .ok (.getfield 39, 3) := by decide +kernel
theorem dX12_passes_58 : decode cX12_passes 58 = .ok (.bipush 10, 2) := by decide +kernel
theorem dX12_passes_60 : decode cX12_passes 60 = .ok (.iaload, 1) := by decide +kernel
theorem dX12_passes_61 : decode cX12_passes 61 = .ok (.bipush 7, 2) := by decide +kernel
theorem dX12_passes_63 : decode cX12_passes 63 = .ok (.irem, 1) := by decide +kernel
theorem dX12_passes_64 : decode cX12_passes 64 = .ok (.bipush 6, 2) := by decide +kernel
theorem dX12_passes_66 : decode cX12_passes 66 = .ok (.if_icmp .ne 40, 3) := by decide +kernel
theorem dX12_passes_69 : decode cX12_passes 69 = .ok (.aload_n 0, 1) := by decide +kernel
theorem dX12_passes_70 : decode cX12_passes 70 = .ok (.getfield 39, 3) := by decide +kernel
theorem dX12_passes_73 : decode cX12_passes 73 = .ok (.bipush 11, 2) := by decide +kernel
theorem dX12_passes_75 : decode cX12_passes 75 = .ok (.dup2, 1) := by decide +kernel
theorem dX12_passes_76 : decode cX12_passes 76 = .ok (.iaload, 1) := by decide +kernel
theorem dX12_passes_77 : decode cX12_passes 77 = .ok (.aload_n 0, 1) := by decide +kernel
theorem dX12_passes_78 : decode cX12_passes 78 = .ok (.getfield 39, 3) := by decide +kernel
theorem dX12_passes_81 : decode cX12_passes 81 = .ok (.iconst 1, 1) := by decide +kernel
theorem dX12_passes_82 : decode cX12_passes 82 = .ok (.iaload, 1) := by decide +kernel
theorem dX12_passes_83 : decode cX12_passes 83 = .ok (.iadd, 1) := by decide +kernel
theorem dX12_passes_84 : decode cX12_passes 84 = .ok (.iastore, 1) := by decide +kernel
theorem dX12_passes_85 : decode cX12_passes 85 = .ok (.aload_n 0, 1) := by decide +kernel
theorem dX12_passes_86 : decode cX12_passes 86 = .ok (.getfield 39, 3) := by decide +kernel
theorem dX12_passes_89 : decode cX12_passes 89 = .ok (.bipush 11, 2) := by decide +kernel
theorem dX12_passes_91 : decode cX12_passes 91 = .ok (.iaload, 1) := by decide +kernel
theorem dX12_passes_92 : decode cX12_passes 92 = .ok (.bipush 99, 2) := by decide +kernel
theorem dX12_passes_94 : decode cX12_passes 94 = .ok (.if_icmp .le 12, 3) := by decide +kernel
theorem dX12_passes_97 : decode cX12_passes 97 = .ok (.aload_n 0, 1) := by decide +kernel
theorem dX12_passes_98 : decode cX12_passes 98 = .ok (.getfield 39, 3) := by decide +kernel
theorem dX12_passes_101 : decode cX12_passes 101 = .ok (.bipush 11, 2) := by decide +kernel
theorem dX12_passes_103 : decode cX12_passes 103 = .ok (.bipush 99, 2) := by decide +kernel
theorem dX12_passes_105 : decode cX12_passes 105 = .ok (.iastore, 1) := by decide +kernel
theorem dX12_passes_106 : decode cX12_passes 106 = .ok (.aload_n 0, 1) := by decide +kernel
theorem dX12_passes_107 : decode cX12_passes 107 = .ok (.getfield 39, 3) := by decide +kernel
theorem dX12_passes_110 : decode cX12_passes 110 = .ok (.bipush 10, 2) := by decide +kernel
theorem dX12_passes_112 : decode cX12_passes 112 = .ok (.dup2, 1) := by decide +kernel
theorem dX12_passes_113 : decode cX12_passes 113 = .ok (.iaload, 1) := by decide +kernel
theorem dX12_passes_114 : decode cX12_passes 114 = .ok (.iconst 1, 1) := by decide +kernel
theorem dX12_passes_115 : decode cX12_passes 115 = .ok (.iadd, 1) := by decide +kernel
theorem dX12_passes_116 : decode cX12_passes 116 = .ok (.iastore, 1) := by decide +kernel
theorem dX12_passes_117 : decode cX12_passes 117 = .ok (.iload_n 1, 1) := by decide +kernel
theorem dX12_passes_118 : decode cX12_passes 118 = .ok (.ireturn, 1) := by decide +kernel
theorem dX12_passesAll_0 : decode cX12_passesAll 0 = .ok (.iconst 0, 1) := by decide +kernel
theorem dX12_passesAll_1 : decode cX12_passesAll 1 = .ok (.istore_n 2, 1) := by decide +kernel
theorem dX12_passesAll_2 : decode cX12_passesAll 2 = .ok (.iload_n 2, 1) := by decide +kernel
theorem dX12_passesAll_3 : decode cX12_passesAll 3 = .ok (.iload_n 1, 1) := by decide +kernel
theorem dX12_passesAll_4 : decode cX12_passesAll 4 = .ok (.if_icmp .ge 14, 3) := by decide +kernel
theorem dX12_passesAll_7 : decode cX12_passesAll 7 = .ok (.aload_n 0, 1) := by decide +kernel
theorem dX12_passesAll_8 : decode cX12_passesAll 8 = .ok (.invokevirtual 348, 3) := by decide +kernel
theorem dX12_passesAll_11 : decode cX12_passesAll 11 = .ok (.pop, 1) := by decide +kernel
theorem dX12_passesAll_12 : decode cX12_passesAll 12 = .ok (.iinc 2 1, 3) := by decide +kernel
theorem dX12_passesAll_15 : decode cX12_passesAll 15 = .ok (.goto (-13), 3) := by decide +kernel
theorem dX12_passesAll_18 : decode cX12_passesAll 18 = .ok (.return_, 1) := by decide +kernel
theorem dX12_pop_0 : decode cX12_pop 0 = .ok (.aload_n 0, 1) := by decide +kernel
theorem dX12_pop_1 : decode cX12_pop 1 = .ok (.dup, 1) := by decide +kernel
theorem dX12_pop_2 : decode cX12_pop 2 = .ok (.getfield 268, 3) := by decide +kernel
theorem dX12_pop_5 : decode cX12_pop 5 = .ok (.iconst 1, 1) := by decide +kernel
theorem dX12_pop_6 : decode cX12_pop 6 = .ok (.isub, 1) := by decide +kernel
theorem dX12_pop_7 : decode cX12_pop 7 = .ok (.putfield 268, 3) := by decide +kernel
theorem dX12_pop_10 : decode cX12_pop 10 = .ok (.aload_n 0, 1) := by decide +kernel
theorem dX12_pop_11 : decode cX12_pop 11 = .ok (.getfield 32, 3) := by decide +kernel
theorem dX12_pop_14 : decode cX12_pop 14 = .ok (.aload_n 0, 1) := by decide +kernel
theorem dX12_pop_15 : decode cX12_pop 15 = .ok (.getfield 268, 3) := by decide +kernel
theorem dX12_pop_18 : decode cX12_pop 18 = .ok (.laload, 1) := by decide +kernel
theorem dX12_pop_19 : decode cX12_pop 19 = .ok (.lreturn, 1) := by decide +kernel
theorem dX12_push_0 : decode cX12_push 0 = .ok (.aload_n 0, 1) := by decide +kernel
theorem dX12_push_1 : decode cX12_push 1 = .ok (.getfield 32, 3) := by decide +kernel
theorem dX12_push_4 : decode cX12_push 4 = .ok (.aload_n 0, 1) := by decide +kernel
theorem dX12_push_5 : decode cX12_push 5 = .ok (.getfield 268, 3) := by decide +kernel
theorem dX12_push_8 : decode cX12_push 8 = .ok (.lload_n 1, 1) := by decide +kernel
theorem dX12_push_9 : decode cX12_push 9 = .ok (.lastore, 1) := by decide +kernel
theorem dX12_push_10 : decode cX12_push 10 = .ok (.aload_n 0, 1) := by decide +kernel
theorem dX12_push_11 : decode cX12_push 11 = .ok (.dup, 1) := by decide +kernel
theorem dX12_push_12 : decode cX12_push 12 = .ok (.getfield 268, 3) := by decide +kernel
theorem dX12_push_15 : decode cX12_push 15 = .ok (.iconst 1, 1) := by decide +kernel
theorem dX12_push_16 : decode cX12_push 16 = .ok (.iadd, 1) := by decide +kernel
theorem dX12_push_17 : decode cX12_push 17 = .ok (.putfield 268, 3) := by decide +kernel
theorem dX12_push_20 : decode cX12_push 20 = .ok (.return_, 1) := by decide +kernel
theorem dX12_reckons_0 : decode cX12_reckons 0 = .ok (.aload_n 0, 1) := by decide +kernel
theorem dX12_reckons_1 : decode cX12_reckons 1 = .ok (.iconst 0, 1) := by decide +kernel
theorem dX12_reckons_2 : decode cX12_reckons 2 = .ok (.putfield 268, 3) := by decide +kernel
theorem dX12_reckons_5 : decode cX12_reckons 5 = .ok (.iload_n 2, 1) := by decide +kernel
theorem dX12_reckons_6 : decode cX12_reckons 6 = .ok (.istore 4, 2) := by decide +kernel
theorem dX12_reckons_8 : decode cX12_reckons 8 = .ok (.iload 4, 2) := by decide +kernel
theorem dX12_reckons_10 : decode cX12_reckons 10 = .ok (.iload_n 3, 1) := by decide +kernel
theorem dX12_reckons_11 : decode cX12_reckons 11 = .ok (.if_icmp .ge 124, 3) := by decide +kernel
theorem dX12_reckons_14 : decode cX12_reckons 14 = .ok (.aload_n 0, 1) := by decide +kernel
theorem dX12_reckons_15 : decode cX12_reckons 15 = .ok (.getfield 13, 3) := by decide +kernel
theorem dX12_reckons_18 : decode cX12_reckons 18 = .ok (.sipush 400, 3) := by decide +kernel
theorem dX12_reckons_21 : decode cX12_reckons 21 = .ok (.iload_n 1, 1) := by decide +kernel
theorem dX12_reckons_22 : decode cX12_reckons 22 = .ok (.imul, 1) := by decide +kernel
theorem dX12_reckons_23 : decode cX12_reckons 23 = .ok (.iload 4, 2) := by decide +kernel
theorem dX12_reckons_25 : decode cX12_reckons 25 = .ok (.iadd, 1) := by decide +kernel
theorem dX12_reckons_26 : decode cX12_reckons 26 = .ok (.iaload, 1) := by decide +kernel
theorem dX12_reckons_27 : decode cX12_reckons 27 = .ok (.bipush 15, 2) := by decide +kernel
theorem dX12_reckons_29 : decode cX12_reckons 29 = .ok (.iand, 1) := by decide +kernel
theorem dX12_reckons_30 : decode cX12_reckons 30 = .ok (.istore 5, 2) := by decide +kernel
theorem dX12_reckons_32 : decode cX12_reckons 32 = .ok (.aload_n 0, 1) := by decide +kernel
theorem dX12_reckons_33 : decode cX12_reckons 33 = .ok (.getfield 13, 3) := by decide +kernel
theorem dX12_reckons_36 : decode cX12_reckons 36 = .ok (.sipush 400, 3) := by decide +kernel
theorem dX12_reckons_39 : decode cX12_reckons 39 = .ok (.iload_n 1, 1) := by decide +kernel
theorem dX12_reckons_40 : decode cX12_reckons 40 = .ok (.imul, 1) := by decide +kernel
theorem dX12_reckons_41 : decode cX12_reckons 41 = .ok (.iload 4, 2) := by decide +kernel
theorem dX12_reckons_43 : decode cX12_reckons 43 = .ok (.iadd, 1) := by decide +kernel
theorem dX12_reckons_44 : decode cX12_reckons 44 = .ok (.iaload, 1) := by decide +kernel
theorem dX12_reckons_45 : decode cX12_reckons 45 = .ok (.iconst 4, 1) := by decide +kernel
theorem dX12_reckons_46 : decode cX12_reckons 46 = .ok (.ishr, 1) := by decide +kernel
theorem dX12_reckons_47 : decode cX12_reckons 47 = .ok (.istore 6, 2) := by decide +kernel
theorem dX12_reckons_49 : decode cX12_reckons 49 = .ok (.iload 5, 2) := by decide +kernel
theorem dX12_reckons_51 : decode cX12_reckons 51 = .ok (.ifCond .ne 13, 3) := by decide +kernel
theorem dX12_reckons_54 : decode cX12_reckons 54 = .ok (.aload_n 0, 1) := by decide +kernel
theorem dX12_reckons_55 : decode cX12_reckons 55 = .ok (.iload 6, 2) := by decide +kernel
theorem dX12_reckons_57 : decode cX12_reckons 57 = .ok (.i2l, 1) := by decide +kernel
theorem dX12_reckons_58 : decode cX12_reckons 58 = .ok (.invokevirtual 271, 3) := by decide +kernel
theorem dX12_reckons_61 : decode cX12_reckons 61 = .ok (.goto 68, 3) := by decide +kernel
theorem dX12_reckons_64 : decode cX12_reckons 64 = .ok (.iload 5, 2) := by decide +kernel
theorem dX12_reckons_66 : decode cX12_reckons 66 = .ok (.iconst 1, 1) := by decide +kernel
theorem dX12_reckons_67 : decode cX12_reckons 67 = .ok (.if_icmp .ne 17, 3) := by decide +kernel
theorem dX12_reckons_70 : decode cX12_reckons 70 = .ok (.aload_n 0, 1) := by decide +kernel
theorem dX12_reckons_71 : decode cX12_reckons 71 = .ok (.aload_n 0, 1) := by decide +kernel
theorem dX12_reckons_72 : decode cX12_reckons 72 = .ok (.getfield 36, 3) := by decide +kernel
theorem dX12_reckons_75 : decode cX12_reckons 75 = .ok (.iload 6, 2) := by decide +kernel
theorem dX12_reckons_77 : decode cX12_reckons 77 = .ok (.laload, 1) := by decide +kernel
theorem dX12_reckons_78 : decode cX12_reckons 78 = .ok (.invokevirtual 271, 3) := by decide +kernel
theorem dX12_reckons_81 : decode cX12_reckons 81 = .ok (.goto 48, 3) := by decide +kernel
theorem dX12_reckons_84 : decode cX12_reckons 84 = .ok (.iload 5, 2) := by decide +kernel
theorem dX12_reckons_86 : decode cX12_reckons 86 = .ok (.bipush 11, 2) := by decide +kernel
theorem dX12_reckons_88 : decode cX12_reckons 88 = .ok (.if_icmp .ne 16, 3) := by decide +kernel
theorem dX12_reckons_91 : decode cX12_reckons 91 = .ok (.aload_n 0, 1) := by decide +kernel
theorem dX12_reckons_92 : decode cX12_reckons 92 = .ok (.lconst 1, 1) := by decide +kernel
theorem dX12_reckons_93 : decode cX12_reckons 93 = .ok (.aload_n 0, 1) := by decide +kernel
theorem dX12_reckons_94 : decode cX12_reckons 94 = .ok (.invokevirtual 275, 3) := by decide +kernel
theorem dX12_reckons_97 : decode cX12_reckons 97 = .ok (.lsub, 1) := by decide +kernel
theorem dX12_reckons_98 : decode cX12_reckons 98 = .ok (.invokevirtual 271, 3) := by decide +kernel
theorem dX12_reckons_101 : decode cX12_reckons 101 = .ok (.goto 28, 3) := by decide +kernel
theorem dX12_reckons_104 : decode cX12_reckons 104 = .ok (.aload_n 0, 1) := by decide +kernel
theorem dX12_reckons_105 : decode cX12_reckons 105 = .ok (.invokevirtual 275, 3) := by decide +kernel
theorem dX12_reckons_108 : decode cX12_reckons 108 = .ok (.lstore 7, 2) := by decide +kernel
theorem dX12_reckons_110 : decode cX12_reckons 110 = .ok (.aload_n 0, 1) := by decide +kernel
theorem dX12_reckons_111 : decode cX12_reckons 111 = .ok (.invokevirtual 275, 3) := by decide +kernel
theorem dX12_reckons_114 : decode cX12_reckons 114 = .ok (.lstore 9, 2) := by decide +kernel
theorem dX12_reckons_116 : decode cX12_reckons 116 = .ok (.aload_n 0, 1) := by decide +kernel
theorem dX12_reckons_117 : decode cX12_reckons 117 = .ok (.iload 5, 2) := by decide +kernel
theorem dX12_reckons_119 : decode cX12_reckons 119 = .ok (.lload 9, 2) := by decide +kernel
theorem dX12_reckons_121 : decode cX12_reckons 121 = .ok (.lload 7, 2) := by decide +kernel
theorem dX12_reckons_123 : decode cX12_reckons 123 = .ok (.invokestatic 279, 3) := by decide +kernel
theorem dX12_reckons_126 : decode cX12_reckons 126 = .ok (.invokevirtual 271, 3) := by decide +kernel
theorem dX12_reckons_129 : decode cX12_reckons 129 = .ok (.iinc 4 1, 3) := by decide +kernel
theorem dX12_reckons_132 : decode cX12_reckons 132 = .ok (.goto (-124), 3) := by decide +kernel
theorem dX12_reckons_135 : decode cX12_reckons 135 = .ok (.aload_n 0, 1) := by decide +kernel
theorem dX12_reckons_136 : decode cX12_reckons 136 = .ok (.invokevirtual 275, 3) := by decide +kernel
theorem dX12_reckons_139 : decode cX12_reckons 139 = .ok (.lreturn, 1) := by decide +kernel
theorem dX12_sinceOf_0 : decode cX12_sinceOf 0 = .ok (.aload_n 0, 1) := by decide +kernel
theorem dX12_sinceOf_1 : decode cX12_sinceOf 1 = .ok (.getfield 39, 3) := by decide +kernel
theorem dX12_sinceOf_4 : decode cX12_sinceOf 4 = .ok (.bipush 10, 2) := by decide +kernel
theorem dX12_sinceOf_6 : decode cX12_sinceOf 6 = .ok (.iaload, 1) := by decide +kernel
theorem dX12_sinceOf_7 : decode cX12_sinceOf 7 = .ok (.aload_n 0, 1) := by decide +kernel
theorem dX12_sinceOf_8 : decode cX12_sinceOf 8 = .ok (.iload_n 1, 1) := by decide +kernel
theorem dX12_sinceOf_9 : decode cX12_sinceOf 9 = .ok (.invokevirtual 286, 3) := by decide +kernel
theorem dX12_sinceOf_12 : decode cX12_sinceOf 12 = .ok (.isub, 1) := by decide +kernel
theorem dX12_sinceOf_13 : decode cX12_sinceOf 13 = .ok (.istore_n 2, 1) := by decide +kernel
theorem dX12_sinceOf_14 : decode cX12_sinceOf 14 = .ok (.aload_n 0, 1) := by decide +kernel
theorem dX12_sinceOf_15 : decode cX12_sinceOf 15 = .ok (.iload_n 1, 1) := by decide +kernel
theorem dX12_sinceOf_16 : decode cX12_sinceOf 16 = .ok (.invokevirtual 286, 3) := by decide +kernel
theorem dX12_sinceOf_19 : decode cX12_sinceOf 19 = .ok (.ifCond .lt 9, 3) := by decide +kernel
theorem dX12_sinceOf_22 : decode cX12_sinceOf 22 = .ok (.iload_n 2, 1) := by decide +kernel
theorem dX12_sinceOf_23 : decode cX12_sinceOf 23 = .ok (.bipush 99, 2) := by decide +kernel
theorem dX12_sinceOf_25 : decode cX12_sinceOf 25 = .ok (.if_icmp .le 8, 3) := by decide +kernel
theorem dX12_sinceOf_28 : decode cX12_sinceOf 28 = .ok (.bipush 99, 2) := by decide +kernel
theorem dX12_sinceOf_30 : decode cX12_sinceOf 30 = .ok (.goto 4, 3) := by decide +kernel
theorem dX12_sinceOf_33 : decode cX12_sinceOf 33 = .ok (.iload_n 2, 1) := by decide +kernel
theorem dX12_sinceOf_34 : decode cX12_sinceOf 34 = .ok (.ireturn, 1) := by decide +kernel
theorem dX12_soldAll_0 : decode cX12_soldAll 0 = .ok (.iconst 0, 1) := by decide +kernel
theorem dX12_soldAll_1 : decode cX12_soldAll 1 = .ok (.istore_n 1, 1) := by decide +kernel
theorem dX12_soldAll_2 : decode cX12_soldAll 2 = .ok (.iconst 0, 1) := by decide +kernel
theorem dX12_soldAll_3 : decode cX12_soldAll 3 = .ok (.istore_n 2, 1) := by decide +kernel
theorem dX12_soldAll_4 : decode cX12_soldAll 4 = .ok (.iload_n 2, 1) := by decide +kernel
theorem dX12_soldAll_5 : decode cX12_soldAll 5 = .ok (.aload_n 0, 1) := by decide +kernel
theorem dX12_soldAll_6 : decode cX12_soldAll 6 = .ok (.getfield 39, 3) := by decide +kernel
theorem dX12_soldAll_9 : decode cX12_soldAll 9 = .ok (.iconst 3, 1) := by decide +kernel
theorem dX12_soldAll_10 : decode cX12_soldAll 10 = .ok (.iaload, 1) := by decide +kernel
theorem dX12_soldAll_11 : decode cX12_soldAll 11 = .ok (.if_icmp .ge 17, 3) := by decide +kernel
theorem dX12_soldAll_14 : decode cX12_soldAll 14 = .ok (.iload_n 1, 1) := by decide +kernel
theorem dX12_soldAll_15 : decode cX12_soldAll 15 = .ok (.aload_n 0, 1) := by decide +kernel
theorem dX12_soldAll_16 : decode cX12_soldAll 16 = .ok (.iload_n 2, 1) := by decide +kernel
theorem dX12_soldAll_17 : decode cX12_soldAll 17 = .ok (.invokevirtual 289, 3) := by decide +kernel
theorem dX12_soldAll_20 : decode cX12_soldAll 20 = .ok (.iadd, 1) := by decide +kernel
theorem dX12_soldAll_21 : decode cX12_soldAll 21 = .ok (.istore_n 1, 1) := by decide +kernel
theorem dX12_soldAll_22 : decode cX12_soldAll 22 = .ok (.iinc 2 1, 3) := by decide +kernel
theorem dX12_soldAll_25 : decode cX12_soldAll 25 = .ok (.goto (-21), 3) := by decide +kernel
theorem dX12_soldAll_28 : decode cX12_soldAll 28 = .ok (.iload_n 1, 1) := by decide +kernel
theorem dX12_soldAll_29 : decode cX12_soldAll 29 = .ok (.ireturn, 1) := by decide +kernel
theorem dX12_summedBy_0 : decode cX12_summedBy 0 = .ok (.iconst 0, 1) := by decide +kernel
theorem dX12_summedBy_1 : decode cX12_summedBy 1 = .ok (.istore_n 2, 1) := by decide +kernel
theorem dX12_summedBy_2 : decode cX12_summedBy 2 = .ok (.iload_n 2, 1) := by decide +kernel
theorem dX12_summedBy_3 : decode cX12_summedBy 3 = .ok (.aload_n 0, 1) := by decide +kernel
theorem dX12_summedBy_4 : decode cX12_summedBy 4 = .ok (.getfield 23, 3) := by decide +kernel
theorem dX12_summedBy_7 : decode cX12_summedBy 7 = .ok (.iload_n 1, 1) := by decide +kernel
theorem dX12_summedBy_8 : decode cX12_summedBy 8 = .ok (.iaload, 1) := by decide +kernel
theorem dX12_summedBy_9 : decode cX12_summedBy 9 = .ok (.if_icmp .ge 75, 3) := by decide +kernel
theorem dX12_summedBy_12 : decode cX12_summedBy 12 = .ok (.bipush 48, 2) := by decide +kernel
theorem dX12_summedBy_14 : decode cX12_summedBy 14 = .ok (.iload_n 1, 1) := by decide +kernel
theorem dX12_summedBy_15 : decode cX12_summedBy 15 = .ok (.imul, 1) := by decide +kernel
theorem dX12_summedBy_16 : decode cX12_summedBy 16 = .ok (.iconst 4, 1) := by decide +kernel
theorem dX12_summedBy_17 : decode cX12_summedBy 17 = .ok (.iload_n 2, 1) := by decide +kernel
theorem dX12_summedBy_18 : decode cX12_summedBy 18 = .ok (.imul, 1) := by decide +kernel
theorem dX12_summedBy_19 : decode cX12_summedBy 19 = .ok (.iadd, 1) := by decide +kernel
theorem dX12_summedBy_20 : decode cX12_summedBy 20 = .ok (.istore_n 3, 1) := by decide +kernel
theorem dX12_summedBy_21 : decode cX12_summedBy 21 = .ok (.aload_n 0, 1) := by decide +kernel
theorem dX12_summedBy_22 : decode cX12_summedBy 22 = .ok (.getfield 20, 3) := by decide +kernel
theorem dX12_summedBy_25 : decode cX12_summedBy 25 = .ok (.iload_n 3, 1) := by decide +kernel
theorem dX12_summedBy_26 : decode cX12_summedBy 26 = .ok (.iconst 2, 1) := by decide +kernel
theorem dX12_summedBy_27 : decode cX12_summedBy 27 = .ok (.iadd, 1) := by decide +kernel
theorem dX12_summedBy_28 : decode cX12_summedBy 28 = .ok (.iaload, 1) := by decide +kernel
theorem dX12_summedBy_29 : decode cX12_summedBy 29 = .ok (.ifCond .lt 29, 3) := by decide +kernel
theorem dX12_summedBy_32 : decode cX12_summedBy 32 = .ok (.aload_n 0, 1) := by decide +kernel
theorem dX12_summedBy_33 : decode cX12_summedBy 33 = .ok (.iload_n 1, 1) := by decide +kernel
theorem dX12_summedBy_34 : decode cX12_summedBy 34 = .ok (.aload_n 0, 1) := by decide +kernel
theorem dX12_summedBy_35 : decode cX12_summedBy 35 = .ok (.getfield 20, 3) := by decide +kernel
theorem dX12_summedBy_38 : decode cX12_summedBy 38 = .ok (.iload_n 3, 1) := by decide +kernel
theorem dX12_summedBy_39 : decode cX12_summedBy 39 = .ok (.iconst 2, 1) := by decide +kernel
theorem dX12_summedBy_40 : decode cX12_summedBy 40 = .ok (.iadd, 1) := by decide +kernel
theorem dX12_summedBy_41 : decode cX12_summedBy 41 = .ok (.iaload, 1) := by decide +kernel
theorem dX12_summedBy_42 : decode cX12_summedBy 42 = .ok (.aload_n 0, 1) := by decide +kernel
theorem dX12_summedBy_43 : decode cX12_summedBy 43 = .ok (.getfield 20, 3) := by decide +kernel
theorem dX12_summedBy_46 : decode cX12_summedBy 46 = .ok (.iload_n 3, 1) := by decide +kernel
theorem dX12_summedBy_47 : decode cX12_summedBy 47 = .ok (.iconst 3, 1) := by decide +kernel
theorem dX12_summedBy_48 : decode cX12_summedBy 48 = .ok (.iadd, 1) := by decide +kernel
theorem dX12_summedBy_49 : decode cX12_summedBy 49 = .ok (.iaload, 1) := by decide +kernel
theorem dX12_summedBy_50 : decode cX12_summedBy 50 = .ok (.invokevirtual 310, 3) := by decide +kernel
theorem dX12_summedBy_53 : decode cX12_summedBy 53 = .ok (.lconst 1, 1) := by decide +kernel
theorem dX12_summedBy_54 : decode cX12_summedBy 54 = .ok (.lcmp, 1) := by decide +kernel
theorem dX12_summedBy_55 : decode cX12_summedBy 55 = .ok (.ifCond .ne 23, 3) := by decide +kernel
theorem dX12_summedBy_58 : decode cX12_summedBy 58 = .ok (.aload_n 0, 1) := by decide +kernel
theorem dX12_summedBy_59 : decode cX12_summedBy 59 = .ok (.iload_n 1, 1) := by decide +kernel
theorem dX12_summedBy_60 : decode cX12_summedBy 60 = .ok (.aload_n 0, 1) := by decide +kernel
theorem dX12_summedBy_61 : decode cX12_summedBy 61 = .ok (.getfield 20, 3) := by decide +kernel
theorem dX12_summedBy_64 : decode cX12_summedBy 64 = .ok (.iload_n 3, 1) := by decide +kernel
theorem dX12_summedBy_65 : decode cX12_summedBy 65 = .ok (.iaload, 1) := by decide +kernel
theorem dX12_summedBy_66 : decode cX12_summedBy 66 = .ok (.aload_n 0, 1) := by decide +kernel
theorem dX12_summedBy_67 : decode cX12_summedBy 67 = .ok (.getfield 20, 3) := by decide +kernel
theorem dX12_summedBy_70 : decode cX12_summedBy 70 = .ok (.iload_n 3, 1) := by decide +kernel
theorem dX12_summedBy_71 : decode cX12_summedBy 71 = .ok (.iconst 1, 1) := by decide +kernel
theorem dX12_summedBy_72 : decode cX12_summedBy 72 = .ok (.iadd, 1) := by decide +kernel
theorem dX12_summedBy_73 : decode cX12_summedBy 73 = .ok (.iaload, 1) := by decide +kernel
theorem dX12_summedBy_74 : decode cX12_summedBy 74 = .ok (.invokevirtual 310, 3) := by decide +kernel
theorem dX12_summedBy_77 : decode cX12_summedBy 77 = .ok (.lreturn, 1) := by decide +kernel
theorem dX12_summedBy_78 : decode cX12_summedBy 78 = .ok (.iinc 2 1, 3) := by decide +kernel
theorem dX12_summedBy_81 : decode cX12_summedBy 81 = .ok (.goto (-79), 3) := by decide +kernel
theorem dX12_summedBy_84 : decode cX12_summedBy 84 = .ok (.lconst 0, 1) := by decide +kernel
theorem dX12_summedBy_85 : decode cX12_summedBy 85 = .ok (.lreturn, 1) := by decide +kernel
theorem dX12_takes_0 : decode cX12_takes 0 = .ok (.bipush 12, 2) := by decide +kernel
theorem dX12_takes_2 : decode cX12_takes 2 = .ok (.iconst 4, 1) := by decide +kernel
theorem dX12_takes_3 : decode cX12_takes 3 = .ok (.iload_n 1, 1) := by decide +kernel
theorem dX12_takes_4 : decode cX12_takes 4 = .ok (.imul, 1) := by decide +kernel
theorem dX12_takes_5 : decode cX12_takes 5 = .ok (.iadd, 1) := by decide +kernel
theorem dX12_takes_6 : decode cX12_takes 6 = .ok (.istore_n 2, 1) := by decide +kernel
theorem dX12_takes_7 : decode cX12_takes 7 = .ok (.aload_n 0, 1) := by decide +kernel
theorem dX12_takes_8 : decode cX12_takes 8 = .ok (.getfield 39, 3) := by decide +kernel
theorem dX12_takes_11 : decode cX12_takes 11 = .ok (.bipush 11, 2) := by decide +kernel
theorem dX12_takes_13 : decode cX12_takes 13 = .ok (.dup2, 1) := by decide +kernel
theorem dX12_takes_14 : decode cX12_takes 14 = .ok (.iaload, 1) := by decide +kernel
theorem dX12_takes_15 : decode cX12_takes 15 = .ok (.aload_n 0, 1) := by decide +kernel
theorem dX12_takes_16 : decode cX12_takes 16 = .ok (.getfield 39, 3) := by decide +kernel
theorem dX12_takes_19 : decode cX12_takes 19 = .ok (.bipush 56, 2) := by decide +kernel
theorem dX12_takes_21 : decode cX12_takes 21 = .ok (.iload_n 1, 1) := by decide +kernel
theorem dX12_takes_22 : decode cX12_takes 22 = .ok (.iadd, 1) := by decide +kernel
theorem dX12_takes_23 : decode cX12_takes 23 = .ok (.iaload, 1) := by decide +kernel
theorem dX12_takes_24 : decode cX12_takes 24 = .ok (.isub, 1) := by decide +kernel
theorem dX12_takes_25 : decode cX12_takes 25 = .ok (.iastore, 1) := by decide +kernel
theorem dX12_takes_26 : decode cX12_takes 26 = .ok (.aload_n 0, 1) := by decide +kernel
theorem dX12_takes_27 : decode cX12_takes 27 = .ok (.getfield 39, 3) := by decide +kernel
theorem dX12_takes_30 : decode cX12_takes 30 = .ok (.iload_n 2, 1) := by decide +kernel
theorem dX12_takes_31 : decode cX12_takes 31 = .ok (.aload_n 0, 1) := by decide +kernel
theorem dX12_takes_32 : decode cX12_takes 32 = .ok (.getfield 39, 3) := by decide +kernel
theorem dX12_takes_35 : decode cX12_takes 35 = .ok (.iload_n 2, 1) := by decide +kernel
theorem dX12_takes_36 : decode cX12_takes 36 = .ok (.iaload, 1) := by decide +kernel
theorem dX12_takes_37 : decode cX12_takes 37 = .ok (.bipush 6, 2) := by decide +kernel
theorem dX12_takes_39 : decode cX12_takes 39 = .ok (.if_icmp .le 15, 3) := by decide +kernel
theorem dX12_takes_42 : decode cX12_takes 42 = .ok (.aload_n 0, 1) := by decide +kernel
theorem dX12_takes_43 : decode cX12_takes 43 = .ok (.getfield 39, 3) := by decide +kernel
theorem dX12_takes_46 : decode cX12_takes 46 = .ok (.iload_n 2, 1) := by decide +kernel
theorem dX12_takes_47 : decode cX12_takes 47 = .ok (.iaload, 1) := by decide +kernel
theorem dX12_takes_48 : decode cX12_takes 48 = .ok (.bipush 6, 2) := by decide +kernel
theorem dX12_takes_50 : decode cX12_takes 50 = .ok (.isub, 1) := by decide +kernel
theorem dX12_takes_51 : decode cX12_takes 51 = .ok (.goto 4, 3) := by decide +kernel
theorem dX12_takes_54 : decode cX12_takes 54 = .ok (.iconst 0, 1) := by decide +kernel
theorem dX12_takes_55 : decode cX12_takes 55 = .ok (.iastore, 1) := by decide +kernel
theorem dX12_takes_56 : decode cX12_takes 56 = .ok (.aload_n 0, 1) := by decide +kernel
theorem dX12_takes_57 : decode cX12_takes 57 = .ok (.getfield 39, 3) := by decide +kernel
theorem dX12_takes_60 : decode cX12_takes 60 = .ok (.iload_n 2, 1) := by decide +kernel
theorem dX12_takes_61 : decode cX12_takes 61 = .ok (.iconst 1, 1) := by decide +kernel
theorem dX12_takes_62 : decode cX12_takes 62 = .ok (.iadd, 1) := by decide +kernel
theorem dX12_takes_63 : decode cX12_takes 63 = .ok (.dup2, 1) := by decide +kernel
theorem dX12_takes_64 : decode cX12_takes 64 = .ok (.iaload, 1) := by decide +kernel
theorem dX12_takes_65 : decode cX12_takes 65 = .ok (.aload_n 0, 1) := by decide +kernel
theorem dX12_takes_66 : decode cX12_takes 66 = .ok (.getfield 39, 3) := by decide +kernel
theorem dX12_takes_69 : decode cX12_takes 69 = .ok (.bipush 56, 2) := by decide +kernel
theorem dX12_takes_71 : decode cX12_takes 71 = .ok (.iload_n 1, 1) := by decide +kernel
theorem dX12_takes_72 : decode cX12_takes 72 = .ok (.iadd, 1) := by decide +kernel
theorem dX12_takes_73 : decode cX12_takes 73 = .ok (.iaload, 1) := by decide +kernel
theorem dX12_takes_74 : decode cX12_takes 74 = .ok (.iadd, 1) := by decide +kernel
theorem dX12_takes_75 : decode cX12_takes 75 = .ok (.iastore, 1) := by decide +kernel
theorem dX12_takes_76 : decode cX12_takes 76 = .ok (.aload_n 0, 1) := by decide +kernel
theorem dX12_takes_77 : decode cX12_takes 77 = .ok (.getfield 39, 3) := by decide +kernel
theorem dX12_takes_80 : decode cX12_takes 80 = .ok (.iload_n 2, 1) := by decide +kernel
theorem dX12_takes_81 : decode cX12_takes 81 = .ok (.iconst 3, 1) := by decide +kernel
theorem dX12_takes_82 : decode cX12_takes 82 = .ok (.iadd, 1) := by decide +kernel
theorem dX12_takes_83 : decode cX12_takes 83 = .ok (.aload_n 0, 1) := by decide +kernel
theorem dX12_takes_84 : decode cX12_takes 84 = .ok (.getfield 39, 3) := by decide +kernel
theorem dX12_takes_87 : decode cX12_takes 87 = .ok (.bipush 10, 2) := by decide +kernel
theorem dX12_takes_89 : decode cX12_takes 89 = .ok (.iaload, 1) := by decide +kernel
theorem dX12_takes_90 : decode cX12_takes 90 = .ok (.iastore, 1) := by decide +kernel
theorem dX12_takes_91 : decode cX12_takes 91 = .ok (.return_, 1) := by decide +kernel
theorem dX12_temperOf_0 : decode cX12_temperOf 0 = .ok (.aload_n 0, 1) := by decide +kernel
theorem dX12_temperOf_1 : decode cX12_temperOf 1 = .ok (.getfield 39, 3) := by decide +kernel
theorem dX12_temperOf_4 : decode cX12_temperOf 4 = .ok (.bipush 12, 2) := by decide +kernel
theorem dX12_temperOf_6 : decode cX12_temperOf 6 = .ok (.iconst 4, 1) := by decide +kernel
theorem dX12_temperOf_7 : decode cX12_temperOf 7 = .ok (.iload_n 1, 1) := by decide +kernel
theorem dX12_temperOf_8 : decode cX12_temperOf 8 = .ok (.imul, 1) := by decide +kernel
theorem dX12_temperOf_9 : decode cX12_temperOf 9 = .ok (.iadd, 1) := by decide +kernel
theorem dX12_temperOf_10 : decode cX12_temperOf 10 = .ok (.iaload, 1) := by decide +kernel
theorem dX12_temperOf_11 : decode cX12_temperOf 11 = .ok (.ireturn, 1) := by decide +kernel
theorem dX12_weathers_0 : decode cX12_weathers 0 = .ok (.aload_n 0, 1) := by decide +kernel
theorem dX12_weathers_1 : decode cX12_weathers 1 = .ok (.getfield 39, 3) := by decide +kernel
theorem dX12_weathers_4 : decode cX12_weathers 4 = .ok (.bipush 36, 2) := by decide +kernel
theorem dX12_weathers_6 : decode cX12_weathers 6 = .ok (.aload_n 0, 1) := by decide +kernel
theorem dX12_weathers_7 : decode cX12_weathers 7 = .ok (.invokevirtual 314, 3) := by decide +kernel
theorem dX12_weathers_10 : decode cX12_weathers 10 = .ok (.iadd, 1) := by decide +kernel
theorem dX12_weathers_11 : decode cX12_weathers 11 = .ok (.iaload, 1) := by decide +kernel
theorem dX12_weathers_12 : decode cX12_weathers 12 = .ok (.istore_n 1, 1) := by decide +kernel
theorem dX12_weathers_13 : decode cX12_weathers 13 = .ok (.iconst 0, 1) := by decide +kernel
theorem dX12_weathers_14 : decode cX12_weathers 14 = .ok (.istore_n 2, 1) := by decide +kernel
theorem dX12_weathers_15 : decode cX12_weathers 15 = .ok (.iload_n 2, 1) := by decide +kernel
theorem dX12_weathers_16 : decode cX12_weathers 16 = .ok (.aload_n 0, 1) := by decide +kernel
theorem dX12_weathers_17 : decode cX12_weathers 17 = .ok (.getfield 39, 3) := by decide +kernel
theorem dX12_weathers_20 : decode cX12_weathers 20 = .ok (.iconst 3, 1) := by decide +kernel
theorem dX12_weathers_21 : decode cX12_weathers 21 = .ok (.iaload, 1) := by decide +kernel
theorem dX12_weathers_22 : decode cX12_weathers 22 = .ok (.if_icmp .ge 77, 3) := by decide +kernel
theorem dX12_weathers_25 : decode cX12_weathers 25 = .ok (.bipush 12, 2) := by decide +kernel
theorem dX12_weathers_27 : decode cX12_weathers 27 = .ok (.iconst 4, 1) := by decide +kernel
theorem dX12_weathers_28 : decode cX12_weathers 28 = .ok (.iload_n 2, 1) := by decide +kernel
theorem dX12_weathers_29 : decode cX12_weathers 29 = .ok (.imul, 1) := by decide +kernel
theorem dX12_weathers_30 : decode cX12_weathers 30 = .ok (.iadd, 1) := by decide +kernel
theorem dX12_weathers_31 : decode cX12_weathers 31 = .ok (.istore_n 3, 1) := by decide +kernel
theorem dX12_weathers_32 : decode cX12_weathers 32 = .ok (.iload_n 1, 1) := by decide +kernel
theorem dX12_weathers_33 : decode cX12_weathers 33 = .ok (.iconst 5, 1) := by decide +kernel
theorem dX12_weathers_34 : decode cX12_weathers 34 = .ok (.if_icmp .lt 31, 3) := by decide +kernel
theorem dX12_weathers_37 : decode cX12_weathers 37 = .ok (.aload_n 0, 1) := by decide +kernel
theorem dX12_weathers_38 : decode cX12_weathers 38 = .ok (.getfield 39, 3) := by decide +kernel
theorem dX12_weathers_41 : decode cX12_weathers 41 = .ok (.iload_n 3, 1) := by decide +kernel
theorem dX12_weathers_42 : decode cX12_weathers 42 = .ok (.dup2, 1) := by decide +kernel
theorem dX12_weathers_43 : decode cX12_weathers 43 = .ok (.iaload, 1) := by decide +kernel
theorem dX12_weathers_44 : decode cX12_weathers 44 = .ok (.aload_n 0, 1) := by decide +kernel
theorem dX12_weathers_45 : decode cX12_weathers 45 = .ok (.getfield 39, 3) := by decide +kernel
theorem dX12_weathers_48 : decode cX12_weathers 48 = .ok (.iload_n 3, 1) := by decide +kernel
theorem dX12_weathers_49 : decode cX12_weathers 49 = .ok (.iaload, 1) := by decide +kernel
theorem dX12_weathers_50 : decode cX12_weathers 50 = .ok (.bipush 20, 2) := by decide +kernel
theorem dX12_weathers_52 : decode cX12_weathers 52 = .ok (.if_icmp .ge 7, 3) := by decide +kernel
theorem dX12_weathers_55 : decode cX12_weathers 55 = .ok (.iconst 1, 1) := by decide +kernel
theorem dX12_weathers_56 : decode cX12_weathers 56 = .ok (.goto 4, 3) := by decide +kernel
theorem dX12_weathers_59 : decode cX12_weathers 59 = .ok (.iconst 0, 1) := by decide +kernel
theorem dX12_weathers_60 : decode cX12_weathers 60 = .ok (.iadd, 1) := by decide +kernel
theorem dX12_weathers_61 : decode cX12_weathers 61 = .ok (.iastore, 1) := by decide +kernel
theorem dX12_weathers_62 : decode cX12_weathers 62 = .ok (.goto 31, 3) := by decide +kernel
theorem dX12_weathers_65 : decode cX12_weathers 65 = .ok (.iload_n 1, 1) := by decide +kernel
theorem dX12_weathers_66 : decode cX12_weathers 66 = .ok (.iconst 2, 1) := by decide +kernel
theorem dX12_weathers_67 : decode cX12_weathers 67 = .ok (.if_icmp .gt 26, 3) := by decide +kernel
theorem dX12_weathers_70 : decode cX12_weathers 70 = .ok (.aload_n 0, 1) := by decide +kernel
theorem dX12_weathers_71 : decode cX12_weathers 71 = .ok (.getfield 39, 3) := by decide +kernel
theorem dX12_weathers_74 : decode cX12_weathers 74 = .ok (.iload_n 3, 1) := by decide +kernel
theorem dX12_weathers_75 : decode cX12_weathers 75 = .ok (.dup2, 1) := by decide +kernel
theorem dX12_weathers_76 : decode cX12_weathers 76 = .ok (.iaload, 1) := by decide +kernel
theorem dX12_weathers_77 : decode cX12_weathers 77 = .ok (.aload_n 0, 1) := by decide +kernel
theorem dX12_weathers_78 : decode cX12_weathers 78 = .ok (.getfield 39, 3) := by decide +kernel
theorem dX12_weathers_81 : decode cX12_weathers 81 = .ok (.iload_n 3, 1) := by decide +kernel
theorem dX12_weathers_82 : decode cX12_weathers 82 = .ok (.iaload, 1) := by decide +kernel
theorem dX12_weathers_83 : decode cX12_weathers 83 = .ok (.ifCond .le 7, 3) := by decide +kernel
theorem dX12_weathers_86 : decode cX12_weathers 86 = .ok (.iconst 1, 1) := by decide +kernel
theorem dX12_weathers_87 : decode cX12_weathers 87 = .ok (.goto 4, 3) := by decide +kernel
theorem dX12_weathers_90 : decode cX12_weathers 90 = .ok (.iconst 0, 1) := by decide +kernel
theorem dX12_weathers_91 : decode cX12_weathers 91 = .ok (.isub, 1) := by decide +kernel
theorem dX12_weathers_92 : decode cX12_weathers 92 = .ok (.iastore, 1) := by decide +kernel
theorem dX12_weathers_93 : decode cX12_weathers 93 = .ok (.iinc 2 1, 3) := by decide +kernel
theorem dX12_weathers_96 : decode cX12_weathers 96 = .ok (.goto (-81), 3) := by decide +kernel
theorem dX12_weathers_99 : decode cX12_weathers 99 = .ok (.return_, 1) := by decide +kernel
set_option maxHeartbeats 4000000 in
set_option maxRecDepth 100000 in
theorem ct_X12_in (l : Launch) (D : va_G) (tc : Nat → ClassId) (sk : (Nat → Nat) × (Nat → Nat)) (w1 : Int64) (w2 : Int64) (w3 : Int64)  : Ct l yX12_in cX12_in 6 (some .boolean) { frames := 0, cells := 0, slots := 0, locals := 0 } D tc sk [.long w1, .long w2, .long w3] [] (fun (v : Option Value) (_ : Unit) => ∃ r : Int32, v = some (.int r) ∧ ((r.toInt = 0 ∨ (r.toInt = 1 ∧ w2.toInt ≤ w1.toInt ∧ w1.toInt ≤ w3.toInt)))) (fun (_ : Unit) => []) 0 0 := by
  refine Ct.start (by decide) (Nat.le_of_ble_eq_true rfl) (fun p e s m below meth c A ls hx hb hr hlk hin hml hown hts hK hX hP hD hA hl hS => ?_)
  have hl : lv_has ls 6 [(0, .long w1), (2, .long w2), (4, .long w3)] := hl
  refine lv_lload_n hx hb dX12_in_0 rfl (lv_at hl 0 rfl) ?_
  refine lv_lload_n hx hb dX12_in_1 rfl (lv_at hl 1 rfl) ?_
  refine W.lcmp hx hb dX12_in_2 ?_
  refine lv_topi (fun x_1 ex_1 => ?_)
  refine lv_if_lt (tgt := 17) hx hb dX12_in_3 (by decide) (fun c_2 => ?_) (fun c_2 => ?_)
  · skip
    have lz_3 : (w1 : Int64).toInt < (w2 : Int64).toInt := by have hc := c_2; rw [ex_1] at hc; exact Int64.lt_iff_toInt_lt.mp ((lg_cmp_lt _ _).mp hc)
    refine lv_iconst (v := 0) hx hb dX12_in_17 (by decide) ?_
    have hp_4 : ((0 : Int32).toInt = 0 ∨ ((0 : Int32).toInt = 1 ∧ w2.toInt ≤ w1.toInt ∧ w1.toInt ≤ w3.toInt)) := by
      have z_1 := Int32.lt_iff_toInt_lt.mp c_2
      have y_0 : (0 : Int32).toInt = 0 := by decide
      omega
    exact retI (v := 0) hx hb hr hlk (rfl) hP hD hS () ⟨_, rfl, hp_4⟩ [] rfl rfl dX12_in_18 (Nat.le_of_ble_eq_true rfl) (Nat.le_of_ble_eq_true rfl) rfl
  · skip
    have lz_5 : (w2 : Int64).toInt ≤ (w1 : Int64).toInt := by have hc := c_2; rw [ex_1] at hc; exact Int64.le_iff_toInt_le.mp (Int64.not_lt.mp (fun z => hc ((lg_cmp_lt _ _).mpr z)))
    refine lv_lload_n hx hb dX12_in_6 rfl (lv_at hl 0 rfl) ?_
    refine lv_lload hx hb dX12_in_7 (lv_at hl 2 rfl) ?_
    refine W.lcmp hx hb dX12_in_9 ?_
    refine lv_topi (fun x_6 ex_6 => ?_)
    refine lv_if_gt (tgt := 17) hx hb dX12_in_10 (by decide) (fun c_7 => ?_) (fun c_7 => ?_)
    · skip
      have lz_8 : (w3 : Int64).toInt < (w1 : Int64).toInt := by have hc := c_7; rw [ex_6] at hc; exact Int64.lt_iff_toInt_lt.mp ((lg_cmp_gt _ _).mp hc)
      refine lv_iconst (v := 0) hx hb dX12_in_17 (by decide) ?_
      have hp_9 : ((0 : Int32).toInt = 0 ∨ ((0 : Int32).toInt = 1 ∧ w2.toInt ≤ w1.toInt ∧ w1.toInt ≤ w3.toInt)) := by
        have z_1 := Int32.le_iff_toInt_le.mp (Int32.not_lt.mp c_2)
        have z_2 := Int32.lt_iff_toInt_lt.mp c_7
        have y_0 : (0 : Int32).toInt = 0 := by decide
        omega
      exact retI (v := 0) hx hb hr hlk (rfl) hP hD hS () ⟨_, rfl, hp_9⟩ [] rfl rfl dX12_in_18 (Nat.le_of_ble_eq_true rfl) (Nat.le_of_ble_eq_true rfl) rfl
    · skip
      have lz_10 : (w1 : Int64).toInt ≤ (w3 : Int64).toInt := by have hc := c_7; rw [ex_6] at hc; exact Int64.le_iff_toInt_le.mp (Int64.not_lt.mp (fun z => hc ((lg_cmp_gt _ _).mpr z)))
      refine lv_iconst (v := 1) hx hb dX12_in_13 (by decide) ?_
      refine lv_goto (tgt := 18) hx hb dX12_in_14 (by decide) ?_
      have hp_11 : ((1 : Int32).toInt = 0 ∨ ((1 : Int32).toInt = 1 ∧ w2.toInt ≤ w1.toInt ∧ w1.toInt ≤ w3.toInt)) := by
        have z_1 := Int32.le_iff_toInt_le.mp (Int32.not_lt.mp c_2)
        have z_2 := Int32.le_iff_toInt_le.mp (Int32.not_lt.mp c_7)
        have y_0 : (0 : Int32).toInt = 0 := by decide
        have y_1 : (1 : Int32).toInt = 1 := by decide
        have yr : (1 : Int32).toInt = 1 := by decide
        omega
      exact retI (v := 1) hx hb hr hlk (rfl) hP hD hS () ⟨_, rfl, hp_11⟩ [] rfl rfl dX12_in_18 (Nat.le_of_ble_eq_true rfl) (Nat.le_of_ble_eq_true rfl) rfl
set_option maxHeartbeats 4000000 in
set_option maxRecDepth 100000 in
theorem ct_X12_isOf (l : Launch) (D : va_G) (tc : Nat → ClassId) (sk : (Nat → Nat) × (Nat → Nat)) (x1 : Int32) (x2 : Int32)  : Ct l yX12_isOf cX12_isOf 2 (some .boolean) { frames := 0, cells := 0, slots := 0, locals := 0 } D tc sk [.int x1, .int x2] [] (fun (v : Option Value) (_ : Unit) => ∃ r : Int32, v = some (.int r) ∧ ((r.toInt = 0 ∨ r.toInt = 1))) (fun (_ : Unit) => []) 0 0 := by
  refine Ct.start (by decide) (Nat.le_of_ble_eq_true rfl) (fun p e s m below meth c A ls hx hb hr hlk hin hml hown hts hK hX hP hD hA hl hS => ?_)
  have hl : lv_has ls 2 [(0, .int x1), (1, .int x2)] := hl
  refine lv_iload_n hx hb dX12_isOf_0 rfl (lv_at hl 0 rfl) ?_
  refine lv_iload_n hx hb dX12_isOf_1 rfl (lv_at hl 1 rfl) ?_
  refine lv_ishr hx hb dX12_isOf_2 ?_
  refine lv_topi (fun x_1 ex_1 => ?_)
  refine lv_iconst (v := 1) hx hb dX12_isOf_3 (by decide) ?_
  refine lv_iand hx hb dX12_isOf_4 ?_
  refine lv_topi (fun x_2 ex_2 => ?_)
  refine lv_iconst (v := 1) hx hb dX12_isOf_5 (by decide) ?_
  refine lv_icmp_ne (tgt := 13) hx hb dX12_isOf_6 (by decide) (fun c_3 => ?_) (fun c_3 => ?_)
  · skip
    refine lv_iconst (v := 0) hx hb dX12_isOf_13 (by decide) ?_
    have hp_4 : ((0 : Int32).toInt = 0 ∨ (0 : Int32).toInt = 1) := by
      have z_1 : ¬ (x_2 : Int32).toInt = (1 : Int32).toInt := fun z => c_3 (Int32.toInt_inj.mp z)
      have y_1 : (1 : Int32).toInt = 1 := by decide
      have y_0 : (0 : Int32).toInt = 0 := by decide
      have yr : (0 : Int32).toInt = 0 := by decide
      omega
    exact retI (v := 0) hx hb hr hlk (rfl) hP hD hS () ⟨_, rfl, hp_4⟩ [] rfl rfl dX12_isOf_14 (Nat.le_of_ble_eq_true rfl) (Nat.le_of_ble_eq_true rfl) rfl
  · skip
    refine lv_iconst (v := 1) hx hb dX12_isOf_9 (by decide) ?_
    refine lv_goto (tgt := 14) hx hb dX12_isOf_10 (by decide) ?_
    have hp_5 : ((1 : Int32).toInt = 0 ∨ (1 : Int32).toInt = 1) := by
      have z_1 := congrArg Int32.toInt c_3
      have y_1 : (1 : Int32).toInt = 1 := by decide
      omega
    exact retI (v := 1) hx hb hr hlk (rfl) hP hD hS () ⟨_, rfl, hp_5⟩ [] rfl rfl dX12_isOf_14 (Nat.le_of_ble_eq_true rfl) (Nat.le_of_ble_eq_true rfl) rfl
set_option maxHeartbeats 4000000 in
set_option maxRecDepth 100000 in
theorem ct_X12_bits (l : Launch) (D : va_G) (tc : Nat → ClassId) (sk : (Nat → Nat) × (Nat → Nat)) (x1 : Int32)  : Ct l yX12_bits cX12_bits 3 (some .int) { frames := 0, cells := 0, slots := 0, locals := 0 } D tc sk [.int x1] [] (fun (v : Option Value) (_ : Unit) => ∃ r : Int32, v = some (.int r) ∧ (True)) (fun (_ : Unit) => []) 0 0 := by
  refine Ct.start (by decide) (Nat.le_of_ble_eq_true rfl) (fun p e s m below meth c A ls hx hb hr hlk hin hml hown hts hK hX hP hD hA hl hS => ?_)
  have hl : lv_has ls 3 [(0, .int x1)] := hl
  refine lv_iconst (v := 0) hx hb dX12_bits_0 (by decide) ?_
  refine lv_istore_n (lv' := [(1, .int 0), (0, .int x1)]) hx hb dX12_bits_1 rfl hl (by decide) rfl (fun ls hl₀ => ?_)
  replace hl := hl₀
  clear hl₀
  refine lv_iload_n hx hb dX12_bits_2 rfl (lv_at hl 1 rfl) ?_
  refine lv_istore_n (lv' := [(2, .int x1), (1, .int 0), (0, .int x1)]) hx hb dX12_bits_3 rfl hl (by decide) rfl (fun ls hl₀ => ?_)
  replace hl := hl₀
  clear hl₀
  have loop_7 : ∀ (n_5 : Nat) (vy_3 : Int32) (vy_4 : Int32) (H : Heap) (locs : List Loc) (ls : Array Slot), (((vy_3 : Int32).toUInt32.toNat : Int)).toNat < n_5 → va_P D classes [] H → va_D A [] → va_S A s.heap H locs → lv_has ls 3 [(2, .int vy_3), (1, .int vy_4), (0, .int x1)] → W p l e ({ frames := 0, cells := 0, slots := 0, locals := 0 }) s m ([.int x1].toArray) below meth c H locs 0 0 (MQ below (QW (fun (v : Option Value) (_ : Unit) => ∃ r : Int32, v = some (.int r) ∧ (True)) (BW D (fun (_ : Unit) => []) A) A) ([.int x1].toArray) s 0 0 A) (F0 m 4 ls []) := by
    clear hP hD hS hl
    intro n_5
    induction n_5 with
    | zero =>
      intro vy_3 vy_4 H locs ls h1
      exact absurd h1 (Nat.not_lt_zero _)
    | succ n_5 ih_6 =>
      intro vy_3 vy_4 H locs ls hn_8  hP hD hS hl
      refine lv_iload_n hx hb dX12_bits_4 rfl (lv_at hl 0 rfl) ?_
      refine lv_if_eq (tgt := 20) hx hb dX12_bits_5 (by decide) (fun c_9 => ?_) (fun c_9 => ?_)
      · skip
        refine lv_iload_n hx hb dX12_bits_20 rfl (lv_at hl 1 rfl) ?_
        exact retI (v := vy_4) hx hb hr hlk (rfl) hP hD hS () ⟨_, rfl, trivial⟩ [] rfl rfl dX12_bits_21 (Nat.le_of_ble_eq_true rfl) (Nat.le_of_ble_eq_true rfl) rfl
      · skip
        obtain ⟨x_10, ex_10⟩ : ∃ y : Int32, y = vy_4 + 1 := ⟨_, rfl⟩
        refine lv_iinc (v := x_10) (lv' := [(1, .int x_10), (2, .int vy_3), (0, .int x1)]) hx hb dX12_bits_8 hl (k := 1) rfl (by rw [ex_10]; rfl) (by decide) rfl (fun ls hl₀ => ?_)
        replace hl := hl₀
        clear hl₀
        refine lv_iload_n hx hb dX12_bits_11 rfl (lv_at hl 1 rfl) ?_
        refine lv_iload_n hx hb dX12_bits_12 rfl (lv_at hl 1 rfl) ?_
        refine lv_iconst (v := 1) hx hb dX12_bits_13 (by decide) ?_
        refine lv_isub hx hb dX12_bits_14 ?_
        refine lv_topi (fun x_11 ex_11 => ?_)
        refine lv_iand hx hb dX12_bits_15 ?_
        refine lv_topi (fun x_12 ex_12 => ?_)
        refine lv_istore_n (lv' := [(2, .int x_12), (1, .int x_10), (0, .int x1)]) hx hb dX12_bits_16 rfl hl (by decide) rfl (fun ls hl₀ => ?_)
        replace hl := hl₀
        clear hl₀
        refine lv_goto (tgt := 4) hx hb dX12_bits_17 (by decide) ?_
        have hb_13 : ((x_12 : Int32).toUInt32.toNat : Int) < ((vy_3 : Int32).toUInt32.toNat : Int) ∧ 1 ≤ ((vy_3 : Int32).toUInt32.toNat : Int) := by
          have z_1 : ¬ (vy_3 : Int32).toInt = (0 : Int32).toInt := fun z => c_9 (Int32.toInt_inj.mp z)
          have y_0 : (0 : Int32).toInt = 0 := by decide
          have hdec := and_dec ex_11 c_9
          rw [← ex_12] at hdec
          omega
        exact ih_6 x_12 x_10 _ _ _ (by omega)  (hP.sub [] rfl) (hD.sub [] rfl rfl) hS (lv_sub hl [0, 1, 2] rfl)
  exact loop_7 _ x1 0 _ _ _ (Nat.lt_succ_self _)  hP hD hS hl
set_option maxHeartbeats 4000000 in
set_option maxRecDepth 100000 in
theorem ct_X12_isRule (l : Launch) (D : va_G) (tc : Nat → ClassId) (sk : (Nat → Nat) × (Nat → Nat)) (Ma : Nat → Nat) (Mv : Nat → Int32) (Mj : Nat → Int64) (x1 : Int32)  : Ct l yX12_isRule cX12_isRule 2 (some .boolean) { frames := 0, cells := 0, slots := 0, locals := 0 } D tc sk [.ref (Ma 0), .int x1] [((Ma 0), .inr (12, [.ref (Ma 1), .int (Mv 0), .int (Mv 1), .ref (Ma 2), .ref (Ma 3), .ref (Ma 4), .ref (Ma 5), .ref (Ma 6), .int (Mv 2), .int (Mv 3), .int (Mv 4), .int (Mv 5), .int (Mv 6), .int (Mv 7), .int (Mv 8), .ref (Ma 7), .int (Mv 9), .ref (Ma 8), .int (Mv 10), .ref (Ma 9), .ref (Ma 10), .int (Mv 11), .int (Mv 12), .int (Mv 13), .ref (Ma 11), .int (Mv 14), .ref (Ma 12), .ref (Ma 13), .ref (Ma 14), .ref (Ma 15), .ref (Ma 16), .long (Mj 0), .ref (Ma 17), .ref (Ma 18), .ref (Ma 19), .ref (Ma 20)]))] (fun (v : Option Value) (_ : Unit) => ∃ r : Int32, v = some (.int r) ∧ ((r.toInt = 0 ∨ (r.toInt = 1 ∧ 0 ≤ x1.toInt ∧ x1.toInt < (Mv 1).toInt)))) (fun (_ : Unit) => [((Ma 0), .inr (12, [.ref (Ma 1), .int (Mv 0), .int (Mv 1), .ref (Ma 2), .ref (Ma 3), .ref (Ma 4), .ref (Ma 5), .ref (Ma 6), .int (Mv 2), .int (Mv 3), .int (Mv 4), .int (Mv 5), .int (Mv 6), .int (Mv 7), .int (Mv 8), .ref (Ma 7), .int (Mv 9), .ref (Ma 8), .int (Mv 10), .ref (Ma 9), .ref (Ma 10), .int (Mv 11), .int (Mv 12), .int (Mv 13), .ref (Ma 11), .int (Mv 14), .ref (Ma 12), .ref (Ma 13), .ref (Ma 14), .ref (Ma 15), .ref (Ma 16), .long (Mj 0), .ref (Ma 17), .ref (Ma 18), .ref (Ma 19), .ref (Ma 20)]))]) 0 0 := by
  refine Ct.start (by decide) (Nat.le_of_ble_eq_true rfl) (fun p e s m below meth c A ls hx hb hr hlk hin hml hown hts hK hX hP hD hA hl hS => ?_)
  have hl : lv_has ls 2 [(0, .ref (Ma 0)), (1, .int x1)] := hl
  refine lv_iload_n hx hb dX12_isRule_0 rfl (lv_at hl 1 rfl) ?_
  refine lv_if_lt (tgt := 16) hx hb dX12_isRule_1 (by decide) (fun c_1 => ?_) (fun c_1 => ?_)
  · skip
    refine lv_iconst (v := 0) hx hb dX12_isRule_16 (by decide) ?_
    have hp_2 : ((0 : Int32).toInt = 0 ∨ ((0 : Int32).toInt = 1 ∧ 0 ≤ x1.toInt ∧ x1.toInt < (Mv 1).toInt)) := by
      have z_1 := Int32.lt_iff_toInt_lt.mp c_1
      have y_0 : (0 : Int32).toInt = 0 := by decide
      omega
    exact retI (v := 0) hx hb hr hlk (rfl) hP hD hS () ⟨_, rfl, hp_2⟩ [0] rfl rfl dX12_isRule_17 (Nat.le_of_ble_eq_true rfl) (Nat.le_of_ble_eq_true rfl) rfl
  · skip
    refine lv_iload_n hx hb dX12_isRule_4 rfl (lv_at hl 1 rfl) ?_
    refine lv_aload_n hx hb dX12_isRule_5 rfl (lv_at hl 0 rfl) ?_
    refine gf_X12_256 hx hb hts hown hK hP 0 rfl rfl dX12_isRule_6 ?_
    refine lv_icmp_ge (tgt := 16) hx hb dX12_isRule_9 (by decide) (fun c_3 => ?_) (fun c_3 => ?_)
    · skip
      refine lv_iconst (v := 0) hx hb dX12_isRule_16 (by decide) ?_
      have hp_4 : ((0 : Int32).toInt = 0 ∨ ((0 : Int32).toInt = 1 ∧ 0 ≤ x1.toInt ∧ x1.toInt < (Mv 1).toInt)) := by
        have z_1 := Int32.le_iff_toInt_le.mp (Int32.not_lt.mp c_1)
        have z_2 := Int32.le_iff_toInt_le.mp c_3
        have y_0 : (0 : Int32).toInt = 0 := by decide
        omega
      exact retI (v := 0) hx hb hr hlk (rfl) hP hD hS () ⟨_, rfl, hp_4⟩ [0] rfl rfl dX12_isRule_17 (Nat.le_of_ble_eq_true rfl) (Nat.le_of_ble_eq_true rfl) rfl
    · skip
      refine lv_iconst (v := 1) hx hb dX12_isRule_12 (by decide) ?_
      refine lv_goto (tgt := 17) hx hb dX12_isRule_13 (by decide) ?_
      have hp_5 : ((1 : Int32).toInt = 0 ∨ ((1 : Int32).toInt = 1 ∧ 0 ≤ x1.toInt ∧ x1.toInt < (Mv 1).toInt)) := by
        have z_1 := Int32.le_iff_toInt_le.mp (Int32.not_lt.mp c_1)
        have z_2 := Int32.lt_iff_toInt_lt.mp (Int32.not_le.mp c_3)
        have y_0 : (0 : Int32).toInt = 0 := by decide
        have y_1 : (1 : Int32).toInt = 1 := by decide
        have yr : (1 : Int32).toInt = 1 := by decide
        omega
      exact retI (v := 1) hx hb hr hlk (rfl) hP hD hS () ⟨_, rfl, hp_5⟩ [0] rfl rfl dX12_isRule_17 (Nat.le_of_ble_eq_true rfl) (Nat.le_of_ble_eq_true rfl) rfl
set_option maxRecDepth 100000 in
theorem cu_X12_isRule (l : Launch) (D : va_G) (tc : Nat → ClassId) (sk : (Nat → Nat) × (Nat → Nat)) (Ma_0 : Nat) (Ma_1 : Nat) (Ma_2 : Nat) (Ma_3 : Nat) (Ma_4 : Nat) (Ma_5 : Nat) (Ma_6 : Nat) (Ma_7 : Nat) (Ma_8 : Nat) (Ma_9 : Nat) (Ma_10 : Nat) (Ma_11 : Nat) (Ma_12 : Nat) (Ma_13 : Nat) (Ma_14 : Nat) (Ma_15 : Nat) (Ma_16 : Nat) (Ma_17 : Nat) (Ma_18 : Nat) (Ma_19 : Nat) (Ma_20 : Nat) (Mv_0 : Int32) (Mv_1 : Int32) (Mv_2 : Int32) (Mv_3 : Int32) (Mv_4 : Int32) (Mv_5 : Int32) (Mv_6 : Int32) (Mv_7 : Int32) (Mv_8 : Int32) (Mv_9 : Int32) (Mv_10 : Int32) (Mv_11 : Int32) (Mv_12 : Int32) (Mv_13 : Int32) (Mv_14 : Int32) (Mj_0 : Int64) (x1 : Int32)  : Ct l yX12_isRule cX12_isRule 2 (some .boolean) { frames := 0, cells := 0, slots := 0, locals := 0 } D tc sk [.ref Ma_0, .int x1] [(Ma_0, .inr (12, [.ref Ma_1, .int Mv_0, .int Mv_1, .ref Ma_2, .ref Ma_3, .ref Ma_4, .ref Ma_5, .ref Ma_6, .int Mv_2, .int Mv_3, .int Mv_4, .int Mv_5, .int Mv_6, .int Mv_7, .int Mv_8, .ref Ma_7, .int Mv_9, .ref Ma_8, .int Mv_10, .ref Ma_9, .ref Ma_10, .int Mv_11, .int Mv_12, .int Mv_13, .ref Ma_11, .int Mv_14, .ref Ma_12, .ref Ma_13, .ref Ma_14, .ref Ma_15, .ref Ma_16, .long Mj_0, .ref Ma_17, .ref Ma_18, .ref Ma_19, .ref Ma_20]))] (fun (v : Option Value) (_ : Unit) => ∃ r : Int32, v = some (.int r) ∧ ((r.toInt = 0 ∨ (r.toInt = 1 ∧ 0 ≤ x1.toInt ∧ x1.toInt < Mv_1.toInt)))) (fun (_ : Unit) => [(Ma_0, .inr (12, [.ref Ma_1, .int Mv_0, .int Mv_1, .ref Ma_2, .ref Ma_3, .ref Ma_4, .ref Ma_5, .ref Ma_6, .int Mv_2, .int Mv_3, .int Mv_4, .int Mv_5, .int Mv_6, .int Mv_7, .int Mv_8, .ref Ma_7, .int Mv_9, .ref Ma_8, .int Mv_10, .ref Ma_9, .ref Ma_10, .int Mv_11, .int Mv_12, .int Mv_13, .ref Ma_11, .int Mv_14, .ref Ma_12, .ref Ma_13, .ref Ma_14, .ref Ma_15, .ref Ma_16, .long Mj_0, .ref Ma_17, .ref Ma_18, .ref Ma_19, .ref Ma_20]))]) 0 0 :=
  ct_X12_isRule l D tc sk (fun k => ([Ma_0, Ma_1, Ma_2, Ma_3, Ma_4, Ma_5, Ma_6, Ma_7, Ma_8, Ma_9, Ma_10, Ma_11, Ma_12, Ma_13, Ma_14, Ma_15, Ma_16, Ma_17, Ma_18, Ma_19, Ma_20] : List (Nat)).getD k 0) (fun k => ([Mv_0, Mv_1, Mv_2, Mv_3, Mv_4, Mv_5, Mv_6, Mv_7, Mv_8, Mv_9, Mv_10, Mv_11, Mv_12, Mv_13, Mv_14] : List (Int32)).getD k 0) (fun k => ([Mj_0] : List (Int64)).getD k 0) x1 
set_option maxHeartbeats 4000000 in
set_option maxRecDepth 100000 in
theorem ct_X12_push (l : Launch) (D : va_G) (tc : Nat → ClassId) (sk : (Nat → Nat) × (Nat → Nat)) (Ma : Nat → Nat) (Mv : Nat → Int32) (Mj : Nat → Int64) (Mg : Nat → Nat → Int64) (w1 : Int64) (h_top : 0 ≤ (Mv 10).toInt ∧ (Mv 10).toInt < 64) : Ct l yX12_push cX12_push 3 none { frames := 0, cells := 0, slots := 0, locals := 0 } D tc sk [.ref (Ma 0), .long w1] [((Ma 0), .inr (12, [.ref (Ma 1), .int (Mv 0), .int (Mv 1), .ref (Ma 2), .ref (Ma 3), .ref (Ma 4), .ref (Ma 5), .ref (Ma 6), .int (Mv 2), .int (Mv 3), .int (Mv 4), .int (Mv 5), .int (Mv 6), .int (Mv 7), .int (Mv 8), .ref (Ma 7), .int (Mv 9), .ref (Ma 8), .int (Mv 10), .ref (Ma 9), .ref (Ma 10), .int (Mv 11), .int (Mv 12), .int (Mv 13), .ref (Ma 11), .int (Mv 14), .ref (Ma 12), .ref (Ma 13), .ref (Ma 14), .ref (Ma 15), .ref (Ma 16), .long (Mj 0), .ref (Ma 17), .ref (Ma 18), .ref (Ma 19), .ref (Ma 20)])), ((Ma 8), .inl (tc 1, 64, .inr (.inl (Mg 8))))] (fun (v : Option Value) (u : (Int32) × (Nat → Int64)) => match u with | (oo0x1, oo0x2) => v = none ∧ ((oo0x1 : Int32).toInt = (Mv 10).toInt + 1)) (fun (u : (Int32) × (Nat → Int64)) => match u with | (oo0x1, oo0x2) => [((Ma 0), .inr (12, [.ref (Ma 1), .int (Mv 0), .int (Mv 1), .ref (Ma 2), .ref (Ma 3), .ref (Ma 4), .ref (Ma 5), .ref (Ma 6), .int (Mv 2), .int (Mv 3), .int (Mv 4), .int (Mv 5), .int (Mv 6), .int (Mv 7), .int (Mv 8), .ref (Ma 7), .int (Mv 9), .ref (Ma 8), .int oo0x1, .ref (Ma 9), .ref (Ma 10), .int (Mv 11), .int (Mv 12), .int (Mv 13), .ref (Ma 11), .int (Mv 14), .ref (Ma 12), .ref (Ma 13), .ref (Ma 14), .ref (Ma 15), .ref (Ma 16), .long (Mj 0), .ref (Ma 17), .ref (Ma 18), .ref (Ma 19), .ref (Ma 20)])), ((Ma 8), .inl (tc 1, 64, .inr (.inl oo0x2)))]) 0 0 := by
  refine Ct.start (by decide) (Nat.le_of_ble_eq_true rfl) (fun p e s m below meth c A ls hx hb hr hlk hin hml hown hts hK hX hP hD hA hl hS => ?_)
  have hl : lv_has ls 3 [(0, .ref (Ma 0)), (1, .long w1)] := hl
  refine lv_aload_n hx hb dX12_push_0 rfl (lv_at hl 0 rfl) ?_
  refine gf_X12_32 hx hb hts hown hK hP 0 rfl rfl dX12_push_1 ?_
  refine lv_aload_n hx hb dX12_push_4 rfl (lv_at hl 0 rfl) ?_
  refine gf_X12_268 hx hb hts hown hK hP 0 rfl rfl dX12_push_5 ?_
  refine lv_lload_n hx hb dX12_push_8 rfl (lv_at hl 1 rfl) ?_
  have hi_1 : vp_in (Mv 10) 64 := by
    refine vp_in_iff.mpr ⟨?_, ?_⟩ <;> omega
  refine st_long hx hb hK hP hD hS 1 1 rfl rfl hi_1 dX12_push_9 (fun g_2 H locs eg_2 hP₀ hD₀ hS₀ => ?_)
  replace hP : va_P D classes [((Ma 0), .inr (12, [.ref (Ma 1), .int (Mv 0), .int (Mv 1), .ref (Ma 2), .ref (Ma 3), .ref (Ma 4), .ref (Ma 5), .ref (Ma 6), .int (Mv 2), .int (Mv 3), .int (Mv 4), .int (Mv 5), .int (Mv 6), .int (Mv 7), .int (Mv 8), .ref (Ma 7), .int (Mv 9), .ref (Ma 8), .int (Mv 10), .ref (Ma 9), .ref (Ma 10), .int (Mv 11), .int (Mv 12), .int (Mv 13), .ref (Ma 11), .int (Mv 14), .ref (Ma 12), .ref (Ma 13), .ref (Ma 14), .ref (Ma 15), .ref (Ma 16), .long (Mj 0), .ref (Ma 17), .ref (Ma 18), .ref (Ma 19), .ref (Ma 20)])), ((Ma 8), .inl (tc 1, 64, .inr (.inl g_2)))] H := hP₀
  replace hD : va_D A [((Ma 0), .inr (12, [.ref (Ma 1), .int (Mv 0), .int (Mv 1), .ref (Ma 2), .ref (Ma 3), .ref (Ma 4), .ref (Ma 5), .ref (Ma 6), .int (Mv 2), .int (Mv 3), .int (Mv 4), .int (Mv 5), .int (Mv 6), .int (Mv 7), .int (Mv 8), .ref (Ma 7), .int (Mv 9), .ref (Ma 8), .int (Mv 10), .ref (Ma 9), .ref (Ma 10), .int (Mv 11), .int (Mv 12), .int (Mv 13), .ref (Ma 11), .int (Mv 14), .ref (Ma 12), .ref (Ma 13), .ref (Ma 14), .ref (Ma 15), .ref (Ma 16), .long (Mj 0), .ref (Ma 17), .ref (Ma 18), .ref (Ma 19), .ref (Ma 20)])), ((Ma 8), .inl (tc 1, 64, .inr (.inl g_2)))] := hD₀
  replace hS := hS₀
  clear hP₀ hD₀ hS₀
  refine lv_aload_n hx hb dX12_push_10 rfl (lv_at hl 0 rfl) ?_
  refine lv_dup hx hb dX12_push_11 rfl ?_
  refine gf_X12_268 hx hb hts hown hK hP 0 rfl rfl dX12_push_12 ?_
  refine lv_iconst (v := 1) hx hb dX12_push_15 (by decide) ?_
  refine lv_iadd hx hb dX12_push_16 ?_
  refine lv_topi (fun x_3 ex_3 => ?_)
  refine pf_X12_268 hx hb hts hown hK hP hD hS 0 rfl (Nat.le_of_ble_eq_true rfl) rfl rfl dX12_push_17 (fun H locs hP₀ hD₀ hS₀ => ?_)
  replace hP : va_P D classes [((Ma 0), .inr (12, [.ref (Ma 1), .int (Mv 0), .int (Mv 1), .ref (Ma 2), .ref (Ma 3), .ref (Ma 4), .ref (Ma 5), .ref (Ma 6), .int (Mv 2), .int (Mv 3), .int (Mv 4), .int (Mv 5), .int (Mv 6), .int (Mv 7), .int (Mv 8), .ref (Ma 7), .int (Mv 9), .ref (Ma 8), .int x_3, .ref (Ma 9), .ref (Ma 10), .int (Mv 11), .int (Mv 12), .int (Mv 13), .ref (Ma 11), .int (Mv 14), .ref (Ma 12), .ref (Ma 13), .ref (Ma 14), .ref (Ma 15), .ref (Ma 16), .long (Mj 0), .ref (Ma 17), .ref (Ma 18), .ref (Ma 19), .ref (Ma 20)])), ((Ma 8), .inl (tc 1, 64, .inr (.inl g_2)))] H := hP₀
  replace hD : va_D A [((Ma 0), .inr (12, [.ref (Ma 1), .int (Mv 0), .int (Mv 1), .ref (Ma 2), .ref (Ma 3), .ref (Ma 4), .ref (Ma 5), .ref (Ma 6), .int (Mv 2), .int (Mv 3), .int (Mv 4), .int (Mv 5), .int (Mv 6), .int (Mv 7), .int (Mv 8), .ref (Ma 7), .int (Mv 9), .ref (Ma 8), .int x_3, .ref (Ma 9), .ref (Ma 10), .int (Mv 11), .int (Mv 12), .int (Mv 13), .ref (Ma 11), .int (Mv 14), .ref (Ma 12), .ref (Ma 13), .ref (Ma 14), .ref (Ma 15), .ref (Ma 16), .long (Mj 0), .ref (Ma 17), .ref (Ma 18), .ref (Ma 19), .ref (Ma 20)])), ((Ma 8), .inl (tc 1, 64, .inr (.inl g_2)))] := hD₀
  replace hS := hS₀
  clear hP₀ hD₀ hS₀
  have ha_4 : (x_3 : Int32).toInt = (Mv 10).toInt + 1 := by
    have y_1 : (1 : Int32).toInt = 1 := by decide
    have t_x_3 : x_3.toInt = ((Mv 10) : Int32).toInt + (1 : Int32).toInt := by rw [ex_3]; exact add_toInt (by omega) (by omega)
    omega
  exact retV hx hb hr hlk hP hD hS (x_3, g_2) ⟨rfl, ha_4⟩ [0, 1] rfl rfl dX12_push_20 (Nat.le_of_ble_eq_true rfl) (Nat.le_of_ble_eq_true rfl) rfl
set_option maxRecDepth 100000 in
theorem cu_X12_push (l : Launch) (D : va_G) (tc : Nat → ClassId) (sk : (Nat → Nat) × (Nat → Nat)) (Ma_0 : Nat) (Ma_1 : Nat) (Ma_2 : Nat) (Ma_3 : Nat) (Ma_4 : Nat) (Ma_5 : Nat) (Ma_6 : Nat) (Ma_7 : Nat) (Ma_8 : Nat) (Ma_9 : Nat) (Ma_10 : Nat) (Ma_11 : Nat) (Ma_12 : Nat) (Ma_13 : Nat) (Ma_14 : Nat) (Ma_15 : Nat) (Ma_16 : Nat) (Ma_17 : Nat) (Ma_18 : Nat) (Ma_19 : Nat) (Ma_20 : Nat) (Mv_0 : Int32) (Mv_1 : Int32) (Mv_2 : Int32) (Mv_3 : Int32) (Mv_4 : Int32) (Mv_5 : Int32) (Mv_6 : Int32) (Mv_7 : Int32) (Mv_8 : Int32) (Mv_9 : Int32) (Mv_10 : Int32) (Mv_11 : Int32) (Mv_12 : Int32) (Mv_13 : Int32) (Mv_14 : Int32) (Mj_0 : Int64) (Mg_8 : Nat → Int64) (w1 : Int64) (h_top : 0 ≤ Mv_10.toInt ∧ Mv_10.toInt < 64) : Ct l yX12_push cX12_push 3 none { frames := 0, cells := 0, slots := 0, locals := 0 } D tc sk [.ref Ma_0, .long w1] [(Ma_0, .inr (12, [.ref Ma_1, .int Mv_0, .int Mv_1, .ref Ma_2, .ref Ma_3, .ref Ma_4, .ref Ma_5, .ref Ma_6, .int Mv_2, .int Mv_3, .int Mv_4, .int Mv_5, .int Mv_6, .int Mv_7, .int Mv_8, .ref Ma_7, .int Mv_9, .ref Ma_8, .int Mv_10, .ref Ma_9, .ref Ma_10, .int Mv_11, .int Mv_12, .int Mv_13, .ref Ma_11, .int Mv_14, .ref Ma_12, .ref Ma_13, .ref Ma_14, .ref Ma_15, .ref Ma_16, .long Mj_0, .ref Ma_17, .ref Ma_18, .ref Ma_19, .ref Ma_20])), (Ma_8, .inl (tc 1, 64, .inr (.inl Mg_8)))] (fun (v : Option Value) (u : (Int32) × (Nat → Int64)) => match u with | (oo0x1, oo0x2) => v = none ∧ ((oo0x1 : Int32).toInt = Mv_10.toInt + 1)) (fun (u : (Int32) × (Nat → Int64)) => match u with | (oo0x1, oo0x2) => [(Ma_0, .inr (12, [.ref Ma_1, .int Mv_0, .int Mv_1, .ref Ma_2, .ref Ma_3, .ref Ma_4, .ref Ma_5, .ref Ma_6, .int Mv_2, .int Mv_3, .int Mv_4, .int Mv_5, .int Mv_6, .int Mv_7, .int Mv_8, .ref Ma_7, .int Mv_9, .ref Ma_8, .int oo0x1, .ref Ma_9, .ref Ma_10, .int Mv_11, .int Mv_12, .int Mv_13, .ref Ma_11, .int Mv_14, .ref Ma_12, .ref Ma_13, .ref Ma_14, .ref Ma_15, .ref Ma_16, .long Mj_0, .ref Ma_17, .ref Ma_18, .ref Ma_19, .ref Ma_20])), (Ma_8, .inl (tc 1, 64, .inr (.inl oo0x2)))]) 0 0 :=
  ct_X12_push l D tc sk (fun k => ([Ma_0, Ma_1, Ma_2, Ma_3, Ma_4, Ma_5, Ma_6, Ma_7, Ma_8, Ma_9, Ma_10, Ma_11, Ma_12, Ma_13, Ma_14, Ma_15, Ma_16, Ma_17, Ma_18, Ma_19, Ma_20] : List (Nat)).getD k 0) (fun k => ([Mv_0, Mv_1, Mv_2, Mv_3, Mv_4, Mv_5, Mv_6, Mv_7, Mv_8, Mv_9, Mv_10, Mv_11, Mv_12, Mv_13, Mv_14] : List (Int32)).getD k 0) (fun k => ([Mj_0] : List (Int64)).getD k 0) (fun k => ([(fun _ => 0), (fun _ => 0), (fun _ => 0), (fun _ => 0), (fun _ => 0), (fun _ => 0), (fun _ => 0), (fun _ => 0), Mg_8] : List (Nat → Int64)).getD k (fun _ => 0)) w1 h_top
set_option maxHeartbeats 4000000 in
set_option maxRecDepth 100000 in
theorem ct_X12_pop (l : Launch) (D : va_G) (tc : Nat → ClassId) (sk : (Nat → Nat) × (Nat → Nat)) (Ma : Nat → Nat) (Mv : Nat → Int32) (Mj : Nat → Int64) (Mg : Nat → Nat → Int64) (h_top : 1 ≤ (Mv 10).toInt ∧ (Mv 10).toInt ≤ 64) : Ct l yX12_pop cX12_pop 1 (some .long) { frames := 0, cells := 0, slots := 0, locals := 0 } D tc sk [.ref (Ma 0)] [((Ma 0), .inr (12, [.ref (Ma 1), .int (Mv 0), .int (Mv 1), .ref (Ma 2), .ref (Ma 3), .ref (Ma 4), .ref (Ma 5), .ref (Ma 6), .int (Mv 2), .int (Mv 3), .int (Mv 4), .int (Mv 5), .int (Mv 6), .int (Mv 7), .int (Mv 8), .ref (Ma 7), .int (Mv 9), .ref (Ma 8), .int (Mv 10), .ref (Ma 9), .ref (Ma 10), .int (Mv 11), .int (Mv 12), .int (Mv 13), .ref (Ma 11), .int (Mv 14), .ref (Ma 12), .ref (Ma 13), .ref (Ma 14), .ref (Ma 15), .ref (Ma 16), .long (Mj 0), .ref (Ma 17), .ref (Ma 18), .ref (Ma 19), .ref (Ma 20)])), ((Ma 8), .inl (tc 1, 64, .inr (.inl (Mg 8))))] (fun (v : Option Value) (oo0x1 : Int32) => ∃ r : Int64, v = some (.long r) ∧ (True) ∧ ((oo0x1 : Int32).toInt = (Mv 10).toInt - 1)) (fun (oo0x1 : Int32) => [((Ma 0), .inr (12, [.ref (Ma 1), .int (Mv 0), .int (Mv 1), .ref (Ma 2), .ref (Ma 3), .ref (Ma 4), .ref (Ma 5), .ref (Ma 6), .int (Mv 2), .int (Mv 3), .int (Mv 4), .int (Mv 5), .int (Mv 6), .int (Mv 7), .int (Mv 8), .ref (Ma 7), .int (Mv 9), .ref (Ma 8), .int oo0x1, .ref (Ma 9), .ref (Ma 10), .int (Mv 11), .int (Mv 12), .int (Mv 13), .ref (Ma 11), .int (Mv 14), .ref (Ma 12), .ref (Ma 13), .ref (Ma 14), .ref (Ma 15), .ref (Ma 16), .long (Mj 0), .ref (Ma 17), .ref (Ma 18), .ref (Ma 19), .ref (Ma 20)])), ((Ma 8), .inl (tc 1, 64, .inr (.inl (Mg 8))))]) 0 0 := by
  refine Ct.start (by decide) (Nat.le_of_ble_eq_true rfl) (fun p e s m below meth c A ls hx hb hr hlk hin hml hown hts hK hX hP hD hA hl hS => ?_)
  have hl : lv_has ls 1 [(0, .ref (Ma 0))] := hl
  refine lv_aload_n hx hb dX12_pop_0 rfl (lv_at hl 0 rfl) ?_
  refine lv_dup hx hb dX12_pop_1 rfl ?_
  refine gf_X12_268 hx hb hts hown hK hP 0 rfl rfl dX12_pop_2 ?_
  refine lv_iconst (v := 1) hx hb dX12_pop_5 (by decide) ?_
  refine lv_isub hx hb dX12_pop_6 ?_
  refine lv_topi (fun x_1 ex_1 => ?_)
  refine pf_X12_268 hx hb hts hown hK hP hD hS 0 rfl (Nat.le_of_ble_eq_true rfl) rfl rfl dX12_pop_7 (fun H locs hP₀ hD₀ hS₀ => ?_)
  replace hP : va_P D classes [((Ma 0), .inr (12, [.ref (Ma 1), .int (Mv 0), .int (Mv 1), .ref (Ma 2), .ref (Ma 3), .ref (Ma 4), .ref (Ma 5), .ref (Ma 6), .int (Mv 2), .int (Mv 3), .int (Mv 4), .int (Mv 5), .int (Mv 6), .int (Mv 7), .int (Mv 8), .ref (Ma 7), .int (Mv 9), .ref (Ma 8), .int x_1, .ref (Ma 9), .ref (Ma 10), .int (Mv 11), .int (Mv 12), .int (Mv 13), .ref (Ma 11), .int (Mv 14), .ref (Ma 12), .ref (Ma 13), .ref (Ma 14), .ref (Ma 15), .ref (Ma 16), .long (Mj 0), .ref (Ma 17), .ref (Ma 18), .ref (Ma 19), .ref (Ma 20)])), ((Ma 8), .inl (tc 1, 64, .inr (.inl (Mg 8))))] H := hP₀
  replace hD : va_D A [((Ma 0), .inr (12, [.ref (Ma 1), .int (Mv 0), .int (Mv 1), .ref (Ma 2), .ref (Ma 3), .ref (Ma 4), .ref (Ma 5), .ref (Ma 6), .int (Mv 2), .int (Mv 3), .int (Mv 4), .int (Mv 5), .int (Mv 6), .int (Mv 7), .int (Mv 8), .ref (Ma 7), .int (Mv 9), .ref (Ma 8), .int x_1, .ref (Ma 9), .ref (Ma 10), .int (Mv 11), .int (Mv 12), .int (Mv 13), .ref (Ma 11), .int (Mv 14), .ref (Ma 12), .ref (Ma 13), .ref (Ma 14), .ref (Ma 15), .ref (Ma 16), .long (Mj 0), .ref (Ma 17), .ref (Ma 18), .ref (Ma 19), .ref (Ma 20)])), ((Ma 8), .inl (tc 1, 64, .inr (.inl (Mg 8))))] := hD₀
  replace hS := hS₀
  clear hP₀ hD₀ hS₀
  refine lv_aload_n hx hb dX12_pop_10 rfl (lv_at hl 0 rfl) ?_
  refine gf_X12_32 hx hb hts hown hK hP 0 rfl rfl dX12_pop_11 ?_
  refine lv_aload_n hx hb dX12_pop_14 rfl (lv_at hl 0 rfl) ?_
  refine gf_X12_268 hx hb hts hown hK hP 0 rfl rfl dX12_pop_15 ?_
  have hi_2 : vp_in x_1 64 := by
    have y_1 : (1 : Int32).toInt = 1 := by decide
    have t_x_1 : x_1.toInt = ((Mv 10) : Int32).toInt - (1 : Int32).toInt := by rw [ex_1]; exact sub_toInt (by omega) (by omega)
    refine vp_in_iff.mpr ⟨?_, ?_⟩ <;> omega
  refine va_lald hx hb hK hP 1 1 rfl rfl hi_2 dX12_pop_18 ?_
  refine lv_topl (fun x_3 ex_3 => ?_)
  have ha_4 : (x_1 : Int32).toInt = (Mv 10).toInt - 1 := by
    have y_1 : (1 : Int32).toInt = 1 := by decide
    have t_x_1 : x_1.toInt = ((Mv 10) : Int32).toInt - (1 : Int32).toInt := by rw [ex_1]; exact sub_toInt (by omega) (by omega)
    omega
  exact retL (v := x_3) hx hb hr hlk hP hD hS x_1 ⟨_, rfl, trivial, ha_4⟩ [0, 1] rfl rfl dX12_pop_19 (Nat.le_of_ble_eq_true rfl) (Nat.le_of_ble_eq_true rfl) rfl
set_option maxRecDepth 100000 in
theorem cu_X12_pop (l : Launch) (D : va_G) (tc : Nat → ClassId) (sk : (Nat → Nat) × (Nat → Nat)) (Ma_0 : Nat) (Ma_1 : Nat) (Ma_2 : Nat) (Ma_3 : Nat) (Ma_4 : Nat) (Ma_5 : Nat) (Ma_6 : Nat) (Ma_7 : Nat) (Ma_8 : Nat) (Ma_9 : Nat) (Ma_10 : Nat) (Ma_11 : Nat) (Ma_12 : Nat) (Ma_13 : Nat) (Ma_14 : Nat) (Ma_15 : Nat) (Ma_16 : Nat) (Ma_17 : Nat) (Ma_18 : Nat) (Ma_19 : Nat) (Ma_20 : Nat) (Mv_0 : Int32) (Mv_1 : Int32) (Mv_2 : Int32) (Mv_3 : Int32) (Mv_4 : Int32) (Mv_5 : Int32) (Mv_6 : Int32) (Mv_7 : Int32) (Mv_8 : Int32) (Mv_9 : Int32) (Mv_10 : Int32) (Mv_11 : Int32) (Mv_12 : Int32) (Mv_13 : Int32) (Mv_14 : Int32) (Mj_0 : Int64) (Mg_8 : Nat → Int64) (h_top : 1 ≤ Mv_10.toInt ∧ Mv_10.toInt ≤ 64) : Ct l yX12_pop cX12_pop 1 (some .long) { frames := 0, cells := 0, slots := 0, locals := 0 } D tc sk [.ref Ma_0] [(Ma_0, .inr (12, [.ref Ma_1, .int Mv_0, .int Mv_1, .ref Ma_2, .ref Ma_3, .ref Ma_4, .ref Ma_5, .ref Ma_6, .int Mv_2, .int Mv_3, .int Mv_4, .int Mv_5, .int Mv_6, .int Mv_7, .int Mv_8, .ref Ma_7, .int Mv_9, .ref Ma_8, .int Mv_10, .ref Ma_9, .ref Ma_10, .int Mv_11, .int Mv_12, .int Mv_13, .ref Ma_11, .int Mv_14, .ref Ma_12, .ref Ma_13, .ref Ma_14, .ref Ma_15, .ref Ma_16, .long Mj_0, .ref Ma_17, .ref Ma_18, .ref Ma_19, .ref Ma_20])), (Ma_8, .inl (tc 1, 64, .inr (.inl Mg_8)))] (fun (v : Option Value) (oo0x1 : Int32) => ∃ r : Int64, v = some (.long r) ∧ (True) ∧ ((oo0x1 : Int32).toInt = Mv_10.toInt - 1)) (fun (oo0x1 : Int32) => [(Ma_0, .inr (12, [.ref Ma_1, .int Mv_0, .int Mv_1, .ref Ma_2, .ref Ma_3, .ref Ma_4, .ref Ma_5, .ref Ma_6, .int Mv_2, .int Mv_3, .int Mv_4, .int Mv_5, .int Mv_6, .int Mv_7, .int Mv_8, .ref Ma_7, .int Mv_9, .ref Ma_8, .int oo0x1, .ref Ma_9, .ref Ma_10, .int Mv_11, .int Mv_12, .int Mv_13, .ref Ma_11, .int Mv_14, .ref Ma_12, .ref Ma_13, .ref Ma_14, .ref Ma_15, .ref Ma_16, .long Mj_0, .ref Ma_17, .ref Ma_18, .ref Ma_19, .ref Ma_20])), (Ma_8, .inl (tc 1, 64, .inr (.inl Mg_8)))]) 0 0 :=
  ct_X12_pop l D tc sk (fun k => ([Ma_0, Ma_1, Ma_2, Ma_3, Ma_4, Ma_5, Ma_6, Ma_7, Ma_8, Ma_9, Ma_10, Ma_11, Ma_12, Ma_13, Ma_14, Ma_15, Ma_16, Ma_17, Ma_18, Ma_19, Ma_20] : List (Nat)).getD k 0) (fun k => ([Mv_0, Mv_1, Mv_2, Mv_3, Mv_4, Mv_5, Mv_6, Mv_7, Mv_8, Mv_9, Mv_10, Mv_11, Mv_12, Mv_13, Mv_14] : List (Int32)).getD k 0) (fun k => ([Mj_0] : List (Int64)).getD k 0) (fun k => ([(fun _ => 0), (fun _ => 0), (fun _ => 0), (fun _ => 0), (fun _ => 0), (fun _ => 0), (fun _ => 0), (fun _ => 0), Mg_8] : List (Nat → Int64)).getD k (fun _ => 0)) h_top
set_option maxHeartbeats 4000000 in
set_option maxRecDepth 100000 in
theorem ct_X12_one (l : Launch) (D : va_G) (tc : Nat → ClassId) (sk : (Nat → Nat) × (Nat → Nat)) (x1 : Int32) (w1 : Int64) (w2 : Int64)  : Ct l yX12_one cX12_one 5 (some .long) { frames := 0, cells := 0, slots := 0, locals := 0 } D tc sk [.int x1, .long w1, .long w2] [] (fun (v : Option Value) (_ : Unit) => ∃ r : Int64, v = some (.long r) ∧ (True)) (fun (_ : Unit) => []) 0 0 := by
  refine Ct.start (by decide) (Nat.le_of_ble_eq_true rfl) (fun p e s m below meth c A ls hx hb hr hlk hin hml hown hts hK hX hP hD hA hl hS => ?_)
  have hl : lv_has ls 5 [(0, .int x1), (1, .long w1), (3, .long w2)] := hl
  refine lv_iload_n hx hb dX12_one_0 rfl (lv_at hl 0 rfl) ?_
  refine lv_topi (fun x_1 ex_1 => ?_)
  by_cases c_2 : x_1 = 2
  · skip
    subst c_2
    refine lv_tableIn (off := 67) (tgt := 68) hx hb dX12_one_1 (by decide) (by decide) (by decide) (by decide) ?_
    refine lv_lload_n hx hb dX12_one_68 rfl (lv_at hl 1 rfl) ?_
    refine lv_lload_n hx hb dX12_one_69 rfl (lv_at hl 2 rfl) ?_
    refine lv_ladd hx hb dX12_one_70 ?_
    refine lv_topl (fun x_3 ex_3 => ?_)
    exact retL (v := x_3) hx hb hr hlk hP hD hS () ⟨_, rfl, trivial⟩ [] rfl rfl dX12_one_71 (Nat.le_of_ble_eq_true rfl) (Nat.le_of_ble_eq_true rfl) rfl
  · skip
    by_cases c_4 : x_1 = 3
    · skip
      subst c_4
      refine lv_tableIn (off := 71) (tgt := 72) hx hb dX12_one_1 (by decide) (by decide) (by decide) (by decide) ?_
      refine lv_lload_n hx hb dX12_one_72 rfl (lv_at hl 1 rfl) ?_
      refine lv_lload_n hx hb dX12_one_73 rfl (lv_at hl 2 rfl) ?_
      refine lv_lsub hx hb dX12_one_74 ?_
      refine lv_topl (fun x_5 ex_5 => ?_)
      exact retL (v := x_5) hx hb hr hlk hP hD hS () ⟨_, rfl, trivial⟩ [] rfl rfl dX12_one_75 (Nat.le_of_ble_eq_true rfl) (Nat.le_of_ble_eq_true rfl) rfl
    · skip
      by_cases c_6 : x_1 = 4
      · skip
        subst c_6
        refine lv_tableIn (off := 75) (tgt := 76) hx hb dX12_one_1 (by decide) (by decide) (by decide) (by decide) ?_
        refine lv_lload_n hx hb dX12_one_76 rfl (lv_at hl 1 rfl) ?_
        refine lv_lload_n hx hb dX12_one_77 rfl (lv_at hl 2 rfl) ?_
        refine lv_lmul hx hb dX12_one_78 ?_
        refine lv_topl (fun x_7 ex_7 => ?_)
        exact retL (v := x_7) hx hb hr hlk hP hD hS () ⟨_, rfl, trivial⟩ [] rfl rfl dX12_one_79 (Nat.le_of_ble_eq_true rfl) (Nat.le_of_ble_eq_true rfl) rfl
      · skip
        by_cases c_8 : x_1 = 5
        · skip
          subst c_8
          refine lv_tableIn (off := 79) (tgt := 80) hx hb dX12_one_1 (by decide) (by decide) (by decide) (by decide) ?_
          refine lv_lload_n hx hb dX12_one_80 rfl (lv_at hl 2 rfl) ?_
          refine lv_lconst (v := 0) hx hb dX12_one_81 (by decide) ?_
          refine W.lcmp hx hb dX12_one_82 ?_
          refine lv_topi (fun x_9 ex_9 => ?_)
          refine lv_if_ne (tgt := 90) hx hb dX12_one_83 (by decide) (fun c_10 => ?_) (fun c_10 => ?_)
          · skip
            refine lv_lload_n hx hb dX12_one_90 rfl (lv_at hl 1 rfl) ?_
            refine lv_lload_n hx hb dX12_one_91 rfl (lv_at hl 2 rfl) ?_
            have hz_12 : ¬ w2 = 0 := fun z => c_10 (ex_9.trans ((lg_cmp_eq _ _).mpr z))
            refine lv_ldiv hx hb dX12_one_92 hz_12 ?_
            refine lv_topl (fun x_13 ex_13 => ?_)
            exact retL (v := x_13) hx hb hr hlk hP hD hS () ⟨_, rfl, trivial⟩ [] rfl rfl dX12_one_93 (Nat.le_of_ble_eq_true rfl) (Nat.le_of_ble_eq_true rfl) rfl
          · skip
            have lz_14 : (w2 : Int64).toInt = (0 : Int64).toInt := by have hc := c_10; rw [ex_9] at hc; exact congrArg Int64.toInt ((lg_cmp_eq _ _).mp hc)
            refine lv_lconst (v := 0) hx hb dX12_one_86 (by decide) ?_
            refine lv_goto (tgt := 93) hx hb dX12_one_87 (by decide) ?_
            exact retL (v := 0) hx hb hr hlk hP hD hS () ⟨_, rfl, trivial⟩ [] rfl rfl dX12_one_93 (Nat.le_of_ble_eq_true rfl) (Nat.le_of_ble_eq_true rfl) rfl
        · skip
          by_cases c_15 : x_1 = 6
          · skip
            subst c_15
            refine lv_tableIn (off := 107) (tgt := 108) hx hb dX12_one_1 (by decide) (by decide) (by decide) (by decide) ?_
            refine lv_lload_n hx hb dX12_one_108 rfl (lv_at hl 1 rfl) ?_
            refine lv_lload_n hx hb dX12_one_109 rfl (lv_at hl 2 rfl) ?_
            refine W.lcmp hx hb dX12_one_110 ?_
            refine lv_topi (fun x_16 ex_16 => ?_)
            refine lv_if_ge (tgt := 118) hx hb dX12_one_111 (by decide) (fun c_17 => ?_) (fun c_17 => ?_)
            · skip
              have lz_18 : (w2 : Int64).toInt ≤ (w1 : Int64).toInt := by have hc := c_17; rw [ex_16] at hc; exact Int64.le_iff_toInt_le.mp ((lg_cmp_ge _ _).mp hc)
              refine lv_lconst (v := 0) hx hb dX12_one_118 (by decide) ?_
              exact retL (v := 0) hx hb hr hlk hP hD hS () ⟨_, rfl, trivial⟩ [] rfl rfl dX12_one_119 (Nat.le_of_ble_eq_true rfl) (Nat.le_of_ble_eq_true rfl) rfl
            · skip
              have lz_19 : (w1 : Int64).toInt < (w2 : Int64).toInt := by have hc := c_17; rw [ex_16] at hc; exact Int64.lt_iff_toInt_lt.mp (Int64.not_le.mp (fun z => hc ((lg_cmp_ge _ _).mpr z)))
              refine lv_lconst (v := 1) hx hb dX12_one_114 (by decide) ?_
              refine lv_goto (tgt := 119) hx hb dX12_one_115 (by decide) ?_
              exact retL (v := 1) hx hb hr hlk hP hD hS () ⟨_, rfl, trivial⟩ [] rfl rfl dX12_one_119 (Nat.le_of_ble_eq_true rfl) (Nat.le_of_ble_eq_true rfl) rfl
          · skip
            by_cases c_20 : x_1 = 7
            · skip
              subst c_20
              refine lv_tableIn (off := 119) (tgt := 120) hx hb dX12_one_1 (by decide) (by decide) (by decide) (by decide) ?_
              refine lv_lload_n hx hb dX12_one_120 rfl (lv_at hl 1 rfl) ?_
              refine lv_lload_n hx hb dX12_one_121 rfl (lv_at hl 2 rfl) ?_
              refine W.lcmp hx hb dX12_one_122 ?_
              refine lv_topi (fun x_21 ex_21 => ?_)
              refine lv_if_gt (tgt := 130) hx hb dX12_one_123 (by decide) (fun c_22 => ?_) (fun c_22 => ?_)
              · skip
                have lz_23 : (w2 : Int64).toInt < (w1 : Int64).toInt := by have hc := c_22; rw [ex_21] at hc; exact Int64.lt_iff_toInt_lt.mp ((lg_cmp_gt _ _).mp hc)
                refine lv_lconst (v := 0) hx hb dX12_one_130 (by decide) ?_
                exact retL (v := 0) hx hb hr hlk hP hD hS () ⟨_, rfl, trivial⟩ [] rfl rfl dX12_one_131 (Nat.le_of_ble_eq_true rfl) (Nat.le_of_ble_eq_true rfl) rfl
              · skip
                have lz_24 : (w1 : Int64).toInt ≤ (w2 : Int64).toInt := by have hc := c_22; rw [ex_21] at hc; exact Int64.le_iff_toInt_le.mp (Int64.not_lt.mp (fun z => hc ((lg_cmp_gt _ _).mpr z)))
                refine lv_lconst (v := 1) hx hb dX12_one_126 (by decide) ?_
                refine lv_goto (tgt := 131) hx hb dX12_one_127 (by decide) ?_
                exact retL (v := 1) hx hb hr hlk hP hD hS () ⟨_, rfl, trivial⟩ [] rfl rfl dX12_one_131 (Nat.le_of_ble_eq_true rfl) (Nat.le_of_ble_eq_true rfl) rfl
            · skip
              by_cases c_25 : x_1 = 8
              · skip
                subst c_25
                refine lv_tableIn (off := 131) (tgt := 132) hx hb dX12_one_1 (by decide) (by decide) (by decide) (by decide) ?_
                refine lv_lload_n hx hb dX12_one_132 rfl (lv_at hl 1 rfl) ?_
                refine lv_lload_n hx hb dX12_one_133 rfl (lv_at hl 2 rfl) ?_
                refine W.lcmp hx hb dX12_one_134 ?_
                refine lv_topi (fun x_26 ex_26 => ?_)
                refine lv_if_ne (tgt := 142) hx hb dX12_one_135 (by decide) (fun c_27 => ?_) (fun c_27 => ?_)
                · skip
                  refine lv_lconst (v := 0) hx hb dX12_one_142 (by decide) ?_
                  exact retL (v := 0) hx hb hr hlk hP hD hS () ⟨_, rfl, trivial⟩ [] rfl rfl dX12_one_143 (Nat.le_of_ble_eq_true rfl) (Nat.le_of_ble_eq_true rfl) rfl
                · skip
                  have lz_29 : (w1 : Int64).toInt = (w2 : Int64).toInt := by have hc := c_27; rw [ex_26] at hc; exact congrArg Int64.toInt ((lg_cmp_eq _ _).mp hc)
                  refine lv_lconst (v := 1) hx hb dX12_one_138 (by decide) ?_
                  refine lv_goto (tgt := 143) hx hb dX12_one_139 (by decide) ?_
                  exact retL (v := 1) hx hb hr hlk hP hD hS () ⟨_, rfl, trivial⟩ [] rfl rfl dX12_one_143 (Nat.le_of_ble_eq_true rfl) (Nat.le_of_ble_eq_true rfl) rfl
              · skip
                by_cases c_30 : x_1 = 9
                · skip
                  subst c_30
                  refine lv_tableIn (off := 143) (tgt := 144) hx hb dX12_one_1 (by decide) (by decide) (by decide) (by decide) ?_
                  refine lv_lload_n hx hb dX12_one_144 rfl (lv_at hl 1 rfl) ?_
                  refine lv_lload_n hx hb dX12_one_145 rfl (lv_at hl 2 rfl) ?_
                  refine W.lcmp hx hb dX12_one_146 ?_
                  refine lv_topi (fun x_31 ex_31 => ?_)
                  refine lv_if_lt (tgt := 154) hx hb dX12_one_147 (by decide) (fun c_32 => ?_) (fun c_32 => ?_)
                  · skip
                    have lz_33 : (w1 : Int64).toInt < (w2 : Int64).toInt := by have hc := c_32; rw [ex_31] at hc; exact Int64.lt_iff_toInt_lt.mp ((lg_cmp_lt _ _).mp hc)
                    refine lv_lconst (v := 0) hx hb dX12_one_154 (by decide) ?_
                    exact retL (v := 0) hx hb hr hlk hP hD hS () ⟨_, rfl, trivial⟩ [] rfl rfl dX12_one_155 (Nat.le_of_ble_eq_true rfl) (Nat.le_of_ble_eq_true rfl) rfl
                  · skip
                    have lz_34 : (w2 : Int64).toInt ≤ (w1 : Int64).toInt := by have hc := c_32; rw [ex_31] at hc; exact Int64.le_iff_toInt_le.mp (Int64.not_lt.mp (fun z => hc ((lg_cmp_lt _ _).mpr z)))
                    refine lv_lconst (v := 1) hx hb dX12_one_150 (by decide) ?_
                    refine lv_goto (tgt := 155) hx hb dX12_one_151 (by decide) ?_
                    exact retL (v := 1) hx hb hr hlk hP hD hS () ⟨_, rfl, trivial⟩ [] rfl rfl dX12_one_155 (Nat.le_of_ble_eq_true rfl) (Nat.le_of_ble_eq_true rfl) rfl
                · skip
                  by_cases c_35 : x_1 = 10
                  · skip
                    subst c_35
                    refine lv_tableIn (off := 155) (tgt := 156) hx hb dX12_one_1 (by decide) (by decide) (by decide) (by decide) ?_
                    refine lv_lload_n hx hb dX12_one_156 rfl (lv_at hl 1 rfl) ?_
                    refine lv_lload_n hx hb dX12_one_157 rfl (lv_at hl 2 rfl) ?_
                    refine W.lcmp hx hb dX12_one_158 ?_
                    refine lv_topi (fun x_36 ex_36 => ?_)
                    refine lv_if_le (tgt := 166) hx hb dX12_one_159 (by decide) (fun c_37 => ?_) (fun c_37 => ?_)
                    · skip
                      have lz_38 : (w1 : Int64).toInt ≤ (w2 : Int64).toInt := by have hc := c_37; rw [ex_36] at hc; exact Int64.le_iff_toInt_le.mp ((lg_cmp_le _ _).mp hc)
                      refine lv_lconst (v := 0) hx hb dX12_one_166 (by decide) ?_
                      exact retL (v := 0) hx hb hr hlk hP hD hS () ⟨_, rfl, trivial⟩ [] rfl rfl dX12_one_167 (Nat.le_of_ble_eq_true rfl) (Nat.le_of_ble_eq_true rfl) rfl
                    · skip
                      have lz_39 : (w2 : Int64).toInt < (w1 : Int64).toInt := by have hc := c_37; rw [ex_36] at hc; exact Int64.lt_iff_toInt_lt.mp (Int64.not_le.mp (fun z => hc ((lg_cmp_le _ _).mpr z)))
                      refine lv_lconst (v := 1) hx hb dX12_one_162 (by decide) ?_
                      refine lv_goto (tgt := 167) hx hb dX12_one_163 (by decide) ?_
                      exact retL (v := 1) hx hb hr hlk hP hD hS () ⟨_, rfl, trivial⟩ [] rfl rfl dX12_one_167 (Nat.le_of_ble_eq_true rfl) (Nat.le_of_ble_eq_true rfl) rfl
                  · skip
                    by_cases c_40 : x_1 = 11
                    · skip
                      subst c_40
                      refine lv_tableIn (off := 171) (tgt := 172) hx hb dX12_one_1 (by decide) (by decide) (by decide) (by decide) ?_
                      refine lv_lload_n hx hb dX12_one_172 rfl (lv_at hl 1 rfl) ?_
                      refine lv_lload_n hx hb dX12_one_173 rfl (lv_at hl 2 rfl) ?_
                      refine lv_lor hx hb dX12_one_174 ?_
                      refine lv_topl (fun x_41 ex_41 => ?_)
                      exact retL (v := x_41) hx hb hr hlk hP hD hS () ⟨_, rfl, trivial⟩ [] rfl rfl dX12_one_175 (Nat.le_of_ble_eq_true rfl) (Nat.le_of_ble_eq_true rfl) rfl
                    · skip
                      by_cases c_42 : x_1 = 12
                      · skip
                        subst c_42
                        refine lv_tableIn (off := 167) (tgt := 168) hx hb dX12_one_1 (by decide) (by decide) (by decide) (by decide) ?_
                        refine lv_lload_n hx hb dX12_one_168 rfl (lv_at hl 1 rfl) ?_
                        refine lv_lload_n hx hb dX12_one_169 rfl (lv_at hl 2 rfl) ?_
                        refine lv_land hx hb dX12_one_170 ?_
                        refine lv_topl (fun x_43 ex_43 => ?_)
                        exact retL (v := x_43) hx hb hr hlk hP hD hS () ⟨_, rfl, trivial⟩ [] rfl rfl dX12_one_171 (Nat.le_of_ble_eq_true rfl) (Nat.le_of_ble_eq_true rfl) rfl
                      · skip
                        by_cases c_44 : x_1 = 13
                        · skip
                          subst c_44
                          refine lv_tableIn (off := 171) (tgt := 172) hx hb dX12_one_1 (by decide) (by decide) (by decide) (by decide) ?_
                          refine lv_lload_n hx hb dX12_one_172 rfl (lv_at hl 1 rfl) ?_
                          refine lv_lload_n hx hb dX12_one_173 rfl (lv_at hl 2 rfl) ?_
                          refine lv_lor hx hb dX12_one_174 ?_
                          refine lv_topl (fun x_45 ex_45 => ?_)
                          exact retL (v := x_45) hx hb hr hlk hP hD hS () ⟨_, rfl, trivial⟩ [] rfl rfl dX12_one_175 (Nat.le_of_ble_eq_true rfl) (Nat.le_of_ble_eq_true rfl) rfl
                        · skip
                          by_cases c_46 : x_1 = 14
                          · skip
                            subst c_46
                            refine lv_tableIn (off := 93) (tgt := 94) hx hb dX12_one_1 (by decide) (by decide) (by decide) (by decide) ?_
                            refine lv_lload_n hx hb dX12_one_94 rfl (lv_at hl 2 rfl) ?_
                            refine lv_lconst (v := 0) hx hb dX12_one_95 (by decide) ?_
                            refine W.lcmp hx hb dX12_one_96 ?_
                            refine lv_topi (fun x_47 ex_47 => ?_)
                            refine lv_if_ne (tgt := 104) hx hb dX12_one_97 (by decide) (fun c_48 => ?_) (fun c_48 => ?_)
                            · skip
                              refine lv_lload_n hx hb dX12_one_104 rfl (lv_at hl 1 rfl) ?_
                              refine lv_lload_n hx hb dX12_one_105 rfl (lv_at hl 2 rfl) ?_
                              have hz_50 : ¬ w2 = 0 := fun z => c_48 (ex_47.trans ((lg_cmp_eq _ _).mpr z))
                              refine lv_lrem hx hb dX12_one_106 hz_50 ?_
                              refine lv_topl (fun x_51 ex_51 => ?_)
                              exact retL (v := x_51) hx hb hr hlk hP hD hS () ⟨_, rfl, trivial⟩ [] rfl rfl dX12_one_107 (Nat.le_of_ble_eq_true rfl) (Nat.le_of_ble_eq_true rfl) rfl
                            · skip
                              have lz_52 : (w2 : Int64).toInt = (0 : Int64).toInt := by have hc := c_48; rw [ex_47] at hc; exact congrArg Int64.toInt ((lg_cmp_eq _ _).mp hc)
                              refine lv_lconst (v := 0) hx hb dX12_one_100 (by decide) ?_
                              refine lv_goto (tgt := 107) hx hb dX12_one_101 (by decide) ?_
                              exact retL (v := 0) hx hb hr hlk hP hD hS () ⟨_, rfl, trivial⟩ [] rfl rfl dX12_one_107 (Nat.le_of_ble_eq_true rfl) (Nat.le_of_ble_eq_true rfl) rfl
                          · skip
                            have ho_53 : (x_1 : Int32).toInt < 2 ∨ 14 < (x_1 : Int32).toInt := by
                              have z_1 : ¬ (x_1 : Int32).toInt = (2 : Int32).toInt := fun z => c_2 (Int32.toInt_inj.mp z)
                              have z_2 : ¬ (x_1 : Int32).toInt = (3 : Int32).toInt := fun z => c_4 (Int32.toInt_inj.mp z)
                              have z_3 : ¬ (x_1 : Int32).toInt = (4 : Int32).toInt := fun z => c_6 (Int32.toInt_inj.mp z)
                              have z_4 : ¬ (x_1 : Int32).toInt = (5 : Int32).toInt := fun z => c_8 (Int32.toInt_inj.mp z)
                              have z_5 : ¬ (x_1 : Int32).toInt = (6 : Int32).toInt := fun z => c_15 (Int32.toInt_inj.mp z)
                              have z_6 : ¬ (x_1 : Int32).toInt = (7 : Int32).toInt := fun z => c_20 (Int32.toInt_inj.mp z)
                              have z_7 : ¬ (x_1 : Int32).toInt = (8 : Int32).toInt := fun z => c_25 (Int32.toInt_inj.mp z)
                              have z_8 : ¬ (x_1 : Int32).toInt = (9 : Int32).toInt := fun z => c_30 (Int32.toInt_inj.mp z)
                              have z_9 : ¬ (x_1 : Int32).toInt = (10 : Int32).toInt := fun z => c_35 (Int32.toInt_inj.mp z)
                              have z_10 : ¬ (x_1 : Int32).toInt = (11 : Int32).toInt := fun z => c_40 (Int32.toInt_inj.mp z)
                              have z_11 : ¬ (x_1 : Int32).toInt = (12 : Int32).toInt := fun z => c_42 (Int32.toInt_inj.mp z)
                              have z_12 : ¬ (x_1 : Int32).toInt = (13 : Int32).toInt := fun z => c_44 (Int32.toInt_inj.mp z)
                              have z_13 : ¬ (x_1 : Int32).toInt = (14 : Int32).toInt := fun z => c_46 (Int32.toInt_inj.mp z)
                              have y_2 : (2 : Int32).toInt = 2 := by decide
                              have y_3 : (3 : Int32).toInt = 3 := by decide
                              have y_4 : (4 : Int32).toInt = 4 := by decide
                              have y_5 : (5 : Int32).toInt = 5 := by decide
                              have y_6 : (6 : Int32).toInt = 6 := by decide
                              have y_7 : (7 : Int32).toInt = 7 := by decide
                              have y_8 : (8 : Int32).toInt = 8 := by decide
                              have y_9 : (9 : Int32).toInt = 9 := by decide
                              have y_10 : (10 : Int32).toInt = 10 := by decide
                              have y_11 : (11 : Int32).toInt = 11 := by decide
                              have y_12 : (12 : Int32).toInt = 12 := by decide
                              have y_13 : (13 : Int32).toInt = 13 := by decide
                              have y_14 : (14 : Int32).toInt = 14 := by decide
                              omega
                            refine lv_tableOut (tgt := 172) hx hb dX12_one_1 ho_53 (by decide) ?_
                            refine lv_lload_n hx hb dX12_one_172 rfl (lv_at hl 1 rfl) ?_
                            refine lv_lload_n hx hb dX12_one_173 rfl (lv_at hl 2 rfl) ?_
                            refine lv_lor hx hb dX12_one_174 ?_
                            refine lv_topl (fun x_54 ex_54 => ?_)
                            exact retL (v := x_54) hx hb hr hlk hP hD hS () ⟨_, rfl, trivial⟩ [] rfl rfl dX12_one_175 (Nat.le_of_ble_eq_true rfl) (Nat.le_of_ble_eq_true rfl) rfl
set_option maxHeartbeats 4000000 in
set_option maxRecDepth 100000 in
theorem ct_X12_reckons (l : Launch) (D : va_G) (tc : Nat → ClassId) (sk : (Nat → Nat) × (Nat → Nat)) (Ma : Nat → Nat) (Mv : Nat → Int32) (Mf : Nat → Nat → Int32) (Mj : Nat → Int64) (Mg : Nat → Nat → Int64) (x1 : Int32) (x2 : Int32) (x3 : Int32) (h_w : WFc (Mf 2) x1 x2 x3) (h_tt : 0 ≤ x1.toInt ∧ x1.toInt < 6) : Ct l yX12_reckons cX12_reckons 11 (some .long) { frames := 1, cells := 0, slots := 0, locals := 24 } D tc sk [.ref (Ma 0), .int x1, .int x2, .int x3] [((Ma 0), .inr (12, [.ref (Ma 1), .int (Mv 0), .int (Mv 1), .ref (Ma 2), .ref (Ma 3), .ref (Ma 4), .ref (Ma 5), .ref (Ma 6), .int (Mv 2), .int (Mv 3), .int (Mv 4), .int (Mv 5), .int (Mv 6), .int (Mv 7), .int (Mv 8), .ref (Ma 7), .int (Mv 9), .ref (Ma 8), .int (Mv 10), .ref (Ma 9), .ref (Ma 10), .int (Mv 11), .int (Mv 12), .int (Mv 13), .ref (Ma 11), .int (Mv 14), .ref (Ma 12), .ref (Ma 13), .ref (Ma 14), .ref (Ma 15), .ref (Ma 16), .long (Mj 0), .ref (Ma 17), .ref (Ma 18), .ref (Ma 19), .ref (Ma 20)])), ((Ma 2), .inl (tc 0, 2400, .inl (Mf 2))), ((Ma 8), .inl (tc 1, 64, .inr (.inl (Mg 8)))), ((Ma 9), .inl (tc 1, 13, .inr (.inl (Mg 9))))] (fun (v : Option Value) (u : (Int32) × (Nat → Int64)) => match u with | (oo0x1, oo0x2) => ∃ r : Int64, v = some (.long r) ∧ (True)) (fun (u : (Int32) × (Nat → Int64)) => match u with | (oo0x1, oo0x2) => [((Ma 0), .inr (12, [.ref (Ma 1), .int (Mv 0), .int (Mv 1), .ref (Ma 2), .ref (Ma 3), .ref (Ma 4), .ref (Ma 5), .ref (Ma 6), .int (Mv 2), .int (Mv 3), .int (Mv 4), .int (Mv 5), .int (Mv 6), .int (Mv 7), .int (Mv 8), .ref (Ma 7), .int (Mv 9), .ref (Ma 8), .int oo0x1, .ref (Ma 9), .ref (Ma 10), .int (Mv 11), .int (Mv 12), .int (Mv 13), .ref (Ma 11), .int (Mv 14), .ref (Ma 12), .ref (Ma 13), .ref (Ma 14), .ref (Ma 15), .ref (Ma 16), .long (Mj 0), .ref (Ma 17), .ref (Ma 18), .ref (Ma 19), .ref (Ma 20)])), ((Ma 2), .inl (tc 0, 2400, .inl (Mf 2))), ((Ma 8), .inl (tc 1, 64, .inr (.inl oo0x2))), ((Ma 9), .inl (tc 1, 13, .inr (.inl (Mg 9))))]) 0 0 := by
  refine Ct.start (by decide) (Nat.le_of_ble_eq_true rfl) (fun p e s m below meth c A ls hx hb hr hlk hin hml hown hts hK hX hP hD hA hl hS => ?_)
  have hl : lv_has ls 11 [(0, .ref (Ma 0)), (1, .int x1), (2, .int x2), (3, .int x3)] := hl
  have ar_h_w := WFc.ar h_w
  refine lv_aload_n hx hb dX12_reckons_0 rfl (lv_at hl 0 rfl) ?_
  refine lv_iconst (v := 0) hx hb dX12_reckons_1 (by decide) ?_
  refine pf_X12_268 hx hb hts hown hK hP hD hS 0 rfl (Nat.le_of_ble_eq_true rfl) rfl rfl dX12_reckons_2 (fun H locs hP₀ hD₀ hS₀ => ?_)
  replace hP : va_P D classes [((Ma 0), .inr (12, [.ref (Ma 1), .int (Mv 0), .int (Mv 1), .ref (Ma 2), .ref (Ma 3), .ref (Ma 4), .ref (Ma 5), .ref (Ma 6), .int (Mv 2), .int (Mv 3), .int (Mv 4), .int (Mv 5), .int (Mv 6), .int (Mv 7), .int (Mv 8), .ref (Ma 7), .int (Mv 9), .ref (Ma 8), .int 0, .ref (Ma 9), .ref (Ma 10), .int (Mv 11), .int (Mv 12), .int (Mv 13), .ref (Ma 11), .int (Mv 14), .ref (Ma 12), .ref (Ma 13), .ref (Ma 14), .ref (Ma 15), .ref (Ma 16), .long (Mj 0), .ref (Ma 17), .ref (Ma 18), .ref (Ma 19), .ref (Ma 20)])), ((Ma 2), .inl (tc 0, 2400, .inl (Mf 2))), ((Ma 8), .inl (tc 1, 64, .inr (.inl (Mg 8)))), ((Ma 9), .inl (tc 1, 13, .inr (.inl (Mg 9))))] H := hP₀
  replace hD : va_D A [((Ma 0), .inr (12, [.ref (Ma 1), .int (Mv 0), .int (Mv 1), .ref (Ma 2), .ref (Ma 3), .ref (Ma 4), .ref (Ma 5), .ref (Ma 6), .int (Mv 2), .int (Mv 3), .int (Mv 4), .int (Mv 5), .int (Mv 6), .int (Mv 7), .int (Mv 8), .ref (Ma 7), .int (Mv 9), .ref (Ma 8), .int 0, .ref (Ma 9), .ref (Ma 10), .int (Mv 11), .int (Mv 12), .int (Mv 13), .ref (Ma 11), .int (Mv 14), .ref (Ma 12), .ref (Ma 13), .ref (Ma 14), .ref (Ma 15), .ref (Ma 16), .long (Mj 0), .ref (Ma 17), .ref (Ma 18), .ref (Ma 19), .ref (Ma 20)])), ((Ma 2), .inl (tc 0, 2400, .inl (Mf 2))), ((Ma 8), .inl (tc 1, 64, .inr (.inl (Mg 8)))), ((Ma 9), .inl (tc 1, 13, .inr (.inl (Mg 9))))] := hD₀
  replace hS := hS₀
  clear hP₀ hD₀ hS₀
  refine lv_iload_n hx hb dX12_reckons_5 rfl (lv_at hl 2 rfl) ?_
  refine lv_istore (lv' := [(4, .int x2), (0, .ref (Ma 0)), (1, .int x1), (2, .int x2), (3, .int x3)]) hx hb dX12_reckons_6 hl (by decide) rfl (fun ls hl₀ => ?_)
  replace hl := hl₀
  clear hl₀
  have loop_9 : ∀ (n_7 : Nat) (vy_4 : Int32) (vy_5 : Int32) (vy_6 : Nat → Int64) (H : Heap) (locs : List Loc) (ls : Array Slot), (x3.toInt - (vy_4 : Int32).toInt).toNat < n_7 → (RK (Mf 2) x1 vy_4 x3 vy_5) → va_P D classes [((Ma 0), .inr (12, [.ref (Ma 1), .int (Mv 0), .int (Mv 1), .ref (Ma 2), .ref (Ma 3), .ref (Ma 4), .ref (Ma 5), .ref (Ma 6), .int (Mv 2), .int (Mv 3), .int (Mv 4), .int (Mv 5), .int (Mv 6), .int (Mv 7), .int (Mv 8), .ref (Ma 7), .int (Mv 9), .ref (Ma 8), .int vy_5, .ref (Ma 9), .ref (Ma 10), .int (Mv 11), .int (Mv 12), .int (Mv 13), .ref (Ma 11), .int (Mv 14), .ref (Ma 12), .ref (Ma 13), .ref (Ma 14), .ref (Ma 15), .ref (Ma 16), .long (Mj 0), .ref (Ma 17), .ref (Ma 18), .ref (Ma 19), .ref (Ma 20)])), ((Ma 2), .inl (tc 0, 2400, .inl (Mf 2))), ((Ma 8), .inl (tc 1, 64, .inr (.inl vy_6))), ((Ma 9), .inl (tc 1, 13, .inr (.inl (Mg 9))))] H → va_D A [((Ma 0), .inr (12, [.ref (Ma 1), .int (Mv 0), .int (Mv 1), .ref (Ma 2), .ref (Ma 3), .ref (Ma 4), .ref (Ma 5), .ref (Ma 6), .int (Mv 2), .int (Mv 3), .int (Mv 4), .int (Mv 5), .int (Mv 6), .int (Mv 7), .int (Mv 8), .ref (Ma 7), .int (Mv 9), .ref (Ma 8), .int vy_5, .ref (Ma 9), .ref (Ma 10), .int (Mv 11), .int (Mv 12), .int (Mv 13), .ref (Ma 11), .int (Mv 14), .ref (Ma 12), .ref (Ma 13), .ref (Ma 14), .ref (Ma 15), .ref (Ma 16), .long (Mj 0), .ref (Ma 17), .ref (Ma 18), .ref (Ma 19), .ref (Ma 20)])), ((Ma 2), .inl (tc 0, 2400, .inl (Mf 2))), ((Ma 8), .inl (tc 1, 64, .inr (.inl vy_6))), ((Ma 9), .inl (tc 1, 13, .inr (.inl (Mg 9))))] → va_S A s.heap H locs → lv_has ls 11 [(4, .int vy_4), (0, .ref (Ma 0)), (1, .int x1), (2, .int x2), (3, .int x3)] → W p l e ({ frames := 1, cells := 0, slots := 0, locals := 24 }) s m ([.ref (Ma 0), .int x1, .int x2, .int x3].toArray) below meth c H locs 0 0 (MQ below (QW (fun (v : Option Value) (u : (Int32) × (Nat → Int64)) => match u with | (oo0x1, oo0x2) => ∃ r : Int64, v = some (.long r) ∧ (True)) (BW D (fun (u : (Int32) × (Nat → Int64)) => match u with | (oo0x1, oo0x2) => [((Ma 0), .inr (12, [.ref (Ma 1), .int (Mv 0), .int (Mv 1), .ref (Ma 2), .ref (Ma 3), .ref (Ma 4), .ref (Ma 5), .ref (Ma 6), .int (Mv 2), .int (Mv 3), .int (Mv 4), .int (Mv 5), .int (Mv 6), .int (Mv 7), .int (Mv 8), .ref (Ma 7), .int (Mv 9), .ref (Ma 8), .int oo0x1, .ref (Ma 9), .ref (Ma 10), .int (Mv 11), .int (Mv 12), .int (Mv 13), .ref (Ma 11), .int (Mv 14), .ref (Ma 12), .ref (Ma 13), .ref (Ma 14), .ref (Ma 15), .ref (Ma 16), .long (Mj 0), .ref (Ma 17), .ref (Ma 18), .ref (Ma 19), .ref (Ma 20)])), ((Ma 2), .inl (tc 0, 2400, .inl (Mf 2))), ((Ma 8), .inl (tc 1, 64, .inr (.inl oo0x2))), ((Ma 9), .inl (tc 1, 13, .inr (.inl (Mg 9))))]) A) A) ([.ref (Ma 0), .int x1, .int x2, .int x3].toArray) s 0 0 A) (F0 m 8 ls []) := by
    clear hP hD hS hl
    intro n_7
    induction n_7 with
    | zero =>
      intro vy_4 vy_5 vy_6 H locs ls h1
      exact absurd h1 (Nat.not_lt_zero _)
    | succ n_7 ih_8 =>
      intro vy_4 vy_5 vy_6 H locs ls hn_11 pf_10 hP hD hS hl
      have ar_pf_10 := RK.ar pf_10
      refine lv_iload hx hb dX12_reckons_8 (lv_at hl 0 rfl) ?_
      refine lv_iload_n hx hb dX12_reckons_10 rfl (lv_at hl 4 rfl) ?_
      refine lv_icmp_ge (tgt := 135) hx hb dX12_reckons_11 (by decide) (fun c_12 => ?_) (fun c_12 => ?_)
      · skip
        refine lv_aload_n hx hb dX12_reckons_135 rfl (lv_at hl 1 rfl) ?_
        have ha_13 : 1 ≤ vy_5.toInt ∧ vy_5.toInt ≤ 64 := by
          have z_1 := Int32.le_iff_toInt_le.mp c_12
          omega
        refine cV (a := (Ma 0)) (As := []) (rest := []) (wr := [((Ma 2), .inl (tc 0, 2400, .inl (Mf 2))), ((Ma 9), .inl (tc 1, 13, .inr (.inl (Mg 9))))]) ⟨hx, hb, hml, hown, hts⟩ hK hX hA (cu_X12_pop l D tc sk (Ma 0) (Ma 1) (Ma 2) (Ma 3) (Ma 4) (Ma 5) (Ma 6) (Ma 7) (Ma 8) (Ma 9) (Ma 10) (Ma 11) (Ma 12) (Ma 13) (Ma 14) (Ma 15) (Ma 16) (Ma 17) (Ma 18) (Ma 19) (Ma 20) (Mv 0) (Mv 1) (Mv 2) (Mv 3) (Mv 4) (Mv 5) (Mv 6) (Mv 7) (Mv 8) (Mv 9) vy_5 (Mv 11) (Mv 12) (Mv 13) (Mv 14) (Mj 0) vy_6 ha_13) k_1455 k_1452 k_1454 k_75 k_106 pl_X12_pop ⟨Nat.le_of_ble_eq_true rfl, Nat.le_of_ble_eq_true rfl⟩ rfl rfl (va_recv hK hP (ci := 12) (q0 := 0) rfl rfl) hP hD hS [0, 2] [1, 3] rfl rfl rfl rfl rfl (by decide) rfl hl.1 rfl (Nat.le_of_ble_eq_true rfl) dX12_reckons_136 ⟨Nat.le_of_ble_eq_true rfl, Nat.le_of_ble_eq_true rfl⟩ (fun v_14 u_15 H locs hv_16 hP₀ hD₀ hS₀ => ?_)
        obtain ⟨sv_17, rfl⟩ : ∃ z, z = u_15 := ⟨_, rfl⟩
        obtain ⟨r_19, rfl, he_20, pf_18⟩ := hv_16
        have pf_18 : (sv_17 : Int32).toInt = vy_5.toInt - 1 := pf_18
        refine W.eq (g2 := F0 m 139 ls [.long r_19]) rfl ?_
        replace hP : va_P D classes [((Ma 2), .inl (tc 0, 2400, .inl (Mf 2))), ((Ma 9), .inl (tc 1, 13, .inr (.inl (Mg 9)))), ((Ma 0), .inr (12, [.ref (Ma 1), .int (Mv 0), .int (Mv 1), .ref (Ma 2), .ref (Ma 3), .ref (Ma 4), .ref (Ma 5), .ref (Ma 6), .int (Mv 2), .int (Mv 3), .int (Mv 4), .int (Mv 5), .int (Mv 6), .int (Mv 7), .int (Mv 8), .ref (Ma 7), .int (Mv 9), .ref (Ma 8), .int sv_17, .ref (Ma 9), .ref (Ma 10), .int (Mv 11), .int (Mv 12), .int (Mv 13), .ref (Ma 11), .int (Mv 14), .ref (Ma 12), .ref (Ma 13), .ref (Ma 14), .ref (Ma 15), .ref (Ma 16), .long (Mj 0), .ref (Ma 17), .ref (Ma 18), .ref (Ma 19), .ref (Ma 20)])), ((Ma 8), .inl (tc 1, 64, .inr (.inl vy_6)))] H := hP₀
        replace hD : va_D A [((Ma 2), .inl (tc 0, 2400, .inl (Mf 2))), ((Ma 9), .inl (tc 1, 13, .inr (.inl (Mg 9)))), ((Ma 0), .inr (12, [.ref (Ma 1), .int (Mv 0), .int (Mv 1), .ref (Ma 2), .ref (Ma 3), .ref (Ma 4), .ref (Ma 5), .ref (Ma 6), .int (Mv 2), .int (Mv 3), .int (Mv 4), .int (Mv 5), .int (Mv 6), .int (Mv 7), .int (Mv 8), .ref (Ma 7), .int (Mv 9), .ref (Ma 8), .int sv_17, .ref (Ma 9), .ref (Ma 10), .int (Mv 11), .int (Mv 12), .int (Mv 13), .ref (Ma 11), .int (Mv 14), .ref (Ma 12), .ref (Ma 13), .ref (Ma 14), .ref (Ma 15), .ref (Ma 16), .long (Mj 0), .ref (Ma 17), .ref (Ma 18), .ref (Ma 19), .ref (Ma 20)])), ((Ma 8), .inl (tc 1, 64, .inr (.inl vy_6)))] := hD₀
        replace hS := hS₀
        clear hP₀ hD₀ hS₀
        exact retL (v := r_19) hx hb hr hlk hP hD hS (sv_17, vy_6) ⟨_, rfl, trivial⟩ [2, 0, 3, 1] rfl rfl dX12_reckons_139 (Nat.le_of_ble_eq_true rfl) (Nat.le_of_ble_eq_true rfl) rfl
      · skip
        refine lv_aload_n hx hb dX12_reckons_14 rfl (lv_at hl 1 rfl) ?_
        refine gf_X12_13 hx hb hts hown hK hP 0 rfl rfl dX12_reckons_15 ?_
        refine lv_sipush (v := 400) hx hb dX12_reckons_18 (by decide) ?_
        refine lv_iload_n hx hb dX12_reckons_21 rfl (lv_at hl 2 rfl) ?_
        refine lv_imul hx hb dX12_reckons_22 ?_
        refine lv_topi (fun x_22 ex_22 => ?_)
        refine lv_iload hx hb dX12_reckons_23 (lv_at hl 0 rfl) ?_
        refine lv_iadd hx hb dX12_reckons_25 ?_
        refine lv_topi (fun x_23 ex_23 => ?_)
        have hi_24 : vp_in x_23 2400 := by
          have z_1 := Int32.lt_iff_toInt_lt.mp (Int32.not_le.mp c_12)
          have y_400 : (400 : Int32).toInt = 400 := by decide
          have t_x_22 : x_22.toInt = (400 : Int32).toInt * (x1 : Int32).toInt := by rw [ex_22]; exact mul_toInt (by first | omega | (rw [y_400]; omega)) (by first | omega | (rw [y_400]; omega))
          rw [y_400] at t_x_22
          have t_x_23 : x_23.toInt = (x_22 : Int32).toInt + (vy_4 : Int32).toInt := by rw [ex_23]; exact add_toInt (by omega) (by omega)
          refine vp_in_iff.mpr ⟨?_, ?_⟩ <;> omega
        refine va_iald hx hb hK hP 1 0 rfl rfl hi_24 dX12_reckons_26 ?_
        refine lv_topi (fun x_25 ex_25 => ?_)
        have hj_26 : (x_23 : Int32).toInt = 400 * (x1 : Int32).toInt + (vy_4 : Int32).toInt := by
          have z_1 := Int32.lt_iff_toInt_lt.mp (Int32.not_le.mp c_12)
          have y_400 : (400 : Int32).toInt = 400 := by decide
          have t_x_22 : x_22.toInt = (400 : Int32).toInt * (x1 : Int32).toInt := by rw [ex_22]; exact mul_toInt (by first | omega | (rw [y_400]; omega)) (by first | omega | (rw [y_400]; omega))
          rw [y_400] at t_x_22
          have t_x_23 : x_23.toInt = (x_22 : Int32).toInt + (vy_4 : Int32).toInt := by rw [ex_23]; exact add_toInt (by omega) (by omega)
          omega
        have hl_27 : (vy_4 : Int32).toInt < (x3 : Int32).toInt := by
          have z_1 := Int32.lt_iff_toInt_lt.mp (Int32.not_le.mp c_12)
          omega
        have hc_28 := RK.cases pf_10 hl_27 h_tt.1 hj_26 ex_25
        refine lv_bipush (v := 15) hx hb dX12_reckons_27 (by decide) ?_
        refine lv_iand hx hb dX12_reckons_29 ?_
        refine lv_topi (fun x_29 ex_29 => ?_)
        have lx_29 := congrArg Int32.toInt ex_29
        refine lv_istore (lv' := [(5, .int x_29), (4, .int vy_4), (0, .ref (Ma 0)), (1, .int x1), (2, .int x2), (3, .int x3)]) hx hb dX12_reckons_30 hl (by decide) rfl (fun ls hl₀ => ?_)
        replace hl := hl₀
        clear hl₀
        refine lv_aload_n hx hb dX12_reckons_32 rfl (lv_at hl 2 rfl) ?_
        refine gf_X12_13 hx hb hts hown hK hP 0 rfl rfl dX12_reckons_33 ?_
        refine lv_sipush (v := 400) hx hb dX12_reckons_36 (by decide) ?_
        refine lv_iload_n hx hb dX12_reckons_39 rfl (lv_at hl 3 rfl) ?_
        refine lv_imul hx hb dX12_reckons_40 ?_
        refine lv_topi (fun x_30 ex_30 => ?_)
        refine lv_iload hx hb dX12_reckons_41 (lv_at hl 1 rfl) ?_
        refine lv_iadd hx hb dX12_reckons_43 ?_
        refine lv_topi (fun x_31 ex_31 => ?_)
        have hi_32 : vp_in x_31 2400 := by
          have z_1 := Int32.lt_iff_toInt_lt.mp (Int32.not_le.mp c_12)
          have y_400 : (400 : Int32).toInt = 400 := by decide
          have t_x_30 : x_30.toInt = (400 : Int32).toInt * (x1 : Int32).toInt := by rw [ex_30]; exact mul_toInt (by first | omega | (rw [y_400]; omega)) (by first | omega | (rw [y_400]; omega))
          rw [y_400] at t_x_30
          have t_x_31 : x_31.toInt = (x_30 : Int32).toInt + (vy_4 : Int32).toInt := by rw [ex_31]; exact add_toInt (by omega) (by omega)
          refine vp_in_iff.mpr ⟨?_, ?_⟩ <;> omega
        refine va_iald hx hb hK hP 1 0 rfl rfl hi_32 dX12_reckons_44 ?_
        refine lv_topi (fun x_33 ex_33 => ?_)
        have hj_34 : (x_31 : Int32).toInt = 400 * (x1 : Int32).toInt + (vy_4 : Int32).toInt := by
          have z_1 := Int32.lt_iff_toInt_lt.mp (Int32.not_le.mp c_12)
          have y_400 : (400 : Int32).toInt = 400 := by decide
          have t_x_30 : x_30.toInt = (400 : Int32).toInt * (x1 : Int32).toInt := by rw [ex_30]; exact mul_toInt (by first | omega | (rw [y_400]; omega)) (by first | omega | (rw [y_400]; omega))
          rw [y_400] at t_x_30
          have t_x_31 : x_31.toInt = (x_30 : Int32).toInt + (vy_4 : Int32).toInt := by rw [ex_31]; exact add_toInt (by omega) (by omega)
          omega
        have hl_35 : (vy_4 : Int32).toInt < (x3 : Int32).toInt := by
          have z_1 := Int32.lt_iff_toInt_lt.mp (Int32.not_le.mp c_12)
          omega
        have qx_33 : x_33 = x_25 := by rw [ex_33, ex_25, Int32.toInt_inj.mp (hj_34.trans hj_26.symm)]
        refine lv_iconst (v := 4) hx hb dX12_reckons_45 (by decide) ?_
        refine lv_ishr hx hb dX12_reckons_46 ?_
        refine lv_topi (fun x_36 ex_36 => ?_)
        have lx_36 : x_36.toInt = (x_25 >>> (4 &&& 31)).toInt := by rw [ex_36, qx_33]
        refine lv_istore (lv' := [(6, .int x_36), (5, .int x_29), (4, .int vy_4), (0, .ref (Ma 0)), (1, .int x1), (2, .int x2), (3, .int x3)]) hx hb dX12_reckons_47 hl (by decide) rfl (fun ls hl₀ => ?_)
        replace hl := hl₀
        clear hl₀
        refine lv_iload hx hb dX12_reckons_49 (lv_at hl 1 rfl) ?_
        refine lv_if_ne (tgt := 64) hx hb dX12_reckons_51 (by decide) (fun c_37 => ?_) (fun c_37 => ?_)
        · skip
          refine lv_iload hx hb dX12_reckons_64 (lv_at hl 1 rfl) ?_
          refine lv_iconst (v := 1) hx hb dX12_reckons_66 (by decide) ?_
          refine lv_icmp_ne (tgt := 84) hx hb dX12_reckons_67 (by decide) (fun c_38 => ?_) (fun c_38 => ?_)
          · skip
            refine lv_iload hx hb dX12_reckons_84 (lv_at hl 1 rfl) ?_
            refine lv_bipush (v := 11) hx hb dX12_reckons_86 (by decide) ?_
            refine lv_icmp_ne (tgt := 104) hx hb dX12_reckons_88 (by decide) (fun c_39 => ?_) (fun c_39 => ?_)
            · skip
              refine lv_aload_n hx hb dX12_reckons_104 rfl (lv_at hl 3 rfl) ?_
              have ha_40 : 1 ≤ vy_5.toInt ∧ vy_5.toInt ≤ 64 := by
                have z_1 := Int32.lt_iff_toInt_lt.mp (Int32.not_le.mp c_12)
                have z_2 : ¬ (x_29 : Int32).toInt = (0 : Int32).toInt := fun z => c_37 (Int32.toInt_inj.mp z)
                have z_3 : ¬ (x_29 : Int32).toInt = (1 : Int32).toInt := fun z => c_38 (Int32.toInt_inj.mp z)
                have z_4 : ¬ (x_29 : Int32).toInt = (11 : Int32).toInt := fun z => c_39 (Int32.toInt_inj.mp z)
                have y_0 : (0 : Int32).toInt = 0 := by decide
                have y_1 : (1 : Int32).toInt = 1 := by decide
                have y_11 : (11 : Int32).toInt = 11 := by decide
                omega
              refine cV (a := (Ma 0)) (As := []) (rest := []) (wr := [((Ma 2), .inl (tc 0, 2400, .inl (Mf 2))), ((Ma 9), .inl (tc 1, 13, .inr (.inl (Mg 9))))]) ⟨hx, hb, hml, hown, hts⟩ hK hX hA (cu_X12_pop l D tc sk (Ma 0) (Ma 1) (Ma 2) (Ma 3) (Ma 4) (Ma 5) (Ma 6) (Ma 7) (Ma 8) (Ma 9) (Ma 10) (Ma 11) (Ma 12) (Ma 13) (Ma 14) (Ma 15) (Ma 16) (Ma 17) (Ma 18) (Ma 19) (Ma 20) (Mv 0) (Mv 1) (Mv 2) (Mv 3) (Mv 4) (Mv 5) (Mv 6) (Mv 7) (Mv 8) (Mv 9) vy_5 (Mv 11) (Mv 12) (Mv 13) (Mv 14) (Mj 0) vy_6 ha_40) k_1455 k_1452 k_1454 k_75 k_106 pl_X12_pop ⟨Nat.le_of_ble_eq_true rfl, Nat.le_of_ble_eq_true rfl⟩ rfl rfl (va_recv hK hP (ci := 12) (q0 := 0) rfl rfl) hP hD hS [0, 2] [1, 3] rfl rfl rfl rfl rfl (by decide) rfl hl.1 rfl (Nat.le_of_ble_eq_true rfl) dX12_reckons_105 ⟨Nat.le_of_ble_eq_true rfl, Nat.le_of_ble_eq_true rfl⟩ (fun v_41 u_42 H locs hv_43 hP₀ hD₀ hS₀ => ?_)
              obtain ⟨sv_44, rfl⟩ : ∃ z, z = u_42 := ⟨_, rfl⟩
              obtain ⟨r_46, rfl, he_47, pf_45⟩ := hv_43
              have pf_45 : (sv_44 : Int32).toInt = vy_5.toInt - 1 := pf_45
              refine W.eq (g2 := F0 m 108 ls [.long r_46]) rfl ?_
              replace hP : va_P D classes [((Ma 2), .inl (tc 0, 2400, .inl (Mf 2))), ((Ma 9), .inl (tc 1, 13, .inr (.inl (Mg 9)))), ((Ma 0), .inr (12, [.ref (Ma 1), .int (Mv 0), .int (Mv 1), .ref (Ma 2), .ref (Ma 3), .ref (Ma 4), .ref (Ma 5), .ref (Ma 6), .int (Mv 2), .int (Mv 3), .int (Mv 4), .int (Mv 5), .int (Mv 6), .int (Mv 7), .int (Mv 8), .ref (Ma 7), .int (Mv 9), .ref (Ma 8), .int sv_44, .ref (Ma 9), .ref (Ma 10), .int (Mv 11), .int (Mv 12), .int (Mv 13), .ref (Ma 11), .int (Mv 14), .ref (Ma 12), .ref (Ma 13), .ref (Ma 14), .ref (Ma 15), .ref (Ma 16), .long (Mj 0), .ref (Ma 17), .ref (Ma 18), .ref (Ma 19), .ref (Ma 20)])), ((Ma 8), .inl (tc 1, 64, .inr (.inl vy_6)))] H := hP₀
              replace hD : va_D A [((Ma 2), .inl (tc 0, 2400, .inl (Mf 2))), ((Ma 9), .inl (tc 1, 13, .inr (.inl (Mg 9)))), ((Ma 0), .inr (12, [.ref (Ma 1), .int (Mv 0), .int (Mv 1), .ref (Ma 2), .ref (Ma 3), .ref (Ma 4), .ref (Ma 5), .ref (Ma 6), .int (Mv 2), .int (Mv 3), .int (Mv 4), .int (Mv 5), .int (Mv 6), .int (Mv 7), .int (Mv 8), .ref (Ma 7), .int (Mv 9), .ref (Ma 8), .int sv_44, .ref (Ma 9), .ref (Ma 10), .int (Mv 11), .int (Mv 12), .int (Mv 13), .ref (Ma 11), .int (Mv 14), .ref (Ma 12), .ref (Ma 13), .ref (Ma 14), .ref (Ma 15), .ref (Ma 16), .long (Mj 0), .ref (Ma 17), .ref (Ma 18), .ref (Ma 19), .ref (Ma 20)])), ((Ma 8), .inl (tc 1, 64, .inr (.inl vy_6)))] := hD₀
              replace hS := hS₀
              clear hP₀ hD₀ hS₀
              refine lv_lstore (lv' := [(7, .long r_46), (6, .int x_36), (5, .int x_29), (4, .int vy_4), (0, .ref (Ma 0)), (1, .int x1), (2, .int x2), (3, .int x3)]) hx hb dX12_reckons_108 hl (by decide) rfl (fun ls hl₀ => ?_)
              replace hl := hl₀
              clear hl₀
              refine lv_aload_n hx hb dX12_reckons_110 rfl (lv_at hl 4 rfl) ?_
              have ha_49 : 1 ≤ sv_44.toInt ∧ sv_44.toInt ≤ 64 := by
                have z_1 := Int32.lt_iff_toInt_lt.mp (Int32.not_le.mp c_12)
                have z_2 : ¬ (x_29 : Int32).toInt = (0 : Int32).toInt := fun z => c_37 (Int32.toInt_inj.mp z)
                have z_3 : ¬ (x_29 : Int32).toInt = (1 : Int32).toInt := fun z => c_38 (Int32.toInt_inj.mp z)
                have z_4 : ¬ (x_29 : Int32).toInt = (11 : Int32).toInt := fun z => c_39 (Int32.toInt_inj.mp z)
                have y_0 : (0 : Int32).toInt = 0 := by decide
                have y_1 : (1 : Int32).toInt = 1 := by decide
                have y_11 : (11 : Int32).toInt = 11 := by decide
                omega
              refine cV (a := (Ma 0)) (As := []) (rest := []) (wr := [((Ma 2), .inl (tc 0, 2400, .inl (Mf 2))), ((Ma 9), .inl (tc 1, 13, .inr (.inl (Mg 9))))]) ⟨hx, hb, hml, hown, hts⟩ hK hX hA (cu_X12_pop l D tc sk (Ma 0) (Ma 1) (Ma 2) (Ma 3) (Ma 4) (Ma 5) (Ma 6) (Ma 7) (Ma 8) (Ma 9) (Ma 10) (Ma 11) (Ma 12) (Ma 13) (Ma 14) (Ma 15) (Ma 16) (Ma 17) (Ma 18) (Ma 19) (Ma 20) (Mv 0) (Mv 1) (Mv 2) (Mv 3) (Mv 4) (Mv 5) (Mv 6) (Mv 7) (Mv 8) (Mv 9) sv_44 (Mv 11) (Mv 12) (Mv 13) (Mv 14) (Mj 0) vy_6 ha_49) k_1455 k_1452 k_1454 k_75 k_106 pl_X12_pop ⟨Nat.le_of_ble_eq_true rfl, Nat.le_of_ble_eq_true rfl⟩ rfl rfl (va_recv hK hP (ci := 12) (q0 := 2) rfl rfl) hP hD hS [2, 3] [0, 1] rfl rfl rfl rfl rfl (by decide) rfl hl.1 rfl (Nat.le_of_ble_eq_true rfl) dX12_reckons_111 ⟨Nat.le_of_ble_eq_true rfl, Nat.le_of_ble_eq_true rfl⟩ (fun v_50 u_51 H locs hv_52 hP₀ hD₀ hS₀ => ?_)
              obtain ⟨sv_53, rfl⟩ : ∃ z, z = u_51 := ⟨_, rfl⟩
              obtain ⟨r_55, rfl, he_56, pf_54⟩ := hv_52
              have pf_54 : (sv_53 : Int32).toInt = sv_44.toInt - 1 := pf_54
              refine W.eq (g2 := F0 m 114 ls [.long r_55]) rfl ?_
              replace hP : va_P D classes [((Ma 2), .inl (tc 0, 2400, .inl (Mf 2))), ((Ma 9), .inl (tc 1, 13, .inr (.inl (Mg 9)))), ((Ma 0), .inr (12, [.ref (Ma 1), .int (Mv 0), .int (Mv 1), .ref (Ma 2), .ref (Ma 3), .ref (Ma 4), .ref (Ma 5), .ref (Ma 6), .int (Mv 2), .int (Mv 3), .int (Mv 4), .int (Mv 5), .int (Mv 6), .int (Mv 7), .int (Mv 8), .ref (Ma 7), .int (Mv 9), .ref (Ma 8), .int sv_53, .ref (Ma 9), .ref (Ma 10), .int (Mv 11), .int (Mv 12), .int (Mv 13), .ref (Ma 11), .int (Mv 14), .ref (Ma 12), .ref (Ma 13), .ref (Ma 14), .ref (Ma 15), .ref (Ma 16), .long (Mj 0), .ref (Ma 17), .ref (Ma 18), .ref (Ma 19), .ref (Ma 20)])), ((Ma 8), .inl (tc 1, 64, .inr (.inl vy_6)))] H := hP₀
              replace hD : va_D A [((Ma 2), .inl (tc 0, 2400, .inl (Mf 2))), ((Ma 9), .inl (tc 1, 13, .inr (.inl (Mg 9)))), ((Ma 0), .inr (12, [.ref (Ma 1), .int (Mv 0), .int (Mv 1), .ref (Ma 2), .ref (Ma 3), .ref (Ma 4), .ref (Ma 5), .ref (Ma 6), .int (Mv 2), .int (Mv 3), .int (Mv 4), .int (Mv 5), .int (Mv 6), .int (Mv 7), .int (Mv 8), .ref (Ma 7), .int (Mv 9), .ref (Ma 8), .int sv_53, .ref (Ma 9), .ref (Ma 10), .int (Mv 11), .int (Mv 12), .int (Mv 13), .ref (Ma 11), .int (Mv 14), .ref (Ma 12), .ref (Ma 13), .ref (Ma 14), .ref (Ma 15), .ref (Ma 16), .long (Mj 0), .ref (Ma 17), .ref (Ma 18), .ref (Ma 19), .ref (Ma 20)])), ((Ma 8), .inl (tc 1, 64, .inr (.inl vy_6)))] := hD₀
              replace hS := hS₀
              clear hP₀ hD₀ hS₀
              refine lv_lstore (lv' := [(9, .long r_55), (7, .long r_46), (6, .int x_36), (5, .int x_29), (4, .int vy_4), (0, .ref (Ma 0)), (1, .int x1), (2, .int x2), (3, .int x3)]) hx hb dX12_reckons_114 hl (by decide) rfl (fun ls hl₀ => ?_)
              replace hl := hl₀
              clear hl₀
              refine lv_aload_n hx hb dX12_reckons_116 rfl (lv_at hl 5 rfl) ?_
              refine lv_iload hx hb dX12_reckons_117 (lv_at hl 3 rfl) ?_
              refine lv_lload hx hb dX12_reckons_119 (lv_at hl 0 rfl) ?_
              refine lv_lload hx hb dX12_reckons_121 (lv_at hl 1 rfl) ?_
              refine cS (As := [.int x_29, .long r_55, .long r_46]) (rest := [.ref (Ma 0)]) (wr := [((Ma 2), .inl (tc 0, 2400, .inl (Mf 2))), ((Ma 9), .inl (tc 1, 13, .inr (.inl (Mg 9)))), ((Ma 0), .inr (12, [.ref (Ma 1), .int (Mv 0), .int (Mv 1), .ref (Ma 2), .ref (Ma 3), .ref (Ma 4), .ref (Ma 5), .ref (Ma 6), .int (Mv 2), .int (Mv 3), .int (Mv 4), .int (Mv 5), .int (Mv 6), .int (Mv 7), .int (Mv 8), .ref (Ma 7), .int (Mv 9), .ref (Ma 8), .int sv_53, .ref (Ma 9), .ref (Ma 10), .int (Mv 11), .int (Mv 12), .int (Mv 13), .ref (Ma 11), .int (Mv 14), .ref (Ma 12), .ref (Ma 13), .ref (Ma 14), .ref (Ma 15), .ref (Ma 16), .long (Mj 0), .ref (Ma 17), .ref (Ma 18), .ref (Ma 19), .ref (Ma 20)])), ((Ma 8), .inl (tc 1, 64, .inr (.inl vy_6)))]) ⟨hx, hb, hml, hown, hts⟩ hK hX hA (ct_X12_one l D tc sk x_29 r_55 r_46) k_1458 k_1456 k_1457 k_106 pl_X12_one ⟨Nat.le_of_ble_eq_true rfl, Nat.le_of_ble_eq_true rfl⟩ rfl rfl  hP hD hS [] [0, 1, 2, 3] rfl rfl rfl rfl rfl (by decide) rfl hl.1 rfl (Nat.le_of_ble_eq_true rfl) dX12_reckons_123 ⟨Nat.le_of_ble_eq_true rfl, Nat.le_of_ble_eq_true rfl⟩ (fun v_58 u_59 H locs hv_60 hP₀ hD₀ hS₀ => ?_)
              obtain ⟨r_61, rfl, he_62⟩ := hv_60
              refine W.eq (g2 := F0 m 126 ls [.long r_61, .ref (Ma 0)]) rfl ?_
              replace hP : va_P D classes [((Ma 2), .inl (tc 0, 2400, .inl (Mf 2))), ((Ma 9), .inl (tc 1, 13, .inr (.inl (Mg 9)))), ((Ma 0), .inr (12, [.ref (Ma 1), .int (Mv 0), .int (Mv 1), .ref (Ma 2), .ref (Ma 3), .ref (Ma 4), .ref (Ma 5), .ref (Ma 6), .int (Mv 2), .int (Mv 3), .int (Mv 4), .int (Mv 5), .int (Mv 6), .int (Mv 7), .int (Mv 8), .ref (Ma 7), .int (Mv 9), .ref (Ma 8), .int sv_53, .ref (Ma 9), .ref (Ma 10), .int (Mv 11), .int (Mv 12), .int (Mv 13), .ref (Ma 11), .int (Mv 14), .ref (Ma 12), .ref (Ma 13), .ref (Ma 14), .ref (Ma 15), .ref (Ma 16), .long (Mj 0), .ref (Ma 17), .ref (Ma 18), .ref (Ma 19), .ref (Ma 20)])), ((Ma 8), .inl (tc 1, 64, .inr (.inl vy_6)))] H := hP₀
              replace hD : va_D A [((Ma 2), .inl (tc 0, 2400, .inl (Mf 2))), ((Ma 9), .inl (tc 1, 13, .inr (.inl (Mg 9)))), ((Ma 0), .inr (12, [.ref (Ma 1), .int (Mv 0), .int (Mv 1), .ref (Ma 2), .ref (Ma 3), .ref (Ma 4), .ref (Ma 5), .ref (Ma 6), .int (Mv 2), .int (Mv 3), .int (Mv 4), .int (Mv 5), .int (Mv 6), .int (Mv 7), .int (Mv 8), .ref (Ma 7), .int (Mv 9), .ref (Ma 8), .int sv_53, .ref (Ma 9), .ref (Ma 10), .int (Mv 11), .int (Mv 12), .int (Mv 13), .ref (Ma 11), .int (Mv 14), .ref (Ma 12), .ref (Ma 13), .ref (Ma 14), .ref (Ma 15), .ref (Ma 16), .long (Mj 0), .ref (Ma 17), .ref (Ma 18), .ref (Ma 19), .ref (Ma 20)])), ((Ma 8), .inl (tc 1, 64, .inr (.inl vy_6)))] := hD₀
              replace hS := hS₀
              clear hP₀ hD₀ hS₀
              have ha_64 : 0 ≤ sv_53.toInt ∧ sv_53.toInt < 64 := by
                have z_1 := Int32.lt_iff_toInt_lt.mp (Int32.not_le.mp c_12)
                have z_2 : ¬ (x_29 : Int32).toInt = (0 : Int32).toInt := fun z => c_37 (Int32.toInt_inj.mp z)
                have z_3 : ¬ (x_29 : Int32).toInt = (1 : Int32).toInt := fun z => c_38 (Int32.toInt_inj.mp z)
                have z_4 : ¬ (x_29 : Int32).toInt = (11 : Int32).toInt := fun z => c_39 (Int32.toInt_inj.mp z)
                have y_0 : (0 : Int32).toInt = 0 := by decide
                have y_1 : (1 : Int32).toInt = 1 := by decide
                have y_11 : (11 : Int32).toInt = 11 := by decide
                omega
              refine cV (a := (Ma 0)) (As := [.long r_61]) (rest := []) (wr := [((Ma 2), .inl (tc 0, 2400, .inl (Mf 2))), ((Ma 9), .inl (tc 1, 13, .inr (.inl (Mg 9))))]) ⟨hx, hb, hml, hown, hts⟩ hK hX hA (cu_X12_push l D tc sk (Ma 0) (Ma 1) (Ma 2) (Ma 3) (Ma 4) (Ma 5) (Ma 6) (Ma 7) (Ma 8) (Ma 9) (Ma 10) (Ma 11) (Ma 12) (Ma 13) (Ma 14) (Ma 15) (Ma 16) (Ma 17) (Ma 18) (Ma 19) (Ma 20) (Mv 0) (Mv 1) (Mv 2) (Mv 3) (Mv 4) (Mv 5) (Mv 6) (Mv 7) (Mv 8) (Mv 9) sv_53 (Mv 11) (Mv 12) (Mv 13) (Mv 14) (Mj 0) vy_6 r_61 ha_64) k_1451 k_1448 k_1450 k_74 k_106 pl_X12_push ⟨Nat.le_of_ble_eq_true rfl, Nat.le_of_ble_eq_true rfl⟩ rfl rfl (va_recv hK hP (ci := 12) (q0 := 2) rfl rfl) hP hD hS [2, 3] [0, 1] rfl rfl rfl rfl rfl (by decide) rfl hl.1 rfl (Nat.le_of_ble_eq_true rfl) dX12_reckons_126 ⟨Nat.le_of_ble_eq_true rfl, Nat.le_of_ble_eq_true rfl⟩ (fun v_65 u_66 H locs hv_67 hP₀ hD₀ hS₀ => ?_)
              obtain ⟨sv_68, sv_69⟩ := u_66
              obtain ⟨rfl, pf_70⟩ := hv_67
              have pf_70 : (sv_68 : Int32).toInt = sv_53.toInt + 1 := pf_70
              refine W.eq (g2 := F0 m 129 ls []) rfl ?_
              replace hP : va_P D classes [((Ma 2), .inl (tc 0, 2400, .inl (Mf 2))), ((Ma 9), .inl (tc 1, 13, .inr (.inl (Mg 9)))), ((Ma 0), .inr (12, [.ref (Ma 1), .int (Mv 0), .int (Mv 1), .ref (Ma 2), .ref (Ma 3), .ref (Ma 4), .ref (Ma 5), .ref (Ma 6), .int (Mv 2), .int (Mv 3), .int (Mv 4), .int (Mv 5), .int (Mv 6), .int (Mv 7), .int (Mv 8), .ref (Ma 7), .int (Mv 9), .ref (Ma 8), .int sv_68, .ref (Ma 9), .ref (Ma 10), .int (Mv 11), .int (Mv 12), .int (Mv 13), .ref (Ma 11), .int (Mv 14), .ref (Ma 12), .ref (Ma 13), .ref (Ma 14), .ref (Ma 15), .ref (Ma 16), .long (Mj 0), .ref (Ma 17), .ref (Ma 18), .ref (Ma 19), .ref (Ma 20)])), ((Ma 8), .inl (tc 1, 64, .inr (.inl sv_69)))] H := hP₀
              replace hD : va_D A [((Ma 2), .inl (tc 0, 2400, .inl (Mf 2))), ((Ma 9), .inl (tc 1, 13, .inr (.inl (Mg 9)))), ((Ma 0), .inr (12, [.ref (Ma 1), .int (Mv 0), .int (Mv 1), .ref (Ma 2), .ref (Ma 3), .ref (Ma 4), .ref (Ma 5), .ref (Ma 6), .int (Mv 2), .int (Mv 3), .int (Mv 4), .int (Mv 5), .int (Mv 6), .int (Mv 7), .int (Mv 8), .ref (Ma 7), .int (Mv 9), .ref (Ma 8), .int sv_68, .ref (Ma 9), .ref (Ma 10), .int (Mv 11), .int (Mv 12), .int (Mv 13), .ref (Ma 11), .int (Mv 14), .ref (Ma 12), .ref (Ma 13), .ref (Ma 14), .ref (Ma 15), .ref (Ma 16), .long (Mj 0), .ref (Ma 17), .ref (Ma 18), .ref (Ma 19), .ref (Ma 20)])), ((Ma 8), .inl (tc 1, 64, .inr (.inl sv_69)))] := hD₀
              replace hS := hS₀
              clear hP₀ hD₀ hS₀
              obtain ⟨x_71, ex_71⟩ : ∃ y : Int32, y = vy_4 + 1 := ⟨_, rfl⟩
              refine lv_iinc (v := x_71) (lv' := [(4, .int x_71), (9, .long r_55), (7, .long r_46), (6, .int x_36), (5, .int x_29), (0, .ref (Ma 0)), (1, .int x1), (2, .int x2), (3, .int x3)]) hx hb dX12_reckons_129 hl (k := 4) rfl (by rw [ex_71]; rfl) (by decide) rfl (fun ls hl₀ => ?_)
              replace hl := hl₀
              clear hl₀
              refine lv_goto (tgt := 8) hx hb dX12_reckons_132 (by decide) ?_
              have hb_72 : x3.toInt - (x_71 : Int32).toInt < x3.toInt - (vy_4 : Int32).toInt ∧ 1 ≤ x3.toInt - (vy_4 : Int32).toInt := by
                have z_1 := Int32.lt_iff_toInt_lt.mp (Int32.not_le.mp c_12)
                have z_2 : ¬ (x_29 : Int32).toInt = (0 : Int32).toInt := fun z => c_37 (Int32.toInt_inj.mp z)
                have z_3 : ¬ (x_29 : Int32).toInt = (1 : Int32).toInt := fun z => c_38 (Int32.toInt_inj.mp z)
                have z_4 : ¬ (x_29 : Int32).toInt = (11 : Int32).toInt := fun z => c_39 (Int32.toInt_inj.mp z)
                have y_0 : (0 : Int32).toInt = 0 := by decide
                have y_1 : (1 : Int32).toInt = 1 := by decide
                have y_11 : (11 : Int32).toInt = 11 := by decide
                have t_x_71 : x_71.toInt = (vy_4 : Int32).toInt + (1 : Int32).toInt := by rw [ex_71]; exact add_toInt (by omega) (by omega)
                omega
              have hi_73 : (x_71 : Int32).toInt = (vy_4 : Int32).toInt + 1 := by
                have z_1 := Int32.lt_iff_toInt_lt.mp (Int32.not_le.mp c_12)
                have z_2 : ¬ (x_29 : Int32).toInt = (0 : Int32).toInt := fun z => c_37 (Int32.toInt_inj.mp z)
                have z_3 : ¬ (x_29 : Int32).toInt = (1 : Int32).toInt := fun z => c_38 (Int32.toInt_inj.mp z)
                have z_4 : ¬ (x_29 : Int32).toInt = (11 : Int32).toInt := fun z => c_39 (Int32.toInt_inj.mp z)
                have y_0 : (0 : Int32).toInt = 0 := by decide
                have y_1 : (1 : Int32).toInt = 1 := by decide
                have y_11 : (11 : Int32).toInt = 11 := by decide
                have t_x_71 : x_71.toInt = (vy_4 : Int32).toInt + (1 : Int32).toInt := by rw [ex_71]; exact add_toInt (by omega) (by omega)
                omega
              have hd_74 : ((((x_25 &&& 15).toInt = 0 ∨ (x_25 &&& 15).toInt = 1) ∧ (sv_68 : Int32).toInt = (vy_5 : Int32).toInt + 1) ∨ ((x_25 &&& 15).toInt = 11 ∧ (sv_68 : Int32).toInt = (vy_5 : Int32).toInt) ∨ ((x_25 &&& 15).toInt ≠ 0 ∧ (x_25 &&& 15).toInt ≠ 1 ∧ (x_25 &&& 15).toInt ≠ 11 ∧ (sv_68 : Int32).toInt = (vy_5 : Int32).toInt - 1)) := by
                have z_1 := Int32.lt_iff_toInt_lt.mp (Int32.not_le.mp c_12)
                have z_2 : ¬ (x_29 : Int32).toInt = (0 : Int32).toInt := fun z => c_37 (Int32.toInt_inj.mp z)
                have z_3 : ¬ (x_29 : Int32).toInt = (1 : Int32).toInt := fun z => c_38 (Int32.toInt_inj.mp z)
                have z_4 : ¬ (x_29 : Int32).toInt = (11 : Int32).toInt := fun z => c_39 (Int32.toInt_inj.mp z)
                have y_0 : (0 : Int32).toInt = 0 := by decide
                have y_1 : (1 : Int32).toInt = 1 := by decide
                have y_11 : (11 : Int32).toInt = 11 := by decide
                omega
              have ha_75 : RK (Mf 2) x1 x_71 x3 sv_68 := RK.next pf_10 hl_27 h_tt.1 hj_26 ex_25 hi_73 hd_74
              exact ih_8 x_71 sv_68 sv_69 _ _ _ (by omega) ha_75 (hP.sub [2, 0, 3, 1] rfl) (hD.sub [2, 0, 3, 1] rfl rfl) hS (lv_sub hl [0, 5, 6, 7, 8] rfl)
            · skip
              refine lv_aload_n hx hb dX12_reckons_91 rfl (lv_at hl 3 rfl) ?_
              refine lv_lconst (v := 1) hx hb dX12_reckons_92 (by decide) ?_
              refine lv_aload_n hx hb dX12_reckons_93 rfl (lv_at hl 3 rfl) ?_
              have ha_76 : 1 ≤ vy_5.toInt ∧ vy_5.toInt ≤ 64 := by
                have z_1 := Int32.lt_iff_toInt_lt.mp (Int32.not_le.mp c_12)
                have z_2 : ¬ (x_29 : Int32).toInt = (0 : Int32).toInt := fun z => c_37 (Int32.toInt_inj.mp z)
                have z_3 : ¬ (x_29 : Int32).toInt = (1 : Int32).toInt := fun z => c_38 (Int32.toInt_inj.mp z)
                have z_4 := congrArg Int32.toInt c_39
                have y_0 : (0 : Int32).toInt = 0 := by decide
                have y_1 : (1 : Int32).toInt = 1 := by decide
                have y_11 : (11 : Int32).toInt = 11 := by decide
                omega
              refine cV (a := (Ma 0)) (As := []) (rest := [.long 1, .ref (Ma 0)]) (wr := [((Ma 2), .inl (tc 0, 2400, .inl (Mf 2))), ((Ma 9), .inl (tc 1, 13, .inr (.inl (Mg 9))))]) ⟨hx, hb, hml, hown, hts⟩ hK hX hA (cu_X12_pop l D tc sk (Ma 0) (Ma 1) (Ma 2) (Ma 3) (Ma 4) (Ma 5) (Ma 6) (Ma 7) (Ma 8) (Ma 9) (Ma 10) (Ma 11) (Ma 12) (Ma 13) (Ma 14) (Ma 15) (Ma 16) (Ma 17) (Ma 18) (Ma 19) (Ma 20) (Mv 0) (Mv 1) (Mv 2) (Mv 3) (Mv 4) (Mv 5) (Mv 6) (Mv 7) (Mv 8) (Mv 9) vy_5 (Mv 11) (Mv 12) (Mv 13) (Mv 14) (Mj 0) vy_6 ha_76) k_1455 k_1452 k_1454 k_75 k_106 pl_X12_pop ⟨Nat.le_of_ble_eq_true rfl, Nat.le_of_ble_eq_true rfl⟩ rfl rfl (va_recv hK hP (ci := 12) (q0 := 0) rfl rfl) hP hD hS [0, 2] [1, 3] rfl rfl rfl rfl rfl (by decide) rfl hl.1 rfl (Nat.le_of_ble_eq_true rfl) dX12_reckons_94 ⟨Nat.le_of_ble_eq_true rfl, Nat.le_of_ble_eq_true rfl⟩ (fun v_77 u_78 H locs hv_79 hP₀ hD₀ hS₀ => ?_)
              obtain ⟨sv_80, rfl⟩ : ∃ z, z = u_78 := ⟨_, rfl⟩
              obtain ⟨r_82, rfl, he_83, pf_81⟩ := hv_79
              have pf_81 : (sv_80 : Int32).toInt = vy_5.toInt - 1 := pf_81
              refine W.eq (g2 := F0 m 97 ls [.long r_82, .long 1, .ref (Ma 0)]) rfl ?_
              replace hP : va_P D classes [((Ma 2), .inl (tc 0, 2400, .inl (Mf 2))), ((Ma 9), .inl (tc 1, 13, .inr (.inl (Mg 9)))), ((Ma 0), .inr (12, [.ref (Ma 1), .int (Mv 0), .int (Mv 1), .ref (Ma 2), .ref (Ma 3), .ref (Ma 4), .ref (Ma 5), .ref (Ma 6), .int (Mv 2), .int (Mv 3), .int (Mv 4), .int (Mv 5), .int (Mv 6), .int (Mv 7), .int (Mv 8), .ref (Ma 7), .int (Mv 9), .ref (Ma 8), .int sv_80, .ref (Ma 9), .ref (Ma 10), .int (Mv 11), .int (Mv 12), .int (Mv 13), .ref (Ma 11), .int (Mv 14), .ref (Ma 12), .ref (Ma 13), .ref (Ma 14), .ref (Ma 15), .ref (Ma 16), .long (Mj 0), .ref (Ma 17), .ref (Ma 18), .ref (Ma 19), .ref (Ma 20)])), ((Ma 8), .inl (tc 1, 64, .inr (.inl vy_6)))] H := hP₀
              replace hD : va_D A [((Ma 2), .inl (tc 0, 2400, .inl (Mf 2))), ((Ma 9), .inl (tc 1, 13, .inr (.inl (Mg 9)))), ((Ma 0), .inr (12, [.ref (Ma 1), .int (Mv 0), .int (Mv 1), .ref (Ma 2), .ref (Ma 3), .ref (Ma 4), .ref (Ma 5), .ref (Ma 6), .int (Mv 2), .int (Mv 3), .int (Mv 4), .int (Mv 5), .int (Mv 6), .int (Mv 7), .int (Mv 8), .ref (Ma 7), .int (Mv 9), .ref (Ma 8), .int sv_80, .ref (Ma 9), .ref (Ma 10), .int (Mv 11), .int (Mv 12), .int (Mv 13), .ref (Ma 11), .int (Mv 14), .ref (Ma 12), .ref (Ma 13), .ref (Ma 14), .ref (Ma 15), .ref (Ma 16), .long (Mj 0), .ref (Ma 17), .ref (Ma 18), .ref (Ma 19), .ref (Ma 20)])), ((Ma 8), .inl (tc 1, 64, .inr (.inl vy_6)))] := hD₀
              replace hS := hS₀
              clear hP₀ hD₀ hS₀
              refine lv_lsub hx hb dX12_reckons_97 ?_
              refine lv_topl (fun x_85 ex_85 => ?_)
              have ha_86 : 0 ≤ sv_80.toInt ∧ sv_80.toInt < 64 := by
                have z_1 := Int32.lt_iff_toInt_lt.mp (Int32.not_le.mp c_12)
                have z_2 : ¬ (x_29 : Int32).toInt = (0 : Int32).toInt := fun z => c_37 (Int32.toInt_inj.mp z)
                have z_3 : ¬ (x_29 : Int32).toInt = (1 : Int32).toInt := fun z => c_38 (Int32.toInt_inj.mp z)
                have z_4 := congrArg Int32.toInt c_39
                have y_0 : (0 : Int32).toInt = 0 := by decide
                have y_1 : (1 : Int32).toInt = 1 := by decide
                have y_11 : (11 : Int32).toInt = 11 := by decide
                omega
              refine cV (a := (Ma 0)) (As := [.long x_85]) (rest := []) (wr := [((Ma 2), .inl (tc 0, 2400, .inl (Mf 2))), ((Ma 9), .inl (tc 1, 13, .inr (.inl (Mg 9))))]) ⟨hx, hb, hml, hown, hts⟩ hK hX hA (cu_X12_push l D tc sk (Ma 0) (Ma 1) (Ma 2) (Ma 3) (Ma 4) (Ma 5) (Ma 6) (Ma 7) (Ma 8) (Ma 9) (Ma 10) (Ma 11) (Ma 12) (Ma 13) (Ma 14) (Ma 15) (Ma 16) (Ma 17) (Ma 18) (Ma 19) (Ma 20) (Mv 0) (Mv 1) (Mv 2) (Mv 3) (Mv 4) (Mv 5) (Mv 6) (Mv 7) (Mv 8) (Mv 9) sv_80 (Mv 11) (Mv 12) (Mv 13) (Mv 14) (Mj 0) vy_6 x_85 ha_86) k_1451 k_1448 k_1450 k_74 k_106 pl_X12_push ⟨Nat.le_of_ble_eq_true rfl, Nat.le_of_ble_eq_true rfl⟩ rfl rfl (va_recv hK hP (ci := 12) (q0 := 2) rfl rfl) hP hD hS [2, 3] [0, 1] rfl rfl rfl rfl rfl (by decide) rfl hl.1 rfl (Nat.le_of_ble_eq_true rfl) dX12_reckons_98 ⟨Nat.le_of_ble_eq_true rfl, Nat.le_of_ble_eq_true rfl⟩ (fun v_87 u_88 H locs hv_89 hP₀ hD₀ hS₀ => ?_)
              obtain ⟨sv_90, sv_91⟩ := u_88
              obtain ⟨rfl, pf_92⟩ := hv_89
              have pf_92 : (sv_90 : Int32).toInt = sv_80.toInt + 1 := pf_92
              refine W.eq (g2 := F0 m 101 ls []) rfl ?_
              replace hP : va_P D classes [((Ma 2), .inl (tc 0, 2400, .inl (Mf 2))), ((Ma 9), .inl (tc 1, 13, .inr (.inl (Mg 9)))), ((Ma 0), .inr (12, [.ref (Ma 1), .int (Mv 0), .int (Mv 1), .ref (Ma 2), .ref (Ma 3), .ref (Ma 4), .ref (Ma 5), .ref (Ma 6), .int (Mv 2), .int (Mv 3), .int (Mv 4), .int (Mv 5), .int (Mv 6), .int (Mv 7), .int (Mv 8), .ref (Ma 7), .int (Mv 9), .ref (Ma 8), .int sv_90, .ref (Ma 9), .ref (Ma 10), .int (Mv 11), .int (Mv 12), .int (Mv 13), .ref (Ma 11), .int (Mv 14), .ref (Ma 12), .ref (Ma 13), .ref (Ma 14), .ref (Ma 15), .ref (Ma 16), .long (Mj 0), .ref (Ma 17), .ref (Ma 18), .ref (Ma 19), .ref (Ma 20)])), ((Ma 8), .inl (tc 1, 64, .inr (.inl sv_91)))] H := hP₀
              replace hD : va_D A [((Ma 2), .inl (tc 0, 2400, .inl (Mf 2))), ((Ma 9), .inl (tc 1, 13, .inr (.inl (Mg 9)))), ((Ma 0), .inr (12, [.ref (Ma 1), .int (Mv 0), .int (Mv 1), .ref (Ma 2), .ref (Ma 3), .ref (Ma 4), .ref (Ma 5), .ref (Ma 6), .int (Mv 2), .int (Mv 3), .int (Mv 4), .int (Mv 5), .int (Mv 6), .int (Mv 7), .int (Mv 8), .ref (Ma 7), .int (Mv 9), .ref (Ma 8), .int sv_90, .ref (Ma 9), .ref (Ma 10), .int (Mv 11), .int (Mv 12), .int (Mv 13), .ref (Ma 11), .int (Mv 14), .ref (Ma 12), .ref (Ma 13), .ref (Ma 14), .ref (Ma 15), .ref (Ma 16), .long (Mj 0), .ref (Ma 17), .ref (Ma 18), .ref (Ma 19), .ref (Ma 20)])), ((Ma 8), .inl (tc 1, 64, .inr (.inl sv_91)))] := hD₀
              replace hS := hS₀
              clear hP₀ hD₀ hS₀
              refine lv_goto (tgt := 129) hx hb dX12_reckons_101 (by decide) ?_
              obtain ⟨x_93, ex_93⟩ : ∃ y : Int32, y = vy_4 + 1 := ⟨_, rfl⟩
              refine lv_iinc (v := x_93) (lv' := [(4, .int x_93), (6, .int x_36), (5, .int x_29), (0, .ref (Ma 0)), (1, .int x1), (2, .int x2), (3, .int x3)]) hx hb dX12_reckons_129 hl (k := 2) rfl (by rw [ex_93]; rfl) (by decide) rfl (fun ls hl₀ => ?_)
              replace hl := hl₀
              clear hl₀
              refine lv_goto (tgt := 8) hx hb dX12_reckons_132 (by decide) ?_
              have hb_94 : x3.toInt - (x_93 : Int32).toInt < x3.toInt - (vy_4 : Int32).toInt ∧ 1 ≤ x3.toInt - (vy_4 : Int32).toInt := by
                have z_1 := Int32.lt_iff_toInt_lt.mp (Int32.not_le.mp c_12)
                have z_2 : ¬ (x_29 : Int32).toInt = (0 : Int32).toInt := fun z => c_37 (Int32.toInt_inj.mp z)
                have z_3 : ¬ (x_29 : Int32).toInt = (1 : Int32).toInt := fun z => c_38 (Int32.toInt_inj.mp z)
                have z_4 := congrArg Int32.toInt c_39
                have y_0 : (0 : Int32).toInt = 0 := by decide
                have y_1 : (1 : Int32).toInt = 1 := by decide
                have y_11 : (11 : Int32).toInt = 11 := by decide
                have t_x_93 : x_93.toInt = (vy_4 : Int32).toInt + (1 : Int32).toInt := by rw [ex_93]; exact add_toInt (by omega) (by omega)
                omega
              have hi_95 : (x_93 : Int32).toInt = (vy_4 : Int32).toInt + 1 := by
                have z_1 := Int32.lt_iff_toInt_lt.mp (Int32.not_le.mp c_12)
                have z_2 : ¬ (x_29 : Int32).toInt = (0 : Int32).toInt := fun z => c_37 (Int32.toInt_inj.mp z)
                have z_3 : ¬ (x_29 : Int32).toInt = (1 : Int32).toInt := fun z => c_38 (Int32.toInt_inj.mp z)
                have z_4 := congrArg Int32.toInt c_39
                have y_0 : (0 : Int32).toInt = 0 := by decide
                have y_1 : (1 : Int32).toInt = 1 := by decide
                have y_11 : (11 : Int32).toInt = 11 := by decide
                have t_x_93 : x_93.toInt = (vy_4 : Int32).toInt + (1 : Int32).toInt := by rw [ex_93]; exact add_toInt (by omega) (by omega)
                omega
              have hd_96 : ((((x_25 &&& 15).toInt = 0 ∨ (x_25 &&& 15).toInt = 1) ∧ (sv_90 : Int32).toInt = (vy_5 : Int32).toInt + 1) ∨ ((x_25 &&& 15).toInt = 11 ∧ (sv_90 : Int32).toInt = (vy_5 : Int32).toInt) ∨ ((x_25 &&& 15).toInt ≠ 0 ∧ (x_25 &&& 15).toInt ≠ 1 ∧ (x_25 &&& 15).toInt ≠ 11 ∧ (sv_90 : Int32).toInt = (vy_5 : Int32).toInt - 1)) := by
                have z_1 := Int32.lt_iff_toInt_lt.mp (Int32.not_le.mp c_12)
                have z_2 : ¬ (x_29 : Int32).toInt = (0 : Int32).toInt := fun z => c_37 (Int32.toInt_inj.mp z)
                have z_3 : ¬ (x_29 : Int32).toInt = (1 : Int32).toInt := fun z => c_38 (Int32.toInt_inj.mp z)
                have z_4 := congrArg Int32.toInt c_39
                have y_0 : (0 : Int32).toInt = 0 := by decide
                have y_1 : (1 : Int32).toInt = 1 := by decide
                have y_11 : (11 : Int32).toInt = 11 := by decide
                omega
              have ha_97 : RK (Mf 2) x1 x_93 x3 sv_90 := RK.next pf_10 hl_27 h_tt.1 hj_26 ex_25 hi_95 hd_96
              exact ih_8 x_93 sv_90 sv_91 _ _ _ (by omega) ha_97 (hP.sub [2, 0, 3, 1] rfl) (hD.sub [2, 0, 3, 1] rfl rfl) hS (lv_sub hl [0, 3, 4, 5, 6] rfl)
          · skip
            refine lv_aload_n hx hb dX12_reckons_70 rfl (lv_at hl 3 rfl) ?_
            refine lv_aload_n hx hb dX12_reckons_71 rfl (lv_at hl 3 rfl) ?_
            refine gf_X12_36 hx hb hts hown hK hP 0 rfl rfl dX12_reckons_72 ?_
            refine lv_iload hx hb dX12_reckons_75 (lv_at hl 0 rfl) ?_
            have hi_98 : vp_in x_36 13 := by
              have z_1 := Int32.lt_iff_toInt_lt.mp (Int32.not_le.mp c_12)
              have z_2 : ¬ (x_29 : Int32).toInt = (0 : Int32).toInt := fun z => c_37 (Int32.toInt_inj.mp z)
              have z_3 := congrArg Int32.toInt c_38
              have y_0 : (0 : Int32).toInt = 0 := by decide
              have y_1 : (1 : Int32).toInt = 1 := by decide
              refine vp_in_iff.mpr ⟨?_, ?_⟩ <;> omega
            refine va_lald hx hb hK hP 3 1 rfl rfl hi_98 dX12_reckons_77 ?_
            refine lv_topl (fun x_99 ex_99 => ?_)
            have ha_100 : 0 ≤ vy_5.toInt ∧ vy_5.toInt < 64 := by
              have z_1 := Int32.lt_iff_toInt_lt.mp (Int32.not_le.mp c_12)
              have z_2 : ¬ (x_29 : Int32).toInt = (0 : Int32).toInt := fun z => c_37 (Int32.toInt_inj.mp z)
              have z_3 := congrArg Int32.toInt c_38
              have y_0 : (0 : Int32).toInt = 0 := by decide
              have y_1 : (1 : Int32).toInt = 1 := by decide
              omega
            refine cV (a := (Ma 0)) (As := [.long x_99]) (rest := []) (wr := [((Ma 2), .inl (tc 0, 2400, .inl (Mf 2))), ((Ma 9), .inl (tc 1, 13, .inr (.inl (Mg 9))))]) ⟨hx, hb, hml, hown, hts⟩ hK hX hA (cu_X12_push l D tc sk (Ma 0) (Ma 1) (Ma 2) (Ma 3) (Ma 4) (Ma 5) (Ma 6) (Ma 7) (Ma 8) (Ma 9) (Ma 10) (Ma 11) (Ma 12) (Ma 13) (Ma 14) (Ma 15) (Ma 16) (Ma 17) (Ma 18) (Ma 19) (Ma 20) (Mv 0) (Mv 1) (Mv 2) (Mv 3) (Mv 4) (Mv 5) (Mv 6) (Mv 7) (Mv 8) (Mv 9) vy_5 (Mv 11) (Mv 12) (Mv 13) (Mv 14) (Mj 0) vy_6 x_99 ha_100) k_1451 k_1448 k_1450 k_74 k_106 pl_X12_push ⟨Nat.le_of_ble_eq_true rfl, Nat.le_of_ble_eq_true rfl⟩ rfl rfl (va_recv hK hP (ci := 12) (q0 := 0) rfl rfl) hP hD hS [0, 2] [1, 3] rfl rfl rfl rfl rfl (by decide) rfl hl.1 rfl (Nat.le_of_ble_eq_true rfl) dX12_reckons_78 ⟨Nat.le_of_ble_eq_true rfl, Nat.le_of_ble_eq_true rfl⟩ (fun v_101 u_102 H locs hv_103 hP₀ hD₀ hS₀ => ?_)
            obtain ⟨sv_104, sv_105⟩ := u_102
            obtain ⟨rfl, pf_106⟩ := hv_103
            have pf_106 : (sv_104 : Int32).toInt = vy_5.toInt + 1 := pf_106
            refine W.eq (g2 := F0 m 81 ls []) rfl ?_
            replace hP : va_P D classes [((Ma 2), .inl (tc 0, 2400, .inl (Mf 2))), ((Ma 9), .inl (tc 1, 13, .inr (.inl (Mg 9)))), ((Ma 0), .inr (12, [.ref (Ma 1), .int (Mv 0), .int (Mv 1), .ref (Ma 2), .ref (Ma 3), .ref (Ma 4), .ref (Ma 5), .ref (Ma 6), .int (Mv 2), .int (Mv 3), .int (Mv 4), .int (Mv 5), .int (Mv 6), .int (Mv 7), .int (Mv 8), .ref (Ma 7), .int (Mv 9), .ref (Ma 8), .int sv_104, .ref (Ma 9), .ref (Ma 10), .int (Mv 11), .int (Mv 12), .int (Mv 13), .ref (Ma 11), .int (Mv 14), .ref (Ma 12), .ref (Ma 13), .ref (Ma 14), .ref (Ma 15), .ref (Ma 16), .long (Mj 0), .ref (Ma 17), .ref (Ma 18), .ref (Ma 19), .ref (Ma 20)])), ((Ma 8), .inl (tc 1, 64, .inr (.inl sv_105)))] H := hP₀
            replace hD : va_D A [((Ma 2), .inl (tc 0, 2400, .inl (Mf 2))), ((Ma 9), .inl (tc 1, 13, .inr (.inl (Mg 9)))), ((Ma 0), .inr (12, [.ref (Ma 1), .int (Mv 0), .int (Mv 1), .ref (Ma 2), .ref (Ma 3), .ref (Ma 4), .ref (Ma 5), .ref (Ma 6), .int (Mv 2), .int (Mv 3), .int (Mv 4), .int (Mv 5), .int (Mv 6), .int (Mv 7), .int (Mv 8), .ref (Ma 7), .int (Mv 9), .ref (Ma 8), .int sv_104, .ref (Ma 9), .ref (Ma 10), .int (Mv 11), .int (Mv 12), .int (Mv 13), .ref (Ma 11), .int (Mv 14), .ref (Ma 12), .ref (Ma 13), .ref (Ma 14), .ref (Ma 15), .ref (Ma 16), .long (Mj 0), .ref (Ma 17), .ref (Ma 18), .ref (Ma 19), .ref (Ma 20)])), ((Ma 8), .inl (tc 1, 64, .inr (.inl sv_105)))] := hD₀
            replace hS := hS₀
            clear hP₀ hD₀ hS₀
            refine lv_goto (tgt := 129) hx hb dX12_reckons_81 (by decide) ?_
            obtain ⟨x_107, ex_107⟩ : ∃ y : Int32, y = vy_4 + 1 := ⟨_, rfl⟩
            refine lv_iinc (v := x_107) (lv' := [(4, .int x_107), (6, .int x_36), (5, .int x_29), (0, .ref (Ma 0)), (1, .int x1), (2, .int x2), (3, .int x3)]) hx hb dX12_reckons_129 hl (k := 2) rfl (by rw [ex_107]; rfl) (by decide) rfl (fun ls hl₀ => ?_)
            replace hl := hl₀
            clear hl₀
            refine lv_goto (tgt := 8) hx hb dX12_reckons_132 (by decide) ?_
            have hb_108 : x3.toInt - (x_107 : Int32).toInt < x3.toInt - (vy_4 : Int32).toInt ∧ 1 ≤ x3.toInt - (vy_4 : Int32).toInt := by
              have z_1 := Int32.lt_iff_toInt_lt.mp (Int32.not_le.mp c_12)
              have z_2 : ¬ (x_29 : Int32).toInt = (0 : Int32).toInt := fun z => c_37 (Int32.toInt_inj.mp z)
              have z_3 := congrArg Int32.toInt c_38
              have y_0 : (0 : Int32).toInt = 0 := by decide
              have y_1 : (1 : Int32).toInt = 1 := by decide
              have t_x_107 : x_107.toInt = (vy_4 : Int32).toInt + (1 : Int32).toInt := by rw [ex_107]; exact add_toInt (by omega) (by omega)
              omega
            have hi_109 : (x_107 : Int32).toInt = (vy_4 : Int32).toInt + 1 := by
              have z_1 := Int32.lt_iff_toInt_lt.mp (Int32.not_le.mp c_12)
              have z_2 : ¬ (x_29 : Int32).toInt = (0 : Int32).toInt := fun z => c_37 (Int32.toInt_inj.mp z)
              have z_3 := congrArg Int32.toInt c_38
              have y_0 : (0 : Int32).toInt = 0 := by decide
              have y_1 : (1 : Int32).toInt = 1 := by decide
              have t_x_107 : x_107.toInt = (vy_4 : Int32).toInt + (1 : Int32).toInt := by rw [ex_107]; exact add_toInt (by omega) (by omega)
              omega
            have hd_110 : ((((x_25 &&& 15).toInt = 0 ∨ (x_25 &&& 15).toInt = 1) ∧ (sv_104 : Int32).toInt = (vy_5 : Int32).toInt + 1) ∨ ((x_25 &&& 15).toInt = 11 ∧ (sv_104 : Int32).toInt = (vy_5 : Int32).toInt) ∨ ((x_25 &&& 15).toInt ≠ 0 ∧ (x_25 &&& 15).toInt ≠ 1 ∧ (x_25 &&& 15).toInt ≠ 11 ∧ (sv_104 : Int32).toInt = (vy_5 : Int32).toInt - 1)) := by
              have z_1 := Int32.lt_iff_toInt_lt.mp (Int32.not_le.mp c_12)
              have z_2 : ¬ (x_29 : Int32).toInt = (0 : Int32).toInt := fun z => c_37 (Int32.toInt_inj.mp z)
              have z_3 := congrArg Int32.toInt c_38
              have y_0 : (0 : Int32).toInt = 0 := by decide
              have y_1 : (1 : Int32).toInt = 1 := by decide
              omega
            have ha_111 : RK (Mf 2) x1 x_107 x3 sv_104 := RK.next pf_10 hl_27 h_tt.1 hj_26 ex_25 hi_109 hd_110
            exact ih_8 x_107 sv_104 sv_105 _ _ _ (by omega) ha_111 (hP.sub [2, 0, 3, 1] rfl) (hD.sub [2, 0, 3, 1] rfl rfl) hS (lv_sub hl [0, 3, 4, 5, 6] rfl)
        · skip
          refine lv_aload_n hx hb dX12_reckons_54 rfl (lv_at hl 3 rfl) ?_
          refine lv_iload hx hb dX12_reckons_55 (lv_at hl 0 rfl) ?_
          refine lv_i2l (v := (x_36).toInt64) hx hb dX12_reckons_57 rfl ?_
          have ha_112 : 0 ≤ vy_5.toInt ∧ vy_5.toInt < 64 := by
            have z_1 := Int32.lt_iff_toInt_lt.mp (Int32.not_le.mp c_12)
            have z_2 := congrArg Int32.toInt c_37
            have y_0 : (0 : Int32).toInt = 0 := by decide
            omega
          refine cV (a := (Ma 0)) (As := [.long (x_36).toInt64]) (rest := []) (wr := [((Ma 2), .inl (tc 0, 2400, .inl (Mf 2))), ((Ma 9), .inl (tc 1, 13, .inr (.inl (Mg 9))))]) ⟨hx, hb, hml, hown, hts⟩ hK hX hA (cu_X12_push l D tc sk (Ma 0) (Ma 1) (Ma 2) (Ma 3) (Ma 4) (Ma 5) (Ma 6) (Ma 7) (Ma 8) (Ma 9) (Ma 10) (Ma 11) (Ma 12) (Ma 13) (Ma 14) (Ma 15) (Ma 16) (Ma 17) (Ma 18) (Ma 19) (Ma 20) (Mv 0) (Mv 1) (Mv 2) (Mv 3) (Mv 4) (Mv 5) (Mv 6) (Mv 7) (Mv 8) (Mv 9) vy_5 (Mv 11) (Mv 12) (Mv 13) (Mv 14) (Mj 0) vy_6 ((x_36).toInt64) ha_112) k_1451 k_1448 k_1450 k_74 k_106 pl_X12_push ⟨Nat.le_of_ble_eq_true rfl, Nat.le_of_ble_eq_true rfl⟩ rfl rfl (va_recv hK hP (ci := 12) (q0 := 0) rfl rfl) hP hD hS [0, 2] [1, 3] rfl rfl rfl rfl rfl (by decide) rfl hl.1 rfl (Nat.le_of_ble_eq_true rfl) dX12_reckons_58 ⟨Nat.le_of_ble_eq_true rfl, Nat.le_of_ble_eq_true rfl⟩ (fun v_113 u_114 H locs hv_115 hP₀ hD₀ hS₀ => ?_)
          obtain ⟨sv_116, sv_117⟩ := u_114
          obtain ⟨rfl, pf_118⟩ := hv_115
          have pf_118 : (sv_116 : Int32).toInt = vy_5.toInt + 1 := pf_118
          refine W.eq (g2 := F0 m 61 ls []) rfl ?_
          replace hP : va_P D classes [((Ma 2), .inl (tc 0, 2400, .inl (Mf 2))), ((Ma 9), .inl (tc 1, 13, .inr (.inl (Mg 9)))), ((Ma 0), .inr (12, [.ref (Ma 1), .int (Mv 0), .int (Mv 1), .ref (Ma 2), .ref (Ma 3), .ref (Ma 4), .ref (Ma 5), .ref (Ma 6), .int (Mv 2), .int (Mv 3), .int (Mv 4), .int (Mv 5), .int (Mv 6), .int (Mv 7), .int (Mv 8), .ref (Ma 7), .int (Mv 9), .ref (Ma 8), .int sv_116, .ref (Ma 9), .ref (Ma 10), .int (Mv 11), .int (Mv 12), .int (Mv 13), .ref (Ma 11), .int (Mv 14), .ref (Ma 12), .ref (Ma 13), .ref (Ma 14), .ref (Ma 15), .ref (Ma 16), .long (Mj 0), .ref (Ma 17), .ref (Ma 18), .ref (Ma 19), .ref (Ma 20)])), ((Ma 8), .inl (tc 1, 64, .inr (.inl sv_117)))] H := hP₀
          replace hD : va_D A [((Ma 2), .inl (tc 0, 2400, .inl (Mf 2))), ((Ma 9), .inl (tc 1, 13, .inr (.inl (Mg 9)))), ((Ma 0), .inr (12, [.ref (Ma 1), .int (Mv 0), .int (Mv 1), .ref (Ma 2), .ref (Ma 3), .ref (Ma 4), .ref (Ma 5), .ref (Ma 6), .int (Mv 2), .int (Mv 3), .int (Mv 4), .int (Mv 5), .int (Mv 6), .int (Mv 7), .int (Mv 8), .ref (Ma 7), .int (Mv 9), .ref (Ma 8), .int sv_116, .ref (Ma 9), .ref (Ma 10), .int (Mv 11), .int (Mv 12), .int (Mv 13), .ref (Ma 11), .int (Mv 14), .ref (Ma 12), .ref (Ma 13), .ref (Ma 14), .ref (Ma 15), .ref (Ma 16), .long (Mj 0), .ref (Ma 17), .ref (Ma 18), .ref (Ma 19), .ref (Ma 20)])), ((Ma 8), .inl (tc 1, 64, .inr (.inl sv_117)))] := hD₀
          replace hS := hS₀
          clear hP₀ hD₀ hS₀
          refine lv_goto (tgt := 129) hx hb dX12_reckons_61 (by decide) ?_
          obtain ⟨x_119, ex_119⟩ : ∃ y : Int32, y = vy_4 + 1 := ⟨_, rfl⟩
          refine lv_iinc (v := x_119) (lv' := [(4, .int x_119), (6, .int x_36), (5, .int x_29), (0, .ref (Ma 0)), (1, .int x1), (2, .int x2), (3, .int x3)]) hx hb dX12_reckons_129 hl (k := 2) rfl (by rw [ex_119]; rfl) (by decide) rfl (fun ls hl₀ => ?_)
          replace hl := hl₀
          clear hl₀
          refine lv_goto (tgt := 8) hx hb dX12_reckons_132 (by decide) ?_
          have hb_120 : x3.toInt - (x_119 : Int32).toInt < x3.toInt - (vy_4 : Int32).toInt ∧ 1 ≤ x3.toInt - (vy_4 : Int32).toInt := by
            have z_1 := Int32.lt_iff_toInt_lt.mp (Int32.not_le.mp c_12)
            have z_2 := congrArg Int32.toInt c_37
            have y_0 : (0 : Int32).toInt = 0 := by decide
            have y_1 : (1 : Int32).toInt = 1 := by decide
            have t_x_119 : x_119.toInt = (vy_4 : Int32).toInt + (1 : Int32).toInt := by rw [ex_119]; exact add_toInt (by omega) (by omega)
            omega
          have hi_121 : (x_119 : Int32).toInt = (vy_4 : Int32).toInt + 1 := by
            have z_1 := Int32.lt_iff_toInt_lt.mp (Int32.not_le.mp c_12)
            have z_2 := congrArg Int32.toInt c_37
            have y_0 : (0 : Int32).toInt = 0 := by decide
            have y_1 : (1 : Int32).toInt = 1 := by decide
            have t_x_119 : x_119.toInt = (vy_4 : Int32).toInt + (1 : Int32).toInt := by rw [ex_119]; exact add_toInt (by omega) (by omega)
            omega
          have hd_122 : ((((x_25 &&& 15).toInt = 0 ∨ (x_25 &&& 15).toInt = 1) ∧ (sv_116 : Int32).toInt = (vy_5 : Int32).toInt + 1) ∨ ((x_25 &&& 15).toInt = 11 ∧ (sv_116 : Int32).toInt = (vy_5 : Int32).toInt) ∨ ((x_25 &&& 15).toInt ≠ 0 ∧ (x_25 &&& 15).toInt ≠ 1 ∧ (x_25 &&& 15).toInt ≠ 11 ∧ (sv_116 : Int32).toInt = (vy_5 : Int32).toInt - 1)) := by
            have z_1 := Int32.lt_iff_toInt_lt.mp (Int32.not_le.mp c_12)
            have z_2 := congrArg Int32.toInt c_37
            have y_0 : (0 : Int32).toInt = 0 := by decide
            omega
          have ha_123 : RK (Mf 2) x1 x_119 x3 sv_116 := RK.next pf_10 hl_27 h_tt.1 hj_26 ex_25 hi_121 hd_122
          exact ih_8 x_119 sv_116 sv_117 _ _ _ (by omega) ha_123 (hP.sub [2, 0, 3, 1] rfl) (hD.sub [2, 0, 3, 1] rfl rfl) hS (lv_sub hl [0, 3, 4, 5, 6] rfl)
  have hz_125 : (0 : Int32).toInt = 0 := by decide
  have ha_124 : RK (Mf 2) x1 x2 x3 0 := RK.start h_w hz_125
  exact loop_9 _ x2 0 (Mg 8) _ _ _ (Nat.lt_succ_self _) ha_124 hP hD hS hl
set_option maxRecDepth 100000 in
theorem cu_X12_reckons (l : Launch) (D : va_G) (tc : Nat → ClassId) (sk : (Nat → Nat) × (Nat → Nat)) (Ma_0 : Nat) (Ma_1 : Nat) (Ma_2 : Nat) (Ma_3 : Nat) (Ma_4 : Nat) (Ma_5 : Nat) (Ma_6 : Nat) (Ma_7 : Nat) (Ma_8 : Nat) (Ma_9 : Nat) (Ma_10 : Nat) (Ma_11 : Nat) (Ma_12 : Nat) (Ma_13 : Nat) (Ma_14 : Nat) (Ma_15 : Nat) (Ma_16 : Nat) (Ma_17 : Nat) (Ma_18 : Nat) (Ma_19 : Nat) (Ma_20 : Nat) (Mv_0 : Int32) (Mv_1 : Int32) (Mv_2 : Int32) (Mv_3 : Int32) (Mv_4 : Int32) (Mv_5 : Int32) (Mv_6 : Int32) (Mv_7 : Int32) (Mv_8 : Int32) (Mv_9 : Int32) (Mv_10 : Int32) (Mv_11 : Int32) (Mv_12 : Int32) (Mv_13 : Int32) (Mv_14 : Int32) (Mf_2 : Nat → Int32) (Mj_0 : Int64) (Mg_8 : Nat → Int64) (Mg_9 : Nat → Int64) (x1 : Int32) (x2 : Int32) (x3 : Int32) (h_w : WFc Mf_2 x1 x2 x3) (h_tt : 0 ≤ x1.toInt ∧ x1.toInt < 6) : Ct l yX12_reckons cX12_reckons 11 (some .long) { frames := 1, cells := 0, slots := 0, locals := 24 } D tc sk [.ref Ma_0, .int x1, .int x2, .int x3] [(Ma_0, .inr (12, [.ref Ma_1, .int Mv_0, .int Mv_1, .ref Ma_2, .ref Ma_3, .ref Ma_4, .ref Ma_5, .ref Ma_6, .int Mv_2, .int Mv_3, .int Mv_4, .int Mv_5, .int Mv_6, .int Mv_7, .int Mv_8, .ref Ma_7, .int Mv_9, .ref Ma_8, .int Mv_10, .ref Ma_9, .ref Ma_10, .int Mv_11, .int Mv_12, .int Mv_13, .ref Ma_11, .int Mv_14, .ref Ma_12, .ref Ma_13, .ref Ma_14, .ref Ma_15, .ref Ma_16, .long Mj_0, .ref Ma_17, .ref Ma_18, .ref Ma_19, .ref Ma_20])), (Ma_2, .inl (tc 0, 2400, .inl Mf_2)), (Ma_8, .inl (tc 1, 64, .inr (.inl Mg_8))), (Ma_9, .inl (tc 1, 13, .inr (.inl Mg_9)))] (fun (v : Option Value) (u : (Int32) × (Nat → Int64)) => match u with | (oo0x1, oo0x2) => ∃ r : Int64, v = some (.long r) ∧ (True)) (fun (u : (Int32) × (Nat → Int64)) => match u with | (oo0x1, oo0x2) => [(Ma_0, .inr (12, [.ref Ma_1, .int Mv_0, .int Mv_1, .ref Ma_2, .ref Ma_3, .ref Ma_4, .ref Ma_5, .ref Ma_6, .int Mv_2, .int Mv_3, .int Mv_4, .int Mv_5, .int Mv_6, .int Mv_7, .int Mv_8, .ref Ma_7, .int Mv_9, .ref Ma_8, .int oo0x1, .ref Ma_9, .ref Ma_10, .int Mv_11, .int Mv_12, .int Mv_13, .ref Ma_11, .int Mv_14, .ref Ma_12, .ref Ma_13, .ref Ma_14, .ref Ma_15, .ref Ma_16, .long Mj_0, .ref Ma_17, .ref Ma_18, .ref Ma_19, .ref Ma_20])), (Ma_2, .inl (tc 0, 2400, .inl Mf_2)), (Ma_8, .inl (tc 1, 64, .inr (.inl oo0x2))), (Ma_9, .inl (tc 1, 13, .inr (.inl Mg_9)))]) 0 0 :=
  ct_X12_reckons l D tc sk (fun k => ([Ma_0, Ma_1, Ma_2, Ma_3, Ma_4, Ma_5, Ma_6, Ma_7, Ma_8, Ma_9, Ma_10, Ma_11, Ma_12, Ma_13, Ma_14, Ma_15, Ma_16, Ma_17, Ma_18, Ma_19, Ma_20] : List (Nat)).getD k 0) (fun k => ([Mv_0, Mv_1, Mv_2, Mv_3, Mv_4, Mv_5, Mv_6, Mv_7, Mv_8, Mv_9, Mv_10, Mv_11, Mv_12, Mv_13, Mv_14] : List (Int32)).getD k 0) (fun k => ([(fun _ => 0), (fun _ => 0), Mf_2] : List (Nat → Int32)).getD k (fun _ => 0)) (fun k => ([Mj_0] : List (Int64)).getD k 0) (fun k => ([(fun _ => 0), (fun _ => 0), (fun _ => 0), (fun _ => 0), (fun _ => 0), (fun _ => 0), (fun _ => 0), (fun _ => 0), Mg_8, Mg_9] : List (Nat → Int64)).getD k (fun _ => 0)) x1 x2 x3 h_w h_tt
set_option maxHeartbeats 4000000 in
set_option maxRecDepth 100000 in
theorem ct_X12_summedBy (l : Launch) (D : va_G) (tc : Nat → ClassId) (sk : (Nat → Nat) × (Nat → Nat)) (Ma : Nat → Nat) (Mv : Nat → Int32) (Mf : Nat → Nat → Int32) (Mj : Nat → Int64) (Mg : Nat → Nat → Int64) (x1 : Int32) (h_rul : RulD (Mf 2) (Mf 4) (Mf 5) (Mv 1)) (h_t : 0 ≤ x1.toInt ∧ x1.toInt < (Mv 1).toInt) (h_r6 : (Mv 1).toInt ≤ 6) : Ct l yX12_summedBy cX12_summedBy 4 (some .long) { frames := 2, cells := 0, slots := 0, locals := 54 } D tc sk [.ref (Ma 0), .int x1] [((Ma 0), .inr (12, [.ref (Ma 1), .int (Mv 0), .int (Mv 1), .ref (Ma 2), .ref (Ma 3), .ref (Ma 4), .ref (Ma 5), .ref (Ma 6), .int (Mv 2), .int (Mv 3), .int (Mv 4), .int (Mv 5), .int (Mv 6), .int (Mv 7), .int (Mv 8), .ref (Ma 7), .int (Mv 9), .ref (Ma 8), .int (Mv 10), .ref (Ma 9), .ref (Ma 10), .int (Mv 11), .int (Mv 12), .int (Mv 13), .ref (Ma 11), .int (Mv 14), .ref (Ma 12), .ref (Ma 13), .ref (Ma 14), .ref (Ma 15), .ref (Ma 16), .long (Mj 0), .ref (Ma 17), .ref (Ma 18), .ref (Ma 19), .ref (Ma 20)])), ((Ma 2), .inl (tc 0, 2400, .inl (Mf 2))), ((Ma 4), .inl (tc 0, 288, .inl (Mf 4))), ((Ma 5), .inl (tc 0, 6, .inl (Mf 5))), ((Ma 8), .inl (tc 1, 64, .inr (.inl (Mg 8)))), ((Ma 9), .inl (tc 1, 13, .inr (.inl (Mg 9))))] (fun (v : Option Value) (u : (Int32) × (Nat → Int64)) => match u with | (oo0x1, oo0x2) => ∃ r : Int64, v = some (.long r) ∧ (True)) (fun (u : (Int32) × (Nat → Int64)) => match u with | (oo0x1, oo0x2) => [((Ma 0), .inr (12, [.ref (Ma 1), .int (Mv 0), .int (Mv 1), .ref (Ma 2), .ref (Ma 3), .ref (Ma 4), .ref (Ma 5), .ref (Ma 6), .int (Mv 2), .int (Mv 3), .int (Mv 4), .int (Mv 5), .int (Mv 6), .int (Mv 7), .int (Mv 8), .ref (Ma 7), .int (Mv 9), .ref (Ma 8), .int oo0x1, .ref (Ma 9), .ref (Ma 10), .int (Mv 11), .int (Mv 12), .int (Mv 13), .ref (Ma 11), .int (Mv 14), .ref (Ma 12), .ref (Ma 13), .ref (Ma 14), .ref (Ma 15), .ref (Ma 16), .long (Mj 0), .ref (Ma 17), .ref (Ma 18), .ref (Ma 19), .ref (Ma 20)])), ((Ma 2), .inl (tc 0, 2400, .inl (Mf 2))), ((Ma 4), .inl (tc 0, 288, .inl (Mf 4))), ((Ma 5), .inl (tc 0, 6, .inl (Mf 5))), ((Ma 8), .inl (tc 1, 64, .inr (.inl oo0x2))), ((Ma 9), .inl (tc 1, 13, .inr (.inl (Mg 9))))]) 0 0 := by
  refine Ct.start (by decide) (Nat.le_of_ble_eq_true rfl) (fun p e s m below meth c A ls hx hb hr hlk hin hml hown hts hK hX hP hD hA hl hS => ?_)
  have hl : lv_has ls 4 [(0, .ref (Ma 0)), (1, .int x1)] := hl
  refine lv_iconst (v := 0) hx hb dX12_summedBy_0 (by decide) ?_
  refine lv_istore_n (lv' := [(2, .int 0), (0, .ref (Ma 0)), (1, .int x1)]) hx hb dX12_summedBy_1 rfl hl (by decide) rfl (fun ls hl₀ => ?_)
  replace hl := hl₀
  clear hl₀
  have loop_9 : ∀ (n_7 : Nat) (vy_4 : Int32) (vy_5 : Int32) (vy_6 : Nat → Int64) (H : Heap) (locs : List Loc) (ls : Array Slot), (12 - (vy_4 : Int32).toInt).toNat < n_7 → (0 ≤ (vy_4 : Int32).toInt) → va_P D classes [((Ma 0), .inr (12, [.ref (Ma 1), .int (Mv 0), .int (Mv 1), .ref (Ma 2), .ref (Ma 3), .ref (Ma 4), .ref (Ma 5), .ref (Ma 6), .int (Mv 2), .int (Mv 3), .int (Mv 4), .int (Mv 5), .int (Mv 6), .int (Mv 7), .int (Mv 8), .ref (Ma 7), .int (Mv 9), .ref (Ma 8), .int vy_5, .ref (Ma 9), .ref (Ma 10), .int (Mv 11), .int (Mv 12), .int (Mv 13), .ref (Ma 11), .int (Mv 14), .ref (Ma 12), .ref (Ma 13), .ref (Ma 14), .ref (Ma 15), .ref (Ma 16), .long (Mj 0), .ref (Ma 17), .ref (Ma 18), .ref (Ma 19), .ref (Ma 20)])), ((Ma 2), .inl (tc 0, 2400, .inl (Mf 2))), ((Ma 4), .inl (tc 0, 288, .inl (Mf 4))), ((Ma 5), .inl (tc 0, 6, .inl (Mf 5))), ((Ma 8), .inl (tc 1, 64, .inr (.inl vy_6))), ((Ma 9), .inl (tc 1, 13, .inr (.inl (Mg 9))))] H → va_D A [((Ma 0), .inr (12, [.ref (Ma 1), .int (Mv 0), .int (Mv 1), .ref (Ma 2), .ref (Ma 3), .ref (Ma 4), .ref (Ma 5), .ref (Ma 6), .int (Mv 2), .int (Mv 3), .int (Mv 4), .int (Mv 5), .int (Mv 6), .int (Mv 7), .int (Mv 8), .ref (Ma 7), .int (Mv 9), .ref (Ma 8), .int vy_5, .ref (Ma 9), .ref (Ma 10), .int (Mv 11), .int (Mv 12), .int (Mv 13), .ref (Ma 11), .int (Mv 14), .ref (Ma 12), .ref (Ma 13), .ref (Ma 14), .ref (Ma 15), .ref (Ma 16), .long (Mj 0), .ref (Ma 17), .ref (Ma 18), .ref (Ma 19), .ref (Ma 20)])), ((Ma 2), .inl (tc 0, 2400, .inl (Mf 2))), ((Ma 4), .inl (tc 0, 288, .inl (Mf 4))), ((Ma 5), .inl (tc 0, 6, .inl (Mf 5))), ((Ma 8), .inl (tc 1, 64, .inr (.inl vy_6))), ((Ma 9), .inl (tc 1, 13, .inr (.inl (Mg 9))))] → va_S A s.heap H locs → lv_has ls 4 [(2, .int vy_4), (0, .ref (Ma 0)), (1, .int x1)] → W p l e ({ frames := 2, cells := 0, slots := 0, locals := 54 }) s m ([.ref (Ma 0), .int x1].toArray) below meth c H locs 0 0 (MQ below (QW (fun (v : Option Value) (u : (Int32) × (Nat → Int64)) => match u with | (oo0x1, oo0x2) => ∃ r : Int64, v = some (.long r) ∧ (True)) (BW D (fun (u : (Int32) × (Nat → Int64)) => match u with | (oo0x1, oo0x2) => [((Ma 0), .inr (12, [.ref (Ma 1), .int (Mv 0), .int (Mv 1), .ref (Ma 2), .ref (Ma 3), .ref (Ma 4), .ref (Ma 5), .ref (Ma 6), .int (Mv 2), .int (Mv 3), .int (Mv 4), .int (Mv 5), .int (Mv 6), .int (Mv 7), .int (Mv 8), .ref (Ma 7), .int (Mv 9), .ref (Ma 8), .int oo0x1, .ref (Ma 9), .ref (Ma 10), .int (Mv 11), .int (Mv 12), .int (Mv 13), .ref (Ma 11), .int (Mv 14), .ref (Ma 12), .ref (Ma 13), .ref (Ma 14), .ref (Ma 15), .ref (Ma 16), .long (Mj 0), .ref (Ma 17), .ref (Ma 18), .ref (Ma 19), .ref (Ma 20)])), ((Ma 2), .inl (tc 0, 2400, .inl (Mf 2))), ((Ma 4), .inl (tc 0, 288, .inl (Mf 4))), ((Ma 5), .inl (tc 0, 6, .inl (Mf 5))), ((Ma 8), .inl (tc 1, 64, .inr (.inl oo0x2))), ((Ma 9), .inl (tc 1, 13, .inr (.inl (Mg 9))))]) A) A) ([.ref (Ma 0), .int x1].toArray) s 0 0 A) (F0 m 2 ls []) := by
    clear hP hD hS hl
    intro n_7
    induction n_7 with
    | zero =>
      intro vy_4 vy_5 vy_6 H locs ls h1
      exact absurd h1 (Nat.not_lt_zero _)
    | succ n_7 ih_8 =>
      intro vy_4 vy_5 vy_6 H locs ls hn_11 pf_10 hP hD hS hl
      refine lv_iload_n hx hb dX12_summedBy_2 rfl (lv_at hl 0 rfl) ?_
      refine lv_aload_n hx hb dX12_summedBy_3 rfl (lv_at hl 1 rfl) ?_
      refine gf_X12_23 hx hb hts hown hK hP 0 rfl rfl dX12_summedBy_4 ?_
      refine lv_iload_n hx hb dX12_summedBy_7 rfl (lv_at hl 2 rfl) ?_
      have hi_12 : vp_in x1 6 := by
        refine vp_in_iff.mpr ⟨?_, ?_⟩ <;> omega
      refine va_iald hx hb hK hP 3 0 rfl rfl hi_12 dX12_summedBy_8 ?_
      refine lv_topi (fun x_13 ex_13 => ?_)
      have lcx_13 := RulD.le h_rul h_t ex_13
      refine lv_icmp_ge (tgt := 84) hx hb dX12_summedBy_9 (by decide) (fun c_14 => ?_) (fun c_14 => ?_)
      · skip
        refine lv_lconst (v := 0) hx hb dX12_summedBy_84 (by decide) ?_
        exact retL (v := 0) hx hb hr hlk hP hD hS (vy_5, vy_6) ⟨_, rfl, trivial⟩ [0, 1, 2, 3, 4, 5] rfl rfl dX12_summedBy_85 (Nat.le_of_ble_eq_true rfl) (Nat.le_of_ble_eq_true rfl) rfl
      · skip
        refine lv_bipush (v := 48) hx hb dX12_summedBy_12 (by decide) ?_
        refine lv_iload_n hx hb dX12_summedBy_14 rfl (lv_at hl 2 rfl) ?_
        refine lv_imul hx hb dX12_summedBy_15 ?_
        refine lv_topi (fun x_15 ex_15 => ?_)
        refine lv_iconst (v := 4) hx hb dX12_summedBy_16 (by decide) ?_
        refine lv_iload_n hx hb dX12_summedBy_17 rfl (lv_at hl 0 rfl) ?_
        refine lv_imul hx hb dX12_summedBy_18 ?_
        refine lv_topi (fun x_16 ex_16 => ?_)
        refine lv_iadd hx hb dX12_summedBy_19 ?_
        refine lv_topi (fun x_17 ex_17 => ?_)
        refine lv_istore_n (lv' := [(3, .int x_17), (2, .int vy_4), (0, .ref (Ma 0)), (1, .int x1)]) hx hb dX12_summedBy_20 rfl hl (by decide) rfl (fun ls hl₀ => ?_)
        replace hl := hl₀
        clear hl₀
        refine lv_aload_n hx hb dX12_summedBy_21 rfl (lv_at hl 2 rfl) ?_
        refine gf_X12_20 hx hb hts hown hK hP 0 rfl rfl dX12_summedBy_22 ?_
        refine lv_iload_n hx hb dX12_summedBy_25 rfl (lv_at hl 0 rfl) ?_
        refine lv_iconst (v := 2) hx hb dX12_summedBy_26 (by decide) ?_
        refine lv_iadd hx hb dX12_summedBy_27 ?_
        refine lv_topi (fun x_18 ex_18 => ?_)
        have hi_19 : vp_in x_18 288 := by
          have z_1 := Int32.lt_iff_toInt_lt.mp (Int32.not_le.mp c_14)
          have y_2 : (2 : Int32).toInt = 2 := by decide
          have y_4 : (4 : Int32).toInt = 4 := by decide
          have y_48 : (48 : Int32).toInt = 48 := by decide
          have t_x_15 : x_15.toInt = (48 : Int32).toInt * (x1 : Int32).toInt := by rw [ex_15]; exact mul_toInt (by first | omega | (rw [y_48]; omega)) (by first | omega | (rw [y_48]; omega))
          rw [y_48] at t_x_15
          have t_x_16 : x_16.toInt = (4 : Int32).toInt * (vy_4 : Int32).toInt := by rw [ex_16]; exact mul_toInt (by first | omega | (rw [y_4]; omega)) (by first | omega | (rw [y_4]; omega))
          rw [y_4] at t_x_16
          have t_x_17 : x_17.toInt = (x_15 : Int32).toInt + (x_16 : Int32).toInt := by rw [ex_17]; exact add_toInt (by omega) (by omega)
          have t_x_18 : x_18.toInt = (x_17 : Int32).toInt + (2 : Int32).toInt := by rw [ex_18]; exact add_toInt (by omega) (by omega)
          refine vp_in_iff.mpr ⟨?_, ?_⟩ <;> omega
        refine va_iald hx hb hK hP 2 0 rfl rfl hi_19 dX12_summedBy_28 ?_
        refine lv_topi (fun x_20 ex_20 => ?_)
        refine lv_if_lt (tgt := 58) hx hb dX12_summedBy_29 (by decide) (fun c_21 => ?_) (fun c_21 => ?_)
        · skip
          refine lv_aload_n hx hb dX12_summedBy_58 rfl (lv_at hl 2 rfl) ?_
          refine lv_iload_n hx hb dX12_summedBy_59 rfl (lv_at hl 3 rfl) ?_
          refine lv_aload_n hx hb dX12_summedBy_60 rfl (lv_at hl 2 rfl) ?_
          refine gf_X12_20 hx hb hts hown hK hP 0 rfl rfl dX12_summedBy_61 ?_
          refine lv_iload_n hx hb dX12_summedBy_64 rfl (lv_at hl 0 rfl) ?_
          have hi_22 : vp_in x_17 288 := by
            have z_1 := Int32.lt_iff_toInt_lt.mp (Int32.not_le.mp c_14)
            have z_2 := Int32.lt_iff_toInt_lt.mp c_21
            have y_0 : (0 : Int32).toInt = 0 := by decide
            have y_4 : (4 : Int32).toInt = 4 := by decide
            have y_48 : (48 : Int32).toInt = 48 := by decide
            have t_x_15 : x_15.toInt = (48 : Int32).toInt * (x1 : Int32).toInt := by rw [ex_15]; exact mul_toInt (by first | omega | (rw [y_48]; omega)) (by first | omega | (rw [y_48]; omega))
            rw [y_48] at t_x_15
            have t_x_16 : x_16.toInt = (4 : Int32).toInt * (vy_4 : Int32).toInt := by rw [ex_16]; exact mul_toInt (by first | omega | (rw [y_4]; omega)) (by first | omega | (rw [y_4]; omega))
            rw [y_4] at t_x_16
            have t_x_17 : x_17.toInt = (x_15 : Int32).toInt + (x_16 : Int32).toInt := by rw [ex_17]; exact add_toInt (by omega) (by omega)
            refine vp_in_iff.mpr ⟨?_, ?_⟩ <;> omega
          refine va_iald hx hb hK hP 2 0 rfl rfl hi_22 dX12_summedBy_65 ?_
          refine lv_topi (fun x_23 ex_23 => ?_)
          refine lv_aload_n hx hb dX12_summedBy_66 rfl (lv_at hl 2 rfl) ?_
          refine gf_X12_20 hx hb hts hown hK hP 0 rfl rfl dX12_summedBy_67 ?_
          refine lv_iload_n hx hb dX12_summedBy_70 rfl (lv_at hl 0 rfl) ?_
          refine lv_iconst (v := 1) hx hb dX12_summedBy_71 (by decide) ?_
          refine lv_iadd hx hb dX12_summedBy_72 ?_
          refine lv_topi (fun x_24 ex_24 => ?_)
          have hi_25 : vp_in x_24 288 := by
            have z_1 := Int32.lt_iff_toInt_lt.mp (Int32.not_le.mp c_14)
            have z_2 := Int32.lt_iff_toInt_lt.mp c_21
            have y_0 : (0 : Int32).toInt = 0 := by decide
            have y_1 : (1 : Int32).toInt = 1 := by decide
            have y_4 : (4 : Int32).toInt = 4 := by decide
            have y_48 : (48 : Int32).toInt = 48 := by decide
            have t_x_15 : x_15.toInt = (48 : Int32).toInt * (x1 : Int32).toInt := by rw [ex_15]; exact mul_toInt (by first | omega | (rw [y_48]; omega)) (by first | omega | (rw [y_48]; omega))
            rw [y_48] at t_x_15
            have t_x_16 : x_16.toInt = (4 : Int32).toInt * (vy_4 : Int32).toInt := by rw [ex_16]; exact mul_toInt (by first | omega | (rw [y_4]; omega)) (by first | omega | (rw [y_4]; omega))
            rw [y_4] at t_x_16
            have t_x_17 : x_17.toInt = (x_15 : Int32).toInt + (x_16 : Int32).toInt := by rw [ex_17]; exact add_toInt (by omega) (by omega)
            have t_x_24 : x_24.toInt = (x_17 : Int32).toInt + (1 : Int32).toInt := by rw [ex_24]; exact add_toInt (by omega) (by omega)
            refine vp_in_iff.mpr ⟨?_, ?_⟩ <;> omega
          refine va_iald hx hb hK hP 2 0 rfl rfl hi_25 dX12_summedBy_73 ?_
          refine lv_topi (fun x_26 ex_26 => ?_)
          have hc_27 : 0 ≤ (vy_4 : Int32).toInt ∧ (vy_4 : Int32).toInt < (x_13 : Int32).toInt := by
            have z_1 := Int32.lt_iff_toInt_lt.mp (Int32.not_le.mp c_14)
            have z_2 := Int32.lt_iff_toInt_lt.mp c_21
            have y_0 : (0 : Int32).toInt = 0 := by decide
            omega
          have hi_28 : (x_17 : Int32).toInt = 48 * x1.toInt + 4 * (vy_4 : Int32).toInt := by
            have z_1 := Int32.lt_iff_toInt_lt.mp (Int32.not_le.mp c_14)
            have z_2 := Int32.lt_iff_toInt_lt.mp c_21
            have y_0 : (0 : Int32).toInt = 0 := by decide
            have y_4 : (4 : Int32).toInt = 4 := by decide
            have y_48 : (48 : Int32).toInt = 48 := by decide
            have t_x_15 : x_15.toInt = (48 : Int32).toInt * (x1 : Int32).toInt := by rw [ex_15]; exact mul_toInt (by first | omega | (rw [y_48]; omega)) (by first | omega | (rw [y_48]; omega))
            rw [y_48] at t_x_15
            have t_x_16 : x_16.toInt = (4 : Int32).toInt * (vy_4 : Int32).toInt := by rw [ex_16]; exact mul_toInt (by first | omega | (rw [y_4]; omega)) (by first | omega | (rw [y_4]; omega))
            rw [y_4] at t_x_16
            have t_x_17 : x_17.toInt = (x_15 : Int32).toInt + (x_16 : Int32).toInt := by rw [ex_17]; exact add_toInt (by omega) (by omega)
            omega
          have hi_29 : (x_24 : Int32).toInt = 48 * x1.toInt + 4 * (vy_4 : Int32).toInt + 1 := by
            have z_1 := Int32.lt_iff_toInt_lt.mp (Int32.not_le.mp c_14)
            have z_2 := Int32.lt_iff_toInt_lt.mp c_21
            have y_0 : (0 : Int32).toInt = 0 := by decide
            have y_1 : (1 : Int32).toInt = 1 := by decide
            have y_4 : (4 : Int32).toInt = 4 := by decide
            have y_48 : (48 : Int32).toInt = 48 := by decide
            have t_x_15 : x_15.toInt = (48 : Int32).toInt * (x1 : Int32).toInt := by rw [ex_15]; exact mul_toInt (by first | omega | (rw [y_48]; omega)) (by first | omega | (rw [y_48]; omega))
            rw [y_48] at t_x_15
            have t_x_16 : x_16.toInt = (4 : Int32).toInt * (vy_4 : Int32).toInt := by rw [ex_16]; exact mul_toInt (by first | omega | (rw [y_4]; omega)) (by first | omega | (rw [y_4]; omega))
            rw [y_4] at t_x_16
            have t_x_17 : x_17.toInt = (x_15 : Int32).toInt + (x_16 : Int32).toInt := by rw [ex_17]; exact add_toInt (by omega) (by omega)
            have t_x_24 : x_24.toInt = (x_17 : Int32).toInt + (1 : Int32).toInt := by rw [ex_24]; exact add_toInt (by omega) (by omega)
            omega
          have ha_30 : 0 ≤ x1.toInt ∧ x1.toInt < 6 := by
            have z_1 := Int32.lt_iff_toInt_lt.mp (Int32.not_le.mp c_14)
            have z_2 := Int32.lt_iff_toInt_lt.mp c_21
            have y_0 : (0 : Int32).toInt = 0 := by decide
            omega
          refine cV (a := (Ma 0)) (As := [.int x1, .int x_23, .int x_26]) (rest := []) (wr := [((Ma 4), .inl (tc 0, 288, .inl (Mf 4))), ((Ma 5), .inl (tc 0, 6, .inl (Mf 5)))]) ⟨hx, hb, hml, hown, hts⟩ hK hX hA (cu_X12_reckons l D tc sk (Ma 0) (Ma 1) (Ma 2) (Ma 3) (Ma 4) (Ma 5) (Ma 6) (Ma 7) (Ma 8) (Ma 9) (Ma 10) (Ma 11) (Ma 12) (Ma 13) (Ma 14) (Ma 15) (Ma 16) (Ma 17) (Ma 18) (Ma 19) (Ma 20) (Mv 0) (Mv 1) (Mv 2) (Mv 3) (Mv 4) (Mv 5) (Mv 6) (Mv 7) (Mv 8) (Mv 9) vy_5 (Mv 11) (Mv 12) (Mv 13) (Mv 14) (Mf 2) (Mj 0) vy_6 (Mg 9) x1 x_23 x_26 (RulD.w h_rul h_t ex_13 hc_27 hi_28 hi_29 ex_23 ex_26) ha_30) k_1447 k_1444 k_1446 k_73 k_106 pl_X12_reckons ⟨Nat.le_of_ble_eq_true rfl, Nat.le_of_ble_eq_true rfl⟩ rfl rfl (va_recv hK hP (ci := 12) (q0 := 0) rfl rfl) hP hD hS [0, 1, 4, 5] [2, 3] rfl rfl rfl rfl rfl (by decide) rfl hl.1 rfl (Nat.le_of_ble_eq_true rfl) dX12_summedBy_74 ⟨Nat.le_of_ble_eq_true rfl, Nat.le_of_ble_eq_true rfl⟩ (fun v_31 u_32 H locs hv_33 hP₀ hD₀ hS₀ => ?_)
          obtain ⟨sv_34, sv_35⟩ := u_32
          obtain ⟨r_36, rfl, he_37⟩ := hv_33
          refine W.eq (g2 := F0 m 77 ls [.long r_36]) rfl ?_
          replace hP : va_P D classes [((Ma 4), .inl (tc 0, 288, .inl (Mf 4))), ((Ma 5), .inl (tc 0, 6, .inl (Mf 5))), ((Ma 0), .inr (12, [.ref (Ma 1), .int (Mv 0), .int (Mv 1), .ref (Ma 2), .ref (Ma 3), .ref (Ma 4), .ref (Ma 5), .ref (Ma 6), .int (Mv 2), .int (Mv 3), .int (Mv 4), .int (Mv 5), .int (Mv 6), .int (Mv 7), .int (Mv 8), .ref (Ma 7), .int (Mv 9), .ref (Ma 8), .int sv_34, .ref (Ma 9), .ref (Ma 10), .int (Mv 11), .int (Mv 12), .int (Mv 13), .ref (Ma 11), .int (Mv 14), .ref (Ma 12), .ref (Ma 13), .ref (Ma 14), .ref (Ma 15), .ref (Ma 16), .long (Mj 0), .ref (Ma 17), .ref (Ma 18), .ref (Ma 19), .ref (Ma 20)])), ((Ma 2), .inl (tc 0, 2400, .inl (Mf 2))), ((Ma 8), .inl (tc 1, 64, .inr (.inl sv_35))), ((Ma 9), .inl (tc 1, 13, .inr (.inl (Mg 9))))] H := hP₀
          replace hD : va_D A [((Ma 4), .inl (tc 0, 288, .inl (Mf 4))), ((Ma 5), .inl (tc 0, 6, .inl (Mf 5))), ((Ma 0), .inr (12, [.ref (Ma 1), .int (Mv 0), .int (Mv 1), .ref (Ma 2), .ref (Ma 3), .ref (Ma 4), .ref (Ma 5), .ref (Ma 6), .int (Mv 2), .int (Mv 3), .int (Mv 4), .int (Mv 5), .int (Mv 6), .int (Mv 7), .int (Mv 8), .ref (Ma 7), .int (Mv 9), .ref (Ma 8), .int sv_34, .ref (Ma 9), .ref (Ma 10), .int (Mv 11), .int (Mv 12), .int (Mv 13), .ref (Ma 11), .int (Mv 14), .ref (Ma 12), .ref (Ma 13), .ref (Ma 14), .ref (Ma 15), .ref (Ma 16), .long (Mj 0), .ref (Ma 17), .ref (Ma 18), .ref (Ma 19), .ref (Ma 20)])), ((Ma 2), .inl (tc 0, 2400, .inl (Mf 2))), ((Ma 8), .inl (tc 1, 64, .inr (.inl sv_35))), ((Ma 9), .inl (tc 1, 13, .inr (.inl (Mg 9))))] := hD₀
          replace hS := hS₀
          clear hP₀ hD₀ hS₀
          exact retL (v := r_36) hx hb hr hlk hP hD hS (sv_34, sv_35) ⟨_, rfl, trivial⟩ [2, 3, 0, 1, 4, 5] rfl rfl dX12_summedBy_77 (Nat.le_of_ble_eq_true rfl) (Nat.le_of_ble_eq_true rfl) rfl
        · skip
          refine lv_aload_n hx hb dX12_summedBy_32 rfl (lv_at hl 2 rfl) ?_
          refine lv_iload_n hx hb dX12_summedBy_33 rfl (lv_at hl 3 rfl) ?_
          refine lv_aload_n hx hb dX12_summedBy_34 rfl (lv_at hl 2 rfl) ?_
          refine gf_X12_20 hx hb hts hown hK hP 0 rfl rfl dX12_summedBy_35 ?_
          refine lv_iload_n hx hb dX12_summedBy_38 rfl (lv_at hl 0 rfl) ?_
          refine lv_iconst (v := 2) hx hb dX12_summedBy_39 (by decide) ?_
          refine lv_iadd hx hb dX12_summedBy_40 ?_
          refine lv_topi (fun x_39 ex_39 => ?_)
          have hi_40 : vp_in x_39 288 := by
            have z_1 := Int32.lt_iff_toInt_lt.mp (Int32.not_le.mp c_14)
            have z_2 := Int32.le_iff_toInt_le.mp (Int32.not_lt.mp c_21)
            have y_0 : (0 : Int32).toInt = 0 := by decide
            have y_2 : (2 : Int32).toInt = 2 := by decide
            have y_4 : (4 : Int32).toInt = 4 := by decide
            have y_48 : (48 : Int32).toInt = 48 := by decide
            have t_x_15 : x_15.toInt = (48 : Int32).toInt * (x1 : Int32).toInt := by rw [ex_15]; exact mul_toInt (by first | omega | (rw [y_48]; omega)) (by first | omega | (rw [y_48]; omega))
            rw [y_48] at t_x_15
            have t_x_16 : x_16.toInt = (4 : Int32).toInt * (vy_4 : Int32).toInt := by rw [ex_16]; exact mul_toInt (by first | omega | (rw [y_4]; omega)) (by first | omega | (rw [y_4]; omega))
            rw [y_4] at t_x_16
            have t_x_17 : x_17.toInt = (x_15 : Int32).toInt + (x_16 : Int32).toInt := by rw [ex_17]; exact add_toInt (by omega) (by omega)
            have t_x_39 : x_39.toInt = (x_17 : Int32).toInt + (2 : Int32).toInt := by rw [ex_39]; exact add_toInt (by omega) (by omega)
            refine vp_in_iff.mpr ⟨?_, ?_⟩ <;> omega
          refine va_iald hx hb hK hP 2 0 rfl rfl hi_40 dX12_summedBy_41 ?_
          refine lv_topi (fun x_41 ex_41 => ?_)
          refine lv_aload_n hx hb dX12_summedBy_42 rfl (lv_at hl 2 rfl) ?_
          refine gf_X12_20 hx hb hts hown hK hP 0 rfl rfl dX12_summedBy_43 ?_
          refine lv_iload_n hx hb dX12_summedBy_46 rfl (lv_at hl 0 rfl) ?_
          refine lv_iconst (v := 3) hx hb dX12_summedBy_47 (by decide) ?_
          refine lv_iadd hx hb dX12_summedBy_48 ?_
          refine lv_topi (fun x_42 ex_42 => ?_)
          have hi_43 : vp_in x_42 288 := by
            have z_1 := Int32.lt_iff_toInt_lt.mp (Int32.not_le.mp c_14)
            have z_2 := Int32.le_iff_toInt_le.mp (Int32.not_lt.mp c_21)
            have y_0 : (0 : Int32).toInt = 0 := by decide
            have y_3 : (3 : Int32).toInt = 3 := by decide
            have y_4 : (4 : Int32).toInt = 4 := by decide
            have y_48 : (48 : Int32).toInt = 48 := by decide
            have t_x_15 : x_15.toInt = (48 : Int32).toInt * (x1 : Int32).toInt := by rw [ex_15]; exact mul_toInt (by first | omega | (rw [y_48]; omega)) (by first | omega | (rw [y_48]; omega))
            rw [y_48] at t_x_15
            have t_x_16 : x_16.toInt = (4 : Int32).toInt * (vy_4 : Int32).toInt := by rw [ex_16]; exact mul_toInt (by first | omega | (rw [y_4]; omega)) (by first | omega | (rw [y_4]; omega))
            rw [y_4] at t_x_16
            have t_x_17 : x_17.toInt = (x_15 : Int32).toInt + (x_16 : Int32).toInt := by rw [ex_17]; exact add_toInt (by omega) (by omega)
            have t_x_42 : x_42.toInt = (x_17 : Int32).toInt + (3 : Int32).toInt := by rw [ex_42]; exact add_toInt (by omega) (by omega)
            refine vp_in_iff.mpr ⟨?_, ?_⟩ <;> omega
          refine va_iald hx hb hK hP 2 0 rfl rfl hi_43 dX12_summedBy_49 ?_
          refine lv_topi (fun x_44 ex_44 => ?_)
          have hc_45 : 0 ≤ (vy_4 : Int32).toInt ∧ (vy_4 : Int32).toInt < (x_13 : Int32).toInt := by
            have z_1 := Int32.lt_iff_toInt_lt.mp (Int32.not_le.mp c_14)
            have z_2 := Int32.le_iff_toInt_le.mp (Int32.not_lt.mp c_21)
            have y_0 : (0 : Int32).toInt = 0 := by decide
            omega
          have hi_46 : (x_39 : Int32).toInt = 48 * x1.toInt + 4 * (vy_4 : Int32).toInt + 2 := by
            have z_1 := Int32.lt_iff_toInt_lt.mp (Int32.not_le.mp c_14)
            have z_2 := Int32.le_iff_toInt_le.mp (Int32.not_lt.mp c_21)
            have y_0 : (0 : Int32).toInt = 0 := by decide
            have y_2 : (2 : Int32).toInt = 2 := by decide
            have y_4 : (4 : Int32).toInt = 4 := by decide
            have y_48 : (48 : Int32).toInt = 48 := by decide
            have t_x_15 : x_15.toInt = (48 : Int32).toInt * (x1 : Int32).toInt := by rw [ex_15]; exact mul_toInt (by first | omega | (rw [y_48]; omega)) (by first | omega | (rw [y_48]; omega))
            rw [y_48] at t_x_15
            have t_x_16 : x_16.toInt = (4 : Int32).toInt * (vy_4 : Int32).toInt := by rw [ex_16]; exact mul_toInt (by first | omega | (rw [y_4]; omega)) (by first | omega | (rw [y_4]; omega))
            rw [y_4] at t_x_16
            have t_x_17 : x_17.toInt = (x_15 : Int32).toInt + (x_16 : Int32).toInt := by rw [ex_17]; exact add_toInt (by omega) (by omega)
            have t_x_39 : x_39.toInt = (x_17 : Int32).toInt + (2 : Int32).toInt := by rw [ex_39]; exact add_toInt (by omega) (by omega)
            omega
          have hi_47 : (x_42 : Int32).toInt = 48 * x1.toInt + 4 * (vy_4 : Int32).toInt + 3 := by
            have z_1 := Int32.lt_iff_toInt_lt.mp (Int32.not_le.mp c_14)
            have z_2 := Int32.le_iff_toInt_le.mp (Int32.not_lt.mp c_21)
            have y_0 : (0 : Int32).toInt = 0 := by decide
            have y_3 : (3 : Int32).toInt = 3 := by decide
            have y_4 : (4 : Int32).toInt = 4 := by decide
            have y_48 : (48 : Int32).toInt = 48 := by decide
            have t_x_15 : x_15.toInt = (48 : Int32).toInt * (x1 : Int32).toInt := by rw [ex_15]; exact mul_toInt (by first | omega | (rw [y_48]; omega)) (by first | omega | (rw [y_48]; omega))
            rw [y_48] at t_x_15
            have t_x_16 : x_16.toInt = (4 : Int32).toInt * (vy_4 : Int32).toInt := by rw [ex_16]; exact mul_toInt (by first | omega | (rw [y_4]; omega)) (by first | omega | (rw [y_4]; omega))
            rw [y_4] at t_x_16
            have t_x_17 : x_17.toInt = (x_15 : Int32).toInt + (x_16 : Int32).toInt := by rw [ex_17]; exact add_toInt (by omega) (by omega)
            have t_x_42 : x_42.toInt = (x_17 : Int32).toInt + (3 : Int32).toInt := by rw [ex_42]; exact add_toInt (by omega) (by omega)
            omega
          have hp_48 : 0 ≤ (x_41 : Int32).toInt := by
            have hee : x_41 = x_20 := by rw [ex_41, ex_20, ex_39, ex_18]
            rw [hee]
            have z_1 := Int32.lt_iff_toInt_lt.mp (Int32.not_le.mp c_14)
            have z_2 := Int32.le_iff_toInt_le.mp (Int32.not_lt.mp c_21)
            have y_0 : (0 : Int32).toInt = 0 := by decide
            omega
          have ha_49 : 0 ≤ x1.toInt ∧ x1.toInt < 6 := by
            have z_1 := Int32.lt_iff_toInt_lt.mp (Int32.not_le.mp c_14)
            have z_2 := Int32.le_iff_toInt_le.mp (Int32.not_lt.mp c_21)
            have y_0 : (0 : Int32).toInt = 0 := by decide
            omega
          refine cV (a := (Ma 0)) (As := [.int x1, .int x_41, .int x_44]) (rest := []) (wr := [((Ma 4), .inl (tc 0, 288, .inl (Mf 4))), ((Ma 5), .inl (tc 0, 6, .inl (Mf 5)))]) ⟨hx, hb, hml, hown, hts⟩ hK hX hA (cu_X12_reckons l D tc sk (Ma 0) (Ma 1) (Ma 2) (Ma 3) (Ma 4) (Ma 5) (Ma 6) (Ma 7) (Ma 8) (Ma 9) (Ma 10) (Ma 11) (Ma 12) (Ma 13) (Ma 14) (Ma 15) (Ma 16) (Ma 17) (Ma 18) (Ma 19) (Ma 20) (Mv 0) (Mv 1) (Mv 2) (Mv 3) (Mv 4) (Mv 5) (Mv 6) (Mv 7) (Mv 8) (Mv 9) vy_5 (Mv 11) (Mv 12) (Mv 13) (Mv 14) (Mf 2) (Mj 0) vy_6 (Mg 9) x1 x_41 x_44 (RulD.w2 h_rul h_t ex_13 hc_45 hi_46 hi_47 ex_41 ex_44 hp_48) ha_49) k_1447 k_1444 k_1446 k_73 k_106 pl_X12_reckons ⟨Nat.le_of_ble_eq_true rfl, Nat.le_of_ble_eq_true rfl⟩ rfl rfl (va_recv hK hP (ci := 12) (q0 := 0) rfl rfl) hP hD hS [0, 1, 4, 5] [2, 3] rfl rfl rfl rfl rfl (by decide) rfl hl.1 rfl (Nat.le_of_ble_eq_true rfl) dX12_summedBy_50 ⟨Nat.le_of_ble_eq_true rfl, Nat.le_of_ble_eq_true rfl⟩ (fun v_50 u_51 H locs hv_52 hP₀ hD₀ hS₀ => ?_)
          obtain ⟨sv_53, sv_54⟩ := u_51
          obtain ⟨r_55, rfl, he_56⟩ := hv_52
          refine W.eq (g2 := F0 m 53 ls [.long r_55]) rfl ?_
          replace hP : va_P D classes [((Ma 4), .inl (tc 0, 288, .inl (Mf 4))), ((Ma 5), .inl (tc 0, 6, .inl (Mf 5))), ((Ma 0), .inr (12, [.ref (Ma 1), .int (Mv 0), .int (Mv 1), .ref (Ma 2), .ref (Ma 3), .ref (Ma 4), .ref (Ma 5), .ref (Ma 6), .int (Mv 2), .int (Mv 3), .int (Mv 4), .int (Mv 5), .int (Mv 6), .int (Mv 7), .int (Mv 8), .ref (Ma 7), .int (Mv 9), .ref (Ma 8), .int sv_53, .ref (Ma 9), .ref (Ma 10), .int (Mv 11), .int (Mv 12), .int (Mv 13), .ref (Ma 11), .int (Mv 14), .ref (Ma 12), .ref (Ma 13), .ref (Ma 14), .ref (Ma 15), .ref (Ma 16), .long (Mj 0), .ref (Ma 17), .ref (Ma 18), .ref (Ma 19), .ref (Ma 20)])), ((Ma 2), .inl (tc 0, 2400, .inl (Mf 2))), ((Ma 8), .inl (tc 1, 64, .inr (.inl sv_54))), ((Ma 9), .inl (tc 1, 13, .inr (.inl (Mg 9))))] H := hP₀
          replace hD : va_D A [((Ma 4), .inl (tc 0, 288, .inl (Mf 4))), ((Ma 5), .inl (tc 0, 6, .inl (Mf 5))), ((Ma 0), .inr (12, [.ref (Ma 1), .int (Mv 0), .int (Mv 1), .ref (Ma 2), .ref (Ma 3), .ref (Ma 4), .ref (Ma 5), .ref (Ma 6), .int (Mv 2), .int (Mv 3), .int (Mv 4), .int (Mv 5), .int (Mv 6), .int (Mv 7), .int (Mv 8), .ref (Ma 7), .int (Mv 9), .ref (Ma 8), .int sv_53, .ref (Ma 9), .ref (Ma 10), .int (Mv 11), .int (Mv 12), .int (Mv 13), .ref (Ma 11), .int (Mv 14), .ref (Ma 12), .ref (Ma 13), .ref (Ma 14), .ref (Ma 15), .ref (Ma 16), .long (Mj 0), .ref (Ma 17), .ref (Ma 18), .ref (Ma 19), .ref (Ma 20)])), ((Ma 2), .inl (tc 0, 2400, .inl (Mf 2))), ((Ma 8), .inl (tc 1, 64, .inr (.inl sv_54))), ((Ma 9), .inl (tc 1, 13, .inr (.inl (Mg 9))))] := hD₀
          replace hS := hS₀
          clear hP₀ hD₀ hS₀
          refine lv_lconst (v := 1) hx hb dX12_summedBy_53 (by decide) ?_
          refine W.lcmp hx hb dX12_summedBy_54 ?_
          refine lv_topi (fun x_58 ex_58 => ?_)
          refine lv_if_ne (tgt := 78) hx hb dX12_summedBy_55 (by decide) (fun c_59 => ?_) (fun c_59 => ?_)
          · skip
            obtain ⟨x_61, ex_61⟩ : ∃ y : Int32, y = vy_4 + 1 := ⟨_, rfl⟩
            refine lv_iinc (v := x_61) (lv' := [(2, .int x_61), (3, .int x_17), (0, .ref (Ma 0)), (1, .int x1)]) hx hb dX12_summedBy_78 hl (k := 1) rfl (by rw [ex_61]; rfl) (by decide) rfl (fun ls hl₀ => ?_)
            replace hl := hl₀
            clear hl₀
            refine lv_goto (tgt := 2) hx hb dX12_summedBy_81 (by decide) ?_
            have hb_62 : 12 - (x_61 : Int32).toInt < 12 - (vy_4 : Int32).toInt ∧ 1 ≤ 12 - (vy_4 : Int32).toInt := by
              have z_1 := Int32.lt_iff_toInt_lt.mp (Int32.not_le.mp c_14)
              have z_2 := Int32.le_iff_toInt_le.mp (Int32.not_lt.mp c_21)
              have z_3 : ¬ (x_58 : Int32).toInt = (0 : Int32).toInt := fun z => c_59 (Int32.toInt_inj.mp z)
              have y_0 : (0 : Int32).toInt = 0 := by decide
              have y_1 : (1 : Int32).toInt = 1 := by decide
              have t_x_61 : x_61.toInt = (vy_4 : Int32).toInt + (1 : Int32).toInt := by rw [ex_61]; exact add_toInt (by omega) (by omega)
              omega
            have ha_63 : 0 ≤ (x_61 : Int32).toInt := by
              have z_1 := Int32.lt_iff_toInt_lt.mp (Int32.not_le.mp c_14)
              have z_2 := Int32.le_iff_toInt_le.mp (Int32.not_lt.mp c_21)
              have z_3 : ¬ (x_58 : Int32).toInt = (0 : Int32).toInt := fun z => c_59 (Int32.toInt_inj.mp z)
              have y_0 : (0 : Int32).toInt = 0 := by decide
              have y_1 : (1 : Int32).toInt = 1 := by decide
              have t_x_61 : x_61.toInt = (vy_4 : Int32).toInt + (1 : Int32).toInt := by rw [ex_61]; exact add_toInt (by omega) (by omega)
              omega
            exact ih_8 x_61 sv_53 sv_54 _ _ _ (by omega) ha_63 (hP.sub [2, 3, 0, 1, 4, 5] rfl) (hD.sub [2, 3, 0, 1, 4, 5] rfl rfl) hS (lv_sub hl [0, 2, 3] rfl)
          · skip
            have lz_64 : (r_55 : Int64).toInt = (1 : Int64).toInt := by have hc := c_59; rw [ex_58] at hc; exact congrArg Int64.toInt ((lg_cmp_eq _ _).mp hc)
            refine lv_aload_n hx hb dX12_summedBy_58 rfl (lv_at hl 2 rfl) ?_
            refine lv_iload_n hx hb dX12_summedBy_59 rfl (lv_at hl 3 rfl) ?_
            refine lv_aload_n hx hb dX12_summedBy_60 rfl (lv_at hl 2 rfl) ?_
            refine gf_X12_20 hx hb hts hown hK hP 2 rfl rfl dX12_summedBy_61 ?_
            refine lv_iload_n hx hb dX12_summedBy_64 rfl (lv_at hl 0 rfl) ?_
            have hi_65 : vp_in x_17 288 := by
              have z_1 := Int32.lt_iff_toInt_lt.mp (Int32.not_le.mp c_14)
              have z_2 := Int32.le_iff_toInt_le.mp (Int32.not_lt.mp c_21)
              have z_3 := congrArg Int32.toInt c_59
              have y_0 : (0 : Int32).toInt = 0 := by decide
              have y_4 : (4 : Int32).toInt = 4 := by decide
              have y_48 : (48 : Int32).toInt = 48 := by decide
              have t_x_15 : x_15.toInt = (48 : Int32).toInt * (x1 : Int32).toInt := by rw [ex_15]; exact mul_toInt (by first | omega | (rw [y_48]; omega)) (by first | omega | (rw [y_48]; omega))
              rw [y_48] at t_x_15
              have t_x_16 : x_16.toInt = (4 : Int32).toInt * (vy_4 : Int32).toInt := by rw [ex_16]; exact mul_toInt (by first | omega | (rw [y_4]; omega)) (by first | omega | (rw [y_4]; omega))
              rw [y_4] at t_x_16
              have t_x_17 : x_17.toInt = (x_15 : Int32).toInt + (x_16 : Int32).toInt := by rw [ex_17]; exact add_toInt (by omega) (by omega)
              refine vp_in_iff.mpr ⟨?_, ?_⟩ <;> omega
            refine va_iald hx hb hK hP 0 0 rfl rfl hi_65 dX12_summedBy_65 ?_
            refine lv_topi (fun x_66 ex_66 => ?_)
            refine lv_aload_n hx hb dX12_summedBy_66 rfl (lv_at hl 2 rfl) ?_
            refine gf_X12_20 hx hb hts hown hK hP 2 rfl rfl dX12_summedBy_67 ?_
            refine lv_iload_n hx hb dX12_summedBy_70 rfl (lv_at hl 0 rfl) ?_
            refine lv_iconst (v := 1) hx hb dX12_summedBy_71 (by decide) ?_
            refine lv_iadd hx hb dX12_summedBy_72 ?_
            refine lv_topi (fun x_67 ex_67 => ?_)
            have hi_68 : vp_in x_67 288 := by
              have z_1 := Int32.lt_iff_toInt_lt.mp (Int32.not_le.mp c_14)
              have z_2 := Int32.le_iff_toInt_le.mp (Int32.not_lt.mp c_21)
              have z_3 := congrArg Int32.toInt c_59
              have y_0 : (0 : Int32).toInt = 0 := by decide
              have y_1 : (1 : Int32).toInt = 1 := by decide
              have y_4 : (4 : Int32).toInt = 4 := by decide
              have y_48 : (48 : Int32).toInt = 48 := by decide
              have t_x_15 : x_15.toInt = (48 : Int32).toInt * (x1 : Int32).toInt := by rw [ex_15]; exact mul_toInt (by first | omega | (rw [y_48]; omega)) (by first | omega | (rw [y_48]; omega))
              rw [y_48] at t_x_15
              have t_x_16 : x_16.toInt = (4 : Int32).toInt * (vy_4 : Int32).toInt := by rw [ex_16]; exact mul_toInt (by first | omega | (rw [y_4]; omega)) (by first | omega | (rw [y_4]; omega))
              rw [y_4] at t_x_16
              have t_x_17 : x_17.toInt = (x_15 : Int32).toInt + (x_16 : Int32).toInt := by rw [ex_17]; exact add_toInt (by omega) (by omega)
              have t_x_67 : x_67.toInt = (x_17 : Int32).toInt + (1 : Int32).toInt := by rw [ex_67]; exact add_toInt (by omega) (by omega)
              refine vp_in_iff.mpr ⟨?_, ?_⟩ <;> omega
            refine va_iald hx hb hK hP 0 0 rfl rfl hi_68 dX12_summedBy_73 ?_
            refine lv_topi (fun x_69 ex_69 => ?_)
            have hc_70 : 0 ≤ (vy_4 : Int32).toInt ∧ (vy_4 : Int32).toInt < (x_13 : Int32).toInt := by
              have z_1 := Int32.lt_iff_toInt_lt.mp (Int32.not_le.mp c_14)
              have z_2 := Int32.le_iff_toInt_le.mp (Int32.not_lt.mp c_21)
              have z_3 := congrArg Int32.toInt c_59
              have y_0 : (0 : Int32).toInt = 0 := by decide
              omega
            have hi_71 : (x_17 : Int32).toInt = 48 * x1.toInt + 4 * (vy_4 : Int32).toInt := by
              have z_1 := Int32.lt_iff_toInt_lt.mp (Int32.not_le.mp c_14)
              have z_2 := Int32.le_iff_toInt_le.mp (Int32.not_lt.mp c_21)
              have z_3 := congrArg Int32.toInt c_59
              have y_0 : (0 : Int32).toInt = 0 := by decide
              have y_4 : (4 : Int32).toInt = 4 := by decide
              have y_48 : (48 : Int32).toInt = 48 := by decide
              have t_x_15 : x_15.toInt = (48 : Int32).toInt * (x1 : Int32).toInt := by rw [ex_15]; exact mul_toInt (by first | omega | (rw [y_48]; omega)) (by first | omega | (rw [y_48]; omega))
              rw [y_48] at t_x_15
              have t_x_16 : x_16.toInt = (4 : Int32).toInt * (vy_4 : Int32).toInt := by rw [ex_16]; exact mul_toInt (by first | omega | (rw [y_4]; omega)) (by first | omega | (rw [y_4]; omega))
              rw [y_4] at t_x_16
              have t_x_17 : x_17.toInt = (x_15 : Int32).toInt + (x_16 : Int32).toInt := by rw [ex_17]; exact add_toInt (by omega) (by omega)
              omega
            have hi_72 : (x_67 : Int32).toInt = 48 * x1.toInt + 4 * (vy_4 : Int32).toInt + 1 := by
              have z_1 := Int32.lt_iff_toInt_lt.mp (Int32.not_le.mp c_14)
              have z_2 := Int32.le_iff_toInt_le.mp (Int32.not_lt.mp c_21)
              have z_3 := congrArg Int32.toInt c_59
              have y_0 : (0 : Int32).toInt = 0 := by decide
              have y_1 : (1 : Int32).toInt = 1 := by decide
              have y_4 : (4 : Int32).toInt = 4 := by decide
              have y_48 : (48 : Int32).toInt = 48 := by decide
              have t_x_15 : x_15.toInt = (48 : Int32).toInt * (x1 : Int32).toInt := by rw [ex_15]; exact mul_toInt (by first | omega | (rw [y_48]; omega)) (by first | omega | (rw [y_48]; omega))
              rw [y_48] at t_x_15
              have t_x_16 : x_16.toInt = (4 : Int32).toInt * (vy_4 : Int32).toInt := by rw [ex_16]; exact mul_toInt (by first | omega | (rw [y_4]; omega)) (by first | omega | (rw [y_4]; omega))
              rw [y_4] at t_x_16
              have t_x_17 : x_17.toInt = (x_15 : Int32).toInt + (x_16 : Int32).toInt := by rw [ex_17]; exact add_toInt (by omega) (by omega)
              have t_x_67 : x_67.toInt = (x_17 : Int32).toInt + (1 : Int32).toInt := by rw [ex_67]; exact add_toInt (by omega) (by omega)
              omega
            have ha_73 : 0 ≤ x1.toInt ∧ x1.toInt < 6 := by
              have z_1 := Int32.lt_iff_toInt_lt.mp (Int32.not_le.mp c_14)
              have z_2 := Int32.le_iff_toInt_le.mp (Int32.not_lt.mp c_21)
              have z_3 := congrArg Int32.toInt c_59
              have y_0 : (0 : Int32).toInt = 0 := by decide
              omega
            refine cV (a := (Ma 0)) (As := [.int x1, .int x_66, .int x_69]) (rest := []) (wr := [((Ma 4), .inl (tc 0, 288, .inl (Mf 4))), ((Ma 5), .inl (tc 0, 6, .inl (Mf 5)))]) ⟨hx, hb, hml, hown, hts⟩ hK hX hA (cu_X12_reckons l D tc sk (Ma 0) (Ma 1) (Ma 2) (Ma 3) (Ma 4) (Ma 5) (Ma 6) (Ma 7) (Ma 8) (Ma 9) (Ma 10) (Ma 11) (Ma 12) (Ma 13) (Ma 14) (Ma 15) (Ma 16) (Ma 17) (Ma 18) (Ma 19) (Ma 20) (Mv 0) (Mv 1) (Mv 2) (Mv 3) (Mv 4) (Mv 5) (Mv 6) (Mv 7) (Mv 8) (Mv 9) sv_53 (Mv 11) (Mv 12) (Mv 13) (Mv 14) (Mf 2) (Mj 0) sv_54 (Mg 9) x1 x_66 x_69 (RulD.w h_rul h_t ex_13 hc_70 hi_71 hi_72 ex_66 ex_69) ha_73) k_1447 k_1444 k_1446 k_73 k_106 pl_X12_reckons ⟨Nat.le_of_ble_eq_true rfl, Nat.le_of_ble_eq_true rfl⟩ rfl rfl (va_recv hK hP (ci := 12) (q0 := 2) rfl rfl) hP hD hS [2, 3, 4, 5] [0, 1] rfl rfl rfl rfl rfl (by decide) rfl hl.1 rfl (Nat.le_of_ble_eq_true rfl) dX12_summedBy_74 ⟨Nat.le_of_ble_eq_true rfl, Nat.le_of_ble_eq_true rfl⟩ (fun v_74 u_75 H locs hv_76 hP₀ hD₀ hS₀ => ?_)
            obtain ⟨sv_77, sv_78⟩ := u_75
            obtain ⟨r_79, rfl, he_80⟩ := hv_76
            refine W.eq (g2 := F0 m 77 ls [.long r_79]) rfl ?_
            replace hP : va_P D classes [((Ma 4), .inl (tc 0, 288, .inl (Mf 4))), ((Ma 5), .inl (tc 0, 6, .inl (Mf 5))), ((Ma 0), .inr (12, [.ref (Ma 1), .int (Mv 0), .int (Mv 1), .ref (Ma 2), .ref (Ma 3), .ref (Ma 4), .ref (Ma 5), .ref (Ma 6), .int (Mv 2), .int (Mv 3), .int (Mv 4), .int (Mv 5), .int (Mv 6), .int (Mv 7), .int (Mv 8), .ref (Ma 7), .int (Mv 9), .ref (Ma 8), .int sv_77, .ref (Ma 9), .ref (Ma 10), .int (Mv 11), .int (Mv 12), .int (Mv 13), .ref (Ma 11), .int (Mv 14), .ref (Ma 12), .ref (Ma 13), .ref (Ma 14), .ref (Ma 15), .ref (Ma 16), .long (Mj 0), .ref (Ma 17), .ref (Ma 18), .ref (Ma 19), .ref (Ma 20)])), ((Ma 2), .inl (tc 0, 2400, .inl (Mf 2))), ((Ma 8), .inl (tc 1, 64, .inr (.inl sv_78))), ((Ma 9), .inl (tc 1, 13, .inr (.inl (Mg 9))))] H := hP₀
            replace hD : va_D A [((Ma 4), .inl (tc 0, 288, .inl (Mf 4))), ((Ma 5), .inl (tc 0, 6, .inl (Mf 5))), ((Ma 0), .inr (12, [.ref (Ma 1), .int (Mv 0), .int (Mv 1), .ref (Ma 2), .ref (Ma 3), .ref (Ma 4), .ref (Ma 5), .ref (Ma 6), .int (Mv 2), .int (Mv 3), .int (Mv 4), .int (Mv 5), .int (Mv 6), .int (Mv 7), .int (Mv 8), .ref (Ma 7), .int (Mv 9), .ref (Ma 8), .int sv_77, .ref (Ma 9), .ref (Ma 10), .int (Mv 11), .int (Mv 12), .int (Mv 13), .ref (Ma 11), .int (Mv 14), .ref (Ma 12), .ref (Ma 13), .ref (Ma 14), .ref (Ma 15), .ref (Ma 16), .long (Mj 0), .ref (Ma 17), .ref (Ma 18), .ref (Ma 19), .ref (Ma 20)])), ((Ma 2), .inl (tc 0, 2400, .inl (Mf 2))), ((Ma 8), .inl (tc 1, 64, .inr (.inl sv_78))), ((Ma 9), .inl (tc 1, 13, .inr (.inl (Mg 9))))] := hD₀
            replace hS := hS₀
            clear hP₀ hD₀ hS₀
            exact retL (v := r_79) hx hb hr hlk hP hD hS (sv_77, sv_78) ⟨_, rfl, trivial⟩ [2, 3, 0, 1, 4, 5] rfl rfl dX12_summedBy_77 (Nat.le_of_ble_eq_true rfl) (Nat.le_of_ble_eq_true rfl) rfl
  have ha_82 : 0 ≤ (0 : Int32).toInt := by
    have y_0 : (0 : Int32).toInt = 0 := by decide
    omega
  exact loop_9 _ 0 (Mv 10) (Mg 8) _ _ _ (Nat.lt_succ_self _) ha_82 hP hD hS hl
set_option maxRecDepth 100000 in
theorem cu_X12_summedBy (l : Launch) (D : va_G) (tc : Nat → ClassId) (sk : (Nat → Nat) × (Nat → Nat)) (Ma_0 : Nat) (Ma_1 : Nat) (Ma_2 : Nat) (Ma_3 : Nat) (Ma_4 : Nat) (Ma_5 : Nat) (Ma_6 : Nat) (Ma_7 : Nat) (Ma_8 : Nat) (Ma_9 : Nat) (Ma_10 : Nat) (Ma_11 : Nat) (Ma_12 : Nat) (Ma_13 : Nat) (Ma_14 : Nat) (Ma_15 : Nat) (Ma_16 : Nat) (Ma_17 : Nat) (Ma_18 : Nat) (Ma_19 : Nat) (Ma_20 : Nat) (Mv_0 : Int32) (Mv_1 : Int32) (Mv_2 : Int32) (Mv_3 : Int32) (Mv_4 : Int32) (Mv_5 : Int32) (Mv_6 : Int32) (Mv_7 : Int32) (Mv_8 : Int32) (Mv_9 : Int32) (Mv_10 : Int32) (Mv_11 : Int32) (Mv_12 : Int32) (Mv_13 : Int32) (Mv_14 : Int32) (Mf_2 : Nat → Int32) (Mf_4 : Nat → Int32) (Mf_5 : Nat → Int32) (Mj_0 : Int64) (Mg_8 : Nat → Int64) (Mg_9 : Nat → Int64) (x1 : Int32) (h_rul : RulD Mf_2 Mf_4 Mf_5 Mv_1) (h_t : 0 ≤ x1.toInt ∧ x1.toInt < Mv_1.toInt) (h_r6 : Mv_1.toInt ≤ 6) : Ct l yX12_summedBy cX12_summedBy 4 (some .long) { frames := 2, cells := 0, slots := 0, locals := 54 } D tc sk [.ref Ma_0, .int x1] [(Ma_0, .inr (12, [.ref Ma_1, .int Mv_0, .int Mv_1, .ref Ma_2, .ref Ma_3, .ref Ma_4, .ref Ma_5, .ref Ma_6, .int Mv_2, .int Mv_3, .int Mv_4, .int Mv_5, .int Mv_6, .int Mv_7, .int Mv_8, .ref Ma_7, .int Mv_9, .ref Ma_8, .int Mv_10, .ref Ma_9, .ref Ma_10, .int Mv_11, .int Mv_12, .int Mv_13, .ref Ma_11, .int Mv_14, .ref Ma_12, .ref Ma_13, .ref Ma_14, .ref Ma_15, .ref Ma_16, .long Mj_0, .ref Ma_17, .ref Ma_18, .ref Ma_19, .ref Ma_20])), (Ma_2, .inl (tc 0, 2400, .inl Mf_2)), (Ma_4, .inl (tc 0, 288, .inl Mf_4)), (Ma_5, .inl (tc 0, 6, .inl Mf_5)), (Ma_8, .inl (tc 1, 64, .inr (.inl Mg_8))), (Ma_9, .inl (tc 1, 13, .inr (.inl Mg_9)))] (fun (v : Option Value) (u : (Int32) × (Nat → Int64)) => match u with | (oo0x1, oo0x2) => ∃ r : Int64, v = some (.long r) ∧ (True)) (fun (u : (Int32) × (Nat → Int64)) => match u with | (oo0x1, oo0x2) => [(Ma_0, .inr (12, [.ref Ma_1, .int Mv_0, .int Mv_1, .ref Ma_2, .ref Ma_3, .ref Ma_4, .ref Ma_5, .ref Ma_6, .int Mv_2, .int Mv_3, .int Mv_4, .int Mv_5, .int Mv_6, .int Mv_7, .int Mv_8, .ref Ma_7, .int Mv_9, .ref Ma_8, .int oo0x1, .ref Ma_9, .ref Ma_10, .int Mv_11, .int Mv_12, .int Mv_13, .ref Ma_11, .int Mv_14, .ref Ma_12, .ref Ma_13, .ref Ma_14, .ref Ma_15, .ref Ma_16, .long Mj_0, .ref Ma_17, .ref Ma_18, .ref Ma_19, .ref Ma_20])), (Ma_2, .inl (tc 0, 2400, .inl Mf_2)), (Ma_4, .inl (tc 0, 288, .inl Mf_4)), (Ma_5, .inl (tc 0, 6, .inl Mf_5)), (Ma_8, .inl (tc 1, 64, .inr (.inl oo0x2))), (Ma_9, .inl (tc 1, 13, .inr (.inl Mg_9)))]) 0 0 :=
  ct_X12_summedBy l D tc sk (fun k => ([Ma_0, Ma_1, Ma_2, Ma_3, Ma_4, Ma_5, Ma_6, Ma_7, Ma_8, Ma_9, Ma_10, Ma_11, Ma_12, Ma_13, Ma_14, Ma_15, Ma_16, Ma_17, Ma_18, Ma_19, Ma_20] : List (Nat)).getD k 0) (fun k => ([Mv_0, Mv_1, Mv_2, Mv_3, Mv_4, Mv_5, Mv_6, Mv_7, Mv_8, Mv_9, Mv_10, Mv_11, Mv_12, Mv_13, Mv_14] : List (Int32)).getD k 0) (fun k => ([(fun _ => 0), (fun _ => 0), Mf_2, (fun _ => 0), Mf_4, Mf_5] : List (Nat → Int32)).getD k (fun _ => 0)) (fun k => ([Mj_0] : List (Int64)).getD k 0) (fun k => ([(fun _ => 0), (fun _ => 0), (fun _ => 0), (fun _ => 0), (fun _ => 0), (fun _ => 0), (fun _ => 0), (fun _ => 0), Mg_8, Mg_9] : List (Nat → Int64)).getD k (fun _ => 0)) x1 h_rul h_t h_r6
set_option maxHeartbeats 4000000 in
set_option maxRecDepth 100000 in
theorem ct_X12_isBook {T : Nat → Option Int32} (l : Launch) (D : va_G) (tc : Nat → ClassId) (sk : (Nat → Nat) × (Nat → Nat)) (Ma : Nat → Nat) (Mv : Nat → Int32) (Mf : Nat → Nat → Int32) (Mj : Nat → Int64) (h_said : SaidB T (Mf 10)) : Ct l yX12_isBook cX12_isBook 1 (some .boolean) { frames := 0, cells := 0, slots := 0, locals := 0 } D tc sk [.ref (Ma 0)] [((Ma 0), .inr (12, [.ref (Ma 1), .int (Mv 0), .int (Mv 1), .ref (Ma 2), .ref (Ma 3), .ref (Ma 4), .ref (Ma 5), .ref (Ma 6), .int (Mv 2), .int (Mv 3), .int (Mv 4), .int (Mv 5), .int (Mv 6), .int (Mv 7), .int (Mv 8), .ref (Ma 7), .int (Mv 9), .ref (Ma 8), .int (Mv 10), .ref (Ma 9), .ref (Ma 10), .int (Mv 11), .int (Mv 12), .int (Mv 13), .ref (Ma 11), .int (Mv 14), .ref (Ma 12), .ref (Ma 13), .ref (Ma 14), .ref (Ma 15), .ref (Ma 16), .long (Mj 0), .ref (Ma 17), .ref (Ma 18), .ref (Ma 19), .ref (Ma 20)])), ((Ma 10), .inl (tc 0, 126, .inl (Mf 10)))] (fun (v : Option Value) (_ : Unit) => ∃ r : Int32, v = some (.int r) ∧ ((r.toInt = 0 ∨ (r.toInt = 1 ∧ 1 ≤ ((Mf 10) 2).toInt ∧ ((Mf 10) 2).toInt ≤ 10)))) (fun (_ : Unit) => [((Ma 0), .inr (12, [.ref (Ma 1), .int (Mv 0), .int (Mv 1), .ref (Ma 2), .ref (Ma 3), .ref (Ma 4), .ref (Ma 5), .ref (Ma 6), .int (Mv 2), .int (Mv 3), .int (Mv 4), .int (Mv 5), .int (Mv 6), .int (Mv 7), .int (Mv 8), .ref (Ma 7), .int (Mv 9), .ref (Ma 8), .int (Mv 10), .ref (Ma 9), .ref (Ma 10), .int (Mv 11), .int (Mv 12), .int (Mv 13), .ref (Ma 11), .int (Mv 14), .ref (Ma 12), .ref (Ma 13), .ref (Ma 14), .ref (Ma 15), .ref (Ma 16), .long (Mj 0), .ref (Ma 17), .ref (Ma 18), .ref (Ma 19), .ref (Ma 20)])), ((Ma 10), .inl (tc 0, 126, .inl (Mf 10)))]) 0 0 := by
  refine Ct.start (by decide) (Nat.le_of_ble_eq_true rfl) (fun p e s m below meth c A ls hx hb hr hlk hin hml hown hts hK hX hP hD hA hl hS => ?_)
  have hl : lv_has ls 1 [(0, .ref (Ma 0))] := hl
  have ar_h_said := SaidB.ar h_said
  refine lv_aload_n hx hb dX12_isBook_0 rfl (lv_at hl 0 rfl) ?_
  refine gf_X12_39 hx hb hts hown hK hP 0 rfl rfl dX12_isBook_1 ?_
  refine lv_iconst (v := 0) hx hb dX12_isBook_4 (by decide) ?_
  refine va_iald hx hb hK hP 1 0 rfl rfl (vin_dec (by decide +kernel)) dX12_isBook_5 ?_
  refine lv_topi (fun x_1 ex_1 => ?_)
  have lx_1 : x_1.toInt = ((Mf 10) 0).toInt := congrArg Int32.toInt ex_1
  refine lv_iconst (v := 1) hx hb dX12_isBook_6 (by decide) ?_
  refine lv_icmp_ne (tgt := 14) hx hb dX12_isBook_7 (by decide) (fun c_2 => ?_) (fun c_2 => ?_)
  · skip
    refine lv_iconst (v := 0) hx hb dX12_isBook_14 (by decide) ?_
    have hp_3 : ((0 : Int32).toInt = 0 ∨ ((0 : Int32).toInt = 1 ∧ 1 ≤ ((Mf 10) 2).toInt ∧ ((Mf 10) 2).toInt ≤ 10)) := by
      have z_1 : ¬ (x_1 : Int32).toInt = (1 : Int32).toInt := fun z => c_2 (Int32.toInt_inj.mp z)
      have y_1 : (1 : Int32).toInt = 1 := by decide
      have y_0 : (0 : Int32).toInt = 0 := by decide
      have yr : (0 : Int32).toInt = 0 := by decide
      omega
    exact retI (v := 0) hx hb hr hlk (rfl) hP hD hS () ⟨_, rfl, hp_3⟩ [0, 1] rfl rfl dX12_isBook_15 (Nat.le_of_ble_eq_true rfl) (Nat.le_of_ble_eq_true rfl) rfl
  · skip
    refine lv_iconst (v := 1) hx hb dX12_isBook_10 (by decide) ?_
    refine lv_goto (tgt := 15) hx hb dX12_isBook_11 (by decide) ?_
    have hp_4 : ((1 : Int32).toInt = 0 ∨ ((1 : Int32).toInt = 1 ∧ 1 ≤ ((Mf 10) 2).toInt ∧ ((Mf 10) 2).toInt ≤ 10)) := by
      have z_1 := congrArg Int32.toInt c_2
      have y_1 : (1 : Int32).toInt = 1 := by decide
      omega
    exact retI (v := 1) hx hb hr hlk (rfl) hP hD hS () ⟨_, rfl, hp_4⟩ [0, 1] rfl rfl dX12_isBook_15 (Nat.le_of_ble_eq_true rfl) (Nat.le_of_ble_eq_true rfl) rfl
set_option maxRecDepth 100000 in
theorem cu_X12_isBook {T : Nat → Option Int32} (l : Launch) (D : va_G) (tc : Nat → ClassId) (sk : (Nat → Nat) × (Nat → Nat)) (Ma_0 : Nat) (Ma_1 : Nat) (Ma_2 : Nat) (Ma_3 : Nat) (Ma_4 : Nat) (Ma_5 : Nat) (Ma_6 : Nat) (Ma_7 : Nat) (Ma_8 : Nat) (Ma_9 : Nat) (Ma_10 : Nat) (Ma_11 : Nat) (Ma_12 : Nat) (Ma_13 : Nat) (Ma_14 : Nat) (Ma_15 : Nat) (Ma_16 : Nat) (Ma_17 : Nat) (Ma_18 : Nat) (Ma_19 : Nat) (Ma_20 : Nat) (Mv_0 : Int32) (Mv_1 : Int32) (Mv_2 : Int32) (Mv_3 : Int32) (Mv_4 : Int32) (Mv_5 : Int32) (Mv_6 : Int32) (Mv_7 : Int32) (Mv_8 : Int32) (Mv_9 : Int32) (Mv_10 : Int32) (Mv_11 : Int32) (Mv_12 : Int32) (Mv_13 : Int32) (Mv_14 : Int32) (Mf_10 : Nat → Int32) (Mj_0 : Int64) (h_said : SaidB T Mf_10) : Ct l yX12_isBook cX12_isBook 1 (some .boolean) { frames := 0, cells := 0, slots := 0, locals := 0 } D tc sk [.ref Ma_0] [(Ma_0, .inr (12, [.ref Ma_1, .int Mv_0, .int Mv_1, .ref Ma_2, .ref Ma_3, .ref Ma_4, .ref Ma_5, .ref Ma_6, .int Mv_2, .int Mv_3, .int Mv_4, .int Mv_5, .int Mv_6, .int Mv_7, .int Mv_8, .ref Ma_7, .int Mv_9, .ref Ma_8, .int Mv_10, .ref Ma_9, .ref Ma_10, .int Mv_11, .int Mv_12, .int Mv_13, .ref Ma_11, .int Mv_14, .ref Ma_12, .ref Ma_13, .ref Ma_14, .ref Ma_15, .ref Ma_16, .long Mj_0, .ref Ma_17, .ref Ma_18, .ref Ma_19, .ref Ma_20])), (Ma_10, .inl (tc 0, 126, .inl Mf_10))] (fun (v : Option Value) (_ : Unit) => ∃ r : Int32, v = some (.int r) ∧ ((r.toInt = 0 ∨ (r.toInt = 1 ∧ 1 ≤ (Mf_10 2).toInt ∧ (Mf_10 2).toInt ≤ 10)))) (fun (_ : Unit) => [(Ma_0, .inr (12, [.ref Ma_1, .int Mv_0, .int Mv_1, .ref Ma_2, .ref Ma_3, .ref Ma_4, .ref Ma_5, .ref Ma_6, .int Mv_2, .int Mv_3, .int Mv_4, .int Mv_5, .int Mv_6, .int Mv_7, .int Mv_8, .ref Ma_7, .int Mv_9, .ref Ma_8, .int Mv_10, .ref Ma_9, .ref Ma_10, .int Mv_11, .int Mv_12, .int Mv_13, .ref Ma_11, .int Mv_14, .ref Ma_12, .ref Ma_13, .ref Ma_14, .ref Ma_15, .ref Ma_16, .long Mj_0, .ref Ma_17, .ref Ma_18, .ref Ma_19, .ref Ma_20])), (Ma_10, .inl (tc 0, 126, .inl Mf_10))]) 0 0 :=
  ct_X12_isBook l D tc sk (fun k => ([Ma_0, Ma_1, Ma_2, Ma_3, Ma_4, Ma_5, Ma_6, Ma_7, Ma_8, Ma_9, Ma_10, Ma_11, Ma_12, Ma_13, Ma_14, Ma_15, Ma_16, Ma_17, Ma_18, Ma_19, Ma_20] : List (Nat)).getD k 0) (fun k => ([Mv_0, Mv_1, Mv_2, Mv_3, Mv_4, Mv_5, Mv_6, Mv_7, Mv_8, Mv_9, Mv_10, Mv_11, Mv_12, Mv_13, Mv_14] : List (Int32)).getD k 0) (fun k => ([(fun _ => 0), (fun _ => 0), (fun _ => 0), (fun _ => 0), (fun _ => 0), (fun _ => 0), (fun _ => 0), (fun _ => 0), (fun _ => 0), (fun _ => 0), Mf_10] : List (Nat → Int32)).getD k (fun _ => 0)) (fun k => ([Mj_0] : List (Int64)).getD k 0) h_said
set_option maxHeartbeats 4000000 in
set_option maxRecDepth 100000 in
theorem ct_X12_isBuyer {T : Nat → Option Int32} (l : Launch) (D : va_G) (tc : Nat → ClassId) (sk : (Nat → Nat) × (Nat → Nat)) (Ma : Nat → Nat) (Mv : Nat → Int32) (Mf : Nat → Nat → Int32) (Mj : Nat → Int64) (x1 : Int32) (h_said : SaidB T (Mf 10)) : Ct l yX12_isBuyer cX12_isBuyer 2 (some .boolean) { frames := 0, cells := 0, slots := 0, locals := 0 } D tc sk [.ref (Ma 0), .int x1] [((Ma 0), .inr (12, [.ref (Ma 1), .int (Mv 0), .int (Mv 1), .ref (Ma 2), .ref (Ma 3), .ref (Ma 4), .ref (Ma 5), .ref (Ma 6), .int (Mv 2), .int (Mv 3), .int (Mv 4), .int (Mv 5), .int (Mv 6), .int (Mv 7), .int (Mv 8), .ref (Ma 7), .int (Mv 9), .ref (Ma 8), .int (Mv 10), .ref (Ma 9), .ref (Ma 10), .int (Mv 11), .int (Mv 12), .int (Mv 13), .ref (Ma 11), .int (Mv 14), .ref (Ma 12), .ref (Ma 13), .ref (Ma 14), .ref (Ma 15), .ref (Ma 16), .long (Mj 0), .ref (Ma 17), .ref (Ma 18), .ref (Ma 19), .ref (Ma 20)])), ((Ma 10), .inl (tc 0, 126, .inl (Mf 10)))] (fun (v : Option Value) (_ : Unit) => ∃ r : Int32, v = some (.int r) ∧ ((r.toInt = 0 ∨ (r.toInt = 1 ∧ 0 ≤ x1.toInt ∧ x1.toInt < ((Mf 10) 3).toInt)))) (fun (_ : Unit) => [((Ma 0), .inr (12, [.ref (Ma 1), .int (Mv 0), .int (Mv 1), .ref (Ma 2), .ref (Ma 3), .ref (Ma 4), .ref (Ma 5), .ref (Ma 6), .int (Mv 2), .int (Mv 3), .int (Mv 4), .int (Mv 5), .int (Mv 6), .int (Mv 7), .int (Mv 8), .ref (Ma 7), .int (Mv 9), .ref (Ma 8), .int (Mv 10), .ref (Ma 9), .ref (Ma 10), .int (Mv 11), .int (Mv 12), .int (Mv 13), .ref (Ma 11), .int (Mv 14), .ref (Ma 12), .ref (Ma 13), .ref (Ma 14), .ref (Ma 15), .ref (Ma 16), .long (Mj 0), .ref (Ma 17), .ref (Ma 18), .ref (Ma 19), .ref (Ma 20)])), ((Ma 10), .inl (tc 0, 126, .inl (Mf 10)))]) 0 0 := by
  refine Ct.start (by decide) (Nat.le_of_ble_eq_true rfl) (fun p e s m below meth c A ls hx hb hr hlk hin hml hown hts hK hX hP hD hA hl hS => ?_)
  have hl : lv_has ls 2 [(0, .ref (Ma 0)), (1, .int x1)] := hl
  have ar_h_said := SaidB.ar h_said
  refine lv_iload_n hx hb dX12_isBuyer_0 rfl (lv_at hl 1 rfl) ?_
  refine lv_if_lt (tgt := 18) hx hb dX12_isBuyer_1 (by decide) (fun c_1 => ?_) (fun c_1 => ?_)
  · skip
    refine lv_iconst (v := 0) hx hb dX12_isBuyer_18 (by decide) ?_
    have hp_2 : ((0 : Int32).toInt = 0 ∨ ((0 : Int32).toInt = 1 ∧ 0 ≤ x1.toInt ∧ x1.toInt < ((Mf 10) 3).toInt)) := by
      have z_1 := Int32.lt_iff_toInt_lt.mp c_1
      have y_0 : (0 : Int32).toInt = 0 := by decide
      omega
    exact retI (v := 0) hx hb hr hlk (rfl) hP hD hS () ⟨_, rfl, hp_2⟩ [0, 1] rfl rfl dX12_isBuyer_19 (Nat.le_of_ble_eq_true rfl) (Nat.le_of_ble_eq_true rfl) rfl
  · skip
    refine lv_iload_n hx hb dX12_isBuyer_4 rfl (lv_at hl 1 rfl) ?_
    refine lv_aload_n hx hb dX12_isBuyer_5 rfl (lv_at hl 0 rfl) ?_
    refine gf_X12_39 hx hb hts hown hK hP 0 rfl rfl dX12_isBuyer_6 ?_
    refine lv_iconst (v := 3) hx hb dX12_isBuyer_9 (by decide) ?_
    refine va_iald hx hb hK hP 1 0 rfl rfl (vin_dec (by decide +kernel)) dX12_isBuyer_10 ?_
    refine lv_topi (fun x_3 ex_3 => ?_)
    have lx_3 : x_3.toInt = ((Mf 10) 3).toInt := congrArg Int32.toInt ex_3
    refine lv_icmp_ge (tgt := 18) hx hb dX12_isBuyer_11 (by decide) (fun c_4 => ?_) (fun c_4 => ?_)
    · skip
      refine lv_iconst (v := 0) hx hb dX12_isBuyer_18 (by decide) ?_
      have hp_5 : ((0 : Int32).toInt = 0 ∨ ((0 : Int32).toInt = 1 ∧ 0 ≤ x1.toInt ∧ x1.toInt < ((Mf 10) 3).toInt)) := by
        have z_1 := Int32.le_iff_toInt_le.mp (Int32.not_lt.mp c_1)
        have z_2 := Int32.le_iff_toInt_le.mp c_4
        have y_0 : (0 : Int32).toInt = 0 := by decide
        omega
      exact retI (v := 0) hx hb hr hlk (rfl) hP hD hS () ⟨_, rfl, hp_5⟩ [0, 1] rfl rfl dX12_isBuyer_19 (Nat.le_of_ble_eq_true rfl) (Nat.le_of_ble_eq_true rfl) rfl
    · skip
      refine lv_iconst (v := 1) hx hb dX12_isBuyer_14 (by decide) ?_
      refine lv_goto (tgt := 19) hx hb dX12_isBuyer_15 (by decide) ?_
      have hp_6 : ((1 : Int32).toInt = 0 ∨ ((1 : Int32).toInt = 1 ∧ 0 ≤ x1.toInt ∧ x1.toInt < ((Mf 10) 3).toInt)) := by
        have z_1 := Int32.le_iff_toInt_le.mp (Int32.not_lt.mp c_1)
        have z_2 := Int32.lt_iff_toInt_lt.mp (Int32.not_le.mp c_4)
        have y_0 : (0 : Int32).toInt = 0 := by decide
        have y_1 : (1 : Int32).toInt = 1 := by decide
        have yr : (1 : Int32).toInt = 1 := by decide
        omega
      exact retI (v := 1) hx hb hr hlk (rfl) hP hD hS () ⟨_, rfl, hp_6⟩ [0, 1] rfl rfl dX12_isBuyer_19 (Nat.le_of_ble_eq_true rfl) (Nat.le_of_ble_eq_true rfl) rfl
set_option maxRecDepth 100000 in
theorem cu_X12_isBuyer {T : Nat → Option Int32} (l : Launch) (D : va_G) (tc : Nat → ClassId) (sk : (Nat → Nat) × (Nat → Nat)) (Ma_0 : Nat) (Ma_1 : Nat) (Ma_2 : Nat) (Ma_3 : Nat) (Ma_4 : Nat) (Ma_5 : Nat) (Ma_6 : Nat) (Ma_7 : Nat) (Ma_8 : Nat) (Ma_9 : Nat) (Ma_10 : Nat) (Ma_11 : Nat) (Ma_12 : Nat) (Ma_13 : Nat) (Ma_14 : Nat) (Ma_15 : Nat) (Ma_16 : Nat) (Ma_17 : Nat) (Ma_18 : Nat) (Ma_19 : Nat) (Ma_20 : Nat) (Mv_0 : Int32) (Mv_1 : Int32) (Mv_2 : Int32) (Mv_3 : Int32) (Mv_4 : Int32) (Mv_5 : Int32) (Mv_6 : Int32) (Mv_7 : Int32) (Mv_8 : Int32) (Mv_9 : Int32) (Mv_10 : Int32) (Mv_11 : Int32) (Mv_12 : Int32) (Mv_13 : Int32) (Mv_14 : Int32) (Mf_10 : Nat → Int32) (Mj_0 : Int64) (x1 : Int32) (h_said : SaidB T Mf_10) : Ct l yX12_isBuyer cX12_isBuyer 2 (some .boolean) { frames := 0, cells := 0, slots := 0, locals := 0 } D tc sk [.ref Ma_0, .int x1] [(Ma_0, .inr (12, [.ref Ma_1, .int Mv_0, .int Mv_1, .ref Ma_2, .ref Ma_3, .ref Ma_4, .ref Ma_5, .ref Ma_6, .int Mv_2, .int Mv_3, .int Mv_4, .int Mv_5, .int Mv_6, .int Mv_7, .int Mv_8, .ref Ma_7, .int Mv_9, .ref Ma_8, .int Mv_10, .ref Ma_9, .ref Ma_10, .int Mv_11, .int Mv_12, .int Mv_13, .ref Ma_11, .int Mv_14, .ref Ma_12, .ref Ma_13, .ref Ma_14, .ref Ma_15, .ref Ma_16, .long Mj_0, .ref Ma_17, .ref Ma_18, .ref Ma_19, .ref Ma_20])), (Ma_10, .inl (tc 0, 126, .inl Mf_10))] (fun (v : Option Value) (_ : Unit) => ∃ r : Int32, v = some (.int r) ∧ ((r.toInt = 0 ∨ (r.toInt = 1 ∧ 0 ≤ x1.toInt ∧ x1.toInt < (Mf_10 3).toInt)))) (fun (_ : Unit) => [(Ma_0, .inr (12, [.ref Ma_1, .int Mv_0, .int Mv_1, .ref Ma_2, .ref Ma_3, .ref Ma_4, .ref Ma_5, .ref Ma_6, .int Mv_2, .int Mv_3, .int Mv_4, .int Mv_5, .int Mv_6, .int Mv_7, .int Mv_8, .ref Ma_7, .int Mv_9, .ref Ma_8, .int Mv_10, .ref Ma_9, .ref Ma_10, .int Mv_11, .int Mv_12, .int Mv_13, .ref Ma_11, .int Mv_14, .ref Ma_12, .ref Ma_13, .ref Ma_14, .ref Ma_15, .ref Ma_16, .long Mj_0, .ref Ma_17, .ref Ma_18, .ref Ma_19, .ref Ma_20])), (Ma_10, .inl (tc 0, 126, .inl Mf_10))]) 0 0 :=
  ct_X12_isBuyer l D tc sk (fun k => ([Ma_0, Ma_1, Ma_2, Ma_3, Ma_4, Ma_5, Ma_6, Ma_7, Ma_8, Ma_9, Ma_10, Ma_11, Ma_12, Ma_13, Ma_14, Ma_15, Ma_16, Ma_17, Ma_18, Ma_19, Ma_20] : List (Nat)).getD k 0) (fun k => ([Mv_0, Mv_1, Mv_2, Mv_3, Mv_4, Mv_5, Mv_6, Mv_7, Mv_8, Mv_9, Mv_10, Mv_11, Mv_12, Mv_13, Mv_14] : List (Int32)).getD k 0) (fun k => ([(fun _ => 0), (fun _ => 0), (fun _ => 0), (fun _ => 0), (fun _ => 0), (fun _ => 0), (fun _ => 0), (fun _ => 0), (fun _ => 0), (fun _ => 0), Mf_10] : List (Nat → Int32)).getD k (fun _ => 0)) (fun k => ([Mj_0] : List (Int64)).getD k 0) x1 h_said
set_option maxHeartbeats 4000000 in
set_option maxRecDepth 100000 in
theorem ct_X12_isClock {T : Nat → Option Int32} (l : Launch) (D : va_G) (tc : Nat → ClassId) (sk : (Nat → Nat) × (Nat → Nat)) (Ma : Nat → Nat) (Mv : Nat → Int32) (Mf : Nat → Nat → Int32) (Mj : Nat → Int64) (x1 : Int32) (h_said : SaidB T (Mf 10)) : Ct l yX12_isClock cX12_isClock 2 (some .boolean) { frames := 1, cells := 0, slots := 0, locals := 20 } D tc sk [.ref (Ma 0), .int x1] [((Ma 0), .inr (12, [.ref (Ma 1), .int (Mv 0), .int (Mv 1), .ref (Ma 2), .ref (Ma 3), .ref (Ma 4), .ref (Ma 5), .ref (Ma 6), .int (Mv 2), .int (Mv 3), .int (Mv 4), .int (Mv 5), .int (Mv 6), .int (Mv 7), .int (Mv 8), .ref (Ma 7), .int (Mv 9), .ref (Ma 8), .int (Mv 10), .ref (Ma 9), .ref (Ma 10), .int (Mv 11), .int (Mv 12), .int (Mv 13), .ref (Ma 11), .int (Mv 14), .ref (Ma 12), .ref (Ma 13), .ref (Ma 14), .ref (Ma 15), .ref (Ma 16), .long (Mj 0), .ref (Ma 17), .ref (Ma 18), .ref (Ma 19), .ref (Ma 20)])), ((Ma 10), .inl (tc 0, 126, .inl (Mf 10)))] (fun (v : Option Value) (_ : Unit) => ∃ r : Int32, v = some (.int r) ∧ ((r.toInt = 0 ∨ (r.toInt = 1 ∧ 0 ≤ x1.toInt ∧ x1.toInt < ((Mf 10) 2).toInt ∧ ((Mf 10) 2).toInt ≤ 10)))) (fun (_ : Unit) => [((Ma 0), .inr (12, [.ref (Ma 1), .int (Mv 0), .int (Mv 1), .ref (Ma 2), .ref (Ma 3), .ref (Ma 4), .ref (Ma 5), .ref (Ma 6), .int (Mv 2), .int (Mv 3), .int (Mv 4), .int (Mv 5), .int (Mv 6), .int (Mv 7), .int (Mv 8), .ref (Ma 7), .int (Mv 9), .ref (Ma 8), .int (Mv 10), .ref (Ma 9), .ref (Ma 10), .int (Mv 11), .int (Mv 12), .int (Mv 13), .ref (Ma 11), .int (Mv 14), .ref (Ma 12), .ref (Ma 13), .ref (Ma 14), .ref (Ma 15), .ref (Ma 16), .long (Mj 0), .ref (Ma 17), .ref (Ma 18), .ref (Ma 19), .ref (Ma 20)])), ((Ma 10), .inl (tc 0, 126, .inl (Mf 10)))]) 0 0 := by
  refine Ct.start (by decide) (Nat.le_of_ble_eq_true rfl) (fun p e s m below meth c A ls hx hb hr hlk hin hml hown hts hK hX hP hD hA hl hS => ?_)
  have hl : lv_has ls 2 [(0, .ref (Ma 0)), (1, .int x1)] := hl
  have ar_h_said := SaidB.ar h_said
  refine lv_aload_n hx hb dX12_isClock_0 rfl (lv_at hl 0 rfl) ?_
  refine cV (a := (Ma 0)) (As := []) (rest := []) (wr := []) ⟨hx, hb, hml, hown, hts⟩ hK hX hA (cu_X12_isBook l D tc sk (Ma 0) (Ma 1) (Ma 2) (Ma 3) (Ma 4) (Ma 5) (Ma 6) (Ma 7) (Ma 8) (Ma 9) (Ma 10) (Ma 11) (Ma 12) (Ma 13) (Ma 14) (Ma 15) (Ma 16) (Ma 17) (Ma 18) (Ma 19) (Ma 20) (Mv 0) (Mv 1) (Mv 2) (Mv 3) (Mv 4) (Mv 5) (Mv 6) (Mv 7) (Mv 8) (Mv 9) (Mv 10) (Mv 11) (Mv 12) (Mv 13) (Mv 14) (Mf 10) (Mj 0) h_said) k_1407 k_1404 k_1406 k_65 k_106 pl_X12_isBook ⟨Nat.le_of_ble_eq_true rfl, Nat.le_of_ble_eq_true rfl⟩ rfl rfl (va_recv hK hP (ci := 12) (q0 := 0) rfl rfl) hP hD hS [0, 1] [] rfl rfl rfl rfl rfl (by decide) rfl hl.1 rfl (Nat.le_of_ble_eq_true rfl) dX12_isClock_1 ⟨Nat.le_of_ble_eq_true rfl, Nat.le_of_ble_eq_true rfl⟩ (fun v_1 u_2 H locs hv_3 hP₀ hD₀ hS₀ => ?_)
  obtain ⟨r_4, rfl, he_5⟩ := hv_3
  have he_5 : (r_4.toInt = 0 ∨ (r_4.toInt = 1 ∧ 1 ≤ ((Mf 10) 2).toInt ∧ ((Mf 10) 2).toInt ≤ 10)) := he_5
  refine W.eq (g2 := F0 m 4 ls [.int r_4]) rfl ?_
  replace hP : va_P D classes [((Ma 0), .inr (12, [.ref (Ma 1), .int (Mv 0), .int (Mv 1), .ref (Ma 2), .ref (Ma 3), .ref (Ma 4), .ref (Ma 5), .ref (Ma 6), .int (Mv 2), .int (Mv 3), .int (Mv 4), .int (Mv 5), .int (Mv 6), .int (Mv 7), .int (Mv 8), .ref (Ma 7), .int (Mv 9), .ref (Ma 8), .int (Mv 10), .ref (Ma 9), .ref (Ma 10), .int (Mv 11), .int (Mv 12), .int (Mv 13), .ref (Ma 11), .int (Mv 14), .ref (Ma 12), .ref (Ma 13), .ref (Ma 14), .ref (Ma 15), .ref (Ma 16), .long (Mj 0), .ref (Ma 17), .ref (Ma 18), .ref (Ma 19), .ref (Ma 20)])), ((Ma 10), .inl (tc 0, 126, .inl (Mf 10)))] H := hP₀
  replace hD : va_D A [((Ma 0), .inr (12, [.ref (Ma 1), .int (Mv 0), .int (Mv 1), .ref (Ma 2), .ref (Ma 3), .ref (Ma 4), .ref (Ma 5), .ref (Ma 6), .int (Mv 2), .int (Mv 3), .int (Mv 4), .int (Mv 5), .int (Mv 6), .int (Mv 7), .int (Mv 8), .ref (Ma 7), .int (Mv 9), .ref (Ma 8), .int (Mv 10), .ref (Ma 9), .ref (Ma 10), .int (Mv 11), .int (Mv 12), .int (Mv 13), .ref (Ma 11), .int (Mv 14), .ref (Ma 12), .ref (Ma 13), .ref (Ma 14), .ref (Ma 15), .ref (Ma 16), .long (Mj 0), .ref (Ma 17), .ref (Ma 18), .ref (Ma 19), .ref (Ma 20)])), ((Ma 10), .inl (tc 0, 126, .inl (Mf 10)))] := hD₀
  replace hS := hS₀
  clear hP₀ hD₀ hS₀
  refine lv_if_eq (tgt := 25) hx hb dX12_isClock_4 (by decide) (fun c_7 => ?_) (fun c_7 => ?_)
  · skip
    refine lv_iconst (v := 0) hx hb dX12_isClock_25 (by decide) ?_
    have hp_8 : ((0 : Int32).toInt = 0 ∨ ((0 : Int32).toInt = 1 ∧ 0 ≤ x1.toInt ∧ x1.toInt < ((Mf 10) 2).toInt ∧ ((Mf 10) 2).toInt ≤ 10)) := by
      have z_1 := congrArg Int32.toInt c_7
      have y_0 : (0 : Int32).toInt = 0 := by decide
      omega
    exact retI (v := 0) hx hb hr hlk (rfl) hP hD hS () ⟨_, rfl, hp_8⟩ [0, 1] rfl rfl dX12_isClock_26 (Nat.le_of_ble_eq_true rfl) (Nat.le_of_ble_eq_true rfl) rfl
  · skip
    refine lv_iload_n hx hb dX12_isClock_7 rfl (lv_at hl 1 rfl) ?_
    refine lv_if_lt (tgt := 25) hx hb dX12_isClock_8 (by decide) (fun c_9 => ?_) (fun c_9 => ?_)
    · skip
      refine lv_iconst (v := 0) hx hb dX12_isClock_25 (by decide) ?_
      have hp_10 : ((0 : Int32).toInt = 0 ∨ ((0 : Int32).toInt = 1 ∧ 0 ≤ x1.toInt ∧ x1.toInt < ((Mf 10) 2).toInt ∧ ((Mf 10) 2).toInt ≤ 10)) := by
        have z_1 : ¬ (r_4 : Int32).toInt = (0 : Int32).toInt := fun z => c_7 (Int32.toInt_inj.mp z)
        have z_2 := Int32.lt_iff_toInt_lt.mp c_9
        have y_0 : (0 : Int32).toInt = 0 := by decide
        omega
      exact retI (v := 0) hx hb hr hlk (rfl) hP hD hS () ⟨_, rfl, hp_10⟩ [0, 1] rfl rfl dX12_isClock_26 (Nat.le_of_ble_eq_true rfl) (Nat.le_of_ble_eq_true rfl) rfl
    · skip
      refine lv_iload_n hx hb dX12_isClock_11 rfl (lv_at hl 1 rfl) ?_
      refine lv_aload_n hx hb dX12_isClock_12 rfl (lv_at hl 0 rfl) ?_
      refine gf_X12_39 hx hb hts hown hK hP 0 rfl rfl dX12_isClock_13 ?_
      refine lv_iconst (v := 2) hx hb dX12_isClock_16 (by decide) ?_
      refine va_iald hx hb hK hP 1 0 rfl rfl (vin_dec (by decide +kernel)) dX12_isClock_17 ?_
      refine lv_topi (fun x_11 ex_11 => ?_)
      have lx_11 : x_11.toInt = ((Mf 10) 2).toInt := congrArg Int32.toInt ex_11
      refine lv_icmp_ge (tgt := 25) hx hb dX12_isClock_18 (by decide) (fun c_12 => ?_) (fun c_12 => ?_)
      · skip
        refine lv_iconst (v := 0) hx hb dX12_isClock_25 (by decide) ?_
        have hp_13 : ((0 : Int32).toInt = 0 ∨ ((0 : Int32).toInt = 1 ∧ 0 ≤ x1.toInt ∧ x1.toInt < ((Mf 10) 2).toInt ∧ ((Mf 10) 2).toInt ≤ 10)) := by
          have z_1 : ¬ (r_4 : Int32).toInt = (0 : Int32).toInt := fun z => c_7 (Int32.toInt_inj.mp z)
          have z_2 := Int32.le_iff_toInt_le.mp (Int32.not_lt.mp c_9)
          have z_3 := Int32.le_iff_toInt_le.mp c_12
          have y_0 : (0 : Int32).toInt = 0 := by decide
          omega
        exact retI (v := 0) hx hb hr hlk (rfl) hP hD hS () ⟨_, rfl, hp_13⟩ [0, 1] rfl rfl dX12_isClock_26 (Nat.le_of_ble_eq_true rfl) (Nat.le_of_ble_eq_true rfl) rfl
      · skip
        refine lv_iconst (v := 1) hx hb dX12_isClock_21 (by decide) ?_
        refine lv_goto (tgt := 26) hx hb dX12_isClock_22 (by decide) ?_
        have hp_14 : ((1 : Int32).toInt = 0 ∨ ((1 : Int32).toInt = 1 ∧ 0 ≤ x1.toInt ∧ x1.toInt < ((Mf 10) 2).toInt ∧ ((Mf 10) 2).toInt ≤ 10)) := by
          have z_1 : ¬ (r_4 : Int32).toInt = (0 : Int32).toInt := fun z => c_7 (Int32.toInt_inj.mp z)
          have z_2 := Int32.le_iff_toInt_le.mp (Int32.not_lt.mp c_9)
          have z_3 := Int32.lt_iff_toInt_lt.mp (Int32.not_le.mp c_12)
          have y_0 : (0 : Int32).toInt = 0 := by decide
          have y_1 : (1 : Int32).toInt = 1 := by decide
          have yr : (1 : Int32).toInt = 1 := by decide
          omega
        exact retI (v := 1) hx hb hr hlk (rfl) hP hD hS () ⟨_, rfl, hp_14⟩ [0, 1] rfl rfl dX12_isClock_26 (Nat.le_of_ble_eq_true rfl) (Nat.le_of_ble_eq_true rfl) rfl
set_option maxRecDepth 100000 in
theorem cu_X12_isClock {T : Nat → Option Int32} (l : Launch) (D : va_G) (tc : Nat → ClassId) (sk : (Nat → Nat) × (Nat → Nat)) (Ma_0 : Nat) (Ma_1 : Nat) (Ma_2 : Nat) (Ma_3 : Nat) (Ma_4 : Nat) (Ma_5 : Nat) (Ma_6 : Nat) (Ma_7 : Nat) (Ma_8 : Nat) (Ma_9 : Nat) (Ma_10 : Nat) (Ma_11 : Nat) (Ma_12 : Nat) (Ma_13 : Nat) (Ma_14 : Nat) (Ma_15 : Nat) (Ma_16 : Nat) (Ma_17 : Nat) (Ma_18 : Nat) (Ma_19 : Nat) (Ma_20 : Nat) (Mv_0 : Int32) (Mv_1 : Int32) (Mv_2 : Int32) (Mv_3 : Int32) (Mv_4 : Int32) (Mv_5 : Int32) (Mv_6 : Int32) (Mv_7 : Int32) (Mv_8 : Int32) (Mv_9 : Int32) (Mv_10 : Int32) (Mv_11 : Int32) (Mv_12 : Int32) (Mv_13 : Int32) (Mv_14 : Int32) (Mf_10 : Nat → Int32) (Mj_0 : Int64) (x1 : Int32) (h_said : SaidB T Mf_10) : Ct l yX12_isClock cX12_isClock 2 (some .boolean) { frames := 1, cells := 0, slots := 0, locals := 20 } D tc sk [.ref Ma_0, .int x1] [(Ma_0, .inr (12, [.ref Ma_1, .int Mv_0, .int Mv_1, .ref Ma_2, .ref Ma_3, .ref Ma_4, .ref Ma_5, .ref Ma_6, .int Mv_2, .int Mv_3, .int Mv_4, .int Mv_5, .int Mv_6, .int Mv_7, .int Mv_8, .ref Ma_7, .int Mv_9, .ref Ma_8, .int Mv_10, .ref Ma_9, .ref Ma_10, .int Mv_11, .int Mv_12, .int Mv_13, .ref Ma_11, .int Mv_14, .ref Ma_12, .ref Ma_13, .ref Ma_14, .ref Ma_15, .ref Ma_16, .long Mj_0, .ref Ma_17, .ref Ma_18, .ref Ma_19, .ref Ma_20])), (Ma_10, .inl (tc 0, 126, .inl Mf_10))] (fun (v : Option Value) (_ : Unit) => ∃ r : Int32, v = some (.int r) ∧ ((r.toInt = 0 ∨ (r.toInt = 1 ∧ 0 ≤ x1.toInt ∧ x1.toInt < (Mf_10 2).toInt ∧ (Mf_10 2).toInt ≤ 10)))) (fun (_ : Unit) => [(Ma_0, .inr (12, [.ref Ma_1, .int Mv_0, .int Mv_1, .ref Ma_2, .ref Ma_3, .ref Ma_4, .ref Ma_5, .ref Ma_6, .int Mv_2, .int Mv_3, .int Mv_4, .int Mv_5, .int Mv_6, .int Mv_7, .int Mv_8, .ref Ma_7, .int Mv_9, .ref Ma_8, .int Mv_10, .ref Ma_9, .ref Ma_10, .int Mv_11, .int Mv_12, .int Mv_13, .ref Ma_11, .int Mv_14, .ref Ma_12, .ref Ma_13, .ref Ma_14, .ref Ma_15, .ref Ma_16, .long Mj_0, .ref Ma_17, .ref Ma_18, .ref Ma_19, .ref Ma_20])), (Ma_10, .inl (tc 0, 126, .inl Mf_10))]) 0 0 :=
  ct_X12_isClock l D tc sk (fun k => ([Ma_0, Ma_1, Ma_2, Ma_3, Ma_4, Ma_5, Ma_6, Ma_7, Ma_8, Ma_9, Ma_10, Ma_11, Ma_12, Ma_13, Ma_14, Ma_15, Ma_16, Ma_17, Ma_18, Ma_19, Ma_20] : List (Nat)).getD k 0) (fun k => ([Mv_0, Mv_1, Mv_2, Mv_3, Mv_4, Mv_5, Mv_6, Mv_7, Mv_8, Mv_9, Mv_10, Mv_11, Mv_12, Mv_13, Mv_14] : List (Int32)).getD k 0) (fun k => ([(fun _ => 0), (fun _ => 0), (fun _ => 0), (fun _ => 0), (fun _ => 0), (fun _ => 0), (fun _ => 0), (fun _ => 0), (fun _ => 0), (fun _ => 0), Mf_10] : List (Nat → Int32)).getD k (fun _ => 0)) (fun k => ([Mj_0] : List (Int64)).getD k 0) x1 h_said
set_option maxHeartbeats 4000000 in
set_option maxRecDepth 100000 in
theorem ct_X12_temperOf (l : Launch) (D : va_G) (tc : Nat → ClassId) (sk : (Nat → Nat) × (Nat → Nat)) (Ma : Nat → Nat) (Mv : Nat → Int32) (Mf : Nat → Nat → Int32) (Mj : Nat → Int64) (x1 : Int32) (h_b : 0 ≤ x1.toInt ∧ x1.toInt < 6) : Ct l yX12_temperOf cX12_temperOf 2 (some .int) { frames := 0, cells := 0, slots := 0, locals := 0 } D tc sk [.ref (Ma 0), .int x1] [((Ma 0), .inr (12, [.ref (Ma 1), .int (Mv 0), .int (Mv 1), .ref (Ma 2), .ref (Ma 3), .ref (Ma 4), .ref (Ma 5), .ref (Ma 6), .int (Mv 2), .int (Mv 3), .int (Mv 4), .int (Mv 5), .int (Mv 6), .int (Mv 7), .int (Mv 8), .ref (Ma 7), .int (Mv 9), .ref (Ma 8), .int (Mv 10), .ref (Ma 9), .ref (Ma 10), .int (Mv 11), .int (Mv 12), .int (Mv 13), .ref (Ma 11), .int (Mv 14), .ref (Ma 12), .ref (Ma 13), .ref (Ma 14), .ref (Ma 15), .ref (Ma 16), .long (Mj 0), .ref (Ma 17), .ref (Ma 18), .ref (Ma 19), .ref (Ma 20)])), ((Ma 10), .inl (tc 0, 126, .inl (Mf 10)))] (fun (v : Option Value) (_ : Unit) => ∃ r : Int32, v = some (.int r) ∧ (True)) (fun (_ : Unit) => [((Ma 0), .inr (12, [.ref (Ma 1), .int (Mv 0), .int (Mv 1), .ref (Ma 2), .ref (Ma 3), .ref (Ma 4), .ref (Ma 5), .ref (Ma 6), .int (Mv 2), .int (Mv 3), .int (Mv 4), .int (Mv 5), .int (Mv 6), .int (Mv 7), .int (Mv 8), .ref (Ma 7), .int (Mv 9), .ref (Ma 8), .int (Mv 10), .ref (Ma 9), .ref (Ma 10), .int (Mv 11), .int (Mv 12), .int (Mv 13), .ref (Ma 11), .int (Mv 14), .ref (Ma 12), .ref (Ma 13), .ref (Ma 14), .ref (Ma 15), .ref (Ma 16), .long (Mj 0), .ref (Ma 17), .ref (Ma 18), .ref (Ma 19), .ref (Ma 20)])), ((Ma 10), .inl (tc 0, 126, .inl (Mf 10)))]) 0 0 := by
  refine Ct.start (by decide) (Nat.le_of_ble_eq_true rfl) (fun p e s m below meth c A ls hx hb hr hlk hin hml hown hts hK hX hP hD hA hl hS => ?_)
  have hl : lv_has ls 2 [(0, .ref (Ma 0)), (1, .int x1)] := hl
  refine lv_aload_n hx hb dX12_temperOf_0 rfl (lv_at hl 0 rfl) ?_
  refine gf_X12_39 hx hb hts hown hK hP 0 rfl rfl dX12_temperOf_1 ?_
  refine lv_bipush (v := 12) hx hb dX12_temperOf_4 (by decide) ?_
  refine lv_iconst (v := 4) hx hb dX12_temperOf_6 (by decide) ?_
  refine lv_iload_n hx hb dX12_temperOf_7 rfl (lv_at hl 1 rfl) ?_
  refine lv_imul hx hb dX12_temperOf_8 ?_
  refine lv_topi (fun x_1 ex_1 => ?_)
  refine lv_iadd hx hb dX12_temperOf_9 ?_
  refine lv_topi (fun x_2 ex_2 => ?_)
  have hi_3 : vp_in x_2 126 := by
    have y_4 : (4 : Int32).toInt = 4 := by decide
    have y_12 : (12 : Int32).toInt = 12 := by decide
    have t_x_1 : x_1.toInt = (4 : Int32).toInt * (x1 : Int32).toInt := by rw [ex_1]; exact mul_toInt (by first | omega | (rw [y_4]; omega)) (by first | omega | (rw [y_4]; omega))
    rw [y_4] at t_x_1
    have t_x_2 : x_2.toInt = (12 : Int32).toInt + (x_1 : Int32).toInt := by rw [ex_2]; exact add_toInt (by omega) (by omega)
    refine vp_in_iff.mpr ⟨?_, ?_⟩ <;> omega
  refine va_iald hx hb hK hP 1 0 rfl rfl hi_3 dX12_temperOf_10 ?_
  refine lv_topi (fun x_4 ex_4 => ?_)
  exact retI (v := x_4) hx hb hr hlk (rfl) hP hD hS () ⟨_, rfl, trivial⟩ [0, 1] rfl rfl dX12_temperOf_11 (Nat.le_of_ble_eq_true rfl) (Nat.le_of_ble_eq_true rfl) rfl
set_option maxRecDepth 100000 in
theorem cu_X12_temperOf (l : Launch) (D : va_G) (tc : Nat → ClassId) (sk : (Nat → Nat) × (Nat → Nat)) (Ma_0 : Nat) (Ma_1 : Nat) (Ma_2 : Nat) (Ma_3 : Nat) (Ma_4 : Nat) (Ma_5 : Nat) (Ma_6 : Nat) (Ma_7 : Nat) (Ma_8 : Nat) (Ma_9 : Nat) (Ma_10 : Nat) (Ma_11 : Nat) (Ma_12 : Nat) (Ma_13 : Nat) (Ma_14 : Nat) (Ma_15 : Nat) (Ma_16 : Nat) (Ma_17 : Nat) (Ma_18 : Nat) (Ma_19 : Nat) (Ma_20 : Nat) (Mv_0 : Int32) (Mv_1 : Int32) (Mv_2 : Int32) (Mv_3 : Int32) (Mv_4 : Int32) (Mv_5 : Int32) (Mv_6 : Int32) (Mv_7 : Int32) (Mv_8 : Int32) (Mv_9 : Int32) (Mv_10 : Int32) (Mv_11 : Int32) (Mv_12 : Int32) (Mv_13 : Int32) (Mv_14 : Int32) (Mf_10 : Nat → Int32) (Mj_0 : Int64) (x1 : Int32) (h_b : 0 ≤ x1.toInt ∧ x1.toInt < 6) : Ct l yX12_temperOf cX12_temperOf 2 (some .int) { frames := 0, cells := 0, slots := 0, locals := 0 } D tc sk [.ref Ma_0, .int x1] [(Ma_0, .inr (12, [.ref Ma_1, .int Mv_0, .int Mv_1, .ref Ma_2, .ref Ma_3, .ref Ma_4, .ref Ma_5, .ref Ma_6, .int Mv_2, .int Mv_3, .int Mv_4, .int Mv_5, .int Mv_6, .int Mv_7, .int Mv_8, .ref Ma_7, .int Mv_9, .ref Ma_8, .int Mv_10, .ref Ma_9, .ref Ma_10, .int Mv_11, .int Mv_12, .int Mv_13, .ref Ma_11, .int Mv_14, .ref Ma_12, .ref Ma_13, .ref Ma_14, .ref Ma_15, .ref Ma_16, .long Mj_0, .ref Ma_17, .ref Ma_18, .ref Ma_19, .ref Ma_20])), (Ma_10, .inl (tc 0, 126, .inl Mf_10))] (fun (v : Option Value) (_ : Unit) => ∃ r : Int32, v = some (.int r) ∧ (True)) (fun (_ : Unit) => [(Ma_0, .inr (12, [.ref Ma_1, .int Mv_0, .int Mv_1, .ref Ma_2, .ref Ma_3, .ref Ma_4, .ref Ma_5, .ref Ma_6, .int Mv_2, .int Mv_3, .int Mv_4, .int Mv_5, .int Mv_6, .int Mv_7, .int Mv_8, .ref Ma_7, .int Mv_9, .ref Ma_8, .int Mv_10, .ref Ma_9, .ref Ma_10, .int Mv_11, .int Mv_12, .int Mv_13, .ref Ma_11, .int Mv_14, .ref Ma_12, .ref Ma_13, .ref Ma_14, .ref Ma_15, .ref Ma_16, .long Mj_0, .ref Ma_17, .ref Ma_18, .ref Ma_19, .ref Ma_20])), (Ma_10, .inl (tc 0, 126, .inl Mf_10))]) 0 0 :=
  ct_X12_temperOf l D tc sk (fun k => ([Ma_0, Ma_1, Ma_2, Ma_3, Ma_4, Ma_5, Ma_6, Ma_7, Ma_8, Ma_9, Ma_10, Ma_11, Ma_12, Ma_13, Ma_14, Ma_15, Ma_16, Ma_17, Ma_18, Ma_19, Ma_20] : List (Nat)).getD k 0) (fun k => ([Mv_0, Mv_1, Mv_2, Mv_3, Mv_4, Mv_5, Mv_6, Mv_7, Mv_8, Mv_9, Mv_10, Mv_11, Mv_12, Mv_13, Mv_14] : List (Int32)).getD k 0) (fun k => ([(fun _ => 0), (fun _ => 0), (fun _ => 0), (fun _ => 0), (fun _ => 0), (fun _ => 0), (fun _ => 0), (fun _ => 0), (fun _ => 0), (fun _ => 0), Mf_10] : List (Nat → Int32)).getD k (fun _ => 0)) (fun k => ([Mj_0] : List (Int64)).getD k 0) x1 h_b
set_option maxHeartbeats 4000000 in
set_option maxRecDepth 100000 in
theorem ct_X12_boughtBy (l : Launch) (D : va_G) (tc : Nat → ClassId) (sk : (Nat → Nat) × (Nat → Nat)) (Ma : Nat → Nat) (Mv : Nat → Int32) (Mf : Nat → Nat → Int32) (Mj : Nat → Int64) (x1 : Int32) (h_b : 0 ≤ x1.toInt ∧ x1.toInt < 6) : Ct l yX12_boughtBy cX12_boughtBy 2 (some .int) { frames := 0, cells := 0, slots := 0, locals := 0 } D tc sk [.ref (Ma 0), .int x1] [((Ma 0), .inr (12, [.ref (Ma 1), .int (Mv 0), .int (Mv 1), .ref (Ma 2), .ref (Ma 3), .ref (Ma 4), .ref (Ma 5), .ref (Ma 6), .int (Mv 2), .int (Mv 3), .int (Mv 4), .int (Mv 5), .int (Mv 6), .int (Mv 7), .int (Mv 8), .ref (Ma 7), .int (Mv 9), .ref (Ma 8), .int (Mv 10), .ref (Ma 9), .ref (Ma 10), .int (Mv 11), .int (Mv 12), .int (Mv 13), .ref (Ma 11), .int (Mv 14), .ref (Ma 12), .ref (Ma 13), .ref (Ma 14), .ref (Ma 15), .ref (Ma 16), .long (Mj 0), .ref (Ma 17), .ref (Ma 18), .ref (Ma 19), .ref (Ma 20)])), ((Ma 10), .inl (tc 0, 126, .inl (Mf 10)))] (fun (v : Option Value) (_ : Unit) => ∃ r : Int32, v = some (.int r) ∧ (True)) (fun (_ : Unit) => [((Ma 0), .inr (12, [.ref (Ma 1), .int (Mv 0), .int (Mv 1), .ref (Ma 2), .ref (Ma 3), .ref (Ma 4), .ref (Ma 5), .ref (Ma 6), .int (Mv 2), .int (Mv 3), .int (Mv 4), .int (Mv 5), .int (Mv 6), .int (Mv 7), .int (Mv 8), .ref (Ma 7), .int (Mv 9), .ref (Ma 8), .int (Mv 10), .ref (Ma 9), .ref (Ma 10), .int (Mv 11), .int (Mv 12), .int (Mv 13), .ref (Ma 11), .int (Mv 14), .ref (Ma 12), .ref (Ma 13), .ref (Ma 14), .ref (Ma 15), .ref (Ma 16), .long (Mj 0), .ref (Ma 17), .ref (Ma 18), .ref (Ma 19), .ref (Ma 20)])), ((Ma 10), .inl (tc 0, 126, .inl (Mf 10)))]) 0 0 := by
  refine Ct.start (by decide) (Nat.le_of_ble_eq_true rfl) (fun p e s m below meth c A ls hx hb hr hlk hin hml hown hts hK hX hP hD hA hl hS => ?_)
  have hl : lv_has ls 2 [(0, .ref (Ma 0)), (1, .int x1)] := hl
  refine lv_aload_n hx hb dX12_boughtBy_0 rfl (lv_at hl 0 rfl) ?_
  refine gf_X12_39 hx hb hts hown hK hP 0 rfl rfl dX12_boughtBy_1 ?_
  refine lv_bipush (v := 12) hx hb dX12_boughtBy_4 (by decide) ?_
  refine lv_iconst (v := 4) hx hb dX12_boughtBy_6 (by decide) ?_
  refine lv_iload_n hx hb dX12_boughtBy_7 rfl (lv_at hl 1 rfl) ?_
  refine lv_imul hx hb dX12_boughtBy_8 ?_
  refine lv_topi (fun x_1 ex_1 => ?_)
  refine lv_iadd hx hb dX12_boughtBy_9 ?_
  refine lv_topi (fun x_2 ex_2 => ?_)
  refine lv_iconst (v := 1) hx hb dX12_boughtBy_10 (by decide) ?_
  refine lv_iadd hx hb dX12_boughtBy_11 ?_
  refine lv_topi (fun x_3 ex_3 => ?_)
  have hi_4 : vp_in x_3 126 := by
    have y_1 : (1 : Int32).toInt = 1 := by decide
    have y_4 : (4 : Int32).toInt = 4 := by decide
    have y_12 : (12 : Int32).toInt = 12 := by decide
    have t_x_1 : x_1.toInt = (4 : Int32).toInt * (x1 : Int32).toInt := by rw [ex_1]; exact mul_toInt (by first | omega | (rw [y_4]; omega)) (by first | omega | (rw [y_4]; omega))
    rw [y_4] at t_x_1
    have t_x_2 : x_2.toInt = (12 : Int32).toInt + (x_1 : Int32).toInt := by rw [ex_2]; exact add_toInt (by omega) (by omega)
    have t_x_3 : x_3.toInt = (x_2 : Int32).toInt + (1 : Int32).toInt := by rw [ex_3]; exact add_toInt (by omega) (by omega)
    refine vp_in_iff.mpr ⟨?_, ?_⟩ <;> omega
  refine va_iald hx hb hK hP 1 0 rfl rfl hi_4 dX12_boughtBy_12 ?_
  refine lv_topi (fun x_5 ex_5 => ?_)
  exact retI (v := x_5) hx hb hr hlk (rfl) hP hD hS () ⟨_, rfl, trivial⟩ [0, 1] rfl rfl dX12_boughtBy_13 (Nat.le_of_ble_eq_true rfl) (Nat.le_of_ble_eq_true rfl) rfl
set_option maxRecDepth 100000 in
theorem cu_X12_boughtBy (l : Launch) (D : va_G) (tc : Nat → ClassId) (sk : (Nat → Nat) × (Nat → Nat)) (Ma_0 : Nat) (Ma_1 : Nat) (Ma_2 : Nat) (Ma_3 : Nat) (Ma_4 : Nat) (Ma_5 : Nat) (Ma_6 : Nat) (Ma_7 : Nat) (Ma_8 : Nat) (Ma_9 : Nat) (Ma_10 : Nat) (Ma_11 : Nat) (Ma_12 : Nat) (Ma_13 : Nat) (Ma_14 : Nat) (Ma_15 : Nat) (Ma_16 : Nat) (Ma_17 : Nat) (Ma_18 : Nat) (Ma_19 : Nat) (Ma_20 : Nat) (Mv_0 : Int32) (Mv_1 : Int32) (Mv_2 : Int32) (Mv_3 : Int32) (Mv_4 : Int32) (Mv_5 : Int32) (Mv_6 : Int32) (Mv_7 : Int32) (Mv_8 : Int32) (Mv_9 : Int32) (Mv_10 : Int32) (Mv_11 : Int32) (Mv_12 : Int32) (Mv_13 : Int32) (Mv_14 : Int32) (Mf_10 : Nat → Int32) (Mj_0 : Int64) (x1 : Int32) (h_b : 0 ≤ x1.toInt ∧ x1.toInt < 6) : Ct l yX12_boughtBy cX12_boughtBy 2 (some .int) { frames := 0, cells := 0, slots := 0, locals := 0 } D tc sk [.ref Ma_0, .int x1] [(Ma_0, .inr (12, [.ref Ma_1, .int Mv_0, .int Mv_1, .ref Ma_2, .ref Ma_3, .ref Ma_4, .ref Ma_5, .ref Ma_6, .int Mv_2, .int Mv_3, .int Mv_4, .int Mv_5, .int Mv_6, .int Mv_7, .int Mv_8, .ref Ma_7, .int Mv_9, .ref Ma_8, .int Mv_10, .ref Ma_9, .ref Ma_10, .int Mv_11, .int Mv_12, .int Mv_13, .ref Ma_11, .int Mv_14, .ref Ma_12, .ref Ma_13, .ref Ma_14, .ref Ma_15, .ref Ma_16, .long Mj_0, .ref Ma_17, .ref Ma_18, .ref Ma_19, .ref Ma_20])), (Ma_10, .inl (tc 0, 126, .inl Mf_10))] (fun (v : Option Value) (_ : Unit) => ∃ r : Int32, v = some (.int r) ∧ (True)) (fun (_ : Unit) => [(Ma_0, .inr (12, [.ref Ma_1, .int Mv_0, .int Mv_1, .ref Ma_2, .ref Ma_3, .ref Ma_4, .ref Ma_5, .ref Ma_6, .int Mv_2, .int Mv_3, .int Mv_4, .int Mv_5, .int Mv_6, .int Mv_7, .int Mv_8, .ref Ma_7, .int Mv_9, .ref Ma_8, .int Mv_10, .ref Ma_9, .ref Ma_10, .int Mv_11, .int Mv_12, .int Mv_13, .ref Ma_11, .int Mv_14, .ref Ma_12, .ref Ma_13, .ref Ma_14, .ref Ma_15, .ref Ma_16, .long Mj_0, .ref Ma_17, .ref Ma_18, .ref Ma_19, .ref Ma_20])), (Ma_10, .inl (tc 0, 126, .inl Mf_10))]) 0 0 :=
  ct_X12_boughtBy l D tc sk (fun k => ([Ma_0, Ma_1, Ma_2, Ma_3, Ma_4, Ma_5, Ma_6, Ma_7, Ma_8, Ma_9, Ma_10, Ma_11, Ma_12, Ma_13, Ma_14, Ma_15, Ma_16, Ma_17, Ma_18, Ma_19, Ma_20] : List (Nat)).getD k 0) (fun k => ([Mv_0, Mv_1, Mv_2, Mv_3, Mv_4, Mv_5, Mv_6, Mv_7, Mv_8, Mv_9, Mv_10, Mv_11, Mv_12, Mv_13, Mv_14] : List (Int32)).getD k 0) (fun k => ([(fun _ => 0), (fun _ => 0), (fun _ => 0), (fun _ => 0), (fun _ => 0), (fun _ => 0), (fun _ => 0), (fun _ => 0), (fun _ => 0), (fun _ => 0), Mf_10] : List (Nat → Int32)).getD k (fun _ => 0)) (fun k => ([Mj_0] : List (Int64)).getD k 0) x1 h_b
set_option maxHeartbeats 4000000 in
set_option maxRecDepth 100000 in
theorem ct_X12_metOf (l : Launch) (D : va_G) (tc : Nat → ClassId) (sk : (Nat → Nat) × (Nat → Nat)) (Ma : Nat → Nat) (Mv : Nat → Int32) (Mf : Nat → Nat → Int32) (Mj : Nat → Int64) (x1 : Int32) (h_b : 0 ≤ x1.toInt ∧ x1.toInt < 6) : Ct l yX12_metOf cX12_metOf 2 (some .int) { frames := 0, cells := 0, slots := 0, locals := 0 } D tc sk [.ref (Ma 0), .int x1] [((Ma 0), .inr (12, [.ref (Ma 1), .int (Mv 0), .int (Mv 1), .ref (Ma 2), .ref (Ma 3), .ref (Ma 4), .ref (Ma 5), .ref (Ma 6), .int (Mv 2), .int (Mv 3), .int (Mv 4), .int (Mv 5), .int (Mv 6), .int (Mv 7), .int (Mv 8), .ref (Ma 7), .int (Mv 9), .ref (Ma 8), .int (Mv 10), .ref (Ma 9), .ref (Ma 10), .int (Mv 11), .int (Mv 12), .int (Mv 13), .ref (Ma 11), .int (Mv 14), .ref (Ma 12), .ref (Ma 13), .ref (Ma 14), .ref (Ma 15), .ref (Ma 16), .long (Mj 0), .ref (Ma 17), .ref (Ma 18), .ref (Ma 19), .ref (Ma 20)])), ((Ma 10), .inl (tc 0, 126, .inl (Mf 10)))] (fun (v : Option Value) (_ : Unit) => ∃ r : Int32, v = some (.int r) ∧ (True)) (fun (_ : Unit) => [((Ma 0), .inr (12, [.ref (Ma 1), .int (Mv 0), .int (Mv 1), .ref (Ma 2), .ref (Ma 3), .ref (Ma 4), .ref (Ma 5), .ref (Ma 6), .int (Mv 2), .int (Mv 3), .int (Mv 4), .int (Mv 5), .int (Mv 6), .int (Mv 7), .int (Mv 8), .ref (Ma 7), .int (Mv 9), .ref (Ma 8), .int (Mv 10), .ref (Ma 9), .ref (Ma 10), .int (Mv 11), .int (Mv 12), .int (Mv 13), .ref (Ma 11), .int (Mv 14), .ref (Ma 12), .ref (Ma 13), .ref (Ma 14), .ref (Ma 15), .ref (Ma 16), .long (Mj 0), .ref (Ma 17), .ref (Ma 18), .ref (Ma 19), .ref (Ma 20)])), ((Ma 10), .inl (tc 0, 126, .inl (Mf 10)))]) 0 0 := by
  refine Ct.start (by decide) (Nat.le_of_ble_eq_true rfl) (fun p e s m below meth c A ls hx hb hr hlk hin hml hown hts hK hX hP hD hA hl hS => ?_)
  have hl : lv_has ls 2 [(0, .ref (Ma 0)), (1, .int x1)] := hl
  refine lv_aload_n hx hb dX12_metOf_0 rfl (lv_at hl 0 rfl) ?_
  refine gf_X12_39 hx hb hts hown hK hP 0 rfl rfl dX12_metOf_1 ?_
  refine lv_bipush (v := 12) hx hb dX12_metOf_4 (by decide) ?_
  refine lv_iconst (v := 4) hx hb dX12_metOf_6 (by decide) ?_
  refine lv_iload_n hx hb dX12_metOf_7 rfl (lv_at hl 1 rfl) ?_
  refine lv_imul hx hb dX12_metOf_8 ?_
  refine lv_topi (fun x_1 ex_1 => ?_)
  refine lv_iadd hx hb dX12_metOf_9 ?_
  refine lv_topi (fun x_2 ex_2 => ?_)
  refine lv_iconst (v := 2) hx hb dX12_metOf_10 (by decide) ?_
  refine lv_iadd hx hb dX12_metOf_11 ?_
  refine lv_topi (fun x_3 ex_3 => ?_)
  have hi_4 : vp_in x_3 126 := by
    have y_2 : (2 : Int32).toInt = 2 := by decide
    have y_4 : (4 : Int32).toInt = 4 := by decide
    have y_12 : (12 : Int32).toInt = 12 := by decide
    have t_x_1 : x_1.toInt = (4 : Int32).toInt * (x1 : Int32).toInt := by rw [ex_1]; exact mul_toInt (by first | omega | (rw [y_4]; omega)) (by first | omega | (rw [y_4]; omega))
    rw [y_4] at t_x_1
    have t_x_2 : x_2.toInt = (12 : Int32).toInt + (x_1 : Int32).toInt := by rw [ex_2]; exact add_toInt (by omega) (by omega)
    have t_x_3 : x_3.toInt = (x_2 : Int32).toInt + (2 : Int32).toInt := by rw [ex_3]; exact add_toInt (by omega) (by omega)
    refine vp_in_iff.mpr ⟨?_, ?_⟩ <;> omega
  refine va_iald hx hb hK hP 1 0 rfl rfl hi_4 dX12_metOf_12 ?_
  refine lv_topi (fun x_5 ex_5 => ?_)
  exact retI (v := x_5) hx hb hr hlk (rfl) hP hD hS () ⟨_, rfl, trivial⟩ [0, 1] rfl rfl dX12_metOf_13 (Nat.le_of_ble_eq_true rfl) (Nat.le_of_ble_eq_true rfl) rfl
set_option maxRecDepth 100000 in
theorem cu_X12_metOf (l : Launch) (D : va_G) (tc : Nat → ClassId) (sk : (Nat → Nat) × (Nat → Nat)) (Ma_0 : Nat) (Ma_1 : Nat) (Ma_2 : Nat) (Ma_3 : Nat) (Ma_4 : Nat) (Ma_5 : Nat) (Ma_6 : Nat) (Ma_7 : Nat) (Ma_8 : Nat) (Ma_9 : Nat) (Ma_10 : Nat) (Ma_11 : Nat) (Ma_12 : Nat) (Ma_13 : Nat) (Ma_14 : Nat) (Ma_15 : Nat) (Ma_16 : Nat) (Ma_17 : Nat) (Ma_18 : Nat) (Ma_19 : Nat) (Ma_20 : Nat) (Mv_0 : Int32) (Mv_1 : Int32) (Mv_2 : Int32) (Mv_3 : Int32) (Mv_4 : Int32) (Mv_5 : Int32) (Mv_6 : Int32) (Mv_7 : Int32) (Mv_8 : Int32) (Mv_9 : Int32) (Mv_10 : Int32) (Mv_11 : Int32) (Mv_12 : Int32) (Mv_13 : Int32) (Mv_14 : Int32) (Mf_10 : Nat → Int32) (Mj_0 : Int64) (x1 : Int32) (h_b : 0 ≤ x1.toInt ∧ x1.toInt < 6) : Ct l yX12_metOf cX12_metOf 2 (some .int) { frames := 0, cells := 0, slots := 0, locals := 0 } D tc sk [.ref Ma_0, .int x1] [(Ma_0, .inr (12, [.ref Ma_1, .int Mv_0, .int Mv_1, .ref Ma_2, .ref Ma_3, .ref Ma_4, .ref Ma_5, .ref Ma_6, .int Mv_2, .int Mv_3, .int Mv_4, .int Mv_5, .int Mv_6, .int Mv_7, .int Mv_8, .ref Ma_7, .int Mv_9, .ref Ma_8, .int Mv_10, .ref Ma_9, .ref Ma_10, .int Mv_11, .int Mv_12, .int Mv_13, .ref Ma_11, .int Mv_14, .ref Ma_12, .ref Ma_13, .ref Ma_14, .ref Ma_15, .ref Ma_16, .long Mj_0, .ref Ma_17, .ref Ma_18, .ref Ma_19, .ref Ma_20])), (Ma_10, .inl (tc 0, 126, .inl Mf_10))] (fun (v : Option Value) (_ : Unit) => ∃ r : Int32, v = some (.int r) ∧ (True)) (fun (_ : Unit) => [(Ma_0, .inr (12, [.ref Ma_1, .int Mv_0, .int Mv_1, .ref Ma_2, .ref Ma_3, .ref Ma_4, .ref Ma_5, .ref Ma_6, .int Mv_2, .int Mv_3, .int Mv_4, .int Mv_5, .int Mv_6, .int Mv_7, .int Mv_8, .ref Ma_7, .int Mv_9, .ref Ma_8, .int Mv_10, .ref Ma_9, .ref Ma_10, .int Mv_11, .int Mv_12, .int Mv_13, .ref Ma_11, .int Mv_14, .ref Ma_12, .ref Ma_13, .ref Ma_14, .ref Ma_15, .ref Ma_16, .long Mj_0, .ref Ma_17, .ref Ma_18, .ref Ma_19, .ref Ma_20])), (Ma_10, .inl (tc 0, 126, .inl Mf_10))]) 0 0 :=
  ct_X12_metOf l D tc sk (fun k => ([Ma_0, Ma_1, Ma_2, Ma_3, Ma_4, Ma_5, Ma_6, Ma_7, Ma_8, Ma_9, Ma_10, Ma_11, Ma_12, Ma_13, Ma_14, Ma_15, Ma_16, Ma_17, Ma_18, Ma_19, Ma_20] : List (Nat)).getD k 0) (fun k => ([Mv_0, Mv_1, Mv_2, Mv_3, Mv_4, Mv_5, Mv_6, Mv_7, Mv_8, Mv_9, Mv_10, Mv_11, Mv_12, Mv_13, Mv_14] : List (Int32)).getD k 0) (fun k => ([(fun _ => 0), (fun _ => 0), (fun _ => 0), (fun _ => 0), (fun _ => 0), (fun _ => 0), (fun _ => 0), (fun _ => 0), (fun _ => 0), (fun _ => 0), Mf_10] : List (Nat → Int32)).getD k (fun _ => 0)) (fun k => ([Mj_0] : List (Int64)).getD k 0) x1 h_b
set_option maxHeartbeats 4000000 in
set_option maxRecDepth 100000 in
theorem ct_X12_lastOf (l : Launch) (D : va_G) (tc : Nat → ClassId) (sk : (Nat → Nat) × (Nat → Nat)) (Ma : Nat → Nat) (Mv : Nat → Int32) (Mf : Nat → Nat → Int32) (Mj : Nat → Int64) (x1 : Int32) (h_b : 0 ≤ x1.toInt ∧ x1.toInt < 6) : Ct l yX12_lastOf cX12_lastOf 2 (some .int) { frames := 0, cells := 0, slots := 0, locals := 0 } D tc sk [.ref (Ma 0), .int x1] [((Ma 0), .inr (12, [.ref (Ma 1), .int (Mv 0), .int (Mv 1), .ref (Ma 2), .ref (Ma 3), .ref (Ma 4), .ref (Ma 5), .ref (Ma 6), .int (Mv 2), .int (Mv 3), .int (Mv 4), .int (Mv 5), .int (Mv 6), .int (Mv 7), .int (Mv 8), .ref (Ma 7), .int (Mv 9), .ref (Ma 8), .int (Mv 10), .ref (Ma 9), .ref (Ma 10), .int (Mv 11), .int (Mv 12), .int (Mv 13), .ref (Ma 11), .int (Mv 14), .ref (Ma 12), .ref (Ma 13), .ref (Ma 14), .ref (Ma 15), .ref (Ma 16), .long (Mj 0), .ref (Ma 17), .ref (Ma 18), .ref (Ma 19), .ref (Ma 20)])), ((Ma 10), .inl (tc 0, 126, .inl (Mf 10)))] (fun (v : Option Value) (_ : Unit) => ∃ r : Int32, v = some (.int r) ∧ (True)) (fun (_ : Unit) => [((Ma 0), .inr (12, [.ref (Ma 1), .int (Mv 0), .int (Mv 1), .ref (Ma 2), .ref (Ma 3), .ref (Ma 4), .ref (Ma 5), .ref (Ma 6), .int (Mv 2), .int (Mv 3), .int (Mv 4), .int (Mv 5), .int (Mv 6), .int (Mv 7), .int (Mv 8), .ref (Ma 7), .int (Mv 9), .ref (Ma 8), .int (Mv 10), .ref (Ma 9), .ref (Ma 10), .int (Mv 11), .int (Mv 12), .int (Mv 13), .ref (Ma 11), .int (Mv 14), .ref (Ma 12), .ref (Ma 13), .ref (Ma 14), .ref (Ma 15), .ref (Ma 16), .long (Mj 0), .ref (Ma 17), .ref (Ma 18), .ref (Ma 19), .ref (Ma 20)])), ((Ma 10), .inl (tc 0, 126, .inl (Mf 10)))]) 0 0 := by
  refine Ct.start (by decide) (Nat.le_of_ble_eq_true rfl) (fun p e s m below meth c A ls hx hb hr hlk hin hml hown hts hK hX hP hD hA hl hS => ?_)
  have hl : lv_has ls 2 [(0, .ref (Ma 0)), (1, .int x1)] := hl
  refine lv_aload_n hx hb dX12_lastOf_0 rfl (lv_at hl 0 rfl) ?_
  refine gf_X12_39 hx hb hts hown hK hP 0 rfl rfl dX12_lastOf_1 ?_
  refine lv_bipush (v := 12) hx hb dX12_lastOf_4 (by decide) ?_
  refine lv_iconst (v := 4) hx hb dX12_lastOf_6 (by decide) ?_
  refine lv_iload_n hx hb dX12_lastOf_7 rfl (lv_at hl 1 rfl) ?_
  refine lv_imul hx hb dX12_lastOf_8 ?_
  refine lv_topi (fun x_1 ex_1 => ?_)
  refine lv_iadd hx hb dX12_lastOf_9 ?_
  refine lv_topi (fun x_2 ex_2 => ?_)
  refine lv_iconst (v := 3) hx hb dX12_lastOf_10 (by decide) ?_
  refine lv_iadd hx hb dX12_lastOf_11 ?_
  refine lv_topi (fun x_3 ex_3 => ?_)
  have hi_4 : vp_in x_3 126 := by
    have y_3 : (3 : Int32).toInt = 3 := by decide
    have y_4 : (4 : Int32).toInt = 4 := by decide
    have y_12 : (12 : Int32).toInt = 12 := by decide
    have t_x_1 : x_1.toInt = (4 : Int32).toInt * (x1 : Int32).toInt := by rw [ex_1]; exact mul_toInt (by first | omega | (rw [y_4]; omega)) (by first | omega | (rw [y_4]; omega))
    rw [y_4] at t_x_1
    have t_x_2 : x_2.toInt = (12 : Int32).toInt + (x_1 : Int32).toInt := by rw [ex_2]; exact add_toInt (by omega) (by omega)
    have t_x_3 : x_3.toInt = (x_2 : Int32).toInt + (3 : Int32).toInt := by rw [ex_3]; exact add_toInt (by omega) (by omega)
    refine vp_in_iff.mpr ⟨?_, ?_⟩ <;> omega
  refine va_iald hx hb hK hP 1 0 rfl rfl hi_4 dX12_lastOf_12 ?_
  refine lv_topi (fun x_5 ex_5 => ?_)
  exact retI (v := x_5) hx hb hr hlk (rfl) hP hD hS () ⟨_, rfl, trivial⟩ [0, 1] rfl rfl dX12_lastOf_13 (Nat.le_of_ble_eq_true rfl) (Nat.le_of_ble_eq_true rfl) rfl
set_option maxRecDepth 100000 in
theorem cu_X12_lastOf (l : Launch) (D : va_G) (tc : Nat → ClassId) (sk : (Nat → Nat) × (Nat → Nat)) (Ma_0 : Nat) (Ma_1 : Nat) (Ma_2 : Nat) (Ma_3 : Nat) (Ma_4 : Nat) (Ma_5 : Nat) (Ma_6 : Nat) (Ma_7 : Nat) (Ma_8 : Nat) (Ma_9 : Nat) (Ma_10 : Nat) (Ma_11 : Nat) (Ma_12 : Nat) (Ma_13 : Nat) (Ma_14 : Nat) (Ma_15 : Nat) (Ma_16 : Nat) (Ma_17 : Nat) (Ma_18 : Nat) (Ma_19 : Nat) (Ma_20 : Nat) (Mv_0 : Int32) (Mv_1 : Int32) (Mv_2 : Int32) (Mv_3 : Int32) (Mv_4 : Int32) (Mv_5 : Int32) (Mv_6 : Int32) (Mv_7 : Int32) (Mv_8 : Int32) (Mv_9 : Int32) (Mv_10 : Int32) (Mv_11 : Int32) (Mv_12 : Int32) (Mv_13 : Int32) (Mv_14 : Int32) (Mf_10 : Nat → Int32) (Mj_0 : Int64) (x1 : Int32) (h_b : 0 ≤ x1.toInt ∧ x1.toInt < 6) : Ct l yX12_lastOf cX12_lastOf 2 (some .int) { frames := 0, cells := 0, slots := 0, locals := 0 } D tc sk [.ref Ma_0, .int x1] [(Ma_0, .inr (12, [.ref Ma_1, .int Mv_0, .int Mv_1, .ref Ma_2, .ref Ma_3, .ref Ma_4, .ref Ma_5, .ref Ma_6, .int Mv_2, .int Mv_3, .int Mv_4, .int Mv_5, .int Mv_6, .int Mv_7, .int Mv_8, .ref Ma_7, .int Mv_9, .ref Ma_8, .int Mv_10, .ref Ma_9, .ref Ma_10, .int Mv_11, .int Mv_12, .int Mv_13, .ref Ma_11, .int Mv_14, .ref Ma_12, .ref Ma_13, .ref Ma_14, .ref Ma_15, .ref Ma_16, .long Mj_0, .ref Ma_17, .ref Ma_18, .ref Ma_19, .ref Ma_20])), (Ma_10, .inl (tc 0, 126, .inl Mf_10))] (fun (v : Option Value) (_ : Unit) => ∃ r : Int32, v = some (.int r) ∧ (True)) (fun (_ : Unit) => [(Ma_0, .inr (12, [.ref Ma_1, .int Mv_0, .int Mv_1, .ref Ma_2, .ref Ma_3, .ref Ma_4, .ref Ma_5, .ref Ma_6, .int Mv_2, .int Mv_3, .int Mv_4, .int Mv_5, .int Mv_6, .int Mv_7, .int Mv_8, .ref Ma_7, .int Mv_9, .ref Ma_8, .int Mv_10, .ref Ma_9, .ref Ma_10, .int Mv_11, .int Mv_12, .int Mv_13, .ref Ma_11, .int Mv_14, .ref Ma_12, .ref Ma_13, .ref Ma_14, .ref Ma_15, .ref Ma_16, .long Mj_0, .ref Ma_17, .ref Ma_18, .ref Ma_19, .ref Ma_20])), (Ma_10, .inl (tc 0, 126, .inl Mf_10))]) 0 0 :=
  ct_X12_lastOf l D tc sk (fun k => ([Ma_0, Ma_1, Ma_2, Ma_3, Ma_4, Ma_5, Ma_6, Ma_7, Ma_8, Ma_9, Ma_10, Ma_11, Ma_12, Ma_13, Ma_14, Ma_15, Ma_16, Ma_17, Ma_18, Ma_19, Ma_20] : List (Nat)).getD k 0) (fun k => ([Mv_0, Mv_1, Mv_2, Mv_3, Mv_4, Mv_5, Mv_6, Mv_7, Mv_8, Mv_9, Mv_10, Mv_11, Mv_12, Mv_13, Mv_14] : List (Int32)).getD k 0) (fun k => ([(fun _ => 0), (fun _ => 0), (fun _ => 0), (fun _ => 0), (fun _ => 0), (fun _ => 0), (fun _ => 0), (fun _ => 0), (fun _ => 0), (fun _ => 0), Mf_10] : List (Nat → Int32)).getD k (fun _ => 0)) (fun k => ([Mj_0] : List (Int64)).getD k 0) x1 h_b
set_option maxHeartbeats 4000000 in
set_option maxRecDepth 100000 in
theorem ct_X12_sinceOf (l : Launch) (D : va_G) (tc : Nat → ClassId) (sk : (Nat → Nat) × (Nat → Nat)) (Ma : Nat → Nat) (Mv : Nat → Int32) (Mf : Nat → Nat → Int32) (Mj : Nat → Int64) (x1 : Int32) (h_b : 0 ≤ x1.toInt ∧ x1.toInt < 6) : Ct l yX12_sinceOf cX12_sinceOf 3 (some .int) { frames := 1, cells := 0, slots := 0, locals := 21 } D tc sk [.ref (Ma 0), .int x1] [((Ma 0), .inr (12, [.ref (Ma 1), .int (Mv 0), .int (Mv 1), .ref (Ma 2), .ref (Ma 3), .ref (Ma 4), .ref (Ma 5), .ref (Ma 6), .int (Mv 2), .int (Mv 3), .int (Mv 4), .int (Mv 5), .int (Mv 6), .int (Mv 7), .int (Mv 8), .ref (Ma 7), .int (Mv 9), .ref (Ma 8), .int (Mv 10), .ref (Ma 9), .ref (Ma 10), .int (Mv 11), .int (Mv 12), .int (Mv 13), .ref (Ma 11), .int (Mv 14), .ref (Ma 12), .ref (Ma 13), .ref (Ma 14), .ref (Ma 15), .ref (Ma 16), .long (Mj 0), .ref (Ma 17), .ref (Ma 18), .ref (Ma 19), .ref (Ma 20)])), ((Ma 10), .inl (tc 0, 126, .inl (Mf 10)))] (fun (v : Option Value) (_ : Unit) => ∃ r : Int32, v = some (.int r) ∧ (True)) (fun (_ : Unit) => [((Ma 0), .inr (12, [.ref (Ma 1), .int (Mv 0), .int (Mv 1), .ref (Ma 2), .ref (Ma 3), .ref (Ma 4), .ref (Ma 5), .ref (Ma 6), .int (Mv 2), .int (Mv 3), .int (Mv 4), .int (Mv 5), .int (Mv 6), .int (Mv 7), .int (Mv 8), .ref (Ma 7), .int (Mv 9), .ref (Ma 8), .int (Mv 10), .ref (Ma 9), .ref (Ma 10), .int (Mv 11), .int (Mv 12), .int (Mv 13), .ref (Ma 11), .int (Mv 14), .ref (Ma 12), .ref (Ma 13), .ref (Ma 14), .ref (Ma 15), .ref (Ma 16), .long (Mj 0), .ref (Ma 17), .ref (Ma 18), .ref (Ma 19), .ref (Ma 20)])), ((Ma 10), .inl (tc 0, 126, .inl (Mf 10)))]) 0 0 := by
  refine Ct.start (by decide) (Nat.le_of_ble_eq_true rfl) (fun p e s m below meth c A ls hx hb hr hlk hin hml hown hts hK hX hP hD hA hl hS => ?_)
  have hl : lv_has ls 3 [(0, .ref (Ma 0)), (1, .int x1)] := hl
  refine lv_aload_n hx hb dX12_sinceOf_0 rfl (lv_at hl 0 rfl) ?_
  refine gf_X12_39 hx hb hts hown hK hP 0 rfl rfl dX12_sinceOf_1 ?_
  refine lv_bipush (v := 10) hx hb dX12_sinceOf_4 (by decide) ?_
  refine va_iald hx hb hK hP 1 0 rfl rfl (vin_dec (by decide +kernel)) dX12_sinceOf_6 ?_
  refine lv_topi (fun x_1 ex_1 => ?_)
  refine lv_aload_n hx hb dX12_sinceOf_7 rfl (lv_at hl 0 rfl) ?_
  refine lv_iload_n hx hb dX12_sinceOf_8 rfl (lv_at hl 1 rfl) ?_
  refine cV (a := (Ma 0)) (As := [.int x1]) (rest := [.int x_1]) (wr := []) ⟨hx, hb, hml, hown, hts⟩ hK hX hA (cu_X12_lastOf l D tc sk (Ma 0) (Ma 1) (Ma 2) (Ma 3) (Ma 4) (Ma 5) (Ma 6) (Ma 7) (Ma 8) (Ma 9) (Ma 10) (Ma 11) (Ma 12) (Ma 13) (Ma 14) (Ma 15) (Ma 16) (Ma 17) (Ma 18) (Ma 19) (Ma 20) (Mv 0) (Mv 1) (Mv 2) (Mv 3) (Mv 4) (Mv 5) (Mv 6) (Mv 7) (Mv 8) (Mv 9) (Mv 10) (Mv 11) (Mv 12) (Mv 13) (Mv 14) (Mf 10) (Mj 0) x1 h_b) k_1395 k_1392 k_1394 k_63 k_106 pl_X12_lastOf ⟨Nat.le_of_ble_eq_true rfl, Nat.le_of_ble_eq_true rfl⟩ rfl rfl (va_recv hK hP (ci := 12) (q0 := 0) rfl rfl) hP hD hS [0, 1] [] rfl rfl rfl rfl rfl (by decide) rfl hl.1 rfl (Nat.le_of_ble_eq_true rfl) dX12_sinceOf_9 ⟨Nat.le_of_ble_eq_true rfl, Nat.le_of_ble_eq_true rfl⟩ (fun v_2 u_3 H locs hv_4 hP₀ hD₀ hS₀ => ?_)
  obtain ⟨r_5, rfl, he_6⟩ := hv_4
  refine W.eq (g2 := F0 m 12 ls [.int r_5, .int x_1]) rfl ?_
  replace hP : va_P D classes [((Ma 0), .inr (12, [.ref (Ma 1), .int (Mv 0), .int (Mv 1), .ref (Ma 2), .ref (Ma 3), .ref (Ma 4), .ref (Ma 5), .ref (Ma 6), .int (Mv 2), .int (Mv 3), .int (Mv 4), .int (Mv 5), .int (Mv 6), .int (Mv 7), .int (Mv 8), .ref (Ma 7), .int (Mv 9), .ref (Ma 8), .int (Mv 10), .ref (Ma 9), .ref (Ma 10), .int (Mv 11), .int (Mv 12), .int (Mv 13), .ref (Ma 11), .int (Mv 14), .ref (Ma 12), .ref (Ma 13), .ref (Ma 14), .ref (Ma 15), .ref (Ma 16), .long (Mj 0), .ref (Ma 17), .ref (Ma 18), .ref (Ma 19), .ref (Ma 20)])), ((Ma 10), .inl (tc 0, 126, .inl (Mf 10)))] H := hP₀
  replace hD : va_D A [((Ma 0), .inr (12, [.ref (Ma 1), .int (Mv 0), .int (Mv 1), .ref (Ma 2), .ref (Ma 3), .ref (Ma 4), .ref (Ma 5), .ref (Ma 6), .int (Mv 2), .int (Mv 3), .int (Mv 4), .int (Mv 5), .int (Mv 6), .int (Mv 7), .int (Mv 8), .ref (Ma 7), .int (Mv 9), .ref (Ma 8), .int (Mv 10), .ref (Ma 9), .ref (Ma 10), .int (Mv 11), .int (Mv 12), .int (Mv 13), .ref (Ma 11), .int (Mv 14), .ref (Ma 12), .ref (Ma 13), .ref (Ma 14), .ref (Ma 15), .ref (Ma 16), .long (Mj 0), .ref (Ma 17), .ref (Ma 18), .ref (Ma 19), .ref (Ma 20)])), ((Ma 10), .inl (tc 0, 126, .inl (Mf 10)))] := hD₀
  replace hS := hS₀
  clear hP₀ hD₀ hS₀
  refine lv_isub hx hb dX12_sinceOf_12 ?_
  refine lv_topi (fun x_8 ex_8 => ?_)
  refine lv_istore_n (lv' := [(2, .int x_8), (0, .ref (Ma 0)), (1, .int x1)]) hx hb dX12_sinceOf_13 rfl hl (by decide) rfl (fun ls hl₀ => ?_)
  replace hl := hl₀
  clear hl₀
  refine lv_aload_n hx hb dX12_sinceOf_14 rfl (lv_at hl 1 rfl) ?_
  refine lv_iload_n hx hb dX12_sinceOf_15 rfl (lv_at hl 2 rfl) ?_
  refine cV (a := (Ma 0)) (As := [.int x1]) (rest := []) (wr := []) ⟨hx, hb, hml, hown, hts⟩ hK hX hA (cu_X12_lastOf l D tc sk (Ma 0) (Ma 1) (Ma 2) (Ma 3) (Ma 4) (Ma 5) (Ma 6) (Ma 7) (Ma 8) (Ma 9) (Ma 10) (Ma 11) (Ma 12) (Ma 13) (Ma 14) (Ma 15) (Ma 16) (Ma 17) (Ma 18) (Ma 19) (Ma 20) (Mv 0) (Mv 1) (Mv 2) (Mv 3) (Mv 4) (Mv 5) (Mv 6) (Mv 7) (Mv 8) (Mv 9) (Mv 10) (Mv 11) (Mv 12) (Mv 13) (Mv 14) (Mf 10) (Mj 0) x1 h_b) k_1395 k_1392 k_1394 k_63 k_106 pl_X12_lastOf ⟨Nat.le_of_ble_eq_true rfl, Nat.le_of_ble_eq_true rfl⟩ rfl rfl (va_recv hK hP (ci := 12) (q0 := 0) rfl rfl) hP hD hS [0, 1] [] rfl rfl rfl rfl rfl (by decide) rfl hl.1 rfl (Nat.le_of_ble_eq_true rfl) dX12_sinceOf_16 ⟨Nat.le_of_ble_eq_true rfl, Nat.le_of_ble_eq_true rfl⟩ (fun v_9 u_10 H locs hv_11 hP₀ hD₀ hS₀ => ?_)
  obtain ⟨r_12, rfl, he_13⟩ := hv_11
  refine W.eq (g2 := F0 m 19 ls [.int r_12]) rfl ?_
  replace hP : va_P D classes [((Ma 0), .inr (12, [.ref (Ma 1), .int (Mv 0), .int (Mv 1), .ref (Ma 2), .ref (Ma 3), .ref (Ma 4), .ref (Ma 5), .ref (Ma 6), .int (Mv 2), .int (Mv 3), .int (Mv 4), .int (Mv 5), .int (Mv 6), .int (Mv 7), .int (Mv 8), .ref (Ma 7), .int (Mv 9), .ref (Ma 8), .int (Mv 10), .ref (Ma 9), .ref (Ma 10), .int (Mv 11), .int (Mv 12), .int (Mv 13), .ref (Ma 11), .int (Mv 14), .ref (Ma 12), .ref (Ma 13), .ref (Ma 14), .ref (Ma 15), .ref (Ma 16), .long (Mj 0), .ref (Ma 17), .ref (Ma 18), .ref (Ma 19), .ref (Ma 20)])), ((Ma 10), .inl (tc 0, 126, .inl (Mf 10)))] H := hP₀
  replace hD : va_D A [((Ma 0), .inr (12, [.ref (Ma 1), .int (Mv 0), .int (Mv 1), .ref (Ma 2), .ref (Ma 3), .ref (Ma 4), .ref (Ma 5), .ref (Ma 6), .int (Mv 2), .int (Mv 3), .int (Mv 4), .int (Mv 5), .int (Mv 6), .int (Mv 7), .int (Mv 8), .ref (Ma 7), .int (Mv 9), .ref (Ma 8), .int (Mv 10), .ref (Ma 9), .ref (Ma 10), .int (Mv 11), .int (Mv 12), .int (Mv 13), .ref (Ma 11), .int (Mv 14), .ref (Ma 12), .ref (Ma 13), .ref (Ma 14), .ref (Ma 15), .ref (Ma 16), .long (Mj 0), .ref (Ma 17), .ref (Ma 18), .ref (Ma 19), .ref (Ma 20)])), ((Ma 10), .inl (tc 0, 126, .inl (Mf 10)))] := hD₀
  replace hS := hS₀
  clear hP₀ hD₀ hS₀
  refine lv_if_lt (tgt := 28) hx hb dX12_sinceOf_19 (by decide) (fun c_15 => ?_) (fun c_15 => ?_)
  · skip
    refine lv_bipush (v := 99) hx hb dX12_sinceOf_28 (by decide) ?_
    refine lv_goto (tgt := 34) hx hb dX12_sinceOf_30 (by decide) ?_
    exact retI (v := 99) hx hb hr hlk (rfl) hP hD hS () ⟨_, rfl, trivial⟩ [0, 1] rfl rfl dX12_sinceOf_34 (Nat.le_of_ble_eq_true rfl) (Nat.le_of_ble_eq_true rfl) rfl
  · skip
    refine lv_iload_n hx hb dX12_sinceOf_22 rfl (lv_at hl 0 rfl) ?_
    refine lv_bipush (v := 99) hx hb dX12_sinceOf_23 (by decide) ?_
    refine lv_icmp_le (tgt := 33) hx hb dX12_sinceOf_25 (by decide) (fun c_16 => ?_) (fun c_16 => ?_)
    · skip
      refine lv_iload_n hx hb dX12_sinceOf_33 rfl (lv_at hl 0 rfl) ?_
      exact retI (v := x_8) hx hb hr hlk (rfl) hP hD hS () ⟨_, rfl, trivial⟩ [0, 1] rfl rfl dX12_sinceOf_34 (Nat.le_of_ble_eq_true rfl) (Nat.le_of_ble_eq_true rfl) rfl
    · skip
      refine lv_bipush (v := 99) hx hb dX12_sinceOf_28 (by decide) ?_
      refine lv_goto (tgt := 34) hx hb dX12_sinceOf_30 (by decide) ?_
      exact retI (v := 99) hx hb hr hlk (rfl) hP hD hS () ⟨_, rfl, trivial⟩ [0, 1] rfl rfl dX12_sinceOf_34 (Nat.le_of_ble_eq_true rfl) (Nat.le_of_ble_eq_true rfl) rfl
set_option maxRecDepth 100000 in
theorem cu_X12_sinceOf (l : Launch) (D : va_G) (tc : Nat → ClassId) (sk : (Nat → Nat) × (Nat → Nat)) (Ma_0 : Nat) (Ma_1 : Nat) (Ma_2 : Nat) (Ma_3 : Nat) (Ma_4 : Nat) (Ma_5 : Nat) (Ma_6 : Nat) (Ma_7 : Nat) (Ma_8 : Nat) (Ma_9 : Nat) (Ma_10 : Nat) (Ma_11 : Nat) (Ma_12 : Nat) (Ma_13 : Nat) (Ma_14 : Nat) (Ma_15 : Nat) (Ma_16 : Nat) (Ma_17 : Nat) (Ma_18 : Nat) (Ma_19 : Nat) (Ma_20 : Nat) (Mv_0 : Int32) (Mv_1 : Int32) (Mv_2 : Int32) (Mv_3 : Int32) (Mv_4 : Int32) (Mv_5 : Int32) (Mv_6 : Int32) (Mv_7 : Int32) (Mv_8 : Int32) (Mv_9 : Int32) (Mv_10 : Int32) (Mv_11 : Int32) (Mv_12 : Int32) (Mv_13 : Int32) (Mv_14 : Int32) (Mf_10 : Nat → Int32) (Mj_0 : Int64) (x1 : Int32) (h_b : 0 ≤ x1.toInt ∧ x1.toInt < 6) : Ct l yX12_sinceOf cX12_sinceOf 3 (some .int) { frames := 1, cells := 0, slots := 0, locals := 21 } D tc sk [.ref Ma_0, .int x1] [(Ma_0, .inr (12, [.ref Ma_1, .int Mv_0, .int Mv_1, .ref Ma_2, .ref Ma_3, .ref Ma_4, .ref Ma_5, .ref Ma_6, .int Mv_2, .int Mv_3, .int Mv_4, .int Mv_5, .int Mv_6, .int Mv_7, .int Mv_8, .ref Ma_7, .int Mv_9, .ref Ma_8, .int Mv_10, .ref Ma_9, .ref Ma_10, .int Mv_11, .int Mv_12, .int Mv_13, .ref Ma_11, .int Mv_14, .ref Ma_12, .ref Ma_13, .ref Ma_14, .ref Ma_15, .ref Ma_16, .long Mj_0, .ref Ma_17, .ref Ma_18, .ref Ma_19, .ref Ma_20])), (Ma_10, .inl (tc 0, 126, .inl Mf_10))] (fun (v : Option Value) (_ : Unit) => ∃ r : Int32, v = some (.int r) ∧ (True)) (fun (_ : Unit) => [(Ma_0, .inr (12, [.ref Ma_1, .int Mv_0, .int Mv_1, .ref Ma_2, .ref Ma_3, .ref Ma_4, .ref Ma_5, .ref Ma_6, .int Mv_2, .int Mv_3, .int Mv_4, .int Mv_5, .int Mv_6, .int Mv_7, .int Mv_8, .ref Ma_7, .int Mv_9, .ref Ma_8, .int Mv_10, .ref Ma_9, .ref Ma_10, .int Mv_11, .int Mv_12, .int Mv_13, .ref Ma_11, .int Mv_14, .ref Ma_12, .ref Ma_13, .ref Ma_14, .ref Ma_15, .ref Ma_16, .long Mj_0, .ref Ma_17, .ref Ma_18, .ref Ma_19, .ref Ma_20])), (Ma_10, .inl (tc 0, 126, .inl Mf_10))]) 0 0 :=
  ct_X12_sinceOf l D tc sk (fun k => ([Ma_0, Ma_1, Ma_2, Ma_3, Ma_4, Ma_5, Ma_6, Ma_7, Ma_8, Ma_9, Ma_10, Ma_11, Ma_12, Ma_13, Ma_14, Ma_15, Ma_16, Ma_17, Ma_18, Ma_19, Ma_20] : List (Nat)).getD k 0) (fun k => ([Mv_0, Mv_1, Mv_2, Mv_3, Mv_4, Mv_5, Mv_6, Mv_7, Mv_8, Mv_9, Mv_10, Mv_11, Mv_12, Mv_13, Mv_14] : List (Int32)).getD k 0) (fun k => ([(fun _ => 0), (fun _ => 0), (fun _ => 0), (fun _ => 0), (fun _ => 0), (fun _ => 0), (fun _ => 0), (fun _ => 0), (fun _ => 0), (fun _ => 0), Mf_10] : List (Nat → Int32)).getD k (fun _ => 0)) (fun k => ([Mj_0] : List (Int64)).getD k 0) x1 h_b
set_option maxHeartbeats 4000000 in
set_option maxRecDepth 100000 in
theorem ct_X12_clock {T : Nat → Option Int32} (l : Launch) (D : va_G) (tc : Nat → ClassId) (sk : (Nat → Nat) × (Nat → Nat)) (Ma : Nat → Nat) (Mv : Nat → Int32) (Mf : Nat → Nat → Int32) (Mj : Nat → Int64) (d : Int) (h_said : SaidD T (Mf 10) d) : Ct l yX12_clock cX12_clock 1 (some .int) { frames := 1, cells := 0, slots := 0, locals := 20 } D tc sk [.ref (Ma 0)] [((Ma 0), .inr (12, [.ref (Ma 1), .int (Mv 0), .int (Mv 1), .ref (Ma 2), .ref (Ma 3), .ref (Ma 4), .ref (Ma 5), .ref (Ma 6), .int (Mv 2), .int (Mv 3), .int (Mv 4), .int (Mv 5), .int (Mv 6), .int (Mv 7), .int (Mv 8), .ref (Ma 7), .int (Mv 9), .ref (Ma 8), .int (Mv 10), .ref (Ma 9), .ref (Ma 10), .int (Mv 11), .int (Mv 12), .int (Mv 13), .ref (Ma 11), .int (Mv 14), .ref (Ma 12), .ref (Ma 13), .ref (Ma 14), .ref (Ma 15), .ref (Ma 16), .long (Mj 0), .ref (Ma 17), .ref (Ma 18), .ref (Ma 19), .ref (Ma 20)])), ((Ma 10), .inl (tc 0, 126, .inl (Mf 10)))] (fun (v : Option Value) (_ : Unit) => ∃ r : Int32, v = some (.int r) ∧ ((0 ≤ r.toInt ∧ r.toInt < 10))) (fun (_ : Unit) => [((Ma 0), .inr (12, [.ref (Ma 1), .int (Mv 0), .int (Mv 1), .ref (Ma 2), .ref (Ma 3), .ref (Ma 4), .ref (Ma 5), .ref (Ma 6), .int (Mv 2), .int (Mv 3), .int (Mv 4), .int (Mv 5), .int (Mv 6), .int (Mv 7), .int (Mv 8), .ref (Ma 7), .int (Mv 9), .ref (Ma 8), .int (Mv 10), .ref (Ma 9), .ref (Ma 10), .int (Mv 11), .int (Mv 12), .int (Mv 13), .ref (Ma 11), .int (Mv 14), .ref (Ma 12), .ref (Ma 13), .ref (Ma 14), .ref (Ma 15), .ref (Ma 16), .long (Mj 0), .ref (Ma 17), .ref (Ma 18), .ref (Ma 19), .ref (Ma 20)])), ((Ma 10), .inl (tc 0, 126, .inl (Mf 10)))]) 0 0 := by
  refine Ct.start (by decide) (Nat.le_of_ble_eq_true rfl) (fun p e s m below meth c A ls hx hb hr hlk hin hml hown hts hK hX hP hD hA hl hS => ?_)
  have hl : lv_has ls 1 [(0, .ref (Ma 0))] := hl
  have ar_h_said := SaidD.ar h_said
  refine lv_aload_n hx hb dX12_clock_0 rfl (lv_at hl 0 rfl) ?_
  refine cV (a := (Ma 0)) (As := []) (rest := []) (wr := []) ⟨hx, hb, hml, hown, hts⟩ hK hX hA (cu_X12_isBook l D tc sk (Ma 0) (Ma 1) (Ma 2) (Ma 3) (Ma 4) (Ma 5) (Ma 6) (Ma 7) (Ma 8) (Ma 9) (Ma 10) (Ma 11) (Ma 12) (Ma 13) (Ma 14) (Ma 15) (Ma 16) (Ma 17) (Ma 18) (Ma 19) (Ma 20) (Mv 0) (Mv 1) (Mv 2) (Mv 3) (Mv 4) (Mv 5) (Mv 6) (Mv 7) (Mv 8) (Mv 9) (Mv 10) (Mv 11) (Mv 12) (Mv 13) (Mv 14) (Mf 10) (Mj 0) h_said.1) k_1407 k_1404 k_1406 k_65 k_106 pl_X12_isBook ⟨Nat.le_of_ble_eq_true rfl, Nat.le_of_ble_eq_true rfl⟩ rfl rfl (va_recv hK hP (ci := 12) (q0 := 0) rfl rfl) hP hD hS [0, 1] [] rfl rfl rfl rfl rfl (by decide) rfl hl.1 rfl (Nat.le_of_ble_eq_true rfl) dX12_clock_1 ⟨Nat.le_of_ble_eq_true rfl, Nat.le_of_ble_eq_true rfl⟩ (fun v_1 u_2 H locs hv_3 hP₀ hD₀ hS₀ => ?_)
  obtain ⟨r_4, rfl, he_5⟩ := hv_3
  have he_5 : (r_4.toInt = 0 ∨ (r_4.toInt = 1 ∧ 1 ≤ ((Mf 10) 2).toInt ∧ ((Mf 10) 2).toInt ≤ 10)) := he_5
  refine W.eq (g2 := F0 m 4 ls [.int r_4]) rfl ?_
  replace hP : va_P D classes [((Ma 0), .inr (12, [.ref (Ma 1), .int (Mv 0), .int (Mv 1), .ref (Ma 2), .ref (Ma 3), .ref (Ma 4), .ref (Ma 5), .ref (Ma 6), .int (Mv 2), .int (Mv 3), .int (Mv 4), .int (Mv 5), .int (Mv 6), .int (Mv 7), .int (Mv 8), .ref (Ma 7), .int (Mv 9), .ref (Ma 8), .int (Mv 10), .ref (Ma 9), .ref (Ma 10), .int (Mv 11), .int (Mv 12), .int (Mv 13), .ref (Ma 11), .int (Mv 14), .ref (Ma 12), .ref (Ma 13), .ref (Ma 14), .ref (Ma 15), .ref (Ma 16), .long (Mj 0), .ref (Ma 17), .ref (Ma 18), .ref (Ma 19), .ref (Ma 20)])), ((Ma 10), .inl (tc 0, 126, .inl (Mf 10)))] H := hP₀
  replace hD : va_D A [((Ma 0), .inr (12, [.ref (Ma 1), .int (Mv 0), .int (Mv 1), .ref (Ma 2), .ref (Ma 3), .ref (Ma 4), .ref (Ma 5), .ref (Ma 6), .int (Mv 2), .int (Mv 3), .int (Mv 4), .int (Mv 5), .int (Mv 6), .int (Mv 7), .int (Mv 8), .ref (Ma 7), .int (Mv 9), .ref (Ma 8), .int (Mv 10), .ref (Ma 9), .ref (Ma 10), .int (Mv 11), .int (Mv 12), .int (Mv 13), .ref (Ma 11), .int (Mv 14), .ref (Ma 12), .ref (Ma 13), .ref (Ma 14), .ref (Ma 15), .ref (Ma 16), .long (Mj 0), .ref (Ma 17), .ref (Ma 18), .ref (Ma 19), .ref (Ma 20)])), ((Ma 10), .inl (tc 0, 126, .inl (Mf 10)))] := hD₀
  replace hS := hS₀
  clear hP₀ hD₀ hS₀
  refine lv_if_eq (tgt := 24) hx hb dX12_clock_4 (by decide) (fun c_7 => ?_) (fun c_7 => ?_)
  · skip
    refine lv_iconst (v := 0) hx hb dX12_clock_24 (by decide) ?_
    have hp_8 : (0 ≤ (0 : Int32).toInt ∧ (0 : Int32).toInt < 10) := by
      have z_1 := congrArg Int32.toInt c_7
      have y_0 : (0 : Int32).toInt = 0 := by decide
      omega
    exact retI (v := 0) hx hb hr hlk (rfl) hP hD hS () ⟨_, rfl, hp_8⟩ [0, 1] rfl rfl dX12_clock_25 (Nat.le_of_ble_eq_true rfl) (Nat.le_of_ble_eq_true rfl) rfl
  · skip
    refine lv_aload_n hx hb dX12_clock_7 rfl (lv_at hl 0 rfl) ?_
    refine gf_X12_39 hx hb hts hown hK hP 0 rfl rfl dX12_clock_8 ?_
    refine lv_bipush (v := 10) hx hb dX12_clock_11 (by decide) ?_
    refine va_iald hx hb hK hP 1 0 rfl rfl (vin_dec (by decide +kernel)) dX12_clock_13 ?_
    refine lv_topi (fun x_9 ex_9 => ?_)
    have lx_9 : x_9.toInt = ((Mf 10) 10).toInt := congrArg Int32.toInt ex_9
    refine lv_aload_n hx hb dX12_clock_14 rfl (lv_at hl 0 rfl) ?_
    refine gf_X12_39 hx hb hts hown hK hP 0 rfl rfl dX12_clock_15 ?_
    refine lv_iconst (v := 2) hx hb dX12_clock_18 (by decide) ?_
    refine va_iald hx hb hK hP 1 0 rfl rfl (vin_dec (by decide +kernel)) dX12_clock_19 ?_
    refine lv_topi (fun x_10 ex_10 => ?_)
    have lx_10 : x_10.toInt = ((Mf 10) 2).toInt := congrArg Int32.toInt ex_10
    have hz_11 : ¬ x_10 = 0 := by
      intro z
      have zz : (x_10 : Int32).toInt = 0 := by rw [z]; decide
      have z_1 : ¬ (r_4 : Int32).toInt = (0 : Int32).toInt := fun z => c_7 (Int32.toInt_inj.mp z)
      have y_0 : (0 : Int32).toInt = 0 := by decide
      omega
    refine lv_irem hx hb dX12_clock_20 hz_11 ?_
    refine lv_topi (fun x_12 ex_12 => ?_)
    refine lv_goto (tgt := 25) hx hb dX12_clock_21 (by decide) ?_
    have hp_13 : (0 ≤ (x_12 : Int32).toInt ∧ (x_12 : Int32).toInt < 10) := by
      have z_1 : ¬ (r_4 : Int32).toInt = (0 : Int32).toInt := fun z => c_7 (Int32.toInt_inj.mp z)
      have y_0 : (0 : Int32).toInt = 0 := by decide
      have t_x_12 := rem_bounds (x := x_9) (y := x_10) (by omega)
      rw [← ex_12] at t_x_12
      omega
    exact retI (v := x_12) hx hb hr hlk (rfl) hP hD hS () ⟨_, rfl, hp_13⟩ [0, 1] rfl rfl dX12_clock_25 (Nat.le_of_ble_eq_true rfl) (Nat.le_of_ble_eq_true rfl) rfl
set_option maxRecDepth 100000 in
theorem cu_X12_clock {T : Nat → Option Int32} (l : Launch) (D : va_G) (tc : Nat → ClassId) (sk : (Nat → Nat) × (Nat → Nat)) (Ma_0 : Nat) (Ma_1 : Nat) (Ma_2 : Nat) (Ma_3 : Nat) (Ma_4 : Nat) (Ma_5 : Nat) (Ma_6 : Nat) (Ma_7 : Nat) (Ma_8 : Nat) (Ma_9 : Nat) (Ma_10 : Nat) (Ma_11 : Nat) (Ma_12 : Nat) (Ma_13 : Nat) (Ma_14 : Nat) (Ma_15 : Nat) (Ma_16 : Nat) (Ma_17 : Nat) (Ma_18 : Nat) (Ma_19 : Nat) (Ma_20 : Nat) (Mv_0 : Int32) (Mv_1 : Int32) (Mv_2 : Int32) (Mv_3 : Int32) (Mv_4 : Int32) (Mv_5 : Int32) (Mv_6 : Int32) (Mv_7 : Int32) (Mv_8 : Int32) (Mv_9 : Int32) (Mv_10 : Int32) (Mv_11 : Int32) (Mv_12 : Int32) (Mv_13 : Int32) (Mv_14 : Int32) (Mf_10 : Nat → Int32) (Mj_0 : Int64) (d : Int) (h_said : SaidD T Mf_10 d) : Ct l yX12_clock cX12_clock 1 (some .int) { frames := 1, cells := 0, slots := 0, locals := 20 } D tc sk [.ref Ma_0] [(Ma_0, .inr (12, [.ref Ma_1, .int Mv_0, .int Mv_1, .ref Ma_2, .ref Ma_3, .ref Ma_4, .ref Ma_5, .ref Ma_6, .int Mv_2, .int Mv_3, .int Mv_4, .int Mv_5, .int Mv_6, .int Mv_7, .int Mv_8, .ref Ma_7, .int Mv_9, .ref Ma_8, .int Mv_10, .ref Ma_9, .ref Ma_10, .int Mv_11, .int Mv_12, .int Mv_13, .ref Ma_11, .int Mv_14, .ref Ma_12, .ref Ma_13, .ref Ma_14, .ref Ma_15, .ref Ma_16, .long Mj_0, .ref Ma_17, .ref Ma_18, .ref Ma_19, .ref Ma_20])), (Ma_10, .inl (tc 0, 126, .inl Mf_10))] (fun (v : Option Value) (_ : Unit) => ∃ r : Int32, v = some (.int r) ∧ ((0 ≤ r.toInt ∧ r.toInt < 10))) (fun (_ : Unit) => [(Ma_0, .inr (12, [.ref Ma_1, .int Mv_0, .int Mv_1, .ref Ma_2, .ref Ma_3, .ref Ma_4, .ref Ma_5, .ref Ma_6, .int Mv_2, .int Mv_3, .int Mv_4, .int Mv_5, .int Mv_6, .int Mv_7, .int Mv_8, .ref Ma_7, .int Mv_9, .ref Ma_8, .int Mv_10, .ref Ma_9, .ref Ma_10, .int Mv_11, .int Mv_12, .int Mv_13, .ref Ma_11, .int Mv_14, .ref Ma_12, .ref Ma_13, .ref Ma_14, .ref Ma_15, .ref Ma_16, .long Mj_0, .ref Ma_17, .ref Ma_18, .ref Ma_19, .ref Ma_20])), (Ma_10, .inl (tc 0, 126, .inl Mf_10))]) 0 0 :=
  ct_X12_clock l D tc sk (fun k => ([Ma_0, Ma_1, Ma_2, Ma_3, Ma_4, Ma_5, Ma_6, Ma_7, Ma_8, Ma_9, Ma_10, Ma_11, Ma_12, Ma_13, Ma_14, Ma_15, Ma_16, Ma_17, Ma_18, Ma_19, Ma_20] : List (Nat)).getD k 0) (fun k => ([Mv_0, Mv_1, Mv_2, Mv_3, Mv_4, Mv_5, Mv_6, Mv_7, Mv_8, Mv_9, Mv_10, Mv_11, Mv_12, Mv_13, Mv_14] : List (Int32)).getD k 0) (fun k => ([(fun _ => 0), (fun _ => 0), (fun _ => 0), (fun _ => 0), (fun _ => 0), (fun _ => 0), (fun _ => 0), (fun _ => 0), (fun _ => 0), (fun _ => 0), Mf_10] : List (Nat → Int32)).getD k (fun _ => 0)) (fun k => ([Mj_0] : List (Int64)).getD k 0) d h_said
set_option maxHeartbeats 4000000 in
set_option maxRecDepth 100000 in
theorem ct_X12_soldAll {T : Nat → Option Int32} (l : Launch) (D : va_G) (tc : Nat → ClassId) (sk : (Nat → Nat) × (Nat → Nat)) (Ma : Nat → Nat) (Mv : Nat → Int32) (Mf : Nat → Nat → Int32) (Mj : Nat → Int64) (h_said : SaidB T (Mf 10)) : Ct l yX12_soldAll cX12_soldAll 3 (some .int) { frames := 1, cells := 0, slots := 0, locals := 21 } D tc sk [.ref (Ma 0)] [((Ma 0), .inr (12, [.ref (Ma 1), .int (Mv 0), .int (Mv 1), .ref (Ma 2), .ref (Ma 3), .ref (Ma 4), .ref (Ma 5), .ref (Ma 6), .int (Mv 2), .int (Mv 3), .int (Mv 4), .int (Mv 5), .int (Mv 6), .int (Mv 7), .int (Mv 8), .ref (Ma 7), .int (Mv 9), .ref (Ma 8), .int (Mv 10), .ref (Ma 9), .ref (Ma 10), .int (Mv 11), .int (Mv 12), .int (Mv 13), .ref (Ma 11), .int (Mv 14), .ref (Ma 12), .ref (Ma 13), .ref (Ma 14), .ref (Ma 15), .ref (Ma 16), .long (Mj 0), .ref (Ma 17), .ref (Ma 18), .ref (Ma 19), .ref (Ma 20)])), ((Ma 10), .inl (tc 0, 126, .inl (Mf 10)))] (fun (v : Option Value) (_ : Unit) => ∃ r : Int32, v = some (.int r) ∧ (True)) (fun (_ : Unit) => [((Ma 0), .inr (12, [.ref (Ma 1), .int (Mv 0), .int (Mv 1), .ref (Ma 2), .ref (Ma 3), .ref (Ma 4), .ref (Ma 5), .ref (Ma 6), .int (Mv 2), .int (Mv 3), .int (Mv 4), .int (Mv 5), .int (Mv 6), .int (Mv 7), .int (Mv 8), .ref (Ma 7), .int (Mv 9), .ref (Ma 8), .int (Mv 10), .ref (Ma 9), .ref (Ma 10), .int (Mv 11), .int (Mv 12), .int (Mv 13), .ref (Ma 11), .int (Mv 14), .ref (Ma 12), .ref (Ma 13), .ref (Ma 14), .ref (Ma 15), .ref (Ma 16), .long (Mj 0), .ref (Ma 17), .ref (Ma 18), .ref (Ma 19), .ref (Ma 20)])), ((Ma 10), .inl (tc 0, 126, .inl (Mf 10)))]) 0 0 := by
  refine Ct.start (by decide) (Nat.le_of_ble_eq_true rfl) (fun p e s m below meth c A ls hx hb hr hlk hin hml hown hts hK hX hP hD hA hl hS => ?_)
  have hl : lv_has ls 3 [(0, .ref (Ma 0))] := hl
  have ar_h_said := SaidB.ar h_said
  refine lv_iconst (v := 0) hx hb dX12_soldAll_0 (by decide) ?_
  refine lv_istore_n (lv' := [(1, .int 0), (0, .ref (Ma 0))]) hx hb dX12_soldAll_1 rfl hl (by decide) rfl (fun ls hl₀ => ?_)
  replace hl := hl₀
  clear hl₀
  refine lv_iconst (v := 0) hx hb dX12_soldAll_2 (by decide) ?_
  refine lv_istore_n (lv' := [(2, .int 0), (1, .int 0), (0, .ref (Ma 0))]) hx hb dX12_soldAll_3 rfl hl (by decide) rfl (fun ls hl₀ => ?_)
  replace hl := hl₀
  clear hl₀
  have loop_7 : ∀ (n_5 : Nat) (vy_3 : Int32) (vy_4 : Int32) (H : Heap) (locs : List Loc) (ls : Array Slot), (6 - (vy_3 : Int32).toInt).toNat < n_5 → (0 ≤ (vy_3 : Int32).toInt) → va_P D classes [((Ma 0), .inr (12, [.ref (Ma 1), .int (Mv 0), .int (Mv 1), .ref (Ma 2), .ref (Ma 3), .ref (Ma 4), .ref (Ma 5), .ref (Ma 6), .int (Mv 2), .int (Mv 3), .int (Mv 4), .int (Mv 5), .int (Mv 6), .int (Mv 7), .int (Mv 8), .ref (Ma 7), .int (Mv 9), .ref (Ma 8), .int (Mv 10), .ref (Ma 9), .ref (Ma 10), .int (Mv 11), .int (Mv 12), .int (Mv 13), .ref (Ma 11), .int (Mv 14), .ref (Ma 12), .ref (Ma 13), .ref (Ma 14), .ref (Ma 15), .ref (Ma 16), .long (Mj 0), .ref (Ma 17), .ref (Ma 18), .ref (Ma 19), .ref (Ma 20)])), ((Ma 10), .inl (tc 0, 126, .inl (Mf 10)))] H → va_D A [((Ma 0), .inr (12, [.ref (Ma 1), .int (Mv 0), .int (Mv 1), .ref (Ma 2), .ref (Ma 3), .ref (Ma 4), .ref (Ma 5), .ref (Ma 6), .int (Mv 2), .int (Mv 3), .int (Mv 4), .int (Mv 5), .int (Mv 6), .int (Mv 7), .int (Mv 8), .ref (Ma 7), .int (Mv 9), .ref (Ma 8), .int (Mv 10), .ref (Ma 9), .ref (Ma 10), .int (Mv 11), .int (Mv 12), .int (Mv 13), .ref (Ma 11), .int (Mv 14), .ref (Ma 12), .ref (Ma 13), .ref (Ma 14), .ref (Ma 15), .ref (Ma 16), .long (Mj 0), .ref (Ma 17), .ref (Ma 18), .ref (Ma 19), .ref (Ma 20)])), ((Ma 10), .inl (tc 0, 126, .inl (Mf 10)))] → va_S A s.heap H locs → lv_has ls 3 [(2, .int vy_3), (1, .int vy_4), (0, .ref (Ma 0))] → W p l e ({ frames := 1, cells := 0, slots := 0, locals := 21 }) s m ([.ref (Ma 0)].toArray) below meth c H locs 0 0 (MQ below (QW (fun (v : Option Value) (_ : Unit) => ∃ r : Int32, v = some (.int r) ∧ (True)) (BW D (fun (_ : Unit) => [((Ma 0), .inr (12, [.ref (Ma 1), .int (Mv 0), .int (Mv 1), .ref (Ma 2), .ref (Ma 3), .ref (Ma 4), .ref (Ma 5), .ref (Ma 6), .int (Mv 2), .int (Mv 3), .int (Mv 4), .int (Mv 5), .int (Mv 6), .int (Mv 7), .int (Mv 8), .ref (Ma 7), .int (Mv 9), .ref (Ma 8), .int (Mv 10), .ref (Ma 9), .ref (Ma 10), .int (Mv 11), .int (Mv 12), .int (Mv 13), .ref (Ma 11), .int (Mv 14), .ref (Ma 12), .ref (Ma 13), .ref (Ma 14), .ref (Ma 15), .ref (Ma 16), .long (Mj 0), .ref (Ma 17), .ref (Ma 18), .ref (Ma 19), .ref (Ma 20)])), ((Ma 10), .inl (tc 0, 126, .inl (Mf 10)))]) A) A) ([.ref (Ma 0)].toArray) s 0 0 A) (F0 m 4 ls []) := by
    clear hP hD hS hl
    intro n_5
    induction n_5 with
    | zero =>
      intro vy_3 vy_4 H locs ls h1
      exact absurd h1 (Nat.not_lt_zero _)
    | succ n_5 ih_6 =>
      intro vy_3 vy_4 H locs ls hn_9 pf_8 hP hD hS hl
      refine lv_iload_n hx hb dX12_soldAll_4 rfl (lv_at hl 0 rfl) ?_
      refine lv_aload_n hx hb dX12_soldAll_5 rfl (lv_at hl 2 rfl) ?_
      refine gf_X12_39 hx hb hts hown hK hP 0 rfl rfl dX12_soldAll_6 ?_
      refine lv_iconst (v := 3) hx hb dX12_soldAll_9 (by decide) ?_
      refine va_iald hx hb hK hP 1 0 rfl rfl (vin_dec (by decide +kernel)) dX12_soldAll_10 ?_
      refine lv_topi (fun x_10 ex_10 => ?_)
      have lx_10 : x_10.toInt = ((Mf 10) 3).toInt := congrArg Int32.toInt ex_10
      refine lv_icmp_ge (tgt := 28) hx hb dX12_soldAll_11 (by decide) (fun c_11 => ?_) (fun c_11 => ?_)
      · skip
        refine lv_iload_n hx hb dX12_soldAll_28 rfl (lv_at hl 1 rfl) ?_
        exact retI (v := vy_4) hx hb hr hlk (rfl) hP hD hS () ⟨_, rfl, trivial⟩ [0, 1] rfl rfl dX12_soldAll_29 (Nat.le_of_ble_eq_true rfl) (Nat.le_of_ble_eq_true rfl) rfl
      · skip
        refine lv_iload_n hx hb dX12_soldAll_14 rfl (lv_at hl 1 rfl) ?_
        refine lv_aload_n hx hb dX12_soldAll_15 rfl (lv_at hl 2 rfl) ?_
        refine lv_iload_n hx hb dX12_soldAll_16 rfl (lv_at hl 0 rfl) ?_
        have ha_12 : 0 ≤ vy_3.toInt ∧ vy_3.toInt < 6 := by
          have z_1 := Int32.lt_iff_toInt_lt.mp (Int32.not_le.mp c_11)
          omega
        refine cV (a := (Ma 0)) (As := [.int vy_3]) (rest := [.int vy_4]) (wr := []) ⟨hx, hb, hml, hown, hts⟩ hK hX hA (cu_X12_boughtBy l D tc sk (Ma 0) (Ma 1) (Ma 2) (Ma 3) (Ma 4) (Ma 5) (Ma 6) (Ma 7) (Ma 8) (Ma 9) (Ma 10) (Ma 11) (Ma 12) (Ma 13) (Ma 14) (Ma 15) (Ma 16) (Ma 17) (Ma 18) (Ma 19) (Ma 20) (Mv 0) (Mv 1) (Mv 2) (Mv 3) (Mv 4) (Mv 5) (Mv 6) (Mv 7) (Mv 8) (Mv 9) (Mv 10) (Mv 11) (Mv 12) (Mv 13) (Mv 14) (Mf 10) (Mj 0) vy_3 ha_12) k_1383 k_1380 k_1382 k_60 k_106 pl_X12_boughtBy ⟨Nat.le_of_ble_eq_true rfl, Nat.le_of_ble_eq_true rfl⟩ rfl rfl (va_recv hK hP (ci := 12) (q0 := 0) rfl rfl) hP hD hS [0, 1] [] rfl rfl rfl rfl rfl (by decide) rfl hl.1 rfl (Nat.le_of_ble_eq_true rfl) dX12_soldAll_17 ⟨Nat.le_of_ble_eq_true rfl, Nat.le_of_ble_eq_true rfl⟩ (fun v_13 u_14 H locs hv_15 hP₀ hD₀ hS₀ => ?_)
        obtain ⟨r_16, rfl, he_17⟩ := hv_15
        refine W.eq (g2 := F0 m 20 ls [.int r_16, .int vy_4]) rfl ?_
        replace hP : va_P D classes [((Ma 0), .inr (12, [.ref (Ma 1), .int (Mv 0), .int (Mv 1), .ref (Ma 2), .ref (Ma 3), .ref (Ma 4), .ref (Ma 5), .ref (Ma 6), .int (Mv 2), .int (Mv 3), .int (Mv 4), .int (Mv 5), .int (Mv 6), .int (Mv 7), .int (Mv 8), .ref (Ma 7), .int (Mv 9), .ref (Ma 8), .int (Mv 10), .ref (Ma 9), .ref (Ma 10), .int (Mv 11), .int (Mv 12), .int (Mv 13), .ref (Ma 11), .int (Mv 14), .ref (Ma 12), .ref (Ma 13), .ref (Ma 14), .ref (Ma 15), .ref (Ma 16), .long (Mj 0), .ref (Ma 17), .ref (Ma 18), .ref (Ma 19), .ref (Ma 20)])), ((Ma 10), .inl (tc 0, 126, .inl (Mf 10)))] H := hP₀
        replace hD : va_D A [((Ma 0), .inr (12, [.ref (Ma 1), .int (Mv 0), .int (Mv 1), .ref (Ma 2), .ref (Ma 3), .ref (Ma 4), .ref (Ma 5), .ref (Ma 6), .int (Mv 2), .int (Mv 3), .int (Mv 4), .int (Mv 5), .int (Mv 6), .int (Mv 7), .int (Mv 8), .ref (Ma 7), .int (Mv 9), .ref (Ma 8), .int (Mv 10), .ref (Ma 9), .ref (Ma 10), .int (Mv 11), .int (Mv 12), .int (Mv 13), .ref (Ma 11), .int (Mv 14), .ref (Ma 12), .ref (Ma 13), .ref (Ma 14), .ref (Ma 15), .ref (Ma 16), .long (Mj 0), .ref (Ma 17), .ref (Ma 18), .ref (Ma 19), .ref (Ma 20)])), ((Ma 10), .inl (tc 0, 126, .inl (Mf 10)))] := hD₀
        replace hS := hS₀
        clear hP₀ hD₀ hS₀
        refine lv_iadd hx hb dX12_soldAll_20 ?_
        refine lv_topi (fun x_19 ex_19 => ?_)
        refine lv_istore_n (lv' := [(1, .int x_19), (2, .int vy_3), (0, .ref (Ma 0))]) hx hb dX12_soldAll_21 rfl hl (by decide) rfl (fun ls hl₀ => ?_)
        replace hl := hl₀
        clear hl₀
        obtain ⟨x_20, ex_20⟩ : ∃ y : Int32, y = vy_3 + 1 := ⟨_, rfl⟩
        refine lv_iinc (v := x_20) (lv' := [(2, .int x_20), (1, .int x_19), (0, .ref (Ma 0))]) hx hb dX12_soldAll_22 hl (k := 1) rfl (by rw [ex_20]; rfl) (by decide) rfl (fun ls hl₀ => ?_)
        replace hl := hl₀
        clear hl₀
        refine lv_goto (tgt := 4) hx hb dX12_soldAll_25 (by decide) ?_
        have hb_21 : 6 - (x_20 : Int32).toInt < 6 - (vy_3 : Int32).toInt ∧ 1 ≤ 6 - (vy_3 : Int32).toInt := by
          have z_1 := Int32.lt_iff_toInt_lt.mp (Int32.not_le.mp c_11)
          have y_1 : (1 : Int32).toInt = 1 := by decide
          have t_x_20 : x_20.toInt = (vy_3 : Int32).toInt + (1 : Int32).toInt := by rw [ex_20]; exact add_toInt (by omega) (by omega)
          omega
        have ha_22 : 0 ≤ (x_20 : Int32).toInt := by
          have z_1 := Int32.lt_iff_toInt_lt.mp (Int32.not_le.mp c_11)
          have y_1 : (1 : Int32).toInt = 1 := by decide
          have t_x_20 : x_20.toInt = (vy_3 : Int32).toInt + (1 : Int32).toInt := by rw [ex_20]; exact add_toInt (by omega) (by omega)
          omega
        exact ih_6 x_20 x_19 _ _ _ (by omega) ha_22 (hP.sub [0, 1] rfl) (hD.sub [0, 1] rfl rfl) hS (lv_sub hl [0, 1, 2] rfl)
  have ha_23 : 0 ≤ (0 : Int32).toInt := by
    have y_0 : (0 : Int32).toInt = 0 := by decide
    omega
  exact loop_7 _ 0 0 _ _ _ (Nat.lt_succ_self _) ha_23 hP hD hS hl
set_option maxRecDepth 100000 in
theorem cu_X12_soldAll {T : Nat → Option Int32} (l : Launch) (D : va_G) (tc : Nat → ClassId) (sk : (Nat → Nat) × (Nat → Nat)) (Ma_0 : Nat) (Ma_1 : Nat) (Ma_2 : Nat) (Ma_3 : Nat) (Ma_4 : Nat) (Ma_5 : Nat) (Ma_6 : Nat) (Ma_7 : Nat) (Ma_8 : Nat) (Ma_9 : Nat) (Ma_10 : Nat) (Ma_11 : Nat) (Ma_12 : Nat) (Ma_13 : Nat) (Ma_14 : Nat) (Ma_15 : Nat) (Ma_16 : Nat) (Ma_17 : Nat) (Ma_18 : Nat) (Ma_19 : Nat) (Ma_20 : Nat) (Mv_0 : Int32) (Mv_1 : Int32) (Mv_2 : Int32) (Mv_3 : Int32) (Mv_4 : Int32) (Mv_5 : Int32) (Mv_6 : Int32) (Mv_7 : Int32) (Mv_8 : Int32) (Mv_9 : Int32) (Mv_10 : Int32) (Mv_11 : Int32) (Mv_12 : Int32) (Mv_13 : Int32) (Mv_14 : Int32) (Mf_10 : Nat → Int32) (Mj_0 : Int64) (h_said : SaidB T Mf_10) : Ct l yX12_soldAll cX12_soldAll 3 (some .int) { frames := 1, cells := 0, slots := 0, locals := 21 } D tc sk [.ref Ma_0] [(Ma_0, .inr (12, [.ref Ma_1, .int Mv_0, .int Mv_1, .ref Ma_2, .ref Ma_3, .ref Ma_4, .ref Ma_5, .ref Ma_6, .int Mv_2, .int Mv_3, .int Mv_4, .int Mv_5, .int Mv_6, .int Mv_7, .int Mv_8, .ref Ma_7, .int Mv_9, .ref Ma_8, .int Mv_10, .ref Ma_9, .ref Ma_10, .int Mv_11, .int Mv_12, .int Mv_13, .ref Ma_11, .int Mv_14, .ref Ma_12, .ref Ma_13, .ref Ma_14, .ref Ma_15, .ref Ma_16, .long Mj_0, .ref Ma_17, .ref Ma_18, .ref Ma_19, .ref Ma_20])), (Ma_10, .inl (tc 0, 126, .inl Mf_10))] (fun (v : Option Value) (_ : Unit) => ∃ r : Int32, v = some (.int r) ∧ (True)) (fun (_ : Unit) => [(Ma_0, .inr (12, [.ref Ma_1, .int Mv_0, .int Mv_1, .ref Ma_2, .ref Ma_3, .ref Ma_4, .ref Ma_5, .ref Ma_6, .int Mv_2, .int Mv_3, .int Mv_4, .int Mv_5, .int Mv_6, .int Mv_7, .int Mv_8, .ref Ma_7, .int Mv_9, .ref Ma_8, .int Mv_10, .ref Ma_9, .ref Ma_10, .int Mv_11, .int Mv_12, .int Mv_13, .ref Ma_11, .int Mv_14, .ref Ma_12, .ref Ma_13, .ref Ma_14, .ref Ma_15, .ref Ma_16, .long Mj_0, .ref Ma_17, .ref Ma_18, .ref Ma_19, .ref Ma_20])), (Ma_10, .inl (tc 0, 126, .inl Mf_10))]) 0 0 :=
  ct_X12_soldAll l D tc sk (fun k => ([Ma_0, Ma_1, Ma_2, Ma_3, Ma_4, Ma_5, Ma_6, Ma_7, Ma_8, Ma_9, Ma_10, Ma_11, Ma_12, Ma_13, Ma_14, Ma_15, Ma_16, Ma_17, Ma_18, Ma_19, Ma_20] : List (Nat)).getD k 0) (fun k => ([Mv_0, Mv_1, Mv_2, Mv_3, Mv_4, Mv_5, Mv_6, Mv_7, Mv_8, Mv_9, Mv_10, Mv_11, Mv_12, Mv_13, Mv_14] : List (Int32)).getD k 0) (fun k => ([(fun _ => 0), (fun _ => 0), (fun _ => 0), (fun _ => 0), (fun _ => 0), (fun _ => 0), (fun _ => 0), (fun _ => 0), (fun _ => 0), (fun _ => 0), Mf_10] : List (Nat → Int32)).getD k (fun _ => 0)) (fun k => ([Mj_0] : List (Int64)).getD k 0) h_said
set_option maxHeartbeats 4000000 in
set_option maxRecDepth 100000 in
theorem ct_X12_metAll {T : Nat → Option Int32} (l : Launch) (D : va_G) (tc : Nat → ClassId) (sk : (Nat → Nat) × (Nat → Nat)) (Ma : Nat → Nat) (Mv : Nat → Int32) (Mf : Nat → Nat → Int32) (Mj : Nat → Int64) (h_said : SaidB T (Mf 10)) : Ct l yX12_metAll cX12_metAll 3 (some .int) { frames := 1, cells := 0, slots := 0, locals := 21 } D tc sk [.ref (Ma 0)] [((Ma 0), .inr (12, [.ref (Ma 1), .int (Mv 0), .int (Mv 1), .ref (Ma 2), .ref (Ma 3), .ref (Ma 4), .ref (Ma 5), .ref (Ma 6), .int (Mv 2), .int (Mv 3), .int (Mv 4), .int (Mv 5), .int (Mv 6), .int (Mv 7), .int (Mv 8), .ref (Ma 7), .int (Mv 9), .ref (Ma 8), .int (Mv 10), .ref (Ma 9), .ref (Ma 10), .int (Mv 11), .int (Mv 12), .int (Mv 13), .ref (Ma 11), .int (Mv 14), .ref (Ma 12), .ref (Ma 13), .ref (Ma 14), .ref (Ma 15), .ref (Ma 16), .long (Mj 0), .ref (Ma 17), .ref (Ma 18), .ref (Ma 19), .ref (Ma 20)])), ((Ma 10), .inl (tc 0, 126, .inl (Mf 10)))] (fun (v : Option Value) (_ : Unit) => ∃ r : Int32, v = some (.int r) ∧ (True)) (fun (_ : Unit) => [((Ma 0), .inr (12, [.ref (Ma 1), .int (Mv 0), .int (Mv 1), .ref (Ma 2), .ref (Ma 3), .ref (Ma 4), .ref (Ma 5), .ref (Ma 6), .int (Mv 2), .int (Mv 3), .int (Mv 4), .int (Mv 5), .int (Mv 6), .int (Mv 7), .int (Mv 8), .ref (Ma 7), .int (Mv 9), .ref (Ma 8), .int (Mv 10), .ref (Ma 9), .ref (Ma 10), .int (Mv 11), .int (Mv 12), .int (Mv 13), .ref (Ma 11), .int (Mv 14), .ref (Ma 12), .ref (Ma 13), .ref (Ma 14), .ref (Ma 15), .ref (Ma 16), .long (Mj 0), .ref (Ma 17), .ref (Ma 18), .ref (Ma 19), .ref (Ma 20)])), ((Ma 10), .inl (tc 0, 126, .inl (Mf 10)))]) 0 0 := by
  refine Ct.start (by decide) (Nat.le_of_ble_eq_true rfl) (fun p e s m below meth c A ls hx hb hr hlk hin hml hown hts hK hX hP hD hA hl hS => ?_)
  have hl : lv_has ls 3 [(0, .ref (Ma 0))] := hl
  have ar_h_said := SaidB.ar h_said
  refine lv_iconst (v := 0) hx hb dX12_metAll_0 (by decide) ?_
  refine lv_istore_n (lv' := [(1, .int 0), (0, .ref (Ma 0))]) hx hb dX12_metAll_1 rfl hl (by decide) rfl (fun ls hl₀ => ?_)
  replace hl := hl₀
  clear hl₀
  refine lv_iconst (v := 0) hx hb dX12_metAll_2 (by decide) ?_
  refine lv_istore_n (lv' := [(2, .int 0), (1, .int 0), (0, .ref (Ma 0))]) hx hb dX12_metAll_3 rfl hl (by decide) rfl (fun ls hl₀ => ?_)
  replace hl := hl₀
  clear hl₀
  have loop_7 : ∀ (n_5 : Nat) (vy_3 : Int32) (vy_4 : Int32) (H : Heap) (locs : List Loc) (ls : Array Slot), (6 - (vy_3 : Int32).toInt).toNat < n_5 → (0 ≤ (vy_3 : Int32).toInt) → va_P D classes [((Ma 0), .inr (12, [.ref (Ma 1), .int (Mv 0), .int (Mv 1), .ref (Ma 2), .ref (Ma 3), .ref (Ma 4), .ref (Ma 5), .ref (Ma 6), .int (Mv 2), .int (Mv 3), .int (Mv 4), .int (Mv 5), .int (Mv 6), .int (Mv 7), .int (Mv 8), .ref (Ma 7), .int (Mv 9), .ref (Ma 8), .int (Mv 10), .ref (Ma 9), .ref (Ma 10), .int (Mv 11), .int (Mv 12), .int (Mv 13), .ref (Ma 11), .int (Mv 14), .ref (Ma 12), .ref (Ma 13), .ref (Ma 14), .ref (Ma 15), .ref (Ma 16), .long (Mj 0), .ref (Ma 17), .ref (Ma 18), .ref (Ma 19), .ref (Ma 20)])), ((Ma 10), .inl (tc 0, 126, .inl (Mf 10)))] H → va_D A [((Ma 0), .inr (12, [.ref (Ma 1), .int (Mv 0), .int (Mv 1), .ref (Ma 2), .ref (Ma 3), .ref (Ma 4), .ref (Ma 5), .ref (Ma 6), .int (Mv 2), .int (Mv 3), .int (Mv 4), .int (Mv 5), .int (Mv 6), .int (Mv 7), .int (Mv 8), .ref (Ma 7), .int (Mv 9), .ref (Ma 8), .int (Mv 10), .ref (Ma 9), .ref (Ma 10), .int (Mv 11), .int (Mv 12), .int (Mv 13), .ref (Ma 11), .int (Mv 14), .ref (Ma 12), .ref (Ma 13), .ref (Ma 14), .ref (Ma 15), .ref (Ma 16), .long (Mj 0), .ref (Ma 17), .ref (Ma 18), .ref (Ma 19), .ref (Ma 20)])), ((Ma 10), .inl (tc 0, 126, .inl (Mf 10)))] → va_S A s.heap H locs → lv_has ls 3 [(2, .int vy_3), (1, .int vy_4), (0, .ref (Ma 0))] → W p l e ({ frames := 1, cells := 0, slots := 0, locals := 21 }) s m ([.ref (Ma 0)].toArray) below meth c H locs 0 0 (MQ below (QW (fun (v : Option Value) (_ : Unit) => ∃ r : Int32, v = some (.int r) ∧ (True)) (BW D (fun (_ : Unit) => [((Ma 0), .inr (12, [.ref (Ma 1), .int (Mv 0), .int (Mv 1), .ref (Ma 2), .ref (Ma 3), .ref (Ma 4), .ref (Ma 5), .ref (Ma 6), .int (Mv 2), .int (Mv 3), .int (Mv 4), .int (Mv 5), .int (Mv 6), .int (Mv 7), .int (Mv 8), .ref (Ma 7), .int (Mv 9), .ref (Ma 8), .int (Mv 10), .ref (Ma 9), .ref (Ma 10), .int (Mv 11), .int (Mv 12), .int (Mv 13), .ref (Ma 11), .int (Mv 14), .ref (Ma 12), .ref (Ma 13), .ref (Ma 14), .ref (Ma 15), .ref (Ma 16), .long (Mj 0), .ref (Ma 17), .ref (Ma 18), .ref (Ma 19), .ref (Ma 20)])), ((Ma 10), .inl (tc 0, 126, .inl (Mf 10)))]) A) A) ([.ref (Ma 0)].toArray) s 0 0 A) (F0 m 4 ls []) := by
    clear hP hD hS hl
    intro n_5
    induction n_5 with
    | zero =>
      intro vy_3 vy_4 H locs ls h1
      exact absurd h1 (Nat.not_lt_zero _)
    | succ n_5 ih_6 =>
      intro vy_3 vy_4 H locs ls hn_9 pf_8 hP hD hS hl
      refine lv_iload_n hx hb dX12_metAll_4 rfl (lv_at hl 0 rfl) ?_
      refine lv_aload_n hx hb dX12_metAll_5 rfl (lv_at hl 2 rfl) ?_
      refine gf_X12_39 hx hb hts hown hK hP 0 rfl rfl dX12_metAll_6 ?_
      refine lv_iconst (v := 3) hx hb dX12_metAll_9 (by decide) ?_
      refine va_iald hx hb hK hP 1 0 rfl rfl (vin_dec (by decide +kernel)) dX12_metAll_10 ?_
      refine lv_topi (fun x_10 ex_10 => ?_)
      have lx_10 : x_10.toInt = ((Mf 10) 3).toInt := congrArg Int32.toInt ex_10
      refine lv_icmp_ge (tgt := 28) hx hb dX12_metAll_11 (by decide) (fun c_11 => ?_) (fun c_11 => ?_)
      · skip
        refine lv_iload_n hx hb dX12_metAll_28 rfl (lv_at hl 1 rfl) ?_
        exact retI (v := vy_4) hx hb hr hlk (rfl) hP hD hS () ⟨_, rfl, trivial⟩ [0, 1] rfl rfl dX12_metAll_29 (Nat.le_of_ble_eq_true rfl) (Nat.le_of_ble_eq_true rfl) rfl
      · skip
        refine lv_iload_n hx hb dX12_metAll_14 rfl (lv_at hl 1 rfl) ?_
        refine lv_aload_n hx hb dX12_metAll_15 rfl (lv_at hl 2 rfl) ?_
        refine lv_iload_n hx hb dX12_metAll_16 rfl (lv_at hl 0 rfl) ?_
        have ha_12 : 0 ≤ vy_3.toInt ∧ vy_3.toInt < 6 := by
          have z_1 := Int32.lt_iff_toInt_lt.mp (Int32.not_le.mp c_11)
          omega
        refine cV (a := (Ma 0)) (As := [.int vy_3]) (rest := [.int vy_4]) (wr := []) ⟨hx, hb, hml, hown, hts⟩ hK hX hA (cu_X12_metOf l D tc sk (Ma 0) (Ma 1) (Ma 2) (Ma 3) (Ma 4) (Ma 5) (Ma 6) (Ma 7) (Ma 8) (Ma 9) (Ma 10) (Ma 11) (Ma 12) (Ma 13) (Ma 14) (Ma 15) (Ma 16) (Ma 17) (Ma 18) (Ma 19) (Ma 20) (Mv 0) (Mv 1) (Mv 2) (Mv 3) (Mv 4) (Mv 5) (Mv 6) (Mv 7) (Mv 8) (Mv 9) (Mv 10) (Mv 11) (Mv 12) (Mv 13) (Mv 14) (Mf 10) (Mj 0) vy_3 ha_12) k_1387 k_1384 k_1386 k_61 k_106 pl_X12_metOf ⟨Nat.le_of_ble_eq_true rfl, Nat.le_of_ble_eq_true rfl⟩ rfl rfl (va_recv hK hP (ci := 12) (q0 := 0) rfl rfl) hP hD hS [0, 1] [] rfl rfl rfl rfl rfl (by decide) rfl hl.1 rfl (Nat.le_of_ble_eq_true rfl) dX12_metAll_17 ⟨Nat.le_of_ble_eq_true rfl, Nat.le_of_ble_eq_true rfl⟩ (fun v_13 u_14 H locs hv_15 hP₀ hD₀ hS₀ => ?_)
        obtain ⟨r_16, rfl, he_17⟩ := hv_15
        refine W.eq (g2 := F0 m 20 ls [.int r_16, .int vy_4]) rfl ?_
        replace hP : va_P D classes [((Ma 0), .inr (12, [.ref (Ma 1), .int (Mv 0), .int (Mv 1), .ref (Ma 2), .ref (Ma 3), .ref (Ma 4), .ref (Ma 5), .ref (Ma 6), .int (Mv 2), .int (Mv 3), .int (Mv 4), .int (Mv 5), .int (Mv 6), .int (Mv 7), .int (Mv 8), .ref (Ma 7), .int (Mv 9), .ref (Ma 8), .int (Mv 10), .ref (Ma 9), .ref (Ma 10), .int (Mv 11), .int (Mv 12), .int (Mv 13), .ref (Ma 11), .int (Mv 14), .ref (Ma 12), .ref (Ma 13), .ref (Ma 14), .ref (Ma 15), .ref (Ma 16), .long (Mj 0), .ref (Ma 17), .ref (Ma 18), .ref (Ma 19), .ref (Ma 20)])), ((Ma 10), .inl (tc 0, 126, .inl (Mf 10)))] H := hP₀
        replace hD : va_D A [((Ma 0), .inr (12, [.ref (Ma 1), .int (Mv 0), .int (Mv 1), .ref (Ma 2), .ref (Ma 3), .ref (Ma 4), .ref (Ma 5), .ref (Ma 6), .int (Mv 2), .int (Mv 3), .int (Mv 4), .int (Mv 5), .int (Mv 6), .int (Mv 7), .int (Mv 8), .ref (Ma 7), .int (Mv 9), .ref (Ma 8), .int (Mv 10), .ref (Ma 9), .ref (Ma 10), .int (Mv 11), .int (Mv 12), .int (Mv 13), .ref (Ma 11), .int (Mv 14), .ref (Ma 12), .ref (Ma 13), .ref (Ma 14), .ref (Ma 15), .ref (Ma 16), .long (Mj 0), .ref (Ma 17), .ref (Ma 18), .ref (Ma 19), .ref (Ma 20)])), ((Ma 10), .inl (tc 0, 126, .inl (Mf 10)))] := hD₀
        replace hS := hS₀
        clear hP₀ hD₀ hS₀
        refine lv_iadd hx hb dX12_metAll_20 ?_
        refine lv_topi (fun x_19 ex_19 => ?_)
        refine lv_istore_n (lv' := [(1, .int x_19), (2, .int vy_3), (0, .ref (Ma 0))]) hx hb dX12_metAll_21 rfl hl (by decide) rfl (fun ls hl₀ => ?_)
        replace hl := hl₀
        clear hl₀
        obtain ⟨x_20, ex_20⟩ : ∃ y : Int32, y = vy_3 + 1 := ⟨_, rfl⟩
        refine lv_iinc (v := x_20) (lv' := [(2, .int x_20), (1, .int x_19), (0, .ref (Ma 0))]) hx hb dX12_metAll_22 hl (k := 1) rfl (by rw [ex_20]; rfl) (by decide) rfl (fun ls hl₀ => ?_)
        replace hl := hl₀
        clear hl₀
        refine lv_goto (tgt := 4) hx hb dX12_metAll_25 (by decide) ?_
        have hb_21 : 6 - (x_20 : Int32).toInt < 6 - (vy_3 : Int32).toInt ∧ 1 ≤ 6 - (vy_3 : Int32).toInt := by
          have z_1 := Int32.lt_iff_toInt_lt.mp (Int32.not_le.mp c_11)
          have y_1 : (1 : Int32).toInt = 1 := by decide
          have t_x_20 : x_20.toInt = (vy_3 : Int32).toInt + (1 : Int32).toInt := by rw [ex_20]; exact add_toInt (by omega) (by omega)
          omega
        have ha_22 : 0 ≤ (x_20 : Int32).toInt := by
          have z_1 := Int32.lt_iff_toInt_lt.mp (Int32.not_le.mp c_11)
          have y_1 : (1 : Int32).toInt = 1 := by decide
          have t_x_20 : x_20.toInt = (vy_3 : Int32).toInt + (1 : Int32).toInt := by rw [ex_20]; exact add_toInt (by omega) (by omega)
          omega
        exact ih_6 x_20 x_19 _ _ _ (by omega) ha_22 (hP.sub [0, 1] rfl) (hD.sub [0, 1] rfl rfl) hS (lv_sub hl [0, 1, 2] rfl)
  have ha_23 : 0 ≤ (0 : Int32).toInt := by
    have y_0 : (0 : Int32).toInt = 0 := by decide
    omega
  exact loop_7 _ 0 0 _ _ _ (Nat.lt_succ_self _) ha_23 hP hD hS hl
set_option maxRecDepth 100000 in
theorem cu_X12_metAll {T : Nat → Option Int32} (l : Launch) (D : va_G) (tc : Nat → ClassId) (sk : (Nat → Nat) × (Nat → Nat)) (Ma_0 : Nat) (Ma_1 : Nat) (Ma_2 : Nat) (Ma_3 : Nat) (Ma_4 : Nat) (Ma_5 : Nat) (Ma_6 : Nat) (Ma_7 : Nat) (Ma_8 : Nat) (Ma_9 : Nat) (Ma_10 : Nat) (Ma_11 : Nat) (Ma_12 : Nat) (Ma_13 : Nat) (Ma_14 : Nat) (Ma_15 : Nat) (Ma_16 : Nat) (Ma_17 : Nat) (Ma_18 : Nat) (Ma_19 : Nat) (Ma_20 : Nat) (Mv_0 : Int32) (Mv_1 : Int32) (Mv_2 : Int32) (Mv_3 : Int32) (Mv_4 : Int32) (Mv_5 : Int32) (Mv_6 : Int32) (Mv_7 : Int32) (Mv_8 : Int32) (Mv_9 : Int32) (Mv_10 : Int32) (Mv_11 : Int32) (Mv_12 : Int32) (Mv_13 : Int32) (Mv_14 : Int32) (Mf_10 : Nat → Int32) (Mj_0 : Int64) (h_said : SaidB T Mf_10) : Ct l yX12_metAll cX12_metAll 3 (some .int) { frames := 1, cells := 0, slots := 0, locals := 21 } D tc sk [.ref Ma_0] [(Ma_0, .inr (12, [.ref Ma_1, .int Mv_0, .int Mv_1, .ref Ma_2, .ref Ma_3, .ref Ma_4, .ref Ma_5, .ref Ma_6, .int Mv_2, .int Mv_3, .int Mv_4, .int Mv_5, .int Mv_6, .int Mv_7, .int Mv_8, .ref Ma_7, .int Mv_9, .ref Ma_8, .int Mv_10, .ref Ma_9, .ref Ma_10, .int Mv_11, .int Mv_12, .int Mv_13, .ref Ma_11, .int Mv_14, .ref Ma_12, .ref Ma_13, .ref Ma_14, .ref Ma_15, .ref Ma_16, .long Mj_0, .ref Ma_17, .ref Ma_18, .ref Ma_19, .ref Ma_20])), (Ma_10, .inl (tc 0, 126, .inl Mf_10))] (fun (v : Option Value) (_ : Unit) => ∃ r : Int32, v = some (.int r) ∧ (True)) (fun (_ : Unit) => [(Ma_0, .inr (12, [.ref Ma_1, .int Mv_0, .int Mv_1, .ref Ma_2, .ref Ma_3, .ref Ma_4, .ref Ma_5, .ref Ma_6, .int Mv_2, .int Mv_3, .int Mv_4, .int Mv_5, .int Mv_6, .int Mv_7, .int Mv_8, .ref Ma_7, .int Mv_9, .ref Ma_8, .int Mv_10, .ref Ma_9, .ref Ma_10, .int Mv_11, .int Mv_12, .int Mv_13, .ref Ma_11, .int Mv_14, .ref Ma_12, .ref Ma_13, .ref Ma_14, .ref Ma_15, .ref Ma_16, .long Mj_0, .ref Ma_17, .ref Ma_18, .ref Ma_19, .ref Ma_20])), (Ma_10, .inl (tc 0, 126, .inl Mf_10))]) 0 0 :=
  ct_X12_metAll l D tc sk (fun k => ([Ma_0, Ma_1, Ma_2, Ma_3, Ma_4, Ma_5, Ma_6, Ma_7, Ma_8, Ma_9, Ma_10, Ma_11, Ma_12, Ma_13, Ma_14, Ma_15, Ma_16, Ma_17, Ma_18, Ma_19, Ma_20] : List (Nat)).getD k 0) (fun k => ([Mv_0, Mv_1, Mv_2, Mv_3, Mv_4, Mv_5, Mv_6, Mv_7, Mv_8, Mv_9, Mv_10, Mv_11, Mv_12, Mv_13, Mv_14] : List (Int32)).getD k 0) (fun k => ([(fun _ => 0), (fun _ => 0), (fun _ => 0), (fun _ => 0), (fun _ => 0), (fun _ => 0), (fun _ => 0), (fun _ => 0), (fun _ => 0), (fun _ => 0), Mf_10] : List (Nat → Int32)).getD k (fun _ => 0)) (fun k => ([Mj_0] : List (Int64)).getD k 0) h_said
set_option maxHeartbeats 4000000 in
set_option maxRecDepth 100000 in
theorem ct_X12_canBuy (l : Launch) (D : va_G) (tc : Nat → ClassId) (sk : (Nat → Nat) × (Nat → Nat)) (Ma : Nat → Nat) (Mv : Nat → Int32) (Mf : Nat → Nat → Int32) (Mj : Nat → Int64) (x1 : Int32) (h_b : 0 ≤ x1.toInt ∧ x1.toInt < 6) : Ct l yX12_canBuy cX12_canBuy 2 (some .boolean) { frames := 1, cells := 0, slots := 0, locals := 21 } D tc sk [.ref (Ma 0), .int x1] [((Ma 0), .inr (12, [.ref (Ma 1), .int (Mv 0), .int (Mv 1), .ref (Ma 2), .ref (Ma 3), .ref (Ma 4), .ref (Ma 5), .ref (Ma 6), .int (Mv 2), .int (Mv 3), .int (Mv 4), .int (Mv 5), .int (Mv 6), .int (Mv 7), .int (Mv 8), .ref (Ma 7), .int (Mv 9), .ref (Ma 8), .int (Mv 10), .ref (Ma 9), .ref (Ma 10), .int (Mv 11), .int (Mv 12), .int (Mv 13), .ref (Ma 11), .int (Mv 14), .ref (Ma 12), .ref (Ma 13), .ref (Ma 14), .ref (Ma 15), .ref (Ma 16), .long (Mj 0), .ref (Ma 17), .ref (Ma 18), .ref (Ma 19), .ref (Ma 20)])), ((Ma 10), .inl (tc 0, 126, .inl (Mf 10)))] (fun (v : Option Value) (_ : Unit) => ∃ r : Int32, v = some (.int r) ∧ ((r.toInt = 0 ∨ r.toInt = 1))) (fun (_ : Unit) => [((Ma 0), .inr (12, [.ref (Ma 1), .int (Mv 0), .int (Mv 1), .ref (Ma 2), .ref (Ma 3), .ref (Ma 4), .ref (Ma 5), .ref (Ma 6), .int (Mv 2), .int (Mv 3), .int (Mv 4), .int (Mv 5), .int (Mv 6), .int (Mv 7), .int (Mv 8), .ref (Ma 7), .int (Mv 9), .ref (Ma 8), .int (Mv 10), .ref (Ma 9), .ref (Ma 10), .int (Mv 11), .int (Mv 12), .int (Mv 13), .ref (Ma 11), .int (Mv 14), .ref (Ma 12), .ref (Ma 13), .ref (Ma 14), .ref (Ma 15), .ref (Ma 16), .long (Mj 0), .ref (Ma 17), .ref (Ma 18), .ref (Ma 19), .ref (Ma 20)])), ((Ma 10), .inl (tc 0, 126, .inl (Mf 10)))]) 0 0 := by
  refine Ct.start (by decide) (Nat.le_of_ble_eq_true rfl) (fun p e s m below meth c A ls hx hb hr hlk hin hml hown hts hK hX hP hD hA hl hS => ?_)
  have hl : lv_has ls 2 [(0, .ref (Ma 0)), (1, .int x1)] := hl
  refine lv_aload_n hx hb dX12_canBuy_0 rfl (lv_at hl 0 rfl) ?_
  refine gf_X12_39 hx hb hts hown hK hP 0 rfl rfl dX12_canBuy_1 ?_
  refine lv_bipush (v := 11) hx hb dX12_canBuy_4 (by decide) ?_
  refine va_iald hx hb hK hP 1 0 rfl rfl (vin_dec (by decide +kernel)) dX12_canBuy_6 ?_
  refine lv_topi (fun x_1 ex_1 => ?_)
  refine lv_aload_n hx hb dX12_canBuy_7 rfl (lv_at hl 0 rfl) ?_
  refine gf_X12_39 hx hb hts hown hK hP 0 rfl rfl dX12_canBuy_8 ?_
  refine lv_bipush (v := 56) hx hb dX12_canBuy_11 (by decide) ?_
  refine lv_iload_n hx hb dX12_canBuy_13 rfl (lv_at hl 1 rfl) ?_
  refine lv_iadd hx hb dX12_canBuy_14 ?_
  refine lv_topi (fun x_2 ex_2 => ?_)
  have hi_3 : vp_in x_2 126 := by
    have y_56 : (56 : Int32).toInt = 56 := by decide
    have t_x_2 : x_2.toInt = (56 : Int32).toInt + (x1 : Int32).toInt := by rw [ex_2]; exact add_toInt (by omega) (by omega)
    refine vp_in_iff.mpr ⟨?_, ?_⟩ <;> omega
  refine va_iald hx hb hK hP 1 0 rfl rfl hi_3 dX12_canBuy_15 ?_
  refine lv_topi (fun x_4 ex_4 => ?_)
  refine lv_icmp_lt (tgt := 56) hx hb dX12_canBuy_16 (by decide) (fun c_5 => ?_) (fun c_5 => ?_)
  · skip
    refine lv_iconst (v := 0) hx hb dX12_canBuy_56 (by decide) ?_
    have hp_6 : ((0 : Int32).toInt = 0 ∨ (0 : Int32).toInt = 1) := by
      have z_1 := Int32.lt_iff_toInt_lt.mp c_5
      have y_0 : (0 : Int32).toInt = 0 := by decide
      have yr : (0 : Int32).toInt = 0 := by decide
      omega
    exact retI (v := 0) hx hb hr hlk (rfl) hP hD hS () ⟨_, rfl, hp_6⟩ [0, 1] rfl rfl dX12_canBuy_57 (Nat.le_of_ble_eq_true rfl) (Nat.le_of_ble_eq_true rfl) rfl
  · skip
    refine lv_aload_n hx hb dX12_canBuy_19 rfl (lv_at hl 0 rfl) ?_
    refine lv_iload_n hx hb dX12_canBuy_20 rfl (lv_at hl 1 rfl) ?_
    refine cV (a := (Ma 0)) (As := [.int x1]) (rest := []) (wr := []) ⟨hx, hb, hml, hown, hts⟩ hK hX hA (cu_X12_lastOf l D tc sk (Ma 0) (Ma 1) (Ma 2) (Ma 3) (Ma 4) (Ma 5) (Ma 6) (Ma 7) (Ma 8) (Ma 9) (Ma 10) (Ma 11) (Ma 12) (Ma 13) (Ma 14) (Ma 15) (Ma 16) (Ma 17) (Ma 18) (Ma 19) (Ma 20) (Mv 0) (Mv 1) (Mv 2) (Mv 3) (Mv 4) (Mv 5) (Mv 6) (Mv 7) (Mv 8) (Mv 9) (Mv 10) (Mv 11) (Mv 12) (Mv 13) (Mv 14) (Mf 10) (Mj 0) x1 h_b) k_1395 k_1392 k_1394 k_63 k_106 pl_X12_lastOf ⟨Nat.le_of_ble_eq_true rfl, Nat.le_of_ble_eq_true rfl⟩ rfl rfl (va_recv hK hP (ci := 12) (q0 := 0) rfl rfl) hP hD hS [0, 1] [] rfl rfl rfl rfl rfl (by decide) rfl hl.1 rfl (Nat.le_of_ble_eq_true rfl) dX12_canBuy_21 ⟨Nat.le_of_ble_eq_true rfl, Nat.le_of_ble_eq_true rfl⟩ (fun v_7 u_8 H locs hv_9 hP₀ hD₀ hS₀ => ?_)
    obtain ⟨r_10, rfl, he_11⟩ := hv_9
    refine W.eq (g2 := F0 m 24 ls [.int r_10]) rfl ?_
    replace hP : va_P D classes [((Ma 0), .inr (12, [.ref (Ma 1), .int (Mv 0), .int (Mv 1), .ref (Ma 2), .ref (Ma 3), .ref (Ma 4), .ref (Ma 5), .ref (Ma 6), .int (Mv 2), .int (Mv 3), .int (Mv 4), .int (Mv 5), .int (Mv 6), .int (Mv 7), .int (Mv 8), .ref (Ma 7), .int (Mv 9), .ref (Ma 8), .int (Mv 10), .ref (Ma 9), .ref (Ma 10), .int (Mv 11), .int (Mv 12), .int (Mv 13), .ref (Ma 11), .int (Mv 14), .ref (Ma 12), .ref (Ma 13), .ref (Ma 14), .ref (Ma 15), .ref (Ma 16), .long (Mj 0), .ref (Ma 17), .ref (Ma 18), .ref (Ma 19), .ref (Ma 20)])), ((Ma 10), .inl (tc 0, 126, .inl (Mf 10)))] H := hP₀
    replace hD : va_D A [((Ma 0), .inr (12, [.ref (Ma 1), .int (Mv 0), .int (Mv 1), .ref (Ma 2), .ref (Ma 3), .ref (Ma 4), .ref (Ma 5), .ref (Ma 6), .int (Mv 2), .int (Mv 3), .int (Mv 4), .int (Mv 5), .int (Mv 6), .int (Mv 7), .int (Mv 8), .ref (Ma 7), .int (Mv 9), .ref (Ma 8), .int (Mv 10), .ref (Ma 9), .ref (Ma 10), .int (Mv 11), .int (Mv 12), .int (Mv 13), .ref (Ma 11), .int (Mv 14), .ref (Ma 12), .ref (Ma 13), .ref (Ma 14), .ref (Ma 15), .ref (Ma 16), .long (Mj 0), .ref (Ma 17), .ref (Ma 18), .ref (Ma 19), .ref (Ma 20)])), ((Ma 10), .inl (tc 0, 126, .inl (Mf 10)))] := hD₀
    replace hS := hS₀
    clear hP₀ hD₀ hS₀
    refine lv_if_lt (tgt := 52) hx hb dX12_canBuy_24 (by decide) (fun c_13 => ?_) (fun c_13 => ?_)
    · skip
      refine lv_iconst (v := 1) hx hb dX12_canBuy_52 (by decide) ?_
      refine lv_goto (tgt := 57) hx hb dX12_canBuy_53 (by decide) ?_
      have hp_14 : ((1 : Int32).toInt = 0 ∨ (1 : Int32).toInt = 1) := by
        have z_1 := Int32.le_iff_toInt_le.mp (Int32.not_lt.mp c_5)
        have z_2 := Int32.lt_iff_toInt_lt.mp c_13
        have y_0 : (0 : Int32).toInt = 0 := by decide
        have y_1 : (1 : Int32).toInt = 1 := by decide
        have yr : (1 : Int32).toInt = 1 := by decide
        omega
      exact retI (v := 1) hx hb hr hlk (rfl) hP hD hS () ⟨_, rfl, hp_14⟩ [0, 1] rfl rfl dX12_canBuy_57 (Nat.le_of_ble_eq_true rfl) (Nat.le_of_ble_eq_true rfl) rfl
    · skip
      refine lv_aload_n hx hb dX12_canBuy_27 rfl (lv_at hl 0 rfl) ?_
      refine gf_X12_39 hx hb hts hown hK hP 0 rfl rfl dX12_canBuy_28 ?_
      refine lv_bipush (v := 10) hx hb dX12_canBuy_31 (by decide) ?_
      refine va_iald hx hb hK hP 1 0 rfl rfl (vin_dec (by decide +kernel)) dX12_canBuy_33 ?_
      refine lv_topi (fun x_15 ex_15 => ?_)
      refine lv_aload_n hx hb dX12_canBuy_34 rfl (lv_at hl 0 rfl) ?_
      refine lv_iload_n hx hb dX12_canBuy_35 rfl (lv_at hl 1 rfl) ?_
      refine cV (a := (Ma 0)) (As := [.int x1]) (rest := [.int x_15]) (wr := []) ⟨hx, hb, hml, hown, hts⟩ hK hX hA (cu_X12_lastOf l D tc sk (Ma 0) (Ma 1) (Ma 2) (Ma 3) (Ma 4) (Ma 5) (Ma 6) (Ma 7) (Ma 8) (Ma 9) (Ma 10) (Ma 11) (Ma 12) (Ma 13) (Ma 14) (Ma 15) (Ma 16) (Ma 17) (Ma 18) (Ma 19) (Ma 20) (Mv 0) (Mv 1) (Mv 2) (Mv 3) (Mv 4) (Mv 5) (Mv 6) (Mv 7) (Mv 8) (Mv 9) (Mv 10) (Mv 11) (Mv 12) (Mv 13) (Mv 14) (Mf 10) (Mj 0) x1 h_b) k_1395 k_1392 k_1394 k_63 k_106 pl_X12_lastOf ⟨Nat.le_of_ble_eq_true rfl, Nat.le_of_ble_eq_true rfl⟩ rfl rfl (va_recv hK hP (ci := 12) (q0 := 0) rfl rfl) hP hD hS [0, 1] [] rfl rfl rfl rfl rfl (by decide) rfl hl.1 rfl (Nat.le_of_ble_eq_true rfl) dX12_canBuy_36 ⟨Nat.le_of_ble_eq_true rfl, Nat.le_of_ble_eq_true rfl⟩ (fun v_16 u_17 H locs hv_18 hP₀ hD₀ hS₀ => ?_)
      obtain ⟨r_19, rfl, he_20⟩ := hv_18
      refine W.eq (g2 := F0 m 39 ls [.int r_19, .int x_15]) rfl ?_
      replace hP : va_P D classes [((Ma 0), .inr (12, [.ref (Ma 1), .int (Mv 0), .int (Mv 1), .ref (Ma 2), .ref (Ma 3), .ref (Ma 4), .ref (Ma 5), .ref (Ma 6), .int (Mv 2), .int (Mv 3), .int (Mv 4), .int (Mv 5), .int (Mv 6), .int (Mv 7), .int (Mv 8), .ref (Ma 7), .int (Mv 9), .ref (Ma 8), .int (Mv 10), .ref (Ma 9), .ref (Ma 10), .int (Mv 11), .int (Mv 12), .int (Mv 13), .ref (Ma 11), .int (Mv 14), .ref (Ma 12), .ref (Ma 13), .ref (Ma 14), .ref (Ma 15), .ref (Ma 16), .long (Mj 0), .ref (Ma 17), .ref (Ma 18), .ref (Ma 19), .ref (Ma 20)])), ((Ma 10), .inl (tc 0, 126, .inl (Mf 10)))] H := hP₀
      replace hD : va_D A [((Ma 0), .inr (12, [.ref (Ma 1), .int (Mv 0), .int (Mv 1), .ref (Ma 2), .ref (Ma 3), .ref (Ma 4), .ref (Ma 5), .ref (Ma 6), .int (Mv 2), .int (Mv 3), .int (Mv 4), .int (Mv 5), .int (Mv 6), .int (Mv 7), .int (Mv 8), .ref (Ma 7), .int (Mv 9), .ref (Ma 8), .int (Mv 10), .ref (Ma 9), .ref (Ma 10), .int (Mv 11), .int (Mv 12), .int (Mv 13), .ref (Ma 11), .int (Mv 14), .ref (Ma 12), .ref (Ma 13), .ref (Ma 14), .ref (Ma 15), .ref (Ma 16), .long (Mj 0), .ref (Ma 17), .ref (Ma 18), .ref (Ma 19), .ref (Ma 20)])), ((Ma 10), .inl (tc 0, 126, .inl (Mf 10)))] := hD₀
      replace hS := hS₀
      clear hP₀ hD₀ hS₀
      refine lv_isub hx hb dX12_canBuy_39 ?_
      refine lv_topi (fun x_22 ex_22 => ?_)
      refine lv_aload_n hx hb dX12_canBuy_40 rfl (lv_at hl 0 rfl) ?_
      refine gf_X12_39 hx hb hts hown hK hP 0 rfl rfl dX12_canBuy_41 ?_
      refine lv_bipush (v := 62) hx hb dX12_canBuy_44 (by decide) ?_
      refine lv_iload_n hx hb dX12_canBuy_46 rfl (lv_at hl 1 rfl) ?_
      refine lv_iadd hx hb dX12_canBuy_47 ?_
      refine lv_topi (fun x_23 ex_23 => ?_)
      have hi_24 : vp_in x_23 126 := by
        have z_1 := Int32.le_iff_toInt_le.mp (Int32.not_lt.mp c_5)
        have z_2 := Int32.le_iff_toInt_le.mp (Int32.not_lt.mp c_13)
        have y_0 : (0 : Int32).toInt = 0 := by decide
        have y_62 : (62 : Int32).toInt = 62 := by decide
        have t_x_23 : x_23.toInt = (62 : Int32).toInt + (x1 : Int32).toInt := by rw [ex_23]; exact add_toInt (by omega) (by omega)
        refine vp_in_iff.mpr ⟨?_, ?_⟩ <;> omega
      refine va_iald hx hb hK hP 1 0 rfl rfl hi_24 dX12_canBuy_48 ?_
      refine lv_topi (fun x_25 ex_25 => ?_)
      refine lv_icmp_le (tgt := 56) hx hb dX12_canBuy_49 (by decide) (fun c_26 => ?_) (fun c_26 => ?_)
      · skip
        refine lv_iconst (v := 0) hx hb dX12_canBuy_56 (by decide) ?_
        have hp_27 : ((0 : Int32).toInt = 0 ∨ (0 : Int32).toInt = 1) := by
          have z_1 := Int32.le_iff_toInt_le.mp (Int32.not_lt.mp c_5)
          have z_2 := Int32.le_iff_toInt_le.mp (Int32.not_lt.mp c_13)
          have z_3 := Int32.le_iff_toInt_le.mp c_26
          have y_0 : (0 : Int32).toInt = 0 := by decide
          omega
        exact retI (v := 0) hx hb hr hlk (rfl) hP hD hS () ⟨_, rfl, hp_27⟩ [0, 1] rfl rfl dX12_canBuy_57 (Nat.le_of_ble_eq_true rfl) (Nat.le_of_ble_eq_true rfl) rfl
      · skip
        refine lv_iconst (v := 1) hx hb dX12_canBuy_52 (by decide) ?_
        refine lv_goto (tgt := 57) hx hb dX12_canBuy_53 (by decide) ?_
        have hp_28 : ((1 : Int32).toInt = 0 ∨ (1 : Int32).toInt = 1) := by
          have z_1 := Int32.le_iff_toInt_le.mp (Int32.not_lt.mp c_5)
          have z_2 := Int32.le_iff_toInt_le.mp (Int32.not_lt.mp c_13)
          have z_3 := Int32.lt_iff_toInt_lt.mp (Int32.not_le.mp c_26)
          have y_0 : (0 : Int32).toInt = 0 := by decide
          have y_1 : (1 : Int32).toInt = 1 := by decide
          have yr : (1 : Int32).toInt = 1 := by decide
          omega
        exact retI (v := 1) hx hb hr hlk (rfl) hP hD hS () ⟨_, rfl, hp_28⟩ [0, 1] rfl rfl dX12_canBuy_57 (Nat.le_of_ble_eq_true rfl) (Nat.le_of_ble_eq_true rfl) rfl
set_option maxRecDepth 100000 in
theorem cu_X12_canBuy (l : Launch) (D : va_G) (tc : Nat → ClassId) (sk : (Nat → Nat) × (Nat → Nat)) (Ma_0 : Nat) (Ma_1 : Nat) (Ma_2 : Nat) (Ma_3 : Nat) (Ma_4 : Nat) (Ma_5 : Nat) (Ma_6 : Nat) (Ma_7 : Nat) (Ma_8 : Nat) (Ma_9 : Nat) (Ma_10 : Nat) (Ma_11 : Nat) (Ma_12 : Nat) (Ma_13 : Nat) (Ma_14 : Nat) (Ma_15 : Nat) (Ma_16 : Nat) (Ma_17 : Nat) (Ma_18 : Nat) (Ma_19 : Nat) (Ma_20 : Nat) (Mv_0 : Int32) (Mv_1 : Int32) (Mv_2 : Int32) (Mv_3 : Int32) (Mv_4 : Int32) (Mv_5 : Int32) (Mv_6 : Int32) (Mv_7 : Int32) (Mv_8 : Int32) (Mv_9 : Int32) (Mv_10 : Int32) (Mv_11 : Int32) (Mv_12 : Int32) (Mv_13 : Int32) (Mv_14 : Int32) (Mf_10 : Nat → Int32) (Mj_0 : Int64) (x1 : Int32) (h_b : 0 ≤ x1.toInt ∧ x1.toInt < 6) : Ct l yX12_canBuy cX12_canBuy 2 (some .boolean) { frames := 1, cells := 0, slots := 0, locals := 21 } D tc sk [.ref Ma_0, .int x1] [(Ma_0, .inr (12, [.ref Ma_1, .int Mv_0, .int Mv_1, .ref Ma_2, .ref Ma_3, .ref Ma_4, .ref Ma_5, .ref Ma_6, .int Mv_2, .int Mv_3, .int Mv_4, .int Mv_5, .int Mv_6, .int Mv_7, .int Mv_8, .ref Ma_7, .int Mv_9, .ref Ma_8, .int Mv_10, .ref Ma_9, .ref Ma_10, .int Mv_11, .int Mv_12, .int Mv_13, .ref Ma_11, .int Mv_14, .ref Ma_12, .ref Ma_13, .ref Ma_14, .ref Ma_15, .ref Ma_16, .long Mj_0, .ref Ma_17, .ref Ma_18, .ref Ma_19, .ref Ma_20])), (Ma_10, .inl (tc 0, 126, .inl Mf_10))] (fun (v : Option Value) (_ : Unit) => ∃ r : Int32, v = some (.int r) ∧ ((r.toInt = 0 ∨ r.toInt = 1))) (fun (_ : Unit) => [(Ma_0, .inr (12, [.ref Ma_1, .int Mv_0, .int Mv_1, .ref Ma_2, .ref Ma_3, .ref Ma_4, .ref Ma_5, .ref Ma_6, .int Mv_2, .int Mv_3, .int Mv_4, .int Mv_5, .int Mv_6, .int Mv_7, .int Mv_8, .ref Ma_7, .int Mv_9, .ref Ma_8, .int Mv_10, .ref Ma_9, .ref Ma_10, .int Mv_11, .int Mv_12, .int Mv_13, .ref Ma_11, .int Mv_14, .ref Ma_12, .ref Ma_13, .ref Ma_14, .ref Ma_15, .ref Ma_16, .long Mj_0, .ref Ma_17, .ref Ma_18, .ref Ma_19, .ref Ma_20])), (Ma_10, .inl (tc 0, 126, .inl Mf_10))]) 0 0 :=
  ct_X12_canBuy l D tc sk (fun k => ([Ma_0, Ma_1, Ma_2, Ma_3, Ma_4, Ma_5, Ma_6, Ma_7, Ma_8, Ma_9, Ma_10, Ma_11, Ma_12, Ma_13, Ma_14, Ma_15, Ma_16, Ma_17, Ma_18, Ma_19, Ma_20] : List (Nat)).getD k 0) (fun k => ([Mv_0, Mv_1, Mv_2, Mv_3, Mv_4, Mv_5, Mv_6, Mv_7, Mv_8, Mv_9, Mv_10, Mv_11, Mv_12, Mv_13, Mv_14] : List (Int32)).getD k 0) (fun k => ([(fun _ => 0), (fun _ => 0), (fun _ => 0), (fun _ => 0), (fun _ => 0), (fun _ => 0), (fun _ => 0), (fun _ => 0), (fun _ => 0), (fun _ => 0), Mf_10] : List (Nat → Int32)).getD k (fun _ => 0)) (fun k => ([Mj_0] : List (Int64)).getD k 0) x1 h_b
set_option maxHeartbeats 4000000 in
set_option maxRecDepth 100000 in
theorem ct_X12_begins {T : Nat → Option Int32} (l : Launch) (D : va_G) (tc : Nat → ClassId) (sk : (Nat → Nat) × (Nat → Nat)) (Ma : Nat → Nat) (Mv : Nat → Int32) (Mf : Nat → Nat → Int32) (Mj : Nat → Int64) (h_said : SaidB T (Mf 10)) : Ct l yX12_begins cX12_begins 3 none { frames := 0, cells := 0, slots := 0, locals := 0 } D tc sk [.ref (Ma 0)] [((Ma 0), .inr (12, [.ref (Ma 1), .int (Mv 0), .int (Mv 1), .ref (Ma 2), .ref (Ma 3), .ref (Ma 4), .ref (Ma 5), .ref (Ma 6), .int (Mv 2), .int (Mv 3), .int (Mv 4), .int (Mv 5), .int (Mv 6), .int (Mv 7), .int (Mv 8), .ref (Ma 7), .int (Mv 9), .ref (Ma 8), .int (Mv 10), .ref (Ma 9), .ref (Ma 10), .int (Mv 11), .int (Mv 12), .int (Mv 13), .ref (Ma 11), .int (Mv 14), .ref (Ma 12), .ref (Ma 13), .ref (Ma 14), .ref (Ma 15), .ref (Ma 16), .long (Mj 0), .ref (Ma 17), .ref (Ma 18), .ref (Ma 19), .ref (Ma 20)])), ((Ma 10), .inl (tc 0, 126, .inl (Mf 10)))] (fun (v : Option Value) (oo0x1 : Nat → Int32) => v = none ∧ (SaidD T oo0x1 0)) (fun (oo0x1 : Nat → Int32) => [((Ma 0), .inr (12, [.ref (Ma 1), .int (Mv 0), .int (Mv 1), .ref (Ma 2), .ref (Ma 3), .ref (Ma 4), .ref (Ma 5), .ref (Ma 6), .int (Mv 2), .int (Mv 3), .int (Mv 4), .int (Mv 5), .int (Mv 6), .int (Mv 7), .int (Mv 8), .ref (Ma 7), .int (Mv 9), .ref (Ma 8), .int (Mv 10), .ref (Ma 9), .ref (Ma 10), .int (Mv 11), .int (Mv 12), .int (Mv 13), .ref (Ma 11), .int (Mv 14), .ref (Ma 12), .ref (Ma 13), .ref (Ma 14), .ref (Ma 15), .ref (Ma 16), .long (Mj 0), .ref (Ma 17), .ref (Ma 18), .ref (Ma 19), .ref (Ma 20)])), ((Ma 10), .inl (tc 0, 126, .inl oo0x1))]) 0 0 := by
  refine Ct.start (by decide) (Nat.le_of_ble_eq_true rfl) (fun p e s m below meth c A ls hx hb hr hlk hin hml hown hts hK hX hP hD hA hl hS => ?_)
  have hl : lv_has ls 3 [(0, .ref (Ma 0))] := hl
  have ar_h_said := SaidB.ar h_said
  refine lv_aload_n hx hb dX12_begins_0 rfl (lv_at hl 0 rfl) ?_
  refine gf_X12_39 hx hb hts hown hK hP 0 rfl rfl dX12_begins_1 ?_
  refine lv_bipush (v := 10) hx hb dX12_begins_4 (by decide) ?_
  refine lv_iconst (v := 0) hx hb dX12_begins_6 (by decide) ?_
  refine st_int hx hb hK hP hD hS 1 0 rfl rfl (vin_dec (by decide +kernel)) dX12_begins_7 (fun g_1 H locs eg_1 hP₀ hD₀ hS₀ => ?_)
  replace hP : va_P D classes [((Ma 0), .inr (12, [.ref (Ma 1), .int (Mv 0), .int (Mv 1), .ref (Ma 2), .ref (Ma 3), .ref (Ma 4), .ref (Ma 5), .ref (Ma 6), .int (Mv 2), .int (Mv 3), .int (Mv 4), .int (Mv 5), .int (Mv 6), .int (Mv 7), .int (Mv 8), .ref (Ma 7), .int (Mv 9), .ref (Ma 8), .int (Mv 10), .ref (Ma 9), .ref (Ma 10), .int (Mv 11), .int (Mv 12), .int (Mv 13), .ref (Ma 11), .int (Mv 14), .ref (Ma 12), .ref (Ma 13), .ref (Ma 14), .ref (Ma 15), .ref (Ma 16), .long (Mj 0), .ref (Ma 17), .ref (Ma 18), .ref (Ma 19), .ref (Ma 20)])), ((Ma 10), .inl (tc 0, 126, .inl g_1))] H := hP₀
  replace hD : va_D A [((Ma 0), .inr (12, [.ref (Ma 1), .int (Mv 0), .int (Mv 1), .ref (Ma 2), .ref (Ma 3), .ref (Ma 4), .ref (Ma 5), .ref (Ma 6), .int (Mv 2), .int (Mv 3), .int (Mv 4), .int (Mv 5), .int (Mv 6), .int (Mv 7), .int (Mv 8), .ref (Ma 7), .int (Mv 9), .ref (Ma 8), .int (Mv 10), .ref (Ma 9), .ref (Ma 10), .int (Mv 11), .int (Mv 12), .int (Mv 13), .ref (Ma 11), .int (Mv 14), .ref (Ma 12), .ref (Ma 13), .ref (Ma 14), .ref (Ma 15), .ref (Ma 16), .long (Mj 0), .ref (Ma 17), .ref (Ma 18), .ref (Ma 19), .ref (Ma 20)])), ((Ma 10), .inl (tc 0, 126, .inl g_1))] := hD₀
  replace hS := hS₀
  clear hP₀ hD₀ hS₀
  have pf_2 : SaidD T g_1 0 := SaidD.day h_said eg_1 (by decide) (by decide)
  have ar_pf_2 := SaidD.ar pf_2
  refine lv_aload_n hx hb dX12_begins_8 rfl (lv_at hl 0 rfl) ?_
  refine gf_X12_39 hx hb hts hown hK hP 0 rfl rfl dX12_begins_9 ?_
  refine lv_bipush (v := 11) hx hb dX12_begins_12 (by decide) ?_
  refine lv_aload_n hx hb dX12_begins_14 rfl (lv_at hl 0 rfl) ?_
  refine gf_X12_39 hx hb hts hown hK hP 0 rfl rfl dX12_begins_15 ?_
  refine lv_bipush (v := 94) hx hb dX12_begins_18 (by decide) ?_
  refine va_iald hx hb hK hP 1 0 rfl rfl (vin_dec (by decide +kernel)) dX12_begins_20 ?_
  refine lv_topi (fun x_3 ex_3 => ?_)
  have lx_3 : x_3.toInt = (g_1 94).toInt := congrArg Int32.toInt ex_3
  refine st_int hx hb hK hP hD hS 1 0 rfl rfl (vin_dec (by decide +kernel)) dX12_begins_21 (fun g_4 H locs eg_4 hP₀ hD₀ hS₀ => ?_)
  replace hP : va_P D classes [((Ma 0), .inr (12, [.ref (Ma 1), .int (Mv 0), .int (Mv 1), .ref (Ma 2), .ref (Ma 3), .ref (Ma 4), .ref (Ma 5), .ref (Ma 6), .int (Mv 2), .int (Mv 3), .int (Mv 4), .int (Mv 5), .int (Mv 6), .int (Mv 7), .int (Mv 8), .ref (Ma 7), .int (Mv 9), .ref (Ma 8), .int (Mv 10), .ref (Ma 9), .ref (Ma 10), .int (Mv 11), .int (Mv 12), .int (Mv 13), .ref (Ma 11), .int (Mv 14), .ref (Ma 12), .ref (Ma 13), .ref (Ma 14), .ref (Ma 15), .ref (Ma 16), .long (Mj 0), .ref (Ma 17), .ref (Ma 18), .ref (Ma 19), .ref (Ma 20)])), ((Ma 10), .inl (tc 0, 126, .inl g_4))] H := hP₀
  replace hD : va_D A [((Ma 0), .inr (12, [.ref (Ma 1), .int (Mv 0), .int (Mv 1), .ref (Ma 2), .ref (Ma 3), .ref (Ma 4), .ref (Ma 5), .ref (Ma 6), .int (Mv 2), .int (Mv 3), .int (Mv 4), .int (Mv 5), .int (Mv 6), .int (Mv 7), .int (Mv 8), .ref (Ma 7), .int (Mv 9), .ref (Ma 8), .int (Mv 10), .ref (Ma 9), .ref (Ma 10), .int (Mv 11), .int (Mv 12), .int (Mv 13), .ref (Ma 11), .int (Mv 14), .ref (Ma 12), .ref (Ma 13), .ref (Ma 14), .ref (Ma 15), .ref (Ma 16), .long (Mj 0), .ref (Ma 17), .ref (Ma 18), .ref (Ma 19), .ref (Ma 20)])), ((Ma 10), .inl (tc 0, 126, .inl g_4))] := hD₀
  replace hS := hS₀
  clear hP₀ hD₀ hS₀
  have pf_5 : SaidD T g_4 0 := SaidD.keep pf_2 eg_4 (by decide)
  have ar_pf_5 := SaidD.ar pf_5
  refine lv_iconst (v := 0) hx hb dX12_begins_22 (by decide) ?_
  refine lv_istore_n (lv' := [(1, .int 0), (0, .ref (Ma 0))]) hx hb dX12_begins_23 rfl hl (by decide) rfl (fun ls hl₀ => ?_)
  replace hl := hl₀
  clear hl₀
  have loop_12 : ∀ (n_10 : Nat) (vy_8 : Int32) (vy_9 : Nat → Int32) (H : Heap) (locs : List Loc) (ls : Array Slot), (6 - (vy_8 : Int32).toInt).toNat < n_10 → (0 ≤ (vy_8 : Int32).toInt) → (SaidD T vy_9 0) → va_P D classes [((Ma 0), .inr (12, [.ref (Ma 1), .int (Mv 0), .int (Mv 1), .ref (Ma 2), .ref (Ma 3), .ref (Ma 4), .ref (Ma 5), .ref (Ma 6), .int (Mv 2), .int (Mv 3), .int (Mv 4), .int (Mv 5), .int (Mv 6), .int (Mv 7), .int (Mv 8), .ref (Ma 7), .int (Mv 9), .ref (Ma 8), .int (Mv 10), .ref (Ma 9), .ref (Ma 10), .int (Mv 11), .int (Mv 12), .int (Mv 13), .ref (Ma 11), .int (Mv 14), .ref (Ma 12), .ref (Ma 13), .ref (Ma 14), .ref (Ma 15), .ref (Ma 16), .long (Mj 0), .ref (Ma 17), .ref (Ma 18), .ref (Ma 19), .ref (Ma 20)])), ((Ma 10), .inl (tc 0, 126, .inl vy_9))] H → va_D A [((Ma 0), .inr (12, [.ref (Ma 1), .int (Mv 0), .int (Mv 1), .ref (Ma 2), .ref (Ma 3), .ref (Ma 4), .ref (Ma 5), .ref (Ma 6), .int (Mv 2), .int (Mv 3), .int (Mv 4), .int (Mv 5), .int (Mv 6), .int (Mv 7), .int (Mv 8), .ref (Ma 7), .int (Mv 9), .ref (Ma 8), .int (Mv 10), .ref (Ma 9), .ref (Ma 10), .int (Mv 11), .int (Mv 12), .int (Mv 13), .ref (Ma 11), .int (Mv 14), .ref (Ma 12), .ref (Ma 13), .ref (Ma 14), .ref (Ma 15), .ref (Ma 16), .long (Mj 0), .ref (Ma 17), .ref (Ma 18), .ref (Ma 19), .ref (Ma 20)])), ((Ma 10), .inl (tc 0, 126, .inl vy_9))] → va_S A s.heap H locs → lv_has ls 3 [(1, .int vy_8), (0, .ref (Ma 0))] → W p l e ({ frames := 0, cells := 0, slots := 0, locals := 0 }) s m ([.ref (Ma 0)].toArray) below meth c H locs 0 0 (MQ below (QW (fun (v : Option Value) (oo0x1 : Nat → Int32) => v = none ∧ (SaidD T oo0x1 0)) (BW D (fun (oo0x1 : Nat → Int32) => [((Ma 0), .inr (12, [.ref (Ma 1), .int (Mv 0), .int (Mv 1), .ref (Ma 2), .ref (Ma 3), .ref (Ma 4), .ref (Ma 5), .ref (Ma 6), .int (Mv 2), .int (Mv 3), .int (Mv 4), .int (Mv 5), .int (Mv 6), .int (Mv 7), .int (Mv 8), .ref (Ma 7), .int (Mv 9), .ref (Ma 8), .int (Mv 10), .ref (Ma 9), .ref (Ma 10), .int (Mv 11), .int (Mv 12), .int (Mv 13), .ref (Ma 11), .int (Mv 14), .ref (Ma 12), .ref (Ma 13), .ref (Ma 14), .ref (Ma 15), .ref (Ma 16), .long (Mj 0), .ref (Ma 17), .ref (Ma 18), .ref (Ma 19), .ref (Ma 20)])), ((Ma 10), .inl (tc 0, 126, .inl oo0x1))]) A) A) ([.ref (Ma 0)].toArray) s 0 0 A) (F0 m 24 ls []) := by
    clear hP hD hS hl
    intro n_10
    induction n_10 with
    | zero =>
      intro vy_8 vy_9 H locs ls h1
      exact absurd h1 (Nat.not_lt_zero _)
    | succ n_10 ih_11 =>
      intro vy_8 vy_9 H locs ls hn_15 pf_13 pf_14 hP hD hS hl
      have ar_pf_14 := SaidD.ar pf_14
      refine lv_iload_n hx hb dX12_begins_24 rfl (lv_at hl 0 rfl) ?_
      refine lv_bipush (v := 6) hx hb dX12_begins_25 (by decide) ?_
      refine lv_icmp_ge (tgt := 85) hx hb dX12_begins_27 (by decide) (fun c_16 => ?_) (fun c_16 => ?_)
      · skip
        refine lv_iconst (v := 0) hx hb dX12_begins_85 (by decide) ?_
        refine lv_istore_n (lv' := [(1, .int 0), (0, .ref (Ma 0))]) hx hb dX12_begins_86 rfl hl (by decide) rfl (fun ls hl₀ => ?_)
        replace hl := hl₀
        clear hl₀
        have loop_23 : ∀ (n_21 : Nat) (vy_19 : Int32) (vy_20 : Nat → Int32) (H : Heap) (locs : List Loc) (ls : Array Slot), (10 - (vy_19 : Int32).toInt).toNat < n_21 → (0 ≤ (vy_19 : Int32).toInt) → (SaidD T vy_20 0) → va_P D classes [((Ma 0), .inr (12, [.ref (Ma 1), .int (Mv 0), .int (Mv 1), .ref (Ma 2), .ref (Ma 3), .ref (Ma 4), .ref (Ma 5), .ref (Ma 6), .int (Mv 2), .int (Mv 3), .int (Mv 4), .int (Mv 5), .int (Mv 6), .int (Mv 7), .int (Mv 8), .ref (Ma 7), .int (Mv 9), .ref (Ma 8), .int (Mv 10), .ref (Ma 9), .ref (Ma 10), .int (Mv 11), .int (Mv 12), .int (Mv 13), .ref (Ma 11), .int (Mv 14), .ref (Ma 12), .ref (Ma 13), .ref (Ma 14), .ref (Ma 15), .ref (Ma 16), .long (Mj 0), .ref (Ma 17), .ref (Ma 18), .ref (Ma 19), .ref (Ma 20)])), ((Ma 10), .inl (tc 0, 126, .inl vy_20))] H → va_D A [((Ma 0), .inr (12, [.ref (Ma 1), .int (Mv 0), .int (Mv 1), .ref (Ma 2), .ref (Ma 3), .ref (Ma 4), .ref (Ma 5), .ref (Ma 6), .int (Mv 2), .int (Mv 3), .int (Mv 4), .int (Mv 5), .int (Mv 6), .int (Mv 7), .int (Mv 8), .ref (Ma 7), .int (Mv 9), .ref (Ma 8), .int (Mv 10), .ref (Ma 9), .ref (Ma 10), .int (Mv 11), .int (Mv 12), .int (Mv 13), .ref (Ma 11), .int (Mv 14), .ref (Ma 12), .ref (Ma 13), .ref (Ma 14), .ref (Ma 15), .ref (Ma 16), .long (Mj 0), .ref (Ma 17), .ref (Ma 18), .ref (Ma 19), .ref (Ma 20)])), ((Ma 10), .inl (tc 0, 126, .inl vy_20))] → va_S A s.heap H locs → lv_has ls 3 [(1, .int vy_19), (0, .ref (Ma 0))] → W p l e ({ frames := 0, cells := 0, slots := 0, locals := 0 }) s m ([.ref (Ma 0)].toArray) below meth c H locs 0 0 (MQ below (QW (fun (v : Option Value) (oo0x1 : Nat → Int32) => v = none ∧ (SaidD T oo0x1 0)) (BW D (fun (oo0x1 : Nat → Int32) => [((Ma 0), .inr (12, [.ref (Ma 1), .int (Mv 0), .int (Mv 1), .ref (Ma 2), .ref (Ma 3), .ref (Ma 4), .ref (Ma 5), .ref (Ma 6), .int (Mv 2), .int (Mv 3), .int (Mv 4), .int (Mv 5), .int (Mv 6), .int (Mv 7), .int (Mv 8), .ref (Ma 7), .int (Mv 9), .ref (Ma 8), .int (Mv 10), .ref (Ma 9), .ref (Ma 10), .int (Mv 11), .int (Mv 12), .int (Mv 13), .ref (Ma 11), .int (Mv 14), .ref (Ma 12), .ref (Ma 13), .ref (Ma 14), .ref (Ma 15), .ref (Ma 16), .long (Mj 0), .ref (Ma 17), .ref (Ma 18), .ref (Ma 19), .ref (Ma 20)])), ((Ma 10), .inl (tc 0, 126, .inl oo0x1))]) A) A) ([.ref (Ma 0)].toArray) s 0 0 A) (F0 m 87 ls []) := by
          clear hP hD hS hl
          intro n_21
          induction n_21 with
          | zero =>
            intro vy_19 vy_20 H locs ls h1
            exact absurd h1 (Nat.not_lt_zero _)
          | succ n_21 ih_22 =>
            intro vy_19 vy_20 H locs ls hn_26 pf_24 pf_25 hP hD hS hl
            have ar_pf_25 := SaidD.ar pf_25
            refine lv_iload_n hx hb dX12_begins_87 rfl (lv_at hl 0 rfl) ?_
            refine lv_bipush (v := 10) hx hb dX12_begins_88 (by decide) ?_
            refine lv_icmp_ge (tgt := 135) hx hb dX12_begins_90 (by decide) (fun c_27 => ?_) (fun c_27 => ?_)
            · skip
              exact retV hx hb hr hlk hP hD hS vy_20 ⟨rfl, pf_25⟩ [0, 1] rfl rfl dX12_begins_135 (Nat.le_of_ble_eq_true rfl) (Nat.le_of_ble_eq_true rfl) rfl
            · skip
              refine lv_aload_n hx hb dX12_begins_93 rfl (lv_at hl 1 rfl) ?_
              refine gf_X12_39 hx hb hts hown hK hP 0 rfl rfl dX12_begins_94 ?_
              refine lv_bipush (v := 36) hx hb dX12_begins_97 (by decide) ?_
              refine lv_iload_n hx hb dX12_begins_99 rfl (lv_at hl 0 rfl) ?_
              refine lv_iadd hx hb dX12_begins_100 ?_
              refine lv_topi (fun x_28 ex_28 => ?_)
              refine lv_aload_n hx hb dX12_begins_101 rfl (lv_at hl 1 rfl) ?_
              refine gf_X12_39 hx hb hts hown hK hP 0 rfl rfl dX12_begins_102 ?_
              refine lv_bipush (v := 74) hx hb dX12_begins_105 (by decide) ?_
              refine lv_iload_n hx hb dX12_begins_107 rfl (lv_at hl 0 rfl) ?_
              refine lv_iadd hx hb dX12_begins_108 ?_
              refine lv_topi (fun x_29 ex_29 => ?_)
              have hi_30 : vp_in x_29 126 := by
                have z_1 := Int32.le_iff_toInt_le.mp c_16
                have z_2 := Int32.lt_iff_toInt_lt.mp (Int32.not_le.mp c_27)
                have y_6 : (6 : Int32).toInt = 6 := by decide
                have y_10 : (10 : Int32).toInt = 10 := by decide
                have y_74 : (74 : Int32).toInt = 74 := by decide
                have t_x_29 : x_29.toInt = (74 : Int32).toInt + (vy_19 : Int32).toInt := by rw [ex_29]; exact add_toInt (by omega) (by omega)
                refine vp_in_iff.mpr ⟨?_, ?_⟩ <;> omega
              refine va_iald hx hb hK hP 1 0 rfl rfl hi_30 dX12_begins_109 ?_
              refine lv_topi (fun x_31 ex_31 => ?_)
              have hi_32 : vp_in x_28 126 := by
                have z_1 := Int32.le_iff_toInt_le.mp c_16
                have z_2 := Int32.lt_iff_toInt_lt.mp (Int32.not_le.mp c_27)
                have y_6 : (6 : Int32).toInt = 6 := by decide
                have y_10 : (10 : Int32).toInt = 10 := by decide
                have y_36 : (36 : Int32).toInt = 36 := by decide
                have t_x_28 : x_28.toInt = (36 : Int32).toInt + (vy_19 : Int32).toInt := by rw [ex_28]; exact add_toInt (by omega) (by omega)
                refine vp_in_iff.mpr ⟨?_, ?_⟩ <;> omega
              refine st_int hx hb hK hP hD hS 1 0 rfl rfl hi_32 dX12_begins_110 (fun g_33 H locs eg_33 hP₀ hD₀ hS₀ => ?_)
              replace hP : va_P D classes [((Ma 0), .inr (12, [.ref (Ma 1), .int (Mv 0), .int (Mv 1), .ref (Ma 2), .ref (Ma 3), .ref (Ma 4), .ref (Ma 5), .ref (Ma 6), .int (Mv 2), .int (Mv 3), .int (Mv 4), .int (Mv 5), .int (Mv 6), .int (Mv 7), .int (Mv 8), .ref (Ma 7), .int (Mv 9), .ref (Ma 8), .int (Mv 10), .ref (Ma 9), .ref (Ma 10), .int (Mv 11), .int (Mv 12), .int (Mv 13), .ref (Ma 11), .int (Mv 14), .ref (Ma 12), .ref (Ma 13), .ref (Ma 14), .ref (Ma 15), .ref (Ma 16), .long (Mj 0), .ref (Ma 17), .ref (Ma 18), .ref (Ma 19), .ref (Ma 20)])), ((Ma 10), .inl (tc 0, 126, .inl g_33))] H := hP₀
              replace hD : va_D A [((Ma 0), .inr (12, [.ref (Ma 1), .int (Mv 0), .int (Mv 1), .ref (Ma 2), .ref (Ma 3), .ref (Ma 4), .ref (Ma 5), .ref (Ma 6), .int (Mv 2), .int (Mv 3), .int (Mv 4), .int (Mv 5), .int (Mv 6), .int (Mv 7), .int (Mv 8), .ref (Ma 7), .int (Mv 9), .ref (Ma 8), .int (Mv 10), .ref (Ma 9), .ref (Ma 10), .int (Mv 11), .int (Mv 12), .int (Mv 13), .ref (Ma 11), .int (Mv 14), .ref (Ma 12), .ref (Ma 13), .ref (Ma 14), .ref (Ma 15), .ref (Ma 16), .long (Mj 0), .ref (Ma 17), .ref (Ma 18), .ref (Ma 19), .ref (Ma 20)])), ((Ma 10), .inl (tc 0, 126, .inl g_33))] := hD₀
              replace hS := hS₀
              clear hP₀ hD₀ hS₀
              have hx_35 : 11 ≤ (x_28 : Int32).toNatClampNeg ∧ (x_28 : Int32).toNatClampNeg < 56 := by
                have z_1 := Int32.le_iff_toInt_le.mp c_16
                have z_2 := Int32.lt_iff_toInt_lt.mp (Int32.not_le.mp c_27)
                have y_6 : (6 : Int32).toInt = 6 := by decide
                have y_10 : (10 : Int32).toInt = 10 := by decide
                have y_36 : (36 : Int32).toInt = 36 := by decide
                have t_x_28 : x_28.toInt = (36 : Int32).toInt + (vy_19 : Int32).toInt := by rw [ex_28]; exact add_toInt (by omega) (by omega)
                have hcl : (x_28 : Int32).toNatClampNeg = (x_28 : Int32).toInt.toNat := rfl
                omega
              have pf_34 : SaidD T g_33 0 := SaidD.keep pf_25 eg_33 hx_35
              have ar_pf_34 := SaidD.ar pf_34
              refine lv_aload_n hx hb dX12_begins_111 rfl (lv_at hl 1 rfl) ?_
              refine gf_X12_39 hx hb hts hown hK hP 0 rfl rfl dX12_begins_112 ?_
              refine lv_bipush (v := 46) hx hb dX12_begins_115 (by decide) ?_
              refine lv_iload_n hx hb dX12_begins_117 rfl (lv_at hl 0 rfl) ?_
              refine lv_iadd hx hb dX12_begins_118 ?_
              refine lv_topi (fun x_36 ex_36 => ?_)
              refine lv_aload_n hx hb dX12_begins_119 rfl (lv_at hl 1 rfl) ?_
              refine gf_X12_39 hx hb hts hown hK hP 0 rfl rfl dX12_begins_120 ?_
              refine lv_bipush (v := 84) hx hb dX12_begins_123 (by decide) ?_
              refine lv_iload_n hx hb dX12_begins_125 rfl (lv_at hl 0 rfl) ?_
              refine lv_iadd hx hb dX12_begins_126 ?_
              refine lv_topi (fun x_37 ex_37 => ?_)
              have hi_38 : vp_in x_37 126 := by
                have z_1 := Int32.le_iff_toInt_le.mp c_16
                have z_2 := Int32.lt_iff_toInt_lt.mp (Int32.not_le.mp c_27)
                have y_6 : (6 : Int32).toInt = 6 := by decide
                have y_10 : (10 : Int32).toInt = 10 := by decide
                have y_84 : (84 : Int32).toInt = 84 := by decide
                have t_x_37 : x_37.toInt = (84 : Int32).toInt + (vy_19 : Int32).toInt := by rw [ex_37]; exact add_toInt (by omega) (by omega)
                refine vp_in_iff.mpr ⟨?_, ?_⟩ <;> omega
              refine va_iald hx hb hK hP 1 0 rfl rfl hi_38 dX12_begins_127 ?_
              refine lv_topi (fun x_39 ex_39 => ?_)
              have hi_40 : vp_in x_36 126 := by
                have z_1 := Int32.le_iff_toInt_le.mp c_16
                have z_2 := Int32.lt_iff_toInt_lt.mp (Int32.not_le.mp c_27)
                have y_6 : (6 : Int32).toInt = 6 := by decide
                have y_10 : (10 : Int32).toInt = 10 := by decide
                have y_46 : (46 : Int32).toInt = 46 := by decide
                have t_x_36 : x_36.toInt = (46 : Int32).toInt + (vy_19 : Int32).toInt := by rw [ex_36]; exact add_toInt (by omega) (by omega)
                refine vp_in_iff.mpr ⟨?_, ?_⟩ <;> omega
              refine st_int hx hb hK hP hD hS 1 0 rfl rfl hi_40 dX12_begins_128 (fun g_41 H locs eg_41 hP₀ hD₀ hS₀ => ?_)
              replace hP : va_P D classes [((Ma 0), .inr (12, [.ref (Ma 1), .int (Mv 0), .int (Mv 1), .ref (Ma 2), .ref (Ma 3), .ref (Ma 4), .ref (Ma 5), .ref (Ma 6), .int (Mv 2), .int (Mv 3), .int (Mv 4), .int (Mv 5), .int (Mv 6), .int (Mv 7), .int (Mv 8), .ref (Ma 7), .int (Mv 9), .ref (Ma 8), .int (Mv 10), .ref (Ma 9), .ref (Ma 10), .int (Mv 11), .int (Mv 12), .int (Mv 13), .ref (Ma 11), .int (Mv 14), .ref (Ma 12), .ref (Ma 13), .ref (Ma 14), .ref (Ma 15), .ref (Ma 16), .long (Mj 0), .ref (Ma 17), .ref (Ma 18), .ref (Ma 19), .ref (Ma 20)])), ((Ma 10), .inl (tc 0, 126, .inl g_41))] H := hP₀
              replace hD : va_D A [((Ma 0), .inr (12, [.ref (Ma 1), .int (Mv 0), .int (Mv 1), .ref (Ma 2), .ref (Ma 3), .ref (Ma 4), .ref (Ma 5), .ref (Ma 6), .int (Mv 2), .int (Mv 3), .int (Mv 4), .int (Mv 5), .int (Mv 6), .int (Mv 7), .int (Mv 8), .ref (Ma 7), .int (Mv 9), .ref (Ma 8), .int (Mv 10), .ref (Ma 9), .ref (Ma 10), .int (Mv 11), .int (Mv 12), .int (Mv 13), .ref (Ma 11), .int (Mv 14), .ref (Ma 12), .ref (Ma 13), .ref (Ma 14), .ref (Ma 15), .ref (Ma 16), .long (Mj 0), .ref (Ma 17), .ref (Ma 18), .ref (Ma 19), .ref (Ma 20)])), ((Ma 10), .inl (tc 0, 126, .inl g_41))] := hD₀
              replace hS := hS₀
              clear hP₀ hD₀ hS₀
              have hx_43 : 11 ≤ (x_36 : Int32).toNatClampNeg ∧ (x_36 : Int32).toNatClampNeg < 56 := by
                have z_1 := Int32.le_iff_toInt_le.mp c_16
                have z_2 := Int32.lt_iff_toInt_lt.mp (Int32.not_le.mp c_27)
                have y_6 : (6 : Int32).toInt = 6 := by decide
                have y_10 : (10 : Int32).toInt = 10 := by decide
                have y_46 : (46 : Int32).toInt = 46 := by decide
                have t_x_36 : x_36.toInt = (46 : Int32).toInt + (vy_19 : Int32).toInt := by rw [ex_36]; exact add_toInt (by omega) (by omega)
                have hcl : (x_36 : Int32).toNatClampNeg = (x_36 : Int32).toInt.toNat := rfl
                omega
              have pf_42 : SaidD T g_41 0 := SaidD.keep pf_34 eg_41 hx_43
              have ar_pf_42 := SaidD.ar pf_42
              obtain ⟨x_44, ex_44⟩ : ∃ y : Int32, y = vy_19 + 1 := ⟨_, rfl⟩
              refine lv_iinc (v := x_44) (lv' := [(1, .int x_44), (0, .ref (Ma 0))]) hx hb dX12_begins_129 hl (k := 0) rfl (by rw [ex_44]; rfl) (by decide) rfl (fun ls hl₀ => ?_)
              replace hl := hl₀
              clear hl₀
              refine lv_goto (tgt := 87) hx hb dX12_begins_132 (by decide) ?_
              have hb_45 : 10 - (x_44 : Int32).toInt < 10 - (vy_19 : Int32).toInt ∧ 1 ≤ 10 - (vy_19 : Int32).toInt := by
                have z_1 := Int32.le_iff_toInt_le.mp c_16
                have z_2 := Int32.lt_iff_toInt_lt.mp (Int32.not_le.mp c_27)
                have y_6 : (6 : Int32).toInt = 6 := by decide
                have y_10 : (10 : Int32).toInt = 10 := by decide
                have y_1 : (1 : Int32).toInt = 1 := by decide
                have t_x_44 : x_44.toInt = (vy_19 : Int32).toInt + (1 : Int32).toInt := by rw [ex_44]; exact add_toInt (by omega) (by omega)
                omega
              have ha_46 : 0 ≤ (x_44 : Int32).toInt := by
                have z_1 := Int32.le_iff_toInt_le.mp c_16
                have z_2 := Int32.lt_iff_toInt_lt.mp (Int32.not_le.mp c_27)
                have y_6 : (6 : Int32).toInt = 6 := by decide
                have y_10 : (10 : Int32).toInt = 10 := by decide
                have y_1 : (1 : Int32).toInt = 1 := by decide
                have t_x_44 : x_44.toInt = (vy_19 : Int32).toInt + (1 : Int32).toInt := by rw [ex_44]; exact add_toInt (by omega) (by omega)
                omega
              exact ih_22 x_44 g_41 _ _ _ (by omega) ha_46 pf_42 (hP.sub [0, 1] rfl) (hD.sub [0, 1] rfl rfl) hS (lv_sub hl [0, 1] rfl)
        have ha_47 : 0 ≤ (0 : Int32).toInt := by
          have z_1 := Int32.le_iff_toInt_le.mp c_16
          have y_6 : (6 : Int32).toInt = 6 := by decide
          have y_0 : (0 : Int32).toInt = 0 := by decide
          omega
        exact loop_23 _ 0 vy_9 _ _ _ (Nat.lt_succ_self _) ha_47 pf_14 hP hD hS hl
      · skip
        refine lv_bipush (v := 12) hx hb dX12_begins_30 (by decide) ?_
        refine lv_iconst (v := 4) hx hb dX12_begins_32 (by decide) ?_
        refine lv_iload_n hx hb dX12_begins_33 rfl (lv_at hl 0 rfl) ?_
        refine lv_imul hx hb dX12_begins_34 ?_
        refine lv_topi (fun x_48 ex_48 => ?_)
        refine lv_iadd hx hb dX12_begins_35 ?_
        refine lv_topi (fun x_49 ex_49 => ?_)
        refine lv_istore_n (lv' := [(2, .int x_49), (1, .int vy_8), (0, .ref (Ma 0))]) hx hb dX12_begins_36 rfl hl (by decide) rfl (fun ls hl₀ => ?_)
        replace hl := hl₀
        clear hl₀
        refine lv_aload_n hx hb dX12_begins_37 rfl (lv_at hl 2 rfl) ?_
        refine gf_X12_39 hx hb hts hown hK hP 0 rfl rfl dX12_begins_38 ?_
        refine lv_iload_n hx hb dX12_begins_41 rfl (lv_at hl 0 rfl) ?_
        refine lv_aload_n hx hb dX12_begins_42 rfl (lv_at hl 2 rfl) ?_
        refine gf_X12_39 hx hb hts hown hK hP 0 rfl rfl dX12_begins_43 ?_
        refine lv_bipush (v := 68) hx hb dX12_begins_46 (by decide) ?_
        refine lv_iload_n hx hb dX12_begins_48 rfl (lv_at hl 1 rfl) ?_
        refine lv_iadd hx hb dX12_begins_49 ?_
        refine lv_topi (fun x_50 ex_50 => ?_)
        have hi_51 : vp_in x_50 126 := by
          have z_1 := Int32.lt_iff_toInt_lt.mp (Int32.not_le.mp c_16)
          have y_6 : (6 : Int32).toInt = 6 := by decide
          have y_68 : (68 : Int32).toInt = 68 := by decide
          have t_x_50 : x_50.toInt = (68 : Int32).toInt + (vy_8 : Int32).toInt := by rw [ex_50]; exact add_toInt (by omega) (by omega)
          refine vp_in_iff.mpr ⟨?_, ?_⟩ <;> omega
        refine va_iald hx hb hK hP 1 0 rfl rfl hi_51 dX12_begins_50 ?_
        refine lv_topi (fun x_52 ex_52 => ?_)
        have hi_53 : vp_in x_49 126 := by
          have z_1 := Int32.lt_iff_toInt_lt.mp (Int32.not_le.mp c_16)
          have y_6 : (6 : Int32).toInt = 6 := by decide
          have y_4 : (4 : Int32).toInt = 4 := by decide
          have y_12 : (12 : Int32).toInt = 12 := by decide
          have t_x_48 : x_48.toInt = (4 : Int32).toInt * (vy_8 : Int32).toInt := by rw [ex_48]; exact mul_toInt (by first | omega | (rw [y_4]; omega)) (by first | omega | (rw [y_4]; omega))
          rw [y_4] at t_x_48
          have t_x_49 : x_49.toInt = (12 : Int32).toInt + (x_48 : Int32).toInt := by rw [ex_49]; exact add_toInt (by omega) (by omega)
          refine vp_in_iff.mpr ⟨?_, ?_⟩ <;> omega
        refine st_int hx hb hK hP hD hS 1 0 rfl rfl hi_53 dX12_begins_51 (fun g_54 H locs eg_54 hP₀ hD₀ hS₀ => ?_)
        replace hP : va_P D classes [((Ma 0), .inr (12, [.ref (Ma 1), .int (Mv 0), .int (Mv 1), .ref (Ma 2), .ref (Ma 3), .ref (Ma 4), .ref (Ma 5), .ref (Ma 6), .int (Mv 2), .int (Mv 3), .int (Mv 4), .int (Mv 5), .int (Mv 6), .int (Mv 7), .int (Mv 8), .ref (Ma 7), .int (Mv 9), .ref (Ma 8), .int (Mv 10), .ref (Ma 9), .ref (Ma 10), .int (Mv 11), .int (Mv 12), .int (Mv 13), .ref (Ma 11), .int (Mv 14), .ref (Ma 12), .ref (Ma 13), .ref (Ma 14), .ref (Ma 15), .ref (Ma 16), .long (Mj 0), .ref (Ma 17), .ref (Ma 18), .ref (Ma 19), .ref (Ma 20)])), ((Ma 10), .inl (tc 0, 126, .inl g_54))] H := hP₀
        replace hD : va_D A [((Ma 0), .inr (12, [.ref (Ma 1), .int (Mv 0), .int (Mv 1), .ref (Ma 2), .ref (Ma 3), .ref (Ma 4), .ref (Ma 5), .ref (Ma 6), .int (Mv 2), .int (Mv 3), .int (Mv 4), .int (Mv 5), .int (Mv 6), .int (Mv 7), .int (Mv 8), .ref (Ma 7), .int (Mv 9), .ref (Ma 8), .int (Mv 10), .ref (Ma 9), .ref (Ma 10), .int (Mv 11), .int (Mv 12), .int (Mv 13), .ref (Ma 11), .int (Mv 14), .ref (Ma 12), .ref (Ma 13), .ref (Ma 14), .ref (Ma 15), .ref (Ma 16), .long (Mj 0), .ref (Ma 17), .ref (Ma 18), .ref (Ma 19), .ref (Ma 20)])), ((Ma 10), .inl (tc 0, 126, .inl g_54))] := hD₀
        replace hS := hS₀
        clear hP₀ hD₀ hS₀
        have hx_56 : 11 ≤ (x_49 : Int32).toNatClampNeg ∧ (x_49 : Int32).toNatClampNeg < 56 := by
          have z_1 := Int32.lt_iff_toInt_lt.mp (Int32.not_le.mp c_16)
          have y_6 : (6 : Int32).toInt = 6 := by decide
          have y_4 : (4 : Int32).toInt = 4 := by decide
          have y_12 : (12 : Int32).toInt = 12 := by decide
          have t_x_48 : x_48.toInt = (4 : Int32).toInt * (vy_8 : Int32).toInt := by rw [ex_48]; exact mul_toInt (by first | omega | (rw [y_4]; omega)) (by first | omega | (rw [y_4]; omega))
          rw [y_4] at t_x_48
          have t_x_49 : x_49.toInt = (12 : Int32).toInt + (x_48 : Int32).toInt := by rw [ex_49]; exact add_toInt (by omega) (by omega)
          have hcl : (x_49 : Int32).toNatClampNeg = (x_49 : Int32).toInt.toNat := rfl
          omega
        have pf_55 : SaidD T g_54 0 := SaidD.keep pf_14 eg_54 hx_56
        have ar_pf_55 := SaidD.ar pf_55
        refine lv_aload_n hx hb dX12_begins_52 rfl (lv_at hl 2 rfl) ?_
        refine gf_X12_39 hx hb hts hown hK hP 0 rfl rfl dX12_begins_53 ?_
        refine lv_iload_n hx hb dX12_begins_56 rfl (lv_at hl 0 rfl) ?_
        refine lv_iconst (v := 1) hx hb dX12_begins_57 (by decide) ?_
        refine lv_iadd hx hb dX12_begins_58 ?_
        refine lv_topi (fun x_57 ex_57 => ?_)
        refine lv_iconst (v := 0) hx hb dX12_begins_59 (by decide) ?_
        have hi_58 : vp_in x_57 126 := by
          have z_1 := Int32.lt_iff_toInt_lt.mp (Int32.not_le.mp c_16)
          have y_6 : (6 : Int32).toInt = 6 := by decide
          have y_1 : (1 : Int32).toInt = 1 := by decide
          have y_4 : (4 : Int32).toInt = 4 := by decide
          have y_12 : (12 : Int32).toInt = 12 := by decide
          have t_x_48 : x_48.toInt = (4 : Int32).toInt * (vy_8 : Int32).toInt := by rw [ex_48]; exact mul_toInt (by first | omega | (rw [y_4]; omega)) (by first | omega | (rw [y_4]; omega))
          rw [y_4] at t_x_48
          have t_x_49 : x_49.toInt = (12 : Int32).toInt + (x_48 : Int32).toInt := by rw [ex_49]; exact add_toInt (by omega) (by omega)
          have t_x_57 : x_57.toInt = (x_49 : Int32).toInt + (1 : Int32).toInt := by rw [ex_57]; exact add_toInt (by omega) (by omega)
          refine vp_in_iff.mpr ⟨?_, ?_⟩ <;> omega
        refine st_int hx hb hK hP hD hS 1 0 rfl rfl hi_58 dX12_begins_60 (fun g_59 H locs eg_59 hP₀ hD₀ hS₀ => ?_)
        replace hP : va_P D classes [((Ma 0), .inr (12, [.ref (Ma 1), .int (Mv 0), .int (Mv 1), .ref (Ma 2), .ref (Ma 3), .ref (Ma 4), .ref (Ma 5), .ref (Ma 6), .int (Mv 2), .int (Mv 3), .int (Mv 4), .int (Mv 5), .int (Mv 6), .int (Mv 7), .int (Mv 8), .ref (Ma 7), .int (Mv 9), .ref (Ma 8), .int (Mv 10), .ref (Ma 9), .ref (Ma 10), .int (Mv 11), .int (Mv 12), .int (Mv 13), .ref (Ma 11), .int (Mv 14), .ref (Ma 12), .ref (Ma 13), .ref (Ma 14), .ref (Ma 15), .ref (Ma 16), .long (Mj 0), .ref (Ma 17), .ref (Ma 18), .ref (Ma 19), .ref (Ma 20)])), ((Ma 10), .inl (tc 0, 126, .inl g_59))] H := hP₀
        replace hD : va_D A [((Ma 0), .inr (12, [.ref (Ma 1), .int (Mv 0), .int (Mv 1), .ref (Ma 2), .ref (Ma 3), .ref (Ma 4), .ref (Ma 5), .ref (Ma 6), .int (Mv 2), .int (Mv 3), .int (Mv 4), .int (Mv 5), .int (Mv 6), .int (Mv 7), .int (Mv 8), .ref (Ma 7), .int (Mv 9), .ref (Ma 8), .int (Mv 10), .ref (Ma 9), .ref (Ma 10), .int (Mv 11), .int (Mv 12), .int (Mv 13), .ref (Ma 11), .int (Mv 14), .ref (Ma 12), .ref (Ma 13), .ref (Ma 14), .ref (Ma 15), .ref (Ma 16), .long (Mj 0), .ref (Ma 17), .ref (Ma 18), .ref (Ma 19), .ref (Ma 20)])), ((Ma 10), .inl (tc 0, 126, .inl g_59))] := hD₀
        replace hS := hS₀
        clear hP₀ hD₀ hS₀
        have hx_61 : 11 ≤ (x_57 : Int32).toNatClampNeg ∧ (x_57 : Int32).toNatClampNeg < 56 := by
          have z_1 := Int32.lt_iff_toInt_lt.mp (Int32.not_le.mp c_16)
          have y_6 : (6 : Int32).toInt = 6 := by decide
          have y_1 : (1 : Int32).toInt = 1 := by decide
          have y_4 : (4 : Int32).toInt = 4 := by decide
          have y_12 : (12 : Int32).toInt = 12 := by decide
          have t_x_48 : x_48.toInt = (4 : Int32).toInt * (vy_8 : Int32).toInt := by rw [ex_48]; exact mul_toInt (by first | omega | (rw [y_4]; omega)) (by first | omega | (rw [y_4]; omega))
          rw [y_4] at t_x_48
          have t_x_49 : x_49.toInt = (12 : Int32).toInt + (x_48 : Int32).toInt := by rw [ex_49]; exact add_toInt (by omega) (by omega)
          have t_x_57 : x_57.toInt = (x_49 : Int32).toInt + (1 : Int32).toInt := by rw [ex_57]; exact add_toInt (by omega) (by omega)
          have hcl : (x_57 : Int32).toNatClampNeg = (x_57 : Int32).toInt.toNat := rfl
          omega
        have pf_60 : SaidD T g_59 0 := SaidD.keep pf_55 eg_59 hx_61
        have ar_pf_60 := SaidD.ar pf_60
        refine lv_aload_n hx hb dX12_begins_61 rfl (lv_at hl 2 rfl) ?_
        refine gf_X12_39 hx hb hts hown hK hP 0 rfl rfl dX12_begins_62 ?_
        refine lv_iload_n hx hb dX12_begins_65 rfl (lv_at hl 0 rfl) ?_
        refine lv_iconst (v := 2) hx hb dX12_begins_66 (by decide) ?_
        refine lv_iadd hx hb dX12_begins_67 ?_
        refine lv_topi (fun x_62 ex_62 => ?_)
        refine lv_iconst (v := 0) hx hb dX12_begins_68 (by decide) ?_
        have hi_63 : vp_in x_62 126 := by
          have z_1 := Int32.lt_iff_toInt_lt.mp (Int32.not_le.mp c_16)
          have y_6 : (6 : Int32).toInt = 6 := by decide
          have y_2 : (2 : Int32).toInt = 2 := by decide
          have y_4 : (4 : Int32).toInt = 4 := by decide
          have y_12 : (12 : Int32).toInt = 12 := by decide
          have t_x_48 : x_48.toInt = (4 : Int32).toInt * (vy_8 : Int32).toInt := by rw [ex_48]; exact mul_toInt (by first | omega | (rw [y_4]; omega)) (by first | omega | (rw [y_4]; omega))
          rw [y_4] at t_x_48
          have t_x_49 : x_49.toInt = (12 : Int32).toInt + (x_48 : Int32).toInt := by rw [ex_49]; exact add_toInt (by omega) (by omega)
          have t_x_62 : x_62.toInt = (x_49 : Int32).toInt + (2 : Int32).toInt := by rw [ex_62]; exact add_toInt (by omega) (by omega)
          refine vp_in_iff.mpr ⟨?_, ?_⟩ <;> omega
        refine st_int hx hb hK hP hD hS 1 0 rfl rfl hi_63 dX12_begins_69 (fun g_64 H locs eg_64 hP₀ hD₀ hS₀ => ?_)
        replace hP : va_P D classes [((Ma 0), .inr (12, [.ref (Ma 1), .int (Mv 0), .int (Mv 1), .ref (Ma 2), .ref (Ma 3), .ref (Ma 4), .ref (Ma 5), .ref (Ma 6), .int (Mv 2), .int (Mv 3), .int (Mv 4), .int (Mv 5), .int (Mv 6), .int (Mv 7), .int (Mv 8), .ref (Ma 7), .int (Mv 9), .ref (Ma 8), .int (Mv 10), .ref (Ma 9), .ref (Ma 10), .int (Mv 11), .int (Mv 12), .int (Mv 13), .ref (Ma 11), .int (Mv 14), .ref (Ma 12), .ref (Ma 13), .ref (Ma 14), .ref (Ma 15), .ref (Ma 16), .long (Mj 0), .ref (Ma 17), .ref (Ma 18), .ref (Ma 19), .ref (Ma 20)])), ((Ma 10), .inl (tc 0, 126, .inl g_64))] H := hP₀
        replace hD : va_D A [((Ma 0), .inr (12, [.ref (Ma 1), .int (Mv 0), .int (Mv 1), .ref (Ma 2), .ref (Ma 3), .ref (Ma 4), .ref (Ma 5), .ref (Ma 6), .int (Mv 2), .int (Mv 3), .int (Mv 4), .int (Mv 5), .int (Mv 6), .int (Mv 7), .int (Mv 8), .ref (Ma 7), .int (Mv 9), .ref (Ma 8), .int (Mv 10), .ref (Ma 9), .ref (Ma 10), .int (Mv 11), .int (Mv 12), .int (Mv 13), .ref (Ma 11), .int (Mv 14), .ref (Ma 12), .ref (Ma 13), .ref (Ma 14), .ref (Ma 15), .ref (Ma 16), .long (Mj 0), .ref (Ma 17), .ref (Ma 18), .ref (Ma 19), .ref (Ma 20)])), ((Ma 10), .inl (tc 0, 126, .inl g_64))] := hD₀
        replace hS := hS₀
        clear hP₀ hD₀ hS₀
        have hx_66 : 11 ≤ (x_62 : Int32).toNatClampNeg ∧ (x_62 : Int32).toNatClampNeg < 56 := by
          have z_1 := Int32.lt_iff_toInt_lt.mp (Int32.not_le.mp c_16)
          have y_6 : (6 : Int32).toInt = 6 := by decide
          have y_2 : (2 : Int32).toInt = 2 := by decide
          have y_4 : (4 : Int32).toInt = 4 := by decide
          have y_12 : (12 : Int32).toInt = 12 := by decide
          have t_x_48 : x_48.toInt = (4 : Int32).toInt * (vy_8 : Int32).toInt := by rw [ex_48]; exact mul_toInt (by first | omega | (rw [y_4]; omega)) (by first | omega | (rw [y_4]; omega))
          rw [y_4] at t_x_48
          have t_x_49 : x_49.toInt = (12 : Int32).toInt + (x_48 : Int32).toInt := by rw [ex_49]; exact add_toInt (by omega) (by omega)
          have t_x_62 : x_62.toInt = (x_49 : Int32).toInt + (2 : Int32).toInt := by rw [ex_62]; exact add_toInt (by omega) (by omega)
          have hcl : (x_62 : Int32).toNatClampNeg = (x_62 : Int32).toInt.toNat := rfl
          omega
        have pf_65 : SaidD T g_64 0 := SaidD.keep pf_60 eg_64 hx_66
        have ar_pf_65 := SaidD.ar pf_65
        refine lv_aload_n hx hb dX12_begins_70 rfl (lv_at hl 2 rfl) ?_
        refine gf_X12_39 hx hb hts hown hK hP 0 rfl rfl dX12_begins_71 ?_
        refine lv_iload_n hx hb dX12_begins_74 rfl (lv_at hl 0 rfl) ?_
        refine lv_iconst (v := 3) hx hb dX12_begins_75 (by decide) ?_
        refine lv_iadd hx hb dX12_begins_76 ?_
        refine lv_topi (fun x_67 ex_67 => ?_)
        refine lv_iconst (v := (-1)) hx hb dX12_begins_77 (by decide) ?_
        have hi_68 : vp_in x_67 126 := by
          have z_1 := Int32.lt_iff_toInt_lt.mp (Int32.not_le.mp c_16)
          have y_6 : (6 : Int32).toInt = 6 := by decide
          have y_3 : (3 : Int32).toInt = 3 := by decide
          have y_4 : (4 : Int32).toInt = 4 := by decide
          have y_12 : (12 : Int32).toInt = 12 := by decide
          have t_x_48 : x_48.toInt = (4 : Int32).toInt * (vy_8 : Int32).toInt := by rw [ex_48]; exact mul_toInt (by first | omega | (rw [y_4]; omega)) (by first | omega | (rw [y_4]; omega))
          rw [y_4] at t_x_48
          have t_x_49 : x_49.toInt = (12 : Int32).toInt + (x_48 : Int32).toInt := by rw [ex_49]; exact add_toInt (by omega) (by omega)
          have t_x_67 : x_67.toInt = (x_49 : Int32).toInt + (3 : Int32).toInt := by rw [ex_67]; exact add_toInt (by omega) (by omega)
          refine vp_in_iff.mpr ⟨?_, ?_⟩ <;> omega
        refine st_int hx hb hK hP hD hS 1 0 rfl rfl hi_68 dX12_begins_78 (fun g_69 H locs eg_69 hP₀ hD₀ hS₀ => ?_)
        replace hP : va_P D classes [((Ma 0), .inr (12, [.ref (Ma 1), .int (Mv 0), .int (Mv 1), .ref (Ma 2), .ref (Ma 3), .ref (Ma 4), .ref (Ma 5), .ref (Ma 6), .int (Mv 2), .int (Mv 3), .int (Mv 4), .int (Mv 5), .int (Mv 6), .int (Mv 7), .int (Mv 8), .ref (Ma 7), .int (Mv 9), .ref (Ma 8), .int (Mv 10), .ref (Ma 9), .ref (Ma 10), .int (Mv 11), .int (Mv 12), .int (Mv 13), .ref (Ma 11), .int (Mv 14), .ref (Ma 12), .ref (Ma 13), .ref (Ma 14), .ref (Ma 15), .ref (Ma 16), .long (Mj 0), .ref (Ma 17), .ref (Ma 18), .ref (Ma 19), .ref (Ma 20)])), ((Ma 10), .inl (tc 0, 126, .inl g_69))] H := hP₀
        replace hD : va_D A [((Ma 0), .inr (12, [.ref (Ma 1), .int (Mv 0), .int (Mv 1), .ref (Ma 2), .ref (Ma 3), .ref (Ma 4), .ref (Ma 5), .ref (Ma 6), .int (Mv 2), .int (Mv 3), .int (Mv 4), .int (Mv 5), .int (Mv 6), .int (Mv 7), .int (Mv 8), .ref (Ma 7), .int (Mv 9), .ref (Ma 8), .int (Mv 10), .ref (Ma 9), .ref (Ma 10), .int (Mv 11), .int (Mv 12), .int (Mv 13), .ref (Ma 11), .int (Mv 14), .ref (Ma 12), .ref (Ma 13), .ref (Ma 14), .ref (Ma 15), .ref (Ma 16), .long (Mj 0), .ref (Ma 17), .ref (Ma 18), .ref (Ma 19), .ref (Ma 20)])), ((Ma 10), .inl (tc 0, 126, .inl g_69))] := hD₀
        replace hS := hS₀
        clear hP₀ hD₀ hS₀
        have hx_71 : 11 ≤ (x_67 : Int32).toNatClampNeg ∧ (x_67 : Int32).toNatClampNeg < 56 := by
          have z_1 := Int32.lt_iff_toInt_lt.mp (Int32.not_le.mp c_16)
          have y_6 : (6 : Int32).toInt = 6 := by decide
          have y_3 : (3 : Int32).toInt = 3 := by decide
          have y_4 : (4 : Int32).toInt = 4 := by decide
          have y_12 : (12 : Int32).toInt = 12 := by decide
          have t_x_48 : x_48.toInt = (4 : Int32).toInt * (vy_8 : Int32).toInt := by rw [ex_48]; exact mul_toInt (by first | omega | (rw [y_4]; omega)) (by first | omega | (rw [y_4]; omega))
          rw [y_4] at t_x_48
          have t_x_49 : x_49.toInt = (12 : Int32).toInt + (x_48 : Int32).toInt := by rw [ex_49]; exact add_toInt (by omega) (by omega)
          have t_x_67 : x_67.toInt = (x_49 : Int32).toInt + (3 : Int32).toInt := by rw [ex_67]; exact add_toInt (by omega) (by omega)
          have hcl : (x_67 : Int32).toNatClampNeg = (x_67 : Int32).toInt.toNat := rfl
          omega
        have pf_70 : SaidD T g_69 0 := SaidD.keep pf_65 eg_69 hx_71
        have ar_pf_70 := SaidD.ar pf_70
        obtain ⟨x_72, ex_72⟩ : ∃ y : Int32, y = vy_8 + 1 := ⟨_, rfl⟩
        refine lv_iinc (v := x_72) (lv' := [(1, .int x_72), (2, .int x_49), (0, .ref (Ma 0))]) hx hb dX12_begins_79 hl (k := 1) rfl (by rw [ex_72]; rfl) (by decide) rfl (fun ls hl₀ => ?_)
        replace hl := hl₀
        clear hl₀
        refine lv_goto (tgt := 24) hx hb dX12_begins_82 (by decide) ?_
        have hb_73 : 6 - (x_72 : Int32).toInt < 6 - (vy_8 : Int32).toInt ∧ 1 ≤ 6 - (vy_8 : Int32).toInt := by
          have z_1 := Int32.lt_iff_toInt_lt.mp (Int32.not_le.mp c_16)
          have y_6 : (6 : Int32).toInt = 6 := by decide
          have y_1 : (1 : Int32).toInt = 1 := by decide
          have t_x_72 : x_72.toInt = (vy_8 : Int32).toInt + (1 : Int32).toInt := by rw [ex_72]; exact add_toInt (by omega) (by omega)
          omega
        have ha_74 : 0 ≤ (x_72 : Int32).toInt := by
          have z_1 := Int32.lt_iff_toInt_lt.mp (Int32.not_le.mp c_16)
          have y_6 : (6 : Int32).toInt = 6 := by decide
          have y_1 : (1 : Int32).toInt = 1 := by decide
          have t_x_72 : x_72.toInt = (vy_8 : Int32).toInt + (1 : Int32).toInt := by rw [ex_72]; exact add_toInt (by omega) (by omega)
          omega
        exact ih_11 x_72 g_69 _ _ _ (by omega) ha_74 pf_70 (hP.sub [0, 1] rfl) (hD.sub [0, 1] rfl rfl) hS (lv_sub hl [0, 2] rfl)
  have ha_75 : 0 ≤ (0 : Int32).toInt := by
    have y_0 : (0 : Int32).toInt = 0 := by decide
    omega
  exact loop_12 _ 0 g_4 _ _ _ (Nat.lt_succ_self _) ha_75 pf_5 hP hD hS hl
set_option maxRecDepth 100000 in
theorem cu_X12_begins {T : Nat → Option Int32} (l : Launch) (D : va_G) (tc : Nat → ClassId) (sk : (Nat → Nat) × (Nat → Nat)) (Ma_0 : Nat) (Ma_1 : Nat) (Ma_2 : Nat) (Ma_3 : Nat) (Ma_4 : Nat) (Ma_5 : Nat) (Ma_6 : Nat) (Ma_7 : Nat) (Ma_8 : Nat) (Ma_9 : Nat) (Ma_10 : Nat) (Ma_11 : Nat) (Ma_12 : Nat) (Ma_13 : Nat) (Ma_14 : Nat) (Ma_15 : Nat) (Ma_16 : Nat) (Ma_17 : Nat) (Ma_18 : Nat) (Ma_19 : Nat) (Ma_20 : Nat) (Mv_0 : Int32) (Mv_1 : Int32) (Mv_2 : Int32) (Mv_3 : Int32) (Mv_4 : Int32) (Mv_5 : Int32) (Mv_6 : Int32) (Mv_7 : Int32) (Mv_8 : Int32) (Mv_9 : Int32) (Mv_10 : Int32) (Mv_11 : Int32) (Mv_12 : Int32) (Mv_13 : Int32) (Mv_14 : Int32) (Mf_10 : Nat → Int32) (Mj_0 : Int64) (h_said : SaidB T Mf_10) : Ct l yX12_begins cX12_begins 3 none { frames := 0, cells := 0, slots := 0, locals := 0 } D tc sk [.ref Ma_0] [(Ma_0, .inr (12, [.ref Ma_1, .int Mv_0, .int Mv_1, .ref Ma_2, .ref Ma_3, .ref Ma_4, .ref Ma_5, .ref Ma_6, .int Mv_2, .int Mv_3, .int Mv_4, .int Mv_5, .int Mv_6, .int Mv_7, .int Mv_8, .ref Ma_7, .int Mv_9, .ref Ma_8, .int Mv_10, .ref Ma_9, .ref Ma_10, .int Mv_11, .int Mv_12, .int Mv_13, .ref Ma_11, .int Mv_14, .ref Ma_12, .ref Ma_13, .ref Ma_14, .ref Ma_15, .ref Ma_16, .long Mj_0, .ref Ma_17, .ref Ma_18, .ref Ma_19, .ref Ma_20])), (Ma_10, .inl (tc 0, 126, .inl Mf_10))] (fun (v : Option Value) (oo0x1 : Nat → Int32) => v = none ∧ (SaidD T oo0x1 0)) (fun (oo0x1 : Nat → Int32) => [(Ma_0, .inr (12, [.ref Ma_1, .int Mv_0, .int Mv_1, .ref Ma_2, .ref Ma_3, .ref Ma_4, .ref Ma_5, .ref Ma_6, .int Mv_2, .int Mv_3, .int Mv_4, .int Mv_5, .int Mv_6, .int Mv_7, .int Mv_8, .ref Ma_7, .int Mv_9, .ref Ma_8, .int Mv_10, .ref Ma_9, .ref Ma_10, .int Mv_11, .int Mv_12, .int Mv_13, .ref Ma_11, .int Mv_14, .ref Ma_12, .ref Ma_13, .ref Ma_14, .ref Ma_15, .ref Ma_16, .long Mj_0, .ref Ma_17, .ref Ma_18, .ref Ma_19, .ref Ma_20])), (Ma_10, .inl (tc 0, 126, .inl oo0x1))]) 0 0 :=
  ct_X12_begins l D tc sk (fun k => ([Ma_0, Ma_1, Ma_2, Ma_3, Ma_4, Ma_5, Ma_6, Ma_7, Ma_8, Ma_9, Ma_10, Ma_11, Ma_12, Ma_13, Ma_14, Ma_15, Ma_16, Ma_17, Ma_18, Ma_19, Ma_20] : List (Nat)).getD k 0) (fun k => ([Mv_0, Mv_1, Mv_2, Mv_3, Mv_4, Mv_5, Mv_6, Mv_7, Mv_8, Mv_9, Mv_10, Mv_11, Mv_12, Mv_13, Mv_14] : List (Int32)).getD k 0) (fun k => ([(fun _ => 0), (fun _ => 0), (fun _ => 0), (fun _ => 0), (fun _ => 0), (fun _ => 0), (fun _ => 0), (fun _ => 0), (fun _ => 0), (fun _ => 0), Mf_10] : List (Nat → Int32)).getD k (fun _ => 0)) (fun k => ([Mj_0] : List (Int64)).getD k 0) h_said
set_option maxHeartbeats 4000000 in
set_option maxRecDepth 100000 in
theorem ct_X12_isWilling {T : Nat → Option Int32} (l : Launch) (D : va_G) (tc : Nat → ClassId) (sk : (Nat → Nat) × (Nat → Nat)) (Ma : Nat → Nat) (Mv : Nat → Int32) (Mf : Nat → Nat → Int32) (Mj : Nat → Int64) (Mg : Nat → Nat → Int64) (x1 : Int32) (d : Int) (h_b : 0 ≤ x1.toInt ∧ x1.toInt < 6) (h_said : SaidD T (Mf 10) d) (h_d : d ≤ 1000000) (h_rul : RulD (Mf 2) (Mf 4) (Mf 5) (Mv 1)) (h_frc : -1 ≤ (Mv 11).toInt ∧ (Mv 11).toInt < (Mv 1).toInt ∧ (Mv 1).toInt ≤ 6) (h_2 : 1 ≤ ((Mf 10) 2).toInt ∧ ((Mf 10) 2).toInt ≤ 10) : Ct l yX12_isWilling cX12_isWilling 3 (some .boolean) { frames := 3, cells := 0, slots := 0, locals := 77 } D tc sk [.ref (Ma 0), .int x1] [((Ma 0), .inr (12, [.ref (Ma 1), .int (Mv 0), .int (Mv 1), .ref (Ma 2), .ref (Ma 3), .ref (Ma 4), .ref (Ma 5), .ref (Ma 6), .int (Mv 2), .int (Mv 3), .int (Mv 4), .int (Mv 5), .int (Mv 6), .int (Mv 7), .int (Mv 8), .ref (Ma 7), .int (Mv 9), .ref (Ma 8), .int (Mv 10), .ref (Ma 9), .ref (Ma 10), .int (Mv 11), .int (Mv 12), .int (Mv 13), .ref (Ma 11), .int (Mv 14), .ref (Ma 12), .ref (Ma 13), .ref (Ma 14), .ref (Ma 15), .ref (Ma 16), .long (Mj 0), .ref (Ma 17), .ref (Ma 18), .ref (Ma 19), .ref (Ma 20)])), ((Ma 2), .inl (tc 0, 2400, .inl (Mf 2))), ((Ma 4), .inl (tc 0, 288, .inl (Mf 4))), ((Ma 5), .inl (tc 0, 6, .inl (Mf 5))), ((Ma 8), .inl (tc 1, 64, .inr (.inl (Mg 8)))), ((Ma 9), .inl (tc 1, 13, .inr (.inl (Mg 9)))), ((Ma 10), .inl (tc 0, 126, .inl (Mf 10)))] (fun (v : Option Value) (u : (Int32) × (Nat → Int64) × (Nat → Int64)) => match u with | (oo0x1, oo0x2, oo0x3) => ∃ r : Int32, v = some (.int r) ∧ ((r.toInt = 0 ∨ r.toInt = 1))) (fun (u : (Int32) × (Nat → Int64) × (Nat → Int64)) => match u with | (oo0x1, oo0x2, oo0x3) => [((Ma 0), .inr (12, [.ref (Ma 1), .int (Mv 0), .int (Mv 1), .ref (Ma 2), .ref (Ma 3), .ref (Ma 4), .ref (Ma 5), .ref (Ma 6), .int (Mv 2), .int (Mv 3), .int (Mv 4), .int (Mv 5), .int (Mv 6), .int (Mv 7), .int (Mv 8), .ref (Ma 7), .int (Mv 9), .ref (Ma 8), .int oo0x1, .ref (Ma 9), .ref (Ma 10), .int (Mv 11), .int (Mv 12), .int (Mv 13), .ref (Ma 11), .int (Mv 14), .ref (Ma 12), .ref (Ma 13), .ref (Ma 14), .ref (Ma 15), .ref (Ma 16), .long (Mj 0), .ref (Ma 17), .ref (Ma 18), .ref (Ma 19), .ref (Ma 20)])), ((Ma 2), .inl (tc 0, 2400, .inl (Mf 2))), ((Ma 4), .inl (tc 0, 288, .inl (Mf 4))), ((Ma 5), .inl (tc 0, 6, .inl (Mf 5))), ((Ma 8), .inl (tc 1, 64, .inr (.inl oo0x2))), ((Ma 9), .inl (tc 1, 13, .inr (.inl oo0x3))), ((Ma 10), .inl (tc 0, 126, .inl (Mf 10)))]) 0 0 := by
  refine Ct.start (by decide) (Nat.le_of_ble_eq_true rfl) (fun p e s m below meth c A ls hx hb hr hlk hin hml hown hts hK hX hP hD hA hl hS => ?_)
  have hl : lv_has ls 3 [(0, .ref (Ma 0)), (1, .int x1)] := hl
  have ar_h_said := SaidD.ar h_said
  refine lv_aload_n hx hb dX12_isWilling_0 rfl (lv_at hl 0 rfl) ?_
  refine gf_X12_39 hx hb hts hown hK hP 0 rfl rfl dX12_isWilling_1 ?_
  refine lv_bipush (v := 36) hx hb dX12_isWilling_4 (by decide) ?_
  refine lv_aload_n hx hb dX12_isWilling_6 rfl (lv_at hl 0 rfl) ?_
  refine cV (a := (Ma 0)) (As := []) (rest := [.int 36, .ref (Ma 10)]) (wr := [((Ma 2), .inl (tc 0, 2400, .inl (Mf 2))), ((Ma 4), .inl (tc 0, 288, .inl (Mf 4))), ((Ma 5), .inl (tc 0, 6, .inl (Mf 5))), ((Ma 8), .inl (tc 1, 64, .inr (.inl (Mg 8)))), ((Ma 9), .inl (tc 1, 13, .inr (.inl (Mg 9))))]) ⟨hx, hb, hml, hown, hts⟩ hK hX hA (cu_X12_clock l D tc sk (Ma 0) (Ma 1) (Ma 2) (Ma 3) (Ma 4) (Ma 5) (Ma 6) (Ma 7) (Ma 8) (Ma 9) (Ma 10) (Ma 11) (Ma 12) (Ma 13) (Ma 14) (Ma 15) (Ma 16) (Ma 17) (Ma 18) (Ma 19) (Ma 20) (Mv 0) (Mv 1) (Mv 2) (Mv 3) (Mv 4) (Mv 5) (Mv 6) (Mv 7) (Mv 8) (Mv 9) (Mv 10) (Mv 11) (Mv 12) (Mv 13) (Mv 14) (Mf 10) (Mj 0) d h_said) k_1435 k_1432 k_1434 k_70 k_106 pl_X12_clock ⟨Nat.le_of_ble_eq_true rfl, Nat.le_of_ble_eq_true rfl⟩ rfl rfl (va_recv hK hP (ci := 12) (q0 := 0) rfl rfl) hP hD hS [0, 6] [1, 2, 3, 4, 5] rfl rfl rfl rfl rfl (by decide) rfl hl.1 rfl (Nat.le_of_ble_eq_true rfl) dX12_isWilling_7 ⟨Nat.le_of_ble_eq_true rfl, Nat.le_of_ble_eq_true rfl⟩ (fun v_1 u_2 H locs hv_3 hP₀ hD₀ hS₀ => ?_)
  obtain ⟨r_4, rfl, he_5⟩ := hv_3
  have he_5 : (0 ≤ r_4.toInt ∧ r_4.toInt < 10) := he_5
  refine W.eq (g2 := F0 m 10 ls [.int r_4, .int 36, .ref (Ma 10)]) rfl ?_
  replace hP : va_P D classes [((Ma 2), .inl (tc 0, 2400, .inl (Mf 2))), ((Ma 4), .inl (tc 0, 288, .inl (Mf 4))), ((Ma 5), .inl (tc 0, 6, .inl (Mf 5))), ((Ma 8), .inl (tc 1, 64, .inr (.inl (Mg 8)))), ((Ma 9), .inl (tc 1, 13, .inr (.inl (Mg 9)))), ((Ma 0), .inr (12, [.ref (Ma 1), .int (Mv 0), .int (Mv 1), .ref (Ma 2), .ref (Ma 3), .ref (Ma 4), .ref (Ma 5), .ref (Ma 6), .int (Mv 2), .int (Mv 3), .int (Mv 4), .int (Mv 5), .int (Mv 6), .int (Mv 7), .int (Mv 8), .ref (Ma 7), .int (Mv 9), .ref (Ma 8), .int (Mv 10), .ref (Ma 9), .ref (Ma 10), .int (Mv 11), .int (Mv 12), .int (Mv 13), .ref (Ma 11), .int (Mv 14), .ref (Ma 12), .ref (Ma 13), .ref (Ma 14), .ref (Ma 15), .ref (Ma 16), .long (Mj 0), .ref (Ma 17), .ref (Ma 18), .ref (Ma 19), .ref (Ma 20)])), ((Ma 10), .inl (tc 0, 126, .inl (Mf 10)))] H := hP₀
  replace hD : va_D A [((Ma 2), .inl (tc 0, 2400, .inl (Mf 2))), ((Ma 4), .inl (tc 0, 288, .inl (Mf 4))), ((Ma 5), .inl (tc 0, 6, .inl (Mf 5))), ((Ma 8), .inl (tc 1, 64, .inr (.inl (Mg 8)))), ((Ma 9), .inl (tc 1, 13, .inr (.inl (Mg 9)))), ((Ma 0), .inr (12, [.ref (Ma 1), .int (Mv 0), .int (Mv 1), .ref (Ma 2), .ref (Ma 3), .ref (Ma 4), .ref (Ma 5), .ref (Ma 6), .int (Mv 2), .int (Mv 3), .int (Mv 4), .int (Mv 5), .int (Mv 6), .int (Mv 7), .int (Mv 8), .ref (Ma 7), .int (Mv 9), .ref (Ma 8), .int (Mv 10), .ref (Ma 9), .ref (Ma 10), .int (Mv 11), .int (Mv 12), .int (Mv 13), .ref (Ma 11), .int (Mv 14), .ref (Ma 12), .ref (Ma 13), .ref (Ma 14), .ref (Ma 15), .ref (Ma 16), .long (Mj 0), .ref (Ma 17), .ref (Ma 18), .ref (Ma 19), .ref (Ma 20)])), ((Ma 10), .inl (tc 0, 126, .inl (Mf 10)))] := hD₀
  replace hS := hS₀
  clear hP₀ hD₀ hS₀
  refine lv_iadd hx hb dX12_isWilling_10 ?_
  refine lv_topi (fun x_7 ex_7 => ?_)
  have hi_8 : vp_in x_7 126 := by
    have y_36 : (36 : Int32).toInt = 36 := by decide
    have t_x_7 : x_7.toInt = (36 : Int32).toInt + (r_4 : Int32).toInt := by rw [ex_7]; exact add_toInt (by omega) (by omega)
    refine vp_in_iff.mpr ⟨?_, ?_⟩ <;> omega
  refine va_iald hx hb hK hP 6 0 rfl rfl hi_8 dX12_isWilling_11 ?_
  refine lv_topi (fun x_9 ex_9 => ?_)
  refine lv_istore_n (lv' := [(2, .int x_9), (0, .ref (Ma 0)), (1, .int x1)]) hx hb dX12_isWilling_12 rfl hl (by decide) rfl (fun ls hl₀ => ?_)
  replace hl := hl₀
  clear hl₀
  refine lv_aload_n hx hb dX12_isWilling_13 rfl (lv_at hl 1 rfl) ?_
  refine gf_X12_42 hx hb hts hown hK hP 5 rfl rfl dX12_isWilling_14 ?_
  refine lv_if_ge (tgt := 38) hx hb dX12_isWilling_17 (by decide) (fun c_10 => ?_) (fun c_10 => ?_)
  · skip
    refine lv_aload_n hx hb dX12_isWilling_38 rfl (lv_at hl 1 rfl) ?_
    refine gf_X12_36 hx hb hts hown hK hP 5 rfl rfl dX12_isWilling_39 ?_
    refine lv_iconst (v := 0) hx hb dX12_isWilling_42 (by decide) ?_
    refine lv_iload_n hx hb dX12_isWilling_43 rfl (lv_at hl 2 rfl) ?_
    refine lv_i2l (v := (x1).toInt64) hx hb dX12_isWilling_44 rfl ?_
    refine st_long hx hb hK hP hD hS 4 1 rfl rfl (vin_dec (by decide +kernel)) dX12_isWilling_45 (fun g_11 H locs eg_11 hP₀ hD₀ hS₀ => ?_)
    replace hP : va_P D classes [((Ma 2), .inl (tc 0, 2400, .inl (Mf 2))), ((Ma 4), .inl (tc 0, 288, .inl (Mf 4))), ((Ma 5), .inl (tc 0, 6, .inl (Mf 5))), ((Ma 8), .inl (tc 1, 64, .inr (.inl (Mg 8)))), ((Ma 9), .inl (tc 1, 13, .inr (.inl g_11))), ((Ma 0), .inr (12, [.ref (Ma 1), .int (Mv 0), .int (Mv 1), .ref (Ma 2), .ref (Ma 3), .ref (Ma 4), .ref (Ma 5), .ref (Ma 6), .int (Mv 2), .int (Mv 3), .int (Mv 4), .int (Mv 5), .int (Mv 6), .int (Mv 7), .int (Mv 8), .ref (Ma 7), .int (Mv 9), .ref (Ma 8), .int (Mv 10), .ref (Ma 9), .ref (Ma 10), .int (Mv 11), .int (Mv 12), .int (Mv 13), .ref (Ma 11), .int (Mv 14), .ref (Ma 12), .ref (Ma 13), .ref (Ma 14), .ref (Ma 15), .ref (Ma 16), .long (Mj 0), .ref (Ma 17), .ref (Ma 18), .ref (Ma 19), .ref (Ma 20)])), ((Ma 10), .inl (tc 0, 126, .inl (Mf 10)))] H := hP₀
    replace hD : va_D A [((Ma 2), .inl (tc 0, 2400, .inl (Mf 2))), ((Ma 4), .inl (tc 0, 288, .inl (Mf 4))), ((Ma 5), .inl (tc 0, 6, .inl (Mf 5))), ((Ma 8), .inl (tc 1, 64, .inr (.inl (Mg 8)))), ((Ma 9), .inl (tc 1, 13, .inr (.inl g_11))), ((Ma 0), .inr (12, [.ref (Ma 1), .int (Mv 0), .int (Mv 1), .ref (Ma 2), .ref (Ma 3), .ref (Ma 4), .ref (Ma 5), .ref (Ma 6), .int (Mv 2), .int (Mv 3), .int (Mv 4), .int (Mv 5), .int (Mv 6), .int (Mv 7), .int (Mv 8), .ref (Ma 7), .int (Mv 9), .ref (Ma 8), .int (Mv 10), .ref (Ma 9), .ref (Ma 10), .int (Mv 11), .int (Mv 12), .int (Mv 13), .ref (Ma 11), .int (Mv 14), .ref (Ma 12), .ref (Ma 13), .ref (Ma 14), .ref (Ma 15), .ref (Ma 16), .long (Mj 0), .ref (Ma 17), .ref (Ma 18), .ref (Ma 19), .ref (Ma 20)])), ((Ma 10), .inl (tc 0, 126, .inl (Mf 10)))] := hD₀
    replace hS := hS₀
    clear hP₀ hD₀ hS₀
    refine lv_aload_n hx hb dX12_isWilling_46 rfl (lv_at hl 1 rfl) ?_
    refine gf_X12_36 hx hb hts hown hK hP 5 rfl rfl dX12_isWilling_47 ?_
    refine lv_iconst (v := 1) hx hb dX12_isWilling_50 (by decide) ?_
    refine lv_aload_n hx hb dX12_isWilling_51 rfl (lv_at hl 1 rfl) ?_
    refine lv_iload_n hx hb dX12_isWilling_52 rfl (lv_at hl 2 rfl) ?_
    refine cV (a := (Ma 0)) (As := [.int x1]) (rest := [.int 1, .ref (Ma 9)]) (wr := [((Ma 2), .inl (tc 0, 2400, .inl (Mf 2))), ((Ma 4), .inl (tc 0, 288, .inl (Mf 4))), ((Ma 5), .inl (tc 0, 6, .inl (Mf 5))), ((Ma 8), .inl (tc 1, 64, .inr (.inl (Mg 8)))), ((Ma 9), .inl (tc 1, 13, .inr (.inl g_11)))]) ⟨hx, hb, hml, hown, hts⟩ hK hX hA (cu_X12_temperOf l D tc sk (Ma 0) (Ma 1) (Ma 2) (Ma 3) (Ma 4) (Ma 5) (Ma 6) (Ma 7) (Ma 8) (Ma 9) (Ma 10) (Ma 11) (Ma 12) (Ma 13) (Ma 14) (Ma 15) (Ma 16) (Ma 17) (Ma 18) (Ma 19) (Ma 20) (Mv 0) (Mv 1) (Mv 2) (Mv 3) (Mv 4) (Mv 5) (Mv 6) (Mv 7) (Mv 8) (Mv 9) (Mv 10) (Mv 11) (Mv 12) (Mv 13) (Mv 14) (Mf 10) (Mj 0) x1 h_b) k_1379 k_1376 k_1378 k_59 k_106 pl_X12_temperOf ⟨Nat.le_of_ble_eq_true rfl, Nat.le_of_ble_eq_true rfl⟩ rfl rfl (va_recv hK hP (ci := 12) (q0 := 5) rfl rfl) hP hD hS [5, 6] [0, 1, 2, 3, 4] rfl rfl rfl rfl rfl (by decide) rfl hl.1 rfl (Nat.le_of_ble_eq_true rfl) dX12_isWilling_53 ⟨Nat.le_of_ble_eq_true rfl, Nat.le_of_ble_eq_true rfl⟩ (fun v_12 u_13 H locs hv_14 hP₀ hD₀ hS₀ => ?_)
    obtain ⟨r_15, rfl, he_16⟩ := hv_14
    refine W.eq (g2 := F0 m 56 ls [.int r_15, .int 1, .ref (Ma 9)]) rfl ?_
    replace hP : va_P D classes [((Ma 2), .inl (tc 0, 2400, .inl (Mf 2))), ((Ma 4), .inl (tc 0, 288, .inl (Mf 4))), ((Ma 5), .inl (tc 0, 6, .inl (Mf 5))), ((Ma 8), .inl (tc 1, 64, .inr (.inl (Mg 8)))), ((Ma 9), .inl (tc 1, 13, .inr (.inl g_11))), ((Ma 0), .inr (12, [.ref (Ma 1), .int (Mv 0), .int (Mv 1), .ref (Ma 2), .ref (Ma 3), .ref (Ma 4), .ref (Ma 5), .ref (Ma 6), .int (Mv 2), .int (Mv 3), .int (Mv 4), .int (Mv 5), .int (Mv 6), .int (Mv 7), .int (Mv 8), .ref (Ma 7), .int (Mv 9), .ref (Ma 8), .int (Mv 10), .ref (Ma 9), .ref (Ma 10), .int (Mv 11), .int (Mv 12), .int (Mv 13), .ref (Ma 11), .int (Mv 14), .ref (Ma 12), .ref (Ma 13), .ref (Ma 14), .ref (Ma 15), .ref (Ma 16), .long (Mj 0), .ref (Ma 17), .ref (Ma 18), .ref (Ma 19), .ref (Ma 20)])), ((Ma 10), .inl (tc 0, 126, .inl (Mf 10)))] H := hP₀
    replace hD : va_D A [((Ma 2), .inl (tc 0, 2400, .inl (Mf 2))), ((Ma 4), .inl (tc 0, 288, .inl (Mf 4))), ((Ma 5), .inl (tc 0, 6, .inl (Mf 5))), ((Ma 8), .inl (tc 1, 64, .inr (.inl (Mg 8)))), ((Ma 9), .inl (tc 1, 13, .inr (.inl g_11))), ((Ma 0), .inr (12, [.ref (Ma 1), .int (Mv 0), .int (Mv 1), .ref (Ma 2), .ref (Ma 3), .ref (Ma 4), .ref (Ma 5), .ref (Ma 6), .int (Mv 2), .int (Mv 3), .int (Mv 4), .int (Mv 5), .int (Mv 6), .int (Mv 7), .int (Mv 8), .ref (Ma 7), .int (Mv 9), .ref (Ma 8), .int (Mv 10), .ref (Ma 9), .ref (Ma 10), .int (Mv 11), .int (Mv 12), .int (Mv 13), .ref (Ma 11), .int (Mv 14), .ref (Ma 12), .ref (Ma 13), .ref (Ma 14), .ref (Ma 15), .ref (Ma 16), .long (Mj 0), .ref (Ma 17), .ref (Ma 18), .ref (Ma 19), .ref (Ma 20)])), ((Ma 10), .inl (tc 0, 126, .inl (Mf 10)))] := hD₀
    replace hS := hS₀
    clear hP₀ hD₀ hS₀
    refine lv_i2l (v := (r_15).toInt64) hx hb dX12_isWilling_56 rfl ?_
    refine st_long hx hb hK hP hD hS 4 1 rfl rfl (vin_dec (by decide +kernel)) dX12_isWilling_57 (fun g_18 H locs eg_18 hP₀ hD₀ hS₀ => ?_)
    replace hP : va_P D classes [((Ma 2), .inl (tc 0, 2400, .inl (Mf 2))), ((Ma 4), .inl (tc 0, 288, .inl (Mf 4))), ((Ma 5), .inl (tc 0, 6, .inl (Mf 5))), ((Ma 8), .inl (tc 1, 64, .inr (.inl (Mg 8)))), ((Ma 9), .inl (tc 1, 13, .inr (.inl g_18))), ((Ma 0), .inr (12, [.ref (Ma 1), .int (Mv 0), .int (Mv 1), .ref (Ma 2), .ref (Ma 3), .ref (Ma 4), .ref (Ma 5), .ref (Ma 6), .int (Mv 2), .int (Mv 3), .int (Mv 4), .int (Mv 5), .int (Mv 6), .int (Mv 7), .int (Mv 8), .ref (Ma 7), .int (Mv 9), .ref (Ma 8), .int (Mv 10), .ref (Ma 9), .ref (Ma 10), .int (Mv 11), .int (Mv 12), .int (Mv 13), .ref (Ma 11), .int (Mv 14), .ref (Ma 12), .ref (Ma 13), .ref (Ma 14), .ref (Ma 15), .ref (Ma 16), .long (Mj 0), .ref (Ma 17), .ref (Ma 18), .ref (Ma 19), .ref (Ma 20)])), ((Ma 10), .inl (tc 0, 126, .inl (Mf 10)))] H := hP₀
    replace hD : va_D A [((Ma 2), .inl (tc 0, 2400, .inl (Mf 2))), ((Ma 4), .inl (tc 0, 288, .inl (Mf 4))), ((Ma 5), .inl (tc 0, 6, .inl (Mf 5))), ((Ma 8), .inl (tc 1, 64, .inr (.inl (Mg 8)))), ((Ma 9), .inl (tc 1, 13, .inr (.inl g_18))), ((Ma 0), .inr (12, [.ref (Ma 1), .int (Mv 0), .int (Mv 1), .ref (Ma 2), .ref (Ma 3), .ref (Ma 4), .ref (Ma 5), .ref (Ma 6), .int (Mv 2), .int (Mv 3), .int (Mv 4), .int (Mv 5), .int (Mv 6), .int (Mv 7), .int (Mv 8), .ref (Ma 7), .int (Mv 9), .ref (Ma 8), .int (Mv 10), .ref (Ma 9), .ref (Ma 10), .int (Mv 11), .int (Mv 12), .int (Mv 13), .ref (Ma 11), .int (Mv 14), .ref (Ma 12), .ref (Ma 13), .ref (Ma 14), .ref (Ma 15), .ref (Ma 16), .long (Mj 0), .ref (Ma 17), .ref (Ma 18), .ref (Ma 19), .ref (Ma 20)])), ((Ma 10), .inl (tc 0, 126, .inl (Mf 10)))] := hD₀
    replace hS := hS₀
    clear hP₀ hD₀ hS₀
    refine lv_aload_n hx hb dX12_isWilling_58 rfl (lv_at hl 1 rfl) ?_
    refine gf_X12_36 hx hb hts hown hK hP 5 rfl rfl dX12_isWilling_59 ?_
    refine lv_iconst (v := 2) hx hb dX12_isWilling_62 (by decide) ?_
    refine lv_aload_n hx hb dX12_isWilling_63 rfl (lv_at hl 1 rfl) ?_
    refine gf_X12_39 hx hb hts hown hK hP 5 rfl rfl dX12_isWilling_64 ?_
    refine lv_bipush (v := 56) hx hb dX12_isWilling_67 (by decide) ?_
    refine lv_iload_n hx hb dX12_isWilling_69 rfl (lv_at hl 2 rfl) ?_
    refine lv_iadd hx hb dX12_isWilling_70 ?_
    refine lv_topi (fun x_19 ex_19 => ?_)
    have hi_20 : vp_in x_19 126 := by
      have z_1 := Int32.le_iff_toInt_le.mp c_10
      have y_0 : (0 : Int32).toInt = 0 := by decide
      have y_56 : (56 : Int32).toInt = 56 := by decide
      have t_x_19 : x_19.toInt = (56 : Int32).toInt + (x1 : Int32).toInt := by rw [ex_19]; exact add_toInt (by omega) (by omega)
      refine vp_in_iff.mpr ⟨?_, ?_⟩ <;> omega
    refine va_iald hx hb hK hP 6 0 rfl rfl hi_20 dX12_isWilling_71 ?_
    refine lv_topi (fun x_21 ex_21 => ?_)
    refine lv_i2l (v := (x_21).toInt64) hx hb dX12_isWilling_72 rfl ?_
    refine st_long hx hb hK hP hD hS 4 1 rfl rfl (vin_dec (by decide +kernel)) dX12_isWilling_73 (fun g_22 H locs eg_22 hP₀ hD₀ hS₀ => ?_)
    replace hP : va_P D classes [((Ma 2), .inl (tc 0, 2400, .inl (Mf 2))), ((Ma 4), .inl (tc 0, 288, .inl (Mf 4))), ((Ma 5), .inl (tc 0, 6, .inl (Mf 5))), ((Ma 8), .inl (tc 1, 64, .inr (.inl (Mg 8)))), ((Ma 9), .inl (tc 1, 13, .inr (.inl g_22))), ((Ma 0), .inr (12, [.ref (Ma 1), .int (Mv 0), .int (Mv 1), .ref (Ma 2), .ref (Ma 3), .ref (Ma 4), .ref (Ma 5), .ref (Ma 6), .int (Mv 2), .int (Mv 3), .int (Mv 4), .int (Mv 5), .int (Mv 6), .int (Mv 7), .int (Mv 8), .ref (Ma 7), .int (Mv 9), .ref (Ma 8), .int (Mv 10), .ref (Ma 9), .ref (Ma 10), .int (Mv 11), .int (Mv 12), .int (Mv 13), .ref (Ma 11), .int (Mv 14), .ref (Ma 12), .ref (Ma 13), .ref (Ma 14), .ref (Ma 15), .ref (Ma 16), .long (Mj 0), .ref (Ma 17), .ref (Ma 18), .ref (Ma 19), .ref (Ma 20)])), ((Ma 10), .inl (tc 0, 126, .inl (Mf 10)))] H := hP₀
    replace hD : va_D A [((Ma 2), .inl (tc 0, 2400, .inl (Mf 2))), ((Ma 4), .inl (tc 0, 288, .inl (Mf 4))), ((Ma 5), .inl (tc 0, 6, .inl (Mf 5))), ((Ma 8), .inl (tc 1, 64, .inr (.inl (Mg 8)))), ((Ma 9), .inl (tc 1, 13, .inr (.inl g_22))), ((Ma 0), .inr (12, [.ref (Ma 1), .int (Mv 0), .int (Mv 1), .ref (Ma 2), .ref (Ma 3), .ref (Ma 4), .ref (Ma 5), .ref (Ma 6), .int (Mv 2), .int (Mv 3), .int (Mv 4), .int (Mv 5), .int (Mv 6), .int (Mv 7), .int (Mv 8), .ref (Ma 7), .int (Mv 9), .ref (Ma 8), .int (Mv 10), .ref (Ma 9), .ref (Ma 10), .int (Mv 11), .int (Mv 12), .int (Mv 13), .ref (Ma 11), .int (Mv 14), .ref (Ma 12), .ref (Ma 13), .ref (Ma 14), .ref (Ma 15), .ref (Ma 16), .long (Mj 0), .ref (Ma 17), .ref (Ma 18), .ref (Ma 19), .ref (Ma 20)])), ((Ma 10), .inl (tc 0, 126, .inl (Mf 10)))] := hD₀
    replace hS := hS₀
    clear hP₀ hD₀ hS₀
    refine lv_aload_n hx hb dX12_isWilling_74 rfl (lv_at hl 1 rfl) ?_
    refine gf_X12_36 hx hb hts hown hK hP 5 rfl rfl dX12_isWilling_75 ?_
    refine lv_iconst (v := 3) hx hb dX12_isWilling_78 (by decide) ?_
    refine lv_aload_n hx hb dX12_isWilling_79 rfl (lv_at hl 1 rfl) ?_
    refine gf_X12_39 hx hb hts hown hK hP 5 rfl rfl dX12_isWilling_80 ?_
    refine lv_bipush (v := 62) hx hb dX12_isWilling_83 (by decide) ?_
    refine lv_iload_n hx hb dX12_isWilling_85 rfl (lv_at hl 2 rfl) ?_
    refine lv_iadd hx hb dX12_isWilling_86 ?_
    refine lv_topi (fun x_23 ex_23 => ?_)
    have hi_24 : vp_in x_23 126 := by
      have z_1 := Int32.le_iff_toInt_le.mp c_10
      have y_0 : (0 : Int32).toInt = 0 := by decide
      have y_62 : (62 : Int32).toInt = 62 := by decide
      have t_x_23 : x_23.toInt = (62 : Int32).toInt + (x1 : Int32).toInt := by rw [ex_23]; exact add_toInt (by omega) (by omega)
      refine vp_in_iff.mpr ⟨?_, ?_⟩ <;> omega
    refine va_iald hx hb hK hP 6 0 rfl rfl hi_24 dX12_isWilling_87 ?_
    refine lv_topi (fun x_25 ex_25 => ?_)
    refine lv_i2l (v := (x_25).toInt64) hx hb dX12_isWilling_88 rfl ?_
    refine st_long hx hb hK hP hD hS 4 1 rfl rfl (vin_dec (by decide +kernel)) dX12_isWilling_89 (fun g_26 H locs eg_26 hP₀ hD₀ hS₀ => ?_)
    replace hP : va_P D classes [((Ma 2), .inl (tc 0, 2400, .inl (Mf 2))), ((Ma 4), .inl (tc 0, 288, .inl (Mf 4))), ((Ma 5), .inl (tc 0, 6, .inl (Mf 5))), ((Ma 8), .inl (tc 1, 64, .inr (.inl (Mg 8)))), ((Ma 9), .inl (tc 1, 13, .inr (.inl g_26))), ((Ma 0), .inr (12, [.ref (Ma 1), .int (Mv 0), .int (Mv 1), .ref (Ma 2), .ref (Ma 3), .ref (Ma 4), .ref (Ma 5), .ref (Ma 6), .int (Mv 2), .int (Mv 3), .int (Mv 4), .int (Mv 5), .int (Mv 6), .int (Mv 7), .int (Mv 8), .ref (Ma 7), .int (Mv 9), .ref (Ma 8), .int (Mv 10), .ref (Ma 9), .ref (Ma 10), .int (Mv 11), .int (Mv 12), .int (Mv 13), .ref (Ma 11), .int (Mv 14), .ref (Ma 12), .ref (Ma 13), .ref (Ma 14), .ref (Ma 15), .ref (Ma 16), .long (Mj 0), .ref (Ma 17), .ref (Ma 18), .ref (Ma 19), .ref (Ma 20)])), ((Ma 10), .inl (tc 0, 126, .inl (Mf 10)))] H := hP₀
    replace hD : va_D A [((Ma 2), .inl (tc 0, 2400, .inl (Mf 2))), ((Ma 4), .inl (tc 0, 288, .inl (Mf 4))), ((Ma 5), .inl (tc 0, 6, .inl (Mf 5))), ((Ma 8), .inl (tc 1, 64, .inr (.inl (Mg 8)))), ((Ma 9), .inl (tc 1, 13, .inr (.inl g_26))), ((Ma 0), .inr (12, [.ref (Ma 1), .int (Mv 0), .int (Mv 1), .ref (Ma 2), .ref (Ma 3), .ref (Ma 4), .ref (Ma 5), .ref (Ma 6), .int (Mv 2), .int (Mv 3), .int (Mv 4), .int (Mv 5), .int (Mv 6), .int (Mv 7), .int (Mv 8), .ref (Ma 7), .int (Mv 9), .ref (Ma 8), .int (Mv 10), .ref (Ma 9), .ref (Ma 10), .int (Mv 11), .int (Mv 12), .int (Mv 13), .ref (Ma 11), .int (Mv 14), .ref (Ma 12), .ref (Ma 13), .ref (Ma 14), .ref (Ma 15), .ref (Ma 16), .long (Mj 0), .ref (Ma 17), .ref (Ma 18), .ref (Ma 19), .ref (Ma 20)])), ((Ma 10), .inl (tc 0, 126, .inl (Mf 10)))] := hD₀
    replace hS := hS₀
    clear hP₀ hD₀ hS₀
    refine lv_aload_n hx hb dX12_isWilling_90 rfl (lv_at hl 1 rfl) ?_
    refine gf_X12_36 hx hb hts hown hK hP 5 rfl rfl dX12_isWilling_91 ?_
    refine lv_iconst (v := 4) hx hb dX12_isWilling_94 (by decide) ?_
    refine lv_iload_n hx hb dX12_isWilling_95 rfl (lv_at hl 0 rfl) ?_
    refine lv_i2l (v := (x_9).toInt64) hx hb dX12_isWilling_96 rfl ?_
    refine st_long hx hb hK hP hD hS 4 1 rfl rfl (vin_dec (by decide +kernel)) dX12_isWilling_97 (fun g_27 H locs eg_27 hP₀ hD₀ hS₀ => ?_)
    replace hP : va_P D classes [((Ma 2), .inl (tc 0, 2400, .inl (Mf 2))), ((Ma 4), .inl (tc 0, 288, .inl (Mf 4))), ((Ma 5), .inl (tc 0, 6, .inl (Mf 5))), ((Ma 8), .inl (tc 1, 64, .inr (.inl (Mg 8)))), ((Ma 9), .inl (tc 1, 13, .inr (.inl g_27))), ((Ma 0), .inr (12, [.ref (Ma 1), .int (Mv 0), .int (Mv 1), .ref (Ma 2), .ref (Ma 3), .ref (Ma 4), .ref (Ma 5), .ref (Ma 6), .int (Mv 2), .int (Mv 3), .int (Mv 4), .int (Mv 5), .int (Mv 6), .int (Mv 7), .int (Mv 8), .ref (Ma 7), .int (Mv 9), .ref (Ma 8), .int (Mv 10), .ref (Ma 9), .ref (Ma 10), .int (Mv 11), .int (Mv 12), .int (Mv 13), .ref (Ma 11), .int (Mv 14), .ref (Ma 12), .ref (Ma 13), .ref (Ma 14), .ref (Ma 15), .ref (Ma 16), .long (Mj 0), .ref (Ma 17), .ref (Ma 18), .ref (Ma 19), .ref (Ma 20)])), ((Ma 10), .inl (tc 0, 126, .inl (Mf 10)))] H := hP₀
    replace hD : va_D A [((Ma 2), .inl (tc 0, 2400, .inl (Mf 2))), ((Ma 4), .inl (tc 0, 288, .inl (Mf 4))), ((Ma 5), .inl (tc 0, 6, .inl (Mf 5))), ((Ma 8), .inl (tc 1, 64, .inr (.inl (Mg 8)))), ((Ma 9), .inl (tc 1, 13, .inr (.inl g_27))), ((Ma 0), .inr (12, [.ref (Ma 1), .int (Mv 0), .int (Mv 1), .ref (Ma 2), .ref (Ma 3), .ref (Ma 4), .ref (Ma 5), .ref (Ma 6), .int (Mv 2), .int (Mv 3), .int (Mv 4), .int (Mv 5), .int (Mv 6), .int (Mv 7), .int (Mv 8), .ref (Ma 7), .int (Mv 9), .ref (Ma 8), .int (Mv 10), .ref (Ma 9), .ref (Ma 10), .int (Mv 11), .int (Mv 12), .int (Mv 13), .ref (Ma 11), .int (Mv 14), .ref (Ma 12), .ref (Ma 13), .ref (Ma 14), .ref (Ma 15), .ref (Ma 16), .long (Mj 0), .ref (Ma 17), .ref (Ma 18), .ref (Ma 19), .ref (Ma 20)])), ((Ma 10), .inl (tc 0, 126, .inl (Mf 10)))] := hD₀
    replace hS := hS₀
    clear hP₀ hD₀ hS₀
    refine lv_aload_n hx hb dX12_isWilling_98 rfl (lv_at hl 1 rfl) ?_
    refine gf_X12_36 hx hb hts hown hK hP 5 rfl rfl dX12_isWilling_99 ?_
    refine lv_iconst (v := 5) hx hb dX12_isWilling_102 (by decide) ?_
    refine lv_aload_n hx hb dX12_isWilling_103 rfl (lv_at hl 1 rfl) ?_
    refine gf_X12_39 hx hb hts hown hK hP 5 rfl rfl dX12_isWilling_104 ?_
    refine lv_bipush (v := 36) hx hb dX12_isWilling_107 (by decide) ?_
    refine lv_aload_n hx hb dX12_isWilling_109 rfl (lv_at hl 1 rfl) ?_
    refine gf_X12_39 hx hb hts hown hK hP 5 rfl rfl dX12_isWilling_110 ?_
    refine lv_bipush (v := 10) hx hb dX12_isWilling_113 (by decide) ?_
    refine va_iald hx hb hK hP 6 0 rfl rfl (vin_dec (by decide +kernel)) dX12_isWilling_115 ?_
    refine lv_topi (fun x_28 ex_28 => ?_)
    have lx_28 : x_28.toInt = ((Mf 10) 10).toInt := congrArg Int32.toInt ex_28
    refine lv_iconst (v := 1) hx hb dX12_isWilling_116 (by decide) ?_
    refine lv_iadd hx hb dX12_isWilling_117 ?_
    refine lv_topi (fun x_29 ex_29 => ?_)
    refine lv_aload_n hx hb dX12_isWilling_118 rfl (lv_at hl 1 rfl) ?_
    refine gf_X12_39 hx hb hts hown hK hP 5 rfl rfl dX12_isWilling_119 ?_
    refine lv_iconst (v := 2) hx hb dX12_isWilling_122 (by decide) ?_
    refine va_iald hx hb hK hP 6 0 rfl rfl (vin_dec (by decide +kernel)) dX12_isWilling_123 ?_
    refine lv_topi (fun x_30 ex_30 => ?_)
    have lx_30 : x_30.toInt = ((Mf 10) 2).toInt := congrArg Int32.toInt ex_30
    have hz_31 : ¬ x_30 = 0 := by
      intro z
      have zz : (x_30 : Int32).toInt = 0 := by rw [z]; decide
      have z_1 := Int32.le_iff_toInt_le.mp c_10
      have y_0 : (0 : Int32).toInt = 0 := by decide
      omega
    refine lv_irem hx hb dX12_isWilling_124 hz_31 ?_
    refine lv_topi (fun x_32 ex_32 => ?_)
    refine lv_iadd hx hb dX12_isWilling_125 ?_
    refine lv_topi (fun x_33 ex_33 => ?_)
    have hi_34 : vp_in x_33 126 := by
      have z_1 := Int32.le_iff_toInt_le.mp c_10
      have y_0 : (0 : Int32).toInt = 0 := by decide
      have y_1 : (1 : Int32).toInt = 1 := by decide
      have y_36 : (36 : Int32).toInt = 36 := by decide
      have t_x_29 : x_29.toInt = (x_28 : Int32).toInt + (1 : Int32).toInt := by rw [ex_29]; exact add_toInt (by omega) (by omega)
      have t_x_32 := rem_bounds (x := x_29) (y := x_30) (by omega)
      rw [← ex_32] at t_x_32
      have t_x_33 : x_33.toInt = (36 : Int32).toInt + (x_32 : Int32).toInt := by rw [ex_33]; exact add_toInt (by omega) (by omega)
      refine vp_in_iff.mpr ⟨?_, ?_⟩ <;> omega
    refine va_iald hx hb hK hP 6 0 rfl rfl hi_34 dX12_isWilling_126 ?_
    refine lv_topi (fun x_35 ex_35 => ?_)
    refine lv_i2l (v := (x_35).toInt64) hx hb dX12_isWilling_127 rfl ?_
    refine st_long hx hb hK hP hD hS 4 1 rfl rfl (vin_dec (by decide +kernel)) dX12_isWilling_128 (fun g_36 H locs eg_36 hP₀ hD₀ hS₀ => ?_)
    replace hP : va_P D classes [((Ma 2), .inl (tc 0, 2400, .inl (Mf 2))), ((Ma 4), .inl (tc 0, 288, .inl (Mf 4))), ((Ma 5), .inl (tc 0, 6, .inl (Mf 5))), ((Ma 8), .inl (tc 1, 64, .inr (.inl (Mg 8)))), ((Ma 9), .inl (tc 1, 13, .inr (.inl g_36))), ((Ma 0), .inr (12, [.ref (Ma 1), .int (Mv 0), .int (Mv 1), .ref (Ma 2), .ref (Ma 3), .ref (Ma 4), .ref (Ma 5), .ref (Ma 6), .int (Mv 2), .int (Mv 3), .int (Mv 4), .int (Mv 5), .int (Mv 6), .int (Mv 7), .int (Mv 8), .ref (Ma 7), .int (Mv 9), .ref (Ma 8), .int (Mv 10), .ref (Ma 9), .ref (Ma 10), .int (Mv 11), .int (Mv 12), .int (Mv 13), .ref (Ma 11), .int (Mv 14), .ref (Ma 12), .ref (Ma 13), .ref (Ma 14), .ref (Ma 15), .ref (Ma 16), .long (Mj 0), .ref (Ma 17), .ref (Ma 18), .ref (Ma 19), .ref (Ma 20)])), ((Ma 10), .inl (tc 0, 126, .inl (Mf 10)))] H := hP₀
    replace hD : va_D A [((Ma 2), .inl (tc 0, 2400, .inl (Mf 2))), ((Ma 4), .inl (tc 0, 288, .inl (Mf 4))), ((Ma 5), .inl (tc 0, 6, .inl (Mf 5))), ((Ma 8), .inl (tc 1, 64, .inr (.inl (Mg 8)))), ((Ma 9), .inl (tc 1, 13, .inr (.inl g_36))), ((Ma 0), .inr (12, [.ref (Ma 1), .int (Mv 0), .int (Mv 1), .ref (Ma 2), .ref (Ma 3), .ref (Ma 4), .ref (Ma 5), .ref (Ma 6), .int (Mv 2), .int (Mv 3), .int (Mv 4), .int (Mv 5), .int (Mv 6), .int (Mv 7), .int (Mv 8), .ref (Ma 7), .int (Mv 9), .ref (Ma 8), .int (Mv 10), .ref (Ma 9), .ref (Ma 10), .int (Mv 11), .int (Mv 12), .int (Mv 13), .ref (Ma 11), .int (Mv 14), .ref (Ma 12), .ref (Ma 13), .ref (Ma 14), .ref (Ma 15), .ref (Ma 16), .long (Mj 0), .ref (Ma 17), .ref (Ma 18), .ref (Ma 19), .ref (Ma 20)])), ((Ma 10), .inl (tc 0, 126, .inl (Mf 10)))] := hD₀
    replace hS := hS₀
    clear hP₀ hD₀ hS₀
    refine lv_aload_n hx hb dX12_isWilling_129 rfl (lv_at hl 1 rfl) ?_
    refine gf_X12_36 hx hb hts hown hK hP 5 rfl rfl dX12_isWilling_130 ?_
    refine lv_bipush (v := 6) hx hb dX12_isWilling_133 (by decide) ?_
    refine lv_aload_n hx hb dX12_isWilling_135 rfl (lv_at hl 1 rfl) ?_
    refine gf_X12_39 hx hb hts hown hK hP 5 rfl rfl dX12_isWilling_136 ?_
    refine lv_bipush (v := 11) hx hb dX12_isWilling_139 (by decide) ?_
    refine va_iald hx hb hK hP 6 0 rfl rfl (vin_dec (by decide +kernel)) dX12_isWilling_141 ?_
    refine lv_topi (fun x_37 ex_37 => ?_)
    have lx_37 : x_37.toInt = ((Mf 10) 11).toInt := congrArg Int32.toInt ex_37
    refine lv_i2l (v := (x_37).toInt64) hx hb dX12_isWilling_142 rfl ?_
    refine st_long hx hb hK hP hD hS 4 1 rfl rfl (vin_dec (by decide +kernel)) dX12_isWilling_143 (fun g_38 H locs eg_38 hP₀ hD₀ hS₀ => ?_)
    replace hP : va_P D classes [((Ma 2), .inl (tc 0, 2400, .inl (Mf 2))), ((Ma 4), .inl (tc 0, 288, .inl (Mf 4))), ((Ma 5), .inl (tc 0, 6, .inl (Mf 5))), ((Ma 8), .inl (tc 1, 64, .inr (.inl (Mg 8)))), ((Ma 9), .inl (tc 1, 13, .inr (.inl g_38))), ((Ma 0), .inr (12, [.ref (Ma 1), .int (Mv 0), .int (Mv 1), .ref (Ma 2), .ref (Ma 3), .ref (Ma 4), .ref (Ma 5), .ref (Ma 6), .int (Mv 2), .int (Mv 3), .int (Mv 4), .int (Mv 5), .int (Mv 6), .int (Mv 7), .int (Mv 8), .ref (Ma 7), .int (Mv 9), .ref (Ma 8), .int (Mv 10), .ref (Ma 9), .ref (Ma 10), .int (Mv 11), .int (Mv 12), .int (Mv 13), .ref (Ma 11), .int (Mv 14), .ref (Ma 12), .ref (Ma 13), .ref (Ma 14), .ref (Ma 15), .ref (Ma 16), .long (Mj 0), .ref (Ma 17), .ref (Ma 18), .ref (Ma 19), .ref (Ma 20)])), ((Ma 10), .inl (tc 0, 126, .inl (Mf 10)))] H := hP₀
    replace hD : va_D A [((Ma 2), .inl (tc 0, 2400, .inl (Mf 2))), ((Ma 4), .inl (tc 0, 288, .inl (Mf 4))), ((Ma 5), .inl (tc 0, 6, .inl (Mf 5))), ((Ma 8), .inl (tc 1, 64, .inr (.inl (Mg 8)))), ((Ma 9), .inl (tc 1, 13, .inr (.inl g_38))), ((Ma 0), .inr (12, [.ref (Ma 1), .int (Mv 0), .int (Mv 1), .ref (Ma 2), .ref (Ma 3), .ref (Ma 4), .ref (Ma 5), .ref (Ma 6), .int (Mv 2), .int (Mv 3), .int (Mv 4), .int (Mv 5), .int (Mv 6), .int (Mv 7), .int (Mv 8), .ref (Ma 7), .int (Mv 9), .ref (Ma 8), .int (Mv 10), .ref (Ma 9), .ref (Ma 10), .int (Mv 11), .int (Mv 12), .int (Mv 13), .ref (Ma 11), .int (Mv 14), .ref (Ma 12), .ref (Ma 13), .ref (Ma 14), .ref (Ma 15), .ref (Ma 16), .long (Mj 0), .ref (Ma 17), .ref (Ma 18), .ref (Ma 19), .ref (Ma 20)])), ((Ma 10), .inl (tc 0, 126, .inl (Mf 10)))] := hD₀
    replace hS := hS₀
    clear hP₀ hD₀ hS₀
    refine lv_aload_n hx hb dX12_isWilling_144 rfl (lv_at hl 1 rfl) ?_
    refine gf_X12_36 hx hb hts hown hK hP 5 rfl rfl dX12_isWilling_145 ?_
    refine lv_bipush (v := 7) hx hb dX12_isWilling_148 (by decide) ?_
    refine lv_aload_n hx hb dX12_isWilling_150 rfl (lv_at hl 1 rfl) ?_
    refine lv_iload_n hx hb dX12_isWilling_151 rfl (lv_at hl 2 rfl) ?_
    refine cV (a := (Ma 0)) (As := [.int x1]) (rest := [.int 7, .ref (Ma 9)]) (wr := [((Ma 2), .inl (tc 0, 2400, .inl (Mf 2))), ((Ma 4), .inl (tc 0, 288, .inl (Mf 4))), ((Ma 5), .inl (tc 0, 6, .inl (Mf 5))), ((Ma 8), .inl (tc 1, 64, .inr (.inl (Mg 8)))), ((Ma 9), .inl (tc 1, 13, .inr (.inl g_38)))]) ⟨hx, hb, hml, hown, hts⟩ hK hX hA (cu_X12_boughtBy l D tc sk (Ma 0) (Ma 1) (Ma 2) (Ma 3) (Ma 4) (Ma 5) (Ma 6) (Ma 7) (Ma 8) (Ma 9) (Ma 10) (Ma 11) (Ma 12) (Ma 13) (Ma 14) (Ma 15) (Ma 16) (Ma 17) (Ma 18) (Ma 19) (Ma 20) (Mv 0) (Mv 1) (Mv 2) (Mv 3) (Mv 4) (Mv 5) (Mv 6) (Mv 7) (Mv 8) (Mv 9) (Mv 10) (Mv 11) (Mv 12) (Mv 13) (Mv 14) (Mf 10) (Mj 0) x1 h_b) k_1383 k_1380 k_1382 k_60 k_106 pl_X12_boughtBy ⟨Nat.le_of_ble_eq_true rfl, Nat.le_of_ble_eq_true rfl⟩ rfl rfl (va_recv hK hP (ci := 12) (q0 := 5) rfl rfl) hP hD hS [5, 6] [0, 1, 2, 3, 4] rfl rfl rfl rfl rfl (by decide) rfl hl.1 rfl (Nat.le_of_ble_eq_true rfl) dX12_isWilling_152 ⟨Nat.le_of_ble_eq_true rfl, Nat.le_of_ble_eq_true rfl⟩ (fun v_39 u_40 H locs hv_41 hP₀ hD₀ hS₀ => ?_)
    obtain ⟨r_42, rfl, he_43⟩ := hv_41
    refine W.eq (g2 := F0 m 155 ls [.int r_42, .int 7, .ref (Ma 9)]) rfl ?_
    replace hP : va_P D classes [((Ma 2), .inl (tc 0, 2400, .inl (Mf 2))), ((Ma 4), .inl (tc 0, 288, .inl (Mf 4))), ((Ma 5), .inl (tc 0, 6, .inl (Mf 5))), ((Ma 8), .inl (tc 1, 64, .inr (.inl (Mg 8)))), ((Ma 9), .inl (tc 1, 13, .inr (.inl g_38))), ((Ma 0), .inr (12, [.ref (Ma 1), .int (Mv 0), .int (Mv 1), .ref (Ma 2), .ref (Ma 3), .ref (Ma 4), .ref (Ma 5), .ref (Ma 6), .int (Mv 2), .int (Mv 3), .int (Mv 4), .int (Mv 5), .int (Mv 6), .int (Mv 7), .int (Mv 8), .ref (Ma 7), .int (Mv 9), .ref (Ma 8), .int (Mv 10), .ref (Ma 9), .ref (Ma 10), .int (Mv 11), .int (Mv 12), .int (Mv 13), .ref (Ma 11), .int (Mv 14), .ref (Ma 12), .ref (Ma 13), .ref (Ma 14), .ref (Ma 15), .ref (Ma 16), .long (Mj 0), .ref (Ma 17), .ref (Ma 18), .ref (Ma 19), .ref (Ma 20)])), ((Ma 10), .inl (tc 0, 126, .inl (Mf 10)))] H := hP₀
    replace hD : va_D A [((Ma 2), .inl (tc 0, 2400, .inl (Mf 2))), ((Ma 4), .inl (tc 0, 288, .inl (Mf 4))), ((Ma 5), .inl (tc 0, 6, .inl (Mf 5))), ((Ma 8), .inl (tc 1, 64, .inr (.inl (Mg 8)))), ((Ma 9), .inl (tc 1, 13, .inr (.inl g_38))), ((Ma 0), .inr (12, [.ref (Ma 1), .int (Mv 0), .int (Mv 1), .ref (Ma 2), .ref (Ma 3), .ref (Ma 4), .ref (Ma 5), .ref (Ma 6), .int (Mv 2), .int (Mv 3), .int (Mv 4), .int (Mv 5), .int (Mv 6), .int (Mv 7), .int (Mv 8), .ref (Ma 7), .int (Mv 9), .ref (Ma 8), .int (Mv 10), .ref (Ma 9), .ref (Ma 10), .int (Mv 11), .int (Mv 12), .int (Mv 13), .ref (Ma 11), .int (Mv 14), .ref (Ma 12), .ref (Ma 13), .ref (Ma 14), .ref (Ma 15), .ref (Ma 16), .long (Mj 0), .ref (Ma 17), .ref (Ma 18), .ref (Ma 19), .ref (Ma 20)])), ((Ma 10), .inl (tc 0, 126, .inl (Mf 10)))] := hD₀
    replace hS := hS₀
    clear hP₀ hD₀ hS₀
    refine lv_i2l (v := (r_42).toInt64) hx hb dX12_isWilling_155 rfl ?_
    refine st_long hx hb hK hP hD hS 4 1 rfl rfl (vin_dec (by decide +kernel)) dX12_isWilling_156 (fun g_45 H locs eg_45 hP₀ hD₀ hS₀ => ?_)
    replace hP : va_P D classes [((Ma 2), .inl (tc 0, 2400, .inl (Mf 2))), ((Ma 4), .inl (tc 0, 288, .inl (Mf 4))), ((Ma 5), .inl (tc 0, 6, .inl (Mf 5))), ((Ma 8), .inl (tc 1, 64, .inr (.inl (Mg 8)))), ((Ma 9), .inl (tc 1, 13, .inr (.inl g_45))), ((Ma 0), .inr (12, [.ref (Ma 1), .int (Mv 0), .int (Mv 1), .ref (Ma 2), .ref (Ma 3), .ref (Ma 4), .ref (Ma 5), .ref (Ma 6), .int (Mv 2), .int (Mv 3), .int (Mv 4), .int (Mv 5), .int (Mv 6), .int (Mv 7), .int (Mv 8), .ref (Ma 7), .int (Mv 9), .ref (Ma 8), .int (Mv 10), .ref (Ma 9), .ref (Ma 10), .int (Mv 11), .int (Mv 12), .int (Mv 13), .ref (Ma 11), .int (Mv 14), .ref (Ma 12), .ref (Ma 13), .ref (Ma 14), .ref (Ma 15), .ref (Ma 16), .long (Mj 0), .ref (Ma 17), .ref (Ma 18), .ref (Ma 19), .ref (Ma 20)])), ((Ma 10), .inl (tc 0, 126, .inl (Mf 10)))] H := hP₀
    replace hD : va_D A [((Ma 2), .inl (tc 0, 2400, .inl (Mf 2))), ((Ma 4), .inl (tc 0, 288, .inl (Mf 4))), ((Ma 5), .inl (tc 0, 6, .inl (Mf 5))), ((Ma 8), .inl (tc 1, 64, .inr (.inl (Mg 8)))), ((Ma 9), .inl (tc 1, 13, .inr (.inl g_45))), ((Ma 0), .inr (12, [.ref (Ma 1), .int (Mv 0), .int (Mv 1), .ref (Ma 2), .ref (Ma 3), .ref (Ma 4), .ref (Ma 5), .ref (Ma 6), .int (Mv 2), .int (Mv 3), .int (Mv 4), .int (Mv 5), .int (Mv 6), .int (Mv 7), .int (Mv 8), .ref (Ma 7), .int (Mv 9), .ref (Ma 8), .int (Mv 10), .ref (Ma 9), .ref (Ma 10), .int (Mv 11), .int (Mv 12), .int (Mv 13), .ref (Ma 11), .int (Mv 14), .ref (Ma 12), .ref (Ma 13), .ref (Ma 14), .ref (Ma 15), .ref (Ma 16), .long (Mj 0), .ref (Ma 17), .ref (Ma 18), .ref (Ma 19), .ref (Ma 20)])), ((Ma 10), .inl (tc 0, 126, .inl (Mf 10)))] := hD₀
    replace hS := hS₀
    clear hP₀ hD₀ hS₀
    refine lv_aload_n hx hb dX12_isWilling_157 rfl (lv_at hl 1 rfl) ?_
    refine gf_X12_36 hx hb hts hown hK hP 5 rfl rfl dX12_isWilling_158 ?_
    refine lv_bipush (v := 8) hx hb dX12_isWilling_161 (by decide) ?_
    refine lv_aload_n hx hb dX12_isWilling_163 rfl (lv_at hl 1 rfl) ?_
    refine lv_iload_n hx hb dX12_isWilling_164 rfl (lv_at hl 2 rfl) ?_
    refine cV (a := (Ma 0)) (As := [.int x1]) (rest := [.int 8, .ref (Ma 9)]) (wr := [((Ma 2), .inl (tc 0, 2400, .inl (Mf 2))), ((Ma 4), .inl (tc 0, 288, .inl (Mf 4))), ((Ma 5), .inl (tc 0, 6, .inl (Mf 5))), ((Ma 8), .inl (tc 1, 64, .inr (.inl (Mg 8)))), ((Ma 9), .inl (tc 1, 13, .inr (.inl g_45)))]) ⟨hx, hb, hml, hown, hts⟩ hK hX hA (cu_X12_metOf l D tc sk (Ma 0) (Ma 1) (Ma 2) (Ma 3) (Ma 4) (Ma 5) (Ma 6) (Ma 7) (Ma 8) (Ma 9) (Ma 10) (Ma 11) (Ma 12) (Ma 13) (Ma 14) (Ma 15) (Ma 16) (Ma 17) (Ma 18) (Ma 19) (Ma 20) (Mv 0) (Mv 1) (Mv 2) (Mv 3) (Mv 4) (Mv 5) (Mv 6) (Mv 7) (Mv 8) (Mv 9) (Mv 10) (Mv 11) (Mv 12) (Mv 13) (Mv 14) (Mf 10) (Mj 0) x1 h_b) k_1387 k_1384 k_1386 k_61 k_106 pl_X12_metOf ⟨Nat.le_of_ble_eq_true rfl, Nat.le_of_ble_eq_true rfl⟩ rfl rfl (va_recv hK hP (ci := 12) (q0 := 5) rfl rfl) hP hD hS [5, 6] [0, 1, 2, 3, 4] rfl rfl rfl rfl rfl (by decide) rfl hl.1 rfl (Nat.le_of_ble_eq_true rfl) dX12_isWilling_165 ⟨Nat.le_of_ble_eq_true rfl, Nat.le_of_ble_eq_true rfl⟩ (fun v_46 u_47 H locs hv_48 hP₀ hD₀ hS₀ => ?_)
    obtain ⟨r_49, rfl, he_50⟩ := hv_48
    refine W.eq (g2 := F0 m 168 ls [.int r_49, .int 8, .ref (Ma 9)]) rfl ?_
    replace hP : va_P D classes [((Ma 2), .inl (tc 0, 2400, .inl (Mf 2))), ((Ma 4), .inl (tc 0, 288, .inl (Mf 4))), ((Ma 5), .inl (tc 0, 6, .inl (Mf 5))), ((Ma 8), .inl (tc 1, 64, .inr (.inl (Mg 8)))), ((Ma 9), .inl (tc 1, 13, .inr (.inl g_45))), ((Ma 0), .inr (12, [.ref (Ma 1), .int (Mv 0), .int (Mv 1), .ref (Ma 2), .ref (Ma 3), .ref (Ma 4), .ref (Ma 5), .ref (Ma 6), .int (Mv 2), .int (Mv 3), .int (Mv 4), .int (Mv 5), .int (Mv 6), .int (Mv 7), .int (Mv 8), .ref (Ma 7), .int (Mv 9), .ref (Ma 8), .int (Mv 10), .ref (Ma 9), .ref (Ma 10), .int (Mv 11), .int (Mv 12), .int (Mv 13), .ref (Ma 11), .int (Mv 14), .ref (Ma 12), .ref (Ma 13), .ref (Ma 14), .ref (Ma 15), .ref (Ma 16), .long (Mj 0), .ref (Ma 17), .ref (Ma 18), .ref (Ma 19), .ref (Ma 20)])), ((Ma 10), .inl (tc 0, 126, .inl (Mf 10)))] H := hP₀
    replace hD : va_D A [((Ma 2), .inl (tc 0, 2400, .inl (Mf 2))), ((Ma 4), .inl (tc 0, 288, .inl (Mf 4))), ((Ma 5), .inl (tc 0, 6, .inl (Mf 5))), ((Ma 8), .inl (tc 1, 64, .inr (.inl (Mg 8)))), ((Ma 9), .inl (tc 1, 13, .inr (.inl g_45))), ((Ma 0), .inr (12, [.ref (Ma 1), .int (Mv 0), .int (Mv 1), .ref (Ma 2), .ref (Ma 3), .ref (Ma 4), .ref (Ma 5), .ref (Ma 6), .int (Mv 2), .int (Mv 3), .int (Mv 4), .int (Mv 5), .int (Mv 6), .int (Mv 7), .int (Mv 8), .ref (Ma 7), .int (Mv 9), .ref (Ma 8), .int (Mv 10), .ref (Ma 9), .ref (Ma 10), .int (Mv 11), .int (Mv 12), .int (Mv 13), .ref (Ma 11), .int (Mv 14), .ref (Ma 12), .ref (Ma 13), .ref (Ma 14), .ref (Ma 15), .ref (Ma 16), .long (Mj 0), .ref (Ma 17), .ref (Ma 18), .ref (Ma 19), .ref (Ma 20)])), ((Ma 10), .inl (tc 0, 126, .inl (Mf 10)))] := hD₀
    replace hS := hS₀
    clear hP₀ hD₀ hS₀
    refine lv_i2l (v := (r_49).toInt64) hx hb dX12_isWilling_168 rfl ?_
    refine st_long hx hb hK hP hD hS 4 1 rfl rfl (vin_dec (by decide +kernel)) dX12_isWilling_169 (fun g_52 H locs eg_52 hP₀ hD₀ hS₀ => ?_)
    replace hP : va_P D classes [((Ma 2), .inl (tc 0, 2400, .inl (Mf 2))), ((Ma 4), .inl (tc 0, 288, .inl (Mf 4))), ((Ma 5), .inl (tc 0, 6, .inl (Mf 5))), ((Ma 8), .inl (tc 1, 64, .inr (.inl (Mg 8)))), ((Ma 9), .inl (tc 1, 13, .inr (.inl g_52))), ((Ma 0), .inr (12, [.ref (Ma 1), .int (Mv 0), .int (Mv 1), .ref (Ma 2), .ref (Ma 3), .ref (Ma 4), .ref (Ma 5), .ref (Ma 6), .int (Mv 2), .int (Mv 3), .int (Mv 4), .int (Mv 5), .int (Mv 6), .int (Mv 7), .int (Mv 8), .ref (Ma 7), .int (Mv 9), .ref (Ma 8), .int (Mv 10), .ref (Ma 9), .ref (Ma 10), .int (Mv 11), .int (Mv 12), .int (Mv 13), .ref (Ma 11), .int (Mv 14), .ref (Ma 12), .ref (Ma 13), .ref (Ma 14), .ref (Ma 15), .ref (Ma 16), .long (Mj 0), .ref (Ma 17), .ref (Ma 18), .ref (Ma 19), .ref (Ma 20)])), ((Ma 10), .inl (tc 0, 126, .inl (Mf 10)))] H := hP₀
    replace hD : va_D A [((Ma 2), .inl (tc 0, 2400, .inl (Mf 2))), ((Ma 4), .inl (tc 0, 288, .inl (Mf 4))), ((Ma 5), .inl (tc 0, 6, .inl (Mf 5))), ((Ma 8), .inl (tc 1, 64, .inr (.inl (Mg 8)))), ((Ma 9), .inl (tc 1, 13, .inr (.inl g_52))), ((Ma 0), .inr (12, [.ref (Ma 1), .int (Mv 0), .int (Mv 1), .ref (Ma 2), .ref (Ma 3), .ref (Ma 4), .ref (Ma 5), .ref (Ma 6), .int (Mv 2), .int (Mv 3), .int (Mv 4), .int (Mv 5), .int (Mv 6), .int (Mv 7), .int (Mv 8), .ref (Ma 7), .int (Mv 9), .ref (Ma 8), .int (Mv 10), .ref (Ma 9), .ref (Ma 10), .int (Mv 11), .int (Mv 12), .int (Mv 13), .ref (Ma 11), .int (Mv 14), .ref (Ma 12), .ref (Ma 13), .ref (Ma 14), .ref (Ma 15), .ref (Ma 16), .long (Mj 0), .ref (Ma 17), .ref (Ma 18), .ref (Ma 19), .ref (Ma 20)])), ((Ma 10), .inl (tc 0, 126, .inl (Mf 10)))] := hD₀
    replace hS := hS₀
    clear hP₀ hD₀ hS₀
    refine lv_aload_n hx hb dX12_isWilling_170 rfl (lv_at hl 1 rfl) ?_
    refine gf_X12_36 hx hb hts hown hK hP 5 rfl rfl dX12_isWilling_171 ?_
    refine lv_bipush (v := 9) hx hb dX12_isWilling_174 (by decide) ?_
    refine lv_aload_n hx hb dX12_isWilling_176 rfl (lv_at hl 1 rfl) ?_
    refine lv_iload_n hx hb dX12_isWilling_177 rfl (lv_at hl 2 rfl) ?_
    refine cV (a := (Ma 0)) (As := [.int x1]) (rest := [.int 9, .ref (Ma 9)]) (wr := [((Ma 2), .inl (tc 0, 2400, .inl (Mf 2))), ((Ma 4), .inl (tc 0, 288, .inl (Mf 4))), ((Ma 5), .inl (tc 0, 6, .inl (Mf 5))), ((Ma 8), .inl (tc 1, 64, .inr (.inl (Mg 8)))), ((Ma 9), .inl (tc 1, 13, .inr (.inl g_52)))]) ⟨hx, hb, hml, hown, hts⟩ hK hX hA (cu_X12_sinceOf l D tc sk (Ma 0) (Ma 1) (Ma 2) (Ma 3) (Ma 4) (Ma 5) (Ma 6) (Ma 7) (Ma 8) (Ma 9) (Ma 10) (Ma 11) (Ma 12) (Ma 13) (Ma 14) (Ma 15) (Ma 16) (Ma 17) (Ma 18) (Ma 19) (Ma 20) (Mv 0) (Mv 1) (Mv 2) (Mv 3) (Mv 4) (Mv 5) (Mv 6) (Mv 7) (Mv 8) (Mv 9) (Mv 10) (Mv 11) (Mv 12) (Mv 13) (Mv 14) (Mf 10) (Mj 0) x1 h_b) k_1391 k_1388 k_1390 k_62 k_106 pl_X12_sinceOf ⟨Nat.le_of_ble_eq_true rfl, Nat.le_of_ble_eq_true rfl⟩ rfl rfl (va_recv hK hP (ci := 12) (q0 := 5) rfl rfl) hP hD hS [5, 6] [0, 1, 2, 3, 4] rfl rfl rfl rfl rfl (by decide) rfl hl.1 rfl (Nat.le_of_ble_eq_true rfl) dX12_isWilling_178 ⟨Nat.le_of_ble_eq_true rfl, Nat.le_of_ble_eq_true rfl⟩ (fun v_53 u_54 H locs hv_55 hP₀ hD₀ hS₀ => ?_)
    obtain ⟨r_56, rfl, he_57⟩ := hv_55
    refine W.eq (g2 := F0 m 181 ls [.int r_56, .int 9, .ref (Ma 9)]) rfl ?_
    replace hP : va_P D classes [((Ma 2), .inl (tc 0, 2400, .inl (Mf 2))), ((Ma 4), .inl (tc 0, 288, .inl (Mf 4))), ((Ma 5), .inl (tc 0, 6, .inl (Mf 5))), ((Ma 8), .inl (tc 1, 64, .inr (.inl (Mg 8)))), ((Ma 9), .inl (tc 1, 13, .inr (.inl g_52))), ((Ma 0), .inr (12, [.ref (Ma 1), .int (Mv 0), .int (Mv 1), .ref (Ma 2), .ref (Ma 3), .ref (Ma 4), .ref (Ma 5), .ref (Ma 6), .int (Mv 2), .int (Mv 3), .int (Mv 4), .int (Mv 5), .int (Mv 6), .int (Mv 7), .int (Mv 8), .ref (Ma 7), .int (Mv 9), .ref (Ma 8), .int (Mv 10), .ref (Ma 9), .ref (Ma 10), .int (Mv 11), .int (Mv 12), .int (Mv 13), .ref (Ma 11), .int (Mv 14), .ref (Ma 12), .ref (Ma 13), .ref (Ma 14), .ref (Ma 15), .ref (Ma 16), .long (Mj 0), .ref (Ma 17), .ref (Ma 18), .ref (Ma 19), .ref (Ma 20)])), ((Ma 10), .inl (tc 0, 126, .inl (Mf 10)))] H := hP₀
    replace hD : va_D A [((Ma 2), .inl (tc 0, 2400, .inl (Mf 2))), ((Ma 4), .inl (tc 0, 288, .inl (Mf 4))), ((Ma 5), .inl (tc 0, 6, .inl (Mf 5))), ((Ma 8), .inl (tc 1, 64, .inr (.inl (Mg 8)))), ((Ma 9), .inl (tc 1, 13, .inr (.inl g_52))), ((Ma 0), .inr (12, [.ref (Ma 1), .int (Mv 0), .int (Mv 1), .ref (Ma 2), .ref (Ma 3), .ref (Ma 4), .ref (Ma 5), .ref (Ma 6), .int (Mv 2), .int (Mv 3), .int (Mv 4), .int (Mv 5), .int (Mv 6), .int (Mv 7), .int (Mv 8), .ref (Ma 7), .int (Mv 9), .ref (Ma 8), .int (Mv 10), .ref (Ma 9), .ref (Ma 10), .int (Mv 11), .int (Mv 12), .int (Mv 13), .ref (Ma 11), .int (Mv 14), .ref (Ma 12), .ref (Ma 13), .ref (Ma 14), .ref (Ma 15), .ref (Ma 16), .long (Mj 0), .ref (Ma 17), .ref (Ma 18), .ref (Ma 19), .ref (Ma 20)])), ((Ma 10), .inl (tc 0, 126, .inl (Mf 10)))] := hD₀
    replace hS := hS₀
    clear hP₀ hD₀ hS₀
    refine lv_i2l (v := (r_56).toInt64) hx hb dX12_isWilling_181 rfl ?_
    refine st_long hx hb hK hP hD hS 4 1 rfl rfl (vin_dec (by decide +kernel)) dX12_isWilling_182 (fun g_59 H locs eg_59 hP₀ hD₀ hS₀ => ?_)
    replace hP : va_P D classes [((Ma 2), .inl (tc 0, 2400, .inl (Mf 2))), ((Ma 4), .inl (tc 0, 288, .inl (Mf 4))), ((Ma 5), .inl (tc 0, 6, .inl (Mf 5))), ((Ma 8), .inl (tc 1, 64, .inr (.inl (Mg 8)))), ((Ma 9), .inl (tc 1, 13, .inr (.inl g_59))), ((Ma 0), .inr (12, [.ref (Ma 1), .int (Mv 0), .int (Mv 1), .ref (Ma 2), .ref (Ma 3), .ref (Ma 4), .ref (Ma 5), .ref (Ma 6), .int (Mv 2), .int (Mv 3), .int (Mv 4), .int (Mv 5), .int (Mv 6), .int (Mv 7), .int (Mv 8), .ref (Ma 7), .int (Mv 9), .ref (Ma 8), .int (Mv 10), .ref (Ma 9), .ref (Ma 10), .int (Mv 11), .int (Mv 12), .int (Mv 13), .ref (Ma 11), .int (Mv 14), .ref (Ma 12), .ref (Ma 13), .ref (Ma 14), .ref (Ma 15), .ref (Ma 16), .long (Mj 0), .ref (Ma 17), .ref (Ma 18), .ref (Ma 19), .ref (Ma 20)])), ((Ma 10), .inl (tc 0, 126, .inl (Mf 10)))] H := hP₀
    replace hD : va_D A [((Ma 2), .inl (tc 0, 2400, .inl (Mf 2))), ((Ma 4), .inl (tc 0, 288, .inl (Mf 4))), ((Ma 5), .inl (tc 0, 6, .inl (Mf 5))), ((Ma 8), .inl (tc 1, 64, .inr (.inl (Mg 8)))), ((Ma 9), .inl (tc 1, 13, .inr (.inl g_59))), ((Ma 0), .inr (12, [.ref (Ma 1), .int (Mv 0), .int (Mv 1), .ref (Ma 2), .ref (Ma 3), .ref (Ma 4), .ref (Ma 5), .ref (Ma 6), .int (Mv 2), .int (Mv 3), .int (Mv 4), .int (Mv 5), .int (Mv 6), .int (Mv 7), .int (Mv 8), .ref (Ma 7), .int (Mv 9), .ref (Ma 8), .int (Mv 10), .ref (Ma 9), .ref (Ma 10), .int (Mv 11), .int (Mv 12), .int (Mv 13), .ref (Ma 11), .int (Mv 14), .ref (Ma 12), .ref (Ma 13), .ref (Ma 14), .ref (Ma 15), .ref (Ma 16), .long (Mj 0), .ref (Ma 17), .ref (Ma 18), .ref (Ma 19), .ref (Ma 20)])), ((Ma 10), .inl (tc 0, 126, .inl (Mf 10)))] := hD₀
    replace hS := hS₀
    clear hP₀ hD₀ hS₀
    refine lv_aload_n hx hb dX12_isWilling_183 rfl (lv_at hl 1 rfl) ?_
    refine gf_X12_36 hx hb hts hown hK hP 5 rfl rfl dX12_isWilling_184 ?_
    refine lv_bipush (v := 10) hx hb dX12_isWilling_187 (by decide) ?_
    refine lv_aload_n hx hb dX12_isWilling_189 rfl (lv_at hl 1 rfl) ?_
    refine cV (a := (Ma 0)) (As := []) (rest := [.int 10, .ref (Ma 9)]) (wr := [((Ma 2), .inl (tc 0, 2400, .inl (Mf 2))), ((Ma 4), .inl (tc 0, 288, .inl (Mf 4))), ((Ma 5), .inl (tc 0, 6, .inl (Mf 5))), ((Ma 8), .inl (tc 1, 64, .inr (.inl (Mg 8)))), ((Ma 9), .inl (tc 1, 13, .inr (.inl g_59)))]) ⟨hx, hb, hml, hown, hts⟩ hK hX hA (cu_X12_soldAll l D tc sk (Ma 0) (Ma 1) (Ma 2) (Ma 3) (Ma 4) (Ma 5) (Ma 6) (Ma 7) (Ma 8) (Ma 9) (Ma 10) (Ma 11) (Ma 12) (Ma 13) (Ma 14) (Ma 15) (Ma 16) (Ma 17) (Ma 18) (Ma 19) (Ma 20) (Mv 0) (Mv 1) (Mv 2) (Mv 3) (Mv 4) (Mv 5) (Mv 6) (Mv 7) (Mv 8) (Mv 9) (Mv 10) (Mv 11) (Mv 12) (Mv 13) (Mv 14) (Mf 10) (Mj 0) h_said.1) k_1439 k_1436 k_1438 k_71 k_106 pl_X12_soldAll ⟨Nat.le_of_ble_eq_true rfl, Nat.le_of_ble_eq_true rfl⟩ rfl rfl (va_recv hK hP (ci := 12) (q0 := 5) rfl rfl) hP hD hS [5, 6] [0, 1, 2, 3, 4] rfl rfl rfl rfl rfl (by decide) rfl hl.1 rfl (Nat.le_of_ble_eq_true rfl) dX12_isWilling_190 ⟨Nat.le_of_ble_eq_true rfl, Nat.le_of_ble_eq_true rfl⟩ (fun v_60 u_61 H locs hv_62 hP₀ hD₀ hS₀ => ?_)
    obtain ⟨r_63, rfl, he_64⟩ := hv_62
    refine W.eq (g2 := F0 m 193 ls [.int r_63, .int 10, .ref (Ma 9)]) rfl ?_
    replace hP : va_P D classes [((Ma 2), .inl (tc 0, 2400, .inl (Mf 2))), ((Ma 4), .inl (tc 0, 288, .inl (Mf 4))), ((Ma 5), .inl (tc 0, 6, .inl (Mf 5))), ((Ma 8), .inl (tc 1, 64, .inr (.inl (Mg 8)))), ((Ma 9), .inl (tc 1, 13, .inr (.inl g_59))), ((Ma 0), .inr (12, [.ref (Ma 1), .int (Mv 0), .int (Mv 1), .ref (Ma 2), .ref (Ma 3), .ref (Ma 4), .ref (Ma 5), .ref (Ma 6), .int (Mv 2), .int (Mv 3), .int (Mv 4), .int (Mv 5), .int (Mv 6), .int (Mv 7), .int (Mv 8), .ref (Ma 7), .int (Mv 9), .ref (Ma 8), .int (Mv 10), .ref (Ma 9), .ref (Ma 10), .int (Mv 11), .int (Mv 12), .int (Mv 13), .ref (Ma 11), .int (Mv 14), .ref (Ma 12), .ref (Ma 13), .ref (Ma 14), .ref (Ma 15), .ref (Ma 16), .long (Mj 0), .ref (Ma 17), .ref (Ma 18), .ref (Ma 19), .ref (Ma 20)])), ((Ma 10), .inl (tc 0, 126, .inl (Mf 10)))] H := hP₀
    replace hD : va_D A [((Ma 2), .inl (tc 0, 2400, .inl (Mf 2))), ((Ma 4), .inl (tc 0, 288, .inl (Mf 4))), ((Ma 5), .inl (tc 0, 6, .inl (Mf 5))), ((Ma 8), .inl (tc 1, 64, .inr (.inl (Mg 8)))), ((Ma 9), .inl (tc 1, 13, .inr (.inl g_59))), ((Ma 0), .inr (12, [.ref (Ma 1), .int (Mv 0), .int (Mv 1), .ref (Ma 2), .ref (Ma 3), .ref (Ma 4), .ref (Ma 5), .ref (Ma 6), .int (Mv 2), .int (Mv 3), .int (Mv 4), .int (Mv 5), .int (Mv 6), .int (Mv 7), .int (Mv 8), .ref (Ma 7), .int (Mv 9), .ref (Ma 8), .int (Mv 10), .ref (Ma 9), .ref (Ma 10), .int (Mv 11), .int (Mv 12), .int (Mv 13), .ref (Ma 11), .int (Mv 14), .ref (Ma 12), .ref (Ma 13), .ref (Ma 14), .ref (Ma 15), .ref (Ma 16), .long (Mj 0), .ref (Ma 17), .ref (Ma 18), .ref (Ma 19), .ref (Ma 20)])), ((Ma 10), .inl (tc 0, 126, .inl (Mf 10)))] := hD₀
    replace hS := hS₀
    clear hP₀ hD₀ hS₀
    refine lv_i2l (v := (r_63).toInt64) hx hb dX12_isWilling_193 rfl ?_
    refine st_long hx hb hK hP hD hS 4 1 rfl rfl (vin_dec (by decide +kernel)) dX12_isWilling_194 (fun g_66 H locs eg_66 hP₀ hD₀ hS₀ => ?_)
    replace hP : va_P D classes [((Ma 2), .inl (tc 0, 2400, .inl (Mf 2))), ((Ma 4), .inl (tc 0, 288, .inl (Mf 4))), ((Ma 5), .inl (tc 0, 6, .inl (Mf 5))), ((Ma 8), .inl (tc 1, 64, .inr (.inl (Mg 8)))), ((Ma 9), .inl (tc 1, 13, .inr (.inl g_66))), ((Ma 0), .inr (12, [.ref (Ma 1), .int (Mv 0), .int (Mv 1), .ref (Ma 2), .ref (Ma 3), .ref (Ma 4), .ref (Ma 5), .ref (Ma 6), .int (Mv 2), .int (Mv 3), .int (Mv 4), .int (Mv 5), .int (Mv 6), .int (Mv 7), .int (Mv 8), .ref (Ma 7), .int (Mv 9), .ref (Ma 8), .int (Mv 10), .ref (Ma 9), .ref (Ma 10), .int (Mv 11), .int (Mv 12), .int (Mv 13), .ref (Ma 11), .int (Mv 14), .ref (Ma 12), .ref (Ma 13), .ref (Ma 14), .ref (Ma 15), .ref (Ma 16), .long (Mj 0), .ref (Ma 17), .ref (Ma 18), .ref (Ma 19), .ref (Ma 20)])), ((Ma 10), .inl (tc 0, 126, .inl (Mf 10)))] H := hP₀
    replace hD : va_D A [((Ma 2), .inl (tc 0, 2400, .inl (Mf 2))), ((Ma 4), .inl (tc 0, 288, .inl (Mf 4))), ((Ma 5), .inl (tc 0, 6, .inl (Mf 5))), ((Ma 8), .inl (tc 1, 64, .inr (.inl (Mg 8)))), ((Ma 9), .inl (tc 1, 13, .inr (.inl g_66))), ((Ma 0), .inr (12, [.ref (Ma 1), .int (Mv 0), .int (Mv 1), .ref (Ma 2), .ref (Ma 3), .ref (Ma 4), .ref (Ma 5), .ref (Ma 6), .int (Mv 2), .int (Mv 3), .int (Mv 4), .int (Mv 5), .int (Mv 6), .int (Mv 7), .int (Mv 8), .ref (Ma 7), .int (Mv 9), .ref (Ma 8), .int (Mv 10), .ref (Ma 9), .ref (Ma 10), .int (Mv 11), .int (Mv 12), .int (Mv 13), .ref (Ma 11), .int (Mv 14), .ref (Ma 12), .ref (Ma 13), .ref (Ma 14), .ref (Ma 15), .ref (Ma 16), .long (Mj 0), .ref (Ma 17), .ref (Ma 18), .ref (Ma 19), .ref (Ma 20)])), ((Ma 10), .inl (tc 0, 126, .inl (Mf 10)))] := hD₀
    replace hS := hS₀
    clear hP₀ hD₀ hS₀
    refine lv_aload_n hx hb dX12_isWilling_195 rfl (lv_at hl 1 rfl) ?_
    refine gf_X12_36 hx hb hts hown hK hP 5 rfl rfl dX12_isWilling_196 ?_
    refine lv_bipush (v := 11) hx hb dX12_isWilling_199 (by decide) ?_
    refine lv_aload_n hx hb dX12_isWilling_201 rfl (lv_at hl 1 rfl) ?_
    refine cV (a := (Ma 0)) (As := []) (rest := [.int 11, .ref (Ma 9)]) (wr := [((Ma 2), .inl (tc 0, 2400, .inl (Mf 2))), ((Ma 4), .inl (tc 0, 288, .inl (Mf 4))), ((Ma 5), .inl (tc 0, 6, .inl (Mf 5))), ((Ma 8), .inl (tc 1, 64, .inr (.inl (Mg 8)))), ((Ma 9), .inl (tc 1, 13, .inr (.inl g_66)))]) ⟨hx, hb, hml, hown, hts⟩ hK hX hA (cu_X12_clock l D tc sk (Ma 0) (Ma 1) (Ma 2) (Ma 3) (Ma 4) (Ma 5) (Ma 6) (Ma 7) (Ma 8) (Ma 9) (Ma 10) (Ma 11) (Ma 12) (Ma 13) (Ma 14) (Ma 15) (Ma 16) (Ma 17) (Ma 18) (Ma 19) (Ma 20) (Mv 0) (Mv 1) (Mv 2) (Mv 3) (Mv 4) (Mv 5) (Mv 6) (Mv 7) (Mv 8) (Mv 9) (Mv 10) (Mv 11) (Mv 12) (Mv 13) (Mv 14) (Mf 10) (Mj 0) d h_said) k_1435 k_1432 k_1434 k_70 k_106 pl_X12_clock ⟨Nat.le_of_ble_eq_true rfl, Nat.le_of_ble_eq_true rfl⟩ rfl rfl (va_recv hK hP (ci := 12) (q0 := 5) rfl rfl) hP hD hS [5, 6] [0, 1, 2, 3, 4] rfl rfl rfl rfl rfl (by decide) rfl hl.1 rfl (Nat.le_of_ble_eq_true rfl) dX12_isWilling_202 ⟨Nat.le_of_ble_eq_true rfl, Nat.le_of_ble_eq_true rfl⟩ (fun v_67 u_68 H locs hv_69 hP₀ hD₀ hS₀ => ?_)
    obtain ⟨r_70, rfl, he_71⟩ := hv_69
    have he_71 : (0 ≤ r_70.toInt ∧ r_70.toInt < 10) := he_71
    refine W.eq (g2 := F0 m 205 ls [.int r_70, .int 11, .ref (Ma 9)]) rfl ?_
    replace hP : va_P D classes [((Ma 2), .inl (tc 0, 2400, .inl (Mf 2))), ((Ma 4), .inl (tc 0, 288, .inl (Mf 4))), ((Ma 5), .inl (tc 0, 6, .inl (Mf 5))), ((Ma 8), .inl (tc 1, 64, .inr (.inl (Mg 8)))), ((Ma 9), .inl (tc 1, 13, .inr (.inl g_66))), ((Ma 0), .inr (12, [.ref (Ma 1), .int (Mv 0), .int (Mv 1), .ref (Ma 2), .ref (Ma 3), .ref (Ma 4), .ref (Ma 5), .ref (Ma 6), .int (Mv 2), .int (Mv 3), .int (Mv 4), .int (Mv 5), .int (Mv 6), .int (Mv 7), .int (Mv 8), .ref (Ma 7), .int (Mv 9), .ref (Ma 8), .int (Mv 10), .ref (Ma 9), .ref (Ma 10), .int (Mv 11), .int (Mv 12), .int (Mv 13), .ref (Ma 11), .int (Mv 14), .ref (Ma 12), .ref (Ma 13), .ref (Ma 14), .ref (Ma 15), .ref (Ma 16), .long (Mj 0), .ref (Ma 17), .ref (Ma 18), .ref (Ma 19), .ref (Ma 20)])), ((Ma 10), .inl (tc 0, 126, .inl (Mf 10)))] H := hP₀
    replace hD : va_D A [((Ma 2), .inl (tc 0, 2400, .inl (Mf 2))), ((Ma 4), .inl (tc 0, 288, .inl (Mf 4))), ((Ma 5), .inl (tc 0, 6, .inl (Mf 5))), ((Ma 8), .inl (tc 1, 64, .inr (.inl (Mg 8)))), ((Ma 9), .inl (tc 1, 13, .inr (.inl g_66))), ((Ma 0), .inr (12, [.ref (Ma 1), .int (Mv 0), .int (Mv 1), .ref (Ma 2), .ref (Ma 3), .ref (Ma 4), .ref (Ma 5), .ref (Ma 6), .int (Mv 2), .int (Mv 3), .int (Mv 4), .int (Mv 5), .int (Mv 6), .int (Mv 7), .int (Mv 8), .ref (Ma 7), .int (Mv 9), .ref (Ma 8), .int (Mv 10), .ref (Ma 9), .ref (Ma 10), .int (Mv 11), .int (Mv 12), .int (Mv 13), .ref (Ma 11), .int (Mv 14), .ref (Ma 12), .ref (Ma 13), .ref (Ma 14), .ref (Ma 15), .ref (Ma 16), .long (Mj 0), .ref (Ma 17), .ref (Ma 18), .ref (Ma 19), .ref (Ma 20)])), ((Ma 10), .inl (tc 0, 126, .inl (Mf 10)))] := hD₀
    replace hS := hS₀
    clear hP₀ hD₀ hS₀
    refine lv_i2l (v := (r_70).toInt64) hx hb dX12_isWilling_205 rfl ?_
    refine st_long hx hb hK hP hD hS 4 1 rfl rfl (vin_dec (by decide +kernel)) dX12_isWilling_206 (fun g_73 H locs eg_73 hP₀ hD₀ hS₀ => ?_)
    replace hP : va_P D classes [((Ma 2), .inl (tc 0, 2400, .inl (Mf 2))), ((Ma 4), .inl (tc 0, 288, .inl (Mf 4))), ((Ma 5), .inl (tc 0, 6, .inl (Mf 5))), ((Ma 8), .inl (tc 1, 64, .inr (.inl (Mg 8)))), ((Ma 9), .inl (tc 1, 13, .inr (.inl g_73))), ((Ma 0), .inr (12, [.ref (Ma 1), .int (Mv 0), .int (Mv 1), .ref (Ma 2), .ref (Ma 3), .ref (Ma 4), .ref (Ma 5), .ref (Ma 6), .int (Mv 2), .int (Mv 3), .int (Mv 4), .int (Mv 5), .int (Mv 6), .int (Mv 7), .int (Mv 8), .ref (Ma 7), .int (Mv 9), .ref (Ma 8), .int (Mv 10), .ref (Ma 9), .ref (Ma 10), .int (Mv 11), .int (Mv 12), .int (Mv 13), .ref (Ma 11), .int (Mv 14), .ref (Ma 12), .ref (Ma 13), .ref (Ma 14), .ref (Ma 15), .ref (Ma 16), .long (Mj 0), .ref (Ma 17), .ref (Ma 18), .ref (Ma 19), .ref (Ma 20)])), ((Ma 10), .inl (tc 0, 126, .inl (Mf 10)))] H := hP₀
    replace hD : va_D A [((Ma 2), .inl (tc 0, 2400, .inl (Mf 2))), ((Ma 4), .inl (tc 0, 288, .inl (Mf 4))), ((Ma 5), .inl (tc 0, 6, .inl (Mf 5))), ((Ma 8), .inl (tc 1, 64, .inr (.inl (Mg 8)))), ((Ma 9), .inl (tc 1, 13, .inr (.inl g_73))), ((Ma 0), .inr (12, [.ref (Ma 1), .int (Mv 0), .int (Mv 1), .ref (Ma 2), .ref (Ma 3), .ref (Ma 4), .ref (Ma 5), .ref (Ma 6), .int (Mv 2), .int (Mv 3), .int (Mv 4), .int (Mv 5), .int (Mv 6), .int (Mv 7), .int (Mv 8), .ref (Ma 7), .int (Mv 9), .ref (Ma 8), .int (Mv 10), .ref (Ma 9), .ref (Ma 10), .int (Mv 11), .int (Mv 12), .int (Mv 13), .ref (Ma 11), .int (Mv 14), .ref (Ma 12), .ref (Ma 13), .ref (Ma 14), .ref (Ma 15), .ref (Ma 16), .long (Mj 0), .ref (Ma 17), .ref (Ma 18), .ref (Ma 19), .ref (Ma 20)])), ((Ma 10), .inl (tc 0, 126, .inl (Mf 10)))] := hD₀
    replace hS := hS₀
    clear hP₀ hD₀ hS₀
    refine lv_aload_n hx hb dX12_isWilling_207 rfl (lv_at hl 1 rfl) ?_
    refine gf_X12_36 hx hb hts hown hK hP 5 rfl rfl dX12_isWilling_208 ?_
    refine lv_bipush (v := 12) hx hb dX12_isWilling_211 (by decide) ?_
    refine lv_aload_n hx hb dX12_isWilling_213 rfl (lv_at hl 1 rfl) ?_
    refine gf_X12_39 hx hb hts hown hK hP 5 rfl rfl dX12_isWilling_214 ?_
    refine lv_bipush (v := 10) hx hb dX12_isWilling_217 (by decide) ?_
    refine va_iald hx hb hK hP 6 0 rfl rfl (vin_dec (by decide +kernel)) dX12_isWilling_219 ?_
    refine lv_topi (fun x_74 ex_74 => ?_)
    have lx_74 : x_74.toInt = ((Mf 10) 10).toInt := congrArg Int32.toInt ex_74
    refine lv_i2l (v := (x_74).toInt64) hx hb dX12_isWilling_220 rfl ?_
    refine st_long hx hb hK hP hD hS 4 1 rfl rfl (vin_dec (by decide +kernel)) dX12_isWilling_221 (fun g_75 H locs eg_75 hP₀ hD₀ hS₀ => ?_)
    replace hP : va_P D classes [((Ma 2), .inl (tc 0, 2400, .inl (Mf 2))), ((Ma 4), .inl (tc 0, 288, .inl (Mf 4))), ((Ma 5), .inl (tc 0, 6, .inl (Mf 5))), ((Ma 8), .inl (tc 1, 64, .inr (.inl (Mg 8)))), ((Ma 9), .inl (tc 1, 13, .inr (.inl g_75))), ((Ma 0), .inr (12, [.ref (Ma 1), .int (Mv 0), .int (Mv 1), .ref (Ma 2), .ref (Ma 3), .ref (Ma 4), .ref (Ma 5), .ref (Ma 6), .int (Mv 2), .int (Mv 3), .int (Mv 4), .int (Mv 5), .int (Mv 6), .int (Mv 7), .int (Mv 8), .ref (Ma 7), .int (Mv 9), .ref (Ma 8), .int (Mv 10), .ref (Ma 9), .ref (Ma 10), .int (Mv 11), .int (Mv 12), .int (Mv 13), .ref (Ma 11), .int (Mv 14), .ref (Ma 12), .ref (Ma 13), .ref (Ma 14), .ref (Ma 15), .ref (Ma 16), .long (Mj 0), .ref (Ma 17), .ref (Ma 18), .ref (Ma 19), .ref (Ma 20)])), ((Ma 10), .inl (tc 0, 126, .inl (Mf 10)))] H := hP₀
    replace hD : va_D A [((Ma 2), .inl (tc 0, 2400, .inl (Mf 2))), ((Ma 4), .inl (tc 0, 288, .inl (Mf 4))), ((Ma 5), .inl (tc 0, 6, .inl (Mf 5))), ((Ma 8), .inl (tc 1, 64, .inr (.inl (Mg 8)))), ((Ma 9), .inl (tc 1, 13, .inr (.inl g_75))), ((Ma 0), .inr (12, [.ref (Ma 1), .int (Mv 0), .int (Mv 1), .ref (Ma 2), .ref (Ma 3), .ref (Ma 4), .ref (Ma 5), .ref (Ma 6), .int (Mv 2), .int (Mv 3), .int (Mv 4), .int (Mv 5), .int (Mv 6), .int (Mv 7), .int (Mv 8), .ref (Ma 7), .int (Mv 9), .ref (Ma 8), .int (Mv 10), .ref (Ma 9), .ref (Ma 10), .int (Mv 11), .int (Mv 12), .int (Mv 13), .ref (Ma 11), .int (Mv 14), .ref (Ma 12), .ref (Ma 13), .ref (Ma 14), .ref (Ma 15), .ref (Ma 16), .long (Mj 0), .ref (Ma 17), .ref (Ma 18), .ref (Ma 19), .ref (Ma 20)])), ((Ma 10), .inl (tc 0, 126, .inl (Mf 10)))] := hD₀
    replace hS := hS₀
    clear hP₀ hD₀ hS₀
    refine lv_aload_n hx hb dX12_isWilling_222 rfl (lv_at hl 1 rfl) ?_
    refine lv_aload_n hx hb dX12_isWilling_223 rfl (lv_at hl 1 rfl) ?_
    refine gf_X12_42 hx hb hts hown hK hP 5 rfl rfl dX12_isWilling_224 ?_
    have ha_76 : 0 ≤ (Mv 11).toInt ∧ (Mv 11).toInt < (Mv 1).toInt := by
      have z_1 := Int32.le_iff_toInt_le.mp c_10
      have y_0 : (0 : Int32).toInt = 0 := by decide
      omega
    have ha_77 : (Mv 1).toInt ≤ 6 := by
      have z_1 := Int32.le_iff_toInt_le.mp c_10
      have y_0 : (0 : Int32).toInt = 0 := by decide
      omega
    refine cV (a := (Ma 0)) (As := [.int (Mv 11)]) (rest := []) (wr := [((Ma 10), .inl (tc 0, 126, .inl (Mf 10)))]) ⟨hx, hb, hml, hown, hts⟩ hK hX hA (cu_X12_summedBy l D tc sk (Ma 0) (Ma 1) (Ma 2) (Ma 3) (Ma 4) (Ma 5) (Ma 6) (Ma 7) (Ma 8) (Ma 9) (Ma 10) (Ma 11) (Ma 12) (Ma 13) (Ma 14) (Ma 15) (Ma 16) (Ma 17) (Ma 18) (Ma 19) (Ma 20) (Mv 0) (Mv 1) (Mv 2) (Mv 3) (Mv 4) (Mv 5) (Mv 6) (Mv 7) (Mv 8) (Mv 9) (Mv 10) (Mv 11) (Mv 12) (Mv 13) (Mv 14) (Mf 2) (Mf 4) (Mf 5) (Mj 0) (Mg 8) g_75 (Mv 11) h_rul ha_76 ha_77) k_1443 k_1440 k_1442 k_72 k_106 pl_X12_summedBy ⟨Nat.le_of_ble_eq_true rfl, Nat.le_of_ble_eq_true rfl⟩ rfl rfl (va_recv hK hP (ci := 12) (q0 := 5) rfl rfl) hP hD hS [5, 0, 1, 2, 3, 4] [6] rfl rfl rfl rfl rfl (by decide) rfl hl.1 rfl (Nat.le_of_ble_eq_true rfl) dX12_isWilling_227 ⟨Nat.le_of_ble_eq_true rfl, Nat.le_of_ble_eq_true rfl⟩ (fun v_78 u_79 H locs hv_80 hP₀ hD₀ hS₀ => ?_)
    obtain ⟨sv_81, sv_82⟩ := u_79
    obtain ⟨r_83, rfl, he_84⟩ := hv_80
    refine W.eq (g2 := F0 m 230 ls [.long r_83]) rfl ?_
    replace hP : va_P D classes [((Ma 10), .inl (tc 0, 126, .inl (Mf 10))), ((Ma 0), .inr (12, [.ref (Ma 1), .int (Mv 0), .int (Mv 1), .ref (Ma 2), .ref (Ma 3), .ref (Ma 4), .ref (Ma 5), .ref (Ma 6), .int (Mv 2), .int (Mv 3), .int (Mv 4), .int (Mv 5), .int (Mv 6), .int (Mv 7), .int (Mv 8), .ref (Ma 7), .int (Mv 9), .ref (Ma 8), .int sv_81, .ref (Ma 9), .ref (Ma 10), .int (Mv 11), .int (Mv 12), .int (Mv 13), .ref (Ma 11), .int (Mv 14), .ref (Ma 12), .ref (Ma 13), .ref (Ma 14), .ref (Ma 15), .ref (Ma 16), .long (Mj 0), .ref (Ma 17), .ref (Ma 18), .ref (Ma 19), .ref (Ma 20)])), ((Ma 2), .inl (tc 0, 2400, .inl (Mf 2))), ((Ma 4), .inl (tc 0, 288, .inl (Mf 4))), ((Ma 5), .inl (tc 0, 6, .inl (Mf 5))), ((Ma 8), .inl (tc 1, 64, .inr (.inl sv_82))), ((Ma 9), .inl (tc 1, 13, .inr (.inl g_75)))] H := hP₀
    replace hD : va_D A [((Ma 10), .inl (tc 0, 126, .inl (Mf 10))), ((Ma 0), .inr (12, [.ref (Ma 1), .int (Mv 0), .int (Mv 1), .ref (Ma 2), .ref (Ma 3), .ref (Ma 4), .ref (Ma 5), .ref (Ma 6), .int (Mv 2), .int (Mv 3), .int (Mv 4), .int (Mv 5), .int (Mv 6), .int (Mv 7), .int (Mv 8), .ref (Ma 7), .int (Mv 9), .ref (Ma 8), .int sv_81, .ref (Ma 9), .ref (Ma 10), .int (Mv 11), .int (Mv 12), .int (Mv 13), .ref (Ma 11), .int (Mv 14), .ref (Ma 12), .ref (Ma 13), .ref (Ma 14), .ref (Ma 15), .ref (Ma 16), .long (Mj 0), .ref (Ma 17), .ref (Ma 18), .ref (Ma 19), .ref (Ma 20)])), ((Ma 2), .inl (tc 0, 2400, .inl (Mf 2))), ((Ma 4), .inl (tc 0, 288, .inl (Mf 4))), ((Ma 5), .inl (tc 0, 6, .inl (Mf 5))), ((Ma 8), .inl (tc 1, 64, .inr (.inl sv_82))), ((Ma 9), .inl (tc 1, 13, .inr (.inl g_75)))] := hD₀
    replace hS := hS₀
    clear hP₀ hD₀ hS₀
    refine lv_lconst (v := 0) hx hb dX12_isWilling_230 (by decide) ?_
    refine W.lcmp hx hb dX12_isWilling_231 ?_
    refine lv_topi (fun x_86 ex_86 => ?_)
    refine lv_if_le (tgt := 239) hx hb dX12_isWilling_232 (by decide) (fun c_87 => ?_) (fun c_87 => ?_)
    · skip
      have lz_88 : (r_83 : Int64).toInt ≤ (0 : Int64).toInt := by have hc := c_87; rw [ex_86] at hc; exact Int64.le_iff_toInt_le.mp ((lg_cmp_le _ _).mp hc)
      refine lv_iconst (v := 0) hx hb dX12_isWilling_239 (by decide) ?_
      have hp_89 : ((0 : Int32).toInt = 0 ∨ (0 : Int32).toInt = 1) := by
        have z_1 := Int32.le_iff_toInt_le.mp c_10
        have z_2 := Int32.le_iff_toInt_le.mp c_87
        have y_0 : (0 : Int32).toInt = 0 := by decide
        omega
      exact retI (v := 0) hx hb hr hlk (rfl) hP hD hS (sv_81, sv_82, g_75) ⟨_, rfl, hp_89⟩ [1, 2, 3, 4, 5, 6, 0] rfl rfl dX12_isWilling_240 (Nat.le_of_ble_eq_true rfl) (Nat.le_of_ble_eq_true rfl) rfl
    · skip
      have lz_90 : (0 : Int64).toInt < (r_83 : Int64).toInt := by have hc := c_87; rw [ex_86] at hc; exact Int64.lt_iff_toInt_lt.mp (Int64.not_le.mp (fun z => hc ((lg_cmp_le _ _).mpr z)))
      refine lv_iconst (v := 1) hx hb dX12_isWilling_235 (by decide) ?_
      refine lv_goto (tgt := 240) hx hb dX12_isWilling_236 (by decide) ?_
      have hp_91 : ((1 : Int32).toInt = 0 ∨ (1 : Int32).toInt = 1) := by
        have z_1 := Int32.le_iff_toInt_le.mp c_10
        have z_2 := Int32.lt_iff_toInt_lt.mp (Int32.not_le.mp c_87)
        have y_0 : (0 : Int32).toInt = 0 := by decide
        have y_1 : (1 : Int32).toInt = 1 := by decide
        have yr : (1 : Int32).toInt = 1 := by decide
        omega
      exact retI (v := 1) hx hb hr hlk (rfl) hP hD hS (sv_81, sv_82, g_75) ⟨_, rfl, hp_91⟩ [1, 2, 3, 4, 5, 6, 0] rfl rfl dX12_isWilling_240 (Nat.le_of_ble_eq_true rfl) (Nat.le_of_ble_eq_true rfl) rfl
  · skip
    refine lv_aload_n hx hb dX12_isWilling_20 rfl (lv_at hl 1 rfl) ?_
    refine lv_iload_n hx hb dX12_isWilling_21 rfl (lv_at hl 2 rfl) ?_
    refine cV (a := (Ma 0)) (As := [.int x1]) (rest := []) (wr := [((Ma 2), .inl (tc 0, 2400, .inl (Mf 2))), ((Ma 4), .inl (tc 0, 288, .inl (Mf 4))), ((Ma 5), .inl (tc 0, 6, .inl (Mf 5))), ((Ma 8), .inl (tc 1, 64, .inr (.inl (Mg 8)))), ((Ma 9), .inl (tc 1, 13, .inr (.inl (Mg 9))))]) ⟨hx, hb, hml, hown, hts⟩ hK hX hA (cu_X12_temperOf l D tc sk (Ma 0) (Ma 1) (Ma 2) (Ma 3) (Ma 4) (Ma 5) (Ma 6) (Ma 7) (Ma 8) (Ma 9) (Ma 10) (Ma 11) (Ma 12) (Ma 13) (Ma 14) (Ma 15) (Ma 16) (Ma 17) (Ma 18) (Ma 19) (Ma 20) (Mv 0) (Mv 1) (Mv 2) (Mv 3) (Mv 4) (Mv 5) (Mv 6) (Mv 7) (Mv 8) (Mv 9) (Mv 10) (Mv 11) (Mv 12) (Mv 13) (Mv 14) (Mf 10) (Mj 0) x1 h_b) k_1379 k_1376 k_1378 k_59 k_106 pl_X12_temperOf ⟨Nat.le_of_ble_eq_true rfl, Nat.le_of_ble_eq_true rfl⟩ rfl rfl (va_recv hK hP (ci := 12) (q0 := 5) rfl rfl) hP hD hS [5, 6] [0, 1, 2, 3, 4] rfl rfl rfl rfl rfl (by decide) rfl hl.1 rfl (Nat.le_of_ble_eq_true rfl) dX12_isWilling_22 ⟨Nat.le_of_ble_eq_true rfl, Nat.le_of_ble_eq_true rfl⟩ (fun v_92 u_93 H locs hv_94 hP₀ hD₀ hS₀ => ?_)
    obtain ⟨r_95, rfl, he_96⟩ := hv_94
    refine W.eq (g2 := F0 m 25 ls [.int r_95]) rfl ?_
    replace hP : va_P D classes [((Ma 2), .inl (tc 0, 2400, .inl (Mf 2))), ((Ma 4), .inl (tc 0, 288, .inl (Mf 4))), ((Ma 5), .inl (tc 0, 6, .inl (Mf 5))), ((Ma 8), .inl (tc 1, 64, .inr (.inl (Mg 8)))), ((Ma 9), .inl (tc 1, 13, .inr (.inl (Mg 9)))), ((Ma 0), .inr (12, [.ref (Ma 1), .int (Mv 0), .int (Mv 1), .ref (Ma 2), .ref (Ma 3), .ref (Ma 4), .ref (Ma 5), .ref (Ma 6), .int (Mv 2), .int (Mv 3), .int (Mv 4), .int (Mv 5), .int (Mv 6), .int (Mv 7), .int (Mv 8), .ref (Ma 7), .int (Mv 9), .ref (Ma 8), .int (Mv 10), .ref (Ma 9), .ref (Ma 10), .int (Mv 11), .int (Mv 12), .int (Mv 13), .ref (Ma 11), .int (Mv 14), .ref (Ma 12), .ref (Ma 13), .ref (Ma 14), .ref (Ma 15), .ref (Ma 16), .long (Mj 0), .ref (Ma 17), .ref (Ma 18), .ref (Ma 19), .ref (Ma 20)])), ((Ma 10), .inl (tc 0, 126, .inl (Mf 10)))] H := hP₀
    replace hD : va_D A [((Ma 2), .inl (tc 0, 2400, .inl (Mf 2))), ((Ma 4), .inl (tc 0, 288, .inl (Mf 4))), ((Ma 5), .inl (tc 0, 6, .inl (Mf 5))), ((Ma 8), .inl (tc 1, 64, .inr (.inl (Mg 8)))), ((Ma 9), .inl (tc 1, 13, .inr (.inl (Mg 9)))), ((Ma 0), .inr (12, [.ref (Ma 1), .int (Mv 0), .int (Mv 1), .ref (Ma 2), .ref (Ma 3), .ref (Ma 4), .ref (Ma 5), .ref (Ma 6), .int (Mv 2), .int (Mv 3), .int (Mv 4), .int (Mv 5), .int (Mv 6), .int (Mv 7), .int (Mv 8), .ref (Ma 7), .int (Mv 9), .ref (Ma 8), .int (Mv 10), .ref (Ma 9), .ref (Ma 10), .int (Mv 11), .int (Mv 12), .int (Mv 13), .ref (Ma 11), .int (Mv 14), .ref (Ma 12), .ref (Ma 13), .ref (Ma 14), .ref (Ma 15), .ref (Ma 16), .long (Mj 0), .ref (Ma 17), .ref (Ma 18), .ref (Ma 19), .ref (Ma 20)])), ((Ma 10), .inl (tc 0, 126, .inl (Mf 10)))] := hD₀
    replace hS := hS₀
    clear hP₀ hD₀ hS₀
    refine lv_iload_n hx hb dX12_isWilling_25 rfl (lv_at hl 0 rfl) ?_
    refine lv_iadd hx hb dX12_isWilling_26 ?_
    refine lv_topi (fun x_98 ex_98 => ?_)
    refine lv_bipush (v := 12) hx hb dX12_isWilling_27 (by decide) ?_
    refine lv_icmp_lt (tgt := 36) hx hb dX12_isWilling_29 (by decide) (fun c_99 => ?_) (fun c_99 => ?_)
    · skip
      refine lv_iconst (v := 0) hx hb dX12_isWilling_36 (by decide) ?_
      have hp_100 : ((0 : Int32).toInt = 0 ∨ (0 : Int32).toInt = 1) := by
        have z_1 := Int32.lt_iff_toInt_lt.mp (Int32.not_le.mp c_10)
        have z_2 := Int32.lt_iff_toInt_lt.mp c_99
        have y_0 : (0 : Int32).toInt = 0 := by decide
        have y_12 : (12 : Int32).toInt = 12 := by decide
        omega
      exact retI (v := 0) hx hb hr hlk (rfl) hP hD hS ((Mv 10), (Mg 8), (Mg 9)) ⟨_, rfl, hp_100⟩ [5, 0, 1, 2, 3, 4, 6] rfl rfl dX12_isWilling_37 (Nat.le_of_ble_eq_true rfl) (Nat.le_of_ble_eq_true rfl) rfl
    · skip
      refine lv_iconst (v := 1) hx hb dX12_isWilling_32 (by decide) ?_
      refine lv_goto (tgt := 37) hx hb dX12_isWilling_33 (by decide) ?_
      have hp_101 : ((1 : Int32).toInt = 0 ∨ (1 : Int32).toInt = 1) := by
        have z_1 := Int32.lt_iff_toInt_lt.mp (Int32.not_le.mp c_10)
        have z_2 := Int32.le_iff_toInt_le.mp (Int32.not_lt.mp c_99)
        have y_0 : (0 : Int32).toInt = 0 := by decide
        have y_12 : (12 : Int32).toInt = 12 := by decide
        have y_1 : (1 : Int32).toInt = 1 := by decide
        have yr : (1 : Int32).toInt = 1 := by decide
        omega
      exact retI (v := 1) hx hb hr hlk (rfl) hP hD hS ((Mv 10), (Mg 8), (Mg 9)) ⟨_, rfl, hp_101⟩ [5, 0, 1, 2, 3, 4, 6] rfl rfl dX12_isWilling_37 (Nat.le_of_ble_eq_true rfl) (Nat.le_of_ble_eq_true rfl) rfl
