set_option maxRecDepth 16384
theorem dX12_areAlike_0 : decode cX12_areAlike 0 = .ok (.iconst 0, 1) := by decide +kernel
theorem dX12_areAlike_1 : decode cX12_areAlike 1 = .ok (.istore_n 3, 1) := by decide +kernel
theorem dX12_areAlike_2 : decode cX12_areAlike 2 = .ok (.iload_n 3, 1) := by decide +kernel
theorem dX12_areAlike_3 : decode cX12_areAlike 3 = .ok (.aload_n 0, 1) := by decide +kernel
theorem dX12_areAlike_4 : decode cX12_areAlike 4 = .ok (.getfield 39, 3) := by decide +kernel
theorem dX12_areAlike_7 : decode cX12_areAlike 7 = .ok (.iconst 3, 1) := by decide +kernel
theorem dX12_areAlike_8 : decode cX12_areAlike 8 = .ok (.iaload, 1) := by decide +kernel
theorem dX12_areAlike_9 : decode cX12_areAlike 9 = .ok (.if_icmp .gt 36, 3) := by decide +kernel
theorem dX12_areAlike_12 : decode cX12_areAlike 12 = .ok (.aload_n 0, 1) := by decide +kernel
theorem dX12_areAlike_13 : decode cX12_areAlike 13 = .ok (.getfield 55, 3) := by decide +kernel
theorem dX12_areAlike_16 : decode cX12_areAlike 16 = .ok (.bipush 7, 2) := by decide +kernel
theorem dX12_areAlike_18 : decode cX12_areAlike 18 = .ok (.iload_n 1, 1) := by decide +kernel
theorem dX12_areAlike_19 : decode cX12_areAlike 19 = .ok (.imul, 1) := by decide +kernel
theorem dX12_areAlike_20 : decode cX12_areAlike 20 = .ok (.iload_n 3, 1) := by decide +kernel
theorem dX12_areAlike_21 : decode cX12_areAlike 21 = .ok (.iadd, 1) := by decide +kernel
theorem dX12_areAlike_22 : decode cX12_areAlike 22 = .ok (.iaload, 1) := by decide +kernel
theorem dX12_areAlike_23 : decode cX12_areAlike 23 = .ok (.aload_n 0, 1) := by decide +kernel
theorem dX12_areAlike_24 : decode cX12_areAlike 24 = .ok (.getfield 55, 3) := by decide +kernel
theorem dX12_areAlike_27 : decode cX12_areAlike 27 = .ok (.bipush 7, 2) := by decide +kernel
theorem dX12_areAlike_29 : decode cX12_areAlike 29 = .ok (.iload_n 2, 1) := by decide +kernel
theorem dX12_areAlike_30 : decode cX12_areAlike 30 = .ok (.imul, 1) := by decide +kernel
theorem dX12_areAlike_31 : decode cX12_areAlike 31 = .ok (.iload_n 3, 1) := by decide +kernel
theorem dX12_areAlike_32 : decode cX12_areAlike 32 = .ok (.iadd, 1) := by decide +kernel
theorem dX12_areAlike_33 : decode cX12_areAlike 33 = .ok (.iaload, 1) := by decide +kernel
theorem dX12_areAlike_34 : decode cX12_areAlike 34 = .ok (.if_icmp .eq 5, 3) := by decide +kernel
theorem dX12_areAlike_37 : decode cX12_areAlike 37 = .ok (.iconst 0, 1) := by decide +kernel
theorem dX12_areAlike_38 : decode cX12_areAlike 38 = .ok (.ireturn, 1) := by decide +kernel
theorem dX12_areAlike_39 : decode cX12_areAlike 39 = .ok (.iinc 3 1, 3) := by decide +kernel
theorem dX12_areAlike_42 : decode cX12_areAlike 42 = .ok (.goto (-40), 3) := by decide +kernel
theorem dX12_areAlike_45 : decode cX12_areAlike 45 = .ok (.iconst 1, 1) := by decide +kernel
theorem dX12_areAlike_46 : decode cX12_areAlike 46 = .ok (.ireturn, 1) := by decide +kernel
theorem dX12_fines_0 : decode cX12_fines 0 = .ok (.aload_n 0, 1) := by decide +kernel
theorem dX12_fines_1 : decode cX12_fines 1 = .ok (.iload_n 2, 1) := by decide +kernel
theorem dX12_fines_2 : decode cX12_fines 2 = .ok (.invokevirtual 298, 3) := by decide +kernel
theorem dX12_fines_5 : decode cX12_fines 5 = .ok (.ifCond .eq 15, 3) := by decide +kernel
theorem dX12_fines_8 : decode cX12_fines 8 = .ok (.iload_n 1, 1) := by decide +kernel
theorem dX12_fines_9 : decode cX12_fines 9 = .ok (.i2l, 1) := by decide +kernel
theorem dX12_fines_10 : decode cX12_fines 10 = .ok (.lconst 0, 1) := by decide +kernel
theorem dX12_fines_11 : decode cX12_fines 11 = .ok (.ldc2_w 391, 3) := by decide +kernel
theorem dX12_fines_14 : decode cX12_fines 14 = .ok (.invokestatic 115, 3) := by decide +kernel
theorem dX12_fines_17 : decode cX12_fines 17 = .ok (.ifCond .ne 5, 3) := by decide +kernel
theorem dX12_fines_20 : decode cX12_fines 20 = .ok (.iconst (-1), 1) := by decide +kernel
theorem dX12_fines_21 : decode cX12_fines 21 = .ok (.ireturn, 1) := by decide +kernel
theorem dX12_fines_22 : decode cX12_fines 22 = .ok (.aload_n 0, 1) := by decide +kernel
theorem dX12_fines_23 : decode cX12_fines 23 = .ok (.invokevirtual 317, 3) := by decide +kernel
theorem dX12_fines_26 : decode cX12_fines 26 = .ok (.istore_n 3, 1) := by decide +kernel
theorem dX12_fines_27 : decode cX12_fines 27 = .ok (.iload_n 3, 1) := by decide +kernel
theorem dX12_fines_28 : decode cX12_fines 28 = .ok (.ifCond .ne 5, 3) := by decide +kernel
theorem dX12_fines_31 : decode cX12_fines 31 = .ok (.iconst 0, 1) := by decide +kernel
theorem dX12_fines_32 : decode cX12_fines 32 = .ok (.ireturn, 1) := by decide +kernel
theorem dX12_fines_33 : decode cX12_fines 33 = .ok (.iload_n 1, 1) := by decide +kernel
theorem dX12_fines_34 : decode cX12_fines 34 = .ok (.aload_n 0, 1) := by decide +kernel
theorem dX12_fines_35 : decode cX12_fines 35 = .ok (.iload_n 2, 1) := by decide +kernel
theorem dX12_fines_36 : decode cX12_fines 36 = .ok (.invokevirtual 289, 3) := by decide +kernel
theorem dX12_fines_39 : decode cX12_fines 39 = .ok (.imul, 1) := by decide +kernel
theorem dX12_fines_40 : decode cX12_fines 40 = .ok (.istore 4, 2) := by decide +kernel
theorem dX12_fines_42 : decode cX12_fines 42 = .ok (.iload_n 1, 1) := by decide +kernel
theorem dX12_fines_43 : decode cX12_fines 43 = .ok (.istore 5, 2) := by decide +kernel
theorem dX12_fines_45 : decode cX12_fines 45 = .ok (.iconst 0, 1) := by decide +kernel
theorem dX12_fines_46 : decode cX12_fines 46 = .ok (.istore 6, 2) := by decide +kernel
theorem dX12_fines_48 : decode cX12_fines 48 = .ok (.iconst 0, 1) := by decide +kernel
theorem dX12_fines_49 : decode cX12_fines 49 = .ok (.istore 7, 2) := by decide +kernel
theorem dX12_fines_51 : decode cX12_fines 51 = .ok (.iload 7, 2) := by decide +kernel
theorem dX12_fines_53 : decode cX12_fines 53 = .ok (.aload_n 0, 1) := by decide +kernel
theorem dX12_fines_54 : decode cX12_fines 54 = .ok (.getfield 39, 3) := by decide +kernel
theorem dX12_fines_57 : decode cX12_fines 57 = .ok (.iconst 3, 1) := by decide +kernel
theorem dX12_fines_58 : decode cX12_fines 58 = .ok (.iaload, 1) := by decide +kernel
theorem dX12_fines_59 : decode cX12_fines 59 = .ok (.if_icmp .ge 66, 3) := by decide +kernel
theorem dX12_fines_62 : decode cX12_fines 62 = .ok (.iload_n 1, 1) := by decide +kernel
theorem dX12_fines_63 : decode cX12_fines 63 = .ok (.aload_n 0, 1) := by decide +kernel
theorem dX12_fines_64 : decode cX12_fines 64 = .ok (.iload 7, 2) := by decide +kernel
theorem dX12_fines_66 : decode cX12_fines 66 = .ok (.invokevirtual 289, 3) := by decide +kernel
theorem dX12_fines_69 : decode cX12_fines 69 = .ok (.imul, 1) := by decide +kernel
theorem dX12_fines_70 : decode cX12_fines 70 = .ok (.istore 8, 2) := by decide +kernel
theorem dX12_fines_72 : decode cX12_fines 72 = .ok (.iload 5, 2) := by decide +kernel
theorem dX12_fines_74 : decode cX12_fines 74 = .ok (.iload 8, 2) := by decide +kernel
theorem dX12_fines_76 : decode cX12_fines 76 = .ok (.iload_n 3, 1) := by decide +kernel
theorem dX12_fines_77 : decode cX12_fines 77 = .ok (.idiv, 1) := by decide +kernel
theorem dX12_fines_78 : decode cX12_fines 78 = .ok (.isub, 1) := by decide +kernel
theorem dX12_fines_79 : decode cX12_fines 79 = .ok (.istore 5, 2) := by decide +kernel
theorem dX12_fines_81 : decode cX12_fines 81 = .ok (.iload 6, 2) := by decide +kernel
theorem dX12_fines_83 : decode cX12_fines 83 = .ok (.iload 8, 2) := by decide +kernel
theorem dX12_fines_85 : decode cX12_fines 85 = .ok (.iload_n 3, 1) := by decide +kernel
theorem dX12_fines_86 : decode cX12_fines 86 = .ok (.irem, 1) := by decide +kernel
theorem dX12_fines_87 : decode cX12_fines 87 = .ok (.iload 4, 2) := by decide +kernel
theorem dX12_fines_89 : decode cX12_fines 89 = .ok (.iload_n 3, 1) := by decide +kernel
theorem dX12_fines_90 : decode cX12_fines 90 = .ok (.irem, 1) := by decide +kernel
theorem dX12_fines_91 : decode cX12_fines 91 = .ok (.if_icmp .gt 20, 3) := by decide +kernel
theorem dX12_fines_94 : decode cX12_fines 94 = .ok (.iload 8, 2) := by decide +kernel
theorem dX12_fines_96 : decode cX12_fines 96 = .ok (.iload_n 3, 1) := by decide +kernel
theorem dX12_fines_97 : decode cX12_fines 97 = .ok (.irem, 1) := by decide +kernel
theorem dX12_fines_98 : decode cX12_fines 98 = .ok (.iload 4, 2) := by decide +kernel
theorem dX12_fines_100 : decode cX12_fines 100 = .ok (.iload_n 3, 1) := by decide +kernel
theorem dX12_fines_101 : decode cX12_fines 101 = .ok (.irem, 1) := by decide +kernel
theorem dX12_fines_102 : decode cX12_fines 102 = .ok (.if_icmp .ne 13, 3) := by decide +kernel
theorem dX12_fines_105 : decode cX12_fines 105 = .ok (.iload 7, 2) := by decide +kernel
theorem dX12_fines_107 : decode cX12_fines 107 = .ok (.iload_n 2, 1) := by decide +kernel
theorem dX12_fines_108 : decode cX12_fines 108 = .ok (.if_icmp .ge 7, 3) := by decide +kernel
theorem dX12_fines_111 : decode cX12_fines 111 = .ok (.iconst 1, 1) := by decide +kernel
theorem dX12_fines_112 : decode cX12_fines 112 = .ok (.goto 4, 3) := by decide +kernel
theorem dX12_fines_115 : decode cX12_fines 115 = .ok (.iconst 0, 1) := by decide +kernel
theorem dX12_fines_116 : decode cX12_fines 116 = .ok (.iadd, 1) := by decide +kernel
theorem dX12_fines_117 : decode cX12_fines 117 = .ok (.istore 6, 2) := by decide +kernel
theorem dX12_fines_119 : decode cX12_fines 119 = .ok (.iinc 7 1, 3) := by decide +kernel
theorem dX12_fines_122 : decode cX12_fines 122 = .ok (.goto (-71), 3) := by decide +kernel
theorem dX12_fines_125 : decode cX12_fines 125 = .ok (.iload 4, 2) := by decide +kernel
theorem dX12_fines_127 : decode cX12_fines 127 = .ok (.iload_n 3, 1) := by decide +kernel
theorem dX12_fines_128 : decode cX12_fines 128 = .ok (.idiv, 1) := by decide +kernel
theorem dX12_fines_129 : decode cX12_fines 129 = .ok (.iload 6, 2) := by decide +kernel
theorem dX12_fines_131 : decode cX12_fines 131 = .ok (.iload 5, 2) := by decide +kernel
theorem dX12_fines_133 : decode cX12_fines 133 = .ok (.if_icmp .ge 7, 3) := by decide +kernel
theorem dX12_fines_136 : decode cX12_fines 136 = .ok (.iconst 1, 1) := by decide +kernel
theorem dX12_fines_137 : decode cX12_fines 137 = .ok (.goto 4, 3) := by decide +kernel
theorem dX12_fines_140 : decode cX12_fines 140 = .ok (.iconst 0, 1) := by decide +kernel
theorem dX12_fines_141 : decode cX12_fines 141 = .ok (.iadd, 1) := by decide +kernel
theorem dX12_fines_142 : decode cX12_fines 142 = .ok (.ireturn, 1) := by decide +kernel
theorem dX12_grainsOf_0 : decode cX12_grainsOf 0 = .ok (.iconst 0, 1) := by decide +kernel
theorem dX12_grainsOf_1 : decode cX12_grainsOf 1 = .ok (.istore_n 2, 1) := by decide +kernel
theorem dX12_grainsOf_2 : decode cX12_grainsOf 2 = .ok (.iconst 0, 1) := by decide +kernel
theorem dX12_grainsOf_3 : decode cX12_grainsOf 3 = .ok (.istore_n 3, 1) := by decide +kernel
theorem dX12_grainsOf_4 : decode cX12_grainsOf 4 = .ok (.iload_n 3, 1) := by decide +kernel
theorem dX12_grainsOf_5 : decode cX12_grainsOf 5 = .ok (.aload_n 0, 1) := by decide +kernel
theorem dX12_grainsOf_6 : decode cX12_grainsOf 6 = .ok (.getfield 39, 3) := by decide +kernel
theorem dX12_grainsOf_9 : decode cX12_grainsOf 9 = .ok (.iconst 3, 1) := by decide +kernel
theorem dX12_grainsOf_10 : decode cX12_grainsOf 10 = .ok (.iaload, 1) := by decide +kernel
theorem dX12_grainsOf_11 : decode cX12_grainsOf 11 = .ok (.if_icmp .ge 33, 3) := by decide +kernel
theorem dX12_grainsOf_14 : decode cX12_grainsOf 14 = .ok (.iload_n 2, 1) := by decide +kernel
theorem dX12_grainsOf_15 : decode cX12_grainsOf 15 = .ok (.iload_n 1, 1) := by decide +kernel
theorem dX12_grainsOf_16 : decode cX12_grainsOf 16 = .ok (.iload_n 3, 1) := by decide +kernel
theorem dX12_grainsOf_17 : decode cX12_grainsOf 17 = .ok (.invokestatic 327, 3) := by decide +kernel
theorem dX12_grainsOf_20 : decode cX12_grainsOf 20 = .ok (.ifCond .eq 15, 3) := by decide +kernel
theorem dX12_grainsOf_23 : decode cX12_grainsOf 23 = .ok (.aload_n 0, 1) := by decide +kernel
theorem dX12_grainsOf_24 : decode cX12_grainsOf 24 = .ok (.getfield 39, 3) := by decide +kernel
theorem dX12_grainsOf_27 : decode cX12_grainsOf 27 = .ok (.bipush 56, 2) := by decide +kernel
theorem dX12_grainsOf_29 : decode cX12_grainsOf 29 = .ok (.iload_n 3, 1) := by decide +kernel
theorem dX12_grainsOf_30 : decode cX12_grainsOf 30 = .ok (.iadd, 1) := by decide +kernel
theorem dX12_grainsOf_31 : decode cX12_grainsOf 31 = .ok (.iaload, 1) := by decide +kernel
theorem dX12_grainsOf_32 : decode cX12_grainsOf 32 = .ok (.goto 4, 3) := by decide +kernel
theorem dX12_grainsOf_35 : decode cX12_grainsOf 35 = .ok (.iconst 0, 1) := by decide +kernel
theorem dX12_grainsOf_36 : decode cX12_grainsOf 36 = .ok (.iadd, 1) := by decide +kernel
theorem dX12_grainsOf_37 : decode cX12_grainsOf 37 = .ok (.istore_n 2, 1) := by decide +kernel
theorem dX12_grainsOf_38 : decode cX12_grainsOf 38 = .ok (.iinc 3 1, 3) := by decide +kernel
theorem dX12_grainsOf_41 : decode cX12_grainsOf 41 = .ok (.goto (-37), 3) := by decide +kernel
theorem dX12_grainsOf_44 : decode cX12_grainsOf 44 = .ok (.iload_n 2, 1) := by decide +kernel
theorem dX12_grainsOf_45 : decode cX12_grainsOf 45 = .ok (.ireturn, 1) := by decide +kernel
theorem dX12_isRest_0 : decode cX12_isRest 0 = .ok (.iconst 0, 1) := by decide +kernel
theorem dX12_isRest_1 : decode cX12_isRest 1 = .ok (.istore_n 3, 1) := by decide +kernel
theorem dX12_isRest_2 : decode cX12_isRest 2 = .ok (.iload_n 3, 1) := by decide +kernel
theorem dX12_isRest_3 : decode cX12_isRest 3 = .ok (.iconst 5, 1) := by decide +kernel
theorem dX12_isRest_4 : decode cX12_isRest 4 = .ok (.if_icmp .ge 69, 3) := by decide +kernel
theorem dX12_isRest_7 : decode cX12_isRest 7 = .ok (.aload_n 0, 1) := by decide +kernel
theorem dX12_isRest_8 : decode cX12_isRest 8 = .ok (.getfield 52, 3) := by decide +kernel
theorem dX12_isRest_11 : decode cX12_isRest 11 = .ok (.iconst 2, 1) := by decide +kernel
theorem dX12_isRest_12 : decode cX12_isRest 12 = .ok (.iconst 5, 1) := by decide +kernel
theorem dX12_isRest_13 : decode cX12_isRest 13 = .ok (.iload_n 3, 1) := by decide +kernel
theorem dX12_isRest_14 : decode cX12_isRest 14 = .ok (.imul, 1) := by decide +kernel
theorem dX12_isRest_15 : decode cX12_isRest 15 = .ok (.iload_n 2, 1) := by decide +kernel
theorem dX12_isRest_16 : decode cX12_isRest 16 = .ok (.iadd, 1) := by decide +kernel
theorem dX12_isRest_17 : decode cX12_isRest 17 = .ok (.imul, 1) := by decide +kernel
theorem dX12_isRest_18 : decode cX12_isRest 18 = .ok (.iaload, 1) := by decide +kernel
theorem dX12_isRest_19 : decode cX12_isRest 19 = .ok (.aload_n 0, 1) := by decide +kernel
theorem dX12_isRest_20 : decode cX12_isRest 20 = .ok (.getfield 52, 3) := by decide +kernel
theorem dX12_isRest_23 : decode cX12_isRest 23 = .ok (.iconst 2, 1) := by decide +kernel
theorem dX12_isRest_24 : decode cX12_isRest 24 = .ok (.iconst 5, 1) := by decide +kernel
theorem dX12_isRest_25 : decode cX12_isRest 25 = .ok (.iload_n 1, 1) := by decide +kernel
theorem dX12_isRest_26 : decode cX12_isRest 26 = .ok (.imul, 1) := by decide +kernel
theorem dX12_isRest_27 : decode cX12_isRest 27 = .ok (.iload_n 2, 1) := by decide +kernel
theorem dX12_isRest_28 : decode cX12_isRest 28 = .ok (.iadd, 1) := by decide +kernel
theorem dX12_isRest_29 : decode cX12_isRest 29 = .ok (.imul, 1) := by decide +kernel
theorem dX12_isRest_30 : decode cX12_isRest 30 = .ok (.iaload, 1) := by decide +kernel
theorem dX12_isRest_31 : decode cX12_isRest 31 = .ok (.if_icmp .gt 34, 3) := by decide +kernel
theorem dX12_isRest_34 : decode cX12_isRest 34 = .ok (.aload_n 0, 1) := by decide +kernel
theorem dX12_isRest_35 : decode cX12_isRest 35 = .ok (.getfield 52, 3) := by decide +kernel
theorem dX12_isRest_38 : decode cX12_isRest 38 = .ok (.iconst 2, 1) := by decide +kernel
theorem dX12_isRest_39 : decode cX12_isRest 39 = .ok (.iconst 5, 1) := by decide +kernel
theorem dX12_isRest_40 : decode cX12_isRest 40 = .ok (.iload_n 1, 1) := by decide +kernel
theorem dX12_isRest_41 : decode cX12_isRest 41 = .ok (.imul, 1) := by decide +kernel
theorem dX12_isRest_42 : decode cX12_isRest 42 = .ok (.iload_n 3, 1) := by decide +kernel
theorem dX12_isRest_43 : decode cX12_isRest 43 = .ok (.iadd, 1) := by decide +kernel
theorem dX12_isRest_44 : decode cX12_isRest 44 = .ok (.imul, 1) := by decide +kernel
theorem dX12_isRest_45 : decode cX12_isRest 45 = .ok (.iconst 1, 1) := by decide +kernel
theorem dX12_isRest_46 : decode cX12_isRest 46 = .ok (.iadd, 1) := by decide +kernel
theorem dX12_isRest_47 : decode cX12_isRest 47 = .ok (.iaload, 1) := by decide +kernel
theorem dX12_isRest_48 : decode cX12_isRest 48 = .ok (.aload_n 0, 1) := by decide +kernel
theorem dX12_isRest_49 : decode cX12_isRest 49 = .ok (.getfield 52, 3) := by decide +kernel
theorem dX12_isRest_52 : decode cX12_isRest 52 = .ok (.iconst 2, 1) := by decide +kernel
theorem dX12_isRest_53 : decode cX12_isRest 53 = .ok (.iconst 5, 1) := by decide +kernel
theorem dX12_isRest_54 : decode cX12_isRest 54 = .ok (.iload_n 1, 1) := by decide +kernel
theorem dX12_isRest_55 : decode cX12_isRest 55 = .ok (.imul, 1) := by decide +kernel
theorem dX12_isRest_56 : decode cX12_isRest 56 = .ok (.iload_n 2, 1) := by decide +kernel
theorem dX12_isRest_57 : decode cX12_isRest 57 = .ok (.iadd, 1) := by decide +kernel
theorem dX12_isRest_58 : decode cX12_isRest 58 = .ok (.imul, 1) := by decide +kernel
theorem dX12_isRest_59 : decode cX12_isRest 59 = .ok (.iconst 1, 1) := by decide +kernel
theorem dX12_isRest_60 : decode cX12_isRest 60 = .ok (.iadd, 1) := by decide +kernel
theorem dX12_isRest_61 : decode cX12_isRest 61 = .ok (.iaload, 1) := by decide +kernel
theorem dX12_isRest_62 : decode cX12_isRest 62 = .ok (.if_icmp .le 5, 3) := by decide +kernel
theorem dX12_isRest_65 : decode cX12_isRest 65 = .ok (.iconst 0, 1) := by decide +kernel
theorem dX12_isRest_66 : decode cX12_isRest 66 = .ok (.ireturn, 1) := by decide +kernel
theorem dX12_isRest_67 : decode cX12_isRest 67 = .ok (.iinc 3 1, 3) := by decide +kernel
theorem dX12_isRest_70 : decode cX12_isRest 70 = .ok (.goto (-68), 3) := by decide +kernel
theorem dX12_isRest_73 : decode cX12_isRest 73 = .ok (.iconst 1, 1) := by decide +kernel
theorem dX12_isRest_74 : decode cX12_isRest 74 = .ok (.ireturn, 1) := by decide +kernel
theorem dX12_page_0 : decode cX12_page 0 = .ok (.aload_n 0, 1) := by decide +kernel
theorem dX12_page_1 : decode cX12_page 1 = .ok (.invokevirtual 283, 3) := by decide +kernel
theorem dX12_page_4 : decode cX12_page 4 = .ok (.ifCond .eq 27, 3) := by decide +kernel
theorem dX12_page_7 : decode cX12_page 7 = .ok (.iload_n 1, 1) := by decide +kernel
theorem dX12_page_8 : decode cX12_page 8 = .ok (.i2l, 1) := by decide +kernel
theorem dX12_page_9 : decode cX12_page 9 = .ok (.lconst 0, 1) := by decide +kernel
theorem dX12_page_10 : decode cX12_page 10 = .ok (.ldc2_w 386, 3) := by decide +kernel
theorem dX12_page_13 : decode cX12_page 13 = .ok (.invokestatic 115, 3) := by decide +kernel
theorem dX12_page_16 : decode cX12_page 16 = .ok (.ifCond .eq 15, 3) := by decide +kernel
theorem dX12_page_19 : decode cX12_page 19 = .ok (.iload_n 2, 1) := by decide +kernel
theorem dX12_page_20 : decode cX12_page 20 = .ok (.i2l, 1) := by decide +kernel
theorem dX12_page_21 : decode cX12_page 21 = .ok (.lconst 0, 1) := by decide +kernel
theorem dX12_page_22 : decode cX12_page 22 = .ok (.ldc2_w 360, 3) := by decide +kernel
theorem dX12_page_25 : decode cX12_page 25 = .ok (.invokestatic 115, 3) := by decide +kernel
theorem dX12_page_28 : decode cX12_page 28 = .ok (.ifCond .ne 5, 3) := by decide +kernel
theorem dX12_page_31 : decode cX12_page 31 = .ok (.iconst (-1), 1) := by decide +kernel
theorem dX12_page_32 : decode cX12_page 32 = .ok (.ireturn, 1) := by decide +kernel
theorem dX12_page_33 : decode cX12_page 33 = .ok (.iconst 0, 1) := by decide +kernel
theorem dX12_page_34 : decode cX12_page 34 = .ok (.istore_n 3, 1) := by decide +kernel
theorem dX12_page_35 : decode cX12_page 35 = .ok (.bipush (-2), 2) := by decide +kernel
theorem dX12_page_37 : decode cX12_page 37 = .ok (.istore 4, 2) := by decide +kernel
theorem dX12_page_39 : decode cX12_page 39 = .ok (.iconst 1, 1) := by decide +kernel
theorem dX12_page_40 : decode cX12_page 40 = .ok (.aload_n 0, 1) := by decide +kernel
theorem dX12_page_41 : decode cX12_page 41 = .ok (.getfield 39, 3) := by decide +kernel
theorem dX12_page_44 : decode cX12_page 44 = .ok (.iconst 3, 1) := by decide +kernel
theorem dX12_page_45 : decode cX12_page 45 = .ok (.iaload, 1) := by decide +kernel
theorem dX12_page_46 : decode cX12_page 46 = .ok (.ishl, 1) := by decide +kernel
theorem dX12_page_47 : decode cX12_page 47 = .ok (.iconst 1, 1) := by decide +kernel
theorem dX12_page_48 : decode cX12_page 48 = .ok (.isub, 1) := by decide +kernel
theorem dX12_page_49 : decode cX12_page 49 = .ok (.istore 5, 2) := by decide +kernel
theorem dX12_page_51 : decode cX12_page 51 = .ok (.iload 5, 2) := by decide +kernel
theorem dX12_page_53 : decode cX12_page 53 = .ok (.istore 6, 2) := by decide +kernel
theorem dX12_page_55 : decode cX12_page 55 = .ok (.iload 6, 2) := by decide +kernel
theorem dX12_page_57 : decode cX12_page 57 = .ok (.ifCond .lt 36, 3) := by decide +kernel
theorem dX12_page_60 : decode cX12_page 60 = .ok (.aload_n 0, 1) := by decide +kernel
theorem dX12_page_61 : decode cX12_page 61 = .ok (.iload 6, 2) := by decide +kernel
theorem dX12_page_63 : decode cX12_page 63 = .ok (.invokevirtual 388, 3) := by decide +kernel
theorem dX12_page_66 : decode cX12_page 66 = .ok (.iload_n 1, 1) := by decide +kernel
theorem dX12_page_67 : decode cX12_page 67 = .ok (.if_icmp .eq 6, 3) := by decide +kernel
theorem dX12_page_70 : decode cX12_page 70 = .ok (.goto 17, 3) := by decide +kernel
theorem dX12_page_73 : decode cX12_page 73 = .ok (.iinc 3 1, 3) := by decide +kernel
theorem dX12_page_76 : decode cX12_page 76 = .ok (.iload 6, 2) := by decide +kernel
theorem dX12_page_78 : decode cX12_page 78 = .ok (.istore 4, 2) := by decide +kernel
theorem dX12_page_80 : decode cX12_page 80 = .ok (.iload 5, 2) := by decide +kernel
theorem dX12_page_82 : decode cX12_page 82 = .ok (.iload 6, 2) := by decide +kernel
theorem dX12_page_84 : decode cX12_page 84 = .ok (.iand, 1) := by decide +kernel
theorem dX12_page_85 : decode cX12_page 85 = .ok (.istore 5, 2) := by decide +kernel
theorem dX12_page_87 : decode cX12_page 87 = .ok (.iinc 6 (-1), 3) := by decide +kernel
theorem dX12_page_90 : decode cX12_page 90 = .ok (.goto (-35), 3) := by decide +kernel
theorem dX12_page_93 : decode cX12_page 93 = .ok (.iload_n 2, 1) := by decide +kernel
theorem dX12_page_94 : decode cX12_page 94 = .ok (.ifCond .ne 7, 3) := by decide +kernel
theorem dX12_page_97 : decode cX12_page 97 = .ok (.iload_n 3, 1) := by decide +kernel
theorem dX12_page_98 : decode cX12_page 98 = .ok (.goto 23, 3) := by decide +kernel
theorem dX12_page_101 : decode cX12_page 101 = .ok (.iload_n 2, 1) := by decide +kernel
theorem dX12_page_102 : decode cX12_page 102 = .ok (.iconst 1, 1) := by decide +kernel
theorem dX12_page_103 : decode cX12_page 103 = .ok (.if_icmp .ne 8, 3) := by decide +kernel
theorem dX12_page_106 : decode cX12_page 106 = .ok (.iload 4, 2) := by decide +kernel
theorem dX12_page_108 : decode cX12_page 108 = .ok (.goto 13, 3) := by decide +kernel
theorem dX12_page_111 : decode cX12_page 111 = .ok (.iload_n 3, 1) := by decide +kernel
theorem dX12_page_112 : decode cX12_page 112 = .ok (.ifCond .ne 7, 3) := by decide +kernel
theorem dX12_page_115 : decode cX12_page 115 = .ok (.iconst 0, 1) := by decide +kernel
theorem dX12_page_116 : decode cX12_page 116 = .ok (.goto 5, 3) := by decide +kernel
theorem dX12_page_119 : decode cX12_page 119 = .ok (.iload 5, 2) := by decide +kernel
theorem dX12_page_121 : decode cX12_page 121 = .ok (.ireturn, 1) := by decide +kernel
theorem dX12_rests_0 : decode cX12_rests 0 = .ok (.aload_n 0, 1) := by decide +kernel
theorem dX12_rests_1 : decode cX12_rests 1 = .ok (.iload_n 1, 1) := by decide +kernel
theorem dX12_rests_2 : decode cX12_rests 2 = .ok (.invokevirtual 298, 3) := by decide +kernel
theorem dX12_rests_5 : decode cX12_rests 5 = .ok (.ifCond .eq 41, 3) := by decide +kernel
theorem dX12_rests_8 : decode cX12_rests 8 = .ok (.aload_n 0, 1) := by decide +kernel
theorem dX12_rests_9 : decode cX12_rests 9 = .ok (.iload_n 2, 1) := by decide +kernel
theorem dX12_rests_10 : decode cX12_rests 10 = .ok (.invokevirtual 298, 3) := by decide +kernel
theorem dX12_rests_13 : decode cX12_rests 13 = .ok (.ifCond .eq 33, 3) := by decide +kernel
theorem dX12_rests_16 : decode cX12_rests 16 = .ok (.iload_n 1, 1) := by decide +kernel
theorem dX12_rests_17 : decode cX12_rests 17 = .ok (.iload_n 2, 1) := by decide +kernel
theorem dX12_rests_18 : decode cX12_rests 18 = .ok (.if_icmp .eq 28, 3) := by decide +kernel
theorem dX12_rests_21 : decode cX12_rests 21 = .ok (.iload_n 3, 1) := by decide +kernel
theorem dX12_rests_22 : decode cX12_rests 22 = .ok (.i2l, 1) := by decide +kernel
theorem dX12_rests_23 : decode cX12_rests 23 = .ok (.lconst 1, 1) := by decide +kernel
theorem dX12_rests_24 : decode cX12_rests 24 = .ok (.ldc2_w 381, 3) := by decide +kernel
theorem dX12_rests_27 : decode cX12_rests 27 = .ok (.invokestatic 115, 3) := by decide +kernel
theorem dX12_rests_30 : decode cX12_rests 30 = .ok (.ifCond .eq 16, 3) := by decide +kernel
theorem dX12_rests_33 : decode cX12_rests 33 = .ok (.iload 4, 2) := by decide +kernel
theorem dX12_rests_35 : decode cX12_rests 35 = .ok (.i2l, 1) := by decide +kernel
theorem dX12_rests_36 : decode cX12_rests 36 = .ok (.lconst 0, 1) := by decide +kernel
theorem dX12_rests_37 : decode cX12_rests 37 = .ok (.ldc2_w 360, 3) := by decide +kernel
theorem dX12_rests_40 : decode cX12_rests 40 = .ok (.invokestatic 115, 3) := by decide +kernel
theorem dX12_rests_43 : decode cX12_rests 43 = .ok (.ifCond .ne 5, 3) := by decide +kernel
theorem dX12_rests_46 : decode cX12_rests 46 = .ok (.iconst (-1), 1) := by decide +kernel
theorem dX12_rests_47 : decode cX12_rests 47 = .ok (.ireturn, 1) := by decide +kernel
theorem dX12_rests_48 : decode cX12_rests 48 = .ok (.aload_n 0, 1) := by decide +kernel
theorem dX12_rests_49 : decode cX12_rests 49 = .ok (.getfield 39, 3) := by decide +kernel
theorem dX12_rests_52 : decode cX12_rests 52 = .ok (.bipush 56, 2) := by decide +kernel
theorem dX12_rests_54 : decode cX12_rests 54 = .ok (.iload_n 1, 1) := by decide +kernel
theorem dX12_rests_55 : decode cX12_rests 55 = .ok (.iadd, 1) := by decide +kernel
theorem dX12_rests_56 : decode cX12_rests 56 = .ok (.iaload, 1) := by decide +kernel
theorem dX12_rests_57 : decode cX12_rests 57 = .ok (.istore 5, 2) := by decide +kernel
theorem dX12_rests_59 : decode cX12_rests 59 = .ok (.aload_n 0, 1) := by decide +kernel
theorem dX12_rests_60 : decode cX12_rests 60 = .ok (.getfield 39, 3) := by decide +kernel
theorem dX12_rests_63 : decode cX12_rests 63 = .ok (.bipush 56, 2) := by decide +kernel
theorem dX12_rests_65 : decode cX12_rests 65 = .ok (.iload_n 2, 1) := by decide +kernel
theorem dX12_rests_66 : decode cX12_rests 66 = .ok (.iadd, 1) := by decide +kernel
theorem dX12_rests_67 : decode cX12_rests 67 = .ok (.iaload, 1) := by decide +kernel
theorem dX12_rests_68 : decode cX12_rests 68 = .ok (.istore 6, 2) := by decide +kernel
theorem dX12_rests_70 : decode cX12_rests 70 = .ok (.aload_n 0, 1) := by decide +kernel
theorem dX12_rests_71 : decode cX12_rests 71 = .ok (.iload_n 1, 1) := by decide +kernel
theorem dX12_rests_72 : decode cX12_rests 72 = .ok (.invokevirtual 393, 3) := by decide +kernel
theorem dX12_rests_75 : decode cX12_rests 75 = .ok (.istore 7, 2) := by decide +kernel
theorem dX12_rests_77 : decode cX12_rests 77 = .ok (.aload_n 0, 1) := by decide +kernel
theorem dX12_rests_78 : decode cX12_rests 78 = .ok (.iload_n 2, 1) := by decide +kernel
theorem dX12_rests_79 : decode cX12_rests 79 = .ok (.invokevirtual 393, 3) := by decide +kernel
theorem dX12_rests_82 : decode cX12_rests 82 = .ok (.istore 8, 2) := by decide +kernel
theorem dX12_rests_84 : decode cX12_rests 84 = .ok (.aload_n 0, 1) := by decide +kernel
theorem dX12_rests_85 : decode cX12_rests 85 = .ok (.invokevirtual 362, 3) := by decide +kernel
theorem dX12_rests_88 : decode cX12_rests 88 = .ok (.iconst 0, 1) := by decide +kernel
theorem dX12_rests_89 : decode cX12_rests 89 = .ok (.istore 9, 2) := by decide +kernel
theorem dX12_rests_91 : decode cX12_rests 91 = .ok (.iload 9, 2) := by decide +kernel
theorem dX12_rests_93 : decode cX12_rests 93 = .ok (.bipush 25, 2) := by decide +kernel
theorem dX12_rests_95 : decode cX12_rests 95 = .ok (.if_icmp .ge 88, 3) := by decide +kernel
theorem dX12_rests_98 : decode cX12_rests 98 = .ok (.aload_n 0, 1) := by decide +kernel
theorem dX12_rests_99 : decode cX12_rests 99 = .ok (.getfield 39, 3) := by decide +kernel
theorem dX12_rests_102 : decode cX12_rests 102 = .ok (.bipush 56, 2) := by decide +kernel
theorem dX12_rests_104 : decode cX12_rests 104 = .ok (.iload_n 1, 1) := by decide +kernel
theorem dX12_rests_105 : decode cX12_rests 105 = .ok (.iadd, 1) := by decide +kernel
theorem dX12_rests_106 : decode cX12_rests 106 = .ok (.iconst 1, 1) := by decide +kernel
theorem dX12_rests_107 : decode cX12_rests 107 = .ok (.iconst 2, 1) := by decide +kernel
theorem dX12_rests_108 : decode cX12_rests 108 = .ok (.iload 9, 2) := by decide +kernel
theorem dX12_rests_110 : decode cX12_rests 110 = .ok (.iconst 5, 1) := by decide +kernel
theorem dX12_rests_111 : decode cX12_rests 111 = .ok (.idiv, 1) := by decide +kernel
theorem dX12_rests_112 : decode cX12_rests 112 = .ok (.imul, 1) := by decide +kernel
theorem dX12_rests_113 : decode cX12_rests 113 = .ok (.iadd, 1) := by decide +kernel
theorem dX12_rests_114 : decode cX12_rests 114 = .ok (.iastore, 1) := by decide +kernel
theorem dX12_rests_115 : decode cX12_rests 115 = .ok (.aload_n 0, 1) := by decide +kernel
theorem dX12_rests_116 : decode cX12_rests 116 = .ok (.getfield 39, 3) := by decide +kernel
theorem dX12_rests_119 : decode cX12_rests 119 = .ok (.bipush 56, 2) := by decide +kernel
theorem dX12_rests_121 : decode cX12_rests 121 = .ok (.iload_n 2, 1) := by decide +kernel
theorem dX12_rests_122 : decode cX12_rests 122 = .ok (.iadd, 1) := by decide +kernel
theorem dX12_rests_123 : decode cX12_rests 123 = .ok (.iconst 1, 1) := by decide +kernel
theorem dX12_rests_124 : decode cX12_rests 124 = .ok (.iconst 2, 1) := by decide +kernel
theorem dX12_rests_125 : decode cX12_rests 125 = .ok (.iload 9, 2) := by decide +kernel
theorem dX12_rests_127 : decode cX12_rests 127 = .ok (.iconst 5, 1) := by decide +kernel
theorem dX12_rests_128 : decode cX12_rests 128 = .ok (.irem, 1) := by decide +kernel
theorem dX12_rests_129 : decode cX12_rests 129 = .ok (.imul, 1) := by decide +kernel
theorem dX12_rests_130 : decode cX12_rests 130 = .ok (.iadd, 1) := by decide +kernel
theorem dX12_rests_131 : decode cX12_rests 131 = .ok (.iastore, 1) := by decide +kernel
theorem dX12_rests_132 : decode cX12_rests 132 = .ok (.aload_n 0, 1) := by decide +kernel
theorem dX12_rests_133 : decode cX12_rests 133 = .ok (.iload_n 3, 1) := by decide +kernel
theorem dX12_rests_134 : decode cX12_rests 134 = .ok (.invokevirtual 365, 3) := by decide +kernel
theorem dX12_rests_137 : decode cX12_rests 137 = .ok (.aload_n 0, 1) := by decide +kernel
theorem dX12_rests_138 : decode cX12_rests 138 = .ok (.getfield 52, 3) := by decide +kernel
theorem dX12_rests_141 : decode cX12_rests 141 = .ok (.iconst 2, 1) := by decide +kernel
theorem dX12_rests_142 : decode cX12_rests 142 = .ok (.iload 9, 2) := by decide +kernel
theorem dX12_rests_144 : decode cX12_rests 144 = .ok (.imul, 1) := by decide +kernel
theorem dX12_rests_145 : decode cX12_rests 145 = .ok (.aload_n 0, 1) := by decide +kernel
theorem dX12_rests_146 : decode cX12_rests 146 = .ok (.iload_n 1, 1) := by decide +kernel
theorem dX12_rests_147 : decode cX12_rests 147 = .ok (.invokevirtual 393, 3) := by decide +kernel
theorem dX12_rests_150 : decode cX12_rests 150 = .ok (.iload 7, 2) := by decide +kernel
theorem dX12_rests_152 : decode cX12_rests 152 = .ok (.isub, 1) := by decide +kernel
theorem dX12_rests_153 : decode cX12_rests 153 = .ok (.iastore, 1) := by decide +kernel
theorem dX12_rests_154 : decode cX12_rests 154 = .ok (.aload_n 0, 1) := by decide +kernel
theorem dX12_rests_155 : decode cX12_rests 155 = .ok (.getfield 52, 3) := by decide +kernel
theorem dX12_rests_158 : decode cX12_rests 158 = .ok (.iconst 2, 1) := by decide +kernel
theorem dX12_rests_159 : decode cX12_rests 159 = .ok (.iload 9, 2) := by decide +kernel
theorem dX12_rests_161 : decode cX12_rests 161 = .ok (.imul, 1) := by decide +kernel
theorem dX12_rests_162 : decode cX12_rests 162 = .ok (.iconst 1, 1) := by decide +kernel
theorem dX12_rests_163 : decode cX12_rests 163 = .ok (.iadd, 1) := by decide +kernel
theorem dX12_rests_164 : decode cX12_rests 164 = .ok (.aload_n 0, 1) := by decide +kernel
theorem dX12_rests_165 : decode cX12_rests 165 = .ok (.iload_n 2, 1) := by decide +kernel
theorem dX12_rests_166 : decode cX12_rests 166 = .ok (.invokevirtual 393, 3) := by decide +kernel
theorem dX12_rests_169 : decode cX12_rests 169 = .ok (.iload 8, 2) := by decide +kernel
theorem dX12_rests_171 : decode cX12_rests 171 = .ok (.isub, 1) := by decide +kernel
theorem dX12_rests_172 : decode cX12_rests 172 = .ok (.iastore, 1) := by decide +kernel
theorem dX12_rests_173 : decode cX12_rests 173 = .ok (.aload_n 0, 1) := by decide +kernel
theorem dX12_rests_174 : decode cX12_rests 174 = .ok (.invokevirtual 368, 3) := by decide +kernel
theorem dX12_rests_177 : decode cX12_rests 177 = .ok (.iinc 9 1, 3) := by decide +kernel
theorem dX12_rests_180 : decode cX12_rests 180 = .ok (.goto (-89), 3) := by decide +kernel
theorem dX12_rests_183 : decode cX12_rests 183 = .ok (.aload_n 0, 1) := by decide +kernel
theorem dX12_rests_184 : decode cX12_rests 184 = .ok (.getfield 39, 3) := by decide +kernel
theorem dX12_rests_187 : decode cX12_rests 187 = .ok (.bipush 56, 2) := by decide +kernel
theorem dX12_rests_189 : decode cX12_rests 189 = .ok (.iload_n 1, 1) := by decide +kernel
theorem dX12_rests_190 : decode cX12_rests 190 = .ok (.iadd, 1) := by decide +kernel
theorem dX12_rests_191 : decode cX12_rests 191 = .ok (.iload 5, 2) := by decide +kernel
theorem dX12_rests_193 : decode cX12_rests 193 = .ok (.iastore, 1) := by decide +kernel
theorem dX12_rests_194 : decode cX12_rests 194 = .ok (.aload_n 0, 1) := by decide +kernel
theorem dX12_rests_195 : decode cX12_rests 195 = .ok (.getfield 39, 3) := by decide +kernel
theorem dX12_rests_198 : decode cX12_rests 198 = .ok (.bipush 56, 2) := by decide +kernel
theorem dX12_rests_200 : decode cX12_rests 200 = .ok (.iload_n 2, 1) := by decide +kernel
theorem dX12_rests_201 : decode cX12_rests 201 = .ok (.iadd, 1) := by decide +kernel
theorem dX12_rests_202 : decode cX12_rests 202 = .ok (.iload 6, 2) := by decide +kernel
theorem dX12_rests_204 : decode cX12_rests 204 = .ok (.iastore, 1) := by decide +kernel
theorem dX12_rests_205 : decode cX12_rests 205 = .ok (.iconst 0, 1) := by decide +kernel
theorem dX12_rests_206 : decode cX12_rests 206 = .ok (.istore 9, 2) := by decide +kernel
theorem dX12_rests_208 : decode cX12_rests 208 = .ok (.iconst (-1), 1) := by decide +kernel
theorem dX12_rests_209 : decode cX12_rests 209 = .ok (.istore 10, 2) := by decide +kernel
theorem dX12_rests_211 : decode cX12_rests 211 = .ok (.bipush 24, 2) := by decide +kernel
theorem dX12_rests_213 : decode cX12_rests 213 = .ok (.istore 11, 2) := by decide +kernel
theorem dX12_rests_215 : decode cX12_rests 215 = .ok (.iload 11, 2) := by decide +kernel
theorem dX12_rests_217 : decode cX12_rests 217 = .ok (.ifCond .lt 34, 3) := by decide +kernel
theorem dX12_rests_220 : decode cX12_rests 220 = .ok (.aload_n 0, 1) := by decide +kernel
theorem dX12_rests_221 : decode cX12_rests 221 = .ok (.iload 11, 2) := by decide +kernel
theorem dX12_rests_223 : decode cX12_rests 223 = .ok (.iconst 5, 1) := by decide +kernel
theorem dX12_rests_224 : decode cX12_rests 224 = .ok (.idiv, 1) := by decide +kernel
theorem dX12_rests_225 : decode cX12_rests 225 = .ok (.iload 11, 2) := by decide +kernel
theorem dX12_rests_227 : decode cX12_rests 227 = .ok (.iconst 5, 1) := by decide +kernel
theorem dX12_rests_228 : decode cX12_rests 228 = .ok (.irem, 1) := by decide +kernel
theorem dX12_rests_229 : decode cX12_rests 229 = .ok (.invokevirtual 396, 3) := by decide +kernel
theorem dX12_rests_232 : decode cX12_rests 232 = .ok (.ifCond .ne 6, 3) := by decide +kernel
theorem dX12_rests_235 : decode cX12_rests 235 = .ok (.goto 10, 3) := by decide +kernel
theorem dX12_rests_238 : decode cX12_rests 238 = .ok (.iload 11, 2) := by decide +kernel
theorem dX12_rests_240 : decode cX12_rests 240 = .ok (.istore 10, 2) := by decide +kernel
theorem dX12_rests_242 : decode cX12_rests 242 = .ok (.iinc 9 1, 3) := by decide +kernel
theorem dX12_rests_245 : decode cX12_rests 245 = .ok (.iinc 11 (-1), 3) := by decide +kernel
theorem dX12_rests_248 : decode cX12_rests 248 = .ok (.goto (-33), 3) := by decide +kernel
theorem dX12_rests_251 : decode cX12_rests 251 = .ok (.iload 4, 2) := by decide +kernel
theorem dX12_rests_253 : decode cX12_rests 253 = .ok (.ifCond .ne 6, 3) := by decide +kernel
theorem dX12_rests_256 : decode cX12_rests 256 = .ok (.iload 9, 2) := by decide +kernel
theorem dX12_rests_258 : decode cX12_rests 258 = .ok (.ireturn, 1) := by decide +kernel
theorem dX12_rests_259 : decode cX12_rests 259 = .ok (.iload 10, 2) := by decide +kernel
theorem dX12_rests_261 : decode cX12_rests 261 = .ok (.ifCond .ge 8, 3) := by decide +kernel
theorem dX12_rests_264 : decode cX12_rests 264 = .ok (.bipush (-2), 2) := by decide +kernel
theorem dX12_rests_266 : decode cX12_rests 266 = .ok (.goto 28, 3) := by decide +kernel
theorem dX12_rests_269 : decode cX12_rests 269 = .ok (.iload 4, 2) := by decide +kernel
theorem dX12_rests_271 : decode cX12_rests 271 = .ok (.iconst 1, 1) := by decide +kernel
theorem dX12_rests_272 : decode cX12_rests 272 = .ok (.if_icmp .ne 14, 3) := by decide +kernel
theorem dX12_rests_275 : decode cX12_rests 275 = .ok (.iconst 1, 1) := by decide +kernel
theorem dX12_rests_276 : decode cX12_rests 276 = .ok (.iconst 2, 1) := by decide +kernel
theorem dX12_rests_277 : decode cX12_rests 277 = .ok (.iload 10, 2) := by decide +kernel
theorem dX12_rests_279 : decode cX12_rests 279 = .ok (.iconst 5, 1) := by decide +kernel
theorem dX12_rests_280 : decode cX12_rests 280 = .ok (.idiv, 1) := by decide +kernel
theorem dX12_rests_281 : decode cX12_rests 281 = .ok (.imul, 1) := by decide +kernel
theorem dX12_rests_282 : decode cX12_rests 282 = .ok (.iadd, 1) := by decide +kernel
theorem dX12_rests_283 : decode cX12_rests 283 = .ok (.goto 11, 3) := by decide +kernel
theorem dX12_rests_286 : decode cX12_rests 286 = .ok (.iconst 1, 1) := by decide +kernel
theorem dX12_rests_287 : decode cX12_rests 287 = .ok (.iconst 2, 1) := by decide +kernel
theorem dX12_rests_288 : decode cX12_rests 288 = .ok (.iload 10, 2) := by decide +kernel
theorem dX12_rests_290 : decode cX12_rests 290 = .ok (.iconst 5, 1) := by decide +kernel
theorem dX12_rests_291 : decode cX12_rests 291 = .ok (.irem, 1) := by decide +kernel
theorem dX12_rests_292 : decode cX12_rests 292 = .ok (.imul, 1) := by decide +kernel
theorem dX12_rests_293 : decode cX12_rests 293 = .ok (.iadd, 1) := by decide +kernel
theorem dX12_rests_294 : decode cX12_rests 294 = .ok (.ireturn, 1) := by decide +kernel
theorem dX12_ring_0 : decode cX12_ring 0 = .ok (.aload_n 0, 1) := by decide +kernel
theorem dX12_ring_1 : decode cX12_ring 1 = .ok (.invokevirtual 283, 3) := by decide +kernel
theorem dX12_ring_4 : decode cX12_ring 4 = .ok (.ifCond .eq 13, 3) := by decide +kernel
theorem dX12_ring_7 : decode cX12_ring 7 = .ok (.iload_n 1, 1) := by decide +kernel
theorem dX12_ring_8 : decode cX12_ring 8 = .ok (.i2l, 1) := by decide +kernel
theorem dX12_ring_9 : decode cX12_ring 9 = .ok (.lconst 0, 1) := by decide +kernel
theorem dX12_ring_10 : decode cX12_ring 10 = .ok (.lconst 1, 1) := by decide +kernel
theorem dX12_ring_11 : decode cX12_ring 11 = .ok (.invokestatic 115, 3) := by decide +kernel
theorem dX12_ring_14 : decode cX12_ring 14 = .ok (.ifCond .ne 5, 3) := by decide +kernel
theorem dX12_ring_17 : decode cX12_ring 17 = .ok (.iconst (-1), 1) := by decide +kernel
theorem dX12_ring_18 : decode cX12_ring 18 = .ok (.ireturn, 1) := by decide +kernel
theorem dX12_ring_19 : decode cX12_ring 19 = .ok (.aload_n 0, 1) := by decide +kernel
theorem dX12_ring_20 : decode cX12_ring 20 = .ok (.invokevirtual 362, 3) := by decide +kernel
theorem dX12_ring_23 : decode cX12_ring 23 = .ok (.iconst 0, 1) := by decide +kernel
theorem dX12_ring_24 : decode cX12_ring 24 = .ok (.istore_n 2, 1) := by decide +kernel
theorem dX12_ring_25 : decode cX12_ring 25 = .ok (.iload_n 2, 1) := by decide +kernel
theorem dX12_ring_26 : decode cX12_ring 26 = .ok (.bipush 60, 2) := by decide +kernel
theorem dX12_ring_28 : decode cX12_ring 28 = .ok (.if_icmp .gt 66, 3) := by decide +kernel
theorem dX12_ring_31 : decode cX12_ring 31 = .ok (.aload_n 0, 1) := by decide +kernel
theorem dX12_ring_32 : decode cX12_ring 32 = .ok (.getfield 55, 3) := by decide +kernel
theorem dX12_ring_35 : decode cX12_ring 35 = .ok (.bipush 7, 2) := by decide +kernel
theorem dX12_ring_37 : decode cX12_ring 37 = .ok (.iload_n 2, 1) := by decide +kernel
theorem dX12_ring_38 : decode cX12_ring 38 = .ok (.imul, 1) := by decide +kernel
theorem dX12_ring_39 : decode cX12_ring 39 = .ok (.aload_n 0, 1) := by decide +kernel
theorem dX12_ring_40 : decode cX12_ring 40 = .ok (.getfield 39, 3) := by decide +kernel
theorem dX12_ring_43 : decode cX12_ring 43 = .ok (.bipush 11, 2) := by decide +kernel
theorem dX12_ring_45 : decode cX12_ring 45 = .ok (.iaload, 1) := by decide +kernel
theorem dX12_ring_46 : decode cX12_ring 46 = .ok (.iastore, 1) := by decide +kernel
theorem dX12_ring_47 : decode cX12_ring 47 = .ok (.iconst 0, 1) := by decide +kernel
theorem dX12_ring_48 : decode cX12_ring 48 = .ok (.istore_n 3, 1) := by decide +kernel
theorem dX12_ring_49 : decode cX12_ring 49 = .ok (.iload_n 3, 1) := by decide +kernel
theorem dX12_ring_50 : decode cX12_ring 50 = .ok (.aload_n 0, 1) := by decide +kernel
theorem dX12_ring_51 : decode cX12_ring 51 = .ok (.getfield 39, 3) := by decide +kernel
theorem dX12_ring_54 : decode cX12_ring 54 = .ok (.iconst 3, 1) := by decide +kernel
theorem dX12_ring_55 : decode cX12_ring 55 = .ok (.iaload, 1) := by decide +kernel
theorem dX12_ring_56 : decode cX12_ring 56 = .ok (.if_icmp .ge 27, 3) := by decide +kernel
theorem dX12_ring_59 : decode cX12_ring 59 = .ok (.aload_n 0, 1) := by decide +kernel
theorem dX12_ring_60 : decode cX12_ring 60 = .ok (.getfield 55, 3) := by decide +kernel
theorem dX12_ring_63 : decode cX12_ring 63 = .ok (.bipush 7, 2) := by decide +kernel
theorem dX12_ring_65 : decode cX12_ring 65 = .ok (.iload_n 2, 1) := by decide +kernel
theorem dX12_ring_66 : decode cX12_ring 66 = .ok (.imul, 1) := by decide +kernel
theorem dX12_ring_67 : decode cX12_ring 67 = .ok (.iconst 1, 1) := by decide +kernel
theorem dX12_ring_68 : decode cX12_ring 68 = .ok (.iadd, 1) := by decide +kernel
theorem dX12_ring_69 : decode cX12_ring 69 = .ok (.iload_n 3, 1) := by decide +kernel
theorem dX12_ring_70 : decode cX12_ring 70 = .ok (.iadd, 1) := by decide +kernel
theorem dX12_ring_71 : decode cX12_ring 71 = .ok (.aload_n 0, 1) := by decide +kernel
theorem dX12_ring_72 : decode cX12_ring 72 = .ok (.iload_n 3, 1) := by decide +kernel
theorem dX12_ring_73 : decode cX12_ring 73 = .ok (.invokevirtual 301, 3) := by decide +kernel
theorem dX12_ring_76 : decode cX12_ring 76 = .ok (.iastore, 1) := by decide +kernel
theorem dX12_ring_77 : decode cX12_ring 77 = .ok (.iinc 3 1, 3) := by decide +kernel
theorem dX12_ring_80 : decode cX12_ring 80 = .ok (.goto (-31), 3) := by decide +kernel
theorem dX12_ring_83 : decode cX12_ring 83 = .ok (.aload_n 0, 1) := by decide +kernel
theorem dX12_ring_84 : decode cX12_ring 84 = .ok (.invokevirtual 348, 3) := by decide +kernel
theorem dX12_ring_87 : decode cX12_ring 87 = .ok (.pop, 1) := by decide +kernel
theorem dX12_ring_88 : decode cX12_ring 88 = .ok (.iinc 2 1, 3) := by decide +kernel
theorem dX12_ring_91 : decode cX12_ring 91 = .ok (.goto (-66), 3) := by decide +kernel
theorem dX12_ring_94 : decode cX12_ring 94 = .ok (.aload_n 0, 1) := by decide +kernel
theorem dX12_ring_95 : decode cX12_ring 95 = .ok (.invokevirtual 368, 3) := by decide +kernel
theorem dX12_ring_98 : decode cX12_ring 98 = .ok (.iconst 0, 1) := by decide +kernel
theorem dX12_ring_99 : decode cX12_ring 99 = .ok (.istore_n 2, 1) := by decide +kernel
theorem dX12_ring_100 : decode cX12_ring 100 = .ok (.iload_n 2, 1) := by decide +kernel
theorem dX12_ring_101 : decode cX12_ring 101 = .ok (.bipush 60, 2) := by decide +kernel
theorem dX12_ring_103 : decode cX12_ring 103 = .ok (.if_icmp .ge 54, 3) := by decide +kernel
theorem dX12_ring_106 : decode cX12_ring 106 = .ok (.iload_n 2, 1) := by decide +kernel
theorem dX12_ring_107 : decode cX12_ring 107 = .ok (.iconst 1, 1) := by decide +kernel
theorem dX12_ring_108 : decode cX12_ring 108 = .ok (.iadd, 1) := by decide +kernel
theorem dX12_ring_109 : decode cX12_ring 109 = .ok (.istore_n 3, 1) := by decide +kernel
theorem dX12_ring_110 : decode cX12_ring 110 = .ok (.iload_n 3, 1) := by decide +kernel
theorem dX12_ring_111 : decode cX12_ring 111 = .ok (.bipush 60, 2) := by decide +kernel
theorem dX12_ring_113 : decode cX12_ring 113 = .ok (.if_icmp .gt 38, 3) := by decide +kernel
theorem dX12_ring_116 : decode cX12_ring 116 = .ok (.aload_n 0, 1) := by decide +kernel
theorem dX12_ring_117 : decode cX12_ring 117 = .ok (.iload_n 2, 1) := by decide +kernel
theorem dX12_ring_118 : decode cX12_ring 118 = .ok (.iload_n 3, 1) := by decide +kernel
theorem dX12_ring_119 : decode cX12_ring 119 = .ok (.invokevirtual 399, 3) := by decide +kernel
theorem dX12_ring_122 : decode cX12_ring 122 = .ok (.ifCond .eq 23, 3) := by decide +kernel
theorem dX12_ring_125 : decode cX12_ring 125 = .ok (.iload_n 1, 1) := by decide +kernel
theorem dX12_ring_126 : decode cX12_ring 126 = .ok (.ifCond .ne 15, 3) := by decide +kernel
theorem dX12_ring_129 : decode cX12_ring 129 = .ok (.aload_n 0, 1) := by decide +kernel
theorem dX12_ring_130 : decode cX12_ring 130 = .ok (.getfield 39, 3) := by decide +kernel
theorem dX12_ring_133 : decode cX12_ring 133 = .ok (.bipush 10, 2) := by decide +kernel
theorem dX12_ring_135 : decode cX12_ring 135 = .ok (.iaload, 1) := by decide +kernel
theorem dX12_ring_136 : decode cX12_ring 136 = .ok (.iload_n 2, 1) := by decide +kernel
theorem dX12_ring_137 : decode cX12_ring 137 = .ok (.iadd, 1) := by decide +kernel
theorem dX12_ring_138 : decode cX12_ring 138 = .ok (.goto 6, 3) := by decide +kernel
theorem dX12_ring_141 : decode cX12_ring 141 = .ok (.iload_n 3, 1) := by decide +kernel
theorem dX12_ring_142 : decode cX12_ring 142 = .ok (.iload_n 2, 1) := by decide +kernel
theorem dX12_ring_143 : decode cX12_ring 143 = .ok (.isub, 1) := by decide +kernel
theorem dX12_ring_144 : decode cX12_ring 144 = .ok (.ireturn, 1) := by decide +kernel
theorem dX12_ring_145 : decode cX12_ring 145 = .ok (.iinc 3 1, 3) := by decide +kernel
theorem dX12_ring_148 : decode cX12_ring 148 = .ok (.goto (-38), 3) := by decide +kernel
theorem dX12_ring_151 : decode cX12_ring 151 = .ok (.iinc 2 1, 3) := by decide +kernel
theorem dX12_ring_154 : decode cX12_ring 154 = .ok (.goto (-54), 3) := by decide +kernel
theorem dX12_ring_157 : decode cX12_ring 157 = .ok (.bipush (-2), 2) := by decide +kernel
theorem dX12_ring_159 : decode cX12_ring 159 = .ok (.ireturn, 1) := by decide +kernel
theorem dX12_valueOf_0 : decode cX12_valueOf 0 = .ok (.aload_n 0, 1) := by decide +kernel
theorem dX12_valueOf_1 : decode cX12_valueOf 1 = .ok (.iload_n 1, 1) := by decide +kernel
theorem dX12_valueOf_2 : decode cX12_valueOf 2 = .ok (.invokevirtual 289, 3) := by decide +kernel
theorem dX12_valueOf_5 : decode cX12_valueOf 5 = .ok (.iconst 4, 1) := by decide +kernel
theorem dX12_valueOf_6 : decode cX12_valueOf 6 = .ok (.aload_n 0, 1) := by decide +kernel
theorem dX12_valueOf_7 : decode cX12_valueOf 7 = .ok (.iload_n 1, 1) := by decide +kernel
theorem dX12_valueOf_8 : decode cX12_valueOf 8 = .ok (.invokevirtual 292, 3) := by decide +kernel
theorem dX12_valueOf_11 : decode cX12_valueOf 11 = .ok (.imul, 1) := by decide +kernel
theorem dX12_valueOf_12 : decode cX12_valueOf 12 = .ok (.isub, 1) := by decide +kernel
theorem dX12_valueOf_13 : decode cX12_valueOf 13 = .ok (.ireturn, 1) := by decide +kernel
set_option maxHeartbeats 4000000 in
set_option maxRecDepth 100000 in
theorem ct_X12_grainsOf {T : Nat → Option Int32} (l : Launch) (D : va_G) (tc : Nat → ClassId) (sk : (Nat → Nat) × (Nat → Nat)) (Ma : Nat → Nat) (Mv : Nat → Int32) (Mf : Nat → Nat → Int32) (Mj : Nat → Int64) (x1 : Int32) (h_said : SaidB T (Mf 10)) : Ct l yX12_grainsOf cX12_grainsOf 4 (some .int) { frames := 1, cells := 0, slots := 0, locals := 21 } D tc sk [.ref (Ma 0), .int x1] [((Ma 0), .inr (12, [.ref (Ma 1), .int (Mv 0), .int (Mv 1), .ref (Ma 2), .ref (Ma 3), .ref (Ma 4), .ref (Ma 5), .ref (Ma 6), .int (Mv 2), .int (Mv 3), .int (Mv 4), .int (Mv 5), .int (Mv 6), .int (Mv 7), .int (Mv 8), .ref (Ma 7), .int (Mv 9), .ref (Ma 8), .int (Mv 10), .ref (Ma 9), .ref (Ma 10), .int (Mv 11), .int (Mv 12), .int (Mv 13), .ref (Ma 11), .int (Mv 14), .ref (Ma 12), .ref (Ma 13), .ref (Ma 14), .ref (Ma 15), .ref (Ma 16), .long (Mj 0), .ref (Ma 17), .ref (Ma 18), .ref (Ma 19), .ref (Ma 20)])), ((Ma 10), .inl (tc 0, 126, .inl (Mf 10)))] (fun (v : Option Value) (_ : Unit) => ∃ r : Int32, v = some (.int r) ∧ (True)) (fun (_ : Unit) => [((Ma 0), .inr (12, [.ref (Ma 1), .int (Mv 0), .int (Mv 1), .ref (Ma 2), .ref (Ma 3), .ref (Ma 4), .ref (Ma 5), .ref (Ma 6), .int (Mv 2), .int (Mv 3), .int (Mv 4), .int (Mv 5), .int (Mv 6), .int (Mv 7), .int (Mv 8), .ref (Ma 7), .int (Mv 9), .ref (Ma 8), .int (Mv 10), .ref (Ma 9), .ref (Ma 10), .int (Mv 11), .int (Mv 12), .int (Mv 13), .ref (Ma 11), .int (Mv 14), .ref (Ma 12), .ref (Ma 13), .ref (Ma 14), .ref (Ma 15), .ref (Ma 16), .long (Mj 0), .ref (Ma 17), .ref (Ma 18), .ref (Ma 19), .ref (Ma 20)])), ((Ma 10), .inl (tc 0, 126, .inl (Mf 10)))]) 0 0 := by
  refine Ct.start (by decide) (Nat.le_of_ble_eq_true rfl) (fun p e s m below meth c A ls hx hb hr hlk hin hml hown hts hK hX hP hD hA hl hS => ?_)
  have hl : lv_has ls 4 [(0, .ref (Ma 0)), (1, .int x1)] := hl
  have ar_h_said := SaidB.al h_said
  refine lv_iconst (v := 0) hx hb dX12_grainsOf_0 (by decide) ?_
  refine lv_istore_n (lv' := [(2, .int 0), (0, .ref (Ma 0)), (1, .int x1)]) hx hb dX12_grainsOf_1 rfl hl (by decide) rfl (fun ls hl₀ => ?_)
  replace hl := hl₀
  clear hl₀
  refine lv_iconst (v := 0) hx hb dX12_grainsOf_2 (by decide) ?_
  refine lv_istore_n (lv' := [(3, .int 0), (2, .int 0), (0, .ref (Ma 0)), (1, .int x1)]) hx hb dX12_grainsOf_3 rfl hl (by decide) rfl (fun ls hl₀ => ?_)
  replace hl := hl₀
  clear hl₀
  have loop_7 : ∀ (n_5 : Nat) (vy_3 : Int32) (vy_4 : Int32) (H : Heap) (locs : List Loc) (ls : Array Slot), (6 - (vy_3 : Int32).toInt).toNat < n_5 → (0 ≤ (vy_3 : Int32).toInt) → va_P D classes [((Ma 0), .inr (12, [.ref (Ma 1), .int (Mv 0), .int (Mv 1), .ref (Ma 2), .ref (Ma 3), .ref (Ma 4), .ref (Ma 5), .ref (Ma 6), .int (Mv 2), .int (Mv 3), .int (Mv 4), .int (Mv 5), .int (Mv 6), .int (Mv 7), .int (Mv 8), .ref (Ma 7), .int (Mv 9), .ref (Ma 8), .int (Mv 10), .ref (Ma 9), .ref (Ma 10), .int (Mv 11), .int (Mv 12), .int (Mv 13), .ref (Ma 11), .int (Mv 14), .ref (Ma 12), .ref (Ma 13), .ref (Ma 14), .ref (Ma 15), .ref (Ma 16), .long (Mj 0), .ref (Ma 17), .ref (Ma 18), .ref (Ma 19), .ref (Ma 20)])), ((Ma 10), .inl (tc 0, 126, .inl (Mf 10)))] H → va_D A [((Ma 0), .inr (12, [.ref (Ma 1), .int (Mv 0), .int (Mv 1), .ref (Ma 2), .ref (Ma 3), .ref (Ma 4), .ref (Ma 5), .ref (Ma 6), .int (Mv 2), .int (Mv 3), .int (Mv 4), .int (Mv 5), .int (Mv 6), .int (Mv 7), .int (Mv 8), .ref (Ma 7), .int (Mv 9), .ref (Ma 8), .int (Mv 10), .ref (Ma 9), .ref (Ma 10), .int (Mv 11), .int (Mv 12), .int (Mv 13), .ref (Ma 11), .int (Mv 14), .ref (Ma 12), .ref (Ma 13), .ref (Ma 14), .ref (Ma 15), .ref (Ma 16), .long (Mj 0), .ref (Ma 17), .ref (Ma 18), .ref (Ma 19), .ref (Ma 20)])), ((Ma 10), .inl (tc 0, 126, .inl (Mf 10)))] → va_S A s.heap H locs → lv_has ls 4 [(3, .int vy_3), (2, .int vy_4), (0, .ref (Ma 0)), (1, .int x1)] → W p l e ({ frames := 1, cells := 0, slots := 0, locals := 21 }) s m ([.ref (Ma 0), .int x1].toArray) below meth c H locs 0 0 (MQ below (QW (fun (v : Option Value) (_ : Unit) => ∃ r : Int32, v = some (.int r) ∧ (True)) (BW D (fun (_ : Unit) => [((Ma 0), .inr (12, [.ref (Ma 1), .int (Mv 0), .int (Mv 1), .ref (Ma 2), .ref (Ma 3), .ref (Ma 4), .ref (Ma 5), .ref (Ma 6), .int (Mv 2), .int (Mv 3), .int (Mv 4), .int (Mv 5), .int (Mv 6), .int (Mv 7), .int (Mv 8), .ref (Ma 7), .int (Mv 9), .ref (Ma 8), .int (Mv 10), .ref (Ma 9), .ref (Ma 10), .int (Mv 11), .int (Mv 12), .int (Mv 13), .ref (Ma 11), .int (Mv 14), .ref (Ma 12), .ref (Ma 13), .ref (Ma 14), .ref (Ma 15), .ref (Ma 16), .long (Mj 0), .ref (Ma 17), .ref (Ma 18), .ref (Ma 19), .ref (Ma 20)])), ((Ma 10), .inl (tc 0, 126, .inl (Mf 10)))]) A) A) ([.ref (Ma 0), .int x1].toArray) s 0 0 A) (F0 m 4 ls []) := by
    clear hP hD hS hl
    intro n_5
    induction n_5 with
    | zero =>
      intro vy_3 vy_4 H locs ls h1
      exact absurd h1 (Nat.not_lt_zero _)
    | succ n_5 ih_6 =>
      intro vy_3 vy_4 H locs ls hn_9 pf_8 hP hD hS hl
      refine lv_iload_n hx hb dX12_grainsOf_4 rfl (lv_at hl 0 rfl) ?_
      refine lv_aload_n hx hb dX12_grainsOf_5 rfl (lv_at hl 2 rfl) ?_
      refine gf_X12_39 hx hb hts hown hK hP 0 rfl rfl dX12_grainsOf_6 ?_
      refine lv_iconst (v := 3) hx hb dX12_grainsOf_9 (by decide) ?_
      refine va_iald hx hb hK hP 1 0 rfl rfl (vin_dec (by decide +kernel)) dX12_grainsOf_10 ?_
      refine lv_topi (fun x_10 ex_10 => ?_)
      have lx_10 : x_10.toInt = ((Mf 10) 3).toInt := congrArg Int32.toInt ex_10
      refine lv_icmp_ge (tgt := 44) hx hb dX12_grainsOf_11 (by decide) (fun c_11 => ?_) (fun c_11 => ?_)
      · skip
        refine lv_iload_n hx hb dX12_grainsOf_44 rfl (lv_at hl 1 rfl) ?_
        exact retI (v := vy_4) hx hb hr hlk (rfl) hP hD hS () ⟨_, rfl, trivial⟩ [0, 1] rfl rfl dX12_grainsOf_45 (Nat.le_of_ble_eq_true rfl) (Nat.le_of_ble_eq_true rfl) rfl
      · skip
        refine lv_iload_n hx hb dX12_grainsOf_14 rfl (lv_at hl 1 rfl) ?_
        refine lv_iload_n hx hb dX12_grainsOf_15 rfl (lv_at hl 3 rfl) ?_
        refine lv_iload_n hx hb dX12_grainsOf_16 rfl (lv_at hl 0 rfl) ?_
        refine cS (As := [.int x1, .int vy_3]) (rest := [.int vy_4]) (wr := [((Ma 0), .inr (12, [.ref (Ma 1), .int (Mv 0), .int (Mv 1), .ref (Ma 2), .ref (Ma 3), .ref (Ma 4), .ref (Ma 5), .ref (Ma 6), .int (Mv 2), .int (Mv 3), .int (Mv 4), .int (Mv 5), .int (Mv 6), .int (Mv 7), .int (Mv 8), .ref (Ma 7), .int (Mv 9), .ref (Ma 8), .int (Mv 10), .ref (Ma 9), .ref (Ma 10), .int (Mv 11), .int (Mv 12), .int (Mv 13), .ref (Ma 11), .int (Mv 14), .ref (Ma 12), .ref (Ma 13), .ref (Ma 14), .ref (Ma 15), .ref (Ma 16), .long (Mj 0), .ref (Ma 17), .ref (Ma 18), .ref (Ma 19), .ref (Ma 20)])), ((Ma 10), .inl (tc 0, 126, .inl (Mf 10)))]) ⟨hx, hb, hml, hown, hts⟩ hK hX hA (ct_X12_isOf l D tc sk x1 vy_3) k_1469 k_1467 k_1468 k_106 pl_X12_isOf ⟨Nat.le_of_ble_eq_true rfl, Nat.le_of_ble_eq_true rfl⟩ rfl rfl  hP hD hS [] [0, 1] rfl rfl rfl rfl rfl (by decide) rfl hl.1 rfl (Nat.le_of_ble_eq_true rfl) dX12_grainsOf_17 ⟨Nat.le_of_ble_eq_true rfl, Nat.le_of_ble_eq_true rfl⟩ (fun v_12 u_13 H locs hv_14 hP₀ hD₀ hS₀ => ?_)
        obtain ⟨r_15, rfl, he_16⟩ := hv_14
        have he_16 : (r_15.toInt = 0 ∨ r_15.toInt = 1) := he_16
        refine W.eq (g2 := F0 m 20 ls [.int r_15, .int vy_4]) rfl ?_
        replace hP : va_P D classes [((Ma 0), .inr (12, [.ref (Ma 1), .int (Mv 0), .int (Mv 1), .ref (Ma 2), .ref (Ma 3), .ref (Ma 4), .ref (Ma 5), .ref (Ma 6), .int (Mv 2), .int (Mv 3), .int (Mv 4), .int (Mv 5), .int (Mv 6), .int (Mv 7), .int (Mv 8), .ref (Ma 7), .int (Mv 9), .ref (Ma 8), .int (Mv 10), .ref (Ma 9), .ref (Ma 10), .int (Mv 11), .int (Mv 12), .int (Mv 13), .ref (Ma 11), .int (Mv 14), .ref (Ma 12), .ref (Ma 13), .ref (Ma 14), .ref (Ma 15), .ref (Ma 16), .long (Mj 0), .ref (Ma 17), .ref (Ma 18), .ref (Ma 19), .ref (Ma 20)])), ((Ma 10), .inl (tc 0, 126, .inl (Mf 10)))] H := hP₀
        replace hD : va_D A [((Ma 0), .inr (12, [.ref (Ma 1), .int (Mv 0), .int (Mv 1), .ref (Ma 2), .ref (Ma 3), .ref (Ma 4), .ref (Ma 5), .ref (Ma 6), .int (Mv 2), .int (Mv 3), .int (Mv 4), .int (Mv 5), .int (Mv 6), .int (Mv 7), .int (Mv 8), .ref (Ma 7), .int (Mv 9), .ref (Ma 8), .int (Mv 10), .ref (Ma 9), .ref (Ma 10), .int (Mv 11), .int (Mv 12), .int (Mv 13), .ref (Ma 11), .int (Mv 14), .ref (Ma 12), .ref (Ma 13), .ref (Ma 14), .ref (Ma 15), .ref (Ma 16), .long (Mj 0), .ref (Ma 17), .ref (Ma 18), .ref (Ma 19), .ref (Ma 20)])), ((Ma 10), .inl (tc 0, 126, .inl (Mf 10)))] := hD₀
        replace hS := hS₀
        clear hP₀ hD₀ hS₀
        refine lv_if_eq (tgt := 35) hx hb dX12_grainsOf_20 (by decide) (fun c_18 => ?_) (fun c_18 => ?_)
        · skip
          refine lv_iconst (v := 0) hx hb dX12_grainsOf_35 (by decide) ?_
          refine lv_iadd hx hb dX12_grainsOf_36 ?_
          refine lv_topi (fun x_19 ex_19 => ?_)
          refine lv_istore_n (lv' := [(2, .int x_19), (3, .int vy_3), (0, .ref (Ma 0)), (1, .int x1)]) hx hb dX12_grainsOf_37 rfl hl (by decide) rfl (fun ls hl₀ => ?_)
          replace hl := hl₀
          clear hl₀
          obtain ⟨x_20, ex_20⟩ : ∃ y : Int32, y = vy_3 + 1 := ⟨_, rfl⟩
          refine lv_iinc (v := x_20) (lv' := [(3, .int x_20), (2, .int x_19), (0, .ref (Ma 0)), (1, .int x1)]) hx hb dX12_grainsOf_38 hl (k := 1) rfl (by rw [ex_20]; rfl) (by decide) rfl (fun ls hl₀ => ?_)
          replace hl := hl₀
          clear hl₀
          refine lv_goto (tgt := 4) hx hb dX12_grainsOf_41 (by decide) ?_
          have hb_21 : 6 - (x_20 : Int32).toInt < 6 - (vy_3 : Int32).toInt ∧ 1 ≤ 6 - (vy_3 : Int32).toInt := by
            have z_1 := Int32.lt_iff_toInt_lt.mp (Int32.not_le.mp c_11)
            have z_2 := congrArg Int32.toInt c_18
            have y_0 : (0 : Int32).toInt = 0 := by decide
            have y_1 : (1 : Int32).toInt = 1 := by decide
            have t_x_20 : x_20.toInt = (vy_3 : Int32).toInt + (1 : Int32).toInt := by rw [ex_20]; exact add_toInt (by omega) (by omega)
            refine ⟨?_, ?_⟩ <;> omega
          have ha_22 : 0 ≤ (x_20 : Int32).toInt := by
            have z_1 := Int32.lt_iff_toInt_lt.mp (Int32.not_le.mp c_11)
            have z_2 := congrArg Int32.toInt c_18
            have y_0 : (0 : Int32).toInt = 0 := by decide
            have y_1 : (1 : Int32).toInt = 1 := by decide
            have t_x_20 : x_20.toInt = (vy_3 : Int32).toInt + (1 : Int32).toInt := by rw [ex_20]; exact add_toInt (by omega) (by omega)
            omega
          exact ih_6 x_20 x_19 _ _ _ (by omega) ha_22 (hP.sub [0, 1] rfl) (hD.sub [0, 1] rfl rfl) hS (lv_sub hl [0, 1, 2, 3] rfl)
        · skip
          refine lv_aload_n hx hb dX12_grainsOf_23 rfl (lv_at hl 2 rfl) ?_
          refine gf_X12_39 hx hb hts hown hK hP 0 rfl rfl dX12_grainsOf_24 ?_
          refine lv_bipush (v := 56) hx hb dX12_grainsOf_27 (by decide) ?_
          refine lv_iload_n hx hb dX12_grainsOf_29 rfl (lv_at hl 0 rfl) ?_
          refine lv_iadd hx hb dX12_grainsOf_30 ?_
          refine lv_topi (fun x_23 ex_23 => ?_)
          have hi_24 : vp_in x_23 126 := by
            have z_1 := Int32.lt_iff_toInt_lt.mp (Int32.not_le.mp c_11)
            have z_2 : ¬ (r_15 : Int32).toInt = (0 : Int32).toInt := fun z => c_18 (Int32.toInt_inj.mp z)
            have y_0 : (0 : Int32).toInt = 0 := by decide
            have y_56 : (56 : Int32).toInt = 56 := by decide
            have t_x_23 : x_23.toInt = (56 : Int32).toInt + (vy_3 : Int32).toInt := by rw [ex_23]; exact add_toInt (by omega) (by omega)
            refine vp_in_iff.mpr ⟨?_, ?_⟩ <;> omega
          refine va_iald hx hb hK hP 1 0 rfl rfl hi_24 dX12_grainsOf_31 ?_
          refine lv_topi (fun x_25 ex_25 => ?_)
          refine lv_goto (tgt := 36) hx hb dX12_grainsOf_32 (by decide) ?_
          refine lv_iadd hx hb dX12_grainsOf_36 ?_
          refine lv_topi (fun x_26 ex_26 => ?_)
          refine lv_istore_n (lv' := [(2, .int x_26), (3, .int vy_3), (0, .ref (Ma 0)), (1, .int x1)]) hx hb dX12_grainsOf_37 rfl hl (by decide) rfl (fun ls hl₀ => ?_)
          replace hl := hl₀
          clear hl₀
          obtain ⟨x_27, ex_27⟩ : ∃ y : Int32, y = vy_3 + 1 := ⟨_, rfl⟩
          refine lv_iinc (v := x_27) (lv' := [(3, .int x_27), (2, .int x_26), (0, .ref (Ma 0)), (1, .int x1)]) hx hb dX12_grainsOf_38 hl (k := 1) rfl (by rw [ex_27]; rfl) (by decide) rfl (fun ls hl₀ => ?_)
          replace hl := hl₀
          clear hl₀
          refine lv_goto (tgt := 4) hx hb dX12_grainsOf_41 (by decide) ?_
          have hb_28 : 6 - (x_27 : Int32).toInt < 6 - (vy_3 : Int32).toInt ∧ 1 ≤ 6 - (vy_3 : Int32).toInt := by
            have z_1 := Int32.lt_iff_toInt_lt.mp (Int32.not_le.mp c_11)
            have z_2 : ¬ (r_15 : Int32).toInt = (0 : Int32).toInt := fun z => c_18 (Int32.toInt_inj.mp z)
            have y_0 : (0 : Int32).toInt = 0 := by decide
            have y_1 : (1 : Int32).toInt = 1 := by decide
            have t_x_27 : x_27.toInt = (vy_3 : Int32).toInt + (1 : Int32).toInt := by rw [ex_27]; exact add_toInt (by omega) (by omega)
            refine ⟨?_, ?_⟩ <;> omega
          have ha_29 : 0 ≤ (x_27 : Int32).toInt := by
            have z_1 := Int32.lt_iff_toInt_lt.mp (Int32.not_le.mp c_11)
            have z_2 : ¬ (r_15 : Int32).toInt = (0 : Int32).toInt := fun z => c_18 (Int32.toInt_inj.mp z)
            have y_0 : (0 : Int32).toInt = 0 := by decide
            have y_1 : (1 : Int32).toInt = 1 := by decide
            have t_x_27 : x_27.toInt = (vy_3 : Int32).toInt + (1 : Int32).toInt := by rw [ex_27]; exact add_toInt (by omega) (by omega)
            omega
          exact ih_6 x_27 x_26 _ _ _ (by omega) ha_29 (hP.sub [0, 1] rfl) (hD.sub [0, 1] rfl rfl) hS (lv_sub hl [0, 1, 2, 3] rfl)
  have ha_30 : 0 ≤ (0 : Int32).toInt := by
    have y_0 : (0 : Int32).toInt = 0 := by decide
    omega
  exact loop_7 _ 0 0 _ _ _ (Nat.lt_succ_self _) ha_30 hP hD hS hl
set_option maxRecDepth 100000 in
theorem cu_X12_grainsOf {T : Nat → Option Int32} (l : Launch) (D : va_G) (tc : Nat → ClassId) (sk : (Nat → Nat) × (Nat → Nat)) (Ma_0 : Nat) (Ma_1 : Nat) (Ma_2 : Nat) (Ma_3 : Nat) (Ma_4 : Nat) (Ma_5 : Nat) (Ma_6 : Nat) (Ma_7 : Nat) (Ma_8 : Nat) (Ma_9 : Nat) (Ma_10 : Nat) (Ma_11 : Nat) (Ma_12 : Nat) (Ma_13 : Nat) (Ma_14 : Nat) (Ma_15 : Nat) (Ma_16 : Nat) (Ma_17 : Nat) (Ma_18 : Nat) (Ma_19 : Nat) (Ma_20 : Nat) (Mv_0 : Int32) (Mv_1 : Int32) (Mv_2 : Int32) (Mv_3 : Int32) (Mv_4 : Int32) (Mv_5 : Int32) (Mv_6 : Int32) (Mv_7 : Int32) (Mv_8 : Int32) (Mv_9 : Int32) (Mv_10 : Int32) (Mv_11 : Int32) (Mv_12 : Int32) (Mv_13 : Int32) (Mv_14 : Int32) (Mf_10 : Nat → Int32) (Mj_0 : Int64) (x1 : Int32) (h_said : SaidB T Mf_10) : Ct l yX12_grainsOf cX12_grainsOf 4 (some .int) { frames := 1, cells := 0, slots := 0, locals := 21 } D tc sk [.ref Ma_0, .int x1] [(Ma_0, .inr (12, [.ref Ma_1, .int Mv_0, .int Mv_1, .ref Ma_2, .ref Ma_3, .ref Ma_4, .ref Ma_5, .ref Ma_6, .int Mv_2, .int Mv_3, .int Mv_4, .int Mv_5, .int Mv_6, .int Mv_7, .int Mv_8, .ref Ma_7, .int Mv_9, .ref Ma_8, .int Mv_10, .ref Ma_9, .ref Ma_10, .int Mv_11, .int Mv_12, .int Mv_13, .ref Ma_11, .int Mv_14, .ref Ma_12, .ref Ma_13, .ref Ma_14, .ref Ma_15, .ref Ma_16, .long Mj_0, .ref Ma_17, .ref Ma_18, .ref Ma_19, .ref Ma_20])), (Ma_10, .inl (tc 0, 126, .inl Mf_10))] (fun (v : Option Value) (_ : Unit) => ∃ r : Int32, v = some (.int r) ∧ (True)) (fun (_ : Unit) => [(Ma_0, .inr (12, [.ref Ma_1, .int Mv_0, .int Mv_1, .ref Ma_2, .ref Ma_3, .ref Ma_4, .ref Ma_5, .ref Ma_6, .int Mv_2, .int Mv_3, .int Mv_4, .int Mv_5, .int Mv_6, .int Mv_7, .int Mv_8, .ref Ma_7, .int Mv_9, .ref Ma_8, .int Mv_10, .ref Ma_9, .ref Ma_10, .int Mv_11, .int Mv_12, .int Mv_13, .ref Ma_11, .int Mv_14, .ref Ma_12, .ref Ma_13, .ref Ma_14, .ref Ma_15, .ref Ma_16, .long Mj_0, .ref Ma_17, .ref Ma_18, .ref Ma_19, .ref Ma_20])), (Ma_10, .inl (tc 0, 126, .inl Mf_10))]) 0 0 :=
  ct_X12_grainsOf l D tc sk (fun k => ([Ma_0, Ma_1, Ma_2, Ma_3, Ma_4, Ma_5, Ma_6, Ma_7, Ma_8, Ma_9, Ma_10, Ma_11, Ma_12, Ma_13, Ma_14, Ma_15, Ma_16, Ma_17, Ma_18, Ma_19, Ma_20] : List (Nat)).getD k 0) (fun k => ([Mv_0, Mv_1, Mv_2, Mv_3, Mv_4, Mv_5, Mv_6, Mv_7, Mv_8, Mv_9, Mv_10, Mv_11, Mv_12, Mv_13, Mv_14] : List (Int32)).getD k 0) (fun k => ([(fun _ => 0), (fun _ => 0), (fun _ => 0), (fun _ => 0), (fun _ => 0), (fun _ => 0), (fun _ => 0), (fun _ => 0), (fun _ => 0), (fun _ => 0), Mf_10] : List (Nat → Int32)).getD k (fun _ => 0)) (fun k => ([Mj_0] : List (Int64)).getD k 0) x1 h_said
set_option maxHeartbeats 4000000 in
set_option maxRecDepth 100000 in
theorem ct_X12_page {T : Nat → Option Int32} (l : Launch) (D : va_G) (tc : Nat → ClassId) (sk : (Nat → Nat) × (Nat → Nat)) (Ma : Nat → Nat) (Mv : Nat → Int32) (Mf : Nat → Nat → Int32) (Mj : Nat → Int64) (x1 : Int32) (x2 : Int32) (h_said : SaidB T (Mf 10)) : Ct l yX12_page cX12_page 7 (some .int) { frames := 2, cells := 0, slots := 0, locals := 44 } D tc sk [.ref (Ma 0), .int x1, .int x2] [((Ma 0), .inr (12, [.ref (Ma 1), .int (Mv 0), .int (Mv 1), .ref (Ma 2), .ref (Ma 3), .ref (Ma 4), .ref (Ma 5), .ref (Ma 6), .int (Mv 2), .int (Mv 3), .int (Mv 4), .int (Mv 5), .int (Mv 6), .int (Mv 7), .int (Mv 8), .ref (Ma 7), .int (Mv 9), .ref (Ma 8), .int (Mv 10), .ref (Ma 9), .ref (Ma 10), .int (Mv 11), .int (Mv 12), .int (Mv 13), .ref (Ma 11), .int (Mv 14), .ref (Ma 12), .ref (Ma 13), .ref (Ma 14), .ref (Ma 15), .ref (Ma 16), .long (Mj 0), .ref (Ma 17), .ref (Ma 18), .ref (Ma 19), .ref (Ma 20)])), ((Ma 10), .inl (tc 0, 126, .inl (Mf 10)))] (fun (v : Option Value) (_ : Unit) => ∃ r : Int32, v = some (.int r) ∧ (True)) (fun (_ : Unit) => [((Ma 0), .inr (12, [.ref (Ma 1), .int (Mv 0), .int (Mv 1), .ref (Ma 2), .ref (Ma 3), .ref (Ma 4), .ref (Ma 5), .ref (Ma 6), .int (Mv 2), .int (Mv 3), .int (Mv 4), .int (Mv 5), .int (Mv 6), .int (Mv 7), .int (Mv 8), .ref (Ma 7), .int (Mv 9), .ref (Ma 8), .int (Mv 10), .ref (Ma 9), .ref (Ma 10), .int (Mv 11), .int (Mv 12), .int (Mv 13), .ref (Ma 11), .int (Mv 14), .ref (Ma 12), .ref (Ma 13), .ref (Ma 14), .ref (Ma 15), .ref (Ma 16), .long (Mj 0), .ref (Ma 17), .ref (Ma 18), .ref (Ma 19), .ref (Ma 20)])), ((Ma 10), .inl (tc 0, 126, .inl (Mf 10)))]) 0 0 := by
  refine Ct.start (by decide) (Nat.le_of_ble_eq_true rfl) (fun p e s m below meth c A ls hx hb hr hlk hin hml hown hts hK hX hP hD hA hl hS => ?_)
  have hl : lv_has ls 7 [(0, .ref (Ma 0)), (1, .int x1), (2, .int x2)] := hl
  have ar_h_said := SaidB.al h_said
  refine lv_aload_n hx hb dX12_page_0 rfl (lv_at hl 0 rfl) ?_
  refine cV (a := (Ma 0)) (As := []) (rest := []) (wr := []) ⟨hx, hb, hml, hown, hts⟩ hK hX hA (cu_X12_isBook l D tc sk (Ma 0) (Ma 1) (Ma 2) (Ma 3) (Ma 4) (Ma 5) (Ma 6) (Ma 7) (Ma 8) (Ma 9) (Ma 10) (Ma 11) (Ma 12) (Ma 13) (Ma 14) (Ma 15) (Ma 16) (Ma 17) (Ma 18) (Ma 19) (Ma 20) (Mv 0) (Mv 1) (Mv 2) (Mv 3) (Mv 4) (Mv 5) (Mv 6) (Mv 7) (Mv 8) (Mv 9) (Mv 10) (Mv 11) (Mv 12) (Mv 13) (Mv 14) (Mf 10) (Mj 0) h_said) k_1407 k_1404 k_1406 k_65 k_106 pl_X12_isBook ⟨Nat.le_of_ble_eq_true rfl, Nat.le_of_ble_eq_true rfl⟩ rfl rfl (va_recv hK hP (ci := 12) (q0 := 0) rfl rfl) hP hD hS [0, 1] [] rfl rfl rfl rfl rfl (by decide) rfl hl.1 rfl (Nat.le_of_ble_eq_true rfl) dX12_page_1 ⟨Nat.le_of_ble_eq_true rfl, Nat.le_of_ble_eq_true rfl⟩ (fun v_1 u_2 H locs hv_3 hP₀ hD₀ hS₀ => ?_)
  obtain ⟨r_4, rfl, he_5⟩ := hv_3
  have he_5 : (r_4.toInt = 0 ∨ (r_4.toInt = 1 ∧ 1 ≤ ((Mf 10) 2).toInt ∧ ((Mf 10) 2).toInt ≤ 10)) := he_5
  refine W.eq (g2 := F0 m 4 ls [.int r_4]) rfl ?_
  replace hP : va_P D classes [((Ma 0), .inr (12, [.ref (Ma 1), .int (Mv 0), .int (Mv 1), .ref (Ma 2), .ref (Ma 3), .ref (Ma 4), .ref (Ma 5), .ref (Ma 6), .int (Mv 2), .int (Mv 3), .int (Mv 4), .int (Mv 5), .int (Mv 6), .int (Mv 7), .int (Mv 8), .ref (Ma 7), .int (Mv 9), .ref (Ma 8), .int (Mv 10), .ref (Ma 9), .ref (Ma 10), .int (Mv 11), .int (Mv 12), .int (Mv 13), .ref (Ma 11), .int (Mv 14), .ref (Ma 12), .ref (Ma 13), .ref (Ma 14), .ref (Ma 15), .ref (Ma 16), .long (Mj 0), .ref (Ma 17), .ref (Ma 18), .ref (Ma 19), .ref (Ma 20)])), ((Ma 10), .inl (tc 0, 126, .inl (Mf 10)))] H := hP₀
  replace hD : va_D A [((Ma 0), .inr (12, [.ref (Ma 1), .int (Mv 0), .int (Mv 1), .ref (Ma 2), .ref (Ma 3), .ref (Ma 4), .ref (Ma 5), .ref (Ma 6), .int (Mv 2), .int (Mv 3), .int (Mv 4), .int (Mv 5), .int (Mv 6), .int (Mv 7), .int (Mv 8), .ref (Ma 7), .int (Mv 9), .ref (Ma 8), .int (Mv 10), .ref (Ma 9), .ref (Ma 10), .int (Mv 11), .int (Mv 12), .int (Mv 13), .ref (Ma 11), .int (Mv 14), .ref (Ma 12), .ref (Ma 13), .ref (Ma 14), .ref (Ma 15), .ref (Ma 16), .long (Mj 0), .ref (Ma 17), .ref (Ma 18), .ref (Ma 19), .ref (Ma 20)])), ((Ma 10), .inl (tc 0, 126, .inl (Mf 10)))] := hD₀
  replace hS := hS₀
  clear hP₀ hD₀ hS₀
  refine lv_if_eq (tgt := 31) hx hb dX12_page_4 (by decide) (fun c_7 => ?_) (fun c_7 => ?_)
  · skip
    refine lv_iconst (v := (-1)) hx hb dX12_page_31 (by decide) ?_
    exact retI (v := (-1)) hx hb hr hlk (rfl) hP hD hS () ⟨_, rfl, trivial⟩ [0, 1] rfl rfl dX12_page_32 (Nat.le_of_ble_eq_true rfl) (Nat.le_of_ble_eq_true rfl) rfl
  · skip
    refine lv_iload_n hx hb dX12_page_7 rfl (lv_at hl 1 rfl) ?_
    refine lv_i2l (v := (x1).toInt64) hx hb dX12_page_8 rfl ?_
    refine lv_lconst (v := 0) hx hb dX12_page_9 (by decide) ?_
    refine lv_ldc2 hx hb hown (hts _ k_1553) dX12_page_10 ?_
    refine cS (As := [.long (x1).toInt64, .long 0, .long 60]) (rest := []) (wr := [((Ma 0), .inr (12, [.ref (Ma 1), .int (Mv 0), .int (Mv 1), .ref (Ma 2), .ref (Ma 3), .ref (Ma 4), .ref (Ma 5), .ref (Ma 6), .int (Mv 2), .int (Mv 3), .int (Mv 4), .int (Mv 5), .int (Mv 6), .int (Mv 7), .int (Mv 8), .ref (Ma 7), .int (Mv 9), .ref (Ma 8), .int (Mv 10), .ref (Ma 9), .ref (Ma 10), .int (Mv 11), .int (Mv 12), .int (Mv 13), .ref (Ma 11), .int (Mv 14), .ref (Ma 12), .ref (Ma 13), .ref (Ma 14), .ref (Ma 15), .ref (Ma 16), .long (Mj 0), .ref (Ma 17), .ref (Ma 18), .ref (Ma 19), .ref (Ma 20)])), ((Ma 10), .inl (tc 0, 126, .inl (Mf 10)))]) ⟨hx, hb, hml, hown, hts⟩ hK hX hA (ct_X12_in l D tc sk ((x1).toInt64) 0 60) k_1259 k_1257 k_1258 k_106 pl_X12_in ⟨Nat.le_of_ble_eq_true rfl, Nat.le_of_ble_eq_true rfl⟩ rfl rfl  hP hD hS [] [0, 1] rfl rfl rfl rfl rfl (by decide) rfl hl.1 rfl (Nat.le_of_ble_eq_true rfl) dX12_page_13 ⟨Nat.le_of_ble_eq_true rfl, Nat.le_of_ble_eq_true rfl⟩ (fun v_8 u_9 H locs hv_10 hP₀ hD₀ hS₀ => ?_)
    obtain ⟨r_11, rfl, he_12⟩ := hv_10
    have he_12 : (r_11.toInt = 0 ∨ (r_11.toInt = 1 ∧ (0 : Int64).toInt ≤ (x1).toInt64.toInt ∧ (x1).toInt64.toInt ≤ (60 : Int64).toInt)) := he_12
    refine W.eq (g2 := F0 m 16 ls [.int r_11]) rfl ?_
    replace hP : va_P D classes [((Ma 0), .inr (12, [.ref (Ma 1), .int (Mv 0), .int (Mv 1), .ref (Ma 2), .ref (Ma 3), .ref (Ma 4), .ref (Ma 5), .ref (Ma 6), .int (Mv 2), .int (Mv 3), .int (Mv 4), .int (Mv 5), .int (Mv 6), .int (Mv 7), .int (Mv 8), .ref (Ma 7), .int (Mv 9), .ref (Ma 8), .int (Mv 10), .ref (Ma 9), .ref (Ma 10), .int (Mv 11), .int (Mv 12), .int (Mv 13), .ref (Ma 11), .int (Mv 14), .ref (Ma 12), .ref (Ma 13), .ref (Ma 14), .ref (Ma 15), .ref (Ma 16), .long (Mj 0), .ref (Ma 17), .ref (Ma 18), .ref (Ma 19), .ref (Ma 20)])), ((Ma 10), .inl (tc 0, 126, .inl (Mf 10)))] H := hP₀
    replace hD : va_D A [((Ma 0), .inr (12, [.ref (Ma 1), .int (Mv 0), .int (Mv 1), .ref (Ma 2), .ref (Ma 3), .ref (Ma 4), .ref (Ma 5), .ref (Ma 6), .int (Mv 2), .int (Mv 3), .int (Mv 4), .int (Mv 5), .int (Mv 6), .int (Mv 7), .int (Mv 8), .ref (Ma 7), .int (Mv 9), .ref (Ma 8), .int (Mv 10), .ref (Ma 9), .ref (Ma 10), .int (Mv 11), .int (Mv 12), .int (Mv 13), .ref (Ma 11), .int (Mv 14), .ref (Ma 12), .ref (Ma 13), .ref (Ma 14), .ref (Ma 15), .ref (Ma 16), .long (Mj 0), .ref (Ma 17), .ref (Ma 18), .ref (Ma 19), .ref (Ma 20)])), ((Ma 10), .inl (tc 0, 126, .inl (Mf 10)))] := hD₀
    replace hS := hS₀
    clear hP₀ hD₀ hS₀
    have yl_he_12_0 : (0 : Int64).toInt = 0 := by decide
    have yl_he_12_60 : (60 : Int64).toInt = 60 := by decide
    simp only [i32_64] at he_12
    refine lv_if_eq (tgt := 31) hx hb dX12_page_16 (by decide) (fun c_14 => ?_) (fun c_14 => ?_)
    · skip
      refine lv_iconst (v := (-1)) hx hb dX12_page_31 (by decide) ?_
      exact retI (v := (-1)) hx hb hr hlk (rfl) hP hD hS () ⟨_, rfl, trivial⟩ [0, 1] rfl rfl dX12_page_32 (Nat.le_of_ble_eq_true rfl) (Nat.le_of_ble_eq_true rfl) rfl
    · skip
      refine lv_iload_n hx hb dX12_page_19 rfl (lv_at hl 2 rfl) ?_
      refine lv_i2l (v := (x2).toInt64) hx hb dX12_page_20 rfl ?_
      refine lv_lconst (v := 0) hx hb dX12_page_21 (by decide) ?_
      refine lv_ldc2 hx hb hown (hts _ k_1501) dX12_page_22 ?_
      refine cS (As := [.long (x2).toInt64, .long 0, .long 2]) (rest := []) (wr := [((Ma 0), .inr (12, [.ref (Ma 1), .int (Mv 0), .int (Mv 1), .ref (Ma 2), .ref (Ma 3), .ref (Ma 4), .ref (Ma 5), .ref (Ma 6), .int (Mv 2), .int (Mv 3), .int (Mv 4), .int (Mv 5), .int (Mv 6), .int (Mv 7), .int (Mv 8), .ref (Ma 7), .int (Mv 9), .ref (Ma 8), .int (Mv 10), .ref (Ma 9), .ref (Ma 10), .int (Mv 11), .int (Mv 12), .int (Mv 13), .ref (Ma 11), .int (Mv 14), .ref (Ma 12), .ref (Ma 13), .ref (Ma 14), .ref (Ma 15), .ref (Ma 16), .long (Mj 0), .ref (Ma 17), .ref (Ma 18), .ref (Ma 19), .ref (Ma 20)])), ((Ma 10), .inl (tc 0, 126, .inl (Mf 10)))]) ⟨hx, hb, hml, hown, hts⟩ hK hX hA (ct_X12_in l D tc sk ((x2).toInt64) 0 2) k_1259 k_1257 k_1258 k_106 pl_X12_in ⟨Nat.le_of_ble_eq_true rfl, Nat.le_of_ble_eq_true rfl⟩ rfl rfl  hP hD hS [] [0, 1] rfl rfl rfl rfl rfl (by decide) rfl hl.1 rfl (Nat.le_of_ble_eq_true rfl) dX12_page_25 ⟨Nat.le_of_ble_eq_true rfl, Nat.le_of_ble_eq_true rfl⟩ (fun v_15 u_16 H locs hv_17 hP₀ hD₀ hS₀ => ?_)
      obtain ⟨r_18, rfl, he_19⟩ := hv_17
      have he_19 : (r_18.toInt = 0 ∨ (r_18.toInt = 1 ∧ (0 : Int64).toInt ≤ (x2).toInt64.toInt ∧ (x2).toInt64.toInt ≤ (2 : Int64).toInt)) := he_19
      refine W.eq (g2 := F0 m 28 ls [.int r_18]) rfl ?_
      replace hP : va_P D classes [((Ma 0), .inr (12, [.ref (Ma 1), .int (Mv 0), .int (Mv 1), .ref (Ma 2), .ref (Ma 3), .ref (Ma 4), .ref (Ma 5), .ref (Ma 6), .int (Mv 2), .int (Mv 3), .int (Mv 4), .int (Mv 5), .int (Mv 6), .int (Mv 7), .int (Mv 8), .ref (Ma 7), .int (Mv 9), .ref (Ma 8), .int (Mv 10), .ref (Ma 9), .ref (Ma 10), .int (Mv 11), .int (Mv 12), .int (Mv 13), .ref (Ma 11), .int (Mv 14), .ref (Ma 12), .ref (Ma 13), .ref (Ma 14), .ref (Ma 15), .ref (Ma 16), .long (Mj 0), .ref (Ma 17), .ref (Ma 18), .ref (Ma 19), .ref (Ma 20)])), ((Ma 10), .inl (tc 0, 126, .inl (Mf 10)))] H := hP₀
      replace hD : va_D A [((Ma 0), .inr (12, [.ref (Ma 1), .int (Mv 0), .int (Mv 1), .ref (Ma 2), .ref (Ma 3), .ref (Ma 4), .ref (Ma 5), .ref (Ma 6), .int (Mv 2), .int (Mv 3), .int (Mv 4), .int (Mv 5), .int (Mv 6), .int (Mv 7), .int (Mv 8), .ref (Ma 7), .int (Mv 9), .ref (Ma 8), .int (Mv 10), .ref (Ma 9), .ref (Ma 10), .int (Mv 11), .int (Mv 12), .int (Mv 13), .ref (Ma 11), .int (Mv 14), .ref (Ma 12), .ref (Ma 13), .ref (Ma 14), .ref (Ma 15), .ref (Ma 16), .long (Mj 0), .ref (Ma 17), .ref (Ma 18), .ref (Ma 19), .ref (Ma 20)])), ((Ma 10), .inl (tc 0, 126, .inl (Mf 10)))] := hD₀
      replace hS := hS₀
      clear hP₀ hD₀ hS₀
      have yl_he_19_0 : (0 : Int64).toInt = 0 := by decide
      have yl_he_19_2 : (2 : Int64).toInt = 2 := by decide
      simp only [i32_64] at he_19
      refine lv_if_ne (tgt := 33) hx hb dX12_page_28 (by decide) (fun c_21 => ?_) (fun c_21 => ?_)
      · skip
        refine lv_iconst (v := 0) hx hb dX12_page_33 (by decide) ?_
        refine lv_istore_n (lv' := [(3, .int 0), (0, .ref (Ma 0)), (1, .int x1), (2, .int x2)]) hx hb dX12_page_34 rfl hl (by decide) rfl (fun ls hl₀ => ?_)
        replace hl := hl₀
        clear hl₀
        refine lv_bipush (v := (-2)) hx hb dX12_page_35 (by decide) ?_
        refine lv_istore (lv' := [(4, .int (-2)), (3, .int 0), (0, .ref (Ma 0)), (1, .int x1), (2, .int x2)]) hx hb dX12_page_37 hl (by decide) rfl (fun ls hl₀ => ?_)
        replace hl := hl₀
        clear hl₀
        refine lv_iconst (v := 1) hx hb dX12_page_39 (by decide) ?_
        refine lv_aload_n hx hb dX12_page_40 rfl (lv_at hl 2 rfl) ?_
        refine gf_X12_39 hx hb hts hown hK hP 0 rfl rfl dX12_page_41 ?_
        refine lv_iconst (v := 3) hx hb dX12_page_44 (by decide) ?_
        refine va_iald hx hb hK hP 1 0 rfl rfl (vin_dec (by decide +kernel)) dX12_page_45 ?_
        refine lv_topi (fun x_22 ex_22 => ?_)
        have lx_22 : x_22.toInt = ((Mf 10) 3).toInt := congrArg Int32.toInt ex_22
        refine lv_ishl hx hb dX12_page_46 ?_
        refine lv_topi (fun x_23 ex_23 => ?_)
        refine lv_iconst (v := 1) hx hb dX12_page_47 (by decide) ?_
        refine lv_isub hx hb dX12_page_48 ?_
        refine lv_topi (fun x_24 ex_24 => ?_)
        refine lv_istore (lv' := [(5, .int x_24), (4, .int (-2)), (3, .int 0), (0, .ref (Ma 0)), (1, .int x1), (2, .int x2)]) hx hb dX12_page_49 hl (by decide) rfl (fun ls hl₀ => ?_)
        replace hl := hl₀
        clear hl₀
        refine lv_iload hx hb dX12_page_51 (lv_at hl 0 rfl) ?_
        refine lv_istore (lv' := [(6, .int x_24), (5, .int x_24), (4, .int (-2)), (3, .int 0), (0, .ref (Ma 0)), (1, .int x1), (2, .int x2)]) hx hb dX12_page_53 hl (by decide) rfl (fun ls hl₀ => ?_)
        replace hl := hl₀
        clear hl₀
        have loop_35 : ∀ (n_33 : Nat) (vy_29 : Int32) (vy_30 : Int32) (vy_31 : Int32) (vy_32 : Int32) (H : Heap) (locs : List Loc) (ls : Array Slot), ((vy_29 : Int32).toInt + 1).toNat < n_33 → va_P D classes [((Ma 0), .inr (12, [.ref (Ma 1), .int (Mv 0), .int (Mv 1), .ref (Ma 2), .ref (Ma 3), .ref (Ma 4), .ref (Ma 5), .ref (Ma 6), .int (Mv 2), .int (Mv 3), .int (Mv 4), .int (Mv 5), .int (Mv 6), .int (Mv 7), .int (Mv 8), .ref (Ma 7), .int (Mv 9), .ref (Ma 8), .int (Mv 10), .ref (Ma 9), .ref (Ma 10), .int (Mv 11), .int (Mv 12), .int (Mv 13), .ref (Ma 11), .int (Mv 14), .ref (Ma 12), .ref (Ma 13), .ref (Ma 14), .ref (Ma 15), .ref (Ma 16), .long (Mj 0), .ref (Ma 17), .ref (Ma 18), .ref (Ma 19), .ref (Ma 20)])), ((Ma 10), .inl (tc 0, 126, .inl (Mf 10)))] H → va_D A [((Ma 0), .inr (12, [.ref (Ma 1), .int (Mv 0), .int (Mv 1), .ref (Ma 2), .ref (Ma 3), .ref (Ma 4), .ref (Ma 5), .ref (Ma 6), .int (Mv 2), .int (Mv 3), .int (Mv 4), .int (Mv 5), .int (Mv 6), .int (Mv 7), .int (Mv 8), .ref (Ma 7), .int (Mv 9), .ref (Ma 8), .int (Mv 10), .ref (Ma 9), .ref (Ma 10), .int (Mv 11), .int (Mv 12), .int (Mv 13), .ref (Ma 11), .int (Mv 14), .ref (Ma 12), .ref (Ma 13), .ref (Ma 14), .ref (Ma 15), .ref (Ma 16), .long (Mj 0), .ref (Ma 17), .ref (Ma 18), .ref (Ma 19), .ref (Ma 20)])), ((Ma 10), .inl (tc 0, 126, .inl (Mf 10)))] → va_S A s.heap H locs → lv_has ls 7 [(6, .int vy_29), (5, .int vy_30), (4, .int vy_31), (3, .int vy_32), (0, .ref (Ma 0)), (1, .int x1), (2, .int x2)] → W p l e ({ frames := 2, cells := 0, slots := 0, locals := 44 }) s m ([.ref (Ma 0), .int x1, .int x2].toArray) below meth c H locs 0 0 (MQ below (QW (fun (v : Option Value) (_ : Unit) => ∃ r : Int32, v = some (.int r) ∧ (True)) (BW D (fun (_ : Unit) => [((Ma 0), .inr (12, [.ref (Ma 1), .int (Mv 0), .int (Mv 1), .ref (Ma 2), .ref (Ma 3), .ref (Ma 4), .ref (Ma 5), .ref (Ma 6), .int (Mv 2), .int (Mv 3), .int (Mv 4), .int (Mv 5), .int (Mv 6), .int (Mv 7), .int (Mv 8), .ref (Ma 7), .int (Mv 9), .ref (Ma 8), .int (Mv 10), .ref (Ma 9), .ref (Ma 10), .int (Mv 11), .int (Mv 12), .int (Mv 13), .ref (Ma 11), .int (Mv 14), .ref (Ma 12), .ref (Ma 13), .ref (Ma 14), .ref (Ma 15), .ref (Ma 16), .long (Mj 0), .ref (Ma 17), .ref (Ma 18), .ref (Ma 19), .ref (Ma 20)])), ((Ma 10), .inl (tc 0, 126, .inl (Mf 10)))]) A) A) ([.ref (Ma 0), .int x1, .int x2].toArray) s 0 0 A) (F0 m 55 ls []) := by
          clear hP hD hS hl
          intro n_33
          induction n_33 with
          | zero =>
            intro vy_29 vy_30 vy_31 vy_32 H locs ls h1
            exact absurd h1 (Nat.not_lt_zero _)
          | succ n_33 ih_34 =>
            intro vy_29 vy_30 vy_31 vy_32 H locs ls hn_36  hP hD hS hl
            refine lv_iload hx hb dX12_page_55 (lv_at hl 0 rfl) ?_
            refine lv_if_lt (tgt := 93) hx hb dX12_page_57 (by decide) (fun c_37 => ?_) (fun c_37 => ?_)
            · skip
              refine lv_iload_n hx hb dX12_page_93 rfl (lv_at hl 6 rfl) ?_
              refine lv_if_ne (tgt := 101) hx hb dX12_page_94 (by decide) (fun c_38 => ?_) (fun c_38 => ?_)
              · skip
                refine lv_iload_n hx hb dX12_page_101 rfl (lv_at hl 6 rfl) ?_
                refine lv_iconst (v := 1) hx hb dX12_page_102 (by decide) ?_
                refine lv_icmp_ne (tgt := 111) hx hb dX12_page_103 (by decide) (fun c_39 => ?_) (fun c_39 => ?_)
                · skip
                  refine lv_iload_n hx hb dX12_page_111 rfl (lv_at hl 3 rfl) ?_
                  refine lv_if_ne (tgt := 119) hx hb dX12_page_112 (by decide) (fun c_40 => ?_) (fun c_40 => ?_)
                  · skip
                    refine lv_iload hx hb dX12_page_119 (lv_at hl 1 rfl) ?_
                    exact retI (v := vy_30) hx hb hr hlk (rfl) hP hD hS () ⟨_, rfl, trivial⟩ [0, 1] rfl rfl dX12_page_121 (Nat.le_of_ble_eq_true rfl) (Nat.le_of_ble_eq_true rfl) rfl
                  · skip
                    refine lv_iconst (v := 0) hx hb dX12_page_115 (by decide) ?_
                    refine lv_goto (tgt := 121) hx hb dX12_page_116 (by decide) ?_
                    exact retI (v := 0) hx hb hr hlk (rfl) hP hD hS () ⟨_, rfl, trivial⟩ [0, 1] rfl rfl dX12_page_121 (Nat.le_of_ble_eq_true rfl) (Nat.le_of_ble_eq_true rfl) rfl
                · skip
                  refine lv_iload hx hb dX12_page_106 (lv_at hl 2 rfl) ?_
                  refine lv_goto (tgt := 121) hx hb dX12_page_108 (by decide) ?_
                  exact retI (v := vy_31) hx hb hr hlk (rfl) hP hD hS () ⟨_, rfl, trivial⟩ [0, 1] rfl rfl dX12_page_121 (Nat.le_of_ble_eq_true rfl) (Nat.le_of_ble_eq_true rfl) rfl
              · skip
                refine lv_iload_n hx hb dX12_page_97 rfl (lv_at hl 3 rfl) ?_
                refine lv_goto (tgt := 121) hx hb dX12_page_98 (by decide) ?_
                exact retI (v := vy_32) hx hb hr hlk (rfl) hP hD hS () ⟨_, rfl, trivial⟩ [0, 1] rfl rfl dX12_page_121 (Nat.le_of_ble_eq_true rfl) (Nat.le_of_ble_eq_true rfl) rfl
            · skip
              have hm_k_41 := i32_le (vy_29 : Int32)
              refine lv_aload_n hx hb dX12_page_60 rfl (lv_at hl 4 rfl) ?_
              refine lv_iload hx hb dX12_page_61 (lv_at hl 0 rfl) ?_
              refine cV (a := (Ma 0)) (As := [.int vy_29]) (rest := []) (wr := []) ⟨hx, hb, hml, hown, hts⟩ hK hX hA (cu_X12_grainsOf l D tc sk (Ma 0) (Ma 1) (Ma 2) (Ma 3) (Ma 4) (Ma 5) (Ma 6) (Ma 7) (Ma 8) (Ma 9) (Ma 10) (Ma 11) (Ma 12) (Ma 13) (Ma 14) (Ma 15) (Ma 16) (Ma 17) (Ma 18) (Ma 19) (Ma 20) (Mv 0) (Mv 1) (Mv 2) (Mv 3) (Mv 4) (Mv 5) (Mv 6) (Mv 7) (Mv 8) (Mv 9) (Mv 10) (Mv 11) (Mv 12) (Mv 13) (Mv 14) (Mf 10) (Mj 0) vy_29 h_said) k_1565 k_1562 k_1564 k_85 k_106 pl_X12_grainsOf ⟨Nat.le_of_ble_eq_true rfl, Nat.le_of_ble_eq_true rfl⟩ rfl rfl (va_recv hK hP (ci := 12) (q0 := 0) rfl rfl) hP hD hS [0, 1] [] rfl rfl rfl rfl rfl (by decide) rfl hl.1 rfl (Nat.le_of_ble_eq_true rfl) dX12_page_63 ⟨Nat.le_of_ble_eq_true rfl, Nat.le_of_ble_eq_true rfl⟩ (fun v_42 u_43 H locs hv_44 hP₀ hD₀ hS₀ => ?_)
              obtain ⟨r_45, rfl, he_46⟩ := hv_44
              refine W.eq (g2 := F0 m 66 ls [.int r_45]) rfl ?_
              replace hP : va_P D classes [((Ma 0), .inr (12, [.ref (Ma 1), .int (Mv 0), .int (Mv 1), .ref (Ma 2), .ref (Ma 3), .ref (Ma 4), .ref (Ma 5), .ref (Ma 6), .int (Mv 2), .int (Mv 3), .int (Mv 4), .int (Mv 5), .int (Mv 6), .int (Mv 7), .int (Mv 8), .ref (Ma 7), .int (Mv 9), .ref (Ma 8), .int (Mv 10), .ref (Ma 9), .ref (Ma 10), .int (Mv 11), .int (Mv 12), .int (Mv 13), .ref (Ma 11), .int (Mv 14), .ref (Ma 12), .ref (Ma 13), .ref (Ma 14), .ref (Ma 15), .ref (Ma 16), .long (Mj 0), .ref (Ma 17), .ref (Ma 18), .ref (Ma 19), .ref (Ma 20)])), ((Ma 10), .inl (tc 0, 126, .inl (Mf 10)))] H := hP₀
              replace hD : va_D A [((Ma 0), .inr (12, [.ref (Ma 1), .int (Mv 0), .int (Mv 1), .ref (Ma 2), .ref (Ma 3), .ref (Ma 4), .ref (Ma 5), .ref (Ma 6), .int (Mv 2), .int (Mv 3), .int (Mv 4), .int (Mv 5), .int (Mv 6), .int (Mv 7), .int (Mv 8), .ref (Ma 7), .int (Mv 9), .ref (Ma 8), .int (Mv 10), .ref (Ma 9), .ref (Ma 10), .int (Mv 11), .int (Mv 12), .int (Mv 13), .ref (Ma 11), .int (Mv 14), .ref (Ma 12), .ref (Ma 13), .ref (Ma 14), .ref (Ma 15), .ref (Ma 16), .long (Mj 0), .ref (Ma 17), .ref (Ma 18), .ref (Ma 19), .ref (Ma 20)])), ((Ma 10), .inl (tc 0, 126, .inl (Mf 10)))] := hD₀
              replace hS := hS₀
              clear hP₀ hD₀ hS₀
              refine lv_iload_n hx hb dX12_page_66 rfl (lv_at hl 5 rfl) ?_
              refine lv_icmp_eq (tgt := 73) hx hb dX12_page_67 (by decide) (fun c_48 => ?_) (fun c_48 => ?_)
              · skip
                obtain ⟨x_49, ex_49⟩ : ∃ y : Int32, y = vy_32 + 1 := ⟨_, rfl⟩
                refine lv_iinc (v := x_49) (lv' := [(3, .int x_49), (6, .int vy_29), (5, .int vy_30), (4, .int vy_31), (0, .ref (Ma 0)), (1, .int x1), (2, .int x2)]) hx hb dX12_page_73 hl (k := 3) rfl (by rw [ex_49]; rfl) (by decide) rfl (fun ls hl₀ => ?_)
                replace hl := hl₀
                clear hl₀
                refine lv_iload hx hb dX12_page_76 (lv_at hl 1 rfl) ?_
                refine lv_istore (lv' := [(4, .int vy_29), (3, .int x_49), (6, .int vy_29), (5, .int vy_30), (0, .ref (Ma 0)), (1, .int x1), (2, .int x2)]) hx hb dX12_page_78 hl (by decide) rfl (fun ls hl₀ => ?_)
                replace hl := hl₀
                clear hl₀
                refine lv_iload hx hb dX12_page_80 (lv_at hl 3 rfl) ?_
                refine lv_iload hx hb dX12_page_82 (lv_at hl 2 rfl) ?_
                refine lv_iand hx hb dX12_page_84 ?_
                refine lv_topi (fun x_50 ex_50 => ?_)
                refine lv_istore (lv' := [(5, .int x_50), (4, .int vy_29), (3, .int x_49), (6, .int vy_29), (0, .ref (Ma 0)), (1, .int x1), (2, .int x2)]) hx hb dX12_page_85 hl (by decide) rfl (fun ls hl₀ => ?_)
                replace hl := hl₀
                clear hl₀
                obtain ⟨x_51, ex_51⟩ : ∃ y : Int32, y = vy_29 + (-1) := ⟨_, rfl⟩
                refine lv_iinc (v := x_51) (lv' := [(6, .int x_51), (5, .int x_50), (4, .int vy_29), (3, .int x_49), (0, .ref (Ma 0)), (1, .int x1), (2, .int x2)]) hx hb dX12_page_87 hl (k := 3) rfl (by rw [ex_51]; rfl) (by decide) rfl (fun ls hl₀ => ?_)
                replace hl := hl₀
                clear hl₀
                refine lv_goto (tgt := 55) hx hb dX12_page_90 (by decide) ?_
                have hb_52 : (x_51 : Int32).toInt + 1 < (vy_29 : Int32).toInt + 1 ∧ 1 ≤ (vy_29 : Int32).toInt + 1 := by
                  have z_1 : ¬ (r_4 : Int32).toInt = (0 : Int32).toInt := fun z => c_7 (Int32.toInt_inj.mp z)
                  have z_2 : ¬ (r_11 : Int32).toInt = (0 : Int32).toInt := fun z => c_14 (Int32.toInt_inj.mp z)
                  have z_3 : ¬ (r_18 : Int32).toInt = (0 : Int32).toInt := fun z => c_21 (Int32.toInt_inj.mp z)
                  have z_4 := Int32.le_iff_toInt_le.mp (Int32.not_lt.mp c_37)
                  have z_5 := congrArg Int32.toInt c_48
                  have y_0 : (0 : Int32).toInt = 0 := by decide
                  have y_m1 : (-1 : Int32).toInt = -1 := by decide
                  have t_x_51 : x_51.toInt = (vy_29 : Int32).toInt + ((-1) : Int32).toInt := by rw [ex_51]; exact add_toInt (by omega) (by omega)
                  refine ⟨?_, ?_⟩ <;> omega
                exact ih_34 x_51 x_50 vy_29 x_49 _ _ _ (by omega)  (hP.sub [0, 1] rfl) (hD.sub [0, 1] rfl rfl) hS (lv_sub hl [0, 1, 2, 3, 4, 5, 6] rfl)
              · skip
                refine lv_goto (tgt := 87) hx hb dX12_page_70 (by decide) ?_
                obtain ⟨x_53, ex_53⟩ : ∃ y : Int32, y = vy_29 + (-1) := ⟨_, rfl⟩
                refine lv_iinc (v := x_53) (lv' := [(6, .int x_53), (5, .int vy_30), (4, .int vy_31), (3, .int vy_32), (0, .ref (Ma 0)), (1, .int x1), (2, .int x2)]) hx hb dX12_page_87 hl (k := 0) rfl (by rw [ex_53]; rfl) (by decide) rfl (fun ls hl₀ => ?_)
                replace hl := hl₀
                clear hl₀
                refine lv_goto (tgt := 55) hx hb dX12_page_90 (by decide) ?_
                have hb_54 : (x_53 : Int32).toInt + 1 < (vy_29 : Int32).toInt + 1 ∧ 1 ≤ (vy_29 : Int32).toInt + 1 := by
                  have z_1 : ¬ (r_4 : Int32).toInt = (0 : Int32).toInt := fun z => c_7 (Int32.toInt_inj.mp z)
                  have z_2 : ¬ (r_11 : Int32).toInt = (0 : Int32).toInt := fun z => c_14 (Int32.toInt_inj.mp z)
                  have z_3 : ¬ (r_18 : Int32).toInt = (0 : Int32).toInt := fun z => c_21 (Int32.toInt_inj.mp z)
                  have z_4 := Int32.le_iff_toInt_le.mp (Int32.not_lt.mp c_37)
                  have z_5 : ¬ (r_45 : Int32).toInt = (x1 : Int32).toInt := fun z => c_48 (Int32.toInt_inj.mp z)
                  have y_0 : (0 : Int32).toInt = 0 := by decide
                  have y_m1 : (-1 : Int32).toInt = -1 := by decide
                  have t_x_53 : x_53.toInt = (vy_29 : Int32).toInt + ((-1) : Int32).toInt := by rw [ex_53]; exact add_toInt (by omega) (by omega)
                  refine ⟨?_, ?_⟩ <;> omega
                exact ih_34 x_53 vy_30 vy_31 vy_32 _ _ _ (by omega)  (hP.sub [0, 1] rfl) (hD.sub [0, 1] rfl rfl) hS (lv_sub hl [0, 1, 2, 3, 4, 5, 6] rfl)
        exact loop_35 _ x_24 x_24 (-2) 0 _ _ _ (Nat.lt_succ_self _)  hP hD hS hl
      · skip
        refine lv_iconst (v := (-1)) hx hb dX12_page_31 (by decide) ?_
        exact retI (v := (-1)) hx hb hr hlk (rfl) hP hD hS () ⟨_, rfl, trivial⟩ [0, 1] rfl rfl dX12_page_32 (Nat.le_of_ble_eq_true rfl) (Nat.le_of_ble_eq_true rfl) rfl
set_option maxHeartbeats 4000000 in
set_option maxRecDepth 100000 in
theorem ct_X12_fines {T : Nat → Option Int32} (l : Launch) (D : va_G) (tc : Nat → ClassId) (sk : (Nat → Nat) × (Nat → Nat)) (Ma : Nat → Nat) (Mv : Nat → Int32) (Mf : Nat → Nat → Int32) (Mj : Nat → Int64) (x1 : Int32) (x2 : Int32) (h_said : SaidB T (Mf 10)) : Ct l yX12_fines cX12_fines 9 (some .int) { frames := 2, cells := 0, slots := 0, locals := 43 } D tc sk [.ref (Ma 0), .int x1, .int x2] [((Ma 0), .inr (12, [.ref (Ma 1), .int (Mv 0), .int (Mv 1), .ref (Ma 2), .ref (Ma 3), .ref (Ma 4), .ref (Ma 5), .ref (Ma 6), .int (Mv 2), .int (Mv 3), .int (Mv 4), .int (Mv 5), .int (Mv 6), .int (Mv 7), .int (Mv 8), .ref (Ma 7), .int (Mv 9), .ref (Ma 8), .int (Mv 10), .ref (Ma 9), .ref (Ma 10), .int (Mv 11), .int (Mv 12), .int (Mv 13), .ref (Ma 11), .int (Mv 14), .ref (Ma 12), .ref (Ma 13), .ref (Ma 14), .ref (Ma 15), .ref (Ma 16), .long (Mj 0), .ref (Ma 17), .ref (Ma 18), .ref (Ma 19), .ref (Ma 20)])), ((Ma 10), .inl (tc 0, 126, .inl (Mf 10)))] (fun (v : Option Value) (_ : Unit) => ∃ r : Int32, v = some (.int r) ∧ (True)) (fun (_ : Unit) => [((Ma 0), .inr (12, [.ref (Ma 1), .int (Mv 0), .int (Mv 1), .ref (Ma 2), .ref (Ma 3), .ref (Ma 4), .ref (Ma 5), .ref (Ma 6), .int (Mv 2), .int (Mv 3), .int (Mv 4), .int (Mv 5), .int (Mv 6), .int (Mv 7), .int (Mv 8), .ref (Ma 7), .int (Mv 9), .ref (Ma 8), .int (Mv 10), .ref (Ma 9), .ref (Ma 10), .int (Mv 11), .int (Mv 12), .int (Mv 13), .ref (Ma 11), .int (Mv 14), .ref (Ma 12), .ref (Ma 13), .ref (Ma 14), .ref (Ma 15), .ref (Ma 16), .long (Mj 0), .ref (Ma 17), .ref (Ma 18), .ref (Ma 19), .ref (Ma 20)])), ((Ma 10), .inl (tc 0, 126, .inl (Mf 10)))]) 0 0 := by
  refine Ct.start (by decide) (Nat.le_of_ble_eq_true rfl) (fun p e s m below meth c A ls hx hb hr hlk hin hml hown hts hK hX hP hD hA hl hS => ?_)
  have hl : lv_has ls 9 [(0, .ref (Ma 0)), (1, .int x1), (2, .int x2)] := hl
  have ar_h_said := SaidB.al h_said
  refine lv_aload_n hx hb dX12_fines_0 rfl (lv_at hl 0 rfl) ?_
  refine lv_iload_n hx hb dX12_fines_1 rfl (lv_at hl 2 rfl) ?_
  refine cV (a := (Ma 0)) (As := [.int x2]) (rest := []) (wr := []) ⟨hx, hb, hml, hown, hts⟩ hK hX hA (cu_X12_isBuyer l D tc sk (Ma 0) (Ma 1) (Ma 2) (Ma 3) (Ma 4) (Ma 5) (Ma 6) (Ma 7) (Ma 8) (Ma 9) (Ma 10) (Ma 11) (Ma 12) (Ma 13) (Ma 14) (Ma 15) (Ma 16) (Ma 17) (Ma 18) (Ma 19) (Ma 20) (Mv 0) (Mv 1) (Mv 2) (Mv 3) (Mv 4) (Mv 5) (Mv 6) (Mv 7) (Mv 8) (Mv 9) (Mv 10) (Mv 11) (Mv 12) (Mv 13) (Mv 14) (Mf 10) (Mj 0) x2 h_said) k_1375 k_1372 k_1374 k_58 k_106 pl_X12_isBuyer ⟨Nat.le_of_ble_eq_true rfl, Nat.le_of_ble_eq_true rfl⟩ rfl rfl (va_recv hK hP (ci := 12) (q0 := 0) rfl rfl) hP hD hS [0, 1] [] rfl rfl rfl rfl rfl (by decide) rfl hl.1 rfl (Nat.le_of_ble_eq_true rfl) dX12_fines_2 ⟨Nat.le_of_ble_eq_true rfl, Nat.le_of_ble_eq_true rfl⟩ (fun v_1 u_2 H locs hv_3 hP₀ hD₀ hS₀ => ?_)
  obtain ⟨r_4, rfl, he_5⟩ := hv_3
  have he_5 : (r_4.toInt = 0 ∨ (r_4.toInt = 1 ∧ 0 ≤ x2.toInt ∧ x2.toInt < ((Mf 10) 3).toInt)) := he_5
  refine W.eq (g2 := F0 m 5 ls [.int r_4]) rfl ?_
  replace hP : va_P D classes [((Ma 0), .inr (12, [.ref (Ma 1), .int (Mv 0), .int (Mv 1), .ref (Ma 2), .ref (Ma 3), .ref (Ma 4), .ref (Ma 5), .ref (Ma 6), .int (Mv 2), .int (Mv 3), .int (Mv 4), .int (Mv 5), .int (Mv 6), .int (Mv 7), .int (Mv 8), .ref (Ma 7), .int (Mv 9), .ref (Ma 8), .int (Mv 10), .ref (Ma 9), .ref (Ma 10), .int (Mv 11), .int (Mv 12), .int (Mv 13), .ref (Ma 11), .int (Mv 14), .ref (Ma 12), .ref (Ma 13), .ref (Ma 14), .ref (Ma 15), .ref (Ma 16), .long (Mj 0), .ref (Ma 17), .ref (Ma 18), .ref (Ma 19), .ref (Ma 20)])), ((Ma 10), .inl (tc 0, 126, .inl (Mf 10)))] H := hP₀
  replace hD : va_D A [((Ma 0), .inr (12, [.ref (Ma 1), .int (Mv 0), .int (Mv 1), .ref (Ma 2), .ref (Ma 3), .ref (Ma 4), .ref (Ma 5), .ref (Ma 6), .int (Mv 2), .int (Mv 3), .int (Mv 4), .int (Mv 5), .int (Mv 6), .int (Mv 7), .int (Mv 8), .ref (Ma 7), .int (Mv 9), .ref (Ma 8), .int (Mv 10), .ref (Ma 9), .ref (Ma 10), .int (Mv 11), .int (Mv 12), .int (Mv 13), .ref (Ma 11), .int (Mv 14), .ref (Ma 12), .ref (Ma 13), .ref (Ma 14), .ref (Ma 15), .ref (Ma 16), .long (Mj 0), .ref (Ma 17), .ref (Ma 18), .ref (Ma 19), .ref (Ma 20)])), ((Ma 10), .inl (tc 0, 126, .inl (Mf 10)))] := hD₀
  replace hS := hS₀
  clear hP₀ hD₀ hS₀
  refine lv_if_eq (tgt := 20) hx hb dX12_fines_5 (by decide) (fun c_7 => ?_) (fun c_7 => ?_)
  · skip
    refine lv_iconst (v := (-1)) hx hb dX12_fines_20 (by decide) ?_
    exact retI (v := (-1)) hx hb hr hlk (rfl) hP hD hS () ⟨_, rfl, trivial⟩ [0, 1] rfl rfl dX12_fines_21 (Nat.le_of_ble_eq_true rfl) (Nat.le_of_ble_eq_true rfl) rfl
  · skip
    refine lv_iload_n hx hb dX12_fines_8 rfl (lv_at hl 1 rfl) ?_
    refine lv_i2l (v := (x1).toInt64) hx hb dX12_fines_9 rfl ?_
    refine lv_lconst (v := 0) hx hb dX12_fines_10 (by decide) ?_
    refine lv_ldc2 hx hb hown (hts _ k_1570) dX12_fines_11 ?_
    refine cS (As := [.long (x1).toInt64, .long 0, .long 9999]) (rest := []) (wr := [((Ma 0), .inr (12, [.ref (Ma 1), .int (Mv 0), .int (Mv 1), .ref (Ma 2), .ref (Ma 3), .ref (Ma 4), .ref (Ma 5), .ref (Ma 6), .int (Mv 2), .int (Mv 3), .int (Mv 4), .int (Mv 5), .int (Mv 6), .int (Mv 7), .int (Mv 8), .ref (Ma 7), .int (Mv 9), .ref (Ma 8), .int (Mv 10), .ref (Ma 9), .ref (Ma 10), .int (Mv 11), .int (Mv 12), .int (Mv 13), .ref (Ma 11), .int (Mv 14), .ref (Ma 12), .ref (Ma 13), .ref (Ma 14), .ref (Ma 15), .ref (Ma 16), .long (Mj 0), .ref (Ma 17), .ref (Ma 18), .ref (Ma 19), .ref (Ma 20)])), ((Ma 10), .inl (tc 0, 126, .inl (Mf 10)))]) ⟨hx, hb, hml, hown, hts⟩ hK hX hA (ct_X12_in l D tc sk ((x1).toInt64) 0 9999) k_1259 k_1257 k_1258 k_106 pl_X12_in ⟨Nat.le_of_ble_eq_true rfl, Nat.le_of_ble_eq_true rfl⟩ rfl rfl  hP hD hS [] [0, 1] rfl rfl rfl rfl rfl (by decide) rfl hl.1 rfl (Nat.le_of_ble_eq_true rfl) dX12_fines_14 ⟨Nat.le_of_ble_eq_true rfl, Nat.le_of_ble_eq_true rfl⟩ (fun v_8 u_9 H locs hv_10 hP₀ hD₀ hS₀ => ?_)
    obtain ⟨r_11, rfl, he_12⟩ := hv_10
    have he_12 : (r_11.toInt = 0 ∨ (r_11.toInt = 1 ∧ (0 : Int64).toInt ≤ (x1).toInt64.toInt ∧ (x1).toInt64.toInt ≤ (9999 : Int64).toInt)) := he_12
    refine W.eq (g2 := F0 m 17 ls [.int r_11]) rfl ?_
    replace hP : va_P D classes [((Ma 0), .inr (12, [.ref (Ma 1), .int (Mv 0), .int (Mv 1), .ref (Ma 2), .ref (Ma 3), .ref (Ma 4), .ref (Ma 5), .ref (Ma 6), .int (Mv 2), .int (Mv 3), .int (Mv 4), .int (Mv 5), .int (Mv 6), .int (Mv 7), .int (Mv 8), .ref (Ma 7), .int (Mv 9), .ref (Ma 8), .int (Mv 10), .ref (Ma 9), .ref (Ma 10), .int (Mv 11), .int (Mv 12), .int (Mv 13), .ref (Ma 11), .int (Mv 14), .ref (Ma 12), .ref (Ma 13), .ref (Ma 14), .ref (Ma 15), .ref (Ma 16), .long (Mj 0), .ref (Ma 17), .ref (Ma 18), .ref (Ma 19), .ref (Ma 20)])), ((Ma 10), .inl (tc 0, 126, .inl (Mf 10)))] H := hP₀
    replace hD : va_D A [((Ma 0), .inr (12, [.ref (Ma 1), .int (Mv 0), .int (Mv 1), .ref (Ma 2), .ref (Ma 3), .ref (Ma 4), .ref (Ma 5), .ref (Ma 6), .int (Mv 2), .int (Mv 3), .int (Mv 4), .int (Mv 5), .int (Mv 6), .int (Mv 7), .int (Mv 8), .ref (Ma 7), .int (Mv 9), .ref (Ma 8), .int (Mv 10), .ref (Ma 9), .ref (Ma 10), .int (Mv 11), .int (Mv 12), .int (Mv 13), .ref (Ma 11), .int (Mv 14), .ref (Ma 12), .ref (Ma 13), .ref (Ma 14), .ref (Ma 15), .ref (Ma 16), .long (Mj 0), .ref (Ma 17), .ref (Ma 18), .ref (Ma 19), .ref (Ma 20)])), ((Ma 10), .inl (tc 0, 126, .inl (Mf 10)))] := hD₀
    replace hS := hS₀
    clear hP₀ hD₀ hS₀
    have yl_he_12_0 : (0 : Int64).toInt = 0 := by decide
    have yl_he_12_9999 : (9999 : Int64).toInt = 9999 := by decide
    simp only [i32_64] at he_12
    refine lv_if_ne (tgt := 22) hx hb dX12_fines_17 (by decide) (fun c_14 => ?_) (fun c_14 => ?_)
    · skip
      refine lv_aload_n hx hb dX12_fines_22 rfl (lv_at hl 0 rfl) ?_
      refine cV (a := (Ma 0)) (As := []) (rest := []) (wr := []) ⟨hx, hb, hml, hown, hts⟩ hK hX hA (cu_X12_soldAll l D tc sk (Ma 0) (Ma 1) (Ma 2) (Ma 3) (Ma 4) (Ma 5) (Ma 6) (Ma 7) (Ma 8) (Ma 9) (Ma 10) (Ma 11) (Ma 12) (Ma 13) (Ma 14) (Ma 15) (Ma 16) (Ma 17) (Ma 18) (Ma 19) (Ma 20) (Mv 0) (Mv 1) (Mv 2) (Mv 3) (Mv 4) (Mv 5) (Mv 6) (Mv 7) (Mv 8) (Mv 9) (Mv 10) (Mv 11) (Mv 12) (Mv 13) (Mv 14) (Mf 10) (Mj 0) h_said) k_1439 k_1436 k_1438 k_71 k_106 pl_X12_soldAll ⟨Nat.le_of_ble_eq_true rfl, Nat.le_of_ble_eq_true rfl⟩ rfl rfl (va_recv hK hP (ci := 12) (q0 := 0) rfl rfl) hP hD hS [0, 1] [] rfl rfl rfl rfl rfl (by decide) rfl hl.1 rfl (Nat.le_of_ble_eq_true rfl) dX12_fines_23 ⟨Nat.le_of_ble_eq_true rfl, Nat.le_of_ble_eq_true rfl⟩ (fun v_15 u_16 H locs hv_17 hP₀ hD₀ hS₀ => ?_)
      obtain ⟨r_18, rfl, he_19⟩ := hv_17
      refine W.eq (g2 := F0 m 26 ls [.int r_18]) rfl ?_
      replace hP : va_P D classes [((Ma 0), .inr (12, [.ref (Ma 1), .int (Mv 0), .int (Mv 1), .ref (Ma 2), .ref (Ma 3), .ref (Ma 4), .ref (Ma 5), .ref (Ma 6), .int (Mv 2), .int (Mv 3), .int (Mv 4), .int (Mv 5), .int (Mv 6), .int (Mv 7), .int (Mv 8), .ref (Ma 7), .int (Mv 9), .ref (Ma 8), .int (Mv 10), .ref (Ma 9), .ref (Ma 10), .int (Mv 11), .int (Mv 12), .int (Mv 13), .ref (Ma 11), .int (Mv 14), .ref (Ma 12), .ref (Ma 13), .ref (Ma 14), .ref (Ma 15), .ref (Ma 16), .long (Mj 0), .ref (Ma 17), .ref (Ma 18), .ref (Ma 19), .ref (Ma 20)])), ((Ma 10), .inl (tc 0, 126, .inl (Mf 10)))] H := hP₀
      replace hD : va_D A [((Ma 0), .inr (12, [.ref (Ma 1), .int (Mv 0), .int (Mv 1), .ref (Ma 2), .ref (Ma 3), .ref (Ma 4), .ref (Ma 5), .ref (Ma 6), .int (Mv 2), .int (Mv 3), .int (Mv 4), .int (Mv 5), .int (Mv 6), .int (Mv 7), .int (Mv 8), .ref (Ma 7), .int (Mv 9), .ref (Ma 8), .int (Mv 10), .ref (Ma 9), .ref (Ma 10), .int (Mv 11), .int (Mv 12), .int (Mv 13), .ref (Ma 11), .int (Mv 14), .ref (Ma 12), .ref (Ma 13), .ref (Ma 14), .ref (Ma 15), .ref (Ma 16), .long (Mj 0), .ref (Ma 17), .ref (Ma 18), .ref (Ma 19), .ref (Ma 20)])), ((Ma 10), .inl (tc 0, 126, .inl (Mf 10)))] := hD₀
      replace hS := hS₀
      clear hP₀ hD₀ hS₀
      refine lv_istore_n (lv' := [(3, .int r_18), (0, .ref (Ma 0)), (1, .int x1), (2, .int x2)]) hx hb dX12_fines_26 rfl hl (by decide) rfl (fun ls hl₀ => ?_)
      replace hl := hl₀
      clear hl₀
      refine lv_iload_n hx hb dX12_fines_27 rfl (lv_at hl 0 rfl) ?_
      refine lv_if_ne (tgt := 33) hx hb dX12_fines_28 (by decide) (fun c_21 => ?_) (fun c_21 => ?_)
      · skip
        refine lv_iload_n hx hb dX12_fines_33 rfl (lv_at hl 2 rfl) ?_
        refine lv_aload_n hx hb dX12_fines_34 rfl (lv_at hl 1 rfl) ?_
        refine lv_iload_n hx hb dX12_fines_35 rfl (lv_at hl 3 rfl) ?_
        have ha_22 : 0 ≤ x2.toInt ∧ x2.toInt < 6 := by
          have z_1 : ¬ (r_4 : Int32).toInt = (0 : Int32).toInt := fun z => c_7 (Int32.toInt_inj.mp z)
          have z_2 : ¬ (r_11 : Int32).toInt = (0 : Int32).toInt := fun z => c_14 (Int32.toInt_inj.mp z)
          have z_3 : ¬ (r_18 : Int32).toInt = (0 : Int32).toInt := fun z => c_21 (Int32.toInt_inj.mp z)
          have y_0 : (0 : Int32).toInt = 0 := by decide
          refine ⟨?_, ?_⟩ <;> omega
        refine cV (a := (Ma 0)) (As := [.int x2]) (rest := [.int x1]) (wr := []) ⟨hx, hb, hml, hown, hts⟩ hK hX hA (cu_X12_boughtBy l D tc sk (Ma 0) (Ma 1) (Ma 2) (Ma 3) (Ma 4) (Ma 5) (Ma 6) (Ma 7) (Ma 8) (Ma 9) (Ma 10) (Ma 11) (Ma 12) (Ma 13) (Ma 14) (Ma 15) (Ma 16) (Ma 17) (Ma 18) (Ma 19) (Ma 20) (Mv 0) (Mv 1) (Mv 2) (Mv 3) (Mv 4) (Mv 5) (Mv 6) (Mv 7) (Mv 8) (Mv 9) (Mv 10) (Mv 11) (Mv 12) (Mv 13) (Mv 14) (Mf 10) (Mj 0) x2 ha_22) k_1383 k_1380 k_1382 k_60 k_106 pl_X12_boughtBy ⟨Nat.le_of_ble_eq_true rfl, Nat.le_of_ble_eq_true rfl⟩ rfl rfl (va_recv hK hP (ci := 12) (q0 := 0) rfl rfl) hP hD hS [0, 1] [] rfl rfl rfl rfl rfl (by decide) rfl hl.1 rfl (Nat.le_of_ble_eq_true rfl) dX12_fines_36 ⟨Nat.le_of_ble_eq_true rfl, Nat.le_of_ble_eq_true rfl⟩ (fun v_23 u_24 H locs hv_25 hP₀ hD₀ hS₀ => ?_)
        obtain ⟨r_26, rfl, he_27⟩ := hv_25
        refine W.eq (g2 := F0 m 39 ls [.int r_26, .int x1]) rfl ?_
        replace hP : va_P D classes [((Ma 0), .inr (12, [.ref (Ma 1), .int (Mv 0), .int (Mv 1), .ref (Ma 2), .ref (Ma 3), .ref (Ma 4), .ref (Ma 5), .ref (Ma 6), .int (Mv 2), .int (Mv 3), .int (Mv 4), .int (Mv 5), .int (Mv 6), .int (Mv 7), .int (Mv 8), .ref (Ma 7), .int (Mv 9), .ref (Ma 8), .int (Mv 10), .ref (Ma 9), .ref (Ma 10), .int (Mv 11), .int (Mv 12), .int (Mv 13), .ref (Ma 11), .int (Mv 14), .ref (Ma 12), .ref (Ma 13), .ref (Ma 14), .ref (Ma 15), .ref (Ma 16), .long (Mj 0), .ref (Ma 17), .ref (Ma 18), .ref (Ma 19), .ref (Ma 20)])), ((Ma 10), .inl (tc 0, 126, .inl (Mf 10)))] H := hP₀
        replace hD : va_D A [((Ma 0), .inr (12, [.ref (Ma 1), .int (Mv 0), .int (Mv 1), .ref (Ma 2), .ref (Ma 3), .ref (Ma 4), .ref (Ma 5), .ref (Ma 6), .int (Mv 2), .int (Mv 3), .int (Mv 4), .int (Mv 5), .int (Mv 6), .int (Mv 7), .int (Mv 8), .ref (Ma 7), .int (Mv 9), .ref (Ma 8), .int (Mv 10), .ref (Ma 9), .ref (Ma 10), .int (Mv 11), .int (Mv 12), .int (Mv 13), .ref (Ma 11), .int (Mv 14), .ref (Ma 12), .ref (Ma 13), .ref (Ma 14), .ref (Ma 15), .ref (Ma 16), .long (Mj 0), .ref (Ma 17), .ref (Ma 18), .ref (Ma 19), .ref (Ma 20)])), ((Ma 10), .inl (tc 0, 126, .inl (Mf 10)))] := hD₀
        replace hS := hS₀
        clear hP₀ hD₀ hS₀
        refine lv_imul hx hb dX12_fines_39 ?_
        refine lv_topi (fun x_29 ex_29 => ?_)
        refine lv_istore (lv' := [(4, .int x_29), (3, .int r_18), (0, .ref (Ma 0)), (1, .int x1), (2, .int x2)]) hx hb dX12_fines_40 hl (by decide) rfl (fun ls hl₀ => ?_)
        replace hl := hl₀
        clear hl₀
        refine lv_iload_n hx hb dX12_fines_42 rfl (lv_at hl 3 rfl) ?_
        refine lv_istore (lv' := [(5, .int x1), (4, .int x_29), (3, .int r_18), (0, .ref (Ma 0)), (1, .int x1), (2, .int x2)]) hx hb dX12_fines_43 hl (by decide) rfl (fun ls hl₀ => ?_)
        replace hl := hl₀
        clear hl₀
        refine lv_iconst (v := 0) hx hb dX12_fines_45 (by decide) ?_
        refine lv_istore (lv' := [(6, .int 0), (5, .int x1), (4, .int x_29), (3, .int r_18), (0, .ref (Ma 0)), (1, .int x1), (2, .int x2)]) hx hb dX12_fines_46 hl (by decide) rfl (fun ls hl₀ => ?_)
        replace hl := hl₀
        clear hl₀
        refine lv_iconst (v := 0) hx hb dX12_fines_48 (by decide) ?_
        refine lv_istore (lv' := [(7, .int 0), (6, .int 0), (5, .int x1), (4, .int x_29), (3, .int r_18), (0, .ref (Ma 0)), (1, .int x1), (2, .int x2)]) hx hb dX12_fines_49 hl (by decide) rfl (fun ls hl₀ => ?_)
        replace hl := hl₀
        clear hl₀
        have loop_38 : ∀ (n_36 : Nat) (vy_33 : Int32) (vy_34 : Int32) (vy_35 : Int32) (H : Heap) (locs : List Loc) (ls : Array Slot), (6 - (vy_33 : Int32).toInt).toNat < n_36 → (0 ≤ (vy_33 : Int32).toInt) → va_P D classes [((Ma 0), .inr (12, [.ref (Ma 1), .int (Mv 0), .int (Mv 1), .ref (Ma 2), .ref (Ma 3), .ref (Ma 4), .ref (Ma 5), .ref (Ma 6), .int (Mv 2), .int (Mv 3), .int (Mv 4), .int (Mv 5), .int (Mv 6), .int (Mv 7), .int (Mv 8), .ref (Ma 7), .int (Mv 9), .ref (Ma 8), .int (Mv 10), .ref (Ma 9), .ref (Ma 10), .int (Mv 11), .int (Mv 12), .int (Mv 13), .ref (Ma 11), .int (Mv 14), .ref (Ma 12), .ref (Ma 13), .ref (Ma 14), .ref (Ma 15), .ref (Ma 16), .long (Mj 0), .ref (Ma 17), .ref (Ma 18), .ref (Ma 19), .ref (Ma 20)])), ((Ma 10), .inl (tc 0, 126, .inl (Mf 10)))] H → va_D A [((Ma 0), .inr (12, [.ref (Ma 1), .int (Mv 0), .int (Mv 1), .ref (Ma 2), .ref (Ma 3), .ref (Ma 4), .ref (Ma 5), .ref (Ma 6), .int (Mv 2), .int (Mv 3), .int (Mv 4), .int (Mv 5), .int (Mv 6), .int (Mv 7), .int (Mv 8), .ref (Ma 7), .int (Mv 9), .ref (Ma 8), .int (Mv 10), .ref (Ma 9), .ref (Ma 10), .int (Mv 11), .int (Mv 12), .int (Mv 13), .ref (Ma 11), .int (Mv 14), .ref (Ma 12), .ref (Ma 13), .ref (Ma 14), .ref (Ma 15), .ref (Ma 16), .long (Mj 0), .ref (Ma 17), .ref (Ma 18), .ref (Ma 19), .ref (Ma 20)])), ((Ma 10), .inl (tc 0, 126, .inl (Mf 10)))] → va_S A s.heap H locs → lv_has ls 9 [(7, .int vy_33), (6, .int vy_34), (5, .int vy_35), (4, .int x_29), (3, .int r_18), (0, .ref (Ma 0)), (1, .int x1), (2, .int x2)] → W p l e ({ frames := 2, cells := 0, slots := 0, locals := 43 }) s m ([.ref (Ma 0), .int x1, .int x2].toArray) below meth c H locs 0 0 (MQ below (QW (fun (v : Option Value) (_ : Unit) => ∃ r : Int32, v = some (.int r) ∧ (True)) (BW D (fun (_ : Unit) => [((Ma 0), .inr (12, [.ref (Ma 1), .int (Mv 0), .int (Mv 1), .ref (Ma 2), .ref (Ma 3), .ref (Ma 4), .ref (Ma 5), .ref (Ma 6), .int (Mv 2), .int (Mv 3), .int (Mv 4), .int (Mv 5), .int (Mv 6), .int (Mv 7), .int (Mv 8), .ref (Ma 7), .int (Mv 9), .ref (Ma 8), .int (Mv 10), .ref (Ma 9), .ref (Ma 10), .int (Mv 11), .int (Mv 12), .int (Mv 13), .ref (Ma 11), .int (Mv 14), .ref (Ma 12), .ref (Ma 13), .ref (Ma 14), .ref (Ma 15), .ref (Ma 16), .long (Mj 0), .ref (Ma 17), .ref (Ma 18), .ref (Ma 19), .ref (Ma 20)])), ((Ma 10), .inl (tc 0, 126, .inl (Mf 10)))]) A) A) ([.ref (Ma 0), .int x1, .int x2].toArray) s 0 0 A) (F0 m 51 ls []) := by
          clear hP hD hS hl
          intro n_36
          induction n_36 with
          | zero =>
            intro vy_33 vy_34 vy_35 H locs ls h1
            exact absurd h1 (Nat.not_lt_zero _)
          | succ n_36 ih_37 =>
            intro vy_33 vy_34 vy_35 H locs ls hn_40 pf_39 hP hD hS hl
            refine lv_iload hx hb dX12_fines_51 (lv_at hl 0 rfl) ?_
            refine lv_aload_n hx hb dX12_fines_53 rfl (lv_at hl 5 rfl) ?_
            refine gf_X12_39 hx hb hts hown hK hP 0 rfl rfl dX12_fines_54 ?_
            refine lv_iconst (v := 3) hx hb dX12_fines_57 (by decide) ?_
            refine va_iald hx hb hK hP 1 0 rfl rfl (vin_dec (by decide +kernel)) dX12_fines_58 ?_
            refine lv_topi (fun x_41 ex_41 => ?_)
            have lx_41 : x_41.toInt = ((Mf 10) 3).toInt := congrArg Int32.toInt ex_41
            refine lv_icmp_ge (tgt := 125) hx hb dX12_fines_59 (by decide) (fun c_42 => ?_) (fun c_42 => ?_)
            · skip
              refine lv_iload hx hb dX12_fines_125 (lv_at hl 3 rfl) ?_
              refine lv_iload_n hx hb dX12_fines_127 rfl (lv_at hl 4 rfl) ?_
              have hz_43 : ¬ r_18 = 0 := by
                intro z
                have zz : (r_18 : Int32).toInt = 0 := by rw [z]; decide
                have z_1 : ¬ (r_4 : Int32).toInt = (0 : Int32).toInt := fun z => c_7 (Int32.toInt_inj.mp z)
                have z_2 : ¬ (r_11 : Int32).toInt = (0 : Int32).toInt := fun z => c_14 (Int32.toInt_inj.mp z)
                have z_3 : ¬ (r_18 : Int32).toInt = (0 : Int32).toInt := fun z => c_21 (Int32.toInt_inj.mp z)
                have z_4 := Int32.le_iff_toInt_le.mp c_42
                have y_0 : (0 : Int32).toInt = 0 := by decide
                omega
              refine lv_idiv hx hb dX12_fines_128 hz_43 ?_
              refine lv_topi (fun x_44 ex_44 => ?_)
              refine lv_iload hx hb dX12_fines_129 (lv_at hl 1 rfl) ?_
              refine lv_iload hx hb dX12_fines_131 (lv_at hl 2 rfl) ?_
              refine lv_icmp_ge (tgt := 140) hx hb dX12_fines_133 (by decide) (fun c_45 => ?_) (fun c_45 => ?_)
              · skip
                refine lv_iconst (v := 0) hx hb dX12_fines_140 (by decide) ?_
                refine lv_iadd hx hb dX12_fines_141 ?_
                refine lv_topi (fun x_46 ex_46 => ?_)
                exact retI (v := x_46) hx hb hr hlk (rfl) hP hD hS () ⟨_, rfl, trivial⟩ [0, 1] rfl rfl dX12_fines_142 (Nat.le_of_ble_eq_true rfl) (Nat.le_of_ble_eq_true rfl) rfl
              · skip
                refine lv_iconst (v := 1) hx hb dX12_fines_136 (by decide) ?_
                refine lv_goto (tgt := 141) hx hb dX12_fines_137 (by decide) ?_
                refine lv_iadd hx hb dX12_fines_141 ?_
                refine lv_topi (fun x_47 ex_47 => ?_)
                exact retI (v := x_47) hx hb hr hlk (rfl) hP hD hS () ⟨_, rfl, trivial⟩ [0, 1] rfl rfl dX12_fines_142 (Nat.le_of_ble_eq_true rfl) (Nat.le_of_ble_eq_true rfl) rfl
            · skip
              refine lv_iload_n hx hb dX12_fines_62 rfl (lv_at hl 6 rfl) ?_
              refine lv_aload_n hx hb dX12_fines_63 rfl (lv_at hl 5 rfl) ?_
              refine lv_iload hx hb dX12_fines_64 (lv_at hl 0 rfl) ?_
              have ha_48 : 0 ≤ vy_33.toInt ∧ vy_33.toInt < 6 := by
                have z_1 : ¬ (r_4 : Int32).toInt = (0 : Int32).toInt := fun z => c_7 (Int32.toInt_inj.mp z)
                have z_2 : ¬ (r_11 : Int32).toInt = (0 : Int32).toInt := fun z => c_14 (Int32.toInt_inj.mp z)
                have z_3 : ¬ (r_18 : Int32).toInt = (0 : Int32).toInt := fun z => c_21 (Int32.toInt_inj.mp z)
                have z_4 := Int32.lt_iff_toInt_lt.mp (Int32.not_le.mp c_42)
                have y_0 : (0 : Int32).toInt = 0 := by decide
                refine ⟨?_, ?_⟩ <;> omega
              refine cV (a := (Ma 0)) (As := [.int vy_33]) (rest := [.int x1]) (wr := []) ⟨hx, hb, hml, hown, hts⟩ hK hX hA (cu_X12_boughtBy l D tc sk (Ma 0) (Ma 1) (Ma 2) (Ma 3) (Ma 4) (Ma 5) (Ma 6) (Ma 7) (Ma 8) (Ma 9) (Ma 10) (Ma 11) (Ma 12) (Ma 13) (Ma 14) (Ma 15) (Ma 16) (Ma 17) (Ma 18) (Ma 19) (Ma 20) (Mv 0) (Mv 1) (Mv 2) (Mv 3) (Mv 4) (Mv 5) (Mv 6) (Mv 7) (Mv 8) (Mv 9) (Mv 10) (Mv 11) (Mv 12) (Mv 13) (Mv 14) (Mf 10) (Mj 0) vy_33 ha_48) k_1383 k_1380 k_1382 k_60 k_106 pl_X12_boughtBy ⟨Nat.le_of_ble_eq_true rfl, Nat.le_of_ble_eq_true rfl⟩ rfl rfl (va_recv hK hP (ci := 12) (q0 := 0) rfl rfl) hP hD hS [0, 1] [] rfl rfl rfl rfl rfl (by decide) rfl hl.1 rfl (Nat.le_of_ble_eq_true rfl) dX12_fines_66 ⟨Nat.le_of_ble_eq_true rfl, Nat.le_of_ble_eq_true rfl⟩ (fun v_49 u_50 H locs hv_51 hP₀ hD₀ hS₀ => ?_)
              obtain ⟨r_52, rfl, he_53⟩ := hv_51
              refine W.eq (g2 := F0 m 69 ls [.int r_52, .int x1]) rfl ?_
              replace hP : va_P D classes [((Ma 0), .inr (12, [.ref (Ma 1), .int (Mv 0), .int (Mv 1), .ref (Ma 2), .ref (Ma 3), .ref (Ma 4), .ref (Ma 5), .ref (Ma 6), .int (Mv 2), .int (Mv 3), .int (Mv 4), .int (Mv 5), .int (Mv 6), .int (Mv 7), .int (Mv 8), .ref (Ma 7), .int (Mv 9), .ref (Ma 8), .int (Mv 10), .ref (Ma 9), .ref (Ma 10), .int (Mv 11), .int (Mv 12), .int (Mv 13), .ref (Ma 11), .int (Mv 14), .ref (Ma 12), .ref (Ma 13), .ref (Ma 14), .ref (Ma 15), .ref (Ma 16), .long (Mj 0), .ref (Ma 17), .ref (Ma 18), .ref (Ma 19), .ref (Ma 20)])), ((Ma 10), .inl (tc 0, 126, .inl (Mf 10)))] H := hP₀
              replace hD : va_D A [((Ma 0), .inr (12, [.ref (Ma 1), .int (Mv 0), .int (Mv 1), .ref (Ma 2), .ref (Ma 3), .ref (Ma 4), .ref (Ma 5), .ref (Ma 6), .int (Mv 2), .int (Mv 3), .int (Mv 4), .int (Mv 5), .int (Mv 6), .int (Mv 7), .int (Mv 8), .ref (Ma 7), .int (Mv 9), .ref (Ma 8), .int (Mv 10), .ref (Ma 9), .ref (Ma 10), .int (Mv 11), .int (Mv 12), .int (Mv 13), .ref (Ma 11), .int (Mv 14), .ref (Ma 12), .ref (Ma 13), .ref (Ma 14), .ref (Ma 15), .ref (Ma 16), .long (Mj 0), .ref (Ma 17), .ref (Ma 18), .ref (Ma 19), .ref (Ma 20)])), ((Ma 10), .inl (tc 0, 126, .inl (Mf 10)))] := hD₀
              replace hS := hS₀
              clear hP₀ hD₀ hS₀
              refine lv_imul hx hb dX12_fines_69 ?_
              refine lv_topi (fun x_55 ex_55 => ?_)
              refine lv_istore (lv' := [(8, .int x_55), (7, .int vy_33), (6, .int vy_34), (5, .int vy_35), (4, .int x_29), (3, .int r_18), (0, .ref (Ma 0)), (1, .int x1), (2, .int x2)]) hx hb dX12_fines_70 hl (by decide) rfl (fun ls hl₀ => ?_)
              replace hl := hl₀
              clear hl₀
              refine lv_iload hx hb dX12_fines_72 (lv_at hl 3 rfl) ?_
              refine lv_iload hx hb dX12_fines_74 (lv_at hl 0 rfl) ?_
              refine lv_iload_n hx hb dX12_fines_76 rfl (lv_at hl 5 rfl) ?_
              have hz_56 : ¬ r_18 = 0 := by
                intro z
                have zz : (r_18 : Int32).toInt = 0 := by rw [z]; decide
                have z_1 : ¬ (r_4 : Int32).toInt = (0 : Int32).toInt := fun z => c_7 (Int32.toInt_inj.mp z)
                have z_2 : ¬ (r_11 : Int32).toInt = (0 : Int32).toInt := fun z => c_14 (Int32.toInt_inj.mp z)
                have z_3 : ¬ (r_18 : Int32).toInt = (0 : Int32).toInt := fun z => c_21 (Int32.toInt_inj.mp z)
                have z_4 := Int32.lt_iff_toInt_lt.mp (Int32.not_le.mp c_42)
                have y_0 : (0 : Int32).toInt = 0 := by decide
                omega
              refine lv_idiv hx hb dX12_fines_77 hz_56 ?_
              refine lv_topi (fun x_57 ex_57 => ?_)
              refine lv_isub hx hb dX12_fines_78 ?_
              refine lv_topi (fun x_58 ex_58 => ?_)
              refine lv_istore (lv' := [(5, .int x_58), (8, .int x_55), (7, .int vy_33), (6, .int vy_34), (4, .int x_29), (3, .int r_18), (0, .ref (Ma 0)), (1, .int x1), (2, .int x2)]) hx hb dX12_fines_79 hl (by decide) rfl (fun ls hl₀ => ?_)
              replace hl := hl₀
              clear hl₀
              refine lv_iload hx hb dX12_fines_81 (lv_at hl 3 rfl) ?_
              refine lv_iload hx hb dX12_fines_83 (lv_at hl 1 rfl) ?_
              refine lv_iload_n hx hb dX12_fines_85 rfl (lv_at hl 5 rfl) ?_
              have hz_59 : ¬ r_18 = 0 := by
                intro z
                have zz : (r_18 : Int32).toInt = 0 := by rw [z]; decide
                have z_1 : ¬ (r_4 : Int32).toInt = (0 : Int32).toInt := fun z => c_7 (Int32.toInt_inj.mp z)
                have z_2 : ¬ (r_11 : Int32).toInt = (0 : Int32).toInt := fun z => c_14 (Int32.toInt_inj.mp z)
                have z_3 : ¬ (r_18 : Int32).toInt = (0 : Int32).toInt := fun z => c_21 (Int32.toInt_inj.mp z)
                have z_4 := Int32.lt_iff_toInt_lt.mp (Int32.not_le.mp c_42)
                have y_0 : (0 : Int32).toInt = 0 := by decide
                omega
              refine lv_irem hx hb dX12_fines_86 hz_59 ?_
              refine lv_topi (fun x_60 ex_60 => ?_)
              refine lv_iload hx hb dX12_fines_87 (lv_at hl 4 rfl) ?_
              refine lv_iload_n hx hb dX12_fines_89 rfl (lv_at hl 5 rfl) ?_
              have hz_61 : ¬ r_18 = 0 := by
                intro z
                have zz : (r_18 : Int32).toInt = 0 := by rw [z]; decide
                have z_1 : ¬ (r_4 : Int32).toInt = (0 : Int32).toInt := fun z => c_7 (Int32.toInt_inj.mp z)
                have z_2 : ¬ (r_11 : Int32).toInt = (0 : Int32).toInt := fun z => c_14 (Int32.toInt_inj.mp z)
                have z_3 : ¬ (r_18 : Int32).toInt = (0 : Int32).toInt := fun z => c_21 (Int32.toInt_inj.mp z)
                have z_4 := Int32.lt_iff_toInt_lt.mp (Int32.not_le.mp c_42)
                have y_0 : (0 : Int32).toInt = 0 := by decide
                omega
              refine lv_irem hx hb dX12_fines_90 hz_61 ?_
              refine lv_topi (fun x_62 ex_62 => ?_)
              refine lv_icmp_gt (tgt := 111) hx hb dX12_fines_91 (by decide) (fun c_63 => ?_) (fun c_63 => ?_)
              · skip
                refine lv_iconst (v := 1) hx hb dX12_fines_111 (by decide) ?_
                refine lv_goto (tgt := 116) hx hb dX12_fines_112 (by decide) ?_
                refine lv_iadd hx hb dX12_fines_116 ?_
                refine lv_topi (fun x_64 ex_64 => ?_)
                refine lv_istore (lv' := [(6, .int x_64), (5, .int x_58), (8, .int x_55), (7, .int vy_33), (4, .int x_29), (3, .int r_18), (0, .ref (Ma 0)), (1, .int x1), (2, .int x2)]) hx hb dX12_fines_117 hl (by decide) rfl (fun ls hl₀ => ?_)
                replace hl := hl₀
                clear hl₀
                obtain ⟨x_65, ex_65⟩ : ∃ y : Int32, y = vy_33 + 1 := ⟨_, rfl⟩
                refine lv_iinc (v := x_65) (lv' := [(7, .int x_65), (6, .int x_64), (5, .int x_58), (8, .int x_55), (4, .int x_29), (3, .int r_18), (0, .ref (Ma 0)), (1, .int x1), (2, .int x2)]) hx hb dX12_fines_119 hl (k := 3) rfl (by rw [ex_65]; rfl) (by decide) rfl (fun ls hl₀ => ?_)
                replace hl := hl₀
                clear hl₀
                refine lv_goto (tgt := 51) hx hb dX12_fines_122 (by decide) ?_
                have hb_66 : 6 - (x_65 : Int32).toInt < 6 - (vy_33 : Int32).toInt ∧ 1 ≤ 6 - (vy_33 : Int32).toInt := by
                  have z_1 : ¬ (r_4 : Int32).toInt = (0 : Int32).toInt := fun z => c_7 (Int32.toInt_inj.mp z)
                  have z_2 : ¬ (r_11 : Int32).toInt = (0 : Int32).toInt := fun z => c_14 (Int32.toInt_inj.mp z)
                  have z_3 : ¬ (r_18 : Int32).toInt = (0 : Int32).toInt := fun z => c_21 (Int32.toInt_inj.mp z)
                  have z_4 := Int32.lt_iff_toInt_lt.mp (Int32.not_le.mp c_42)
                  have z_5 := Int32.lt_iff_toInt_lt.mp c_63
                  have y_0 : (0 : Int32).toInt = 0 := by decide
                  have y_1 : (1 : Int32).toInt = 1 := by decide
                  have t_x_65 : x_65.toInt = (vy_33 : Int32).toInt + (1 : Int32).toInt := by rw [ex_65]; exact add_toInt (by omega) (by omega)
                  refine ⟨?_, ?_⟩ <;> omega
                have ha_67 : 0 ≤ (x_65 : Int32).toInt := by
                  have z_1 : ¬ (r_4 : Int32).toInt = (0 : Int32).toInt := fun z => c_7 (Int32.toInt_inj.mp z)
                  have z_2 : ¬ (r_11 : Int32).toInt = (0 : Int32).toInt := fun z => c_14 (Int32.toInt_inj.mp z)
                  have z_3 : ¬ (r_18 : Int32).toInt = (0 : Int32).toInt := fun z => c_21 (Int32.toInt_inj.mp z)
                  have z_4 := Int32.lt_iff_toInt_lt.mp (Int32.not_le.mp c_42)
                  have z_5 := Int32.lt_iff_toInt_lt.mp c_63
                  have y_0 : (0 : Int32).toInt = 0 := by decide
                  have y_1 : (1 : Int32).toInt = 1 := by decide
                  have t_x_65 : x_65.toInt = (vy_33 : Int32).toInt + (1 : Int32).toInt := by rw [ex_65]; exact add_toInt (by omega) (by omega)
                  omega
                exact ih_37 x_65 x_64 x_58 _ _ _ (by omega) ha_67 (hP.sub [0, 1] rfl) (hD.sub [0, 1] rfl rfl) hS (lv_sub hl [0, 1, 2, 4, 5, 6, 7, 8] rfl)
              · skip
                refine lv_iload hx hb dX12_fines_94 (lv_at hl 1 rfl) ?_
                refine lv_iload_n hx hb dX12_fines_96 rfl (lv_at hl 5 rfl) ?_
                have hz_68 : ¬ r_18 = 0 := by
                  intro z
                  have zz : (r_18 : Int32).toInt = 0 := by rw [z]; decide
                  have z_1 : ¬ (r_4 : Int32).toInt = (0 : Int32).toInt := fun z => c_7 (Int32.toInt_inj.mp z)
                  have z_2 : ¬ (r_11 : Int32).toInt = (0 : Int32).toInt := fun z => c_14 (Int32.toInt_inj.mp z)
                  have z_3 : ¬ (r_18 : Int32).toInt = (0 : Int32).toInt := fun z => c_21 (Int32.toInt_inj.mp z)
                  have z_4 := Int32.lt_iff_toInt_lt.mp (Int32.not_le.mp c_42)
                  have z_5 := Int32.le_iff_toInt_le.mp (Int32.not_lt.mp c_63)
                  have y_0 : (0 : Int32).toInt = 0 := by decide
                  omega
                refine lv_irem hx hb dX12_fines_97 hz_68 ?_
                refine lv_topi (fun x_69 ex_69 => ?_)
                refine lv_iload hx hb dX12_fines_98 (lv_at hl 4 rfl) ?_
                refine lv_iload_n hx hb dX12_fines_100 rfl (lv_at hl 5 rfl) ?_
                have hz_70 : ¬ r_18 = 0 := by
                  intro z
                  have zz : (r_18 : Int32).toInt = 0 := by rw [z]; decide
                  have z_1 : ¬ (r_4 : Int32).toInt = (0 : Int32).toInt := fun z => c_7 (Int32.toInt_inj.mp z)
                  have z_2 : ¬ (r_11 : Int32).toInt = (0 : Int32).toInt := fun z => c_14 (Int32.toInt_inj.mp z)
                  have z_3 : ¬ (r_18 : Int32).toInt = (0 : Int32).toInt := fun z => c_21 (Int32.toInt_inj.mp z)
                  have z_4 := Int32.lt_iff_toInt_lt.mp (Int32.not_le.mp c_42)
                  have z_5 := Int32.le_iff_toInt_le.mp (Int32.not_lt.mp c_63)
                  have y_0 : (0 : Int32).toInt = 0 := by decide
                  omega
                refine lv_irem hx hb dX12_fines_101 hz_70 ?_
                refine lv_topi (fun x_71 ex_71 => ?_)
                refine lv_icmp_ne (tgt := 115) hx hb dX12_fines_102 (by decide) (fun c_72 => ?_) (fun c_72 => ?_)
                · skip
                  refine lv_iconst (v := 0) hx hb dX12_fines_115 (by decide) ?_
                  refine lv_iadd hx hb dX12_fines_116 ?_
                  refine lv_topi (fun x_73 ex_73 => ?_)
                  refine lv_istore (lv' := [(6, .int x_73), (5, .int x_58), (8, .int x_55), (7, .int vy_33), (4, .int x_29), (3, .int r_18), (0, .ref (Ma 0)), (1, .int x1), (2, .int x2)]) hx hb dX12_fines_117 hl (by decide) rfl (fun ls hl₀ => ?_)
                  replace hl := hl₀
                  clear hl₀
                  obtain ⟨x_74, ex_74⟩ : ∃ y : Int32, y = vy_33 + 1 := ⟨_, rfl⟩
                  refine lv_iinc (v := x_74) (lv' := [(7, .int x_74), (6, .int x_73), (5, .int x_58), (8, .int x_55), (4, .int x_29), (3, .int r_18), (0, .ref (Ma 0)), (1, .int x1), (2, .int x2)]) hx hb dX12_fines_119 hl (k := 3) rfl (by rw [ex_74]; rfl) (by decide) rfl (fun ls hl₀ => ?_)
                  replace hl := hl₀
                  clear hl₀
                  refine lv_goto (tgt := 51) hx hb dX12_fines_122 (by decide) ?_
                  have hb_75 : 6 - (x_74 : Int32).toInt < 6 - (vy_33 : Int32).toInt ∧ 1 ≤ 6 - (vy_33 : Int32).toInt := by
                    have z_1 : ¬ (r_4 : Int32).toInt = (0 : Int32).toInt := fun z => c_7 (Int32.toInt_inj.mp z)
                    have z_2 : ¬ (r_11 : Int32).toInt = (0 : Int32).toInt := fun z => c_14 (Int32.toInt_inj.mp z)
                    have z_3 : ¬ (r_18 : Int32).toInt = (0 : Int32).toInt := fun z => c_21 (Int32.toInt_inj.mp z)
                    have z_4 := Int32.lt_iff_toInt_lt.mp (Int32.not_le.mp c_42)
                    have z_5 := Int32.le_iff_toInt_le.mp (Int32.not_lt.mp c_63)
                    have z_6 : ¬ (x_69 : Int32).toInt = (x_71 : Int32).toInt := fun z => c_72 (Int32.toInt_inj.mp z)
                    have y_0 : (0 : Int32).toInt = 0 := by decide
                    have y_1 : (1 : Int32).toInt = 1 := by decide
                    have t_x_74 : x_74.toInt = (vy_33 : Int32).toInt + (1 : Int32).toInt := by rw [ex_74]; exact add_toInt (by omega) (by omega)
                    refine ⟨?_, ?_⟩ <;> omega
                  have ha_76 : 0 ≤ (x_74 : Int32).toInt := by
                    have z_1 : ¬ (r_4 : Int32).toInt = (0 : Int32).toInt := fun z => c_7 (Int32.toInt_inj.mp z)
                    have z_2 : ¬ (r_11 : Int32).toInt = (0 : Int32).toInt := fun z => c_14 (Int32.toInt_inj.mp z)
                    have z_3 : ¬ (r_18 : Int32).toInt = (0 : Int32).toInt := fun z => c_21 (Int32.toInt_inj.mp z)
                    have z_4 := Int32.lt_iff_toInt_lt.mp (Int32.not_le.mp c_42)
                    have z_5 := Int32.le_iff_toInt_le.mp (Int32.not_lt.mp c_63)
                    have z_6 : ¬ (x_69 : Int32).toInt = (x_71 : Int32).toInt := fun z => c_72 (Int32.toInt_inj.mp z)
                    have y_0 : (0 : Int32).toInt = 0 := by decide
                    have y_1 : (1 : Int32).toInt = 1 := by decide
                    have t_x_74 : x_74.toInt = (vy_33 : Int32).toInt + (1 : Int32).toInt := by rw [ex_74]; exact add_toInt (by omega) (by omega)
                    omega
                  exact ih_37 x_74 x_73 x_58 _ _ _ (by omega) ha_76 (hP.sub [0, 1] rfl) (hD.sub [0, 1] rfl rfl) hS (lv_sub hl [0, 1, 2, 4, 5, 6, 7, 8] rfl)
                · skip
                  refine lv_iload hx hb dX12_fines_105 (lv_at hl 2 rfl) ?_
                  refine lv_iload_n hx hb dX12_fines_107 rfl (lv_at hl 8 rfl) ?_
                  refine lv_icmp_ge (tgt := 115) hx hb dX12_fines_108 (by decide) (fun c_77 => ?_) (fun c_77 => ?_)
                  · skip
                    refine lv_iconst (v := 0) hx hb dX12_fines_115 (by decide) ?_
                    refine lv_iadd hx hb dX12_fines_116 ?_
                    refine lv_topi (fun x_78 ex_78 => ?_)
                    refine lv_istore (lv' := [(6, .int x_78), (5, .int x_58), (8, .int x_55), (7, .int vy_33), (4, .int x_29), (3, .int r_18), (0, .ref (Ma 0)), (1, .int x1), (2, .int x2)]) hx hb dX12_fines_117 hl (by decide) rfl (fun ls hl₀ => ?_)
                    replace hl := hl₀
                    clear hl₀
                    obtain ⟨x_79, ex_79⟩ : ∃ y : Int32, y = vy_33 + 1 := ⟨_, rfl⟩
                    refine lv_iinc (v := x_79) (lv' := [(7, .int x_79), (6, .int x_78), (5, .int x_58), (8, .int x_55), (4, .int x_29), (3, .int r_18), (0, .ref (Ma 0)), (1, .int x1), (2, .int x2)]) hx hb dX12_fines_119 hl (k := 3) rfl (by rw [ex_79]; rfl) (by decide) rfl (fun ls hl₀ => ?_)
                    replace hl := hl₀
                    clear hl₀
                    refine lv_goto (tgt := 51) hx hb dX12_fines_122 (by decide) ?_
                    have hb_80 : 6 - (x_79 : Int32).toInt < 6 - (vy_33 : Int32).toInt ∧ 1 ≤ 6 - (vy_33 : Int32).toInt := by
                      have z_1 : ¬ (r_4 : Int32).toInt = (0 : Int32).toInt := fun z => c_7 (Int32.toInt_inj.mp z)
                      have z_2 : ¬ (r_11 : Int32).toInt = (0 : Int32).toInt := fun z => c_14 (Int32.toInt_inj.mp z)
                      have z_3 : ¬ (r_18 : Int32).toInt = (0 : Int32).toInt := fun z => c_21 (Int32.toInt_inj.mp z)
                      have z_4 := Int32.lt_iff_toInt_lt.mp (Int32.not_le.mp c_42)
                      have z_5 := Int32.le_iff_toInt_le.mp (Int32.not_lt.mp c_63)
                      have z_6 := congrArg Int32.toInt c_72
                      have z_7 := Int32.le_iff_toInt_le.mp c_77
                      have y_0 : (0 : Int32).toInt = 0 := by decide
                      have y_1 : (1 : Int32).toInt = 1 := by decide
                      have t_x_79 : x_79.toInt = (vy_33 : Int32).toInt + (1 : Int32).toInt := by rw [ex_79]; exact add_toInt (by omega) (by omega)
                      refine ⟨?_, ?_⟩ <;> omega
                    have ha_81 : 0 ≤ (x_79 : Int32).toInt := by
                      have z_1 : ¬ (r_4 : Int32).toInt = (0 : Int32).toInt := fun z => c_7 (Int32.toInt_inj.mp z)
                      have z_2 : ¬ (r_11 : Int32).toInt = (0 : Int32).toInt := fun z => c_14 (Int32.toInt_inj.mp z)
                      have z_3 : ¬ (r_18 : Int32).toInt = (0 : Int32).toInt := fun z => c_21 (Int32.toInt_inj.mp z)
                      have z_4 := Int32.lt_iff_toInt_lt.mp (Int32.not_le.mp c_42)
                      have z_5 := Int32.le_iff_toInt_le.mp (Int32.not_lt.mp c_63)
                      have z_6 := congrArg Int32.toInt c_72
                      have z_7 := Int32.le_iff_toInt_le.mp c_77
                      have y_0 : (0 : Int32).toInt = 0 := by decide
                      have y_1 : (1 : Int32).toInt = 1 := by decide
                      have t_x_79 : x_79.toInt = (vy_33 : Int32).toInt + (1 : Int32).toInt := by rw [ex_79]; exact add_toInt (by omega) (by omega)
                      omega
                    exact ih_37 x_79 x_78 x_58 _ _ _ (by omega) ha_81 (hP.sub [0, 1] rfl) (hD.sub [0, 1] rfl rfl) hS (lv_sub hl [0, 1, 2, 4, 5, 6, 7, 8] rfl)
                  · skip
                    refine lv_iconst (v := 1) hx hb dX12_fines_111 (by decide) ?_
                    refine lv_goto (tgt := 116) hx hb dX12_fines_112 (by decide) ?_
                    refine lv_iadd hx hb dX12_fines_116 ?_
                    refine lv_topi (fun x_82 ex_82 => ?_)
                    refine lv_istore (lv' := [(6, .int x_82), (5, .int x_58), (8, .int x_55), (7, .int vy_33), (4, .int x_29), (3, .int r_18), (0, .ref (Ma 0)), (1, .int x1), (2, .int x2)]) hx hb dX12_fines_117 hl (by decide) rfl (fun ls hl₀ => ?_)
                    replace hl := hl₀
                    clear hl₀
                    obtain ⟨x_83, ex_83⟩ : ∃ y : Int32, y = vy_33 + 1 := ⟨_, rfl⟩
                    refine lv_iinc (v := x_83) (lv' := [(7, .int x_83), (6, .int x_82), (5, .int x_58), (8, .int x_55), (4, .int x_29), (3, .int r_18), (0, .ref (Ma 0)), (1, .int x1), (2, .int x2)]) hx hb dX12_fines_119 hl (k := 3) rfl (by rw [ex_83]; rfl) (by decide) rfl (fun ls hl₀ => ?_)
                    replace hl := hl₀
                    clear hl₀
                    refine lv_goto (tgt := 51) hx hb dX12_fines_122 (by decide) ?_
                    have hb_84 : 6 - (x_83 : Int32).toInt < 6 - (vy_33 : Int32).toInt ∧ 1 ≤ 6 - (vy_33 : Int32).toInt := by
                      have z_1 : ¬ (r_4 : Int32).toInt = (0 : Int32).toInt := fun z => c_7 (Int32.toInt_inj.mp z)
                      have z_2 : ¬ (r_11 : Int32).toInt = (0 : Int32).toInt := fun z => c_14 (Int32.toInt_inj.mp z)
                      have z_3 : ¬ (r_18 : Int32).toInt = (0 : Int32).toInt := fun z => c_21 (Int32.toInt_inj.mp z)
                      have z_4 := Int32.lt_iff_toInt_lt.mp (Int32.not_le.mp c_42)
                      have z_5 := Int32.le_iff_toInt_le.mp (Int32.not_lt.mp c_63)
                      have z_6 := congrArg Int32.toInt c_72
                      have z_7 := Int32.lt_iff_toInt_lt.mp (Int32.not_le.mp c_77)
                      have y_0 : (0 : Int32).toInt = 0 := by decide
                      have y_1 : (1 : Int32).toInt = 1 := by decide
                      have t_x_83 : x_83.toInt = (vy_33 : Int32).toInt + (1 : Int32).toInt := by rw [ex_83]; exact add_toInt (by omega) (by omega)
                      refine ⟨?_, ?_⟩ <;> omega
                    have ha_85 : 0 ≤ (x_83 : Int32).toInt := by
                      have z_1 : ¬ (r_4 : Int32).toInt = (0 : Int32).toInt := fun z => c_7 (Int32.toInt_inj.mp z)
                      have z_2 : ¬ (r_11 : Int32).toInt = (0 : Int32).toInt := fun z => c_14 (Int32.toInt_inj.mp z)
                      have z_3 : ¬ (r_18 : Int32).toInt = (0 : Int32).toInt := fun z => c_21 (Int32.toInt_inj.mp z)
                      have z_4 := Int32.lt_iff_toInt_lt.mp (Int32.not_le.mp c_42)
                      have z_5 := Int32.le_iff_toInt_le.mp (Int32.not_lt.mp c_63)
                      have z_6 := congrArg Int32.toInt c_72
                      have z_7 := Int32.lt_iff_toInt_lt.mp (Int32.not_le.mp c_77)
                      have y_0 : (0 : Int32).toInt = 0 := by decide
                      have y_1 : (1 : Int32).toInt = 1 := by decide
                      have t_x_83 : x_83.toInt = (vy_33 : Int32).toInt + (1 : Int32).toInt := by rw [ex_83]; exact add_toInt (by omega) (by omega)
                      omega
                    exact ih_37 x_83 x_82 x_58 _ _ _ (by omega) ha_85 (hP.sub [0, 1] rfl) (hD.sub [0, 1] rfl rfl) hS (lv_sub hl [0, 1, 2, 4, 5, 6, 7, 8] rfl)
        have ha_86 : 0 ≤ (0 : Int32).toInt := by
          have z_1 : ¬ (r_4 : Int32).toInt = (0 : Int32).toInt := fun z => c_7 (Int32.toInt_inj.mp z)
          have z_2 : ¬ (r_11 : Int32).toInt = (0 : Int32).toInt := fun z => c_14 (Int32.toInt_inj.mp z)
          have z_3 : ¬ (r_18 : Int32).toInt = (0 : Int32).toInt := fun z => c_21 (Int32.toInt_inj.mp z)
          have y_0 : (0 : Int32).toInt = 0 := by decide
          omega
        exact loop_38 _ 0 0 x1 _ _ _ (Nat.lt_succ_self _) ha_86 hP hD hS hl
      · skip
        refine lv_iconst (v := 0) hx hb dX12_fines_31 (by decide) ?_
        exact retI (v := 0) hx hb hr hlk (rfl) hP hD hS () ⟨_, rfl, trivial⟩ [0, 1] rfl rfl dX12_fines_32 (Nat.le_of_ble_eq_true rfl) (Nat.le_of_ble_eq_true rfl) rfl
    · skip
      refine lv_iconst (v := (-1)) hx hb dX12_fines_20 (by decide) ?_
      exact retI (v := (-1)) hx hb hr hlk (rfl) hP hD hS () ⟨_, rfl, trivial⟩ [0, 1] rfl rfl dX12_fines_21 (Nat.le_of_ble_eq_true rfl) (Nat.le_of_ble_eq_true rfl) rfl
set_option maxHeartbeats 4000000 in
set_option maxRecDepth 100000 in
theorem ct_X12_isRest (l : Launch) (D : va_G) (tc : Nat → ClassId) (sk : (Nat → Nat) × (Nat → Nat)) (Ma : Nat → Nat) (Mv : Nat → Int32) (Mf : Nat → Nat → Int32) (Mj : Nat → Int64) (x1 : Int32) (x2 : Int32) (h_ab : 0 ≤ x1.toInt ∧ x1.toInt < 5 ∧ 0 ≤ x2.toInt ∧ x2.toInt < 5) : Ct l yX12_isRest cX12_isRest 4 (some .boolean) { frames := 0, cells := 0, slots := 0, locals := 0 } D tc sk [.ref (Ma 0), .int x1, .int x2] [((Ma 0), .inr (12, [.ref (Ma 1), .int (Mv 0), .int (Mv 1), .ref (Ma 2), .ref (Ma 3), .ref (Ma 4), .ref (Ma 5), .ref (Ma 6), .int (Mv 2), .int (Mv 3), .int (Mv 4), .int (Mv 5), .int (Mv 6), .int (Mv 7), .int (Mv 8), .ref (Ma 7), .int (Mv 9), .ref (Ma 8), .int (Mv 10), .ref (Ma 9), .ref (Ma 10), .int (Mv 11), .int (Mv 12), .int (Mv 13), .ref (Ma 11), .int (Mv 14), .ref (Ma 12), .ref (Ma 13), .ref (Ma 14), .ref (Ma 15), .ref (Ma 16), .long (Mj 0), .ref (Ma 17), .ref (Ma 18), .ref (Ma 19), .ref (Ma 20)])), ((Ma 13), .inl (tc 0, 50, .inl (Mf 13)))] (fun (v : Option Value) (_ : Unit) => ∃ r : Int32, v = some (.int r) ∧ ((r.toInt = 0 ∨ r.toInt = 1))) (fun (_ : Unit) => [((Ma 0), .inr (12, [.ref (Ma 1), .int (Mv 0), .int (Mv 1), .ref (Ma 2), .ref (Ma 3), .ref (Ma 4), .ref (Ma 5), .ref (Ma 6), .int (Mv 2), .int (Mv 3), .int (Mv 4), .int (Mv 5), .int (Mv 6), .int (Mv 7), .int (Mv 8), .ref (Ma 7), .int (Mv 9), .ref (Ma 8), .int (Mv 10), .ref (Ma 9), .ref (Ma 10), .int (Mv 11), .int (Mv 12), .int (Mv 13), .ref (Ma 11), .int (Mv 14), .ref (Ma 12), .ref (Ma 13), .ref (Ma 14), .ref (Ma 15), .ref (Ma 16), .long (Mj 0), .ref (Ma 17), .ref (Ma 18), .ref (Ma 19), .ref (Ma 20)])), ((Ma 13), .inl (tc 0, 50, .inl (Mf 13)))]) 0 0 := by
  refine Ct.start (by decide) (Nat.le_of_ble_eq_true rfl) (fun p e s m below meth c A ls hx hb hr hlk hin hml hown hts hK hX hP hD hA hl hS => ?_)
  have hl : lv_has ls 4 [(0, .ref (Ma 0)), (1, .int x1), (2, .int x2)] := hl
  refine lv_iconst (v := 0) hx hb dX12_isRest_0 (by decide) ?_
  refine lv_istore_n (lv' := [(3, .int 0), (0, .ref (Ma 0)), (1, .int x1), (2, .int x2)]) hx hb dX12_isRest_1 rfl hl (by decide) rfl (fun ls hl₀ => ?_)
  replace hl := hl₀
  clear hl₀
  have loop_5 : ∀ (n_3 : Nat) (vy_2 : Int32) (H : Heap) (locs : List Loc) (ls : Array Slot), (5 - (vy_2 : Int32).toInt).toNat < n_3 → (0 ≤ (vy_2 : Int32).toInt) → va_P D classes [((Ma 0), .inr (12, [.ref (Ma 1), .int (Mv 0), .int (Mv 1), .ref (Ma 2), .ref (Ma 3), .ref (Ma 4), .ref (Ma 5), .ref (Ma 6), .int (Mv 2), .int (Mv 3), .int (Mv 4), .int (Mv 5), .int (Mv 6), .int (Mv 7), .int (Mv 8), .ref (Ma 7), .int (Mv 9), .ref (Ma 8), .int (Mv 10), .ref (Ma 9), .ref (Ma 10), .int (Mv 11), .int (Mv 12), .int (Mv 13), .ref (Ma 11), .int (Mv 14), .ref (Ma 12), .ref (Ma 13), .ref (Ma 14), .ref (Ma 15), .ref (Ma 16), .long (Mj 0), .ref (Ma 17), .ref (Ma 18), .ref (Ma 19), .ref (Ma 20)])), ((Ma 13), .inl (tc 0, 50, .inl (Mf 13)))] H → va_D A [((Ma 0), .inr (12, [.ref (Ma 1), .int (Mv 0), .int (Mv 1), .ref (Ma 2), .ref (Ma 3), .ref (Ma 4), .ref (Ma 5), .ref (Ma 6), .int (Mv 2), .int (Mv 3), .int (Mv 4), .int (Mv 5), .int (Mv 6), .int (Mv 7), .int (Mv 8), .ref (Ma 7), .int (Mv 9), .ref (Ma 8), .int (Mv 10), .ref (Ma 9), .ref (Ma 10), .int (Mv 11), .int (Mv 12), .int (Mv 13), .ref (Ma 11), .int (Mv 14), .ref (Ma 12), .ref (Ma 13), .ref (Ma 14), .ref (Ma 15), .ref (Ma 16), .long (Mj 0), .ref (Ma 17), .ref (Ma 18), .ref (Ma 19), .ref (Ma 20)])), ((Ma 13), .inl (tc 0, 50, .inl (Mf 13)))] → va_S A s.heap H locs → lv_has ls 4 [(3, .int vy_2), (0, .ref (Ma 0)), (1, .int x1), (2, .int x2)] → W p l e ({ frames := 0, cells := 0, slots := 0, locals := 0 }) s m ([.ref (Ma 0), .int x1, .int x2].toArray) below meth c H locs 0 0 (MQ below (QW (fun (v : Option Value) (_ : Unit) => ∃ r : Int32, v = some (.int r) ∧ ((r.toInt = 0 ∨ r.toInt = 1))) (BW D (fun (_ : Unit) => [((Ma 0), .inr (12, [.ref (Ma 1), .int (Mv 0), .int (Mv 1), .ref (Ma 2), .ref (Ma 3), .ref (Ma 4), .ref (Ma 5), .ref (Ma 6), .int (Mv 2), .int (Mv 3), .int (Mv 4), .int (Mv 5), .int (Mv 6), .int (Mv 7), .int (Mv 8), .ref (Ma 7), .int (Mv 9), .ref (Ma 8), .int (Mv 10), .ref (Ma 9), .ref (Ma 10), .int (Mv 11), .int (Mv 12), .int (Mv 13), .ref (Ma 11), .int (Mv 14), .ref (Ma 12), .ref (Ma 13), .ref (Ma 14), .ref (Ma 15), .ref (Ma 16), .long (Mj 0), .ref (Ma 17), .ref (Ma 18), .ref (Ma 19), .ref (Ma 20)])), ((Ma 13), .inl (tc 0, 50, .inl (Mf 13)))]) A) A) ([.ref (Ma 0), .int x1, .int x2].toArray) s 0 0 A) (F0 m 2 ls []) := by
    clear hP hD hS hl
    intro n_3
    induction n_3 with
    | zero =>
      intro vy_2 H locs ls h1
      exact absurd h1 (Nat.not_lt_zero _)
    | succ n_3 ih_4 =>
      intro vy_2 H locs ls hn_7 pf_6 hP hD hS hl
      refine lv_iload_n hx hb dX12_isRest_2 rfl (lv_at hl 0 rfl) ?_
      refine lv_iconst (v := 5) hx hb dX12_isRest_3 (by decide) ?_
      refine lv_icmp_ge (tgt := 73) hx hb dX12_isRest_4 (by decide) (fun c_8 => ?_) (fun c_8 => ?_)
      · skip
        refine lv_iconst (v := 1) hx hb dX12_isRest_73 (by decide) ?_
        have hp_9 : ((1 : Int32).toInt = 0 ∨ (1 : Int32).toInt = 1) := by
          have z_1 := Int32.le_iff_toInt_le.mp c_8
          have y_5 : (5 : Int32).toInt = 5 := by decide
          have y_1 : (1 : Int32).toInt = 1 := by decide
          have yr : (1 : Int32).toInt = 1 := by decide
          omega
        exact retI (v := 1) hx hb hr hlk (rfl) hP hD hS () ⟨_, rfl, hp_9⟩ [0, 1] rfl rfl dX12_isRest_74 (Nat.le_of_ble_eq_true rfl) (Nat.le_of_ble_eq_true rfl) rfl
      · skip
        refine lv_aload_n hx hb dX12_isRest_7 rfl (lv_at hl 1 rfl) ?_
        refine gf_X12_52 hx hb hts hown hK hP 0 rfl rfl dX12_isRest_8 ?_
        refine lv_iconst (v := 2) hx hb dX12_isRest_11 (by decide) ?_
        refine lv_iconst (v := 5) hx hb dX12_isRest_12 (by decide) ?_
        refine lv_iload_n hx hb dX12_isRest_13 rfl (lv_at hl 0 rfl) ?_
        refine lv_imul hx hb dX12_isRest_14 ?_
        refine lv_topi (fun x_10 ex_10 => ?_)
        refine lv_iload_n hx hb dX12_isRest_15 rfl (lv_at hl 3 rfl) ?_
        refine lv_iadd hx hb dX12_isRest_16 ?_
        refine lv_topi (fun x_11 ex_11 => ?_)
        refine lv_imul hx hb dX12_isRest_17 ?_
        refine lv_topi (fun x_12 ex_12 => ?_)
        have hi_13 : vp_in x_12 50 := by
          have z_1 := Int32.lt_iff_toInt_lt.mp (Int32.not_le.mp c_8)
          have y_5 : (5 : Int32).toInt = 5 := by decide
          have y_2 : (2 : Int32).toInt = 2 := by decide
          have t_x_10 : x_10.toInt = (5 : Int32).toInt * (vy_2 : Int32).toInt := by rw [ex_10]; exact mul_toInt (by first | omega | (rw [y_5]; omega)) (by first | omega | (rw [y_5]; omega))
          rw [y_5] at t_x_10
          have t_x_11 : x_11.toInt = (x_10 : Int32).toInt + (x2 : Int32).toInt := by rw [ex_11]; exact add_toInt (by omega) (by omega)
          have t_x_12 : x_12.toInt = (2 : Int32).toInt * (x_11 : Int32).toInt := by rw [ex_12]; exact mul_toInt (by first | omega | (rw [y_2]; omega)) (by first | omega | (rw [y_2]; omega))
          rw [y_2] at t_x_12
          refine vp_in_iff.mpr ⟨?_, ?_⟩ <;> omega
        refine va_iald hx hb hK hP 1 0 rfl rfl hi_13 dX12_isRest_18 ?_
        refine lv_topi (fun x_14 ex_14 => ?_)
        refine lv_aload_n hx hb dX12_isRest_19 rfl (lv_at hl 1 rfl) ?_
        refine gf_X12_52 hx hb hts hown hK hP 0 rfl rfl dX12_isRest_20 ?_
        refine lv_iconst (v := 2) hx hb dX12_isRest_23 (by decide) ?_
        refine lv_iconst (v := 5) hx hb dX12_isRest_24 (by decide) ?_
        refine lv_iload_n hx hb dX12_isRest_25 rfl (lv_at hl 2 rfl) ?_
        refine lv_imul hx hb dX12_isRest_26 ?_
        refine lv_topi (fun x_15 ex_15 => ?_)
        refine lv_iload_n hx hb dX12_isRest_27 rfl (lv_at hl 3 rfl) ?_
        refine lv_iadd hx hb dX12_isRest_28 ?_
        refine lv_topi (fun x_16 ex_16 => ?_)
        refine lv_imul hx hb dX12_isRest_29 ?_
        refine lv_topi (fun x_17 ex_17 => ?_)
        have hi_18 : vp_in x_17 50 := by
          have z_1 := Int32.lt_iff_toInt_lt.mp (Int32.not_le.mp c_8)
          have y_5 : (5 : Int32).toInt = 5 := by decide
          have y_2 : (2 : Int32).toInt = 2 := by decide
          have t_x_15 : x_15.toInt = (5 : Int32).toInt * (x1 : Int32).toInt := by rw [ex_15]; exact mul_toInt (by first | omega | (rw [y_5]; omega)) (by first | omega | (rw [y_5]; omega))
          rw [y_5] at t_x_15
          have t_x_16 : x_16.toInt = (x_15 : Int32).toInt + (x2 : Int32).toInt := by rw [ex_16]; exact add_toInt (by omega) (by omega)
          have t_x_17 : x_17.toInt = (2 : Int32).toInt * (x_16 : Int32).toInt := by rw [ex_17]; exact mul_toInt (by first | omega | (rw [y_2]; omega)) (by first | omega | (rw [y_2]; omega))
          rw [y_2] at t_x_17
          refine vp_in_iff.mpr ⟨?_, ?_⟩ <;> omega
        refine va_iald hx hb hK hP 1 0 rfl rfl hi_18 dX12_isRest_30 ?_
        refine lv_topi (fun x_19 ex_19 => ?_)
        refine lv_icmp_gt (tgt := 65) hx hb dX12_isRest_31 (by decide) (fun c_20 => ?_) (fun c_20 => ?_)
        · skip
          refine lv_iconst (v := 0) hx hb dX12_isRest_65 (by decide) ?_
          have hp_21 : ((0 : Int32).toInt = 0 ∨ (0 : Int32).toInt = 1) := by
            have z_1 := Int32.lt_iff_toInt_lt.mp (Int32.not_le.mp c_8)
            have z_2 := Int32.lt_iff_toInt_lt.mp c_20
            have y_5 : (5 : Int32).toInt = 5 := by decide
            have y_0 : (0 : Int32).toInt = 0 := by decide
            have yr : (0 : Int32).toInt = 0 := by decide
            omega
          exact retI (v := 0) hx hb hr hlk (rfl) hP hD hS () ⟨_, rfl, hp_21⟩ [0, 1] rfl rfl dX12_isRest_66 (Nat.le_of_ble_eq_true rfl) (Nat.le_of_ble_eq_true rfl) rfl
        · skip
          refine lv_aload_n hx hb dX12_isRest_34 rfl (lv_at hl 1 rfl) ?_
          refine gf_X12_52 hx hb hts hown hK hP 0 rfl rfl dX12_isRest_35 ?_
          refine lv_iconst (v := 2) hx hb dX12_isRest_38 (by decide) ?_
          refine lv_iconst (v := 5) hx hb dX12_isRest_39 (by decide) ?_
          refine lv_iload_n hx hb dX12_isRest_40 rfl (lv_at hl 2 rfl) ?_
          refine lv_imul hx hb dX12_isRest_41 ?_
          refine lv_topi (fun x_22 ex_22 => ?_)
          refine lv_iload_n hx hb dX12_isRest_42 rfl (lv_at hl 0 rfl) ?_
          refine lv_iadd hx hb dX12_isRest_43 ?_
          refine lv_topi (fun x_23 ex_23 => ?_)
          refine lv_imul hx hb dX12_isRest_44 ?_
          refine lv_topi (fun x_24 ex_24 => ?_)
          refine lv_iconst (v := 1) hx hb dX12_isRest_45 (by decide) ?_
          refine lv_iadd hx hb dX12_isRest_46 ?_
          refine lv_topi (fun x_25 ex_25 => ?_)
          have hi_26 : vp_in x_25 50 := by
            have z_1 := Int32.lt_iff_toInt_lt.mp (Int32.not_le.mp c_8)
            have z_2 := Int32.le_iff_toInt_le.mp (Int32.not_lt.mp c_20)
            have y_5 : (5 : Int32).toInt = 5 := by decide
            have y_1 : (1 : Int32).toInt = 1 := by decide
            have y_2 : (2 : Int32).toInt = 2 := by decide
            have t_x_22 : x_22.toInt = (5 : Int32).toInt * (x1 : Int32).toInt := by rw [ex_22]; exact mul_toInt (by first | omega | (rw [y_5]; omega)) (by first | omega | (rw [y_5]; omega))
            rw [y_5] at t_x_22
            have t_x_23 : x_23.toInt = (x_22 : Int32).toInt + (vy_2 : Int32).toInt := by rw [ex_23]; exact add_toInt (by omega) (by omega)
            have t_x_24 : x_24.toInt = (2 : Int32).toInt * (x_23 : Int32).toInt := by rw [ex_24]; exact mul_toInt (by first | omega | (rw [y_2]; omega)) (by first | omega | (rw [y_2]; omega))
            rw [y_2] at t_x_24
            have t_x_25 : x_25.toInt = (x_24 : Int32).toInt + (1 : Int32).toInt := by rw [ex_25]; exact add_toInt (by omega) (by omega)
            refine vp_in_iff.mpr ⟨?_, ?_⟩ <;> omega
          refine va_iald hx hb hK hP 1 0 rfl rfl hi_26 dX12_isRest_47 ?_
          refine lv_topi (fun x_27 ex_27 => ?_)
          refine lv_aload_n hx hb dX12_isRest_48 rfl (lv_at hl 1 rfl) ?_
          refine gf_X12_52 hx hb hts hown hK hP 0 rfl rfl dX12_isRest_49 ?_
          refine lv_iconst (v := 2) hx hb dX12_isRest_52 (by decide) ?_
          refine lv_iconst (v := 5) hx hb dX12_isRest_53 (by decide) ?_
          refine lv_iload_n hx hb dX12_isRest_54 rfl (lv_at hl 2 rfl) ?_
          refine lv_imul hx hb dX12_isRest_55 ?_
          refine lv_topi (fun x_28 ex_28 => ?_)
          refine lv_iload_n hx hb dX12_isRest_56 rfl (lv_at hl 3 rfl) ?_
          refine lv_iadd hx hb dX12_isRest_57 ?_
          refine lv_topi (fun x_29 ex_29 => ?_)
          refine lv_imul hx hb dX12_isRest_58 ?_
          refine lv_topi (fun x_30 ex_30 => ?_)
          refine lv_iconst (v := 1) hx hb dX12_isRest_59 (by decide) ?_
          refine lv_iadd hx hb dX12_isRest_60 ?_
          refine lv_topi (fun x_31 ex_31 => ?_)
          have hi_32 : vp_in x_31 50 := by
            have z_1 := Int32.lt_iff_toInt_lt.mp (Int32.not_le.mp c_8)
            have z_2 := Int32.le_iff_toInt_le.mp (Int32.not_lt.mp c_20)
            have y_5 : (5 : Int32).toInt = 5 := by decide
            have y_1 : (1 : Int32).toInt = 1 := by decide
            have y_2 : (2 : Int32).toInt = 2 := by decide
            have t_x_28 : x_28.toInt = (5 : Int32).toInt * (x1 : Int32).toInt := by rw [ex_28]; exact mul_toInt (by first | omega | (rw [y_5]; omega)) (by first | omega | (rw [y_5]; omega))
            rw [y_5] at t_x_28
            have t_x_29 : x_29.toInt = (x_28 : Int32).toInt + (x2 : Int32).toInt := by rw [ex_29]; exact add_toInt (by omega) (by omega)
            have t_x_30 : x_30.toInt = (2 : Int32).toInt * (x_29 : Int32).toInt := by rw [ex_30]; exact mul_toInt (by first | omega | (rw [y_2]; omega)) (by first | omega | (rw [y_2]; omega))
            rw [y_2] at t_x_30
            have t_x_31 : x_31.toInt = (x_30 : Int32).toInt + (1 : Int32).toInt := by rw [ex_31]; exact add_toInt (by omega) (by omega)
            refine vp_in_iff.mpr ⟨?_, ?_⟩ <;> omega
          refine va_iald hx hb hK hP 1 0 rfl rfl hi_32 dX12_isRest_61 ?_
          refine lv_topi (fun x_33 ex_33 => ?_)
          refine lv_icmp_le (tgt := 67) hx hb dX12_isRest_62 (by decide) (fun c_34 => ?_) (fun c_34 => ?_)
          · skip
            obtain ⟨x_35, ex_35⟩ : ∃ y : Int32, y = vy_2 + 1 := ⟨_, rfl⟩
            refine lv_iinc (v := x_35) (lv' := [(3, .int x_35), (0, .ref (Ma 0)), (1, .int x1), (2, .int x2)]) hx hb dX12_isRest_67 hl (k := 0) rfl (by rw [ex_35]; rfl) (by decide) rfl (fun ls hl₀ => ?_)
            replace hl := hl₀
            clear hl₀
            refine lv_goto (tgt := 2) hx hb dX12_isRest_70 (by decide) ?_
            have hb_36 : 5 - (x_35 : Int32).toInt < 5 - (vy_2 : Int32).toInt ∧ 1 ≤ 5 - (vy_2 : Int32).toInt := by
              have z_1 := Int32.lt_iff_toInt_lt.mp (Int32.not_le.mp c_8)
              have z_2 := Int32.le_iff_toInt_le.mp (Int32.not_lt.mp c_20)
              have z_3 := Int32.le_iff_toInt_le.mp c_34
              have y_5 : (5 : Int32).toInt = 5 := by decide
              have y_1 : (1 : Int32).toInt = 1 := by decide
              have t_x_35 : x_35.toInt = (vy_2 : Int32).toInt + (1 : Int32).toInt := by rw [ex_35]; exact add_toInt (by omega) (by omega)
              refine ⟨?_, ?_⟩ <;> omega
            have ha_37 : 0 ≤ (x_35 : Int32).toInt := by
              have z_1 := Int32.lt_iff_toInt_lt.mp (Int32.not_le.mp c_8)
              have z_2 := Int32.le_iff_toInt_le.mp (Int32.not_lt.mp c_20)
              have z_3 := Int32.le_iff_toInt_le.mp c_34
              have y_5 : (5 : Int32).toInt = 5 := by decide
              have y_1 : (1 : Int32).toInt = 1 := by decide
              have t_x_35 : x_35.toInt = (vy_2 : Int32).toInt + (1 : Int32).toInt := by rw [ex_35]; exact add_toInt (by omega) (by omega)
              omega
            exact ih_4 x_35 _ _ _ (by omega) ha_37 (hP.sub [0, 1] rfl) (hD.sub [0, 1] rfl rfl) hS (lv_sub hl [0, 1, 2, 3] rfl)
          · skip
            refine lv_iconst (v := 0) hx hb dX12_isRest_65 (by decide) ?_
            have hp_38 : ((0 : Int32).toInt = 0 ∨ (0 : Int32).toInt = 1) := by
              have z_1 := Int32.lt_iff_toInt_lt.mp (Int32.not_le.mp c_8)
              have z_2 := Int32.le_iff_toInt_le.mp (Int32.not_lt.mp c_20)
              have z_3 := Int32.lt_iff_toInt_lt.mp (Int32.not_le.mp c_34)
              have y_5 : (5 : Int32).toInt = 5 := by decide
              have y_0 : (0 : Int32).toInt = 0 := by decide
              have yr : (0 : Int32).toInt = 0 := by decide
              omega
            exact retI (v := 0) hx hb hr hlk (rfl) hP hD hS () ⟨_, rfl, hp_38⟩ [0, 1] rfl rfl dX12_isRest_66 (Nat.le_of_ble_eq_true rfl) (Nat.le_of_ble_eq_true rfl) rfl
  have ha_39 : 0 ≤ (0 : Int32).toInt := by
    have y_0 : (0 : Int32).toInt = 0 := by decide
    omega
  exact loop_5 _ 0 _ _ _ (Nat.lt_succ_self _) ha_39 hP hD hS hl
set_option maxRecDepth 100000 in
theorem cu_X12_isRest (l : Launch) (D : va_G) (tc : Nat → ClassId) (sk : (Nat → Nat) × (Nat → Nat)) (Ma_0 : Nat) (Ma_1 : Nat) (Ma_2 : Nat) (Ma_3 : Nat) (Ma_4 : Nat) (Ma_5 : Nat) (Ma_6 : Nat) (Ma_7 : Nat) (Ma_8 : Nat) (Ma_9 : Nat) (Ma_10 : Nat) (Ma_11 : Nat) (Ma_12 : Nat) (Ma_13 : Nat) (Ma_14 : Nat) (Ma_15 : Nat) (Ma_16 : Nat) (Ma_17 : Nat) (Ma_18 : Nat) (Ma_19 : Nat) (Ma_20 : Nat) (Mv_0 : Int32) (Mv_1 : Int32) (Mv_2 : Int32) (Mv_3 : Int32) (Mv_4 : Int32) (Mv_5 : Int32) (Mv_6 : Int32) (Mv_7 : Int32) (Mv_8 : Int32) (Mv_9 : Int32) (Mv_10 : Int32) (Mv_11 : Int32) (Mv_12 : Int32) (Mv_13 : Int32) (Mv_14 : Int32) (Mf_13 : Nat → Int32) (Mj_0 : Int64) (x1 : Int32) (x2 : Int32) (h_ab : 0 ≤ x1.toInt ∧ x1.toInt < 5 ∧ 0 ≤ x2.toInt ∧ x2.toInt < 5) : Ct l yX12_isRest cX12_isRest 4 (some .boolean) { frames := 0, cells := 0, slots := 0, locals := 0 } D tc sk [.ref Ma_0, .int x1, .int x2] [(Ma_0, .inr (12, [.ref Ma_1, .int Mv_0, .int Mv_1, .ref Ma_2, .ref Ma_3, .ref Ma_4, .ref Ma_5, .ref Ma_6, .int Mv_2, .int Mv_3, .int Mv_4, .int Mv_5, .int Mv_6, .int Mv_7, .int Mv_8, .ref Ma_7, .int Mv_9, .ref Ma_8, .int Mv_10, .ref Ma_9, .ref Ma_10, .int Mv_11, .int Mv_12, .int Mv_13, .ref Ma_11, .int Mv_14, .ref Ma_12, .ref Ma_13, .ref Ma_14, .ref Ma_15, .ref Ma_16, .long Mj_0, .ref Ma_17, .ref Ma_18, .ref Ma_19, .ref Ma_20])), (Ma_13, .inl (tc 0, 50, .inl Mf_13))] (fun (v : Option Value) (_ : Unit) => ∃ r : Int32, v = some (.int r) ∧ ((r.toInt = 0 ∨ r.toInt = 1))) (fun (_ : Unit) => [(Ma_0, .inr (12, [.ref Ma_1, .int Mv_0, .int Mv_1, .ref Ma_2, .ref Ma_3, .ref Ma_4, .ref Ma_5, .ref Ma_6, .int Mv_2, .int Mv_3, .int Mv_4, .int Mv_5, .int Mv_6, .int Mv_7, .int Mv_8, .ref Ma_7, .int Mv_9, .ref Ma_8, .int Mv_10, .ref Ma_9, .ref Ma_10, .int Mv_11, .int Mv_12, .int Mv_13, .ref Ma_11, .int Mv_14, .ref Ma_12, .ref Ma_13, .ref Ma_14, .ref Ma_15, .ref Ma_16, .long Mj_0, .ref Ma_17, .ref Ma_18, .ref Ma_19, .ref Ma_20])), (Ma_13, .inl (tc 0, 50, .inl Mf_13))]) 0 0 :=
  ct_X12_isRest l D tc sk (fun k => ([Ma_0, Ma_1, Ma_2, Ma_3, Ma_4, Ma_5, Ma_6, Ma_7, Ma_8, Ma_9, Ma_10, Ma_11, Ma_12, Ma_13, Ma_14, Ma_15, Ma_16, Ma_17, Ma_18, Ma_19, Ma_20] : List (Nat)).getD k 0) (fun k => ([Mv_0, Mv_1, Mv_2, Mv_3, Mv_4, Mv_5, Mv_6, Mv_7, Mv_8, Mv_9, Mv_10, Mv_11, Mv_12, Mv_13, Mv_14] : List (Int32)).getD k 0) (fun k => ([(fun _ => 0), (fun _ => 0), (fun _ => 0), (fun _ => 0), (fun _ => 0), (fun _ => 0), (fun _ => 0), (fun _ => 0), (fun _ => 0), (fun _ => 0), (fun _ => 0), (fun _ => 0), (fun _ => 0), Mf_13] : List (Nat → Int32)).getD k (fun _ => 0)) (fun k => ([Mj_0] : List (Int64)).getD k 0) x1 x2 h_ab
set_option maxHeartbeats 4000000 in
set_option maxRecDepth 100000 in
theorem ct_X12_valueOf (l : Launch) (D : va_G) (tc : Nat → ClassId) (sk : (Nat → Nat) × (Nat → Nat)) (Ma : Nat → Nat) (Mv : Nat → Int32) (Mf : Nat → Nat → Int32) (Mj : Nat → Int64) (x1 : Int32) (h_b : 0 ≤ x1.toInt ∧ x1.toInt < 6) : Ct l yX12_valueOf cX12_valueOf 2 (some .int) { frames := 1, cells := 0, slots := 0, locals := 21 } D tc sk [.ref (Ma 0), .int x1] [((Ma 0), .inr (12, [.ref (Ma 1), .int (Mv 0), .int (Mv 1), .ref (Ma 2), .ref (Ma 3), .ref (Ma 4), .ref (Ma 5), .ref (Ma 6), .int (Mv 2), .int (Mv 3), .int (Mv 4), .int (Mv 5), .int (Mv 6), .int (Mv 7), .int (Mv 8), .ref (Ma 7), .int (Mv 9), .ref (Ma 8), .int (Mv 10), .ref (Ma 9), .ref (Ma 10), .int (Mv 11), .int (Mv 12), .int (Mv 13), .ref (Ma 11), .int (Mv 14), .ref (Ma 12), .ref (Ma 13), .ref (Ma 14), .ref (Ma 15), .ref (Ma 16), .long (Mj 0), .ref (Ma 17), .ref (Ma 18), .ref (Ma 19), .ref (Ma 20)])), ((Ma 10), .inl (tc 0, 126, .inl (Mf 10)))] (fun (v : Option Value) (_ : Unit) => ∃ r : Int32, v = some (.int r) ∧ (True)) (fun (_ : Unit) => [((Ma 0), .inr (12, [.ref (Ma 1), .int (Mv 0), .int (Mv 1), .ref (Ma 2), .ref (Ma 3), .ref (Ma 4), .ref (Ma 5), .ref (Ma 6), .int (Mv 2), .int (Mv 3), .int (Mv 4), .int (Mv 5), .int (Mv 6), .int (Mv 7), .int (Mv 8), .ref (Ma 7), .int (Mv 9), .ref (Ma 8), .int (Mv 10), .ref (Ma 9), .ref (Ma 10), .int (Mv 11), .int (Mv 12), .int (Mv 13), .ref (Ma 11), .int (Mv 14), .ref (Ma 12), .ref (Ma 13), .ref (Ma 14), .ref (Ma 15), .ref (Ma 16), .long (Mj 0), .ref (Ma 17), .ref (Ma 18), .ref (Ma 19), .ref (Ma 20)])), ((Ma 10), .inl (tc 0, 126, .inl (Mf 10)))]) 0 0 := by
  refine Ct.start (by decide) (Nat.le_of_ble_eq_true rfl) (fun p e s m below meth c A ls hx hb hr hlk hin hml hown hts hK hX hP hD hA hl hS => ?_)
  have hl : lv_has ls 2 [(0, .ref (Ma 0)), (1, .int x1)] := hl
  refine lv_aload_n hx hb dX12_valueOf_0 rfl (lv_at hl 0 rfl) ?_
  refine lv_iload_n hx hb dX12_valueOf_1 rfl (lv_at hl 1 rfl) ?_
  refine cV (a := (Ma 0)) (As := [.int x1]) (rest := []) (wr := []) ⟨hx, hb, hml, hown, hts⟩ hK hX hA (cu_X12_boughtBy l D tc sk (Ma 0) (Ma 1) (Ma 2) (Ma 3) (Ma 4) (Ma 5) (Ma 6) (Ma 7) (Ma 8) (Ma 9) (Ma 10) (Ma 11) (Ma 12) (Ma 13) (Ma 14) (Ma 15) (Ma 16) (Ma 17) (Ma 18) (Ma 19) (Ma 20) (Mv 0) (Mv 1) (Mv 2) (Mv 3) (Mv 4) (Mv 5) (Mv 6) (Mv 7) (Mv 8) (Mv 9) (Mv 10) (Mv 11) (Mv 12) (Mv 13) (Mv 14) (Mf 10) (Mj 0) x1 h_b) k_1383 k_1380 k_1382 k_60 k_106 pl_X12_boughtBy ⟨Nat.le_of_ble_eq_true rfl, Nat.le_of_ble_eq_true rfl⟩ rfl rfl (va_recv hK hP (ci := 12) (q0 := 0) rfl rfl) hP hD hS [0, 1] [] rfl rfl rfl rfl rfl (by decide) rfl hl.1 rfl (Nat.le_of_ble_eq_true rfl) dX12_valueOf_2 ⟨Nat.le_of_ble_eq_true rfl, Nat.le_of_ble_eq_true rfl⟩ (fun v_1 u_2 H locs hv_3 hP₀ hD₀ hS₀ => ?_)
  obtain ⟨r_4, rfl, he_5⟩ := hv_3
  refine W.eq (g2 := F0 m 5 ls [.int r_4]) rfl ?_
  replace hP : va_P D classes [((Ma 0), .inr (12, [.ref (Ma 1), .int (Mv 0), .int (Mv 1), .ref (Ma 2), .ref (Ma 3), .ref (Ma 4), .ref (Ma 5), .ref (Ma 6), .int (Mv 2), .int (Mv 3), .int (Mv 4), .int (Mv 5), .int (Mv 6), .int (Mv 7), .int (Mv 8), .ref (Ma 7), .int (Mv 9), .ref (Ma 8), .int (Mv 10), .ref (Ma 9), .ref (Ma 10), .int (Mv 11), .int (Mv 12), .int (Mv 13), .ref (Ma 11), .int (Mv 14), .ref (Ma 12), .ref (Ma 13), .ref (Ma 14), .ref (Ma 15), .ref (Ma 16), .long (Mj 0), .ref (Ma 17), .ref (Ma 18), .ref (Ma 19), .ref (Ma 20)])), ((Ma 10), .inl (tc 0, 126, .inl (Mf 10)))] H := hP₀
  replace hD : va_D A [((Ma 0), .inr (12, [.ref (Ma 1), .int (Mv 0), .int (Mv 1), .ref (Ma 2), .ref (Ma 3), .ref (Ma 4), .ref (Ma 5), .ref (Ma 6), .int (Mv 2), .int (Mv 3), .int (Mv 4), .int (Mv 5), .int (Mv 6), .int (Mv 7), .int (Mv 8), .ref (Ma 7), .int (Mv 9), .ref (Ma 8), .int (Mv 10), .ref (Ma 9), .ref (Ma 10), .int (Mv 11), .int (Mv 12), .int (Mv 13), .ref (Ma 11), .int (Mv 14), .ref (Ma 12), .ref (Ma 13), .ref (Ma 14), .ref (Ma 15), .ref (Ma 16), .long (Mj 0), .ref (Ma 17), .ref (Ma 18), .ref (Ma 19), .ref (Ma 20)])), ((Ma 10), .inl (tc 0, 126, .inl (Mf 10)))] := hD₀
  replace hS := hS₀
  clear hP₀ hD₀ hS₀
  refine lv_iconst (v := 4) hx hb dX12_valueOf_5 (by decide) ?_
  refine lv_aload_n hx hb dX12_valueOf_6 rfl (lv_at hl 0 rfl) ?_
  refine lv_iload_n hx hb dX12_valueOf_7 rfl (lv_at hl 1 rfl) ?_
  refine cV (a := (Ma 0)) (As := [.int x1]) (rest := [.int 4, .int r_4]) (wr := []) ⟨hx, hb, hml, hown, hts⟩ hK hX hA (cu_X12_metOf l D tc sk (Ma 0) (Ma 1) (Ma 2) (Ma 3) (Ma 4) (Ma 5) (Ma 6) (Ma 7) (Ma 8) (Ma 9) (Ma 10) (Ma 11) (Ma 12) (Ma 13) (Ma 14) (Ma 15) (Ma 16) (Ma 17) (Ma 18) (Ma 19) (Ma 20) (Mv 0) (Mv 1) (Mv 2) (Mv 3) (Mv 4) (Mv 5) (Mv 6) (Mv 7) (Mv 8) (Mv 9) (Mv 10) (Mv 11) (Mv 12) (Mv 13) (Mv 14) (Mf 10) (Mj 0) x1 h_b) k_1387 k_1384 k_1386 k_61 k_106 pl_X12_metOf ⟨Nat.le_of_ble_eq_true rfl, Nat.le_of_ble_eq_true rfl⟩ rfl rfl (va_recv hK hP (ci := 12) (q0 := 0) rfl rfl) hP hD hS [0, 1] [] rfl rfl rfl rfl rfl (by decide) rfl hl.1 rfl (Nat.le_of_ble_eq_true rfl) dX12_valueOf_8 ⟨Nat.le_of_ble_eq_true rfl, Nat.le_of_ble_eq_true rfl⟩ (fun v_7 u_8 H locs hv_9 hP₀ hD₀ hS₀ => ?_)
  obtain ⟨r_10, rfl, he_11⟩ := hv_9
  refine W.eq (g2 := F0 m 11 ls [.int r_10, .int 4, .int r_4]) rfl ?_
  replace hP : va_P D classes [((Ma 0), .inr (12, [.ref (Ma 1), .int (Mv 0), .int (Mv 1), .ref (Ma 2), .ref (Ma 3), .ref (Ma 4), .ref (Ma 5), .ref (Ma 6), .int (Mv 2), .int (Mv 3), .int (Mv 4), .int (Mv 5), .int (Mv 6), .int (Mv 7), .int (Mv 8), .ref (Ma 7), .int (Mv 9), .ref (Ma 8), .int (Mv 10), .ref (Ma 9), .ref (Ma 10), .int (Mv 11), .int (Mv 12), .int (Mv 13), .ref (Ma 11), .int (Mv 14), .ref (Ma 12), .ref (Ma 13), .ref (Ma 14), .ref (Ma 15), .ref (Ma 16), .long (Mj 0), .ref (Ma 17), .ref (Ma 18), .ref (Ma 19), .ref (Ma 20)])), ((Ma 10), .inl (tc 0, 126, .inl (Mf 10)))] H := hP₀
  replace hD : va_D A [((Ma 0), .inr (12, [.ref (Ma 1), .int (Mv 0), .int (Mv 1), .ref (Ma 2), .ref (Ma 3), .ref (Ma 4), .ref (Ma 5), .ref (Ma 6), .int (Mv 2), .int (Mv 3), .int (Mv 4), .int (Mv 5), .int (Mv 6), .int (Mv 7), .int (Mv 8), .ref (Ma 7), .int (Mv 9), .ref (Ma 8), .int (Mv 10), .ref (Ma 9), .ref (Ma 10), .int (Mv 11), .int (Mv 12), .int (Mv 13), .ref (Ma 11), .int (Mv 14), .ref (Ma 12), .ref (Ma 13), .ref (Ma 14), .ref (Ma 15), .ref (Ma 16), .long (Mj 0), .ref (Ma 17), .ref (Ma 18), .ref (Ma 19), .ref (Ma 20)])), ((Ma 10), .inl (tc 0, 126, .inl (Mf 10)))] := hD₀
  replace hS := hS₀
  clear hP₀ hD₀ hS₀
  refine lv_imul hx hb dX12_valueOf_11 ?_
  refine lv_topi (fun x_13 ex_13 => ?_)
  refine lv_isub hx hb dX12_valueOf_12 ?_
  refine lv_topi (fun x_14 ex_14 => ?_)
  exact retI (v := x_14) hx hb hr hlk (rfl) hP hD hS () ⟨_, rfl, trivial⟩ [0, 1] rfl rfl dX12_valueOf_13 (Nat.le_of_ble_eq_true rfl) (Nat.le_of_ble_eq_true rfl) rfl
set_option maxRecDepth 100000 in
theorem cu_X12_valueOf (l : Launch) (D : va_G) (tc : Nat → ClassId) (sk : (Nat → Nat) × (Nat → Nat)) (Ma_0 : Nat) (Ma_1 : Nat) (Ma_2 : Nat) (Ma_3 : Nat) (Ma_4 : Nat) (Ma_5 : Nat) (Ma_6 : Nat) (Ma_7 : Nat) (Ma_8 : Nat) (Ma_9 : Nat) (Ma_10 : Nat) (Ma_11 : Nat) (Ma_12 : Nat) (Ma_13 : Nat) (Ma_14 : Nat) (Ma_15 : Nat) (Ma_16 : Nat) (Ma_17 : Nat) (Ma_18 : Nat) (Ma_19 : Nat) (Ma_20 : Nat) (Mv_0 : Int32) (Mv_1 : Int32) (Mv_2 : Int32) (Mv_3 : Int32) (Mv_4 : Int32) (Mv_5 : Int32) (Mv_6 : Int32) (Mv_7 : Int32) (Mv_8 : Int32) (Mv_9 : Int32) (Mv_10 : Int32) (Mv_11 : Int32) (Mv_12 : Int32) (Mv_13 : Int32) (Mv_14 : Int32) (Mf_10 : Nat → Int32) (Mj_0 : Int64) (x1 : Int32) (h_b : 0 ≤ x1.toInt ∧ x1.toInt < 6) : Ct l yX12_valueOf cX12_valueOf 2 (some .int) { frames := 1, cells := 0, slots := 0, locals := 21 } D tc sk [.ref Ma_0, .int x1] [(Ma_0, .inr (12, [.ref Ma_1, .int Mv_0, .int Mv_1, .ref Ma_2, .ref Ma_3, .ref Ma_4, .ref Ma_5, .ref Ma_6, .int Mv_2, .int Mv_3, .int Mv_4, .int Mv_5, .int Mv_6, .int Mv_7, .int Mv_8, .ref Ma_7, .int Mv_9, .ref Ma_8, .int Mv_10, .ref Ma_9, .ref Ma_10, .int Mv_11, .int Mv_12, .int Mv_13, .ref Ma_11, .int Mv_14, .ref Ma_12, .ref Ma_13, .ref Ma_14, .ref Ma_15, .ref Ma_16, .long Mj_0, .ref Ma_17, .ref Ma_18, .ref Ma_19, .ref Ma_20])), (Ma_10, .inl (tc 0, 126, .inl Mf_10))] (fun (v : Option Value) (_ : Unit) => ∃ r : Int32, v = some (.int r) ∧ (True)) (fun (_ : Unit) => [(Ma_0, .inr (12, [.ref Ma_1, .int Mv_0, .int Mv_1, .ref Ma_2, .ref Ma_3, .ref Ma_4, .ref Ma_5, .ref Ma_6, .int Mv_2, .int Mv_3, .int Mv_4, .int Mv_5, .int Mv_6, .int Mv_7, .int Mv_8, .ref Ma_7, .int Mv_9, .ref Ma_8, .int Mv_10, .ref Ma_9, .ref Ma_10, .int Mv_11, .int Mv_12, .int Mv_13, .ref Ma_11, .int Mv_14, .ref Ma_12, .ref Ma_13, .ref Ma_14, .ref Ma_15, .ref Ma_16, .long Mj_0, .ref Ma_17, .ref Ma_18, .ref Ma_19, .ref Ma_20])), (Ma_10, .inl (tc 0, 126, .inl Mf_10))]) 0 0 :=
  ct_X12_valueOf l D tc sk (fun k => ([Ma_0, Ma_1, Ma_2, Ma_3, Ma_4, Ma_5, Ma_6, Ma_7, Ma_8, Ma_9, Ma_10, Ma_11, Ma_12, Ma_13, Ma_14, Ma_15, Ma_16, Ma_17, Ma_18, Ma_19, Ma_20] : List (Nat)).getD k 0) (fun k => ([Mv_0, Mv_1, Mv_2, Mv_3, Mv_4, Mv_5, Mv_6, Mv_7, Mv_8, Mv_9, Mv_10, Mv_11, Mv_12, Mv_13, Mv_14] : List (Int32)).getD k 0) (fun k => ([(fun _ => 0), (fun _ => 0), (fun _ => 0), (fun _ => 0), (fun _ => 0), (fun _ => 0), (fun _ => 0), (fun _ => 0), (fun _ => 0), (fun _ => 0), Mf_10] : List (Nat → Int32)).getD k (fun _ => 0)) (fun k => ([Mj_0] : List (Int64)).getD k 0) x1 h_b
set_option maxHeartbeats 4000000 in
set_option maxRecDepth 100000 in
theorem ct_X12_areAlike {T : Nat → Option Int32} (l : Launch) (D : va_G) (tc : Nat → ClassId) (sk : (Nat → Nat) × (Nat → Nat)) (Ma : Nat → Nat) (Mv : Nat → Int32) (Mf : Nat → Nat → Int32) (Mj : Nat → Int64) (x1 : Int32) (x2 : Int32) (h_said : SaidB T (Mf 10)) (h_ab : 0 ≤ x1.toInt ∧ x1.toInt ≤ 60 ∧ 0 ≤ x2.toInt ∧ x2.toInt ≤ 60) : Ct l yX12_areAlike cX12_areAlike 4 (some .boolean) { frames := 0, cells := 0, slots := 0, locals := 0 } D tc sk [.ref (Ma 0), .int x1, .int x2] [((Ma 0), .inr (12, [.ref (Ma 1), .int (Mv 0), .int (Mv 1), .ref (Ma 2), .ref (Ma 3), .ref (Ma 4), .ref (Ma 5), .ref (Ma 6), .int (Mv 2), .int (Mv 3), .int (Mv 4), .int (Mv 5), .int (Mv 6), .int (Mv 7), .int (Mv 8), .ref (Ma 7), .int (Mv 9), .ref (Ma 8), .int (Mv 10), .ref (Ma 9), .ref (Ma 10), .int (Mv 11), .int (Mv 12), .int (Mv 13), .ref (Ma 11), .int (Mv 14), .ref (Ma 12), .ref (Ma 13), .ref (Ma 14), .ref (Ma 15), .ref (Ma 16), .long (Mj 0), .ref (Ma 17), .ref (Ma 18), .ref (Ma 19), .ref (Ma 20)])), ((Ma 10), .inl (tc 0, 126, .inl (Mf 10))), ((Ma 14), .inl (tc 0, 427, .inl (Mf 14)))] (fun (v : Option Value) (_ : Unit) => ∃ r : Int32, v = some (.int r) ∧ ((r.toInt = 0 ∨ r.toInt = 1))) (fun (_ : Unit) => [((Ma 0), .inr (12, [.ref (Ma 1), .int (Mv 0), .int (Mv 1), .ref (Ma 2), .ref (Ma 3), .ref (Ma 4), .ref (Ma 5), .ref (Ma 6), .int (Mv 2), .int (Mv 3), .int (Mv 4), .int (Mv 5), .int (Mv 6), .int (Mv 7), .int (Mv 8), .ref (Ma 7), .int (Mv 9), .ref (Ma 8), .int (Mv 10), .ref (Ma 9), .ref (Ma 10), .int (Mv 11), .int (Mv 12), .int (Mv 13), .ref (Ma 11), .int (Mv 14), .ref (Ma 12), .ref (Ma 13), .ref (Ma 14), .ref (Ma 15), .ref (Ma 16), .long (Mj 0), .ref (Ma 17), .ref (Ma 18), .ref (Ma 19), .ref (Ma 20)])), ((Ma 10), .inl (tc 0, 126, .inl (Mf 10))), ((Ma 14), .inl (tc 0, 427, .inl (Mf 14)))]) 0 0 := by
  refine Ct.start (by decide) (Nat.le_of_ble_eq_true rfl) (fun p e s m below meth c A ls hx hb hr hlk hin hml hown hts hK hX hP hD hA hl hS => ?_)
  have hl : lv_has ls 4 [(0, .ref (Ma 0)), (1, .int x1), (2, .int x2)] := hl
  have ar_h_said := SaidB.al h_said
  refine lv_iconst (v := 0) hx hb dX12_areAlike_0 (by decide) ?_
  refine lv_istore_n (lv' := [(3, .int 0), (0, .ref (Ma 0)), (1, .int x1), (2, .int x2)]) hx hb dX12_areAlike_1 rfl hl (by decide) rfl (fun ls hl₀ => ?_)
  replace hl := hl₀
  clear hl₀
  have loop_5 : ∀ (n_3 : Nat) (vy_2 : Int32) (H : Heap) (locs : List Loc) (ls : Array Slot), (7 - (vy_2 : Int32).toInt).toNat < n_3 → (0 ≤ (vy_2 : Int32).toInt) → va_P D classes [((Ma 0), .inr (12, [.ref (Ma 1), .int (Mv 0), .int (Mv 1), .ref (Ma 2), .ref (Ma 3), .ref (Ma 4), .ref (Ma 5), .ref (Ma 6), .int (Mv 2), .int (Mv 3), .int (Mv 4), .int (Mv 5), .int (Mv 6), .int (Mv 7), .int (Mv 8), .ref (Ma 7), .int (Mv 9), .ref (Ma 8), .int (Mv 10), .ref (Ma 9), .ref (Ma 10), .int (Mv 11), .int (Mv 12), .int (Mv 13), .ref (Ma 11), .int (Mv 14), .ref (Ma 12), .ref (Ma 13), .ref (Ma 14), .ref (Ma 15), .ref (Ma 16), .long (Mj 0), .ref (Ma 17), .ref (Ma 18), .ref (Ma 19), .ref (Ma 20)])), ((Ma 10), .inl (tc 0, 126, .inl (Mf 10))), ((Ma 14), .inl (tc 0, 427, .inl (Mf 14)))] H → va_D A [((Ma 0), .inr (12, [.ref (Ma 1), .int (Mv 0), .int (Mv 1), .ref (Ma 2), .ref (Ma 3), .ref (Ma 4), .ref (Ma 5), .ref (Ma 6), .int (Mv 2), .int (Mv 3), .int (Mv 4), .int (Mv 5), .int (Mv 6), .int (Mv 7), .int (Mv 8), .ref (Ma 7), .int (Mv 9), .ref (Ma 8), .int (Mv 10), .ref (Ma 9), .ref (Ma 10), .int (Mv 11), .int (Mv 12), .int (Mv 13), .ref (Ma 11), .int (Mv 14), .ref (Ma 12), .ref (Ma 13), .ref (Ma 14), .ref (Ma 15), .ref (Ma 16), .long (Mj 0), .ref (Ma 17), .ref (Ma 18), .ref (Ma 19), .ref (Ma 20)])), ((Ma 10), .inl (tc 0, 126, .inl (Mf 10))), ((Ma 14), .inl (tc 0, 427, .inl (Mf 14)))] → va_S A s.heap H locs → lv_has ls 4 [(3, .int vy_2), (0, .ref (Ma 0)), (1, .int x1), (2, .int x2)] → W p l e ({ frames := 0, cells := 0, slots := 0, locals := 0 }) s m ([.ref (Ma 0), .int x1, .int x2].toArray) below meth c H locs 0 0 (MQ below (QW (fun (v : Option Value) (_ : Unit) => ∃ r : Int32, v = some (.int r) ∧ ((r.toInt = 0 ∨ r.toInt = 1))) (BW D (fun (_ : Unit) => [((Ma 0), .inr (12, [.ref (Ma 1), .int (Mv 0), .int (Mv 1), .ref (Ma 2), .ref (Ma 3), .ref (Ma 4), .ref (Ma 5), .ref (Ma 6), .int (Mv 2), .int (Mv 3), .int (Mv 4), .int (Mv 5), .int (Mv 6), .int (Mv 7), .int (Mv 8), .ref (Ma 7), .int (Mv 9), .ref (Ma 8), .int (Mv 10), .ref (Ma 9), .ref (Ma 10), .int (Mv 11), .int (Mv 12), .int (Mv 13), .ref (Ma 11), .int (Mv 14), .ref (Ma 12), .ref (Ma 13), .ref (Ma 14), .ref (Ma 15), .ref (Ma 16), .long (Mj 0), .ref (Ma 17), .ref (Ma 18), .ref (Ma 19), .ref (Ma 20)])), ((Ma 10), .inl (tc 0, 126, .inl (Mf 10))), ((Ma 14), .inl (tc 0, 427, .inl (Mf 14)))]) A) A) ([.ref (Ma 0), .int x1, .int x2].toArray) s 0 0 A) (F0 m 2 ls []) := by
    clear hP hD hS hl
    intro n_3
    induction n_3 with
    | zero =>
      intro vy_2 H locs ls h1
      exact absurd h1 (Nat.not_lt_zero _)
    | succ n_3 ih_4 =>
      intro vy_2 H locs ls hn_7 pf_6 hP hD hS hl
      refine lv_iload_n hx hb dX12_areAlike_2 rfl (lv_at hl 0 rfl) ?_
      refine lv_aload_n hx hb dX12_areAlike_3 rfl (lv_at hl 1 rfl) ?_
      refine gf_X12_39 hx hb hts hown hK hP 0 rfl rfl dX12_areAlike_4 ?_
      refine lv_iconst (v := 3) hx hb dX12_areAlike_7 (by decide) ?_
      refine va_iald hx hb hK hP 1 0 rfl rfl (vin_dec (by decide +kernel)) dX12_areAlike_8 ?_
      refine lv_topi (fun x_8 ex_8 => ?_)
      have lx_8 : x_8.toInt = ((Mf 10) 3).toInt := congrArg Int32.toInt ex_8
      refine lv_icmp_gt (tgt := 45) hx hb dX12_areAlike_9 (by decide) (fun c_9 => ?_) (fun c_9 => ?_)
      · skip
        refine lv_iconst (v := 1) hx hb dX12_areAlike_45 (by decide) ?_
        have hp_10 : ((1 : Int32).toInt = 0 ∨ (1 : Int32).toInt = 1) := by
          have z_1 := Int32.lt_iff_toInt_lt.mp c_9
          have y_1 : (1 : Int32).toInt = 1 := by decide
          have yr : (1 : Int32).toInt = 1 := by decide
          omega
        exact retI (v := 1) hx hb hr hlk (rfl) hP hD hS () ⟨_, rfl, hp_10⟩ [0, 1, 2] rfl rfl dX12_areAlike_46 (Nat.le_of_ble_eq_true rfl) (Nat.le_of_ble_eq_true rfl) rfl
      · skip
        refine lv_aload_n hx hb dX12_areAlike_12 rfl (lv_at hl 1 rfl) ?_
        refine gf_X12_55 hx hb hts hown hK hP 0 rfl rfl dX12_areAlike_13 ?_
        refine lv_bipush (v := 7) hx hb dX12_areAlike_16 (by decide) ?_
        refine lv_iload_n hx hb dX12_areAlike_18 rfl (lv_at hl 2 rfl) ?_
        refine lv_imul hx hb dX12_areAlike_19 ?_
        refine lv_topi (fun x_11 ex_11 => ?_)
        refine lv_iload_n hx hb dX12_areAlike_20 rfl (lv_at hl 0 rfl) ?_
        refine lv_iadd hx hb dX12_areAlike_21 ?_
        refine lv_topi (fun x_12 ex_12 => ?_)
        have hi_13 : vp_in x_12 427 := by
          have z_1 := Int32.le_iff_toInt_le.mp (Int32.not_lt.mp c_9)
          have y_7 : (7 : Int32).toInt = 7 := by decide
          have t_x_11 : x_11.toInt = (7 : Int32).toInt * (x1 : Int32).toInt := by rw [ex_11]; exact mul_toInt (by first | omega | (rw [y_7]; omega)) (by first | omega | (rw [y_7]; omega))
          rw [y_7] at t_x_11
          have t_x_12 : x_12.toInt = (x_11 : Int32).toInt + (vy_2 : Int32).toInt := by rw [ex_12]; exact add_toInt (by omega) (by omega)
          refine vp_in_iff.mpr ⟨?_, ?_⟩ <;> omega
        refine va_iald hx hb hK hP 2 0 rfl rfl hi_13 dX12_areAlike_22 ?_
        refine lv_topi (fun x_14 ex_14 => ?_)
        refine lv_aload_n hx hb dX12_areAlike_23 rfl (lv_at hl 1 rfl) ?_
        refine gf_X12_55 hx hb hts hown hK hP 0 rfl rfl dX12_areAlike_24 ?_
        refine lv_bipush (v := 7) hx hb dX12_areAlike_27 (by decide) ?_
        refine lv_iload_n hx hb dX12_areAlike_29 rfl (lv_at hl 3 rfl) ?_
        refine lv_imul hx hb dX12_areAlike_30 ?_
        refine lv_topi (fun x_15 ex_15 => ?_)
        refine lv_iload_n hx hb dX12_areAlike_31 rfl (lv_at hl 0 rfl) ?_
        refine lv_iadd hx hb dX12_areAlike_32 ?_
        refine lv_topi (fun x_16 ex_16 => ?_)
        have hi_17 : vp_in x_16 427 := by
          have z_1 := Int32.le_iff_toInt_le.mp (Int32.not_lt.mp c_9)
          have y_7 : (7 : Int32).toInt = 7 := by decide
          have t_x_15 : x_15.toInt = (7 : Int32).toInt * (x2 : Int32).toInt := by rw [ex_15]; exact mul_toInt (by first | omega | (rw [y_7]; omega)) (by first | omega | (rw [y_7]; omega))
          rw [y_7] at t_x_15
          have t_x_16 : x_16.toInt = (x_15 : Int32).toInt + (vy_2 : Int32).toInt := by rw [ex_16]; exact add_toInt (by omega) (by omega)
          refine vp_in_iff.mpr ⟨?_, ?_⟩ <;> omega
        refine va_iald hx hb hK hP 2 0 rfl rfl hi_17 dX12_areAlike_33 ?_
        refine lv_topi (fun x_18 ex_18 => ?_)
        refine lv_icmp_eq (tgt := 39) hx hb dX12_areAlike_34 (by decide) (fun c_19 => ?_) (fun c_19 => ?_)
        · skip
          obtain ⟨x_20, ex_20⟩ : ∃ y : Int32, y = vy_2 + 1 := ⟨_, rfl⟩
          refine lv_iinc (v := x_20) (lv' := [(3, .int x_20), (0, .ref (Ma 0)), (1, .int x1), (2, .int x2)]) hx hb dX12_areAlike_39 hl (k := 0) rfl (by rw [ex_20]; rfl) (by decide) rfl (fun ls hl₀ => ?_)
          replace hl := hl₀
          clear hl₀
          refine lv_goto (tgt := 2) hx hb dX12_areAlike_42 (by decide) ?_
          have hb_21 : 7 - (x_20 : Int32).toInt < 7 - (vy_2 : Int32).toInt ∧ 1 ≤ 7 - (vy_2 : Int32).toInt := by
            have z_1 := Int32.le_iff_toInt_le.mp (Int32.not_lt.mp c_9)
            have z_2 := congrArg Int32.toInt c_19
            have y_1 : (1 : Int32).toInt = 1 := by decide
            have t_x_20 : x_20.toInt = (vy_2 : Int32).toInt + (1 : Int32).toInt := by rw [ex_20]; exact add_toInt (by omega) (by omega)
            refine ⟨?_, ?_⟩ <;> omega
          have ha_22 : 0 ≤ (x_20 : Int32).toInt := by
            have z_1 := Int32.le_iff_toInt_le.mp (Int32.not_lt.mp c_9)
            have z_2 := congrArg Int32.toInt c_19
            have y_1 : (1 : Int32).toInt = 1 := by decide
            have t_x_20 : x_20.toInt = (vy_2 : Int32).toInt + (1 : Int32).toInt := by rw [ex_20]; exact add_toInt (by omega) (by omega)
            omega
          exact ih_4 x_20 _ _ _ (by omega) ha_22 (hP.sub [0, 1, 2] rfl) (hD.sub [0, 1, 2] rfl rfl) hS (lv_sub hl [0, 1, 2, 3] rfl)
        · skip
          refine lv_iconst (v := 0) hx hb dX12_areAlike_37 (by decide) ?_
          have hp_23 : ((0 : Int32).toInt = 0 ∨ (0 : Int32).toInt = 1) := by
            have z_1 := Int32.le_iff_toInt_le.mp (Int32.not_lt.mp c_9)
            have z_2 : ¬ (x_14 : Int32).toInt = (x_18 : Int32).toInt := fun z => c_19 (Int32.toInt_inj.mp z)
            have y_0 : (0 : Int32).toInt = 0 := by decide
            have yr : (0 : Int32).toInt = 0 := by decide
            omega
          exact retI (v := 0) hx hb hr hlk (rfl) hP hD hS () ⟨_, rfl, hp_23⟩ [0, 1, 2] rfl rfl dX12_areAlike_38 (Nat.le_of_ble_eq_true rfl) (Nat.le_of_ble_eq_true rfl) rfl
  have ha_24 : 0 ≤ (0 : Int32).toInt := by
    have y_0 : (0 : Int32).toInt = 0 := by decide
    omega
  exact loop_5 _ 0 _ _ _ (Nat.lt_succ_self _) ha_24 hP hD hS hl
set_option maxRecDepth 100000 in
theorem cu_X12_areAlike {T : Nat → Option Int32} (l : Launch) (D : va_G) (tc : Nat → ClassId) (sk : (Nat → Nat) × (Nat → Nat)) (Ma_0 : Nat) (Ma_1 : Nat) (Ma_2 : Nat) (Ma_3 : Nat) (Ma_4 : Nat) (Ma_5 : Nat) (Ma_6 : Nat) (Ma_7 : Nat) (Ma_8 : Nat) (Ma_9 : Nat) (Ma_10 : Nat) (Ma_11 : Nat) (Ma_12 : Nat) (Ma_13 : Nat) (Ma_14 : Nat) (Ma_15 : Nat) (Ma_16 : Nat) (Ma_17 : Nat) (Ma_18 : Nat) (Ma_19 : Nat) (Ma_20 : Nat) (Mv_0 : Int32) (Mv_1 : Int32) (Mv_2 : Int32) (Mv_3 : Int32) (Mv_4 : Int32) (Mv_5 : Int32) (Mv_6 : Int32) (Mv_7 : Int32) (Mv_8 : Int32) (Mv_9 : Int32) (Mv_10 : Int32) (Mv_11 : Int32) (Mv_12 : Int32) (Mv_13 : Int32) (Mv_14 : Int32) (Mf_10 : Nat → Int32) (Mf_14 : Nat → Int32) (Mj_0 : Int64) (x1 : Int32) (x2 : Int32) (h_said : SaidB T Mf_10) (h_ab : 0 ≤ x1.toInt ∧ x1.toInt ≤ 60 ∧ 0 ≤ x2.toInt ∧ x2.toInt ≤ 60) : Ct l yX12_areAlike cX12_areAlike 4 (some .boolean) { frames := 0, cells := 0, slots := 0, locals := 0 } D tc sk [.ref Ma_0, .int x1, .int x2] [(Ma_0, .inr (12, [.ref Ma_1, .int Mv_0, .int Mv_1, .ref Ma_2, .ref Ma_3, .ref Ma_4, .ref Ma_5, .ref Ma_6, .int Mv_2, .int Mv_3, .int Mv_4, .int Mv_5, .int Mv_6, .int Mv_7, .int Mv_8, .ref Ma_7, .int Mv_9, .ref Ma_8, .int Mv_10, .ref Ma_9, .ref Ma_10, .int Mv_11, .int Mv_12, .int Mv_13, .ref Ma_11, .int Mv_14, .ref Ma_12, .ref Ma_13, .ref Ma_14, .ref Ma_15, .ref Ma_16, .long Mj_0, .ref Ma_17, .ref Ma_18, .ref Ma_19, .ref Ma_20])), (Ma_10, .inl (tc 0, 126, .inl Mf_10)), (Ma_14, .inl (tc 0, 427, .inl Mf_14))] (fun (v : Option Value) (_ : Unit) => ∃ r : Int32, v = some (.int r) ∧ ((r.toInt = 0 ∨ r.toInt = 1))) (fun (_ : Unit) => [(Ma_0, .inr (12, [.ref Ma_1, .int Mv_0, .int Mv_1, .ref Ma_2, .ref Ma_3, .ref Ma_4, .ref Ma_5, .ref Ma_6, .int Mv_2, .int Mv_3, .int Mv_4, .int Mv_5, .int Mv_6, .int Mv_7, .int Mv_8, .ref Ma_7, .int Mv_9, .ref Ma_8, .int Mv_10, .ref Ma_9, .ref Ma_10, .int Mv_11, .int Mv_12, .int Mv_13, .ref Ma_11, .int Mv_14, .ref Ma_12, .ref Ma_13, .ref Ma_14, .ref Ma_15, .ref Ma_16, .long Mj_0, .ref Ma_17, .ref Ma_18, .ref Ma_19, .ref Ma_20])), (Ma_10, .inl (tc 0, 126, .inl Mf_10)), (Ma_14, .inl (tc 0, 427, .inl Mf_14))]) 0 0 :=
  ct_X12_areAlike l D tc sk (fun k => ([Ma_0, Ma_1, Ma_2, Ma_3, Ma_4, Ma_5, Ma_6, Ma_7, Ma_8, Ma_9, Ma_10, Ma_11, Ma_12, Ma_13, Ma_14, Ma_15, Ma_16, Ma_17, Ma_18, Ma_19, Ma_20] : List (Nat)).getD k 0) (fun k => ([Mv_0, Mv_1, Mv_2, Mv_3, Mv_4, Mv_5, Mv_6, Mv_7, Mv_8, Mv_9, Mv_10, Mv_11, Mv_12, Mv_13, Mv_14] : List (Int32)).getD k 0) (fun k => ([(fun _ => 0), (fun _ => 0), (fun _ => 0), (fun _ => 0), (fun _ => 0), (fun _ => 0), (fun _ => 0), (fun _ => 0), (fun _ => 0), (fun _ => 0), Mf_10, (fun _ => 0), (fun _ => 0), (fun _ => 0), Mf_14] : List (Nat → Int32)).getD k (fun _ => 0)) (fun k => ([Mj_0] : List (Int64)).getD k 0) x1 x2 h_said h_ab
set_option maxHeartbeats 4000000 in
set_option maxRecDepth 100000 in
theorem ct_X12_ring {T : Nat → Option Int32} (l : Launch) (D : va_G) (tc : Nat → ClassId) (sk : (Nat → Nat) × (Nat → Nat)) (Ma : Nat → Nat) (Mv : Nat → Int32) (Mf : Nat → Nat → Int32) (Mj : Nat → Int64) (Mg : Nat → Nat → Int64) (x1 : Int32) (h_said : SaidD T (Mf 10) 999) (h_rul : RulD (Mf 2) (Mf 4) (Mf 5) (Mv 1)) (h_frc : -1 ≤ (Mv 11).toInt ∧ (Mv 11).toInt < (Mv 1).toInt ∧ (Mv 1).toInt ≤ 6) : Ct l yX12_ring cX12_ring 4 (some .int) { frames := 5, cells := 0, slots := 0, locals := 121 } D tc sk [.ref (Ma 0), .int x1] [((Ma 0), .inr (12, [.ref (Ma 1), .int (Mv 0), .int (Mv 1), .ref (Ma 2), .ref (Ma 3), .ref (Ma 4), .ref (Ma 5), .ref (Ma 6), .int (Mv 2), .int (Mv 3), .int (Mv 4), .int (Mv 5), .int (Mv 6), .int (Mv 7), .int (Mv 8), .ref (Ma 7), .int (Mv 9), .ref (Ma 8), .int (Mv 10), .ref (Ma 9), .ref (Ma 10), .int (Mv 11), .int (Mv 12), .int (Mv 13), .ref (Ma 11), .int (Mv 14), .ref (Ma 12), .ref (Ma 13), .ref (Ma 14), .ref (Ma 15), .ref (Ma 16), .long (Mj 0), .ref (Ma 17), .ref (Ma 18), .ref (Ma 19), .ref (Ma 20)])), ((Ma 2), .inl (tc 0, 2400, .inl (Mf 2))), ((Ma 4), .inl (tc 0, 288, .inl (Mf 4))), ((Ma 5), .inl (tc 0, 6, .inl (Mf 5))), ((Ma 8), .inl (tc 1, 64, .inr (.inl (Mg 8)))), ((Ma 9), .inl (tc 1, 13, .inr (.inl (Mg 9)))), ((Ma 10), .inl (tc 0, 126, .inl (Mf 10))), ((Ma 12), .inl (tc 0, 46, .inl (Mf 12))), ((Ma 14), .inl (tc 0, 427, .inl (Mf 14)))] (fun (v : Option Value) (u : (Int32) × (Nat → Int64) × (Nat → Int64) × (Nat → Int32) × (Nat → Int32) × (Nat → Int32)) => match u with | (oo0x1, oo0x2, oo0x3, oo0x4, oo0x5, oo0x6) => ∃ r : Int32, v = some (.int r) ∧ (True) ∧ (SaidD T oo0x4 999)) (fun (u : (Int32) × (Nat → Int64) × (Nat → Int64) × (Nat → Int32) × (Nat → Int32) × (Nat → Int32)) => match u with | (oo0x1, oo0x2, oo0x3, oo0x4, oo0x5, oo0x6) => [((Ma 0), .inr (12, [.ref (Ma 1), .int (Mv 0), .int (Mv 1), .ref (Ma 2), .ref (Ma 3), .ref (Ma 4), .ref (Ma 5), .ref (Ma 6), .int (Mv 2), .int (Mv 3), .int (Mv 4), .int (Mv 5), .int (Mv 6), .int (Mv 7), .int (Mv 8), .ref (Ma 7), .int (Mv 9), .ref (Ma 8), .int oo0x1, .ref (Ma 9), .ref (Ma 10), .int (Mv 11), .int (Mv 12), .int (Mv 13), .ref (Ma 11), .int (Mv 14), .ref (Ma 12), .ref (Ma 13), .ref (Ma 14), .ref (Ma 15), .ref (Ma 16), .long (Mj 0), .ref (Ma 17), .ref (Ma 18), .ref (Ma 19), .ref (Ma 20)])), ((Ma 2), .inl (tc 0, 2400, .inl (Mf 2))), ((Ma 4), .inl (tc 0, 288, .inl (Mf 4))), ((Ma 5), .inl (tc 0, 6, .inl (Mf 5))), ((Ma 8), .inl (tc 1, 64, .inr (.inl oo0x2))), ((Ma 9), .inl (tc 1, 13, .inr (.inl oo0x3))), ((Ma 10), .inl (tc 0, 126, .inl oo0x4)), ((Ma 12), .inl (tc 0, 46, .inl oo0x5)), ((Ma 14), .inl (tc 0, 427, .inl oo0x6))]) 0 0 := by
  refine Ct.start (by decide) (Nat.le_of_ble_eq_true rfl) (fun p e s m below meth c A ls hx hb hr hlk hin hml hown hts hK hX hP hD hA hl hS => ?_)
  have hl : lv_has ls 4 [(0, .ref (Ma 0)), (1, .int x1)] := hl
  have ar_h_said := SaidD.al h_said
  refine lv_aload_n hx hb dX12_ring_0 rfl (lv_at hl 0 rfl) ?_
  refine cV (a := (Ma 0)) (As := []) (rest := []) (wr := [((Ma 2), .inl (tc 0, 2400, .inl (Mf 2))), ((Ma 4), .inl (tc 0, 288, .inl (Mf 4))), ((Ma 5), .inl (tc 0, 6, .inl (Mf 5))), ((Ma 8), .inl (tc 1, 64, .inr (.inl (Mg 8)))), ((Ma 9), .inl (tc 1, 13, .inr (.inl (Mg 9)))), ((Ma 12), .inl (tc 0, 46, .inl (Mf 12))), ((Ma 14), .inl (tc 0, 427, .inl (Mf 14)))]) ⟨hx, hb, hml, hown, hts⟩ hK hX hA (cu_X12_isBook l D tc sk (Ma 0) (Ma 1) (Ma 2) (Ma 3) (Ma 4) (Ma 5) (Ma 6) (Ma 7) (Ma 8) (Ma 9) (Ma 10) (Ma 11) (Ma 12) (Ma 13) (Ma 14) (Ma 15) (Ma 16) (Ma 17) (Ma 18) (Ma 19) (Ma 20) (Mv 0) (Mv 1) (Mv 2) (Mv 3) (Mv 4) (Mv 5) (Mv 6) (Mv 7) (Mv 8) (Mv 9) (Mv 10) (Mv 11) (Mv 12) (Mv 13) (Mv 14) (Mf 10) (Mj 0) h_said.1) k_1407 k_1404 k_1406 k_65 k_106 pl_X12_isBook ⟨Nat.le_of_ble_eq_true rfl, Nat.le_of_ble_eq_true rfl⟩ rfl rfl (va_recv hK hP (ci := 12) (q0 := 0) rfl rfl) hP hD hS [0, 6] [1, 2, 3, 4, 5, 7, 8] rfl rfl rfl rfl rfl (by decide) rfl hl.1 rfl (Nat.le_of_ble_eq_true rfl) dX12_ring_1 ⟨Nat.le_of_ble_eq_true rfl, Nat.le_of_ble_eq_true rfl⟩ (fun v_1 u_2 H locs hv_3 hP₀ hD₀ hS₀ => ?_)
  obtain ⟨r_4, rfl, he_5⟩ := hv_3
  have he_5 : (r_4.toInt = 0 ∨ (r_4.toInt = 1 ∧ 1 ≤ ((Mf 10) 2).toInt ∧ ((Mf 10) 2).toInt ≤ 10)) := he_5
  refine W.eq (g2 := F0 m 4 ls [.int r_4]) rfl ?_
  replace hP : va_P D classes [((Ma 2), .inl (tc 0, 2400, .inl (Mf 2))), ((Ma 4), .inl (tc 0, 288, .inl (Mf 4))), ((Ma 5), .inl (tc 0, 6, .inl (Mf 5))), ((Ma 8), .inl (tc 1, 64, .inr (.inl (Mg 8)))), ((Ma 9), .inl (tc 1, 13, .inr (.inl (Mg 9)))), ((Ma 12), .inl (tc 0, 46, .inl (Mf 12))), ((Ma 14), .inl (tc 0, 427, .inl (Mf 14))), ((Ma 0), .inr (12, [.ref (Ma 1), .int (Mv 0), .int (Mv 1), .ref (Ma 2), .ref (Ma 3), .ref (Ma 4), .ref (Ma 5), .ref (Ma 6), .int (Mv 2), .int (Mv 3), .int (Mv 4), .int (Mv 5), .int (Mv 6), .int (Mv 7), .int (Mv 8), .ref (Ma 7), .int (Mv 9), .ref (Ma 8), .int (Mv 10), .ref (Ma 9), .ref (Ma 10), .int (Mv 11), .int (Mv 12), .int (Mv 13), .ref (Ma 11), .int (Mv 14), .ref (Ma 12), .ref (Ma 13), .ref (Ma 14), .ref (Ma 15), .ref (Ma 16), .long (Mj 0), .ref (Ma 17), .ref (Ma 18), .ref (Ma 19), .ref (Ma 20)])), ((Ma 10), .inl (tc 0, 126, .inl (Mf 10)))] H := hP₀
  replace hD : va_D A [((Ma 2), .inl (tc 0, 2400, .inl (Mf 2))), ((Ma 4), .inl (tc 0, 288, .inl (Mf 4))), ((Ma 5), .inl (tc 0, 6, .inl (Mf 5))), ((Ma 8), .inl (tc 1, 64, .inr (.inl (Mg 8)))), ((Ma 9), .inl (tc 1, 13, .inr (.inl (Mg 9)))), ((Ma 12), .inl (tc 0, 46, .inl (Mf 12))), ((Ma 14), .inl (tc 0, 427, .inl (Mf 14))), ((Ma 0), .inr (12, [.ref (Ma 1), .int (Mv 0), .int (Mv 1), .ref (Ma 2), .ref (Ma 3), .ref (Ma 4), .ref (Ma 5), .ref (Ma 6), .int (Mv 2), .int (Mv 3), .int (Mv 4), .int (Mv 5), .int (Mv 6), .int (Mv 7), .int (Mv 8), .ref (Ma 7), .int (Mv 9), .ref (Ma 8), .int (Mv 10), .ref (Ma 9), .ref (Ma 10), .int (Mv 11), .int (Mv 12), .int (Mv 13), .ref (Ma 11), .int (Mv 14), .ref (Ma 12), .ref (Ma 13), .ref (Ma 14), .ref (Ma 15), .ref (Ma 16), .long (Mj 0), .ref (Ma 17), .ref (Ma 18), .ref (Ma 19), .ref (Ma 20)])), ((Ma 10), .inl (tc 0, 126, .inl (Mf 10)))] := hD₀
  replace hS := hS₀
  clear hP₀ hD₀ hS₀
  refine lv_if_eq (tgt := 17) hx hb dX12_ring_4 (by decide) (fun c_7 => ?_) (fun c_7 => ?_)
  · skip
    refine lv_iconst (v := (-1)) hx hb dX12_ring_17 (by decide) ?_
    exact retI (v := (-1)) hx hb hr hlk (rfl) hP hD hS ((Mv 10), (Mg 8), (Mg 9), (Mf 10), (Mf 12), (Mf 14)) ⟨_, rfl, trivial, h_said⟩ [7, 0, 1, 2, 3, 4, 8, 5, 6] rfl rfl dX12_ring_18 (Nat.le_of_ble_eq_true rfl) (Nat.le_of_ble_eq_true rfl) rfl
  · skip
    refine lv_iload_n hx hb dX12_ring_7 rfl (lv_at hl 1 rfl) ?_
    refine lv_i2l (v := (x1).toInt64) hx hb dX12_ring_8 rfl ?_
    refine lv_lconst (v := 0) hx hb dX12_ring_9 (by decide) ?_
    refine lv_lconst (v := 1) hx hb dX12_ring_10 (by decide) ?_
    refine cS (As := [.long (x1).toInt64, .long 0, .long 1]) (rest := []) (wr := [((Ma 2), .inl (tc 0, 2400, .inl (Mf 2))), ((Ma 4), .inl (tc 0, 288, .inl (Mf 4))), ((Ma 5), .inl (tc 0, 6, .inl (Mf 5))), ((Ma 8), .inl (tc 1, 64, .inr (.inl (Mg 8)))), ((Ma 9), .inl (tc 1, 13, .inr (.inl (Mg 9)))), ((Ma 12), .inl (tc 0, 46, .inl (Mf 12))), ((Ma 14), .inl (tc 0, 427, .inl (Mf 14))), ((Ma 0), .inr (12, [.ref (Ma 1), .int (Mv 0), .int (Mv 1), .ref (Ma 2), .ref (Ma 3), .ref (Ma 4), .ref (Ma 5), .ref (Ma 6), .int (Mv 2), .int (Mv 3), .int (Mv 4), .int (Mv 5), .int (Mv 6), .int (Mv 7), .int (Mv 8), .ref (Ma 7), .int (Mv 9), .ref (Ma 8), .int (Mv 10), .ref (Ma 9), .ref (Ma 10), .int (Mv 11), .int (Mv 12), .int (Mv 13), .ref (Ma 11), .int (Mv 14), .ref (Ma 12), .ref (Ma 13), .ref (Ma 14), .ref (Ma 15), .ref (Ma 16), .long (Mj 0), .ref (Ma 17), .ref (Ma 18), .ref (Ma 19), .ref (Ma 20)])), ((Ma 10), .inl (tc 0, 126, .inl (Mf 10)))]) ⟨hx, hb, hml, hown, hts⟩ hK hX hA (ct_X12_in l D tc sk ((x1).toInt64) 0 1) k_1259 k_1257 k_1258 k_106 pl_X12_in ⟨Nat.le_of_ble_eq_true rfl, Nat.le_of_ble_eq_true rfl⟩ rfl rfl  hP hD hS [] [0, 1, 2, 3, 4, 5, 6, 7, 8] rfl rfl rfl rfl rfl (by decide) rfl hl.1 rfl (Nat.le_of_ble_eq_true rfl) dX12_ring_11 ⟨Nat.le_of_ble_eq_true rfl, Nat.le_of_ble_eq_true rfl⟩ (fun v_8 u_9 H locs hv_10 hP₀ hD₀ hS₀ => ?_)
    obtain ⟨r_11, rfl, he_12⟩ := hv_10
    have he_12 : (r_11.toInt = 0 ∨ (r_11.toInt = 1 ∧ (0 : Int64).toInt ≤ (x1).toInt64.toInt ∧ (x1).toInt64.toInt ≤ (1 : Int64).toInt)) := he_12
    refine W.eq (g2 := F0 m 14 ls [.int r_11]) rfl ?_
    replace hP : va_P D classes [((Ma 2), .inl (tc 0, 2400, .inl (Mf 2))), ((Ma 4), .inl (tc 0, 288, .inl (Mf 4))), ((Ma 5), .inl (tc 0, 6, .inl (Mf 5))), ((Ma 8), .inl (tc 1, 64, .inr (.inl (Mg 8)))), ((Ma 9), .inl (tc 1, 13, .inr (.inl (Mg 9)))), ((Ma 12), .inl (tc 0, 46, .inl (Mf 12))), ((Ma 14), .inl (tc 0, 427, .inl (Mf 14))), ((Ma 0), .inr (12, [.ref (Ma 1), .int (Mv 0), .int (Mv 1), .ref (Ma 2), .ref (Ma 3), .ref (Ma 4), .ref (Ma 5), .ref (Ma 6), .int (Mv 2), .int (Mv 3), .int (Mv 4), .int (Mv 5), .int (Mv 6), .int (Mv 7), .int (Mv 8), .ref (Ma 7), .int (Mv 9), .ref (Ma 8), .int (Mv 10), .ref (Ma 9), .ref (Ma 10), .int (Mv 11), .int (Mv 12), .int (Mv 13), .ref (Ma 11), .int (Mv 14), .ref (Ma 12), .ref (Ma 13), .ref (Ma 14), .ref (Ma 15), .ref (Ma 16), .long (Mj 0), .ref (Ma 17), .ref (Ma 18), .ref (Ma 19), .ref (Ma 20)])), ((Ma 10), .inl (tc 0, 126, .inl (Mf 10)))] H := hP₀
    replace hD : va_D A [((Ma 2), .inl (tc 0, 2400, .inl (Mf 2))), ((Ma 4), .inl (tc 0, 288, .inl (Mf 4))), ((Ma 5), .inl (tc 0, 6, .inl (Mf 5))), ((Ma 8), .inl (tc 1, 64, .inr (.inl (Mg 8)))), ((Ma 9), .inl (tc 1, 13, .inr (.inl (Mg 9)))), ((Ma 12), .inl (tc 0, 46, .inl (Mf 12))), ((Ma 14), .inl (tc 0, 427, .inl (Mf 14))), ((Ma 0), .inr (12, [.ref (Ma 1), .int (Mv 0), .int (Mv 1), .ref (Ma 2), .ref (Ma 3), .ref (Ma 4), .ref (Ma 5), .ref (Ma 6), .int (Mv 2), .int (Mv 3), .int (Mv 4), .int (Mv 5), .int (Mv 6), .int (Mv 7), .int (Mv 8), .ref (Ma 7), .int (Mv 9), .ref (Ma 8), .int (Mv 10), .ref (Ma 9), .ref (Ma 10), .int (Mv 11), .int (Mv 12), .int (Mv 13), .ref (Ma 11), .int (Mv 14), .ref (Ma 12), .ref (Ma 13), .ref (Ma 14), .ref (Ma 15), .ref (Ma 16), .long (Mj 0), .ref (Ma 17), .ref (Ma 18), .ref (Ma 19), .ref (Ma 20)])), ((Ma 10), .inl (tc 0, 126, .inl (Mf 10)))] := hD₀
    replace hS := hS₀
    clear hP₀ hD₀ hS₀
    have yl_he_12_0 : (0 : Int64).toInt = 0 := by decide
    have yl_he_12_1 : (1 : Int64).toInt = 1 := by decide
    simp only [i32_64] at he_12
    refine lv_if_ne (tgt := 19) hx hb dX12_ring_14 (by decide) (fun c_14 => ?_) (fun c_14 => ?_)
    · skip
      refine lv_aload_n hx hb dX12_ring_19 rfl (lv_at hl 0 rfl) ?_
      refine cV (a := (Ma 0)) (As := []) (rest := []) (wr := [((Ma 2), .inl (tc 0, 2400, .inl (Mf 2))), ((Ma 4), .inl (tc 0, 288, .inl (Mf 4))), ((Ma 5), .inl (tc 0, 6, .inl (Mf 5))), ((Ma 8), .inl (tc 1, 64, .inr (.inl (Mg 8)))), ((Ma 9), .inl (tc 1, 13, .inr (.inl (Mg 9)))), ((Ma 14), .inl (tc 0, 427, .inl (Mf 14)))]) ⟨hx, hb, hml, hown, hts⟩ hK hX hA (cu_X12_keeps l D tc sk (Ma 0) (Ma 1) (Ma 2) (Ma 3) (Ma 4) (Ma 5) (Ma 6) (Ma 7) (Ma 8) (Ma 9) (Ma 10) (Ma 11) (Ma 12) (Ma 13) (Ma 14) (Ma 15) (Ma 16) (Ma 17) (Ma 18) (Ma 19) (Ma 20) (Mv 0) (Mv 1) (Mv 2) (Mv 3) (Mv 4) (Mv 5) (Mv 6) (Mv 7) (Mv 8) (Mv 9) (Mv 10) (Mv 11) (Mv 12) (Mv 13) (Mv 14) (Mf 10) (Mf 12) (Mj 0) h_said) k_1505 k_1502 k_1504 k_80 k_106 pl_X12_keeps ⟨Nat.le_of_ble_eq_true rfl, Nat.le_of_ble_eq_true rfl⟩ rfl rfl (va_recv hK hP (ci := 12) (q0 := 7) rfl rfl) hP hD hS [7, 8, 5] [0, 1, 2, 3, 4, 6] rfl rfl rfl rfl rfl (by decide) rfl hl.1 rfl (Nat.le_of_ble_eq_true rfl) dX12_ring_20 ⟨Nat.le_of_ble_eq_true rfl, Nat.le_of_ble_eq_true rfl⟩ (fun v_15 u_16 H locs hv_17 hP₀ hD₀ hS₀ => ?_)
      obtain ⟨sv_18, rfl⟩ : ∃ z, z = u_16 := ⟨_, rfl⟩
      obtain ⟨rfl, pf_19⟩ := hv_17
      have pf_19 : KeptD sv_18 := pf_19
      refine W.eq (g2 := F0 m 23 ls []) rfl ?_
      replace hP : va_P D classes [((Ma 2), .inl (tc 0, 2400, .inl (Mf 2))), ((Ma 4), .inl (tc 0, 288, .inl (Mf 4))), ((Ma 5), .inl (tc 0, 6, .inl (Mf 5))), ((Ma 8), .inl (tc 1, 64, .inr (.inl (Mg 8)))), ((Ma 9), .inl (tc 1, 13, .inr (.inl (Mg 9)))), ((Ma 14), .inl (tc 0, 427, .inl (Mf 14))), ((Ma 0), .inr (12, [.ref (Ma 1), .int (Mv 0), .int (Mv 1), .ref (Ma 2), .ref (Ma 3), .ref (Ma 4), .ref (Ma 5), .ref (Ma 6), .int (Mv 2), .int (Mv 3), .int (Mv 4), .int (Mv 5), .int (Mv 6), .int (Mv 7), .int (Mv 8), .ref (Ma 7), .int (Mv 9), .ref (Ma 8), .int (Mv 10), .ref (Ma 9), .ref (Ma 10), .int (Mv 11), .int (Mv 12), .int (Mv 13), .ref (Ma 11), .int (Mv 14), .ref (Ma 12), .ref (Ma 13), .ref (Ma 14), .ref (Ma 15), .ref (Ma 16), .long (Mj 0), .ref (Ma 17), .ref (Ma 18), .ref (Ma 19), .ref (Ma 20)])), ((Ma 10), .inl (tc 0, 126, .inl (Mf 10))), ((Ma 12), .inl (tc 0, 46, .inl sv_18))] H := hP₀
      replace hD : va_D A [((Ma 2), .inl (tc 0, 2400, .inl (Mf 2))), ((Ma 4), .inl (tc 0, 288, .inl (Mf 4))), ((Ma 5), .inl (tc 0, 6, .inl (Mf 5))), ((Ma 8), .inl (tc 1, 64, .inr (.inl (Mg 8)))), ((Ma 9), .inl (tc 1, 13, .inr (.inl (Mg 9)))), ((Ma 14), .inl (tc 0, 427, .inl (Mf 14))), ((Ma 0), .inr (12, [.ref (Ma 1), .int (Mv 0), .int (Mv 1), .ref (Ma 2), .ref (Ma 3), .ref (Ma 4), .ref (Ma 5), .ref (Ma 6), .int (Mv 2), .int (Mv 3), .int (Mv 4), .int (Mv 5), .int (Mv 6), .int (Mv 7), .int (Mv 8), .ref (Ma 7), .int (Mv 9), .ref (Ma 8), .int (Mv 10), .ref (Ma 9), .ref (Ma 10), .int (Mv 11), .int (Mv 12), .int (Mv 13), .ref (Ma 11), .int (Mv 14), .ref (Ma 12), .ref (Ma 13), .ref (Ma 14), .ref (Ma 15), .ref (Ma 16), .long (Mj 0), .ref (Ma 17), .ref (Ma 18), .ref (Ma 19), .ref (Ma 20)])), ((Ma 10), .inl (tc 0, 126, .inl (Mf 10))), ((Ma 12), .inl (tc 0, 46, .inl sv_18))] := hD₀
      replace hS := hS₀
      clear hP₀ hD₀ hS₀
      refine lv_iconst (v := 0) hx hb dX12_ring_23 (by decide) ?_
      refine lv_istore_n (lv' := [(2, .int 0), (0, .ref (Ma 0)), (1, .int x1)]) hx hb dX12_ring_24 rfl hl (by decide) rfl (fun ls hl₀ => ?_)
      replace hl := hl₀
      clear hl₀
      have loop_34 : ∀ (n_32 : Nat) (vy_26 : Int32) (vy_27 : Nat → Int64) (vy_28 : Nat → Int64) (vy_29 : Nat → Int32) (vy_30 : Int32) (vy_31 : Nat → Int32) (H : Heap) (locs : List Loc) (ls : Array Slot), (61 - (vy_26 : Int32).toInt).toNat < n_32 → (0 ≤ (vy_26 : Int32).toInt ∧ (vy_26 : Int32).toInt ≤ 61) → (SaidD T vy_31 (999 + (vy_26 : Int32).toInt)) → va_P D classes [((Ma 2), .inl (tc 0, 2400, .inl (Mf 2))), ((Ma 4), .inl (tc 0, 288, .inl (Mf 4))), ((Ma 5), .inl (tc 0, 6, .inl (Mf 5))), ((Ma 8), .inl (tc 1, 64, .inr (.inl vy_27))), ((Ma 9), .inl (tc 1, 13, .inr (.inl vy_28))), ((Ma 14), .inl (tc 0, 427, .inl vy_29)), ((Ma 0), .inr (12, [.ref (Ma 1), .int (Mv 0), .int (Mv 1), .ref (Ma 2), .ref (Ma 3), .ref (Ma 4), .ref (Ma 5), .ref (Ma 6), .int (Mv 2), .int (Mv 3), .int (Mv 4), .int (Mv 5), .int (Mv 6), .int (Mv 7), .int (Mv 8), .ref (Ma 7), .int (Mv 9), .ref (Ma 8), .int vy_30, .ref (Ma 9), .ref (Ma 10), .int (Mv 11), .int (Mv 12), .int (Mv 13), .ref (Ma 11), .int (Mv 14), .ref (Ma 12), .ref (Ma 13), .ref (Ma 14), .ref (Ma 15), .ref (Ma 16), .long (Mj 0), .ref (Ma 17), .ref (Ma 18), .ref (Ma 19), .ref (Ma 20)])), ((Ma 10), .inl (tc 0, 126, .inl vy_31)), ((Ma 12), .inl (tc 0, 46, .inl sv_18))] H → va_D A [((Ma 2), .inl (tc 0, 2400, .inl (Mf 2))), ((Ma 4), .inl (tc 0, 288, .inl (Mf 4))), ((Ma 5), .inl (tc 0, 6, .inl (Mf 5))), ((Ma 8), .inl (tc 1, 64, .inr (.inl vy_27))), ((Ma 9), .inl (tc 1, 13, .inr (.inl vy_28))), ((Ma 14), .inl (tc 0, 427, .inl vy_29)), ((Ma 0), .inr (12, [.ref (Ma 1), .int (Mv 0), .int (Mv 1), .ref (Ma 2), .ref (Ma 3), .ref (Ma 4), .ref (Ma 5), .ref (Ma 6), .int (Mv 2), .int (Mv 3), .int (Mv 4), .int (Mv 5), .int (Mv 6), .int (Mv 7), .int (Mv 8), .ref (Ma 7), .int (Mv 9), .ref (Ma 8), .int vy_30, .ref (Ma 9), .ref (Ma 10), .int (Mv 11), .int (Mv 12), .int (Mv 13), .ref (Ma 11), .int (Mv 14), .ref (Ma 12), .ref (Ma 13), .ref (Ma 14), .ref (Ma 15), .ref (Ma 16), .long (Mj 0), .ref (Ma 17), .ref (Ma 18), .ref (Ma 19), .ref (Ma 20)])), ((Ma 10), .inl (tc 0, 126, .inl vy_31)), ((Ma 12), .inl (tc 0, 46, .inl sv_18))] → va_S A s.heap H locs → lv_has ls 4 [(2, .int vy_26), (0, .ref (Ma 0)), (1, .int x1)] → W p l e ({ frames := 5, cells := 0, slots := 0, locals := 121 }) s m ([.ref (Ma 0), .int x1].toArray) below meth c H locs 0 0 (MQ below (QW (fun (v : Option Value) (u : (Int32) × (Nat → Int64) × (Nat → Int64) × (Nat → Int32) × (Nat → Int32) × (Nat → Int32)) => match u with | (oo0x1, oo0x2, oo0x3, oo0x4, oo0x5, oo0x6) => ∃ r : Int32, v = some (.int r) ∧ (True) ∧ (SaidD T oo0x4 999)) (BW D (fun (u : (Int32) × (Nat → Int64) × (Nat → Int64) × (Nat → Int32) × (Nat → Int32) × (Nat → Int32)) => match u with | (oo0x1, oo0x2, oo0x3, oo0x4, oo0x5, oo0x6) => [((Ma 0), .inr (12, [.ref (Ma 1), .int (Mv 0), .int (Mv 1), .ref (Ma 2), .ref (Ma 3), .ref (Ma 4), .ref (Ma 5), .ref (Ma 6), .int (Mv 2), .int (Mv 3), .int (Mv 4), .int (Mv 5), .int (Mv 6), .int (Mv 7), .int (Mv 8), .ref (Ma 7), .int (Mv 9), .ref (Ma 8), .int oo0x1, .ref (Ma 9), .ref (Ma 10), .int (Mv 11), .int (Mv 12), .int (Mv 13), .ref (Ma 11), .int (Mv 14), .ref (Ma 12), .ref (Ma 13), .ref (Ma 14), .ref (Ma 15), .ref (Ma 16), .long (Mj 0), .ref (Ma 17), .ref (Ma 18), .ref (Ma 19), .ref (Ma 20)])), ((Ma 2), .inl (tc 0, 2400, .inl (Mf 2))), ((Ma 4), .inl (tc 0, 288, .inl (Mf 4))), ((Ma 5), .inl (tc 0, 6, .inl (Mf 5))), ((Ma 8), .inl (tc 1, 64, .inr (.inl oo0x2))), ((Ma 9), .inl (tc 1, 13, .inr (.inl oo0x3))), ((Ma 10), .inl (tc 0, 126, .inl oo0x4)), ((Ma 12), .inl (tc 0, 46, .inl oo0x5)), ((Ma 14), .inl (tc 0, 427, .inl oo0x6))]) A) A) ([.ref (Ma 0), .int x1].toArray) s 0 0 A) (F0 m 25 ls []) := by
        clear hP hD hS hl
        intro n_32
        induction n_32 with
        | zero =>
          intro vy_26 vy_27 vy_28 vy_29 vy_30 vy_31 H locs ls h1
          exact absurd h1 (Nat.not_lt_zero _)
        | succ n_32 ih_33 =>
          intro vy_26 vy_27 vy_28 vy_29 vy_30 vy_31 H locs ls hn_37 pf_35 pf_36 hP hD hS hl
          have ar_pf_36 := SaidD.al pf_36
          refine lv_iload_n hx hb dX12_ring_25 rfl (lv_at hl 0 rfl) ?_
          refine lv_bipush (v := 60) hx hb dX12_ring_26 (by decide) ?_
          refine lv_icmp_gt (tgt := 94) hx hb dX12_ring_28 (by decide) (fun c_38 => ?_) (fun c_38 => ?_)
          · skip
            refine lv_aload_n hx hb dX12_ring_94 rfl (lv_at hl 1 rfl) ?_
            refine cV (a := (Ma 0)) (As := []) (rest := []) (wr := [((Ma 2), .inl (tc 0, 2400, .inl (Mf 2))), ((Ma 4), .inl (tc 0, 288, .inl (Mf 4))), ((Ma 5), .inl (tc 0, 6, .inl (Mf 5))), ((Ma 8), .inl (tc 1, 64, .inr (.inl vy_27))), ((Ma 9), .inl (tc 1, 13, .inr (.inl vy_28))), ((Ma 14), .inl (tc 0, 427, .inl vy_29))]) ⟨hx, hb, hml, hown, hts⟩ hK hX hA (cu_X12_laysBack l D tc sk (Ma 0) (Ma 1) (Ma 2) (Ma 3) (Ma 4) (Ma 5) (Ma 6) (Ma 7) (Ma 8) (Ma 9) (Ma 10) (Ma 11) (Ma 12) (Ma 13) (Ma 14) (Ma 15) (Ma 16) (Ma 17) (Ma 18) (Ma 19) (Ma 20) (Mv 0) (Mv 1) (Mv 2) (Mv 3) (Mv 4) (Mv 5) (Mv 6) (Mv 7) (Mv 8) (Mv 9) vy_30 (Mv 11) (Mv 12) (Mv 13) (Mv 14) vy_31 sv_18 (Mj 0) pf_36.1 pf_19) k_1513 k_1510 k_1512 k_82 k_106 pl_X12_laysBack ⟨Nat.le_of_ble_eq_true rfl, Nat.le_of_ble_eq_true rfl⟩ rfl rfl (va_recv hK hP (ci := 12) (q0 := 6) rfl rfl) hP hD hS [6, 7, 8] [0, 1, 2, 3, 4, 5] rfl rfl rfl rfl rfl (by decide) rfl hl.1 rfl (Nat.le_of_ble_eq_true rfl) dX12_ring_95 ⟨Nat.le_of_ble_eq_true rfl, Nat.le_of_ble_eq_true rfl⟩ (fun v_39 u_40 H locs hv_41 hP₀ hD₀ hS₀ => ?_)
            obtain ⟨sv_42, rfl⟩ : ∃ z, z = u_40 := ⟨_, rfl⟩
            obtain ⟨rfl, pf_43⟩ := hv_41
            have pf_43 : SaidD T sv_42 999 := pf_43
            have ar_pf_43 := SaidD.al pf_43
            refine W.eq (g2 := F0 m 98 ls []) rfl ?_
            replace hP : va_P D classes [((Ma 2), .inl (tc 0, 2400, .inl (Mf 2))), ((Ma 4), .inl (tc 0, 288, .inl (Mf 4))), ((Ma 5), .inl (tc 0, 6, .inl (Mf 5))), ((Ma 8), .inl (tc 1, 64, .inr (.inl vy_27))), ((Ma 9), .inl (tc 1, 13, .inr (.inl vy_28))), ((Ma 14), .inl (tc 0, 427, .inl vy_29)), ((Ma 0), .inr (12, [.ref (Ma 1), .int (Mv 0), .int (Mv 1), .ref (Ma 2), .ref (Ma 3), .ref (Ma 4), .ref (Ma 5), .ref (Ma 6), .int (Mv 2), .int (Mv 3), .int (Mv 4), .int (Mv 5), .int (Mv 6), .int (Mv 7), .int (Mv 8), .ref (Ma 7), .int (Mv 9), .ref (Ma 8), .int vy_30, .ref (Ma 9), .ref (Ma 10), .int (Mv 11), .int (Mv 12), .int (Mv 13), .ref (Ma 11), .int (Mv 14), .ref (Ma 12), .ref (Ma 13), .ref (Ma 14), .ref (Ma 15), .ref (Ma 16), .long (Mj 0), .ref (Ma 17), .ref (Ma 18), .ref (Ma 19), .ref (Ma 20)])), ((Ma 10), .inl (tc 0, 126, .inl sv_42)), ((Ma 12), .inl (tc 0, 46, .inl sv_18))] H := hP₀
            replace hD : va_D A [((Ma 2), .inl (tc 0, 2400, .inl (Mf 2))), ((Ma 4), .inl (tc 0, 288, .inl (Mf 4))), ((Ma 5), .inl (tc 0, 6, .inl (Mf 5))), ((Ma 8), .inl (tc 1, 64, .inr (.inl vy_27))), ((Ma 9), .inl (tc 1, 13, .inr (.inl vy_28))), ((Ma 14), .inl (tc 0, 427, .inl vy_29)), ((Ma 0), .inr (12, [.ref (Ma 1), .int (Mv 0), .int (Mv 1), .ref (Ma 2), .ref (Ma 3), .ref (Ma 4), .ref (Ma 5), .ref (Ma 6), .int (Mv 2), .int (Mv 3), .int (Mv 4), .int (Mv 5), .int (Mv 6), .int (Mv 7), .int (Mv 8), .ref (Ma 7), .int (Mv 9), .ref (Ma 8), .int vy_30, .ref (Ma 9), .ref (Ma 10), .int (Mv 11), .int (Mv 12), .int (Mv 13), .ref (Ma 11), .int (Mv 14), .ref (Ma 12), .ref (Ma 13), .ref (Ma 14), .ref (Ma 15), .ref (Ma 16), .long (Mj 0), .ref (Ma 17), .ref (Ma 18), .ref (Ma 19), .ref (Ma 20)])), ((Ma 10), .inl (tc 0, 126, .inl sv_42)), ((Ma 12), .inl (tc 0, 46, .inl sv_18))] := hD₀
            replace hS := hS₀
            clear hP₀ hD₀ hS₀
            refine lv_iconst (v := 0) hx hb dX12_ring_98 (by decide) ?_
            refine lv_istore_n (lv' := [(2, .int 0), (0, .ref (Ma 0)), (1, .int x1)]) hx hb dX12_ring_99 rfl hl (by decide) rfl (fun ls hl₀ => ?_)
            replace hl := hl₀
            clear hl₀
            have loop_48 : ∀ (n_46 : Nat) (vy_45 : Int32) (H : Heap) (locs : List Loc) (ls : Array Slot), (60 - (vy_45 : Int32).toInt).toNat < n_46 → (0 ≤ (vy_45 : Int32).toInt) → va_P D classes [((Ma 2), .inl (tc 0, 2400, .inl (Mf 2))), ((Ma 4), .inl (tc 0, 288, .inl (Mf 4))), ((Ma 5), .inl (tc 0, 6, .inl (Mf 5))), ((Ma 8), .inl (tc 1, 64, .inr (.inl vy_27))), ((Ma 9), .inl (tc 1, 13, .inr (.inl vy_28))), ((Ma 14), .inl (tc 0, 427, .inl vy_29)), ((Ma 0), .inr (12, [.ref (Ma 1), .int (Mv 0), .int (Mv 1), .ref (Ma 2), .ref (Ma 3), .ref (Ma 4), .ref (Ma 5), .ref (Ma 6), .int (Mv 2), .int (Mv 3), .int (Mv 4), .int (Mv 5), .int (Mv 6), .int (Mv 7), .int (Mv 8), .ref (Ma 7), .int (Mv 9), .ref (Ma 8), .int vy_30, .ref (Ma 9), .ref (Ma 10), .int (Mv 11), .int (Mv 12), .int (Mv 13), .ref (Ma 11), .int (Mv 14), .ref (Ma 12), .ref (Ma 13), .ref (Ma 14), .ref (Ma 15), .ref (Ma 16), .long (Mj 0), .ref (Ma 17), .ref (Ma 18), .ref (Ma 19), .ref (Ma 20)])), ((Ma 10), .inl (tc 0, 126, .inl sv_42)), ((Ma 12), .inl (tc 0, 46, .inl sv_18))] H → va_D A [((Ma 2), .inl (tc 0, 2400, .inl (Mf 2))), ((Ma 4), .inl (tc 0, 288, .inl (Mf 4))), ((Ma 5), .inl (tc 0, 6, .inl (Mf 5))), ((Ma 8), .inl (tc 1, 64, .inr (.inl vy_27))), ((Ma 9), .inl (tc 1, 13, .inr (.inl vy_28))), ((Ma 14), .inl (tc 0, 427, .inl vy_29)), ((Ma 0), .inr (12, [.ref (Ma 1), .int (Mv 0), .int (Mv 1), .ref (Ma 2), .ref (Ma 3), .ref (Ma 4), .ref (Ma 5), .ref (Ma 6), .int (Mv 2), .int (Mv 3), .int (Mv 4), .int (Mv 5), .int (Mv 6), .int (Mv 7), .int (Mv 8), .ref (Ma 7), .int (Mv 9), .ref (Ma 8), .int vy_30, .ref (Ma 9), .ref (Ma 10), .int (Mv 11), .int (Mv 12), .int (Mv 13), .ref (Ma 11), .int (Mv 14), .ref (Ma 12), .ref (Ma 13), .ref (Ma 14), .ref (Ma 15), .ref (Ma 16), .long (Mj 0), .ref (Ma 17), .ref (Ma 18), .ref (Ma 19), .ref (Ma 20)])), ((Ma 10), .inl (tc 0, 126, .inl sv_42)), ((Ma 12), .inl (tc 0, 46, .inl sv_18))] → va_S A s.heap H locs → lv_has ls 4 [(2, .int vy_45), (0, .ref (Ma 0)), (1, .int x1)] → W p l e ({ frames := 5, cells := 0, slots := 0, locals := 121 }) s m ([.ref (Ma 0), .int x1].toArray) below meth c H locs 0 0 (MQ below (QW (fun (v : Option Value) (u : (Int32) × (Nat → Int64) × (Nat → Int64) × (Nat → Int32) × (Nat → Int32) × (Nat → Int32)) => match u with | (oo0x1, oo0x2, oo0x3, oo0x4, oo0x5, oo0x6) => ∃ r : Int32, v = some (.int r) ∧ (True) ∧ (SaidD T oo0x4 999)) (BW D (fun (u : (Int32) × (Nat → Int64) × (Nat → Int64) × (Nat → Int32) × (Nat → Int32) × (Nat → Int32)) => match u with | (oo0x1, oo0x2, oo0x3, oo0x4, oo0x5, oo0x6) => [((Ma 0), .inr (12, [.ref (Ma 1), .int (Mv 0), .int (Mv 1), .ref (Ma 2), .ref (Ma 3), .ref (Ma 4), .ref (Ma 5), .ref (Ma 6), .int (Mv 2), .int (Mv 3), .int (Mv 4), .int (Mv 5), .int (Mv 6), .int (Mv 7), .int (Mv 8), .ref (Ma 7), .int (Mv 9), .ref (Ma 8), .int oo0x1, .ref (Ma 9), .ref (Ma 10), .int (Mv 11), .int (Mv 12), .int (Mv 13), .ref (Ma 11), .int (Mv 14), .ref (Ma 12), .ref (Ma 13), .ref (Ma 14), .ref (Ma 15), .ref (Ma 16), .long (Mj 0), .ref (Ma 17), .ref (Ma 18), .ref (Ma 19), .ref (Ma 20)])), ((Ma 2), .inl (tc 0, 2400, .inl (Mf 2))), ((Ma 4), .inl (tc 0, 288, .inl (Mf 4))), ((Ma 5), .inl (tc 0, 6, .inl (Mf 5))), ((Ma 8), .inl (tc 1, 64, .inr (.inl oo0x2))), ((Ma 9), .inl (tc 1, 13, .inr (.inl oo0x3))), ((Ma 10), .inl (tc 0, 126, .inl oo0x4)), ((Ma 12), .inl (tc 0, 46, .inl oo0x5)), ((Ma 14), .inl (tc 0, 427, .inl oo0x6))]) A) A) ([.ref (Ma 0), .int x1].toArray) s 0 0 A) (F0 m 100 ls []) := by
              clear hP hD hS hl
              intro n_46
              induction n_46 with
              | zero =>
                intro vy_45 H locs ls h1
                exact absurd h1 (Nat.not_lt_zero _)
              | succ n_46 ih_47 =>
                intro vy_45 H locs ls hn_50 pf_49 hP hD hS hl
                refine lv_iload_n hx hb dX12_ring_100 rfl (lv_at hl 0 rfl) ?_
                refine lv_bipush (v := 60) hx hb dX12_ring_101 (by decide) ?_
                refine lv_icmp_ge (tgt := 157) hx hb dX12_ring_103 (by decide) (fun c_51 => ?_) (fun c_51 => ?_)
                · skip
                  refine lv_bipush (v := (-2)) hx hb dX12_ring_157 (by decide) ?_
                  exact retI (v := (-2)) hx hb hr hlk (rfl) hP hD hS (vy_30, vy_27, vy_28, sv_42, sv_18, vy_29) ⟨_, rfl, trivial, pf_43⟩ [6, 0, 1, 2, 3, 4, 7, 8, 5] rfl rfl dX12_ring_159 (Nat.le_of_ble_eq_true rfl) (Nat.le_of_ble_eq_true rfl) rfl
                · skip
                  refine lv_iload_n hx hb dX12_ring_106 rfl (lv_at hl 0 rfl) ?_
                  refine lv_iconst (v := 1) hx hb dX12_ring_107 (by decide) ?_
                  refine lv_iadd hx hb dX12_ring_108 ?_
                  refine lv_topi (fun x_52 ex_52 => ?_)
                  refine lv_istore_n (lv' := [(3, .int x_52), (2, .int vy_45), (0, .ref (Ma 0)), (1, .int x1)]) hx hb dX12_ring_109 rfl hl (by decide) rfl (fun ls hl₀ => ?_)
                  replace hl := hl₀
                  clear hl₀
                  have loop_57 : ∀ (n_55 : Nat) (vy_54 : Int32) (H : Heap) (locs : List Loc) (ls : Array Slot), (61 - (vy_54 : Int32).toInt).toNat < n_55 → (0 ≤ (vy_54 : Int32).toInt) → va_P D classes [((Ma 2), .inl (tc 0, 2400, .inl (Mf 2))), ((Ma 4), .inl (tc 0, 288, .inl (Mf 4))), ((Ma 5), .inl (tc 0, 6, .inl (Mf 5))), ((Ma 8), .inl (tc 1, 64, .inr (.inl vy_27))), ((Ma 9), .inl (tc 1, 13, .inr (.inl vy_28))), ((Ma 14), .inl (tc 0, 427, .inl vy_29)), ((Ma 0), .inr (12, [.ref (Ma 1), .int (Mv 0), .int (Mv 1), .ref (Ma 2), .ref (Ma 3), .ref (Ma 4), .ref (Ma 5), .ref (Ma 6), .int (Mv 2), .int (Mv 3), .int (Mv 4), .int (Mv 5), .int (Mv 6), .int (Mv 7), .int (Mv 8), .ref (Ma 7), .int (Mv 9), .ref (Ma 8), .int vy_30, .ref (Ma 9), .ref (Ma 10), .int (Mv 11), .int (Mv 12), .int (Mv 13), .ref (Ma 11), .int (Mv 14), .ref (Ma 12), .ref (Ma 13), .ref (Ma 14), .ref (Ma 15), .ref (Ma 16), .long (Mj 0), .ref (Ma 17), .ref (Ma 18), .ref (Ma 19), .ref (Ma 20)])), ((Ma 10), .inl (tc 0, 126, .inl sv_42)), ((Ma 12), .inl (tc 0, 46, .inl sv_18))] H → va_D A [((Ma 2), .inl (tc 0, 2400, .inl (Mf 2))), ((Ma 4), .inl (tc 0, 288, .inl (Mf 4))), ((Ma 5), .inl (tc 0, 6, .inl (Mf 5))), ((Ma 8), .inl (tc 1, 64, .inr (.inl vy_27))), ((Ma 9), .inl (tc 1, 13, .inr (.inl vy_28))), ((Ma 14), .inl (tc 0, 427, .inl vy_29)), ((Ma 0), .inr (12, [.ref (Ma 1), .int (Mv 0), .int (Mv 1), .ref (Ma 2), .ref (Ma 3), .ref (Ma 4), .ref (Ma 5), .ref (Ma 6), .int (Mv 2), .int (Mv 3), .int (Mv 4), .int (Mv 5), .int (Mv 6), .int (Mv 7), .int (Mv 8), .ref (Ma 7), .int (Mv 9), .ref (Ma 8), .int vy_30, .ref (Ma 9), .ref (Ma 10), .int (Mv 11), .int (Mv 12), .int (Mv 13), .ref (Ma 11), .int (Mv 14), .ref (Ma 12), .ref (Ma 13), .ref (Ma 14), .ref (Ma 15), .ref (Ma 16), .long (Mj 0), .ref (Ma 17), .ref (Ma 18), .ref (Ma 19), .ref (Ma 20)])), ((Ma 10), .inl (tc 0, 126, .inl sv_42)), ((Ma 12), .inl (tc 0, 46, .inl sv_18))] → va_S A s.heap H locs → lv_has ls 4 [(3, .int vy_54), (2, .int vy_45), (0, .ref (Ma 0)), (1, .int x1)] → W p l e ({ frames := 5, cells := 0, slots := 0, locals := 121 }) s m ([.ref (Ma 0), .int x1].toArray) below meth c H locs 0 0 (MQ below (QW (fun (v : Option Value) (u : (Int32) × (Nat → Int64) × (Nat → Int64) × (Nat → Int32) × (Nat → Int32) × (Nat → Int32)) => match u with | (oo0x1, oo0x2, oo0x3, oo0x4, oo0x5, oo0x6) => ∃ r : Int32, v = some (.int r) ∧ (True) ∧ (SaidD T oo0x4 999)) (BW D (fun (u : (Int32) × (Nat → Int64) × (Nat → Int64) × (Nat → Int32) × (Nat → Int32) × (Nat → Int32)) => match u with | (oo0x1, oo0x2, oo0x3, oo0x4, oo0x5, oo0x6) => [((Ma 0), .inr (12, [.ref (Ma 1), .int (Mv 0), .int (Mv 1), .ref (Ma 2), .ref (Ma 3), .ref (Ma 4), .ref (Ma 5), .ref (Ma 6), .int (Mv 2), .int (Mv 3), .int (Mv 4), .int (Mv 5), .int (Mv 6), .int (Mv 7), .int (Mv 8), .ref (Ma 7), .int (Mv 9), .ref (Ma 8), .int oo0x1, .ref (Ma 9), .ref (Ma 10), .int (Mv 11), .int (Mv 12), .int (Mv 13), .ref (Ma 11), .int (Mv 14), .ref (Ma 12), .ref (Ma 13), .ref (Ma 14), .ref (Ma 15), .ref (Ma 16), .long (Mj 0), .ref (Ma 17), .ref (Ma 18), .ref (Ma 19), .ref (Ma 20)])), ((Ma 2), .inl (tc 0, 2400, .inl (Mf 2))), ((Ma 4), .inl (tc 0, 288, .inl (Mf 4))), ((Ma 5), .inl (tc 0, 6, .inl (Mf 5))), ((Ma 8), .inl (tc 1, 64, .inr (.inl oo0x2))), ((Ma 9), .inl (tc 1, 13, .inr (.inl oo0x3))), ((Ma 10), .inl (tc 0, 126, .inl oo0x4)), ((Ma 12), .inl (tc 0, 46, .inl oo0x5)), ((Ma 14), .inl (tc 0, 427, .inl oo0x6))]) A) A) ([.ref (Ma 0), .int x1].toArray) s 0 0 A) (F0 m 110 ls []) := by
                    clear hP hD hS hl
                    intro n_55
                    induction n_55 with
                    | zero =>
                      intro vy_54 H locs ls h1
                      exact absurd h1 (Nat.not_lt_zero _)
                    | succ n_55 ih_56 =>
                      intro vy_54 H locs ls hn_59 pf_58 hP hD hS hl
                      refine lv_iload_n hx hb dX12_ring_110 rfl (lv_at hl 0 rfl) ?_
                      refine lv_bipush (v := 60) hx hb dX12_ring_111 (by decide) ?_
                      refine lv_icmp_gt (tgt := 151) hx hb dX12_ring_113 (by decide) (fun c_60 => ?_) (fun c_60 => ?_)
                      · skip
                        obtain ⟨x_61, ex_61⟩ : ∃ y : Int32, y = vy_45 + 1 := ⟨_, rfl⟩
                        refine lv_iinc (v := x_61) (lv' := [(2, .int x_61), (3, .int vy_54), (0, .ref (Ma 0)), (1, .int x1)]) hx hb dX12_ring_151 hl (k := 1) rfl (by rw [ex_61]; rfl) (by decide) rfl (fun ls hl₀ => ?_)
                        replace hl := hl₀
                        clear hl₀
                        refine lv_goto (tgt := 100) hx hb dX12_ring_154 (by decide) ?_
                        have hb_62 : 60 - (x_61 : Int32).toInt < 60 - (vy_45 : Int32).toInt ∧ 1 ≤ 60 - (vy_45 : Int32).toInt := by
                          have z_1 : ¬ (r_4 : Int32).toInt = (0 : Int32).toInt := fun z => c_7 (Int32.toInt_inj.mp z)
                          have z_2 : ¬ (r_11 : Int32).toInt = (0 : Int32).toInt := fun z => c_14 (Int32.toInt_inj.mp z)
                          have z_3 := Int32.lt_iff_toInt_lt.mp c_38
                          have z_4 := Int32.lt_iff_toInt_lt.mp (Int32.not_le.mp c_51)
                          have z_5 := Int32.lt_iff_toInt_lt.mp c_60
                          have y_0 : (0 : Int32).toInt = 0 := by decide
                          have y_60 : (60 : Int32).toInt = 60 := by decide
                          have y_1 : (1 : Int32).toInt = 1 := by decide
                          have t_x_61 : x_61.toInt = (vy_45 : Int32).toInt + (1 : Int32).toInt := by rw [ex_61]; exact add_toInt (by omega) (by omega)
                          refine ⟨?_, ?_⟩ <;> omega
                        have ha_63 : 0 ≤ (x_61 : Int32).toInt := by
                          have z_1 : ¬ (r_4 : Int32).toInt = (0 : Int32).toInt := fun z => c_7 (Int32.toInt_inj.mp z)
                          have z_2 : ¬ (r_11 : Int32).toInt = (0 : Int32).toInt := fun z => c_14 (Int32.toInt_inj.mp z)
                          have z_3 := Int32.lt_iff_toInt_lt.mp c_38
                          have z_4 := Int32.lt_iff_toInt_lt.mp (Int32.not_le.mp c_51)
                          have z_5 := Int32.lt_iff_toInt_lt.mp c_60
                          have y_0 : (0 : Int32).toInt = 0 := by decide
                          have y_60 : (60 : Int32).toInt = 60 := by decide
                          have y_1 : (1 : Int32).toInt = 1 := by decide
                          have t_x_61 : x_61.toInt = (vy_45 : Int32).toInt + (1 : Int32).toInt := by rw [ex_61]; exact add_toInt (by omega) (by omega)
                          omega
                        exact ih_47 x_61 _ _ _ (by omega) ha_63 (hP.sub [0, 1, 2, 3, 4, 5, 6, 7, 8] rfl) (hD.sub [0, 1, 2, 3, 4, 5, 6, 7, 8] rfl rfl) hS (lv_sub hl [0, 2, 3] rfl)
                      · skip
                        refine lv_aload_n hx hb dX12_ring_116 rfl (lv_at hl 2 rfl) ?_
                        refine lv_iload_n hx hb dX12_ring_117 rfl (lv_at hl 1 rfl) ?_
                        refine lv_iload_n hx hb dX12_ring_118 rfl (lv_at hl 0 rfl) ?_
                        have ha_64 : 0 ≤ vy_45.toInt ∧ vy_45.toInt ≤ 60 ∧ 0 ≤ vy_54.toInt ∧ vy_54.toInt ≤ 60 := by
                          have z_1 : ¬ (r_4 : Int32).toInt = (0 : Int32).toInt := fun z => c_7 (Int32.toInt_inj.mp z)
                          have z_2 : ¬ (r_11 : Int32).toInt = (0 : Int32).toInt := fun z => c_14 (Int32.toInt_inj.mp z)
                          have z_3 := Int32.lt_iff_toInt_lt.mp c_38
                          have z_4 := Int32.lt_iff_toInt_lt.mp (Int32.not_le.mp c_51)
                          have z_5 := Int32.le_iff_toInt_le.mp (Int32.not_lt.mp c_60)
                          have y_0 : (0 : Int32).toInt = 0 := by decide
                          have y_60 : (60 : Int32).toInt = 60 := by decide
                          refine ⟨?_, ?_, ?_, ?_⟩ <;> omega
                        refine cV (a := (Ma 0)) (As := [.int vy_45, .int vy_54]) (rest := []) (wr := [((Ma 2), .inl (tc 0, 2400, .inl (Mf 2))), ((Ma 4), .inl (tc 0, 288, .inl (Mf 4))), ((Ma 5), .inl (tc 0, 6, .inl (Mf 5))), ((Ma 8), .inl (tc 1, 64, .inr (.inl vy_27))), ((Ma 9), .inl (tc 1, 13, .inr (.inl vy_28))), ((Ma 12), .inl (tc 0, 46, .inl sv_18))]) ⟨hx, hb, hml, hown, hts⟩ hK hX hA (cu_X12_areAlike l D tc sk (Ma 0) (Ma 1) (Ma 2) (Ma 3) (Ma 4) (Ma 5) (Ma 6) (Ma 7) (Ma 8) (Ma 9) (Ma 10) (Ma 11) (Ma 12) (Ma 13) (Ma 14) (Ma 15) (Ma 16) (Ma 17) (Ma 18) (Ma 19) (Ma 20) (Mv 0) (Mv 1) (Mv 2) (Mv 3) (Mv 4) (Mv 5) (Mv 6) (Mv 7) (Mv 8) (Mv 9) vy_30 (Mv 11) (Mv 12) (Mv 13) (Mv 14) sv_42 vy_29 (Mj 0) vy_45 vy_54 pf_43.1 ha_64) k_1590 k_1587 k_1589 k_88 k_106 pl_X12_areAlike ⟨Nat.le_of_ble_eq_true rfl, Nat.le_of_ble_eq_true rfl⟩ rfl rfl (va_recv hK hP (ci := 12) (q0 := 6) rfl rfl) hP hD hS [6, 7, 5] [0, 1, 2, 3, 4, 8] rfl rfl rfl rfl rfl (by decide) rfl hl.1 rfl (Nat.le_of_ble_eq_true rfl) dX12_ring_119 ⟨Nat.le_of_ble_eq_true rfl, Nat.le_of_ble_eq_true rfl⟩ (fun v_65 u_66 H locs hv_67 hP₀ hD₀ hS₀ => ?_)
                        obtain ⟨r_68, rfl, he_69⟩ := hv_67
                        have he_69 : (r_68.toInt = 0 ∨ r_68.toInt = 1) := he_69
                        refine W.eq (g2 := F0 m 122 ls [.int r_68]) rfl ?_
                        replace hP : va_P D classes [((Ma 2), .inl (tc 0, 2400, .inl (Mf 2))), ((Ma 4), .inl (tc 0, 288, .inl (Mf 4))), ((Ma 5), .inl (tc 0, 6, .inl (Mf 5))), ((Ma 8), .inl (tc 1, 64, .inr (.inl vy_27))), ((Ma 9), .inl (tc 1, 13, .inr (.inl vy_28))), ((Ma 12), .inl (tc 0, 46, .inl sv_18)), ((Ma 0), .inr (12, [.ref (Ma 1), .int (Mv 0), .int (Mv 1), .ref (Ma 2), .ref (Ma 3), .ref (Ma 4), .ref (Ma 5), .ref (Ma 6), .int (Mv 2), .int (Mv 3), .int (Mv 4), .int (Mv 5), .int (Mv 6), .int (Mv 7), .int (Mv 8), .ref (Ma 7), .int (Mv 9), .ref (Ma 8), .int vy_30, .ref (Ma 9), .ref (Ma 10), .int (Mv 11), .int (Mv 12), .int (Mv 13), .ref (Ma 11), .int (Mv 14), .ref (Ma 12), .ref (Ma 13), .ref (Ma 14), .ref (Ma 15), .ref (Ma 16), .long (Mj 0), .ref (Ma 17), .ref (Ma 18), .ref (Ma 19), .ref (Ma 20)])), ((Ma 10), .inl (tc 0, 126, .inl sv_42)), ((Ma 14), .inl (tc 0, 427, .inl vy_29))] H := hP₀
                        replace hD : va_D A [((Ma 2), .inl (tc 0, 2400, .inl (Mf 2))), ((Ma 4), .inl (tc 0, 288, .inl (Mf 4))), ((Ma 5), .inl (tc 0, 6, .inl (Mf 5))), ((Ma 8), .inl (tc 1, 64, .inr (.inl vy_27))), ((Ma 9), .inl (tc 1, 13, .inr (.inl vy_28))), ((Ma 12), .inl (tc 0, 46, .inl sv_18)), ((Ma 0), .inr (12, [.ref (Ma 1), .int (Mv 0), .int (Mv 1), .ref (Ma 2), .ref (Ma 3), .ref (Ma 4), .ref (Ma 5), .ref (Ma 6), .int (Mv 2), .int (Mv 3), .int (Mv 4), .int (Mv 5), .int (Mv 6), .int (Mv 7), .int (Mv 8), .ref (Ma 7), .int (Mv 9), .ref (Ma 8), .int vy_30, .ref (Ma 9), .ref (Ma 10), .int (Mv 11), .int (Mv 12), .int (Mv 13), .ref (Ma 11), .int (Mv 14), .ref (Ma 12), .ref (Ma 13), .ref (Ma 14), .ref (Ma 15), .ref (Ma 16), .long (Mj 0), .ref (Ma 17), .ref (Ma 18), .ref (Ma 19), .ref (Ma 20)])), ((Ma 10), .inl (tc 0, 126, .inl sv_42)), ((Ma 14), .inl (tc 0, 427, .inl vy_29))] := hD₀
                        replace hS := hS₀
                        clear hP₀ hD₀ hS₀
                        refine lv_if_eq (tgt := 145) hx hb dX12_ring_122 (by decide) (fun c_71 => ?_) (fun c_71 => ?_)
                        · skip
                          obtain ⟨x_72, ex_72⟩ : ∃ y : Int32, y = vy_54 + 1 := ⟨_, rfl⟩
                          refine lv_iinc (v := x_72) (lv' := [(3, .int x_72), (2, .int vy_45), (0, .ref (Ma 0)), (1, .int x1)]) hx hb dX12_ring_145 hl (k := 0) rfl (by rw [ex_72]; rfl) (by decide) rfl (fun ls hl₀ => ?_)
                          replace hl := hl₀
                          clear hl₀
                          refine lv_goto (tgt := 110) hx hb dX12_ring_148 (by decide) ?_
                          have hb_73 : 61 - (x_72 : Int32).toInt < 61 - (vy_54 : Int32).toInt ∧ 1 ≤ 61 - (vy_54 : Int32).toInt := by
                            have z_1 : ¬ (r_4 : Int32).toInt = (0 : Int32).toInt := fun z => c_7 (Int32.toInt_inj.mp z)
                            have z_2 : ¬ (r_11 : Int32).toInt = (0 : Int32).toInt := fun z => c_14 (Int32.toInt_inj.mp z)
                            have z_3 := Int32.lt_iff_toInt_lt.mp c_38
                            have z_4 := Int32.lt_iff_toInt_lt.mp (Int32.not_le.mp c_51)
                            have z_5 := Int32.le_iff_toInt_le.mp (Int32.not_lt.mp c_60)
                            have z_6 := congrArg Int32.toInt c_71
                            have y_0 : (0 : Int32).toInt = 0 := by decide
                            have y_60 : (60 : Int32).toInt = 60 := by decide
                            have y_1 : (1 : Int32).toInt = 1 := by decide
                            have t_x_72 : x_72.toInt = (vy_54 : Int32).toInt + (1 : Int32).toInt := by rw [ex_72]; exact add_toInt (by omega) (by omega)
                            refine ⟨?_, ?_⟩ <;> omega
                          have ha_74 : 0 ≤ (x_72 : Int32).toInt := by
                            have z_1 : ¬ (r_4 : Int32).toInt = (0 : Int32).toInt := fun z => c_7 (Int32.toInt_inj.mp z)
                            have z_2 : ¬ (r_11 : Int32).toInt = (0 : Int32).toInt := fun z => c_14 (Int32.toInt_inj.mp z)
                            have z_3 := Int32.lt_iff_toInt_lt.mp c_38
                            have z_4 := Int32.lt_iff_toInt_lt.mp (Int32.not_le.mp c_51)
                            have z_5 := Int32.le_iff_toInt_le.mp (Int32.not_lt.mp c_60)
                            have z_6 := congrArg Int32.toInt c_71
                            have y_0 : (0 : Int32).toInt = 0 := by decide
                            have y_60 : (60 : Int32).toInt = 60 := by decide
                            have y_1 : (1 : Int32).toInt = 1 := by decide
                            have t_x_72 : x_72.toInt = (vy_54 : Int32).toInt + (1 : Int32).toInt := by rw [ex_72]; exact add_toInt (by omega) (by omega)
                            omega
                          exact ih_56 x_72 _ _ _ (by omega) ha_74 (hP.sub [0, 1, 2, 3, 4, 8, 6, 7, 5] rfl) (hD.sub [0, 1, 2, 3, 4, 8, 6, 7, 5] rfl rfl) hS (lv_sub hl [0, 1, 2, 3] rfl)
                        · skip
                          refine lv_iload_n hx hb dX12_ring_125 rfl (lv_at hl 3 rfl) ?_
                          refine lv_if_ne (tgt := 141) hx hb dX12_ring_126 (by decide) (fun c_75 => ?_) (fun c_75 => ?_)
                          · skip
                            refine lv_iload_n hx hb dX12_ring_141 rfl (lv_at hl 0 rfl) ?_
                            refine lv_iload_n hx hb dX12_ring_142 rfl (lv_at hl 1 rfl) ?_
                            refine lv_isub hx hb dX12_ring_143 ?_
                            refine lv_topi (fun x_76 ex_76 => ?_)
                            exact retI (v := x_76) hx hb hr hlk (rfl) hP hD hS (vy_30, vy_27, vy_28, sv_42, sv_18, vy_29) ⟨_, rfl, trivial, pf_43⟩ [6, 0, 1, 2, 3, 4, 7, 5, 8] rfl rfl dX12_ring_144 (Nat.le_of_ble_eq_true rfl) (Nat.le_of_ble_eq_true rfl) rfl
                          · skip
                            refine lv_aload_n hx hb dX12_ring_129 rfl (lv_at hl 2 rfl) ?_
                            refine gf_X12_39 hx hb hts hown hK hP 6 rfl rfl dX12_ring_130 ?_
                            refine lv_bipush (v := 10) hx hb dX12_ring_133 (by decide) ?_
                            refine va_iald hx hb hK hP 7 0 rfl rfl (vin_dec (by decide +kernel)) dX12_ring_135 ?_
                            refine lv_topi (fun x_77 ex_77 => ?_)
                            have lx_77 : x_77.toInt = (sv_42 10).toInt := congrArg Int32.toInt ex_77
                            refine lv_iload_n hx hb dX12_ring_136 rfl (lv_at hl 1 rfl) ?_
                            refine lv_iadd hx hb dX12_ring_137 ?_
                            refine lv_topi (fun x_78 ex_78 => ?_)
                            refine lv_goto (tgt := 144) hx hb dX12_ring_138 (by decide) ?_
                            exact retI (v := x_78) hx hb hr hlk (rfl) hP hD hS (vy_30, vy_27, vy_28, sv_42, sv_18, vy_29) ⟨_, rfl, trivial, pf_43⟩ [6, 0, 1, 2, 3, 4, 7, 5, 8] rfl rfl dX12_ring_144 (Nat.le_of_ble_eq_true rfl) (Nat.le_of_ble_eq_true rfl) rfl
                  have ha_79 : 0 ≤ (x_52 : Int32).toInt := by
                    have z_1 : ¬ (r_4 : Int32).toInt = (0 : Int32).toInt := fun z => c_7 (Int32.toInt_inj.mp z)
                    have z_2 : ¬ (r_11 : Int32).toInt = (0 : Int32).toInt := fun z => c_14 (Int32.toInt_inj.mp z)
                    have z_3 := Int32.lt_iff_toInt_lt.mp c_38
                    have z_4 := Int32.lt_iff_toInt_lt.mp (Int32.not_le.mp c_51)
                    have y_0 : (0 : Int32).toInt = 0 := by decide
                    have y_60 : (60 : Int32).toInt = 60 := by decide
                    have y_1 : (1 : Int32).toInt = 1 := by decide
                    have t_x_52 : x_52.toInt = (vy_45 : Int32).toInt + (1 : Int32).toInt := by rw [ex_52]; exact add_toInt (by omega) (by omega)
                    omega
                  exact loop_57 _ x_52 _ _ _ (Nat.lt_succ_self _) ha_79 hP hD hS hl
            have ha_80 : 0 ≤ (0 : Int32).toInt := by
              have z_1 : ¬ (r_4 : Int32).toInt = (0 : Int32).toInt := fun z => c_7 (Int32.toInt_inj.mp z)
              have z_2 : ¬ (r_11 : Int32).toInt = (0 : Int32).toInt := fun z => c_14 (Int32.toInt_inj.mp z)
              have z_3 := Int32.lt_iff_toInt_lt.mp c_38
              have y_0 : (0 : Int32).toInt = 0 := by decide
              have y_60 : (60 : Int32).toInt = 60 := by decide
              omega
            exact loop_48 _ 0 _ _ _ (Nat.lt_succ_self _) ha_80 hP hD hS hl
          · skip
            refine lv_aload_n hx hb dX12_ring_31 rfl (lv_at hl 1 rfl) ?_
            refine gf_X12_55 hx hb hts hown hK hP 6 rfl rfl dX12_ring_32 ?_
            refine lv_bipush (v := 7) hx hb dX12_ring_35 (by decide) ?_
            refine lv_iload_n hx hb dX12_ring_37 rfl (lv_at hl 0 rfl) ?_
            refine lv_imul hx hb dX12_ring_38 ?_
            refine lv_topi (fun x_81 ex_81 => ?_)
            refine lv_aload_n hx hb dX12_ring_39 rfl (lv_at hl 1 rfl) ?_
            refine gf_X12_39 hx hb hts hown hK hP 6 rfl rfl dX12_ring_40 ?_
            refine lv_bipush (v := 11) hx hb dX12_ring_43 (by decide) ?_
            refine va_iald hx hb hK hP 7 0 rfl rfl (vin_dec (by decide +kernel)) dX12_ring_45 ?_
            refine lv_topi (fun x_82 ex_82 => ?_)
            have lx_82 : x_82.toInt = (vy_31 11).toInt := congrArg Int32.toInt ex_82
            have hi_83 : vp_in x_81 427 := by
              have z_1 : ¬ (r_4 : Int32).toInt = (0 : Int32).toInt := fun z => c_7 (Int32.toInt_inj.mp z)
              have z_2 : ¬ (r_11 : Int32).toInt = (0 : Int32).toInt := fun z => c_14 (Int32.toInt_inj.mp z)
              have z_3 := Int32.le_iff_toInt_le.mp (Int32.not_lt.mp c_38)
              have y_0 : (0 : Int32).toInt = 0 := by decide
              have y_60 : (60 : Int32).toInt = 60 := by decide
              have y_7 : (7 : Int32).toInt = 7 := by decide
              have t_x_81 : x_81.toInt = (7 : Int32).toInt * (vy_26 : Int32).toInt := by rw [ex_81]; exact mul_toInt (by first | omega | (rw [y_7]; omega)) (by first | omega | (rw [y_7]; omega))
              rw [y_7] at t_x_81
              refine vp_in_iff.mpr ⟨?_, ?_⟩ <;> omega
            refine st_int hx hb hK hP hD hS 5 0 rfl rfl hi_83 dX12_ring_46 (fun g_84 H locs eg_84 hP₀ hD₀ hS₀ => ?_)
            replace hP : va_P D classes [((Ma 2), .inl (tc 0, 2400, .inl (Mf 2))), ((Ma 4), .inl (tc 0, 288, .inl (Mf 4))), ((Ma 5), .inl (tc 0, 6, .inl (Mf 5))), ((Ma 8), .inl (tc 1, 64, .inr (.inl vy_27))), ((Ma 9), .inl (tc 1, 13, .inr (.inl vy_28))), ((Ma 14), .inl (tc 0, 427, .inl g_84)), ((Ma 0), .inr (12, [.ref (Ma 1), .int (Mv 0), .int (Mv 1), .ref (Ma 2), .ref (Ma 3), .ref (Ma 4), .ref (Ma 5), .ref (Ma 6), .int (Mv 2), .int (Mv 3), .int (Mv 4), .int (Mv 5), .int (Mv 6), .int (Mv 7), .int (Mv 8), .ref (Ma 7), .int (Mv 9), .ref (Ma 8), .int vy_30, .ref (Ma 9), .ref (Ma 10), .int (Mv 11), .int (Mv 12), .int (Mv 13), .ref (Ma 11), .int (Mv 14), .ref (Ma 12), .ref (Ma 13), .ref (Ma 14), .ref (Ma 15), .ref (Ma 16), .long (Mj 0), .ref (Ma 17), .ref (Ma 18), .ref (Ma 19), .ref (Ma 20)])), ((Ma 10), .inl (tc 0, 126, .inl vy_31)), ((Ma 12), .inl (tc 0, 46, .inl sv_18))] H := hP₀
            replace hD : va_D A [((Ma 2), .inl (tc 0, 2400, .inl (Mf 2))), ((Ma 4), .inl (tc 0, 288, .inl (Mf 4))), ((Ma 5), .inl (tc 0, 6, .inl (Mf 5))), ((Ma 8), .inl (tc 1, 64, .inr (.inl vy_27))), ((Ma 9), .inl (tc 1, 13, .inr (.inl vy_28))), ((Ma 14), .inl (tc 0, 427, .inl g_84)), ((Ma 0), .inr (12, [.ref (Ma 1), .int (Mv 0), .int (Mv 1), .ref (Ma 2), .ref (Ma 3), .ref (Ma 4), .ref (Ma 5), .ref (Ma 6), .int (Mv 2), .int (Mv 3), .int (Mv 4), .int (Mv 5), .int (Mv 6), .int (Mv 7), .int (Mv 8), .ref (Ma 7), .int (Mv 9), .ref (Ma 8), .int vy_30, .ref (Ma 9), .ref (Ma 10), .int (Mv 11), .int (Mv 12), .int (Mv 13), .ref (Ma 11), .int (Mv 14), .ref (Ma 12), .ref (Ma 13), .ref (Ma 14), .ref (Ma 15), .ref (Ma 16), .long (Mj 0), .ref (Ma 17), .ref (Ma 18), .ref (Ma 19), .ref (Ma 20)])), ((Ma 10), .inl (tc 0, 126, .inl vy_31)), ((Ma 12), .inl (tc 0, 46, .inl sv_18))] := hD₀
            replace hS := hS₀
            clear hP₀ hD₀ hS₀
            refine lv_iconst (v := 0) hx hb dX12_ring_47 (by decide) ?_
            refine lv_istore_n (lv' := [(3, .int 0), (2, .int vy_26), (0, .ref (Ma 0)), (1, .int x1)]) hx hb dX12_ring_48 rfl hl (by decide) rfl (fun ls hl₀ => ?_)
            replace hl := hl₀
            clear hl₀
            have loop_91 : ∀ (n_89 : Nat) (vy_87 : Int32) (vy_88 : Nat → Int32) (H : Heap) (locs : List Loc) (ls : Array Slot), (6 - (vy_87 : Int32).toInt).toNat < n_89 → (0 ≤ (vy_87 : Int32).toInt) → va_P D classes [((Ma 2), .inl (tc 0, 2400, .inl (Mf 2))), ((Ma 4), .inl (tc 0, 288, .inl (Mf 4))), ((Ma 5), .inl (tc 0, 6, .inl (Mf 5))), ((Ma 8), .inl (tc 1, 64, .inr (.inl vy_27))), ((Ma 9), .inl (tc 1, 13, .inr (.inl vy_28))), ((Ma 14), .inl (tc 0, 427, .inl vy_88)), ((Ma 0), .inr (12, [.ref (Ma 1), .int (Mv 0), .int (Mv 1), .ref (Ma 2), .ref (Ma 3), .ref (Ma 4), .ref (Ma 5), .ref (Ma 6), .int (Mv 2), .int (Mv 3), .int (Mv 4), .int (Mv 5), .int (Mv 6), .int (Mv 7), .int (Mv 8), .ref (Ma 7), .int (Mv 9), .ref (Ma 8), .int vy_30, .ref (Ma 9), .ref (Ma 10), .int (Mv 11), .int (Mv 12), .int (Mv 13), .ref (Ma 11), .int (Mv 14), .ref (Ma 12), .ref (Ma 13), .ref (Ma 14), .ref (Ma 15), .ref (Ma 16), .long (Mj 0), .ref (Ma 17), .ref (Ma 18), .ref (Ma 19), .ref (Ma 20)])), ((Ma 10), .inl (tc 0, 126, .inl vy_31)), ((Ma 12), .inl (tc 0, 46, .inl sv_18))] H → va_D A [((Ma 2), .inl (tc 0, 2400, .inl (Mf 2))), ((Ma 4), .inl (tc 0, 288, .inl (Mf 4))), ((Ma 5), .inl (tc 0, 6, .inl (Mf 5))), ((Ma 8), .inl (tc 1, 64, .inr (.inl vy_27))), ((Ma 9), .inl (tc 1, 13, .inr (.inl vy_28))), ((Ma 14), .inl (tc 0, 427, .inl vy_88)), ((Ma 0), .inr (12, [.ref (Ma 1), .int (Mv 0), .int (Mv 1), .ref (Ma 2), .ref (Ma 3), .ref (Ma 4), .ref (Ma 5), .ref (Ma 6), .int (Mv 2), .int (Mv 3), .int (Mv 4), .int (Mv 5), .int (Mv 6), .int (Mv 7), .int (Mv 8), .ref (Ma 7), .int (Mv 9), .ref (Ma 8), .int vy_30, .ref (Ma 9), .ref (Ma 10), .int (Mv 11), .int (Mv 12), .int (Mv 13), .ref (Ma 11), .int (Mv 14), .ref (Ma 12), .ref (Ma 13), .ref (Ma 14), .ref (Ma 15), .ref (Ma 16), .long (Mj 0), .ref (Ma 17), .ref (Ma 18), .ref (Ma 19), .ref (Ma 20)])), ((Ma 10), .inl (tc 0, 126, .inl vy_31)), ((Ma 12), .inl (tc 0, 46, .inl sv_18))] → va_S A s.heap H locs → lv_has ls 4 [(3, .int vy_87), (2, .int vy_26), (0, .ref (Ma 0)), (1, .int x1)] → W p l e ({ frames := 5, cells := 0, slots := 0, locals := 121 }) s m ([.ref (Ma 0), .int x1].toArray) below meth c H locs 0 0 (MQ below (QW (fun (v : Option Value) (u : (Int32) × (Nat → Int64) × (Nat → Int64) × (Nat → Int32) × (Nat → Int32) × (Nat → Int32)) => match u with | (oo0x1, oo0x2, oo0x3, oo0x4, oo0x5, oo0x6) => ∃ r : Int32, v = some (.int r) ∧ (True) ∧ (SaidD T oo0x4 999)) (BW D (fun (u : (Int32) × (Nat → Int64) × (Nat → Int64) × (Nat → Int32) × (Nat → Int32) × (Nat → Int32)) => match u with | (oo0x1, oo0x2, oo0x3, oo0x4, oo0x5, oo0x6) => [((Ma 0), .inr (12, [.ref (Ma 1), .int (Mv 0), .int (Mv 1), .ref (Ma 2), .ref (Ma 3), .ref (Ma 4), .ref (Ma 5), .ref (Ma 6), .int (Mv 2), .int (Mv 3), .int (Mv 4), .int (Mv 5), .int (Mv 6), .int (Mv 7), .int (Mv 8), .ref (Ma 7), .int (Mv 9), .ref (Ma 8), .int oo0x1, .ref (Ma 9), .ref (Ma 10), .int (Mv 11), .int (Mv 12), .int (Mv 13), .ref (Ma 11), .int (Mv 14), .ref (Ma 12), .ref (Ma 13), .ref (Ma 14), .ref (Ma 15), .ref (Ma 16), .long (Mj 0), .ref (Ma 17), .ref (Ma 18), .ref (Ma 19), .ref (Ma 20)])), ((Ma 2), .inl (tc 0, 2400, .inl (Mf 2))), ((Ma 4), .inl (tc 0, 288, .inl (Mf 4))), ((Ma 5), .inl (tc 0, 6, .inl (Mf 5))), ((Ma 8), .inl (tc 1, 64, .inr (.inl oo0x2))), ((Ma 9), .inl (tc 1, 13, .inr (.inl oo0x3))), ((Ma 10), .inl (tc 0, 126, .inl oo0x4)), ((Ma 12), .inl (tc 0, 46, .inl oo0x5)), ((Ma 14), .inl (tc 0, 427, .inl oo0x6))]) A) A) ([.ref (Ma 0), .int x1].toArray) s 0 0 A) (F0 m 49 ls []) := by
              clear hP hD hS hl
              intro n_89
              induction n_89 with
              | zero =>
                intro vy_87 vy_88 H locs ls h1
                exact absurd h1 (Nat.not_lt_zero _)
              | succ n_89 ih_90 =>
                intro vy_87 vy_88 H locs ls hn_93 pf_92 hP hD hS hl
                refine lv_iload_n hx hb dX12_ring_49 rfl (lv_at hl 0 rfl) ?_
                refine lv_aload_n hx hb dX12_ring_50 rfl (lv_at hl 2 rfl) ?_
                refine gf_X12_39 hx hb hts hown hK hP 6 rfl rfl dX12_ring_51 ?_
                refine lv_iconst (v := 3) hx hb dX12_ring_54 (by decide) ?_
                refine va_iald hx hb hK hP 7 0 rfl rfl (vin_dec (by decide +kernel)) dX12_ring_55 ?_
                refine lv_topi (fun x_94 ex_94 => ?_)
                have lx_94 : x_94.toInt = (vy_31 3).toInt := congrArg Int32.toInt ex_94
                refine lv_icmp_ge (tgt := 83) hx hb dX12_ring_56 (by decide) (fun c_95 => ?_) (fun c_95 => ?_)
                · skip
                  refine lv_aload_n hx hb dX12_ring_83 rfl (lv_at hl 2 rfl) ?_
                  have ha_96 : (999 + (vy_26 : Int32).toInt) ≤ 1000000 := by
                    have z_1 : ¬ (r_4 : Int32).toInt = (0 : Int32).toInt := fun z => c_7 (Int32.toInt_inj.mp z)
                    have z_2 : ¬ (r_11 : Int32).toInt = (0 : Int32).toInt := fun z => c_14 (Int32.toInt_inj.mp z)
                    have z_3 := Int32.le_iff_toInt_le.mp (Int32.not_lt.mp c_38)
                    have z_4 := Int32.le_iff_toInt_le.mp c_95
                    have y_0 : (0 : Int32).toInt = 0 := by decide
                    have y_60 : (60 : Int32).toInt = 60 := by decide
                    omega
                  refine cV (a := (Ma 0)) (As := []) (rest := []) (wr := [((Ma 14), .inl (tc 0, 427, .inl vy_88)), ((Ma 12), .inl (tc 0, 46, .inl sv_18))]) ⟨hx, hb, hml, hown, hts⟩ hK hX hA (cu_X12_passes l D tc sk (Ma 0) (Ma 1) (Ma 2) (Ma 3) (Ma 4) (Ma 5) (Ma 6) (Ma 7) (Ma 8) (Ma 9) (Ma 10) (Ma 11) (Ma 12) (Ma 13) (Ma 14) (Ma 15) (Ma 16) (Ma 17) (Ma 18) (Ma 19) (Ma 20) (Mv 0) (Mv 1) (Mv 2) (Mv 3) (Mv 4) (Mv 5) (Mv 6) (Mv 7) (Mv 8) (Mv 9) vy_30 (Mv 11) (Mv 12) (Mv 13) (Mv 14) (Mf 2) (Mf 4) (Mf 5) vy_31 (Mj 0) vy_27 vy_28 (999 + (vy_26 : Int32).toInt) pf_36 ha_96 h_rul h_frc) k_1423 k_1420 k_1422 k_67 k_106 pl_X12_passes ⟨Nat.le_of_ble_eq_true rfl, Nat.le_of_ble_eq_true rfl⟩ rfl rfl (va_recv hK hP (ci := 12) (q0 := 6) rfl rfl) hP hD hS [6, 0, 1, 2, 3, 4, 7] [5, 8] rfl rfl rfl rfl rfl (by decide) rfl hl.1 rfl (Nat.le_of_ble_eq_true rfl) dX12_ring_84 ⟨Nat.le_of_ble_eq_true rfl, Nat.le_of_ble_eq_true rfl⟩ (fun v_97 u_98 H locs hv_99 hP₀ hD₀ hS₀ => ?_)
                  obtain ⟨sv_100, sv_101, sv_102, sv_103⟩ := u_98
                  obtain ⟨r_105, rfl, he_106, pf_104⟩ := hv_99
                  have pf_104 : SaidD T sv_103 ((999 + (vy_26 : Int32).toInt) + 1) := pf_104
                  have ar_pf_104 := SaidD.al pf_104
                  refine W.eq (g2 := F0 m 87 ls [.int r_105]) rfl ?_
                  replace hP : va_P D classes [((Ma 14), .inl (tc 0, 427, .inl vy_88)), ((Ma 12), .inl (tc 0, 46, .inl sv_18)), ((Ma 0), .inr (12, [.ref (Ma 1), .int (Mv 0), .int (Mv 1), .ref (Ma 2), .ref (Ma 3), .ref (Ma 4), .ref (Ma 5), .ref (Ma 6), .int (Mv 2), .int (Mv 3), .int (Mv 4), .int (Mv 5), .int (Mv 6), .int (Mv 7), .int (Mv 8), .ref (Ma 7), .int (Mv 9), .ref (Ma 8), .int sv_100, .ref (Ma 9), .ref (Ma 10), .int (Mv 11), .int (Mv 12), .int (Mv 13), .ref (Ma 11), .int (Mv 14), .ref (Ma 12), .ref (Ma 13), .ref (Ma 14), .ref (Ma 15), .ref (Ma 16), .long (Mj 0), .ref (Ma 17), .ref (Ma 18), .ref (Ma 19), .ref (Ma 20)])), ((Ma 2), .inl (tc 0, 2400, .inl (Mf 2))), ((Ma 4), .inl (tc 0, 288, .inl (Mf 4))), ((Ma 5), .inl (tc 0, 6, .inl (Mf 5))), ((Ma 8), .inl (tc 1, 64, .inr (.inl sv_101))), ((Ma 9), .inl (tc 1, 13, .inr (.inl sv_102))), ((Ma 10), .inl (tc 0, 126, .inl sv_103))] H := hP₀
                  replace hD : va_D A [((Ma 14), .inl (tc 0, 427, .inl vy_88)), ((Ma 12), .inl (tc 0, 46, .inl sv_18)), ((Ma 0), .inr (12, [.ref (Ma 1), .int (Mv 0), .int (Mv 1), .ref (Ma 2), .ref (Ma 3), .ref (Ma 4), .ref (Ma 5), .ref (Ma 6), .int (Mv 2), .int (Mv 3), .int (Mv 4), .int (Mv 5), .int (Mv 6), .int (Mv 7), .int (Mv 8), .ref (Ma 7), .int (Mv 9), .ref (Ma 8), .int sv_100, .ref (Ma 9), .ref (Ma 10), .int (Mv 11), .int (Mv 12), .int (Mv 13), .ref (Ma 11), .int (Mv 14), .ref (Ma 12), .ref (Ma 13), .ref (Ma 14), .ref (Ma 15), .ref (Ma 16), .long (Mj 0), .ref (Ma 17), .ref (Ma 18), .ref (Ma 19), .ref (Ma 20)])), ((Ma 2), .inl (tc 0, 2400, .inl (Mf 2))), ((Ma 4), .inl (tc 0, 288, .inl (Mf 4))), ((Ma 5), .inl (tc 0, 6, .inl (Mf 5))), ((Ma 8), .inl (tc 1, 64, .inr (.inl sv_101))), ((Ma 9), .inl (tc 1, 13, .inr (.inl sv_102))), ((Ma 10), .inl (tc 0, 126, .inl sv_103))] := hD₀
                  replace hS := hS₀
                  clear hP₀ hD₀ hS₀
                  refine lv_pop hx hb dX12_ring_87 rfl ?_
                  obtain ⟨x_108, ex_108⟩ : ∃ y : Int32, y = vy_26 + 1 := ⟨_, rfl⟩
                  refine lv_iinc (v := x_108) (lv' := [(2, .int x_108), (3, .int vy_87), (0, .ref (Ma 0)), (1, .int x1)]) hx hb dX12_ring_88 hl (k := 1) rfl (by rw [ex_108]; rfl) (by decide) rfl (fun ls hl₀ => ?_)
                  replace hl := hl₀
                  clear hl₀
                  refine lv_goto (tgt := 25) hx hb dX12_ring_91 (by decide) ?_
                  have hb_109 : 61 - (x_108 : Int32).toInt < 61 - (vy_26 : Int32).toInt ∧ 1 ≤ 61 - (vy_26 : Int32).toInt := by
                    have z_1 : ¬ (r_4 : Int32).toInt = (0 : Int32).toInt := fun z => c_7 (Int32.toInt_inj.mp z)
                    have z_2 : ¬ (r_11 : Int32).toInt = (0 : Int32).toInt := fun z => c_14 (Int32.toInt_inj.mp z)
                    have z_3 := Int32.le_iff_toInt_le.mp (Int32.not_lt.mp c_38)
                    have z_4 := Int32.le_iff_toInt_le.mp c_95
                    have y_0 : (0 : Int32).toInt = 0 := by decide
                    have y_60 : (60 : Int32).toInt = 60 := by decide
                    have y_1 : (1 : Int32).toInt = 1 := by decide
                    have t_x_108 : x_108.toInt = (vy_26 : Int32).toInt + (1 : Int32).toInt := by rw [ex_108]; exact add_toInt (by omega) (by omega)
                    refine ⟨?_, ?_⟩ <;> omega
                  have ha_110 : 0 ≤ (x_108 : Int32).toInt ∧ (x_108 : Int32).toInt ≤ 61 := by
                    have z_1 : ¬ (r_4 : Int32).toInt = (0 : Int32).toInt := fun z => c_7 (Int32.toInt_inj.mp z)
                    have z_2 : ¬ (r_11 : Int32).toInt = (0 : Int32).toInt := fun z => c_14 (Int32.toInt_inj.mp z)
                    have z_3 := Int32.le_iff_toInt_le.mp (Int32.not_lt.mp c_38)
                    have z_4 := Int32.le_iff_toInt_le.mp c_95
                    have y_0 : (0 : Int32).toInt = 0 := by decide
                    have y_60 : (60 : Int32).toInt = 60 := by decide
                    have y_1 : (1 : Int32).toInt = 1 := by decide
                    have t_x_108 : x_108.toInt = (vy_26 : Int32).toInt + (1 : Int32).toInt := by rw [ex_108]; exact add_toInt (by omega) (by omega)
                    refine ⟨?_, ?_⟩ <;> omega
                  have ha_111 : ((999 + (vy_26 : Int32).toInt) + 1) ≤ (999 + (x_108 : Int32).toInt) := by
                    have z_1 : ¬ (r_4 : Int32).toInt = (0 : Int32).toInt := fun z => c_7 (Int32.toInt_inj.mp z)
                    have z_2 : ¬ (r_11 : Int32).toInt = (0 : Int32).toInt := fun z => c_14 (Int32.toInt_inj.mp z)
                    have z_3 := Int32.le_iff_toInt_le.mp (Int32.not_lt.mp c_38)
                    have z_4 := Int32.le_iff_toInt_le.mp c_95
                    have y_0 : (0 : Int32).toInt = 0 := by decide
                    have y_60 : (60 : Int32).toInt = 60 := by decide
                    have y_1 : (1 : Int32).toInt = 1 := by decide
                    have t_x_108 : x_108.toInt = (vy_26 : Int32).toInt + (1 : Int32).toInt := by rw [ex_108]; exact add_toInt (by omega) (by omega)
                    omega
                  exact ih_33 x_108 sv_101 sv_102 vy_88 sv_100 sv_103 _ _ _ (by omega) ha_110 (SaidD.mono pf_104 ha_111) (hP.sub [3, 4, 5, 6, 7, 0, 2, 8, 1] rfl) (hD.sub [3, 4, 5, 6, 7, 0, 2, 8, 1] rfl rfl) hS (lv_sub hl [0, 2, 3] rfl)
                · skip
                  refine lv_aload_n hx hb dX12_ring_59 rfl (lv_at hl 2 rfl) ?_
                  refine gf_X12_55 hx hb hts hown hK hP 6 rfl rfl dX12_ring_60 ?_
                  refine lv_bipush (v := 7) hx hb dX12_ring_63 (by decide) ?_
                  refine lv_iload_n hx hb dX12_ring_65 rfl (lv_at hl 1 rfl) ?_
                  refine lv_imul hx hb dX12_ring_66 ?_
                  refine lv_topi (fun x_112 ex_112 => ?_)
                  refine lv_iconst (v := 1) hx hb dX12_ring_67 (by decide) ?_
                  refine lv_iadd hx hb dX12_ring_68 ?_
                  refine lv_topi (fun x_113 ex_113 => ?_)
                  refine lv_iload_n hx hb dX12_ring_69 rfl (lv_at hl 0 rfl) ?_
                  refine lv_iadd hx hb dX12_ring_70 ?_
                  refine lv_topi (fun x_114 ex_114 => ?_)
                  refine lv_aload_n hx hb dX12_ring_71 rfl (lv_at hl 2 rfl) ?_
                  refine lv_iload_n hx hb dX12_ring_72 rfl (lv_at hl 0 rfl) ?_
                  have ha_115 : 0 ≤ vy_87.toInt ∧ vy_87.toInt < 6 := by
                    have z_1 : ¬ (r_4 : Int32).toInt = (0 : Int32).toInt := fun z => c_7 (Int32.toInt_inj.mp z)
                    have z_2 : ¬ (r_11 : Int32).toInt = (0 : Int32).toInt := fun z => c_14 (Int32.toInt_inj.mp z)
                    have z_3 := Int32.le_iff_toInt_le.mp (Int32.not_lt.mp c_38)
                    have z_4 := Int32.lt_iff_toInt_lt.mp (Int32.not_le.mp c_95)
                    have y_0 : (0 : Int32).toInt = 0 := by decide
                    have y_60 : (60 : Int32).toInt = 60 := by decide
                    refine ⟨?_, ?_⟩ <;> omega
                  refine cV (a := (Ma 0)) (As := [.int vy_87]) (rest := [.int x_114, .ref (Ma 14)]) (wr := [((Ma 2), .inl (tc 0, 2400, .inl (Mf 2))), ((Ma 4), .inl (tc 0, 288, .inl (Mf 4))), ((Ma 5), .inl (tc 0, 6, .inl (Mf 5))), ((Ma 8), .inl (tc 1, 64, .inr (.inl vy_27))), ((Ma 9), .inl (tc 1, 13, .inr (.inl vy_28))), ((Ma 14), .inl (tc 0, 427, .inl vy_88)), ((Ma 12), .inl (tc 0, 46, .inl sv_18))]) ⟨hx, hb, hml, hown, hts⟩ hK hX hA (cu_X12_temperOf l D tc sk (Ma 0) (Ma 1) (Ma 2) (Ma 3) (Ma 4) (Ma 5) (Ma 6) (Ma 7) (Ma 8) (Ma 9) (Ma 10) (Ma 11) (Ma 12) (Ma 13) (Ma 14) (Ma 15) (Ma 16) (Ma 17) (Ma 18) (Ma 19) (Ma 20) (Mv 0) (Mv 1) (Mv 2) (Mv 3) (Mv 4) (Mv 5) (Mv 6) (Mv 7) (Mv 8) (Mv 9) vy_30 (Mv 11) (Mv 12) (Mv 13) (Mv 14) vy_31 (Mj 0) vy_87 ha_115) k_1379 k_1376 k_1378 k_59 k_106 pl_X12_temperOf ⟨Nat.le_of_ble_eq_true rfl, Nat.le_of_ble_eq_true rfl⟩ rfl rfl (va_recv hK hP (ci := 12) (q0 := 6) rfl rfl) hP hD hS [6, 7] [0, 1, 2, 3, 4, 5, 8] rfl rfl rfl rfl rfl (by decide) rfl hl.1 rfl (Nat.le_of_ble_eq_true rfl) dX12_ring_73 ⟨Nat.le_of_ble_eq_true rfl, Nat.le_of_ble_eq_true rfl⟩ (fun v_116 u_117 H locs hv_118 hP₀ hD₀ hS₀ => ?_)
                  obtain ⟨r_119, rfl, he_120⟩ := hv_118
                  refine W.eq (g2 := F0 m 76 ls [.int r_119, .int x_114, .ref (Ma 14)]) rfl ?_
                  replace hP : va_P D classes [((Ma 2), .inl (tc 0, 2400, .inl (Mf 2))), ((Ma 4), .inl (tc 0, 288, .inl (Mf 4))), ((Ma 5), .inl (tc 0, 6, .inl (Mf 5))), ((Ma 8), .inl (tc 1, 64, .inr (.inl vy_27))), ((Ma 9), .inl (tc 1, 13, .inr (.inl vy_28))), ((Ma 14), .inl (tc 0, 427, .inl vy_88)), ((Ma 12), .inl (tc 0, 46, .inl sv_18)), ((Ma 0), .inr (12, [.ref (Ma 1), .int (Mv 0), .int (Mv 1), .ref (Ma 2), .ref (Ma 3), .ref (Ma 4), .ref (Ma 5), .ref (Ma 6), .int (Mv 2), .int (Mv 3), .int (Mv 4), .int (Mv 5), .int (Mv 6), .int (Mv 7), .int (Mv 8), .ref (Ma 7), .int (Mv 9), .ref (Ma 8), .int vy_30, .ref (Ma 9), .ref (Ma 10), .int (Mv 11), .int (Mv 12), .int (Mv 13), .ref (Ma 11), .int (Mv 14), .ref (Ma 12), .ref (Ma 13), .ref (Ma 14), .ref (Ma 15), .ref (Ma 16), .long (Mj 0), .ref (Ma 17), .ref (Ma 18), .ref (Ma 19), .ref (Ma 20)])), ((Ma 10), .inl (tc 0, 126, .inl vy_31))] H := hP₀
                  replace hD : va_D A [((Ma 2), .inl (tc 0, 2400, .inl (Mf 2))), ((Ma 4), .inl (tc 0, 288, .inl (Mf 4))), ((Ma 5), .inl (tc 0, 6, .inl (Mf 5))), ((Ma 8), .inl (tc 1, 64, .inr (.inl vy_27))), ((Ma 9), .inl (tc 1, 13, .inr (.inl vy_28))), ((Ma 14), .inl (tc 0, 427, .inl vy_88)), ((Ma 12), .inl (tc 0, 46, .inl sv_18)), ((Ma 0), .inr (12, [.ref (Ma 1), .int (Mv 0), .int (Mv 1), .ref (Ma 2), .ref (Ma 3), .ref (Ma 4), .ref (Ma 5), .ref (Ma 6), .int (Mv 2), .int (Mv 3), .int (Mv 4), .int (Mv 5), .int (Mv 6), .int (Mv 7), .int (Mv 8), .ref (Ma 7), .int (Mv 9), .ref (Ma 8), .int vy_30, .ref (Ma 9), .ref (Ma 10), .int (Mv 11), .int (Mv 12), .int (Mv 13), .ref (Ma 11), .int (Mv 14), .ref (Ma 12), .ref (Ma 13), .ref (Ma 14), .ref (Ma 15), .ref (Ma 16), .long (Mj 0), .ref (Ma 17), .ref (Ma 18), .ref (Ma 19), .ref (Ma 20)])), ((Ma 10), .inl (tc 0, 126, .inl vy_31))] := hD₀
                  replace hS := hS₀
                  clear hP₀ hD₀ hS₀
                  have hi_122 : vp_in x_114 427 := by
                    have z_1 : ¬ (r_4 : Int32).toInt = (0 : Int32).toInt := fun z => c_7 (Int32.toInt_inj.mp z)
                    have z_2 : ¬ (r_11 : Int32).toInt = (0 : Int32).toInt := fun z => c_14 (Int32.toInt_inj.mp z)
                    have z_3 := Int32.le_iff_toInt_le.mp (Int32.not_lt.mp c_38)
                    have z_4 := Int32.lt_iff_toInt_lt.mp (Int32.not_le.mp c_95)
                    have y_0 : (0 : Int32).toInt = 0 := by decide
                    have y_60 : (60 : Int32).toInt = 60 := by decide
                    have y_1 : (1 : Int32).toInt = 1 := by decide
                    have y_7 : (7 : Int32).toInt = 7 := by decide
                    have t_x_112 : x_112.toInt = (7 : Int32).toInt * (vy_26 : Int32).toInt := by rw [ex_112]; exact mul_toInt (by first | omega | (rw [y_7]; omega)) (by first | omega | (rw [y_7]; omega))
                    rw [y_7] at t_x_112
                    have t_x_113 : x_113.toInt = (x_112 : Int32).toInt + (1 : Int32).toInt := by rw [ex_113]; exact add_toInt (by omega) (by omega)
                    have t_x_114 : x_114.toInt = (x_113 : Int32).toInt + (vy_87 : Int32).toInt := by rw [ex_114]; exact add_toInt (by omega) (by omega)
                    refine vp_in_iff.mpr ⟨?_, ?_⟩ <;> omega
                  refine st_int hx hb hK hP hD hS 5 0 rfl rfl hi_122 dX12_ring_76 (fun g_123 H locs eg_123 hP₀ hD₀ hS₀ => ?_)
                  replace hP : va_P D classes [((Ma 2), .inl (tc 0, 2400, .inl (Mf 2))), ((Ma 4), .inl (tc 0, 288, .inl (Mf 4))), ((Ma 5), .inl (tc 0, 6, .inl (Mf 5))), ((Ma 8), .inl (tc 1, 64, .inr (.inl vy_27))), ((Ma 9), .inl (tc 1, 13, .inr (.inl vy_28))), ((Ma 14), .inl (tc 0, 427, .inl g_123)), ((Ma 12), .inl (tc 0, 46, .inl sv_18)), ((Ma 0), .inr (12, [.ref (Ma 1), .int (Mv 0), .int (Mv 1), .ref (Ma 2), .ref (Ma 3), .ref (Ma 4), .ref (Ma 5), .ref (Ma 6), .int (Mv 2), .int (Mv 3), .int (Mv 4), .int (Mv 5), .int (Mv 6), .int (Mv 7), .int (Mv 8), .ref (Ma 7), .int (Mv 9), .ref (Ma 8), .int vy_30, .ref (Ma 9), .ref (Ma 10), .int (Mv 11), .int (Mv 12), .int (Mv 13), .ref (Ma 11), .int (Mv 14), .ref (Ma 12), .ref (Ma 13), .ref (Ma 14), .ref (Ma 15), .ref (Ma 16), .long (Mj 0), .ref (Ma 17), .ref (Ma 18), .ref (Ma 19), .ref (Ma 20)])), ((Ma 10), .inl (tc 0, 126, .inl vy_31))] H := hP₀
                  replace hD : va_D A [((Ma 2), .inl (tc 0, 2400, .inl (Mf 2))), ((Ma 4), .inl (tc 0, 288, .inl (Mf 4))), ((Ma 5), .inl (tc 0, 6, .inl (Mf 5))), ((Ma 8), .inl (tc 1, 64, .inr (.inl vy_27))), ((Ma 9), .inl (tc 1, 13, .inr (.inl vy_28))), ((Ma 14), .inl (tc 0, 427, .inl g_123)), ((Ma 12), .inl (tc 0, 46, .inl sv_18)), ((Ma 0), .inr (12, [.ref (Ma 1), .int (Mv 0), .int (Mv 1), .ref (Ma 2), .ref (Ma 3), .ref (Ma 4), .ref (Ma 5), .ref (Ma 6), .int (Mv 2), .int (Mv 3), .int (Mv 4), .int (Mv 5), .int (Mv 6), .int (Mv 7), .int (Mv 8), .ref (Ma 7), .int (Mv 9), .ref (Ma 8), .int vy_30, .ref (Ma 9), .ref (Ma 10), .int (Mv 11), .int (Mv 12), .int (Mv 13), .ref (Ma 11), .int (Mv 14), .ref (Ma 12), .ref (Ma 13), .ref (Ma 14), .ref (Ma 15), .ref (Ma 16), .long (Mj 0), .ref (Ma 17), .ref (Ma 18), .ref (Ma 19), .ref (Ma 20)])), ((Ma 10), .inl (tc 0, 126, .inl vy_31))] := hD₀
                  replace hS := hS₀
                  clear hP₀ hD₀ hS₀
                  obtain ⟨x_124, ex_124⟩ : ∃ y : Int32, y = vy_87 + 1 := ⟨_, rfl⟩
                  refine lv_iinc (v := x_124) (lv' := [(3, .int x_124), (2, .int vy_26), (0, .ref (Ma 0)), (1, .int x1)]) hx hb dX12_ring_77 hl (k := 0) rfl (by rw [ex_124]; rfl) (by decide) rfl (fun ls hl₀ => ?_)
                  replace hl := hl₀
                  clear hl₀
                  refine lv_goto (tgt := 49) hx hb dX12_ring_80 (by decide) ?_
                  have hb_125 : 6 - (x_124 : Int32).toInt < 6 - (vy_87 : Int32).toInt ∧ 1 ≤ 6 - (vy_87 : Int32).toInt := by
                    have z_1 : ¬ (r_4 : Int32).toInt = (0 : Int32).toInt := fun z => c_7 (Int32.toInt_inj.mp z)
                    have z_2 : ¬ (r_11 : Int32).toInt = (0 : Int32).toInt := fun z => c_14 (Int32.toInt_inj.mp z)
                    have z_3 := Int32.le_iff_toInt_le.mp (Int32.not_lt.mp c_38)
                    have z_4 := Int32.lt_iff_toInt_lt.mp (Int32.not_le.mp c_95)
                    have y_0 : (0 : Int32).toInt = 0 := by decide
                    have y_60 : (60 : Int32).toInt = 60 := by decide
                    have y_1 : (1 : Int32).toInt = 1 := by decide
                    have t_x_124 : x_124.toInt = (vy_87 : Int32).toInt + (1 : Int32).toInt := by rw [ex_124]; exact add_toInt (by omega) (by omega)
                    refine ⟨?_, ?_⟩ <;> omega
                  have ha_126 : 0 ≤ (x_124 : Int32).toInt := by
                    have z_1 : ¬ (r_4 : Int32).toInt = (0 : Int32).toInt := fun z => c_7 (Int32.toInt_inj.mp z)
                    have z_2 : ¬ (r_11 : Int32).toInt = (0 : Int32).toInt := fun z => c_14 (Int32.toInt_inj.mp z)
                    have z_3 := Int32.le_iff_toInt_le.mp (Int32.not_lt.mp c_38)
                    have z_4 := Int32.lt_iff_toInt_lt.mp (Int32.not_le.mp c_95)
                    have y_0 : (0 : Int32).toInt = 0 := by decide
                    have y_60 : (60 : Int32).toInt = 60 := by decide
                    have y_1 : (1 : Int32).toInt = 1 := by decide
                    have t_x_124 : x_124.toInt = (vy_87 : Int32).toInt + (1 : Int32).toInt := by rw [ex_124]; exact add_toInt (by omega) (by omega)
                    omega
                  exact ih_90 x_124 g_123 _ _ _ (by omega) ha_126 (hP.sub [0, 1, 2, 3, 4, 5, 7, 8, 6] rfl) (hD.sub [0, 1, 2, 3, 4, 5, 7, 8, 6] rfl rfl) hS (lv_sub hl [0, 1, 2, 3] rfl)
            have ha_127 : 0 ≤ (0 : Int32).toInt := by
              have z_1 : ¬ (r_4 : Int32).toInt = (0 : Int32).toInt := fun z => c_7 (Int32.toInt_inj.mp z)
              have z_2 : ¬ (r_11 : Int32).toInt = (0 : Int32).toInt := fun z => c_14 (Int32.toInt_inj.mp z)
              have z_3 := Int32.le_iff_toInt_le.mp (Int32.not_lt.mp c_38)
              have y_0 : (0 : Int32).toInt = 0 := by decide
              have y_60 : (60 : Int32).toInt = 60 := by decide
              omega
            exact loop_91 _ 0 g_84 _ _ _ (Nat.lt_succ_self _) ha_127 hP hD hS hl
      have ha_128 : 0 ≤ (0 : Int32).toInt ∧ (0 : Int32).toInt ≤ 61 := by
        have z_1 : ¬ (r_4 : Int32).toInt = (0 : Int32).toInt := fun z => c_7 (Int32.toInt_inj.mp z)
        have z_2 : ¬ (r_11 : Int32).toInt = (0 : Int32).toInt := fun z => c_14 (Int32.toInt_inj.mp z)
        have y_0 : (0 : Int32).toInt = 0 := by decide
        refine ⟨?_, ?_⟩ <;> omega
      have ha_129 : 999 ≤ (999 + (0 : Int32).toInt) := by
        have z_1 : ¬ (r_4 : Int32).toInt = (0 : Int32).toInt := fun z => c_7 (Int32.toInt_inj.mp z)
        have z_2 : ¬ (r_11 : Int32).toInt = (0 : Int32).toInt := fun z => c_14 (Int32.toInt_inj.mp z)
        have y_0 : (0 : Int32).toInt = 0 := by decide
        omega
      exact loop_34 _ 0 (Mg 8) (Mg 9) (Mf 14) (Mv 10) (Mf 10) _ _ _ (Nat.lt_succ_self _) ha_128 (SaidD.mono h_said ha_129) hP hD hS hl
    · skip
      refine lv_iconst (v := (-1)) hx hb dX12_ring_17 (by decide) ?_
      exact retI (v := (-1)) hx hb hr hlk (rfl) hP hD hS ((Mv 10), (Mg 8), (Mg 9), (Mf 10), (Mf 12), (Mf 14)) ⟨_, rfl, trivial, h_said⟩ [7, 0, 1, 2, 3, 4, 8, 5, 6] rfl rfl dX12_ring_18 (Nat.le_of_ble_eq_true rfl) (Nat.le_of_ble_eq_true rfl) rfl
