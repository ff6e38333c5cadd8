set_option maxRecDepth 16384
theorem dX12_alikeAt_0 : decode cX12_alikeAt 0 = .ok (.iconst 0, 1) := by decide +kernel
theorem dX12_alikeAt_1 : decode cX12_alikeAt 1 = .ok (.istore_n 2, 1) := by decide +kernel
theorem dX12_alikeAt_2 : decode cX12_alikeAt 2 = .ok (.iconst 0, 1) := by decide +kernel
theorem dX12_alikeAt_3 : decode cX12_alikeAt 3 = .ok (.istore_n 3, 1) := by decide +kernel
theorem dX12_alikeAt_4 : decode cX12_alikeAt 4 = .ok (.iload_n 3, 1) := by decide +kernel
theorem dX12_alikeAt_5 : decode cX12_alikeAt 5 = .ok (.aload_n 0, 1) := by decide +kernel
theorem dX12_alikeAt_6 : decode cX12_alikeAt 6 = .ok (.getfield 256, 3) := by decide +kernel
theorem dX12_alikeAt_9 : decode cX12_alikeAt 9 = .ok (.if_icmp .gt 96, 3) := by decide +kernel
theorem dX12_alikeAt_12 : decode cX12_alikeAt 12 = .ok (.iconst 0, 1) := by decide +kernel
theorem dX12_alikeAt_13 : decode cX12_alikeAt 13 = .ok (.istore 4, 2) := by decide +kernel
theorem dX12_alikeAt_15 : decode cX12_alikeAt 15 = .ok (.iconst 0, 1) := by decide +kernel
theorem dX12_alikeAt_16 : decode cX12_alikeAt 16 = .ok (.istore 5, 2) := by decide +kernel
theorem dX12_alikeAt_18 : decode cX12_alikeAt 18 = .ok (.iload 5, 2) := by decide +kernel
theorem dX12_alikeAt_20 : decode cX12_alikeAt 20 = .ok (.aload_n 0, 1) := by decide +kernel
theorem dX12_alikeAt_21 : decode cX12_alikeAt 21 = .ok (.getfield 256, 3) := by decide +kernel
theorem dX12_alikeAt_24 : decode cX12_alikeAt 24 = .ok (.if_icmp .gt 62, 3) := by decide +kernel
theorem dX12_alikeAt_27 : decode cX12_alikeAt 27 = .ok (.aload_n 0, 1) := by decide +kernel
theorem dX12_alikeAt_28 : decode cX12_alikeAt 28 = .ok (.getfield 58, 3) := by decide +kernel
theorem dX12_alikeAt_31 : decode cX12_alikeAt 31 = .ok (.iload_n 3, 1) := by decide +kernel
theorem dX12_alikeAt_32 : decode cX12_alikeAt 32 = .ok (.baload, 1) := by decide +kernel
theorem dX12_alikeAt_33 : decode cX12_alikeAt 33 = .ok (.ifCond .eq 53, 3) := by decide +kernel
theorem dX12_alikeAt_36 : decode cX12_alikeAt 36 = .ok (.iload 4, 2) := by decide +kernel
theorem dX12_alikeAt_38 : decode cX12_alikeAt 38 = .ok (.aload_n 0, 1) := by decide +kernel
theorem dX12_alikeAt_39 : decode cX12_alikeAt 39 = .ok (.getfield 58, 3) := by decide +kernel
theorem dX12_alikeAt_42 : decode cX12_alikeAt 42 = .ok (.iload 5, 2) := by decide +kernel
theorem dX12_alikeAt_44 : decode cX12_alikeAt 44 = .ok (.baload, 1) := by decide +kernel
theorem dX12_alikeAt_45 : decode cX12_alikeAt 45 = .ok (.ifCond .eq 31, 3) := by decide +kernel
theorem dX12_alikeAt_48 : decode cX12_alikeAt 48 = .ok (.aload_n 0, 1) := by decide +kernel
theorem dX12_alikeAt_49 : decode cX12_alikeAt 49 = .ok (.getfield 62, 3) := by decide +kernel
theorem dX12_alikeAt_52 : decode cX12_alikeAt 52 = .ok (.iload_n 3, 1) := by decide +kernel
theorem dX12_alikeAt_53 : decode cX12_alikeAt 53 = .ok (.iload_n 1, 1) := by decide +kernel
theorem dX12_alikeAt_54 : decode cX12_alikeAt 54 = .ok (.invokestatic 402, 3) := by decide +kernel
theorem dX12_alikeAt_57 : decode cX12_alikeAt 57 = .ok (.iaload, 1) := by decide +kernel
theorem dX12_alikeAt_58 : decode cX12_alikeAt 58 = .ok (.aload_n 0, 1) := by decide +kernel
theorem dX12_alikeAt_59 : decode cX12_alikeAt 59 = .ok (.getfield 62, 3) := by decide +kernel
theorem dX12_alikeAt_62 : decode cX12_alikeAt 62 = .ok (.iload 5, 2) := by decide +kernel
theorem dX12_alikeAt_64 : decode cX12_alikeAt 64 = .ok (.iload_n 1, 1) := by decide +kernel
theorem dX12_alikeAt_65 : decode cX12_alikeAt 65 = .ok (.invokestatic 402, 3) := by decide +kernel
theorem dX12_alikeAt_68 : decode cX12_alikeAt 68 = .ok (.iaload, 1) := by decide +kernel
theorem dX12_alikeAt_69 : decode cX12_alikeAt 69 = .ok (.if_icmp .ne 7, 3) := by decide +kernel
theorem dX12_alikeAt_72 : decode cX12_alikeAt 72 = .ok (.iconst 1, 1) := by decide +kernel
theorem dX12_alikeAt_73 : decode cX12_alikeAt 73 = .ok (.goto 4, 3) := by decide +kernel
theorem dX12_alikeAt_76 : decode cX12_alikeAt 76 = .ok (.iconst 0, 1) := by decide +kernel
theorem dX12_alikeAt_77 : decode cX12_alikeAt 77 = .ok (.iadd, 1) := by decide +kernel
theorem dX12_alikeAt_78 : decode cX12_alikeAt 78 = .ok (.istore 4, 2) := by decide +kernel
theorem dX12_alikeAt_80 : decode cX12_alikeAt 80 = .ok (.iinc 5 1, 3) := by decide +kernel
theorem dX12_alikeAt_83 : decode cX12_alikeAt 83 = .ok (.goto (-65), 3) := by decide +kernel
theorem dX12_alikeAt_86 : decode cX12_alikeAt 86 = .ok (.iload 4, 2) := by decide +kernel
theorem dX12_alikeAt_88 : decode cX12_alikeAt 88 = .ok (.iload_n 2, 1) := by decide +kernel
theorem dX12_alikeAt_89 : decode cX12_alikeAt 89 = .ok (.if_icmp .le 8, 3) := by decide +kernel
theorem dX12_alikeAt_92 : decode cX12_alikeAt 92 = .ok (.iload 4, 2) := by decide +kernel
theorem dX12_alikeAt_94 : decode cX12_alikeAt 94 = .ok (.goto 4, 3) := by decide +kernel
theorem dX12_alikeAt_97 : decode cX12_alikeAt 97 = .ok (.iload_n 2, 1) := by decide +kernel
theorem dX12_alikeAt_98 : decode cX12_alikeAt 98 = .ok (.istore_n 2, 1) := by decide +kernel
theorem dX12_alikeAt_99 : decode cX12_alikeAt 99 = .ok (.iinc 3 1, 3) := by decide +kernel
theorem dX12_alikeAt_102 : decode cX12_alikeAt 102 = .ok (.goto (-98), 3) := by decide +kernel
theorem dX12_alikeAt_105 : decode cX12_alikeAt 105 = .ok (.iload_n 2, 1) := by decide +kernel
theorem dX12_alikeAt_106 : decode cX12_alikeAt 106 = .ok (.ireturn, 1) := by decide +kernel
theorem dX12_areNotesSo_0 : decode cX12_areNotesSo 0 = .ok (.iconst 0, 1) := by decide +kernel
theorem dX12_areNotesSo_1 : decode cX12_areNotesSo 1 = .ok (.istore_n 2, 1) := by decide +kernel
theorem dX12_areNotesSo_2 : decode cX12_areNotesSo 2 = .ok (.iload_n 2, 1) := by decide +kernel
theorem dX12_areNotesSo_3 : decode cX12_areNotesSo 3 = .ok (.iconst 3, 1) := by decide +kernel
theorem dX12_areNotesSo_4 : decode cX12_areNotesSo 4 = .ok (.aload_n 0, 1) := by decide +kernel
theorem dX12_areNotesSo_5 : decode cX12_areNotesSo 5 = .ok (.getfield 39, 3) := by decide +kernel
theorem dX12_areNotesSo_8 : decode cX12_areNotesSo 8 = .ok (.bipush 125, 2) := by decide +kernel
theorem dX12_areNotesSo_10 : decode cX12_areNotesSo 10 = .ok (.iaload, 1) := by decide +kernel
theorem dX12_areNotesSo_11 : decode cX12_areNotesSo 11 = .ok (.imul, 1) := by decide +kernel
theorem dX12_areNotesSo_12 : decode cX12_areNotesSo 12 = .ok (.if_icmp .ge 57, 3) := by decide +kernel
theorem dX12_areNotesSo_15 : decode cX12_areNotesSo 15 = .ok (.aload_n 0, 1) := by decide +kernel
theorem dX12_areNotesSo_16 : decode cX12_areNotesSo 16 = .ok (.getfield 62, 3) := by decide +kernel
theorem dX12_areNotesSo_19 : decode cX12_areNotesSo 19 = .ok (.iload_n 1, 1) := by decide +kernel
theorem dX12_areNotesSo_20 : decode cX12_areNotesSo 20 = .ok (.aload_n 0, 1) := by decide +kernel
theorem dX12_areNotesSo_21 : decode cX12_areNotesSo 21 = .ok (.getfield 39, 3) := by decide +kernel
theorem dX12_areNotesSo_24 : decode cX12_areNotesSo 24 = .ok (.bipush 95, 2) := by decide +kernel
theorem dX12_areNotesSo_26 : decode cX12_areNotesSo 26 = .ok (.iload_n 2, 1) := by decide +kernel
theorem dX12_areNotesSo_27 : decode cX12_areNotesSo 27 = .ok (.iadd, 1) := by decide +kernel
theorem dX12_areNotesSo_28 : decode cX12_areNotesSo 28 = .ok (.iaload, 1) := by decide +kernel
theorem dX12_areNotesSo_29 : decode cX12_areNotesSo 29 = .ok (.invokestatic 402, 3) := by decide +kernel
theorem dX12_areNotesSo_32 : decode cX12_areNotesSo 32 = .ok (.iaload, 1) := by decide +kernel
theorem dX12_areNotesSo_33 : decode cX12_areNotesSo 33 = .ok (.aload_n 0, 1) := by decide +kernel
theorem dX12_areNotesSo_34 : decode cX12_areNotesSo 34 = .ok (.getfield 39, 3) := by decide +kernel
theorem dX12_areNotesSo_37 : decode cX12_areNotesSo 37 = .ok (.bipush 95, 2) := by decide +kernel
theorem dX12_areNotesSo_39 : decode cX12_areNotesSo 39 = .ok (.iload_n 2, 1) := by decide +kernel
theorem dX12_areNotesSo_40 : decode cX12_areNotesSo 40 = .ok (.iadd, 1) := by decide +kernel
theorem dX12_areNotesSo_41 : decode cX12_areNotesSo 41 = .ok (.iconst 1, 1) := by decide +kernel
theorem dX12_areNotesSo_42 : decode cX12_areNotesSo 42 = .ok (.iadd, 1) := by decide +kernel
theorem dX12_areNotesSo_43 : decode cX12_areNotesSo 43 = .ok (.iaload, 1) := by decide +kernel
theorem dX12_areNotesSo_44 : decode cX12_areNotesSo 44 = .ok (.ishr, 1) := by decide +kernel
theorem dX12_areNotesSo_45 : decode cX12_areNotesSo 45 = .ok (.iconst 1, 1) := by decide +kernel
theorem dX12_areNotesSo_46 : decode cX12_areNotesSo 46 = .ok (.iand, 1) := by decide +kernel
theorem dX12_areNotesSo_47 : decode cX12_areNotesSo 47 = .ok (.aload_n 0, 1) := by decide +kernel
theorem dX12_areNotesSo_48 : decode cX12_areNotesSo 48 = .ok (.getfield 39, 3) := by decide +kernel
theorem dX12_areNotesSo_51 : decode cX12_areNotesSo 51 = .ok (.bipush 95, 2) := by decide +kernel
theorem dX12_areNotesSo_53 : decode cX12_areNotesSo 53 = .ok (.iload_n 2, 1) := by decide +kernel
theorem dX12_areNotesSo_54 : decode cX12_areNotesSo 54 = .ok (.iadd, 1) := by decide +kernel
theorem dX12_areNotesSo_55 : decode cX12_areNotesSo 55 = .ok (.iconst 2, 1) := by decide +kernel
theorem dX12_areNotesSo_56 : decode cX12_areNotesSo 56 = .ok (.iadd, 1) := by decide +kernel
theorem dX12_areNotesSo_57 : decode cX12_areNotesSo 57 = .ok (.iaload, 1) := by decide +kernel
theorem dX12_areNotesSo_58 : decode cX12_areNotesSo 58 = .ok (.if_icmp .eq 5, 3) := by decide +kernel
theorem dX12_areNotesSo_61 : decode cX12_areNotesSo 61 = .ok (.iconst 0, 1) := by decide +kernel
theorem dX12_areNotesSo_62 : decode cX12_areNotesSo 62 = .ok (.ireturn, 1) := by decide +kernel
theorem dX12_areNotesSo_63 : decode cX12_areNotesSo 63 = .ok (.iinc 2 3, 3) := by decide +kernel
theorem dX12_areNotesSo_66 : decode cX12_areNotesSo 66 = .ok (.goto (-64), 3) := by decide +kernel
theorem dX12_areNotesSo_69 : decode cX12_areNotesSo 69 = .ok (.iconst 1, 1) := by decide +kernel
theorem dX12_areNotesSo_70 : decode cX12_areNotesSo 70 = .ok (.ireturn, 1) := by decide +kernel
theorem dX12_back_0 : decode cX12_back 0 = .ok (.iload_n 1, 1) := by decide +kernel
theorem dX12_back_1 : decode cX12_back 1 = .ok (.i2l, 1) := by decide +kernel
theorem dX12_back_2 : decode cX12_back 2 = .ok (.lconst 0, 1) := by decide +kernel
theorem dX12_back_3 : decode cX12_back 3 = .ok (.ldc2_w 437, 3) := by decide +kernel
theorem dX12_back_6 : decode cX12_back 6 = .ok (.invokestatic 115, 3) := by decide +kernel
theorem dX12_back_9 : decode cX12_back 9 = .ok (.ifCond .eq 12, 3) := by decide +kernel
theorem dX12_back_12 : decode cX12_back 12 = .ok (.aload_n 0, 1) := by decide +kernel
theorem dX12_back_13 : decode cX12_back 13 = .ok (.getfield 74, 3) := by decide +kernel
theorem dX12_back_16 : decode cX12_back 16 = .ok (.iload_n 1, 1) := by decide +kernel
theorem dX12_back_17 : decode cX12_back 17 = .ok (.baload, 1) := by decide +kernel
theorem dX12_back_18 : decode cX12_back 18 = .ok (.ifCond .ne 5, 3) := by decide +kernel
theorem dX12_back_21 : decode cX12_back 21 = .ok (.iconst (-1), 1) := by decide +kernel
theorem dX12_back_22 : decode cX12_back 22 = .ok (.ireturn, 1) := by decide +kernel
theorem dX12_back_23 : decode cX12_back 23 = .ok (.aload_n 0, 1) := by decide +kernel
theorem dX12_back_24 : decode cX12_back 24 = .ok (.aload_n 0, 1) := by decide +kernel
theorem dX12_back_25 : decode cX12_back 25 = .ok (.getfield 68, 3) := by decide +kernel
theorem dX12_back_28 : decode cX12_back 28 = .ok (.iload_n 1, 1) := by decide +kernel
theorem dX12_back_29 : decode cX12_back 29 = .ok (.iaload, 1) := by decide +kernel
theorem dX12_back_30 : decode cX12_back 30 = .ok (.putfield 42, 3) := by decide +kernel
theorem dX12_back_33 : decode cX12_back 33 = .ok (.aload_n 0, 1) := by decide +kernel
theorem dX12_back_34 : decode cX12_back 34 = .ok (.aload_n 0, 1) := by decide +kernel
theorem dX12_back_35 : decode cX12_back 35 = .ok (.getfield 71, 3) := by decide +kernel
theorem dX12_back_38 : decode cX12_back 38 = .ok (.iload_n 1, 1) := by decide +kernel
theorem dX12_back_39 : decode cX12_back 39 = .ok (.iaload, 1) := by decide +kernel
theorem dX12_back_40 : decode cX12_back 40 = .ok (.putfield 414, 3) := by decide +kernel
theorem dX12_back_43 : decode cX12_back 43 = .ok (.aload_n 0, 1) := by decide +kernel
theorem dX12_back_44 : decode cX12_back 44 = .ok (.iconst 0, 1) := by decide +kernel
theorem dX12_back_45 : decode cX12_back 45 = .ok (.putfield 265, 3) := by decide +kernel
theorem dX12_back_48 : decode cX12_back 48 = .ok (.iconst 0, 1) := by decide +kernel
theorem dX12_back_49 : decode cX12_back 49 = .ok (.istore_n 2, 1) := by decide +kernel
theorem dX12_back_50 : decode cX12_back 50 = .ok (.iload_n 2, 1) := by decide +kernel
theorem dX12_back_51 : decode cX12_back 51 = .ok (.bipush 126, 2) := by decide +kernel
theorem dX12_back_53 : decode cX12_back 53 = .ok (.if_icmp .ge 26, 3) := by decide +kernel
theorem dX12_back_56 : decode cX12_back 56 = .ok (.aload_n 0, 1) := by decide +kernel
theorem dX12_back_57 : decode cX12_back 57 = .ok (.getfield 39, 3) := by decide +kernel
theorem dX12_back_60 : decode cX12_back 60 = .ok (.iload_n 2, 1) := by decide +kernel
theorem dX12_back_61 : decode cX12_back 61 = .ok (.aload_n 0, 1) := by decide +kernel
theorem dX12_back_62 : decode cX12_back 62 = .ok (.getfield 65, 3) := by decide +kernel
theorem dX12_back_65 : decode cX12_back 65 = .ok (.bipush 126, 2) := by decide +kernel
theorem dX12_back_67 : decode cX12_back 67 = .ok (.iload_n 1, 1) := by decide +kernel
theorem dX12_back_68 : decode cX12_back 68 = .ok (.imul, 1) := by decide +kernel
theorem dX12_back_69 : decode cX12_back 69 = .ok (.iload_n 2, 1) := by decide +kernel
theorem dX12_back_70 : decode cX12_back 70 = .ok (.iadd, 1) := by decide +kernel
theorem dX12_back_71 : decode cX12_back 71 = .ok (.iaload, 1) := by decide +kernel
theorem dX12_back_72 : decode cX12_back 72 = .ok (.iastore, 1) := by decide +kernel
theorem dX12_back_73 : decode cX12_back 73 = .ok (.iinc 2 1, 3) := by decide +kernel
theorem dX12_back_76 : decode cX12_back 76 = .ok (.goto (-26), 3) := by decide +kernel
theorem dX12_back_79 : decode cX12_back 79 = .ok (.aload_n 0, 1) := by decide +kernel
theorem dX12_back_80 : decode cX12_back 80 = .ok (.getfield 39, 3) := by decide +kernel
theorem dX12_back_83 : decode cX12_back 83 = .ok (.bipush 10, 2) := by decide +kernel
theorem dX12_back_85 : decode cX12_back 85 = .ok (.iaload, 1) := by decide +kernel
theorem dX12_back_86 : decode cX12_back 86 = .ok (.ireturn, 1) := by decide +kernel
theorem dX12_buyer_0 : decode cX12_buyer 0 = .ok (.aload_n 0, 1) := by decide +kernel
theorem dX12_buyer_1 : decode cX12_buyer 1 = .ok (.iload_n 1, 1) := by decide +kernel
theorem dX12_buyer_2 : decode cX12_buyer 2 = .ok (.invokevirtual 298, 3) := by decide +kernel
theorem dX12_buyer_5 : decode cX12_buyer 5 = .ok (.ifCond .ne 5, 3) := by decide +kernel
theorem dX12_buyer_8 : decode cX12_buyer 8 = .ok (.iconst (-1), 1) := by decide +kernel
theorem dX12_buyer_9 : decode cX12_buyer 9 = .ok (.ireturn, 1) := by decide +kernel
theorem dX12_buyer_10 : decode cX12_buyer 10 = .ok (.iload_n 2, 1) := by decide +kernel
theorem dX12_buyer_11 : decode cX12_buyer 11 = .ok (.tableswitch 81 0 5 #[37, 43, 53, 63, 69, 75], 37) := by decide +kernel
theorem dX12_buyer_48 : decode cX12_buyer 48 = .ok (.aload_n 0, 1) := by decide +kernel
theorem dX12_buyer_49 : decode cX12_buyer 49 = .ok (.iload_n 1, 1) := by decide +kernel
theorem dX12_buyer_50 : decode cX12_buyer 50 = .ok (.invokevirtual 301, 3) := by decide +kernel
theorem dX12_buyer_53 : decode cX12_buyer 53 = .ok (.ireturn, 1) := by decide +kernel
theorem dX12_buyer_54 : decode cX12_buyer 54 = .ok (.aload_n 0, 1) := by decide +kernel
theorem dX12_buyer_55 : decode cX12_buyer 55 = .ok (.getfield 39, 3) := by decide +kernel
theorem dX12_buyer_58 : decode cX12_buyer 58 = .ok (.bipush 56, 2) := by decide +kernel
theorem dX12_buyer_60 : decode cX12_buyer 60 = .ok (.iload_n 1, 1) := by decide +kernel
theorem dX12_buyer_61 : decode cX12_buyer 61 = .ok (.iadd, 1) := by decide +kernel
theorem dX12_buyer_62 : decode cX12_buyer 62 = .ok (.iaload, 1) := by decide +kernel
theorem dX12_buyer_63 : decode cX12_buyer 63 = .ok (.ireturn, 1) := by decide +kernel
theorem dX12_buyer_64 : decode cX12_buyer 64 = .ok (.aload_n 0, 1) := by decide +kernel
theorem dX12_buyer_65 : decode cX12_buyer 65 = .ok (.getfield 39, 3) := by decide +kernel
theorem dX12_buyer_68 : decode cX12_buyer 68 = .ok (.bipush 62, 2) := by decide +kernel
theorem dX12_buyer_70 : decode cX12_buyer 70 = .ok (.iload_n 1, 1) := by decide +kernel
theorem dX12_buyer_71 : decode cX12_buyer 71 = .ok (.iadd, 1) := by decide +kernel
theorem dX12_buyer_72 : decode cX12_buyer 72 = .ok (.iaload, 1) := by decide +kernel
theorem dX12_buyer_73 : decode cX12_buyer 73 = .ok (.ireturn, 1) := by decide +kernel
theorem dX12_buyer_74 : decode cX12_buyer 74 = .ok (.aload_n 0, 1) := by decide +kernel
theorem dX12_buyer_75 : decode cX12_buyer 75 = .ok (.iload_n 1, 1) := by decide +kernel
theorem dX12_buyer_76 : decode cX12_buyer 76 = .ok (.invokevirtual 289, 3) := by decide +kernel
theorem dX12_buyer_79 : decode cX12_buyer 79 = .ok (.ireturn, 1) := by decide +kernel
theorem dX12_buyer_80 : decode cX12_buyer 80 = .ok (.aload_n 0, 1) := by decide +kernel
theorem dX12_buyer_81 : decode cX12_buyer 81 = .ok (.iload_n 1, 1) := by decide +kernel
theorem dX12_buyer_82 : decode cX12_buyer 82 = .ok (.invokevirtual 292, 3) := by decide +kernel
theorem dX12_buyer_85 : decode cX12_buyer 85 = .ok (.ireturn, 1) := by decide +kernel
theorem dX12_buyer_86 : decode cX12_buyer 86 = .ok (.aload_n 0, 1) := by decide +kernel
theorem dX12_buyer_87 : decode cX12_buyer 87 = .ok (.iload_n 1, 1) := by decide +kernel
theorem dX12_buyer_88 : decode cX12_buyer 88 = .ok (.invokevirtual 304, 3) := by decide +kernel
theorem dX12_buyer_91 : decode cX12_buyer 91 = .ok (.ireturn, 1) := by decide +kernel
theorem dX12_buyer_92 : decode cX12_buyer 92 = .ok (.iconst (-1), 1) := by decide +kernel
theorem dX12_buyer_93 : decode cX12_buyer 93 = .ok (.ireturn, 1) := by decide +kernel
theorem dX12_count_0 : decode cX12_count 0 = .ok (.iconst 0, 1) := by decide +kernel
theorem dX12_count_1 : decode cX12_count 1 = .ok (.istore_n 2, 1) := by decide +kernel
theorem dX12_count_2 : decode cX12_count 2 = .ok (.iload_n 1, 1) := by decide +kernel
theorem dX12_count_3 : decode cX12_count 3 = .ok (.tableswitch 201 0 15 #[77, 77, 77, 86, 91, 96, 104, 109, 117, 130, 135, 140, 178, 186, 191, 196], 77) := by decide +kernel
theorem dX12_count_80 : decode cX12_count 80 = .ok (.aload_n 0, 1) := by decide +kernel
theorem dX12_count_81 : decode cX12_count 81 = .ok (.getfield 39, 3) := by decide +kernel
theorem dX12_count_84 : decode cX12_count 84 = .ok (.iload_n 1, 1) := by decide +kernel
theorem dX12_count_85 : decode cX12_count 85 = .ok (.iconst 1, 1) := by decide +kernel
theorem dX12_count_86 : decode cX12_count 86 = .ok (.iadd, 1) := by decide +kernel
theorem dX12_count_87 : decode cX12_count 87 = .ok (.iaload, 1) := by decide +kernel
theorem dX12_count_88 : decode cX12_count 88 = .ok (.ireturn, 1) := by decide +kernel
theorem dX12_count_89 : decode cX12_count 89 = .ok (.aload_n 0, 1) := by decide +kernel
theorem dX12_count_90 : decode cX12_count 90 = .ok (.getfield 256, 3) := by decide +kernel
theorem dX12_count_93 : decode cX12_count 93 = .ok (.ireturn, 1) := by decide +kernel
theorem dX12_count_94 : decode cX12_count 94 = .ok (.aload_n 0, 1) := by decide +kernel
theorem dX12_count_95 : decode cX12_count 95 = .ok (.getfield 42, 3) := by decide +kernel
theorem dX12_count_98 : decode cX12_count 98 = .ok (.ireturn, 1) := by decide +kernel
theorem dX12_count_99 : decode cX12_count 99 = .ok (.aload_n 0, 1) := by decide +kernel
theorem dX12_count_100 : decode cX12_count 100 = .ok (.getfield 39, 3) := by decide +kernel
theorem dX12_count_103 : decode cX12_count 103 = .ok (.bipush 10, 2) := by decide +kernel
theorem dX12_count_105 : decode cX12_count 105 = .ok (.iaload, 1) := by decide +kernel
theorem dX12_count_106 : decode cX12_count 106 = .ok (.ireturn, 1) := by decide +kernel
theorem dX12_count_107 : decode cX12_count 107 = .ok (.aload_n 0, 1) := by decide +kernel
theorem dX12_count_108 : decode cX12_count 108 = .ok (.invokevirtual 314, 3) := by decide +kernel
theorem dX12_count_111 : decode cX12_count 111 = .ok (.ireturn, 1) := by decide +kernel
theorem dX12_count_112 : decode cX12_count 112 = .ok (.aload_n 0, 1) := by decide +kernel
theorem dX12_count_113 : decode cX12_count 113 = .ok (.getfield 39, 3) := by decide +kernel
theorem dX12_count_116 : decode cX12_count 116 = .ok (.bipush 11, 2) := by decide +kernel
theorem dX12_count_118 : decode cX12_count 118 = .ok (.iaload, 1) := by decide +kernel
theorem dX12_count_119 : decode cX12_count 119 = .ok (.ireturn, 1) := by decide +kernel
theorem dX12_count_120 : decode cX12_count 120 = .ok (.aload_n 0, 1) := by decide +kernel
theorem dX12_count_121 : decode cX12_count 121 = .ok (.getfield 39, 3) := by decide +kernel
theorem dX12_count_124 : decode cX12_count 124 = .ok (.bipush 36, 2) := by decide +kernel
theorem dX12_count_126 : decode cX12_count 126 = .ok (.aload_n 0, 1) := by decide +kernel
theorem dX12_count_127 : decode cX12_count 127 = .ok (.invokevirtual 314, 3) := by decide +kernel
theorem dX12_count_130 : decode cX12_count 130 = .ok (.iadd, 1) := by decide +kernel
theorem dX12_count_131 : decode cX12_count 131 = .ok (.iaload, 1) := by decide +kernel
theorem dX12_count_132 : decode cX12_count 132 = .ok (.ireturn, 1) := by decide +kernel
theorem dX12_count_133 : decode cX12_count 133 = .ok (.aload_n 0, 1) := by decide +kernel
theorem dX12_count_134 : decode cX12_count 134 = .ok (.invokevirtual 317, 3) := by decide +kernel
theorem dX12_count_137 : decode cX12_count 137 = .ok (.ireturn, 1) := by decide +kernel
theorem dX12_count_138 : decode cX12_count 138 = .ok (.aload_n 0, 1) := by decide +kernel
theorem dX12_count_139 : decode cX12_count 139 = .ok (.invokevirtual 434, 3) := by decide +kernel
theorem dX12_count_142 : decode cX12_count 142 = .ok (.ireturn, 1) := by decide +kernel
theorem dX12_count_143 : decode cX12_count 143 = .ok (.iconst 0, 1) := by decide +kernel
theorem dX12_count_144 : decode cX12_count 144 = .ok (.istore_n 3, 1) := by decide +kernel
theorem dX12_count_145 : decode cX12_count 145 = .ok (.iload_n 3, 1) := by decide +kernel
theorem dX12_count_146 : decode cX12_count 146 = .ok (.aload_n 0, 1) := by decide +kernel
theorem dX12_count_147 : decode cX12_count 147 = .ok (.getfield 39, 3) := by decide +kernel
theorem dX12_count_150 : decode cX12_count 150 = .ok (.iconst 3, 1) := by decide +kernel
theorem dX12_count_151 : decode cX12_count 151 = .ok (.iaload, 1) := by decide +kernel
theorem dX12_count_152 : decode cX12_count 152 = .ok (.if_icmp .ge 27, 3) := by decide +kernel
theorem dX12_count_155 : decode cX12_count 155 = .ok (.iload_n 2, 1) := by decide +kernel
theorem dX12_count_156 : decode cX12_count 156 = .ok (.aload_n 0, 1) := by decide +kernel
theorem dX12_count_157 : decode cX12_count 157 = .ok (.iload_n 3, 1) := by decide +kernel
theorem dX12_count_158 : decode cX12_count 158 = .ok (.invokevirtual 336, 3) := by decide +kernel
theorem dX12_count_161 : decode cX12_count 161 = .ok (.ifCond .eq 9, 3) := by decide +kernel
theorem dX12_count_164 : decode cX12_count 164 = .ok (.iconst 1, 1) := by decide +kernel
theorem dX12_count_165 : decode cX12_count 165 = .ok (.iload_n 3, 1) := by decide +kernel
theorem dX12_count_166 : decode cX12_count 166 = .ok (.ishl, 1) := by decide +kernel
theorem dX12_count_167 : decode cX12_count 167 = .ok (.goto 4, 3) := by decide +kernel
theorem dX12_count_170 : decode cX12_count 170 = .ok (.iconst 0, 1) := by decide +kernel
theorem dX12_count_171 : decode cX12_count 171 = .ok (.ior, 1) := by decide +kernel
theorem dX12_count_172 : decode cX12_count 172 = .ok (.istore_n 2, 1) := by decide +kernel
theorem dX12_count_173 : decode cX12_count 173 = .ok (.iinc 3 1, 3) := by decide +kernel
theorem dX12_count_176 : decode cX12_count 176 = .ok (.goto (-31), 3) := by decide +kernel
theorem dX12_count_179 : decode cX12_count 179 = .ok (.iload_n 2, 1) := by decide +kernel
theorem dX12_count_180 : decode cX12_count 180 = .ok (.ireturn, 1) := by decide +kernel
theorem dX12_count_181 : decode cX12_count 181 = .ok (.aload_n 0, 1) := by decide +kernel
theorem dX12_count_182 : decode cX12_count 182 = .ok (.getfield 39, 3) := by decide +kernel
theorem dX12_count_185 : decode cX12_count 185 = .ok (.bipush 125, 2) := by decide +kernel
theorem dX12_count_187 : decode cX12_count 187 = .ok (.iaload, 1) := by decide +kernel
theorem dX12_count_188 : decode cX12_count 188 = .ok (.ireturn, 1) := by decide +kernel
theorem dX12_count_189 : decode cX12_count 189 = .ok (.aload_n 0, 1) := by decide +kernel
theorem dX12_count_190 : decode cX12_count 190 = .ok (.getfield 265, 3) := by decide +kernel
theorem dX12_count_193 : decode cX12_count 193 = .ok (.ireturn, 1) := by decide +kernel
theorem dX12_count_194 : decode cX12_count 194 = .ok (.aload_n 0, 1) := by decide +kernel
theorem dX12_count_195 : decode cX12_count 195 = .ok (.getfield 414, 3) := by decide +kernel
theorem dX12_count_198 : decode cX12_count 198 = .ok (.ireturn, 1) := by decide +kernel
theorem dX12_count_199 : decode cX12_count 199 = .ok (.aload_n 0, 1) := by decide +kernel
theorem dX12_count_200 : decode cX12_count 200 = .ok (.getfield 77, 3) := by decide +kernel
theorem dX12_count_203 : decode cX12_count 203 = .ok (.ireturn, 1) := by decide +kernel
theorem dX12_count_204 : decode cX12_count 204 = .ok (.iconst (-1), 1) := by decide +kernel
theorem dX12_count_205 : decode cX12_count 205 = .ok (.ireturn, 1) := by decide +kernel
theorem dX12_draw_0 : decode cX12_draw 0 = .ok (.aload_n 0, 1) := by decide +kernel
theorem dX12_draw_1 : decode cX12_draw 1 = .ok (.aload_n 0, 1) := by decide +kernel
theorem dX12_draw_2 : decode cX12_draw 2 = .ok (.getfield 417, 3) := by decide +kernel
theorem dX12_draw_5 : decode cX12_draw 5 = .ok (.ldc2_w 421, 3) := by decide +kernel
theorem dX12_draw_8 : decode cX12_draw 8 = .ok (.lmul, 1) := by decide +kernel
theorem dX12_draw_9 : decode cX12_draw 9 = .ok (.ldc2_w 423, 3) := by decide +kernel
theorem dX12_draw_12 : decode cX12_draw 12 = .ok (.ladd, 1) := by decide +kernel
theorem dX12_draw_13 : decode cX12_draw 13 = .ok (.ldc2_w 425, 3) := by decide +kernel
theorem dX12_draw_16 : decode cX12_draw 16 = .ok (.lrem, 1) := by decide +kernel
theorem dX12_draw_17 : decode cX12_draw 17 = .ok (.putfield 417, 3) := by decide +kernel
theorem dX12_draw_20 : decode cX12_draw 20 = .ok (.aload_n 0, 1) := by decide +kernel
theorem dX12_draw_21 : decode cX12_draw 21 = .ok (.getfield 417, 3) := by decide +kernel
theorem dX12_draw_24 : decode cX12_draw 24 = .ok (.ldc2_w 427, 3) := by decide +kernel
theorem dX12_draw_27 : decode cX12_draw 27 = .ok (.ldiv, 1) := by decide +kernel
theorem dX12_draw_28 : decode cX12_draw 28 = .ok (.iload_n 1, 1) := by decide +kernel
theorem dX12_draw_29 : decode cX12_draw 29 = .ok (.i2l, 1) := by decide +kernel
theorem dX12_draw_30 : decode cX12_draw 30 = .ok (.lrem, 1) := by decide +kernel
theorem dX12_draw_31 : decode cX12_draw 31 = .ok (.l2i, 1) := by decide +kernel
theorem dX12_draw_32 : decode cX12_draw 32 = .ok (.ireturn, 1) := by decide +kernel
theorem dX12_fillsFits_0 : decode cX12_fillsFits 0 = .ok (.aload_n 0, 1) := by decide +kernel
theorem dX12_fillsFits_1 : decode cX12_fillsFits 1 = .ok (.getfield 42, 3) := by decide +kernel
theorem dX12_fillsFits_4 : decode cX12_fillsFits 4 = .ok (.istore_n 1, 1) := by decide +kernel
theorem dX12_fillsFits_5 : decode cX12_fillsFits 5 = .ok (.aload_n 0, 1) := by decide +kernel
theorem dX12_fillsFits_6 : decode cX12_fillsFits 6 = .ok (.invokevirtual 362, 3) := by decide +kernel
theorem dX12_fillsFits_9 : decode cX12_fillsFits 9 = .ok (.iconst 0, 1) := by decide +kernel
theorem dX12_fillsFits_10 : decode cX12_fillsFits 10 = .ok (.istore_n 2, 1) := by decide +kernel
theorem dX12_fillsFits_11 : decode cX12_fillsFits 11 = .ok (.iload_n 2, 1) := by decide +kernel
theorem dX12_fillsFits_12 : decode cX12_fillsFits 12 = .ok (.aload_n 0, 1) := by decide +kernel
theorem dX12_fillsFits_13 : decode cX12_fillsFits 13 = .ok (.getfield 256, 3) := by decide +kernel
theorem dX12_fillsFits_16 : decode cX12_fillsFits 16 = .ok (.if_icmp .gt 59, 3) := by decide +kernel
theorem dX12_fillsFits_19 : decode cX12_fillsFits 19 = .ok (.aload_n 0, 1) := by decide +kernel
theorem dX12_fillsFits_20 : decode cX12_fillsFits 20 = .ok (.iload_n 2, 1) := by decide +kernel
theorem dX12_fillsFits_21 : decode cX12_fillsFits 21 = .ok (.iconst 1, 1) := by decide +kernel
theorem dX12_fillsFits_22 : decode cX12_fillsFits 22 = .ok (.isub, 1) := by decide +kernel
theorem dX12_fillsFits_23 : decode cX12_fillsFits 23 = .ok (.putfield 42, 3) := by decide +kernel
theorem dX12_fillsFits_26 : decode cX12_fillsFits 26 = .ok (.aload_n 0, 1) := by decide +kernel
theorem dX12_fillsFits_27 : decode cX12_fillsFits 27 = .ok (.invokevirtual 262, 3) := by decide +kernel
theorem dX12_fillsFits_30 : decode cX12_fillsFits 30 = .ok (.iconst 0, 1) := by decide +kernel
theorem dX12_fillsFits_31 : decode cX12_fillsFits 31 = .ok (.istore_n 3, 1) := by decide +kernel
theorem dX12_fillsFits_32 : decode cX12_fillsFits 32 = .ok (.iload_n 3, 1) := by decide +kernel
theorem dX12_fillsFits_33 : decode cX12_fillsFits 33 = .ok (.bipush 60, 2) := by decide +kernel
theorem dX12_fillsFits_35 : decode cX12_fillsFits 35 = .ok (.if_icmp .gt 23, 3) := by decide +kernel
theorem dX12_fillsFits_38 : decode cX12_fillsFits 38 = .ok (.aload_n 0, 1) := by decide +kernel
theorem dX12_fillsFits_39 : decode cX12_fillsFits 39 = .ok (.getfield 62, 3) := by decide +kernel
theorem dX12_fillsFits_42 : decode cX12_fillsFits 42 = .ok (.iload_n 2, 1) := by decide +kernel
theorem dX12_fillsFits_43 : decode cX12_fillsFits 43 = .ok (.iload_n 3, 1) := by decide +kernel
theorem dX12_fillsFits_44 : decode cX12_fillsFits 44 = .ok (.invokestatic 402, 3) := by decide +kernel
theorem dX12_fillsFits_47 : decode cX12_fillsFits 47 = .ok (.aload_n 0, 1) := by decide +kernel
theorem dX12_fillsFits_48 : decode cX12_fillsFits 48 = .ok (.invokevirtual 348, 3) := by decide +kernel
theorem dX12_fillsFits_51 : decode cX12_fillsFits 51 = .ok (.iastore, 1) := by decide +kernel
theorem dX12_fillsFits_52 : decode cX12_fillsFits 52 = .ok (.iinc 3 1, 3) := by decide +kernel
theorem dX12_fillsFits_55 : decode cX12_fillsFits 55 = .ok (.goto (-23), 3) := by decide +kernel
theorem dX12_fillsFits_58 : decode cX12_fillsFits 58 = .ok (.aload_n 0, 1) := by decide +kernel
theorem dX12_fillsFits_59 : decode cX12_fillsFits 59 = .ok (.getfield 58, 3) := by decide +kernel
theorem dX12_fillsFits_62 : decode cX12_fillsFits 62 = .ok (.iload_n 2, 1) := by decide +kernel
theorem dX12_fillsFits_63 : decode cX12_fillsFits 63 = .ok (.aload_n 0, 1) := by decide +kernel
theorem dX12_fillsFits_64 : decode cX12_fillsFits 64 = .ok (.iload_n 2, 1) := by decide +kernel
theorem dX12_fillsFits_65 : decode cX12_fillsFits 65 = .ok (.invokevirtual 405, 3) := by decide +kernel
theorem dX12_fillsFits_68 : decode cX12_fillsFits 68 = .ok (.bastore, 1) := by decide +kernel
theorem dX12_fillsFits_69 : decode cX12_fillsFits 69 = .ok (.iinc 2 1, 3) := by decide +kernel
theorem dX12_fillsFits_72 : decode cX12_fillsFits 72 = .ok (.goto (-61), 3) := by decide +kernel
theorem dX12_fillsFits_75 : decode cX12_fillsFits 75 = .ok (.aload_n 0, 1) := by decide +kernel
theorem dX12_fillsFits_76 : decode cX12_fillsFits 76 = .ok (.iload_n 1, 1) := by decide +kernel
theorem dX12_fillsFits_77 : decode cX12_fillsFits 77 = .ok (.putfield 42, 3) := by decide +kernel
theorem dX12_fillsFits_80 : decode cX12_fillsFits 80 = .ok (.aload_n 0, 1) := by decide +kernel
theorem dX12_fillsFits_81 : decode cX12_fillsFits 81 = .ok (.invokevirtual 368, 3) := by decide +kernel
theorem dX12_fillsFits_84 : decode cX12_fillsFits 84 = .ok (.return_, 1) := by decide +kernel
theorem dX12_force_0 : decode cX12_force 0 = .ok (.iload_n 1, 1) := by decide +kernel
theorem dX12_force_1 : decode cX12_force 1 = .ok (.iconst (-1), 1) := by decide +kernel
theorem dX12_force_2 : decode cX12_force 2 = .ok (.if_icmp .eq 14, 3) := by decide +kernel
theorem dX12_force_5 : decode cX12_force 5 = .ok (.aload_n 0, 1) := by decide +kernel
theorem dX12_force_6 : decode cX12_force 6 = .ok (.iload_n 1, 1) := by decide +kernel
theorem dX12_force_7 : decode cX12_force 7 = .ok (.invokevirtual 295, 3) := by decide +kernel
theorem dX12_force_10 : decode cX12_force 10 = .ok (.ifCond .ne 6, 3) := by decide +kernel
theorem dX12_force_13 : decode cX12_force 13 = .ok (.bipush (-2), 2) := by decide +kernel
theorem dX12_force_15 : decode cX12_force 15 = .ok (.ireturn, 1) := by decide +kernel
theorem dX12_force_16 : decode cX12_force 16 = .ok (.aload_n 0, 1) := by decide +kernel
theorem dX12_force_17 : decode cX12_force 17 = .ok (.getfield 42, 3) := by decide +kernel
theorem dX12_force_20 : decode cX12_force 20 = .ok (.istore_n 2, 1) := by decide +kernel
theorem dX12_force_21 : decode cX12_force 21 = .ok (.aload_n 0, 1) := by decide +kernel
theorem dX12_force_22 : decode cX12_force 22 = .ok (.iload_n 1, 1) := by decide +kernel
theorem dX12_force_23 : decode cX12_force 23 = .ok (.putfield 42, 3) := by decide +kernel
theorem dX12_force_26 : decode cX12_force 26 = .ok (.iload_n 2, 1) := by decide +kernel
theorem dX12_force_27 : decode cX12_force 27 = .ok (.ireturn, 1) := by decide +kernel
theorem dX12_image_0 : decode cX12_image 0 = .ok (.iload_n 1, 1) := by decide +kernel
theorem dX12_image_1 : decode cX12_image 1 = .ok (.i2l, 1) := by decide +kernel
theorem dX12_image_2 : decode cX12_image 2 = .ok (.lconst 0, 1) := by decide +kernel
theorem dX12_image_3 : decode cX12_image 3 = .ok (.ldc2_w 437, 3) := by decide +kernel
theorem dX12_image_6 : decode cX12_image 6 = .ok (.invokestatic 115, 3) := by decide +kernel
theorem dX12_image_9 : decode cX12_image 9 = .ok (.ifCond .ne 5, 3) := by decide +kernel
theorem dX12_image_12 : decode cX12_image 12 = .ok (.iconst (-1), 1) := by decide +kernel
theorem dX12_image_13 : decode cX12_image 13 = .ok (.ireturn, 1) := by decide +kernel
theorem dX12_image_14 : decode cX12_image 14 = .ok (.aload_n 0, 1) := by decide +kernel
theorem dX12_image_15 : decode cX12_image 15 = .ok (.getfield 74, 3) := by decide +kernel
theorem dX12_image_18 : decode cX12_image 18 = .ok (.iload_n 1, 1) := by decide +kernel
theorem dX12_image_19 : decode cX12_image 19 = .ok (.iconst 1, 1) := by decide +kernel
theorem dX12_image_20 : decode cX12_image 20 = .ok (.bastore, 1) := by decide +kernel
theorem dX12_image_21 : decode cX12_image 21 = .ok (.aload_n 0, 1) := by decide +kernel
theorem dX12_image_22 : decode cX12_image 22 = .ok (.getfield 68, 3) := by decide +kernel
theorem dX12_image_25 : decode cX12_image 25 = .ok (.iload_n 1, 1) := by decide +kernel
theorem dX12_image_26 : decode cX12_image 26 = .ok (.aload_n 0, 1) := by decide +kernel
theorem dX12_image_27 : decode cX12_image 27 = .ok (.getfield 42, 3) := by decide +kernel
theorem dX12_image_30 : decode cX12_image 30 = .ok (.iastore, 1) := by decide +kernel
theorem dX12_image_31 : decode cX12_image 31 = .ok (.aload_n 0, 1) := by decide +kernel
theorem dX12_image_32 : decode cX12_image 32 = .ok (.getfield 71, 3) := by decide +kernel
theorem dX12_image_35 : decode cX12_image 35 = .ok (.iload_n 1, 1) := by decide +kernel
theorem dX12_image_36 : decode cX12_image 36 = .ok (.aload_n 0, 1) := by decide +kernel
theorem dX12_image_37 : decode cX12_image 37 = .ok (.getfield 414, 3) := by decide +kernel
theorem dX12_image_40 : decode cX12_image 40 = .ok (.iastore, 1) := by decide +kernel
theorem dX12_image_41 : decode cX12_image 41 = .ok (.iconst 0, 1) := by decide +kernel
theorem dX12_image_42 : decode cX12_image 42 = .ok (.istore_n 2, 1) := by decide +kernel
theorem dX12_image_43 : decode cX12_image 43 = .ok (.iload_n 2, 1) := by decide +kernel
theorem dX12_image_44 : decode cX12_image 44 = .ok (.bipush 126, 2) := by decide +kernel
theorem dX12_image_46 : decode cX12_image 46 = .ok (.if_icmp .ge 26, 3) := by decide +kernel
theorem dX12_image_49 : decode cX12_image 49 = .ok (.aload_n 0, 1) := by decide +kernel
theorem dX12_image_50 : decode cX12_image 50 = .ok (.getfield 65, 3) := by decide +kernel
theorem dX12_image_53 : decode cX12_image 53 = .ok (.bipush 126, 2) := by decide +kernel
theorem dX12_image_55 : decode cX12_image 55 = .ok (.iload_n 1, 1) := by decide +kernel
theorem dX12_image_56 : decode cX12_image 56 = .ok (.imul, 1) := by decide +kernel
theorem dX12_image_57 : decode cX12_image 57 = .ok (.iload_n 2, 1) := by decide +kernel
theorem dX12_image_58 : decode cX12_image 58 = .ok (.iadd, 1) := by decide +kernel
theorem dX12_image_59 : decode cX12_image 59 = .ok (.aload_n 0, 1) := by decide +kernel
theorem dX12_image_60 : decode cX12_image 60 = .ok (.getfield 39, 3) := by decide +kernel
theorem dX12_image_63 : decode cX12_image 63 = .ok (.iload_n 2, 1) := by decide +kernel
theorem dX12_image_64 : decode cX12_image 64 = .ok (.iaload, 1) := by decide +kernel
theorem dX12_image_65 : decode cX12_image 65 = .ok (.iastore, 1) := by decide +kernel
theorem dX12_image_66 : decode cX12_image 66 = .ok (.iinc 2 1, 3) := by decide +kernel
theorem dX12_image_69 : decode cX12_image 69 = .ok (.goto (-26), 3) := by decide +kernel
theorem dX12_image_72 : decode cX12_image 72 = .ok (.aload_n 0, 1) := by decide +kernel
theorem dX12_image_73 : decode cX12_image 73 = .ok (.getfield 39, 3) := by decide +kernel
theorem dX12_image_76 : decode cX12_image 76 = .ok (.bipush 10, 2) := by decide +kernel
theorem dX12_image_78 : decode cX12_image 78 = .ok (.iaload, 1) := by decide +kernel
theorem dX12_image_79 : decode cX12_image 79 = .ok (.ireturn, 1) := by decide +kernel
theorem dX12_look_0 : decode cX12_look 0 = .ok (.aload_n 0, 1) := by decide +kernel
theorem dX12_look_1 : decode cX12_look 1 = .ok (.invokevirtual 283, 3) := by decide +kernel
theorem dX12_look_4 : decode cX12_look 4 = .ok (.ifCond .eq 13, 3) := by decide +kernel
theorem dX12_look_7 : decode cX12_look 7 = .ok (.iload_n 1, 1) := by decide +kernel
theorem dX12_look_8 : decode cX12_look 8 = .ok (.i2l, 1) := by decide +kernel
theorem dX12_look_9 : decode cX12_look 9 = .ok (.lconst 0, 1) := by decide +kernel
theorem dX12_look_10 : decode cX12_look 10 = .ok (.lconst 1, 1) := by decide +kernel
theorem dX12_look_11 : decode cX12_look 11 = .ok (.invokestatic 115, 3) := by decide +kernel
theorem dX12_look_14 : decode cX12_look 14 = .ok (.ifCond .ne 5, 3) := by decide +kernel
theorem dX12_look_17 : decode cX12_look 17 = .ok (.iconst (-1), 1) := by decide +kernel
theorem dX12_look_18 : decode cX12_look 18 = .ok (.ireturn, 1) := by decide +kernel
theorem dX12_look_19 : decode cX12_look 19 = .ok (.aload_n 0, 1) := by decide +kernel
theorem dX12_look_20 : decode cX12_look 20 = .ok (.invokevirtual 408, 3) := by decide +kernel
theorem dX12_look_23 : decode cX12_look 23 = .ok (.iconst 0, 1) := by decide +kernel
theorem dX12_look_24 : decode cX12_look 24 = .ok (.istore_n 2, 1) := by decide +kernel
theorem dX12_look_25 : decode cX12_look 25 = .ok (.iconst 1, 1) := by decide +kernel
theorem dX12_look_26 : decode cX12_look 26 = .ok (.istore_n 3, 1) := by decide +kernel
theorem dX12_look_27 : decode cX12_look 27 = .ok (.iload_n 3, 1) := by decide +kernel
theorem dX12_look_28 : decode cX12_look 28 = .ok (.bipush 60, 2) := by decide +kernel
theorem dX12_look_30 : decode cX12_look 30 = .ok (.if_icmp .gt 24, 3) := by decide +kernel
theorem dX12_look_33 : decode cX12_look 33 = .ok (.aload_n 0, 1) := by decide +kernel
theorem dX12_look_34 : decode cX12_look 34 = .ok (.iload_n 3, 1) := by decide +kernel
theorem dX12_look_35 : decode cX12_look 35 = .ok (.invokevirtual 411, 3) := by decide +kernel
theorem dX12_look_38 : decode cX12_look 38 = .ok (.aload_n 0, 1) := by decide +kernel
theorem dX12_look_39 : decode cX12_look 39 = .ok (.iload_n 2, 1) := by decide +kernel
theorem dX12_look_40 : decode cX12_look 40 = .ok (.invokevirtual 411, 3) := by decide +kernel
theorem dX12_look_43 : decode cX12_look 43 = .ok (.if_icmp .ge 5, 3) := by decide +kernel
theorem dX12_look_46 : decode cX12_look 46 = .ok (.iload_n 3, 1) := by decide +kernel
theorem dX12_look_47 : decode cX12_look 47 = .ok (.istore_n 2, 1) := by decide +kernel
theorem dX12_look_48 : decode cX12_look 48 = .ok (.iinc 3 1, 3) := by decide +kernel
theorem dX12_look_51 : decode cX12_look 51 = .ok (.goto (-24), 3) := by decide +kernel
theorem dX12_look_54 : decode cX12_look 54 = .ok (.aload_n 0, 1) := by decide +kernel
theorem dX12_look_55 : decode cX12_look 55 = .ok (.iload_n 2, 1) := by decide +kernel
theorem dX12_look_56 : decode cX12_look 56 = .ok (.invokevirtual 411, 3) := by decide +kernel
theorem dX12_look_59 : decode cX12_look 59 = .ok (.ifCond .ne 8, 3) := by decide +kernel
theorem dX12_look_62 : decode cX12_look 62 = .ok (.bipush (-2), 2) := by decide +kernel
theorem dX12_look_64 : decode cX12_look 64 = .ok (.goto 16, 3) := by decide +kernel
theorem dX12_look_67 : decode cX12_look 67 = .ok (.iload_n 1, 1) := by decide +kernel
theorem dX12_look_68 : decode cX12_look 68 = .ok (.ifCond .ne 7, 3) := by decide +kernel
theorem dX12_look_71 : decode cX12_look 71 = .ok (.iload_n 2, 1) := by decide +kernel
theorem dX12_look_72 : decode cX12_look 72 = .ok (.goto 8, 3) := by decide +kernel
theorem dX12_look_75 : decode cX12_look 75 = .ok (.aload_n 0, 1) := by decide +kernel
theorem dX12_look_76 : decode cX12_look 76 = .ok (.iload_n 2, 1) := by decide +kernel
theorem dX12_look_77 : decode cX12_look 77 = .ok (.invokevirtual 411, 3) := by decide +kernel
theorem dX12_look_80 : decode cX12_look 80 = .ok (.ireturn, 1) := by decide +kernel
theorem dX12_note_0 : decode cX12_note 0 = .ok (.iload_n 1, 1) := by decide +kernel
theorem dX12_note_1 : decode cX12_note 1 = .ok (.iconst (-1), 1) := by decide +kernel
theorem dX12_note_2 : decode cX12_note 2 = .ok (.if_icmp .ne 13, 3) := by decide +kernel
theorem dX12_note_5 : decode cX12_note 5 = .ok (.aload_n 0, 1) := by decide +kernel
theorem dX12_note_6 : decode cX12_note 6 = .ok (.getfield 39, 3) := by decide +kernel
theorem dX12_note_9 : decode cX12_note 9 = .ok (.bipush 125, 2) := by decide +kernel
theorem dX12_note_11 : decode cX12_note 11 = .ok (.iconst 0, 1) := by decide +kernel
theorem dX12_note_12 : decode cX12_note 12 = .ok (.iastore, 1) := by decide +kernel
theorem dX12_note_13 : decode cX12_note 13 = .ok (.iconst 0, 1) := by decide +kernel
theorem dX12_note_14 : decode cX12_note 14 = .ok (.ireturn, 1) := by decide +kernel
theorem dX12_note_15 : decode cX12_note 15 = .ok (.iload_n 1, 1) := by decide +kernel
theorem dX12_note_16 : decode cX12_note 16 = .ok (.i2l, 1) := by decide +kernel
theorem dX12_note_17 : decode cX12_note 17 = .ok (.lconst 0, 1) := by decide +kernel
theorem dX12_note_18 : decode cX12_note 18 = .ok (.ldc2_w 386, 3) := by decide +kernel
theorem dX12_note_21 : decode cX12_note 21 = .ok (.invokestatic 115, 3) := by decide +kernel
theorem dX12_note_24 : decode cX12_note 24 = .ok (.ifCond .eq 33, 3) := by decide +kernel
theorem dX12_note_27 : decode cX12_note 27 = .ok (.aload_n 0, 1) := by decide +kernel
theorem dX12_note_28 : decode cX12_note 28 = .ok (.iload_n 2, 1) := by decide +kernel
theorem dX12_note_29 : decode cX12_note 29 = .ok (.invokevirtual 298, 3) := by decide +kernel
theorem dX12_note_32 : decode cX12_note 32 = .ok (.ifCond .eq 25, 3) := by decide +kernel
theorem dX12_note_35 : decode cX12_note 35 = .ok (.iload_n 3, 1) := by decide +kernel
theorem dX12_note_36 : decode cX12_note 36 = .ok (.i2l, 1) := by decide +kernel
theorem dX12_note_37 : decode cX12_note 37 = .ok (.lconst 0, 1) := by decide +kernel
theorem dX12_note_38 : decode cX12_note 38 = .ok (.lconst 1, 1) := by decide +kernel
theorem dX12_note_39 : decode cX12_note 39 = .ok (.invokestatic 115, 3) := by decide +kernel
theorem dX12_note_42 : decode cX12_note 42 = .ok (.ifCond .eq 15, 3) := by decide +kernel
theorem dX12_note_45 : decode cX12_note 45 = .ok (.aload_n 0, 1) := by decide +kernel
theorem dX12_note_46 : decode cX12_note 46 = .ok (.getfield 39, 3) := by decide +kernel
theorem dX12_note_49 : decode cX12_note 49 = .ok (.bipush 125, 2) := by decide +kernel
theorem dX12_note_51 : decode cX12_note 51 = .ok (.iaload, 1) := by decide +kernel
theorem dX12_note_52 : decode cX12_note 52 = .ok (.bipush 10, 2) := by decide +kernel
theorem dX12_note_54 : decode cX12_note 54 = .ok (.if_icmp .ne 6, 3) := by decide +kernel
theorem dX12_note_57 : decode cX12_note 57 = .ok (.bipush (-2), 2) := by decide +kernel
theorem dX12_note_59 : decode cX12_note 59 = .ok (.ireturn, 1) := by decide +kernel
theorem dX12_note_60 : decode cX12_note 60 = .ok (.bipush 95, 2) := by decide +kernel
theorem dX12_note_62 : decode cX12_note 62 = .ok (.iconst 3, 1) := by decide +kernel
theorem dX12_note_63 : decode cX12_note 63 = .ok (.aload_n 0, 1) := by decide +kernel
theorem dX12_note_64 : decode cX12_note 64 = .ok (.getfield 39, 3) := by decide +kernel
theorem dX12_note_67 : decode cX12_note 67 = .ok (.bipush 125, 2) := by decide +kernel
theorem dX12_note_69 : decode cX12_note 69 = .ok (.iaload, 1) := by decide +kernel
theorem dX12_note_70 : decode cX12_note 70 = .ok (.imul, 1) := by decide +kernel
theorem dX12_note_71 : decode cX12_note 71 = .ok (.iadd, 1) := by decide +kernel
theorem dX12_note_72 : decode cX12_note 72 = .ok (.istore 4, 2) := by decide +kernel
theorem dX12_note_74 : decode cX12_note 74 = .ok (.aload_n 0, 1) := by decide +kernel
theorem dX12_note_75 : decode cX12_note 75 = .ok (.getfield 39, 3) := by decide +kernel
theorem dX12_note_78 : decode cX12_note 78 = .ok (.iload 4, 2) := by decide +kernel
theorem dX12_note_80 : decode cX12_note 80 = .ok (.iload_n 1, 1) := by decide +kernel
theorem dX12_note_81 : decode cX12_note 81 = .ok (.iastore, 1) := by decide +kernel
theorem dX12_note_82 : decode cX12_note 82 = .ok (.aload_n 0, 1) := by decide +kernel
theorem dX12_note_83 : decode cX12_note 83 = .ok (.getfield 39, 3) := by decide +kernel
theorem dX12_note_86 : decode cX12_note 86 = .ok (.iload 4, 2) := by decide +kernel
theorem dX12_note_88 : decode cX12_note 88 = .ok (.iconst 1, 1) := by decide +kernel
theorem dX12_note_89 : decode cX12_note 89 = .ok (.iadd, 1) := by decide +kernel
theorem dX12_note_90 : decode cX12_note 90 = .ok (.iload_n 2, 1) := by decide +kernel
theorem dX12_note_91 : decode cX12_note 91 = .ok (.iastore, 1) := by decide +kernel
theorem dX12_note_92 : decode cX12_note 92 = .ok (.aload_n 0, 1) := by decide +kernel
theorem dX12_note_93 : decode cX12_note 93 = .ok (.getfield 39, 3) := by decide +kernel
theorem dX12_note_96 : decode cX12_note 96 = .ok (.iload 4, 2) := by decide +kernel
theorem dX12_note_98 : decode cX12_note 98 = .ok (.iconst 2, 1) := by decide +kernel
theorem dX12_note_99 : decode cX12_note 99 = .ok (.iadd, 1) := by decide +kernel
theorem dX12_note_100 : decode cX12_note 100 = .ok (.iload_n 3, 1) := by decide +kernel
theorem dX12_note_101 : decode cX12_note 101 = .ok (.iastore, 1) := by decide +kernel
theorem dX12_note_102 : decode cX12_note 102 = .ok (.aload_n 0, 1) := by decide +kernel
theorem dX12_note_103 : decode cX12_note 103 = .ok (.getfield 39, 3) := by decide +kernel
theorem dX12_note_106 : decode cX12_note 106 = .ok (.bipush 125, 2) := by decide +kernel
theorem dX12_note_108 : decode cX12_note 108 = .ok (.dup2, 1) := by decide +kernel
theorem dX12_note_109 : decode cX12_note 109 = .ok (.iaload, 1) := by decide +kernel
theorem dX12_note_110 : decode cX12_note 110 = .ok (.iconst 1, 1) := by decide +kernel
theorem dX12_note_111 : decode cX12_note 111 = .ok (.iadd, 1) := by decide +kernel
theorem dX12_note_112 : decode cX12_note 112 = .ok (.iastore, 1) := by decide +kernel
theorem dX12_note_113 : decode cX12_note 113 = .ok (.aload_n 0, 1) := by decide +kernel
theorem dX12_note_114 : decode cX12_note 114 = .ok (.getfield 39, 3) := by decide +kernel
theorem dX12_note_117 : decode cX12_note 117 = .ok (.bipush 125, 2) := by decide +kernel
theorem dX12_note_119 : decode cX12_note 119 = .ok (.iaload, 1) := by decide +kernel
theorem dX12_note_120 : decode cX12_note 120 = .ok (.ireturn, 1) := by decide +kernel
theorem dX12_peak_0 : decode cX12_peak 0 = .ok (.aload_n 0, 1) := by decide +kernel
theorem dX12_peak_1 : decode cX12_peak 1 = .ok (.invokevirtual 283, 3) := by decide +kernel
theorem dX12_peak_4 : decode cX12_peak 4 = .ok (.ifCond .eq 25, 3) := by decide +kernel
theorem dX12_peak_7 : decode cX12_peak 7 = .ok (.iload_n 1, 1) := by decide +kernel
theorem dX12_peak_8 : decode cX12_peak 8 = .ok (.i2l, 1) := by decide +kernel
theorem dX12_peak_9 : decode cX12_peak 9 = .ok (.lconst 1, 1) := by decide +kernel
theorem dX12_peak_10 : decode cX12_peak 10 = .ok (.ldc2_w 358, 3) := by decide +kernel
theorem dX12_peak_13 : decode cX12_peak 13 = .ok (.invokestatic 115, 3) := by decide +kernel
theorem dX12_peak_16 : decode cX12_peak 16 = .ok (.ifCond .eq 13, 3) := by decide +kernel
theorem dX12_peak_19 : decode cX12_peak 19 = .ok (.iload_n 2, 1) := by decide +kernel
theorem dX12_peak_20 : decode cX12_peak 20 = .ok (.i2l, 1) := by decide +kernel
theorem dX12_peak_21 : decode cX12_peak 21 = .ok (.lconst 0, 1) := by decide +kernel
theorem dX12_peak_22 : decode cX12_peak 22 = .ok (.lconst 1, 1) := by decide +kernel
theorem dX12_peak_23 : decode cX12_peak 23 = .ok (.invokestatic 115, 3) := by decide +kernel
theorem dX12_peak_26 : decode cX12_peak 26 = .ok (.ifCond .ne 5, 3) := by decide +kernel
theorem dX12_peak_29 : decode cX12_peak 29 = .ok (.iconst (-1), 1) := by decide +kernel
theorem dX12_peak_30 : decode cX12_peak 30 = .ok (.ireturn, 1) := by decide +kernel
theorem dX12_peak_31 : decode cX12_peak 31 = .ok (.iconst (-1), 1) := by decide +kernel
theorem dX12_peak_32 : decode cX12_peak 32 = .ok (.istore_n 3, 1) := by decide +kernel
theorem dX12_peak_33 : decode cX12_peak 33 = .ok (.iconst (-1), 1) := by decide +kernel
theorem dX12_peak_34 : decode cX12_peak 34 = .ok (.istore 4, 2) := by decide +kernel
theorem dX12_peak_36 : decode cX12_peak 36 = .ok (.aload_n 0, 1) := by decide +kernel
theorem dX12_peak_37 : decode cX12_peak 37 = .ok (.invokevirtual 362, 3) := by decide +kernel
theorem dX12_peak_40 : decode cX12_peak 40 = .ok (.iconst 0, 1) := by decide +kernel
theorem dX12_peak_41 : decode cX12_peak 41 = .ok (.istore 5, 2) := by decide +kernel
theorem dX12_peak_43 : decode cX12_peak 43 = .ok (.iload 5, 2) := by decide +kernel
theorem dX12_peak_45 : decode cX12_peak 45 = .ok (.iload_n 1, 1) := by decide +kernel
theorem dX12_peak_46 : decode cX12_peak 46 = .ok (.if_icmp .ge 54, 3) := by decide +kernel
theorem dX12_peak_49 : decode cX12_peak 49 = .ok (.aload_n 0, 1) := by decide +kernel
theorem dX12_peak_50 : decode cX12_peak 50 = .ok (.invokevirtual 317, 3) := by decide +kernel
theorem dX12_peak_53 : decode cX12_peak 53 = .ok (.istore 6, 2) := by decide +kernel
theorem dX12_peak_55 : decode cX12_peak 55 = .ok (.aload_n 0, 1) := by decide +kernel
theorem dX12_peak_56 : decode cX12_peak 56 = .ok (.invokevirtual 348, 3) := by decide +kernel
theorem dX12_peak_59 : decode cX12_peak 59 = .ok (.pop, 1) := by decide +kernel
theorem dX12_peak_60 : decode cX12_peak 60 = .ok (.aload_n 0, 1) := by decide +kernel
theorem dX12_peak_61 : decode cX12_peak 61 = .ok (.invokevirtual 317, 3) := by decide +kernel
theorem dX12_peak_64 : decode cX12_peak 64 = .ok (.iload 6, 2) := by decide +kernel
theorem dX12_peak_66 : decode cX12_peak 66 = .ok (.isub, 1) := by decide +kernel
theorem dX12_peak_67 : decode cX12_peak 67 = .ok (.iload 4, 2) := by decide +kernel
theorem dX12_peak_69 : decode cX12_peak 69 = .ok (.if_icmp .gt 6, 3) := by decide +kernel
theorem dX12_peak_72 : decode cX12_peak 72 = .ok (.goto 22, 3) := by decide +kernel
theorem dX12_peak_75 : decode cX12_peak 75 = .ok (.aload_n 0, 1) := by decide +kernel
theorem dX12_peak_76 : decode cX12_peak 76 = .ok (.invokevirtual 317, 3) := by decide +kernel
theorem dX12_peak_79 : decode cX12_peak 79 = .ok (.iload 6, 2) := by decide +kernel
theorem dX12_peak_81 : decode cX12_peak 81 = .ok (.isub, 1) := by decide +kernel
theorem dX12_peak_82 : decode cX12_peak 82 = .ok (.istore 4, 2) := by decide +kernel
theorem dX12_peak_84 : decode cX12_peak 84 = .ok (.aload_n 0, 1) := by decide +kernel
theorem dX12_peak_85 : decode cX12_peak 85 = .ok (.getfield 39, 3) := by decide +kernel
theorem dX12_peak_88 : decode cX12_peak 88 = .ok (.bipush 10, 2) := by decide +kernel
theorem dX12_peak_90 : decode cX12_peak 90 = .ok (.iaload, 1) := by decide +kernel
theorem dX12_peak_91 : decode cX12_peak 91 = .ok (.iconst 1, 1) := by decide +kernel
theorem dX12_peak_92 : decode cX12_peak 92 = .ok (.isub, 1) := by decide +kernel
theorem dX12_peak_93 : decode cX12_peak 93 = .ok (.istore_n 3, 1) := by decide +kernel
theorem dX12_peak_94 : decode cX12_peak 94 = .ok (.iinc 5 1, 3) := by decide +kernel
theorem dX12_peak_97 : decode cX12_peak 97 = .ok (.goto (-54), 3) := by decide +kernel
theorem dX12_peak_100 : decode cX12_peak 100 = .ok (.aload_n 0, 1) := by decide +kernel
theorem dX12_peak_101 : decode cX12_peak 101 = .ok (.invokevirtual 368, 3) := by decide +kernel
theorem dX12_peak_104 : decode cX12_peak 104 = .ok (.iload_n 2, 1) := by decide +kernel
theorem dX12_peak_105 : decode cX12_peak 105 = .ok (.ifCond .ne 7, 3) := by decide +kernel
theorem dX12_peak_108 : decode cX12_peak 108 = .ok (.iload_n 3, 1) := by decide +kernel
theorem dX12_peak_109 : decode cX12_peak 109 = .ok (.goto 5, 3) := by decide +kernel
theorem dX12_peak_112 : decode cX12_peak 112 = .ok (.iload 4, 2) := by decide +kernel
theorem dX12_peak_114 : decode cX12_peak 114 = .ok (.ireturn, 1) := by decide +kernel
theorem dX12_ruled_0 : decode cX12_ruled 0 = .ok (.aload_n 0, 1) := by decide +kernel
theorem dX12_ruled_1 : decode cX12_ruled 1 = .ok (.invokevirtual 283, 3) := by decide +kernel
theorem dX12_ruled_4 : decode cX12_ruled 4 = .ok (.ifCond .eq 13, 3) := by decide +kernel
theorem dX12_ruled_7 : decode cX12_ruled 7 = .ok (.iload_n 1, 1) := by decide +kernel
theorem dX12_ruled_8 : decode cX12_ruled 8 = .ok (.i2l, 1) := by decide +kernel
theorem dX12_ruled_9 : decode cX12_ruled 9 = .ok (.lconst 0, 1) := by decide +kernel
theorem dX12_ruled_10 : decode cX12_ruled 10 = .ok (.lconst 1, 1) := by decide +kernel
theorem dX12_ruled_11 : decode cX12_ruled 11 = .ok (.invokestatic 115, 3) := by decide +kernel
theorem dX12_ruled_14 : decode cX12_ruled 14 = .ok (.ifCond .ne 6, 3) := by decide +kernel
theorem dX12_ruled_17 : decode cX12_ruled 17 = .ok (.bipush (-3), 2) := by decide +kernel
theorem dX12_ruled_19 : decode cX12_ruled 19 = .ok (.ireturn, 1) := by decide +kernel
theorem dX12_ruled_20 : decode cX12_ruled 20 = .ok (.aload_n 0, 1) := by decide +kernel
theorem dX12_ruled_21 : decode cX12_ruled 21 = .ok (.invokevirtual 408, 3) := by decide +kernel
theorem dX12_ruled_24 : decode cX12_ruled 24 = .ok (.iconst 0, 1) := by decide +kernel
theorem dX12_ruled_25 : decode cX12_ruled 25 = .ok (.istore_n 2, 1) := by decide +kernel
theorem dX12_ruled_26 : decode cX12_ruled 26 = .ok (.bipush (-2), 2) := by decide +kernel
theorem dX12_ruled_28 : decode cX12_ruled 28 = .ok (.istore_n 3, 1) := by decide +kernel
theorem dX12_ruled_29 : decode cX12_ruled 29 = .ok (.aload_n 0, 1) := by decide +kernel
theorem dX12_ruled_30 : decode cX12_ruled 30 = .ok (.getfield 256, 3) := by decide +kernel
theorem dX12_ruled_33 : decode cX12_ruled 33 = .ok (.istore 4, 2) := by decide +kernel
theorem dX12_ruled_35 : decode cX12_ruled 35 = .ok (.iload 4, 2) := by decide +kernel
theorem dX12_ruled_37 : decode cX12_ruled 37 = .ok (.ifCond .lt 30, 3) := by decide +kernel
theorem dX12_ruled_40 : decode cX12_ruled 40 = .ok (.aload_n 0, 1) := by decide +kernel
theorem dX12_ruled_41 : decode cX12_ruled 41 = .ok (.getfield 58, 3) := by decide +kernel
theorem dX12_ruled_44 : decode cX12_ruled 44 = .ok (.iload 4, 2) := by decide +kernel
theorem dX12_ruled_46 : decode cX12_ruled 46 = .ok (.baload, 1) := by decide +kernel
theorem dX12_ruled_47 : decode cX12_ruled 47 = .ok (.ifCond .ne 6, 3) := by decide +kernel
theorem dX12_ruled_50 : decode cX12_ruled 50 = .ok (.goto 11, 3) := by decide +kernel
theorem dX12_ruled_53 : decode cX12_ruled 53 = .ok (.iload 4, 2) := by decide +kernel
theorem dX12_ruled_55 : decode cX12_ruled 55 = .ok (.iconst 1, 1) := by decide +kernel
theorem dX12_ruled_56 : decode cX12_ruled 56 = .ok (.isub, 1) := by decide +kernel
theorem dX12_ruled_57 : decode cX12_ruled 57 = .ok (.istore_n 3, 1) := by decide +kernel
theorem dX12_ruled_58 : decode cX12_ruled 58 = .ok (.iinc 2 1, 3) := by decide +kernel
theorem dX12_ruled_61 : decode cX12_ruled 61 = .ok (.iinc 4 (-1), 3) := by decide +kernel
theorem dX12_ruled_64 : decode cX12_ruled 64 = .ok (.goto (-29), 3) := by decide +kernel
theorem dX12_ruled_67 : decode cX12_ruled 67 = .ok (.iload_n 1, 1) := by decide +kernel
theorem dX12_ruled_68 : decode cX12_ruled 68 = .ok (.ifCond .ne 7, 3) := by decide +kernel
theorem dX12_ruled_71 : decode cX12_ruled 71 = .ok (.iload_n 2, 1) := by decide +kernel
theorem dX12_ruled_72 : decode cX12_ruled 72 = .ok (.goto 4, 3) := by decide +kernel
theorem dX12_ruled_75 : decode cX12_ruled 75 = .ok (.iload_n 3, 1) := by decide +kernel
theorem dX12_ruled_76 : decode cX12_ruled 76 = .ok (.ireturn, 1) := by decide +kernel
theorem dX12_seed_0 : decode cX12_seed 0 = .ok (.iload_n 1, 1) := by decide +kernel
theorem dX12_seed_1 : decode cX12_seed 1 = .ok (.ifCond .ge 5, 3) := by decide +kernel
theorem dX12_seed_4 : decode cX12_seed 4 = .ok (.iconst (-1), 1) := by decide +kernel
theorem dX12_seed_5 : decode cX12_seed 5 = .ok (.ireturn, 1) := by decide +kernel
theorem dX12_seed_6 : decode cX12_seed 6 = .ok (.aload_n 0, 1) := by decide +kernel
theorem dX12_seed_7 : decode cX12_seed 7 = .ok (.getfield 414, 3) := by decide +kernel
theorem dX12_seed_10 : decode cX12_seed 10 = .ok (.istore_n 2, 1) := by decide +kernel
theorem dX12_seed_11 : decode cX12_seed 11 = .ok (.aload_n 0, 1) := by decide +kernel
theorem dX12_seed_12 : decode cX12_seed 12 = .ok (.iload_n 1, 1) := by decide +kernel
theorem dX12_seed_13 : decode cX12_seed 13 = .ok (.putfield 414, 3) := by decide +kernel
theorem dX12_seed_16 : decode cX12_seed 16 = .ok (.iload_n 2, 1) := by decide +kernel
theorem dX12_seed_17 : decode cX12_seed 17 = .ok (.ireturn, 1) := by decide +kernel
theorem dX12_sky_0 : decode cX12_sky 0 = .ok (.aload_n 0, 1) := by decide +kernel
theorem dX12_sky_1 : decode cX12_sky 1 = .ok (.iload_n 1, 1) := by decide +kernel
theorem dX12_sky_2 : decode cX12_sky 2 = .ok (.invokevirtual 307, 3) := by decide +kernel
theorem dX12_sky_5 : decode cX12_sky 5 = .ok (.ifCond .eq 13, 3) := by decide +kernel
theorem dX12_sky_8 : decode cX12_sky 8 = .ok (.iload_n 2, 1) := by decide +kernel
theorem dX12_sky_9 : decode cX12_sky 9 = .ok (.i2l, 1) := by decide +kernel
theorem dX12_sky_10 : decode cX12_sky 10 = .ok (.lconst 0, 1) := by decide +kernel
theorem dX12_sky_11 : decode cX12_sky 11 = .ok (.lconst 1, 1) := by decide +kernel
theorem dX12_sky_12 : decode cX12_sky 12 = .ok (.invokestatic 115, 3) := by decide +kernel
theorem dX12_sky_15 : decode cX12_sky 15 = .ok (.ifCond .ne 5, 3) := by decide +kernel
theorem dX12_sky_18 : decode cX12_sky 18 = .ok (.iconst (-1), 1) := by decide +kernel
theorem dX12_sky_19 : decode cX12_sky 19 = .ok (.ireturn, 1) := by decide +kernel
theorem dX12_sky_20 : decode cX12_sky 20 = .ok (.iload_n 2, 1) := by decide +kernel
theorem dX12_sky_21 : decode cX12_sky 21 = .ok (.ifCond .ne 15, 3) := by decide +kernel
theorem dX12_sky_24 : decode cX12_sky 24 = .ok (.aload_n 0, 1) := by decide +kernel
theorem dX12_sky_25 : decode cX12_sky 25 = .ok (.getfield 39, 3) := by decide +kernel
theorem dX12_sky_28 : decode cX12_sky 28 = .ok (.bipush 36, 2) := by decide +kernel
theorem dX12_sky_30 : decode cX12_sky 30 = .ok (.iload_n 1, 1) := by decide +kernel
theorem dX12_sky_31 : decode cX12_sky 31 = .ok (.iadd, 1) := by decide +kernel
theorem dX12_sky_32 : decode cX12_sky 32 = .ok (.iaload, 1) := by decide +kernel
theorem dX12_sky_33 : decode cX12_sky 33 = .ok (.goto 12, 3) := by decide +kernel
theorem dX12_sky_36 : decode cX12_sky 36 = .ok (.aload_n 0, 1) := by decide +kernel
theorem dX12_sky_37 : decode cX12_sky 37 = .ok (.getfield 39, 3) := by decide +kernel
theorem dX12_sky_40 : decode cX12_sky 40 = .ok (.bipush 46, 2) := by decide +kernel
theorem dX12_sky_42 : decode cX12_sky 42 = .ok (.iload_n 1, 1) := by decide +kernel
theorem dX12_sky_43 : decode cX12_sky 43 = .ok (.iadd, 1) := by decide +kernel
theorem dX12_sky_44 : decode cX12_sky 44 = .ok (.iaload, 1) := by decide +kernel
theorem dX12_sky_45 : decode cX12_sky 45 = .ok (.ireturn, 1) := by decide +kernel
theorem dX12_spot_0 : decode cX12_spot 0 = .ok (.bipush 61, 2) := by decide +kernel
theorem dX12_spot_2 : decode cX12_spot 2 = .ok (.iload_n 0, 1) := by decide +kernel
theorem dX12_spot_3 : decode cX12_spot 3 = .ok (.imul, 1) := by decide +kernel
theorem dX12_spot_4 : decode cX12_spot 4 = .ok (.iload_n 1, 1) := by decide +kernel
theorem dX12_spot_5 : decode cX12_spot 5 = .ok (.iadd, 1) := by decide +kernel
theorem dX12_spot_6 : decode cX12_spot 6 = .ok (.ireturn, 1) := by decide +kernel
theorem dX12_summers_0 : decode cX12_summers 0 = .ok (.aload_n 0, 1) := by decide +kernel
theorem dX12_summers_1 : decode cX12_summers 1 = .ok (.invokevirtual 283, 3) := by decide +kernel
theorem dX12_summers_4 : decode cX12_summers 4 = .ok (.ifCond .eq 50, 3) := by decide +kernel
theorem dX12_summers_7 : decode cX12_summers 7 = .ok (.iload_n 1, 1) := by decide +kernel
theorem dX12_summers_8 : decode cX12_summers 8 = .ok (.i2l, 1) := by decide +kernel
theorem dX12_summers_9 : decode cX12_summers 9 = .ok (.lconst 1, 1) := by decide +kernel
theorem dX12_summers_10 : decode cX12_summers 10 = .ok (.ldc2_w 429, 3) := by decide +kernel
theorem dX12_summers_13 : decode cX12_summers 13 = .ok (.invokestatic 115, 3) := by decide +kernel
theorem dX12_summers_16 : decode cX12_summers 16 = .ok (.ifCond .eq 38, 3) := by decide +kernel
theorem dX12_summers_19 : decode cX12_summers 19 = .ok (.iload_n 2, 1) := by decide +kernel
theorem dX12_summers_20 : decode cX12_summers 20 = .ok (.i2l, 1) := by decide +kernel
theorem dX12_summers_21 : decode cX12_summers 21 = .ok (.lconst 1, 1) := by decide +kernel
theorem dX12_summers_22 : decode cX12_summers 22 = .ok (.ldc2_w 386, 3) := by decide +kernel
theorem dX12_summers_25 : decode cX12_summers 25 = .ok (.invokestatic 115, 3) := by decide +kernel
theorem dX12_summers_28 : decode cX12_summers 28 = .ok (.ifCond .eq 26, 3) := by decide +kernel
theorem dX12_summers_31 : decode cX12_summers 31 = .ok (.iload_n 3, 1) := by decide +kernel
theorem dX12_summers_32 : decode cX12_summers 32 = .ok (.i2l, 1) := by decide +kernel
theorem dX12_summers_33 : decode cX12_summers 33 = .ok (.lconst 0, 1) := by decide +kernel
theorem dX12_summers_34 : decode cX12_summers 34 = .ok (.ldc2_w 358, 3) := by decide +kernel
theorem dX12_summers_37 : decode cX12_summers 37 = .ok (.invokestatic 115, 3) := by decide +kernel
theorem dX12_summers_40 : decode cX12_summers 40 = .ok (.ifCond .eq 14, 3) := by decide +kernel
theorem dX12_summers_43 : decode cX12_summers 43 = .ok (.iload 4, 2) := by decide +kernel
theorem dX12_summers_45 : decode cX12_summers 45 = .ok (.i2l, 1) := by decide +kernel
theorem dX12_summers_46 : decode cX12_summers 46 = .ok (.lconst 0, 1) := by decide +kernel
theorem dX12_summers_47 : decode cX12_summers 47 = .ok (.lconst 1, 1) := by decide +kernel
theorem dX12_summers_48 : decode cX12_summers 48 = .ok (.invokestatic 115, 3) := by decide +kernel
theorem dX12_summers_51 : decode cX12_summers 51 = .ok (.ifCond .ne 5, 3) := by decide +kernel
theorem dX12_summers_54 : decode cX12_summers 54 = .ok (.iconst (-1), 1) := by decide +kernel
theorem dX12_summers_55 : decode cX12_summers 55 = .ok (.ireturn, 1) := by decide +kernel
theorem dX12_summers_56 : decode cX12_summers 56 = .ok (.aload_n 0, 1) := by decide +kernel
theorem dX12_summers_57 : decode cX12_summers 57 = .ok (.aload_n 0, 1) := by decide +kernel
theorem dX12_summers_58 : decode cX12_summers 58 = .ok (.getfield 414, 3) := by decide +kernel
theorem dX12_summers_61 : decode cX12_summers 61 = .ok (.i2l, 1) := by decide +kernel
theorem dX12_summers_62 : decode cX12_summers 62 = .ok (.putfield 417, 3) := by decide +kernel
theorem dX12_summers_65 : decode cX12_summers 65 = .ok (.iconst 0, 1) := by decide +kernel
theorem dX12_summers_66 : decode cX12_summers 66 = .ok (.istore 5, 2) := by decide +kernel
theorem dX12_summers_68 : decode cX12_summers 68 = .ok (.iconst 0, 1) := by decide +kernel
theorem dX12_summers_69 : decode cX12_summers 69 = .ok (.istore 6, 2) := by decide +kernel
theorem dX12_summers_71 : decode cX12_summers 71 = .ok (.aload_n 0, 1) := by decide +kernel
theorem dX12_summers_72 : decode cX12_summers 72 = .ok (.invokevirtual 317, 3) := by decide +kernel
theorem dX12_summers_75 : decode cX12_summers 75 = .ok (.istore 7, 2) := by decide +kernel
theorem dX12_summers_77 : decode cX12_summers 77 = .ok (.aload_n 0, 1) := by decide +kernel
theorem dX12_summers_78 : decode cX12_summers 78 = .ok (.invokevirtual 362, 3) := by decide +kernel
theorem dX12_summers_81 : decode cX12_summers 81 = .ok (.iconst 0, 1) := by decide +kernel
theorem dX12_summers_82 : decode cX12_summers 82 = .ok (.istore 8, 2) := by decide +kernel
theorem dX12_summers_84 : decode cX12_summers 84 = .ok (.iload 8, 2) := by decide +kernel
theorem dX12_summers_86 : decode cX12_summers 86 = .ok (.iload_n 1, 1) := by decide +kernel
theorem dX12_summers_87 : decode cX12_summers 87 = .ok (.if_icmp .ge 85, 3) := by decide +kernel
theorem dX12_summers_90 : decode cX12_summers 90 = .ok (.iconst 0, 1) := by decide +kernel
theorem dX12_summers_91 : decode cX12_summers 91 = .ok (.istore 9, 2) := by decide +kernel
theorem dX12_summers_93 : decode cX12_summers 93 = .ok (.iload 9, 2) := by decide +kernel
theorem dX12_summers_95 : decode cX12_summers 95 = .ok (.iload_n 2, 1) := by decide +kernel
theorem dX12_summers_96 : decode cX12_summers 96 = .ok (.if_icmp .ge 42, 3) := by decide +kernel
theorem dX12_summers_99 : decode cX12_summers 99 = .ok (.aload_n 0, 1) := by decide +kernel
theorem dX12_summers_100 : decode cX12_summers 100 = .ok (.bipush 100, 2) := by decide +kernel
theorem dX12_summers_102 : decode cX12_summers 102 = .ok (.invokevirtual 431, 3) := by decide +kernel
theorem dX12_summers_105 : decode cX12_summers 105 = .ok (.iload_n 3, 1) := by decide +kernel
theorem dX12_summers_106 : decode cX12_summers 106 = .ok (.if_icmp .ge 21, 3) := by decide +kernel
theorem dX12_summers_109 : decode cX12_summers 109 = .ok (.aload_n 0, 1) := by decide +kernel
theorem dX12_summers_110 : decode cX12_summers 110 = .ok (.getfield 39, 3) := by decide +kernel
theorem dX12_summers_113 : decode cX12_summers 113 = .ok (.bipush 36, 2) := by decide +kernel
theorem dX12_summers_115 : decode cX12_summers 115 = .ok (.aload_n 0, 1) := by decide +kernel
theorem dX12_summers_116 : decode cX12_summers 116 = .ok (.invokevirtual 314, 3) := by decide +kernel
theorem dX12_summers_119 : decode cX12_summers 119 = .ok (.iadd, 1) := by decide +kernel
theorem dX12_summers_120 : decode cX12_summers 120 = .ok (.aload_n 0, 1) := by decide +kernel
theorem dX12_summers_121 : decode cX12_summers 121 = .ok (.bipush 10, 2) := by decide +kernel
theorem dX12_summers_123 : decode cX12_summers 123 = .ok (.invokevirtual 431, 3) := by decide +kernel
theorem dX12_summers_126 : decode cX12_summers 126 = .ok (.iastore, 1) := by decide +kernel
theorem dX12_summers_127 : decode cX12_summers 127 = .ok (.aload_n 0, 1) := by decide +kernel
theorem dX12_summers_128 : decode cX12_summers 128 = .ok (.invokevirtual 348, 3) := by decide +kernel
theorem dX12_summers_131 : decode cX12_summers 131 = .ok (.pop, 1) := by decide +kernel
theorem dX12_summers_132 : decode cX12_summers 132 = .ok (.iinc 9 1, 3) := by decide +kernel
theorem dX12_summers_135 : decode cX12_summers 135 = .ok (.goto (-42), 3) := by decide +kernel
theorem dX12_summers_138 : decode cX12_summers 138 = .ok (.iload 5, 2) := by decide +kernel
theorem dX12_summers_140 : decode cX12_summers 140 = .ok (.aload_n 0, 1) := by decide +kernel
theorem dX12_summers_141 : decode cX12_summers 141 = .ok (.invokevirtual 317, 3) := by decide +kernel
theorem dX12_summers_144 : decode cX12_summers 144 = .ok (.iload 7, 2) := by decide +kernel
theorem dX12_summers_146 : decode cX12_summers 146 = .ok (.isub, 1) := by decide +kernel
theorem dX12_summers_147 : decode cX12_summers 147 = .ok (.iadd, 1) := by decide +kernel
theorem dX12_summers_148 : decode cX12_summers 148 = .ok (.istore 5, 2) := by decide +kernel
theorem dX12_summers_150 : decode cX12_summers 150 = .ok (.iload 6, 2) := by decide +kernel
theorem dX12_summers_152 : decode cX12_summers 152 = .ok (.aload_n 0, 1) := by decide +kernel
theorem dX12_summers_153 : decode cX12_summers 153 = .ok (.getfield 39, 3) := by decide +kernel
theorem dX12_summers_156 : decode cX12_summers 156 = .ok (.bipush 11, 2) := by decide +kernel
theorem dX12_summers_158 : decode cX12_summers 158 = .ok (.iaload, 1) := by decide +kernel
theorem dX12_summers_159 : decode cX12_summers 159 = .ok (.iadd, 1) := by decide +kernel
theorem dX12_summers_160 : decode cX12_summers 160 = .ok (.istore 6, 2) := by decide +kernel
theorem dX12_summers_162 : decode cX12_summers 162 = .ok (.aload_n 0, 1) := by decide +kernel
theorem dX12_summers_163 : decode cX12_summers 163 = .ok (.invokevirtual 368, 3) := by decide +kernel
theorem dX12_summers_166 : decode cX12_summers 166 = .ok (.iinc 8 1, 3) := by decide +kernel
theorem dX12_summers_169 : decode cX12_summers 169 = .ok (.goto (-85), 3) := by decide +kernel
theorem dX12_summers_172 : decode cX12_summers 172 = .ok (.iload 4, 2) := by decide +kernel
theorem dX12_summers_174 : decode cX12_summers 174 = .ok (.ifCond .ne 8, 3) := by decide +kernel
theorem dX12_summers_177 : decode cX12_summers 177 = .ok (.iload 5, 2) := by decide +kernel
theorem dX12_summers_179 : decode cX12_summers 179 = .ok (.goto 5, 3) := by decide +kernel
theorem dX12_summers_182 : decode cX12_summers 182 = .ok (.iload 6, 2) := by decide +kernel
theorem dX12_summers_184 : decode cX12_summers 184 = .ok (.ireturn, 1) := by decide +kernel
set_option maxHeartbeats 4000000 in
set_option maxRecDepth 100000 in
theorem ct_X12_peak {T : Nat → Option Int32} (l : Launch) (D : va_G) (tc : Nat → ClassId) (sk : (Nat → Nat) × (Nat → Nat)) (Ma : Nat → Nat) (Mv : Nat → Int32) (Mf : Nat → Nat → Int32) (Mj : Nat → Int64) (Mg : Nat → Nat → Int64) (x1 : Int32) (x2 : Int32) (h_said : SaidD T (Mf 10) 999) (h_rul : RulD (Mf 2) (Mf 4) (Mf 5) (Mv 1)) (h_frc : -1 ≤ (Mv 11).toInt ∧ (Mv 11).toInt < (Mv 1).toInt ∧ (Mv 1).toInt ≤ 6) : Ct l yX12_peak cX12_peak 7 (some .int) { frames := 5, cells := 0, slots := 0, locals := 121 } D tc sk [.ref (Ma 0), .int x1, .int x2] [((Ma 0), .inr (12, [.ref (Ma 1), .int (Mv 0), .int (Mv 1), .ref (Ma 2), .ref (Ma 3), .ref (Ma 4), .ref (Ma 5), .ref (Ma 6), .int (Mv 2), .int (Mv 3), .int (Mv 4), .int (Mv 5), .int (Mv 6), .int (Mv 7), .int (Mv 8), .ref (Ma 7), .int (Mv 9), .ref (Ma 8), .int (Mv 10), .ref (Ma 9), .ref (Ma 10), .int (Mv 11), .int (Mv 12), .int (Mv 13), .ref (Ma 11), .int (Mv 14), .ref (Ma 12), .ref (Ma 13), .ref (Ma 14), .ref (Ma 15), .ref (Ma 16), .long (Mj 0), .ref (Ma 17), .ref (Ma 18), .ref (Ma 19), .ref (Ma 20)])), ((Ma 2), .inl (tc 0, 2400, .inl (Mf 2))), ((Ma 4), .inl (tc 0, 288, .inl (Mf 4))), ((Ma 5), .inl (tc 0, 6, .inl (Mf 5))), ((Ma 8), .inl (tc 1, 64, .inr (.inl (Mg 8)))), ((Ma 9), .inl (tc 1, 13, .inr (.inl (Mg 9)))), ((Ma 10), .inl (tc 0, 126, .inl (Mf 10))), ((Ma 12), .inl (tc 0, 46, .inl (Mf 12)))] (fun (v : Option Value) (u : (Int32) × (Nat → Int64) × (Nat → Int64) × (Nat → Int32) × (Nat → Int32)) => match u with | (oo0x1, oo0x2, oo0x3, oo0x4, oo0x5) => ∃ r : Int32, v = some (.int r) ∧ (True) ∧ (SaidD T oo0x4 999)) (fun (u : (Int32) × (Nat → Int64) × (Nat → Int64) × (Nat → Int32) × (Nat → Int32)) => match u with | (oo0x1, oo0x2, oo0x3, oo0x4, oo0x5) => [((Ma 0), .inr (12, [.ref (Ma 1), .int (Mv 0), .int (Mv 1), .ref (Ma 2), .ref (Ma 3), .ref (Ma 4), .ref (Ma 5), .ref (Ma 6), .int (Mv 2), .int (Mv 3), .int (Mv 4), .int (Mv 5), .int (Mv 6), .int (Mv 7), .int (Mv 8), .ref (Ma 7), .int (Mv 9), .ref (Ma 8), .int oo0x1, .ref (Ma 9), .ref (Ma 10), .int (Mv 11), .int (Mv 12), .int (Mv 13), .ref (Ma 11), .int (Mv 14), .ref (Ma 12), .ref (Ma 13), .ref (Ma 14), .ref (Ma 15), .ref (Ma 16), .long (Mj 0), .ref (Ma 17), .ref (Ma 18), .ref (Ma 19), .ref (Ma 20)])), ((Ma 2), .inl (tc 0, 2400, .inl (Mf 2))), ((Ma 4), .inl (tc 0, 288, .inl (Mf 4))), ((Ma 5), .inl (tc 0, 6, .inl (Mf 5))), ((Ma 8), .inl (tc 1, 64, .inr (.inl oo0x2))), ((Ma 9), .inl (tc 1, 13, .inr (.inl oo0x3))), ((Ma 10), .inl (tc 0, 126, .inl oo0x4)), ((Ma 12), .inl (tc 0, 46, .inl oo0x5))]) 0 0 := by
  refine Ct.start (by decide) (Nat.le_of_ble_eq_true rfl) (fun p e s m below meth c A ls hx hb hr hlk hin hml hown hts hK hX hP hD hA hl hS => ?_)
  have hl : lv_has ls 7 [(0, .ref (Ma 0)), (1, .int x1), (2, .int x2)] := hl
  have ar_h_said := SaidD.al h_said
  refine lv_aload_n hx hb dX12_peak_0 rfl (lv_at hl 0 rfl) ?_
  refine cV (a := (Ma 0)) (As := []) (rest := []) (wr := [((Ma 2), .inl (tc 0, 2400, .inl (Mf 2))), ((Ma 4), .inl (tc 0, 288, .inl (Mf 4))), ((Ma 5), .inl (tc 0, 6, .inl (Mf 5))), ((Ma 8), .inl (tc 1, 64, .inr (.inl (Mg 8)))), ((Ma 9), .inl (tc 1, 13, .inr (.inl (Mg 9)))), ((Ma 12), .inl (tc 0, 46, .inl (Mf 12)))]) ⟨hx, hb, hml, hown, hts⟩ hK hX hA (cu_X12_isBook l D tc sk (Ma 0) (Ma 1) (Ma 2) (Ma 3) (Ma 4) (Ma 5) (Ma 6) (Ma 7) (Ma 8) (Ma 9) (Ma 10) (Ma 11) (Ma 12) (Ma 13) (Ma 14) (Ma 15) (Ma 16) (Ma 17) (Ma 18) (Ma 19) (Ma 20) (Mv 0) (Mv 1) (Mv 2) (Mv 3) (Mv 4) (Mv 5) (Mv 6) (Mv 7) (Mv 8) (Mv 9) (Mv 10) (Mv 11) (Mv 12) (Mv 13) (Mv 14) (Mf 10) (Mj 0) h_said.1) k_1407 k_1404 k_1406 k_65 k_106 pl_X12_isBook ⟨Nat.le_of_ble_eq_true rfl, Nat.le_of_ble_eq_true rfl⟩ rfl rfl (va_recv hK hP (ci := 12) (q0 := 0) rfl rfl) hP hD hS [0, 6] [1, 2, 3, 4, 5, 7] rfl rfl rfl rfl rfl (by decide) rfl hl.1 rfl (Nat.le_of_ble_eq_true rfl) dX12_peak_1 ⟨Nat.le_of_ble_eq_true rfl, Nat.le_of_ble_eq_true rfl⟩ (fun v_1 u_2 H locs hv_3 hP₀ hD₀ hS₀ => ?_)
  obtain ⟨r_4, rfl, he_5⟩ := hv_3
  have he_5 : (r_4.toInt = 0 ∨ (r_4.toInt = 1 ∧ 1 ≤ ((Mf 10) 2).toInt ∧ ((Mf 10) 2).toInt ≤ 10)) := he_5
  refine W.eq (g2 := F0 m 4 ls [.int r_4]) rfl ?_
  replace hP : va_P D classes [((Ma 2), .inl (tc 0, 2400, .inl (Mf 2))), ((Ma 4), .inl (tc 0, 288, .inl (Mf 4))), ((Ma 5), .inl (tc 0, 6, .inl (Mf 5))), ((Ma 8), .inl (tc 1, 64, .inr (.inl (Mg 8)))), ((Ma 9), .inl (tc 1, 13, .inr (.inl (Mg 9)))), ((Ma 12), .inl (tc 0, 46, .inl (Mf 12))), ((Ma 0), .inr (12, [.ref (Ma 1), .int (Mv 0), .int (Mv 1), .ref (Ma 2), .ref (Ma 3), .ref (Ma 4), .ref (Ma 5), .ref (Ma 6), .int (Mv 2), .int (Mv 3), .int (Mv 4), .int (Mv 5), .int (Mv 6), .int (Mv 7), .int (Mv 8), .ref (Ma 7), .int (Mv 9), .ref (Ma 8), .int (Mv 10), .ref (Ma 9), .ref (Ma 10), .int (Mv 11), .int (Mv 12), .int (Mv 13), .ref (Ma 11), .int (Mv 14), .ref (Ma 12), .ref (Ma 13), .ref (Ma 14), .ref (Ma 15), .ref (Ma 16), .long (Mj 0), .ref (Ma 17), .ref (Ma 18), .ref (Ma 19), .ref (Ma 20)])), ((Ma 10), .inl (tc 0, 126, .inl (Mf 10)))] H := hP₀
  replace hD : va_D A [((Ma 2), .inl (tc 0, 2400, .inl (Mf 2))), ((Ma 4), .inl (tc 0, 288, .inl (Mf 4))), ((Ma 5), .inl (tc 0, 6, .inl (Mf 5))), ((Ma 8), .inl (tc 1, 64, .inr (.inl (Mg 8)))), ((Ma 9), .inl (tc 1, 13, .inr (.inl (Mg 9)))), ((Ma 12), .inl (tc 0, 46, .inl (Mf 12))), ((Ma 0), .inr (12, [.ref (Ma 1), .int (Mv 0), .int (Mv 1), .ref (Ma 2), .ref (Ma 3), .ref (Ma 4), .ref (Ma 5), .ref (Ma 6), .int (Mv 2), .int (Mv 3), .int (Mv 4), .int (Mv 5), .int (Mv 6), .int (Mv 7), .int (Mv 8), .ref (Ma 7), .int (Mv 9), .ref (Ma 8), .int (Mv 10), .ref (Ma 9), .ref (Ma 10), .int (Mv 11), .int (Mv 12), .int (Mv 13), .ref (Ma 11), .int (Mv 14), .ref (Ma 12), .ref (Ma 13), .ref (Ma 14), .ref (Ma 15), .ref (Ma 16), .long (Mj 0), .ref (Ma 17), .ref (Ma 18), .ref (Ma 19), .ref (Ma 20)])), ((Ma 10), .inl (tc 0, 126, .inl (Mf 10)))] := hD₀
  replace hS := hS₀
  clear hP₀ hD₀ hS₀
  refine lv_if_eq (tgt := 29) hx hb dX12_peak_4 (by decide) (fun c_7 => ?_) (fun c_7 => ?_)
  · skip
    refine lv_iconst (v := (-1)) hx hb dX12_peak_29 (by decide) ?_
    exact retI (v := (-1)) hx hb hr hlk (rfl) hP hD hS ((Mv 10), (Mg 8), (Mg 9), (Mf 10), (Mf 12)) ⟨_, rfl, trivial, h_said⟩ [6, 0, 1, 2, 3, 4, 7, 5] rfl rfl dX12_peak_30 (Nat.le_of_ble_eq_true rfl) (Nat.le_of_ble_eq_true rfl) rfl
  · skip
    refine lv_iload_n hx hb dX12_peak_7 rfl (lv_at hl 1 rfl) ?_
    refine lv_i2l (v := (x1).toInt64) hx hb dX12_peak_8 rfl ?_
    refine lv_lconst (v := 1) hx hb dX12_peak_9 (by decide) ?_
    refine lv_ldc2 hx hb hown (hts _ k_1500) dX12_peak_10 ?_
    refine cS (As := [.long (x1).toInt64, .long 1, .long 100]) (rest := []) (wr := [((Ma 2), .inl (tc 0, 2400, .inl (Mf 2))), ((Ma 4), .inl (tc 0, 288, .inl (Mf 4))), ((Ma 5), .inl (tc 0, 6, .inl (Mf 5))), ((Ma 8), .inl (tc 1, 64, .inr (.inl (Mg 8)))), ((Ma 9), .inl (tc 1, 13, .inr (.inl (Mg 9)))), ((Ma 12), .inl (tc 0, 46, .inl (Mf 12))), ((Ma 0), .inr (12, [.ref (Ma 1), .int (Mv 0), .int (Mv 1), .ref (Ma 2), .ref (Ma 3), .ref (Ma 4), .ref (Ma 5), .ref (Ma 6), .int (Mv 2), .int (Mv 3), .int (Mv 4), .int (Mv 5), .int (Mv 6), .int (Mv 7), .int (Mv 8), .ref (Ma 7), .int (Mv 9), .ref (Ma 8), .int (Mv 10), .ref (Ma 9), .ref (Ma 10), .int (Mv 11), .int (Mv 12), .int (Mv 13), .ref (Ma 11), .int (Mv 14), .ref (Ma 12), .ref (Ma 13), .ref (Ma 14), .ref (Ma 15), .ref (Ma 16), .long (Mj 0), .ref (Ma 17), .ref (Ma 18), .ref (Ma 19), .ref (Ma 20)])), ((Ma 10), .inl (tc 0, 126, .inl (Mf 10)))]) ⟨hx, hb, hml, hown, hts⟩ hK hX hA (ct_X12_in l D tc sk ((x1).toInt64) 1 100) k_1259 k_1257 k_1258 k_106 pl_X12_in ⟨Nat.le_of_ble_eq_true rfl, Nat.le_of_ble_eq_true rfl⟩ rfl rfl  hP hD hS [] [0, 1, 2, 3, 4, 5, 6, 7] rfl rfl rfl rfl rfl (by decide) rfl hl.1 rfl (Nat.le_of_ble_eq_true rfl) dX12_peak_13 ⟨Nat.le_of_ble_eq_true rfl, Nat.le_of_ble_eq_true rfl⟩ (fun v_8 u_9 H locs hv_10 hP₀ hD₀ hS₀ => ?_)
    obtain ⟨r_11, rfl, he_12⟩ := hv_10
    have he_12 : (r_11.toInt = 0 ∨ (r_11.toInt = 1 ∧ (1 : Int64).toInt ≤ (x1).toInt64.toInt ∧ (x1).toInt64.toInt ≤ (100 : Int64).toInt)) := he_12
    refine W.eq (g2 := F0 m 16 ls [.int r_11]) rfl ?_
    replace hP : va_P D classes [((Ma 2), .inl (tc 0, 2400, .inl (Mf 2))), ((Ma 4), .inl (tc 0, 288, .inl (Mf 4))), ((Ma 5), .inl (tc 0, 6, .inl (Mf 5))), ((Ma 8), .inl (tc 1, 64, .inr (.inl (Mg 8)))), ((Ma 9), .inl (tc 1, 13, .inr (.inl (Mg 9)))), ((Ma 12), .inl (tc 0, 46, .inl (Mf 12))), ((Ma 0), .inr (12, [.ref (Ma 1), .int (Mv 0), .int (Mv 1), .ref (Ma 2), .ref (Ma 3), .ref (Ma 4), .ref (Ma 5), .ref (Ma 6), .int (Mv 2), .int (Mv 3), .int (Mv 4), .int (Mv 5), .int (Mv 6), .int (Mv 7), .int (Mv 8), .ref (Ma 7), .int (Mv 9), .ref (Ma 8), .int (Mv 10), .ref (Ma 9), .ref (Ma 10), .int (Mv 11), .int (Mv 12), .int (Mv 13), .ref (Ma 11), .int (Mv 14), .ref (Ma 12), .ref (Ma 13), .ref (Ma 14), .ref (Ma 15), .ref (Ma 16), .long (Mj 0), .ref (Ma 17), .ref (Ma 18), .ref (Ma 19), .ref (Ma 20)])), ((Ma 10), .inl (tc 0, 126, .inl (Mf 10)))] H := hP₀
    replace hD : va_D A [((Ma 2), .inl (tc 0, 2400, .inl (Mf 2))), ((Ma 4), .inl (tc 0, 288, .inl (Mf 4))), ((Ma 5), .inl (tc 0, 6, .inl (Mf 5))), ((Ma 8), .inl (tc 1, 64, .inr (.inl (Mg 8)))), ((Ma 9), .inl (tc 1, 13, .inr (.inl (Mg 9)))), ((Ma 12), .inl (tc 0, 46, .inl (Mf 12))), ((Ma 0), .inr (12, [.ref (Ma 1), .int (Mv 0), .int (Mv 1), .ref (Ma 2), .ref (Ma 3), .ref (Ma 4), .ref (Ma 5), .ref (Ma 6), .int (Mv 2), .int (Mv 3), .int (Mv 4), .int (Mv 5), .int (Mv 6), .int (Mv 7), .int (Mv 8), .ref (Ma 7), .int (Mv 9), .ref (Ma 8), .int (Mv 10), .ref (Ma 9), .ref (Ma 10), .int (Mv 11), .int (Mv 12), .int (Mv 13), .ref (Ma 11), .int (Mv 14), .ref (Ma 12), .ref (Ma 13), .ref (Ma 14), .ref (Ma 15), .ref (Ma 16), .long (Mj 0), .ref (Ma 17), .ref (Ma 18), .ref (Ma 19), .ref (Ma 20)])), ((Ma 10), .inl (tc 0, 126, .inl (Mf 10)))] := hD₀
    replace hS := hS₀
    clear hP₀ hD₀ hS₀
    have yl_he_12_1 : (1 : Int64).toInt = 1 := by decide
    have yl_he_12_100 : (100 : Int64).toInt = 100 := by decide
    simp only [i32_64] at he_12
    refine lv_if_eq (tgt := 29) hx hb dX12_peak_16 (by decide) (fun c_14 => ?_) (fun c_14 => ?_)
    · skip
      refine lv_iconst (v := (-1)) hx hb dX12_peak_29 (by decide) ?_
      exact retI (v := (-1)) hx hb hr hlk (rfl) hP hD hS ((Mv 10), (Mg 8), (Mg 9), (Mf 10), (Mf 12)) ⟨_, rfl, trivial, h_said⟩ [6, 0, 1, 2, 3, 4, 7, 5] rfl rfl dX12_peak_30 (Nat.le_of_ble_eq_true rfl) (Nat.le_of_ble_eq_true rfl) rfl
    · skip
      refine lv_iload_n hx hb dX12_peak_19 rfl (lv_at hl 2 rfl) ?_
      refine lv_i2l (v := (x2).toInt64) hx hb dX12_peak_20 rfl ?_
      refine lv_lconst (v := 0) hx hb dX12_peak_21 (by decide) ?_
      refine lv_lconst (v := 1) hx hb dX12_peak_22 (by decide) ?_
      refine cS (As := [.long (x2).toInt64, .long 0, .long 1]) (rest := []) (wr := [((Ma 2), .inl (tc 0, 2400, .inl (Mf 2))), ((Ma 4), .inl (tc 0, 288, .inl (Mf 4))), ((Ma 5), .inl (tc 0, 6, .inl (Mf 5))), ((Ma 8), .inl (tc 1, 64, .inr (.inl (Mg 8)))), ((Ma 9), .inl (tc 1, 13, .inr (.inl (Mg 9)))), ((Ma 12), .inl (tc 0, 46, .inl (Mf 12))), ((Ma 0), .inr (12, [.ref (Ma 1), .int (Mv 0), .int (Mv 1), .ref (Ma 2), .ref (Ma 3), .ref (Ma 4), .ref (Ma 5), .ref (Ma 6), .int (Mv 2), .int (Mv 3), .int (Mv 4), .int (Mv 5), .int (Mv 6), .int (Mv 7), .int (Mv 8), .ref (Ma 7), .int (Mv 9), .ref (Ma 8), .int (Mv 10), .ref (Ma 9), .ref (Ma 10), .int (Mv 11), .int (Mv 12), .int (Mv 13), .ref (Ma 11), .int (Mv 14), .ref (Ma 12), .ref (Ma 13), .ref (Ma 14), .ref (Ma 15), .ref (Ma 16), .long (Mj 0), .ref (Ma 17), .ref (Ma 18), .ref (Ma 19), .ref (Ma 20)])), ((Ma 10), .inl (tc 0, 126, .inl (Mf 10)))]) ⟨hx, hb, hml, hown, hts⟩ hK hX hA (ct_X12_in l D tc sk ((x2).toInt64) 0 1) k_1259 k_1257 k_1258 k_106 pl_X12_in ⟨Nat.le_of_ble_eq_true rfl, Nat.le_of_ble_eq_true rfl⟩ rfl rfl  hP hD hS [] [0, 1, 2, 3, 4, 5, 6, 7] rfl rfl rfl rfl rfl (by decide) rfl hl.1 rfl (Nat.le_of_ble_eq_true rfl) dX12_peak_23 ⟨Nat.le_of_ble_eq_true rfl, Nat.le_of_ble_eq_true rfl⟩ (fun v_15 u_16 H locs hv_17 hP₀ hD₀ hS₀ => ?_)
      obtain ⟨r_18, rfl, he_19⟩ := hv_17
      have he_19 : (r_18.toInt = 0 ∨ (r_18.toInt = 1 ∧ (0 : Int64).toInt ≤ (x2).toInt64.toInt ∧ (x2).toInt64.toInt ≤ (1 : Int64).toInt)) := he_19
      refine W.eq (g2 := F0 m 26 ls [.int r_18]) rfl ?_
      replace hP : va_P D classes [((Ma 2), .inl (tc 0, 2400, .inl (Mf 2))), ((Ma 4), .inl (tc 0, 288, .inl (Mf 4))), ((Ma 5), .inl (tc 0, 6, .inl (Mf 5))), ((Ma 8), .inl (tc 1, 64, .inr (.inl (Mg 8)))), ((Ma 9), .inl (tc 1, 13, .inr (.inl (Mg 9)))), ((Ma 12), .inl (tc 0, 46, .inl (Mf 12))), ((Ma 0), .inr (12, [.ref (Ma 1), .int (Mv 0), .int (Mv 1), .ref (Ma 2), .ref (Ma 3), .ref (Ma 4), .ref (Ma 5), .ref (Ma 6), .int (Mv 2), .int (Mv 3), .int (Mv 4), .int (Mv 5), .int (Mv 6), .int (Mv 7), .int (Mv 8), .ref (Ma 7), .int (Mv 9), .ref (Ma 8), .int (Mv 10), .ref (Ma 9), .ref (Ma 10), .int (Mv 11), .int (Mv 12), .int (Mv 13), .ref (Ma 11), .int (Mv 14), .ref (Ma 12), .ref (Ma 13), .ref (Ma 14), .ref (Ma 15), .ref (Ma 16), .long (Mj 0), .ref (Ma 17), .ref (Ma 18), .ref (Ma 19), .ref (Ma 20)])), ((Ma 10), .inl (tc 0, 126, .inl (Mf 10)))] H := hP₀
      replace hD : va_D A [((Ma 2), .inl (tc 0, 2400, .inl (Mf 2))), ((Ma 4), .inl (tc 0, 288, .inl (Mf 4))), ((Ma 5), .inl (tc 0, 6, .inl (Mf 5))), ((Ma 8), .inl (tc 1, 64, .inr (.inl (Mg 8)))), ((Ma 9), .inl (tc 1, 13, .inr (.inl (Mg 9)))), ((Ma 12), .inl (tc 0, 46, .inl (Mf 12))), ((Ma 0), .inr (12, [.ref (Ma 1), .int (Mv 0), .int (Mv 1), .ref (Ma 2), .ref (Ma 3), .ref (Ma 4), .ref (Ma 5), .ref (Ma 6), .int (Mv 2), .int (Mv 3), .int (Mv 4), .int (Mv 5), .int (Mv 6), .int (Mv 7), .int (Mv 8), .ref (Ma 7), .int (Mv 9), .ref (Ma 8), .int (Mv 10), .ref (Ma 9), .ref (Ma 10), .int (Mv 11), .int (Mv 12), .int (Mv 13), .ref (Ma 11), .int (Mv 14), .ref (Ma 12), .ref (Ma 13), .ref (Ma 14), .ref (Ma 15), .ref (Ma 16), .long (Mj 0), .ref (Ma 17), .ref (Ma 18), .ref (Ma 19), .ref (Ma 20)])), ((Ma 10), .inl (tc 0, 126, .inl (Mf 10)))] := hD₀
      replace hS := hS₀
      clear hP₀ hD₀ hS₀
      have yl_he_19_0 : (0 : Int64).toInt = 0 := by decide
      have yl_he_19_1 : (1 : Int64).toInt = 1 := by decide
      simp only [i32_64] at he_19
      refine lv_if_ne (tgt := 31) hx hb dX12_peak_26 (by decide) (fun c_21 => ?_) (fun c_21 => ?_)
      · skip
        refine lv_iconst (v := (-1)) hx hb dX12_peak_31 (by decide) ?_
        refine lv_istore_n (lv' := [(3, .int (-1)), (0, .ref (Ma 0)), (1, .int x1), (2, .int x2)]) hx hb dX12_peak_32 rfl hl (by decide) rfl (fun ls hl₀ => ?_)
        replace hl := hl₀
        clear hl₀
        refine lv_iconst (v := (-1)) hx hb dX12_peak_33 (by decide) ?_
        refine lv_istore (lv' := [(4, .int (-1)), (3, .int (-1)), (0, .ref (Ma 0)), (1, .int x1), (2, .int x2)]) hx hb dX12_peak_34 hl (by decide) rfl (fun ls hl₀ => ?_)
        replace hl := hl₀
        clear hl₀
        refine lv_aload_n hx hb dX12_peak_36 rfl (lv_at hl 2 rfl) ?_
        refine cV (a := (Ma 0)) (As := []) (rest := []) (wr := [((Ma 2), .inl (tc 0, 2400, .inl (Mf 2))), ((Ma 4), .inl (tc 0, 288, .inl (Mf 4))), ((Ma 5), .inl (tc 0, 6, .inl (Mf 5))), ((Ma 8), .inl (tc 1, 64, .inr (.inl (Mg 8)))), ((Ma 9), .inl (tc 1, 13, .inr (.inl (Mg 9))))]) ⟨hx, hb, hml, hown, hts⟩ hK hX hA (cu_X12_keeps l D tc sk (Ma 0) (Ma 1) (Ma 2) (Ma 3) (Ma 4) (Ma 5) (Ma 6) (Ma 7) (Ma 8) (Ma 9) (Ma 10) (Ma 11) (Ma 12) (Ma 13) (Ma 14) (Ma 15) (Ma 16) (Ma 17) (Ma 18) (Ma 19) (Ma 20) (Mv 0) (Mv 1) (Mv 2) (Mv 3) (Mv 4) (Mv 5) (Mv 6) (Mv 7) (Mv 8) (Mv 9) (Mv 10) (Mv 11) (Mv 12) (Mv 13) (Mv 14) (Mf 10) (Mf 12) (Mj 0) h_said) k_1505 k_1502 k_1504 k_80 k_106 pl_X12_keeps ⟨Nat.le_of_ble_eq_true rfl, Nat.le_of_ble_eq_true rfl⟩ rfl rfl (va_recv hK hP (ci := 12) (q0 := 6) rfl rfl) hP hD hS [6, 7, 5] [0, 1, 2, 3, 4] rfl rfl rfl rfl rfl (by decide) rfl hl.1 rfl (Nat.le_of_ble_eq_true rfl) dX12_peak_37 ⟨Nat.le_of_ble_eq_true rfl, Nat.le_of_ble_eq_true rfl⟩ (fun v_22 u_23 H locs hv_24 hP₀ hD₀ hS₀ => ?_)
        obtain ⟨sv_25, rfl⟩ : ∃ z, z = u_23 := ⟨_, rfl⟩
        obtain ⟨rfl, pf_26⟩ := hv_24
        have pf_26 : KeptD sv_25 := pf_26
        refine W.eq (g2 := F0 m 40 ls []) rfl ?_
        replace hP : va_P D classes [((Ma 2), .inl (tc 0, 2400, .inl (Mf 2))), ((Ma 4), .inl (tc 0, 288, .inl (Mf 4))), ((Ma 5), .inl (tc 0, 6, .inl (Mf 5))), ((Ma 8), .inl (tc 1, 64, .inr (.inl (Mg 8)))), ((Ma 9), .inl (tc 1, 13, .inr (.inl (Mg 9)))), ((Ma 0), .inr (12, [.ref (Ma 1), .int (Mv 0), .int (Mv 1), .ref (Ma 2), .ref (Ma 3), .ref (Ma 4), .ref (Ma 5), .ref (Ma 6), .int (Mv 2), .int (Mv 3), .int (Mv 4), .int (Mv 5), .int (Mv 6), .int (Mv 7), .int (Mv 8), .ref (Ma 7), .int (Mv 9), .ref (Ma 8), .int (Mv 10), .ref (Ma 9), .ref (Ma 10), .int (Mv 11), .int (Mv 12), .int (Mv 13), .ref (Ma 11), .int (Mv 14), .ref (Ma 12), .ref (Ma 13), .ref (Ma 14), .ref (Ma 15), .ref (Ma 16), .long (Mj 0), .ref (Ma 17), .ref (Ma 18), .ref (Ma 19), .ref (Ma 20)])), ((Ma 10), .inl (tc 0, 126, .inl (Mf 10))), ((Ma 12), .inl (tc 0, 46, .inl sv_25))] H := hP₀
        replace hD : va_D A [((Ma 2), .inl (tc 0, 2400, .inl (Mf 2))), ((Ma 4), .inl (tc 0, 288, .inl (Mf 4))), ((Ma 5), .inl (tc 0, 6, .inl (Mf 5))), ((Ma 8), .inl (tc 1, 64, .inr (.inl (Mg 8)))), ((Ma 9), .inl (tc 1, 13, .inr (.inl (Mg 9)))), ((Ma 0), .inr (12, [.ref (Ma 1), .int (Mv 0), .int (Mv 1), .ref (Ma 2), .ref (Ma 3), .ref (Ma 4), .ref (Ma 5), .ref (Ma 6), .int (Mv 2), .int (Mv 3), .int (Mv 4), .int (Mv 5), .int (Mv 6), .int (Mv 7), .int (Mv 8), .ref (Ma 7), .int (Mv 9), .ref (Ma 8), .int (Mv 10), .ref (Ma 9), .ref (Ma 10), .int (Mv 11), .int (Mv 12), .int (Mv 13), .ref (Ma 11), .int (Mv 14), .ref (Ma 12), .ref (Ma 13), .ref (Ma 14), .ref (Ma 15), .ref (Ma 16), .long (Mj 0), .ref (Ma 17), .ref (Ma 18), .ref (Ma 19), .ref (Ma 20)])), ((Ma 10), .inl (tc 0, 126, .inl (Mf 10))), ((Ma 12), .inl (tc 0, 46, .inl sv_25))] := hD₀
        replace hS := hS₀
        clear hP₀ hD₀ hS₀
        refine lv_iconst (v := 0) hx hb dX12_peak_40 (by decide) ?_
        refine lv_istore (lv' := [(5, .int 0), (4, .int (-1)), (3, .int (-1)), (0, .ref (Ma 0)), (1, .int x1), (2, .int x2)]) hx hb dX12_peak_41 hl (by decide) rfl (fun ls hl₀ => ?_)
        replace hl := hl₀
        clear hl₀
        have loop_43 : ∀ (n_41 : Nat) (vy_34 : Int32) (vy_35 : Int32) (vy_36 : Int32) (vy_37 : Nat → Int64) (vy_38 : Nat → Int64) (vy_39 : Int32) (vy_40 : Nat → Int32) (H : Heap) (locs : List Loc) (ls : Array Slot), (x1.toInt - (vy_34 : Int32).toInt).toNat < n_41 → (0 ≤ (vy_34 : Int32).toInt ∧ (vy_34 : Int32).toInt ≤ x1.toInt) → (SaidD T vy_40 (999 + (vy_34 : Int32).toInt)) → va_P D classes [((Ma 2), .inl (tc 0, 2400, .inl (Mf 2))), ((Ma 4), .inl (tc 0, 288, .inl (Mf 4))), ((Ma 5), .inl (tc 0, 6, .inl (Mf 5))), ((Ma 8), .inl (tc 1, 64, .inr (.inl vy_37))), ((Ma 9), .inl (tc 1, 13, .inr (.inl vy_38))), ((Ma 0), .inr (12, [.ref (Ma 1), .int (Mv 0), .int (Mv 1), .ref (Ma 2), .ref (Ma 3), .ref (Ma 4), .ref (Ma 5), .ref (Ma 6), .int (Mv 2), .int (Mv 3), .int (Mv 4), .int (Mv 5), .int (Mv 6), .int (Mv 7), .int (Mv 8), .ref (Ma 7), .int (Mv 9), .ref (Ma 8), .int vy_39, .ref (Ma 9), .ref (Ma 10), .int (Mv 11), .int (Mv 12), .int (Mv 13), .ref (Ma 11), .int (Mv 14), .ref (Ma 12), .ref (Ma 13), .ref (Ma 14), .ref (Ma 15), .ref (Ma 16), .long (Mj 0), .ref (Ma 17), .ref (Ma 18), .ref (Ma 19), .ref (Ma 20)])), ((Ma 10), .inl (tc 0, 126, .inl vy_40)), ((Ma 12), .inl (tc 0, 46, .inl sv_25))] H → va_D A [((Ma 2), .inl (tc 0, 2400, .inl (Mf 2))), ((Ma 4), .inl (tc 0, 288, .inl (Mf 4))), ((Ma 5), .inl (tc 0, 6, .inl (Mf 5))), ((Ma 8), .inl (tc 1, 64, .inr (.inl vy_37))), ((Ma 9), .inl (tc 1, 13, .inr (.inl vy_38))), ((Ma 0), .inr (12, [.ref (Ma 1), .int (Mv 0), .int (Mv 1), .ref (Ma 2), .ref (Ma 3), .ref (Ma 4), .ref (Ma 5), .ref (Ma 6), .int (Mv 2), .int (Mv 3), .int (Mv 4), .int (Mv 5), .int (Mv 6), .int (Mv 7), .int (Mv 8), .ref (Ma 7), .int (Mv 9), .ref (Ma 8), .int vy_39, .ref (Ma 9), .ref (Ma 10), .int (Mv 11), .int (Mv 12), .int (Mv 13), .ref (Ma 11), .int (Mv 14), .ref (Ma 12), .ref (Ma 13), .ref (Ma 14), .ref (Ma 15), .ref (Ma 16), .long (Mj 0), .ref (Ma 17), .ref (Ma 18), .ref (Ma 19), .ref (Ma 20)])), ((Ma 10), .inl (tc 0, 126, .inl vy_40)), ((Ma 12), .inl (tc 0, 46, .inl sv_25))] → va_S A s.heap H locs → lv_has ls 7 [(5, .int vy_34), (4, .int vy_35), (3, .int vy_36), (0, .ref (Ma 0)), (1, .int x1), (2, .int x2)] → W p l e ({ frames := 5, cells := 0, slots := 0, locals := 121 }) s m ([.ref (Ma 0), .int x1, .int x2].toArray) below meth c H locs 0 0 (MQ below (QW (fun (v : Option Value) (u : (Int32) × (Nat → Int64) × (Nat → Int64) × (Nat → Int32) × (Nat → Int32)) => match u with | (oo0x1, oo0x2, oo0x3, oo0x4, oo0x5) => ∃ r : Int32, v = some (.int r) ∧ (True) ∧ (SaidD T oo0x4 999)) (BW D (fun (u : (Int32) × (Nat → Int64) × (Nat → Int64) × (Nat → Int32) × (Nat → Int32)) => match u with | (oo0x1, oo0x2, oo0x3, oo0x4, oo0x5) => [((Ma 0), .inr (12, [.ref (Ma 1), .int (Mv 0), .int (Mv 1), .ref (Ma 2), .ref (Ma 3), .ref (Ma 4), .ref (Ma 5), .ref (Ma 6), .int (Mv 2), .int (Mv 3), .int (Mv 4), .int (Mv 5), .int (Mv 6), .int (Mv 7), .int (Mv 8), .ref (Ma 7), .int (Mv 9), .ref (Ma 8), .int oo0x1, .ref (Ma 9), .ref (Ma 10), .int (Mv 11), .int (Mv 12), .int (Mv 13), .ref (Ma 11), .int (Mv 14), .ref (Ma 12), .ref (Ma 13), .ref (Ma 14), .ref (Ma 15), .ref (Ma 16), .long (Mj 0), .ref (Ma 17), .ref (Ma 18), .ref (Ma 19), .ref (Ma 20)])), ((Ma 2), .inl (tc 0, 2400, .inl (Mf 2))), ((Ma 4), .inl (tc 0, 288, .inl (Mf 4))), ((Ma 5), .inl (tc 0, 6, .inl (Mf 5))), ((Ma 8), .inl (tc 1, 64, .inr (.inl oo0x2))), ((Ma 9), .inl (tc 1, 13, .inr (.inl oo0x3))), ((Ma 10), .inl (tc 0, 126, .inl oo0x4)), ((Ma 12), .inl (tc 0, 46, .inl oo0x5))]) A) A) ([.ref (Ma 0), .int x1, .int x2].toArray) s 0 0 A) (F0 m 43 ls []) := by
          clear hP hD hS hl
          intro n_41
          induction n_41 with
          | zero =>
            intro vy_34 vy_35 vy_36 vy_37 vy_38 vy_39 vy_40 H locs ls h1
            exact absurd h1 (Nat.not_lt_zero _)
          | succ n_41 ih_42 =>
            intro vy_34 vy_35 vy_36 vy_37 vy_38 vy_39 vy_40 H locs ls hn_46 pf_44 pf_45 hP hD hS hl
            have ar_pf_45 := SaidD.al pf_45
            refine lv_iload hx hb dX12_peak_43 (lv_at hl 0 rfl) ?_
            refine lv_iload_n hx hb dX12_peak_45 rfl (lv_at hl 4 rfl) ?_
            refine lv_icmp_ge (tgt := 100) hx hb dX12_peak_46 (by decide) (fun c_47 => ?_) (fun c_47 => ?_)
            · skip
              refine lv_aload_n hx hb dX12_peak_100 rfl (lv_at hl 3 rfl) ?_
              refine cV (a := (Ma 0)) (As := []) (rest := []) (wr := [((Ma 2), .inl (tc 0, 2400, .inl (Mf 2))), ((Ma 4), .inl (tc 0, 288, .inl (Mf 4))), ((Ma 5), .inl (tc 0, 6, .inl (Mf 5))), ((Ma 8), .inl (tc 1, 64, .inr (.inl vy_37))), ((Ma 9), .inl (tc 1, 13, .inr (.inl vy_38)))]) ⟨hx, hb, hml, hown, hts⟩ hK hX hA (cu_X12_laysBack l D tc sk (Ma 0) (Ma 1) (Ma 2) (Ma 3) (Ma 4) (Ma 5) (Ma 6) (Ma 7) (Ma 8) (Ma 9) (Ma 10) (Ma 11) (Ma 12) (Ma 13) (Ma 14) (Ma 15) (Ma 16) (Ma 17) (Ma 18) (Ma 19) (Ma 20) (Mv 0) (Mv 1) (Mv 2) (Mv 3) (Mv 4) (Mv 5) (Mv 6) (Mv 7) (Mv 8) (Mv 9) vy_39 (Mv 11) (Mv 12) (Mv 13) (Mv 14) vy_40 sv_25 (Mj 0) pf_45.1 pf_26) k_1513 k_1510 k_1512 k_82 k_106 pl_X12_laysBack ⟨Nat.le_of_ble_eq_true rfl, Nat.le_of_ble_eq_true rfl⟩ rfl rfl (va_recv hK hP (ci := 12) (q0 := 5) rfl rfl) hP hD hS [5, 6, 7] [0, 1, 2, 3, 4] rfl rfl rfl rfl rfl (by decide) rfl hl.1 rfl (Nat.le_of_ble_eq_true rfl) dX12_peak_101 ⟨Nat.le_of_ble_eq_true rfl, Nat.le_of_ble_eq_true rfl⟩ (fun v_48 u_49 H locs hv_50 hP₀ hD₀ hS₀ => ?_)
              obtain ⟨sv_51, rfl⟩ : ∃ z, z = u_49 := ⟨_, rfl⟩
              obtain ⟨rfl, pf_52⟩ := hv_50
              have pf_52 : SaidD T sv_51 999 := pf_52
              have ar_pf_52 := SaidD.al pf_52
              refine W.eq (g2 := F0 m 104 ls []) rfl ?_
              replace hP : va_P D classes [((Ma 2), .inl (tc 0, 2400, .inl (Mf 2))), ((Ma 4), .inl (tc 0, 288, .inl (Mf 4))), ((Ma 5), .inl (tc 0, 6, .inl (Mf 5))), ((Ma 8), .inl (tc 1, 64, .inr (.inl vy_37))), ((Ma 9), .inl (tc 1, 13, .inr (.inl vy_38))), ((Ma 0), .inr (12, [.ref (Ma 1), .int (Mv 0), .int (Mv 1), .ref (Ma 2), .ref (Ma 3), .ref (Ma 4), .ref (Ma 5), .ref (Ma 6), .int (Mv 2), .int (Mv 3), .int (Mv 4), .int (Mv 5), .int (Mv 6), .int (Mv 7), .int (Mv 8), .ref (Ma 7), .int (Mv 9), .ref (Ma 8), .int vy_39, .ref (Ma 9), .ref (Ma 10), .int (Mv 11), .int (Mv 12), .int (Mv 13), .ref (Ma 11), .int (Mv 14), .ref (Ma 12), .ref (Ma 13), .ref (Ma 14), .ref (Ma 15), .ref (Ma 16), .long (Mj 0), .ref (Ma 17), .ref (Ma 18), .ref (Ma 19), .ref (Ma 20)])), ((Ma 10), .inl (tc 0, 126, .inl sv_51)), ((Ma 12), .inl (tc 0, 46, .inl sv_25))] H := hP₀
              replace hD : va_D A [((Ma 2), .inl (tc 0, 2400, .inl (Mf 2))), ((Ma 4), .inl (tc 0, 288, .inl (Mf 4))), ((Ma 5), .inl (tc 0, 6, .inl (Mf 5))), ((Ma 8), .inl (tc 1, 64, .inr (.inl vy_37))), ((Ma 9), .inl (tc 1, 13, .inr (.inl vy_38))), ((Ma 0), .inr (12, [.ref (Ma 1), .int (Mv 0), .int (Mv 1), .ref (Ma 2), .ref (Ma 3), .ref (Ma 4), .ref (Ma 5), .ref (Ma 6), .int (Mv 2), .int (Mv 3), .int (Mv 4), .int (Mv 5), .int (Mv 6), .int (Mv 7), .int (Mv 8), .ref (Ma 7), .int (Mv 9), .ref (Ma 8), .int vy_39, .ref (Ma 9), .ref (Ma 10), .int (Mv 11), .int (Mv 12), .int (Mv 13), .ref (Ma 11), .int (Mv 14), .ref (Ma 12), .ref (Ma 13), .ref (Ma 14), .ref (Ma 15), .ref (Ma 16), .long (Mj 0), .ref (Ma 17), .ref (Ma 18), .ref (Ma 19), .ref (Ma 20)])), ((Ma 10), .inl (tc 0, 126, .inl sv_51)), ((Ma 12), .inl (tc 0, 46, .inl sv_25))] := hD₀
              replace hS := hS₀
              clear hP₀ hD₀ hS₀
              refine lv_iload_n hx hb dX12_peak_104 rfl (lv_at hl 5 rfl) ?_
              refine lv_if_ne (tgt := 112) hx hb dX12_peak_105 (by decide) (fun c_53 => ?_) (fun c_53 => ?_)
              · skip
                refine lv_iload hx hb dX12_peak_112 (lv_at hl 1 rfl) ?_
                exact retI (v := vy_35) hx hb hr hlk (rfl) hP hD hS (vy_39, vy_37, vy_38, sv_51, sv_25) ⟨_, rfl, trivial, pf_52⟩ [5, 0, 1, 2, 3, 4, 6, 7] rfl rfl dX12_peak_114 (Nat.le_of_ble_eq_true rfl) (Nat.le_of_ble_eq_true rfl) rfl
              · skip
                refine lv_iload_n hx hb dX12_peak_108 rfl (lv_at hl 2 rfl) ?_
                refine lv_goto (tgt := 114) hx hb dX12_peak_109 (by decide) ?_
                exact retI (v := vy_36) hx hb hr hlk (rfl) hP hD hS (vy_39, vy_37, vy_38, sv_51, sv_25) ⟨_, rfl, trivial, pf_52⟩ [5, 0, 1, 2, 3, 4, 6, 7] rfl rfl dX12_peak_114 (Nat.le_of_ble_eq_true rfl) (Nat.le_of_ble_eq_true rfl) rfl
            · skip
              refine lv_aload_n hx hb dX12_peak_49 rfl (lv_at hl 3 rfl) ?_
              refine cV (a := (Ma 0)) (As := []) (rest := []) (wr := [((Ma 2), .inl (tc 0, 2400, .inl (Mf 2))), ((Ma 4), .inl (tc 0, 288, .inl (Mf 4))), ((Ma 5), .inl (tc 0, 6, .inl (Mf 5))), ((Ma 8), .inl (tc 1, 64, .inr (.inl vy_37))), ((Ma 9), .inl (tc 1, 13, .inr (.inl vy_38))), ((Ma 12), .inl (tc 0, 46, .inl sv_25))]) ⟨hx, hb, hml, hown, hts⟩ hK hX hA (cu_X12_soldAll l D tc sk (Ma 0) (Ma 1) (Ma 2) (Ma 3) (Ma 4) (Ma 5) (Ma 6) (Ma 7) (Ma 8) (Ma 9) (Ma 10) (Ma 11) (Ma 12) (Ma 13) (Ma 14) (Ma 15) (Ma 16) (Ma 17) (Ma 18) (Ma 19) (Ma 20) (Mv 0) (Mv 1) (Mv 2) (Mv 3) (Mv 4) (Mv 5) (Mv 6) (Mv 7) (Mv 8) (Mv 9) vy_39 (Mv 11) (Mv 12) (Mv 13) (Mv 14) vy_40 (Mj 0) pf_45.1) k_1439 k_1436 k_1438 k_71 k_106 pl_X12_soldAll ⟨Nat.le_of_ble_eq_true rfl, Nat.le_of_ble_eq_true rfl⟩ rfl rfl (va_recv hK hP (ci := 12) (q0 := 5) rfl rfl) hP hD hS [5, 6] [0, 1, 2, 3, 4, 7] rfl rfl rfl rfl rfl (by decide) rfl hl.1 rfl (Nat.le_of_ble_eq_true rfl) dX12_peak_50 ⟨Nat.le_of_ble_eq_true rfl, Nat.le_of_ble_eq_true rfl⟩ (fun v_54 u_55 H locs hv_56 hP₀ hD₀ hS₀ => ?_)
              obtain ⟨r_57, rfl, he_58⟩ := hv_56
              refine W.eq (g2 := F0 m 53 ls [.int r_57]) rfl ?_
              replace hP : va_P D classes [((Ma 2), .inl (tc 0, 2400, .inl (Mf 2))), ((Ma 4), .inl (tc 0, 288, .inl (Mf 4))), ((Ma 5), .inl (tc 0, 6, .inl (Mf 5))), ((Ma 8), .inl (tc 1, 64, .inr (.inl vy_37))), ((Ma 9), .inl (tc 1, 13, .inr (.inl vy_38))), ((Ma 12), .inl (tc 0, 46, .inl sv_25)), ((Ma 0), .inr (12, [.ref (Ma 1), .int (Mv 0), .int (Mv 1), .ref (Ma 2), .ref (Ma 3), .ref (Ma 4), .ref (Ma 5), .ref (Ma 6), .int (Mv 2), .int (Mv 3), .int (Mv 4), .int (Mv 5), .int (Mv 6), .int (Mv 7), .int (Mv 8), .ref (Ma 7), .int (Mv 9), .ref (Ma 8), .int vy_39, .ref (Ma 9), .ref (Ma 10), .int (Mv 11), .int (Mv 12), .int (Mv 13), .ref (Ma 11), .int (Mv 14), .ref (Ma 12), .ref (Ma 13), .ref (Ma 14), .ref (Ma 15), .ref (Ma 16), .long (Mj 0), .ref (Ma 17), .ref (Ma 18), .ref (Ma 19), .ref (Ma 20)])), ((Ma 10), .inl (tc 0, 126, .inl vy_40))] H := hP₀
              replace hD : va_D A [((Ma 2), .inl (tc 0, 2400, .inl (Mf 2))), ((Ma 4), .inl (tc 0, 288, .inl (Mf 4))), ((Ma 5), .inl (tc 0, 6, .inl (Mf 5))), ((Ma 8), .inl (tc 1, 64, .inr (.inl vy_37))), ((Ma 9), .inl (tc 1, 13, .inr (.inl vy_38))), ((Ma 12), .inl (tc 0, 46, .inl sv_25)), ((Ma 0), .inr (12, [.ref (Ma 1), .int (Mv 0), .int (Mv 1), .ref (Ma 2), .ref (Ma 3), .ref (Ma 4), .ref (Ma 5), .ref (Ma 6), .int (Mv 2), .int (Mv 3), .int (Mv 4), .int (Mv 5), .int (Mv 6), .int (Mv 7), .int (Mv 8), .ref (Ma 7), .int (Mv 9), .ref (Ma 8), .int vy_39, .ref (Ma 9), .ref (Ma 10), .int (Mv 11), .int (Mv 12), .int (Mv 13), .ref (Ma 11), .int (Mv 14), .ref (Ma 12), .ref (Ma 13), .ref (Ma 14), .ref (Ma 15), .ref (Ma 16), .long (Mj 0), .ref (Ma 17), .ref (Ma 18), .ref (Ma 19), .ref (Ma 20)])), ((Ma 10), .inl (tc 0, 126, .inl vy_40))] := hD₀
              replace hS := hS₀
              clear hP₀ hD₀ hS₀
              refine lv_istore (lv' := [(6, .int r_57), (5, .int vy_34), (4, .int vy_35), (3, .int vy_36), (0, .ref (Ma 0)), (1, .int x1), (2, .int x2)]) hx hb dX12_peak_53 hl (by decide) rfl (fun ls hl₀ => ?_)
              replace hl := hl₀
              clear hl₀
              refine lv_aload_n hx hb dX12_peak_55 rfl (lv_at hl 4 rfl) ?_
              have ha_60 : (999 + (vy_34 : Int32).toInt) ≤ 1000000 := by
                have z_1 : ¬ (r_4 : Int32).toInt = (0 : Int32).toInt := fun z => c_7 (Int32.toInt_inj.mp z)
                have z_2 : ¬ (r_11 : Int32).toInt = (0 : Int32).toInt := fun z => c_14 (Int32.toInt_inj.mp z)
                have z_3 : ¬ (r_18 : Int32).toInt = (0 : Int32).toInt := fun z => c_21 (Int32.toInt_inj.mp z)
                have z_4 := Int32.lt_iff_toInt_lt.mp (Int32.not_le.mp c_47)
                have y_0 : (0 : Int32).toInt = 0 := by decide
                omega
              refine cV (a := (Ma 0)) (As := []) (rest := []) (wr := [((Ma 12), .inl (tc 0, 46, .inl sv_25))]) ⟨hx, hb, hml, hown, hts⟩ hK hX hA (cu_X12_passes l D tc sk (Ma 0) (Ma 1) (Ma 2) (Ma 3) (Ma 4) (Ma 5) (Ma 6) (Ma 7) (Ma 8) (Ma 9) (Ma 10) (Ma 11) (Ma 12) (Ma 13) (Ma 14) (Ma 15) (Ma 16) (Ma 17) (Ma 18) (Ma 19) (Ma 20) (Mv 0) (Mv 1) (Mv 2) (Mv 3) (Mv 4) (Mv 5) (Mv 6) (Mv 7) (Mv 8) (Mv 9) vy_39 (Mv 11) (Mv 12) (Mv 13) (Mv 14) (Mf 2) (Mf 4) (Mf 5) vy_40 (Mj 0) vy_37 vy_38 (999 + (vy_34 : Int32).toInt) pf_45 ha_60 h_rul h_frc) k_1423 k_1420 k_1422 k_67 k_106 pl_X12_passes ⟨Nat.le_of_ble_eq_true rfl, Nat.le_of_ble_eq_true rfl⟩ rfl rfl (va_recv hK hP (ci := 12) (q0 := 6) rfl rfl) hP hD hS [6, 0, 1, 2, 3, 4, 7] [5] rfl rfl rfl rfl rfl (by decide) rfl hl.1 rfl (Nat.le_of_ble_eq_true rfl) dX12_peak_56 ⟨Nat.le_of_ble_eq_true rfl, Nat.le_of_ble_eq_true rfl⟩ (fun v_61 u_62 H locs hv_63 hP₀ hD₀ hS₀ => ?_)
              obtain ⟨sv_64, sv_65, sv_66, sv_67⟩ := u_62
              obtain ⟨r_69, rfl, he_70, pf_68⟩ := hv_63
              have pf_68 : SaidD T sv_67 ((999 + (vy_34 : Int32).toInt) + 1) := pf_68
              have ar_pf_68 := SaidD.al pf_68
              refine W.eq (g2 := F0 m 59 ls [.int r_69]) rfl ?_
              replace hP : va_P D classes [((Ma 12), .inl (tc 0, 46, .inl sv_25)), ((Ma 0), .inr (12, [.ref (Ma 1), .int (Mv 0), .int (Mv 1), .ref (Ma 2), .ref (Ma 3), .ref (Ma 4), .ref (Ma 5), .ref (Ma 6), .int (Mv 2), .int (Mv 3), .int (Mv 4), .int (Mv 5), .int (Mv 6), .int (Mv 7), .int (Mv 8), .ref (Ma 7), .int (Mv 9), .ref (Ma 8), .int sv_64, .ref (Ma 9), .ref (Ma 10), .int (Mv 11), .int (Mv 12), .int (Mv 13), .ref (Ma 11), .int (Mv 14), .ref (Ma 12), .ref (Ma 13), .ref (Ma 14), .ref (Ma 15), .ref (Ma 16), .long (Mj 0), .ref (Ma 17), .ref (Ma 18), .ref (Ma 19), .ref (Ma 20)])), ((Ma 2), .inl (tc 0, 2400, .inl (Mf 2))), ((Ma 4), .inl (tc 0, 288, .inl (Mf 4))), ((Ma 5), .inl (tc 0, 6, .inl (Mf 5))), ((Ma 8), .inl (tc 1, 64, .inr (.inl sv_65))), ((Ma 9), .inl (tc 1, 13, .inr (.inl sv_66))), ((Ma 10), .inl (tc 0, 126, .inl sv_67))] H := hP₀
              replace hD : va_D A [((Ma 12), .inl (tc 0, 46, .inl sv_25)), ((Ma 0), .inr (12, [.ref (Ma 1), .int (Mv 0), .int (Mv 1), .ref (Ma 2), .ref (Ma 3), .ref (Ma 4), .ref (Ma 5), .ref (Ma 6), .int (Mv 2), .int (Mv 3), .int (Mv 4), .int (Mv 5), .int (Mv 6), .int (Mv 7), .int (Mv 8), .ref (Ma 7), .int (Mv 9), .ref (Ma 8), .int sv_64, .ref (Ma 9), .ref (Ma 10), .int (Mv 11), .int (Mv 12), .int (Mv 13), .ref (Ma 11), .int (Mv 14), .ref (Ma 12), .ref (Ma 13), .ref (Ma 14), .ref (Ma 15), .ref (Ma 16), .long (Mj 0), .ref (Ma 17), .ref (Ma 18), .ref (Ma 19), .ref (Ma 20)])), ((Ma 2), .inl (tc 0, 2400, .inl (Mf 2))), ((Ma 4), .inl (tc 0, 288, .inl (Mf 4))), ((Ma 5), .inl (tc 0, 6, .inl (Mf 5))), ((Ma 8), .inl (tc 1, 64, .inr (.inl sv_65))), ((Ma 9), .inl (tc 1, 13, .inr (.inl sv_66))), ((Ma 10), .inl (tc 0, 126, .inl sv_67))] := hD₀
              replace hS := hS₀
              clear hP₀ hD₀ hS₀
              refine lv_pop hx hb dX12_peak_59 rfl ?_
              refine lv_aload_n hx hb dX12_peak_60 rfl (lv_at hl 4 rfl) ?_
              refine cV (a := (Ma 0)) (As := []) (rest := []) (wr := [((Ma 12), .inl (tc 0, 46, .inl sv_25)), ((Ma 2), .inl (tc 0, 2400, .inl (Mf 2))), ((Ma 4), .inl (tc 0, 288, .inl (Mf 4))), ((Ma 5), .inl (tc 0, 6, .inl (Mf 5))), ((Ma 8), .inl (tc 1, 64, .inr (.inl sv_65))), ((Ma 9), .inl (tc 1, 13, .inr (.inl sv_66)))]) ⟨hx, hb, hml, hown, hts⟩ hK hX hA (cu_X12_soldAll l D tc sk (Ma 0) (Ma 1) (Ma 2) (Ma 3) (Ma 4) (Ma 5) (Ma 6) (Ma 7) (Ma 8) (Ma 9) (Ma 10) (Ma 11) (Ma 12) (Ma 13) (Ma 14) (Ma 15) (Ma 16) (Ma 17) (Ma 18) (Ma 19) (Ma 20) (Mv 0) (Mv 1) (Mv 2) (Mv 3) (Mv 4) (Mv 5) (Mv 6) (Mv 7) (Mv 8) (Mv 9) sv_64 (Mv 11) (Mv 12) (Mv 13) (Mv 14) sv_67 (Mj 0) pf_68.1) k_1439 k_1436 k_1438 k_71 k_106 pl_X12_soldAll ⟨Nat.le_of_ble_eq_true rfl, Nat.le_of_ble_eq_true rfl⟩ rfl rfl (va_recv hK hP (ci := 12) (q0 := 1) rfl rfl) hP hD hS [1, 7] [0, 2, 3, 4, 5, 6] rfl rfl rfl rfl rfl (by decide) rfl hl.1 rfl (Nat.le_of_ble_eq_true rfl) dX12_peak_61 ⟨Nat.le_of_ble_eq_true rfl, Nat.le_of_ble_eq_true rfl⟩ (fun v_72 u_73 H locs hv_74 hP₀ hD₀ hS₀ => ?_)
              obtain ⟨r_75, rfl, he_76⟩ := hv_74
              refine W.eq (g2 := F0 m 64 ls [.int r_75]) rfl ?_
              replace hP : va_P D classes [((Ma 12), .inl (tc 0, 46, .inl sv_25)), ((Ma 2), .inl (tc 0, 2400, .inl (Mf 2))), ((Ma 4), .inl (tc 0, 288, .inl (Mf 4))), ((Ma 5), .inl (tc 0, 6, .inl (Mf 5))), ((Ma 8), .inl (tc 1, 64, .inr (.inl sv_65))), ((Ma 9), .inl (tc 1, 13, .inr (.inl sv_66))), ((Ma 0), .inr (12, [.ref (Ma 1), .int (Mv 0), .int (Mv 1), .ref (Ma 2), .ref (Ma 3), .ref (Ma 4), .ref (Ma 5), .ref (Ma 6), .int (Mv 2), .int (Mv 3), .int (Mv 4), .int (Mv 5), .int (Mv 6), .int (Mv 7), .int (Mv 8), .ref (Ma 7), .int (Mv 9), .ref (Ma 8), .int sv_64, .ref (Ma 9), .ref (Ma 10), .int (Mv 11), .int (Mv 12), .int (Mv 13), .ref (Ma 11), .int (Mv 14), .ref (Ma 12), .ref (Ma 13), .ref (Ma 14), .ref (Ma 15), .ref (Ma 16), .long (Mj 0), .ref (Ma 17), .ref (Ma 18), .ref (Ma 19), .ref (Ma 20)])), ((Ma 10), .inl (tc 0, 126, .inl sv_67))] H := hP₀
              replace hD : va_D A [((Ma 12), .inl (tc 0, 46, .inl sv_25)), ((Ma 2), .inl (tc 0, 2400, .inl (Mf 2))), ((Ma 4), .inl (tc 0, 288, .inl (Mf 4))), ((Ma 5), .inl (tc 0, 6, .inl (Mf 5))), ((Ma 8), .inl (tc 1, 64, .inr (.inl sv_65))), ((Ma 9), .inl (tc 1, 13, .inr (.inl sv_66))), ((Ma 0), .inr (12, [.ref (Ma 1), .int (Mv 0), .int (Mv 1), .ref (Ma 2), .ref (Ma 3), .ref (Ma 4), .ref (Ma 5), .ref (Ma 6), .int (Mv 2), .int (Mv 3), .int (Mv 4), .int (Mv 5), .int (Mv 6), .int (Mv 7), .int (Mv 8), .ref (Ma 7), .int (Mv 9), .ref (Ma 8), .int sv_64, .ref (Ma 9), .ref (Ma 10), .int (Mv 11), .int (Mv 12), .int (Mv 13), .ref (Ma 11), .int (Mv 14), .ref (Ma 12), .ref (Ma 13), .ref (Ma 14), .ref (Ma 15), .ref (Ma 16), .long (Mj 0), .ref (Ma 17), .ref (Ma 18), .ref (Ma 19), .ref (Ma 20)])), ((Ma 10), .inl (tc 0, 126, .inl sv_67))] := hD₀
              replace hS := hS₀
              clear hP₀ hD₀ hS₀
              refine lv_iload hx hb dX12_peak_64 (lv_at hl 0 rfl) ?_
              refine lv_isub hx hb dX12_peak_66 ?_
              refine lv_topi (fun x_78 ex_78 => ?_)
              refine lv_iload hx hb dX12_peak_67 (lv_at hl 2 rfl) ?_
              refine lv_icmp_gt (tgt := 75) hx hb dX12_peak_69 (by decide) (fun c_79 => ?_) (fun c_79 => ?_)
              · skip
                refine lv_aload_n hx hb dX12_peak_75 rfl (lv_at hl 4 rfl) ?_
                refine cV (a := (Ma 0)) (As := []) (rest := []) (wr := [((Ma 12), .inl (tc 0, 46, .inl sv_25)), ((Ma 2), .inl (tc 0, 2400, .inl (Mf 2))), ((Ma 4), .inl (tc 0, 288, .inl (Mf 4))), ((Ma 5), .inl (tc 0, 6, .inl (Mf 5))), ((Ma 8), .inl (tc 1, 64, .inr (.inl sv_65))), ((Ma 9), .inl (tc 1, 13, .inr (.inl sv_66)))]) ⟨hx, hb, hml, hown, hts⟩ hK hX hA (cu_X12_soldAll l D tc sk (Ma 0) (Ma 1) (Ma 2) (Ma 3) (Ma 4) (Ma 5) (Ma 6) (Ma 7) (Ma 8) (Ma 9) (Ma 10) (Ma 11) (Ma 12) (Ma 13) (Ma 14) (Ma 15) (Ma 16) (Ma 17) (Ma 18) (Ma 19) (Ma 20) (Mv 0) (Mv 1) (Mv 2) (Mv 3) (Mv 4) (Mv 5) (Mv 6) (Mv 7) (Mv 8) (Mv 9) sv_64 (Mv 11) (Mv 12) (Mv 13) (Mv 14) sv_67 (Mj 0) pf_68.1) k_1439 k_1436 k_1438 k_71 k_106 pl_X12_soldAll ⟨Nat.le_of_ble_eq_true rfl, Nat.le_of_ble_eq_true rfl⟩ rfl rfl (va_recv hK hP (ci := 12) (q0 := 6) rfl rfl) hP hD hS [6, 7] [0, 1, 2, 3, 4, 5] rfl rfl rfl rfl rfl (by decide) rfl hl.1 rfl (Nat.le_of_ble_eq_true rfl) dX12_peak_76 ⟨Nat.le_of_ble_eq_true rfl, Nat.le_of_ble_eq_true rfl⟩ (fun v_80 u_81 H locs hv_82 hP₀ hD₀ hS₀ => ?_)
                obtain ⟨r_83, rfl, he_84⟩ := hv_82
                refine W.eq (g2 := F0 m 79 ls [.int r_83]) rfl ?_
                replace hP : va_P D classes [((Ma 12), .inl (tc 0, 46, .inl sv_25)), ((Ma 2), .inl (tc 0, 2400, .inl (Mf 2))), ((Ma 4), .inl (tc 0, 288, .inl (Mf 4))), ((Ma 5), .inl (tc 0, 6, .inl (Mf 5))), ((Ma 8), .inl (tc 1, 64, .inr (.inl sv_65))), ((Ma 9), .inl (tc 1, 13, .inr (.inl sv_66))), ((Ma 0), .inr (12, [.ref (Ma 1), .int (Mv 0), .int (Mv 1), .ref (Ma 2), .ref (Ma 3), .ref (Ma 4), .ref (Ma 5), .ref (Ma 6), .int (Mv 2), .int (Mv 3), .int (Mv 4), .int (Mv 5), .int (Mv 6), .int (Mv 7), .int (Mv 8), .ref (Ma 7), .int (Mv 9), .ref (Ma 8), .int sv_64, .ref (Ma 9), .ref (Ma 10), .int (Mv 11), .int (Mv 12), .int (Mv 13), .ref (Ma 11), .int (Mv 14), .ref (Ma 12), .ref (Ma 13), .ref (Ma 14), .ref (Ma 15), .ref (Ma 16), .long (Mj 0), .ref (Ma 17), .ref (Ma 18), .ref (Ma 19), .ref (Ma 20)])), ((Ma 10), .inl (tc 0, 126, .inl sv_67))] H := hP₀
                replace hD : va_D A [((Ma 12), .inl (tc 0, 46, .inl sv_25)), ((Ma 2), .inl (tc 0, 2400, .inl (Mf 2))), ((Ma 4), .inl (tc 0, 288, .inl (Mf 4))), ((Ma 5), .inl (tc 0, 6, .inl (Mf 5))), ((Ma 8), .inl (tc 1, 64, .inr (.inl sv_65))), ((Ma 9), .inl (tc 1, 13, .inr (.inl sv_66))), ((Ma 0), .inr (12, [.ref (Ma 1), .int (Mv 0), .int (Mv 1), .ref (Ma 2), .ref (Ma 3), .ref (Ma 4), .ref (Ma 5), .ref (Ma 6), .int (Mv 2), .int (Mv 3), .int (Mv 4), .int (Mv 5), .int (Mv 6), .int (Mv 7), .int (Mv 8), .ref (Ma 7), .int (Mv 9), .ref (Ma 8), .int sv_64, .ref (Ma 9), .ref (Ma 10), .int (Mv 11), .int (Mv 12), .int (Mv 13), .ref (Ma 11), .int (Mv 14), .ref (Ma 12), .ref (Ma 13), .ref (Ma 14), .ref (Ma 15), .ref (Ma 16), .long (Mj 0), .ref (Ma 17), .ref (Ma 18), .ref (Ma 19), .ref (Ma 20)])), ((Ma 10), .inl (tc 0, 126, .inl sv_67))] := hD₀
                replace hS := hS₀
                clear hP₀ hD₀ hS₀
                refine lv_iload hx hb dX12_peak_79 (lv_at hl 0 rfl) ?_
                refine lv_isub hx hb dX12_peak_81 ?_
                refine lv_topi (fun x_86 ex_86 => ?_)
                refine lv_istore (lv' := [(4, .int x_86), (6, .int r_57), (5, .int vy_34), (3, .int vy_36), (0, .ref (Ma 0)), (1, .int x1), (2, .int x2)]) hx hb dX12_peak_82 hl (by decide) rfl (fun ls hl₀ => ?_)
                replace hl := hl₀
                clear hl₀
                refine lv_aload_n hx hb dX12_peak_84 rfl (lv_at hl 4 rfl) ?_
                refine gf_X12_39 hx hb hts hown hK hP 6 rfl rfl dX12_peak_85 ?_
                refine lv_bipush (v := 10) hx hb dX12_peak_88 (by decide) ?_
                refine va_iald hx hb hK hP 7 0 rfl rfl (vin_dec (by decide +kernel)) dX12_peak_90 ?_
                refine lv_topi (fun x_87 ex_87 => ?_)
                have lx_87 : x_87.toInt = (sv_67 10).toInt := congrArg Int32.toInt ex_87
                refine lv_iconst (v := 1) hx hb dX12_peak_91 (by decide) ?_
                refine lv_isub hx hb dX12_peak_92 ?_
                refine lv_topi (fun x_88 ex_88 => ?_)
                refine lv_istore_n (lv' := [(3, .int x_88), (4, .int x_86), (6, .int r_57), (5, .int vy_34), (0, .ref (Ma 0)), (1, .int x1), (2, .int x2)]) hx hb dX12_peak_93 rfl hl (by decide) rfl (fun ls hl₀ => ?_)
                replace hl := hl₀
                clear hl₀
                obtain ⟨x_89, ex_89⟩ : ∃ y : Int32, y = vy_34 + 1 := ⟨_, rfl⟩
                refine lv_iinc (v := x_89) (lv' := [(5, .int x_89), (3, .int x_88), (4, .int x_86), (6, .int r_57), (0, .ref (Ma 0)), (1, .int x1), (2, .int x2)]) hx hb dX12_peak_94 hl (k := 3) rfl (by rw [ex_89]; rfl) (by decide) rfl (fun ls hl₀ => ?_)
                replace hl := hl₀
                clear hl₀
                refine lv_goto (tgt := 43) hx hb dX12_peak_97 (by decide) ?_
                have hb_90 : x1.toInt - (x_89 : Int32).toInt < x1.toInt - (vy_34 : Int32).toInt ∧ 1 ≤ x1.toInt - (vy_34 : Int32).toInt := by
                  have z_1 : ¬ (r_4 : Int32).toInt = (0 : Int32).toInt := fun z => c_7 (Int32.toInt_inj.mp z)
                  have z_2 : ¬ (r_11 : Int32).toInt = (0 : Int32).toInt := fun z => c_14 (Int32.toInt_inj.mp z)
                  have z_3 : ¬ (r_18 : Int32).toInt = (0 : Int32).toInt := fun z => c_21 (Int32.toInt_inj.mp z)
                  have z_4 := Int32.lt_iff_toInt_lt.mp (Int32.not_le.mp c_47)
                  have z_5 := Int32.lt_iff_toInt_lt.mp c_79
                  have y_0 : (0 : Int32).toInt = 0 := by decide
                  have y_1 : (1 : Int32).toInt = 1 := by decide
                  have t_x_89 : x_89.toInt = (vy_34 : Int32).toInt + (1 : Int32).toInt := by rw [ex_89]; exact add_toInt (by omega) (by omega)
                  refine ⟨?_, ?_⟩ <;> omega
                have ha_91 : 0 ≤ (x_89 : Int32).toInt ∧ (x_89 : Int32).toInt ≤ x1.toInt := by
                  have z_1 : ¬ (r_4 : Int32).toInt = (0 : Int32).toInt := fun z => c_7 (Int32.toInt_inj.mp z)
                  have z_2 : ¬ (r_11 : Int32).toInt = (0 : Int32).toInt := fun z => c_14 (Int32.toInt_inj.mp z)
                  have z_3 : ¬ (r_18 : Int32).toInt = (0 : Int32).toInt := fun z => c_21 (Int32.toInt_inj.mp z)
                  have z_4 := Int32.lt_iff_toInt_lt.mp (Int32.not_le.mp c_47)
                  have z_5 := Int32.lt_iff_toInt_lt.mp c_79
                  have y_0 : (0 : Int32).toInt = 0 := by decide
                  have y_1 : (1 : Int32).toInt = 1 := by decide
                  have t_x_89 : x_89.toInt = (vy_34 : Int32).toInt + (1 : Int32).toInt := by rw [ex_89]; exact add_toInt (by omega) (by omega)
                  refine ⟨?_, ?_⟩ <;> omega
                have ha_92 : ((999 + (vy_34 : Int32).toInt) + 1) ≤ (999 + (x_89 : Int32).toInt) := by
                  have z_1 : ¬ (r_4 : Int32).toInt = (0 : Int32).toInt := fun z => c_7 (Int32.toInt_inj.mp z)
                  have z_2 : ¬ (r_11 : Int32).toInt = (0 : Int32).toInt := fun z => c_14 (Int32.toInt_inj.mp z)
                  have z_3 : ¬ (r_18 : Int32).toInt = (0 : Int32).toInt := fun z => c_21 (Int32.toInt_inj.mp z)
                  have z_4 := Int32.lt_iff_toInt_lt.mp (Int32.not_le.mp c_47)
                  have z_5 := Int32.lt_iff_toInt_lt.mp c_79
                  have y_0 : (0 : Int32).toInt = 0 := by decide
                  have y_1 : (1 : Int32).toInt = 1 := by decide
                  have t_x_89 : x_89.toInt = (vy_34 : Int32).toInt + (1 : Int32).toInt := by rw [ex_89]; exact add_toInt (by omega) (by omega)
                  omega
                exact ih_42 x_89 x_86 x_88 sv_65 sv_66 sv_64 sv_67 _ _ _ (by omega) ha_91 (SaidD.mono pf_68 ha_92) (hP.sub [1, 2, 3, 4, 5, 6, 7, 0] rfl) (hD.sub [1, 2, 3, 4, 5, 6, 7, 0] rfl rfl) hS (lv_sub hl [0, 2, 1, 4, 5, 6] rfl)
              · skip
                refine lv_goto (tgt := 94) hx hb dX12_peak_72 (by decide) ?_
                obtain ⟨x_93, ex_93⟩ : ∃ y : Int32, y = vy_34 + 1 := ⟨_, rfl⟩
                refine lv_iinc (v := x_93) (lv' := [(5, .int x_93), (6, .int r_57), (4, .int vy_35), (3, .int vy_36), (0, .ref (Ma 0)), (1, .int x1), (2, .int x2)]) hx hb dX12_peak_94 hl (k := 1) rfl (by rw [ex_93]; rfl) (by decide) rfl (fun ls hl₀ => ?_)
                replace hl := hl₀
                clear hl₀
                refine lv_goto (tgt := 43) hx hb dX12_peak_97 (by decide) ?_
                have hb_94 : x1.toInt - (x_93 : Int32).toInt < x1.toInt - (vy_34 : Int32).toInt ∧ 1 ≤ x1.toInt - (vy_34 : Int32).toInt := by
                  have z_1 : ¬ (r_4 : Int32).toInt = (0 : Int32).toInt := fun z => c_7 (Int32.toInt_inj.mp z)
                  have z_2 : ¬ (r_11 : Int32).toInt = (0 : Int32).toInt := fun z => c_14 (Int32.toInt_inj.mp z)
                  have z_3 : ¬ (r_18 : Int32).toInt = (0 : Int32).toInt := fun z => c_21 (Int32.toInt_inj.mp z)
                  have z_4 := Int32.lt_iff_toInt_lt.mp (Int32.not_le.mp c_47)
                  have z_5 := Int32.le_iff_toInt_le.mp (Int32.not_lt.mp c_79)
                  have y_0 : (0 : Int32).toInt = 0 := by decide
                  have y_1 : (1 : Int32).toInt = 1 := by decide
                  have t_x_93 : x_93.toInt = (vy_34 : Int32).toInt + (1 : Int32).toInt := by rw [ex_93]; exact add_toInt (by omega) (by omega)
                  refine ⟨?_, ?_⟩ <;> omega
                have ha_95 : 0 ≤ (x_93 : Int32).toInt ∧ (x_93 : Int32).toInt ≤ x1.toInt := by
                  have z_1 : ¬ (r_4 : Int32).toInt = (0 : Int32).toInt := fun z => c_7 (Int32.toInt_inj.mp z)
                  have z_2 : ¬ (r_11 : Int32).toInt = (0 : Int32).toInt := fun z => c_14 (Int32.toInt_inj.mp z)
                  have z_3 : ¬ (r_18 : Int32).toInt = (0 : Int32).toInt := fun z => c_21 (Int32.toInt_inj.mp z)
                  have z_4 := Int32.lt_iff_toInt_lt.mp (Int32.not_le.mp c_47)
                  have z_5 := Int32.le_iff_toInt_le.mp (Int32.not_lt.mp c_79)
                  have y_0 : (0 : Int32).toInt = 0 := by decide
                  have y_1 : (1 : Int32).toInt = 1 := by decide
                  have t_x_93 : x_93.toInt = (vy_34 : Int32).toInt + (1 : Int32).toInt := by rw [ex_93]; exact add_toInt (by omega) (by omega)
                  refine ⟨?_, ?_⟩ <;> omega
                have ha_96 : ((999 + (vy_34 : Int32).toInt) + 1) ≤ (999 + (x_93 : Int32).toInt) := by
                  have z_1 : ¬ (r_4 : Int32).toInt = (0 : Int32).toInt := fun z => c_7 (Int32.toInt_inj.mp z)
                  have z_2 : ¬ (r_11 : Int32).toInt = (0 : Int32).toInt := fun z => c_14 (Int32.toInt_inj.mp z)
                  have z_3 : ¬ (r_18 : Int32).toInt = (0 : Int32).toInt := fun z => c_21 (Int32.toInt_inj.mp z)
                  have z_4 := Int32.lt_iff_toInt_lt.mp (Int32.not_le.mp c_47)
                  have z_5 := Int32.le_iff_toInt_le.mp (Int32.not_lt.mp c_79)
                  have y_0 : (0 : Int32).toInt = 0 := by decide
                  have y_1 : (1 : Int32).toInt = 1 := by decide
                  have t_x_93 : x_93.toInt = (vy_34 : Int32).toInt + (1 : Int32).toInt := by rw [ex_93]; exact add_toInt (by omega) (by omega)
                  omega
                exact ih_42 x_93 vy_35 vy_36 sv_65 sv_66 sv_64 sv_67 _ _ _ (by omega) ha_95 (SaidD.mono pf_68 ha_96) (hP.sub [1, 2, 3, 4, 5, 6, 7, 0] rfl) (hD.sub [1, 2, 3, 4, 5, 6, 7, 0] rfl rfl) hS (lv_sub hl [0, 2, 3, 4, 5, 6] rfl)
        have ha_97 : 0 ≤ (0 : Int32).toInt ∧ (0 : Int32).toInt ≤ x1.toInt := by
          have z_1 : ¬ (r_4 : Int32).toInt = (0 : Int32).toInt := fun z => c_7 (Int32.toInt_inj.mp z)
          have z_2 : ¬ (r_11 : Int32).toInt = (0 : Int32).toInt := fun z => c_14 (Int32.toInt_inj.mp z)
          have z_3 : ¬ (r_18 : Int32).toInt = (0 : Int32).toInt := fun z => c_21 (Int32.toInt_inj.mp z)
          have y_0 : (0 : Int32).toInt = 0 := by decide
          refine ⟨?_, ?_⟩ <;> omega
        have ha_98 : 999 ≤ (999 + (0 : Int32).toInt) := by
          have z_1 : ¬ (r_4 : Int32).toInt = (0 : Int32).toInt := fun z => c_7 (Int32.toInt_inj.mp z)
          have z_2 : ¬ (r_11 : Int32).toInt = (0 : Int32).toInt := fun z => c_14 (Int32.toInt_inj.mp z)
          have z_3 : ¬ (r_18 : Int32).toInt = (0 : Int32).toInt := fun z => c_21 (Int32.toInt_inj.mp z)
          have y_0 : (0 : Int32).toInt = 0 := by decide
          omega
        exact loop_43 _ 0 (-1) (-1) (Mg 8) (Mg 9) (Mv 10) (Mf 10) _ _ _ (Nat.lt_succ_self _) ha_97 (SaidD.mono h_said ha_98) hP hD hS hl
      · skip
        refine lv_iconst (v := (-1)) hx hb dX12_peak_29 (by decide) ?_
        exact retI (v := (-1)) hx hb hr hlk (rfl) hP hD hS ((Mv 10), (Mg 8), (Mg 9), (Mf 10), (Mf 12)) ⟨_, rfl, trivial, h_said⟩ [6, 0, 1, 2, 3, 4, 7, 5] rfl rfl dX12_peak_30 (Nat.le_of_ble_eq_true rfl) (Nat.le_of_ble_eq_true rfl) rfl
set_option maxHeartbeats 4000000 in
set_option maxRecDepth 100000 in
theorem ct_X12_seed (l : Launch) (D : va_G) (tc : Nat → ClassId) (sk : (Nat → Nat) × (Nat → Nat)) (Ma : Nat → Nat) (Mv : Nat → Int32) (Mj : Nat → Int64) (x1 : Int32)  : Ct l yX12_seed cX12_seed 3 (some .int) { frames := 0, cells := 0, slots := 0, locals := 0 } D tc sk [.ref (Ma 0), .int x1] [((Ma 0), .inr (12, [.ref (Ma 1), .int (Mv 0), .int (Mv 1), .ref (Ma 2), .ref (Ma 3), .ref (Ma 4), .ref (Ma 5), .ref (Ma 6), .int (Mv 2), .int (Mv 3), .int (Mv 4), .int (Mv 5), .int (Mv 6), .int (Mv 7), .int (Mv 8), .ref (Ma 7), .int (Mv 9), .ref (Ma 8), .int (Mv 10), .ref (Ma 9), .ref (Ma 10), .int (Mv 11), .int (Mv 12), .int (Mv 13), .ref (Ma 11), .int (Mv 14), .ref (Ma 12), .ref (Ma 13), .ref (Ma 14), .ref (Ma 15), .ref (Ma 16), .long (Mj 0), .ref (Ma 17), .ref (Ma 18), .ref (Ma 19), .ref (Ma 20)]))] (fun (v : Option Value) (oo0x1 : Int32) => ∃ r : Int32, v = some (.int r) ∧ (((x1.toInt < 0 ∧ r.toInt = -1) ∨ (0 ≤ x1.toInt ∧ r.toInt = (Mv 12).toInt))) ∧ ((x1.toInt < 0 ∧ (oo0x1 : Int32).toInt = (Mv 12).toInt) ∨ (0 ≤ x1.toInt ∧ (oo0x1 : Int32).toInt = x1.toInt))) (fun (oo0x1 : Int32) => [((Ma 0), .inr (12, [.ref (Ma 1), .int (Mv 0), .int (Mv 1), .ref (Ma 2), .ref (Ma 3), .ref (Ma 4), .ref (Ma 5), .ref (Ma 6), .int (Mv 2), .int (Mv 3), .int (Mv 4), .int (Mv 5), .int (Mv 6), .int (Mv 7), .int (Mv 8), .ref (Ma 7), .int (Mv 9), .ref (Ma 8), .int (Mv 10), .ref (Ma 9), .ref (Ma 10), .int (Mv 11), .int oo0x1, .int (Mv 13), .ref (Ma 11), .int (Mv 14), .ref (Ma 12), .ref (Ma 13), .ref (Ma 14), .ref (Ma 15), .ref (Ma 16), .long (Mj 0), .ref (Ma 17), .ref (Ma 18), .ref (Ma 19), .ref (Ma 20)]))]) 0 0 := by
  refine Ct.start (by decide) (Nat.le_of_ble_eq_true rfl) (fun p e s m below meth c A ls hx hb hr hlk hin hml hown hts hK hX hP hD hA hl hS => ?_)
  have hl : lv_has ls 3 [(0, .ref (Ma 0)), (1, .int x1)] := hl
  refine lv_iload_n hx hb dX12_seed_0 rfl (lv_at hl 1 rfl) ?_
  refine lv_if_ge (tgt := 6) hx hb dX12_seed_1 (by decide) (fun c_1 => ?_) (fun c_1 => ?_)
  · skip
    refine lv_aload_n hx hb dX12_seed_6 rfl (lv_at hl 0 rfl) ?_
    refine gf_X12_414 hx hb hts hown hK hP 0 rfl rfl dX12_seed_7 ?_
    refine lv_istore_n (lv' := [(2, .int (Mv 12)), (0, .ref (Ma 0)), (1, .int x1)]) hx hb dX12_seed_10 rfl hl (by decide) rfl (fun ls hl₀ => ?_)
    replace hl := hl₀
    clear hl₀
    refine lv_aload_n hx hb dX12_seed_11 rfl (lv_at hl 1 rfl) ?_
    refine lv_iload_n hx hb dX12_seed_12 rfl (lv_at hl 2 rfl) ?_
    refine pf_X12_414 hx hb hts hown hK hP hD hS 0 rfl (Nat.le_of_ble_eq_true rfl) rfl rfl dX12_seed_13 (fun H locs hP₀ hD₀ hS₀ => ?_)
    replace hP : va_P D classes [((Ma 0), .inr (12, [.ref (Ma 1), .int (Mv 0), .int (Mv 1), .ref (Ma 2), .ref (Ma 3), .ref (Ma 4), .ref (Ma 5), .ref (Ma 6), .int (Mv 2), .int (Mv 3), .int (Mv 4), .int (Mv 5), .int (Mv 6), .int (Mv 7), .int (Mv 8), .ref (Ma 7), .int (Mv 9), .ref (Ma 8), .int (Mv 10), .ref (Ma 9), .ref (Ma 10), .int (Mv 11), .int x1, .int (Mv 13), .ref (Ma 11), .int (Mv 14), .ref (Ma 12), .ref (Ma 13), .ref (Ma 14), .ref (Ma 15), .ref (Ma 16), .long (Mj 0), .ref (Ma 17), .ref (Ma 18), .ref (Ma 19), .ref (Ma 20)]))] H := hP₀
    replace hD : va_D A [((Ma 0), .inr (12, [.ref (Ma 1), .int (Mv 0), .int (Mv 1), .ref (Ma 2), .ref (Ma 3), .ref (Ma 4), .ref (Ma 5), .ref (Ma 6), .int (Mv 2), .int (Mv 3), .int (Mv 4), .int (Mv 5), .int (Mv 6), .int (Mv 7), .int (Mv 8), .ref (Ma 7), .int (Mv 9), .ref (Ma 8), .int (Mv 10), .ref (Ma 9), .ref (Ma 10), .int (Mv 11), .int x1, .int (Mv 13), .ref (Ma 11), .int (Mv 14), .ref (Ma 12), .ref (Ma 13), .ref (Ma 14), .ref (Ma 15), .ref (Ma 16), .long (Mj 0), .ref (Ma 17), .ref (Ma 18), .ref (Ma 19), .ref (Ma 20)]))] := hD₀
    replace hS := hS₀
    clear hP₀ hD₀ hS₀
    refine lv_iload_n hx hb dX12_seed_16 rfl (lv_at hl 0 rfl) ?_
    have ha_2 : (x1.toInt < 0 ∧ (x1 : Int32).toInt = (Mv 12).toInt) ∨ (0 ≤ x1.toInt ∧ (x1 : Int32).toInt = x1.toInt) := by
      have z_1 := Int32.le_iff_toInt_le.mp c_1
      have y_0 : (0 : Int32).toInt = 0 := by decide
      omega
    have hp_3 : ((x1.toInt < 0 ∧ ((Mv 12) : Int32).toInt = -1) ∨ (0 ≤ x1.toInt ∧ ((Mv 12) : Int32).toInt = (Mv 12).toInt)) := by
      have z_1 := Int32.le_iff_toInt_le.mp c_1
      have y_0 : (0 : Int32).toInt = 0 := by decide
      omega
    exact retI (v := (Mv 12)) hx hb hr hlk (rfl) hP hD hS x1 ⟨_, rfl, hp_3, ha_2⟩ [0] rfl rfl dX12_seed_17 (Nat.le_of_ble_eq_true rfl) (Nat.le_of_ble_eq_true rfl) rfl
  · skip
    refine lv_iconst (v := (-1)) hx hb dX12_seed_4 (by decide) ?_
    have ha_4 : (x1.toInt < 0 ∧ ((Mv 12) : Int32).toInt = (Mv 12).toInt) ∨ (0 ≤ x1.toInt ∧ ((Mv 12) : Int32).toInt = x1.toInt) := by
      have z_1 := Int32.lt_iff_toInt_lt.mp (Int32.not_le.mp c_1)
      have y_0 : (0 : Int32).toInt = 0 := by decide
      omega
    have hp_5 : ((x1.toInt < 0 ∧ ((-1) : Int32).toInt = -1) ∨ (0 ≤ x1.toInt ∧ ((-1) : Int32).toInt = (Mv 12).toInt)) := by
      have z_1 := Int32.lt_iff_toInt_lt.mp (Int32.not_le.mp c_1)
      have y_0 : (0 : Int32).toInt = 0 := by decide
      have y_m1 : (-1 : Int32).toInt = -1 := by decide
      have yr : (-1 : Int32).toInt = -1 := by decide
      omega
    exact retI (v := (-1)) hx hb hr hlk (rfl) hP hD hS (Mv 12) ⟨_, rfl, hp_5, ha_4⟩ [0] rfl rfl dX12_seed_5 (Nat.le_of_ble_eq_true rfl) (Nat.le_of_ble_eq_true rfl) rfl
set_option maxHeartbeats 4000000 in
set_option maxRecDepth 100000 in
theorem ct_X12_draw (l : Launch) (D : va_G) (tc : Nat → ClassId) (sk : (Nat → Nat) × (Nat → Nat)) (Ma : Nat → Nat) (Mv : Nat → Int32) (Mj : Nat → Int64) (x1 : Int32) (h_of : 1 ≤ x1.toInt) : Ct l yX12_draw cX12_draw 2 (some .int) { frames := 0, cells := 0, slots := 0, locals := 0 } D tc sk [.ref (Ma 0), .int x1] [((Ma 0), .inr (12, [.ref (Ma 1), .int (Mv 0), .int (Mv 1), .ref (Ma 2), .ref (Ma 3), .ref (Ma 4), .ref (Ma 5), .ref (Ma 6), .int (Mv 2), .int (Mv 3), .int (Mv 4), .int (Mv 5), .int (Mv 6), .int (Mv 7), .int (Mv 8), .ref (Ma 7), .int (Mv 9), .ref (Ma 8), .int (Mv 10), .ref (Ma 9), .ref (Ma 10), .int (Mv 11), .int (Mv 12), .int (Mv 13), .ref (Ma 11), .int (Mv 14), .ref (Ma 12), .ref (Ma 13), .ref (Ma 14), .ref (Ma 15), .ref (Ma 16), .long (Mj 0), .ref (Ma 17), .ref (Ma 18), .ref (Ma 19), .ref (Ma 20)]))] (fun (v : Option Value) (oo0x1 : Int64) => ∃ r : Int32, v = some (.int r) ∧ (True)) (fun (oo0x1 : Int64) => [((Ma 0), .inr (12, [.ref (Ma 1), .int (Mv 0), .int (Mv 1), .ref (Ma 2), .ref (Ma 3), .ref (Ma 4), .ref (Ma 5), .ref (Ma 6), .int (Mv 2), .int (Mv 3), .int (Mv 4), .int (Mv 5), .int (Mv 6), .int (Mv 7), .int (Mv 8), .ref (Ma 7), .int (Mv 9), .ref (Ma 8), .int (Mv 10), .ref (Ma 9), .ref (Ma 10), .int (Mv 11), .int (Mv 12), .int (Mv 13), .ref (Ma 11), .int (Mv 14), .ref (Ma 12), .ref (Ma 13), .ref (Ma 14), .ref (Ma 15), .ref (Ma 16), .long oo0x1, .ref (Ma 17), .ref (Ma 18), .ref (Ma 19), .ref (Ma 20)]))]) 0 0 := by
  refine Ct.start (by decide) (Nat.le_of_ble_eq_true rfl) (fun p e s m below meth c A ls hx hb hr hlk hin hml hown hts hK hX hP hD hA hl hS => ?_)
  have hl : lv_has ls 2 [(0, .ref (Ma 0)), (1, .int x1)] := hl
  refine lv_aload_n hx hb dX12_draw_0 rfl (lv_at hl 0 rfl) ?_
  refine lv_aload_n hx hb dX12_draw_1 rfl (lv_at hl 0 rfl) ?_
  refine gf_X12_417 hx hb hts hown hK hP 0 rfl rfl dX12_draw_2 ?_
  refine lv_ldc2 hx hb hown (hts _ k_1635) dX12_draw_5 ?_
  refine lv_lmul hx hb dX12_draw_8 ?_
  refine lv_topl (fun x_1 ex_1 => ?_)
  refine lv_ldc2 hx hb hown (hts _ k_1636) dX12_draw_9 ?_
  refine lv_ladd hx hb dX12_draw_12 ?_
  refine lv_topl (fun x_2 ex_2 => ?_)
  refine lv_ldc2 hx hb hown (hts _ k_1637) dX12_draw_13 ?_
  refine lv_lrem hx hb dX12_draw_16 (by decide) ?_
  refine lv_topl (fun x_3 ex_3 => ?_)
  refine pf_X12_417 hx hb hts hown hK hP hD hS 0 rfl (Nat.le_of_ble_eq_true rfl) rfl rfl dX12_draw_17 (fun H locs hP₀ hD₀ hS₀ => ?_)
  replace hP : va_P D classes [((Ma 0), .inr (12, [.ref (Ma 1), .int (Mv 0), .int (Mv 1), .ref (Ma 2), .ref (Ma 3), .ref (Ma 4), .ref (Ma 5), .ref (Ma 6), .int (Mv 2), .int (Mv 3), .int (Mv 4), .int (Mv 5), .int (Mv 6), .int (Mv 7), .int (Mv 8), .ref (Ma 7), .int (Mv 9), .ref (Ma 8), .int (Mv 10), .ref (Ma 9), .ref (Ma 10), .int (Mv 11), .int (Mv 12), .int (Mv 13), .ref (Ma 11), .int (Mv 14), .ref (Ma 12), .ref (Ma 13), .ref (Ma 14), .ref (Ma 15), .ref (Ma 16), .long x_3, .ref (Ma 17), .ref (Ma 18), .ref (Ma 19), .ref (Ma 20)]))] H := hP₀
  replace hD : va_D A [((Ma 0), .inr (12, [.ref (Ma 1), .int (Mv 0), .int (Mv 1), .ref (Ma 2), .ref (Ma 3), .ref (Ma 4), .ref (Ma 5), .ref (Ma 6), .int (Mv 2), .int (Mv 3), .int (Mv 4), .int (Mv 5), .int (Mv 6), .int (Mv 7), .int (Mv 8), .ref (Ma 7), .int (Mv 9), .ref (Ma 8), .int (Mv 10), .ref (Ma 9), .ref (Ma 10), .int (Mv 11), .int (Mv 12), .int (Mv 13), .ref (Ma 11), .int (Mv 14), .ref (Ma 12), .ref (Ma 13), .ref (Ma 14), .ref (Ma 15), .ref (Ma 16), .long x_3, .ref (Ma 17), .ref (Ma 18), .ref (Ma 19), .ref (Ma 20)]))] := hD₀
  replace hS := hS₀
  clear hP₀ hD₀ hS₀
  refine lv_aload_n hx hb dX12_draw_20 rfl (lv_at hl 0 rfl) ?_
  refine gf_X12_417 hx hb hts hown hK hP 0 rfl rfl dX12_draw_21 ?_
  refine lv_ldc2 hx hb hown (hts _ k_1638) dX12_draw_24 ?_
  refine lv_ldiv hx hb dX12_draw_27 (by decide) ?_
  refine lv_topl (fun x_4 ex_4 => ?_)
  refine lv_iload_n hx hb dX12_draw_28 rfl (lv_at hl 1 rfl) ?_
  refine lv_i2l (v := (x1).toInt64) hx hb dX12_draw_29 rfl ?_
  have hz_5 : ¬ (x1).toInt64 = 0 := i64_ne (by
    omega)
  refine lv_lrem hx hb dX12_draw_30 hz_5 ?_
  refine lv_topl (fun x_6 ex_6 => ?_)
  obtain ⟨x_7, ex_7⟩ : ∃ y : Int32, y = (x_6 : Int64).toInt32 := ⟨_, rfl⟩
  refine lv_l2i (v := x_7) hx hb dX12_draw_31 ex_7.symm ?_
  exact retI (v := x_7) hx hb hr hlk (rfl) hP hD hS x_3 ⟨_, rfl, trivial⟩ [0] rfl rfl dX12_draw_32 (Nat.le_of_ble_eq_true rfl) (Nat.le_of_ble_eq_true rfl) rfl
set_option maxRecDepth 100000 in
theorem cu_X12_draw (l : Launch) (D : va_G) (tc : Nat → ClassId) (sk : (Nat → Nat) × (Nat → Nat)) (Ma_0 : Nat) (Ma_1 : Nat) (Ma_2 : Nat) (Ma_3 : Nat) (Ma_4 : Nat) (Ma_5 : Nat) (Ma_6 : Nat) (Ma_7 : Nat) (Ma_8 : Nat) (Ma_9 : Nat) (Ma_10 : Nat) (Ma_11 : Nat) (Ma_12 : Nat) (Ma_13 : Nat) (Ma_14 : Nat) (Ma_15 : Nat) (Ma_16 : Nat) (Ma_17 : Nat) (Ma_18 : Nat) (Ma_19 : Nat) (Ma_20 : Nat) (Mv_0 : Int32) (Mv_1 : Int32) (Mv_2 : Int32) (Mv_3 : Int32) (Mv_4 : Int32) (Mv_5 : Int32) (Mv_6 : Int32) (Mv_7 : Int32) (Mv_8 : Int32) (Mv_9 : Int32) (Mv_10 : Int32) (Mv_11 : Int32) (Mv_12 : Int32) (Mv_13 : Int32) (Mv_14 : Int32) (Mj_0 : Int64) (x1 : Int32) (h_of : 1 ≤ x1.toInt) : Ct l yX12_draw cX12_draw 2 (some .int) { frames := 0, cells := 0, slots := 0, locals := 0 } D tc sk [.ref Ma_0, .int x1] [(Ma_0, .inr (12, [.ref Ma_1, .int Mv_0, .int Mv_1, .ref Ma_2, .ref Ma_3, .ref Ma_4, .ref Ma_5, .ref Ma_6, .int Mv_2, .int Mv_3, .int Mv_4, .int Mv_5, .int Mv_6, .int Mv_7, .int Mv_8, .ref Ma_7, .int Mv_9, .ref Ma_8, .int Mv_10, .ref Ma_9, .ref Ma_10, .int Mv_11, .int Mv_12, .int Mv_13, .ref Ma_11, .int Mv_14, .ref Ma_12, .ref Ma_13, .ref Ma_14, .ref Ma_15, .ref Ma_16, .long Mj_0, .ref Ma_17, .ref Ma_18, .ref Ma_19, .ref Ma_20]))] (fun (v : Option Value) (oo0x1 : Int64) => ∃ r : Int32, v = some (.int r) ∧ (True)) (fun (oo0x1 : Int64) => [(Ma_0, .inr (12, [.ref Ma_1, .int Mv_0, .int Mv_1, .ref Ma_2, .ref Ma_3, .ref Ma_4, .ref Ma_5, .ref Ma_6, .int Mv_2, .int Mv_3, .int Mv_4, .int Mv_5, .int Mv_6, .int Mv_7, .int Mv_8, .ref Ma_7, .int Mv_9, .ref Ma_8, .int Mv_10, .ref Ma_9, .ref Ma_10, .int Mv_11, .int Mv_12, .int Mv_13, .ref Ma_11, .int Mv_14, .ref Ma_12, .ref Ma_13, .ref Ma_14, .ref Ma_15, .ref Ma_16, .long oo0x1, .ref Ma_17, .ref Ma_18, .ref Ma_19, .ref Ma_20]))]) 0 0 :=
  ct_X12_draw l D tc sk (fun k => ([Ma_0, Ma_1, Ma_2, Ma_3, Ma_4, Ma_5, Ma_6, Ma_7, Ma_8, Ma_9, Ma_10, Ma_11, Ma_12, Ma_13, Ma_14, Ma_15, Ma_16, Ma_17, Ma_18, Ma_19, Ma_20] : List (Nat)).getD k 0) (fun k => ([Mv_0, Mv_1, Mv_2, Mv_3, Mv_4, Mv_5, Mv_6, Mv_7, Mv_8, Mv_9, Mv_10, Mv_11, Mv_12, Mv_13, Mv_14] : List (Int32)).getD k 0) (fun k => ([Mj_0] : List (Int64)).getD k 0) x1 h_of
set_option maxHeartbeats 4000000 in
set_option maxRecDepth 100000 in
theorem ct_X12_summers {T : Nat → Option Int32} (l : Launch) (D : va_G) (tc : Nat → ClassId) (sk : (Nat → Nat) × (Nat → Nat)) (Ma : Nat → Nat) (Mv : Nat → Int32) (Mf : Nat → Nat → Int32) (Mj : Nat → Int64) (Mg : Nat → Nat → Int64) (x1 : Int32) (x2 : Int32) (x3 : Int32) (x4 : Int32) (h_said : SaidD T (Mf 10) 999) (h_rul : RulD (Mf 2) (Mf 4) (Mf 5) (Mv 1)) (h_frc : -1 ≤ (Mv 11).toInt ∧ (Mv 11).toInt < (Mv 1).toInt ∧ (Mv 1).toInt ≤ 6) : Ct l yX12_summers cX12_summers 10 (some .int) { frames := 5, cells := 0, slots := 0, locals := 121 } D tc sk [.ref (Ma 0), .int x1, .int x2, .int x3, .int x4] [((Ma 0), .inr (12, [.ref (Ma 1), .int (Mv 0), .int (Mv 1), .ref (Ma 2), .ref (Ma 3), .ref (Ma 4), .ref (Ma 5), .ref (Ma 6), .int (Mv 2), .int (Mv 3), .int (Mv 4), .int (Mv 5), .int (Mv 6), .int (Mv 7), .int (Mv 8), .ref (Ma 7), .int (Mv 9), .ref (Ma 8), .int (Mv 10), .ref (Ma 9), .ref (Ma 10), .int (Mv 11), .int (Mv 12), .int (Mv 13), .ref (Ma 11), .int (Mv 14), .ref (Ma 12), .ref (Ma 13), .ref (Ma 14), .ref (Ma 15), .ref (Ma 16), .long (Mj 0), .ref (Ma 17), .ref (Ma 18), .ref (Ma 19), .ref (Ma 20)])), ((Ma 2), .inl (tc 0, 2400, .inl (Mf 2))), ((Ma 4), .inl (tc 0, 288, .inl (Mf 4))), ((Ma 5), .inl (tc 0, 6, .inl (Mf 5))), ((Ma 8), .inl (tc 1, 64, .inr (.inl (Mg 8)))), ((Ma 9), .inl (tc 1, 13, .inr (.inl (Mg 9)))), ((Ma 10), .inl (tc 0, 126, .inl (Mf 10))), ((Ma 12), .inl (tc 0, 46, .inl (Mf 12)))] (fun (v : Option Value) (u : (Int32) × (Int64) × (Nat → Int64) × (Nat → Int64) × (Nat → Int32) × (Nat → Int32)) => match u with | (oo0x1, oo0x2, oo0x3, oo0x4, oo0x5, oo0x6) => ∃ r : Int32, v = some (.int r) ∧ (True) ∧ (SaidD T oo0x5 999)) (fun (u : (Int32) × (Int64) × (Nat → Int64) × (Nat → Int64) × (Nat → Int32) × (Nat → Int32)) => match u with | (oo0x1, oo0x2, oo0x3, oo0x4, oo0x5, oo0x6) => [((Ma 0), .inr (12, [.ref (Ma 1), .int (Mv 0), .int (Mv 1), .ref (Ma 2), .ref (Ma 3), .ref (Ma 4), .ref (Ma 5), .ref (Ma 6), .int (Mv 2), .int (Mv 3), .int (Mv 4), .int (Mv 5), .int (Mv 6), .int (Mv 7), .int (Mv 8), .ref (Ma 7), .int (Mv 9), .ref (Ma 8), .int oo0x1, .ref (Ma 9), .ref (Ma 10), .int (Mv 11), .int (Mv 12), .int (Mv 13), .ref (Ma 11), .int (Mv 14), .ref (Ma 12), .ref (Ma 13), .ref (Ma 14), .ref (Ma 15), .ref (Ma 16), .long oo0x2, .ref (Ma 17), .ref (Ma 18), .ref (Ma 19), .ref (Ma 20)])), ((Ma 2), .inl (tc 0, 2400, .inl (Mf 2))), ((Ma 4), .inl (tc 0, 288, .inl (Mf 4))), ((Ma 5), .inl (tc 0, 6, .inl (Mf 5))), ((Ma 8), .inl (tc 1, 64, .inr (.inl oo0x3))), ((Ma 9), .inl (tc 1, 13, .inr (.inl oo0x4))), ((Ma 10), .inl (tc 0, 126, .inl oo0x5)), ((Ma 12), .inl (tc 0, 46, .inl oo0x6))]) 0 0 := by
  refine Ct.start (by decide) (Nat.le_of_ble_eq_true rfl) (fun p e s m below meth c A ls hx hb hr hlk hin hml hown hts hK hX hP hD hA hl hS => ?_)
  have hl : lv_has ls 10 [(0, .ref (Ma 0)), (1, .int x1), (2, .int x2), (3, .int x3), (4, .int x4)] := hl
  have ar_h_said := SaidD.al h_said
  refine lv_aload_n hx hb dX12_summers_0 rfl (lv_at hl 0 rfl) ?_
  refine cV (a := (Ma 0)) (As := []) (rest := []) (wr := [((Ma 2), .inl (tc 0, 2400, .inl (Mf 2))), ((Ma 4), .inl (tc 0, 288, .inl (Mf 4))), ((Ma 5), .inl (tc 0, 6, .inl (Mf 5))), ((Ma 8), .inl (tc 1, 64, .inr (.inl (Mg 8)))), ((Ma 9), .inl (tc 1, 13, .inr (.inl (Mg 9)))), ((Ma 12), .inl (tc 0, 46, .inl (Mf 12)))]) ⟨hx, hb, hml, hown, hts⟩ hK hX hA (cu_X12_isBook l D tc sk (Ma 0) (Ma 1) (Ma 2) (Ma 3) (Ma 4) (Ma 5) (Ma 6) (Ma 7) (Ma 8) (Ma 9) (Ma 10) (Ma 11) (Ma 12) (Ma 13) (Ma 14) (Ma 15) (Ma 16) (Ma 17) (Ma 18) (Ma 19) (Ma 20) (Mv 0) (Mv 1) (Mv 2) (Mv 3) (Mv 4) (Mv 5) (Mv 6) (Mv 7) (Mv 8) (Mv 9) (Mv 10) (Mv 11) (Mv 12) (Mv 13) (Mv 14) (Mf 10) (Mj 0) h_said.1) k_1407 k_1404 k_1406 k_65 k_106 pl_X12_isBook ⟨Nat.le_of_ble_eq_true rfl, Nat.le_of_ble_eq_true rfl⟩ rfl rfl (va_recv hK hP (ci := 12) (q0 := 0) rfl rfl) hP hD hS [0, 6] [1, 2, 3, 4, 5, 7] rfl rfl rfl rfl rfl (by decide) rfl hl.1 rfl (Nat.le_of_ble_eq_true rfl) dX12_summers_1 ⟨Nat.le_of_ble_eq_true rfl, Nat.le_of_ble_eq_true rfl⟩ (fun v_1 u_2 H locs hv_3 hP₀ hD₀ hS₀ => ?_)
  obtain ⟨r_4, rfl, he_5⟩ := hv_3
  have he_5 : (r_4.toInt = 0 ∨ (r_4.toInt = 1 ∧ 1 ≤ ((Mf 10) 2).toInt ∧ ((Mf 10) 2).toInt ≤ 10)) := he_5
  refine W.eq (g2 := F0 m 4 ls [.int r_4]) rfl ?_
  replace hP : va_P D classes [((Ma 2), .inl (tc 0, 2400, .inl (Mf 2))), ((Ma 4), .inl (tc 0, 288, .inl (Mf 4))), ((Ma 5), .inl (tc 0, 6, .inl (Mf 5))), ((Ma 8), .inl (tc 1, 64, .inr (.inl (Mg 8)))), ((Ma 9), .inl (tc 1, 13, .inr (.inl (Mg 9)))), ((Ma 12), .inl (tc 0, 46, .inl (Mf 12))), ((Ma 0), .inr (12, [.ref (Ma 1), .int (Mv 0), .int (Mv 1), .ref (Ma 2), .ref (Ma 3), .ref (Ma 4), .ref (Ma 5), .ref (Ma 6), .int (Mv 2), .int (Mv 3), .int (Mv 4), .int (Mv 5), .int (Mv 6), .int (Mv 7), .int (Mv 8), .ref (Ma 7), .int (Mv 9), .ref (Ma 8), .int (Mv 10), .ref (Ma 9), .ref (Ma 10), .int (Mv 11), .int (Mv 12), .int (Mv 13), .ref (Ma 11), .int (Mv 14), .ref (Ma 12), .ref (Ma 13), .ref (Ma 14), .ref (Ma 15), .ref (Ma 16), .long (Mj 0), .ref (Ma 17), .ref (Ma 18), .ref (Ma 19), .ref (Ma 20)])), ((Ma 10), .inl (tc 0, 126, .inl (Mf 10)))] H := hP₀
  replace hD : va_D A [((Ma 2), .inl (tc 0, 2400, .inl (Mf 2))), ((Ma 4), .inl (tc 0, 288, .inl (Mf 4))), ((Ma 5), .inl (tc 0, 6, .inl (Mf 5))), ((Ma 8), .inl (tc 1, 64, .inr (.inl (Mg 8)))), ((Ma 9), .inl (tc 1, 13, .inr (.inl (Mg 9)))), ((Ma 12), .inl (tc 0, 46, .inl (Mf 12))), ((Ma 0), .inr (12, [.ref (Ma 1), .int (Mv 0), .int (Mv 1), .ref (Ma 2), .ref (Ma 3), .ref (Ma 4), .ref (Ma 5), .ref (Ma 6), .int (Mv 2), .int (Mv 3), .int (Mv 4), .int (Mv 5), .int (Mv 6), .int (Mv 7), .int (Mv 8), .ref (Ma 7), .int (Mv 9), .ref (Ma 8), .int (Mv 10), .ref (Ma 9), .ref (Ma 10), .int (Mv 11), .int (Mv 12), .int (Mv 13), .ref (Ma 11), .int (Mv 14), .ref (Ma 12), .ref (Ma 13), .ref (Ma 14), .ref (Ma 15), .ref (Ma 16), .long (Mj 0), .ref (Ma 17), .ref (Ma 18), .ref (Ma 19), .ref (Ma 20)])), ((Ma 10), .inl (tc 0, 126, .inl (Mf 10)))] := hD₀
  replace hS := hS₀
  clear hP₀ hD₀ hS₀
  refine lv_if_eq (tgt := 54) hx hb dX12_summers_4 (by decide) (fun c_7 => ?_) (fun c_7 => ?_)
  · skip
    refine lv_iconst (v := (-1)) hx hb dX12_summers_54 (by decide) ?_
    exact retI (v := (-1)) hx hb hr hlk (rfl) hP hD hS ((Mv 10), (Mj 0), (Mg 8), (Mg 9), (Mf 10), (Mf 12)) ⟨_, rfl, trivial, h_said⟩ [6, 0, 1, 2, 3, 4, 7, 5] rfl rfl dX12_summers_55 (Nat.le_of_ble_eq_true rfl) (Nat.le_of_ble_eq_true rfl) rfl
  · skip
    refine lv_iload_n hx hb dX12_summers_7 rfl (lv_at hl 1 rfl) ?_
    refine lv_i2l (v := (x1).toInt64) hx hb dX12_summers_8 rfl ?_
    refine lv_lconst (v := 1) hx hb dX12_summers_9 (by decide) ?_
    refine lv_ldc2 hx hb hown (hts _ k_1630) dX12_summers_10 ?_
    refine cS (As := [.long (x1).toInt64, .long 1, .long 10]) (rest := []) (wr := [((Ma 2), .inl (tc 0, 2400, .inl (Mf 2))), ((Ma 4), .inl (tc 0, 288, .inl (Mf 4))), ((Ma 5), .inl (tc 0, 6, .inl (Mf 5))), ((Ma 8), .inl (tc 1, 64, .inr (.inl (Mg 8)))), ((Ma 9), .inl (tc 1, 13, .inr (.inl (Mg 9)))), ((Ma 12), .inl (tc 0, 46, .inl (Mf 12))), ((Ma 0), .inr (12, [.ref (Ma 1), .int (Mv 0), .int (Mv 1), .ref (Ma 2), .ref (Ma 3), .ref (Ma 4), .ref (Ma 5), .ref (Ma 6), .int (Mv 2), .int (Mv 3), .int (Mv 4), .int (Mv 5), .int (Mv 6), .int (Mv 7), .int (Mv 8), .ref (Ma 7), .int (Mv 9), .ref (Ma 8), .int (Mv 10), .ref (Ma 9), .ref (Ma 10), .int (Mv 11), .int (Mv 12), .int (Mv 13), .ref (Ma 11), .int (Mv 14), .ref (Ma 12), .ref (Ma 13), .ref (Ma 14), .ref (Ma 15), .ref (Ma 16), .long (Mj 0), .ref (Ma 17), .ref (Ma 18), .ref (Ma 19), .ref (Ma 20)])), ((Ma 10), .inl (tc 0, 126, .inl (Mf 10)))]) ⟨hx, hb, hml, hown, hts⟩ hK hX hA (ct_X12_in l D tc sk ((x1).toInt64) 1 10) k_1259 k_1257 k_1258 k_106 pl_X12_in ⟨Nat.le_of_ble_eq_true rfl, Nat.le_of_ble_eq_true rfl⟩ rfl rfl  hP hD hS [] [0, 1, 2, 3, 4, 5, 6, 7] rfl rfl rfl rfl rfl (by decide) rfl hl.1 rfl (Nat.le_of_ble_eq_true rfl) dX12_summers_13 ⟨Nat.le_of_ble_eq_true rfl, Nat.le_of_ble_eq_true rfl⟩ (fun v_8 u_9 H locs hv_10 hP₀ hD₀ hS₀ => ?_)
    obtain ⟨r_11, rfl, he_12⟩ := hv_10
    have he_12 : (r_11.toInt = 0 ∨ (r_11.toInt = 1 ∧ (1 : Int64).toInt ≤ (x1).toInt64.toInt ∧ (x1).toInt64.toInt ≤ (10 : Int64).toInt)) := he_12
    refine W.eq (g2 := F0 m 16 ls [.int r_11]) rfl ?_
    replace hP : va_P D classes [((Ma 2), .inl (tc 0, 2400, .inl (Mf 2))), ((Ma 4), .inl (tc 0, 288, .inl (Mf 4))), ((Ma 5), .inl (tc 0, 6, .inl (Mf 5))), ((Ma 8), .inl (tc 1, 64, .inr (.inl (Mg 8)))), ((Ma 9), .inl (tc 1, 13, .inr (.inl (Mg 9)))), ((Ma 12), .inl (tc 0, 46, .inl (Mf 12))), ((Ma 0), .inr (12, [.ref (Ma 1), .int (Mv 0), .int (Mv 1), .ref (Ma 2), .ref (Ma 3), .ref (Ma 4), .ref (Ma 5), .ref (Ma 6), .int (Mv 2), .int (Mv 3), .int (Mv 4), .int (Mv 5), .int (Mv 6), .int (Mv 7), .int (Mv 8), .ref (Ma 7), .int (Mv 9), .ref (Ma 8), .int (Mv 10), .ref (Ma 9), .ref (Ma 10), .int (Mv 11), .int (Mv 12), .int (Mv 13), .ref (Ma 11), .int (Mv 14), .ref (Ma 12), .ref (Ma 13), .ref (Ma 14), .ref (Ma 15), .ref (Ma 16), .long (Mj 0), .ref (Ma 17), .ref (Ma 18), .ref (Ma 19), .ref (Ma 20)])), ((Ma 10), .inl (tc 0, 126, .inl (Mf 10)))] H := hP₀
    replace hD : va_D A [((Ma 2), .inl (tc 0, 2400, .inl (Mf 2))), ((Ma 4), .inl (tc 0, 288, .inl (Mf 4))), ((Ma 5), .inl (tc 0, 6, .inl (Mf 5))), ((Ma 8), .inl (tc 1, 64, .inr (.inl (Mg 8)))), ((Ma 9), .inl (tc 1, 13, .inr (.inl (Mg 9)))), ((Ma 12), .inl (tc 0, 46, .inl (Mf 12))), ((Ma 0), .inr (12, [.ref (Ma 1), .int (Mv 0), .int (Mv 1), .ref (Ma 2), .ref (Ma 3), .ref (Ma 4), .ref (Ma 5), .ref (Ma 6), .int (Mv 2), .int (Mv 3), .int (Mv 4), .int (Mv 5), .int (Mv 6), .int (Mv 7), .int (Mv 8), .ref (Ma 7), .int (Mv 9), .ref (Ma 8), .int (Mv 10), .ref (Ma 9), .ref (Ma 10), .int (Mv 11), .int (Mv 12), .int (Mv 13), .ref (Ma 11), .int (Mv 14), .ref (Ma 12), .ref (Ma 13), .ref (Ma 14), .ref (Ma 15), .ref (Ma 16), .long (Mj 0), .ref (Ma 17), .ref (Ma 18), .ref (Ma 19), .ref (Ma 20)])), ((Ma 10), .inl (tc 0, 126, .inl (Mf 10)))] := hD₀
    replace hS := hS₀
    clear hP₀ hD₀ hS₀
    have yl_he_12_1 : (1 : Int64).toInt = 1 := by decide
    have yl_he_12_10 : (10 : Int64).toInt = 10 := by decide
    simp only [i32_64] at he_12
    refine lv_if_eq (tgt := 54) hx hb dX12_summers_16 (by decide) (fun c_14 => ?_) (fun c_14 => ?_)
    · skip
      refine lv_iconst (v := (-1)) hx hb dX12_summers_54 (by decide) ?_
      exact retI (v := (-1)) hx hb hr hlk (rfl) hP hD hS ((Mv 10), (Mj 0), (Mg 8), (Mg 9), (Mf 10), (Mf 12)) ⟨_, rfl, trivial, h_said⟩ [6, 0, 1, 2, 3, 4, 7, 5] rfl rfl dX12_summers_55 (Nat.le_of_ble_eq_true rfl) (Nat.le_of_ble_eq_true rfl) rfl
    · skip
      refine lv_iload_n hx hb dX12_summers_19 rfl (lv_at hl 2 rfl) ?_
      refine lv_i2l (v := (x2).toInt64) hx hb dX12_summers_20 rfl ?_
      refine lv_lconst (v := 1) hx hb dX12_summers_21 (by decide) ?_
      refine lv_ldc2 hx hb hown (hts _ k_1553) dX12_summers_22 ?_
      refine cS (As := [.long (x2).toInt64, .long 1, .long 60]) (rest := []) (wr := [((Ma 2), .inl (tc 0, 2400, .inl (Mf 2))), ((Ma 4), .inl (tc 0, 288, .inl (Mf 4))), ((Ma 5), .inl (tc 0, 6, .inl (Mf 5))), ((Ma 8), .inl (tc 1, 64, .inr (.inl (Mg 8)))), ((Ma 9), .inl (tc 1, 13, .inr (.inl (Mg 9)))), ((Ma 12), .inl (tc 0, 46, .inl (Mf 12))), ((Ma 0), .inr (12, [.ref (Ma 1), .int (Mv 0), .int (Mv 1), .ref (Ma 2), .ref (Ma 3), .ref (Ma 4), .ref (Ma 5), .ref (Ma 6), .int (Mv 2), .int (Mv 3), .int (Mv 4), .int (Mv 5), .int (Mv 6), .int (Mv 7), .int (Mv 8), .ref (Ma 7), .int (Mv 9), .ref (Ma 8), .int (Mv 10), .ref (Ma 9), .ref (Ma 10), .int (Mv 11), .int (Mv 12), .int (Mv 13), .ref (Ma 11), .int (Mv 14), .ref (Ma 12), .ref (Ma 13), .ref (Ma 14), .ref (Ma 15), .ref (Ma 16), .long (Mj 0), .ref (Ma 17), .ref (Ma 18), .ref (Ma 19), .ref (Ma 20)])), ((Ma 10), .inl (tc 0, 126, .inl (Mf 10)))]) ⟨hx, hb, hml, hown, hts⟩ hK hX hA (ct_X12_in l D tc sk ((x2).toInt64) 1 60) k_1259 k_1257 k_1258 k_106 pl_X12_in ⟨Nat.le_of_ble_eq_true rfl, Nat.le_of_ble_eq_true rfl⟩ rfl rfl  hP hD hS [] [0, 1, 2, 3, 4, 5, 6, 7] rfl rfl rfl rfl rfl (by decide) rfl hl.1 rfl (Nat.le_of_ble_eq_true rfl) dX12_summers_25 ⟨Nat.le_of_ble_eq_true rfl, Nat.le_of_ble_eq_true rfl⟩ (fun v_15 u_16 H locs hv_17 hP₀ hD₀ hS₀ => ?_)
      obtain ⟨r_18, rfl, he_19⟩ := hv_17
      have he_19 : (r_18.toInt = 0 ∨ (r_18.toInt = 1 ∧ (1 : Int64).toInt ≤ (x2).toInt64.toInt ∧ (x2).toInt64.toInt ≤ (60 : Int64).toInt)) := he_19
      refine W.eq (g2 := F0 m 28 ls [.int r_18]) rfl ?_
      replace hP : va_P D classes [((Ma 2), .inl (tc 0, 2400, .inl (Mf 2))), ((Ma 4), .inl (tc 0, 288, .inl (Mf 4))), ((Ma 5), .inl (tc 0, 6, .inl (Mf 5))), ((Ma 8), .inl (tc 1, 64, .inr (.inl (Mg 8)))), ((Ma 9), .inl (tc 1, 13, .inr (.inl (Mg 9)))), ((Ma 12), .inl (tc 0, 46, .inl (Mf 12))), ((Ma 0), .inr (12, [.ref (Ma 1), .int (Mv 0), .int (Mv 1), .ref (Ma 2), .ref (Ma 3), .ref (Ma 4), .ref (Ma 5), .ref (Ma 6), .int (Mv 2), .int (Mv 3), .int (Mv 4), .int (Mv 5), .int (Mv 6), .int (Mv 7), .int (Mv 8), .ref (Ma 7), .int (Mv 9), .ref (Ma 8), .int (Mv 10), .ref (Ma 9), .ref (Ma 10), .int (Mv 11), .int (Mv 12), .int (Mv 13), .ref (Ma 11), .int (Mv 14), .ref (Ma 12), .ref (Ma 13), .ref (Ma 14), .ref (Ma 15), .ref (Ma 16), .long (Mj 0), .ref (Ma 17), .ref (Ma 18), .ref (Ma 19), .ref (Ma 20)])), ((Ma 10), .inl (tc 0, 126, .inl (Mf 10)))] H := hP₀
      replace hD : va_D A [((Ma 2), .inl (tc 0, 2400, .inl (Mf 2))), ((Ma 4), .inl (tc 0, 288, .inl (Mf 4))), ((Ma 5), .inl (tc 0, 6, .inl (Mf 5))), ((Ma 8), .inl (tc 1, 64, .inr (.inl (Mg 8)))), ((Ma 9), .inl (tc 1, 13, .inr (.inl (Mg 9)))), ((Ma 12), .inl (tc 0, 46, .inl (Mf 12))), ((Ma 0), .inr (12, [.ref (Ma 1), .int (Mv 0), .int (Mv 1), .ref (Ma 2), .ref (Ma 3), .ref (Ma 4), .ref (Ma 5), .ref (Ma 6), .int (Mv 2), .int (Mv 3), .int (Mv 4), .int (Mv 5), .int (Mv 6), .int (Mv 7), .int (Mv 8), .ref (Ma 7), .int (Mv 9), .ref (Ma 8), .int (Mv 10), .ref (Ma 9), .ref (Ma 10), .int (Mv 11), .int (Mv 12), .int (Mv 13), .ref (Ma 11), .int (Mv 14), .ref (Ma 12), .ref (Ma 13), .ref (Ma 14), .ref (Ma 15), .ref (Ma 16), .long (Mj 0), .ref (Ma 17), .ref (Ma 18), .ref (Ma 19), .ref (Ma 20)])), ((Ma 10), .inl (tc 0, 126, .inl (Mf 10)))] := hD₀
      replace hS := hS₀
      clear hP₀ hD₀ hS₀
      have yl_he_19_1 : (1 : Int64).toInt = 1 := by decide
      have yl_he_19_60 : (60 : Int64).toInt = 60 := by decide
      simp only [i32_64] at he_19
      refine lv_if_eq (tgt := 54) hx hb dX12_summers_28 (by decide) (fun c_21 => ?_) (fun c_21 => ?_)
      · skip
        refine lv_iconst (v := (-1)) hx hb dX12_summers_54 (by decide) ?_
        exact retI (v := (-1)) hx hb hr hlk (rfl) hP hD hS ((Mv 10), (Mj 0), (Mg 8), (Mg 9), (Mf 10), (Mf 12)) ⟨_, rfl, trivial, h_said⟩ [6, 0, 1, 2, 3, 4, 7, 5] rfl rfl dX12_summers_55 (Nat.le_of_ble_eq_true rfl) (Nat.le_of_ble_eq_true rfl) rfl
      · skip
        refine lv_iload_n hx hb dX12_summers_31 rfl (lv_at hl 3 rfl) ?_
        refine lv_i2l (v := (x3).toInt64) hx hb dX12_summers_32 rfl ?_
        refine lv_lconst (v := 0) hx hb dX12_summers_33 (by decide) ?_
        refine lv_ldc2 hx hb hown (hts _ k_1500) dX12_summers_34 ?_
        refine cS (As := [.long (x3).toInt64, .long 0, .long 100]) (rest := []) (wr := [((Ma 2), .inl (tc 0, 2400, .inl (Mf 2))), ((Ma 4), .inl (tc 0, 288, .inl (Mf 4))), ((Ma 5), .inl (tc 0, 6, .inl (Mf 5))), ((Ma 8), .inl (tc 1, 64, .inr (.inl (Mg 8)))), ((Ma 9), .inl (tc 1, 13, .inr (.inl (Mg 9)))), ((Ma 12), .inl (tc 0, 46, .inl (Mf 12))), ((Ma 0), .inr (12, [.ref (Ma 1), .int (Mv 0), .int (Mv 1), .ref (Ma 2), .ref (Ma 3), .ref (Ma 4), .ref (Ma 5), .ref (Ma 6), .int (Mv 2), .int (Mv 3), .int (Mv 4), .int (Mv 5), .int (Mv 6), .int (Mv 7), .int (Mv 8), .ref (Ma 7), .int (Mv 9), .ref (Ma 8), .int (Mv 10), .ref (Ma 9), .ref (Ma 10), .int (Mv 11), .int (Mv 12), .int (Mv 13), .ref (Ma 11), .int (Mv 14), .ref (Ma 12), .ref (Ma 13), .ref (Ma 14), .ref (Ma 15), .ref (Ma 16), .long (Mj 0), .ref (Ma 17), .ref (Ma 18), .ref (Ma 19), .ref (Ma 20)])), ((Ma 10), .inl (tc 0, 126, .inl (Mf 10)))]) ⟨hx, hb, hml, hown, hts⟩ hK hX hA (ct_X12_in l D tc sk ((x3).toInt64) 0 100) k_1259 k_1257 k_1258 k_106 pl_X12_in ⟨Nat.le_of_ble_eq_true rfl, Nat.le_of_ble_eq_true rfl⟩ rfl rfl  hP hD hS [] [0, 1, 2, 3, 4, 5, 6, 7] rfl rfl rfl rfl rfl (by decide) rfl hl.1 rfl (Nat.le_of_ble_eq_true rfl) dX12_summers_37 ⟨Nat.le_of_ble_eq_true rfl, Nat.le_of_ble_eq_true rfl⟩ (fun v_22 u_23 H locs hv_24 hP₀ hD₀ hS₀ => ?_)
        obtain ⟨r_25, rfl, he_26⟩ := hv_24
        have he_26 : (r_25.toInt = 0 ∨ (r_25.toInt = 1 ∧ (0 : Int64).toInt ≤ (x3).toInt64.toInt ∧ (x3).toInt64.toInt ≤ (100 : Int64).toInt)) := he_26
        refine W.eq (g2 := F0 m 40 ls [.int r_25]) rfl ?_
        replace hP : va_P D classes [((Ma 2), .inl (tc 0, 2400, .inl (Mf 2))), ((Ma 4), .inl (tc 0, 288, .inl (Mf 4))), ((Ma 5), .inl (tc 0, 6, .inl (Mf 5))), ((Ma 8), .inl (tc 1, 64, .inr (.inl (Mg 8)))), ((Ma 9), .inl (tc 1, 13, .inr (.inl (Mg 9)))), ((Ma 12), .inl (tc 0, 46, .inl (Mf 12))), ((Ma 0), .inr (12, [.ref (Ma 1), .int (Mv 0), .int (Mv 1), .ref (Ma 2), .ref (Ma 3), .ref (Ma 4), .ref (Ma 5), .ref (Ma 6), .int (Mv 2), .int (Mv 3), .int (Mv 4), .int (Mv 5), .int (Mv 6), .int (Mv 7), .int (Mv 8), .ref (Ma 7), .int (Mv 9), .ref (Ma 8), .int (Mv 10), .ref (Ma 9), .ref (Ma 10), .int (Mv 11), .int (Mv 12), .int (Mv 13), .ref (Ma 11), .int (Mv 14), .ref (Ma 12), .ref (Ma 13), .ref (Ma 14), .ref (Ma 15), .ref (Ma 16), .long (Mj 0), .ref (Ma 17), .ref (Ma 18), .ref (Ma 19), .ref (Ma 20)])), ((Ma 10), .inl (tc 0, 126, .inl (Mf 10)))] H := hP₀
        replace hD : va_D A [((Ma 2), .inl (tc 0, 2400, .inl (Mf 2))), ((Ma 4), .inl (tc 0, 288, .inl (Mf 4))), ((Ma 5), .inl (tc 0, 6, .inl (Mf 5))), ((Ma 8), .inl (tc 1, 64, .inr (.inl (Mg 8)))), ((Ma 9), .inl (tc 1, 13, .inr (.inl (Mg 9)))), ((Ma 12), .inl (tc 0, 46, .inl (Mf 12))), ((Ma 0), .inr (12, [.ref (Ma 1), .int (Mv 0), .int (Mv 1), .ref (Ma 2), .ref (Ma 3), .ref (Ma 4), .ref (Ma 5), .ref (Ma 6), .int (Mv 2), .int (Mv 3), .int (Mv 4), .int (Mv 5), .int (Mv 6), .int (Mv 7), .int (Mv 8), .ref (Ma 7), .int (Mv 9), .ref (Ma 8), .int (Mv 10), .ref (Ma 9), .ref (Ma 10), .int (Mv 11), .int (Mv 12), .int (Mv 13), .ref (Ma 11), .int (Mv 14), .ref (Ma 12), .ref (Ma 13), .ref (Ma 14), .ref (Ma 15), .ref (Ma 16), .long (Mj 0), .ref (Ma 17), .ref (Ma 18), .ref (Ma 19), .ref (Ma 20)])), ((Ma 10), .inl (tc 0, 126, .inl (Mf 10)))] := hD₀
        replace hS := hS₀
        clear hP₀ hD₀ hS₀
        have yl_he_26_0 : (0 : Int64).toInt = 0 := by decide
        have yl_he_26_100 : (100 : Int64).toInt = 100 := by decide
        simp only [i32_64] at he_26
        refine lv_if_eq (tgt := 54) hx hb dX12_summers_40 (by decide) (fun c_28 => ?_) (fun c_28 => ?_)
        · skip
          refine lv_iconst (v := (-1)) hx hb dX12_summers_54 (by decide) ?_
          exact retI (v := (-1)) hx hb hr hlk (rfl) hP hD hS ((Mv 10), (Mj 0), (Mg 8), (Mg 9), (Mf 10), (Mf 12)) ⟨_, rfl, trivial, h_said⟩ [6, 0, 1, 2, 3, 4, 7, 5] rfl rfl dX12_summers_55 (Nat.le_of_ble_eq_true rfl) (Nat.le_of_ble_eq_true rfl) rfl
        · skip
          refine lv_iload hx hb dX12_summers_43 (lv_at hl 4 rfl) ?_
          refine lv_i2l (v := (x4).toInt64) hx hb dX12_summers_45 rfl ?_
          refine lv_lconst (v := 0) hx hb dX12_summers_46 (by decide) ?_
          refine lv_lconst (v := 1) hx hb dX12_summers_47 (by decide) ?_
          refine cS (As := [.long (x4).toInt64, .long 0, .long 1]) (rest := []) (wr := [((Ma 2), .inl (tc 0, 2400, .inl (Mf 2))), ((Ma 4), .inl (tc 0, 288, .inl (Mf 4))), ((Ma 5), .inl (tc 0, 6, .inl (Mf 5))), ((Ma 8), .inl (tc 1, 64, .inr (.inl (Mg 8)))), ((Ma 9), .inl (tc 1, 13, .inr (.inl (Mg 9)))), ((Ma 12), .inl (tc 0, 46, .inl (Mf 12))), ((Ma 0), .inr (12, [.ref (Ma 1), .int (Mv 0), .int (Mv 1), .ref (Ma 2), .ref (Ma 3), .ref (Ma 4), .ref (Ma 5), .ref (Ma 6), .int (Mv 2), .int (Mv 3), .int (Mv 4), .int (Mv 5), .int (Mv 6), .int (Mv 7), .int (Mv 8), .ref (Ma 7), .int (Mv 9), .ref (Ma 8), .int (Mv 10), .ref (Ma 9), .ref (Ma 10), .int (Mv 11), .int (Mv 12), .int (Mv 13), .ref (Ma 11), .int (Mv 14), .ref (Ma 12), .ref (Ma 13), .ref (Ma 14), .ref (Ma 15), .ref (Ma 16), .long (Mj 0), .ref (Ma 17), .ref (Ma 18), .ref (Ma 19), .ref (Ma 20)])), ((Ma 10), .inl (tc 0, 126, .inl (Mf 10)))]) ⟨hx, hb, hml, hown, hts⟩ hK hX hA (ct_X12_in l D tc sk ((x4).toInt64) 0 1) k_1259 k_1257 k_1258 k_106 pl_X12_in ⟨Nat.le_of_ble_eq_true rfl, Nat.le_of_ble_eq_true rfl⟩ rfl rfl  hP hD hS [] [0, 1, 2, 3, 4, 5, 6, 7] rfl rfl rfl rfl rfl (by decide) rfl hl.1 rfl (Nat.le_of_ble_eq_true rfl) dX12_summers_48 ⟨Nat.le_of_ble_eq_true rfl, Nat.le_of_ble_eq_true rfl⟩ (fun v_29 u_30 H locs hv_31 hP₀ hD₀ hS₀ => ?_)
          obtain ⟨r_32, rfl, he_33⟩ := hv_31
          have he_33 : (r_32.toInt = 0 ∨ (r_32.toInt = 1 ∧ (0 : Int64).toInt ≤ (x4).toInt64.toInt ∧ (x4).toInt64.toInt ≤ (1 : Int64).toInt)) := he_33
          refine W.eq (g2 := F0 m 51 ls [.int r_32]) rfl ?_
          replace hP : va_P D classes [((Ma 2), .inl (tc 0, 2400, .inl (Mf 2))), ((Ma 4), .inl (tc 0, 288, .inl (Mf 4))), ((Ma 5), .inl (tc 0, 6, .inl (Mf 5))), ((Ma 8), .inl (tc 1, 64, .inr (.inl (Mg 8)))), ((Ma 9), .inl (tc 1, 13, .inr (.inl (Mg 9)))), ((Ma 12), .inl (tc 0, 46, .inl (Mf 12))), ((Ma 0), .inr (12, [.ref (Ma 1), .int (Mv 0), .int (Mv 1), .ref (Ma 2), .ref (Ma 3), .ref (Ma 4), .ref (Ma 5), .ref (Ma 6), .int (Mv 2), .int (Mv 3), .int (Mv 4), .int (Mv 5), .int (Mv 6), .int (Mv 7), .int (Mv 8), .ref (Ma 7), .int (Mv 9), .ref (Ma 8), .int (Mv 10), .ref (Ma 9), .ref (Ma 10), .int (Mv 11), .int (Mv 12), .int (Mv 13), .ref (Ma 11), .int (Mv 14), .ref (Ma 12), .ref (Ma 13), .ref (Ma 14), .ref (Ma 15), .ref (Ma 16), .long (Mj 0), .ref (Ma 17), .ref (Ma 18), .ref (Ma 19), .ref (Ma 20)])), ((Ma 10), .inl (tc 0, 126, .inl (Mf 10)))] H := hP₀
          replace hD : va_D A [((Ma 2), .inl (tc 0, 2400, .inl (Mf 2))), ((Ma 4), .inl (tc 0, 288, .inl (Mf 4))), ((Ma 5), .inl (tc 0, 6, .inl (Mf 5))), ((Ma 8), .inl (tc 1, 64, .inr (.inl (Mg 8)))), ((Ma 9), .inl (tc 1, 13, .inr (.inl (Mg 9)))), ((Ma 12), .inl (tc 0, 46, .inl (Mf 12))), ((Ma 0), .inr (12, [.ref (Ma 1), .int (Mv 0), .int (Mv 1), .ref (Ma 2), .ref (Ma 3), .ref (Ma 4), .ref (Ma 5), .ref (Ma 6), .int (Mv 2), .int (Mv 3), .int (Mv 4), .int (Mv 5), .int (Mv 6), .int (Mv 7), .int (Mv 8), .ref (Ma 7), .int (Mv 9), .ref (Ma 8), .int (Mv 10), .ref (Ma 9), .ref (Ma 10), .int (Mv 11), .int (Mv 12), .int (Mv 13), .ref (Ma 11), .int (Mv 14), .ref (Ma 12), .ref (Ma 13), .ref (Ma 14), .ref (Ma 15), .ref (Ma 16), .long (Mj 0), .ref (Ma 17), .ref (Ma 18), .ref (Ma 19), .ref (Ma 20)])), ((Ma 10), .inl (tc 0, 126, .inl (Mf 10)))] := hD₀
          replace hS := hS₀
          clear hP₀ hD₀ hS₀
          have yl_he_33_0 : (0 : Int64).toInt = 0 := by decide
          have yl_he_33_1 : (1 : Int64).toInt = 1 := by decide
          simp only [i32_64] at he_33
          refine lv_if_ne (tgt := 56) hx hb dX12_summers_51 (by decide) (fun c_35 => ?_) (fun c_35 => ?_)
          · skip
            refine lv_aload_n hx hb dX12_summers_56 rfl (lv_at hl 0 rfl) ?_
            refine lv_aload_n hx hb dX12_summers_57 rfl (lv_at hl 0 rfl) ?_
            refine gf_X12_414 hx hb hts hown hK hP 6 rfl rfl dX12_summers_58 ?_
            refine lv_i2l (v := ((Mv 12)).toInt64) hx hb dX12_summers_61 rfl ?_
            refine pf_X12_417 hx hb hts hown hK hP hD hS 6 rfl (Nat.le_of_ble_eq_true rfl) rfl rfl dX12_summers_62 (fun H locs hP₀ hD₀ hS₀ => ?_)
            replace hP : va_P D classes [((Ma 2), .inl (tc 0, 2400, .inl (Mf 2))), ((Ma 4), .inl (tc 0, 288, .inl (Mf 4))), ((Ma 5), .inl (tc 0, 6, .inl (Mf 5))), ((Ma 8), .inl (tc 1, 64, .inr (.inl (Mg 8)))), ((Ma 9), .inl (tc 1, 13, .inr (.inl (Mg 9)))), ((Ma 12), .inl (tc 0, 46, .inl (Mf 12))), ((Ma 0), .inr (12, [.ref (Ma 1), .int (Mv 0), .int (Mv 1), .ref (Ma 2), .ref (Ma 3), .ref (Ma 4), .ref (Ma 5), .ref (Ma 6), .int (Mv 2), .int (Mv 3), .int (Mv 4), .int (Mv 5), .int (Mv 6), .int (Mv 7), .int (Mv 8), .ref (Ma 7), .int (Mv 9), .ref (Ma 8), .int (Mv 10), .ref (Ma 9), .ref (Ma 10), .int (Mv 11), .int (Mv 12), .int (Mv 13), .ref (Ma 11), .int (Mv 14), .ref (Ma 12), .ref (Ma 13), .ref (Ma 14), .ref (Ma 15), .ref (Ma 16), .long ((Mv 12)).toInt64, .ref (Ma 17), .ref (Ma 18), .ref (Ma 19), .ref (Ma 20)])), ((Ma 10), .inl (tc 0, 126, .inl (Mf 10)))] H := hP₀
            replace hD : va_D A [((Ma 2), .inl (tc 0, 2400, .inl (Mf 2))), ((Ma 4), .inl (tc 0, 288, .inl (Mf 4))), ((Ma 5), .inl (tc 0, 6, .inl (Mf 5))), ((Ma 8), .inl (tc 1, 64, .inr (.inl (Mg 8)))), ((Ma 9), .inl (tc 1, 13, .inr (.inl (Mg 9)))), ((Ma 12), .inl (tc 0, 46, .inl (Mf 12))), ((Ma 0), .inr (12, [.ref (Ma 1), .int (Mv 0), .int (Mv 1), .ref (Ma 2), .ref (Ma 3), .ref (Ma 4), .ref (Ma 5), .ref (Ma 6), .int (Mv 2), .int (Mv 3), .int (Mv 4), .int (Mv 5), .int (Mv 6), .int (Mv 7), .int (Mv 8), .ref (Ma 7), .int (Mv 9), .ref (Ma 8), .int (Mv 10), .ref (Ma 9), .ref (Ma 10), .int (Mv 11), .int (Mv 12), .int (Mv 13), .ref (Ma 11), .int (Mv 14), .ref (Ma 12), .ref (Ma 13), .ref (Ma 14), .ref (Ma 15), .ref (Ma 16), .long ((Mv 12)).toInt64, .ref (Ma 17), .ref (Ma 18), .ref (Ma 19), .ref (Ma 20)])), ((Ma 10), .inl (tc 0, 126, .inl (Mf 10)))] := hD₀
            replace hS := hS₀
            clear hP₀ hD₀ hS₀
            refine lv_iconst (v := 0) hx hb dX12_summers_65 (by decide) ?_
            refine lv_istore (lv' := [(5, .int 0), (0, .ref (Ma 0)), (1, .int x1), (2, .int x2), (3, .int x3), (4, .int x4)]) hx hb dX12_summers_66 hl (by decide) rfl (fun ls hl₀ => ?_)
            replace hl := hl₀
            clear hl₀
            refine lv_iconst (v := 0) hx hb dX12_summers_68 (by decide) ?_
            refine lv_istore (lv' := [(6, .int 0), (5, .int 0), (0, .ref (Ma 0)), (1, .int x1), (2, .int x2), (3, .int x3), (4, .int x4)]) hx hb dX12_summers_69 hl (by decide) rfl (fun ls hl₀ => ?_)
            replace hl := hl₀
            clear hl₀
            refine lv_aload_n hx hb dX12_summers_71 rfl (lv_at hl 2 rfl) ?_
            refine cV (a := (Ma 0)) (As := []) (rest := []) (wr := [((Ma 2), .inl (tc 0, 2400, .inl (Mf 2))), ((Ma 4), .inl (tc 0, 288, .inl (Mf 4))), ((Ma 5), .inl (tc 0, 6, .inl (Mf 5))), ((Ma 8), .inl (tc 1, 64, .inr (.inl (Mg 8)))), ((Ma 9), .inl (tc 1, 13, .inr (.inl (Mg 9)))), ((Ma 12), .inl (tc 0, 46, .inl (Mf 12)))]) ⟨hx, hb, hml, hown, hts⟩ hK hX hA (cu_X12_soldAll l D tc sk (Ma 0) (Ma 1) (Ma 2) (Ma 3) (Ma 4) (Ma 5) (Ma 6) (Ma 7) (Ma 8) (Ma 9) (Ma 10) (Ma 11) (Ma 12) (Ma 13) (Ma 14) (Ma 15) (Ma 16) (Ma 17) (Ma 18) (Ma 19) (Ma 20) (Mv 0) (Mv 1) (Mv 2) (Mv 3) (Mv 4) (Mv 5) (Mv 6) (Mv 7) (Mv 8) (Mv 9) (Mv 10) (Mv 11) (Mv 12) (Mv 13) (Mv 14) (Mf 10) (((Mv 12)).toInt64) h_said.1) k_1439 k_1436 k_1438 k_71 k_106 pl_X12_soldAll ⟨Nat.le_of_ble_eq_true rfl, Nat.le_of_ble_eq_true rfl⟩ rfl rfl (va_recv hK hP (ci := 12) (q0 := 6) rfl rfl) hP hD hS [6, 7] [0, 1, 2, 3, 4, 5] rfl rfl rfl rfl rfl (by decide) rfl hl.1 rfl (Nat.le_of_ble_eq_true rfl) dX12_summers_72 ⟨Nat.le_of_ble_eq_true rfl, Nat.le_of_ble_eq_true rfl⟩ (fun v_36 u_37 H locs hv_38 hP₀ hD₀ hS₀ => ?_)
            obtain ⟨r_39, rfl, he_40⟩ := hv_38
            refine W.eq (g2 := F0 m 75 ls [.int r_39]) rfl ?_
            replace hP : va_P D classes [((Ma 2), .inl (tc 0, 2400, .inl (Mf 2))), ((Ma 4), .inl (tc 0, 288, .inl (Mf 4))), ((Ma 5), .inl (tc 0, 6, .inl (Mf 5))), ((Ma 8), .inl (tc 1, 64, .inr (.inl (Mg 8)))), ((Ma 9), .inl (tc 1, 13, .inr (.inl (Mg 9)))), ((Ma 12), .inl (tc 0, 46, .inl (Mf 12))), ((Ma 0), .inr (12, [.ref (Ma 1), .int (Mv 0), .int (Mv 1), .ref (Ma 2), .ref (Ma 3), .ref (Ma 4), .ref (Ma 5), .ref (Ma 6), .int (Mv 2), .int (Mv 3), .int (Mv 4), .int (Mv 5), .int (Mv 6), .int (Mv 7), .int (Mv 8), .ref (Ma 7), .int (Mv 9), .ref (Ma 8), .int (Mv 10), .ref (Ma 9), .ref (Ma 10), .int (Mv 11), .int (Mv 12), .int (Mv 13), .ref (Ma 11), .int (Mv 14), .ref (Ma 12), .ref (Ma 13), .ref (Ma 14), .ref (Ma 15), .ref (Ma 16), .long ((Mv 12)).toInt64, .ref (Ma 17), .ref (Ma 18), .ref (Ma 19), .ref (Ma 20)])), ((Ma 10), .inl (tc 0, 126, .inl (Mf 10)))] H := hP₀
            replace hD : va_D A [((Ma 2), .inl (tc 0, 2400, .inl (Mf 2))), ((Ma 4), .inl (tc 0, 288, .inl (Mf 4))), ((Ma 5), .inl (tc 0, 6, .inl (Mf 5))), ((Ma 8), .inl (tc 1, 64, .inr (.inl (Mg 8)))), ((Ma 9), .inl (tc 1, 13, .inr (.inl (Mg 9)))), ((Ma 12), .inl (tc 0, 46, .inl (Mf 12))), ((Ma 0), .inr (12, [.ref (Ma 1), .int (Mv 0), .int (Mv 1), .ref (Ma 2), .ref (Ma 3), .ref (Ma 4), .ref (Ma 5), .ref (Ma 6), .int (Mv 2), .int (Mv 3), .int (Mv 4), .int (Mv 5), .int (Mv 6), .int (Mv 7), .int (Mv 8), .ref (Ma 7), .int (Mv 9), .ref (Ma 8), .int (Mv 10), .ref (Ma 9), .ref (Ma 10), .int (Mv 11), .int (Mv 12), .int (Mv 13), .ref (Ma 11), .int (Mv 14), .ref (Ma 12), .ref (Ma 13), .ref (Ma 14), .ref (Ma 15), .ref (Ma 16), .long ((Mv 12)).toInt64, .ref (Ma 17), .ref (Ma 18), .ref (Ma 19), .ref (Ma 20)])), ((Ma 10), .inl (tc 0, 126, .inl (Mf 10)))] := hD₀
            replace hS := hS₀
            clear hP₀ hD₀ hS₀
            refine lv_istore (lv' := [(7, .int r_39), (6, .int 0), (5, .int 0), (0, .ref (Ma 0)), (1, .int x1), (2, .int x2), (3, .int x3), (4, .int x4)]) hx hb dX12_summers_75 hl (by decide) rfl (fun ls hl₀ => ?_)
            replace hl := hl₀
            clear hl₀
            refine lv_aload_n hx hb dX12_summers_77 rfl (lv_at hl 3 rfl) ?_
            refine cV (a := (Ma 0)) (As := []) (rest := []) (wr := [((Ma 2), .inl (tc 0, 2400, .inl (Mf 2))), ((Ma 4), .inl (tc 0, 288, .inl (Mf 4))), ((Ma 5), .inl (tc 0, 6, .inl (Mf 5))), ((Ma 8), .inl (tc 1, 64, .inr (.inl (Mg 8)))), ((Ma 9), .inl (tc 1, 13, .inr (.inl (Mg 9))))]) ⟨hx, hb, hml, hown, hts⟩ hK hX hA (cu_X12_keeps l D tc sk (Ma 0) (Ma 1) (Ma 2) (Ma 3) (Ma 4) (Ma 5) (Ma 6) (Ma 7) (Ma 8) (Ma 9) (Ma 10) (Ma 11) (Ma 12) (Ma 13) (Ma 14) (Ma 15) (Ma 16) (Ma 17) (Ma 18) (Ma 19) (Ma 20) (Mv 0) (Mv 1) (Mv 2) (Mv 3) (Mv 4) (Mv 5) (Mv 6) (Mv 7) (Mv 8) (Mv 9) (Mv 10) (Mv 11) (Mv 12) (Mv 13) (Mv 14) (Mf 10) (Mf 12) (((Mv 12)).toInt64) h_said) k_1505 k_1502 k_1504 k_80 k_106 pl_X12_keeps ⟨Nat.le_of_ble_eq_true rfl, Nat.le_of_ble_eq_true rfl⟩ rfl rfl (va_recv hK hP (ci := 12) (q0 := 6) rfl rfl) hP hD hS [6, 7, 5] [0, 1, 2, 3, 4] rfl rfl rfl rfl rfl (by decide) rfl hl.1 rfl (Nat.le_of_ble_eq_true rfl) dX12_summers_78 ⟨Nat.le_of_ble_eq_true rfl, Nat.le_of_ble_eq_true rfl⟩ (fun v_42 u_43 H locs hv_44 hP₀ hD₀ hS₀ => ?_)
            obtain ⟨sv_45, rfl⟩ : ∃ z, z = u_43 := ⟨_, rfl⟩
            obtain ⟨rfl, pf_46⟩ := hv_44
            have pf_46 : KeptD sv_45 := pf_46
            refine W.eq (g2 := F0 m 81 ls []) rfl ?_
            replace hP : va_P D classes [((Ma 2), .inl (tc 0, 2400, .inl (Mf 2))), ((Ma 4), .inl (tc 0, 288, .inl (Mf 4))), ((Ma 5), .inl (tc 0, 6, .inl (Mf 5))), ((Ma 8), .inl (tc 1, 64, .inr (.inl (Mg 8)))), ((Ma 9), .inl (tc 1, 13, .inr (.inl (Mg 9)))), ((Ma 0), .inr (12, [.ref (Ma 1), .int (Mv 0), .int (Mv 1), .ref (Ma 2), .ref (Ma 3), .ref (Ma 4), .ref (Ma 5), .ref (Ma 6), .int (Mv 2), .int (Mv 3), .int (Mv 4), .int (Mv 5), .int (Mv 6), .int (Mv 7), .int (Mv 8), .ref (Ma 7), .int (Mv 9), .ref (Ma 8), .int (Mv 10), .ref (Ma 9), .ref (Ma 10), .int (Mv 11), .int (Mv 12), .int (Mv 13), .ref (Ma 11), .int (Mv 14), .ref (Ma 12), .ref (Ma 13), .ref (Ma 14), .ref (Ma 15), .ref (Ma 16), .long ((Mv 12)).toInt64, .ref (Ma 17), .ref (Ma 18), .ref (Ma 19), .ref (Ma 20)])), ((Ma 10), .inl (tc 0, 126, .inl (Mf 10))), ((Ma 12), .inl (tc 0, 46, .inl sv_45))] H := hP₀
            replace hD : va_D A [((Ma 2), .inl (tc 0, 2400, .inl (Mf 2))), ((Ma 4), .inl (tc 0, 288, .inl (Mf 4))), ((Ma 5), .inl (tc 0, 6, .inl (Mf 5))), ((Ma 8), .inl (tc 1, 64, .inr (.inl (Mg 8)))), ((Ma 9), .inl (tc 1, 13, .inr (.inl (Mg 9)))), ((Ma 0), .inr (12, [.ref (Ma 1), .int (Mv 0), .int (Mv 1), .ref (Ma 2), .ref (Ma 3), .ref (Ma 4), .ref (Ma 5), .ref (Ma 6), .int (Mv 2), .int (Mv 3), .int (Mv 4), .int (Mv 5), .int (Mv 6), .int (Mv 7), .int (Mv 8), .ref (Ma 7), .int (Mv 9), .ref (Ma 8), .int (Mv 10), .ref (Ma 9), .ref (Ma 10), .int (Mv 11), .int (Mv 12), .int (Mv 13), .ref (Ma 11), .int (Mv 14), .ref (Ma 12), .ref (Ma 13), .ref (Ma 14), .ref (Ma 15), .ref (Ma 16), .long ((Mv 12)).toInt64, .ref (Ma 17), .ref (Ma 18), .ref (Ma 19), .ref (Ma 20)])), ((Ma 10), .inl (tc 0, 126, .inl (Mf 10))), ((Ma 12), .inl (tc 0, 46, .inl sv_45))] := hD₀
            replace hS := hS₀
            clear hP₀ hD₀ hS₀
            refine lv_iconst (v := 0) hx hb dX12_summers_81 (by decide) ?_
            refine lv_istore (lv' := [(8, .int 0), (7, .int r_39), (6, .int 0), (5, .int 0), (0, .ref (Ma 0)), (1, .int x1), (2, .int x2), (3, .int x3), (4, .int x4)]) hx hb dX12_summers_82 hl (by decide) rfl (fun ls hl₀ => ?_)
            replace hl := hl₀
            clear hl₀
            have loop_65 : ∀ (n_63 : Nat) (vy_55 : Int32) (vy_56 : Int32) (vy_57 : Int32) (vy_58 : Nat → Int64) (vy_59 : Nat → Int64) (vy_60 : Int32) (vy_61 : Int64) (vy_62 : Nat → Int32) (H : Heap) (locs : List Loc) (ls : Array Slot), (11 - (vy_55 : Int32).toInt).toNat < n_63 → (0 ≤ (vy_55 : Int32).toInt) → (SaidD T vy_62 999) → va_P D classes [((Ma 2), .inl (tc 0, 2400, .inl (Mf 2))), ((Ma 4), .inl (tc 0, 288, .inl (Mf 4))), ((Ma 5), .inl (tc 0, 6, .inl (Mf 5))), ((Ma 8), .inl (tc 1, 64, .inr (.inl vy_58))), ((Ma 9), .inl (tc 1, 13, .inr (.inl vy_59))), ((Ma 0), .inr (12, [.ref (Ma 1), .int (Mv 0), .int (Mv 1), .ref (Ma 2), .ref (Ma 3), .ref (Ma 4), .ref (Ma 5), .ref (Ma 6), .int (Mv 2), .int (Mv 3), .int (Mv 4), .int (Mv 5), .int (Mv 6), .int (Mv 7), .int (Mv 8), .ref (Ma 7), .int (Mv 9), .ref (Ma 8), .int vy_60, .ref (Ma 9), .ref (Ma 10), .int (Mv 11), .int (Mv 12), .int (Mv 13), .ref (Ma 11), .int (Mv 14), .ref (Ma 12), .ref (Ma 13), .ref (Ma 14), .ref (Ma 15), .ref (Ma 16), .long vy_61, .ref (Ma 17), .ref (Ma 18), .ref (Ma 19), .ref (Ma 20)])), ((Ma 10), .inl (tc 0, 126, .inl vy_62)), ((Ma 12), .inl (tc 0, 46, .inl sv_45))] H → va_D A [((Ma 2), .inl (tc 0, 2400, .inl (Mf 2))), ((Ma 4), .inl (tc 0, 288, .inl (Mf 4))), ((Ma 5), .inl (tc 0, 6, .inl (Mf 5))), ((Ma 8), .inl (tc 1, 64, .inr (.inl vy_58))), ((Ma 9), .inl (tc 1, 13, .inr (.inl vy_59))), ((Ma 0), .inr (12, [.ref (Ma 1), .int (Mv 0), .int (Mv 1), .ref (Ma 2), .ref (Ma 3), .ref (Ma 4), .ref (Ma 5), .ref (Ma 6), .int (Mv 2), .int (Mv 3), .int (Mv 4), .int (Mv 5), .int (Mv 6), .int (Mv 7), .int (Mv 8), .ref (Ma 7), .int (Mv 9), .ref (Ma 8), .int vy_60, .ref (Ma 9), .ref (Ma 10), .int (Mv 11), .int (Mv 12), .int (Mv 13), .ref (Ma 11), .int (Mv 14), .ref (Ma 12), .ref (Ma 13), .ref (Ma 14), .ref (Ma 15), .ref (Ma 16), .long vy_61, .ref (Ma 17), .ref (Ma 18), .ref (Ma 19), .ref (Ma 20)])), ((Ma 10), .inl (tc 0, 126, .inl vy_62)), ((Ma 12), .inl (tc 0, 46, .inl sv_45))] → va_S A s.heap H locs → lv_has ls 10 [(8, .int vy_55), (7, .int r_39), (6, .int vy_56), (5, .int vy_57), (0, .ref (Ma 0)), (1, .int x1), (2, .int x2), (3, .int x3), (4, .int x4)] → W p l e ({ frames := 5, cells := 0, slots := 0, locals := 121 }) s m ([.ref (Ma 0), .int x1, .int x2, .int x3, .int x4].toArray) below meth c H locs 0 0 (MQ below (QW (fun (v : Option Value) (u : (Int32) × (Int64) × (Nat → Int64) × (Nat → Int64) × (Nat → Int32) × (Nat → Int32)) => match u with | (oo0x1, oo0x2, oo0x3, oo0x4, oo0x5, oo0x6) => ∃ r : Int32, v = some (.int r) ∧ (True) ∧ (SaidD T oo0x5 999)) (BW D (fun (u : (Int32) × (Int64) × (Nat → Int64) × (Nat → Int64) × (Nat → Int32) × (Nat → Int32)) => match u with | (oo0x1, oo0x2, oo0x3, oo0x4, oo0x5, oo0x6) => [((Ma 0), .inr (12, [.ref (Ma 1), .int (Mv 0), .int (Mv 1), .ref (Ma 2), .ref (Ma 3), .ref (Ma 4), .ref (Ma 5), .ref (Ma 6), .int (Mv 2), .int (Mv 3), .int (Mv 4), .int (Mv 5), .int (Mv 6), .int (Mv 7), .int (Mv 8), .ref (Ma 7), .int (Mv 9), .ref (Ma 8), .int oo0x1, .ref (Ma 9), .ref (Ma 10), .int (Mv 11), .int (Mv 12), .int (Mv 13), .ref (Ma 11), .int (Mv 14), .ref (Ma 12), .ref (Ma 13), .ref (Ma 14), .ref (Ma 15), .ref (Ma 16), .long oo0x2, .ref (Ma 17), .ref (Ma 18), .ref (Ma 19), .ref (Ma 20)])), ((Ma 2), .inl (tc 0, 2400, .inl (Mf 2))), ((Ma 4), .inl (tc 0, 288, .inl (Mf 4))), ((Ma 5), .inl (tc 0, 6, .inl (Mf 5))), ((Ma 8), .inl (tc 1, 64, .inr (.inl oo0x3))), ((Ma 9), .inl (tc 1, 13, .inr (.inl oo0x4))), ((Ma 10), .inl (tc 0, 126, .inl oo0x5)), ((Ma 12), .inl (tc 0, 46, .inl oo0x6))]) A) A) ([.ref (Ma 0), .int x1, .int x2, .int x3, .int x4].toArray) s 0 0 A) (F0 m 84 ls []) := by
              clear hP hD hS hl
              intro n_63
              induction n_63 with
              | zero =>
                intro vy_55 vy_56 vy_57 vy_58 vy_59 vy_60 vy_61 vy_62 H locs ls h1
                exact absurd h1 (Nat.not_lt_zero _)
              | succ n_63 ih_64 =>
                intro vy_55 vy_56 vy_57 vy_58 vy_59 vy_60 vy_61 vy_62 H locs ls hn_68 pf_66 pf_67 hP hD hS hl
                have ar_pf_67 := SaidD.al pf_67
                refine lv_iload hx hb dX12_summers_84 (lv_at hl 0 rfl) ?_
                refine lv_iload_n hx hb dX12_summers_86 rfl (lv_at hl 5 rfl) ?_
                refine lv_icmp_ge (tgt := 172) hx hb dX12_summers_87 (by decide) (fun c_69 => ?_) (fun c_69 => ?_)
                · skip
                  refine lv_iload hx hb dX12_summers_172 (lv_at hl 8 rfl) ?_
                  refine lv_if_ne (tgt := 182) hx hb dX12_summers_174 (by decide) (fun c_70 => ?_) (fun c_70 => ?_)
                  · skip
                    refine lv_iload hx hb dX12_summers_182 (lv_at hl 2 rfl) ?_
                    exact retI (v := vy_56) hx hb hr hlk (rfl) hP hD hS (vy_60, vy_61, vy_58, vy_59, vy_62, sv_45) ⟨_, rfl, trivial, pf_67⟩ [5, 0, 1, 2, 3, 4, 6, 7] rfl rfl dX12_summers_184 (Nat.le_of_ble_eq_true rfl) (Nat.le_of_ble_eq_true rfl) rfl
                  · skip
                    refine lv_iload hx hb dX12_summers_177 (lv_at hl 3 rfl) ?_
                    refine lv_goto (tgt := 184) hx hb dX12_summers_179 (by decide) ?_
                    exact retI (v := vy_57) hx hb hr hlk (rfl) hP hD hS (vy_60, vy_61, vy_58, vy_59, vy_62, sv_45) ⟨_, rfl, trivial, pf_67⟩ [5, 0, 1, 2, 3, 4, 6, 7] rfl rfl dX12_summers_184 (Nat.le_of_ble_eq_true rfl) (Nat.le_of_ble_eq_true rfl) rfl
                · skip
                  refine lv_iconst (v := 0) hx hb dX12_summers_90 (by decide) ?_
                  refine lv_istore (lv' := [(9, .int 0), (8, .int vy_55), (7, .int r_39), (6, .int vy_56), (5, .int vy_57), (0, .ref (Ma 0)), (1, .int x1), (2, .int x2), (3, .int x3), (4, .int x4)]) hx hb dX12_summers_91 hl (by decide) rfl (fun ls hl₀ => ?_)
                  replace hl := hl₀
                  clear hl₀
                  have loop_85 : ∀ (n_83 : Nat) (vy_77 : Int32) (vy_78 : Nat → Int64) (vy_79 : Nat → Int64) (vy_80 : Int32) (vy_81 : Int64) (vy_82 : Nat → Int32) (H : Heap) (locs : List Loc) (ls : Array Slot), (x2.toInt - (vy_77 : Int32).toInt).toNat < n_83 → (0 ≤ (vy_77 : Int32).toInt ∧ (vy_77 : Int32).toInt ≤ x2.toInt) → (SaidD T vy_82 (999 + (vy_77 : Int32).toInt)) → va_P D classes [((Ma 2), .inl (tc 0, 2400, .inl (Mf 2))), ((Ma 4), .inl (tc 0, 288, .inl (Mf 4))), ((Ma 5), .inl (tc 0, 6, .inl (Mf 5))), ((Ma 8), .inl (tc 1, 64, .inr (.inl vy_78))), ((Ma 9), .inl (tc 1, 13, .inr (.inl vy_79))), ((Ma 0), .inr (12, [.ref (Ma 1), .int (Mv 0), .int (Mv 1), .ref (Ma 2), .ref (Ma 3), .ref (Ma 4), .ref (Ma 5), .ref (Ma 6), .int (Mv 2), .int (Mv 3), .int (Mv 4), .int (Mv 5), .int (Mv 6), .int (Mv 7), .int (Mv 8), .ref (Ma 7), .int (Mv 9), .ref (Ma 8), .int vy_80, .ref (Ma 9), .ref (Ma 10), .int (Mv 11), .int (Mv 12), .int (Mv 13), .ref (Ma 11), .int (Mv 14), .ref (Ma 12), .ref (Ma 13), .ref (Ma 14), .ref (Ma 15), .ref (Ma 16), .long vy_81, .ref (Ma 17), .ref (Ma 18), .ref (Ma 19), .ref (Ma 20)])), ((Ma 10), .inl (tc 0, 126, .inl vy_82)), ((Ma 12), .inl (tc 0, 46, .inl sv_45))] H → va_D A [((Ma 2), .inl (tc 0, 2400, .inl (Mf 2))), ((Ma 4), .inl (tc 0, 288, .inl (Mf 4))), ((Ma 5), .inl (tc 0, 6, .inl (Mf 5))), ((Ma 8), .inl (tc 1, 64, .inr (.inl vy_78))), ((Ma 9), .inl (tc 1, 13, .inr (.inl vy_79))), ((Ma 0), .inr (12, [.ref (Ma 1), .int (Mv 0), .int (Mv 1), .ref (Ma 2), .ref (Ma 3), .ref (Ma 4), .ref (Ma 5), .ref (Ma 6), .int (Mv 2), .int (Mv 3), .int (Mv 4), .int (Mv 5), .int (Mv 6), .int (Mv 7), .int (Mv 8), .ref (Ma 7), .int (Mv 9), .ref (Ma 8), .int vy_80, .ref (Ma 9), .ref (Ma 10), .int (Mv 11), .int (Mv 12), .int (Mv 13), .ref (Ma 11), .int (Mv 14), .ref (Ma 12), .ref (Ma 13), .ref (Ma 14), .ref (Ma 15), .ref (Ma 16), .long vy_81, .ref (Ma 17), .ref (Ma 18), .ref (Ma 19), .ref (Ma 20)])), ((Ma 10), .inl (tc 0, 126, .inl vy_82)), ((Ma 12), .inl (tc 0, 46, .inl sv_45))] → va_S A s.heap H locs → lv_has ls 10 [(9, .int vy_77), (8, .int vy_55), (7, .int r_39), (6, .int vy_56), (5, .int vy_57), (0, .ref (Ma 0)), (1, .int x1), (2, .int x2), (3, .int x3), (4, .int x4)] → W p l e ({ frames := 5, cells := 0, slots := 0, locals := 121 }) s m ([.ref (Ma 0), .int x1, .int x2, .int x3, .int x4].toArray) below meth c H locs 0 0 (MQ below (QW (fun (v : Option Value) (u : (Int32) × (Int64) × (Nat → Int64) × (Nat → Int64) × (Nat → Int32) × (Nat → Int32)) => match u with | (oo0x1, oo0x2, oo0x3, oo0x4, oo0x5, oo0x6) => ∃ r : Int32, v = some (.int r) ∧ (True) ∧ (SaidD T oo0x5 999)) (BW D (fun (u : (Int32) × (Int64) × (Nat → Int64) × (Nat → Int64) × (Nat → Int32) × (Nat → Int32)) => match u with | (oo0x1, oo0x2, oo0x3, oo0x4, oo0x5, oo0x6) => [((Ma 0), .inr (12, [.ref (Ma 1), .int (Mv 0), .int (Mv 1), .ref (Ma 2), .ref (Ma 3), .ref (Ma 4), .ref (Ma 5), .ref (Ma 6), .int (Mv 2), .int (Mv 3), .int (Mv 4), .int (Mv 5), .int (Mv 6), .int (Mv 7), .int (Mv 8), .ref (Ma 7), .int (Mv 9), .ref (Ma 8), .int oo0x1, .ref (Ma 9), .ref (Ma 10), .int (Mv 11), .int (Mv 12), .int (Mv 13), .ref (Ma 11), .int (Mv 14), .ref (Ma 12), .ref (Ma 13), .ref (Ma 14), .ref (Ma 15), .ref (Ma 16), .long oo0x2, .ref (Ma 17), .ref (Ma 18), .ref (Ma 19), .ref (Ma 20)])), ((Ma 2), .inl (tc 0, 2400, .inl (Mf 2))), ((Ma 4), .inl (tc 0, 288, .inl (Mf 4))), ((Ma 5), .inl (tc 0, 6, .inl (Mf 5))), ((Ma 8), .inl (tc 1, 64, .inr (.inl oo0x3))), ((Ma 9), .inl (tc 1, 13, .inr (.inl oo0x4))), ((Ma 10), .inl (tc 0, 126, .inl oo0x5)), ((Ma 12), .inl (tc 0, 46, .inl oo0x6))]) A) A) ([.ref (Ma 0), .int x1, .int x2, .int x3, .int x4].toArray) s 0 0 A) (F0 m 93 ls []) := by
                    clear hP hD hS hl
                    intro n_83
                    induction n_83 with
                    | zero =>
                      intro vy_77 vy_78 vy_79 vy_80 vy_81 vy_82 H locs ls h1
                      exact absurd h1 (Nat.not_lt_zero _)
                    | succ n_83 ih_84 =>
                      intro vy_77 vy_78 vy_79 vy_80 vy_81 vy_82 H locs ls hn_88 pf_86 pf_87 hP hD hS hl
                      have ar_pf_87 := SaidD.al pf_87
                      refine lv_iload hx hb dX12_summers_93 (lv_at hl 0 rfl) ?_
                      refine lv_iload_n hx hb dX12_summers_95 rfl (lv_at hl 7 rfl) ?_
                      refine lv_icmp_ge (tgt := 138) hx hb dX12_summers_96 (by decide) (fun c_89 => ?_) (fun c_89 => ?_)
                      · skip
                        refine lv_iload hx hb dX12_summers_138 (lv_at hl 4 rfl) ?_
                        refine lv_aload_n hx hb dX12_summers_140 rfl (lv_at hl 5 rfl) ?_
                        refine cV (a := (Ma 0)) (As := []) (rest := [.int vy_57]) (wr := [((Ma 2), .inl (tc 0, 2400, .inl (Mf 2))), ((Ma 4), .inl (tc 0, 288, .inl (Mf 4))), ((Ma 5), .inl (tc 0, 6, .inl (Mf 5))), ((Ma 8), .inl (tc 1, 64, .inr (.inl vy_78))), ((Ma 9), .inl (tc 1, 13, .inr (.inl vy_79))), ((Ma 12), .inl (tc 0, 46, .inl sv_45))]) ⟨hx, hb, hml, hown, hts⟩ hK hX hA (cu_X12_soldAll l D tc sk (Ma 0) (Ma 1) (Ma 2) (Ma 3) (Ma 4) (Ma 5) (Ma 6) (Ma 7) (Ma 8) (Ma 9) (Ma 10) (Ma 11) (Ma 12) (Ma 13) (Ma 14) (Ma 15) (Ma 16) (Ma 17) (Ma 18) (Ma 19) (Ma 20) (Mv 0) (Mv 1) (Mv 2) (Mv 3) (Mv 4) (Mv 5) (Mv 6) (Mv 7) (Mv 8) (Mv 9) vy_80 (Mv 11) (Mv 12) (Mv 13) (Mv 14) vy_82 vy_81 pf_87.1) k_1439 k_1436 k_1438 k_71 k_106 pl_X12_soldAll ⟨Nat.le_of_ble_eq_true rfl, Nat.le_of_ble_eq_true rfl⟩ rfl rfl (va_recv hK hP (ci := 12) (q0 := 5) rfl rfl) hP hD hS [5, 6] [0, 1, 2, 3, 4, 7] rfl rfl rfl rfl rfl (by decide) rfl hl.1 rfl (Nat.le_of_ble_eq_true rfl) dX12_summers_141 ⟨Nat.le_of_ble_eq_true rfl, Nat.le_of_ble_eq_true rfl⟩ (fun v_90 u_91 H locs hv_92 hP₀ hD₀ hS₀ => ?_)
                        obtain ⟨r_93, rfl, he_94⟩ := hv_92
                        refine W.eq (g2 := F0 m 144 ls [.int r_93, .int vy_57]) rfl ?_
                        replace hP : va_P D classes [((Ma 2), .inl (tc 0, 2400, .inl (Mf 2))), ((Ma 4), .inl (tc 0, 288, .inl (Mf 4))), ((Ma 5), .inl (tc 0, 6, .inl (Mf 5))), ((Ma 8), .inl (tc 1, 64, .inr (.inl vy_78))), ((Ma 9), .inl (tc 1, 13, .inr (.inl vy_79))), ((Ma 12), .inl (tc 0, 46, .inl sv_45)), ((Ma 0), .inr (12, [.ref (Ma 1), .int (Mv 0), .int (Mv 1), .ref (Ma 2), .ref (Ma 3), .ref (Ma 4), .ref (Ma 5), .ref (Ma 6), .int (Mv 2), .int (Mv 3), .int (Mv 4), .int (Mv 5), .int (Mv 6), .int (Mv 7), .int (Mv 8), .ref (Ma 7), .int (Mv 9), .ref (Ma 8), .int vy_80, .ref (Ma 9), .ref (Ma 10), .int (Mv 11), .int (Mv 12), .int (Mv 13), .ref (Ma 11), .int (Mv 14), .ref (Ma 12), .ref (Ma 13), .ref (Ma 14), .ref (Ma 15), .ref (Ma 16), .long vy_81, .ref (Ma 17), .ref (Ma 18), .ref (Ma 19), .ref (Ma 20)])), ((Ma 10), .inl (tc 0, 126, .inl vy_82))] H := hP₀
                        replace hD : va_D A [((Ma 2), .inl (tc 0, 2400, .inl (Mf 2))), ((Ma 4), .inl (tc 0, 288, .inl (Mf 4))), ((Ma 5), .inl (tc 0, 6, .inl (Mf 5))), ((Ma 8), .inl (tc 1, 64, .inr (.inl vy_78))), ((Ma 9), .inl (tc 1, 13, .inr (.inl vy_79))), ((Ma 12), .inl (tc 0, 46, .inl sv_45)), ((Ma 0), .inr (12, [.ref (Ma 1), .int (Mv 0), .int (Mv 1), .ref (Ma 2), .ref (Ma 3), .ref (Ma 4), .ref (Ma 5), .ref (Ma 6), .int (Mv 2), .int (Mv 3), .int (Mv 4), .int (Mv 5), .int (Mv 6), .int (Mv 7), .int (Mv 8), .ref (Ma 7), .int (Mv 9), .ref (Ma 8), .int vy_80, .ref (Ma 9), .ref (Ma 10), .int (Mv 11), .int (Mv 12), .int (Mv 13), .ref (Ma 11), .int (Mv 14), .ref (Ma 12), .ref (Ma 13), .ref (Ma 14), .ref (Ma 15), .ref (Ma 16), .long vy_81, .ref (Ma 17), .ref (Ma 18), .ref (Ma 19), .ref (Ma 20)])), ((Ma 10), .inl (tc 0, 126, .inl vy_82))] := hD₀
                        replace hS := hS₀
                        clear hP₀ hD₀ hS₀
                        refine lv_iload hx hb dX12_summers_144 (lv_at hl 2 rfl) ?_
                        refine lv_isub hx hb dX12_summers_146 ?_
                        refine lv_topi (fun x_96 ex_96 => ?_)
                        refine lv_iadd hx hb dX12_summers_147 ?_
                        refine lv_topi (fun x_97 ex_97 => ?_)
                        refine lv_istore (lv' := [(5, .int x_97), (9, .int vy_77), (8, .int vy_55), (7, .int r_39), (6, .int vy_56), (0, .ref (Ma 0)), (1, .int x1), (2, .int x2), (3, .int x3), (4, .int x4)]) hx hb dX12_summers_148 hl (by decide) rfl (fun ls hl₀ => ?_)
                        replace hl := hl₀
                        clear hl₀
                        refine lv_iload hx hb dX12_summers_150 (lv_at hl 4 rfl) ?_
                        refine lv_aload_n hx hb dX12_summers_152 rfl (lv_at hl 5 rfl) ?_
                        refine gf_X12_39 hx hb hts hown hK hP 6 rfl rfl dX12_summers_153 ?_
                        refine lv_bipush (v := 11) hx hb dX12_summers_156 (by decide) ?_
                        refine va_iald hx hb hK hP 7 0 rfl rfl (vin_dec (by decide +kernel)) dX12_summers_158 ?_
                        refine lv_topi (fun x_98 ex_98 => ?_)
                        have lx_98 : x_98.toInt = (vy_82 11).toInt := congrArg Int32.toInt ex_98
                        refine lv_iadd hx hb dX12_summers_159 ?_
                        refine lv_topi (fun x_99 ex_99 => ?_)
                        refine lv_istore (lv' := [(6, .int x_99), (5, .int x_97), (9, .int vy_77), (8, .int vy_55), (7, .int r_39), (0, .ref (Ma 0)), (1, .int x1), (2, .int x2), (3, .int x3), (4, .int x4)]) hx hb dX12_summers_160 hl (by decide) rfl (fun ls hl₀ => ?_)
                        replace hl := hl₀
                        clear hl₀
                        refine lv_aload_n hx hb dX12_summers_162 rfl (lv_at hl 5 rfl) ?_
                        refine cV (a := (Ma 0)) (As := []) (rest := []) (wr := [((Ma 2), .inl (tc 0, 2400, .inl (Mf 2))), ((Ma 4), .inl (tc 0, 288, .inl (Mf 4))), ((Ma 5), .inl (tc 0, 6, .inl (Mf 5))), ((Ma 8), .inl (tc 1, 64, .inr (.inl vy_78))), ((Ma 9), .inl (tc 1, 13, .inr (.inl vy_79)))]) ⟨hx, hb, hml, hown, hts⟩ hK hX hA (cu_X12_laysBack l D tc sk (Ma 0) (Ma 1) (Ma 2) (Ma 3) (Ma 4) (Ma 5) (Ma 6) (Ma 7) (Ma 8) (Ma 9) (Ma 10) (Ma 11) (Ma 12) (Ma 13) (Ma 14) (Ma 15) (Ma 16) (Ma 17) (Ma 18) (Ma 19) (Ma 20) (Mv 0) (Mv 1) (Mv 2) (Mv 3) (Mv 4) (Mv 5) (Mv 6) (Mv 7) (Mv 8) (Mv 9) vy_80 (Mv 11) (Mv 12) (Mv 13) (Mv 14) vy_82 sv_45 vy_81 pf_87.1 pf_46) k_1513 k_1510 k_1512 k_82 k_106 pl_X12_laysBack ⟨Nat.le_of_ble_eq_true rfl, Nat.le_of_ble_eq_true rfl⟩ rfl rfl (va_recv hK hP (ci := 12) (q0 := 6) rfl rfl) hP hD hS [6, 7, 5] [0, 1, 2, 3, 4] rfl rfl rfl rfl rfl (by decide) rfl hl.1 rfl (Nat.le_of_ble_eq_true rfl) dX12_summers_163 ⟨Nat.le_of_ble_eq_true rfl, Nat.le_of_ble_eq_true rfl⟩ (fun v_100 u_101 H locs hv_102 hP₀ hD₀ hS₀ => ?_)
                        obtain ⟨sv_103, rfl⟩ : ∃ z, z = u_101 := ⟨_, rfl⟩
                        obtain ⟨rfl, pf_104⟩ := hv_102
                        have pf_104 : SaidD T sv_103 999 := pf_104
                        have ar_pf_104 := SaidD.al pf_104
                        refine W.eq (g2 := F0 m 166 ls []) rfl ?_
                        replace hP : va_P D classes [((Ma 2), .inl (tc 0, 2400, .inl (Mf 2))), ((Ma 4), .inl (tc 0, 288, .inl (Mf 4))), ((Ma 5), .inl (tc 0, 6, .inl (Mf 5))), ((Ma 8), .inl (tc 1, 64, .inr (.inl vy_78))), ((Ma 9), .inl (tc 1, 13, .inr (.inl vy_79))), ((Ma 0), .inr (12, [.ref (Ma 1), .int (Mv 0), .int (Mv 1), .ref (Ma 2), .ref (Ma 3), .ref (Ma 4), .ref (Ma 5), .ref (Ma 6), .int (Mv 2), .int (Mv 3), .int (Mv 4), .int (Mv 5), .int (Mv 6), .int (Mv 7), .int (Mv 8), .ref (Ma 7), .int (Mv 9), .ref (Ma 8), .int vy_80, .ref (Ma 9), .ref (Ma 10), .int (Mv 11), .int (Mv 12), .int (Mv 13), .ref (Ma 11), .int (Mv 14), .ref (Ma 12), .ref (Ma 13), .ref (Ma 14), .ref (Ma 15), .ref (Ma 16), .long vy_81, .ref (Ma 17), .ref (Ma 18), .ref (Ma 19), .ref (Ma 20)])), ((Ma 10), .inl (tc 0, 126, .inl sv_103)), ((Ma 12), .inl (tc 0, 46, .inl sv_45))] H := hP₀
                        replace hD : va_D A [((Ma 2), .inl (tc 0, 2400, .inl (Mf 2))), ((Ma 4), .inl (tc 0, 288, .inl (Mf 4))), ((Ma 5), .inl (tc 0, 6, .inl (Mf 5))), ((Ma 8), .inl (tc 1, 64, .inr (.inl vy_78))), ((Ma 9), .inl (tc 1, 13, .inr (.inl vy_79))), ((Ma 0), .inr (12, [.ref (Ma 1), .int (Mv 0), .int (Mv 1), .ref (Ma 2), .ref (Ma 3), .ref (Ma 4), .ref (Ma 5), .ref (Ma 6), .int (Mv 2), .int (Mv 3), .int (Mv 4), .int (Mv 5), .int (Mv 6), .int (Mv 7), .int (Mv 8), .ref (Ma 7), .int (Mv 9), .ref (Ma 8), .int vy_80, .ref (Ma 9), .ref (Ma 10), .int (Mv 11), .int (Mv 12), .int (Mv 13), .ref (Ma 11), .int (Mv 14), .ref (Ma 12), .ref (Ma 13), .ref (Ma 14), .ref (Ma 15), .ref (Ma 16), .long vy_81, .ref (Ma 17), .ref (Ma 18), .ref (Ma 19), .ref (Ma 20)])), ((Ma 10), .inl (tc 0, 126, .inl sv_103)), ((Ma 12), .inl (tc 0, 46, .inl sv_45))] := hD₀
                        replace hS := hS₀
                        clear hP₀ hD₀ hS₀
                        obtain ⟨x_105, ex_105⟩ : ∃ y : Int32, y = vy_55 + 1 := ⟨_, rfl⟩
                        refine lv_iinc (v := x_105) (lv' := [(8, .int x_105), (6, .int x_99), (5, .int x_97), (9, .int vy_77), (7, .int r_39), (0, .ref (Ma 0)), (1, .int x1), (2, .int x2), (3, .int x3), (4, .int x4)]) hx hb dX12_summers_166 hl (k := 3) rfl (by rw [ex_105]; rfl) (by decide) rfl (fun ls hl₀ => ?_)
                        replace hl := hl₀
                        clear hl₀
                        refine lv_goto (tgt := 84) hx hb dX12_summers_169 (by decide) ?_
                        have hb_106 : 11 - (x_105 : Int32).toInt < 11 - (vy_55 : Int32).toInt ∧ 1 ≤ 11 - (vy_55 : Int32).toInt := by
                          have z_1 : ¬ (r_4 : Int32).toInt = (0 : Int32).toInt := fun z => c_7 (Int32.toInt_inj.mp z)
                          have z_2 : ¬ (r_11 : Int32).toInt = (0 : Int32).toInt := fun z => c_14 (Int32.toInt_inj.mp z)
                          have z_3 : ¬ (r_18 : Int32).toInt = (0 : Int32).toInt := fun z => c_21 (Int32.toInt_inj.mp z)
                          have z_4 : ¬ (r_25 : Int32).toInt = (0 : Int32).toInt := fun z => c_28 (Int32.toInt_inj.mp z)
                          have z_5 : ¬ (r_32 : Int32).toInt = (0 : Int32).toInt := fun z => c_35 (Int32.toInt_inj.mp z)
                          have z_6 := Int32.lt_iff_toInt_lt.mp (Int32.not_le.mp c_69)
                          have z_7 := Int32.le_iff_toInt_le.mp c_89
                          have y_0 : (0 : Int32).toInt = 0 := by decide
                          have y_1 : (1 : Int32).toInt = 1 := by decide
                          have t_x_105 : x_105.toInt = (vy_55 : Int32).toInt + (1 : Int32).toInt := by rw [ex_105]; exact add_toInt (by omega) (by omega)
                          refine ⟨?_, ?_⟩ <;> omega
                        have ha_107 : 0 ≤ (x_105 : Int32).toInt := by
                          have z_1 : ¬ (r_4 : Int32).toInt = (0 : Int32).toInt := fun z => c_7 (Int32.toInt_inj.mp z)
                          have z_2 : ¬ (r_11 : Int32).toInt = (0 : Int32).toInt := fun z => c_14 (Int32.toInt_inj.mp z)
                          have z_3 : ¬ (r_18 : Int32).toInt = (0 : Int32).toInt := fun z => c_21 (Int32.toInt_inj.mp z)
                          have z_4 : ¬ (r_25 : Int32).toInt = (0 : Int32).toInt := fun z => c_28 (Int32.toInt_inj.mp z)
                          have z_5 : ¬ (r_32 : Int32).toInt = (0 : Int32).toInt := fun z => c_35 (Int32.toInt_inj.mp z)
                          have z_6 := Int32.lt_iff_toInt_lt.mp (Int32.not_le.mp c_69)
                          have z_7 := Int32.le_iff_toInt_le.mp c_89
                          have y_0 : (0 : Int32).toInt = 0 := by decide
                          have y_1 : (1 : Int32).toInt = 1 := by decide
                          have t_x_105 : x_105.toInt = (vy_55 : Int32).toInt + (1 : Int32).toInt := by rw [ex_105]; exact add_toInt (by omega) (by omega)
                          omega
                        exact ih_64 x_105 x_99 x_97 vy_78 vy_79 vy_80 vy_81 sv_103 _ _ _ (by omega) ha_107 pf_104 (hP.sub [0, 1, 2, 3, 4, 5, 6, 7] rfl) (hD.sub [0, 1, 2, 3, 4, 5, 6, 7] rfl rfl) hS (lv_sub hl [0, 4, 1, 2, 5, 6, 7, 8, 9] rfl)
                      · skip
                        refine lv_aload_n hx hb dX12_summers_99 rfl (lv_at hl 5 rfl) ?_
                        refine lv_bipush (v := 100) hx hb dX12_summers_100 (by decide) ?_
                        have ha_108 : 1 ≤ (100 : Int32).toInt := by
                          have z_1 : ¬ (r_4 : Int32).toInt = (0 : Int32).toInt := fun z => c_7 (Int32.toInt_inj.mp z)
                          have z_2 : ¬ (r_11 : Int32).toInt = (0 : Int32).toInt := fun z => c_14 (Int32.toInt_inj.mp z)
                          have z_3 : ¬ (r_18 : Int32).toInt = (0 : Int32).toInt := fun z => c_21 (Int32.toInt_inj.mp z)
                          have z_4 : ¬ (r_25 : Int32).toInt = (0 : Int32).toInt := fun z => c_28 (Int32.toInt_inj.mp z)
                          have z_5 : ¬ (r_32 : Int32).toInt = (0 : Int32).toInt := fun z => c_35 (Int32.toInt_inj.mp z)
                          have z_6 := Int32.lt_iff_toInt_lt.mp (Int32.not_le.mp c_69)
                          have z_7 := Int32.lt_iff_toInt_lt.mp (Int32.not_le.mp c_89)
                          have y_0 : (0 : Int32).toInt = 0 := by decide
                          have y_100 : (100 : Int32).toInt = 100 := by decide
                          omega
                        refine cV (a := (Ma 0)) (As := [.int 100]) (rest := []) (wr := [((Ma 2), .inl (tc 0, 2400, .inl (Mf 2))), ((Ma 4), .inl (tc 0, 288, .inl (Mf 4))), ((Ma 5), .inl (tc 0, 6, .inl (Mf 5))), ((Ma 8), .inl (tc 1, 64, .inr (.inl vy_78))), ((Ma 9), .inl (tc 1, 13, .inr (.inl vy_79))), ((Ma 10), .inl (tc 0, 126, .inl vy_82)), ((Ma 12), .inl (tc 0, 46, .inl sv_45))]) ⟨hx, hb, hml, hown, hts⟩ hK hX hA (cu_X12_draw l D tc sk (Ma 0) (Ma 1) (Ma 2) (Ma 3) (Ma 4) (Ma 5) (Ma 6) (Ma 7) (Ma 8) (Ma 9) (Ma 10) (Ma 11) (Ma 12) (Ma 13) (Ma 14) (Ma 15) (Ma 16) (Ma 17) (Ma 18) (Ma 19) (Ma 20) (Mv 0) (Mv 1) (Mv 2) (Mv 3) (Mv 4) (Mv 5) (Mv 6) (Mv 7) (Mv 8) (Mv 9) vy_80 (Mv 11) (Mv 12) (Mv 13) (Mv 14) vy_81 100 ha_108) k_1634 k_1631 k_1633 k_92 k_106 pl_X12_draw ⟨Nat.le_of_ble_eq_true rfl, Nat.le_of_ble_eq_true rfl⟩ rfl rfl (va_recv hK hP (ci := 12) (q0 := 5) rfl rfl) hP hD hS [5] [0, 1, 2, 3, 4, 6, 7] rfl rfl rfl rfl rfl (by decide) rfl hl.1 rfl (Nat.le_of_ble_eq_true rfl) dX12_summers_102 ⟨Nat.le_of_ble_eq_true rfl, Nat.le_of_ble_eq_true rfl⟩ (fun v_109 u_110 H locs hv_111 hP₀ hD₀ hS₀ => ?_)
                        obtain ⟨sv_112, rfl⟩ : ∃ z, z = u_110 := ⟨_, rfl⟩
                        obtain ⟨r_113, rfl, he_114⟩ := hv_111
                        refine W.eq (g2 := F0 m 105 ls [.int r_113]) rfl ?_
                        replace hP : va_P D classes [((Ma 2), .inl (tc 0, 2400, .inl (Mf 2))), ((Ma 4), .inl (tc 0, 288, .inl (Mf 4))), ((Ma 5), .inl (tc 0, 6, .inl (Mf 5))), ((Ma 8), .inl (tc 1, 64, .inr (.inl vy_78))), ((Ma 9), .inl (tc 1, 13, .inr (.inl vy_79))), ((Ma 10), .inl (tc 0, 126, .inl vy_82)), ((Ma 12), .inl (tc 0, 46, .inl sv_45)), ((Ma 0), .inr (12, [.ref (Ma 1), .int (Mv 0), .int (Mv 1), .ref (Ma 2), .ref (Ma 3), .ref (Ma 4), .ref (Ma 5), .ref (Ma 6), .int (Mv 2), .int (Mv 3), .int (Mv 4), .int (Mv 5), .int (Mv 6), .int (Mv 7), .int (Mv 8), .ref (Ma 7), .int (Mv 9), .ref (Ma 8), .int vy_80, .ref (Ma 9), .ref (Ma 10), .int (Mv 11), .int (Mv 12), .int (Mv 13), .ref (Ma 11), .int (Mv 14), .ref (Ma 12), .ref (Ma 13), .ref (Ma 14), .ref (Ma 15), .ref (Ma 16), .long sv_112, .ref (Ma 17), .ref (Ma 18), .ref (Ma 19), .ref (Ma 20)]))] H := hP₀
                        replace hD : va_D A [((Ma 2), .inl (tc 0, 2400, .inl (Mf 2))), ((Ma 4), .inl (tc 0, 288, .inl (Mf 4))), ((Ma 5), .inl (tc 0, 6, .inl (Mf 5))), ((Ma 8), .inl (tc 1, 64, .inr (.inl vy_78))), ((Ma 9), .inl (tc 1, 13, .inr (.inl vy_79))), ((Ma 10), .inl (tc 0, 126, .inl vy_82)), ((Ma 12), .inl (tc 0, 46, .inl sv_45)), ((Ma 0), .inr (12, [.ref (Ma 1), .int (Mv 0), .int (Mv 1), .ref (Ma 2), .ref (Ma 3), .ref (Ma 4), .ref (Ma 5), .ref (Ma 6), .int (Mv 2), .int (Mv 3), .int (Mv 4), .int (Mv 5), .int (Mv 6), .int (Mv 7), .int (Mv 8), .ref (Ma 7), .int (Mv 9), .ref (Ma 8), .int vy_80, .ref (Ma 9), .ref (Ma 10), .int (Mv 11), .int (Mv 12), .int (Mv 13), .ref (Ma 11), .int (Mv 14), .ref (Ma 12), .ref (Ma 13), .ref (Ma 14), .ref (Ma 15), .ref (Ma 16), .long sv_112, .ref (Ma 17), .ref (Ma 18), .ref (Ma 19), .ref (Ma 20)]))] := hD₀
                        replace hS := hS₀
                        clear hP₀ hD₀ hS₀
                        refine lv_iload_n hx hb dX12_summers_105 rfl (lv_at hl 8 rfl) ?_
                        refine lv_icmp_ge (tgt := 127) hx hb dX12_summers_106 (by decide) (fun c_116 => ?_) (fun c_116 => ?_)
                        · skip
                          refine lv_aload_n hx hb dX12_summers_127 rfl (lv_at hl 5 rfl) ?_
                          have ha_117 : (999 + (vy_77 : Int32).toInt) ≤ 1000000 := by
                            have z_1 : ¬ (r_4 : Int32).toInt = (0 : Int32).toInt := fun z => c_7 (Int32.toInt_inj.mp z)
                            have z_2 : ¬ (r_11 : Int32).toInt = (0 : Int32).toInt := fun z => c_14 (Int32.toInt_inj.mp z)
                            have z_3 : ¬ (r_18 : Int32).toInt = (0 : Int32).toInt := fun z => c_21 (Int32.toInt_inj.mp z)
                            have z_4 : ¬ (r_25 : Int32).toInt = (0 : Int32).toInt := fun z => c_28 (Int32.toInt_inj.mp z)
                            have z_5 : ¬ (r_32 : Int32).toInt = (0 : Int32).toInt := fun z => c_35 (Int32.toInt_inj.mp z)
                            have z_6 := Int32.lt_iff_toInt_lt.mp (Int32.not_le.mp c_69)
                            have z_7 := Int32.lt_iff_toInt_lt.mp (Int32.not_le.mp c_89)
                            have z_8 := Int32.le_iff_toInt_le.mp c_116
                            have y_0 : (0 : Int32).toInt = 0 := by decide
                            omega
                          refine cV (a := (Ma 0)) (As := []) (rest := []) (wr := [((Ma 12), .inl (tc 0, 46, .inl sv_45))]) ⟨hx, hb, hml, hown, hts⟩ hK hX hA (cu_X12_passes l D tc sk (Ma 0) (Ma 1) (Ma 2) (Ma 3) (Ma 4) (Ma 5) (Ma 6) (Ma 7) (Ma 8) (Ma 9) (Ma 10) (Ma 11) (Ma 12) (Ma 13) (Ma 14) (Ma 15) (Ma 16) (Ma 17) (Ma 18) (Ma 19) (Ma 20) (Mv 0) (Mv 1) (Mv 2) (Mv 3) (Mv 4) (Mv 5) (Mv 6) (Mv 7) (Mv 8) (Mv 9) vy_80 (Mv 11) (Mv 12) (Mv 13) (Mv 14) (Mf 2) (Mf 4) (Mf 5) vy_82 sv_112 vy_78 vy_79 (999 + (vy_77 : Int32).toInt) pf_87 ha_117 h_rul h_frc) k_1423 k_1420 k_1422 k_67 k_106 pl_X12_passes ⟨Nat.le_of_ble_eq_true rfl, Nat.le_of_ble_eq_true rfl⟩ rfl rfl (va_recv hK hP (ci := 12) (q0 := 7) rfl rfl) hP hD hS [7, 0, 1, 2, 3, 4, 5] [6] rfl rfl rfl rfl rfl (by decide) rfl hl.1 rfl (Nat.le_of_ble_eq_true rfl) dX12_summers_128 ⟨Nat.le_of_ble_eq_true rfl, Nat.le_of_ble_eq_true rfl⟩ (fun v_118 u_119 H locs hv_120 hP₀ hD₀ hS₀ => ?_)
                          obtain ⟨sv_121, sv_122, sv_123, sv_124⟩ := u_119
                          obtain ⟨r_126, rfl, he_127, pf_125⟩ := hv_120
                          have pf_125 : SaidD T sv_124 ((999 + (vy_77 : Int32).toInt) + 1) := pf_125
                          have ar_pf_125 := SaidD.al pf_125
                          refine W.eq (g2 := F0 m 131 ls [.int r_126]) rfl ?_
                          replace hP : va_P D classes [((Ma 12), .inl (tc 0, 46, .inl sv_45)), ((Ma 0), .inr (12, [.ref (Ma 1), .int (Mv 0), .int (Mv 1), .ref (Ma 2), .ref (Ma 3), .ref (Ma 4), .ref (Ma 5), .ref (Ma 6), .int (Mv 2), .int (Mv 3), .int (Mv 4), .int (Mv 5), .int (Mv 6), .int (Mv 7), .int (Mv 8), .ref (Ma 7), .int (Mv 9), .ref (Ma 8), .int sv_121, .ref (Ma 9), .ref (Ma 10), .int (Mv 11), .int (Mv 12), .int (Mv 13), .ref (Ma 11), .int (Mv 14), .ref (Ma 12), .ref (Ma 13), .ref (Ma 14), .ref (Ma 15), .ref (Ma 16), .long sv_112, .ref (Ma 17), .ref (Ma 18), .ref (Ma 19), .ref (Ma 20)])), ((Ma 2), .inl (tc 0, 2400, .inl (Mf 2))), ((Ma 4), .inl (tc 0, 288, .inl (Mf 4))), ((Ma 5), .inl (tc 0, 6, .inl (Mf 5))), ((Ma 8), .inl (tc 1, 64, .inr (.inl sv_122))), ((Ma 9), .inl (tc 1, 13, .inr (.inl sv_123))), ((Ma 10), .inl (tc 0, 126, .inl sv_124))] H := hP₀
                          replace hD : va_D A [((Ma 12), .inl (tc 0, 46, .inl sv_45)), ((Ma 0), .inr (12, [.ref (Ma 1), .int (Mv 0), .int (Mv 1), .ref (Ma 2), .ref (Ma 3), .ref (Ma 4), .ref (Ma 5), .ref (Ma 6), .int (Mv 2), .int (Mv 3), .int (Mv 4), .int (Mv 5), .int (Mv 6), .int (Mv 7), .int (Mv 8), .ref (Ma 7), .int (Mv 9), .ref (Ma 8), .int sv_121, .ref (Ma 9), .ref (Ma 10), .int (Mv 11), .int (Mv 12), .int (Mv 13), .ref (Ma 11), .int (Mv 14), .ref (Ma 12), .ref (Ma 13), .ref (Ma 14), .ref (Ma 15), .ref (Ma 16), .long sv_112, .ref (Ma 17), .ref (Ma 18), .ref (Ma 19), .ref (Ma 20)])), ((Ma 2), .inl (tc 0, 2400, .inl (Mf 2))), ((Ma 4), .inl (tc 0, 288, .inl (Mf 4))), ((Ma 5), .inl (tc 0, 6, .inl (Mf 5))), ((Ma 8), .inl (tc 1, 64, .inr (.inl sv_122))), ((Ma 9), .inl (tc 1, 13, .inr (.inl sv_123))), ((Ma 10), .inl (tc 0, 126, .inl sv_124))] := hD₀
                          replace hS := hS₀
                          clear hP₀ hD₀ hS₀
                          refine lv_pop hx hb dX12_summers_131 rfl ?_
                          obtain ⟨x_129, ex_129⟩ : ∃ y : Int32, y = vy_77 + 1 := ⟨_, rfl⟩
                          refine lv_iinc (v := x_129) (lv' := [(9, .int x_129), (8, .int vy_55), (7, .int r_39), (6, .int vy_56), (5, .int vy_57), (0, .ref (Ma 0)), (1, .int x1), (2, .int x2), (3, .int x3), (4, .int x4)]) hx hb dX12_summers_132 hl (k := 0) rfl (by rw [ex_129]; rfl) (by decide) rfl (fun ls hl₀ => ?_)
                          replace hl := hl₀
                          clear hl₀
                          refine lv_goto (tgt := 93) hx hb dX12_summers_135 (by decide) ?_
                          have hb_130 : x2.toInt - (x_129 : Int32).toInt < x2.toInt - (vy_77 : Int32).toInt ∧ 1 ≤ x2.toInt - (vy_77 : Int32).toInt := by
                            have z_1 : ¬ (r_4 : Int32).toInt = (0 : Int32).toInt := fun z => c_7 (Int32.toInt_inj.mp z)
                            have z_2 : ¬ (r_11 : Int32).toInt = (0 : Int32).toInt := fun z => c_14 (Int32.toInt_inj.mp z)
                            have z_3 : ¬ (r_18 : Int32).toInt = (0 : Int32).toInt := fun z => c_21 (Int32.toInt_inj.mp z)
                            have z_4 : ¬ (r_25 : Int32).toInt = (0 : Int32).toInt := fun z => c_28 (Int32.toInt_inj.mp z)
                            have z_5 : ¬ (r_32 : Int32).toInt = (0 : Int32).toInt := fun z => c_35 (Int32.toInt_inj.mp z)
                            have z_6 := Int32.lt_iff_toInt_lt.mp (Int32.not_le.mp c_69)
                            have z_7 := Int32.lt_iff_toInt_lt.mp (Int32.not_le.mp c_89)
                            have z_8 := Int32.le_iff_toInt_le.mp c_116
                            have y_0 : (0 : Int32).toInt = 0 := by decide
                            have y_1 : (1 : Int32).toInt = 1 := by decide
                            have t_x_129 : x_129.toInt = (vy_77 : Int32).toInt + (1 : Int32).toInt := by rw [ex_129]; exact add_toInt (by omega) (by omega)
                            refine ⟨?_, ?_⟩ <;> omega
                          have ha_131 : 0 ≤ (x_129 : Int32).toInt ∧ (x_129 : Int32).toInt ≤ x2.toInt := by
                            have z_1 : ¬ (r_4 : Int32).toInt = (0 : Int32).toInt := fun z => c_7 (Int32.toInt_inj.mp z)
                            have z_2 : ¬ (r_11 : Int32).toInt = (0 : Int32).toInt := fun z => c_14 (Int32.toInt_inj.mp z)
                            have z_3 : ¬ (r_18 : Int32).toInt = (0 : Int32).toInt := fun z => c_21 (Int32.toInt_inj.mp z)
                            have z_4 : ¬ (r_25 : Int32).toInt = (0 : Int32).toInt := fun z => c_28 (Int32.toInt_inj.mp z)
                            have z_5 : ¬ (r_32 : Int32).toInt = (0 : Int32).toInt := fun z => c_35 (Int32.toInt_inj.mp z)
                            have z_6 := Int32.lt_iff_toInt_lt.mp (Int32.not_le.mp c_69)
                            have z_7 := Int32.lt_iff_toInt_lt.mp (Int32.not_le.mp c_89)
                            have z_8 := Int32.le_iff_toInt_le.mp c_116
                            have y_0 : (0 : Int32).toInt = 0 := by decide
                            have y_1 : (1 : Int32).toInt = 1 := by decide
                            have t_x_129 : x_129.toInt = (vy_77 : Int32).toInt + (1 : Int32).toInt := by rw [ex_129]; exact add_toInt (by omega) (by omega)
                            refine ⟨?_, ?_⟩ <;> omega
                          have ha_132 : ((999 + (vy_77 : Int32).toInt) + 1) ≤ (999 + (x_129 : Int32).toInt) := by
                            have z_1 : ¬ (r_4 : Int32).toInt = (0 : Int32).toInt := fun z => c_7 (Int32.toInt_inj.mp z)
                            have z_2 : ¬ (r_11 : Int32).toInt = (0 : Int32).toInt := fun z => c_14 (Int32.toInt_inj.mp z)
                            have z_3 : ¬ (r_18 : Int32).toInt = (0 : Int32).toInt := fun z => c_21 (Int32.toInt_inj.mp z)
                            have z_4 : ¬ (r_25 : Int32).toInt = (0 : Int32).toInt := fun z => c_28 (Int32.toInt_inj.mp z)
                            have z_5 : ¬ (r_32 : Int32).toInt = (0 : Int32).toInt := fun z => c_35 (Int32.toInt_inj.mp z)
                            have z_6 := Int32.lt_iff_toInt_lt.mp (Int32.not_le.mp c_69)
                            have z_7 := Int32.lt_iff_toInt_lt.mp (Int32.not_le.mp c_89)
                            have z_8 := Int32.le_iff_toInt_le.mp c_116
                            have y_0 : (0 : Int32).toInt = 0 := by decide
                            have y_1 : (1 : Int32).toInt = 1 := by decide
                            have t_x_129 : x_129.toInt = (vy_77 : Int32).toInt + (1 : Int32).toInt := by rw [ex_129]; exact add_toInt (by omega) (by omega)
                            omega
                          exact ih_84 x_129 sv_122 sv_123 sv_121 sv_112 sv_124 _ _ _ (by omega) ha_131 (SaidD.mono pf_125 ha_132) (hP.sub [2, 3, 4, 5, 6, 1, 7, 0] rfl) (hD.sub [2, 3, 4, 5, 6, 1, 7, 0] rfl rfl) hS (lv_sub hl [0, 1, 2, 3, 4, 5, 6, 7, 8, 9] rfl)
                        · skip
                          refine lv_aload_n hx hb dX12_summers_109 rfl (lv_at hl 5 rfl) ?_
                          refine gf_X12_39 hx hb hts hown hK hP 7 rfl rfl dX12_summers_110 ?_
                          refine lv_bipush (v := 36) hx hb dX12_summers_113 (by decide) ?_
                          refine lv_aload_n hx hb dX12_summers_115 rfl (lv_at hl 5 rfl) ?_
                          refine cV (a := (Ma 0)) (As := []) (rest := [.int 36, .ref (Ma 10)]) (wr := [((Ma 2), .inl (tc 0, 2400, .inl (Mf 2))), ((Ma 4), .inl (tc 0, 288, .inl (Mf 4))), ((Ma 5), .inl (tc 0, 6, .inl (Mf 5))), ((Ma 8), .inl (tc 1, 64, .inr (.inl vy_78))), ((Ma 9), .inl (tc 1, 13, .inr (.inl vy_79))), ((Ma 12), .inl (tc 0, 46, .inl sv_45))]) ⟨hx, hb, hml, hown, hts⟩ hK hX hA (cu_X12_clock l D tc sk (Ma 0) (Ma 1) (Ma 2) (Ma 3) (Ma 4) (Ma 5) (Ma 6) (Ma 7) (Ma 8) (Ma 9) (Ma 10) (Ma 11) (Ma 12) (Ma 13) (Ma 14) (Ma 15) (Ma 16) (Ma 17) (Ma 18) (Ma 19) (Ma 20) (Mv 0) (Mv 1) (Mv 2) (Mv 3) (Mv 4) (Mv 5) (Mv 6) (Mv 7) (Mv 8) (Mv 9) vy_80 (Mv 11) (Mv 12) (Mv 13) (Mv 14) vy_82 sv_112 (999 + (vy_77 : Int32).toInt) pf_87) k_1435 k_1432 k_1434 k_70 k_106 pl_X12_clock ⟨Nat.le_of_ble_eq_true rfl, Nat.le_of_ble_eq_true rfl⟩ rfl rfl (va_recv hK hP (ci := 12) (q0 := 7) rfl rfl) hP hD hS [7, 5] [0, 1, 2, 3, 4, 6] rfl rfl rfl rfl rfl (by decide) rfl hl.1 rfl (Nat.le_of_ble_eq_true rfl) dX12_summers_116 ⟨Nat.le_of_ble_eq_true rfl, Nat.le_of_ble_eq_true rfl⟩ (fun v_133 u_134 H locs hv_135 hP₀ hD₀ hS₀ => ?_)
                          obtain ⟨r_136, rfl, he_137⟩ := hv_135
                          have he_137 : (0 ≤ r_136.toInt ∧ r_136.toInt < 10) := he_137
                          refine W.eq (g2 := F0 m 119 ls [.int r_136, .int 36, .ref (Ma 10)]) rfl ?_
                          replace hP : va_P D classes [((Ma 2), .inl (tc 0, 2400, .inl (Mf 2))), ((Ma 4), .inl (tc 0, 288, .inl (Mf 4))), ((Ma 5), .inl (tc 0, 6, .inl (Mf 5))), ((Ma 8), .inl (tc 1, 64, .inr (.inl vy_78))), ((Ma 9), .inl (tc 1, 13, .inr (.inl vy_79))), ((Ma 12), .inl (tc 0, 46, .inl sv_45)), ((Ma 0), .inr (12, [.ref (Ma 1), .int (Mv 0), .int (Mv 1), .ref (Ma 2), .ref (Ma 3), .ref (Ma 4), .ref (Ma 5), .ref (Ma 6), .int (Mv 2), .int (Mv 3), .int (Mv 4), .int (Mv 5), .int (Mv 6), .int (Mv 7), .int (Mv 8), .ref (Ma 7), .int (Mv 9), .ref (Ma 8), .int vy_80, .ref (Ma 9), .ref (Ma 10), .int (Mv 11), .int (Mv 12), .int (Mv 13), .ref (Ma 11), .int (Mv 14), .ref (Ma 12), .ref (Ma 13), .ref (Ma 14), .ref (Ma 15), .ref (Ma 16), .long sv_112, .ref (Ma 17), .ref (Ma 18), .ref (Ma 19), .ref (Ma 20)])), ((Ma 10), .inl (tc 0, 126, .inl vy_82))] H := hP₀
                          replace hD : va_D A [((Ma 2), .inl (tc 0, 2400, .inl (Mf 2))), ((Ma 4), .inl (tc 0, 288, .inl (Mf 4))), ((Ma 5), .inl (tc 0, 6, .inl (Mf 5))), ((Ma 8), .inl (tc 1, 64, .inr (.inl vy_78))), ((Ma 9), .inl (tc 1, 13, .inr (.inl vy_79))), ((Ma 12), .inl (tc 0, 46, .inl sv_45)), ((Ma 0), .inr (12, [.ref (Ma 1), .int (Mv 0), .int (Mv 1), .ref (Ma 2), .ref (Ma 3), .ref (Ma 4), .ref (Ma 5), .ref (Ma 6), .int (Mv 2), .int (Mv 3), .int (Mv 4), .int (Mv 5), .int (Mv 6), .int (Mv 7), .int (Mv 8), .ref (Ma 7), .int (Mv 9), .ref (Ma 8), .int vy_80, .ref (Ma 9), .ref (Ma 10), .int (Mv 11), .int (Mv 12), .int (Mv 13), .ref (Ma 11), .int (Mv 14), .ref (Ma 12), .ref (Ma 13), .ref (Ma 14), .ref (Ma 15), .ref (Ma 16), .long sv_112, .ref (Ma 17), .ref (Ma 18), .ref (Ma 19), .ref (Ma 20)])), ((Ma 10), .inl (tc 0, 126, .inl vy_82))] := hD₀
                          replace hS := hS₀
                          clear hP₀ hD₀ hS₀
                          refine lv_iadd hx hb dX12_summers_119 ?_
                          refine lv_topi (fun x_139 ex_139 => ?_)
                          refine lv_aload_n hx hb dX12_summers_120 rfl (lv_at hl 5 rfl) ?_
                          refine lv_bipush (v := 10) hx hb dX12_summers_121 (by decide) ?_
                          have ha_140 : 1 ≤ (10 : Int32).toInt := by
                            have z_1 : ¬ (r_4 : Int32).toInt = (0 : Int32).toInt := fun z => c_7 (Int32.toInt_inj.mp z)
                            have z_2 : ¬ (r_11 : Int32).toInt = (0 : Int32).toInt := fun z => c_14 (Int32.toInt_inj.mp z)
                            have z_3 : ¬ (r_18 : Int32).toInt = (0 : Int32).toInt := fun z => c_21 (Int32.toInt_inj.mp z)
                            have z_4 : ¬ (r_25 : Int32).toInt = (0 : Int32).toInt := fun z => c_28 (Int32.toInt_inj.mp z)
                            have z_5 : ¬ (r_32 : Int32).toInt = (0 : Int32).toInt := fun z => c_35 (Int32.toInt_inj.mp z)
                            have z_6 := Int32.lt_iff_toInt_lt.mp (Int32.not_le.mp c_69)
                            have z_7 := Int32.lt_iff_toInt_lt.mp (Int32.not_le.mp c_89)
                            have z_8 := Int32.lt_iff_toInt_lt.mp (Int32.not_le.mp c_116)
                            have y_0 : (0 : Int32).toInt = 0 := by decide
                            have y_10 : (10 : Int32).toInt = 10 := by decide
                            omega
                          refine cV (a := (Ma 0)) (As := [.int 10]) (rest := [.int x_139, .ref (Ma 10)]) (wr := [((Ma 2), .inl (tc 0, 2400, .inl (Mf 2))), ((Ma 4), .inl (tc 0, 288, .inl (Mf 4))), ((Ma 5), .inl (tc 0, 6, .inl (Mf 5))), ((Ma 8), .inl (tc 1, 64, .inr (.inl vy_78))), ((Ma 9), .inl (tc 1, 13, .inr (.inl vy_79))), ((Ma 12), .inl (tc 0, 46, .inl sv_45)), ((Ma 10), .inl (tc 0, 126, .inl vy_82))]) ⟨hx, hb, hml, hown, hts⟩ hK hX hA (cu_X12_draw l D tc sk (Ma 0) (Ma 1) (Ma 2) (Ma 3) (Ma 4) (Ma 5) (Ma 6) (Ma 7) (Ma 8) (Ma 9) (Ma 10) (Ma 11) (Ma 12) (Ma 13) (Ma 14) (Ma 15) (Ma 16) (Ma 17) (Ma 18) (Ma 19) (Ma 20) (Mv 0) (Mv 1) (Mv 2) (Mv 3) (Mv 4) (Mv 5) (Mv 6) (Mv 7) (Mv 8) (Mv 9) vy_80 (Mv 11) (Mv 12) (Mv 13) (Mv 14) sv_112 10 ha_140) k_1634 k_1631 k_1633 k_92 k_106 pl_X12_draw ⟨Nat.le_of_ble_eq_true rfl, Nat.le_of_ble_eq_true rfl⟩ rfl rfl (va_recv hK hP (ci := 12) (q0 := 6) rfl rfl) hP hD hS [6] [0, 1, 2, 3, 4, 5, 7] rfl rfl rfl rfl rfl (by decide) rfl hl.1 rfl (Nat.le_of_ble_eq_true rfl) dX12_summers_123 ⟨Nat.le_of_ble_eq_true rfl, Nat.le_of_ble_eq_true rfl⟩ (fun v_141 u_142 H locs hv_143 hP₀ hD₀ hS₀ => ?_)
                          obtain ⟨sv_144, rfl⟩ : ∃ z, z = u_142 := ⟨_, rfl⟩
                          obtain ⟨r_145, rfl, he_146⟩ := hv_143
                          refine W.eq (g2 := F0 m 126 ls [.int r_145, .int x_139, .ref (Ma 10)]) rfl ?_
                          replace hP : va_P D classes [((Ma 2), .inl (tc 0, 2400, .inl (Mf 2))), ((Ma 4), .inl (tc 0, 288, .inl (Mf 4))), ((Ma 5), .inl (tc 0, 6, .inl (Mf 5))), ((Ma 8), .inl (tc 1, 64, .inr (.inl vy_78))), ((Ma 9), .inl (tc 1, 13, .inr (.inl vy_79))), ((Ma 12), .inl (tc 0, 46, .inl sv_45)), ((Ma 10), .inl (tc 0, 126, .inl vy_82)), ((Ma 0), .inr (12, [.ref (Ma 1), .int (Mv 0), .int (Mv 1), .ref (Ma 2), .ref (Ma 3), .ref (Ma 4), .ref (Ma 5), .ref (Ma 6), .int (Mv 2), .int (Mv 3), .int (Mv 4), .int (Mv 5), .int (Mv 6), .int (Mv 7), .int (Mv 8), .ref (Ma 7), .int (Mv 9), .ref (Ma 8), .int vy_80, .ref (Ma 9), .ref (Ma 10), .int (Mv 11), .int (Mv 12), .int (Mv 13), .ref (Ma 11), .int (Mv 14), .ref (Ma 12), .ref (Ma 13), .ref (Ma 14), .ref (Ma 15), .ref (Ma 16), .long sv_144, .ref (Ma 17), .ref (Ma 18), .ref (Ma 19), .ref (Ma 20)]))] H := hP₀
                          replace hD : va_D A [((Ma 2), .inl (tc 0, 2400, .inl (Mf 2))), ((Ma 4), .inl (tc 0, 288, .inl (Mf 4))), ((Ma 5), .inl (tc 0, 6, .inl (Mf 5))), ((Ma 8), .inl (tc 1, 64, .inr (.inl vy_78))), ((Ma 9), .inl (tc 1, 13, .inr (.inl vy_79))), ((Ma 12), .inl (tc 0, 46, .inl sv_45)), ((Ma 10), .inl (tc 0, 126, .inl vy_82)), ((Ma 0), .inr (12, [.ref (Ma 1), .int (Mv 0), .int (Mv 1), .ref (Ma 2), .ref (Ma 3), .ref (Ma 4), .ref (Ma 5), .ref (Ma 6), .int (Mv 2), .int (Mv 3), .int (Mv 4), .int (Mv 5), .int (Mv 6), .int (Mv 7), .int (Mv 8), .ref (Ma 7), .int (Mv 9), .ref (Ma 8), .int vy_80, .ref (Ma 9), .ref (Ma 10), .int (Mv 11), .int (Mv 12), .int (Mv 13), .ref (Ma 11), .int (Mv 14), .ref (Ma 12), .ref (Ma 13), .ref (Ma 14), .ref (Ma 15), .ref (Ma 16), .long sv_144, .ref (Ma 17), .ref (Ma 18), .ref (Ma 19), .ref (Ma 20)]))] := hD₀
                          replace hS := hS₀
                          clear hP₀ hD₀ hS₀
                          have hi_148 : vp_in x_139 126 := by
                            have z_1 : ¬ (r_4 : Int32).toInt = (0 : Int32).toInt := fun z => c_7 (Int32.toInt_inj.mp z)
                            have z_2 : ¬ (r_11 : Int32).toInt = (0 : Int32).toInt := fun z => c_14 (Int32.toInt_inj.mp z)
                            have z_3 : ¬ (r_18 : Int32).toInt = (0 : Int32).toInt := fun z => c_21 (Int32.toInt_inj.mp z)
                            have z_4 : ¬ (r_25 : Int32).toInt = (0 : Int32).toInt := fun z => c_28 (Int32.toInt_inj.mp z)
                            have z_5 : ¬ (r_32 : Int32).toInt = (0 : Int32).toInt := fun z => c_35 (Int32.toInt_inj.mp z)
                            have z_6 := Int32.lt_iff_toInt_lt.mp (Int32.not_le.mp c_69)
                            have z_7 := Int32.lt_iff_toInt_lt.mp (Int32.not_le.mp c_89)
                            have z_8 := Int32.lt_iff_toInt_lt.mp (Int32.not_le.mp c_116)
                            have y_0 : (0 : Int32).toInt = 0 := by decide
                            have y_36 : (36 : Int32).toInt = 36 := by decide
                            have t_x_139 : x_139.toInt = (36 : Int32).toInt + (r_136 : Int32).toInt := by rw [ex_139]; exact add_toInt (by omega) (by omega)
                            refine vp_in_iff.mpr ⟨?_, ?_⟩ <;> omega
                          refine st_int hx hb hK hP hD hS 6 0 rfl rfl hi_148 dX12_summers_126 (fun g_149 H locs eg_149 hP₀ hD₀ hS₀ => ?_)
                          replace hP : va_P D classes [((Ma 2), .inl (tc 0, 2400, .inl (Mf 2))), ((Ma 4), .inl (tc 0, 288, .inl (Mf 4))), ((Ma 5), .inl (tc 0, 6, .inl (Mf 5))), ((Ma 8), .inl (tc 1, 64, .inr (.inl vy_78))), ((Ma 9), .inl (tc 1, 13, .inr (.inl vy_79))), ((Ma 12), .inl (tc 0, 46, .inl sv_45)), ((Ma 10), .inl (tc 0, 126, .inl g_149)), ((Ma 0), .inr (12, [.ref (Ma 1), .int (Mv 0), .int (Mv 1), .ref (Ma 2), .ref (Ma 3), .ref (Ma 4), .ref (Ma 5), .ref (Ma 6), .int (Mv 2), .int (Mv 3), .int (Mv 4), .int (Mv 5), .int (Mv 6), .int (Mv 7), .int (Mv 8), .ref (Ma 7), .int (Mv 9), .ref (Ma 8), .int vy_80, .ref (Ma 9), .ref (Ma 10), .int (Mv 11), .int (Mv 12), .int (Mv 13), .ref (Ma 11), .int (Mv 14), .ref (Ma 12), .ref (Ma 13), .ref (Ma 14), .ref (Ma 15), .ref (Ma 16), .long sv_144, .ref (Ma 17), .ref (Ma 18), .ref (Ma 19), .ref (Ma 20)]))] H := hP₀
                          replace hD : va_D A [((Ma 2), .inl (tc 0, 2400, .inl (Mf 2))), ((Ma 4), .inl (tc 0, 288, .inl (Mf 4))), ((Ma 5), .inl (tc 0, 6, .inl (Mf 5))), ((Ma 8), .inl (tc 1, 64, .inr (.inl vy_78))), ((Ma 9), .inl (tc 1, 13, .inr (.inl vy_79))), ((Ma 12), .inl (tc 0, 46, .inl sv_45)), ((Ma 10), .inl (tc 0, 126, .inl g_149)), ((Ma 0), .inr (12, [.ref (Ma 1), .int (Mv 0), .int (Mv 1), .ref (Ma 2), .ref (Ma 3), .ref (Ma 4), .ref (Ma 5), .ref (Ma 6), .int (Mv 2), .int (Mv 3), .int (Mv 4), .int (Mv 5), .int (Mv 6), .int (Mv 7), .int (Mv 8), .ref (Ma 7), .int (Mv 9), .ref (Ma 8), .int vy_80, .ref (Ma 9), .ref (Ma 10), .int (Mv 11), .int (Mv 12), .int (Mv 13), .ref (Ma 11), .int (Mv 14), .ref (Ma 12), .ref (Ma 13), .ref (Ma 14), .ref (Ma 15), .ref (Ma 16), .long sv_144, .ref (Ma 17), .ref (Ma 18), .ref (Ma 19), .ref (Ma 20)]))] := hD₀
                          replace hS := hS₀
                          clear hP₀ hD₀ hS₀
                          have hx_151 : 11 ≤ (x_139 : Int32).toNatClampNeg ∧ (x_139 : Int32).toNatClampNeg < 56 := by
                            have z_1 : ¬ (r_4 : Int32).toInt = (0 : Int32).toInt := fun z => c_7 (Int32.toInt_inj.mp z)
                            have z_2 : ¬ (r_11 : Int32).toInt = (0 : Int32).toInt := fun z => c_14 (Int32.toInt_inj.mp z)
                            have z_3 : ¬ (r_18 : Int32).toInt = (0 : Int32).toInt := fun z => c_21 (Int32.toInt_inj.mp z)
                            have z_4 : ¬ (r_25 : Int32).toInt = (0 : Int32).toInt := fun z => c_28 (Int32.toInt_inj.mp z)
                            have z_5 : ¬ (r_32 : Int32).toInt = (0 : Int32).toInt := fun z => c_35 (Int32.toInt_inj.mp z)
                            have z_6 := Int32.lt_iff_toInt_lt.mp (Int32.not_le.mp c_69)
                            have z_7 := Int32.lt_iff_toInt_lt.mp (Int32.not_le.mp c_89)
                            have z_8 := Int32.lt_iff_toInt_lt.mp (Int32.not_le.mp c_116)
                            have y_0 : (0 : Int32).toInt = 0 := by decide
                            have y_36 : (36 : Int32).toInt = 36 := by decide
                            have t_x_139 : x_139.toInt = (36 : Int32).toInt + (r_136 : Int32).toInt := by rw [ex_139]; exact add_toInt (by omega) (by omega)
                            have hcl : (x_139 : Int32).toNatClampNeg = (x_139 : Int32).toInt.toNat := rfl
                            omega
                          have pf_150 : SaidD T g_149 (999 + (vy_77 : Int32).toInt) := SaidD.keep pf_87 eg_149 hx_151
                          have ar_pf_150 := SaidD.al pf_150
                          refine lv_aload_n hx hb dX12_summers_127 rfl (lv_at hl 5 rfl) ?_
                          have ha_152 : (999 + (vy_77 : Int32).toInt) ≤ 1000000 := by
                            have z_1 : ¬ (r_4 : Int32).toInt = (0 : Int32).toInt := fun z => c_7 (Int32.toInt_inj.mp z)
                            have z_2 : ¬ (r_11 : Int32).toInt = (0 : Int32).toInt := fun z => c_14 (Int32.toInt_inj.mp z)
                            have z_3 : ¬ (r_18 : Int32).toInt = (0 : Int32).toInt := fun z => c_21 (Int32.toInt_inj.mp z)
                            have z_4 : ¬ (r_25 : Int32).toInt = (0 : Int32).toInt := fun z => c_28 (Int32.toInt_inj.mp z)
                            have z_5 : ¬ (r_32 : Int32).toInt = (0 : Int32).toInt := fun z => c_35 (Int32.toInt_inj.mp z)
                            have z_6 := Int32.lt_iff_toInt_lt.mp (Int32.not_le.mp c_69)
                            have z_7 := Int32.lt_iff_toInt_lt.mp (Int32.not_le.mp c_89)
                            have z_8 := Int32.lt_iff_toInt_lt.mp (Int32.not_le.mp c_116)
                            have y_0 : (0 : Int32).toInt = 0 := by decide
                            omega
                          refine cV (a := (Ma 0)) (As := []) (rest := []) (wr := [((Ma 12), .inl (tc 0, 46, .inl sv_45))]) ⟨hx, hb, hml, hown, hts⟩ hK hX hA (cu_X12_passes l D tc sk (Ma 0) (Ma 1) (Ma 2) (Ma 3) (Ma 4) (Ma 5) (Ma 6) (Ma 7) (Ma 8) (Ma 9) (Ma 10) (Ma 11) (Ma 12) (Ma 13) (Ma 14) (Ma 15) (Ma 16) (Ma 17) (Ma 18) (Ma 19) (Ma 20) (Mv 0) (Mv 1) (Mv 2) (Mv 3) (Mv 4) (Mv 5) (Mv 6) (Mv 7) (Mv 8) (Mv 9) vy_80 (Mv 11) (Mv 12) (Mv 13) (Mv 14) (Mf 2) (Mf 4) (Mf 5) g_149 sv_144 vy_78 vy_79 (999 + (vy_77 : Int32).toInt) pf_150 ha_152 h_rul h_frc) k_1423 k_1420 k_1422 k_67 k_106 pl_X12_passes ⟨Nat.le_of_ble_eq_true rfl, Nat.le_of_ble_eq_true rfl⟩ rfl rfl (va_recv hK hP (ci := 12) (q0 := 7) rfl rfl) hP hD hS [7, 0, 1, 2, 3, 4, 6] [5] rfl rfl rfl rfl rfl (by decide) rfl hl.1 rfl (Nat.le_of_ble_eq_true rfl) dX12_summers_128 ⟨Nat.le_of_ble_eq_true rfl, Nat.le_of_ble_eq_true rfl⟩ (fun v_153 u_154 H locs hv_155 hP₀ hD₀ hS₀ => ?_)
                          obtain ⟨sv_156, sv_157, sv_158, sv_159⟩ := u_154
                          obtain ⟨r_161, rfl, he_162, pf_160⟩ := hv_155
                          have pf_160 : SaidD T sv_159 ((999 + (vy_77 : Int32).toInt) + 1) := pf_160
                          have ar_pf_160 := SaidD.al pf_160
                          refine W.eq (g2 := F0 m 131 ls [.int r_161]) rfl ?_
                          replace hP : va_P D classes [((Ma 12), .inl (tc 0, 46, .inl sv_45)), ((Ma 0), .inr (12, [.ref (Ma 1), .int (Mv 0), .int (Mv 1), .ref (Ma 2), .ref (Ma 3), .ref (Ma 4), .ref (Ma 5), .ref (Ma 6), .int (Mv 2), .int (Mv 3), .int (Mv 4), .int (Mv 5), .int (Mv 6), .int (Mv 7), .int (Mv 8), .ref (Ma 7), .int (Mv 9), .ref (Ma 8), .int sv_156, .ref (Ma 9), .ref (Ma 10), .int (Mv 11), .int (Mv 12), .int (Mv 13), .ref (Ma 11), .int (Mv 14), .ref (Ma 12), .ref (Ma 13), .ref (Ma 14), .ref (Ma 15), .ref (Ma 16), .long sv_144, .ref (Ma 17), .ref (Ma 18), .ref (Ma 19), .ref (Ma 20)])), ((Ma 2), .inl (tc 0, 2400, .inl (Mf 2))), ((Ma 4), .inl (tc 0, 288, .inl (Mf 4))), ((Ma 5), .inl (tc 0, 6, .inl (Mf 5))), ((Ma 8), .inl (tc 1, 64, .inr (.inl sv_157))), ((Ma 9), .inl (tc 1, 13, .inr (.inl sv_158))), ((Ma 10), .inl (tc 0, 126, .inl sv_159))] H := hP₀
                          replace hD : va_D A [((Ma 12), .inl (tc 0, 46, .inl sv_45)), ((Ma 0), .inr (12, [.ref (Ma 1), .int (Mv 0), .int (Mv 1), .ref (Ma 2), .ref (Ma 3), .ref (Ma 4), .ref (Ma 5), .ref (Ma 6), .int (Mv 2), .int (Mv 3), .int (Mv 4), .int (Mv 5), .int (Mv 6), .int (Mv 7), .int (Mv 8), .ref (Ma 7), .int (Mv 9), .ref (Ma 8), .int sv_156, .ref (Ma 9), .ref (Ma 10), .int (Mv 11), .int (Mv 12), .int (Mv 13), .ref (Ma 11), .int (Mv 14), .ref (Ma 12), .ref (Ma 13), .ref (Ma 14), .ref (Ma 15), .ref (Ma 16), .long sv_144, .ref (Ma 17), .ref (Ma 18), .ref (Ma 19), .ref (Ma 20)])), ((Ma 2), .inl (tc 0, 2400, .inl (Mf 2))), ((Ma 4), .inl (tc 0, 288, .inl (Mf 4))), ((Ma 5), .inl (tc 0, 6, .inl (Mf 5))), ((Ma 8), .inl (tc 1, 64, .inr (.inl sv_157))), ((Ma 9), .inl (tc 1, 13, .inr (.inl sv_158))), ((Ma 10), .inl (tc 0, 126, .inl sv_159))] := hD₀
                          replace hS := hS₀
                          clear hP₀ hD₀ hS₀
                          refine lv_pop hx hb dX12_summers_131 rfl ?_
                          obtain ⟨x_164, ex_164⟩ : ∃ y : Int32, y = vy_77 + 1 := ⟨_, rfl⟩
                          refine lv_iinc (v := x_164) (lv' := [(9, .int x_164), (8, .int vy_55), (7, .int r_39), (6, .int vy_56), (5, .int vy_57), (0, .ref (Ma 0)), (1, .int x1), (2, .int x2), (3, .int x3), (4, .int x4)]) hx hb dX12_summers_132 hl (k := 0) rfl (by rw [ex_164]; rfl) (by decide) rfl (fun ls hl₀ => ?_)
                          replace hl := hl₀
                          clear hl₀
                          refine lv_goto (tgt := 93) hx hb dX12_summers_135 (by decide) ?_
                          have hb_165 : x2.toInt - (x_164 : Int32).toInt < x2.toInt - (vy_77 : Int32).toInt ∧ 1 ≤ x2.toInt - (vy_77 : Int32).toInt := by
                            have z_1 : ¬ (r_4 : Int32).toInt = (0 : Int32).toInt := fun z => c_7 (Int32.toInt_inj.mp z)
                            have z_2 : ¬ (r_11 : Int32).toInt = (0 : Int32).toInt := fun z => c_14 (Int32.toInt_inj.mp z)
                            have z_3 : ¬ (r_18 : Int32).toInt = (0 : Int32).toInt := fun z => c_21 (Int32.toInt_inj.mp z)
                            have z_4 : ¬ (r_25 : Int32).toInt = (0 : Int32).toInt := fun z => c_28 (Int32.toInt_inj.mp z)
                            have z_5 : ¬ (r_32 : Int32).toInt = (0 : Int32).toInt := fun z => c_35 (Int32.toInt_inj.mp z)
                            have z_6 := Int32.lt_iff_toInt_lt.mp (Int32.not_le.mp c_69)
                            have z_7 := Int32.lt_iff_toInt_lt.mp (Int32.not_le.mp c_89)
                            have z_8 := Int32.lt_iff_toInt_lt.mp (Int32.not_le.mp c_116)
                            have y_0 : (0 : Int32).toInt = 0 := by decide
                            have y_1 : (1 : Int32).toInt = 1 := by decide
                            have t_x_164 : x_164.toInt = (vy_77 : Int32).toInt + (1 : Int32).toInt := by rw [ex_164]; exact add_toInt (by omega) (by omega)
                            refine ⟨?_, ?_⟩ <;> omega
                          have ha_166 : 0 ≤ (x_164 : Int32).toInt ∧ (x_164 : Int32).toInt ≤ x2.toInt := by
                            have z_1 : ¬ (r_4 : Int32).toInt = (0 : Int32).toInt := fun z => c_7 (Int32.toInt_inj.mp z)
                            have z_2 : ¬ (r_11 : Int32).toInt = (0 : Int32).toInt := fun z => c_14 (Int32.toInt_inj.mp z)
                            have z_3 : ¬ (r_18 : Int32).toInt = (0 : Int32).toInt := fun z => c_21 (Int32.toInt_inj.mp z)
                            have z_4 : ¬ (r_25 : Int32).toInt = (0 : Int32).toInt := fun z => c_28 (Int32.toInt_inj.mp z)
                            have z_5 : ¬ (r_32 : Int32).toInt = (0 : Int32).toInt := fun z => c_35 (Int32.toInt_inj.mp z)
                            have z_6 := Int32.lt_iff_toInt_lt.mp (Int32.not_le.mp c_69)
                            have z_7 := Int32.lt_iff_toInt_lt.mp (Int32.not_le.mp c_89)
                            have z_8 := Int32.lt_iff_toInt_lt.mp (Int32.not_le.mp c_116)
                            have y_0 : (0 : Int32).toInt = 0 := by decide
                            have y_1 : (1 : Int32).toInt = 1 := by decide
                            have t_x_164 : x_164.toInt = (vy_77 : Int32).toInt + (1 : Int32).toInt := by rw [ex_164]; exact add_toInt (by omega) (by omega)
                            refine ⟨?_, ?_⟩ <;> omega
                          have ha_167 : ((999 + (vy_77 : Int32).toInt) + 1) ≤ (999 + (x_164 : Int32).toInt) := by
                            have z_1 : ¬ (r_4 : Int32).toInt = (0 : Int32).toInt := fun z => c_7 (Int32.toInt_inj.mp z)
                            have z_2 : ¬ (r_11 : Int32).toInt = (0 : Int32).toInt := fun z => c_14 (Int32.toInt_inj.mp z)
                            have z_3 : ¬ (r_18 : Int32).toInt = (0 : Int32).toInt := fun z => c_21 (Int32.toInt_inj.mp z)
                            have z_4 : ¬ (r_25 : Int32).toInt = (0 : Int32).toInt := fun z => c_28 (Int32.toInt_inj.mp z)
                            have z_5 : ¬ (r_32 : Int32).toInt = (0 : Int32).toInt := fun z => c_35 (Int32.toInt_inj.mp z)
                            have z_6 := Int32.lt_iff_toInt_lt.mp (Int32.not_le.mp c_69)
                            have z_7 := Int32.lt_iff_toInt_lt.mp (Int32.not_le.mp c_89)
                            have z_8 := Int32.lt_iff_toInt_lt.mp (Int32.not_le.mp c_116)
                            have y_0 : (0 : Int32).toInt = 0 := by decide
                            have y_1 : (1 : Int32).toInt = 1 := by decide
                            have t_x_164 : x_164.toInt = (vy_77 : Int32).toInt + (1 : Int32).toInt := by rw [ex_164]; exact add_toInt (by omega) (by omega)
                            omega
                          exact ih_84 x_164 sv_157 sv_158 sv_156 sv_144 sv_159 _ _ _ (by omega) ha_166 (SaidD.mono pf_160 ha_167) (hP.sub [2, 3, 4, 5, 6, 1, 7, 0] rfl) (hD.sub [2, 3, 4, 5, 6, 1, 7, 0] rfl rfl) hS (lv_sub hl [0, 1, 2, 3, 4, 5, 6, 7, 8, 9] rfl)
                  have ha_168 : 0 ≤ (0 : Int32).toInt ∧ (0 : Int32).toInt ≤ x2.toInt := by
                    have z_1 : ¬ (r_4 : Int32).toInt = (0 : Int32).toInt := fun z => c_7 (Int32.toInt_inj.mp z)
                    have z_2 : ¬ (r_11 : Int32).toInt = (0 : Int32).toInt := fun z => c_14 (Int32.toInt_inj.mp z)
                    have z_3 : ¬ (r_18 : Int32).toInt = (0 : Int32).toInt := fun z => c_21 (Int32.toInt_inj.mp z)
                    have z_4 : ¬ (r_25 : Int32).toInt = (0 : Int32).toInt := fun z => c_28 (Int32.toInt_inj.mp z)
                    have z_5 : ¬ (r_32 : Int32).toInt = (0 : Int32).toInt := fun z => c_35 (Int32.toInt_inj.mp z)
                    have z_6 := Int32.lt_iff_toInt_lt.mp (Int32.not_le.mp c_69)
                    have y_0 : (0 : Int32).toInt = 0 := by decide
                    refine ⟨?_, ?_⟩ <;> omega
                  have ha_169 : 999 ≤ (999 + (0 : Int32).toInt) := by
                    have z_1 : ¬ (r_4 : Int32).toInt = (0 : Int32).toInt := fun z => c_7 (Int32.toInt_inj.mp z)
                    have z_2 : ¬ (r_11 : Int32).toInt = (0 : Int32).toInt := fun z => c_14 (Int32.toInt_inj.mp z)
                    have z_3 : ¬ (r_18 : Int32).toInt = (0 : Int32).toInt := fun z => c_21 (Int32.toInt_inj.mp z)
                    have z_4 : ¬ (r_25 : Int32).toInt = (0 : Int32).toInt := fun z => c_28 (Int32.toInt_inj.mp z)
                    have z_5 : ¬ (r_32 : Int32).toInt = (0 : Int32).toInt := fun z => c_35 (Int32.toInt_inj.mp z)
                    have z_6 := Int32.lt_iff_toInt_lt.mp (Int32.not_le.mp c_69)
                    have y_0 : (0 : Int32).toInt = 0 := by decide
                    omega
                  exact loop_85 _ 0 vy_58 vy_59 vy_60 vy_61 vy_62 _ _ _ (Nat.lt_succ_self _) ha_168 (SaidD.mono pf_67 ha_169) hP hD hS hl
            have ha_170 : 0 ≤ (0 : Int32).toInt := by
              have z_1 : ¬ (r_4 : Int32).toInt = (0 : Int32).toInt := fun z => c_7 (Int32.toInt_inj.mp z)
              have z_2 : ¬ (r_11 : Int32).toInt = (0 : Int32).toInt := fun z => c_14 (Int32.toInt_inj.mp z)
              have z_3 : ¬ (r_18 : Int32).toInt = (0 : Int32).toInt := fun z => c_21 (Int32.toInt_inj.mp z)
              have z_4 : ¬ (r_25 : Int32).toInt = (0 : Int32).toInt := fun z => c_28 (Int32.toInt_inj.mp z)
              have z_5 : ¬ (r_32 : Int32).toInt = (0 : Int32).toInt := fun z => c_35 (Int32.toInt_inj.mp z)
              have y_0 : (0 : Int32).toInt = 0 := by decide
              omega
            exact loop_65 _ 0 0 0 (Mg 8) (Mg 9) (Mv 10) (((Mv 12)).toInt64) (Mf 10) _ _ _ (Nat.lt_succ_self _) ha_170 h_said hP hD hS hl
          · skip
            refine lv_iconst (v := (-1)) hx hb dX12_summers_54 (by decide) ?_
            exact retI (v := (-1)) hx hb hr hlk (rfl) hP hD hS ((Mv 10), (Mj 0), (Mg 8), (Mg 9), (Mf 10), (Mf 12)) ⟨_, rfl, trivial, h_said⟩ [6, 0, 1, 2, 3, 4, 7, 5] rfl rfl dX12_summers_55 (Nat.le_of_ble_eq_true rfl) (Nat.le_of_ble_eq_true rfl) rfl
set_option maxHeartbeats 4000000 in
set_option maxRecDepth 100000 in
theorem ct_X12_count {T : Nat → Option Int32} (l : Launch) (D : va_G) (tc : Nat → ClassId) (sk : (Nat → Nat) × (Nat → Nat)) (Ma : Nat → Nat) (Mv : Nat → Int32) (Mf : Nat → Nat → Int32) (Mj : Nat → Int64) (x1 : Int32) (h_said : SaidD T (Mf 10) 999) : Ct l yX12_count cX12_count 4 (some .int) { frames := 2, cells := 0, slots := 0, locals := 43 } D tc sk [.ref (Ma 0), .int x1] [((Ma 0), .inr (12, [.ref (Ma 1), .int (Mv 0), .int (Mv 1), .ref (Ma 2), .ref (Ma 3), .ref (Ma 4), .ref (Ma 5), .ref (Ma 6), .int (Mv 2), .int (Mv 3), .int (Mv 4), .int (Mv 5), .int (Mv 6), .int (Mv 7), .int (Mv 8), .ref (Ma 7), .int (Mv 9), .ref (Ma 8), .int (Mv 10), .ref (Ma 9), .ref (Ma 10), .int (Mv 11), .int (Mv 12), .int (Mv 13), .ref (Ma 11), .int (Mv 14), .ref (Ma 12), .ref (Ma 13), .ref (Ma 14), .ref (Ma 15), .ref (Ma 16), .long (Mj 0), .ref (Ma 17), .ref (Ma 18), .ref (Ma 19), .ref (Ma 20)])), ((Ma 10), .inl (tc 0, 126, .inl (Mf 10)))] (fun (v : Option Value) (_ : Unit) => ∃ r : Int32, v = some (.int r) ∧ (True)) (fun (_ : Unit) => [((Ma 0), .inr (12, [.ref (Ma 1), .int (Mv 0), .int (Mv 1), .ref (Ma 2), .ref (Ma 3), .ref (Ma 4), .ref (Ma 5), .ref (Ma 6), .int (Mv 2), .int (Mv 3), .int (Mv 4), .int (Mv 5), .int (Mv 6), .int (Mv 7), .int (Mv 8), .ref (Ma 7), .int (Mv 9), .ref (Ma 8), .int (Mv 10), .ref (Ma 9), .ref (Ma 10), .int (Mv 11), .int (Mv 12), .int (Mv 13), .ref (Ma 11), .int (Mv 14), .ref (Ma 12), .ref (Ma 13), .ref (Ma 14), .ref (Ma 15), .ref (Ma 16), .long (Mj 0), .ref (Ma 17), .ref (Ma 18), .ref (Ma 19), .ref (Ma 20)])), ((Ma 10), .inl (tc 0, 126, .inl (Mf 10)))]) 0 0 := by
  refine Ct.start (by decide) (Nat.le_of_ble_eq_true rfl) (fun p e s m below meth c A ls hx hb hr hlk hin hml hown hts hK hX hP hD hA hl hS => ?_)
  have hl : lv_has ls 4 [(0, .ref (Ma 0)), (1, .int x1)] := hl
  have ar_h_said := SaidD.al h_said
  refine lv_iconst (v := 0) hx hb dX12_count_0 (by decide) ?_
  refine lv_istore_n (lv' := [(2, .int 0), (0, .ref (Ma 0)), (1, .int x1)]) hx hb dX12_count_1 rfl hl (by decide) rfl (fun ls hl₀ => ?_)
  replace hl := hl₀
  clear hl₀
  refine lv_iload_n hx hb dX12_count_2 rfl (lv_at hl 2 rfl) ?_
  refine lv_topi (fun x_1 ex_1 => ?_)
  by_cases c_2 : x_1 = 0
  · skip
    subst c_2
    have sw_c_2 := congrArg Int32.toInt ex_1
    have swy_c_2 : (0 : Int32).toInt = 0 := by decide
    refine lv_tableIn (off := 77) (tgt := 80) hx hb dX12_count_3 (by decide) (by decide) (by decide) (by decide) ?_
    refine lv_aload_n hx hb dX12_count_80 rfl (lv_at hl 1 rfl) ?_
    refine gf_X12_39 hx hb hts hown hK hP 0 rfl rfl dX12_count_81 ?_
    refine lv_iload_n hx hb dX12_count_84 rfl (lv_at hl 2 rfl) ?_
    refine lv_iconst (v := 1) hx hb dX12_count_85 (by decide) ?_
    refine lv_iadd hx hb dX12_count_86 ?_
    refine lv_topi (fun x_3 ex_3 => ?_)
    have hi_4 : vp_in x_3 126 := by
      have y_1 : (1 : Int32).toInt = 1 := by decide
      have t_x_3 : x_3.toInt = (x1 : Int32).toInt + (1 : Int32).toInt := by rw [ex_3]; exact add_toInt (by omega) (by omega)
      refine vp_in_iff.mpr ⟨?_, ?_⟩ <;> omega
    refine va_iald hx hb hK hP 1 0 rfl rfl hi_4 dX12_count_87 ?_
    refine lv_topi (fun x_5 ex_5 => ?_)
    exact retI (v := x_5) hx hb hr hlk (rfl) hP hD hS () ⟨_, rfl, trivial⟩ [0, 1] rfl rfl dX12_count_88 (Nat.le_of_ble_eq_true rfl) (Nat.le_of_ble_eq_true rfl) rfl
  · skip
    by_cases c_6 : x_1 = 1
    · skip
      subst c_6
      have sw_c_6 := congrArg Int32.toInt ex_1
      have swy_c_6 : (1 : Int32).toInt = 1 := by decide
      refine lv_tableIn (off := 77) (tgt := 80) hx hb dX12_count_3 (by decide) (by decide) (by decide) (by decide) ?_
      refine lv_aload_n hx hb dX12_count_80 rfl (lv_at hl 1 rfl) ?_
      refine gf_X12_39 hx hb hts hown hK hP 0 rfl rfl dX12_count_81 ?_
      refine lv_iload_n hx hb dX12_count_84 rfl (lv_at hl 2 rfl) ?_
      refine lv_iconst (v := 1) hx hb dX12_count_85 (by decide) ?_
      refine lv_iadd hx hb dX12_count_86 ?_
      refine lv_topi (fun x_7 ex_7 => ?_)
      have hi_8 : vp_in x_7 126 := by
        have y_1 : (1 : Int32).toInt = 1 := by decide
        have t_x_7 : x_7.toInt = (x1 : Int32).toInt + (1 : Int32).toInt := by rw [ex_7]; exact add_toInt (by omega) (by omega)
        refine vp_in_iff.mpr ⟨?_, ?_⟩ <;> omega
      refine va_iald hx hb hK hP 1 0 rfl rfl hi_8 dX12_count_87 ?_
      refine lv_topi (fun x_9 ex_9 => ?_)
      exact retI (v := x_9) hx hb hr hlk (rfl) hP hD hS () ⟨_, rfl, trivial⟩ [0, 1] rfl rfl dX12_count_88 (Nat.le_of_ble_eq_true rfl) (Nat.le_of_ble_eq_true rfl) rfl
    · skip
      by_cases c_10 : x_1 = 2
      · skip
        subst c_10
        have sw_c_10 := congrArg Int32.toInt ex_1
        have swy_c_10 : (2 : Int32).toInt = 2 := by decide
        refine lv_tableIn (off := 77) (tgt := 80) hx hb dX12_count_3 (by decide) (by decide) (by decide) (by decide) ?_
        refine lv_aload_n hx hb dX12_count_80 rfl (lv_at hl 1 rfl) ?_
        refine gf_X12_39 hx hb hts hown hK hP 0 rfl rfl dX12_count_81 ?_
        refine lv_iload_n hx hb dX12_count_84 rfl (lv_at hl 2 rfl) ?_
        refine lv_iconst (v := 1) hx hb dX12_count_85 (by decide) ?_
        refine lv_iadd hx hb dX12_count_86 ?_
        refine lv_topi (fun x_11 ex_11 => ?_)
        have hi_12 : vp_in x_11 126 := by
          have y_1 : (1 : Int32).toInt = 1 := by decide
          have t_x_11 : x_11.toInt = (x1 : Int32).toInt + (1 : Int32).toInt := by rw [ex_11]; exact add_toInt (by omega) (by omega)
          refine vp_in_iff.mpr ⟨?_, ?_⟩ <;> omega
        refine va_iald hx hb hK hP 1 0 rfl rfl hi_12 dX12_count_87 ?_
        refine lv_topi (fun x_13 ex_13 => ?_)
        exact retI (v := x_13) hx hb hr hlk (rfl) hP hD hS () ⟨_, rfl, trivial⟩ [0, 1] rfl rfl dX12_count_88 (Nat.le_of_ble_eq_true rfl) (Nat.le_of_ble_eq_true rfl) rfl
      · skip
        by_cases c_14 : x_1 = 3
        · skip
          subst c_14
          have sw_c_14 := congrArg Int32.toInt ex_1
          have swy_c_14 : (3 : Int32).toInt = 3 := by decide
          refine lv_tableIn (off := 86) (tgt := 89) hx hb dX12_count_3 (by decide) (by decide) (by decide) (by decide) ?_
          refine lv_aload_n hx hb dX12_count_89 rfl (lv_at hl 1 rfl) ?_
          refine gf_X12_256 hx hb hts hown hK hP 0 rfl rfl dX12_count_90 ?_
          exact retI (v := (Mv 1)) hx hb hr hlk (rfl) hP hD hS () ⟨_, rfl, trivial⟩ [0, 1] rfl rfl dX12_count_93 (Nat.le_of_ble_eq_true rfl) (Nat.le_of_ble_eq_true rfl) rfl
        · skip
          by_cases c_15 : x_1 = 4
          · skip
            subst c_15
            have sw_c_15 := congrArg Int32.toInt ex_1
            have swy_c_15 : (4 : Int32).toInt = 4 := by decide
            refine lv_tableIn (off := 91) (tgt := 94) hx hb dX12_count_3 (by decide) (by decide) (by decide) (by decide) ?_
            refine lv_aload_n hx hb dX12_count_94 rfl (lv_at hl 1 rfl) ?_
            refine gf_X12_42 hx hb hts hown hK hP 0 rfl rfl dX12_count_95 ?_
            exact retI (v := (Mv 11)) hx hb hr hlk (rfl) hP hD hS () ⟨_, rfl, trivial⟩ [0, 1] rfl rfl dX12_count_98 (Nat.le_of_ble_eq_true rfl) (Nat.le_of_ble_eq_true rfl) rfl
          · skip
            by_cases c_16 : x_1 = 5
            · skip
              subst c_16
              have sw_c_16 := congrArg Int32.toInt ex_1
              have swy_c_16 : (5 : Int32).toInt = 5 := by decide
              refine lv_tableIn (off := 96) (tgt := 99) hx hb dX12_count_3 (by decide) (by decide) (by decide) (by decide) ?_
              refine lv_aload_n hx hb dX12_count_99 rfl (lv_at hl 1 rfl) ?_
              refine gf_X12_39 hx hb hts hown hK hP 0 rfl rfl dX12_count_100 ?_
              refine lv_bipush (v := 10) hx hb dX12_count_103 (by decide) ?_
              refine va_iald hx hb hK hP 1 0 rfl rfl (vin_dec (by decide +kernel)) dX12_count_105 ?_
              refine lv_topi (fun x_17 ex_17 => ?_)
              have lx_17 : x_17.toInt = ((Mf 10) 10).toInt := congrArg Int32.toInt ex_17
              exact retI (v := x_17) hx hb hr hlk (rfl) hP hD hS () ⟨_, rfl, trivial⟩ [0, 1] rfl rfl dX12_count_106 (Nat.le_of_ble_eq_true rfl) (Nat.le_of_ble_eq_true rfl) rfl
            · skip
              by_cases c_18 : x_1 = 6
              · skip
                subst c_18
                have sw_c_18 := congrArg Int32.toInt ex_1
                have swy_c_18 : (6 : Int32).toInt = 6 := by decide
                refine lv_tableIn (off := 104) (tgt := 107) hx hb dX12_count_3 (by decide) (by decide) (by decide) (by decide) ?_
                refine lv_aload_n hx hb dX12_count_107 rfl (lv_at hl 1 rfl) ?_
                refine cV (a := (Ma 0)) (As := []) (rest := []) (wr := []) ⟨hx, hb, hml, hown, hts⟩ hK hX hA (cu_X12_clock l D tc sk (Ma 0) (Ma 1) (Ma 2) (Ma 3) (Ma 4) (Ma 5) (Ma 6) (Ma 7) (Ma 8) (Ma 9) (Ma 10) (Ma 11) (Ma 12) (Ma 13) (Ma 14) (Ma 15) (Ma 16) (Ma 17) (Ma 18) (Ma 19) (Ma 20) (Mv 0) (Mv 1) (Mv 2) (Mv 3) (Mv 4) (Mv 5) (Mv 6) (Mv 7) (Mv 8) (Mv 9) (Mv 10) (Mv 11) (Mv 12) (Mv 13) (Mv 14) (Mf 10) (Mj 0) 999 h_said) k_1435 k_1432 k_1434 k_70 k_106 pl_X12_clock ⟨Nat.le_of_ble_eq_true rfl, Nat.le_of_ble_eq_true rfl⟩ rfl rfl (va_recv hK hP (ci := 12) (q0 := 0) rfl rfl) hP hD hS [0, 1] [] rfl rfl rfl rfl rfl (by decide) rfl hl.1 rfl (Nat.le_of_ble_eq_true rfl) dX12_count_108 ⟨Nat.le_of_ble_eq_true rfl, Nat.le_of_ble_eq_true rfl⟩ (fun v_19 u_20 H locs hv_21 hP₀ hD₀ hS₀ => ?_)
                obtain ⟨r_22, rfl, he_23⟩ := hv_21
                have he_23 : (0 ≤ r_22.toInt ∧ r_22.toInt < 10) := he_23
                refine W.eq (g2 := F0 m 111 ls [.int r_22]) rfl ?_
                replace hP : va_P D classes [((Ma 0), .inr (12, [.ref (Ma 1), .int (Mv 0), .int (Mv 1), .ref (Ma 2), .ref (Ma 3), .ref (Ma 4), .ref (Ma 5), .ref (Ma 6), .int (Mv 2), .int (Mv 3), .int (Mv 4), .int (Mv 5), .int (Mv 6), .int (Mv 7), .int (Mv 8), .ref (Ma 7), .int (Mv 9), .ref (Ma 8), .int (Mv 10), .ref (Ma 9), .ref (Ma 10), .int (Mv 11), .int (Mv 12), .int (Mv 13), .ref (Ma 11), .int (Mv 14), .ref (Ma 12), .ref (Ma 13), .ref (Ma 14), .ref (Ma 15), .ref (Ma 16), .long (Mj 0), .ref (Ma 17), .ref (Ma 18), .ref (Ma 19), .ref (Ma 20)])), ((Ma 10), .inl (tc 0, 126, .inl (Mf 10)))] H := hP₀
                replace hD : va_D A [((Ma 0), .inr (12, [.ref (Ma 1), .int (Mv 0), .int (Mv 1), .ref (Ma 2), .ref (Ma 3), .ref (Ma 4), .ref (Ma 5), .ref (Ma 6), .int (Mv 2), .int (Mv 3), .int (Mv 4), .int (Mv 5), .int (Mv 6), .int (Mv 7), .int (Mv 8), .ref (Ma 7), .int (Mv 9), .ref (Ma 8), .int (Mv 10), .ref (Ma 9), .ref (Ma 10), .int (Mv 11), .int (Mv 12), .int (Mv 13), .ref (Ma 11), .int (Mv 14), .ref (Ma 12), .ref (Ma 13), .ref (Ma 14), .ref (Ma 15), .ref (Ma 16), .long (Mj 0), .ref (Ma 17), .ref (Ma 18), .ref (Ma 19), .ref (Ma 20)])), ((Ma 10), .inl (tc 0, 126, .inl (Mf 10)))] := hD₀
                replace hS := hS₀
                clear hP₀ hD₀ hS₀
                exact retI (v := r_22) hx hb hr hlk (rfl) hP hD hS () ⟨_, rfl, trivial⟩ [0, 1] rfl rfl dX12_count_111 (Nat.le_of_ble_eq_true rfl) (Nat.le_of_ble_eq_true rfl) rfl
              · skip
                by_cases c_25 : x_1 = 7
                · skip
                  subst c_25
                  have sw_c_25 := congrArg Int32.toInt ex_1
                  have swy_c_25 : (7 : Int32).toInt = 7 := by decide
                  refine lv_tableIn (off := 109) (tgt := 112) hx hb dX12_count_3 (by decide) (by decide) (by decide) (by decide) ?_
                  refine lv_aload_n hx hb dX12_count_112 rfl (lv_at hl 1 rfl) ?_
                  refine gf_X12_39 hx hb hts hown hK hP 0 rfl rfl dX12_count_113 ?_
                  refine lv_bipush (v := 11) hx hb dX12_count_116 (by decide) ?_
                  refine va_iald hx hb hK hP 1 0 rfl rfl (vin_dec (by decide +kernel)) dX12_count_118 ?_
                  refine lv_topi (fun x_26 ex_26 => ?_)
                  have lx_26 : x_26.toInt = ((Mf 10) 11).toInt := congrArg Int32.toInt ex_26
                  exact retI (v := x_26) hx hb hr hlk (rfl) hP hD hS () ⟨_, rfl, trivial⟩ [0, 1] rfl rfl dX12_count_119 (Nat.le_of_ble_eq_true rfl) (Nat.le_of_ble_eq_true rfl) rfl
                · skip
                  by_cases c_27 : x_1 = 8
                  · skip
                    subst c_27
                    have sw_c_27 := congrArg Int32.toInt ex_1
                    have swy_c_27 : (8 : Int32).toInt = 8 := by decide
                    refine lv_tableIn (off := 117) (tgt := 120) hx hb dX12_count_3 (by decide) (by decide) (by decide) (by decide) ?_
                    refine lv_aload_n hx hb dX12_count_120 rfl (lv_at hl 1 rfl) ?_
                    refine gf_X12_39 hx hb hts hown hK hP 0 rfl rfl dX12_count_121 ?_
                    refine lv_bipush (v := 36) hx hb dX12_count_124 (by decide) ?_
                    refine lv_aload_n hx hb dX12_count_126 rfl (lv_at hl 1 rfl) ?_
                    refine cV (a := (Ma 0)) (As := []) (rest := [.int 36, .ref (Ma 10)]) (wr := []) ⟨hx, hb, hml, hown, hts⟩ hK hX hA (cu_X12_clock l D tc sk (Ma 0) (Ma 1) (Ma 2) (Ma 3) (Ma 4) (Ma 5) (Ma 6) (Ma 7) (Ma 8) (Ma 9) (Ma 10) (Ma 11) (Ma 12) (Ma 13) (Ma 14) (Ma 15) (Ma 16) (Ma 17) (Ma 18) (Ma 19) (Ma 20) (Mv 0) (Mv 1) (Mv 2) (Mv 3) (Mv 4) (Mv 5) (Mv 6) (Mv 7) (Mv 8) (Mv 9) (Mv 10) (Mv 11) (Mv 12) (Mv 13) (Mv 14) (Mf 10) (Mj 0) 999 h_said) k_1435 k_1432 k_1434 k_70 k_106 pl_X12_clock ⟨Nat.le_of_ble_eq_true rfl, Nat.le_of_ble_eq_true rfl⟩ rfl rfl (va_recv hK hP (ci := 12) (q0 := 0) rfl rfl) hP hD hS [0, 1] [] rfl rfl rfl rfl rfl (by decide) rfl hl.1 rfl (Nat.le_of_ble_eq_true rfl) dX12_count_127 ⟨Nat.le_of_ble_eq_true rfl, Nat.le_of_ble_eq_true rfl⟩ (fun v_28 u_29 H locs hv_30 hP₀ hD₀ hS₀ => ?_)
                    obtain ⟨r_31, rfl, he_32⟩ := hv_30
                    have he_32 : (0 ≤ r_31.toInt ∧ r_31.toInt < 10) := he_32
                    refine W.eq (g2 := F0 m 130 ls [.int r_31, .int 36, .ref (Ma 10)]) rfl ?_
                    replace hP : va_P D classes [((Ma 0), .inr (12, [.ref (Ma 1), .int (Mv 0), .int (Mv 1), .ref (Ma 2), .ref (Ma 3), .ref (Ma 4), .ref (Ma 5), .ref (Ma 6), .int (Mv 2), .int (Mv 3), .int (Mv 4), .int (Mv 5), .int (Mv 6), .int (Mv 7), .int (Mv 8), .ref (Ma 7), .int (Mv 9), .ref (Ma 8), .int (Mv 10), .ref (Ma 9), .ref (Ma 10), .int (Mv 11), .int (Mv 12), .int (Mv 13), .ref (Ma 11), .int (Mv 14), .ref (Ma 12), .ref (Ma 13), .ref (Ma 14), .ref (Ma 15), .ref (Ma 16), .long (Mj 0), .ref (Ma 17), .ref (Ma 18), .ref (Ma 19), .ref (Ma 20)])), ((Ma 10), .inl (tc 0, 126, .inl (Mf 10)))] H := hP₀
                    replace hD : va_D A [((Ma 0), .inr (12, [.ref (Ma 1), .int (Mv 0), .int (Mv 1), .ref (Ma 2), .ref (Ma 3), .ref (Ma 4), .ref (Ma 5), .ref (Ma 6), .int (Mv 2), .int (Mv 3), .int (Mv 4), .int (Mv 5), .int (Mv 6), .int (Mv 7), .int (Mv 8), .ref (Ma 7), .int (Mv 9), .ref (Ma 8), .int (Mv 10), .ref (Ma 9), .ref (Ma 10), .int (Mv 11), .int (Mv 12), .int (Mv 13), .ref (Ma 11), .int (Mv 14), .ref (Ma 12), .ref (Ma 13), .ref (Ma 14), .ref (Ma 15), .ref (Ma 16), .long (Mj 0), .ref (Ma 17), .ref (Ma 18), .ref (Ma 19), .ref (Ma 20)])), ((Ma 10), .inl (tc 0, 126, .inl (Mf 10)))] := hD₀
                    replace hS := hS₀
                    clear hP₀ hD₀ hS₀
                    refine lv_iadd hx hb dX12_count_130 ?_
                    refine lv_topi (fun x_34 ex_34 => ?_)
                    have hi_35 : vp_in x_34 126 := by
                      have y_36 : (36 : Int32).toInt = 36 := by decide
                      have t_x_34 : x_34.toInt = (36 : Int32).toInt + (r_31 : Int32).toInt := by rw [ex_34]; exact add_toInt (by omega) (by omega)
                      refine vp_in_iff.mpr ⟨?_, ?_⟩ <;> omega
                    refine va_iald hx hb hK hP 1 0 rfl rfl hi_35 dX12_count_131 ?_
                    refine lv_topi (fun x_36 ex_36 => ?_)
                    exact retI (v := x_36) hx hb hr hlk (rfl) hP hD hS () ⟨_, rfl, trivial⟩ [0, 1] rfl rfl dX12_count_132 (Nat.le_of_ble_eq_true rfl) (Nat.le_of_ble_eq_true rfl) rfl
                  · skip
                    by_cases c_37 : x_1 = 9
                    · skip
                      subst c_37
                      have sw_c_37 := congrArg Int32.toInt ex_1
                      have swy_c_37 : (9 : Int32).toInt = 9 := by decide
                      refine lv_tableIn (off := 130) (tgt := 133) hx hb dX12_count_3 (by decide) (by decide) (by decide) (by decide) ?_
                      refine lv_aload_n hx hb dX12_count_133 rfl (lv_at hl 1 rfl) ?_
                      refine cV (a := (Ma 0)) (As := []) (rest := []) (wr := []) ⟨hx, hb, hml, hown, hts⟩ hK hX hA (cu_X12_soldAll l D tc sk (Ma 0) (Ma 1) (Ma 2) (Ma 3) (Ma 4) (Ma 5) (Ma 6) (Ma 7) (Ma 8) (Ma 9) (Ma 10) (Ma 11) (Ma 12) (Ma 13) (Ma 14) (Ma 15) (Ma 16) (Ma 17) (Ma 18) (Ma 19) (Ma 20) (Mv 0) (Mv 1) (Mv 2) (Mv 3) (Mv 4) (Mv 5) (Mv 6) (Mv 7) (Mv 8) (Mv 9) (Mv 10) (Mv 11) (Mv 12) (Mv 13) (Mv 14) (Mf 10) (Mj 0) h_said.1) k_1439 k_1436 k_1438 k_71 k_106 pl_X12_soldAll ⟨Nat.le_of_ble_eq_true rfl, Nat.le_of_ble_eq_true rfl⟩ rfl rfl (va_recv hK hP (ci := 12) (q0 := 0) rfl rfl) hP hD hS [0, 1] [] rfl rfl rfl rfl rfl (by decide) rfl hl.1 rfl (Nat.le_of_ble_eq_true rfl) dX12_count_134 ⟨Nat.le_of_ble_eq_true rfl, Nat.le_of_ble_eq_true rfl⟩ (fun v_38 u_39 H locs hv_40 hP₀ hD₀ hS₀ => ?_)
                      obtain ⟨r_41, rfl, he_42⟩ := hv_40
                      refine W.eq (g2 := F0 m 137 ls [.int r_41]) rfl ?_
                      replace hP : va_P D classes [((Ma 0), .inr (12, [.ref (Ma 1), .int (Mv 0), .int (Mv 1), .ref (Ma 2), .ref (Ma 3), .ref (Ma 4), .ref (Ma 5), .ref (Ma 6), .int (Mv 2), .int (Mv 3), .int (Mv 4), .int (Mv 5), .int (Mv 6), .int (Mv 7), .int (Mv 8), .ref (Ma 7), .int (Mv 9), .ref (Ma 8), .int (Mv 10), .ref (Ma 9), .ref (Ma 10), .int (Mv 11), .int (Mv 12), .int (Mv 13), .ref (Ma 11), .int (Mv 14), .ref (Ma 12), .ref (Ma 13), .ref (Ma 14), .ref (Ma 15), .ref (Ma 16), .long (Mj 0), .ref (Ma 17), .ref (Ma 18), .ref (Ma 19), .ref (Ma 20)])), ((Ma 10), .inl (tc 0, 126, .inl (Mf 10)))] H := hP₀
                      replace hD : va_D A [((Ma 0), .inr (12, [.ref (Ma 1), .int (Mv 0), .int (Mv 1), .ref (Ma 2), .ref (Ma 3), .ref (Ma 4), .ref (Ma 5), .ref (Ma 6), .int (Mv 2), .int (Mv 3), .int (Mv 4), .int (Mv 5), .int (Mv 6), .int (Mv 7), .int (Mv 8), .ref (Ma 7), .int (Mv 9), .ref (Ma 8), .int (Mv 10), .ref (Ma 9), .ref (Ma 10), .int (Mv 11), .int (Mv 12), .int (Mv 13), .ref (Ma 11), .int (Mv 14), .ref (Ma 12), .ref (Ma 13), .ref (Ma 14), .ref (Ma 15), .ref (Ma 16), .long (Mj 0), .ref (Ma 17), .ref (Ma 18), .ref (Ma 19), .ref (Ma 20)])), ((Ma 10), .inl (tc 0, 126, .inl (Mf 10)))] := hD₀
                      replace hS := hS₀
                      clear hP₀ hD₀ hS₀
                      exact retI (v := r_41) hx hb hr hlk (rfl) hP hD hS () ⟨_, rfl, trivial⟩ [0, 1] rfl rfl dX12_count_137 (Nat.le_of_ble_eq_true rfl) (Nat.le_of_ble_eq_true rfl) rfl
                    · skip
                      by_cases c_44 : x_1 = 10
                      · skip
                        subst c_44
                        have sw_c_44 := congrArg Int32.toInt ex_1
                        have swy_c_44 : (10 : Int32).toInt = 10 := by decide
                        refine lv_tableIn (off := 135) (tgt := 138) hx hb dX12_count_3 (by decide) (by decide) (by decide) (by decide) ?_
                        refine lv_aload_n hx hb dX12_count_138 rfl (lv_at hl 1 rfl) ?_
                        refine cV (a := (Ma 0)) (As := []) (rest := []) (wr := []) ⟨hx, hb, hml, hown, hts⟩ hK hX hA (cu_X12_metAll l D tc sk (Ma 0) (Ma 1) (Ma 2) (Ma 3) (Ma 4) (Ma 5) (Ma 6) (Ma 7) (Ma 8) (Ma 9) (Ma 10) (Ma 11) (Ma 12) (Ma 13) (Ma 14) (Ma 15) (Ma 16) (Ma 17) (Ma 18) (Ma 19) (Ma 20) (Mv 0) (Mv 1) (Mv 2) (Mv 3) (Mv 4) (Mv 5) (Mv 6) (Mv 7) (Mv 8) (Mv 9) (Mv 10) (Mv 11) (Mv 12) (Mv 13) (Mv 14) (Mf 10) (Mj 0) h_said.1) k_1646 k_1643 k_1645 k_93 k_106 pl_X12_metAll ⟨Nat.le_of_ble_eq_true rfl, Nat.le_of_ble_eq_true rfl⟩ rfl rfl (va_recv hK hP (ci := 12) (q0 := 0) rfl rfl) hP hD hS [0, 1] [] rfl rfl rfl rfl rfl (by decide) rfl hl.1 rfl (Nat.le_of_ble_eq_true rfl) dX12_count_139 ⟨Nat.le_of_ble_eq_true rfl, Nat.le_of_ble_eq_true rfl⟩ (fun v_45 u_46 H locs hv_47 hP₀ hD₀ hS₀ => ?_)
                        obtain ⟨r_48, rfl, he_49⟩ := hv_47
                        refine W.eq (g2 := F0 m 142 ls [.int r_48]) rfl ?_
                        replace hP : va_P D classes [((Ma 0), .inr (12, [.ref (Ma 1), .int (Mv 0), .int (Mv 1), .ref (Ma 2), .ref (Ma 3), .ref (Ma 4), .ref (Ma 5), .ref (Ma 6), .int (Mv 2), .int (Mv 3), .int (Mv 4), .int (Mv 5), .int (Mv 6), .int (Mv 7), .int (Mv 8), .ref (Ma 7), .int (Mv 9), .ref (Ma 8), .int (Mv 10), .ref (Ma 9), .ref (Ma 10), .int (Mv 11), .int (Mv 12), .int (Mv 13), .ref (Ma 11), .int (Mv 14), .ref (Ma 12), .ref (Ma 13), .ref (Ma 14), .ref (Ma 15), .ref (Ma 16), .long (Mj 0), .ref (Ma 17), .ref (Ma 18), .ref (Ma 19), .ref (Ma 20)])), ((Ma 10), .inl (tc 0, 126, .inl (Mf 10)))] H := hP₀
                        replace hD : va_D A [((Ma 0), .inr (12, [.ref (Ma 1), .int (Mv 0), .int (Mv 1), .ref (Ma 2), .ref (Ma 3), .ref (Ma 4), .ref (Ma 5), .ref (Ma 6), .int (Mv 2), .int (Mv 3), .int (Mv 4), .int (Mv 5), .int (Mv 6), .int (Mv 7), .int (Mv 8), .ref (Ma 7), .int (Mv 9), .ref (Ma 8), .int (Mv 10), .ref (Ma 9), .ref (Ma 10), .int (Mv 11), .int (Mv 12), .int (Mv 13), .ref (Ma 11), .int (Mv 14), .ref (Ma 12), .ref (Ma 13), .ref (Ma 14), .ref (Ma 15), .ref (Ma 16), .long (Mj 0), .ref (Ma 17), .ref (Ma 18), .ref (Ma 19), .ref (Ma 20)])), ((Ma 10), .inl (tc 0, 126, .inl (Mf 10)))] := hD₀
                        replace hS := hS₀
                        clear hP₀ hD₀ hS₀
                        exact retI (v := r_48) hx hb hr hlk (rfl) hP hD hS () ⟨_, rfl, trivial⟩ [0, 1] rfl rfl dX12_count_142 (Nat.le_of_ble_eq_true rfl) (Nat.le_of_ble_eq_true rfl) rfl
                      · skip
                        by_cases c_51 : x_1 = 11
                        · skip
                          subst c_51
                          have sw_c_51 := congrArg Int32.toInt ex_1
                          have swy_c_51 : (11 : Int32).toInt = 11 := by decide
                          refine lv_tableIn (off := 140) (tgt := 143) hx hb dX12_count_3 (by decide) (by decide) (by decide) (by decide) ?_
                          refine lv_iconst (v := 0) hx hb dX12_count_143 (by decide) ?_
                          refine lv_istore_n (lv' := [(3, .int 0), (2, .int 0), (0, .ref (Ma 0)), (1, .int x1)]) hx hb dX12_count_144 rfl hl (by decide) rfl (fun ls hl₀ => ?_)
                          replace hl := hl₀
                          clear hl₀
                          have loop_58 : ∀ (n_56 : Nat) (vy_54 : Int32) (vy_55 : Int32) (H : Heap) (locs : List Loc) (ls : Array Slot), (6 - (vy_54 : Int32).toInt).toNat < n_56 → (0 ≤ (vy_54 : Int32).toInt) → va_P D classes [((Ma 0), .inr (12, [.ref (Ma 1), .int (Mv 0), .int (Mv 1), .ref (Ma 2), .ref (Ma 3), .ref (Ma 4), .ref (Ma 5), .ref (Ma 6), .int (Mv 2), .int (Mv 3), .int (Mv 4), .int (Mv 5), .int (Mv 6), .int (Mv 7), .int (Mv 8), .ref (Ma 7), .int (Mv 9), .ref (Ma 8), .int (Mv 10), .ref (Ma 9), .ref (Ma 10), .int (Mv 11), .int (Mv 12), .int (Mv 13), .ref (Ma 11), .int (Mv 14), .ref (Ma 12), .ref (Ma 13), .ref (Ma 14), .ref (Ma 15), .ref (Ma 16), .long (Mj 0), .ref (Ma 17), .ref (Ma 18), .ref (Ma 19), .ref (Ma 20)])), ((Ma 10), .inl (tc 0, 126, .inl (Mf 10)))] H → va_D A [((Ma 0), .inr (12, [.ref (Ma 1), .int (Mv 0), .int (Mv 1), .ref (Ma 2), .ref (Ma 3), .ref (Ma 4), .ref (Ma 5), .ref (Ma 6), .int (Mv 2), .int (Mv 3), .int (Mv 4), .int (Mv 5), .int (Mv 6), .int (Mv 7), .int (Mv 8), .ref (Ma 7), .int (Mv 9), .ref (Ma 8), .int (Mv 10), .ref (Ma 9), .ref (Ma 10), .int (Mv 11), .int (Mv 12), .int (Mv 13), .ref (Ma 11), .int (Mv 14), .ref (Ma 12), .ref (Ma 13), .ref (Ma 14), .ref (Ma 15), .ref (Ma 16), .long (Mj 0), .ref (Ma 17), .ref (Ma 18), .ref (Ma 19), .ref (Ma 20)])), ((Ma 10), .inl (tc 0, 126, .inl (Mf 10)))] → va_S A s.heap H locs → lv_has ls 4 [(3, .int vy_54), (2, .int vy_55), (0, .ref (Ma 0)), (1, .int x1)] → W p l e ({ frames := 2, cells := 0, slots := 0, locals := 43 }) s m ([.ref (Ma 0), .int x1].toArray) below meth c H locs 0 0 (MQ below (QW (fun (v : Option Value) (_ : Unit) => ∃ r : Int32, v = some (.int r) ∧ (True)) (BW D (fun (_ : Unit) => [((Ma 0), .inr (12, [.ref (Ma 1), .int (Mv 0), .int (Mv 1), .ref (Ma 2), .ref (Ma 3), .ref (Ma 4), .ref (Ma 5), .ref (Ma 6), .int (Mv 2), .int (Mv 3), .int (Mv 4), .int (Mv 5), .int (Mv 6), .int (Mv 7), .int (Mv 8), .ref (Ma 7), .int (Mv 9), .ref (Ma 8), .int (Mv 10), .ref (Ma 9), .ref (Ma 10), .int (Mv 11), .int (Mv 12), .int (Mv 13), .ref (Ma 11), .int (Mv 14), .ref (Ma 12), .ref (Ma 13), .ref (Ma 14), .ref (Ma 15), .ref (Ma 16), .long (Mj 0), .ref (Ma 17), .ref (Ma 18), .ref (Ma 19), .ref (Ma 20)])), ((Ma 10), .inl (tc 0, 126, .inl (Mf 10)))]) A) A) ([.ref (Ma 0), .int x1].toArray) s 0 0 A) (F0 m 145 ls []) := by
                            clear hP hD hS hl
                            intro n_56
                            induction n_56 with
                            | zero =>
                              intro vy_54 vy_55 H locs ls h1
                              exact absurd h1 (Nat.not_lt_zero _)
                            | succ n_56 ih_57 =>
                              intro vy_54 vy_55 H locs ls hn_60 pf_59 hP hD hS hl
                              refine lv_iload_n hx hb dX12_count_145 rfl (lv_at hl 0 rfl) ?_
                              refine lv_aload_n hx hb dX12_count_146 rfl (lv_at hl 2 rfl) ?_
                              refine gf_X12_39 hx hb hts hown hK hP 0 rfl rfl dX12_count_147 ?_
                              refine lv_iconst (v := 3) hx hb dX12_count_150 (by decide) ?_
                              refine va_iald hx hb hK hP 1 0 rfl rfl (vin_dec (by decide +kernel)) dX12_count_151 ?_
                              refine lv_topi (fun x_61 ex_61 => ?_)
                              have lx_61 : x_61.toInt = ((Mf 10) 3).toInt := congrArg Int32.toInt ex_61
                              refine lv_icmp_ge (tgt := 179) hx hb dX12_count_152 (by decide) (fun c_62 => ?_) (fun c_62 => ?_)
                              · skip
                                refine lv_iload_n hx hb dX12_count_179 rfl (lv_at hl 1 rfl) ?_
                                exact retI (v := vy_55) hx hb hr hlk (rfl) hP hD hS () ⟨_, rfl, trivial⟩ [0, 1] rfl rfl dX12_count_180 (Nat.le_of_ble_eq_true rfl) (Nat.le_of_ble_eq_true rfl) rfl
                              · skip
                                refine lv_iload_n hx hb dX12_count_155 rfl (lv_at hl 1 rfl) ?_
                                refine lv_aload_n hx hb dX12_count_156 rfl (lv_at hl 2 rfl) ?_
                                refine lv_iload_n hx hb dX12_count_157 rfl (lv_at hl 0 rfl) ?_
                                have ha_63 : 0 ≤ vy_54.toInt ∧ vy_54.toInt < 6 := by
                                  have z_1 := Int32.lt_iff_toInt_lt.mp (Int32.not_le.mp c_62)
                                  refine ⟨?_, ?_⟩ <;> omega
                                refine cV (a := (Ma 0)) (As := [.int vy_54]) (rest := [.int vy_55]) (wr := []) ⟨hx, hb, hml, hown, hts⟩ hK hX hA (cu_X12_canBuy l D tc sk (Ma 0) (Ma 1) (Ma 2) (Ma 3) (Ma 4) (Ma 5) (Ma 6) (Ma 7) (Ma 8) (Ma 9) (Ma 10) (Ma 11) (Ma 12) (Ma 13) (Ma 14) (Ma 15) (Ma 16) (Ma 17) (Ma 18) (Ma 19) (Ma 20) (Mv 0) (Mv 1) (Mv 2) (Mv 3) (Mv 4) (Mv 5) (Mv 6) (Mv 7) (Mv 8) (Mv 9) (Mv 10) (Mv 11) (Mv 12) (Mv 13) (Mv 14) (Mf 10) (Mj 0) vy_54 ha_63) k_1427 k_1424 k_1426 k_68 k_106 pl_X12_canBuy ⟨Nat.le_of_ble_eq_true rfl, Nat.le_of_ble_eq_true rfl⟩ rfl rfl (va_recv hK hP (ci := 12) (q0 := 0) rfl rfl) hP hD hS [0, 1] [] rfl rfl rfl rfl rfl (by decide) rfl hl.1 rfl (Nat.le_of_ble_eq_true rfl) dX12_count_158 ⟨Nat.le_of_ble_eq_true rfl, Nat.le_of_ble_eq_true rfl⟩ (fun v_64 u_65 H locs hv_66 hP₀ hD₀ hS₀ => ?_)
                                obtain ⟨r_67, rfl, he_68⟩ := hv_66
                                have he_68 : (r_67.toInt = 0 ∨ r_67.toInt = 1) := he_68
                                refine W.eq (g2 := F0 m 161 ls [.int r_67, .int vy_55]) rfl ?_
                                replace hP : va_P D classes [((Ma 0), .inr (12, [.ref (Ma 1), .int (Mv 0), .int (Mv 1), .ref (Ma 2), .ref (Ma 3), .ref (Ma 4), .ref (Ma 5), .ref (Ma 6), .int (Mv 2), .int (Mv 3), .int (Mv 4), .int (Mv 5), .int (Mv 6), .int (Mv 7), .int (Mv 8), .ref (Ma 7), .int (Mv 9), .ref (Ma 8), .int (Mv 10), .ref (Ma 9), .ref (Ma 10), .int (Mv 11), .int (Mv 12), .int (Mv 13), .ref (Ma 11), .int (Mv 14), .ref (Ma 12), .ref (Ma 13), .ref (Ma 14), .ref (Ma 15), .ref (Ma 16), .long (Mj 0), .ref (Ma 17), .ref (Ma 18), .ref (Ma 19), .ref (Ma 20)])), ((Ma 10), .inl (tc 0, 126, .inl (Mf 10)))] H := hP₀
                                replace hD : va_D A [((Ma 0), .inr (12, [.ref (Ma 1), .int (Mv 0), .int (Mv 1), .ref (Ma 2), .ref (Ma 3), .ref (Ma 4), .ref (Ma 5), .ref (Ma 6), .int (Mv 2), .int (Mv 3), .int (Mv 4), .int (Mv 5), .int (Mv 6), .int (Mv 7), .int (Mv 8), .ref (Ma 7), .int (Mv 9), .ref (Ma 8), .int (Mv 10), .ref (Ma 9), .ref (Ma 10), .int (Mv 11), .int (Mv 12), .int (Mv 13), .ref (Ma 11), .int (Mv 14), .ref (Ma 12), .ref (Ma 13), .ref (Ma 14), .ref (Ma 15), .ref (Ma 16), .long (Mj 0), .ref (Ma 17), .ref (Ma 18), .ref (Ma 19), .ref (Ma 20)])), ((Ma 10), .inl (tc 0, 126, .inl (Mf 10)))] := hD₀
                                replace hS := hS₀
                                clear hP₀ hD₀ hS₀
                                refine lv_if_eq (tgt := 170) hx hb dX12_count_161 (by decide) (fun c_70 => ?_) (fun c_70 => ?_)
                                · skip
                                  refine lv_iconst (v := 0) hx hb dX12_count_170 (by decide) ?_
                                  refine lv_ior hx hb dX12_count_171 ?_
                                  refine lv_topi (fun x_71 ex_71 => ?_)
                                  refine lv_istore_n (lv' := [(2, .int x_71), (3, .int vy_54), (0, .ref (Ma 0)), (1, .int x1)]) hx hb dX12_count_172 rfl hl (by decide) rfl (fun ls hl₀ => ?_)
                                  replace hl := hl₀
                                  clear hl₀
                                  obtain ⟨x_72, ex_72⟩ : ∃ y : Int32, y = vy_54 + 1 := ⟨_, rfl⟩
                                  refine lv_iinc (v := x_72) (lv' := [(3, .int x_72), (2, .int x_71), (0, .ref (Ma 0)), (1, .int x1)]) hx hb dX12_count_173 hl (k := 1) rfl (by rw [ex_72]; rfl) (by decide) rfl (fun ls hl₀ => ?_)
                                  replace hl := hl₀
                                  clear hl₀
                                  refine lv_goto (tgt := 145) hx hb dX12_count_176 (by decide) ?_
                                  have hb_73 : 6 - (x_72 : Int32).toInt < 6 - (vy_54 : Int32).toInt ∧ 1 ≤ 6 - (vy_54 : Int32).toInt := by
                                    have z_1 := Int32.lt_iff_toInt_lt.mp (Int32.not_le.mp c_62)
                                    have z_2 := congrArg Int32.toInt c_70
                                    have y_0 : (0 : Int32).toInt = 0 := by decide
                                    have y_1 : (1 : Int32).toInt = 1 := by decide
                                    have t_x_72 : x_72.toInt = (vy_54 : Int32).toInt + (1 : Int32).toInt := by rw [ex_72]; exact add_toInt (by omega) (by omega)
                                    refine ⟨?_, ?_⟩ <;> omega
                                  have ha_74 : 0 ≤ (x_72 : Int32).toInt := by
                                    have z_1 := Int32.lt_iff_toInt_lt.mp (Int32.not_le.mp c_62)
                                    have z_2 := congrArg Int32.toInt c_70
                                    have y_0 : (0 : Int32).toInt = 0 := by decide
                                    have y_1 : (1 : Int32).toInt = 1 := by decide
                                    have t_x_72 : x_72.toInt = (vy_54 : Int32).toInt + (1 : Int32).toInt := by rw [ex_72]; exact add_toInt (by omega) (by omega)
                                    omega
                                  exact ih_57 x_72 x_71 _ _ _ (by omega) ha_74 (hP.sub [0, 1] rfl) (hD.sub [0, 1] rfl rfl) hS (lv_sub hl [0, 1, 2, 3] rfl)
                                · skip
                                  refine lv_iconst (v := 1) hx hb dX12_count_164 (by decide) ?_
                                  refine lv_iload_n hx hb dX12_count_165 rfl (lv_at hl 0 rfl) ?_
                                  refine lv_ishl hx hb dX12_count_166 ?_
                                  refine lv_topi (fun x_75 ex_75 => ?_)
                                  refine lv_goto (tgt := 171) hx hb dX12_count_167 (by decide) ?_
                                  refine lv_ior hx hb dX12_count_171 ?_
                                  refine lv_topi (fun x_76 ex_76 => ?_)
                                  refine lv_istore_n (lv' := [(2, .int x_76), (3, .int vy_54), (0, .ref (Ma 0)), (1, .int x1)]) hx hb dX12_count_172 rfl hl (by decide) rfl (fun ls hl₀ => ?_)
                                  replace hl := hl₀
                                  clear hl₀
                                  obtain ⟨x_77, ex_77⟩ : ∃ y : Int32, y = vy_54 + 1 := ⟨_, rfl⟩
                                  refine lv_iinc (v := x_77) (lv' := [(3, .int x_77), (2, .int x_76), (0, .ref (Ma 0)), (1, .int x1)]) hx hb dX12_count_173 hl (k := 1) rfl (by rw [ex_77]; rfl) (by decide) rfl (fun ls hl₀ => ?_)
                                  replace hl := hl₀
                                  clear hl₀
                                  refine lv_goto (tgt := 145) hx hb dX12_count_176 (by decide) ?_
                                  have hb_78 : 6 - (x_77 : Int32).toInt < 6 - (vy_54 : Int32).toInt ∧ 1 ≤ 6 - (vy_54 : Int32).toInt := by
                                    have z_1 := Int32.lt_iff_toInt_lt.mp (Int32.not_le.mp c_62)
                                    have z_2 : ¬ (r_67 : Int32).toInt = (0 : Int32).toInt := fun z => c_70 (Int32.toInt_inj.mp z)
                                    have y_0 : (0 : Int32).toInt = 0 := by decide
                                    have y_1 : (1 : Int32).toInt = 1 := by decide
                                    have t_x_77 : x_77.toInt = (vy_54 : Int32).toInt + (1 : Int32).toInt := by rw [ex_77]; exact add_toInt (by omega) (by omega)
                                    refine ⟨?_, ?_⟩ <;> omega
                                  have ha_79 : 0 ≤ (x_77 : Int32).toInt := by
                                    have z_1 := Int32.lt_iff_toInt_lt.mp (Int32.not_le.mp c_62)
                                    have z_2 : ¬ (r_67 : Int32).toInt = (0 : Int32).toInt := fun z => c_70 (Int32.toInt_inj.mp z)
                                    have y_0 : (0 : Int32).toInt = 0 := by decide
                                    have y_1 : (1 : Int32).toInt = 1 := by decide
                                    have t_x_77 : x_77.toInt = (vy_54 : Int32).toInt + (1 : Int32).toInt := by rw [ex_77]; exact add_toInt (by omega) (by omega)
                                    omega
                                  exact ih_57 x_77 x_76 _ _ _ (by omega) ha_79 (hP.sub [0, 1] rfl) (hD.sub [0, 1] rfl rfl) hS (lv_sub hl [0, 1, 2, 3] rfl)
                          have ha_80 : 0 ≤ (0 : Int32).toInt := by
                            have y_0 : (0 : Int32).toInt = 0 := by decide
                            omega
                          exact loop_58 _ 0 0 _ _ _ (Nat.lt_succ_self _) ha_80 hP hD hS hl
                        · skip
                          by_cases c_81 : x_1 = 12
                          · skip
                            subst c_81
                            have sw_c_81 := congrArg Int32.toInt ex_1
                            have swy_c_81 : (12 : Int32).toInt = 12 := by decide
                            refine lv_tableIn (off := 178) (tgt := 181) hx hb dX12_count_3 (by decide) (by decide) (by decide) (by decide) ?_
                            refine lv_aload_n hx hb dX12_count_181 rfl (lv_at hl 1 rfl) ?_
                            refine gf_X12_39 hx hb hts hown hK hP 0 rfl rfl dX12_count_182 ?_
                            refine lv_bipush (v := 125) hx hb dX12_count_185 (by decide) ?_
                            refine va_iald hx hb hK hP 1 0 rfl rfl (vin_dec (by decide +kernel)) dX12_count_187 ?_
                            refine lv_topi (fun x_82 ex_82 => ?_)
                            have lx_82 : x_82.toInt = ((Mf 10) 125).toInt := congrArg Int32.toInt ex_82
                            exact retI (v := x_82) hx hb hr hlk (rfl) hP hD hS () ⟨_, rfl, trivial⟩ [0, 1] rfl rfl dX12_count_188 (Nat.le_of_ble_eq_true rfl) (Nat.le_of_ble_eq_true rfl) rfl
                          · skip
                            by_cases c_83 : x_1 = 13
                            · skip
                              subst c_83
                              have sw_c_83 := congrArg Int32.toInt ex_1
                              have swy_c_83 : (13 : Int32).toInt = 13 := by decide
                              refine lv_tableIn (off := 186) (tgt := 189) hx hb dX12_count_3 (by decide) (by decide) (by decide) (by decide) ?_
                              refine lv_aload_n hx hb dX12_count_189 rfl (lv_at hl 1 rfl) ?_
                              refine gf_X12_265 hx hb hts hown hK hP 0 rfl rfl dX12_count_190 ?_
                              exact retI (v := (Mv 14)) hx hb hr hlk (rfl) hP hD hS () ⟨_, rfl, trivial⟩ [0, 1] rfl rfl dX12_count_193 (Nat.le_of_ble_eq_true rfl) (Nat.le_of_ble_eq_true rfl) rfl
                            · skip
                              by_cases c_84 : x_1 = 14
                              · skip
                                subst c_84
                                have sw_c_84 := congrArg Int32.toInt ex_1
                                have swy_c_84 : (14 : Int32).toInt = 14 := by decide
                                refine lv_tableIn (off := 191) (tgt := 194) hx hb dX12_count_3 (by decide) (by decide) (by decide) (by decide) ?_
                                refine lv_aload_n hx hb dX12_count_194 rfl (lv_at hl 1 rfl) ?_
                                refine gf_X12_414 hx hb hts hown hK hP 0 rfl rfl dX12_count_195 ?_
                                exact retI (v := (Mv 12)) hx hb hr hlk (rfl) hP hD hS () ⟨_, rfl, trivial⟩ [0, 1] rfl rfl dX12_count_198 (Nat.le_of_ble_eq_true rfl) (Nat.le_of_ble_eq_true rfl) rfl
                              · skip
                                by_cases c_85 : x_1 = 15
                                · skip
                                  subst c_85
                                  have sw_c_85 := congrArg Int32.toInt ex_1
                                  have swy_c_85 : (15 : Int32).toInt = 15 := by decide
                                  refine lv_tableIn (off := 196) (tgt := 199) hx hb dX12_count_3 (by decide) (by decide) (by decide) (by decide) ?_
                                  refine lv_aload_n hx hb dX12_count_199 rfl (lv_at hl 1 rfl) ?_
                                  refine gf_X12_77 hx hb hts hown hK hP 0 rfl rfl dX12_count_200 ?_
                                  exact retI (v := (Mv 0)) hx hb hr hlk (rfl) hP hD hS () ⟨_, rfl, trivial⟩ [0, 1] rfl rfl dX12_count_203 (Nat.le_of_ble_eq_true rfl) (Nat.le_of_ble_eq_true rfl) rfl
                                · skip
                                  have ho_86 : (x_1 : Int32).toInt < 0 ∨ 15 < (x_1 : Int32).toInt := by
                                    have z_1 : ¬ (x_1 : Int32).toInt = (0 : Int32).toInt := fun z => c_2 (Int32.toInt_inj.mp z)
                                    have z_2 : ¬ (x_1 : Int32).toInt = (1 : Int32).toInt := fun z => c_6 (Int32.toInt_inj.mp z)
                                    have z_3 : ¬ (x_1 : Int32).toInt = (2 : Int32).toInt := fun z => c_10 (Int32.toInt_inj.mp z)
                                    have z_4 : ¬ (x_1 : Int32).toInt = (3 : Int32).toInt := fun z => c_14 (Int32.toInt_inj.mp z)
                                    have z_5 : ¬ (x_1 : Int32).toInt = (4 : Int32).toInt := fun z => c_15 (Int32.toInt_inj.mp z)
                                    have z_6 : ¬ (x_1 : Int32).toInt = (5 : Int32).toInt := fun z => c_16 (Int32.toInt_inj.mp z)
                                    have z_7 : ¬ (x_1 : Int32).toInt = (6 : Int32).toInt := fun z => c_18 (Int32.toInt_inj.mp z)
                                    have z_8 : ¬ (x_1 : Int32).toInt = (7 : Int32).toInt := fun z => c_25 (Int32.toInt_inj.mp z)
                                    have z_9 : ¬ (x_1 : Int32).toInt = (8 : Int32).toInt := fun z => c_27 (Int32.toInt_inj.mp z)
                                    have z_10 : ¬ (x_1 : Int32).toInt = (9 : Int32).toInt := fun z => c_37 (Int32.toInt_inj.mp z)
                                    have z_11 : ¬ (x_1 : Int32).toInt = (10 : Int32).toInt := fun z => c_44 (Int32.toInt_inj.mp z)
                                    have z_12 : ¬ (x_1 : Int32).toInt = (11 : Int32).toInt := fun z => c_51 (Int32.toInt_inj.mp z)
                                    have z_13 : ¬ (x_1 : Int32).toInt = (12 : Int32).toInt := fun z => c_81 (Int32.toInt_inj.mp z)
                                    have z_14 : ¬ (x_1 : Int32).toInt = (13 : Int32).toInt := fun z => c_83 (Int32.toInt_inj.mp z)
                                    have z_15 : ¬ (x_1 : Int32).toInt = (14 : Int32).toInt := fun z => c_84 (Int32.toInt_inj.mp z)
                                    have z_16 : ¬ (x_1 : Int32).toInt = (15 : Int32).toInt := fun z => c_85 (Int32.toInt_inj.mp z)
                                    have y_0 : (0 : Int32).toInt = 0 := by decide
                                    have y_1 : (1 : Int32).toInt = 1 := by decide
                                    have y_2 : (2 : Int32).toInt = 2 := by decide
                                    have y_3 : (3 : Int32).toInt = 3 := by decide
                                    have y_4 : (4 : Int32).toInt = 4 := by decide
                                    have y_5 : (5 : Int32).toInt = 5 := by decide
                                    have y_6 : (6 : Int32).toInt = 6 := by decide
                                    have y_7 : (7 : Int32).toInt = 7 := by decide
                                    have y_8 : (8 : Int32).toInt = 8 := by decide
                                    have y_9 : (9 : Int32).toInt = 9 := by decide
                                    have y_10 : (10 : Int32).toInt = 10 := by decide
                                    have y_11 : (11 : Int32).toInt = 11 := by decide
                                    have y_12 : (12 : Int32).toInt = 12 := by decide
                                    have y_13 : (13 : Int32).toInt = 13 := by decide
                                    have y_14 : (14 : Int32).toInt = 14 := by decide
                                    have y_15 : (15 : Int32).toInt = 15 := by decide
                                    omega
                                  refine lv_tableOut (tgt := 204) hx hb dX12_count_3 ho_86 (by decide) ?_
                                  refine lv_iconst (v := (-1)) hx hb dX12_count_204 (by decide) ?_
                                  exact retI (v := (-1)) hx hb hr hlk (rfl) hP hD hS () ⟨_, rfl, trivial⟩ [0, 1] rfl rfl dX12_count_205 (Nat.le_of_ble_eq_true rfl) (Nat.le_of_ble_eq_true rfl) rfl
set_option maxHeartbeats 4000000 in
set_option maxRecDepth 100000 in
theorem ct_X12_buyer {T : Nat → Option Int32} (l : Launch) (D : va_G) (tc : Nat → ClassId) (sk : (Nat → Nat) × (Nat → Nat)) (Ma : Nat → Nat) (Mv : Nat → Int32) (Mf : Nat → Nat → Int32) (Mj : Nat → Int64) (x1 : Int32) (x2 : Int32) (h_said : SaidB T (Mf 10)) : Ct l yX12_buyer cX12_buyer 3 (some .int) { frames := 2, cells := 0, slots := 0, locals := 43 } D tc sk [.ref (Ma 0), .int x1, .int x2] [((Ma 0), .inr (12, [.ref (Ma 1), .int (Mv 0), .int (Mv 1), .ref (Ma 2), .ref (Ma 3), .ref (Ma 4), .ref (Ma 5), .ref (Ma 6), .int (Mv 2), .int (Mv 3), .int (Mv 4), .int (Mv 5), .int (Mv 6), .int (Mv 7), .int (Mv 8), .ref (Ma 7), .int (Mv 9), .ref (Ma 8), .int (Mv 10), .ref (Ma 9), .ref (Ma 10), .int (Mv 11), .int (Mv 12), .int (Mv 13), .ref (Ma 11), .int (Mv 14), .ref (Ma 12), .ref (Ma 13), .ref (Ma 14), .ref (Ma 15), .ref (Ma 16), .long (Mj 0), .ref (Ma 17), .ref (Ma 18), .ref (Ma 19), .ref (Ma 20)])), ((Ma 10), .inl (tc 0, 126, .inl (Mf 10)))] (fun (v : Option Value) (_ : Unit) => ∃ r : Int32, v = some (.int r) ∧ (True)) (fun (_ : Unit) => [((Ma 0), .inr (12, [.ref (Ma 1), .int (Mv 0), .int (Mv 1), .ref (Ma 2), .ref (Ma 3), .ref (Ma 4), .ref (Ma 5), .ref (Ma 6), .int (Mv 2), .int (Mv 3), .int (Mv 4), .int (Mv 5), .int (Mv 6), .int (Mv 7), .int (Mv 8), .ref (Ma 7), .int (Mv 9), .ref (Ma 8), .int (Mv 10), .ref (Ma 9), .ref (Ma 10), .int (Mv 11), .int (Mv 12), .int (Mv 13), .ref (Ma 11), .int (Mv 14), .ref (Ma 12), .ref (Ma 13), .ref (Ma 14), .ref (Ma 15), .ref (Ma 16), .long (Mj 0), .ref (Ma 17), .ref (Ma 18), .ref (Ma 19), .ref (Ma 20)])), ((Ma 10), .inl (tc 0, 126, .inl (Mf 10)))]) 0 0 := by
  refine Ct.start (by decide) (Nat.le_of_ble_eq_true rfl) (fun p e s m below meth c A ls hx hb hr hlk hin hml hown hts hK hX hP hD hA hl hS => ?_)
  have hl : lv_has ls 3 [(0, .ref (Ma 0)), (1, .int x1), (2, .int x2)] := hl
  have ar_h_said := SaidB.al h_said
  refine lv_aload_n hx hb dX12_buyer_0 rfl (lv_at hl 0 rfl) ?_
  refine lv_iload_n hx hb dX12_buyer_1 rfl (lv_at hl 1 rfl) ?_
  refine cV (a := (Ma 0)) (As := [.int x1]) (rest := []) (wr := []) ⟨hx, hb, hml, hown, hts⟩ hK hX hA (cu_X12_isBuyer l D tc sk (Ma 0) (Ma 1) (Ma 2) (Ma 3) (Ma 4) (Ma 5) (Ma 6) (Ma 7) (Ma 8) (Ma 9) (Ma 10) (Ma 11) (Ma 12) (Ma 13) (Ma 14) (Ma 15) (Ma 16) (Ma 17) (Ma 18) (Ma 19) (Ma 20) (Mv 0) (Mv 1) (Mv 2) (Mv 3) (Mv 4) (Mv 5) (Mv 6) (Mv 7) (Mv 8) (Mv 9) (Mv 10) (Mv 11) (Mv 12) (Mv 13) (Mv 14) (Mf 10) (Mj 0) x1 h_said) k_1375 k_1372 k_1374 k_58 k_106 pl_X12_isBuyer ⟨Nat.le_of_ble_eq_true rfl, Nat.le_of_ble_eq_true rfl⟩ rfl rfl (va_recv hK hP (ci := 12) (q0 := 0) rfl rfl) hP hD hS [0, 1] [] rfl rfl rfl rfl rfl (by decide) rfl hl.1 rfl (Nat.le_of_ble_eq_true rfl) dX12_buyer_2 ⟨Nat.le_of_ble_eq_true rfl, Nat.le_of_ble_eq_true rfl⟩ (fun v_1 u_2 H locs hv_3 hP₀ hD₀ hS₀ => ?_)
  obtain ⟨r_4, rfl, he_5⟩ := hv_3
  have he_5 : (r_4.toInt = 0 ∨ (r_4.toInt = 1 ∧ 0 ≤ x1.toInt ∧ x1.toInt < ((Mf 10) 3).toInt)) := he_5
  refine W.eq (g2 := F0 m 5 ls [.int r_4]) rfl ?_
  replace hP : va_P D classes [((Ma 0), .inr (12, [.ref (Ma 1), .int (Mv 0), .int (Mv 1), .ref (Ma 2), .ref (Ma 3), .ref (Ma 4), .ref (Ma 5), .ref (Ma 6), .int (Mv 2), .int (Mv 3), .int (Mv 4), .int (Mv 5), .int (Mv 6), .int (Mv 7), .int (Mv 8), .ref (Ma 7), .int (Mv 9), .ref (Ma 8), .int (Mv 10), .ref (Ma 9), .ref (Ma 10), .int (Mv 11), .int (Mv 12), .int (Mv 13), .ref (Ma 11), .int (Mv 14), .ref (Ma 12), .ref (Ma 13), .ref (Ma 14), .ref (Ma 15), .ref (Ma 16), .long (Mj 0), .ref (Ma 17), .ref (Ma 18), .ref (Ma 19), .ref (Ma 20)])), ((Ma 10), .inl (tc 0, 126, .inl (Mf 10)))] H := hP₀
  replace hD : va_D A [((Ma 0), .inr (12, [.ref (Ma 1), .int (Mv 0), .int (Mv 1), .ref (Ma 2), .ref (Ma 3), .ref (Ma 4), .ref (Ma 5), .ref (Ma 6), .int (Mv 2), .int (Mv 3), .int (Mv 4), .int (Mv 5), .int (Mv 6), .int (Mv 7), .int (Mv 8), .ref (Ma 7), .int (Mv 9), .ref (Ma 8), .int (Mv 10), .ref (Ma 9), .ref (Ma 10), .int (Mv 11), .int (Mv 12), .int (Mv 13), .ref (Ma 11), .int (Mv 14), .ref (Ma 12), .ref (Ma 13), .ref (Ma 14), .ref (Ma 15), .ref (Ma 16), .long (Mj 0), .ref (Ma 17), .ref (Ma 18), .ref (Ma 19), .ref (Ma 20)])), ((Ma 10), .inl (tc 0, 126, .inl (Mf 10)))] := hD₀
  replace hS := hS₀
  clear hP₀ hD₀ hS₀
  refine lv_if_ne (tgt := 10) hx hb dX12_buyer_5 (by decide) (fun c_7 => ?_) (fun c_7 => ?_)
  · skip
    refine lv_iload_n hx hb dX12_buyer_10 rfl (lv_at hl 2 rfl) ?_
    refine lv_topi (fun x_8 ex_8 => ?_)
    by_cases c_9 : x_8 = 0
    · skip
      subst c_9
      refine lv_tableIn (off := 37) (tgt := 48) hx hb dX12_buyer_11 (by decide) (by decide) (by decide) (by decide) ?_
      refine lv_aload_n hx hb dX12_buyer_48 rfl (lv_at hl 0 rfl) ?_
      refine lv_iload_n hx hb dX12_buyer_49 rfl (lv_at hl 1 rfl) ?_
      have ha_10 : 0 ≤ x1.toInt ∧ x1.toInt < 6 := by
        have z_1 : ¬ (r_4 : Int32).toInt = (0 : Int32).toInt := fun z => c_7 (Int32.toInt_inj.mp z)
        have y_0 : (0 : Int32).toInt = 0 := by decide
        refine ⟨?_, ?_⟩ <;> omega
      refine cV (a := (Ma 0)) (As := [.int x1]) (rest := []) (wr := []) ⟨hx, hb, hml, hown, hts⟩ hK hX hA (cu_X12_temperOf l D tc sk (Ma 0) (Ma 1) (Ma 2) (Ma 3) (Ma 4) (Ma 5) (Ma 6) (Ma 7) (Ma 8) (Ma 9) (Ma 10) (Ma 11) (Ma 12) (Ma 13) (Ma 14) (Ma 15) (Ma 16) (Ma 17) (Ma 18) (Ma 19) (Ma 20) (Mv 0) (Mv 1) (Mv 2) (Mv 3) (Mv 4) (Mv 5) (Mv 6) (Mv 7) (Mv 8) (Mv 9) (Mv 10) (Mv 11) (Mv 12) (Mv 13) (Mv 14) (Mf 10) (Mj 0) x1 ha_10) k_1379 k_1376 k_1378 k_59 k_106 pl_X12_temperOf ⟨Nat.le_of_ble_eq_true rfl, Nat.le_of_ble_eq_true rfl⟩ rfl rfl (va_recv hK hP (ci := 12) (q0 := 0) rfl rfl) hP hD hS [0, 1] [] rfl rfl rfl rfl rfl (by decide) rfl hl.1 rfl (Nat.le_of_ble_eq_true rfl) dX12_buyer_50 ⟨Nat.le_of_ble_eq_true rfl, Nat.le_of_ble_eq_true rfl⟩ (fun v_11 u_12 H locs hv_13 hP₀ hD₀ hS₀ => ?_)
      obtain ⟨r_14, rfl, he_15⟩ := hv_13
      refine W.eq (g2 := F0 m 53 ls [.int r_14]) rfl ?_
      replace hP : va_P D classes [((Ma 0), .inr (12, [.ref (Ma 1), .int (Mv 0), .int (Mv 1), .ref (Ma 2), .ref (Ma 3), .ref (Ma 4), .ref (Ma 5), .ref (Ma 6), .int (Mv 2), .int (Mv 3), .int (Mv 4), .int (Mv 5), .int (Mv 6), .int (Mv 7), .int (Mv 8), .ref (Ma 7), .int (Mv 9), .ref (Ma 8), .int (Mv 10), .ref (Ma 9), .ref (Ma 10), .int (Mv 11), .int (Mv 12), .int (Mv 13), .ref (Ma 11), .int (Mv 14), .ref (Ma 12), .ref (Ma 13), .ref (Ma 14), .ref (Ma 15), .ref (Ma 16), .long (Mj 0), .ref (Ma 17), .ref (Ma 18), .ref (Ma 19), .ref (Ma 20)])), ((Ma 10), .inl (tc 0, 126, .inl (Mf 10)))] H := hP₀
      replace hD : va_D A [((Ma 0), .inr (12, [.ref (Ma 1), .int (Mv 0), .int (Mv 1), .ref (Ma 2), .ref (Ma 3), .ref (Ma 4), .ref (Ma 5), .ref (Ma 6), .int (Mv 2), .int (Mv 3), .int (Mv 4), .int (Mv 5), .int (Mv 6), .int (Mv 7), .int (Mv 8), .ref (Ma 7), .int (Mv 9), .ref (Ma 8), .int (Mv 10), .ref (Ma 9), .ref (Ma 10), .int (Mv 11), .int (Mv 12), .int (Mv 13), .ref (Ma 11), .int (Mv 14), .ref (Ma 12), .ref (Ma 13), .ref (Ma 14), .ref (Ma 15), .ref (Ma 16), .long (Mj 0), .ref (Ma 17), .ref (Ma 18), .ref (Ma 19), .ref (Ma 20)])), ((Ma 10), .inl (tc 0, 126, .inl (Mf 10)))] := hD₀
      replace hS := hS₀
      clear hP₀ hD₀ hS₀
      exact retI (v := r_14) hx hb hr hlk (rfl) hP hD hS () ⟨_, rfl, trivial⟩ [0, 1] rfl rfl dX12_buyer_53 (Nat.le_of_ble_eq_true rfl) (Nat.le_of_ble_eq_true rfl) rfl
    · skip
      by_cases c_17 : x_8 = 1
      · skip
        subst c_17
        refine lv_tableIn (off := 43) (tgt := 54) hx hb dX12_buyer_11 (by decide) (by decide) (by decide) (by decide) ?_
        refine lv_aload_n hx hb dX12_buyer_54 rfl (lv_at hl 0 rfl) ?_
        refine gf_X12_39 hx hb hts hown hK hP 0 rfl rfl dX12_buyer_55 ?_
        refine lv_bipush (v := 56) hx hb dX12_buyer_58 (by decide) ?_
        refine lv_iload_n hx hb dX12_buyer_60 rfl (lv_at hl 1 rfl) ?_
        refine lv_iadd hx hb dX12_buyer_61 ?_
        refine lv_topi (fun x_18 ex_18 => ?_)
        have hi_19 : vp_in x_18 126 := by
          have z_1 : ¬ (r_4 : Int32).toInt = (0 : Int32).toInt := fun z => c_7 (Int32.toInt_inj.mp z)
          have y_0 : (0 : Int32).toInt = 0 := by decide
          have y_56 : (56 : Int32).toInt = 56 := by decide
          have t_x_18 : x_18.toInt = (56 : Int32).toInt + (x1 : Int32).toInt := by rw [ex_18]; exact add_toInt (by omega) (by omega)
          refine vp_in_iff.mpr ⟨?_, ?_⟩ <;> omega
        refine va_iald hx hb hK hP 1 0 rfl rfl hi_19 dX12_buyer_62 ?_
        refine lv_topi (fun x_20 ex_20 => ?_)
        exact retI (v := x_20) hx hb hr hlk (rfl) hP hD hS () ⟨_, rfl, trivial⟩ [0, 1] rfl rfl dX12_buyer_63 (Nat.le_of_ble_eq_true rfl) (Nat.le_of_ble_eq_true rfl) rfl
      · skip
        by_cases c_21 : x_8 = 2
        · skip
          subst c_21
          refine lv_tableIn (off := 53) (tgt := 64) hx hb dX12_buyer_11 (by decide) (by decide) (by decide) (by decide) ?_
          refine lv_aload_n hx hb dX12_buyer_64 rfl (lv_at hl 0 rfl) ?_
          refine gf_X12_39 hx hb hts hown hK hP 0 rfl rfl dX12_buyer_65 ?_
          refine lv_bipush (v := 62) hx hb dX12_buyer_68 (by decide) ?_
          refine lv_iload_n hx hb dX12_buyer_70 rfl (lv_at hl 1 rfl) ?_
          refine lv_iadd hx hb dX12_buyer_71 ?_
          refine lv_topi (fun x_22 ex_22 => ?_)
          have hi_23 : vp_in x_22 126 := by
            have z_1 : ¬ (r_4 : Int32).toInt = (0 : Int32).toInt := fun z => c_7 (Int32.toInt_inj.mp z)
            have y_0 : (0 : Int32).toInt = 0 := by decide
            have y_62 : (62 : Int32).toInt = 62 := by decide
            have t_x_22 : x_22.toInt = (62 : Int32).toInt + (x1 : Int32).toInt := by rw [ex_22]; exact add_toInt (by omega) (by omega)
            refine vp_in_iff.mpr ⟨?_, ?_⟩ <;> omega
          refine va_iald hx hb hK hP 1 0 rfl rfl hi_23 dX12_buyer_72 ?_
          refine lv_topi (fun x_24 ex_24 => ?_)
          exact retI (v := x_24) hx hb hr hlk (rfl) hP hD hS () ⟨_, rfl, trivial⟩ [0, 1] rfl rfl dX12_buyer_73 (Nat.le_of_ble_eq_true rfl) (Nat.le_of_ble_eq_true rfl) rfl
        · skip
          by_cases c_25 : x_8 = 3
          · skip
            subst c_25
            refine lv_tableIn (off := 63) (tgt := 74) hx hb dX12_buyer_11 (by decide) (by decide) (by decide) (by decide) ?_
            refine lv_aload_n hx hb dX12_buyer_74 rfl (lv_at hl 0 rfl) ?_
            refine lv_iload_n hx hb dX12_buyer_75 rfl (lv_at hl 1 rfl) ?_
            have ha_26 : 0 ≤ x1.toInt ∧ x1.toInt < 6 := by
              have z_1 : ¬ (r_4 : Int32).toInt = (0 : Int32).toInt := fun z => c_7 (Int32.toInt_inj.mp z)
              have y_0 : (0 : Int32).toInt = 0 := by decide
              refine ⟨?_, ?_⟩ <;> omega
            refine cV (a := (Ma 0)) (As := [.int x1]) (rest := []) (wr := []) ⟨hx, hb, hml, hown, hts⟩ hK hX hA (cu_X12_boughtBy l D tc sk (Ma 0) (Ma 1) (Ma 2) (Ma 3) (Ma 4) (Ma 5) (Ma 6) (Ma 7) (Ma 8) (Ma 9) (Ma 10) (Ma 11) (Ma 12) (Ma 13) (Ma 14) (Ma 15) (Ma 16) (Ma 17) (Ma 18) (Ma 19) (Ma 20) (Mv 0) (Mv 1) (Mv 2) (Mv 3) (Mv 4) (Mv 5) (Mv 6) (Mv 7) (Mv 8) (Mv 9) (Mv 10) (Mv 11) (Mv 12) (Mv 13) (Mv 14) (Mf 10) (Mj 0) x1 ha_26) k_1383 k_1380 k_1382 k_60 k_106 pl_X12_boughtBy ⟨Nat.le_of_ble_eq_true rfl, Nat.le_of_ble_eq_true rfl⟩ rfl rfl (va_recv hK hP (ci := 12) (q0 := 0) rfl rfl) hP hD hS [0, 1] [] rfl rfl rfl rfl rfl (by decide) rfl hl.1 rfl (Nat.le_of_ble_eq_true rfl) dX12_buyer_76 ⟨Nat.le_of_ble_eq_true rfl, Nat.le_of_ble_eq_true rfl⟩ (fun v_27 u_28 H locs hv_29 hP₀ hD₀ hS₀ => ?_)
            obtain ⟨r_30, rfl, he_31⟩ := hv_29
            refine W.eq (g2 := F0 m 79 ls [.int r_30]) rfl ?_
            replace hP : va_P D classes [((Ma 0), .inr (12, [.ref (Ma 1), .int (Mv 0), .int (Mv 1), .ref (Ma 2), .ref (Ma 3), .ref (Ma 4), .ref (Ma 5), .ref (Ma 6), .int (Mv 2), .int (Mv 3), .int (Mv 4), .int (Mv 5), .int (Mv 6), .int (Mv 7), .int (Mv 8), .ref (Ma 7), .int (Mv 9), .ref (Ma 8), .int (Mv 10), .ref (Ma 9), .ref (Ma 10), .int (Mv 11), .int (Mv 12), .int (Mv 13), .ref (Ma 11), .int (Mv 14), .ref (Ma 12), .ref (Ma 13), .ref (Ma 14), .ref (Ma 15), .ref (Ma 16), .long (Mj 0), .ref (Ma 17), .ref (Ma 18), .ref (Ma 19), .ref (Ma 20)])), ((Ma 10), .inl (tc 0, 126, .inl (Mf 10)))] H := hP₀
            replace hD : va_D A [((Ma 0), .inr (12, [.ref (Ma 1), .int (Mv 0), .int (Mv 1), .ref (Ma 2), .ref (Ma 3), .ref (Ma 4), .ref (Ma 5), .ref (Ma 6), .int (Mv 2), .int (Mv 3), .int (Mv 4), .int (Mv 5), .int (Mv 6), .int (Mv 7), .int (Mv 8), .ref (Ma 7), .int (Mv 9), .ref (Ma 8), .int (Mv 10), .ref (Ma 9), .ref (Ma 10), .int (Mv 11), .int (Mv 12), .int (Mv 13), .ref (Ma 11), .int (Mv 14), .ref (Ma 12), .ref (Ma 13), .ref (Ma 14), .ref (Ma 15), .ref (Ma 16), .long (Mj 0), .ref (Ma 17), .ref (Ma 18), .ref (Ma 19), .ref (Ma 20)])), ((Ma 10), .inl (tc 0, 126, .inl (Mf 10)))] := hD₀
            replace hS := hS₀
            clear hP₀ hD₀ hS₀
            exact retI (v := r_30) hx hb hr hlk (rfl) hP hD hS () ⟨_, rfl, trivial⟩ [0, 1] rfl rfl dX12_buyer_79 (Nat.le_of_ble_eq_true rfl) (Nat.le_of_ble_eq_true rfl) rfl
          · skip
            by_cases c_33 : x_8 = 4
            · skip
              subst c_33
              refine lv_tableIn (off := 69) (tgt := 80) hx hb dX12_buyer_11 (by decide) (by decide) (by decide) (by decide) ?_
              refine lv_aload_n hx hb dX12_buyer_80 rfl (lv_at hl 0 rfl) ?_
              refine lv_iload_n hx hb dX12_buyer_81 rfl (lv_at hl 1 rfl) ?_
              have ha_34 : 0 ≤ x1.toInt ∧ x1.toInt < 6 := by
                have z_1 : ¬ (r_4 : Int32).toInt = (0 : Int32).toInt := fun z => c_7 (Int32.toInt_inj.mp z)
                have y_0 : (0 : Int32).toInt = 0 := by decide
                refine ⟨?_, ?_⟩ <;> omega
              refine cV (a := (Ma 0)) (As := [.int x1]) (rest := []) (wr := []) ⟨hx, hb, hml, hown, hts⟩ hK hX hA (cu_X12_metOf l D tc sk (Ma 0) (Ma 1) (Ma 2) (Ma 3) (Ma 4) (Ma 5) (Ma 6) (Ma 7) (Ma 8) (Ma 9) (Ma 10) (Ma 11) (Ma 12) (Ma 13) (Ma 14) (Ma 15) (Ma 16) (Ma 17) (Ma 18) (Ma 19) (Ma 20) (Mv 0) (Mv 1) (Mv 2) (Mv 3) (Mv 4) (Mv 5) (Mv 6) (Mv 7) (Mv 8) (Mv 9) (Mv 10) (Mv 11) (Mv 12) (Mv 13) (Mv 14) (Mf 10) (Mj 0) x1 ha_34) k_1387 k_1384 k_1386 k_61 k_106 pl_X12_metOf ⟨Nat.le_of_ble_eq_true rfl, Nat.le_of_ble_eq_true rfl⟩ rfl rfl (va_recv hK hP (ci := 12) (q0 := 0) rfl rfl) hP hD hS [0, 1] [] rfl rfl rfl rfl rfl (by decide) rfl hl.1 rfl (Nat.le_of_ble_eq_true rfl) dX12_buyer_82 ⟨Nat.le_of_ble_eq_true rfl, Nat.le_of_ble_eq_true rfl⟩ (fun v_35 u_36 H locs hv_37 hP₀ hD₀ hS₀ => ?_)
              obtain ⟨r_38, rfl, he_39⟩ := hv_37
              refine W.eq (g2 := F0 m 85 ls [.int r_38]) rfl ?_
              replace hP : va_P D classes [((Ma 0), .inr (12, [.ref (Ma 1), .int (Mv 0), .int (Mv 1), .ref (Ma 2), .ref (Ma 3), .ref (Ma 4), .ref (Ma 5), .ref (Ma 6), .int (Mv 2), .int (Mv 3), .int (Mv 4), .int (Mv 5), .int (Mv 6), .int (Mv 7), .int (Mv 8), .ref (Ma 7), .int (Mv 9), .ref (Ma 8), .int (Mv 10), .ref (Ma 9), .ref (Ma 10), .int (Mv 11), .int (Mv 12), .int (Mv 13), .ref (Ma 11), .int (Mv 14), .ref (Ma 12), .ref (Ma 13), .ref (Ma 14), .ref (Ma 15), .ref (Ma 16), .long (Mj 0), .ref (Ma 17), .ref (Ma 18), .ref (Ma 19), .ref (Ma 20)])), ((Ma 10), .inl (tc 0, 126, .inl (Mf 10)))] H := hP₀
              replace hD : va_D A [((Ma 0), .inr (12, [.ref (Ma 1), .int (Mv 0), .int (Mv 1), .ref (Ma 2), .ref (Ma 3), .ref (Ma 4), .ref (Ma 5), .ref (Ma 6), .int (Mv 2), .int (Mv 3), .int (Mv 4), .int (Mv 5), .int (Mv 6), .int (Mv 7), .int (Mv 8), .ref (Ma 7), .int (Mv 9), .ref (Ma 8), .int (Mv 10), .ref (Ma 9), .ref (Ma 10), .int (Mv 11), .int (Mv 12), .int (Mv 13), .ref (Ma 11), .int (Mv 14), .ref (Ma 12), .ref (Ma 13), .ref (Ma 14), .ref (Ma 15), .ref (Ma 16), .long (Mj 0), .ref (Ma 17), .ref (Ma 18), .ref (Ma 19), .ref (Ma 20)])), ((Ma 10), .inl (tc 0, 126, .inl (Mf 10)))] := hD₀
              replace hS := hS₀
              clear hP₀ hD₀ hS₀
              exact retI (v := r_38) hx hb hr hlk (rfl) hP hD hS () ⟨_, rfl, trivial⟩ [0, 1] rfl rfl dX12_buyer_85 (Nat.le_of_ble_eq_true rfl) (Nat.le_of_ble_eq_true rfl) rfl
            · skip
              by_cases c_41 : x_8 = 5
              · skip
                subst c_41
                refine lv_tableIn (off := 75) (tgt := 86) hx hb dX12_buyer_11 (by decide) (by decide) (by decide) (by decide) ?_
                refine lv_aload_n hx hb dX12_buyer_86 rfl (lv_at hl 0 rfl) ?_
                refine lv_iload_n hx hb dX12_buyer_87 rfl (lv_at hl 1 rfl) ?_
                have ha_42 : 0 ≤ x1.toInt ∧ x1.toInt < 6 := by
                  have z_1 : ¬ (r_4 : Int32).toInt = (0 : Int32).toInt := fun z => c_7 (Int32.toInt_inj.mp z)
                  have y_0 : (0 : Int32).toInt = 0 := by decide
                  refine ⟨?_, ?_⟩ <;> omega
                refine cV (a := (Ma 0)) (As := [.int x1]) (rest := []) (wr := []) ⟨hx, hb, hml, hown, hts⟩ hK hX hA (cu_X12_sinceOf l D tc sk (Ma 0) (Ma 1) (Ma 2) (Ma 3) (Ma 4) (Ma 5) (Ma 6) (Ma 7) (Ma 8) (Ma 9) (Ma 10) (Ma 11) (Ma 12) (Ma 13) (Ma 14) (Ma 15) (Ma 16) (Ma 17) (Ma 18) (Ma 19) (Ma 20) (Mv 0) (Mv 1) (Mv 2) (Mv 3) (Mv 4) (Mv 5) (Mv 6) (Mv 7) (Mv 8) (Mv 9) (Mv 10) (Mv 11) (Mv 12) (Mv 13) (Mv 14) (Mf 10) (Mj 0) x1 ha_42) k_1391 k_1388 k_1390 k_62 k_106 pl_X12_sinceOf ⟨Nat.le_of_ble_eq_true rfl, Nat.le_of_ble_eq_true rfl⟩ rfl rfl (va_recv hK hP (ci := 12) (q0 := 0) rfl rfl) hP hD hS [0, 1] [] rfl rfl rfl rfl rfl (by decide) rfl hl.1 rfl (Nat.le_of_ble_eq_true rfl) dX12_buyer_88 ⟨Nat.le_of_ble_eq_true rfl, Nat.le_of_ble_eq_true rfl⟩ (fun v_43 u_44 H locs hv_45 hP₀ hD₀ hS₀ => ?_)
                obtain ⟨r_46, rfl, he_47⟩ := hv_45
                refine W.eq (g2 := F0 m 91 ls [.int r_46]) rfl ?_
                replace hP : va_P D classes [((Ma 0), .inr (12, [.ref (Ma 1), .int (Mv 0), .int (Mv 1), .ref (Ma 2), .ref (Ma 3), .ref (Ma 4), .ref (Ma 5), .ref (Ma 6), .int (Mv 2), .int (Mv 3), .int (Mv 4), .int (Mv 5), .int (Mv 6), .int (Mv 7), .int (Mv 8), .ref (Ma 7), .int (Mv 9), .ref (Ma 8), .int (Mv 10), .ref (Ma 9), .ref (Ma 10), .int (Mv 11), .int (Mv 12), .int (Mv 13), .ref (Ma 11), .int (Mv 14), .ref (Ma 12), .ref (Ma 13), .ref (Ma 14), .ref (Ma 15), .ref (Ma 16), .long (Mj 0), .ref (Ma 17), .ref (Ma 18), .ref (Ma 19), .ref (Ma 20)])), ((Ma 10), .inl (tc 0, 126, .inl (Mf 10)))] H := hP₀
                replace hD : va_D A [((Ma 0), .inr (12, [.ref (Ma 1), .int (Mv 0), .int (Mv 1), .ref (Ma 2), .ref (Ma 3), .ref (Ma 4), .ref (Ma 5), .ref (Ma 6), .int (Mv 2), .int (Mv 3), .int (Mv 4), .int (Mv 5), .int (Mv 6), .int (Mv 7), .int (Mv 8), .ref (Ma 7), .int (Mv 9), .ref (Ma 8), .int (Mv 10), .ref (Ma 9), .ref (Ma 10), .int (Mv 11), .int (Mv 12), .int (Mv 13), .ref (Ma 11), .int (Mv 14), .ref (Ma 12), .ref (Ma 13), .ref (Ma 14), .ref (Ma 15), .ref (Ma 16), .long (Mj 0), .ref (Ma 17), .ref (Ma 18), .ref (Ma 19), .ref (Ma 20)])), ((Ma 10), .inl (tc 0, 126, .inl (Mf 10)))] := hD₀
                replace hS := hS₀
                clear hP₀ hD₀ hS₀
                exact retI (v := r_46) hx hb hr hlk (rfl) hP hD hS () ⟨_, rfl, trivial⟩ [0, 1] rfl rfl dX12_buyer_91 (Nat.le_of_ble_eq_true rfl) (Nat.le_of_ble_eq_true rfl) rfl
              · skip
                have ho_49 : (x_8 : Int32).toInt < 0 ∨ 5 < (x_8 : Int32).toInt := by
                  have z_1 : ¬ (r_4 : Int32).toInt = (0 : Int32).toInt := fun z => c_7 (Int32.toInt_inj.mp z)
                  have z_2 : ¬ (x_8 : Int32).toInt = (0 : Int32).toInt := fun z => c_9 (Int32.toInt_inj.mp z)
                  have z_3 : ¬ (x_8 : Int32).toInt = (1 : Int32).toInt := fun z => c_17 (Int32.toInt_inj.mp z)
                  have z_4 : ¬ (x_8 : Int32).toInt = (2 : Int32).toInt := fun z => c_21 (Int32.toInt_inj.mp z)
                  have z_5 : ¬ (x_8 : Int32).toInt = (3 : Int32).toInt := fun z => c_25 (Int32.toInt_inj.mp z)
                  have z_6 : ¬ (x_8 : Int32).toInt = (4 : Int32).toInt := fun z => c_33 (Int32.toInt_inj.mp z)
                  have z_7 : ¬ (x_8 : Int32).toInt = (5 : Int32).toInt := fun z => c_41 (Int32.toInt_inj.mp z)
                  have y_0 : (0 : Int32).toInt = 0 := by decide
                  have y_1 : (1 : Int32).toInt = 1 := by decide
                  have y_2 : (2 : Int32).toInt = 2 := by decide
                  have y_3 : (3 : Int32).toInt = 3 := by decide
                  have y_4 : (4 : Int32).toInt = 4 := by decide
                  have y_5 : (5 : Int32).toInt = 5 := by decide
                  omega
                refine lv_tableOut (tgt := 92) hx hb dX12_buyer_11 ho_49 (by decide) ?_
                refine lv_iconst (v := (-1)) hx hb dX12_buyer_92 (by decide) ?_
                exact retI (v := (-1)) hx hb hr hlk (rfl) hP hD hS () ⟨_, rfl, trivial⟩ [0, 1] rfl rfl dX12_buyer_93 (Nat.le_of_ble_eq_true rfl) (Nat.le_of_ble_eq_true rfl) rfl
  · skip
    refine lv_iconst (v := (-1)) hx hb dX12_buyer_8 (by decide) ?_
    exact retI (v := (-1)) hx hb hr hlk (rfl) hP hD hS () ⟨_, rfl, trivial⟩ [0, 1] rfl rfl dX12_buyer_9 (Nat.le_of_ble_eq_true rfl) (Nat.le_of_ble_eq_true rfl) rfl
set_option maxHeartbeats 4000000 in
set_option maxRecDepth 100000 in
theorem ct_X12_sky {T : Nat → Option Int32} (l : Launch) (D : va_G) (tc : Nat → ClassId) (sk : (Nat → Nat) × (Nat → Nat)) (Ma : Nat → Nat) (Mv : Nat → Int32) (Mf : Nat → Nat → Int32) (Mj : Nat → Int64) (x1 : Int32) (x2 : Int32) (h_said : SaidB T (Mf 10)) : Ct l yX12_sky cX12_sky 3 (some .int) { frames := 2, cells := 0, slots := 0, locals := 41 } D tc sk [.ref (Ma 0), .int x1, .int x2] [((Ma 0), .inr (12, [.ref (Ma 1), .int (Mv 0), .int (Mv 1), .ref (Ma 2), .ref (Ma 3), .ref (Ma 4), .ref (Ma 5), .ref (Ma 6), .int (Mv 2), .int (Mv 3), .int (Mv 4), .int (Mv 5), .int (Mv 6), .int (Mv 7), .int (Mv 8), .ref (Ma 7), .int (Mv 9), .ref (Ma 8), .int (Mv 10), .ref (Ma 9), .ref (Ma 10), .int (Mv 11), .int (Mv 12), .int (Mv 13), .ref (Ma 11), .int (Mv 14), .ref (Ma 12), .ref (Ma 13), .ref (Ma 14), .ref (Ma 15), .ref (Ma 16), .long (Mj 0), .ref (Ma 17), .ref (Ma 18), .ref (Ma 19), .ref (Ma 20)])), ((Ma 10), .inl (tc 0, 126, .inl (Mf 10)))] (fun (v : Option Value) (_ : Unit) => ∃ r : Int32, v = some (.int r) ∧ (True)) (fun (_ : Unit) => [((Ma 0), .inr (12, [.ref (Ma 1), .int (Mv 0), .int (Mv 1), .ref (Ma 2), .ref (Ma 3), .ref (Ma 4), .ref (Ma 5), .ref (Ma 6), .int (Mv 2), .int (Mv 3), .int (Mv 4), .int (Mv 5), .int (Mv 6), .int (Mv 7), .int (Mv 8), .ref (Ma 7), .int (Mv 9), .ref (Ma 8), .int (Mv 10), .ref (Ma 9), .ref (Ma 10), .int (Mv 11), .int (Mv 12), .int (Mv 13), .ref (Ma 11), .int (Mv 14), .ref (Ma 12), .ref (Ma 13), .ref (Ma 14), .ref (Ma 15), .ref (Ma 16), .long (Mj 0), .ref (Ma 17), .ref (Ma 18), .ref (Ma 19), .ref (Ma 20)])), ((Ma 10), .inl (tc 0, 126, .inl (Mf 10)))]) 0 0 := by
  refine Ct.start (by decide) (Nat.le_of_ble_eq_true rfl) (fun p e s m below meth c A ls hx hb hr hlk hin hml hown hts hK hX hP hD hA hl hS => ?_)
  have hl : lv_has ls 3 [(0, .ref (Ma 0)), (1, .int x1), (2, .int x2)] := hl
  have ar_h_said := SaidB.al h_said
  refine lv_aload_n hx hb dX12_sky_0 rfl (lv_at hl 0 rfl) ?_
  refine lv_iload_n hx hb dX12_sky_1 rfl (lv_at hl 1 rfl) ?_
  refine cV (a := (Ma 0)) (As := [.int x1]) (rest := []) (wr := []) ⟨hx, hb, hml, hown, hts⟩ hK hX hA (cu_X12_isClock l D tc sk (Ma 0) (Ma 1) (Ma 2) (Ma 3) (Ma 4) (Ma 5) (Ma 6) (Ma 7) (Ma 8) (Ma 9) (Ma 10) (Ma 11) (Ma 12) (Ma 13) (Ma 14) (Ma 15) (Ma 16) (Ma 17) (Ma 18) (Ma 19) (Ma 20) (Mv 0) (Mv 1) (Mv 2) (Mv 3) (Mv 4) (Mv 5) (Mv 6) (Mv 7) (Mv 8) (Mv 9) (Mv 10) (Mv 11) (Mv 12) (Mv 13) (Mv 14) (Mf 10) (Mj 0) x1 h_said) k_1403 k_1400 k_1402 k_64 k_106 pl_X12_isClock ⟨Nat.le_of_ble_eq_true rfl, Nat.le_of_ble_eq_true rfl⟩ rfl rfl (va_recv hK hP (ci := 12) (q0 := 0) rfl rfl) hP hD hS [0, 1] [] rfl rfl rfl rfl rfl (by decide) rfl hl.1 rfl (Nat.le_of_ble_eq_true rfl) dX12_sky_2 ⟨Nat.le_of_ble_eq_true rfl, Nat.le_of_ble_eq_true rfl⟩ (fun v_1 u_2 H locs hv_3 hP₀ hD₀ hS₀ => ?_)
  obtain ⟨r_4, rfl, he_5⟩ := hv_3
  have he_5 : (r_4.toInt = 0 ∨ (r_4.toInt = 1 ∧ 0 ≤ x1.toInt ∧ x1.toInt < ((Mf 10) 2).toInt ∧ ((Mf 10) 2).toInt ≤ 10)) := he_5
  refine W.eq (g2 := F0 m 5 ls [.int r_4]) rfl ?_
  replace hP : va_P D classes [((Ma 0), .inr (12, [.ref (Ma 1), .int (Mv 0), .int (Mv 1), .ref (Ma 2), .ref (Ma 3), .ref (Ma 4), .ref (Ma 5), .ref (Ma 6), .int (Mv 2), .int (Mv 3), .int (Mv 4), .int (Mv 5), .int (Mv 6), .int (Mv 7), .int (Mv 8), .ref (Ma 7), .int (Mv 9), .ref (Ma 8), .int (Mv 10), .ref (Ma 9), .ref (Ma 10), .int (Mv 11), .int (Mv 12), .int (Mv 13), .ref (Ma 11), .int (Mv 14), .ref (Ma 12), .ref (Ma 13), .ref (Ma 14), .ref (Ma 15), .ref (Ma 16), .long (Mj 0), .ref (Ma 17), .ref (Ma 18), .ref (Ma 19), .ref (Ma 20)])), ((Ma 10), .inl (tc 0, 126, .inl (Mf 10)))] H := hP₀
  replace hD : va_D A [((Ma 0), .inr (12, [.ref (Ma 1), .int (Mv 0), .int (Mv 1), .ref (Ma 2), .ref (Ma 3), .ref (Ma 4), .ref (Ma 5), .ref (Ma 6), .int (Mv 2), .int (Mv 3), .int (Mv 4), .int (Mv 5), .int (Mv 6), .int (Mv 7), .int (Mv 8), .ref (Ma 7), .int (Mv 9), .ref (Ma 8), .int (Mv 10), .ref (Ma 9), .ref (Ma 10), .int (Mv 11), .int (Mv 12), .int (Mv 13), .ref (Ma 11), .int (Mv 14), .ref (Ma 12), .ref (Ma 13), .ref (Ma 14), .ref (Ma 15), .ref (Ma 16), .long (Mj 0), .ref (Ma 17), .ref (Ma 18), .ref (Ma 19), .ref (Ma 20)])), ((Ma 10), .inl (tc 0, 126, .inl (Mf 10)))] := hD₀
  replace hS := hS₀
  clear hP₀ hD₀ hS₀
  refine lv_if_eq (tgt := 18) hx hb dX12_sky_5 (by decide) (fun c_7 => ?_) (fun c_7 => ?_)
  · skip
    refine lv_iconst (v := (-1)) hx hb dX12_sky_18 (by decide) ?_
    exact retI (v := (-1)) hx hb hr hlk (rfl) hP hD hS () ⟨_, rfl, trivial⟩ [0, 1] rfl rfl dX12_sky_19 (Nat.le_of_ble_eq_true rfl) (Nat.le_of_ble_eq_true rfl) rfl
  · skip
    refine lv_iload_n hx hb dX12_sky_8 rfl (lv_at hl 2 rfl) ?_
    refine lv_i2l (v := (x2).toInt64) hx hb dX12_sky_9 rfl ?_
    refine lv_lconst (v := 0) hx hb dX12_sky_10 (by decide) ?_
    refine lv_lconst (v := 1) hx hb dX12_sky_11 (by decide) ?_
    refine cS (As := [.long (x2).toInt64, .long 0, .long 1]) (rest := []) (wr := [((Ma 0), .inr (12, [.ref (Ma 1), .int (Mv 0), .int (Mv 1), .ref (Ma 2), .ref (Ma 3), .ref (Ma 4), .ref (Ma 5), .ref (Ma 6), .int (Mv 2), .int (Mv 3), .int (Mv 4), .int (Mv 5), .int (Mv 6), .int (Mv 7), .int (Mv 8), .ref (Ma 7), .int (Mv 9), .ref (Ma 8), .int (Mv 10), .ref (Ma 9), .ref (Ma 10), .int (Mv 11), .int (Mv 12), .int (Mv 13), .ref (Ma 11), .int (Mv 14), .ref (Ma 12), .ref (Ma 13), .ref (Ma 14), .ref (Ma 15), .ref (Ma 16), .long (Mj 0), .ref (Ma 17), .ref (Ma 18), .ref (Ma 19), .ref (Ma 20)])), ((Ma 10), .inl (tc 0, 126, .inl (Mf 10)))]) ⟨hx, hb, hml, hown, hts⟩ hK hX hA (ct_X12_in l D tc sk ((x2).toInt64) 0 1) k_1259 k_1257 k_1258 k_106 pl_X12_in ⟨Nat.le_of_ble_eq_true rfl, Nat.le_of_ble_eq_true rfl⟩ rfl rfl  hP hD hS [] [0, 1] rfl rfl rfl rfl rfl (by decide) rfl hl.1 rfl (Nat.le_of_ble_eq_true rfl) dX12_sky_12 ⟨Nat.le_of_ble_eq_true rfl, Nat.le_of_ble_eq_true rfl⟩ (fun v_8 u_9 H locs hv_10 hP₀ hD₀ hS₀ => ?_)
    obtain ⟨r_11, rfl, he_12⟩ := hv_10
    have he_12 : (r_11.toInt = 0 ∨ (r_11.toInt = 1 ∧ (0 : Int64).toInt ≤ (x2).toInt64.toInt ∧ (x2).toInt64.toInt ≤ (1 : Int64).toInt)) := he_12
    refine W.eq (g2 := F0 m 15 ls [.int r_11]) rfl ?_
    replace hP : va_P D classes [((Ma 0), .inr (12, [.ref (Ma 1), .int (Mv 0), .int (Mv 1), .ref (Ma 2), .ref (Ma 3), .ref (Ma 4), .ref (Ma 5), .ref (Ma 6), .int (Mv 2), .int (Mv 3), .int (Mv 4), .int (Mv 5), .int (Mv 6), .int (Mv 7), .int (Mv 8), .ref (Ma 7), .int (Mv 9), .ref (Ma 8), .int (Mv 10), .ref (Ma 9), .ref (Ma 10), .int (Mv 11), .int (Mv 12), .int (Mv 13), .ref (Ma 11), .int (Mv 14), .ref (Ma 12), .ref (Ma 13), .ref (Ma 14), .ref (Ma 15), .ref (Ma 16), .long (Mj 0), .ref (Ma 17), .ref (Ma 18), .ref (Ma 19), .ref (Ma 20)])), ((Ma 10), .inl (tc 0, 126, .inl (Mf 10)))] H := hP₀
    replace hD : va_D A [((Ma 0), .inr (12, [.ref (Ma 1), .int (Mv 0), .int (Mv 1), .ref (Ma 2), .ref (Ma 3), .ref (Ma 4), .ref (Ma 5), .ref (Ma 6), .int (Mv 2), .int (Mv 3), .int (Mv 4), .int (Mv 5), .int (Mv 6), .int (Mv 7), .int (Mv 8), .ref (Ma 7), .int (Mv 9), .ref (Ma 8), .int (Mv 10), .ref (Ma 9), .ref (Ma 10), .int (Mv 11), .int (Mv 12), .int (Mv 13), .ref (Ma 11), .int (Mv 14), .ref (Ma 12), .ref (Ma 13), .ref (Ma 14), .ref (Ma 15), .ref (Ma 16), .long (Mj 0), .ref (Ma 17), .ref (Ma 18), .ref (Ma 19), .ref (Ma 20)])), ((Ma 10), .inl (tc 0, 126, .inl (Mf 10)))] := hD₀
    replace hS := hS₀
    clear hP₀ hD₀ hS₀
    have yl_he_12_0 : (0 : Int64).toInt = 0 := by decide
    have yl_he_12_1 : (1 : Int64).toInt = 1 := by decide
    simp only [i32_64] at he_12
    refine lv_if_ne (tgt := 20) hx hb dX12_sky_15 (by decide) (fun c_14 => ?_) (fun c_14 => ?_)
    · skip
      refine lv_iload_n hx hb dX12_sky_20 rfl (lv_at hl 2 rfl) ?_
      refine lv_if_ne (tgt := 36) hx hb dX12_sky_21 (by decide) (fun c_15 => ?_) (fun c_15 => ?_)
      · skip
        refine lv_aload_n hx hb dX12_sky_36 rfl (lv_at hl 0 rfl) ?_
        refine gf_X12_39 hx hb hts hown hK hP 0 rfl rfl dX12_sky_37 ?_
        refine lv_bipush (v := 46) hx hb dX12_sky_40 (by decide) ?_
        refine lv_iload_n hx hb dX12_sky_42 rfl (lv_at hl 1 rfl) ?_
        refine lv_iadd hx hb dX12_sky_43 ?_
        refine lv_topi (fun x_16 ex_16 => ?_)
        have hi_17 : vp_in x_16 126 := by
          have z_1 : ¬ (r_4 : Int32).toInt = (0 : Int32).toInt := fun z => c_7 (Int32.toInt_inj.mp z)
          have z_2 : ¬ (r_11 : Int32).toInt = (0 : Int32).toInt := fun z => c_14 (Int32.toInt_inj.mp z)
          have z_3 : ¬ (x2 : Int32).toInt = (0 : Int32).toInt := fun z => c_15 (Int32.toInt_inj.mp z)
          have y_0 : (0 : Int32).toInt = 0 := by decide
          have y_46 : (46 : Int32).toInt = 46 := by decide
          have t_x_16 : x_16.toInt = (46 : Int32).toInt + (x1 : Int32).toInt := by rw [ex_16]; exact add_toInt (by omega) (by omega)
          refine vp_in_iff.mpr ⟨?_, ?_⟩ <;> omega
        refine va_iald hx hb hK hP 1 0 rfl rfl hi_17 dX12_sky_44 ?_
        refine lv_topi (fun x_18 ex_18 => ?_)
        exact retI (v := x_18) hx hb hr hlk (rfl) hP hD hS () ⟨_, rfl, trivial⟩ [0, 1] rfl rfl dX12_sky_45 (Nat.le_of_ble_eq_true rfl) (Nat.le_of_ble_eq_true rfl) rfl
      · skip
        refine lv_aload_n hx hb dX12_sky_24 rfl (lv_at hl 0 rfl) ?_
        refine gf_X12_39 hx hb hts hown hK hP 0 rfl rfl dX12_sky_25 ?_
        refine lv_bipush (v := 36) hx hb dX12_sky_28 (by decide) ?_
        refine lv_iload_n hx hb dX12_sky_30 rfl (lv_at hl 1 rfl) ?_
        refine lv_iadd hx hb dX12_sky_31 ?_
        refine lv_topi (fun x_19 ex_19 => ?_)
        have hi_20 : vp_in x_19 126 := by
          have z_1 : ¬ (r_4 : Int32).toInt = (0 : Int32).toInt := fun z => c_7 (Int32.toInt_inj.mp z)
          have z_2 : ¬ (r_11 : Int32).toInt = (0 : Int32).toInt := fun z => c_14 (Int32.toInt_inj.mp z)
          have z_3 := congrArg Int32.toInt c_15
          have y_0 : (0 : Int32).toInt = 0 := by decide
          have y_36 : (36 : Int32).toInt = 36 := by decide
          have t_x_19 : x_19.toInt = (36 : Int32).toInt + (x1 : Int32).toInt := by rw [ex_19]; exact add_toInt (by omega) (by omega)
          refine vp_in_iff.mpr ⟨?_, ?_⟩ <;> omega
        refine va_iald hx hb hK hP 1 0 rfl rfl hi_20 dX12_sky_32 ?_
        refine lv_topi (fun x_21 ex_21 => ?_)
        refine lv_goto (tgt := 45) hx hb dX12_sky_33 (by decide) ?_
        exact retI (v := x_21) hx hb hr hlk (rfl) hP hD hS () ⟨_, rfl, trivial⟩ [0, 1] rfl rfl dX12_sky_45 (Nat.le_of_ble_eq_true rfl) (Nat.le_of_ble_eq_true rfl) rfl
    · skip
      refine lv_iconst (v := (-1)) hx hb dX12_sky_18 (by decide) ?_
      exact retI (v := (-1)) hx hb hr hlk (rfl) hP hD hS () ⟨_, rfl, trivial⟩ [0, 1] rfl rfl dX12_sky_19 (Nat.le_of_ble_eq_true rfl) (Nat.le_of_ble_eq_true rfl) rfl
set_option maxHeartbeats 4000000 in
set_option maxRecDepth 100000 in
theorem ct_X12_force (l : Launch) (D : va_G) (tc : Nat → ClassId) (sk : (Nat → Nat) × (Nat → Nat)) (Ma : Nat → Nat) (Mv : Nat → Int32) (Mj : Nat → Int64) (x1 : Int32) (h_frc : -1 ≤ ((Mv 11) : Int32).toInt ∧ ((Mv 11) : Int32).toInt < ((Mv 1) : Int32).toInt ∧ ((Mv 1) : Int32).toInt ≤ 6) (h_r0 : 0 ≤ (Mv 1).toInt) : Ct l yX12_force cX12_force 3 (some .int) { frames := 1, cells := 0, slots := 0, locals := 21 } D tc sk [.ref (Ma 0), .int x1] [((Ma 0), .inr (12, [.ref (Ma 1), .int (Mv 0), .int (Mv 1), .ref (Ma 2), .ref (Ma 3), .ref (Ma 4), .ref (Ma 5), .ref (Ma 6), .int (Mv 2), .int (Mv 3), .int (Mv 4), .int (Mv 5), .int (Mv 6), .int (Mv 7), .int (Mv 8), .ref (Ma 7), .int (Mv 9), .ref (Ma 8), .int (Mv 10), .ref (Ma 9), .ref (Ma 10), .int (Mv 11), .int (Mv 12), .int (Mv 13), .ref (Ma 11), .int (Mv 14), .ref (Ma 12), .ref (Ma 13), .ref (Ma 14), .ref (Ma 15), .ref (Ma 16), .long (Mj 0), .ref (Ma 17), .ref (Ma 18), .ref (Ma 19), .ref (Ma 20)]))] (fun (v : Option Value) (oo0x1 : Int32) => ∃ r : Int32, v = some (.int r) ∧ (True) ∧ (-1 ≤ (oo0x1 : Int32).toInt ∧ (oo0x1 : Int32).toInt < ((Mv 1) : Int32).toInt ∧ ((Mv 1) : Int32).toInt ≤ 6)) (fun (oo0x1 : Int32) => [((Ma 0), .inr (12, [.ref (Ma 1), .int (Mv 0), .int (Mv 1), .ref (Ma 2), .ref (Ma 3), .ref (Ma 4), .ref (Ma 5), .ref (Ma 6), .int (Mv 2), .int (Mv 3), .int (Mv 4), .int (Mv 5), .int (Mv 6), .int (Mv 7), .int (Mv 8), .ref (Ma 7), .int (Mv 9), .ref (Ma 8), .int (Mv 10), .ref (Ma 9), .ref (Ma 10), .int oo0x1, .int (Mv 12), .int (Mv 13), .ref (Ma 11), .int (Mv 14), .ref (Ma 12), .ref (Ma 13), .ref (Ma 14), .ref (Ma 15), .ref (Ma 16), .long (Mj 0), .ref (Ma 17), .ref (Ma 18), .ref (Ma 19), .ref (Ma 20)]))]) 0 0 := by
  refine Ct.start (by decide) (Nat.le_of_ble_eq_true rfl) (fun p e s m below meth c A ls hx hb hr hlk hin hml hown hts hK hX hP hD hA hl hS => ?_)
  have hl : lv_has ls 3 [(0, .ref (Ma 0)), (1, .int x1)] := hl
  refine lv_iload_n hx hb dX12_force_0 rfl (lv_at hl 1 rfl) ?_
  refine lv_iconst (v := (-1)) hx hb dX12_force_1 (by decide) ?_
  refine lv_icmp_eq (tgt := 16) hx hb dX12_force_2 (by decide) (fun c_1 => ?_) (fun c_1 => ?_)
  · skip
    refine lv_aload_n hx hb dX12_force_16 rfl (lv_at hl 0 rfl) ?_
    refine gf_X12_42 hx hb hts hown hK hP 0 rfl rfl dX12_force_17 ?_
    refine lv_istore_n (lv' := [(2, .int (Mv 11)), (0, .ref (Ma 0)), (1, .int x1)]) hx hb dX12_force_20 rfl hl (by decide) rfl (fun ls hl₀ => ?_)
    replace hl := hl₀
    clear hl₀
    refine lv_aload_n hx hb dX12_force_21 rfl (lv_at hl 1 rfl) ?_
    refine lv_iload_n hx hb dX12_force_22 rfl (lv_at hl 2 rfl) ?_
    refine pf_X12_42 hx hb hts hown hK hP hD hS 0 rfl (Nat.le_of_ble_eq_true rfl) rfl rfl dX12_force_23 (fun H locs hP₀ hD₀ hS₀ => ?_)
    replace hP : va_P D classes [((Ma 0), .inr (12, [.ref (Ma 1), .int (Mv 0), .int (Mv 1), .ref (Ma 2), .ref (Ma 3), .ref (Ma 4), .ref (Ma 5), .ref (Ma 6), .int (Mv 2), .int (Mv 3), .int (Mv 4), .int (Mv 5), .int (Mv 6), .int (Mv 7), .int (Mv 8), .ref (Ma 7), .int (Mv 9), .ref (Ma 8), .int (Mv 10), .ref (Ma 9), .ref (Ma 10), .int x1, .int (Mv 12), .int (Mv 13), .ref (Ma 11), .int (Mv 14), .ref (Ma 12), .ref (Ma 13), .ref (Ma 14), .ref (Ma 15), .ref (Ma 16), .long (Mj 0), .ref (Ma 17), .ref (Ma 18), .ref (Ma 19), .ref (Ma 20)]))] H := hP₀
    replace hD : va_D A [((Ma 0), .inr (12, [.ref (Ma 1), .int (Mv 0), .int (Mv 1), .ref (Ma 2), .ref (Ma 3), .ref (Ma 4), .ref (Ma 5), .ref (Ma 6), .int (Mv 2), .int (Mv 3), .int (Mv 4), .int (Mv 5), .int (Mv 6), .int (Mv 7), .int (Mv 8), .ref (Ma 7), .int (Mv 9), .ref (Ma 8), .int (Mv 10), .ref (Ma 9), .ref (Ma 10), .int x1, .int (Mv 12), .int (Mv 13), .ref (Ma 11), .int (Mv 14), .ref (Ma 12), .ref (Ma 13), .ref (Ma 14), .ref (Ma 15), .ref (Ma 16), .long (Mj 0), .ref (Ma 17), .ref (Ma 18), .ref (Ma 19), .ref (Ma 20)]))] := hD₀
    replace hS := hS₀
    clear hP₀ hD₀ hS₀
    refine lv_iload_n hx hb dX12_force_26 rfl (lv_at hl 0 rfl) ?_
    have ha_2 : -1 ≤ (x1 : Int32).toInt ∧ (x1 : Int32).toInt < ((Mv 1) : Int32).toInt ∧ ((Mv 1) : Int32).toInt ≤ 6 := by
      have z_1 := congrArg Int32.toInt c_1
      have y_m1 : (-1 : Int32).toInt = -1 := by decide
      refine ⟨?_, ?_, ?_⟩ <;> omega
    exact retI (v := (Mv 11)) hx hb hr hlk (rfl) hP hD hS x1 ⟨_, rfl, trivial, ha_2⟩ [0] rfl rfl dX12_force_27 (Nat.le_of_ble_eq_true rfl) (Nat.le_of_ble_eq_true rfl) rfl
  · skip
    refine lv_aload_n hx hb dX12_force_5 rfl (lv_at hl 0 rfl) ?_
    refine lv_iload_n hx hb dX12_force_6 rfl (lv_at hl 1 rfl) ?_
    refine cV (a := (Ma 0)) (As := [.int x1]) (rest := []) (wr := []) ⟨hx, hb, hml, hown, hts⟩ hK hX hA (cu_X12_isRule l D tc sk (Ma 0) (Ma 1) (Ma 2) (Ma 3) (Ma 4) (Ma 5) (Ma 6) (Ma 7) (Ma 8) (Ma 9) (Ma 10) (Ma 11) (Ma 12) (Ma 13) (Ma 14) (Ma 15) (Ma 16) (Ma 17) (Ma 18) (Ma 19) (Ma 20) (Mv 0) (Mv 1) (Mv 2) (Mv 3) (Mv 4) (Mv 5) (Mv 6) (Mv 7) (Mv 8) (Mv 9) (Mv 10) (Mv 11) (Mv 12) (Mv 13) (Mv 14) (Mj 0) x1) k_1367 k_1364 k_1366 k_57 k_106 pl_X12_isRule ⟨Nat.le_of_ble_eq_true rfl, Nat.le_of_ble_eq_true rfl⟩ rfl rfl (va_recv hK hP (ci := 12) (q0 := 0) rfl rfl) hP hD hS [0] [] rfl rfl rfl rfl rfl (by decide) rfl hl.1 rfl (Nat.le_of_ble_eq_true rfl) dX12_force_7 ⟨Nat.le_of_ble_eq_true rfl, Nat.le_of_ble_eq_true rfl⟩ (fun v_3 u_4 H locs hv_5 hP₀ hD₀ hS₀ => ?_)
    obtain ⟨r_6, rfl, he_7⟩ := hv_5
    have he_7 : (r_6.toInt = 0 ∨ (r_6.toInt = 1 ∧ 0 ≤ x1.toInt ∧ x1.toInt < (Mv 1).toInt)) := he_7
    refine W.eq (g2 := F0 m 10 ls [.int r_6]) rfl ?_
    replace hP : va_P D classes [((Ma 0), .inr (12, [.ref (Ma 1), .int (Mv 0), .int (Mv 1), .ref (Ma 2), .ref (Ma 3), .ref (Ma 4), .ref (Ma 5), .ref (Ma 6), .int (Mv 2), .int (Mv 3), .int (Mv 4), .int (Mv 5), .int (Mv 6), .int (Mv 7), .int (Mv 8), .ref (Ma 7), .int (Mv 9), .ref (Ma 8), .int (Mv 10), .ref (Ma 9), .ref (Ma 10), .int (Mv 11), .int (Mv 12), .int (Mv 13), .ref (Ma 11), .int (Mv 14), .ref (Ma 12), .ref (Ma 13), .ref (Ma 14), .ref (Ma 15), .ref (Ma 16), .long (Mj 0), .ref (Ma 17), .ref (Ma 18), .ref (Ma 19), .ref (Ma 20)]))] H := hP₀
    replace hD : va_D A [((Ma 0), .inr (12, [.ref (Ma 1), .int (Mv 0), .int (Mv 1), .ref (Ma 2), .ref (Ma 3), .ref (Ma 4), .ref (Ma 5), .ref (Ma 6), .int (Mv 2), .int (Mv 3), .int (Mv 4), .int (Mv 5), .int (Mv 6), .int (Mv 7), .int (Mv 8), .ref (Ma 7), .int (Mv 9), .ref (Ma 8), .int (Mv 10), .ref (Ma 9), .ref (Ma 10), .int (Mv 11), .int (Mv 12), .int (Mv 13), .ref (Ma 11), .int (Mv 14), .ref (Ma 12), .ref (Ma 13), .ref (Ma 14), .ref (Ma 15), .ref (Ma 16), .long (Mj 0), .ref (Ma 17), .ref (Ma 18), .ref (Ma 19), .ref (Ma 20)]))] := hD₀
    replace hS := hS₀
    clear hP₀ hD₀ hS₀
    refine lv_if_ne (tgt := 16) hx hb dX12_force_10 (by decide) (fun c_9 => ?_) (fun c_9 => ?_)
    · skip
      refine lv_aload_n hx hb dX12_force_16 rfl (lv_at hl 0 rfl) ?_
      refine gf_X12_42 hx hb hts hown hK hP 0 rfl rfl dX12_force_17 ?_
      refine lv_istore_n (lv' := [(2, .int (Mv 11)), (0, .ref (Ma 0)), (1, .int x1)]) hx hb dX12_force_20 rfl hl (by decide) rfl (fun ls hl₀ => ?_)
      replace hl := hl₀
      clear hl₀
      refine lv_aload_n hx hb dX12_force_21 rfl (lv_at hl 1 rfl) ?_
      refine lv_iload_n hx hb dX12_force_22 rfl (lv_at hl 2 rfl) ?_
      refine pf_X12_42 hx hb hts hown hK hP hD hS 0 rfl (Nat.le_of_ble_eq_true rfl) rfl rfl dX12_force_23 (fun H locs hP₀ hD₀ hS₀ => ?_)
      replace hP : va_P D classes [((Ma 0), .inr (12, [.ref (Ma 1), .int (Mv 0), .int (Mv 1), .ref (Ma 2), .ref (Ma 3), .ref (Ma 4), .ref (Ma 5), .ref (Ma 6), .int (Mv 2), .int (Mv 3), .int (Mv 4), .int (Mv 5), .int (Mv 6), .int (Mv 7), .int (Mv 8), .ref (Ma 7), .int (Mv 9), .ref (Ma 8), .int (Mv 10), .ref (Ma 9), .ref (Ma 10), .int x1, .int (Mv 12), .int (Mv 13), .ref (Ma 11), .int (Mv 14), .ref (Ma 12), .ref (Ma 13), .ref (Ma 14), .ref (Ma 15), .ref (Ma 16), .long (Mj 0), .ref (Ma 17), .ref (Ma 18), .ref (Ma 19), .ref (Ma 20)]))] H := hP₀
      replace hD : va_D A [((Ma 0), .inr (12, [.ref (Ma 1), .int (Mv 0), .int (Mv 1), .ref (Ma 2), .ref (Ma 3), .ref (Ma 4), .ref (Ma 5), .ref (Ma 6), .int (Mv 2), .int (Mv 3), .int (Mv 4), .int (Mv 5), .int (Mv 6), .int (Mv 7), .int (Mv 8), .ref (Ma 7), .int (Mv 9), .ref (Ma 8), .int (Mv 10), .ref (Ma 9), .ref (Ma 10), .int x1, .int (Mv 12), .int (Mv 13), .ref (Ma 11), .int (Mv 14), .ref (Ma 12), .ref (Ma 13), .ref (Ma 14), .ref (Ma 15), .ref (Ma 16), .long (Mj 0), .ref (Ma 17), .ref (Ma 18), .ref (Ma 19), .ref (Ma 20)]))] := hD₀
      replace hS := hS₀
      clear hP₀ hD₀ hS₀
      refine lv_iload_n hx hb dX12_force_26 rfl (lv_at hl 0 rfl) ?_
      have ha_10 : -1 ≤ (x1 : Int32).toInt ∧ (x1 : Int32).toInt < ((Mv 1) : Int32).toInt ∧ ((Mv 1) : Int32).toInt ≤ 6 := by
        have z_1 : ¬ (x1 : Int32).toInt = ((-1) : Int32).toInt := fun z => c_1 (Int32.toInt_inj.mp z)
        have z_2 : ¬ (r_6 : Int32).toInt = (0 : Int32).toInt := fun z => c_9 (Int32.toInt_inj.mp z)
        have y_m1 : (-1 : Int32).toInt = -1 := by decide
        have y_0 : (0 : Int32).toInt = 0 := by decide
        refine ⟨?_, ?_, ?_⟩ <;> omega
      exact retI (v := (Mv 11)) hx hb hr hlk (rfl) hP hD hS x1 ⟨_, rfl, trivial, ha_10⟩ [0] rfl rfl dX12_force_27 (Nat.le_of_ble_eq_true rfl) (Nat.le_of_ble_eq_true rfl) rfl
    · skip
      refine lv_bipush (v := (-2)) hx hb dX12_force_13 (by decide) ?_
      exact retI (v := (-2)) hx hb hr hlk (rfl) hP hD hS (Mv 11) ⟨_, rfl, trivial, h_frc⟩ [0] rfl rfl dX12_force_15 (Nat.le_of_ble_eq_true rfl) (Nat.le_of_ble_eq_true rfl) rfl
set_option maxHeartbeats 4000000 in
set_option maxRecDepth 100000 in
theorem ct_X12_image_o (l : Launch) (D : va_G) (tc : Nat → ClassId) (sk : (Nat → Nat) × (Nat → Nat)) (Ma : Nat → Nat) (Mv : Nat → Int32) (Mf : Nat → Nat → Int32) (Mj : Nat → Int64) (x1 : Int32) (h_k : x1.toInt < 0 ∨ 3 < x1.toInt) : Ct l yX12_image cX12_image 3 (some .int) { frames := 1, cells := 0, slots := 0, locals := 25 } D tc sk [.ref (Ma 0), .int x1] [((Ma 0), .inr (12, [.ref (Ma 1), .int (Mv 0), .int (Mv 1), .ref (Ma 2), .ref (Ma 3), .ref (Ma 4), .ref (Ma 5), .ref (Ma 6), .int (Mv 2), .int (Mv 3), .int (Mv 4), .int (Mv 5), .int (Mv 6), .int (Mv 7), .int (Mv 8), .ref (Ma 7), .int (Mv 9), .ref (Ma 8), .int (Mv 10), .ref (Ma 9), .ref (Ma 10), .int (Mv 11), .int (Mv 12), .int (Mv 13), .ref (Ma 11), .int (Mv 14), .ref (Ma 12), .ref (Ma 13), .ref (Ma 14), .ref (Ma 15), .ref (Ma 16), .long (Mj 0), .ref (Ma 17), .ref (Ma 18), .ref (Ma 19), .ref (Ma 20)])), ((Ma 10), .inl (tc 0, 126, .inl (Mf 10))), ((Ma 17), .inl (tc 0, 504, .inl (Mf 17))), ((Ma 18), .inl (tc 0, 4, .inl (Mf 18))), ((Ma 19), .inl (tc 0, 4, .inl (Mf 19))), ((Ma 20), .inl (tc 3, 4, .inl (Mf 20)))] (fun (v : Option Value) (_ : Unit) => ∃ r : Int32, v = some (.int r) ∧ (True)) (fun (_ : Unit) => [((Ma 0), .inr (12, [.ref (Ma 1), .int (Mv 0), .int (Mv 1), .ref (Ma 2), .ref (Ma 3), .ref (Ma 4), .ref (Ma 5), .ref (Ma 6), .int (Mv 2), .int (Mv 3), .int (Mv 4), .int (Mv 5), .int (Mv 6), .int (Mv 7), .int (Mv 8), .ref (Ma 7), .int (Mv 9), .ref (Ma 8), .int (Mv 10), .ref (Ma 9), .ref (Ma 10), .int (Mv 11), .int (Mv 12), .int (Mv 13), .ref (Ma 11), .int (Mv 14), .ref (Ma 12), .ref (Ma 13), .ref (Ma 14), .ref (Ma 15), .ref (Ma 16), .long (Mj 0), .ref (Ma 17), .ref (Ma 18), .ref (Ma 19), .ref (Ma 20)])), ((Ma 10), .inl (tc 0, 126, .inl (Mf 10))), ((Ma 17), .inl (tc 0, 504, .inl (Mf 17))), ((Ma 18), .inl (tc 0, 4, .inl (Mf 18))), ((Ma 19), .inl (tc 0, 4, .inl (Mf 19))), ((Ma 20), .inl (tc 3, 4, .inl (Mf 20)))]) 0 0 := by
  refine Ct.start (by decide) (Nat.le_of_ble_eq_true rfl) (fun p e s m below meth c A ls hx hb hr hlk hin hml hown hts hK hX hP hD hA hl hS => ?_)
  have hl : lv_has ls 3 [(0, .ref (Ma 0)), (1, .int x1)] := hl
  refine lv_iload_n hx hb dX12_image_0 rfl (lv_at hl 1 rfl) ?_
  refine lv_i2l (v := (x1).toInt64) hx hb dX12_image_1 rfl ?_
  refine lv_lconst (v := 0) hx hb dX12_image_2 (by decide) ?_
  refine lv_ldc2 hx hb hown (hts _ k_1651) dX12_image_3 ?_
  refine cS (As := [.long (x1).toInt64, .long 0, .long 3]) (rest := []) (wr := [((Ma 0), .inr (12, [.ref (Ma 1), .int (Mv 0), .int (Mv 1), .ref (Ma 2), .ref (Ma 3), .ref (Ma 4), .ref (Ma 5), .ref (Ma 6), .int (Mv 2), .int (Mv 3), .int (Mv 4), .int (Mv 5), .int (Mv 6), .int (Mv 7), .int (Mv 8), .ref (Ma 7), .int (Mv 9), .ref (Ma 8), .int (Mv 10), .ref (Ma 9), .ref (Ma 10), .int (Mv 11), .int (Mv 12), .int (Mv 13), .ref (Ma 11), .int (Mv 14), .ref (Ma 12), .ref (Ma 13), .ref (Ma 14), .ref (Ma 15), .ref (Ma 16), .long (Mj 0), .ref (Ma 17), .ref (Ma 18), .ref (Ma 19), .ref (Ma 20)])), ((Ma 10), .inl (tc 0, 126, .inl (Mf 10))), ((Ma 17), .inl (tc 0, 504, .inl (Mf 17))), ((Ma 18), .inl (tc 0, 4, .inl (Mf 18))), ((Ma 19), .inl (tc 0, 4, .inl (Mf 19))), ((Ma 20), .inl (tc 3, 4, .inl (Mf 20)))]) ⟨hx, hb, hml, hown, hts⟩ hK hX hA (ct_X12_in2 l D tc sk ((x1).toInt64) 0 3) k_1259 k_1257 k_1258 k_106 pl_X12_in ⟨Nat.le_of_ble_eq_true rfl, Nat.le_of_ble_eq_true rfl⟩ rfl rfl  hP hD hS [] [0, 1, 2, 3, 4, 5] rfl rfl rfl rfl rfl (by decide) rfl hl.1 rfl (Nat.le_of_ble_eq_true rfl) dX12_image_6 ⟨Nat.le_of_ble_eq_true rfl, Nat.le_of_ble_eq_true rfl⟩ (fun v_1 u_2 H locs hv_3 hP₀ hD₀ hS₀ => ?_)
  obtain ⟨r_4, rfl, he_5⟩ := hv_3
  have he_5 : ((r_4.toInt = 0 ∧ ((x1).toInt64.toInt < (0 : Int64).toInt ∨ (3 : Int64).toInt < (x1).toInt64.toInt)) ∨ (r_4.toInt = 1 ∧ (0 : Int64).toInt ≤ (x1).toInt64.toInt ∧ (x1).toInt64.toInt ≤ (3 : Int64).toInt)) := he_5
  refine W.eq (g2 := F0 m 9 ls [.int r_4]) rfl ?_
  replace hP : va_P D classes [((Ma 0), .inr (12, [.ref (Ma 1), .int (Mv 0), .int (Mv 1), .ref (Ma 2), .ref (Ma 3), .ref (Ma 4), .ref (Ma 5), .ref (Ma 6), .int (Mv 2), .int (Mv 3), .int (Mv 4), .int (Mv 5), .int (Mv 6), .int (Mv 7), .int (Mv 8), .ref (Ma 7), .int (Mv 9), .ref (Ma 8), .int (Mv 10), .ref (Ma 9), .ref (Ma 10), .int (Mv 11), .int (Mv 12), .int (Mv 13), .ref (Ma 11), .int (Mv 14), .ref (Ma 12), .ref (Ma 13), .ref (Ma 14), .ref (Ma 15), .ref (Ma 16), .long (Mj 0), .ref (Ma 17), .ref (Ma 18), .ref (Ma 19), .ref (Ma 20)])), ((Ma 10), .inl (tc 0, 126, .inl (Mf 10))), ((Ma 17), .inl (tc 0, 504, .inl (Mf 17))), ((Ma 18), .inl (tc 0, 4, .inl (Mf 18))), ((Ma 19), .inl (tc 0, 4, .inl (Mf 19))), ((Ma 20), .inl (tc 3, 4, .inl (Mf 20)))] H := hP₀
  replace hD : va_D A [((Ma 0), .inr (12, [.ref (Ma 1), .int (Mv 0), .int (Mv 1), .ref (Ma 2), .ref (Ma 3), .ref (Ma 4), .ref (Ma 5), .ref (Ma 6), .int (Mv 2), .int (Mv 3), .int (Mv 4), .int (Mv 5), .int (Mv 6), .int (Mv 7), .int (Mv 8), .ref (Ma 7), .int (Mv 9), .ref (Ma 8), .int (Mv 10), .ref (Ma 9), .ref (Ma 10), .int (Mv 11), .int (Mv 12), .int (Mv 13), .ref (Ma 11), .int (Mv 14), .ref (Ma 12), .ref (Ma 13), .ref (Ma 14), .ref (Ma 15), .ref (Ma 16), .long (Mj 0), .ref (Ma 17), .ref (Ma 18), .ref (Ma 19), .ref (Ma 20)])), ((Ma 10), .inl (tc 0, 126, .inl (Mf 10))), ((Ma 17), .inl (tc 0, 504, .inl (Mf 17))), ((Ma 18), .inl (tc 0, 4, .inl (Mf 18))), ((Ma 19), .inl (tc 0, 4, .inl (Mf 19))), ((Ma 20), .inl (tc 3, 4, .inl (Mf 20)))] := hD₀
  replace hS := hS₀
  clear hP₀ hD₀ hS₀
  have yl_he_5_0 : (0 : Int64).toInt = 0 := by decide
  have yl_he_5_3 : (3 : Int64).toInt = 3 := by decide
  simp only [i32_64] at he_5
  refine lv_if_ne (tgt := 14) hx hb dX12_image_9 (by decide) (fun c_7 => ?_) (fun c_7 => ?_)
  · skip
    exfalso
    have z_1 : ¬ (r_4 : Int32).toInt = (0 : Int32).toInt := fun z => c_7 (Int32.toInt_inj.mp z)
    have y_0 : (0 : Int32).toInt = 0 := by decide
    omega
  · skip
    refine lv_iconst (v := (-1)) hx hb dX12_image_12 (by decide) ?_
    exact retI (v := (-1)) hx hb hr hlk (rfl) hP hD hS () ⟨_, rfl, trivial⟩ [0, 1, 2, 3, 4, 5] rfl rfl dX12_image_13 (Nat.le_of_ble_eq_true rfl) (Nat.le_of_ble_eq_true rfl) rfl
set_option maxHeartbeats 4000000 in
set_option maxRecDepth 100000 in
theorem ct_X12_back_o (l : Launch) (D : va_G) (tc : Nat → ClassId) (sk : (Nat → Nat) × (Nat → Nat)) (Ma : Nat → Nat) (Mv : Nat → Int32) (Mf : Nat → Nat → Int32) (Mj : Nat → Int64) (x1 : Int32) (h_k : x1.toInt < 0 ∨ 3 < x1.toInt ∨ ((Mf 20) x1.toNatClampNeg).toInt = 0) : Ct l yX12_back cX12_back 3 (some .int) { frames := 1, cells := 0, slots := 0, locals := 25 } D tc sk [.ref (Ma 0), .int x1] [((Ma 0), .inr (12, [.ref (Ma 1), .int (Mv 0), .int (Mv 1), .ref (Ma 2), .ref (Ma 3), .ref (Ma 4), .ref (Ma 5), .ref (Ma 6), .int (Mv 2), .int (Mv 3), .int (Mv 4), .int (Mv 5), .int (Mv 6), .int (Mv 7), .int (Mv 8), .ref (Ma 7), .int (Mv 9), .ref (Ma 8), .int (Mv 10), .ref (Ma 9), .ref (Ma 10), .int (Mv 11), .int (Mv 12), .int (Mv 13), .ref (Ma 11), .int (Mv 14), .ref (Ma 12), .ref (Ma 13), .ref (Ma 14), .ref (Ma 15), .ref (Ma 16), .long (Mj 0), .ref (Ma 17), .ref (Ma 18), .ref (Ma 19), .ref (Ma 20)])), ((Ma 10), .inl (tc 0, 126, .inl (Mf 10))), ((Ma 17), .inl (tc 0, 504, .inl (Mf 17))), ((Ma 18), .inl (tc 0, 4, .inl (Mf 18))), ((Ma 19), .inl (tc 0, 4, .inl (Mf 19))), ((Ma 20), .inl (tc 3, 4, .inl (Mf 20)))] (fun (v : Option Value) (_ : Unit) => ∃ r : Int32, v = some (.int r) ∧ (True)) (fun (_ : Unit) => [((Ma 0), .inr (12, [.ref (Ma 1), .int (Mv 0), .int (Mv 1), .ref (Ma 2), .ref (Ma 3), .ref (Ma 4), .ref (Ma 5), .ref (Ma 6), .int (Mv 2), .int (Mv 3), .int (Mv 4), .int (Mv 5), .int (Mv 6), .int (Mv 7), .int (Mv 8), .ref (Ma 7), .int (Mv 9), .ref (Ma 8), .int (Mv 10), .ref (Ma 9), .ref (Ma 10), .int (Mv 11), .int (Mv 12), .int (Mv 13), .ref (Ma 11), .int (Mv 14), .ref (Ma 12), .ref (Ma 13), .ref (Ma 14), .ref (Ma 15), .ref (Ma 16), .long (Mj 0), .ref (Ma 17), .ref (Ma 18), .ref (Ma 19), .ref (Ma 20)])), ((Ma 10), .inl (tc 0, 126, .inl (Mf 10))), ((Ma 17), .inl (tc 0, 504, .inl (Mf 17))), ((Ma 18), .inl (tc 0, 4, .inl (Mf 18))), ((Ma 19), .inl (tc 0, 4, .inl (Mf 19))), ((Ma 20), .inl (tc 3, 4, .inl (Mf 20)))]) 0 0 := by
  refine Ct.start (by decide) (Nat.le_of_ble_eq_true rfl) (fun p e s m below meth c A ls hx hb hr hlk hin hml hown hts hK hX hP hD hA hl hS => ?_)
  have hl : lv_has ls 3 [(0, .ref (Ma 0)), (1, .int x1)] := hl
  refine lv_iload_n hx hb dX12_back_0 rfl (lv_at hl 1 rfl) ?_
  refine lv_i2l (v := (x1).toInt64) hx hb dX12_back_1 rfl ?_
  refine lv_lconst (v := 0) hx hb dX12_back_2 (by decide) ?_
  refine lv_ldc2 hx hb hown (hts _ k_1651) dX12_back_3 ?_
  refine cS (As := [.long (x1).toInt64, .long 0, .long 3]) (rest := []) (wr := [((Ma 0), .inr (12, [.ref (Ma 1), .int (Mv 0), .int (Mv 1), .ref (Ma 2), .ref (Ma 3), .ref (Ma 4), .ref (Ma 5), .ref (Ma 6), .int (Mv 2), .int (Mv 3), .int (Mv 4), .int (Mv 5), .int (Mv 6), .int (Mv 7), .int (Mv 8), .ref (Ma 7), .int (Mv 9), .ref (Ma 8), .int (Mv 10), .ref (Ma 9), .ref (Ma 10), .int (Mv 11), .int (Mv 12), .int (Mv 13), .ref (Ma 11), .int (Mv 14), .ref (Ma 12), .ref (Ma 13), .ref (Ma 14), .ref (Ma 15), .ref (Ma 16), .long (Mj 0), .ref (Ma 17), .ref (Ma 18), .ref (Ma 19), .ref (Ma 20)])), ((Ma 10), .inl (tc 0, 126, .inl (Mf 10))), ((Ma 17), .inl (tc 0, 504, .inl (Mf 17))), ((Ma 18), .inl (tc 0, 4, .inl (Mf 18))), ((Ma 19), .inl (tc 0, 4, .inl (Mf 19))), ((Ma 20), .inl (tc 3, 4, .inl (Mf 20)))]) ⟨hx, hb, hml, hown, hts⟩ hK hX hA (ct_X12_in2 l D tc sk ((x1).toInt64) 0 3) k_1259 k_1257 k_1258 k_106 pl_X12_in ⟨Nat.le_of_ble_eq_true rfl, Nat.le_of_ble_eq_true rfl⟩ rfl rfl  hP hD hS [] [0, 1, 2, 3, 4, 5] rfl rfl rfl rfl rfl (by decide) rfl hl.1 rfl (Nat.le_of_ble_eq_true rfl) dX12_back_6 ⟨Nat.le_of_ble_eq_true rfl, Nat.le_of_ble_eq_true rfl⟩ (fun v_1 u_2 H locs hv_3 hP₀ hD₀ hS₀ => ?_)
  obtain ⟨r_4, rfl, he_5⟩ := hv_3
  have he_5 : ((r_4.toInt = 0 ∧ ((x1).toInt64.toInt < (0 : Int64).toInt ∨ (3 : Int64).toInt < (x1).toInt64.toInt)) ∨ (r_4.toInt = 1 ∧ (0 : Int64).toInt ≤ (x1).toInt64.toInt ∧ (x1).toInt64.toInt ≤ (3 : Int64).toInt)) := he_5
  refine W.eq (g2 := F0 m 9 ls [.int r_4]) rfl ?_
  replace hP : va_P D classes [((Ma 0), .inr (12, [.ref (Ma 1), .int (Mv 0), .int (Mv 1), .ref (Ma 2), .ref (Ma 3), .ref (Ma 4), .ref (Ma 5), .ref (Ma 6), .int (Mv 2), .int (Mv 3), .int (Mv 4), .int (Mv 5), .int (Mv 6), .int (Mv 7), .int (Mv 8), .ref (Ma 7), .int (Mv 9), .ref (Ma 8), .int (Mv 10), .ref (Ma 9), .ref (Ma 10), .int (Mv 11), .int (Mv 12), .int (Mv 13), .ref (Ma 11), .int (Mv 14), .ref (Ma 12), .ref (Ma 13), .ref (Ma 14), .ref (Ma 15), .ref (Ma 16), .long (Mj 0), .ref (Ma 17), .ref (Ma 18), .ref (Ma 19), .ref (Ma 20)])), ((Ma 10), .inl (tc 0, 126, .inl (Mf 10))), ((Ma 17), .inl (tc 0, 504, .inl (Mf 17))), ((Ma 18), .inl (tc 0, 4, .inl (Mf 18))), ((Ma 19), .inl (tc 0, 4, .inl (Mf 19))), ((Ma 20), .inl (tc 3, 4, .inl (Mf 20)))] H := hP₀
  replace hD : va_D A [((Ma 0), .inr (12, [.ref (Ma 1), .int (Mv 0), .int (Mv 1), .ref (Ma 2), .ref (Ma 3), .ref (Ma 4), .ref (Ma 5), .ref (Ma 6), .int (Mv 2), .int (Mv 3), .int (Mv 4), .int (Mv 5), .int (Mv 6), .int (Mv 7), .int (Mv 8), .ref (Ma 7), .int (Mv 9), .ref (Ma 8), .int (Mv 10), .ref (Ma 9), .ref (Ma 10), .int (Mv 11), .int (Mv 12), .int (Mv 13), .ref (Ma 11), .int (Mv 14), .ref (Ma 12), .ref (Ma 13), .ref (Ma 14), .ref (Ma 15), .ref (Ma 16), .long (Mj 0), .ref (Ma 17), .ref (Ma 18), .ref (Ma 19), .ref (Ma 20)])), ((Ma 10), .inl (tc 0, 126, .inl (Mf 10))), ((Ma 17), .inl (tc 0, 504, .inl (Mf 17))), ((Ma 18), .inl (tc 0, 4, .inl (Mf 18))), ((Ma 19), .inl (tc 0, 4, .inl (Mf 19))), ((Ma 20), .inl (tc 3, 4, .inl (Mf 20)))] := hD₀
  replace hS := hS₀
  clear hP₀ hD₀ hS₀
  have yl_he_5_0 : (0 : Int64).toInt = 0 := by decide
  have yl_he_5_3 : (3 : Int64).toInt = 3 := by decide
  simp only [i32_64] at he_5
  refine lv_if_eq (tgt := 21) hx hb dX12_back_9 (by decide) (fun c_7 => ?_) (fun c_7 => ?_)
  · skip
    refine lv_iconst (v := (-1)) hx hb dX12_back_21 (by decide) ?_
    exact retI (v := (-1)) hx hb hr hlk (rfl) hP hD hS () ⟨_, rfl, trivial⟩ [0, 1, 2, 3, 4, 5] rfl rfl dX12_back_22 (Nat.le_of_ble_eq_true rfl) (Nat.le_of_ble_eq_true rfl) rfl
  · skip
    refine lv_aload_n hx hb dX12_back_12 rfl (lv_at hl 0 rfl) ?_
    refine gf_X12_74 hx hb hts hown hK hP 0 rfl rfl dX12_back_13 ?_
    refine lv_iload_n hx hb dX12_back_16 rfl (lv_at hl 1 rfl) ?_
    have hi_8 : vp_in x1 4 := by
      have z_1 : ¬ (r_4 : Int32).toInt = (0 : Int32).toInt := fun z => c_7 (Int32.toInt_inj.mp z)
      have y_0 : (0 : Int32).toInt = 0 := by decide
      refine vp_in_iff.mpr ⟨?_, ?_⟩ <;> omega
    refine va_zald hx hb hK hP 5 3 rfl rfl hi_8 dX12_back_17 ?_
    refine lv_topi (fun x_9 ex_9 => ?_)
    have kx_9 : x_9.toInt = ((Mf 20) x1.toNatClampNeg).toInt := congrArg Int32.toInt ex_9
    refine lv_if_ne (tgt := 23) hx hb dX12_back_18 (by decide) (fun c_10 => ?_) (fun c_10 => ?_)
    · skip
      exfalso
      have z_1 : ¬ (r_4 : Int32).toInt = (0 : Int32).toInt := fun z => c_7 (Int32.toInt_inj.mp z)
      have z_2 : ¬ (x_9 : Int32).toInt = (0 : Int32).toInt := fun z => c_10 (Int32.toInt_inj.mp z)
      have y_0 : (0 : Int32).toInt = 0 := by decide
      omega
    · skip
      refine lv_iconst (v := (-1)) hx hb dX12_back_21 (by decide) ?_
      exact retI (v := (-1)) hx hb hr hlk (rfl) hP hD hS () ⟨_, rfl, trivial⟩ [0, 1, 2, 3, 4, 5] rfl rfl dX12_back_22 (Nat.le_of_ble_eq_true rfl) (Nat.le_of_ble_eq_true rfl) rfl
