theorem dX12_book_0 : decode cX12_book 0 = .ok (.aload_n 0, 1) := by decide +kernel
theorem dX12_book_1 : decode cX12_book 1 = .ok (.bipush 6, 2) := by decide +kernel
theorem dX12_book_3 : decode cX12_book 3 = .ok (.putfield 145, 3) := by decide +kernel
theorem dX12_book_6 : decode cX12_book 6 = .ok (.iconst 0, 1) := by decide +kernel
theorem dX12_book_7 : decode cX12_book 7 = .ok (.istore_n 1, 1) := by decide +kernel
theorem dX12_book_8 : decode cX12_book 8 = .ok (.iload_n 1, 1) := by decide +kernel
theorem dX12_book_9 : decode cX12_book 9 = .ok (.bipush 95, 2) := by decide +kernel
theorem dX12_book_11 : decode cX12_book 11 = .ok (.if_icmp .ge 16, 3) := by decide +kernel
theorem dX12_book_14 : decode cX12_book 14 = .ok (.aload_n 0, 1) := by decide +kernel
theorem dX12_book_15 : decode cX12_book 15 = .ok (.getfield 26, 3) := by decide +kernel
theorem dX12_book_18 : decode cX12_book 18 = .ok (.iload_n 1, 1) := by decide +kernel
theorem dX12_book_19 : decode cX12_book 19 = .ok (.iconst 0, 1) := by decide +kernel
theorem dX12_book_20 : decode cX12_book 20 = .ok (.iastore, 1) := by decide +kernel
theorem dX12_book_21 : decode cX12_book 21 = .ok (.iinc 1 1, 3) := by decide +kernel
theorem dX12_book_24 : decode cX12_book 24 = .ok (.goto (-16), 3) := by decide +kernel
theorem dX12_book_27 : decode cX12_book 27 = .ok (.aload_n 0, 1) := by decide +kernel
theorem dX12_book_28 : decode cX12_book 28 = .ok (.invokevirtual 259, 3) := by decide +kernel
theorem dX12_book_31 : decode cX12_book 31 = .ok (.ifCond .ne 11, 3) := by decide +kernel
theorem dX12_book_34 : decode cX12_book 34 = .ok (.bipush (-2), 2) := by decide +kernel
theorem dX12_book_36 : decode cX12_book 36 = .ok (.aload_n 0, 1) := by decide +kernel
theorem dX12_book_37 : decode cX12_book 37 = .ok (.getfield 84, 3) := by decide +kernel
theorem dX12_book_40 : decode cX12_book 40 = .ok (.isub, 1) := by decide +kernel
theorem dX12_book_41 : decode cX12_book 41 = .ok (.ireturn, 1) := by decide +kernel
theorem dX12_book_42 : decode cX12_book 42 = .ok (.iconst 0, 1) := by decide +kernel
theorem dX12_book_43 : decode cX12_book 43 = .ok (.istore_n 1, 1) := by decide +kernel
theorem dX12_book_44 : decode cX12_book 44 = .ok (.iload_n 1, 1) := by decide +kernel
theorem dX12_book_45 : decode cX12_book 45 = .ok (.bipush 126, 2) := by decide +kernel
theorem dX12_book_47 : decode cX12_book 47 = .ok (.if_icmp .ge 31, 3) := by decide +kernel
theorem dX12_book_50 : decode cX12_book 50 = .ok (.aload_n 0, 1) := by decide +kernel
theorem dX12_book_51 : decode cX12_book 51 = .ok (.getfield 39, 3) := by decide +kernel
theorem dX12_book_54 : decode cX12_book 54 = .ok (.iload_n 1, 1) := by decide +kernel
theorem dX12_book_55 : decode cX12_book 55 = .ok (.iload_n 1, 1) := by decide +kernel
theorem dX12_book_56 : decode cX12_book 56 = .ok (.bipush 95, 2) := by decide +kernel
theorem dX12_book_58 : decode cX12_book 58 = .ok (.if_icmp .ge 12, 3) := by decide +kernel
theorem dX12_book_61 : decode cX12_book 61 = .ok (.aload_n 0, 1) := by decide +kernel
theorem dX12_book_62 : decode cX12_book 62 = .ok (.getfield 26, 3) := by decide +kernel
theorem dX12_book_65 : decode cX12_book 65 = .ok (.iload_n 1, 1) := by decide +kernel
theorem dX12_book_66 : decode cX12_book 66 = .ok (.iaload, 1) := by decide +kernel
theorem dX12_book_67 : decode cX12_book 67 = .ok (.goto 4, 3) := by decide +kernel
theorem dX12_book_70 : decode cX12_book 70 = .ok (.iconst 0, 1) := by decide +kernel
theorem dX12_book_71 : decode cX12_book 71 = .ok (.iastore, 1) := by decide +kernel
theorem dX12_book_72 : decode cX12_book 72 = .ok (.iinc 1 1, 3) := by decide +kernel
theorem dX12_book_75 : decode cX12_book 75 = .ok (.goto (-31), 3) := by decide +kernel
theorem dX12_book_78 : decode cX12_book 78 = .ok (.aload_n 0, 1) := by decide +kernel
theorem dX12_book_79 : decode cX12_book 79 = .ok (.invokevirtual 262, 3) := by decide +kernel
theorem dX12_book_82 : decode cX12_book 82 = .ok (.aload_n 0, 1) := by decide +kernel
theorem dX12_book_83 : decode cX12_book 83 = .ok (.iconst 0, 1) := by decide +kernel
theorem dX12_book_84 : decode cX12_book 84 = .ok (.putfield 265, 3) := by decide +kernel
theorem dX12_book_87 : decode cX12_book 87 = .ok (.aload_n 0, 1) := by decide +kernel
theorem dX12_book_88 : decode cX12_book 88 = .ok (.getfield 39, 3) := by decide +kernel
theorem dX12_book_91 : decode cX12_book 91 = .ok (.iconst 3, 1) := by decide +kernel
theorem dX12_book_92 : decode cX12_book 92 = .ok (.iaload, 1) := by decide +kernel
theorem dX12_book_93 : decode cX12_book 93 = .ok (.ireturn, 1) := by decide +kernel
theorem dX12_bookLineHere_0 : decode cX12_bookLineHere 0 = .ok (.aload_n 0, 1) := by decide +kernel
theorem dX12_bookLineHere_1 : decode cX12_bookLineHere 1 = .ok (.ldc2_w 221, 3) := by decide +kernel
theorem dX12_bookLineHere_4 : decode cX12_bookLineHere 4 = .ok (.invokevirtual 98, 3) := by decide +kernel
theorem dX12_bookLineHere_7 : decode cX12_bookLineHere 7 = .ok (.ifCond .eq 9, 3) := by decide +kernel
theorem dX12_bookLineHere_10 : decode cX12_bookLineHere 10 = .ok (.aload_n 0, 1) := by decide +kernel
theorem dX12_bookLineHere_11 : decode cX12_bookLineHere 11 = .ok (.iload_n 1, 1) := by decide +kernel
theorem dX12_bookLineHere_12 : decode cX12_bookLineHere 12 = .ok (.invokevirtual 223, 3) := by decide +kernel
theorem dX12_bookLineHere_15 : decode cX12_bookLineHere 15 = .ok (.ireturn, 1) := by decide +kernel
theorem dX12_bookLineHere_16 : decode cX12_bookLineHere 16 = .ok (.aload_n 0, 1) := by decide +kernel
theorem dX12_bookLineHere_17 : decode cX12_bookLineHere 17 = .ok (.getfield 26, 3) := by decide +kernel
theorem dX12_bookLineHere_20 : decode cX12_bookLineHere 20 = .ok (.iconst 0, 1) := by decide +kernel
theorem dX12_bookLineHere_21 : decode cX12_bookLineHere 21 = .ok (.iaload, 1) := by decide +kernel
theorem dX12_bookLineHere_22 : decode cX12_bookLineHere 22 = .ok (.ifCond .ne 10, 3) := by decide +kernel
theorem dX12_bookLineHere_25 : decode cX12_bookLineHere 25 = .ok (.aload_n 0, 1) := by decide +kernel
theorem dX12_bookLineHere_26 : decode cX12_bookLineHere 26 = .ok (.iconst 4, 1) := by decide +kernel
theorem dX12_bookLineHere_27 : decode cX12_bookLineHere 27 = .ok (.iload_n 1, 1) := by decide +kernel
theorem dX12_bookLineHere_28 : decode cX12_bookLineHere 28 = .ok (.invokevirtual 108, 3) := by decide +kernel
theorem dX12_bookLineHere_31 : decode cX12_bookLineHere 31 = .ok (.ireturn, 1) := by decide +kernel
theorem dX12_bookLineHere_32 : decode cX12_bookLineHere 32 = .ok (.aload_n 0, 1) := by decide +kernel
theorem dX12_bookLineHere_33 : decode cX12_bookLineHere 33 = .ok (.ldc2_w 226, 3) := by decide +kernel
theorem dX12_bookLineHere_36 : decode cX12_bookLineHere 36 = .ok (.invokevirtual 98, 3) := by decide +kernel
theorem dX12_bookLineHere_39 : decode cX12_bookLineHere 39 = .ok (.ifCond .eq 8, 3) := by decide +kernel
theorem dX12_bookLineHere_42 : decode cX12_bookLineHere 42 = .ok (.aload_n 0, 1) := by decide +kernel
theorem dX12_bookLineHere_43 : decode cX12_bookLineHere 43 = .ok (.invokevirtual 228, 3) := by decide +kernel
theorem dX12_bookLineHere_46 : decode cX12_bookLineHere 46 = .ok (.ireturn, 1) := by decide +kernel
theorem dX12_bookLineHere_47 : decode cX12_bookLineHere 47 = .ok (.aload_n 0, 1) := by decide +kernel
theorem dX12_bookLineHere_48 : decode cX12_bookLineHere 48 = .ok (.ldc2_w 119, 3) := by decide +kernel
theorem dX12_bookLineHere_51 : decode cX12_bookLineHere 51 = .ok (.invokevirtual 98, 3) := by decide +kernel
theorem dX12_bookLineHere_54 : decode cX12_bookLineHere 54 = .ok (.ifCond .eq 11, 3) := by decide +kernel
theorem dX12_bookLineHere_57 : decode cX12_bookLineHere 57 = .ok (.aload_n 0, 1) := by decide +kernel
theorem dX12_bookLineHere_58 : decode cX12_bookLineHere 58 = .ok (.iload_n 1, 1) := by decide +kernel
theorem dX12_bookLineHere_59 : decode cX12_bookLineHere 59 = .ok (.invokevirtual 231, 3) := by decide +kernel
theorem dX12_bookLineHere_62 : decode cX12_bookLineHere 62 = .ok (.goto 7, 3) := by decide +kernel
theorem dX12_bookLineHere_65 : decode cX12_bookLineHere 65 = .ok (.aload_n 0, 1) := by decide +kernel
theorem dX12_bookLineHere_66 : decode cX12_bookLineHere 66 = .ok (.invokevirtual 234, 3) := by decide +kernel
theorem dX12_bookLineHere_69 : decode cX12_bookLineHere 69 = .ok (.ireturn, 1) := by decide +kernel
theorem dX12_cellHere_0 : decode cX12_cellHere 0 = .ok (.aload_n 0, 1) := by decide +kernel
theorem dX12_cellHere_1 : decode cX12_cellHere 1 = .ok (.iload_n 2, 1) := by decide +kernel
theorem dX12_cellHere_2 : decode cX12_cellHere 2 = .ok (.iload_n 3, 1) := by decide +kernel
theorem dX12_cellHere_3 : decode cX12_cellHere 3 = .ok (.invokevirtual 166, 3) := by decide +kernel
theorem dX12_cellHere_6 : decode cX12_cellHere 6 = .ok (.ifCond .ne 5, 3) := by decide +kernel
theorem dX12_cellHere_9 : decode cX12_cellHere 9 = .ok (.iconst 0, 1) := by decide +kernel
theorem dX12_cellHere_10 : decode cX12_cellHere 10 = .ok (.ireturn, 1) := by decide +kernel
theorem dX12_cellHere_11 : decode cX12_cellHere 11 = .ok (.aload_n 0, 1) := by decide +kernel
theorem dX12_cellHere_12 : decode cX12_cellHere 12 = .ok (.getfield 26, 3) := by decide +kernel
theorem dX12_cellHere_15 : decode cX12_cellHere 15 = .ok (.iload_n 1, 1) := by decide +kernel
theorem dX12_cellHere_16 : decode cX12_cellHere 16 = .ok (.aload_n 0, 1) := by decide +kernel
theorem dX12_cellHere_17 : decode cX12_cellHere 17 = .ok (.getfield 112, 3) := by decide +kernel
theorem dX12_cellHere_20 : decode cX12_cellHere 20 = .ok (.iastore, 1) := by decide +kernel
theorem dX12_cellHere_21 : decode cX12_cellHere 21 = .ok (.iconst 1, 1) := by decide +kernel
theorem dX12_cellHere_22 : decode cX12_cellHere 22 = .ok (.ireturn, 1) := by decide +kernel
theorem dX12_clauseHere_19 : decode cX12_clauseHere 19 = .ok (.iconst 1, 1) := by decide +kernel
theorem dX12_clauseHere_20 : decode cX12_clauseHere 20 = .ok (.goto 4, 3) := by decide +kernel
theorem dX12_clauseHere_29 : decode cX12_clauseHere 29 = .ok (.aload_n 0, 1) := by decide +kernel
theorem dX12_clauseHere_30 : decode cX12_clauseHere 30 = .ok (.invokevirtual 239, 3) := by decide +kernel
theorem dX12_clauseHere_33 : decode cX12_clauseHere 33 = .ok (.ifCond .ne 23, 3) := by decide +kernel
theorem dX12_clauseHere_36 : decode cX12_clauseHere 36 = .ok (.goto 13, 3) := by decide +kernel
theorem dX12_clauseHere_64 : decode cX12_clauseHere 64 = .ok (.bipush 40, 2) := by decide +kernel
theorem dX12_clauseHere_66 : decode cX12_clauseHere 66 = .ok (.goto 5, 3) := by decide +kernel
theorem dX12_clauseHere_95 : decode cX12_clauseHere 95 = .ok (.aload_n 0, 1) := by decide +kernel
theorem dX12_clauseHere_96 : decode cX12_clauseHere 96 = .ok (.iload_n 1, 1) := by decide +kernel
theorem dX12_clauseHere_97 : decode cX12_clauseHere 97 = .ok (.invokevirtual 247, 3) := by decide +kernel
theorem dX12_clauseHere_100 : decode cX12_clauseHere 100 = .ok (.goto 7, 3) := by decide +kernel
theorem dX12_isBookHere_0 : decode cX12_isBookHere 0 = .ok (.aload_n 0, 1) := by decide +kernel
theorem dX12_isBookHere_1 : decode cX12_isBookHere 1 = .ok (.getfield 26, 3) := by decide +kernel
theorem dX12_isBookHere_4 : decode cX12_isBookHere 4 = .ok (.iconst 0, 1) := by decide +kernel
theorem dX12_isBookHere_5 : decode cX12_isBookHere 5 = .ok (.iaload, 1) := by decide +kernel
theorem dX12_isBookHere_6 : decode cX12_isBookHere 6 = .ok (.ifCond .le 10, 3) := by decide +kernel
theorem dX12_isBookHere_9 : decode cX12_isBookHere 9 = .ok (.aload_n 0, 1) := by decide +kernel
theorem dX12_isBookHere_10 : decode cX12_isBookHere 10 = .ok (.iconst 4, 1) := by decide +kernel
theorem dX12_isBookHere_11 : decode cX12_isBookHere 11 = .ok (.iload_n 1, 1) := by decide +kernel
theorem dX12_isBookHere_12 : decode cX12_isBookHere 12 = .ok (.invokevirtual 108, 3) := by decide +kernel
theorem dX12_isBookHere_15 : decode cX12_isBookHere 15 = .ok (.ireturn, 1) := by decide +kernel
theorem dX12_isBookHere_16 : decode cX12_isBookHere 16 = .ok (.aload_n 0, 1) := by decide +kernel
theorem dX12_isBookHere_17 : decode cX12_isBookHere 17 = .ok (.invokevirtual 102, 3) := by decide +kernel
theorem dX12_isBookHere_20 : decode cX12_isBookHere 20 = .ok (.aload_n 0, 1) := by decide +kernel
theorem dX12_isBookHere_21 : decode cX12_isBookHere 21 = .ok (.bipush 94, 2) := by decide +kernel
theorem dX12_isBookHere_23 : decode cX12_isBookHere 23 = .ok (.iconst 0, 1) := by decide +kernel
theorem dX12_isBookHere_24 : decode cX12_isBookHere 24 = .ok (.bipush 99, 2) := by decide +kernel
theorem dX12_isBookHere_26 : decode cX12_isBookHere 26 = .ok (.invokevirtual 217, 3) := by decide +kernel
theorem dX12_isBookHere_29 : decode cX12_isBookHere 29 = .ok (.ifCond .eq 25, 3) := by decide +kernel
theorem dX12_isBookHere_32 : decode cX12_isBookHere 32 = .ok (.aload_n 0, 1) := by decide +kernel
theorem dX12_isBookHere_33 : decode cX12_isBookHere 33 = .ok (.iconst 1, 1) := by decide +kernel
theorem dX12_isBookHere_34 : decode cX12_isBookHere 34 = .ok (.iconst 0, 1) := by decide +kernel
theorem dX12_isBookHere_35 : decode cX12_isBookHere 35 = .ok (.bipush 9, 2) := by decide +kernel
theorem dX12_isBookHere_37 : decode cX12_isBookHere 37 = .ok (.invokevirtual 217, 3) := by decide +kernel
theorem dX12_isBookHere_40 : decode cX12_isBookHere 40 = .ok (.ifCond .eq 14, 3) := by decide +kernel
theorem dX12_isBookHere_43 : decode cX12_isBookHere 43 = .ok (.aload_n 0, 1) := by decide +kernel
theorem dX12_isBookHere_44 : decode cX12_isBookHere 44 = .ok (.iconst 2, 1) := by decide +kernel
theorem dX12_isBookHere_45 : decode cX12_isBookHere 45 = .ok (.iconst 1, 1) := by decide +kernel
theorem dX12_isBookHere_46 : decode cX12_isBookHere 46 = .ok (.bipush 10, 2) := by decide +kernel
theorem dX12_isBookHere_48 : decode cX12_isBookHere 48 = .ok (.invokevirtual 217, 3) := by decide +kernel
theorem dX12_isBookHere_51 : decode cX12_isBookHere 51 = .ok (.ifCond .ne 5, 3) := by decide +kernel
theorem dX12_isBookHere_54 : decode cX12_isBookHere 54 = .ok (.iconst 0, 1) := by decide +kernel
theorem dX12_isBookHere_55 : decode cX12_isBookHere 55 = .ok (.ireturn, 1) := by decide +kernel
theorem dX12_isBookHere_56 : decode cX12_isBookHere 56 = .ok (.aload_n 0, 1) := by decide +kernel
theorem dX12_isBookHere_57 : decode cX12_isBookHere 57 = .ok (.getfield 26, 3) := by decide +kernel
theorem dX12_isBookHere_60 : decode cX12_isBookHere 60 = .ok (.iconst 0, 1) := by decide +kernel
theorem dX12_isBookHere_61 : decode cX12_isBookHere 61 = .ok (.iconst 1, 1) := by decide +kernel
theorem dX12_isBookHere_62 : decode cX12_isBookHere 62 = .ok (.iastore, 1) := by decide +kernel
theorem dX12_isBookHere_63 : decode cX12_isBookHere 63 = .ok (.iconst 1, 1) := by decide +kernel
theorem dX12_isBookHere_64 : decode cX12_isBookHere 64 = .ok (.ireturn, 1) := by decide +kernel
theorem dX12_isBookWord_0 : decode cX12_isBookWord 0 = .ok (.aload_n 0, 1) := by decide +kernel
theorem dX12_isBookWord_1 : decode cX12_isBookWord 1 = .ok (.ldc2_w 221, 3) := by decide +kernel
theorem dX12_isBookWord_4 : decode cX12_isBookWord 4 = .ok (.invokevirtual 98, 3) := by decide +kernel
theorem dX12_isBookWord_7 : decode cX12_isBookWord 7 = .ok (.ifCond .ne 33, 3) := by decide +kernel
theorem dX12_isBookWord_10 : decode cX12_isBookWord 10 = .ok (.aload_n 0, 1) := by decide +kernel
theorem dX12_isBookWord_11 : decode cX12_isBookWord 11 = .ok (.ldc2_w 226, 3) := by decide +kernel
theorem dX12_isBookWord_14 : decode cX12_isBookWord 14 = .ok (.invokevirtual 98, 3) := by decide +kernel
theorem dX12_isBookWord_17 : decode cX12_isBookWord 17 = .ok (.ifCond .ne 23, 3) := by decide +kernel
theorem dX12_isBookWord_20 : decode cX12_isBookWord 20 = .ok (.aload_n 0, 1) := by decide +kernel
theorem dX12_isBookWord_21 : decode cX12_isBookWord 21 = .ok (.ldc2_w 119, 3) := by decide +kernel
theorem dX12_isBookWord_24 : decode cX12_isBookWord 24 = .ok (.invokevirtual 98, 3) := by decide +kernel
theorem dX12_isBookWord_27 : decode cX12_isBookWord 27 = .ok (.ifCond .ne 13, 3) := by decide +kernel
theorem dX12_isBookWord_30 : decode cX12_isBookWord 30 = .ok (.aload_n 0, 1) := by decide +kernel
theorem dX12_isBookWord_31 : decode cX12_isBookWord 31 = .ok (.ldc2_w 237, 3) := by decide +kernel
theorem dX12_isBookWord_34 : decode cX12_isBookWord 34 = .ok (.invokevirtual 98, 3) := by decide +kernel
theorem dX12_isBookWord_37 : decode cX12_isBookWord 37 = .ok (.ifCond .eq 7, 3) := by decide +kernel
theorem dX12_isBookWord_40 : decode cX12_isBookWord 40 = .ok (.iconst 1, 1) := by decide +kernel
theorem dX12_isBookWord_41 : decode cX12_isBookWord 41 = .ok (.goto 4, 3) := by decide +kernel
theorem dX12_isBookWord_44 : decode cX12_isBookWord 44 = .ok (.iconst 0, 1) := by decide +kernel
theorem dX12_isBookWord_45 : decode cX12_isBookWord 45 = .ok (.ireturn, 1) := by decide +kernel
theorem dX12_isBuyerHere_0 : decode cX12_isBuyerHere 0 = .ok (.aload_n 0, 1) := by decide +kernel
theorem dX12_isBuyerHere_1 : decode cX12_isBuyerHere 1 = .ok (.getfield 26, 3) := by decide +kernel
theorem dX12_isBuyerHere_4 : decode cX12_isBuyerHere 4 = .ok (.iconst 3, 1) := by decide +kernel
theorem dX12_isBuyerHere_5 : decode cX12_isBuyerHere 5 = .ok (.iaload, 1) := by decide +kernel
theorem dX12_isBuyerHere_6 : decode cX12_isBuyerHere 6 = .ok (.bipush 6, 2) := by decide +kernel
theorem dX12_isBuyerHere_8 : decode cX12_isBuyerHere 8 = .ok (.if_icmp .ne 10, 3) := by decide +kernel
theorem dX12_isBuyerHere_11 : decode cX12_isBuyerHere 11 = .ok (.aload_n 0, 1) := by decide +kernel
theorem dX12_isBuyerHere_12 : decode cX12_isBuyerHere 12 = .ok (.iconst 4, 1) := by decide +kernel
theorem dX12_isBuyerHere_13 : decode cX12_isBuyerHere 13 = .ok (.iload_n 1, 1) := by decide +kernel
theorem dX12_isBuyerHere_14 : decode cX12_isBuyerHere 14 = .ok (.invokevirtual 108, 3) := by decide +kernel
theorem dX12_isBuyerHere_17 : decode cX12_isBuyerHere 17 = .ok (.ireturn, 1) := by decide +kernel
theorem dX12_isBuyerHere_18 : decode cX12_isBuyerHere 18 = .ok (.aload_n 0, 1) := by decide +kernel
theorem dX12_isBuyerHere_19 : decode cX12_isBuyerHere 19 = .ok (.invokevirtual 102, 3) := by decide +kernel
theorem dX12_isBuyerHere_22 : decode cX12_isBuyerHere 22 = .ok (.aload_n 0, 1) := by decide +kernel
theorem dX12_isBuyerHere_23 : decode cX12_isBuyerHere 23 = .ok (.getfield 26, 3) := by decide +kernel
theorem dX12_isBuyerHere_26 : decode cX12_isBuyerHere 26 = .ok (.iconst 3, 1) := by decide +kernel
theorem dX12_isBuyerHere_27 : decode cX12_isBuyerHere 27 = .ok (.iaload, 1) := by decide +kernel
theorem dX12_isBuyerHere_28 : decode cX12_isBuyerHere 28 = .ok (.istore_n 2, 1) := by decide +kernel
theorem dX12_isBuyerHere_29 : decode cX12_isBuyerHere 29 = .ok (.aload_n 0, 1) := by decide +kernel
theorem dX12_isBuyerHere_30 : decode cX12_isBuyerHere 30 = .ok (.bipush 68, 2) := by decide +kernel
theorem dX12_isBuyerHere_32 : decode cX12_isBuyerHere 32 = .ok (.iload_n 2, 1) := by decide +kernel
theorem dX12_isBuyerHere_33 : decode cX12_isBuyerHere 33 = .ok (.iadd, 1) := by decide +kernel
theorem dX12_isBuyerHere_34 : decode cX12_isBuyerHere 34 = .ok (.iconst 0, 1) := by decide +kernel
theorem dX12_isBuyerHere_35 : decode cX12_isBuyerHere 35 = .ok (.bipush 20, 2) := by decide +kernel
theorem dX12_isBuyerHere_37 : decode cX12_isBuyerHere 37 = .ok (.invokevirtual 217, 3) := by decide +kernel
theorem dX12_isBuyerHere_40 : decode cX12_isBuyerHere 40 = .ok (.ifCond .eq 31, 3) := by decide +kernel
theorem dX12_isBuyerHere_43 : decode cX12_isBuyerHere 43 = .ok (.aload_n 0, 1) := by decide +kernel
theorem dX12_isBuyerHere_44 : decode cX12_isBuyerHere 44 = .ok (.bipush 56, 2) := by decide +kernel
theorem dX12_isBuyerHere_46 : decode cX12_isBuyerHere 46 = .ok (.iload_n 2, 1) := by decide +kernel
theorem dX12_isBuyerHere_47 : decode cX12_isBuyerHere 47 = .ok (.iadd, 1) := by decide +kernel
theorem dX12_isBuyerHere_48 : decode cX12_isBuyerHere 48 = .ok (.iconst 1, 1) := by decide +kernel
theorem dX12_isBuyerHere_49 : decode cX12_isBuyerHere 49 = .ok (.bipush 9, 2) := by decide +kernel
theorem dX12_isBuyerHere_51 : decode cX12_isBuyerHere 51 = .ok (.invokevirtual 217, 3) := by decide +kernel
theorem dX12_isBuyerHere_54 : decode cX12_isBuyerHere 54 = .ok (.ifCond .eq 17, 3) := by decide +kernel
theorem dX12_isBuyerHere_57 : decode cX12_isBuyerHere 57 = .ok (.aload_n 0, 1) := by decide +kernel
theorem dX12_isBuyerHere_58 : decode cX12_isBuyerHere 58 = .ok (.bipush 62, 2) := by decide +kernel
theorem dX12_isBuyerHere_60 : decode cX12_isBuyerHere 60 = .ok (.iload_n 2, 1) := by decide +kernel
theorem dX12_isBuyerHere_61 : decode cX12_isBuyerHere 61 = .ok (.iadd, 1) := by decide +kernel
theorem dX12_isBuyerHere_62 : decode cX12_isBuyerHere 62 = .ok (.iconst 0, 1) := by decide +kernel
theorem dX12_isBuyerHere_63 : decode cX12_isBuyerHere 63 = .ok (.bipush 9, 2) := by decide +kernel
theorem dX12_isBuyerHere_65 : decode cX12_isBuyerHere 65 = .ok (.invokevirtual 217, 3) := by decide +kernel
theorem dX12_isBuyerHere_68 : decode cX12_isBuyerHere 68 = .ok (.ifCond .ne 5, 3) := by decide +kernel
theorem dX12_isBuyerHere_71 : decode cX12_isBuyerHere 71 = .ok (.iconst 0, 1) := by decide +kernel
theorem dX12_isBuyerHere_72 : decode cX12_isBuyerHere 72 = .ok (.ireturn, 1) := by decide +kernel
theorem dX12_isBuyerHere_73 : decode cX12_isBuyerHere 73 = .ok (.aload_n 0, 1) := by decide +kernel
theorem dX12_isBuyerHere_74 : decode cX12_isBuyerHere 74 = .ok (.getfield 26, 3) := by decide +kernel
theorem dX12_isBuyerHere_77 : decode cX12_isBuyerHere 77 = .ok (.iconst 3, 1) := by decide +kernel
theorem dX12_isBuyerHere_78 : decode cX12_isBuyerHere 78 = .ok (.dup2, 1) := by decide +kernel
theorem dX12_isBuyerHere_79 : decode cX12_isBuyerHere 79 = .ok (.iaload, 1) := by decide +kernel
theorem dX12_isBuyerHere_80 : decode cX12_isBuyerHere 80 = .ok (.iconst 1, 1) := by decide +kernel
theorem dX12_isBuyerHere_81 : decode cX12_isBuyerHere 81 = .ok (.iadd, 1) := by decide +kernel
theorem dX12_isBuyerHere_82 : decode cX12_isBuyerHere 82 = .ok (.iastore, 1) := by decide +kernel
theorem dX12_isBuyerHere_83 : decode cX12_isBuyerHere 83 = .ok (.iconst 1, 1) := by decide +kernel
theorem dX12_isBuyerHere_84 : decode cX12_isBuyerHere 84 = .ok (.ireturn, 1) := by decide +kernel
theorem dX12_isSkyHere_0 : decode cX12_isSkyHere 0 = .ok (.aload_n 0, 1) := by decide +kernel
theorem dX12_isSkyHere_1 : decode cX12_isSkyHere 1 = .ok (.invokevirtual 102, 3) := by decide +kernel
theorem dX12_isSkyHere_4 : decode cX12_isSkyHere 4 = .ok (.aload_n 0, 1) := by decide +kernel
theorem dX12_isSkyHere_5 : decode cX12_isSkyHere 5 = .ok (.iconst 0, 1) := by decide +kernel
theorem dX12_isSkyHere_6 : decode cX12_isSkyHere 6 = .ok (.aload_n 0, 1) := by decide +kernel
theorem dX12_isSkyHere_7 : decode cX12_isSkyHere 7 = .ok (.getfield 26, 3) := by decide +kernel
theorem dX12_isSkyHere_10 : decode cX12_isSkyHere 10 = .ok (.iconst 2, 1) := by decide +kernel
theorem dX12_isSkyHere_11 : decode cX12_isSkyHere 11 = .ok (.iaload, 1) := by decide +kernel
theorem dX12_isSkyHere_12 : decode cX12_isSkyHere 12 = .ok (.iconst 1, 1) := by decide +kernel
theorem dX12_isSkyHere_13 : decode cX12_isSkyHere 13 = .ok (.isub, 1) := by decide +kernel
theorem dX12_isSkyHere_14 : decode cX12_isSkyHere 14 = .ok (.invokevirtual 166, 3) := by decide +kernel
theorem dX12_isSkyHere_17 : decode cX12_isSkyHere 17 = .ok (.ifCond .ne 5, 3) := by decide +kernel
theorem dX12_isSkyHere_20 : decode cX12_isSkyHere 20 = .ok (.iconst 0, 1) := by decide +kernel
theorem dX12_isSkyHere_21 : decode cX12_isSkyHere 21 = .ok (.ireturn, 1) := by decide +kernel
theorem dX12_isSkyHere_22 : decode cX12_isSkyHere 22 = .ok (.aload_n 0, 1) := by decide +kernel
theorem dX12_isSkyHere_23 : decode cX12_isSkyHere 23 = .ok (.bipush 74, 2) := by decide +kernel
theorem dX12_isSkyHere_25 : decode cX12_isSkyHere 25 = .ok (.aload_n 0, 1) := by decide +kernel
theorem dX12_isSkyHere_26 : decode cX12_isSkyHere 26 = .ok (.getfield 112, 3) := by decide +kernel
theorem dX12_isSkyHere_29 : decode cX12_isSkyHere 29 = .ok (.iadd, 1) := by decide +kernel
theorem dX12_isSkyHere_30 : decode cX12_isSkyHere 30 = .ok (.iconst 0, 1) := by decide +kernel
theorem dX12_isSkyHere_31 : decode cX12_isSkyHere 31 = .ok (.bipush 9, 2) := by decide +kernel
theorem dX12_isSkyHere_33 : decode cX12_isSkyHere 33 = .ok (.invokevirtual 217, 3) := by decide +kernel
theorem dX12_isSkyHere_36 : decode cX12_isSkyHere 36 = .ok (.ireturn, 1) := by decide +kernel
theorem dX12_isWatchHere_0 : decode cX12_isWatchHere 0 = .ok (.aload_n 0, 1) := by decide +kernel
theorem dX12_isWatchHere_1 : decode cX12_isWatchHere 1 = .ok (.invokevirtual 102, 3) := by decide +kernel
theorem dX12_isWatchHere_4 : decode cX12_isWatchHere 4 = .ok (.aload_n 0, 1) := by decide +kernel
theorem dX12_isWatchHere_5 : decode cX12_isWatchHere 5 = .ok (.iconst 0, 1) := by decide +kernel
theorem dX12_isWatchHere_6 : decode cX12_isWatchHere 6 = .ok (.aload_n 0, 1) := by decide +kernel
theorem dX12_isWatchHere_7 : decode cX12_isWatchHere 7 = .ok (.getfield 26, 3) := by decide +kernel
theorem dX12_isWatchHere_10 : decode cX12_isWatchHere 10 = .ok (.iconst 2, 1) := by decide +kernel
theorem dX12_isWatchHere_11 : decode cX12_isWatchHere 11 = .ok (.iaload, 1) := by decide +kernel
theorem dX12_isWatchHere_12 : decode cX12_isWatchHere 12 = .ok (.iconst 1, 1) := by decide +kernel
theorem dX12_isWatchHere_13 : decode cX12_isWatchHere 13 = .ok (.isub, 1) := by decide +kernel
theorem dX12_isWatchHere_14 : decode cX12_isWatchHere 14 = .ok (.invokevirtual 166, 3) := by decide +kernel
theorem dX12_isWatchHere_17 : decode cX12_isWatchHere 17 = .ok (.ifCond .ne 5, 3) := by decide +kernel
theorem dX12_isWatchHere_20 : decode cX12_isWatchHere 20 = .ok (.iconst 0, 1) := by decide +kernel
theorem dX12_isWatchHere_21 : decode cX12_isWatchHere 21 = .ok (.ireturn, 1) := by decide +kernel
theorem dX12_isWatchHere_22 : decode cX12_isWatchHere 22 = .ok (.aload_n 0, 1) := by decide +kernel
theorem dX12_isWatchHere_23 : decode cX12_isWatchHere 23 = .ok (.getfield 112, 3) := by decide +kernel
theorem dX12_isWatchHere_26 : decode cX12_isWatchHere 26 = .ok (.istore_n 1, 1) := by decide +kernel
theorem dX12_isWatchHere_27 : decode cX12_isWatchHere 27 = .ok (.aload_n 0, 1) := by decide +kernel
theorem dX12_isWatchHere_28 : decode cX12_isWatchHere 28 = .ok (.iconst 0, 1) := by decide +kernel
theorem dX12_isWatchHere_29 : decode cX12_isWatchHere 29 = .ok (.aload_n 0, 1) := by decide +kernel
theorem dX12_isWatchHere_30 : decode cX12_isWatchHere 30 = .ok (.getfield 26, 3) := by decide +kernel
theorem dX12_isWatchHere_33 : decode cX12_isWatchHere 33 = .ok (.iconst 3, 1) := by decide +kernel
theorem dX12_isWatchHere_34 : decode cX12_isWatchHere 34 = .ok (.iaload, 1) := by decide +kernel
theorem dX12_isWatchHere_35 : decode cX12_isWatchHere 35 = .ok (.iconst 1, 1) := by decide +kernel
theorem dX12_isWatchHere_36 : decode cX12_isWatchHere 36 = .ok (.isub, 1) := by decide +kernel
theorem dX12_isWatchHere_37 : decode cX12_isWatchHere 37 = .ok (.invokevirtual 166, 3) := by decide +kernel
theorem dX12_isWatchHere_40 : decode cX12_isWatchHere 40 = .ok (.ifCond .ne 5, 3) := by decide +kernel
theorem dX12_isWatchHere_43 : decode cX12_isWatchHere 43 = .ok (.iconst 0, 1) := by decide +kernel
theorem dX12_isWatchHere_44 : decode cX12_isWatchHere 44 = .ok (.ireturn, 1) := by decide +kernel
theorem dX12_isWatchHere_45 : decode cX12_isWatchHere 45 = .ok (.aload_n 0, 1) := by decide +kernel
theorem dX12_isWatchHere_46 : decode cX12_isWatchHere 46 = .ok (.getfield 26, 3) := by decide +kernel
theorem dX12_isWatchHere_49 : decode cX12_isWatchHere 49 = .ok (.bipush 84, 2) := by decide +kernel
theorem dX12_isWatchHere_51 : decode cX12_isWatchHere 51 = .ok (.iload_n 1, 1) := by decide +kernel
theorem dX12_isWatchHere_52 : decode cX12_isWatchHere 52 = .ok (.iadd, 1) := by decide +kernel
theorem dX12_isWatchHere_53 : decode cX12_isWatchHere 53 = .ok (.dup2, 1) := by decide +kernel
theorem dX12_isWatchHere_54 : decode cX12_isWatchHere 54 = .ok (.iaload, 1) := by decide +kernel
theorem dX12_isWatchHere_55 : decode cX12_isWatchHere 55 = .ok (.iconst 1, 1) := by decide +kernel
theorem dX12_isWatchHere_56 : decode cX12_isWatchHere 56 = .ok (.aload_n 0, 1) := by decide +kernel
theorem dX12_isWatchHere_57 : decode cX12_isWatchHere 57 = .ok (.getfield 112, 3) := by decide +kernel
theorem dX12_isWatchHere_60 : decode cX12_isWatchHere 60 = .ok (.ishl, 1) := by decide +kernel
theorem dX12_isWatchHere_61 : decode cX12_isWatchHere 61 = .ok (.ior, 1) := by decide +kernel
theorem dX12_isWatchHere_62 : decode cX12_isWatchHere 62 = .ok (.iastore, 1) := by decide +kernel
theorem dX12_isWatchHere_63 : decode cX12_isWatchHere 63 = .ok (.iconst 1, 1) := by decide +kernel
theorem dX12_isWatchHere_64 : decode cX12_isWatchHere 64 = .ok (.ireturn, 1) := by decide +kernel
