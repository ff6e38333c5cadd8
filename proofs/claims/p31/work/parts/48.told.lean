theorem dX12_book_0 : decode cX12_book 0 = .ok (.aload_n 0, 1) := by decide +kernel
theorem dX12_book_1 : decode cX12_book 1 = .ok (.bipush 6, 2) := by decide +kernel
theorem dX12_book_3 : decode cX12_book 3 = .ok (.putfield 145, 3) := by decide +kernel
theorem dX12_book_6 : decode cX12_book 6 = .ok (.iconst 0, 1) := by decide +kernel
theorem dX12_book_7 : decode cX12_book 7 = .ok (.istore_n 1, 1) := by decide +kernel
theorem dX12_book_8 : decode cX12_book 8 = .ok (.iload_n 1, 1) := by decide +kernel
theorem dX12_book_9 : decode cX12_book 9 = .ok (.bipush 95, 2) := by decide +kernel
theorem dX12_book_11 : decode cX12_book 11 = .ok (.if_icmp .ge 16, 3) := by decide +kernel
theorem dX12_book_14 : decode cX12_book 14 = .ok (.aload_n 0, 1) := by decide +kernel
theorem dX12_book_15 : decode cX12_book 15 = .ok (.getfield 26, 3) := by decide +kernel
theorem dX12_book_18 : decode cX12_book 18 = .ok (.iload_n 1, 1) := by decide +kernel
theorem dX12_book_19 : decode cX12_book 19 = .ok (.iconst 0, 1) := by decide +kernel
theorem dX12_book_20 : decode cX12_book 20 = .ok (.iastore, 1) := by decide +kernel
theorem dX12_book_21 : decode cX12_book 21 = .ok (.iinc 1 1, 3) := by decide +kernel
theorem dX12_book_24 : decode cX12_book 24 = .ok (.goto (-16), 3) := by decide +kernel
theorem dX12_book_27 : decode cX12_book 27 = .ok (.aload_n 0, 1) := by decide +kernel
theorem dX12_book_28 : decode cX12_book 28 = .ok (.invokevirtual 259, 3) := by decide +kernel
theorem dX12_book_31 : decode cX12_book 31 = .ok (.ifCond .ne 11, 3) := by decide +kernel
theorem dX12_book_34 : decode cX12_book 34 = .ok (.bipush (-2), 2) := by decide +kernel
theorem dX12_book_36 : decode cX12_book 36 = .ok (.aload_n 0, 1) := by decide +kernel
theorem dX12_book_37 : decode cX12_book 37 = .ok (.getfield 84, 3) := by decide +kernel
theorem dX12_book_40 : decode cX12_book 40 = .ok (.isub, 1) := by decide +kernel
theorem dX12_book_41 : decode cX12_book 41 = .ok (.ireturn, 1) := by decide +kernel
theorem dX12_book_42 : decode cX12_book 42 = .ok (.iconst 0, 1) := by decide +kernel
theorem dX12_book_43 : decode cX12_book 43 = .ok (.istore_n 1, 1) := by decide +kernel
theorem dX12_book_44 : decode cX12_book 44 = .ok (.iload_n 1, 1) := by decide +kernel
theorem dX12_book_45 : decode cX12_book 45 = .ok (.bipush 126, 2) := by decide +kernel
theorem dX12_book_47 : decode cX12_book 47 = .ok (.if_icmp .ge 31, 3) := by decide +kernel
theorem dX12_book_50 : decode cX12_book 50 = .ok (.aload_n 0, 1) := by decide +kernel
theorem dX12_book_51 : decode cX12_book 51 = .ok (.getfield 39, 3) := by decide +kernel
theorem dX12_book_54 : decode cX12_book 54 = .ok (.iload_n 1, 1) := by decide +kernel
theorem dX12_book_55 : decode cX12_book 55 = .ok (.iload_n 1, 1) := by decide +kernel
theorem dX12_book_56 : decode cX12_book 56 = .ok (.bipush 95, 2) := by decide +kernel
theorem dX12_book_58 : decode cX12_book 58 = .ok (.if_icmp .ge 12, 3) := by decide +kernel
theorem dX12_book_61 : decode cX12_book 61 = .ok (.aload_n 0, 1) := by decide +kernel
theorem dX12_book_62 : decode cX12_book 62 = .ok (.getfield 26, 3) := by decide +kernel
theorem dX12_book_65 : decode cX12_book 65 = .ok (.iload_n 1, 1) := by decide +kernel
theorem dX12_book_66 : decode cX12_book 66 = .ok (.iaload, 1) := by decide +kernel
theorem dX12_book_67 : decode cX12_book 67 = .ok (.goto 4, 3) := by decide +kernel
theorem dX12_book_70 : decode cX12_book 70 = .ok (.iconst 0, 1) := by decide +kernel
theorem dX12_book_71 : decode cX12_book 71 = .ok (.iastore, 1) := by decide +kernel
theorem dX12_book_72 : decode cX12_book 72 = .ok (.iinc 1 1, 3) := by decide +kernel
theorem dX12_book_75 : decode cX12_book 75 = .ok (.goto (-31), 3) := by decide +kernel
theorem dX12_book_78 : decode cX12_book 78 = .ok (.aload_n 0, 1) := by decide +kernel
theorem dX12_book_79 : decode cX12_book 79 = .ok (.invokevirtual 262, 3) := by decide +kernel
theorem dX12_book_82 : decode cX12_book 82 = .ok (.aload_n 0, 1) := by decide +kernel
theorem dX12_book_83 : decode cX12_book 83 = .ok (.iconst 0, 1) := by decide +kernel
theorem dX12_book_84 : decode cX12_book 84 = .ok (.putfield 265, 3) := by decide +kernel
theorem dX12_book_87 : decode cX12_book 87 = .ok (.aload_n 0, 1) := by decide +kernel
theorem dX12_book_88 : decode cX12_book 88 = .ok (.getfield 39, 3) := by decide +kernel
theorem dX12_book_91 : decode cX12_book 91 = .ok (.iconst 3, 1) := by decide +kernel
theorem dX12_book_92 : decode cX12_book 92 = .ok (.iaload, 1) := by decide +kernel
theorem dX12_book_93 : decode cX12_book 93 = .ok (.ireturn, 1) := by decide +kernel
theorem dX12_bookLineHere_0 : decode cX12_bookLineHere 0 = .ok (.aload_n 0, 1) := by decide +kernel
theorem dX12_bookLineHere_1 : decode cX12_bookLineHere 1 = .ok (.ldc2_w 221, 3) := by decide +kernel
theorem dX12_bookLineHere_4 : decode cX12_bookLineHere 4 = .ok (.invokevirtual 98, 3) := by decide +kernel
theorem dX12_bookLineHere_7 : decode cX12_bookLineHere 7 = .ok (.ifCond .eq 9, 3) := by decide +kernel
theorem dX12_bookLineHere_10 : decode cX12_bookLineHere 10 = .ok (.aload_n 0, 1) := by decide +kernel
theorem dX12_bookLineHere_11 : decode cX12_bookLineHere 11 = .ok (.iload_n 1, 1) := by decide +kernel
theorem dX12_bookLineHere_12 : decode cX12_bookLineHere 12 = .ok (.invokevirtual 223, 3) := by decide +kernel
theorem dX12_bookLineHere_15 : decode cX12_bookLineHere 15 = .ok (.ireturn, 1) := by decide +kernel
theorem dX12_bookLineHere_16 : decode cX12_bookLineHere 16 = .ok (.aload_n 0, 1) := by decide +kernel
theorem dX12_bookLineHere_17 : decode cX12_bookLineHere 17 = .ok (.getfield 26, 3) := by decide +kernel
theorem dX12_bookLineHere_20 : decode cX12_bookLineHere 20 = .ok (.iconst 0, 1) := by decide +kernel
theorem dX12_bookLineHere_21 : decode cX12_bookLineHere 21 = .ok (.iaload, 1) := by decide +kernel
theorem dX12_bookLineHere_22 : decode cX12_bookLineHere 22 = .ok (.ifCond .ne 10, 3) := by decide +kernel
theorem dX12_bookLineHere_25 : decode cX12_bookLineHere 25 = .ok (.aload_n 0, 1) := by decide +kernel
theorem dX12_bookLineHere_26 : decode cX12_bookLineHere 26 = .ok (.iconst 4, 1) := by decide +kernel
theorem dX12_bookLineHere_27 : decode cX12_bookLineHere 27 = .ok (.iload_n 1, 1) := by decide +kernel
theorem dX12_bookLineHere_28 : decode cX12_bookLineHere 28 = .ok (.invokevirtual 108, 3) := by decide +kernel
theorem dX12_bookLineHere_31 : decode cX12_bookLineHere 31 = .ok (.ireturn, 1) := by decide +kernel
theorem dX12_bookLineHere_32 : decode cX12_bookLineHere 32 = .ok (.aload_n 0, 1) := by decide +kernel
theorem dX12_bookLineHere_33 : decode cX12_bookLineHere 33 = .ok (.ldc2_w 226, 3) := by decide +kernel
theorem dX12_bookLineHere_36 : decode cX12_bookLineHere 36 = .ok (.invokevirtual 98, 3) := by decide +kernel
theorem dX12_bookLineHere_39 : decode cX12_bookLineHere 39 = .ok (.ifCond .eq 8, 3) := by decide +kernel
theorem dX12_bookLineHere_42 : decode cX12_bookLineHere 42 = .ok (.aload_n 0, 1) := by decide +kernel
theorem dX12_bookLineHere_43 : decode cX12_bookLineHere 43 = .ok (.invokevirtual 228, 3) := by decide +kernel
theorem dX12_bookLineHere_46 : decode cX12_bookLineHere 46 = .ok (.ireturn, 1) := by decide +kernel
theorem dX12_bookLineHere_47 : decode cX12_bookLineHere 47 = .ok (.aload_n 0, 1) := by decide +kernel
theorem dX12_bookLineHere_48 : decode cX12_bookLineHere 48 = .ok (.ldc2_w 119, 3) := by decide +kernel
theorem dX12_bookLineHere_51 : decode cX12_bookLineHere 51 = .ok (.invokevirtual 98, 3) := by decide +kernel
theorem dX12_bookLineHere_54 : decode cX12_bookLineHere 54 = .ok (.ifCond .eq 11, 3) := by decide +kernel
theorem dX12_bookLineHere_57 : decode cX12_bookLineHere 57 = .ok (.aload_n 0, 1) := by decide +kernel
theorem dX12_bookLineHere_58 : decode cX12_bookLineHere 58 = .ok (.iload_n 1, 1) := by decide +kernel
theorem dX12_bookLineHere_59 : decode cX12_bookLineHere 59 = .ok (.invokevirtual 231, 3) := by decide +kernel
theorem dX12_bookLineHere_62 : decode cX12_bookLineHere 62 = .ok (.goto 7, 3) := by decide +kernel
theorem dX12_bookLineHere_65 : decode cX12_bookLineHere 65 = .ok (.aload_n 0, 1) := by decide +kernel
theorem dX12_bookLineHere_66 : decode cX12_bookLineHere 66 = .ok (.invokevirtual 234, 3) := by decide +kernel
theorem dX12_bookLineHere_69 : decode cX12_bookLineHere 69 = .ok (.ireturn, 1) := by decide +kernel
theorem dX12_cellHere_0 : decode cX12_cellHere 0 = .ok (.aload_n 0, 1) := by decide +kernel
theorem dX12_cellHere_1 : decode cX12_cellHere 1 = .ok (.iload_n 2, 1) := by decide +kernel
theorem dX12_cellHere_2 : decode cX12_cellHere 2 = .ok (.iload_n 3, 1) := by decide +kernel
theorem dX12_cellHere_3 : decode cX12_cellHere 3 = .ok (.invokevirtual 166, 3) := by decide +kernel
theorem dX12_cellHere_6 : decode cX12_cellHere 6 = .ok (.ifCond .ne 5, 3) := by decide +kernel
theorem dX12_cellHere_9 : decode cX12_cellHere 9 = .ok (.iconst 0, 1) := by decide +kernel
theorem dX12_cellHere_10 : decode cX12_cellHere 10 = .ok (.ireturn, 1) := by decide +kernel
theorem dX12_cellHere_11 : decode cX12_cellHere 11 = .ok (.aload_n 0, 1) := by decide +kernel
theorem dX12_cellHere_12 : decode cX12_cellHere 12 = .ok (.getfield 26, 3) := by decide +kernel
theorem dX12_cellHere_15 : decode cX12_cellHere 15 = .ok (.iload_n 1, 1) := by decide +kernel
theorem dX12_cellHere_16 : decode cX12_cellHere 16 = .ok (.aload_n 0, 1) := by decide +kernel
theorem dX12_cellHere_17 : decode cX12_cellHere 17 = .ok (.getfield 112, 3) := by decide +kernel
theorem dX12_cellHere_20 : decode cX12_cellHere 20 = .ok (.iastore, 1) := by decide +kernel
theorem dX12_cellHere_21 : decode cX12_cellHere 21 = .ok (.iconst 1, 1) := by decide +kernel
theorem dX12_cellHere_22 : decode cX12_cellHere 22 = .ok (.ireturn, 1) := by decide +kernel
theorem dX12_clauseHere_19 : decode cX12_clauseHere 19 = .ok (.iconst 1, 1) := by decide +kernel
theorem dX12_clauseHere_20 : decode cX12_clauseHere 20 = .ok (.goto 4, 3) := by decide +kernel
theorem dX12_clauseHere_29 : decode cX12_clauseHere 29 = .ok (.aload_n 0, 1) := by decide +kernel
theorem dX12_clauseHere_30 : decode cX12_clauseHere 30 = .ok (.invokevirtual 239, 3) := by decide +kernel
theorem dX12_clauseHere_33 : decode cX12_clauseHere 33 = .ok (.ifCond .ne 23, 3) := by decide +kernel
theorem dX12_clauseHere_36 : decode cX12_clauseHere 36 = .ok (.goto 13, 3) := by decide +kernel
theorem dX12_clauseHere_64 : decode cX12_clauseHere 64 = .ok (.bipush 40, 2) := by decide +kernel
theorem dX12_clauseHere_66 : decode cX12_clauseHere 66 = .ok (.goto 5, 3) := by decide +kernel
theorem dX12_clauseHere_95 : decode cX12_clauseHere 95 = .ok (.aload_n 0, 1) := by decide +kernel
theorem dX12_clauseHere_96 : decode cX12_clauseHere 96 = .ok (.iload_n 1, 1) := by decide +kernel
theorem dX12_clauseHere_97 : decode cX12_clauseHere 97 = .ok (.invokevirtual 247, 3) := by decide +kernel
theorem dX12_clauseHere_100 : decode cX12_clauseHere 100 = .ok (.goto 7, 3) := by decide +kernel
theorem dX12_isBookHere_0 : decode cX12_isBookHere 0 = .ok (.aload_n 0, 1) := by decide +kernel
theorem dX12_isBookHere_1 : decode cX12_isBookHere 1 = .ok (.getfield 26, 3) := by decide +kernel
theorem dX12_isBookHere_4 : decode cX12_isBookHere 4 = .ok (.iconst 0, 1) := by decide +kernel
theorem dX12_isBookHere_5 : decode cX12_isBookHere 5 = .ok (.iaload, 1) := by decide +kernel
theorem dX12_isBookHere_6 : decode cX12_isBookHere 6 = .ok (.ifCond .le 10, 3) := by decide +kernel
theorem dX12_isBookHere_9 : decode cX12_isBookHere 9 = .ok (.aload_n 0, 1) := by decide +kernel
theorem dX12_isBookHere_10 : decode cX12_isBookHere 10 = .ok (.iconst 4, 1) := by decide +kernel
theorem dX12_isBookHere_11 : decode cX12_isBookHere 11 = .ok (.iload_n 1, 1) := by decide +kernel
theorem dX12_isBookHere_12 : decode cX12_isBookHere 12 = .ok (.invokevirtual 108, 3) := by decide +kernel
theorem dX12_isBookHere_15 : decode cX12_isBookHere 15 = .ok (.ireturn, 1) := by decide +kernel
theorem dX12_isBookHere_16 : decode cX12_isBookHere 16 = .ok (.aload_n 0, 1) := by decide +kernel
theorem dX12_isBookHere_17 : decode cX12_isBookHere 17 = .ok (.invokevirtual 102, 3) := by decide +kernel
theorem dX12_isBookHere_20 : decode cX12_isBookHere 20 = .ok (.aload_n 0, 1) := by decide +kernel
theorem dX12_isBookHere_21 : decode cX12_isBookHere 21 = .ok (.bipush 94, 2) := by decide +kernel
theorem dX12_isBookHere_23 : decode cX12_isBookHere 23 = .ok (.iconst 0, 1) := by decide +kernel
theorem dX12_isBookHere_24 : decode cX12_isBookHere 24 = .ok (.bipush 99, 2) := by decide +kernel
theorem dX12_isBookHere_26 : decode cX12_isBookHere 26 = .ok (.invokevirtual 217, 3) := by decide +kernel
theorem dX12_isBookHere_29 : decode cX12_isBookHere 29 = .ok (.ifCond .eq 25, 3) := by decide +kernel
theorem dX12_isBookHere_32 : decode cX12_isBookHere 32 = .ok (.aload_n 0, 1) := by decide +kernel
theorem dX12_isBookHere_33 : decode cX12_isBookHere 33 = .ok (.iconst 1, 1) := by decide +kernel
theorem dX12_isBookHere_34 : decode cX12_isBookHere 34 = .ok (.iconst 0, 1) := by decide +kernel
theorem dX12_isBookHere_35 : decode cX12_isBookHere 35 = .ok (.bipush 9, 2) := by decide +kernel
theorem dX12_isBookHere_37 : decode cX12_isBookHere 37 = .ok (.invokevirtual 217, 3) := by decide +kernel
theorem dX12_isBookHere_40 : decode cX12_isBookHere 40 = .ok (.ifCond .eq 14, 3) := by decide +kernel
theorem dX12_isBookHere_43 : decode cX12_isBookHere 43 = .ok (.aload_n 0, 1) := by decide +kernel
theorem dX12_isBookHere_44 : decode cX12_isBookHere 44 = .ok (.iconst 2, 1) := by decide +kernel
theorem dX12_isBookHere_45 : decode cX12_isBookHere 45 = .ok (.iconst 1, 1) := by decide +kernel
theorem dX12_isBookHere_46 : decode cX12_isBookHere 46 = .ok (.bipush 10, 2) := by decide +kernel
theorem dX12_isBookHere_48 : decode cX12_isBookHere 48 = .ok (.invokevirtual 217, 3) := by decide +kernel
theorem dX12_isBookHere_51 : decode cX12_isBookHere 51 = .ok (.ifCond .ne 5, 3) := by decide +kernel
theorem dX12_isBookHere_54 : decode cX12_isBookHere 54 = .ok (.iconst 0, 1) := by decide +kernel
theorem dX12_isBookHere_55 : decode cX12_isBookHere 55 = .ok (.ireturn, 1) := by decide +kernel
theorem dX12_isBookHere_56 : decode cX12_isBookHere 56 = .ok (.aload_n 0, 1) := by decide +kernel
theorem dX12_isBookHere_57 : decode cX12_isBookHere 57 = .ok (.getfield 26, 3) := by decide +kernel
theorem dX12_isBookHere_60 : decode cX12_isBookHere 60 = .ok (.iconst 0, 1) := by decide +kernel
theorem dX12_isBookHere_61 : decode cX12_isBookHere 61 = .ok (.iconst 1, 1) := by decide +kernel
theorem dX12_isBookHere_62 : decode cX12_isBookHere 62 = .ok (.iastore, 1) := by decide +kernel
theorem dX12_isBookHere_63 : decode cX12_isBookHere 63 = .ok (.iconst 1, 1) := by decide +kernel
theorem dX12_isBookHere_64 : decode cX12_isBookHere 64 = .ok (.ireturn, 1) := by decide +kernel
theorem dX12_isBookWord_0 : decode cX12_isBookWord 0 = .ok (.aload_n 0, 1) := by decide +kernel
theorem dX12_isBookWord_1 : decode cX12_isBookWord 1 = .ok (.ldc2_w 221, 3) := by decide +kernel
theorem dX12_isBookWord_4 : decode cX12_isBookWord 4 = .ok (.invokevirtual 98, 3) := by decide +kernel
theorem dX12_isBookWord_7 : decode cX12_isBookWord 7 = .ok (.ifCond .ne 33, 3) := by decide +kernel
theorem dX12_isBookWord_10 : decode cX12_isBookWord 10 = .ok (.aload_n 0, 1) := by decide +kernel
theorem dX12_isBookWord_11 : decode cX12_isBookWord 11 = .ok (.ldc2_w 226, 3) := by decide +kernel
theorem dX12_isBookWord_14 : decode cX12_isBookWord 14 = .ok (.invokevirtual 98, 3) := by decide +kernel
theorem dX12_isBookWord_17 : decode cX12_isBookWord 17 = .ok (.ifCond .ne 23, 3) := by decide +kernel
theorem dX12_isBookWord_20 : decode cX12_isBookWord 20 = .ok (.aload_n 0, 1) := by decide +kernel
theorem dX12_isBookWord_21 : decode cX12_isBookWord 21 = .ok (.ldc2_w 119, 3) := by decide +kernel
theorem dX12_isBookWord_24 : decode cX12_isBookWord 24 = .ok (.invokevirtual 98, 3) := by decide +kernel
theorem dX12_isBookWord_27 : decode cX12_isBookWord 27 = .ok (.ifCond .ne 13, 3) := by decide +kernel
theorem dX12_isBookWord_30 : decode cX12_isBookWord 30 = .ok (.aload_n 0, 1) := by decide +kernel
theorem dX12_isBookWord_31 : decode cX12_isBookWord 31 = .ok (.ldc2_w 237, 3) := by decide +kernel
theorem dX12_isBookWord_34 : decode cX12_isBookWord 34 = .ok (.invokevirtual 98, 3) := by decide +kernel
theorem dX12_isBookWord_37 : decode cX12_isBookWord 37 = .ok (.ifCond .eq 7, 3) := by decide +kernel
theorem dX12_isBookWord_40 : decode cX12_isBookWord 40 = .ok (.iconst 1, 1) := by decide +kernel
theorem dX12_isBookWord_41 : decode cX12_isBookWord 41 = .ok (.goto 4, 3) := by decide +kernel
theorem dX12_isBookWord_44 : decode cX12_isBookWord 44 = .ok (.iconst 0, 1) := by decide +kernel
theorem dX12_isBookWord_45 : decode cX12_isBookWord 45 = .ok (.ireturn, 1) := by decide +kernel
theorem dX12_isBuyerHere_0 : decode cX12_isBuyerHere 0 = .ok (.aload_n 0, 1) := by decide +kernel
theorem dX12_isBuyerHere_1 : decode cX12_isBuyerHere 1 = .ok (.getfield 26, 3) := by decide +kernel
theorem dX12_isBuyerHere_4 : decode cX12_isBuyerHere 4 = .ok (.iconst 3, 1) := by decide +kernel
theorem dX12_isBuyerHere_5 : decode cX12_isBuyerHere 5 = .ok (.iaload, 1) := by decide +kernel
theorem dX12_isBuyerHere_6 : decode cX12_isBuyerHere 6 = .ok (.bipush 6, 2) := by decide +kernel
theorem dX12_isBuyerHere_8 : decode cX12_isBuyerHere 8 = .ok (.if_icmp .ne 10, 3) := by decide +kernel
theorem dX12_isBuyerHere_11 : decode cX12_isBuyerHere 11 = .ok (.aload_n 0, 1) := by decide +kernel
theorem dX12_isBuyerHere_12 : decode cX12_isBuyerHere 12 = .ok (.iconst 4, 1) := by decide +kernel
theorem dX12_isBuyerHere_13 : decode cX12_isBuyerHere 13 = .ok (.iload_n 1, 1) := by decide +kernel
theorem dX12_isBuyerHere_14 : decode cX12_isBuyerHere 14 = .ok (.invokevirtual 108, 3) := by decide +kernel
theorem dX12_isBuyerHere_17 : decode cX12_isBuyerHere 17 = .ok (.ireturn, 1) := by decide +kernel
theorem dX12_isBuyerHere_18 : decode cX12_isBuyerHere 18 = .ok (.aload_n 0, 1) := by decide +kernel
theorem dX12_isBuyerHere_19 : decode cX12_isBuyerHere 19 = .ok (.invokevirtual 102, 3) := by decide +kernel
theorem dX12_isBuyerHere_22 : decode cX12_isBuyerHere 22 = .ok (.aload_n 0, 1) := by decide +kernel
theorem dX12_isBuyerHere_23 : decode cX12_isBuyerHere 23 = .ok (.getfield 26, 3) := by decide +kernel
theorem dX12_isBuyerHere_26 : decode cX12_isBuyerHere 26 = .ok (.iconst 3, 1) := by decide +kernel
theorem dX12_isBuyerHere_27 : decode cX12_isBuyerHere 27 = .ok (.iaload, 1) := by decide +kernel
theorem dX12_isBuyerHere_28 : decode cX12_isBuyerHere 28 = .ok (.istore_n 2, 1) := by decide +kernel
theorem dX12_isBuyerHere_29 : decode cX12_isBuyerHere 29 = .ok (.aload_n 0, 1) := by decide +kernel
theorem dX12_isBuyerHere_30 : decode cX12_isBuyerHere 30 = .ok (.bipush 68, 2) := by decide +kernel
theorem dX12_isBuyerHere_32 : decode cX12_isBuyerHere 32 = .ok (.iload_n 2, 1) := by decide +kernel
theorem dX12_isBuyerHere_33 : decode cX12_isBuyerHere 33 = .ok (.iadd, 1) := by decide +kernel
theorem dX12_isBuyerHere_34 : decode cX12_isBuyerHere 34 = .ok (.iconst 0, 1) := by decide +kernel
theorem dX12_isBuyerHere_35 : decode cX12_isBuyerHere 35 = .ok (.bipush 20, 2) := by decide +kernel
theorem dX12_isBuyerHere_37 : decode cX12_isBuyerHere 37 = .ok (.invokevirtual 217, 3) := by decide +kernel
theorem dX12_isBuyerHere_40 : decode cX12_isBuyerHere 40 = .ok (.ifCond .eq 31, 3) := by decide +kernel
theorem dX12_isBuyerHere_43 : decode cX12_isBuyerHere 43 = .ok (.aload_n 0, 1) := by decide +kernel
theorem dX12_isBuyerHere_44 : decode cX12_isBuyerHere 44 = .ok (.bipush 56, 2) := by decide +kernel
theorem dX12_isBuyerHere_46 : decode cX12_isBuyerHere 46 = .ok (.iload_n 2, 1) := by decide +kernel
theorem dX12_isBuyerHere_47 : decode cX12_isBuyerHere 47 = .ok (.iadd, 1) := by decide +kernel
theorem dX12_isBuyerHere_48 : decode cX12_isBuyerHere 48 = .ok (.iconst 1, 1) := by decide +kernel
theorem dX12_isBuyerHere_49 : decode cX12_isBuyerHere 49 = .ok (.bipush 9, 2) := by decide +kernel
theorem dX12_isBuyerHere_51 : decode cX12_isBuyerHere 51 = .ok (.invokevirtual 217, 3) := by decide +kernel
theorem dX12_isBuyerHere_54 : decode cX12_isBuyerHere 54 = .ok (.ifCond .eq 17, 3) := by decide +kernel
theorem dX12_isBuyerHere_57 : decode cX12_isBuyerHere 57 = .ok (.aload_n 0, 1) := by decide +kernel
theorem dX12_isBuyerHere_58 : decode cX12_isBuyerHere 58 = .ok (.bipush 62, 2) := by decide +kernel
theorem dX12_isBuyerHere_60 : decode cX12_isBuyerHere 60 = .ok (.iload_n 2, 1) := by decide +kernel
theorem dX12_isBuyerHere_61 : decode cX12_isBuyerHere 61 = .ok (.iadd, 1) := by decide +kernel
theorem dX12_isBuyerHere_62 : decode cX12_isBuyerHere 62 = .ok (.iconst 0, 1) := by decide +kernel
theorem dX12_isBuyerHere_63 : decode cX12_isBuyerHere 63 = .ok (.bipush 9, 2) := by decide +kernel
theorem dX12_isBuyerHere_65 : decode cX12_isBuyerHere 65 = .ok (.invokevirtual 217, 3) := by decide +kernel
theorem dX12_isBuyerHere_68 : decode cX12_isBuyerHere 68 = .ok (.ifCond .ne 5, 3) := by decide +kernel
theorem dX12_isBuyerHere_71 : decode cX12_isBuyerHere 71 = .ok (.iconst 0, 1) := by decide +kernel
theorem dX12_isBuyerHere_72 : decode cX12_isBuyerHere 72 = .ok (.ireturn, 1) := by decide +kernel
theorem dX12_isBuyerHere_73 : decode cX12_isBuyerHere 73 = .ok (.aload_n 0, 1) := by decide +kernel
theorem dX12_isBuyerHere_74 : decode cX12_isBuyerHere 74 = .ok (.getfield 26, 3) := by decide +kernel
theorem dX12_isBuyerHere_77 : decode cX12_isBuyerHere 77 = .ok (.iconst 3, 1) := by decide +kernel
theorem dX12_isBuyerHere_78 : decode cX12_isBuyerHere 78 = .ok (.dup2, 1) := by decide +kernel
theorem dX12_isBuyerHere_79 : decode cX12_isBuyerHere 79 = .ok (.iaload, 1) := by decide +kernel
theorem dX12_isBuyerHere_80 : decode cX12_isBuyerHere 80 = .ok (.iconst 1, 1) := by decide +kernel
theorem dX12_isBuyerHere_81 : decode cX12_isBuyerHere 81 = .ok (.iadd, 1) := by decide +kernel
theorem dX12_isBuyerHere_82 : decode cX12_isBuyerHere 82 = .ok (.iastore, 1) := by decide +kernel
theorem dX12_isBuyerHere_83 : decode cX12_isBuyerHere 83 = .ok (.iconst 1, 1) := by decide +kernel
theorem dX12_isBuyerHere_84 : decode cX12_isBuyerHere 84 = .ok (.ireturn, 1) := by decide +kernel
theorem dX12_isSkyHere_0 : decode cX12_isSkyHere 0 = .ok (.aload_n 0, 1) := by decide +kernel
theorem dX12_isSkyHere_1 : decode cX12_isSkyHere 1 = .ok (.invokevirtual 102, 3) := by decide +kernel
theorem dX12_isSkyHere_4 : decode cX12_isSkyHere 4 = .ok (.aload_n 0, 1) := by decide +kernel
theorem dX12_isSkyHere_5 : decode cX12_isSkyHere 5 = .ok (.iconst 0, 1) := by decide +kernel
theorem dX12_isSkyHere_6 : decode cX12_isSkyHere 6 = .ok (.aload_n 0, 1) := by decide +kernel
theorem dX12_isSkyHere_7 : decode cX12_isSkyHere 7 = .ok (.getfield 26, 3) := by decide +kernel
theorem dX12_isSkyHere_10 : decode cX12_isSkyHere 10 = .ok (.iconst 2, 1) := by decide +kernel
theorem dX12_isSkyHere_11 : decode cX12_isSkyHere 11 = .ok (.iaload, 1) := by decide +kernel
theorem dX12_isSkyHere_12 : decode cX12_isSkyHere 12 = .ok (.iconst 1, 1) := by decide +kernel
theorem dX12_isSkyHere_13 : decode cX12_isSkyHere 13 = .ok (.isub, 1) := by decide +kernel
theorem dX12_isSkyHere_14 : decode cX12_isSkyHere 14 = .ok (.invokevirtual 166, 3) := by decide +kernel
theorem dX12_isSkyHere_17 : decode cX12_isSkyHere 17 = .ok (.ifCond .ne 5, 3) := by decide +kernel
theorem dX12_isSkyHere_20 : decode cX12_isSkyHere 20 = .ok (.iconst 0, 1) := by decide +kernel
theorem dX12_isSkyHere_21 : decode cX12_isSkyHere 21 = .ok (.ireturn, 1) := by decide +kernel
theorem dX12_isSkyHere_22 : decode cX12_isSkyHere 22 = .ok (.aload_n 0, 1) := by decide +kernel
theorem dX12_isSkyHere_23 : decode cX12_isSkyHere 23 = .ok (.bipush 74, 2) := by decide +kernel
theorem dX12_isSkyHere_25 : decode cX12_isSkyHere 25 = .ok (.aload_n 0, 1) := by decide +kernel
theorem dX12_isSkyHere_26 : decode cX12_isSkyHere 26 = .ok (.getfield 112, 3) := by decide +kernel
theorem dX12_isSkyHere_29 : decode cX12_isSkyHere 29 = .ok (.iadd, 1) := by decide +kernel
theorem dX12_isSkyHere_30 : decode cX12_isSkyHere 30 = .ok (.iconst 0, 1) := by decide +kernel
theorem dX12_isSkyHere_31 : decode cX12_isSkyHere 31 = .ok (.bipush 9, 2) := by decide +kernel
theorem dX12_isSkyHere_33 : decode cX12_isSkyHere 33 = .ok (.invokevirtual 217, 3) := by decide +kernel
theorem dX12_isSkyHere_36 : decode cX12_isSkyHere 36 = .ok (.ireturn, 1) := by decide +kernel
theorem dX12_isWatchHere_0 : decode cX12_isWatchHere 0 = .ok (.aload_n 0, 1) := by decide +kernel
theorem dX12_isWatchHere_1 : decode cX12_isWatchHere 1 = .ok (.invokevirtual 102, 3) := by decide +kernel
theorem dX12_isWatchHere_4 : decode cX12_isWatchHere 4 = .ok (.aload_n 0, 1) := by decide +kernel
theorem dX12_isWatchHere_5 : decode cX12_isWatchHere 5 = .ok (.iconst 0, 1) := by decide +kernel
theorem dX12_isWatchHere_6 : decode cX12_isWatchHere 6 = .ok (.aload_n 0, 1) := by decide +kernel
theorem dX12_isWatchHere_7 : decode cX12_isWatchHere 7 = .ok (.getfield 26, 3) := by decide +kernel
theorem dX12_isWatchHere_10 : decode cX12_isWatchHere 10 = .ok (.iconst 2, 1) := by decide +kernel
theorem dX12_isWatchHere_11 : decode cX12_isWatchHere 11 = .ok (.iaload, 1) := by decide +kernel
theorem dX12_isWatchHere_12 : decode cX12_isWatchHere 12 = .ok (.iconst 1, 1) := by decide +kernel
theorem dX12_isWatchHere_13 : decode cX12_isWatchHere 13 = .ok (.isub, 1) := by decide +kernel
theorem dX12_isWatchHere_14 : decode cX12_isWatchHere 14 = .ok (.invokevirtual 166, 3) := by decide +kernel
theorem dX12_isWatchHere_17 : decode cX12_isWatchHere 17 = .ok (.ifCond .ne 5, 3) := by decide +kernel
theorem dX12_isWatchHere_20 : decode cX12_isWatchHere 20 = .ok (.iconst 0, 1) := by decide +kernel
theorem dX12_isWatchHere_21 : decode cX12_isWatchHere 21 = .ok (.ireturn, 1) := by decide +kernel
theorem dX12_isWatchHere_22 : decode cX12_isWatchHere 22 = .ok (.aload_n 0, 1) := by decide +kernel
theorem dX12_isWatchHere_23 : decode cX12_isWatchHere 23 = .ok (.getfield 112, 3) := by decide +kernel
theorem dX12_isWatchHere_26 : decode cX12_isWatchHere 26 = .ok (.istore_n 1, 1) := by decide +kernel
theorem dX12_isWatchHere_27 : decode cX12_isWatchHere 27 = .ok (.aload_n 0, 1) := by decide +kernel
theorem dX12_isWatchHere_28 : decode cX12_isWatchHere 28 = .ok (.iconst 0, 1) := by decide +kernel
theorem dX12_isWatchHere_29 : decode cX12_isWatchHere 29 = .ok (.aload_n 0, 1) := by decide +kernel
theorem dX12_isWatchHere_30 : decode cX12_isWatchHere 30 = .ok (.getfield 26, 3) := by decide +kernel
theorem dX12_isWatchHere_33 : decode cX12_isWatchHere 33 = .ok (.iconst 3, 1) := by decide +kernel
theorem dX12_isWatchHere_34 : decode cX12_isWatchHere 34 = .ok (.iaload, 1) := by decide +kernel
theorem dX12_isWatchHere_35 : decode cX12_isWatchHere 35 = .ok (.iconst 1, 1) := by decide +kernel
theorem dX12_isWatchHere_36 : decode cX12_isWatchHere 36 = .ok (.isub, 1) := by decide +kernel
theorem dX12_isWatchHere_37 : decode cX12_isWatchHere 37 = .ok (.invokevirtual 166, 3) := by decide +kernel
theorem dX12_isWatchHere_40 : decode cX12_isWatchHere 40 = .ok (.ifCond .ne 5, 3) := by decide +kernel
theorem dX12_isWatchHere_43 : decode cX12_isWatchHere 43 = .ok (.iconst 0, 1) := by decide +kernel
theorem dX12_isWatchHere_44 : decode cX12_isWatchHere 44 = .ok (.ireturn, 1) := by decide +kernel
theorem dX12_isWatchHere_45 : decode cX12_isWatchHere 45 = .ok (.aload_n 0, 1) := by decide +kernel
theorem dX12_isWatchHere_46 : decode cX12_isWatchHere 46 = .ok (.getfield 26, 3) := by decide +kernel
theorem dX12_isWatchHere_49 : decode cX12_isWatchHere 49 = .ok (.bipush 84, 2) := by decide +kernel
theorem dX12_isWatchHere_51 : decode cX12_isWatchHere 51 = .ok (.iload_n 1, 1) := by decide +kernel
theorem dX12_isWatchHere_52 : decode cX12_isWatchHere 52 = .ok (.iadd, 1) := by decide +kernel
theorem dX12_isWatchHere_53 : decode cX12_isWatchHere 53 = .ok (.dup2, 1) := by decide +kernel
theorem dX12_isWatchHere_54 : decode cX12_isWatchHere 54 = .ok (.iaload, 1) := by decide +kernel
theorem dX12_isWatchHere_55 : decode cX12_isWatchHere 55 = .ok (.iconst 1, 1) := by decide +kernel
theorem dX12_isWatchHere_56 : decode cX12_isWatchHere 56 = .ok (.aload_n 0, 1) := by decide +kernel
theorem dX12_isWatchHere_57 : decode cX12_isWatchHere 57 = .ok (.getfield 112, 3) := by decide +kernel
theorem dX12_isWatchHere_60 : decode cX12_isWatchHere 60 = .ok (.ishl, 1) := by decide +kernel
theorem dX12_isWatchHere_61 : decode cX12_isWatchHere 61 = .ok (.ior, 1) := by decide +kernel
theorem dX12_isWatchHere_62 : decode cX12_isWatchHere 62 = .ok (.iastore, 1) := by decide +kernel
theorem dX12_isWatchHere_63 : decode cX12_isWatchHere 63 = .ok (.iconst 1, 1) := by decide +kernel
theorem dX12_isWatchHere_64 : decode cX12_isWatchHere 64 = .ok (.ireturn, 1) := by decide +kernel
set_option maxHeartbeats 4000000 in
set_option maxRecDepth 100000 in
theorem ct_X12_cellHere (l : Launch) (D : va_G) (tc : Nat → ClassId) (sk : (Nat → Nat) × (Nat → Nat)) (Ma : Nat → Nat) (Mv : Nat → Int32) (Mf : Nat → Nat → Int32) (Mj : Nat → Int64) (x1 : Int32) (x2 : Int32) (x3 : Int32) (h_nx : 0 ≤ ((Mv 2) : Int32).toInt ∧ ((Mv 2) : Int32).toInt ≤ ((Mv 0) : Int32).toInt ∧ ((Mv 0) : Int32).toInt ≤ 400) (h_c : 0 ≤ x1.toInt ∧ x1.toInt < 95) : Ct l yX12_cellHere cX12_cellHere 4 (some .boolean) { frames := 2, cells := 0, slots := 0, locals := 49 } D tc sk [.ref (Ma 0), .int x1, .int x2, .int x3] [((Ma 0), .inr (12, [.ref (Ma 1), .int (Mv 0), .int (Mv 1), .ref (Ma 2), .ref (Ma 3), .ref (Ma 4), .ref (Ma 5), .ref (Ma 6), .int (Mv 2), .int (Mv 3), .int (Mv 4), .int (Mv 5), .int (Mv 6), .int (Mv 7), .int (Mv 8), .ref (Ma 7), .int (Mv 9), .ref (Ma 8), .int (Mv 10), .ref (Ma 9), .ref (Ma 10), .int (Mv 11), .int (Mv 12), .int (Mv 13), .ref (Ma 11), .int (Mv 14), .ref (Ma 12), .ref (Ma 13), .ref (Ma 14), .ref (Ma 15), .ref (Ma 16), .long (Mj 0), .ref (Ma 17), .ref (Ma 18), .ref (Ma 19), .ref (Ma 20)])), ((Ma 1), .inl (tc 2, 400, .inl (Mf 1))), ((Ma 6), .inl (tc 0, 95, .inl (Mf 6)))] (fun (v : Option Value) (u : (Int32) × (Int32) × (Int32) × (Nat → Int32)) => match u with | (oo0x1, oo0x2, oo0x3, oo0x4) => ∃ r : Int32, v = some (.int r) ∧ (((r.toInt = 0 ∧ ¬ (oo0x2 : Int32).toInt = 0) ∨ (r.toInt = 1 ∧ x2.toInt ≤ (oo0x4 x1.toNatClampNeg).toInt ∧ (oo0x4 x1.toNatClampNeg).toInt ≤ x3.toInt))) ∧ (((Mv 2) : Int32).toInt ≤ (oo0x1 : Int32).toInt ∧ (oo0x1 : Int32).toInt ≤ ((Mv 0) : Int32).toInt) ∧ (RdC (Mf 6) oo0x4 x1)) (fun (u : (Int32) × (Int32) × (Int32) × (Nat → Int32)) => match u with | (oo0x1, oo0x2, oo0x3, oo0x4) => [((Ma 0), .inr (12, [.ref (Ma 1), .int (Mv 0), .int (Mv 1), .ref (Ma 2), .ref (Ma 3), .ref (Ma 4), .ref (Ma 5), .ref (Ma 6), .int oo0x1, .int oo0x2, .int oo0x3, .int (Mv 5), .int (Mv 6), .int (Mv 7), .int (Mv 8), .ref (Ma 7), .int (Mv 9), .ref (Ma 8), .int (Mv 10), .ref (Ma 9), .ref (Ma 10), .int (Mv 11), .int (Mv 12), .int (Mv 13), .ref (Ma 11), .int (Mv 14), .ref (Ma 12), .ref (Ma 13), .ref (Ma 14), .ref (Ma 15), .ref (Ma 16), .long (Mj 0), .ref (Ma 17), .ref (Ma 18), .ref (Ma 19), .ref (Ma 20)])), ((Ma 1), .inl (tc 2, 400, .inl (Mf 1))), ((Ma 6), .inl (tc 0, 95, .inl oo0x4))]) 0 0 := by
  refine Ct.start (by decide) (Nat.le_of_ble_eq_true rfl) (fun p e s m below meth c A ls hx hb hr hlk hin hml hown hts hK hX hP hD hA hl hS => ?_)
  have hl : lv_has ls 4 [(0, .ref (Ma 0)), (1, .int x1), (2, .int x2), (3, .int x3)] := hl
  refine lv_aload_n hx hb dX12_cellHere_0 rfl (lv_at hl 0 rfl) ?_
  refine lv_iload_n hx hb dX12_cellHere_1 rfl (lv_at hl 2 rfl) ?_
  refine lv_iload_n hx hb dX12_cellHere_2 rfl (lv_at hl 3 rfl) ?_
  have ha_1 : 0 ≤ ((Mv 2) : Int32).toInt ∧ ((Mv 2) : Int32).toInt ≤ ((Mv 0) : Int32).toInt ∧ ((Mv 0) : Int32).toInt ≤ 400 := by
    refine ⟨?_, ?_, ?_⟩ <;> omega
  refine cV (a := (Ma 0)) (As := [.int x2, .int x3]) (rest := []) (wr := [((Ma 6), .inl (tc 0, 95, .inl (Mf 6)))]) ⟨hx, hb, hml, hown, hts⟩ hK hX hA (ct_X12_numberHere l D tc sk Ma Mv Mf Mj x2 x3 ha_1) k_1252 k_1249 k_1251 k_36 k_106 pl_X12_numberHere ⟨Nat.le_of_ble_eq_true rfl, Nat.le_of_ble_eq_true rfl⟩ rfl rfl (va_recv hK hP (ci := 12) (q0 := 0) rfl rfl) hP hD hS [0, 1] [2] rfl rfl rfl rfl rfl (by decide) rfl hl.1 rfl (Nat.le_of_ble_eq_true rfl) dX12_cellHere_3 ⟨Nat.le_of_ble_eq_true rfl, Nat.le_of_ble_eq_true rfl⟩ (fun v_2 u_3 H locs hv_4 hP hD hS => ?_)
  obtain ⟨sv_5, sv_6, sv_7⟩ := u_3
  obtain ⟨r_9, rfl, he_10, pf_8⟩ := hv_4
  have he_10 : ((r_9.toInt = 0 ∧ ¬ (sv_6 : Int32).toInt = 0) ∨ (r_9.toInt = 1 ∧ x2.toInt ≤ (sv_7 : Int32).toInt ∧ (sv_7 : Int32).toInt ≤ x3.toInt ∧ (Mv 2).toInt + 1 ≤ (sv_5 : Int32).toInt)) := he_10
  have pf_8 : ((Mv 2) : Int32).toInt ≤ (sv_5 : Int32).toInt ∧ (sv_5 : Int32).toInt ≤ ((Mv 0) : Int32).toInt := pf_8
  refine W.eq (g2 := F0 m 6 ls [.int r_9]) rfl ?_
  have hP : va_P D classes [((Ma 6), .inl (tc 0, 95, .inl (Mf 6))), ((Ma 0), .inr (12, [.ref (Ma 1), .int (Mv 0), .int (Mv 1), .ref (Ma 2), .ref (Ma 3), .ref (Ma 4), .ref (Ma 5), .ref (Ma 6), .int sv_5, .int sv_6, .int sv_7, .int (Mv 5), .int (Mv 6), .int (Mv 7), .int (Mv 8), .ref (Ma 7), .int (Mv 9), .ref (Ma 8), .int (Mv 10), .ref (Ma 9), .ref (Ma 10), .int (Mv 11), .int (Mv 12), .int (Mv 13), .ref (Ma 11), .int (Mv 14), .ref (Ma 12), .ref (Ma 13), .ref (Ma 14), .ref (Ma 15), .ref (Ma 16), .long (Mj 0), .ref (Ma 17), .ref (Ma 18), .ref (Ma 19), .ref (Ma 20)])), ((Ma 1), .inl (tc 2, 400, .inl (Mf 1)))] H := hP
  have hD : va_D A [((Ma 6), .inl (tc 0, 95, .inl (Mf 6))), ((Ma 0), .inr (12, [.ref (Ma 1), .int (Mv 0), .int (Mv 1), .ref (Ma 2), .ref (Ma 3), .ref (Ma 4), .ref (Ma 5), .ref (Ma 6), .int sv_5, .int sv_6, .int sv_7, .int (Mv 5), .int (Mv 6), .int (Mv 7), .int (Mv 8), .ref (Ma 7), .int (Mv 9), .ref (Ma 8), .int (Mv 10), .ref (Ma 9), .ref (Ma 10), .int (Mv 11), .int (Mv 12), .int (Mv 13), .ref (Ma 11), .int (Mv 14), .ref (Ma 12), .ref (Ma 13), .ref (Ma 14), .ref (Ma 15), .ref (Ma 16), .long (Mj 0), .ref (Ma 17), .ref (Ma 18), .ref (Ma 19), .ref (Ma 20)])), ((Ma 1), .inl (tc 2, 400, .inl (Mf 1)))] := hD
  refine lv_if_ne (tgt := 11) hx hb dX12_cellHere_6 (by decide) (fun c_12 => ?_) (fun c_12 => ?_)
  · skip
    refine lv_aload_n hx hb dX12_cellHere_11 rfl (lv_at hl 0 rfl) ?_
    refine gf_X12_26 hx hb hts hown hK hP 1 rfl rfl dX12_cellHere_12 ?_
    refine lv_iload_n hx hb dX12_cellHere_15 rfl (lv_at hl 1 rfl) ?_
    refine lv_aload_n hx hb dX12_cellHere_16 rfl (lv_at hl 0 rfl) ?_
    refine gf_X12_112 hx hb hts hown hK hP 1 rfl rfl dX12_cellHere_17 ?_
    have hi_13 : vp_in x1 95 := by
      have z_1 : ¬ (r_9 : Int32).toInt = (0 : Int32).toInt := fun z => c_12 (Int32.toInt_inj.mp z)
      have y_0 : (0 : Int32).toInt = 0 := by decide
      refine vp_in_iff.mpr ⟨?_, ?_⟩ <;> omega
    refine st_int hx hb hK hP hD hS 0 0 rfl rfl hi_13 dX12_cellHere_20 (fun g_14 H locs eg_14 hP hD hS => ?_)
    have hP : va_P D classes [((Ma 6), .inl (tc 0, 95, .inl g_14)), ((Ma 0), .inr (12, [.ref (Ma 1), .int (Mv 0), .int (Mv 1), .ref (Ma 2), .ref (Ma 3), .ref (Ma 4), .ref (Ma 5), .ref (Ma 6), .int sv_5, .int sv_6, .int sv_7, .int (Mv 5), .int (Mv 6), .int (Mv 7), .int (Mv 8), .ref (Ma 7), .int (Mv 9), .ref (Ma 8), .int (Mv 10), .ref (Ma 9), .ref (Ma 10), .int (Mv 11), .int (Mv 12), .int (Mv 13), .ref (Ma 11), .int (Mv 14), .ref (Ma 12), .ref (Ma 13), .ref (Ma 14), .ref (Ma 15), .ref (Ma 16), .long (Mj 0), .ref (Ma 17), .ref (Ma 18), .ref (Ma 19), .ref (Ma 20)])), ((Ma 1), .inl (tc 2, 400, .inl (Mf 1)))] H := hP
    have hD : va_D A [((Ma 6), .inl (tc 0, 95, .inl g_14)), ((Ma 0), .inr (12, [.ref (Ma 1), .int (Mv 0), .int (Mv 1), .ref (Ma 2), .ref (Ma 3), .ref (Ma 4), .ref (Ma 5), .ref (Ma 6), .int sv_5, .int sv_6, .int sv_7, .int (Mv 5), .int (Mv 6), .int (Mv 7), .int (Mv 8), .ref (Ma 7), .int (Mv 9), .ref (Ma 8), .int (Mv 10), .ref (Ma 9), .ref (Ma 10), .int (Mv 11), .int (Mv 12), .int (Mv 13), .ref (Ma 11), .int (Mv 14), .ref (Ma 12), .ref (Ma 13), .ref (Ma 14), .ref (Ma 15), .ref (Ma 16), .long (Mj 0), .ref (Ma 17), .ref (Ma 18), .ref (Ma 19), .ref (Ma 20)])), ((Ma 1), .inl (tc 2, 400, .inl (Mf 1)))] := hD
    have pf_15 : RdC (Mf 6) g_14 x1 := RdC.up eg_14
    have ku_g_14 : (g_14 x1.toNatClampNeg).toInt = (sv_7 : Int32).toInt := upd_toInt_at eg_14
    refine lv_iconst (v := 1) hx hb dX12_cellHere_21 (by decide) ?_
    have ha_16 : ((Mv 2) : Int32).toInt ≤ (sv_5 : Int32).toInt ∧ (sv_5 : Int32).toInt ≤ ((Mv 0) : Int32).toInt := by
      have z_1 : ¬ (r_9 : Int32).toInt = (0 : Int32).toInt := fun z => c_12 (Int32.toInt_inj.mp z)
      have y_0 : (0 : Int32).toInt = 0 := by decide
      refine ⟨?_, ?_⟩ <;> omega
    have hp_17 : (((1 : Int32).toInt = 0 ∧ ¬ (sv_6 : Int32).toInt = 0) ∨ ((1 : Int32).toInt = 1 ∧ x2.toInt ≤ (g_14 x1.toNatClampNeg).toInt ∧ (g_14 x1.toNatClampNeg).toInt ≤ x3.toInt)) := by
      have z_1 : ¬ (r_9 : Int32).toInt = (0 : Int32).toInt := fun z => c_12 (Int32.toInt_inj.mp z)
      have y_0 : (0 : Int32).toInt = 0 := by decide
      have y_1 : (1 : Int32).toInt = 1 := by decide
      have yr : (1 : Int32).toInt = 1 := by decide
      omega
    exact retI (v := 1) hx hb hr hlk (rfl) hP hD hS (sv_5, sv_6, sv_7, g_14) ⟨_, rfl, hp_17, ha_16, pf_15⟩ [1, 2, 0] rfl rfl dX12_cellHere_22 (Nat.le_of_ble_eq_true rfl) (Nat.le_of_ble_eq_true rfl) rfl
  · skip
    refine lv_iconst (v := 0) hx hb dX12_cellHere_9 (by decide) ?_
    have ha_18 : ((Mv 2) : Int32).toInt ≤ (sv_5 : Int32).toInt ∧ (sv_5 : Int32).toInt ≤ ((Mv 0) : Int32).toInt := by
      have z_1 := congrArg Int32.toInt c_12
      have y_0 : (0 : Int32).toInt = 0 := by decide
      refine ⟨?_, ?_⟩ <;> omega
    have hp_19 : (((0 : Int32).toInt = 0 ∧ ¬ (sv_6 : Int32).toInt = 0) ∨ ((0 : Int32).toInt = 1 ∧ x2.toInt ≤ ((Mf 6) x1.toNatClampNeg).toInt ∧ ((Mf 6) x1.toNatClampNeg).toInt ≤ x3.toInt)) := by
      have z_1 := congrArg Int32.toInt c_12
      have y_0 : (0 : Int32).toInt = 0 := by decide
      omega
    exact retI (v := 0) hx hb hr hlk (rfl) hP hD hS (sv_5, sv_6, sv_7, (Mf 6)) ⟨_, rfl, hp_19, ha_18, (RdC.rf)⟩ [1, 2, 0] rfl rfl dX12_cellHere_10 (Nat.le_of_ble_eq_true rfl) (Nat.le_of_ble_eq_true rfl) rfl
set_option maxHeartbeats 4000000 in
set_option maxRecDepth 100000 in
theorem ct_X12_isBookHere (l : Launch) (D : va_G) (tc : Nat → ClassId) (sk : (Nat → Nat) × (Nat → Nat)) (Ma : Nat → Nat) (Mv : Nat → Int32) (Mf : Nat → Nat → Int32) (Mj : Nat → Int64) (x1 : Int32) (h_nx : 0 ≤ ((Mv 2) : Int32).toInt ∧ ((Mv 2) : Int32).toInt ≤ ((Mv 0) : Int32).toInt ∧ ((Mv 0) : Int32).toInt ≤ 400) (h_at : 0 ≤ x1.toInt ∧ x1.toInt ≤ 400) (h_ro : RdO (Mf 6)) : Ct l yX12_isBookHere cX12_isBookHere 2 (some .boolean) { frames := 3, cells := 0, slots := 0, locals := 72 } D tc sk [.ref (Ma 0), .int x1] [((Ma 0), .inr (12, [.ref (Ma 1), .int (Mv 0), .int (Mv 1), .ref (Ma 2), .ref (Ma 3), .ref (Ma 4), .ref (Ma 5), .ref (Ma 6), .int (Mv 2), .int (Mv 3), .int (Mv 4), .int (Mv 5), .int (Mv 6), .int (Mv 7), .int (Mv 8), .ref (Ma 7), .int (Mv 9), .ref (Ma 8), .int (Mv 10), .ref (Ma 9), .ref (Ma 10), .int (Mv 11), .int (Mv 12), .int (Mv 13), .ref (Ma 11), .int (Mv 14), .ref (Ma 12), .ref (Ma 13), .ref (Ma 14), .ref (Ma 15), .ref (Ma 16), .long (Mj 0), .ref (Ma 17), .ref (Ma 18), .ref (Ma 19), .ref (Ma 20)])), ((Ma 1), .inl (tc 2, 400, .inl (Mf 1))), ((Ma 6), .inl (tc 0, 95, .inl (Mf 6)))] (fun (v : Option Value) (u : (Int32) × (Int32) × (Int32) × (Nat → Int32)) => match u with | (oo0x1, oo0x2, oo0x3, oo0x4) => ∃ r : Int32, v = some (.int r) ∧ (((r.toInt = 0 ∧ ¬ (oo0x2 : Int32).toInt = 0) ∨ r.toInt = 1)) ∧ (((Mv 2) : Int32).toInt ≤ (oo0x1 : Int32).toInt ∧ (oo0x1 : Int32).toInt ≤ ((Mv 0) : Int32).toInt) ∧ (r.toInt = 1 → (RdO oo0x4))) (fun (u : (Int32) × (Int32) × (Int32) × (Nat → Int32)) => match u with | (oo0x1, oo0x2, oo0x3, oo0x4) => [((Ma 0), .inr (12, [.ref (Ma 1), .int (Mv 0), .int (Mv 1), .ref (Ma 2), .ref (Ma 3), .ref (Ma 4), .ref (Ma 5), .ref (Ma 6), .int oo0x1, .int oo0x2, .int oo0x3, .int (Mv 5), .int (Mv 6), .int (Mv 7), .int (Mv 8), .ref (Ma 7), .int (Mv 9), .ref (Ma 8), .int (Mv 10), .ref (Ma 9), .ref (Ma 10), .int (Mv 11), .int (Mv 12), .int (Mv 13), .ref (Ma 11), .int (Mv 14), .ref (Ma 12), .ref (Ma 13), .ref (Ma 14), .ref (Ma 15), .ref (Ma 16), .long (Mj 0), .ref (Ma 17), .ref (Ma 18), .ref (Ma 19), .ref (Ma 20)])), ((Ma 1), .inl (tc 2, 400, .inl (Mf 1))), ((Ma 6), .inl (tc 0, 95, .inl oo0x4))]) 0 0 := by
  refine Ct.start (by decide) (Nat.le_of_ble_eq_true rfl) (fun p e s m below meth c A ls hx hb hr hlk hin hml hown hts hK hX hP hD hA hl hS => ?_)
  have hl : lv_has ls 2 [(0, .ref (Ma 0)), (1, .int x1)] := hl
  have ar_h_ro := RdO.ar h_ro
  refine lv_aload_n hx hb dX12_isBookHere_0 rfl (lv_at hl 0 rfl) ?_
  refine gf_X12_26 hx hb hts hown hK hP 0 rfl rfl dX12_isBookHere_1 ?_
  refine lv_iconst (v := 0) hx hb dX12_isBookHere_4 (by decide) ?_
  refine va_iald hx hb hK hP 2 0 rfl rfl (vin_dec (by decide +kernel)) dX12_isBookHere_5 ?_
  refine lv_topi (fun x_1 ex_1 => ?_)
  have lx_1 : x_1.toInt = ((Mf 6) 0).toInt := congrArg Int32.toInt ex_1
  refine lv_if_le (tgt := 16) hx hb dX12_isBookHere_6 (by decide) (fun c_2 => ?_) (fun c_2 => ?_)
  · skip
    refine lv_aload_n hx hb dX12_isBookHere_16 rfl (lv_at hl 0 rfl) ?_
    have ha_3 : 0 ≤ ((Mv 2) : Int32).toInt ∧ ((Mv 2) : Int32).toInt ≤ ((Mv 0) : Int32).toInt ∧ ((Mv 0) : Int32).toInt ≤ 400 := by
      have z_1 := Int32.le_iff_toInt_le.mp c_2
      have y_0 : (0 : Int32).toInt = 0 := by decide
      refine ⟨?_, ?_, ?_⟩ <;> omega
    refine cV (a := (Ma 0)) (As := []) (rest := []) (wr := [((Ma 6), .inl (tc 0, 95, .inl (Mf 6)))]) ⟨hx, hb, hml, hown, hts⟩ hK hX hA (ct_X12_passWord l D tc sk Ma Mv Mf Mj ha_3) k_1244 k_1241 k_1243 k_34 k_106 pl_X12_passWord ⟨Nat.le_of_ble_eq_true rfl, Nat.le_of_ble_eq_true rfl⟩ rfl rfl (va_recv hK hP (ci := 12) (q0 := 0) rfl rfl) hP hD hS [0, 1] [2] rfl rfl rfl rfl rfl (by decide) rfl hl.1 rfl (Nat.le_of_ble_eq_true rfl) dX12_isBookHere_17 ⟨Nat.le_of_ble_eq_true rfl, Nat.le_of_ble_eq_true rfl⟩ (fun v_4 u_5 H locs hv_6 hP hD hS => ?_)
    obtain ⟨sv_7, rfl⟩ : ∃ z, z = u_5 := ⟨_, rfl⟩
    obtain ⟨rfl, pf_8, pf_9⟩ := hv_6
    have pf_8 : ((Mv 2) : Int32).toInt ≤ (sv_7 : Int32).toInt ∧ (sv_7 : Int32).toInt ≤ ((Mv 0) : Int32).toInt := pf_8
    have pf_9 : Pw (Mf 1) (Mv 0) (Mv 2) sv_7 := pf_9
    refine W.eq (g2 := F0 m 20 ls []) rfl ?_
    have hP : va_P D classes [((Ma 6), .inl (tc 0, 95, .inl (Mf 6))), ((Ma 0), .inr (12, [.ref (Ma 1), .int (Mv 0), .int (Mv 1), .ref (Ma 2), .ref (Ma 3), .ref (Ma 4), .ref (Ma 5), .ref (Ma 6), .int sv_7, .int (Mv 3), .int (Mv 4), .int (Mv 5), .int (Mv 6), .int (Mv 7), .int (Mv 8), .ref (Ma 7), .int (Mv 9), .ref (Ma 8), .int (Mv 10), .ref (Ma 9), .ref (Ma 10), .int (Mv 11), .int (Mv 12), .int (Mv 13), .ref (Ma 11), .int (Mv 14), .ref (Ma 12), .ref (Ma 13), .ref (Ma 14), .ref (Ma 15), .ref (Ma 16), .long (Mj 0), .ref (Ma 17), .ref (Ma 18), .ref (Ma 19), .ref (Ma 20)])), ((Ma 1), .inl (tc 2, 400, .inl (Mf 1)))] H := hP
    have hD : va_D A [((Ma 6), .inl (tc 0, 95, .inl (Mf 6))), ((Ma 0), .inr (12, [.ref (Ma 1), .int (Mv 0), .int (Mv 1), .ref (Ma 2), .ref (Ma 3), .ref (Ma 4), .ref (Ma 5), .ref (Ma 6), .int sv_7, .int (Mv 3), .int (Mv 4), .int (Mv 5), .int (Mv 6), .int (Mv 7), .int (Mv 8), .ref (Ma 7), .int (Mv 9), .ref (Ma 8), .int (Mv 10), .ref (Ma 9), .ref (Ma 10), .int (Mv 11), .int (Mv 12), .int (Mv 13), .ref (Ma 11), .int (Mv 14), .ref (Ma 12), .ref (Ma 13), .ref (Ma 14), .ref (Ma 15), .ref (Ma 16), .long (Mj 0), .ref (Ma 17), .ref (Ma 18), .ref (Ma 19), .ref (Ma 20)])), ((Ma 1), .inl (tc 2, 400, .inl (Mf 1)))] := hD
    refine lv_aload_n hx hb dX12_isBookHere_20 rfl (lv_at hl 0 rfl) ?_
    refine lv_bipush (v := 94) hx hb dX12_isBookHere_21 (by decide) ?_
    refine lv_iconst (v := 0) hx hb dX12_isBookHere_23 (by decide) ?_
    refine lv_bipush (v := 99) hx hb dX12_isBookHere_24 (by decide) ?_
    have ha_10 : 0 ≤ (sv_7 : Int32).toInt ∧ (sv_7 : Int32).toInt ≤ ((Mv 0) : Int32).toInt ∧ ((Mv 0) : Int32).toInt ≤ 400 := by
      have z_1 := Int32.le_iff_toInt_le.mp c_2
      have y_0 : (0 : Int32).toInt = 0 := by decide
      refine ⟨?_, ?_, ?_⟩ <;> omega
    have ha_11 : 0 ≤ (94 : Int32).toInt ∧ (94 : Int32).toInt < 95 := by
      have z_1 := Int32.le_iff_toInt_le.mp c_2
      have y_0 : (0 : Int32).toInt = 0 := by decide
      have y_94 : (94 : Int32).toInt = 94 := by decide
      refine ⟨?_, ?_⟩ <;> omega
    refine cV (a := (Ma 0)) (As := [.int 94, .int 0, .int 99]) (rest := []) (wr := []) ⟨hx, hb, hml, hown, hts⟩ hK hX hA (ct_X12_cellHere l D tc sk Ma (fun k => ([(Mv 0), (Mv 1), sv_7, (Mv 3), (Mv 4), (Mv 5), (Mv 6), (Mv 7), (Mv 8), (Mv 9), (Mv 10), (Mv 11), (Mv 12), (Mv 13), (Mv 14)] : List (Int32)).getD k 0) Mf Mj 94 0 99 ha_10 ha_11) k_1248 k_1245 k_1247 k_35 k_106 pl_X12_cellHere ⟨Nat.le_of_ble_eq_true rfl, Nat.le_of_ble_eq_true rfl⟩ rfl rfl (va_recv hK hP (ci := 12) (q0 := 1) rfl rfl) hP hD hS [1, 2, 0] [] rfl rfl rfl rfl rfl (by decide) rfl hl.1 rfl (Nat.le_of_ble_eq_true rfl) dX12_isBookHere_26 ⟨Nat.le_of_ble_eq_true rfl, Nat.le_of_ble_eq_true rfl⟩ (fun v_12 u_13 H locs hv_14 hP hD hS => ?_)
    obtain ⟨sv_15, sv_16, sv_17, sv_18⟩ := u_13
    obtain ⟨r_21, rfl, he_22, pf_19, pf_20⟩ := hv_14
    have he_22 : ((r_21.toInt = 0 ∧ ¬ (sv_16 : Int32).toInt = 0) ∨ (r_21.toInt = 1 ∧ (0 : Int32).toInt ≤ (sv_18 (94 : Int32).toNatClampNeg).toInt ∧ (sv_18 (94 : Int32).toNatClampNeg).toInt ≤ (99 : Int32).toInt)) := he_22
    have pf_19 : (sv_7 : Int32).toInt ≤ (sv_15 : Int32).toInt ∧ (sv_15 : Int32).toInt ≤ ((Mv 0) : Int32).toInt := pf_19
    have pf_20 : RdC (Mf 6) sv_18 (94 : Int32) := pf_20
    have kq_pf_20_0 := RdC.at pf_20 0 (by decide) (by decide)
    have kq_pf_20_2 := RdC.at pf_20 2 (by decide) (by decide)
    have kq_pf_20_3 := RdC.at pf_20 3 (by decide) (by decide)
    refine W.eq (g2 := F0 m 29 ls [.int r_21]) rfl ?_
    have hP : va_P D classes [((Ma 0), .inr (12, [.ref (Ma 1), .int (Mv 0), .int (Mv 1), .ref (Ma 2), .ref (Ma 3), .ref (Ma 4), .ref (Ma 5), .ref (Ma 6), .int sv_15, .int sv_16, .int sv_17, .int (Mv 5), .int (Mv 6), .int (Mv 7), .int (Mv 8), .ref (Ma 7), .int (Mv 9), .ref (Ma 8), .int (Mv 10), .ref (Ma 9), .ref (Ma 10), .int (Mv 11), .int (Mv 12), .int (Mv 13), .ref (Ma 11), .int (Mv 14), .ref (Ma 12), .ref (Ma 13), .ref (Ma 14), .ref (Ma 15), .ref (Ma 16), .long (Mj 0), .ref (Ma 17), .ref (Ma 18), .ref (Ma 19), .ref (Ma 20)])), ((Ma 1), .inl (tc 2, 400, .inl (Mf 1))), ((Ma 6), .inl (tc 0, 95, .inl sv_18))] H := hP
    have hD : va_D A [((Ma 0), .inr (12, [.ref (Ma 1), .int (Mv 0), .int (Mv 1), .ref (Ma 2), .ref (Ma 3), .ref (Ma 4), .ref (Ma 5), .ref (Ma 6), .int sv_15, .int sv_16, .int sv_17, .int (Mv 5), .int (Mv 6), .int (Mv 7), .int (Mv 8), .ref (Ma 7), .int (Mv 9), .ref (Ma 8), .int (Mv 10), .ref (Ma 9), .ref (Ma 10), .int (Mv 11), .int (Mv 12), .int (Mv 13), .ref (Ma 11), .int (Mv 14), .ref (Ma 12), .ref (Ma 13), .ref (Ma 14), .ref (Ma 15), .ref (Ma 16), .long (Mj 0), .ref (Ma 17), .ref (Ma 18), .ref (Ma 19), .ref (Ma 20)])), ((Ma 1), .inl (tc 2, 400, .inl (Mf 1))), ((Ma 6), .inl (tc 0, 95, .inl sv_18))] := hD
    refine lv_if_eq (tgt := 54) hx hb dX12_isBookHere_29 (by decide) (fun c_24 => ?_) (fun c_24 => ?_)
    · skip
      refine lv_iconst (v := 0) hx hb dX12_isBookHere_54 (by decide) ?_
      have ha_25 : ((Mv 2) : Int32).toInt ≤ (sv_15 : Int32).toInt ∧ (sv_15 : Int32).toInt ≤ ((Mv 0) : Int32).toInt := by
        have z_1 := Int32.le_iff_toInt_le.mp c_2
        have z_2 := congrArg Int32.toInt c_24
        have y_0 : (0 : Int32).toInt = 0 := by decide
        refine ⟨?_, ?_⟩ <;> omega
      have hp_26 : (((0 : Int32).toInt = 0 ∧ ¬ (sv_16 : Int32).toInt = 0) ∨ (0 : Int32).toInt = 1) := by
        have z_1 := Int32.le_iff_toInt_le.mp c_2
        have z_2 := congrArg Int32.toInt c_24
        have y_0 : (0 : Int32).toInt = 0 := by decide
        omega
      exact retI (v := 0) hx hb hr hlk (rfl) hP hD hS (sv_15, sv_16, sv_17, sv_18) ⟨_, rfl, hp_26, ha_25, (fun h => absurd h (by decide))⟩ [0, 1, 2] rfl rfl dX12_isBookHere_55 (Nat.le_of_ble_eq_true rfl) (Nat.le_of_ble_eq_true rfl) rfl
    · skip
      refine lv_aload_n hx hb dX12_isBookHere_32 rfl (lv_at hl 0 rfl) ?_
      refine lv_iconst (v := 1) hx hb dX12_isBookHere_33 (by decide) ?_
      refine lv_iconst (v := 0) hx hb dX12_isBookHere_34 (by decide) ?_
      refine lv_bipush (v := 9) hx hb dX12_isBookHere_35 (by decide) ?_
      have ha_27 : 0 ≤ (sv_15 : Int32).toInt ∧ (sv_15 : Int32).toInt ≤ ((Mv 0) : Int32).toInt ∧ ((Mv 0) : Int32).toInt ≤ 400 := by
        have z_1 := Int32.le_iff_toInt_le.mp c_2
        have z_2 : ¬ (r_21 : Int32).toInt = (0 : Int32).toInt := fun z => c_24 (Int32.toInt_inj.mp z)
        have y_0 : (0 : Int32).toInt = 0 := by decide
        refine ⟨?_, ?_, ?_⟩ <;> omega
      have ha_28 : 0 ≤ (1 : Int32).toInt ∧ (1 : Int32).toInt < 95 := by
        have z_1 := Int32.le_iff_toInt_le.mp c_2
        have z_2 : ¬ (r_21 : Int32).toInt = (0 : Int32).toInt := fun z => c_24 (Int32.toInt_inj.mp z)
        have y_0 : (0 : Int32).toInt = 0 := by decide
        have y_1 : (1 : Int32).toInt = 1 := by decide
        refine ⟨?_, ?_⟩ <;> omega
      refine cV (a := (Ma 0)) (As := [.int 1, .int 0, .int 9]) (rest := []) (wr := []) ⟨hx, hb, hml, hown, hts⟩ hK hX hA (ct_X12_cellHere l D tc sk Ma (fun k => ([(Mv 0), (Mv 1), sv_15, sv_16, sv_17, (Mv 5), (Mv 6), (Mv 7), (Mv 8), (Mv 9), (Mv 10), (Mv 11), (Mv 12), (Mv 13), (Mv 14)] : List (Int32)).getD k 0) (fun k => ([(fun _ => 0), (Mf 1), (fun _ => 0), (fun _ => 0), (fun _ => 0), (fun _ => 0), sv_18] : List (Nat → Int32)).getD k (fun _ => 0)) Mj 1 0 9 ha_27 ha_28) k_1248 k_1245 k_1247 k_35 k_106 pl_X12_cellHere ⟨Nat.le_of_ble_eq_true rfl, Nat.le_of_ble_eq_true rfl⟩ rfl rfl (va_recv hK hP (ci := 12) (q0 := 0) rfl rfl) hP hD hS [0, 1, 2] [] rfl rfl rfl rfl rfl (by decide) rfl hl.1 rfl (Nat.le_of_ble_eq_true rfl) dX12_isBookHere_37 ⟨Nat.le_of_ble_eq_true rfl, Nat.le_of_ble_eq_true rfl⟩ (fun v_29 u_30 H locs hv_31 hP hD hS => ?_)
      obtain ⟨sv_32, sv_33, sv_34, sv_35⟩ := u_30
      obtain ⟨r_38, rfl, he_39, pf_36, pf_37⟩ := hv_31
      have he_39 : ((r_38.toInt = 0 ∧ ¬ (sv_33 : Int32).toInt = 0) ∨ (r_38.toInt = 1 ∧ (0 : Int32).toInt ≤ (sv_35 (1 : Int32).toNatClampNeg).toInt ∧ (sv_35 (1 : Int32).toNatClampNeg).toInt ≤ (9 : Int32).toInt)) := he_39
      have pf_36 : (sv_15 : Int32).toInt ≤ (sv_32 : Int32).toInt ∧ (sv_32 : Int32).toInt ≤ ((Mv 0) : Int32).toInt := pf_36
      have pf_37 : RdC sv_18 sv_35 (1 : Int32) := pf_37
      have kq_pf_37_0 := RdC.at pf_37 0 (by decide) (by decide)
      have kq_pf_37_2 := RdC.at pf_37 2 (by decide) (by decide)
      have kq_pf_37_3 := RdC.at pf_37 3 (by decide) (by decide)
      refine W.eq (g2 := F0 m 40 ls [.int r_38]) rfl ?_
      have hP : va_P D classes [((Ma 0), .inr (12, [.ref (Ma 1), .int (Mv 0), .int (Mv 1), .ref (Ma 2), .ref (Ma 3), .ref (Ma 4), .ref (Ma 5), .ref (Ma 6), .int sv_32, .int sv_33, .int sv_34, .int (Mv 5), .int (Mv 6), .int (Mv 7), .int (Mv 8), .ref (Ma 7), .int (Mv 9), .ref (Ma 8), .int (Mv 10), .ref (Ma 9), .ref (Ma 10), .int (Mv 11), .int (Mv 12), .int (Mv 13), .ref (Ma 11), .int (Mv 14), .ref (Ma 12), .ref (Ma 13), .ref (Ma 14), .ref (Ma 15), .ref (Ma 16), .long (Mj 0), .ref (Ma 17), .ref (Ma 18), .ref (Ma 19), .ref (Ma 20)])), ((Ma 1), .inl (tc 2, 400, .inl (Mf 1))), ((Ma 6), .inl (tc 0, 95, .inl sv_35))] H := hP
      have hD : va_D A [((Ma 0), .inr (12, [.ref (Ma 1), .int (Mv 0), .int (Mv 1), .ref (Ma 2), .ref (Ma 3), .ref (Ma 4), .ref (Ma 5), .ref (Ma 6), .int sv_32, .int sv_33, .int sv_34, .int (Mv 5), .int (Mv 6), .int (Mv 7), .int (Mv 8), .ref (Ma 7), .int (Mv 9), .ref (Ma 8), .int (Mv 10), .ref (Ma 9), .ref (Ma 10), .int (Mv 11), .int (Mv 12), .int (Mv 13), .ref (Ma 11), .int (Mv 14), .ref (Ma 12), .ref (Ma 13), .ref (Ma 14), .ref (Ma 15), .ref (Ma 16), .long (Mj 0), .ref (Ma 17), .ref (Ma 18), .ref (Ma 19), .ref (Ma 20)])), ((Ma 1), .inl (tc 2, 400, .inl (Mf 1))), ((Ma 6), .inl (tc 0, 95, .inl sv_35))] := hD
      refine lv_if_eq (tgt := 54) hx hb dX12_isBookHere_40 (by decide) (fun c_41 => ?_) (fun c_41 => ?_)
      · skip
        refine lv_iconst (v := 0) hx hb dX12_isBookHere_54 (by decide) ?_
        have ha_42 : ((Mv 2) : Int32).toInt ≤ (sv_32 : Int32).toInt ∧ (sv_32 : Int32).toInt ≤ ((Mv 0) : Int32).toInt := by
          have z_1 := Int32.le_iff_toInt_le.mp c_2
          have z_2 : ¬ (r_21 : Int32).toInt = (0 : Int32).toInt := fun z => c_24 (Int32.toInt_inj.mp z)
          have z_3 := congrArg Int32.toInt c_41
          have y_0 : (0 : Int32).toInt = 0 := by decide
          refine ⟨?_, ?_⟩ <;> omega
        have hp_43 : (((0 : Int32).toInt = 0 ∧ ¬ (sv_33 : Int32).toInt = 0) ∨ (0 : Int32).toInt = 1) := by
          have z_1 := Int32.le_iff_toInt_le.mp c_2
          have z_2 : ¬ (r_21 : Int32).toInt = (0 : Int32).toInt := fun z => c_24 (Int32.toInt_inj.mp z)
          have z_3 := congrArg Int32.toInt c_41
          have y_0 : (0 : Int32).toInt = 0 := by decide
          omega
        exact retI (v := 0) hx hb hr hlk (rfl) hP hD hS (sv_32, sv_33, sv_34, sv_35) ⟨_, rfl, hp_43, ha_42, (fun h => absurd h (by decide))⟩ [0, 1, 2] rfl rfl dX12_isBookHere_55 (Nat.le_of_ble_eq_true rfl) (Nat.le_of_ble_eq_true rfl) rfl
      · skip
        refine lv_aload_n hx hb dX12_isBookHere_43 rfl (lv_at hl 0 rfl) ?_
        refine lv_iconst (v := 2) hx hb dX12_isBookHere_44 (by decide) ?_
        refine lv_iconst (v := 1) hx hb dX12_isBookHere_45 (by decide) ?_
        refine lv_bipush (v := 10) hx hb dX12_isBookHere_46 (by decide) ?_
        have ha_44 : 0 ≤ (sv_32 : Int32).toInt ∧ (sv_32 : Int32).toInt ≤ ((Mv 0) : Int32).toInt ∧ ((Mv 0) : Int32).toInt ≤ 400 := by
          have z_1 := Int32.le_iff_toInt_le.mp c_2
          have z_2 : ¬ (r_21 : Int32).toInt = (0 : Int32).toInt := fun z => c_24 (Int32.toInt_inj.mp z)
          have z_3 : ¬ (r_38 : Int32).toInt = (0 : Int32).toInt := fun z => c_41 (Int32.toInt_inj.mp z)
          have y_0 : (0 : Int32).toInt = 0 := by decide
          refine ⟨?_, ?_, ?_⟩ <;> omega
        have ha_45 : 0 ≤ (2 : Int32).toInt ∧ (2 : Int32).toInt < 95 := by
          have z_1 := Int32.le_iff_toInt_le.mp c_2
          have z_2 : ¬ (r_21 : Int32).toInt = (0 : Int32).toInt := fun z => c_24 (Int32.toInt_inj.mp z)
          have z_3 : ¬ (r_38 : Int32).toInt = (0 : Int32).toInt := fun z => c_41 (Int32.toInt_inj.mp z)
          have y_0 : (0 : Int32).toInt = 0 := by decide
          have y_2 : (2 : Int32).toInt = 2 := by decide
          refine ⟨?_, ?_⟩ <;> omega
        refine cV (a := (Ma 0)) (As := [.int 2, .int 1, .int 10]) (rest := []) (wr := []) ⟨hx, hb, hml, hown, hts⟩ hK hX hA (ct_X12_cellHere l D tc sk Ma (fun k => ([(Mv 0), (Mv 1), sv_32, sv_33, sv_34, (Mv 5), (Mv 6), (Mv 7), (Mv 8), (Mv 9), (Mv 10), (Mv 11), (Mv 12), (Mv 13), (Mv 14)] : List (Int32)).getD k 0) (fun k => ([(fun _ => 0), (Mf 1), (fun _ => 0), (fun _ => 0), (fun _ => 0), (fun _ => 0), sv_35] : List (Nat → Int32)).getD k (fun _ => 0)) Mj 2 1 10 ha_44 ha_45) k_1248 k_1245 k_1247 k_35 k_106 pl_X12_cellHere ⟨Nat.le_of_ble_eq_true rfl, Nat.le_of_ble_eq_true rfl⟩ rfl rfl (va_recv hK hP (ci := 12) (q0 := 0) rfl rfl) hP hD hS [0, 1, 2] [] rfl rfl rfl rfl rfl (by decide) rfl hl.1 rfl (Nat.le_of_ble_eq_true rfl) dX12_isBookHere_48 ⟨Nat.le_of_ble_eq_true rfl, Nat.le_of_ble_eq_true rfl⟩ (fun v_46 u_47 H locs hv_48 hP hD hS => ?_)
        obtain ⟨sv_49, sv_50, sv_51, sv_52⟩ := u_47
        obtain ⟨r_55, rfl, he_56, pf_53, pf_54⟩ := hv_48
        have he_56 : ((r_55.toInt = 0 ∧ ¬ (sv_50 : Int32).toInt = 0) ∨ (r_55.toInt = 1 ∧ (1 : Int32).toInt ≤ (sv_52 (2 : Int32).toNatClampNeg).toInt ∧ (sv_52 (2 : Int32).toNatClampNeg).toInt ≤ (10 : Int32).toInt)) := he_56
        have pf_53 : (sv_32 : Int32).toInt ≤ (sv_49 : Int32).toInt ∧ (sv_49 : Int32).toInt ≤ ((Mv 0) : Int32).toInt := pf_53
        have pf_54 : RdC sv_35 sv_52 (2 : Int32) := pf_54
        have kq_pf_54_0 := RdC.at pf_54 0 (by decide) (by decide)
        have kq_pf_54_2 : (sv_52 2).toInt = (sv_52 (2 : Int32).toNatClampNeg).toInt := rfl
        have kq_pf_54_3 := RdC.at pf_54 3 (by decide) (by decide)
        refine W.eq (g2 := F0 m 51 ls [.int r_55]) rfl ?_
        have hP : va_P D classes [((Ma 0), .inr (12, [.ref (Ma 1), .int (Mv 0), .int (Mv 1), .ref (Ma 2), .ref (Ma 3), .ref (Ma 4), .ref (Ma 5), .ref (Ma 6), .int sv_49, .int sv_50, .int sv_51, .int (Mv 5), .int (Mv 6), .int (Mv 7), .int (Mv 8), .ref (Ma 7), .int (Mv 9), .ref (Ma 8), .int (Mv 10), .ref (Ma 9), .ref (Ma 10), .int (Mv 11), .int (Mv 12), .int (Mv 13), .ref (Ma 11), .int (Mv 14), .ref (Ma 12), .ref (Ma 13), .ref (Ma 14), .ref (Ma 15), .ref (Ma 16), .long (Mj 0), .ref (Ma 17), .ref (Ma 18), .ref (Ma 19), .ref (Ma 20)])), ((Ma 1), .inl (tc 2, 400, .inl (Mf 1))), ((Ma 6), .inl (tc 0, 95, .inl sv_52))] H := hP
        have hD : va_D A [((Ma 0), .inr (12, [.ref (Ma 1), .int (Mv 0), .int (Mv 1), .ref (Ma 2), .ref (Ma 3), .ref (Ma 4), .ref (Ma 5), .ref (Ma 6), .int sv_49, .int sv_50, .int sv_51, .int (Mv 5), .int (Mv 6), .int (Mv 7), .int (Mv 8), .ref (Ma 7), .int (Mv 9), .ref (Ma 8), .int (Mv 10), .ref (Ma 9), .ref (Ma 10), .int (Mv 11), .int (Mv 12), .int (Mv 13), .ref (Ma 11), .int (Mv 14), .ref (Ma 12), .ref (Ma 13), .ref (Ma 14), .ref (Ma 15), .ref (Ma 16), .long (Mj 0), .ref (Ma 17), .ref (Ma 18), .ref (Ma 19), .ref (Ma 20)])), ((Ma 1), .inl (tc 2, 400, .inl (Mf 1))), ((Ma 6), .inl (tc 0, 95, .inl sv_52))] := hD
        refine lv_if_ne (tgt := 56) hx hb dX12_isBookHere_51 (by decide) (fun c_58 => ?_) (fun c_58 => ?_)
        · skip
          refine lv_aload_n hx hb dX12_isBookHere_56 rfl (lv_at hl 0 rfl) ?_
          refine gf_X12_26 hx hb hts hown hK hP 0 rfl rfl dX12_isBookHere_57 ?_
          refine lv_iconst (v := 0) hx hb dX12_isBookHere_60 (by decide) ?_
          refine lv_iconst (v := 1) hx hb dX12_isBookHere_61 (by decide) ?_
          refine st_int hx hb hK hP hD hS 2 0 rfl rfl (vin_dec (by decide +kernel)) dX12_isBookHere_62 (fun g_59 H locs eg_59 hP hD hS => ?_)
          have hP : va_P D classes [((Ma 0), .inr (12, [.ref (Ma 1), .int (Mv 0), .int (Mv 1), .ref (Ma 2), .ref (Ma 3), .ref (Ma 4), .ref (Ma 5), .ref (Ma 6), .int sv_49, .int sv_50, .int sv_51, .int (Mv 5), .int (Mv 6), .int (Mv 7), .int (Mv 8), .ref (Ma 7), .int (Mv 9), .ref (Ma 8), .int (Mv 10), .ref (Ma 9), .ref (Ma 10), .int (Mv 11), .int (Mv 12), .int (Mv 13), .ref (Ma 11), .int (Mv 14), .ref (Ma 12), .ref (Ma 13), .ref (Ma 14), .ref (Ma 15), .ref (Ma 16), .long (Mj 0), .ref (Ma 17), .ref (Ma 18), .ref (Ma 19), .ref (Ma 20)])), ((Ma 1), .inl (tc 2, 400, .inl (Mf 1))), ((Ma 6), .inl (tc 0, 95, .inl g_59))] H := hP
          have hD : va_D A [((Ma 0), .inr (12, [.ref (Ma 1), .int (Mv 0), .int (Mv 1), .ref (Ma 2), .ref (Ma 3), .ref (Ma 4), .ref (Ma 5), .ref (Ma 6), .int sv_49, .int sv_50, .int sv_51, .int (Mv 5), .int (Mv 6), .int (Mv 7), .int (Mv 8), .ref (Ma 7), .int (Mv 9), .ref (Ma 8), .int (Mv 10), .ref (Ma 9), .ref (Ma 10), .int (Mv 11), .int (Mv 12), .int (Mv 13), .ref (Ma 11), .int (Mv 14), .ref (Ma 12), .ref (Ma 13), .ref (Ma 14), .ref (Ma 15), .ref (Ma 16), .long (Mj 0), .ref (Ma 17), .ref (Ma 18), .ref (Ma 19), .ref (Ma 20)])), ((Ma 1), .inl (tc 2, 400, .inl (Mf 1))), ((Ma 6), .inl (tc 0, 95, .inl g_59))] := hD
          have ku_g_59_0 : (g_59 0).toInt = (1 : Int32).toInt := upd_toInt_at (i := 0) eg_59
          have ku_g_59_2 : (g_59 2).toInt = (sv_52 2).toInt := upd_toInt_ne (i := 0) eg_59 (by decide)
          have ku_g_59_3 : (g_59 3).toInt = (sv_52 3).toInt := upd_toInt_ne (i := 0) eg_59 (by decide)
          have kv_g_59 : (1 : Int32).toInt = 1 := by decide
          refine lv_iconst (v := 1) hx hb dX12_isBookHere_63 (by decide) ?_
          have ha_60 : ((Mv 2) : Int32).toInt ≤ (sv_49 : Int32).toInt ∧ (sv_49 : Int32).toInt ≤ ((Mv 0) : Int32).toInt := by
            have z_1 := Int32.le_iff_toInt_le.mp c_2
            have z_2 : ¬ (r_21 : Int32).toInt = (0 : Int32).toInt := fun z => c_24 (Int32.toInt_inj.mp z)
            have z_3 : ¬ (r_38 : Int32).toInt = (0 : Int32).toInt := fun z => c_41 (Int32.toInt_inj.mp z)
            have z_4 : ¬ (r_55 : Int32).toInt = (0 : Int32).toInt := fun z => c_58 (Int32.toInt_inj.mp z)
            have y_0 : (0 : Int32).toInt = 0 := by decide
            refine ⟨?_, ?_⟩ <;> omega
          have hp_61 : (((1 : Int32).toInt = 0 ∧ ¬ (sv_50 : Int32).toInt = 0) ∨ (1 : Int32).toInt = 1) := by
            have z_1 := Int32.le_iff_toInt_le.mp c_2
            have z_2 : ¬ (r_21 : Int32).toInt = (0 : Int32).toInt := fun z => c_24 (Int32.toInt_inj.mp z)
            have z_3 : ¬ (r_38 : Int32).toInt = (0 : Int32).toInt := fun z => c_41 (Int32.toInt_inj.mp z)
            have z_4 : ¬ (r_55 : Int32).toInt = (0 : Int32).toInt := fun z => c_58 (Int32.toInt_inj.mp z)
            have y_0 : (0 : Int32).toInt = 0 := by decide
            have y_1 : (1 : Int32).toInt = 1 := by decide
            have yr : (1 : Int32).toInt = 1 := by decide
            omega
          have hm_62 : (1 : Int32).toInt = 1 → (RdO g_59) := by
            intro h1r
            have ha_63 : RdO g_59 := RdO.of (by
              have z_1 := Int32.le_iff_toInt_le.mp c_2
              have z_2 : ¬ (r_21 : Int32).toInt = (0 : Int32).toInt := fun z => c_24 (Int32.toInt_inj.mp z)
              have z_3 : ¬ (r_38 : Int32).toInt = (0 : Int32).toInt := fun z => c_41 (Int32.toInt_inj.mp z)
              have z_4 : ¬ (r_55 : Int32).toInt = (0 : Int32).toInt := fun z => c_58 (Int32.toInt_inj.mp z)
              have y_0 : (0 : Int32).toInt = 0 := by decide
              omega)
            exact ha_63
          exact retI (v := 1) hx hb hr hlk (rfl) hP hD hS (sv_49, sv_50, sv_51, g_59) ⟨_, rfl, hp_61, ha_60, hm_62⟩ [0, 1, 2] rfl rfl dX12_isBookHere_64 (Nat.le_of_ble_eq_true rfl) (Nat.le_of_ble_eq_true rfl) rfl
        · skip
          refine lv_iconst (v := 0) hx hb dX12_isBookHere_54 (by decide) ?_
          have ha_64 : ((Mv 2) : Int32).toInt ≤ (sv_49 : Int32).toInt ∧ (sv_49 : Int32).toInt ≤ ((Mv 0) : Int32).toInt := by
            have z_1 := Int32.le_iff_toInt_le.mp c_2
            have z_2 : ¬ (r_21 : Int32).toInt = (0 : Int32).toInt := fun z => c_24 (Int32.toInt_inj.mp z)
            have z_3 : ¬ (r_38 : Int32).toInt = (0 : Int32).toInt := fun z => c_41 (Int32.toInt_inj.mp z)
            have z_4 := congrArg Int32.toInt c_58
            have y_0 : (0 : Int32).toInt = 0 := by decide
            refine ⟨?_, ?_⟩ <;> omega
          have hp_65 : (((0 : Int32).toInt = 0 ∧ ¬ (sv_50 : Int32).toInt = 0) ∨ (0 : Int32).toInt = 1) := by
            have z_1 := Int32.le_iff_toInt_le.mp c_2
            have z_2 : ¬ (r_21 : Int32).toInt = (0 : Int32).toInt := fun z => c_24 (Int32.toInt_inj.mp z)
            have z_3 : ¬ (r_38 : Int32).toInt = (0 : Int32).toInt := fun z => c_41 (Int32.toInt_inj.mp z)
            have z_4 := congrArg Int32.toInt c_58
            have y_0 : (0 : Int32).toInt = 0 := by decide
            omega
          exact retI (v := 0) hx hb hr hlk (rfl) hP hD hS (sv_49, sv_50, sv_51, sv_52) ⟨_, rfl, hp_65, ha_64, (fun h => absurd h (by decide))⟩ [0, 1, 2] rfl rfl dX12_isBookHere_55 (Nat.le_of_ble_eq_true rfl) (Nat.le_of_ble_eq_true rfl) rfl
  · skip
    refine lv_aload_n hx hb dX12_isBookHere_9 rfl (lv_at hl 0 rfl) ?_
    refine lv_iconst (v := 4) hx hb dX12_isBookHere_10 (by decide) ?_
    refine lv_iload_n hx hb dX12_isBookHere_11 rfl (lv_at hl 1 rfl) ?_
    have ha_66 : 0 ≤ (4 : Int32).toInt ∧ (4 : Int32).toInt ≤ 4 := by
      have z_1 := Int32.lt_iff_toInt_lt.mp (Int32.not_le.mp c_2)
      have y_0 : (0 : Int32).toInt = 0 := by decide
      have y_4 : (4 : Int32).toInt = 4 := by decide
      refine ⟨?_, ?_⟩ <;> omega
    have ha_67 : 0 ≤ x1.toInt ∧ x1.toInt ≤ 400 := by
      have z_1 := Int32.lt_iff_toInt_lt.mp (Int32.not_le.mp c_2)
      have y_0 : (0 : Int32).toInt = 0 := by decide
      refine ⟨?_, ?_⟩ <;> omega
    refine cV (a := (Ma 0)) (As := [.int 4, .int x1]) (rest := []) (wr := [((Ma 1), .inl (tc 2, 400, .inl (Mf 1))), ((Ma 6), .inl (tc 0, 95, .inl (Mf 6)))]) ⟨hx, hb, hml, hown, hts⟩ hK hX hA (ct_X12_fails l D tc sk Ma Mv Mj 4 x1 ha_66 ha_67) k_1232 k_1229 k_1231 k_31 k_106 pl_X12_fails ⟨Nat.le_of_ble_eq_true rfl, Nat.le_of_ble_eq_true rfl⟩ rfl rfl (va_recv hK hP (ci := 12) (q0 := 0) rfl rfl) hP hD hS [0] [1, 2] rfl rfl rfl rfl rfl (by decide) rfl hl.1 rfl (Nat.le_of_ble_eq_true rfl) dX12_isBookHere_12 ⟨Nat.le_of_ble_eq_true rfl, Nat.le_of_ble_eq_true rfl⟩ (fun v_68 u_69 H locs hv_70 hP hD hS => ?_)
    obtain ⟨sv_71, rfl⟩ : ∃ z, z = u_69 := ⟨_, rfl⟩
    obtain ⟨r_73, rfl, he_74, pf_72⟩ := hv_70
    have he_74 : r_73.toInt = 0 := he_74
    have pf_72 : ¬ (sv_71 : Int32).toInt = 0 := pf_72
    refine W.eq (g2 := F0 m 15 ls [.int r_73]) rfl ?_
    have hP : va_P D classes [((Ma 1), .inl (tc 2, 400, .inl (Mf 1))), ((Ma 6), .inl (tc 0, 95, .inl (Mf 6))), ((Ma 0), .inr (12, [.ref (Ma 1), .int (Mv 0), .int (Mv 1), .ref (Ma 2), .ref (Ma 3), .ref (Ma 4), .ref (Ma 5), .ref (Ma 6), .int (Mv 2), .int sv_71, .int (Mv 4), .int (Mv 5), .int (Mv 6), .int (Mv 7), .int (Mv 8), .ref (Ma 7), .int (Mv 9), .ref (Ma 8), .int (Mv 10), .ref (Ma 9), .ref (Ma 10), .int (Mv 11), .int (Mv 12), .int (Mv 13), .ref (Ma 11), .int (Mv 14), .ref (Ma 12), .ref (Ma 13), .ref (Ma 14), .ref (Ma 15), .ref (Ma 16), .long (Mj 0), .ref (Ma 17), .ref (Ma 18), .ref (Ma 19), .ref (Ma 20)]))] H := hP
    have hD : va_D A [((Ma 1), .inl (tc 2, 400, .inl (Mf 1))), ((Ma 6), .inl (tc 0, 95, .inl (Mf 6))), ((Ma 0), .inr (12, [.ref (Ma 1), .int (Mv 0), .int (Mv 1), .ref (Ma 2), .ref (Ma 3), .ref (Ma 4), .ref (Ma 5), .ref (Ma 6), .int (Mv 2), .int sv_71, .int (Mv 4), .int (Mv 5), .int (Mv 6), .int (Mv 7), .int (Mv 8), .ref (Ma 7), .int (Mv 9), .ref (Ma 8), .int (Mv 10), .ref (Ma 9), .ref (Ma 10), .int (Mv 11), .int (Mv 12), .int (Mv 13), .ref (Ma 11), .int (Mv 14), .ref (Ma 12), .ref (Ma 13), .ref (Ma 14), .ref (Ma 15), .ref (Ma 16), .long (Mj 0), .ref (Ma 17), .ref (Ma 18), .ref (Ma 19), .ref (Ma 20)]))] := hD
    have ha_76 : ((Mv 2) : Int32).toInt ≤ ((Mv 2) : Int32).toInt ∧ ((Mv 2) : Int32).toInt ≤ ((Mv 0) : Int32).toInt := by
      have z_1 := Int32.lt_iff_toInt_lt.mp (Int32.not_le.mp c_2)
      have y_0 : (0 : Int32).toInt = 0 := by decide
      refine ⟨?_, ?_⟩ <;> omega
    have hb_77 : (r_73 : Int32).toInt = 0 ∨ (r_73 : Int32).toInt = 1 := by
      have z_1 := Int32.lt_iff_toInt_lt.mp (Int32.not_le.mp c_2)
      have y_0 : (0 : Int32).toInt = 0 := by decide
      omega
    have hp_78 : (((r_73 : Int32).toInt = 0 ∧ ¬ (sv_71 : Int32).toInt = 0) ∨ (r_73 : Int32).toInt = 1) := by
      have z_1 := Int32.lt_iff_toInt_lt.mp (Int32.not_le.mp c_2)
      have y_0 : (0 : Int32).toInt = 0 := by decide
      omega
    have hm_79 : (r_73 : Int32).toInt = 1 → (RdO (Mf 6)) := by
      intro h1r
      exfalso
      have z_1 := Int32.lt_iff_toInt_lt.mp (Int32.not_le.mp c_2)
      have y_0 : (0 : Int32).toInt = 0 := by decide
      omega
    exact retI (v := r_73) hx hb hr hlk (nar01 hb_77) hP hD hS ((Mv 2), sv_71, (Mv 4), (Mf 6)) ⟨_, rfl, hp_78, ha_76, hm_79⟩ [2, 0, 1] rfl rfl dX12_isBookHere_15 (Nat.le_of_ble_eq_true rfl) (Nat.le_of_ble_eq_true rfl) rfl
set_option maxHeartbeats 4000000 in
set_option maxRecDepth 100000 in
theorem ct_X12_isSkyHere (l : Launch) (D : va_G) (tc : Nat → ClassId) (sk : (Nat → Nat) × (Nat → Nat)) (Ma : Nat → Nat) (Mv : Nat → Int32) (Mf : Nat → Nat → Int32) (Mj : Nat → Int64) (h_nx : 0 ≤ ((Mv 2) : Int32).toInt ∧ ((Mv 2) : Int32).toInt ≤ ((Mv 0) : Int32).toInt ∧ ((Mv 0) : Int32).toInt ≤ 400) (h_ro : RdO (Mf 6)) (h_f1 : ((Mf 6) 0).toInt = 1) : Ct l yX12_isSkyHere cX12_isSkyHere 1 (some .boolean) { frames := 3, cells := 0, slots := 0, locals := 72 } D tc sk [.ref (Ma 0)] [((Ma 0), .inr (12, [.ref (Ma 1), .int (Mv 0), .int (Mv 1), .ref (Ma 2), .ref (Ma 3), .ref (Ma 4), .ref (Ma 5), .ref (Ma 6), .int (Mv 2), .int (Mv 3), .int (Mv 4), .int (Mv 5), .int (Mv 6), .int (Mv 7), .int (Mv 8), .ref (Ma 7), .int (Mv 9), .ref (Ma 8), .int (Mv 10), .ref (Ma 9), .ref (Ma 10), .int (Mv 11), .int (Mv 12), .int (Mv 13), .ref (Ma 11), .int (Mv 14), .ref (Ma 12), .ref (Ma 13), .ref (Ma 14), .ref (Ma 15), .ref (Ma 16), .long (Mj 0), .ref (Ma 17), .ref (Ma 18), .ref (Ma 19), .ref (Ma 20)])), ((Ma 1), .inl (tc 2, 400, .inl (Mf 1))), ((Ma 6), .inl (tc 0, 95, .inl (Mf 6)))] (fun (v : Option Value) (u : (Int32) × (Int32) × (Int32) × (Nat → Int32)) => match u with | (oo0x1, oo0x2, oo0x3, oo0x4) => ∃ r : Int32, v = some (.int r) ∧ (((r.toInt = 0 ∧ ¬ (oo0x2 : Int32).toInt = 0) ∨ r.toInt = 1)) ∧ (((Mv 2) : Int32).toInt ≤ (oo0x1 : Int32).toInt ∧ (oo0x1 : Int32).toInt ≤ ((Mv 0) : Int32).toInt) ∧ (r.toInt = 1 → (RdO oo0x4))) (fun (u : (Int32) × (Int32) × (Int32) × (Nat → Int32)) => match u with | (oo0x1, oo0x2, oo0x3, oo0x4) => [((Ma 0), .inr (12, [.ref (Ma 1), .int (Mv 0), .int (Mv 1), .ref (Ma 2), .ref (Ma 3), .ref (Ma 4), .ref (Ma 5), .ref (Ma 6), .int oo0x1, .int oo0x2, .int oo0x3, .int (Mv 5), .int (Mv 6), .int (Mv 7), .int (Mv 8), .ref (Ma 7), .int (Mv 9), .ref (Ma 8), .int (Mv 10), .ref (Ma 9), .ref (Ma 10), .int (Mv 11), .int (Mv 12), .int (Mv 13), .ref (Ma 11), .int (Mv 14), .ref (Ma 12), .ref (Ma 13), .ref (Ma 14), .ref (Ma 15), .ref (Ma 16), .long (Mj 0), .ref (Ma 17), .ref (Ma 18), .ref (Ma 19), .ref (Ma 20)])), ((Ma 1), .inl (tc 2, 400, .inl (Mf 1))), ((Ma 6), .inl (tc 0, 95, .inl oo0x4))]) 0 0 := by
  refine Ct.start (by decide) (Nat.le_of_ble_eq_true rfl) (fun p e s m below meth c A ls hx hb hr hlk hin hml hown hts hK hX hP hD hA hl hS => ?_)
  have hl : lv_has ls 1 [(0, .ref (Ma 0))] := hl
  have ar_h_ro := RdO.ar h_ro
  refine lv_aload_n hx hb dX12_isSkyHere_0 rfl (lv_at hl 0 rfl) ?_
  have ha_1 : 0 ≤ ((Mv 2) : Int32).toInt ∧ ((Mv 2) : Int32).toInt ≤ ((Mv 0) : Int32).toInt ∧ ((Mv 0) : Int32).toInt ≤ 400 := by
    refine ⟨?_, ?_, ?_⟩ <;> omega
  refine cV (a := (Ma 0)) (As := []) (rest := []) (wr := [((Ma 6), .inl (tc 0, 95, .inl (Mf 6)))]) ⟨hx, hb, hml, hown, hts⟩ hK hX hA (ct_X12_passWord l D tc sk Ma Mv Mf Mj ha_1) k_1244 k_1241 k_1243 k_34 k_106 pl_X12_passWord ⟨Nat.le_of_ble_eq_true rfl, Nat.le_of_ble_eq_true rfl⟩ rfl rfl (va_recv hK hP (ci := 12) (q0 := 0) rfl rfl) hP hD hS [0, 1] [2] rfl rfl rfl rfl rfl (by decide) rfl hl.1 rfl (Nat.le_of_ble_eq_true rfl) dX12_isSkyHere_1 ⟨Nat.le_of_ble_eq_true rfl, Nat.le_of_ble_eq_true rfl⟩ (fun v_2 u_3 H locs hv_4 hP hD hS => ?_)
  obtain ⟨sv_5, rfl⟩ : ∃ z, z = u_3 := ⟨_, rfl⟩
  obtain ⟨rfl, pf_6, pf_7⟩ := hv_4
  have pf_6 : ((Mv 2) : Int32).toInt ≤ (sv_5 : Int32).toInt ∧ (sv_5 : Int32).toInt ≤ ((Mv 0) : Int32).toInt := pf_6
  have pf_7 : Pw (Mf 1) (Mv 0) (Mv 2) sv_5 := pf_7
  refine W.eq (g2 := F0 m 4 ls []) rfl ?_
  have hP : va_P D classes [((Ma 6), .inl (tc 0, 95, .inl (Mf 6))), ((Ma 0), .inr (12, [.ref (Ma 1), .int (Mv 0), .int (Mv 1), .ref (Ma 2), .ref (Ma 3), .ref (Ma 4), .ref (Ma 5), .ref (Ma 6), .int sv_5, .int (Mv 3), .int (Mv 4), .int (Mv 5), .int (Mv 6), .int (Mv 7), .int (Mv 8), .ref (Ma 7), .int (Mv 9), .ref (Ma 8), .int (Mv 10), .ref (Ma 9), .ref (Ma 10), .int (Mv 11), .int (Mv 12), .int (Mv 13), .ref (Ma 11), .int (Mv 14), .ref (Ma 12), .ref (Ma 13), .ref (Ma 14), .ref (Ma 15), .ref (Ma 16), .long (Mj 0), .ref (Ma 17), .ref (Ma 18), .ref (Ma 19), .ref (Ma 20)])), ((Ma 1), .inl (tc 2, 400, .inl (Mf 1)))] H := hP
  have hD : va_D A [((Ma 6), .inl (tc 0, 95, .inl (Mf 6))), ((Ma 0), .inr (12, [.ref (Ma 1), .int (Mv 0), .int (Mv 1), .ref (Ma 2), .ref (Ma 3), .ref (Ma 4), .ref (Ma 5), .ref (Ma 6), .int sv_5, .int (Mv 3), .int (Mv 4), .int (Mv 5), .int (Mv 6), .int (Mv 7), .int (Mv 8), .ref (Ma 7), .int (Mv 9), .ref (Ma 8), .int (Mv 10), .ref (Ma 9), .ref (Ma 10), .int (Mv 11), .int (Mv 12), .int (Mv 13), .ref (Ma 11), .int (Mv 14), .ref (Ma 12), .ref (Ma 13), .ref (Ma 14), .ref (Ma 15), .ref (Ma 16), .long (Mj 0), .ref (Ma 17), .ref (Ma 18), .ref (Ma 19), .ref (Ma 20)])), ((Ma 1), .inl (tc 2, 400, .inl (Mf 1)))] := hD
  refine lv_aload_n hx hb dX12_isSkyHere_4 rfl (lv_at hl 0 rfl) ?_
  refine lv_iconst (v := 0) hx hb dX12_isSkyHere_5 (by decide) ?_
  refine lv_aload_n hx hb dX12_isSkyHere_6 rfl (lv_at hl 0 rfl) ?_
  refine gf_X12_26 hx hb hts hown hK hP 1 rfl rfl dX12_isSkyHere_7 ?_
  refine lv_iconst (v := 2) hx hb dX12_isSkyHere_10 (by decide) ?_
  refine va_iald hx hb hK hP 0 0 rfl rfl (vin_dec (by decide +kernel)) dX12_isSkyHere_11 ?_
  refine lv_topi (fun x_8 ex_8 => ?_)
  have lx_8 : x_8.toInt = ((Mf 6) 2).toInt := congrArg Int32.toInt ex_8
  refine lv_iconst (v := 1) hx hb dX12_isSkyHere_12 (by decide) ?_
  refine lv_isub hx hb dX12_isSkyHere_13 ?_
  refine lv_topi (fun x_9 ex_9 => ?_)
  have ha_10 : 0 ≤ (sv_5 : Int32).toInt ∧ (sv_5 : Int32).toInt ≤ ((Mv 0) : Int32).toInt ∧ ((Mv 0) : Int32).toInt ≤ 400 := by
    have y_1 : (1 : Int32).toInt = 1 := by decide
    have t_x_9 : x_9.toInt = (x_8 : Int32).toInt - (1 : Int32).toInt := by rw [ex_9]; exact sub_toInt (by omega) (by omega)
    refine ⟨?_, ?_, ?_⟩ <;> omega
  refine cV (a := (Ma 0)) (As := [.int 0, .int x_9]) (rest := []) (wr := [((Ma 6), .inl (tc 0, 95, .inl (Mf 6)))]) ⟨hx, hb, hml, hown, hts⟩ hK hX hA (ct_X12_numberHere l D tc sk Ma (fun k => ([(Mv 0), (Mv 1), sv_5, (Mv 3), (Mv 4), (Mv 5), (Mv 6), (Mv 7), (Mv 8), (Mv 9), (Mv 10), (Mv 11), (Mv 12), (Mv 13), (Mv 14)] : List (Int32)).getD k 0) Mf Mj 0 x_9 ha_10) k_1252 k_1249 k_1251 k_36 k_106 pl_X12_numberHere ⟨Nat.le_of_ble_eq_true rfl, Nat.le_of_ble_eq_true rfl⟩ rfl rfl (va_recv hK hP (ci := 12) (q0 := 1) rfl rfl) hP hD hS [1, 2] [0] rfl rfl rfl rfl rfl (by decide) rfl hl.1 rfl (Nat.le_of_ble_eq_true rfl) dX12_isSkyHere_14 ⟨Nat.le_of_ble_eq_true rfl, Nat.le_of_ble_eq_true rfl⟩ (fun v_11 u_12 H locs hv_13 hP hD hS => ?_)
  obtain ⟨sv_14, sv_15, sv_16⟩ := u_12
  obtain ⟨r_18, rfl, he_19, pf_17⟩ := hv_13
  have he_19 : ((r_18.toInt = 0 ∧ ¬ (sv_15 : Int32).toInt = 0) ∨ (r_18.toInt = 1 ∧ (0 : Int32).toInt ≤ (sv_16 : Int32).toInt ∧ (sv_16 : Int32).toInt ≤ x_9.toInt ∧ sv_5.toInt + 1 ≤ (sv_14 : Int32).toInt)) := he_19
  have pf_17 : (sv_5 : Int32).toInt ≤ (sv_14 : Int32).toInt ∧ (sv_14 : Int32).toInt ≤ ((Mv 0) : Int32).toInt := pf_17
  refine W.eq (g2 := F0 m 17 ls [.int r_18]) rfl ?_
  have hP : va_P D classes [((Ma 6), .inl (tc 0, 95, .inl (Mf 6))), ((Ma 0), .inr (12, [.ref (Ma 1), .int (Mv 0), .int (Mv 1), .ref (Ma 2), .ref (Ma 3), .ref (Ma 4), .ref (Ma 5), .ref (Ma 6), .int sv_14, .int sv_15, .int sv_16, .int (Mv 5), .int (Mv 6), .int (Mv 7), .int (Mv 8), .ref (Ma 7), .int (Mv 9), .ref (Ma 8), .int (Mv 10), .ref (Ma 9), .ref (Ma 10), .int (Mv 11), .int (Mv 12), .int (Mv 13), .ref (Ma 11), .int (Mv 14), .ref (Ma 12), .ref (Ma 13), .ref (Ma 14), .ref (Ma 15), .ref (Ma 16), .long (Mj 0), .ref (Ma 17), .ref (Ma 18), .ref (Ma 19), .ref (Ma 20)])), ((Ma 1), .inl (tc 2, 400, .inl (Mf 1)))] H := hP
  have hD : va_D A [((Ma 6), .inl (tc 0, 95, .inl (Mf 6))), ((Ma 0), .inr (12, [.ref (Ma 1), .int (Mv 0), .int (Mv 1), .ref (Ma 2), .ref (Ma 3), .ref (Ma 4), .ref (Ma 5), .ref (Ma 6), .int sv_14, .int sv_15, .int sv_16, .int (Mv 5), .int (Mv 6), .int (Mv 7), .int (Mv 8), .ref (Ma 7), .int (Mv 9), .ref (Ma 8), .int (Mv 10), .ref (Ma 9), .ref (Ma 10), .int (Mv 11), .int (Mv 12), .int (Mv 13), .ref (Ma 11), .int (Mv 14), .ref (Ma 12), .ref (Ma 13), .ref (Ma 14), .ref (Ma 15), .ref (Ma 16), .long (Mj 0), .ref (Ma 17), .ref (Ma 18), .ref (Ma 19), .ref (Ma 20)])), ((Ma 1), .inl (tc 2, 400, .inl (Mf 1)))] := hD
  refine lv_if_ne (tgt := 22) hx hb dX12_isSkyHere_17 (by decide) (fun c_21 => ?_) (fun c_21 => ?_)
  · skip
    refine lv_aload_n hx hb dX12_isSkyHere_22 rfl (lv_at hl 0 rfl) ?_
    refine lv_bipush (v := 74) hx hb dX12_isSkyHere_23 (by decide) ?_
    refine lv_aload_n hx hb dX12_isSkyHere_25 rfl (lv_at hl 0 rfl) ?_
    refine gf_X12_112 hx hb hts hown hK hP 1 rfl rfl dX12_isSkyHere_26 ?_
    refine lv_iadd hx hb dX12_isSkyHere_29 ?_
    refine lv_topi (fun x_22 ex_22 => ?_)
    refine lv_iconst (v := 0) hx hb dX12_isSkyHere_30 (by decide) ?_
    refine lv_bipush (v := 9) hx hb dX12_isSkyHere_31 (by decide) ?_
    have ha_23 : 0 ≤ (sv_14 : Int32).toInt ∧ (sv_14 : Int32).toInt ≤ ((Mv 0) : Int32).toInt ∧ ((Mv 0) : Int32).toInt ≤ 400 := by
      have z_1 : ¬ (r_18 : Int32).toInt = (0 : Int32).toInt := fun z => c_21 (Int32.toInt_inj.mp z)
      have y_0 : (0 : Int32).toInt = 0 := by decide
      have y_1 : (1 : Int32).toInt = 1 := by decide
      have y_74 : (74 : Int32).toInt = 74 := by decide
      have t_x_9 : x_9.toInt = (x_8 : Int32).toInt - (1 : Int32).toInt := by rw [ex_9]; exact sub_toInt (by omega) (by omega)
      have t_x_22 : x_22.toInt = (74 : Int32).toInt + (sv_16 : Int32).toInt := by rw [ex_22]; exact add_toInt (by omega) (by omega)
      refine ⟨?_, ?_, ?_⟩ <;> omega
    have ha_24 : 0 ≤ x_22.toInt ∧ x_22.toInt < 95 := by
      have z_1 : ¬ (r_18 : Int32).toInt = (0 : Int32).toInt := fun z => c_21 (Int32.toInt_inj.mp z)
      have y_0 : (0 : Int32).toInt = 0 := by decide
      have y_1 : (1 : Int32).toInt = 1 := by decide
      have y_74 : (74 : Int32).toInt = 74 := by decide
      have t_x_22 : x_22.toInt = (74 : Int32).toInt + (sv_16 : Int32).toInt := by rw [ex_22]; exact add_toInt (by omega) (by omega)
      have t_x_9 : x_9.toInt = (x_8 : Int32).toInt - (1 : Int32).toInt := by rw [ex_9]; exact sub_toInt (by omega) (by omega)
      refine ⟨?_, ?_⟩ <;> omega
    refine cV (a := (Ma 0)) (As := [.int x_22, .int 0, .int 9]) (rest := []) (wr := []) ⟨hx, hb, hml, hown, hts⟩ hK hX hA (ct_X12_cellHere l D tc sk Ma (fun k => ([(Mv 0), (Mv 1), sv_14, sv_15, sv_16, (Mv 5), (Mv 6), (Mv 7), (Mv 8), (Mv 9), (Mv 10), (Mv 11), (Mv 12), (Mv 13), (Mv 14)] : List (Int32)).getD k 0) Mf Mj x_22 0 9 ha_23 ha_24) k_1248 k_1245 k_1247 k_35 k_106 pl_X12_cellHere ⟨Nat.le_of_ble_eq_true rfl, Nat.le_of_ble_eq_true rfl⟩ rfl rfl (va_recv hK hP (ci := 12) (q0 := 1) rfl rfl) hP hD hS [1, 2, 0] [] rfl rfl rfl rfl rfl (by decide) rfl hl.1 rfl (Nat.le_of_ble_eq_true rfl) dX12_isSkyHere_33 ⟨Nat.le_of_ble_eq_true rfl, Nat.le_of_ble_eq_true rfl⟩ (fun v_25 u_26 H locs hv_27 hP hD hS => ?_)
    obtain ⟨sv_28, sv_29, sv_30, sv_31⟩ := u_26
    obtain ⟨r_34, rfl, he_35, pf_32, pf_33⟩ := hv_27
    have he_35 : ((r_34.toInt = 0 ∧ ¬ (sv_29 : Int32).toInt = 0) ∨ (r_34.toInt = 1 ∧ (0 : Int32).toInt ≤ (sv_31 x_22.toNatClampNeg).toInt ∧ (sv_31 x_22.toNatClampNeg).toInt ≤ (9 : Int32).toInt)) := he_35
    have pf_32 : (sv_14 : Int32).toInt ≤ (sv_28 : Int32).toInt ∧ (sv_28 : Int32).toInt ≤ ((Mv 0) : Int32).toInt := pf_32
    have pf_33 : RdC (Mf 6) sv_31 x_22 := pf_33
    have hr_37 : 4 ≤ (x_22 : Int32).toInt := by
      have z_1 : ¬ (r_18 : Int32).toInt = (0 : Int32).toInt := fun z => c_21 (Int32.toInt_inj.mp z)
      have y_0 : (0 : Int32).toInt = 0 := by decide
      have y_1 : (1 : Int32).toInt = 1 := by decide
      have y_74 : (74 : Int32).toInt = 74 := by decide
      have t_x_22 : x_22.toInt = (74 : Int32).toInt + (sv_16 : Int32).toInt := by rw [ex_22]; exact add_toInt (by omega) (by omega)
      have t_x_9 : x_9.toInt = (x_8 : Int32).toInt - (1 : Int32).toInt := by rw [ex_9]; exact sub_toInt (by omega) (by omega)
      omega
    have kq_pf_33_0 := RdC.at pf_33 0 (by omega) (by omega)
    have hr_38 : 4 ≤ (x_22 : Int32).toInt := by
      have z_1 : ¬ (r_18 : Int32).toInt = (0 : Int32).toInt := fun z => c_21 (Int32.toInt_inj.mp z)
      have y_0 : (0 : Int32).toInt = 0 := by decide
      have y_1 : (1 : Int32).toInt = 1 := by decide
      have y_74 : (74 : Int32).toInt = 74 := by decide
      have t_x_22 : x_22.toInt = (74 : Int32).toInt + (sv_16 : Int32).toInt := by rw [ex_22]; exact add_toInt (by omega) (by omega)
      have t_x_9 : x_9.toInt = (x_8 : Int32).toInt - (1 : Int32).toInt := by rw [ex_9]; exact sub_toInt (by omega) (by omega)
      omega
    have kq_pf_33_2 := RdC.at pf_33 2 (by omega) (by omega)
    have hr_39 : 4 ≤ (x_22 : Int32).toInt := by
      have z_1 : ¬ (r_18 : Int32).toInt = (0 : Int32).toInt := fun z => c_21 (Int32.toInt_inj.mp z)
      have y_0 : (0 : Int32).toInt = 0 := by decide
      have y_1 : (1 : Int32).toInt = 1 := by decide
      have y_74 : (74 : Int32).toInt = 74 := by decide
      have t_x_22 : x_22.toInt = (74 : Int32).toInt + (sv_16 : Int32).toInt := by rw [ex_22]; exact add_toInt (by omega) (by omega)
      have t_x_9 : x_9.toInt = (x_8 : Int32).toInt - (1 : Int32).toInt := by rw [ex_9]; exact sub_toInt (by omega) (by omega)
      omega
    have kq_pf_33_3 := RdC.at pf_33 3 (by omega) (by omega)
    refine W.eq (g2 := F0 m 36 ls [.int r_34]) rfl ?_
    have hP : va_P D classes [((Ma 0), .inr (12, [.ref (Ma 1), .int (Mv 0), .int (Mv 1), .ref (Ma 2), .ref (Ma 3), .ref (Ma 4), .ref (Ma 5), .ref (Ma 6), .int sv_28, .int sv_29, .int sv_30, .int (Mv 5), .int (Mv 6), .int (Mv 7), .int (Mv 8), .ref (Ma 7), .int (Mv 9), .ref (Ma 8), .int (Mv 10), .ref (Ma 9), .ref (Ma 10), .int (Mv 11), .int (Mv 12), .int (Mv 13), .ref (Ma 11), .int (Mv 14), .ref (Ma 12), .ref (Ma 13), .ref (Ma 14), .ref (Ma 15), .ref (Ma 16), .long (Mj 0), .ref (Ma 17), .ref (Ma 18), .ref (Ma 19), .ref (Ma 20)])), ((Ma 1), .inl (tc 2, 400, .inl (Mf 1))), ((Ma 6), .inl (tc 0, 95, .inl sv_31))] H := hP
    have hD : va_D A [((Ma 0), .inr (12, [.ref (Ma 1), .int (Mv 0), .int (Mv 1), .ref (Ma 2), .ref (Ma 3), .ref (Ma 4), .ref (Ma 5), .ref (Ma 6), .int sv_28, .int sv_29, .int sv_30, .int (Mv 5), .int (Mv 6), .int (Mv 7), .int (Mv 8), .ref (Ma 7), .int (Mv 9), .ref (Ma 8), .int (Mv 10), .ref (Ma 9), .ref (Ma 10), .int (Mv 11), .int (Mv 12), .int (Mv 13), .ref (Ma 11), .int (Mv 14), .ref (Ma 12), .ref (Ma 13), .ref (Ma 14), .ref (Ma 15), .ref (Ma 16), .long (Mj 0), .ref (Ma 17), .ref (Ma 18), .ref (Ma 19), .ref (Ma 20)])), ((Ma 1), .inl (tc 2, 400, .inl (Mf 1))), ((Ma 6), .inl (tc 0, 95, .inl sv_31))] := hD
    have ha_40 : ((Mv 2) : Int32).toInt ≤ (sv_28 : Int32).toInt ∧ (sv_28 : Int32).toInt ≤ ((Mv 0) : Int32).toInt := by
      have z_1 : ¬ (r_18 : Int32).toInt = (0 : Int32).toInt := fun z => c_21 (Int32.toInt_inj.mp z)
      have y_0 : (0 : Int32).toInt = 0 := by decide
      have y_1 : (1 : Int32).toInt = 1 := by decide
      have y_74 : (74 : Int32).toInt = 74 := by decide
      have t_x_9 : x_9.toInt = (x_8 : Int32).toInt - (1 : Int32).toInt := by rw [ex_9]; exact sub_toInt (by omega) (by omega)
      have t_x_22 : x_22.toInt = (74 : Int32).toInt + (sv_16 : Int32).toInt := by rw [ex_22]; exact add_toInt (by omega) (by omega)
      refine ⟨?_, ?_⟩ <;> omega
    have hb_41 : (r_34 : Int32).toInt = 0 ∨ (r_34 : Int32).toInt = 1 := by
      have z_1 : ¬ (r_18 : Int32).toInt = (0 : Int32).toInt := fun z => c_21 (Int32.toInt_inj.mp z)
      have y_0 : (0 : Int32).toInt = 0 := by decide
      have y_1 : (1 : Int32).toInt = 1 := by decide
      have y_74 : (74 : Int32).toInt = 74 := by decide
      have t_x_9 : x_9.toInt = (x_8 : Int32).toInt - (1 : Int32).toInt := by rw [ex_9]; exact sub_toInt (by omega) (by omega)
      have t_x_22 : x_22.toInt = (74 : Int32).toInt + (sv_16 : Int32).toInt := by rw [ex_22]; exact add_toInt (by omega) (by omega)
      omega
    have hp_42 : (((r_34 : Int32).toInt = 0 ∧ ¬ (sv_29 : Int32).toInt = 0) ∨ (r_34 : Int32).toInt = 1) := by
      have z_1 : ¬ (r_18 : Int32).toInt = (0 : Int32).toInt := fun z => c_21 (Int32.toInt_inj.mp z)
      have y_0 : (0 : Int32).toInt = 0 := by decide
      have y_1 : (1 : Int32).toInt = 1 := by decide
      have y_74 : (74 : Int32).toInt = 74 := by decide
      have t_x_9 : x_9.toInt = (x_8 : Int32).toInt - (1 : Int32).toInt := by rw [ex_9]; exact sub_toInt (by omega) (by omega)
      have t_x_22 : x_22.toInt = (74 : Int32).toInt + (sv_16 : Int32).toInt := by rw [ex_22]; exact add_toInt (by omega) (by omega)
      omega
    have hm_43 : (r_34 : Int32).toInt = 1 → (RdO sv_31) := by
      intro h1r
      have ha_44 : RdO sv_31 := RdO.of (by
        have z_1 : ¬ (r_18 : Int32).toInt = (0 : Int32).toInt := fun z => c_21 (Int32.toInt_inj.mp z)
        have y_0 : (0 : Int32).toInt = 0 := by decide
        have y_1 : (1 : Int32).toInt = 1 := by decide
        have y_74 : (74 : Int32).toInt = 74 := by decide
        have t_x_9 : x_9.toInt = (x_8 : Int32).toInt - (1 : Int32).toInt := by rw [ex_9]; exact sub_toInt (by omega) (by omega)
        have t_x_22 : x_22.toInt = (74 : Int32).toInt + (sv_16 : Int32).toInt := by rw [ex_22]; exact add_toInt (by omega) (by omega)
        omega)
      exact ha_44
    exact retI (v := r_34) hx hb hr hlk (nar01 hb_41) hP hD hS (sv_28, sv_29, sv_30, sv_31) ⟨_, rfl, hp_42, ha_40, hm_43⟩ [0, 1, 2] rfl rfl dX12_isSkyHere_36 (Nat.le_of_ble_eq_true rfl) (Nat.le_of_ble_eq_true rfl) rfl
  · skip
    refine lv_iconst (v := 0) hx hb dX12_isSkyHere_20 (by decide) ?_
    have ha_45 : ((Mv 2) : Int32).toInt ≤ (sv_14 : Int32).toInt ∧ (sv_14 : Int32).toInt ≤ ((Mv 0) : Int32).toInt := by
      have z_1 := congrArg Int32.toInt c_21
      have y_0 : (0 : Int32).toInt = 0 := by decide
      have y_1 : (1 : Int32).toInt = 1 := by decide
      have t_x_9 : x_9.toInt = (x_8 : Int32).toInt - (1 : Int32).toInt := by rw [ex_9]; exact sub_toInt (by omega) (by omega)
      refine ⟨?_, ?_⟩ <;> omega
    have hp_46 : (((0 : Int32).toInt = 0 ∧ ¬ (sv_15 : Int32).toInt = 0) ∨ (0 : Int32).toInt = 1) := by
      have z_1 := congrArg Int32.toInt c_21
      have y_0 : (0 : Int32).toInt = 0 := by decide
      have y_1 : (1 : Int32).toInt = 1 := by decide
      have t_x_9 : x_9.toInt = (x_8 : Int32).toInt - (1 : Int32).toInt := by rw [ex_9]; exact sub_toInt (by omega) (by omega)
      omega
    exact retI (v := 0) hx hb hr hlk (rfl) hP hD hS (sv_14, sv_15, sv_16, (Mf 6)) ⟨_, rfl, hp_46, ha_45, (fun h => absurd h (by decide))⟩ [1, 2, 0] rfl rfl dX12_isSkyHere_21 (Nat.le_of_ble_eq_true rfl) (Nat.le_of_ble_eq_true rfl) rfl
set_option maxHeartbeats 4000000 in
set_option maxRecDepth 100000 in
theorem ct_X12_isBuyerHere (l : Launch) (D : va_G) (tc : Nat → ClassId) (sk : (Nat → Nat) × (Nat → Nat)) (Ma : Nat → Nat) (Mv : Nat → Int32) (Mf : Nat → Nat → Int32) (Mj : Nat → Int64) (x1 : Int32) (h_nx : 0 ≤ ((Mv 2) : Int32).toInt ∧ ((Mv 2) : Int32).toInt ≤ ((Mv 0) : Int32).toInt ∧ ((Mv 0) : Int32).toInt ≤ 400) (h_at : 0 ≤ x1.toInt ∧ x1.toInt ≤ 400) (h_ro : RdO (Mf 6)) (h_f1 : ((Mf 6) 0).toInt = 1) : Ct l yX12_isBuyerHere cX12_isBuyerHere 3 (some .boolean) { frames := 3, cells := 0, slots := 0, locals := 72 } D tc sk [.ref (Ma 0), .int x1] [((Ma 0), .inr (12, [.ref (Ma 1), .int (Mv 0), .int (Mv 1), .ref (Ma 2), .ref (Ma 3), .ref (Ma 4), .ref (Ma 5), .ref (Ma 6), .int (Mv 2), .int (Mv 3), .int (Mv 4), .int (Mv 5), .int (Mv 6), .int (Mv 7), .int (Mv 8), .ref (Ma 7), .int (Mv 9), .ref (Ma 8), .int (Mv 10), .ref (Ma 9), .ref (Ma 10), .int (Mv 11), .int (Mv 12), .int (Mv 13), .ref (Ma 11), .int (Mv 14), .ref (Ma 12), .ref (Ma 13), .ref (Ma 14), .ref (Ma 15), .ref (Ma 16), .long (Mj 0), .ref (Ma 17), .ref (Ma 18), .ref (Ma 19), .ref (Ma 20)])), ((Ma 1), .inl (tc 2, 400, .inl (Mf 1))), ((Ma 6), .inl (tc 0, 95, .inl (Mf 6)))] (fun (v : Option Value) (u : (Int32) × (Int32) × (Int32) × (Nat → Int32)) => match u with | (oo0x1, oo0x2, oo0x3, oo0x4) => ∃ r : Int32, v = some (.int r) ∧ (((r.toInt = 0 ∧ ¬ (oo0x2 : Int32).toInt = 0) ∨ r.toInt = 1)) ∧ (((Mv 2) : Int32).toInt ≤ (oo0x1 : Int32).toInt ∧ (oo0x1 : Int32).toInt ≤ ((Mv 0) : Int32).toInt) ∧ (r.toInt = 1 → (RdO oo0x4))) (fun (u : (Int32) × (Int32) × (Int32) × (Nat → Int32)) => match u with | (oo0x1, oo0x2, oo0x3, oo0x4) => [((Ma 0), .inr (12, [.ref (Ma 1), .int (Mv 0), .int (Mv 1), .ref (Ma 2), .ref (Ma 3), .ref (Ma 4), .ref (Ma 5), .ref (Ma 6), .int oo0x1, .int oo0x2, .int oo0x3, .int (Mv 5), .int (Mv 6), .int (Mv 7), .int (Mv 8), .ref (Ma 7), .int (Mv 9), .ref (Ma 8), .int (Mv 10), .ref (Ma 9), .ref (Ma 10), .int (Mv 11), .int (Mv 12), .int (Mv 13), .ref (Ma 11), .int (Mv 14), .ref (Ma 12), .ref (Ma 13), .ref (Ma 14), .ref (Ma 15), .ref (Ma 16), .long (Mj 0), .ref (Ma 17), .ref (Ma 18), .ref (Ma 19), .ref (Ma 20)])), ((Ma 1), .inl (tc 2, 400, .inl (Mf 1))), ((Ma 6), .inl (tc 0, 95, .inl oo0x4))]) 0 0 := by
  refine Ct.start (by decide) (Nat.le_of_ble_eq_true rfl) (fun p e s m below meth c A ls hx hb hr hlk hin hml hown hts hK hX hP hD hA hl hS => ?_)
  have hl : lv_has ls 3 [(0, .ref (Ma 0)), (1, .int x1)] := hl
  have ar_h_ro := RdO.ar h_ro
  refine lv_aload_n hx hb dX12_isBuyerHere_0 rfl (lv_at hl 0 rfl) ?_
  refine gf_X12_26 hx hb hts hown hK hP 0 rfl rfl dX12_isBuyerHere_1 ?_
  refine lv_iconst (v := 3) hx hb dX12_isBuyerHere_4 (by decide) ?_
  refine va_iald hx hb hK hP 2 0 rfl rfl (vin_dec (by decide +kernel)) dX12_isBuyerHere_5 ?_
  refine lv_topi (fun x_1 ex_1 => ?_)
  have lx_1 : x_1.toInt = ((Mf 6) 3).toInt := congrArg Int32.toInt ex_1
  refine lv_bipush (v := 6) hx hb dX12_isBuyerHere_6 (by decide) ?_
  refine lv_icmp_ne (tgt := 18) hx hb dX12_isBuyerHere_8 (by decide) (fun c_2 => ?_) (fun c_2 => ?_)
  · skip
    refine lv_aload_n hx hb dX12_isBuyerHere_18 rfl (lv_at hl 0 rfl) ?_
    have ha_3 : 0 ≤ ((Mv 2) : Int32).toInt ∧ ((Mv 2) : Int32).toInt ≤ ((Mv 0) : Int32).toInt ∧ ((Mv 0) : Int32).toInt ≤ 400 := by
      have z_1 : ¬ (x_1 : Int32).toInt = (6 : Int32).toInt := fun z => c_2 (Int32.toInt_inj.mp z)
      have y_6 : (6 : Int32).toInt = 6 := by decide
      refine ⟨?_, ?_, ?_⟩ <;> omega
    refine cV (a := (Ma 0)) (As := []) (rest := []) (wr := [((Ma 6), .inl (tc 0, 95, .inl (Mf 6)))]) ⟨hx, hb, hml, hown, hts⟩ hK hX hA (ct_X12_passWord l D tc sk Ma Mv Mf Mj ha_3) k_1244 k_1241 k_1243 k_34 k_106 pl_X12_passWord ⟨Nat.le_of_ble_eq_true rfl, Nat.le_of_ble_eq_true rfl⟩ rfl rfl (va_recv hK hP (ci := 12) (q0 := 0) rfl rfl) hP hD hS [0, 1] [2] rfl rfl rfl rfl rfl (by decide) rfl hl.1 rfl (Nat.le_of_ble_eq_true rfl) dX12_isBuyerHere_19 ⟨Nat.le_of_ble_eq_true rfl, Nat.le_of_ble_eq_true rfl⟩ (fun v_4 u_5 H locs hv_6 hP hD hS => ?_)
    obtain ⟨sv_7, rfl⟩ : ∃ z, z = u_5 := ⟨_, rfl⟩
    obtain ⟨rfl, pf_8, pf_9⟩ := hv_6
    have pf_8 : ((Mv 2) : Int32).toInt ≤ (sv_7 : Int32).toInt ∧ (sv_7 : Int32).toInt ≤ ((Mv 0) : Int32).toInt := pf_8
    have pf_9 : Pw (Mf 1) (Mv 0) (Mv 2) sv_7 := pf_9
    refine W.eq (g2 := F0 m 22 ls []) rfl ?_
    have hP : va_P D classes [((Ma 6), .inl (tc 0, 95, .inl (Mf 6))), ((Ma 0), .inr (12, [.ref (Ma 1), .int (Mv 0), .int (Mv 1), .ref (Ma 2), .ref (Ma 3), .ref (Ma 4), .ref (Ma 5), .ref (Ma 6), .int sv_7, .int (Mv 3), .int (Mv 4), .int (Mv 5), .int (Mv 6), .int (Mv 7), .int (Mv 8), .ref (Ma 7), .int (Mv 9), .ref (Ma 8), .int (Mv 10), .ref (Ma 9), .ref (Ma 10), .int (Mv 11), .int (Mv 12), .int (Mv 13), .ref (Ma 11), .int (Mv 14), .ref (Ma 12), .ref (Ma 13), .ref (Ma 14), .ref (Ma 15), .ref (Ma 16), .long (Mj 0), .ref (Ma 17), .ref (Ma 18), .ref (Ma 19), .ref (Ma 20)])), ((Ma 1), .inl (tc 2, 400, .inl (Mf 1)))] H := hP
    have hD : va_D A [((Ma 6), .inl (tc 0, 95, .inl (Mf 6))), ((Ma 0), .inr (12, [.ref (Ma 1), .int (Mv 0), .int (Mv 1), .ref (Ma 2), .ref (Ma 3), .ref (Ma 4), .ref (Ma 5), .ref (Ma 6), .int sv_7, .int (Mv 3), .int (Mv 4), .int (Mv 5), .int (Mv 6), .int (Mv 7), .int (Mv 8), .ref (Ma 7), .int (Mv 9), .ref (Ma 8), .int (Mv 10), .ref (Ma 9), .ref (Ma 10), .int (Mv 11), .int (Mv 12), .int (Mv 13), .ref (Ma 11), .int (Mv 14), .ref (Ma 12), .ref (Ma 13), .ref (Ma 14), .ref (Ma 15), .ref (Ma 16), .long (Mj 0), .ref (Ma 17), .ref (Ma 18), .ref (Ma 19), .ref (Ma 20)])), ((Ma 1), .inl (tc 2, 400, .inl (Mf 1)))] := hD
    refine lv_aload_n hx hb dX12_isBuyerHere_22 rfl (lv_at hl 0 rfl) ?_
    refine gf_X12_26 hx hb hts hown hK hP 1 rfl rfl dX12_isBuyerHere_23 ?_
    refine lv_iconst (v := 3) hx hb dX12_isBuyerHere_26 (by decide) ?_
    refine va_iald hx hb hK hP 0 0 rfl rfl (vin_dec (by decide +kernel)) dX12_isBuyerHere_27 ?_
    refine lv_topi (fun x_10 ex_10 => ?_)
    have lx_10 : x_10.toInt = ((Mf 6) 3).toInt := congrArg Int32.toInt ex_10
    refine lv_istore_n (lv' := [(2, .int x_10), (0, .ref (Ma 0)), (1, .int x1)]) hx hb dX12_isBuyerHere_28 rfl hl (by decide) rfl (fun ls hl => ?_)
    refine lv_aload_n hx hb dX12_isBuyerHere_29 rfl (lv_at hl 1 rfl) ?_
    refine lv_bipush (v := 68) hx hb dX12_isBuyerHere_30 (by decide) ?_
    refine lv_iload_n hx hb dX12_isBuyerHere_32 rfl (lv_at hl 0 rfl) ?_
    refine lv_iadd hx hb dX12_isBuyerHere_33 ?_
    refine lv_topi (fun x_11 ex_11 => ?_)
    refine lv_iconst (v := 0) hx hb dX12_isBuyerHere_34 (by decide) ?_
    refine lv_bipush (v := 20) hx hb dX12_isBuyerHere_35 (by decide) ?_
    have ha_12 : 0 ≤ (sv_7 : Int32).toInt ∧ (sv_7 : Int32).toInt ≤ ((Mv 0) : Int32).toInt ∧ ((Mv 0) : Int32).toInt ≤ 400 := by
      have z_1 : ¬ (x_1 : Int32).toInt = (6 : Int32).toInt := fun z => c_2 (Int32.toInt_inj.mp z)
      have y_6 : (6 : Int32).toInt = 6 := by decide
      have y_68 : (68 : Int32).toInt = 68 := by decide
      have t_x_11 : x_11.toInt = (68 : Int32).toInt + (x_10 : Int32).toInt := by rw [ex_11]; exact add_toInt (by omega) (by omega)
      refine ⟨?_, ?_, ?_⟩ <;> omega
    have ha_13 : 0 ≤ x_11.toInt ∧ x_11.toInt < 95 := by
      have z_1 : ¬ (x_1 : Int32).toInt = (6 : Int32).toInt := fun z => c_2 (Int32.toInt_inj.mp z)
      have y_6 : (6 : Int32).toInt = 6 := by decide
      have y_68 : (68 : Int32).toInt = 68 := by decide
      have t_x_11 : x_11.toInt = (68 : Int32).toInt + (x_10 : Int32).toInt := by rw [ex_11]; exact add_toInt (by omega) (by omega)
      refine ⟨?_, ?_⟩ <;> omega
    refine cV (a := (Ma 0)) (As := [.int x_11, .int 0, .int 20]) (rest := []) (wr := []) ⟨hx, hb, hml, hown, hts⟩ hK hX hA (ct_X12_cellHere l D tc sk Ma (fun k => ([(Mv 0), (Mv 1), sv_7, (Mv 3), (Mv 4), (Mv 5), (Mv 6), (Mv 7), (Mv 8), (Mv 9), (Mv 10), (Mv 11), (Mv 12), (Mv 13), (Mv 14)] : List (Int32)).getD k 0) Mf Mj x_11 0 20 ha_12 ha_13) k_1248 k_1245 k_1247 k_35 k_106 pl_X12_cellHere ⟨Nat.le_of_ble_eq_true rfl, Nat.le_of_ble_eq_true rfl⟩ rfl rfl (va_recv hK hP (ci := 12) (q0 := 1) rfl rfl) hP hD hS [1, 2, 0] [] rfl rfl rfl rfl rfl (by decide) rfl hl.1 rfl (Nat.le_of_ble_eq_true rfl) dX12_isBuyerHere_37 ⟨Nat.le_of_ble_eq_true rfl, Nat.le_of_ble_eq_true rfl⟩ (fun v_14 u_15 H locs hv_16 hP hD hS => ?_)
    obtain ⟨sv_17, sv_18, sv_19, sv_20⟩ := u_15
    obtain ⟨r_23, rfl, he_24, pf_21, pf_22⟩ := hv_16
    have he_24 : ((r_23.toInt = 0 ∧ ¬ (sv_18 : Int32).toInt = 0) ∨ (r_23.toInt = 1 ∧ (0 : Int32).toInt ≤ (sv_20 x_11.toNatClampNeg).toInt ∧ (sv_20 x_11.toNatClampNeg).toInt ≤ (20 : Int32).toInt)) := he_24
    have pf_21 : (sv_7 : Int32).toInt ≤ (sv_17 : Int32).toInt ∧ (sv_17 : Int32).toInt ≤ ((Mv 0) : Int32).toInt := pf_21
    have pf_22 : RdC (Mf 6) sv_20 x_11 := pf_22
    have hr_26 : 4 ≤ (x_11 : Int32).toInt := by
      have z_1 : ¬ (x_1 : Int32).toInt = (6 : Int32).toInt := fun z => c_2 (Int32.toInt_inj.mp z)
      have y_6 : (6 : Int32).toInt = 6 := by decide
      have y_68 : (68 : Int32).toInt = 68 := by decide
      have t_x_11 : x_11.toInt = (68 : Int32).toInt + (x_10 : Int32).toInt := by rw [ex_11]; exact add_toInt (by omega) (by omega)
      omega
    have kq_pf_22_0 := RdC.at pf_22 0 (by omega) (by omega)
    have hr_27 : 4 ≤ (x_11 : Int32).toInt := by
      have z_1 : ¬ (x_1 : Int32).toInt = (6 : Int32).toInt := fun z => c_2 (Int32.toInt_inj.mp z)
      have y_6 : (6 : Int32).toInt = 6 := by decide
      have y_68 : (68 : Int32).toInt = 68 := by decide
      have t_x_11 : x_11.toInt = (68 : Int32).toInt + (x_10 : Int32).toInt := by rw [ex_11]; exact add_toInt (by omega) (by omega)
      omega
    have kq_pf_22_2 := RdC.at pf_22 2 (by omega) (by omega)
    have hr_28 : 4 ≤ (x_11 : Int32).toInt := by
      have z_1 : ¬ (x_1 : Int32).toInt = (6 : Int32).toInt := fun z => c_2 (Int32.toInt_inj.mp z)
      have y_6 : (6 : Int32).toInt = 6 := by decide
      have y_68 : (68 : Int32).toInt = 68 := by decide
      have t_x_11 : x_11.toInt = (68 : Int32).toInt + (x_10 : Int32).toInt := by rw [ex_11]; exact add_toInt (by omega) (by omega)
      omega
    have kq_pf_22_3 := RdC.at pf_22 3 (by omega) (by omega)
    refine W.eq (g2 := F0 m 40 ls [.int r_23]) rfl ?_
    have hP : va_P D classes [((Ma 0), .inr (12, [.ref (Ma 1), .int (Mv 0), .int (Mv 1), .ref (Ma 2), .ref (Ma 3), .ref (Ma 4), .ref (Ma 5), .ref (Ma 6), .int sv_17, .int sv_18, .int sv_19, .int (Mv 5), .int (Mv 6), .int (Mv 7), .int (Mv 8), .ref (Ma 7), .int (Mv 9), .ref (Ma 8), .int (Mv 10), .ref (Ma 9), .ref (Ma 10), .int (Mv 11), .int (Mv 12), .int (Mv 13), .ref (Ma 11), .int (Mv 14), .ref (Ma 12), .ref (Ma 13), .ref (Ma 14), .ref (Ma 15), .ref (Ma 16), .long (Mj 0), .ref (Ma 17), .ref (Ma 18), .ref (Ma 19), .ref (Ma 20)])), ((Ma 1), .inl (tc 2, 400, .inl (Mf 1))), ((Ma 6), .inl (tc 0, 95, .inl sv_20))] H := hP
    have hD : va_D A [((Ma 0), .inr (12, [.ref (Ma 1), .int (Mv 0), .int (Mv 1), .ref (Ma 2), .ref (Ma 3), .ref (Ma 4), .ref (Ma 5), .ref (Ma 6), .int sv_17, .int sv_18, .int sv_19, .int (Mv 5), .int (Mv 6), .int (Mv 7), .int (Mv 8), .ref (Ma 7), .int (Mv 9), .ref (Ma 8), .int (Mv 10), .ref (Ma 9), .ref (Ma 10), .int (Mv 11), .int (Mv 12), .int (Mv 13), .ref (Ma 11), .int (Mv 14), .ref (Ma 12), .ref (Ma 13), .ref (Ma 14), .ref (Ma 15), .ref (Ma 16), .long (Mj 0), .ref (Ma 17), .ref (Ma 18), .ref (Ma 19), .ref (Ma 20)])), ((Ma 1), .inl (tc 2, 400, .inl (Mf 1))), ((Ma 6), .inl (tc 0, 95, .inl sv_20))] := hD
    refine lv_if_eq (tgt := 71) hx hb dX12_isBuyerHere_40 (by decide) (fun c_29 => ?_) (fun c_29 => ?_)
    · skip
      refine lv_iconst (v := 0) hx hb dX12_isBuyerHere_71 (by decide) ?_
      have ha_30 : ((Mv 2) : Int32).toInt ≤ (sv_17 : Int32).toInt ∧ (sv_17 : Int32).toInt ≤ ((Mv 0) : Int32).toInt := by
        have z_1 : ¬ (x_1 : Int32).toInt = (6 : Int32).toInt := fun z => c_2 (Int32.toInt_inj.mp z)
        have z_2 := congrArg Int32.toInt c_29
        have y_0 : (0 : Int32).toInt = 0 := by decide
        have y_6 : (6 : Int32).toInt = 6 := by decide
        have y_68 : (68 : Int32).toInt = 68 := by decide
        have t_x_11 : x_11.toInt = (68 : Int32).toInt + (x_10 : Int32).toInt := by rw [ex_11]; exact add_toInt (by omega) (by omega)
        refine ⟨?_, ?_⟩ <;> omega
      have hp_31 : (((0 : Int32).toInt = 0 ∧ ¬ (sv_18 : Int32).toInt = 0) ∨ (0 : Int32).toInt = 1) := by
        have z_1 : ¬ (x_1 : Int32).toInt = (6 : Int32).toInt := fun z => c_2 (Int32.toInt_inj.mp z)
        have z_2 := congrArg Int32.toInt c_29
        have y_0 : (0 : Int32).toInt = 0 := by decide
        have y_6 : (6 : Int32).toInt = 6 := by decide
        have y_68 : (68 : Int32).toInt = 68 := by decide
        have t_x_11 : x_11.toInt = (68 : Int32).toInt + (x_10 : Int32).toInt := by rw [ex_11]; exact add_toInt (by omega) (by omega)
        omega
      exact retI (v := 0) hx hb hr hlk (rfl) hP hD hS (sv_17, sv_18, sv_19, sv_20) ⟨_, rfl, hp_31, ha_30, (fun h => absurd h (by decide))⟩ [0, 1, 2] rfl rfl dX12_isBuyerHere_72 (Nat.le_of_ble_eq_true rfl) (Nat.le_of_ble_eq_true rfl) rfl
    · skip
      refine lv_aload_n hx hb dX12_isBuyerHere_43 rfl (lv_at hl 1 rfl) ?_
      refine lv_bipush (v := 56) hx hb dX12_isBuyerHere_44 (by decide) ?_
      refine lv_iload_n hx hb dX12_isBuyerHere_46 rfl (lv_at hl 0 rfl) ?_
      refine lv_iadd hx hb dX12_isBuyerHere_47 ?_
      refine lv_topi (fun x_32 ex_32 => ?_)
      refine lv_iconst (v := 1) hx hb dX12_isBuyerHere_48 (by decide) ?_
      refine lv_bipush (v := 9) hx hb dX12_isBuyerHere_49 (by decide) ?_
      have ha_33 : 0 ≤ (sv_17 : Int32).toInt ∧ (sv_17 : Int32).toInt ≤ ((Mv 0) : Int32).toInt ∧ ((Mv 0) : Int32).toInt ≤ 400 := by
        have z_1 : ¬ (x_1 : Int32).toInt = (6 : Int32).toInt := fun z => c_2 (Int32.toInt_inj.mp z)
        have z_2 : ¬ (r_23 : Int32).toInt = (0 : Int32).toInt := fun z => c_29 (Int32.toInt_inj.mp z)
        have y_0 : (0 : Int32).toInt = 0 := by decide
        have y_6 : (6 : Int32).toInt = 6 := by decide
        have y_56 : (56 : Int32).toInt = 56 := by decide
        have y_68 : (68 : Int32).toInt = 68 := by decide
        have t_x_11 : x_11.toInt = (68 : Int32).toInt + (x_10 : Int32).toInt := by rw [ex_11]; exact add_toInt (by omega) (by omega)
        have t_x_32 : x_32.toInt = (56 : Int32).toInt + (x_10 : Int32).toInt := by rw [ex_32]; exact add_toInt (by omega) (by omega)
        refine ⟨?_, ?_, ?_⟩ <;> omega
      have ha_34 : 0 ≤ x_32.toInt ∧ x_32.toInt < 95 := by
        have z_1 : ¬ (x_1 : Int32).toInt = (6 : Int32).toInt := fun z => c_2 (Int32.toInt_inj.mp z)
        have z_2 : ¬ (r_23 : Int32).toInt = (0 : Int32).toInt := fun z => c_29 (Int32.toInt_inj.mp z)
        have y_0 : (0 : Int32).toInt = 0 := by decide
        have y_6 : (6 : Int32).toInt = 6 := by decide
        have y_56 : (56 : Int32).toInt = 56 := by decide
        have y_68 : (68 : Int32).toInt = 68 := by decide
        have t_x_32 : x_32.toInt = (56 : Int32).toInt + (x_10 : Int32).toInt := by rw [ex_32]; exact add_toInt (by omega) (by omega)
        have t_x_11 : x_11.toInt = (68 : Int32).toInt + (x_10 : Int32).toInt := by rw [ex_11]; exact add_toInt (by omega) (by omega)
        refine ⟨?_, ?_⟩ <;> omega
      refine cV (a := (Ma 0)) (As := [.int x_32, .int 1, .int 9]) (rest := []) (wr := []) ⟨hx, hb, hml, hown, hts⟩ hK hX hA (ct_X12_cellHere l D tc sk Ma (fun k => ([(Mv 0), (Mv 1), sv_17, sv_18, sv_19, (Mv 5), (Mv 6), (Mv 7), (Mv 8), (Mv 9), (Mv 10), (Mv 11), (Mv 12), (Mv 13), (Mv 14)] : List (Int32)).getD k 0) (fun k => ([(fun _ => 0), (Mf 1), (fun _ => 0), (fun _ => 0), (fun _ => 0), (fun _ => 0), sv_20] : List (Nat → Int32)).getD k (fun _ => 0)) Mj x_32 1 9 ha_33 ha_34) k_1248 k_1245 k_1247 k_35 k_106 pl_X12_cellHere ⟨Nat.le_of_ble_eq_true rfl, Nat.le_of_ble_eq_true rfl⟩ rfl rfl (va_recv hK hP (ci := 12) (q0 := 0) rfl rfl) hP hD hS [0, 1, 2] [] rfl rfl rfl rfl rfl (by decide) rfl hl.1 rfl (Nat.le_of_ble_eq_true rfl) dX12_isBuyerHere_51 ⟨Nat.le_of_ble_eq_true rfl, Nat.le_of_ble_eq_true rfl⟩ (fun v_35 u_36 H locs hv_37 hP hD hS => ?_)
      obtain ⟨sv_38, sv_39, sv_40, sv_41⟩ := u_36
      obtain ⟨r_44, rfl, he_45, pf_42, pf_43⟩ := hv_37
      have he_45 : ((r_44.toInt = 0 ∧ ¬ (sv_39 : Int32).toInt = 0) ∨ (r_44.toInt = 1 ∧ (1 : Int32).toInt ≤ (sv_41 x_32.toNatClampNeg).toInt ∧ (sv_41 x_32.toNatClampNeg).toInt ≤ (9 : Int32).toInt)) := he_45
      have pf_42 : (sv_17 : Int32).toInt ≤ (sv_38 : Int32).toInt ∧ (sv_38 : Int32).toInt ≤ ((Mv 0) : Int32).toInt := pf_42
      have pf_43 : RdC sv_20 sv_41 x_32 := pf_43
      have hr_47 : 4 ≤ (x_32 : Int32).toInt := by
        have z_1 : ¬ (x_1 : Int32).toInt = (6 : Int32).toInt := fun z => c_2 (Int32.toInt_inj.mp z)
        have z_2 : ¬ (r_23 : Int32).toInt = (0 : Int32).toInt := fun z => c_29 (Int32.toInt_inj.mp z)
        have y_0 : (0 : Int32).toInt = 0 := by decide
        have y_6 : (6 : Int32).toInt = 6 := by decide
        have y_56 : (56 : Int32).toInt = 56 := by decide
        have y_68 : (68 : Int32).toInt = 68 := by decide
        have t_x_32 : x_32.toInt = (56 : Int32).toInt + (x_10 : Int32).toInt := by rw [ex_32]; exact add_toInt (by omega) (by omega)
        have t_x_11 : x_11.toInt = (68 : Int32).toInt + (x_10 : Int32).toInt := by rw [ex_11]; exact add_toInt (by omega) (by omega)
        omega
      have kq_pf_43_0 := RdC.at pf_43 0 (by omega) (by omega)
      have hr_48 : 4 ≤ (x_32 : Int32).toInt := by
        have z_1 : ¬ (x_1 : Int32).toInt = (6 : Int32).toInt := fun z => c_2 (Int32.toInt_inj.mp z)
        have z_2 : ¬ (r_23 : Int32).toInt = (0 : Int32).toInt := fun z => c_29 (Int32.toInt_inj.mp z)
        have y_0 : (0 : Int32).toInt = 0 := by decide
        have y_6 : (6 : Int32).toInt = 6 := by decide
        have y_56 : (56 : Int32).toInt = 56 := by decide
        have y_68 : (68 : Int32).toInt = 68 := by decide
        have t_x_32 : x_32.toInt = (56 : Int32).toInt + (x_10 : Int32).toInt := by rw [ex_32]; exact add_toInt (by omega) (by omega)
        have t_x_11 : x_11.toInt = (68 : Int32).toInt + (x_10 : Int32).toInt := by rw [ex_11]; exact add_toInt (by omega) (by omega)
        omega
      have kq_pf_43_2 := RdC.at pf_43 2 (by omega) (by omega)
      have hr_49 : 4 ≤ (x_32 : Int32).toInt := by
        have z_1 : ¬ (x_1 : Int32).toInt = (6 : Int32).toInt := fun z => c_2 (Int32.toInt_inj.mp z)
        have z_2 : ¬ (r_23 : Int32).toInt = (0 : Int32).toInt := fun z => c_29 (Int32.toInt_inj.mp z)
        have y_0 : (0 : Int32).toInt = 0 := by decide
        have y_6 : (6 : Int32).toInt = 6 := by decide
        have y_56 : (56 : Int32).toInt = 56 := by decide
        have y_68 : (68 : Int32).toInt = 68 := by decide
        have t_x_32 : x_32.toInt = (56 : Int32).toInt + (x_10 : Int32).toInt := by rw [ex_32]; exact add_toInt (by omega) (by omega)
        have t_x_11 : x_11.toInt = (68 : Int32).toInt + (x_10 : Int32).toInt := by rw [ex_11]; exact add_toInt (by omega) (by omega)
        omega
      have kq_pf_43_3 := RdC.at pf_43 3 (by omega) (by omega)
      refine W.eq (g2 := F0 m 54 ls [.int r_44]) rfl ?_
      have hP : va_P D classes [((Ma 0), .inr (12, [.ref (Ma 1), .int (Mv 0), .int (Mv 1), .ref (Ma 2), .ref (Ma 3), .ref (Ma 4), .ref (Ma 5), .ref (Ma 6), .int sv_38, .int sv_39, .int sv_40, .int (Mv 5), .int (Mv 6), .int (Mv 7), .int (Mv 8), .ref (Ma 7), .int (Mv 9), .ref (Ma 8), .int (Mv 10), .ref (Ma 9), .ref (Ma 10), .int (Mv 11), .int (Mv 12), .int (Mv 13), .ref (Ma 11), .int (Mv 14), .ref (Ma 12), .ref (Ma 13), .ref (Ma 14), .ref (Ma 15), .ref (Ma 16), .long (Mj 0), .ref (Ma 17), .ref (Ma 18), .ref (Ma 19), .ref (Ma 20)])), ((Ma 1), .inl (tc 2, 400, .inl (Mf 1))), ((Ma 6), .inl (tc 0, 95, .inl sv_41))] H := hP
      have hD : va_D A [((Ma 0), .inr (12, [.ref (Ma 1), .int (Mv 0), .int (Mv 1), .ref (Ma 2), .ref (Ma 3), .ref (Ma 4), .ref (Ma 5), .ref (Ma 6), .int sv_38, .int sv_39, .int sv_40, .int (Mv 5), .int (Mv 6), .int (Mv 7), .int (Mv 8), .ref (Ma 7), .int (Mv 9), .ref (Ma 8), .int (Mv 10), .ref (Ma 9), .ref (Ma 10), .int (Mv 11), .int (Mv 12), .int (Mv 13), .ref (Ma 11), .int (Mv 14), .ref (Ma 12), .ref (Ma 13), .ref (Ma 14), .ref (Ma 15), .ref (Ma 16), .long (Mj 0), .ref (Ma 17), .ref (Ma 18), .ref (Ma 19), .ref (Ma 20)])), ((Ma 1), .inl (tc 2, 400, .inl (Mf 1))), ((Ma 6), .inl (tc 0, 95, .inl sv_41))] := hD
      refine lv_if_eq (tgt := 71) hx hb dX12_isBuyerHere_54 (by decide) (fun c_50 => ?_) (fun c_50 => ?_)
      · skip
        refine lv_iconst (v := 0) hx hb dX12_isBuyerHere_71 (by decide) ?_
        have ha_51 : ((Mv 2) : Int32).toInt ≤ (sv_38 : Int32).toInt ∧ (sv_38 : Int32).toInt ≤ ((Mv 0) : Int32).toInt := by
          have z_1 : ¬ (x_1 : Int32).toInt = (6 : Int32).toInt := fun z => c_2 (Int32.toInt_inj.mp z)
          have z_2 : ¬ (r_23 : Int32).toInt = (0 : Int32).toInt := fun z => c_29 (Int32.toInt_inj.mp z)
          have z_3 := congrArg Int32.toInt c_50
          have y_0 : (0 : Int32).toInt = 0 := by decide
          have y_6 : (6 : Int32).toInt = 6 := by decide
          have y_56 : (56 : Int32).toInt = 56 := by decide
          have y_68 : (68 : Int32).toInt = 68 := by decide
          have t_x_11 : x_11.toInt = (68 : Int32).toInt + (x_10 : Int32).toInt := by rw [ex_11]; exact add_toInt (by omega) (by omega)
          have t_x_32 : x_32.toInt = (56 : Int32).toInt + (x_10 : Int32).toInt := by rw [ex_32]; exact add_toInt (by omega) (by omega)
          refine ⟨?_, ?_⟩ <;> omega
        have hp_52 : (((0 : Int32).toInt = 0 ∧ ¬ (sv_39 : Int32).toInt = 0) ∨ (0 : Int32).toInt = 1) := by
          have z_1 : ¬ (x_1 : Int32).toInt = (6 : Int32).toInt := fun z => c_2 (Int32.toInt_inj.mp z)
          have z_2 : ¬ (r_23 : Int32).toInt = (0 : Int32).toInt := fun z => c_29 (Int32.toInt_inj.mp z)
          have z_3 := congrArg Int32.toInt c_50
          have y_0 : (0 : Int32).toInt = 0 := by decide
          have y_6 : (6 : Int32).toInt = 6 := by decide
          have y_56 : (56 : Int32).toInt = 56 := by decide
          have y_68 : (68 : Int32).toInt = 68 := by decide
          have t_x_11 : x_11.toInt = (68 : Int32).toInt + (x_10 : Int32).toInt := by rw [ex_11]; exact add_toInt (by omega) (by omega)
          have t_x_32 : x_32.toInt = (56 : Int32).toInt + (x_10 : Int32).toInt := by rw [ex_32]; exact add_toInt (by omega) (by omega)
          omega
        exact retI (v := 0) hx hb hr hlk (rfl) hP hD hS (sv_38, sv_39, sv_40, sv_41) ⟨_, rfl, hp_52, ha_51, (fun h => absurd h (by decide))⟩ [0, 1, 2] rfl rfl dX12_isBuyerHere_72 (Nat.le_of_ble_eq_true rfl) (Nat.le_of_ble_eq_true rfl) rfl
      · skip
        refine lv_aload_n hx hb dX12_isBuyerHere_57 rfl (lv_at hl 1 rfl) ?_
        refine lv_bipush (v := 62) hx hb dX12_isBuyerHere_58 (by decide) ?_
        refine lv_iload_n hx hb dX12_isBuyerHere_60 rfl (lv_at hl 0 rfl) ?_
        refine lv_iadd hx hb dX12_isBuyerHere_61 ?_
        refine lv_topi (fun x_53 ex_53 => ?_)
        refine lv_iconst (v := 0) hx hb dX12_isBuyerHere_62 (by decide) ?_
        refine lv_bipush (v := 9) hx hb dX12_isBuyerHere_63 (by decide) ?_
        have ha_54 : 0 ≤ (sv_38 : Int32).toInt ∧ (sv_38 : Int32).toInt ≤ ((Mv 0) : Int32).toInt ∧ ((Mv 0) : Int32).toInt ≤ 400 := by
          have z_1 : ¬ (x_1 : Int32).toInt = (6 : Int32).toInt := fun z => c_2 (Int32.toInt_inj.mp z)
          have z_2 : ¬ (r_23 : Int32).toInt = (0 : Int32).toInt := fun z => c_29 (Int32.toInt_inj.mp z)
          have z_3 : ¬ (r_44 : Int32).toInt = (0 : Int32).toInt := fun z => c_50 (Int32.toInt_inj.mp z)
          have y_0 : (0 : Int32).toInt = 0 := by decide
          have y_6 : (6 : Int32).toInt = 6 := by decide
          have y_56 : (56 : Int32).toInt = 56 := by decide
          have y_62 : (62 : Int32).toInt = 62 := by decide
          have y_68 : (68 : Int32).toInt = 68 := by decide
          have t_x_11 : x_11.toInt = (68 : Int32).toInt + (x_10 : Int32).toInt := by rw [ex_11]; exact add_toInt (by omega) (by omega)
          have t_x_32 : x_32.toInt = (56 : Int32).toInt + (x_10 : Int32).toInt := by rw [ex_32]; exact add_toInt (by omega) (by omega)
          have t_x_53 : x_53.toInt = (62 : Int32).toInt + (x_10 : Int32).toInt := by rw [ex_53]; exact add_toInt (by omega) (by omega)
          refine ⟨?_, ?_, ?_⟩ <;> omega
        have ha_55 : 0 ≤ x_53.toInt ∧ x_53.toInt < 95 := by
          have z_1 : ¬ (x_1 : Int32).toInt = (6 : Int32).toInt := fun z => c_2 (Int32.toInt_inj.mp z)
          have z_2 : ¬ (r_23 : Int32).toInt = (0 : Int32).toInt := fun z => c_29 (Int32.toInt_inj.mp z)
          have z_3 : ¬ (r_44 : Int32).toInt = (0 : Int32).toInt := fun z => c_50 (Int32.toInt_inj.mp z)
          have y_0 : (0 : Int32).toInt = 0 := by decide
          have y_6 : (6 : Int32).toInt = 6 := by decide
          have y_56 : (56 : Int32).toInt = 56 := by decide
          have y_62 : (62 : Int32).toInt = 62 := by decide
          have y_68 : (68 : Int32).toInt = 68 := by decide
          have t_x_53 : x_53.toInt = (62 : Int32).toInt + (x_10 : Int32).toInt := by rw [ex_53]; exact add_toInt (by omega) (by omega)
          have t_x_11 : x_11.toInt = (68 : Int32).toInt + (x_10 : Int32).toInt := by rw [ex_11]; exact add_toInt (by omega) (by omega)
          have t_x_32 : x_32.toInt = (56 : Int32).toInt + (x_10 : Int32).toInt := by rw [ex_32]; exact add_toInt (by omega) (by omega)
          refine ⟨?_, ?_⟩ <;> omega
        refine cV (a := (Ma 0)) (As := [.int x_53, .int 0, .int 9]) (rest := []) (wr := []) ⟨hx, hb, hml, hown, hts⟩ hK hX hA (ct_X12_cellHere l D tc sk Ma (fun k => ([(Mv 0), (Mv 1), sv_38, sv_39, sv_40, (Mv 5), (Mv 6), (Mv 7), (Mv 8), (Mv 9), (Mv 10), (Mv 11), (Mv 12), (Mv 13), (Mv 14)] : List (Int32)).getD k 0) (fun k => ([(fun _ => 0), (Mf 1), (fun _ => 0), (fun _ => 0), (fun _ => 0), (fun _ => 0), sv_41] : List (Nat → Int32)).getD k (fun _ => 0)) Mj x_53 0 9 ha_54 ha_55) k_1248 k_1245 k_1247 k_35 k_106 pl_X12_cellHere ⟨Nat.le_of_ble_eq_true rfl, Nat.le_of_ble_eq_true rfl⟩ rfl rfl (va_recv hK hP (ci := 12) (q0 := 0) rfl rfl) hP hD hS [0, 1, 2] [] rfl rfl rfl rfl rfl (by decide) rfl hl.1 rfl (Nat.le_of_ble_eq_true rfl) dX12_isBuyerHere_65 ⟨Nat.le_of_ble_eq_true rfl, Nat.le_of_ble_eq_true rfl⟩ (fun v_56 u_57 H locs hv_58 hP hD hS => ?_)
        obtain ⟨sv_59, sv_60, sv_61, sv_62⟩ := u_57
        obtain ⟨r_65, rfl, he_66, pf_63, pf_64⟩ := hv_58
        have he_66 : ((r_65.toInt = 0 ∧ ¬ (sv_60 : Int32).toInt = 0) ∨ (r_65.toInt = 1 ∧ (0 : Int32).toInt ≤ (sv_62 x_53.toNatClampNeg).toInt ∧ (sv_62 x_53.toNatClampNeg).toInt ≤ (9 : Int32).toInt)) := he_66
        have pf_63 : (sv_38 : Int32).toInt ≤ (sv_59 : Int32).toInt ∧ (sv_59 : Int32).toInt ≤ ((Mv 0) : Int32).toInt := pf_63
        have pf_64 : RdC sv_41 sv_62 x_53 := pf_64
        have hr_68 : 4 ≤ (x_53 : Int32).toInt := by
          have z_1 : ¬ (x_1 : Int32).toInt = (6 : Int32).toInt := fun z => c_2 (Int32.toInt_inj.mp z)
          have z_2 : ¬ (r_23 : Int32).toInt = (0 : Int32).toInt := fun z => c_29 (Int32.toInt_inj.mp z)
          have z_3 : ¬ (r_44 : Int32).toInt = (0 : Int32).toInt := fun z => c_50 (Int32.toInt_inj.mp z)
          have y_0 : (0 : Int32).toInt = 0 := by decide
          have y_6 : (6 : Int32).toInt = 6 := by decide
          have y_56 : (56 : Int32).toInt = 56 := by decide
          have y_62 : (62 : Int32).toInt = 62 := by decide
          have y_68 : (68 : Int32).toInt = 68 := by decide
          have t_x_53 : x_53.toInt = (62 : Int32).toInt + (x_10 : Int32).toInt := by rw [ex_53]; exact add_toInt (by omega) (by omega)
          have t_x_11 : x_11.toInt = (68 : Int32).toInt + (x_10 : Int32).toInt := by rw [ex_11]; exact add_toInt (by omega) (by omega)
          have t_x_32 : x_32.toInt = (56 : Int32).toInt + (x_10 : Int32).toInt := by rw [ex_32]; exact add_toInt (by omega) (by omega)
          omega
        have kq_pf_64_0 := RdC.at pf_64 0 (by omega) (by omega)
        have hr_69 : 4 ≤ (x_53 : Int32).toInt := by
          have z_1 : ¬ (x_1 : Int32).toInt = (6 : Int32).toInt := fun z => c_2 (Int32.toInt_inj.mp z)
          have z_2 : ¬ (r_23 : Int32).toInt = (0 : Int32).toInt := fun z => c_29 (Int32.toInt_inj.mp z)
          have z_3 : ¬ (r_44 : Int32).toInt = (0 : Int32).toInt := fun z => c_50 (Int32.toInt_inj.mp z)
          have y_0 : (0 : Int32).toInt = 0 := by decide
          have y_6 : (6 : Int32).toInt = 6 := by decide
          have y_56 : (56 : Int32).toInt = 56 := by decide
          have y_62 : (62 : Int32).toInt = 62 := by decide
          have y_68 : (68 : Int32).toInt = 68 := by decide
          have t_x_53 : x_53.toInt = (62 : Int32).toInt + (x_10 : Int32).toInt := by rw [ex_53]; exact add_toInt (by omega) (by omega)
          have t_x_11 : x_11.toInt = (68 : Int32).toInt + (x_10 : Int32).toInt := by rw [ex_11]; exact add_toInt (by omega) (by omega)
          have t_x_32 : x_32.toInt = (56 : Int32).toInt + (x_10 : Int32).toInt := by rw [ex_32]; exact add_toInt (by omega) (by omega)
          omega
        have kq_pf_64_2 := RdC.at pf_64 2 (by omega) (by omega)
        have hr_70 : 4 ≤ (x_53 : Int32).toInt := by
          have z_1 : ¬ (x_1 : Int32).toInt = (6 : Int32).toInt := fun z => c_2 (Int32.toInt_inj.mp z)
          have z_2 : ¬ (r_23 : Int32).toInt = (0 : Int32).toInt := fun z => c_29 (Int32.toInt_inj.mp z)
          have z_3 : ¬ (r_44 : Int32).toInt = (0 : Int32).toInt := fun z => c_50 (Int32.toInt_inj.mp z)
          have y_0 : (0 : Int32).toInt = 0 := by decide
          have y_6 : (6 : Int32).toInt = 6 := by decide
          have y_56 : (56 : Int32).toInt = 56 := by decide
          have y_62 : (62 : Int32).toInt = 62 := by decide
          have y_68 : (68 : Int32).toInt = 68 := by decide
          have t_x_53 : x_53.toInt = (62 : Int32).toInt + (x_10 : Int32).toInt := by rw [ex_53]; exact add_toInt (by omega) (by omega)
          have t_x_11 : x_11.toInt = (68 : Int32).toInt + (x_10 : Int32).toInt := by rw [ex_11]; exact add_toInt (by omega) (by omega)
          have t_x_32 : x_32.toInt = (56 : Int32).toInt + (x_10 : Int32).toInt := by rw [ex_32]; exact add_toInt (by omega) (by omega)
          omega
        have kq_pf_64_3 := RdC.at pf_64 3 (by omega) (by omega)
        refine W.eq (g2 := F0 m 68 ls [.int r_65]) rfl ?_
        have hP : va_P D classes [((Ma 0), .inr (12, [.ref (Ma 1), .int (Mv 0), .int (Mv 1), .ref (Ma 2), .ref (Ma 3), .ref (Ma 4), .ref (Ma 5), .ref (Ma 6), .int sv_59, .int sv_60, .int sv_61, .int (Mv 5), .int (Mv 6), .int (Mv 7), .int (Mv 8), .ref (Ma 7), .int (Mv 9), .ref (Ma 8), .int (Mv 10), .ref (Ma 9), .ref (Ma 10), .int (Mv 11), .int (Mv 12), .int (Mv 13), .ref (Ma 11), .int (Mv 14), .ref (Ma 12), .ref (Ma 13), .ref (Ma 14), .ref (Ma 15), .ref (Ma 16), .long (Mj 0), .ref (Ma 17), .ref (Ma 18), .ref (Ma 19), .ref (Ma 20)])), ((Ma 1), .inl (tc 2, 400, .inl (Mf 1))), ((Ma 6), .inl (tc 0, 95, .inl sv_62))] H := hP
        have hD : va_D A [((Ma 0), .inr (12, [.ref (Ma 1), .int (Mv 0), .int (Mv 1), .ref (Ma 2), .ref (Ma 3), .ref (Ma 4), .ref (Ma 5), .ref (Ma 6), .int sv_59, .int sv_60, .int sv_61, .int (Mv 5), .int (Mv 6), .int (Mv 7), .int (Mv 8), .ref (Ma 7), .int (Mv 9), .ref (Ma 8), .int (Mv 10), .ref (Ma 9), .ref (Ma 10), .int (Mv 11), .int (Mv 12), .int (Mv 13), .ref (Ma 11), .int (Mv 14), .ref (Ma 12), .ref (Ma 13), .ref (Ma 14), .ref (Ma 15), .ref (Ma 16), .long (Mj 0), .ref (Ma 17), .ref (Ma 18), .ref (Ma 19), .ref (Ma 20)])), ((Ma 1), .inl (tc 2, 400, .inl (Mf 1))), ((Ma 6), .inl (tc 0, 95, .inl sv_62))] := hD
        refine lv_if_ne (tgt := 73) hx hb dX12_isBuyerHere_68 (by decide) (fun c_71 => ?_) (fun c_71 => ?_)
        · skip
          refine lv_aload_n hx hb dX12_isBuyerHere_73 rfl (lv_at hl 1 rfl) ?_
          refine gf_X12_26 hx hb hts hown hK hP 0 rfl rfl dX12_isBuyerHere_74 ?_
          refine lv_iconst (v := 3) hx hb dX12_isBuyerHere_77 (by decide) ?_
          refine lv_dup2_11 hx hb dX12_isBuyerHere_78 rfl rfl ?_
          refine va_iald hx hb hK hP 2 0 rfl rfl (vin_dec (by decide +kernel)) dX12_isBuyerHere_79 ?_
          refine lv_topi (fun x_72 ex_72 => ?_)
          have lx_72 : x_72.toInt = (sv_62 3).toInt := congrArg Int32.toInt ex_72
          refine lv_iconst (v := 1) hx hb dX12_isBuyerHere_80 (by decide) ?_
          refine lv_iadd hx hb dX12_isBuyerHere_81 ?_
          refine lv_topi (fun x_73 ex_73 => ?_)
          refine st_int hx hb hK hP hD hS 2 0 rfl rfl (vin_dec (by decide +kernel)) dX12_isBuyerHere_82 (fun g_74 H locs eg_74 hP hD hS => ?_)
          have hP : va_P D classes [((Ma 0), .inr (12, [.ref (Ma 1), .int (Mv 0), .int (Mv 1), .ref (Ma 2), .ref (Ma 3), .ref (Ma 4), .ref (Ma 5), .ref (Ma 6), .int sv_59, .int sv_60, .int sv_61, .int (Mv 5), .int (Mv 6), .int (Mv 7), .int (Mv 8), .ref (Ma 7), .int (Mv 9), .ref (Ma 8), .int (Mv 10), .ref (Ma 9), .ref (Ma 10), .int (Mv 11), .int (Mv 12), .int (Mv 13), .ref (Ma 11), .int (Mv 14), .ref (Ma 12), .ref (Ma 13), .ref (Ma 14), .ref (Ma 15), .ref (Ma 16), .long (Mj 0), .ref (Ma 17), .ref (Ma 18), .ref (Ma 19), .ref (Ma 20)])), ((Ma 1), .inl (tc 2, 400, .inl (Mf 1))), ((Ma 6), .inl (tc 0, 95, .inl g_74))] H := hP
          have hD : va_D A [((Ma 0), .inr (12, [.ref (Ma 1), .int (Mv 0), .int (Mv 1), .ref (Ma 2), .ref (Ma 3), .ref (Ma 4), .ref (Ma 5), .ref (Ma 6), .int sv_59, .int sv_60, .int sv_61, .int (Mv 5), .int (Mv 6), .int (Mv 7), .int (Mv 8), .ref (Ma 7), .int (Mv 9), .ref (Ma 8), .int (Mv 10), .ref (Ma 9), .ref (Ma 10), .int (Mv 11), .int (Mv 12), .int (Mv 13), .ref (Ma 11), .int (Mv 14), .ref (Ma 12), .ref (Ma 13), .ref (Ma 14), .ref (Ma 15), .ref (Ma 16), .long (Mj 0), .ref (Ma 17), .ref (Ma 18), .ref (Ma 19), .ref (Ma 20)])), ((Ma 1), .inl (tc 2, 400, .inl (Mf 1))), ((Ma 6), .inl (tc 0, 95, .inl g_74))] := hD
          have ku_g_74_0 : (g_74 0).toInt = (sv_62 0).toInt := upd_toInt_ne (i := 3) eg_74 (by decide)
          have ku_g_74_2 : (g_74 2).toInt = (sv_62 2).toInt := upd_toInt_ne (i := 3) eg_74 (by decide)
          have ku_g_74_3 : (g_74 3).toInt = (x_73 : Int32).toInt := upd_toInt_at (i := 3) eg_74
          have z_1 : ¬ (x_1 : Int32).toInt = (6 : Int32).toInt := fun z => c_2 (Int32.toInt_inj.mp z)
          have z_2 : ¬ (r_23 : Int32).toInt = (0 : Int32).toInt := fun z => c_29 (Int32.toInt_inj.mp z)
          have z_3 : ¬ (r_44 : Int32).toInt = (0 : Int32).toInt := fun z => c_50 (Int32.toInt_inj.mp z)
          have z_4 : ¬ (r_65 : Int32).toInt = (0 : Int32).toInt := fun z => c_71 (Int32.toInt_inj.mp z)
          have y_0 : (0 : Int32).toInt = 0 := by decide
          have y_6 : (6 : Int32).toInt = 6 := by decide
          have y_1 : (1 : Int32).toInt = 1 := by decide
          have y_56 : (56 : Int32).toInt = 56 := by decide
          have y_62 : (62 : Int32).toInt = 62 := by decide
          have y_68 : (68 : Int32).toInt = 68 := by decide
          have t_x_73 : x_73.toInt = (x_72 : Int32).toInt + (1 : Int32).toInt := by rw [ex_73]; exact add_toInt (by omega) (by omega)
          have t_x_11 : x_11.toInt = (68 : Int32).toInt + (x_10 : Int32).toInt := by rw [ex_11]; exact add_toInt (by omega) (by omega)
          have t_x_32 : x_32.toInt = (56 : Int32).toInt + (x_10 : Int32).toInt := by rw [ex_32]; exact add_toInt (by omega) (by omega)
          have t_x_53 : x_53.toInt = (62 : Int32).toInt + (x_10 : Int32).toInt := by rw [ex_53]; exact add_toInt (by omega) (by omega)
          refine lv_iconst (v := 1) hx hb dX12_isBuyerHere_83 (by decide) ?_
          have ha_75 : ((Mv 2) : Int32).toInt ≤ (sv_59 : Int32).toInt ∧ (sv_59 : Int32).toInt ≤ ((Mv 0) : Int32).toInt := by
            have z_1 : ¬ (x_1 : Int32).toInt = (6 : Int32).toInt := fun z => c_2 (Int32.toInt_inj.mp z)
            have z_2 : ¬ (r_23 : Int32).toInt = (0 : Int32).toInt := fun z => c_29 (Int32.toInt_inj.mp z)
            have z_3 : ¬ (r_44 : Int32).toInt = (0 : Int32).toInt := fun z => c_50 (Int32.toInt_inj.mp z)
            have z_4 : ¬ (r_65 : Int32).toInt = (0 : Int32).toInt := fun z => c_71 (Int32.toInt_inj.mp z)
            have y_0 : (0 : Int32).toInt = 0 := by decide
            have y_6 : (6 : Int32).toInt = 6 := by decide
            have y_56 : (56 : Int32).toInt = 56 := by decide
            have y_62 : (62 : Int32).toInt = 62 := by decide
            have y_68 : (68 : Int32).toInt = 68 := by decide
            have t_x_11 : x_11.toInt = (68 : Int32).toInt + (x_10 : Int32).toInt := by rw [ex_11]; exact add_toInt (by omega) (by omega)
            have t_x_32 : x_32.toInt = (56 : Int32).toInt + (x_10 : Int32).toInt := by rw [ex_32]; exact add_toInt (by omega) (by omega)
            have t_x_53 : x_53.toInt = (62 : Int32).toInt + (x_10 : Int32).toInt := by rw [ex_53]; exact add_toInt (by omega) (by omega)
            refine ⟨?_, ?_⟩ <;> omega
          have hp_76 : (((1 : Int32).toInt = 0 ∧ ¬ (sv_60 : Int32).toInt = 0) ∨ (1 : Int32).toInt = 1) := by
            have z_1 : ¬ (x_1 : Int32).toInt = (6 : Int32).toInt := fun z => c_2 (Int32.toInt_inj.mp z)
            have z_2 : ¬ (r_23 : Int32).toInt = (0 : Int32).toInt := fun z => c_29 (Int32.toInt_inj.mp z)
            have z_3 : ¬ (r_44 : Int32).toInt = (0 : Int32).toInt := fun z => c_50 (Int32.toInt_inj.mp z)
            have z_4 : ¬ (r_65 : Int32).toInt = (0 : Int32).toInt := fun z => c_71 (Int32.toInt_inj.mp z)
            have y_0 : (0 : Int32).toInt = 0 := by decide
            have y_6 : (6 : Int32).toInt = 6 := by decide
            have y_1 : (1 : Int32).toInt = 1 := by decide
            have y_56 : (56 : Int32).toInt = 56 := by decide
            have y_62 : (62 : Int32).toInt = 62 := by decide
            have y_68 : (68 : Int32).toInt = 68 := by decide
            have t_x_11 : x_11.toInt = (68 : Int32).toInt + (x_10 : Int32).toInt := by rw [ex_11]; exact add_toInt (by omega) (by omega)
            have t_x_32 : x_32.toInt = (56 : Int32).toInt + (x_10 : Int32).toInt := by rw [ex_32]; exact add_toInt (by omega) (by omega)
            have t_x_53 : x_53.toInt = (62 : Int32).toInt + (x_10 : Int32).toInt := by rw [ex_53]; exact add_toInt (by omega) (by omega)
            have yr : (1 : Int32).toInt = 1 := by decide
            omega
          have hm_77 : (1 : Int32).toInt = 1 → (RdO g_74) := by
            intro h1r
            have ha_78 : RdO g_74 := RdO.of (by
              have z_1 : ¬ (x_1 : Int32).toInt = (6 : Int32).toInt := fun z => c_2 (Int32.toInt_inj.mp z)
              have z_2 : ¬ (r_23 : Int32).toInt = (0 : Int32).toInt := fun z => c_29 (Int32.toInt_inj.mp z)
              have z_3 : ¬ (r_44 : Int32).toInt = (0 : Int32).toInt := fun z => c_50 (Int32.toInt_inj.mp z)
              have z_4 : ¬ (r_65 : Int32).toInt = (0 : Int32).toInt := fun z => c_71 (Int32.toInt_inj.mp z)
              have y_0 : (0 : Int32).toInt = 0 := by decide
              have y_6 : (6 : Int32).toInt = 6 := by decide
              have y_56 : (56 : Int32).toInt = 56 := by decide
              have y_62 : (62 : Int32).toInt = 62 := by decide
              have y_68 : (68 : Int32).toInt = 68 := by decide
              have t_x_11 : x_11.toInt = (68 : Int32).toInt + (x_10 : Int32).toInt := by rw [ex_11]; exact add_toInt (by omega) (by omega)
              have t_x_32 : x_32.toInt = (56 : Int32).toInt + (x_10 : Int32).toInt := by rw [ex_32]; exact add_toInt (by omega) (by omega)
              have t_x_53 : x_53.toInt = (62 : Int32).toInt + (x_10 : Int32).toInt := by rw [ex_53]; exact add_toInt (by omega) (by omega)
              omega)
            exact ha_78
          exact retI (v := 1) hx hb hr hlk (rfl) hP hD hS (sv_59, sv_60, sv_61, g_74) ⟨_, rfl, hp_76, ha_75, hm_77⟩ [0, 1, 2] rfl rfl dX12_isBuyerHere_84 (Nat.le_of_ble_eq_true rfl) (Nat.le_of_ble_eq_true rfl) rfl
        · skip
          refine lv_iconst (v := 0) hx hb dX12_isBuyerHere_71 (by decide) ?_
          have ha_79 : ((Mv 2) : Int32).toInt ≤ (sv_59 : Int32).toInt ∧ (sv_59 : Int32).toInt ≤ ((Mv 0) : Int32).toInt := by
            have z_1 : ¬ (x_1 : Int32).toInt = (6 : Int32).toInt := fun z => c_2 (Int32.toInt_inj.mp z)
            have z_2 : ¬ (r_23 : Int32).toInt = (0 : Int32).toInt := fun z => c_29 (Int32.toInt_inj.mp z)
            have z_3 : ¬ (r_44 : Int32).toInt = (0 : Int32).toInt := fun z => c_50 (Int32.toInt_inj.mp z)
            have z_4 := congrArg Int32.toInt c_71
            have y_0 : (0 : Int32).toInt = 0 := by decide
            have y_6 : (6 : Int32).toInt = 6 := by decide
            have y_56 : (56 : Int32).toInt = 56 := by decide
            have y_62 : (62 : Int32).toInt = 62 := by decide
            have y_68 : (68 : Int32).toInt = 68 := by decide
            have t_x_11 : x_11.toInt = (68 : Int32).toInt + (x_10 : Int32).toInt := by rw [ex_11]; exact add_toInt (by omega) (by omega)
            have t_x_32 : x_32.toInt = (56 : Int32).toInt + (x_10 : Int32).toInt := by rw [ex_32]; exact add_toInt (by omega) (by omega)
            have t_x_53 : x_53.toInt = (62 : Int32).toInt + (x_10 : Int32).toInt := by rw [ex_53]; exact add_toInt (by omega) (by omega)
            refine ⟨?_, ?_⟩ <;> omega
          have hp_80 : (((0 : Int32).toInt = 0 ∧ ¬ (sv_60 : Int32).toInt = 0) ∨ (0 : Int32).toInt = 1) := by
            have z_1 : ¬ (x_1 : Int32).toInt = (6 : Int32).toInt := fun z => c_2 (Int32.toInt_inj.mp z)
            have z_2 : ¬ (r_23 : Int32).toInt = (0 : Int32).toInt := fun z => c_29 (Int32.toInt_inj.mp z)
            have z_3 : ¬ (r_44 : Int32).toInt = (0 : Int32).toInt := fun z => c_50 (Int32.toInt_inj.mp z)
            have z_4 := congrArg Int32.toInt c_71
            have y_0 : (0 : Int32).toInt = 0 := by decide
            have y_6 : (6 : Int32).toInt = 6 := by decide
            have y_56 : (56 : Int32).toInt = 56 := by decide
            have y_62 : (62 : Int32).toInt = 62 := by decide
            have y_68 : (68 : Int32).toInt = 68 := by decide
            have t_x_11 : x_11.toInt = (68 : Int32).toInt + (x_10 : Int32).toInt := by rw [ex_11]; exact add_toInt (by omega) (by omega)
            have t_x_32 : x_32.toInt = (56 : Int32).toInt + (x_10 : Int32).toInt := by rw [ex_32]; exact add_toInt (by omega) (by omega)
            have t_x_53 : x_53.toInt = (62 : Int32).toInt + (x_10 : Int32).toInt := by rw [ex_53]; exact add_toInt (by omega) (by omega)
            omega
          exact retI (v := 0) hx hb hr hlk (rfl) hP hD hS (sv_59, sv_60, sv_61, sv_62) ⟨_, rfl, hp_80, ha_79, (fun h => absurd h (by decide))⟩ [0, 1, 2] rfl rfl dX12_isBuyerHere_72 (Nat.le_of_ble_eq_true rfl) (Nat.le_of_ble_eq_true rfl) rfl
  · skip
    refine lv_aload_n hx hb dX12_isBuyerHere_11 rfl (lv_at hl 0 rfl) ?_
    refine lv_iconst (v := 4) hx hb dX12_isBuyerHere_12 (by decide) ?_
    refine lv_iload_n hx hb dX12_isBuyerHere_13 rfl (lv_at hl 1 rfl) ?_
    have ha_81 : 0 ≤ (4 : Int32).toInt ∧ (4 : Int32).toInt ≤ 4 := by
      have z_1 := congrArg Int32.toInt c_2
      have y_6 : (6 : Int32).toInt = 6 := by decide
      have y_4 : (4 : Int32).toInt = 4 := by decide
      refine ⟨?_, ?_⟩ <;> omega
    have ha_82 : 0 ≤ x1.toInt ∧ x1.toInt ≤ 400 := by
      have z_1 := congrArg Int32.toInt c_2
      have y_6 : (6 : Int32).toInt = 6 := by decide
      refine ⟨?_, ?_⟩ <;> omega
    refine cV (a := (Ma 0)) (As := [.int 4, .int x1]) (rest := []) (wr := [((Ma 1), .inl (tc 2, 400, .inl (Mf 1))), ((Ma 6), .inl (tc 0, 95, .inl (Mf 6)))]) ⟨hx, hb, hml, hown, hts⟩ hK hX hA (ct_X12_fails l D tc sk Ma Mv Mj 4 x1 ha_81 ha_82) k_1232 k_1229 k_1231 k_31 k_106 pl_X12_fails ⟨Nat.le_of_ble_eq_true rfl, Nat.le_of_ble_eq_true rfl⟩ rfl rfl (va_recv hK hP (ci := 12) (q0 := 0) rfl rfl) hP hD hS [0] [1, 2] rfl rfl rfl rfl rfl (by decide) rfl hl.1 rfl (Nat.le_of_ble_eq_true rfl) dX12_isBuyerHere_14 ⟨Nat.le_of_ble_eq_true rfl, Nat.le_of_ble_eq_true rfl⟩ (fun v_83 u_84 H locs hv_85 hP hD hS => ?_)
    obtain ⟨sv_86, rfl⟩ : ∃ z, z = u_84 := ⟨_, rfl⟩
    obtain ⟨r_88, rfl, he_89, pf_87⟩ := hv_85
    have he_89 : r_88.toInt = 0 := he_89
    have pf_87 : ¬ (sv_86 : Int32).toInt = 0 := pf_87
    refine W.eq (g2 := F0 m 17 ls [.int r_88]) rfl ?_
    have hP : va_P D classes [((Ma 1), .inl (tc 2, 400, .inl (Mf 1))), ((Ma 6), .inl (tc 0, 95, .inl (Mf 6))), ((Ma 0), .inr (12, [.ref (Ma 1), .int (Mv 0), .int (Mv 1), .ref (Ma 2), .ref (Ma 3), .ref (Ma 4), .ref (Ma 5), .ref (Ma 6), .int (Mv 2), .int sv_86, .int (Mv 4), .int (Mv 5), .int (Mv 6), .int (Mv 7), .int (Mv 8), .ref (Ma 7), .int (Mv 9), .ref (Ma 8), .int (Mv 10), .ref (Ma 9), .ref (Ma 10), .int (Mv 11), .int (Mv 12), .int (Mv 13), .ref (Ma 11), .int (Mv 14), .ref (Ma 12), .ref (Ma 13), .ref (Ma 14), .ref (Ma 15), .ref (Ma 16), .long (Mj 0), .ref (Ma 17), .ref (Ma 18), .ref (Ma 19), .ref (Ma 20)]))] H := hP
    have hD : va_D A [((Ma 1), .inl (tc 2, 400, .inl (Mf 1))), ((Ma 6), .inl (tc 0, 95, .inl (Mf 6))), ((Ma 0), .inr (12, [.ref (Ma 1), .int (Mv 0), .int (Mv 1), .ref (Ma 2), .ref (Ma 3), .ref (Ma 4), .ref (Ma 5), .ref (Ma 6), .int (Mv 2), .int sv_86, .int (Mv 4), .int (Mv 5), .int (Mv 6), .int (Mv 7), .int (Mv 8), .ref (Ma 7), .int (Mv 9), .ref (Ma 8), .int (Mv 10), .ref (Ma 9), .ref (Ma 10), .int (Mv 11), .int (Mv 12), .int (Mv 13), .ref (Ma 11), .int (Mv 14), .ref (Ma 12), .ref (Ma 13), .ref (Ma 14), .ref (Ma 15), .ref (Ma 16), .long (Mj 0), .ref (Ma 17), .ref (Ma 18), .ref (Ma 19), .ref (Ma 20)]))] := hD
    have ha_91 : ((Mv 2) : Int32).toInt ≤ ((Mv 2) : Int32).toInt ∧ ((Mv 2) : Int32).toInt ≤ ((Mv 0) : Int32).toInt := by
      have z_1 := congrArg Int32.toInt c_2
      have y_6 : (6 : Int32).toInt = 6 := by decide
      refine ⟨?_, ?_⟩ <;> omega
    have hb_92 : (r_88 : Int32).toInt = 0 ∨ (r_88 : Int32).toInt = 1 := by
      have z_1 := congrArg Int32.toInt c_2
      have y_6 : (6 : Int32).toInt = 6 := by decide
      omega
    have hp_93 : (((r_88 : Int32).toInt = 0 ∧ ¬ (sv_86 : Int32).toInt = 0) ∨ (r_88 : Int32).toInt = 1) := by
      have z_1 := congrArg Int32.toInt c_2
      have y_6 : (6 : Int32).toInt = 6 := by decide
      omega
    have hm_94 : (r_88 : Int32).toInt = 1 → (RdO (Mf 6)) := by
      intro h1r
      exfalso
      have z_1 := congrArg Int32.toInt c_2
      have y_6 : (6 : Int32).toInt = 6 := by decide
      omega
    exact retI (v := r_88) hx hb hr hlk (nar01 hb_92) hP hD hS ((Mv 2), sv_86, (Mv 4), (Mf 6)) ⟨_, rfl, hp_93, ha_91, hm_94⟩ [2, 0, 1] rfl rfl dX12_isBuyerHere_17 (Nat.le_of_ble_eq_true rfl) (Nat.le_of_ble_eq_true rfl) rfl
set_option maxHeartbeats 4000000 in
set_option maxRecDepth 100000 in
theorem ct_X12_isWatchHere (l : Launch) (D : va_G) (tc : Nat → ClassId) (sk : (Nat → Nat) × (Nat → Nat)) (Ma : Nat → Nat) (Mv : Nat → Int32) (Mf : Nat → Nat → Int32) (Mj : Nat → Int64) (h_nx : 0 ≤ ((Mv 2) : Int32).toInt ∧ ((Mv 2) : Int32).toInt ≤ ((Mv 0) : Int32).toInt ∧ ((Mv 0) : Int32).toInt ≤ 400) (h_ro : RdO (Mf 6)) (h_f1 : ((Mf 6) 0).toInt = 1) : Ct l yX12_isWatchHere cX12_isWatchHere 2 (some .boolean) { frames := 2, cells := 0, slots := 0, locals := 49 } D tc sk [.ref (Ma 0)] [((Ma 0), .inr (12, [.ref (Ma 1), .int (Mv 0), .int (Mv 1), .ref (Ma 2), .ref (Ma 3), .ref (Ma 4), .ref (Ma 5), .ref (Ma 6), .int (Mv 2), .int (Mv 3), .int (Mv 4), .int (Mv 5), .int (Mv 6), .int (Mv 7), .int (Mv 8), .ref (Ma 7), .int (Mv 9), .ref (Ma 8), .int (Mv 10), .ref (Ma 9), .ref (Ma 10), .int (Mv 11), .int (Mv 12), .int (Mv 13), .ref (Ma 11), .int (Mv 14), .ref (Ma 12), .ref (Ma 13), .ref (Ma 14), .ref (Ma 15), .ref (Ma 16), .long (Mj 0), .ref (Ma 17), .ref (Ma 18), .ref (Ma 19), .ref (Ma 20)])), ((Ma 1), .inl (tc 2, 400, .inl (Mf 1))), ((Ma 6), .inl (tc 0, 95, .inl (Mf 6)))] (fun (v : Option Value) (u : (Int32) × (Int32) × (Int32) × (Nat → Int32)) => match u with | (oo0x1, oo0x2, oo0x3, oo0x4) => ∃ r : Int32, v = some (.int r) ∧ (((r.toInt = 0 ∧ ¬ (oo0x2 : Int32).toInt = 0) ∨ r.toInt = 1)) ∧ (((Mv 2) : Int32).toInt ≤ (oo0x1 : Int32).toInt ∧ (oo0x1 : Int32).toInt ≤ ((Mv 0) : Int32).toInt) ∧ (r.toInt = 1 → (RdO oo0x4))) (fun (u : (Int32) × (Int32) × (Int32) × (Nat → Int32)) => match u with | (oo0x1, oo0x2, oo0x3, oo0x4) => [((Ma 0), .inr (12, [.ref (Ma 1), .int (Mv 0), .int (Mv 1), .ref (Ma 2), .ref (Ma 3), .ref (Ma 4), .ref (Ma 5), .ref (Ma 6), .int oo0x1, .int oo0x2, .int oo0x3, .int (Mv 5), .int (Mv 6), .int (Mv 7), .int (Mv 8), .ref (Ma 7), .int (Mv 9), .ref (Ma 8), .int (Mv 10), .ref (Ma 9), .ref (Ma 10), .int (Mv 11), .int (Mv 12), .int (Mv 13), .ref (Ma 11), .int (Mv 14), .ref (Ma 12), .ref (Ma 13), .ref (Ma 14), .ref (Ma 15), .ref (Ma 16), .long (Mj 0), .ref (Ma 17), .ref (Ma 18), .ref (Ma 19), .ref (Ma 20)])), ((Ma 1), .inl (tc 2, 400, .inl (Mf 1))), ((Ma 6), .inl (tc 0, 95, .inl oo0x4))]) 0 0 := by
  refine Ct.start (by decide) (Nat.le_of_ble_eq_true rfl) (fun p e s m below meth c A ls hx hb hr hlk hin hml hown hts hK hX hP hD hA hl hS => ?_)
  have hl : lv_has ls 2 [(0, .ref (Ma 0))] := hl
  have ar_h_ro := RdO.ar h_ro
  refine lv_aload_n hx hb dX12_isWatchHere_0 rfl (lv_at hl 0 rfl) ?_
  have ha_1 : 0 ≤ ((Mv 2) : Int32).toInt ∧ ((Mv 2) : Int32).toInt ≤ ((Mv 0) : Int32).toInt ∧ ((Mv 0) : Int32).toInt ≤ 400 := by
    refine ⟨?_, ?_, ?_⟩ <;> omega
  refine cV (a := (Ma 0)) (As := []) (rest := []) (wr := [((Ma 6), .inl (tc 0, 95, .inl (Mf 6)))]) ⟨hx, hb, hml, hown, hts⟩ hK hX hA (ct_X12_passWord l D tc sk Ma Mv Mf Mj ha_1) k_1244 k_1241 k_1243 k_34 k_106 pl_X12_passWord ⟨Nat.le_of_ble_eq_true rfl, Nat.le_of_ble_eq_true rfl⟩ rfl rfl (va_recv hK hP (ci := 12) (q0 := 0) rfl rfl) hP hD hS [0, 1] [2] rfl rfl rfl rfl rfl (by decide) rfl hl.1 rfl (Nat.le_of_ble_eq_true rfl) dX12_isWatchHere_1 ⟨Nat.le_of_ble_eq_true rfl, Nat.le_of_ble_eq_true rfl⟩ (fun v_2 u_3 H locs hv_4 hP hD hS => ?_)
  obtain ⟨sv_5, rfl⟩ : ∃ z, z = u_3 := ⟨_, rfl⟩
  obtain ⟨rfl, pf_6, pf_7⟩ := hv_4
  have pf_6 : ((Mv 2) : Int32).toInt ≤ (sv_5 : Int32).toInt ∧ (sv_5 : Int32).toInt ≤ ((Mv 0) : Int32).toInt := pf_6
  have pf_7 : Pw (Mf 1) (Mv 0) (Mv 2) sv_5 := pf_7
  refine W.eq (g2 := F0 m 4 ls []) rfl ?_
  have hP : va_P D classes [((Ma 6), .inl (tc 0, 95, .inl (Mf 6))), ((Ma 0), .inr (12, [.ref (Ma 1), .int (Mv 0), .int (Mv 1), .ref (Ma 2), .ref (Ma 3), .ref (Ma 4), .ref (Ma 5), .ref (Ma 6), .int sv_5, .int (Mv 3), .int (Mv 4), .int (Mv 5), .int (Mv 6), .int (Mv 7), .int (Mv 8), .ref (Ma 7), .int (Mv 9), .ref (Ma 8), .int (Mv 10), .ref (Ma 9), .ref (Ma 10), .int (Mv 11), .int (Mv 12), .int (Mv 13), .ref (Ma 11), .int (Mv 14), .ref (Ma 12), .ref (Ma 13), .ref (Ma 14), .ref (Ma 15), .ref (Ma 16), .long (Mj 0), .ref (Ma 17), .ref (Ma 18), .ref (Ma 19), .ref (Ma 20)])), ((Ma 1), .inl (tc 2, 400, .inl (Mf 1)))] H := hP
  have hD : va_D A [((Ma 6), .inl (tc 0, 95, .inl (Mf 6))), ((Ma 0), .inr (12, [.ref (Ma 1), .int (Mv 0), .int (Mv 1), .ref (Ma 2), .ref (Ma 3), .ref (Ma 4), .ref (Ma 5), .ref (Ma 6), .int sv_5, .int (Mv 3), .int (Mv 4), .int (Mv 5), .int (Mv 6), .int (Mv 7), .int (Mv 8), .ref (Ma 7), .int (Mv 9), .ref (Ma 8), .int (Mv 10), .ref (Ma 9), .ref (Ma 10), .int (Mv 11), .int (Mv 12), .int (Mv 13), .ref (Ma 11), .int (Mv 14), .ref (Ma 12), .ref (Ma 13), .ref (Ma 14), .ref (Ma 15), .ref (Ma 16), .long (Mj 0), .ref (Ma 17), .ref (Ma 18), .ref (Ma 19), .ref (Ma 20)])), ((Ma 1), .inl (tc 2, 400, .inl (Mf 1)))] := hD
  refine lv_aload_n hx hb dX12_isWatchHere_4 rfl (lv_at hl 0 rfl) ?_
  refine lv_iconst (v := 0) hx hb dX12_isWatchHere_5 (by decide) ?_
  refine lv_aload_n hx hb dX12_isWatchHere_6 rfl (lv_at hl 0 rfl) ?_
  refine gf_X12_26 hx hb hts hown hK hP 1 rfl rfl dX12_isWatchHere_7 ?_
  refine lv_iconst (v := 2) hx hb dX12_isWatchHere_10 (by decide) ?_
  refine va_iald hx hb hK hP 0 0 rfl rfl (vin_dec (by decide +kernel)) dX12_isWatchHere_11 ?_
  refine lv_topi (fun x_8 ex_8 => ?_)
  have lx_8 : x_8.toInt = ((Mf 6) 2).toInt := congrArg Int32.toInt ex_8
  refine lv_iconst (v := 1) hx hb dX12_isWatchHere_12 (by decide) ?_
  refine lv_isub hx hb dX12_isWatchHere_13 ?_
  refine lv_topi (fun x_9 ex_9 => ?_)
  have ha_10 : 0 ≤ (sv_5 : Int32).toInt ∧ (sv_5 : Int32).toInt ≤ ((Mv 0) : Int32).toInt ∧ ((Mv 0) : Int32).toInt ≤ 400 := by
    have y_1 : (1 : Int32).toInt = 1 := by decide
    have t_x_9 : x_9.toInt = (x_8 : Int32).toInt - (1 : Int32).toInt := by rw [ex_9]; exact sub_toInt (by omega) (by omega)
    refine ⟨?_, ?_, ?_⟩ <;> omega
  refine cV (a := (Ma 0)) (As := [.int 0, .int x_9]) (rest := []) (wr := [((Ma 6), .inl (tc 0, 95, .inl (Mf 6)))]) ⟨hx, hb, hml, hown, hts⟩ hK hX hA (ct_X12_numberHere l D tc sk Ma (fun k => ([(Mv 0), (Mv 1), sv_5, (Mv 3), (Mv 4), (Mv 5), (Mv 6), (Mv 7), (Mv 8), (Mv 9), (Mv 10), (Mv 11), (Mv 12), (Mv 13), (Mv 14)] : List (Int32)).getD k 0) Mf Mj 0 x_9 ha_10) k_1252 k_1249 k_1251 k_36 k_106 pl_X12_numberHere ⟨Nat.le_of_ble_eq_true rfl, Nat.le_of_ble_eq_true rfl⟩ rfl rfl (va_recv hK hP (ci := 12) (q0 := 1) rfl rfl) hP hD hS [1, 2] [0] rfl rfl rfl rfl rfl (by decide) rfl hl.1 rfl (Nat.le_of_ble_eq_true rfl) dX12_isWatchHere_14 ⟨Nat.le_of_ble_eq_true rfl, Nat.le_of_ble_eq_true rfl⟩ (fun v_11 u_12 H locs hv_13 hP hD hS => ?_)
  obtain ⟨sv_14, sv_15, sv_16⟩ := u_12
  obtain ⟨r_18, rfl, he_19, pf_17⟩ := hv_13
  have he_19 : ((r_18.toInt = 0 ∧ ¬ (sv_15 : Int32).toInt = 0) ∨ (r_18.toInt = 1 ∧ (0 : Int32).toInt ≤ (sv_16 : Int32).toInt ∧ (sv_16 : Int32).toInt ≤ x_9.toInt ∧ sv_5.toInt + 1 ≤ (sv_14 : Int32).toInt)) := he_19
  have pf_17 : (sv_5 : Int32).toInt ≤ (sv_14 : Int32).toInt ∧ (sv_14 : Int32).toInt ≤ ((Mv 0) : Int32).toInt := pf_17
  refine W.eq (g2 := F0 m 17 ls [.int r_18]) rfl ?_
  have hP : va_P D classes [((Ma 6), .inl (tc 0, 95, .inl (Mf 6))), ((Ma 0), .inr (12, [.ref (Ma 1), .int (Mv 0), .int (Mv 1), .ref (Ma 2), .ref (Ma 3), .ref (Ma 4), .ref (Ma 5), .ref (Ma 6), .int sv_14, .int sv_15, .int sv_16, .int (Mv 5), .int (Mv 6), .int (Mv 7), .int (Mv 8), .ref (Ma 7), .int (Mv 9), .ref (Ma 8), .int (Mv 10), .ref (Ma 9), .ref (Ma 10), .int (Mv 11), .int (Mv 12), .int (Mv 13), .ref (Ma 11), .int (Mv 14), .ref (Ma 12), .ref (Ma 13), .ref (Ma 14), .ref (Ma 15), .ref (Ma 16), .long (Mj 0), .ref (Ma 17), .ref (Ma 18), .ref (Ma 19), .ref (Ma 20)])), ((Ma 1), .inl (tc 2, 400, .inl (Mf 1)))] H := hP
  have hD : va_D A [((Ma 6), .inl (tc 0, 95, .inl (Mf 6))), ((Ma 0), .inr (12, [.ref (Ma 1), .int (Mv 0), .int (Mv 1), .ref (Ma 2), .ref (Ma 3), .ref (Ma 4), .ref (Ma 5), .ref (Ma 6), .int sv_14, .int sv_15, .int sv_16, .int (Mv 5), .int (Mv 6), .int (Mv 7), .int (Mv 8), .ref (Ma 7), .int (Mv 9), .ref (Ma 8), .int (Mv 10), .ref (Ma 9), .ref (Ma 10), .int (Mv 11), .int (Mv 12), .int (Mv 13), .ref (Ma 11), .int (Mv 14), .ref (Ma 12), .ref (Ma 13), .ref (Ma 14), .ref (Ma 15), .ref (Ma 16), .long (Mj 0), .ref (Ma 17), .ref (Ma 18), .ref (Ma 19), .ref (Ma 20)])), ((Ma 1), .inl (tc 2, 400, .inl (Mf 1)))] := hD
  refine lv_if_ne (tgt := 22) hx hb dX12_isWatchHere_17 (by decide) (fun c_21 => ?_) (fun c_21 => ?_)
  · skip
    refine lv_aload_n hx hb dX12_isWatchHere_22 rfl (lv_at hl 0 rfl) ?_
    refine gf_X12_112 hx hb hts hown hK hP 1 rfl rfl dX12_isWatchHere_23 ?_
    refine lv_istore_n (lv' := [(1, .int sv_16), (0, .ref (Ma 0))]) hx hb dX12_isWatchHere_26 rfl hl (by decide) rfl (fun ls hl => ?_)
    refine lv_aload_n hx hb dX12_isWatchHere_27 rfl (lv_at hl 1 rfl) ?_
    refine lv_iconst (v := 0) hx hb dX12_isWatchHere_28 (by decide) ?_
    refine lv_aload_n hx hb dX12_isWatchHere_29 rfl (lv_at hl 1 rfl) ?_
    refine gf_X12_26 hx hb hts hown hK hP 1 rfl rfl dX12_isWatchHere_30 ?_
    refine lv_iconst (v := 3) hx hb dX12_isWatchHere_33 (by decide) ?_
    refine va_iald hx hb hK hP 0 0 rfl rfl (vin_dec (by decide +kernel)) dX12_isWatchHere_34 ?_
    refine lv_topi (fun x_22 ex_22 => ?_)
    have lx_22 : x_22.toInt = ((Mf 6) 3).toInt := congrArg Int32.toInt ex_22
    refine lv_iconst (v := 1) hx hb dX12_isWatchHere_35 (by decide) ?_
    refine lv_isub hx hb dX12_isWatchHere_36 ?_
    refine lv_topi (fun x_23 ex_23 => ?_)
    have ha_24 : 0 ≤ (sv_14 : Int32).toInt ∧ (sv_14 : Int32).toInt ≤ ((Mv 0) : Int32).toInt ∧ ((Mv 0) : Int32).toInt ≤ 400 := by
      have z_1 : ¬ (r_18 : Int32).toInt = (0 : Int32).toInt := fun z => c_21 (Int32.toInt_inj.mp z)
      have y_0 : (0 : Int32).toInt = 0 := by decide
      have y_1 : (1 : Int32).toInt = 1 := by decide
      have t_x_9 : x_9.toInt = (x_8 : Int32).toInt - (1 : Int32).toInt := by rw [ex_9]; exact sub_toInt (by omega) (by omega)
      have t_x_23 : x_23.toInt = (x_22 : Int32).toInt - (1 : Int32).toInt := by rw [ex_23]; exact sub_toInt (by omega) (by omega)
      refine ⟨?_, ?_, ?_⟩ <;> omega
    refine cV (a := (Ma 0)) (As := [.int 0, .int x_23]) (rest := []) (wr := [((Ma 6), .inl (tc 0, 95, .inl (Mf 6)))]) ⟨hx, hb, hml, hown, hts⟩ hK hX hA (ct_X12_numberHere l D tc sk Ma (fun k => ([(Mv 0), (Mv 1), sv_14, sv_15, sv_16, (Mv 5), (Mv 6), (Mv 7), (Mv 8), (Mv 9), (Mv 10), (Mv 11), (Mv 12), (Mv 13), (Mv 14)] : List (Int32)).getD k 0) Mf Mj 0 x_23 ha_24) k_1252 k_1249 k_1251 k_36 k_106 pl_X12_numberHere ⟨Nat.le_of_ble_eq_true rfl, Nat.le_of_ble_eq_true rfl⟩ rfl rfl (va_recv hK hP (ci := 12) (q0 := 1) rfl rfl) hP hD hS [1, 2] [0] rfl rfl rfl rfl rfl (by decide) rfl hl.1 rfl (Nat.le_of_ble_eq_true rfl) dX12_isWatchHere_37 ⟨Nat.le_of_ble_eq_true rfl, Nat.le_of_ble_eq_true rfl⟩ (fun v_25 u_26 H locs hv_27 hP hD hS => ?_)
    obtain ⟨sv_28, sv_29, sv_30⟩ := u_26
    obtain ⟨r_32, rfl, he_33, pf_31⟩ := hv_27
    have he_33 : ((r_32.toInt = 0 ∧ ¬ (sv_29 : Int32).toInt = 0) ∨ (r_32.toInt = 1 ∧ (0 : Int32).toInt ≤ (sv_30 : Int32).toInt ∧ (sv_30 : Int32).toInt ≤ x_23.toInt ∧ sv_14.toInt + 1 ≤ (sv_28 : Int32).toInt)) := he_33
    have pf_31 : (sv_14 : Int32).toInt ≤ (sv_28 : Int32).toInt ∧ (sv_28 : Int32).toInt ≤ ((Mv 0) : Int32).toInt := pf_31
    refine W.eq (g2 := F0 m 40 ls [.int r_32]) rfl ?_
    have hP : va_P D classes [((Ma 6), .inl (tc 0, 95, .inl (Mf 6))), ((Ma 0), .inr (12, [.ref (Ma 1), .int (Mv 0), .int (Mv 1), .ref (Ma 2), .ref (Ma 3), .ref (Ma 4), .ref (Ma 5), .ref (Ma 6), .int sv_28, .int sv_29, .int sv_30, .int (Mv 5), .int (Mv 6), .int (Mv 7), .int (Mv 8), .ref (Ma 7), .int (Mv 9), .ref (Ma 8), .int (Mv 10), .ref (Ma 9), .ref (Ma 10), .int (Mv 11), .int (Mv 12), .int (Mv 13), .ref (Ma 11), .int (Mv 14), .ref (Ma 12), .ref (Ma 13), .ref (Ma 14), .ref (Ma 15), .ref (Ma 16), .long (Mj 0), .ref (Ma 17), .ref (Ma 18), .ref (Ma 19), .ref (Ma 20)])), ((Ma 1), .inl (tc 2, 400, .inl (Mf 1)))] H := hP
    have hD : va_D A [((Ma 6), .inl (tc 0, 95, .inl (Mf 6))), ((Ma 0), .inr (12, [.ref (Ma 1), .int (Mv 0), .int (Mv 1), .ref (Ma 2), .ref (Ma 3), .ref (Ma 4), .ref (Ma 5), .ref (Ma 6), .int sv_28, .int sv_29, .int sv_30, .int (Mv 5), .int (Mv 6), .int (Mv 7), .int (Mv 8), .ref (Ma 7), .int (Mv 9), .ref (Ma 8), .int (Mv 10), .ref (Ma 9), .ref (Ma 10), .int (Mv 11), .int (Mv 12), .int (Mv 13), .ref (Ma 11), .int (Mv 14), .ref (Ma 12), .ref (Ma 13), .ref (Ma 14), .ref (Ma 15), .ref (Ma 16), .long (Mj 0), .ref (Ma 17), .ref (Ma 18), .ref (Ma 19), .ref (Ma 20)])), ((Ma 1), .inl (tc 2, 400, .inl (Mf 1)))] := hD
    refine lv_if_ne (tgt := 45) hx hb dX12_isWatchHere_40 (by decide) (fun c_35 => ?_) (fun c_35 => ?_)
    · skip
      refine lv_aload_n hx hb dX12_isWatchHere_45 rfl (lv_at hl 1 rfl) ?_
      refine gf_X12_26 hx hb hts hown hK hP 1 rfl rfl dX12_isWatchHere_46 ?_
      refine lv_bipush (v := 84) hx hb dX12_isWatchHere_49 (by decide) ?_
      refine lv_iload_n hx hb dX12_isWatchHere_51 rfl (lv_at hl 0 rfl) ?_
      refine lv_iadd hx hb dX12_isWatchHere_52 ?_
      refine lv_topi (fun x_36 ex_36 => ?_)
      refine lv_dup2_11 hx hb dX12_isWatchHere_53 rfl rfl ?_
      have hi_37 : vp_in x_36 95 := by
        have z_1 : ¬ (r_18 : Int32).toInt = (0 : Int32).toInt := fun z => c_21 (Int32.toInt_inj.mp z)
        have z_2 : ¬ (r_32 : Int32).toInt = (0 : Int32).toInt := fun z => c_35 (Int32.toInt_inj.mp z)
        have y_0 : (0 : Int32).toInt = 0 := by decide
        have y_1 : (1 : Int32).toInt = 1 := by decide
        have y_84 : (84 : Int32).toInt = 84 := by decide
        have t_x_36 : x_36.toInt = (84 : Int32).toInt + (sv_16 : Int32).toInt := by rw [ex_36]; exact add_toInt (by omega) (by omega)
        have t_x_9 : x_9.toInt = (x_8 : Int32).toInt - (1 : Int32).toInt := by rw [ex_9]; exact sub_toInt (by omega) (by omega)
        have t_x_23 : x_23.toInt = (x_22 : Int32).toInt - (1 : Int32).toInt := by rw [ex_23]; exact sub_toInt (by omega) (by omega)
        refine vp_in_iff.mpr ⟨?_, ?_⟩ <;> omega
      refine va_iald hx hb hK hP 0 0 rfl rfl hi_37 dX12_isWatchHere_54 ?_
      refine lv_topi (fun x_38 ex_38 => ?_)
      refine lv_iconst (v := 1) hx hb dX12_isWatchHere_55 (by decide) ?_
      refine lv_aload_n hx hb dX12_isWatchHere_56 rfl (lv_at hl 1 rfl) ?_
      refine gf_X12_112 hx hb hts hown hK hP 1 rfl rfl dX12_isWatchHere_57 ?_
      refine lv_ishl hx hb dX12_isWatchHere_60 ?_
      refine lv_topi (fun x_39 ex_39 => ?_)
      refine lv_ior hx hb dX12_isWatchHere_61 ?_
      refine lv_topi (fun x_40 ex_40 => ?_)
      have hi_41 : vp_in x_36 95 := by
        have z_1 : ¬ (r_18 : Int32).toInt = (0 : Int32).toInt := fun z => c_21 (Int32.toInt_inj.mp z)
        have z_2 : ¬ (r_32 : Int32).toInt = (0 : Int32).toInt := fun z => c_35 (Int32.toInt_inj.mp z)
        have y_0 : (0 : Int32).toInt = 0 := by decide
        have y_1 : (1 : Int32).toInt = 1 := by decide
        have y_84 : (84 : Int32).toInt = 84 := by decide
        have t_x_36 : x_36.toInt = (84 : Int32).toInt + (sv_16 : Int32).toInt := by rw [ex_36]; exact add_toInt (by omega) (by omega)
        have t_x_9 : x_9.toInt = (x_8 : Int32).toInt - (1 : Int32).toInt := by rw [ex_9]; exact sub_toInt (by omega) (by omega)
        have t_x_23 : x_23.toInt = (x_22 : Int32).toInt - (1 : Int32).toInt := by rw [ex_23]; exact sub_toInt (by omega) (by omega)
        refine vp_in_iff.mpr ⟨?_, ?_⟩ <;> omega
      refine st_int hx hb hK hP hD hS 0 0 rfl rfl hi_41 dX12_isWatchHere_62 (fun g_42 H locs eg_42 hP hD hS => ?_)
      have hP : va_P D classes [((Ma 6), .inl (tc 0, 95, .inl g_42)), ((Ma 0), .inr (12, [.ref (Ma 1), .int (Mv 0), .int (Mv 1), .ref (Ma 2), .ref (Ma 3), .ref (Ma 4), .ref (Ma 5), .ref (Ma 6), .int sv_28, .int sv_29, .int sv_30, .int (Mv 5), .int (Mv 6), .int (Mv 7), .int (Mv 8), .ref (Ma 7), .int (Mv 9), .ref (Ma 8), .int (Mv 10), .ref (Ma 9), .ref (Ma 10), .int (Mv 11), .int (Mv 12), .int (Mv 13), .ref (Ma 11), .int (Mv 14), .ref (Ma 12), .ref (Ma 13), .ref (Ma 14), .ref (Ma 15), .ref (Ma 16), .long (Mj 0), .ref (Ma 17), .ref (Ma 18), .ref (Ma 19), .ref (Ma 20)])), ((Ma 1), .inl (tc 2, 400, .inl (Mf 1)))] H := hP
      have hD : va_D A [((Ma 6), .inl (tc 0, 95, .inl g_42)), ((Ma 0), .inr (12, [.ref (Ma 1), .int (Mv 0), .int (Mv 1), .ref (Ma 2), .ref (Ma 3), .ref (Ma 4), .ref (Ma 5), .ref (Ma 6), .int sv_28, .int sv_29, .int sv_30, .int (Mv 5), .int (Mv 6), .int (Mv 7), .int (Mv 8), .ref (Ma 7), .int (Mv 9), .ref (Ma 8), .int (Mv 10), .ref (Ma 9), .ref (Ma 10), .int (Mv 11), .int (Mv 12), .int (Mv 13), .ref (Ma 11), .int (Mv 14), .ref (Ma 12), .ref (Ma 13), .ref (Ma 14), .ref (Ma 15), .ref (Ma 16), .long (Mj 0), .ref (Ma 17), .ref (Ma 18), .ref (Ma 19), .ref (Ma 20)])), ((Ma 1), .inl (tc 2, 400, .inl (Mf 1)))] := hD
      have hr_43 : 0 ≠ (x_36 : Int32).toNatClampNeg := by
        have z_1 : ¬ (r_18 : Int32).toInt = (0 : Int32).toInt := fun z => c_21 (Int32.toInt_inj.mp z)
        have z_2 : ¬ (r_32 : Int32).toInt = (0 : Int32).toInt := fun z => c_35 (Int32.toInt_inj.mp z)
        have y_0 : (0 : Int32).toInt = 0 := by decide
        have y_1 : (1 : Int32).toInt = 1 := by decide
        have y_84 : (84 : Int32).toInt = 84 := by decide
        have t_x_36 : x_36.toInt = (84 : Int32).toInt + (sv_16 : Int32).toInt := by rw [ex_36]; exact add_toInt (by omega) (by omega)
        have t_x_9 : x_9.toInt = (x_8 : Int32).toInt - (1 : Int32).toInt := by rw [ex_9]; exact sub_toInt (by omega) (by omega)
        have t_x_23 : x_23.toInt = (x_22 : Int32).toInt - (1 : Int32).toInt := by rw [ex_23]; exact sub_toInt (by omega) (by omega)
        have hcl : (x_36 : Int32).toNatClampNeg = (x_36 : Int32).toInt.toNat := rfl
        omega
      have ku_g_42_0 : (g_42 0).toInt = ((Mf 6) 0).toInt := upd_toInt_ne eg_42 hr_43
      have hr_44 : 2 ≠ (x_36 : Int32).toNatClampNeg := by
        have z_1 : ¬ (r_18 : Int32).toInt = (0 : Int32).toInt := fun z => c_21 (Int32.toInt_inj.mp z)
        have z_2 : ¬ (r_32 : Int32).toInt = (0 : Int32).toInt := fun z => c_35 (Int32.toInt_inj.mp z)
        have y_0 : (0 : Int32).toInt = 0 := by decide
        have y_1 : (1 : Int32).toInt = 1 := by decide
        have y_84 : (84 : Int32).toInt = 84 := by decide
        have t_x_36 : x_36.toInt = (84 : Int32).toInt + (sv_16 : Int32).toInt := by rw [ex_36]; exact add_toInt (by omega) (by omega)
        have t_x_9 : x_9.toInt = (x_8 : Int32).toInt - (1 : Int32).toInt := by rw [ex_9]; exact sub_toInt (by omega) (by omega)
        have t_x_23 : x_23.toInt = (x_22 : Int32).toInt - (1 : Int32).toInt := by rw [ex_23]; exact sub_toInt (by omega) (by omega)
        have hcl : (x_36 : Int32).toNatClampNeg = (x_36 : Int32).toInt.toNat := rfl
        omega
      have ku_g_42_2 : (g_42 2).toInt = ((Mf 6) 2).toInt := upd_toInt_ne eg_42 hr_44
      have hr_45 : 3 ≠ (x_36 : Int32).toNatClampNeg := by
        have z_1 : ¬ (r_18 : Int32).toInt = (0 : Int32).toInt := fun z => c_21 (Int32.toInt_inj.mp z)
        have z_2 : ¬ (r_32 : Int32).toInt = (0 : Int32).toInt := fun z => c_35 (Int32.toInt_inj.mp z)
        have y_0 : (0 : Int32).toInt = 0 := by decide
        have y_1 : (1 : Int32).toInt = 1 := by decide
        have y_84 : (84 : Int32).toInt = 84 := by decide
        have t_x_36 : x_36.toInt = (84 : Int32).toInt + (sv_16 : Int32).toInt := by rw [ex_36]; exact add_toInt (by omega) (by omega)
        have t_x_9 : x_9.toInt = (x_8 : Int32).toInt - (1 : Int32).toInt := by rw [ex_9]; exact sub_toInt (by omega) (by omega)
        have t_x_23 : x_23.toInt = (x_22 : Int32).toInt - (1 : Int32).toInt := by rw [ex_23]; exact sub_toInt (by omega) (by omega)
        have hcl : (x_36 : Int32).toNatClampNeg = (x_36 : Int32).toInt.toNat := rfl
        omega
      have ku_g_42_3 : (g_42 3).toInt = ((Mf 6) 3).toInt := upd_toInt_ne eg_42 hr_45
      refine lv_iconst (v := 1) hx hb dX12_isWatchHere_63 (by decide) ?_
      have ha_46 : ((Mv 2) : Int32).toInt ≤ (sv_28 : Int32).toInt ∧ (sv_28 : Int32).toInt ≤ ((Mv 0) : Int32).toInt := by
        have z_1 : ¬ (r_18 : Int32).toInt = (0 : Int32).toInt := fun z => c_21 (Int32.toInt_inj.mp z)
        have z_2 : ¬ (r_32 : Int32).toInt = (0 : Int32).toInt := fun z => c_35 (Int32.toInt_inj.mp z)
        have y_0 : (0 : Int32).toInt = 0 := by decide
        have y_1 : (1 : Int32).toInt = 1 := by decide
        have t_x_9 : x_9.toInt = (x_8 : Int32).toInt - (1 : Int32).toInt := by rw [ex_9]; exact sub_toInt (by omega) (by omega)
        have t_x_23 : x_23.toInt = (x_22 : Int32).toInt - (1 : Int32).toInt := by rw [ex_23]; exact sub_toInt (by omega) (by omega)
        refine ⟨?_, ?_⟩ <;> omega
      have hp_47 : (((1 : Int32).toInt = 0 ∧ ¬ (sv_29 : Int32).toInt = 0) ∨ (1 : Int32).toInt = 1) := by
        have z_1 : ¬ (r_18 : Int32).toInt = (0 : Int32).toInt := fun z => c_21 (Int32.toInt_inj.mp z)
        have z_2 : ¬ (r_32 : Int32).toInt = (0 : Int32).toInt := fun z => c_35 (Int32.toInt_inj.mp z)
        have y_0 : (0 : Int32).toInt = 0 := by decide
        have y_1 : (1 : Int32).toInt = 1 := by decide
        have t_x_9 : x_9.toInt = (x_8 : Int32).toInt - (1 : Int32).toInt := by rw [ex_9]; exact sub_toInt (by omega) (by omega)
        have t_x_23 : x_23.toInt = (x_22 : Int32).toInt - (1 : Int32).toInt := by rw [ex_23]; exact sub_toInt (by omega) (by omega)
        have yr : (1 : Int32).toInt = 1 := by decide
        omega
      have hm_48 : (1 : Int32).toInt = 1 → (RdO g_42) := by
        intro h1r
        have ha_49 : RdO g_42 := RdO.of (by
          have z_1 : ¬ (r_18 : Int32).toInt = (0 : Int32).toInt := fun z => c_21 (Int32.toInt_inj.mp z)
          have z_2 : ¬ (r_32 : Int32).toInt = (0 : Int32).toInt := fun z => c_35 (Int32.toInt_inj.mp z)
          have y_0 : (0 : Int32).toInt = 0 := by decide
          have y_1 : (1 : Int32).toInt = 1 := by decide
          have t_x_9 : x_9.toInt = (x_8 : Int32).toInt - (1 : Int32).toInt := by rw [ex_9]; exact sub_toInt (by omega) (by omega)
          have t_x_23 : x_23.toInt = (x_22 : Int32).toInt - (1 : Int32).toInt := by rw [ex_23]; exact sub_toInt (by omega) (by omega)
          omega)
        exact ha_49
      exact retI (v := 1) hx hb hr hlk (rfl) hP hD hS (sv_28, sv_29, sv_30, g_42) ⟨_, rfl, hp_47, ha_46, hm_48⟩ [1, 2, 0] rfl rfl dX12_isWatchHere_64 (Nat.le_of_ble_eq_true rfl) (Nat.le_of_ble_eq_true rfl) rfl
    · skip
      refine lv_iconst (v := 0) hx hb dX12_isWatchHere_43 (by decide) ?_
      have ha_50 : ((Mv 2) : Int32).toInt ≤ (sv_28 : Int32).toInt ∧ (sv_28 : Int32).toInt ≤ ((Mv 0) : Int32).toInt := by
        have z_1 : ¬ (r_18 : Int32).toInt = (0 : Int32).toInt := fun z => c_21 (Int32.toInt_inj.mp z)
        have z_2 := congrArg Int32.toInt c_35
        have y_0 : (0 : Int32).toInt = 0 := by decide
        have y_1 : (1 : Int32).toInt = 1 := by decide
        have t_x_9 : x_9.toInt = (x_8 : Int32).toInt - (1 : Int32).toInt := by rw [ex_9]; exact sub_toInt (by omega) (by omega)
        have t_x_23 : x_23.toInt = (x_22 : Int32).toInt - (1 : Int32).toInt := by rw [ex_23]; exact sub_toInt (by omega) (by omega)
        refine ⟨?_, ?_⟩ <;> omega
      have hp_51 : (((0 : Int32).toInt = 0 ∧ ¬ (sv_29 : Int32).toInt = 0) ∨ (0 : Int32).toInt = 1) := by
        have z_1 : ¬ (r_18 : Int32).toInt = (0 : Int32).toInt := fun z => c_21 (Int32.toInt_inj.mp z)
        have z_2 := congrArg Int32.toInt c_35
        have y_0 : (0 : Int32).toInt = 0 := by decide
        have y_1 : (1 : Int32).toInt = 1 := by decide
        have t_x_9 : x_9.toInt = (x_8 : Int32).toInt - (1 : Int32).toInt := by rw [ex_9]; exact sub_toInt (by omega) (by omega)
        have t_x_23 : x_23.toInt = (x_22 : Int32).toInt - (1 : Int32).toInt := by rw [ex_23]; exact sub_toInt (by omega) (by omega)
        omega
      exact retI (v := 0) hx hb hr hlk (rfl) hP hD hS (sv_28, sv_29, sv_30, (Mf 6)) ⟨_, rfl, hp_51, ha_50, (fun h => absurd h (by decide))⟩ [1, 2, 0] rfl rfl dX12_isWatchHere_44 (Nat.le_of_ble_eq_true rfl) (Nat.le_of_ble_eq_true rfl) rfl
  · skip
    refine lv_iconst (v := 0) hx hb dX12_isWatchHere_20 (by decide) ?_
    have ha_52 : ((Mv 2) : Int32).toInt ≤ (sv_14 : Int32).toInt ∧ (sv_14 : Int32).toInt ≤ ((Mv 0) : Int32).toInt := by
      have z_1 := congrArg Int32.toInt c_21
      have y_0 : (0 : Int32).toInt = 0 := by decide
      have y_1 : (1 : Int32).toInt = 1 := by decide
      have t_x_9 : x_9.toInt = (x_8 : Int32).toInt - (1 : Int32).toInt := by rw [ex_9]; exact sub_toInt (by omega) (by omega)
      refine ⟨?_, ?_⟩ <;> omega
    have hp_53 : (((0 : Int32).toInt = 0 ∧ ¬ (sv_15 : Int32).toInt = 0) ∨ (0 : Int32).toInt = 1) := by
      have z_1 := congrArg Int32.toInt c_21
      have y_0 : (0 : Int32).toInt = 0 := by decide
      have y_1 : (1 : Int32).toInt = 1 := by decide
      have t_x_9 : x_9.toInt = (x_8 : Int32).toInt - (1 : Int32).toInt := by rw [ex_9]; exact sub_toInt (by omega) (by omega)
      omega
    exact retI (v := 0) hx hb hr hlk (rfl) hP hD hS (sv_14, sv_15, sv_16, (Mf 6)) ⟨_, rfl, hp_53, ha_52, (fun h => absurd h (by decide))⟩ [1, 2, 0] rfl rfl dX12_isWatchHere_21 (Nat.le_of_ble_eq_true rfl) (Nat.le_of_ble_eq_true rfl) rfl
set_option maxHeartbeats 4000000 in
set_option maxRecDepth 100000 in
theorem ct_X12_bookLineHere (l : Launch) (D : va_G) (tc : Nat → ClassId) (sk : (Nat → Nat) × (Nat → Nat)) (Ma : Nat → Nat) (Mv : Nat → Int32) (Mf : Nat → Nat → Int32) (Mj : Nat → Int64) (x1 : Int32) (h_nx : 0 ≤ ((Mv 2) : Int32).toInt ∧ ((Mv 2) : Int32).toInt ≤ ((Mv 0) : Int32).toInt ∧ ((Mv 0) : Int32).toInt ≤ 400) (h_at : 0 ≤ x1.toInt ∧ x1.toInt ≤ 400) (h_ro : RdO (Mf 6)) : Ct l yX12_bookLineHere cX12_bookLineHere 2 (some .boolean) { frames := 4, cells := 0, slots := 0, locals := 94 } D tc sk [.ref (Ma 0), .int x1] [((Ma 0), .inr (12, [.ref (Ma 1), .int (Mv 0), .int (Mv 1), .ref (Ma 2), .ref (Ma 3), .ref (Ma 4), .ref (Ma 5), .ref (Ma 6), .int (Mv 2), .int (Mv 3), .int (Mv 4), .int (Mv 5), .int (Mv 6), .int (Mv 7), .int (Mv 8), .ref (Ma 7), .int (Mv 9), .ref (Ma 8), .int (Mv 10), .ref (Ma 9), .ref (Ma 10), .int (Mv 11), .int (Mv 12), .int (Mv 13), .ref (Ma 11), .int (Mv 14), .ref (Ma 12), .ref (Ma 13), .ref (Ma 14), .ref (Ma 15), .ref (Ma 16), .long (Mj 0), .ref (Ma 17), .ref (Ma 18), .ref (Ma 19), .ref (Ma 20)])), ((Ma 1), .inl (tc 2, 400, .inl (Mf 1))), ((Ma 6), .inl (tc 0, 95, .inl (Mf 6)))] (fun (v : Option Value) (u : (Int32) × (Int32) × (Int32) × (Nat → Int32)) => match u with | (oo0x1, oo0x2, oo0x3, oo0x4) => ∃ r : Int32, v = some (.int r) ∧ (((r.toInt = 0 ∧ ¬ (oo0x2 : Int32).toInt = 0) ∨ r.toInt = 1)) ∧ (((Mv 2) : Int32).toInt ≤ (oo0x1 : Int32).toInt ∧ (oo0x1 : Int32).toInt ≤ ((Mv 0) : Int32).toInt) ∧ (r.toInt = 1 → (RdO oo0x4))) (fun (u : (Int32) × (Int32) × (Int32) × (Nat → Int32)) => match u with | (oo0x1, oo0x2, oo0x3, oo0x4) => [((Ma 0), .inr (12, [.ref (Ma 1), .int (Mv 0), .int (Mv 1), .ref (Ma 2), .ref (Ma 3), .ref (Ma 4), .ref (Ma 5), .ref (Ma 6), .int oo0x1, .int oo0x2, .int oo0x3, .int (Mv 5), .int (Mv 6), .int (Mv 7), .int (Mv 8), .ref (Ma 7), .int (Mv 9), .ref (Ma 8), .int (Mv 10), .ref (Ma 9), .ref (Ma 10), .int (Mv 11), .int (Mv 12), .int (Mv 13), .ref (Ma 11), .int (Mv 14), .ref (Ma 12), .ref (Ma 13), .ref (Ma 14), .ref (Ma 15), .ref (Ma 16), .long (Mj 0), .ref (Ma 17), .ref (Ma 18), .ref (Ma 19), .ref (Ma 20)])), ((Ma 1), .inl (tc 2, 400, .inl (Mf 1))), ((Ma 6), .inl (tc 0, 95, .inl oo0x4))]) 0 0 := by
  refine Ct.start (by decide) (Nat.le_of_ble_eq_true rfl) (fun p e s m below meth c A ls hx hb hr hlk hin hml hown hts hK hX hP hD hA hl hS => ?_)
  have hl : lv_has ls 2 [(0, .ref (Ma 0)), (1, .int x1)] := hl
  have ar_h_ro := RdO.ar h_ro
  refine lv_aload_n hx hb dX12_bookLineHere_0 rfl (lv_at hl 0 rfl) ?_
  refine lv_ldc2 hx hb hown (hts _ k_1216) dX12_bookLineHere_1 ?_
  have ha_1 : 0 ≤ ((Mv 2) : Int32).toInt ∧ ((Mv 2) : Int32).toInt ≤ ((Mv 0) : Int32).toInt ∧ ((Mv 0) : Int32).toInt ≤ 400 := by
    refine ⟨?_, ?_, ?_⟩ <;> omega
  refine cV (a := (Ma 0)) (As := [.long 1651470187]) (rest := []) (wr := [((Ma 6), .inl (tc 0, 95, .inl (Mf 6)))]) ⟨hx, hb, hml, hown, hts⟩ hK hX hA (ct_X12_isWord l D tc sk Ma Mv Mf Mj 1651470187 ha_1) k_1220 k_1217 k_1219 k_29 k_106 pl_X12_isWord ⟨Nat.le_of_ble_eq_true rfl, Nat.le_of_ble_eq_true rfl⟩ rfl rfl (va_recv hK hP (ci := 12) (q0 := 0) rfl rfl) hP hD hS [0, 1] [2] rfl rfl rfl rfl rfl (by decide) rfl hl.1 rfl (Nat.le_of_ble_eq_true rfl) dX12_bookLineHere_4 ⟨Nat.le_of_ble_eq_true rfl, Nat.le_of_ble_eq_true rfl⟩ (fun v_2 u_3 H locs hv_4 hP hD hS => ?_)
  obtain ⟨sv_5, rfl⟩ : ∃ z, z = u_3 := ⟨_, rfl⟩
  obtain ⟨r_9, rfl, he_10, pf_6, pf_7, pf_8, hm_12⟩ := hv_4
  have he_10 : (r_9.toInt = 0 ∨ r_9.toInt = 1) := he_10
  have pf_6 : ((Mv 2) : Int32).toInt ≤ (sv_5 : Int32).toInt ∧ (sv_5 : Int32).toInt ≤ ((Mv 0) : Int32).toInt := pf_6
  have pf_7 : NSq (Mf 1) (Mv 0) sv_5 := pf_7
  have pf_8 : Stl (Mf 1) (Mv 0) (Mv 2) sv_5 := pf_8
  refine W.eq (g2 := F0 m 7 ls [.int r_9]) rfl ?_
  have hP : va_P D classes [((Ma 6), .inl (tc 0, 95, .inl (Mf 6))), ((Ma 0), .inr (12, [.ref (Ma 1), .int (Mv 0), .int (Mv 1), .ref (Ma 2), .ref (Ma 3), .ref (Ma 4), .ref (Ma 5), .ref (Ma 6), .int sv_5, .int (Mv 3), .int (Mv 4), .int (Mv 5), .int (Mv 6), .int (Mv 7), .int (Mv 8), .ref (Ma 7), .int (Mv 9), .ref (Ma 8), .int (Mv 10), .ref (Ma 9), .ref (Ma 10), .int (Mv 11), .int (Mv 12), .int (Mv 13), .ref (Ma 11), .int (Mv 14), .ref (Ma 12), .ref (Ma 13), .ref (Ma 14), .ref (Ma 15), .ref (Ma 16), .long (Mj 0), .ref (Ma 17), .ref (Ma 18), .ref (Ma 19), .ref (Ma 20)])), ((Ma 1), .inl (tc 2, 400, .inl (Mf 1)))] H := hP
  have hD : va_D A [((Ma 6), .inl (tc 0, 95, .inl (Mf 6))), ((Ma 0), .inr (12, [.ref (Ma 1), .int (Mv 0), .int (Mv 1), .ref (Ma 2), .ref (Ma 3), .ref (Ma 4), .ref (Ma 5), .ref (Ma 6), .int sv_5, .int (Mv 3), .int (Mv 4), .int (Mv 5), .int (Mv 6), .int (Mv 7), .int (Mv 8), .ref (Ma 7), .int (Mv 9), .ref (Ma 8), .int (Mv 10), .ref (Ma 9), .ref (Ma 10), .int (Mv 11), .int (Mv 12), .int (Mv 13), .ref (Ma 11), .int (Mv 14), .ref (Ma 12), .ref (Ma 13), .ref (Ma 14), .ref (Ma 15), .ref (Ma 16), .long (Mj 0), .ref (Ma 17), .ref (Ma 18), .ref (Ma 19), .ref (Ma 20)])), ((Ma 1), .inl (tc 2, 400, .inl (Mf 1)))] := hD
  refine lv_if_eq (tgt := 16) hx hb dX12_bookLineHere_7 (by decide) (fun c_13 => ?_) (fun c_13 => ?_)
  · skip
    refine lv_aload_n hx hb dX12_bookLineHere_16 rfl (lv_at hl 0 rfl) ?_
    refine gf_X12_26 hx hb hts hown hK hP 1 rfl rfl dX12_bookLineHere_17 ?_
    refine lv_iconst (v := 0) hx hb dX12_bookLineHere_20 (by decide) ?_
    refine va_iald hx hb hK hP 0 0 rfl rfl (vin_dec (by decide +kernel)) dX12_bookLineHere_21 ?_
    refine lv_topi (fun x_14 ex_14 => ?_)
    have lx_14 : x_14.toInt = ((Mf 6) 0).toInt := congrArg Int32.toInt ex_14
    refine lv_if_ne (tgt := 32) hx hb dX12_bookLineHere_22 (by decide) (fun c_15 => ?_) (fun c_15 => ?_)
    · skip
      refine lv_aload_n hx hb dX12_bookLineHere_32 rfl (lv_at hl 0 rfl) ?_
      refine lv_ldc2 hx hb hown (hts _ k_1225) dX12_bookLineHere_33 ?_
      have ha_16 : 0 ≤ (sv_5 : Int32).toInt ∧ (sv_5 : Int32).toInt ≤ ((Mv 0) : Int32).toInt ∧ ((Mv 0) : Int32).toInt ≤ 400 := by
        have z_1 := congrArg Int32.toInt c_13
        have z_2 : ¬ (x_14 : Int32).toInt = (0 : Int32).toInt := fun z => c_15 (Int32.toInt_inj.mp z)
        have y_0 : (0 : Int32).toInt = 0 := by decide
        refine ⟨?_, ?_, ?_⟩ <;> omega
      refine cV (a := (Ma 0)) (As := [.long 7564153]) (rest := []) (wr := [((Ma 6), .inl (tc 0, 95, .inl (Mf 6)))]) ⟨hx, hb, hml, hown, hts⟩ hK hX hA (ct_X12_isWord l D tc sk Ma (fun k => ([(Mv 0), (Mv 1), sv_5, (Mv 3), (Mv 4), (Mv 5), (Mv 6), (Mv 7), (Mv 8), (Mv 9), (Mv 10), (Mv 11), (Mv 12), (Mv 13), (Mv 14)] : List (Int32)).getD k 0) Mf Mj 7564153 ha_16) k_1220 k_1217 k_1219 k_29 k_106 pl_X12_isWord ⟨Nat.le_of_ble_eq_true rfl, Nat.le_of_ble_eq_true rfl⟩ rfl rfl (va_recv hK hP (ci := 12) (q0 := 1) rfl rfl) hP hD hS [1, 2] [0] rfl rfl rfl rfl rfl (by decide) rfl hl.1 rfl (Nat.le_of_ble_eq_true rfl) dX12_bookLineHere_36 ⟨Nat.le_of_ble_eq_true rfl, Nat.le_of_ble_eq_true rfl⟩ (fun v_17 u_18 H locs hv_19 hP hD hS => ?_)
      obtain ⟨sv_20, rfl⟩ : ∃ z, z = u_18 := ⟨_, rfl⟩
      obtain ⟨r_24, rfl, he_25, pf_21, pf_22, pf_23, hm_27⟩ := hv_19
      have he_25 : (r_24.toInt = 0 ∨ r_24.toInt = 1) := he_25
      have pf_21 : (sv_5 : Int32).toInt ≤ (sv_20 : Int32).toInt ∧ (sv_20 : Int32).toInt ≤ ((Mv 0) : Int32).toInt := pf_21
      have pf_22 : NSq (Mf 1) (Mv 0) sv_20 := pf_22
      have pf_23 : Stl (Mf 1) (Mv 0) sv_5 sv_20 := pf_23
      have ar_pf_23 := Stl.or pf_23 pf_7
      refine W.eq (g2 := F0 m 39 ls [.int r_24]) rfl ?_
      have hP : va_P D classes [((Ma 6), .inl (tc 0, 95, .inl (Mf 6))), ((Ma 0), .inr (12, [.ref (Ma 1), .int (Mv 0), .int (Mv 1), .ref (Ma 2), .ref (Ma 3), .ref (Ma 4), .ref (Ma 5), .ref (Ma 6), .int sv_20, .int (Mv 3), .int (Mv 4), .int (Mv 5), .int (Mv 6), .int (Mv 7), .int (Mv 8), .ref (Ma 7), .int (Mv 9), .ref (Ma 8), .int (Mv 10), .ref (Ma 9), .ref (Ma 10), .int (Mv 11), .int (Mv 12), .int (Mv 13), .ref (Ma 11), .int (Mv 14), .ref (Ma 12), .ref (Ma 13), .ref (Ma 14), .ref (Ma 15), .ref (Ma 16), .long (Mj 0), .ref (Ma 17), .ref (Ma 18), .ref (Ma 19), .ref (Ma 20)])), ((Ma 1), .inl (tc 2, 400, .inl (Mf 1)))] H := hP
      have hD : va_D A [((Ma 6), .inl (tc 0, 95, .inl (Mf 6))), ((Ma 0), .inr (12, [.ref (Ma 1), .int (Mv 0), .int (Mv 1), .ref (Ma 2), .ref (Ma 3), .ref (Ma 4), .ref (Ma 5), .ref (Ma 6), .int sv_20, .int (Mv 3), .int (Mv 4), .int (Mv 5), .int (Mv 6), .int (Mv 7), .int (Mv 8), .ref (Ma 7), .int (Mv 9), .ref (Ma 8), .int (Mv 10), .ref (Ma 9), .ref (Ma 10), .int (Mv 11), .int (Mv 12), .int (Mv 13), .ref (Ma 11), .int (Mv 14), .ref (Ma 12), .ref (Ma 13), .ref (Ma 14), .ref (Ma 15), .ref (Ma 16), .long (Mj 0), .ref (Ma 17), .ref (Ma 18), .ref (Ma 19), .ref (Ma 20)])), ((Ma 1), .inl (tc 2, 400, .inl (Mf 1)))] := hD
      refine lv_if_eq (tgt := 47) hx hb dX12_bookLineHere_39 (by decide) (fun c_28 => ?_) (fun c_28 => ?_)
      · skip
        refine lv_aload_n hx hb dX12_bookLineHere_47 rfl (lv_at hl 0 rfl) ?_
        refine lv_ldc2 hx hb hown (hts _ k_1226) dX12_bookLineHere_48 ?_
        have ha_29 : 0 ≤ (sv_20 : Int32).toInt ∧ (sv_20 : Int32).toInt ≤ ((Mv 0) : Int32).toInt ∧ ((Mv 0) : Int32).toInt ≤ 400 := by
          have z_1 := congrArg Int32.toInt c_13
          have z_2 : ¬ (x_14 : Int32).toInt = (0 : Int32).toInt := fun z => c_15 (Int32.toInt_inj.mp z)
          have z_3 := congrArg Int32.toInt c_28
          have y_0 : (0 : Int32).toInt = 0 := by decide
          refine ⟨?_, ?_, ?_⟩ <;> omega
        refine cV (a := (Ma 0)) (As := [.long 422877685106]) (rest := []) (wr := [((Ma 6), .inl (tc 0, 95, .inl (Mf 6)))]) ⟨hx, hb, hml, hown, hts⟩ hK hX hA (ct_X12_isWord l D tc sk Ma (fun k => ([(Mv 0), (Mv 1), sv_20, (Mv 3), (Mv 4), (Mv 5), (Mv 6), (Mv 7), (Mv 8), (Mv 9), (Mv 10), (Mv 11), (Mv 12), (Mv 13), (Mv 14)] : List (Int32)).getD k 0) Mf Mj 422877685106 ha_29) k_1220 k_1217 k_1219 k_29 k_106 pl_X12_isWord ⟨Nat.le_of_ble_eq_true rfl, Nat.le_of_ble_eq_true rfl⟩ rfl rfl (va_recv hK hP (ci := 12) (q0 := 1) rfl rfl) hP hD hS [1, 2] [0] rfl rfl rfl rfl rfl (by decide) rfl hl.1 rfl (Nat.le_of_ble_eq_true rfl) dX12_bookLineHere_51 ⟨Nat.le_of_ble_eq_true rfl, Nat.le_of_ble_eq_true rfl⟩ (fun v_30 u_31 H locs hv_32 hP hD hS => ?_)
        obtain ⟨sv_33, rfl⟩ : ∃ z, z = u_31 := ⟨_, rfl⟩
        obtain ⟨r_37, rfl, he_38, pf_34, pf_35, pf_36, hm_40⟩ := hv_32
        have he_38 : (r_37.toInt = 0 ∨ r_37.toInt = 1) := he_38
        have pf_34 : (sv_20 : Int32).toInt ≤ (sv_33 : Int32).toInt ∧ (sv_33 : Int32).toInt ≤ ((Mv 0) : Int32).toInt := pf_34
        have pf_35 : NSq (Mf 1) (Mv 0) sv_33 := pf_35
        have pf_36 : Stl (Mf 1) (Mv 0) sv_20 sv_33 := pf_36
        have ar_pf_36 := Stl.or pf_36 pf_22
        refine W.eq (g2 := F0 m 54 ls [.int r_37]) rfl ?_
        have hP : va_P D classes [((Ma 6), .inl (tc 0, 95, .inl (Mf 6))), ((Ma 0), .inr (12, [.ref (Ma 1), .int (Mv 0), .int (Mv 1), .ref (Ma 2), .ref (Ma 3), .ref (Ma 4), .ref (Ma 5), .ref (Ma 6), .int sv_33, .int (Mv 3), .int (Mv 4), .int (Mv 5), .int (Mv 6), .int (Mv 7), .int (Mv 8), .ref (Ma 7), .int (Mv 9), .ref (Ma 8), .int (Mv 10), .ref (Ma 9), .ref (Ma 10), .int (Mv 11), .int (Mv 12), .int (Mv 13), .ref (Ma 11), .int (Mv 14), .ref (Ma 12), .ref (Ma 13), .ref (Ma 14), .ref (Ma 15), .ref (Ma 16), .long (Mj 0), .ref (Ma 17), .ref (Ma 18), .ref (Ma 19), .ref (Ma 20)])), ((Ma 1), .inl (tc 2, 400, .inl (Mf 1)))] H := hP
        have hD : va_D A [((Ma 6), .inl (tc 0, 95, .inl (Mf 6))), ((Ma 0), .inr (12, [.ref (Ma 1), .int (Mv 0), .int (Mv 1), .ref (Ma 2), .ref (Ma 3), .ref (Ma 4), .ref (Ma 5), .ref (Ma 6), .int sv_33, .int (Mv 3), .int (Mv 4), .int (Mv 5), .int (Mv 6), .int (Mv 7), .int (Mv 8), .ref (Ma 7), .int (Mv 9), .ref (Ma 8), .int (Mv 10), .ref (Ma 9), .ref (Ma 10), .int (Mv 11), .int (Mv 12), .int (Mv 13), .ref (Ma 11), .int (Mv 14), .ref (Ma 12), .ref (Ma 13), .ref (Ma 14), .ref (Ma 15), .ref (Ma 16), .long (Mj 0), .ref (Ma 17), .ref (Ma 18), .ref (Ma 19), .ref (Ma 20)])), ((Ma 1), .inl (tc 2, 400, .inl (Mf 1)))] := hD
        refine lv_if_eq (tgt := 65) hx hb dX12_bookLineHere_54 (by decide) (fun c_41 => ?_) (fun c_41 => ?_)
        · skip
          refine lv_aload_n hx hb dX12_bookLineHere_65 rfl (lv_at hl 0 rfl) ?_
          have ha_42 : 0 ≤ (sv_33 : Int32).toInt ∧ (sv_33 : Int32).toInt ≤ ((Mv 0) : Int32).toInt ∧ ((Mv 0) : Int32).toInt ≤ 400 := by
            have z_1 := congrArg Int32.toInt c_13
            have z_2 : ¬ (x_14 : Int32).toInt = (0 : Int32).toInt := fun z => c_15 (Int32.toInt_inj.mp z)
            have z_3 := congrArg Int32.toInt c_28
            have z_4 := congrArg Int32.toInt c_41
            have y_0 : (0 : Int32).toInt = 0 := by decide
            refine ⟨?_, ?_, ?_⟩ <;> omega
          have ha_43 : ((Mf 6) 0).toInt = 1 := by
            have z_1 := congrArg Int32.toInt c_13
            have z_2 : ¬ (x_14 : Int32).toInt = (0 : Int32).toInt := fun z => c_15 (Int32.toInt_inj.mp z)
            have z_3 := congrArg Int32.toInt c_28
            have z_4 := congrArg Int32.toInt c_41
            have y_0 : (0 : Int32).toInt = 0 := by decide
            omega
          refine cV (a := (Ma 0)) (As := []) (rest := []) (wr := []) ⟨hx, hb, hml, hown, hts⟩ hK hX hA (ct_X12_isWatchHere l D tc sk Ma (fun k => ([(Mv 0), (Mv 1), sv_33, (Mv 3), (Mv 4), (Mv 5), (Mv 6), (Mv 7), (Mv 8), (Mv 9), (Mv 10), (Mv 11), (Mv 12), (Mv 13), (Mv 14)] : List (Int32)).getD k 0) Mf Mj ha_42 h_ro ha_43) k_1271 k_1268 k_1270 k_40 k_106 pl_X12_isWatchHere ⟨Nat.le_of_ble_eq_true rfl, Nat.le_of_ble_eq_true rfl⟩ rfl rfl (va_recv hK hP (ci := 12) (q0 := 1) rfl rfl) hP hD hS [1, 2, 0] [] rfl rfl rfl rfl rfl (by decide) rfl hl.1 rfl (Nat.le_of_ble_eq_true rfl) dX12_bookLineHere_66 ⟨Nat.le_of_ble_eq_true rfl, Nat.le_of_ble_eq_true rfl⟩ (fun v_44 u_45 H locs hv_46 hP hD hS => ?_)
          obtain ⟨sv_47, sv_48, sv_49, sv_50⟩ := u_45
          obtain ⟨r_52, rfl, he_53, pf_51, hm_55⟩ := hv_46
          have he_53 : ((r_52.toInt = 0 ∧ ¬ (sv_48 : Int32).toInt = 0) ∨ r_52.toInt = 1) := he_53
          have pf_51 : (sv_33 : Int32).toInt ≤ (sv_47 : Int32).toInt ∧ (sv_47 : Int32).toInt ≤ ((Mv 0) : Int32).toInt := pf_51
          refine W.eq (g2 := F0 m 69 ls [.int r_52]) rfl ?_
          have hP : va_P D classes [((Ma 0), .inr (12, [.ref (Ma 1), .int (Mv 0), .int (Mv 1), .ref (Ma 2), .ref (Ma 3), .ref (Ma 4), .ref (Ma 5), .ref (Ma 6), .int sv_47, .int sv_48, .int sv_49, .int (Mv 5), .int (Mv 6), .int (Mv 7), .int (Mv 8), .ref (Ma 7), .int (Mv 9), .ref (Ma 8), .int (Mv 10), .ref (Ma 9), .ref (Ma 10), .int (Mv 11), .int (Mv 12), .int (Mv 13), .ref (Ma 11), .int (Mv 14), .ref (Ma 12), .ref (Ma 13), .ref (Ma 14), .ref (Ma 15), .ref (Ma 16), .long (Mj 0), .ref (Ma 17), .ref (Ma 18), .ref (Ma 19), .ref (Ma 20)])), ((Ma 1), .inl (tc 2, 400, .inl (Mf 1))), ((Ma 6), .inl (tc 0, 95, .inl sv_50))] H := hP
          have hD : va_D A [((Ma 0), .inr (12, [.ref (Ma 1), .int (Mv 0), .int (Mv 1), .ref (Ma 2), .ref (Ma 3), .ref (Ma 4), .ref (Ma 5), .ref (Ma 6), .int sv_47, .int sv_48, .int sv_49, .int (Mv 5), .int (Mv 6), .int (Mv 7), .int (Mv 8), .ref (Ma 7), .int (Mv 9), .ref (Ma 8), .int (Mv 10), .ref (Ma 9), .ref (Ma 10), .int (Mv 11), .int (Mv 12), .int (Mv 13), .ref (Ma 11), .int (Mv 14), .ref (Ma 12), .ref (Ma 13), .ref (Ma 14), .ref (Ma 15), .ref (Ma 16), .long (Mj 0), .ref (Ma 17), .ref (Ma 18), .ref (Ma 19), .ref (Ma 20)])), ((Ma 1), .inl (tc 2, 400, .inl (Mf 1))), ((Ma 6), .inl (tc 0, 95, .inl sv_50))] := hD
          have ha_56 : ((Mv 2) : Int32).toInt ≤ (sv_47 : Int32).toInt ∧ (sv_47 : Int32).toInt ≤ ((Mv 0) : Int32).toInt := by
            have z_1 := congrArg Int32.toInt c_13
            have z_2 : ¬ (x_14 : Int32).toInt = (0 : Int32).toInt := fun z => c_15 (Int32.toInt_inj.mp z)
            have z_3 := congrArg Int32.toInt c_28
            have z_4 := congrArg Int32.toInt c_41
            have y_0 : (0 : Int32).toInt = 0 := by decide
            refine ⟨?_, ?_⟩ <;> omega
          have hb_57 : (r_52 : Int32).toInt = 0 ∨ (r_52 : Int32).toInt = 1 := by
            have z_1 := congrArg Int32.toInt c_13
            have z_2 : ¬ (x_14 : Int32).toInt = (0 : Int32).toInt := fun z => c_15 (Int32.toInt_inj.mp z)
            have z_3 := congrArg Int32.toInt c_28
            have z_4 := congrArg Int32.toInt c_41
            have y_0 : (0 : Int32).toInt = 0 := by decide
            omega
          have hp_58 : (((r_52 : Int32).toInt = 0 ∧ ¬ (sv_48 : Int32).toInt = 0) ∨ (r_52 : Int32).toInt = 1) := by
            have z_1 := congrArg Int32.toInt c_13
            have z_2 : ¬ (x_14 : Int32).toInt = (0 : Int32).toInt := fun z => c_15 (Int32.toInt_inj.mp z)
            have z_3 := congrArg Int32.toInt c_28
            have z_4 := congrArg Int32.toInt c_41
            have y_0 : (0 : Int32).toInt = 0 := by decide
            omega
          have hm_59 : (r_52 : Int32).toInt = 1 → (RdO sv_50) := by
            intro h1r
            obtain pf_60 := hm_55 h1r
            have pf_60 : RdO sv_50 := pf_60
            have ar_pf_60 := RdO.ar pf_60
            exact pf_60
          exact retI (v := r_52) hx hb hr hlk (nar01 hb_57) hP hD hS (sv_47, sv_48, sv_49, sv_50) ⟨_, rfl, hp_58, ha_56, hm_59⟩ [0, 1, 2] rfl rfl dX12_bookLineHere_69 (Nat.le_of_ble_eq_true rfl) (Nat.le_of_ble_eq_true rfl) rfl
        · skip
          have hz_62 : (r_37 : Int32).toInt = 1 := by
            have z_1 := congrArg Int32.toInt c_13
            have z_2 : ¬ (x_14 : Int32).toInt = (0 : Int32).toInt := fun z => c_15 (Int32.toInt_inj.mp z)
            have z_3 := congrArg Int32.toInt c_28
            have z_4 : ¬ (r_37 : Int32).toInt = (0 : Int32).toInt := fun z => c_41 (Int32.toInt_inj.mp z)
            have y_0 : (0 : Int32).toInt = 0 := by decide
            omega
          obtain pf_61 := hm_40 hz_62
          have pf_61 : Ltr (Mf 1) (Mv 0) sv_33 := pf_61
          have ar_pf_61 := pf_61.1
          refine lv_aload_n hx hb dX12_bookLineHere_57 rfl (lv_at hl 0 rfl) ?_
          refine lv_iload_n hx hb dX12_bookLineHere_58 rfl (lv_at hl 1 rfl) ?_
          have ha_63 : 0 ≤ (sv_33 : Int32).toInt ∧ (sv_33 : Int32).toInt ≤ ((Mv 0) : Int32).toInt ∧ ((Mv 0) : Int32).toInt ≤ 400 := by
            have z_1 := congrArg Int32.toInt c_13
            have z_2 : ¬ (x_14 : Int32).toInt = (0 : Int32).toInt := fun z => c_15 (Int32.toInt_inj.mp z)
            have z_3 := congrArg Int32.toInt c_28
            have z_4 : ¬ (r_37 : Int32).toInt = (0 : Int32).toInt := fun z => c_41 (Int32.toInt_inj.mp z)
            have y_0 : (0 : Int32).toInt = 0 := by decide
            refine ⟨?_, ?_, ?_⟩ <;> omega
          have ha_64 : 0 ≤ x1.toInt ∧ x1.toInt ≤ 400 := by
            have z_1 := congrArg Int32.toInt c_13
            have z_2 : ¬ (x_14 : Int32).toInt = (0 : Int32).toInt := fun z => c_15 (Int32.toInt_inj.mp z)
            have z_3 := congrArg Int32.toInt c_28
            have z_4 : ¬ (r_37 : Int32).toInt = (0 : Int32).toInt := fun z => c_41 (Int32.toInt_inj.mp z)
            have y_0 : (0 : Int32).toInt = 0 := by decide
            refine ⟨?_, ?_⟩ <;> omega
          have ha_65 : ((Mf 6) 0).toInt = 1 := by
            have z_1 := congrArg Int32.toInt c_13
            have z_2 : ¬ (x_14 : Int32).toInt = (0 : Int32).toInt := fun z => c_15 (Int32.toInt_inj.mp z)
            have z_3 := congrArg Int32.toInt c_28
            have z_4 : ¬ (r_37 : Int32).toInt = (0 : Int32).toInt := fun z => c_41 (Int32.toInt_inj.mp z)
            have y_0 : (0 : Int32).toInt = 0 := by decide
            omega
          refine cV (a := (Ma 0)) (As := [.int x1]) (rest := []) (wr := []) ⟨hx, hb, hml, hown, hts⟩ hK hX hA (ct_X12_isBuyerHere l D tc sk Ma (fun k => ([(Mv 0), (Mv 1), sv_33, (Mv 3), (Mv 4), (Mv 5), (Mv 6), (Mv 7), (Mv 8), (Mv 9), (Mv 10), (Mv 11), (Mv 12), (Mv 13), (Mv 14)] : List (Int32)).getD k 0) Mf Mj x1 ha_63 ha_64 h_ro ha_65) k_1267 k_1264 k_1266 k_39 k_106 pl_X12_isBuyerHere ⟨Nat.le_of_ble_eq_true rfl, Nat.le_of_ble_eq_true rfl⟩ rfl rfl (va_recv hK hP (ci := 12) (q0 := 1) rfl rfl) hP hD hS [1, 2, 0] [] rfl rfl rfl rfl rfl (by decide) rfl hl.1 rfl (Nat.le_of_ble_eq_true rfl) dX12_bookLineHere_59 ⟨Nat.le_of_ble_eq_true rfl, Nat.le_of_ble_eq_true rfl⟩ (fun v_66 u_67 H locs hv_68 hP hD hS => ?_)
          obtain ⟨sv_69, sv_70, sv_71, sv_72⟩ := u_67
          obtain ⟨r_74, rfl, he_75, pf_73, hm_77⟩ := hv_68
          have he_75 : ((r_74.toInt = 0 ∧ ¬ (sv_70 : Int32).toInt = 0) ∨ r_74.toInt = 1) := he_75
          have pf_73 : (sv_33 : Int32).toInt ≤ (sv_69 : Int32).toInt ∧ (sv_69 : Int32).toInt ≤ ((Mv 0) : Int32).toInt := pf_73
          refine W.eq (g2 := F0 m 62 ls [.int r_74]) rfl ?_
          have hP : va_P D classes [((Ma 0), .inr (12, [.ref (Ma 1), .int (Mv 0), .int (Mv 1), .ref (Ma 2), .ref (Ma 3), .ref (Ma 4), .ref (Ma 5), .ref (Ma 6), .int sv_69, .int sv_70, .int sv_71, .int (Mv 5), .int (Mv 6), .int (Mv 7), .int (Mv 8), .ref (Ma 7), .int (Mv 9), .ref (Ma 8), .int (Mv 10), .ref (Ma 9), .ref (Ma 10), .int (Mv 11), .int (Mv 12), .int (Mv 13), .ref (Ma 11), .int (Mv 14), .ref (Ma 12), .ref (Ma 13), .ref (Ma 14), .ref (Ma 15), .ref (Ma 16), .long (Mj 0), .ref (Ma 17), .ref (Ma 18), .ref (Ma 19), .ref (Ma 20)])), ((Ma 1), .inl (tc 2, 400, .inl (Mf 1))), ((Ma 6), .inl (tc 0, 95, .inl sv_72))] H := hP
          have hD : va_D A [((Ma 0), .inr (12, [.ref (Ma 1), .int (Mv 0), .int (Mv 1), .ref (Ma 2), .ref (Ma 3), .ref (Ma 4), .ref (Ma 5), .ref (Ma 6), .int sv_69, .int sv_70, .int sv_71, .int (Mv 5), .int (Mv 6), .int (Mv 7), .int (Mv 8), .ref (Ma 7), .int (Mv 9), .ref (Ma 8), .int (Mv 10), .ref (Ma 9), .ref (Ma 10), .int (Mv 11), .int (Mv 12), .int (Mv 13), .ref (Ma 11), .int (Mv 14), .ref (Ma 12), .ref (Ma 13), .ref (Ma 14), .ref (Ma 15), .ref (Ma 16), .long (Mj 0), .ref (Ma 17), .ref (Ma 18), .ref (Ma 19), .ref (Ma 20)])), ((Ma 1), .inl (tc 2, 400, .inl (Mf 1))), ((Ma 6), .inl (tc 0, 95, .inl sv_72))] := hD
          refine lv_goto (tgt := 69) hx hb dX12_bookLineHere_62 (by decide) ?_
          have ha_78 : ((Mv 2) : Int32).toInt ≤ (sv_69 : Int32).toInt ∧ (sv_69 : Int32).toInt ≤ ((Mv 0) : Int32).toInt := by
            have z_1 := congrArg Int32.toInt c_13
            have z_2 : ¬ (x_14 : Int32).toInt = (0 : Int32).toInt := fun z => c_15 (Int32.toInt_inj.mp z)
            have z_3 := congrArg Int32.toInt c_28
            have z_4 : ¬ (r_37 : Int32).toInt = (0 : Int32).toInt := fun z => c_41 (Int32.toInt_inj.mp z)
            have y_0 : (0 : Int32).toInt = 0 := by decide
            refine ⟨?_, ?_⟩ <;> omega
          have hb_79 : (r_74 : Int32).toInt = 0 ∨ (r_74 : Int32).toInt = 1 := by
            have z_1 := congrArg Int32.toInt c_13
            have z_2 : ¬ (x_14 : Int32).toInt = (0 : Int32).toInt := fun z => c_15 (Int32.toInt_inj.mp z)
            have z_3 := congrArg Int32.toInt c_28
            have z_4 : ¬ (r_37 : Int32).toInt = (0 : Int32).toInt := fun z => c_41 (Int32.toInt_inj.mp z)
            have y_0 : (0 : Int32).toInt = 0 := by decide
            omega
          have hp_80 : (((r_74 : Int32).toInt = 0 ∧ ¬ (sv_70 : Int32).toInt = 0) ∨ (r_74 : Int32).toInt = 1) := by
            have z_1 := congrArg Int32.toInt c_13
            have z_2 : ¬ (x_14 : Int32).toInt = (0 : Int32).toInt := fun z => c_15 (Int32.toInt_inj.mp z)
            have z_3 := congrArg Int32.toInt c_28
            have z_4 : ¬ (r_37 : Int32).toInt = (0 : Int32).toInt := fun z => c_41 (Int32.toInt_inj.mp z)
            have y_0 : (0 : Int32).toInt = 0 := by decide
            omega
          have hm_81 : (r_74 : Int32).toInt = 1 → (RdO sv_72) := by
            intro h1r
            obtain pf_82 := hm_77 h1r
            have pf_82 : RdO sv_72 := pf_82
            have ar_pf_82 := RdO.ar pf_82
            exact pf_82
          exact retI (v := r_74) hx hb hr hlk (nar01 hb_79) hP hD hS (sv_69, sv_70, sv_71, sv_72) ⟨_, rfl, hp_80, ha_78, hm_81⟩ [0, 1, 2] rfl rfl dX12_bookLineHere_69 (Nat.le_of_ble_eq_true rfl) (Nat.le_of_ble_eq_true rfl) rfl
      · skip
        have hz_84 : (r_24 : Int32).toInt = 1 := by
          have z_1 := congrArg Int32.toInt c_13
          have z_2 : ¬ (x_14 : Int32).toInt = (0 : Int32).toInt := fun z => c_15 (Int32.toInt_inj.mp z)
          have z_3 : ¬ (r_24 : Int32).toInt = (0 : Int32).toInt := fun z => c_28 (Int32.toInt_inj.mp z)
          have y_0 : (0 : Int32).toInt = 0 := by decide
          omega
        obtain pf_83 := hm_27 hz_84
        have pf_83 : Ltr (Mf 1) (Mv 0) sv_20 := pf_83
        have ar_pf_83 := pf_83.1
        refine lv_aload_n hx hb dX12_bookLineHere_42 rfl (lv_at hl 0 rfl) ?_
        have ha_85 : 0 ≤ (sv_20 : Int32).toInt ∧ (sv_20 : Int32).toInt ≤ ((Mv 0) : Int32).toInt ∧ ((Mv 0) : Int32).toInt ≤ 400 := by
          have z_1 := congrArg Int32.toInt c_13
          have z_2 : ¬ (x_14 : Int32).toInt = (0 : Int32).toInt := fun z => c_15 (Int32.toInt_inj.mp z)
          have z_3 : ¬ (r_24 : Int32).toInt = (0 : Int32).toInt := fun z => c_28 (Int32.toInt_inj.mp z)
          have y_0 : (0 : Int32).toInt = 0 := by decide
          refine ⟨?_, ?_, ?_⟩ <;> omega
        have ha_86 : ((Mf 6) 0).toInt = 1 := by
          have z_1 := congrArg Int32.toInt c_13
          have z_2 : ¬ (x_14 : Int32).toInt = (0 : Int32).toInt := fun z => c_15 (Int32.toInt_inj.mp z)
          have z_3 : ¬ (r_24 : Int32).toInt = (0 : Int32).toInt := fun z => c_28 (Int32.toInt_inj.mp z)
          have y_0 : (0 : Int32).toInt = 0 := by decide
          omega
        refine cV (a := (Ma 0)) (As := []) (rest := []) (wr := []) ⟨hx, hb, hml, hown, hts⟩ hK hX hA (ct_X12_isSkyHere l D tc sk Ma (fun k => ([(Mv 0), (Mv 1), sv_20, (Mv 3), (Mv 4), (Mv 5), (Mv 6), (Mv 7), (Mv 8), (Mv 9), (Mv 10), (Mv 11), (Mv 12), (Mv 13), (Mv 14)] : List (Int32)).getD k 0) Mf Mj ha_85 h_ro ha_86) k_1263 k_1260 k_1262 k_38 k_106 pl_X12_isSkyHere ⟨Nat.le_of_ble_eq_true rfl, Nat.le_of_ble_eq_true rfl⟩ rfl rfl (va_recv hK hP (ci := 12) (q0 := 1) rfl rfl) hP hD hS [1, 2, 0] [] rfl rfl rfl rfl rfl (by decide) rfl hl.1 rfl (Nat.le_of_ble_eq_true rfl) dX12_bookLineHere_43 ⟨Nat.le_of_ble_eq_true rfl, Nat.le_of_ble_eq_true rfl⟩ (fun v_87 u_88 H locs hv_89 hP hD hS => ?_)
        obtain ⟨sv_90, sv_91, sv_92, sv_93⟩ := u_88
        obtain ⟨r_95, rfl, he_96, pf_94, hm_98⟩ := hv_89
        have he_96 : ((r_95.toInt = 0 ∧ ¬ (sv_91 : Int32).toInt = 0) ∨ r_95.toInt = 1) := he_96
        have pf_94 : (sv_20 : Int32).toInt ≤ (sv_90 : Int32).toInt ∧ (sv_90 : Int32).toInt ≤ ((Mv 0) : Int32).toInt := pf_94
        refine W.eq (g2 := F0 m 46 ls [.int r_95]) rfl ?_
        have hP : va_P D classes [((Ma 0), .inr (12, [.ref (Ma 1), .int (Mv 0), .int (Mv 1), .ref (Ma 2), .ref (Ma 3), .ref (Ma 4), .ref (Ma 5), .ref (Ma 6), .int sv_90, .int sv_91, .int sv_92, .int (Mv 5), .int (Mv 6), .int (Mv 7), .int (Mv 8), .ref (Ma 7), .int (Mv 9), .ref (Ma 8), .int (Mv 10), .ref (Ma 9), .ref (Ma 10), .int (Mv 11), .int (Mv 12), .int (Mv 13), .ref (Ma 11), .int (Mv 14), .ref (Ma 12), .ref (Ma 13), .ref (Ma 14), .ref (Ma 15), .ref (Ma 16), .long (Mj 0), .ref (Ma 17), .ref (Ma 18), .ref (Ma 19), .ref (Ma 20)])), ((Ma 1), .inl (tc 2, 400, .inl (Mf 1))), ((Ma 6), .inl (tc 0, 95, .inl sv_93))] H := hP
        have hD : va_D A [((Ma 0), .inr (12, [.ref (Ma 1), .int (Mv 0), .int (Mv 1), .ref (Ma 2), .ref (Ma 3), .ref (Ma 4), .ref (Ma 5), .ref (Ma 6), .int sv_90, .int sv_91, .int sv_92, .int (Mv 5), .int (Mv 6), .int (Mv 7), .int (Mv 8), .ref (Ma 7), .int (Mv 9), .ref (Ma 8), .int (Mv 10), .ref (Ma 9), .ref (Ma 10), .int (Mv 11), .int (Mv 12), .int (Mv 13), .ref (Ma 11), .int (Mv 14), .ref (Ma 12), .ref (Ma 13), .ref (Ma 14), .ref (Ma 15), .ref (Ma 16), .long (Mj 0), .ref (Ma 17), .ref (Ma 18), .ref (Ma 19), .ref (Ma 20)])), ((Ma 1), .inl (tc 2, 400, .inl (Mf 1))), ((Ma 6), .inl (tc 0, 95, .inl sv_93))] := hD
        have ha_99 : ((Mv 2) : Int32).toInt ≤ (sv_90 : Int32).toInt ∧ (sv_90 : Int32).toInt ≤ ((Mv 0) : Int32).toInt := by
          have z_1 := congrArg Int32.toInt c_13
          have z_2 : ¬ (x_14 : Int32).toInt = (0 : Int32).toInt := fun z => c_15 (Int32.toInt_inj.mp z)
          have z_3 : ¬ (r_24 : Int32).toInt = (0 : Int32).toInt := fun z => c_28 (Int32.toInt_inj.mp z)
          have y_0 : (0 : Int32).toInt = 0 := by decide
          refine ⟨?_, ?_⟩ <;> omega
        have hb_100 : (r_95 : Int32).toInt = 0 ∨ (r_95 : Int32).toInt = 1 := by
          have z_1 := congrArg Int32.toInt c_13
          have z_2 : ¬ (x_14 : Int32).toInt = (0 : Int32).toInt := fun z => c_15 (Int32.toInt_inj.mp z)
          have z_3 : ¬ (r_24 : Int32).toInt = (0 : Int32).toInt := fun z => c_28 (Int32.toInt_inj.mp z)
          have y_0 : (0 : Int32).toInt = 0 := by decide
          omega
        have hp_101 : (((r_95 : Int32).toInt = 0 ∧ ¬ (sv_91 : Int32).toInt = 0) ∨ (r_95 : Int32).toInt = 1) := by
          have z_1 := congrArg Int32.toInt c_13
          have z_2 : ¬ (x_14 : Int32).toInt = (0 : Int32).toInt := fun z => c_15 (Int32.toInt_inj.mp z)
          have z_3 : ¬ (r_24 : Int32).toInt = (0 : Int32).toInt := fun z => c_28 (Int32.toInt_inj.mp z)
          have y_0 : (0 : Int32).toInt = 0 := by decide
          omega
        have hm_102 : (r_95 : Int32).toInt = 1 → (RdO sv_93) := by
          intro h1r
          obtain pf_103 := hm_98 h1r
          have pf_103 : RdO sv_93 := pf_103
          have ar_pf_103 := RdO.ar pf_103
          exact pf_103
        exact retI (v := r_95) hx hb hr hlk (nar01 hb_100) hP hD hS (sv_90, sv_91, sv_92, sv_93) ⟨_, rfl, hp_101, ha_99, hm_102⟩ [0, 1, 2] rfl rfl dX12_bookLineHere_46 (Nat.le_of_ble_eq_true rfl) (Nat.le_of_ble_eq_true rfl) rfl
    · skip
      refine lv_aload_n hx hb dX12_bookLineHere_25 rfl (lv_at hl 0 rfl) ?_
      refine lv_iconst (v := 4) hx hb dX12_bookLineHere_26 (by decide) ?_
      refine lv_iload_n hx hb dX12_bookLineHere_27 rfl (lv_at hl 1 rfl) ?_
      have ha_104 : 0 ≤ (4 : Int32).toInt ∧ (4 : Int32).toInt ≤ 4 := by
        have z_1 := congrArg Int32.toInt c_13
        have z_2 := congrArg Int32.toInt c_15
        have y_0 : (0 : Int32).toInt = 0 := by decide
        have y_4 : (4 : Int32).toInt = 4 := by decide
        refine ⟨?_, ?_⟩ <;> omega
      have ha_105 : 0 ≤ x1.toInt ∧ x1.toInt ≤ 400 := by
        have z_1 := congrArg Int32.toInt c_13
        have z_2 := congrArg Int32.toInt c_15
        have y_0 : (0 : Int32).toInt = 0 := by decide
        refine ⟨?_, ?_⟩ <;> omega
      refine cV (a := (Ma 0)) (As := [.int 4, .int x1]) (rest := []) (wr := [((Ma 6), .inl (tc 0, 95, .inl (Mf 6))), ((Ma 1), .inl (tc 2, 400, .inl (Mf 1)))]) ⟨hx, hb, hml, hown, hts⟩ hK hX hA (ct_X12_fails l D tc sk Ma (fun k => ([(Mv 0), (Mv 1), sv_5, (Mv 3), (Mv 4), (Mv 5), (Mv 6), (Mv 7), (Mv 8), (Mv 9), (Mv 10), (Mv 11), (Mv 12), (Mv 13), (Mv 14)] : List (Int32)).getD k 0) Mj 4 x1 ha_104 ha_105) k_1232 k_1229 k_1231 k_31 k_106 pl_X12_fails ⟨Nat.le_of_ble_eq_true rfl, Nat.le_of_ble_eq_true rfl⟩ rfl rfl (va_recv hK hP (ci := 12) (q0 := 1) rfl rfl) hP hD hS [1] [0, 2] rfl rfl rfl rfl rfl (by decide) rfl hl.1 rfl (Nat.le_of_ble_eq_true rfl) dX12_bookLineHere_28 ⟨Nat.le_of_ble_eq_true rfl, Nat.le_of_ble_eq_true rfl⟩ (fun v_106 u_107 H locs hv_108 hP hD hS => ?_)
      obtain ⟨sv_109, rfl⟩ : ∃ z, z = u_107 := ⟨_, rfl⟩
      obtain ⟨r_111, rfl, he_112, pf_110⟩ := hv_108
      have he_112 : r_111.toInt = 0 := he_112
      have pf_110 : ¬ (sv_109 : Int32).toInt = 0 := pf_110
      refine W.eq (g2 := F0 m 31 ls [.int r_111]) rfl ?_
      have hP : va_P D classes [((Ma 6), .inl (tc 0, 95, .inl (Mf 6))), ((Ma 1), .inl (tc 2, 400, .inl (Mf 1))), ((Ma 0), .inr (12, [.ref (Ma 1), .int (Mv 0), .int (Mv 1), .ref (Ma 2), .ref (Ma 3), .ref (Ma 4), .ref (Ma 5), .ref (Ma 6), .int sv_5, .int sv_109, .int (Mv 4), .int (Mv 5), .int (Mv 6), .int (Mv 7), .int (Mv 8), .ref (Ma 7), .int (Mv 9), .ref (Ma 8), .int (Mv 10), .ref (Ma 9), .ref (Ma 10), .int (Mv 11), .int (Mv 12), .int (Mv 13), .ref (Ma 11), .int (Mv 14), .ref (Ma 12), .ref (Ma 13), .ref (Ma 14), .ref (Ma 15), .ref (Ma 16), .long (Mj 0), .ref (Ma 17), .ref (Ma 18), .ref (Ma 19), .ref (Ma 20)]))] H := hP
      have hD : va_D A [((Ma 6), .inl (tc 0, 95, .inl (Mf 6))), ((Ma 1), .inl (tc 2, 400, .inl (Mf 1))), ((Ma 0), .inr (12, [.ref (Ma 1), .int (Mv 0), .int (Mv 1), .ref (Ma 2), .ref (Ma 3), .ref (Ma 4), .ref (Ma 5), .ref (Ma 6), .int sv_5, .int sv_109, .int (Mv 4), .int (Mv 5), .int (Mv 6), .int (Mv 7), .int (Mv 8), .ref (Ma 7), .int (Mv 9), .ref (Ma 8), .int (Mv 10), .ref (Ma 9), .ref (Ma 10), .int (Mv 11), .int (Mv 12), .int (Mv 13), .ref (Ma 11), .int (Mv 14), .ref (Ma 12), .ref (Ma 13), .ref (Ma 14), .ref (Ma 15), .ref (Ma 16), .long (Mj 0), .ref (Ma 17), .ref (Ma 18), .ref (Ma 19), .ref (Ma 20)]))] := hD
      have ha_114 : ((Mv 2) : Int32).toInt ≤ (sv_5 : Int32).toInt ∧ (sv_5 : Int32).toInt ≤ ((Mv 0) : Int32).toInt := by
        have z_1 := congrArg Int32.toInt c_13
        have z_2 := congrArg Int32.toInt c_15
        have y_0 : (0 : Int32).toInt = 0 := by decide
        refine ⟨?_, ?_⟩ <;> omega
      have hb_115 : (r_111 : Int32).toInt = 0 ∨ (r_111 : Int32).toInt = 1 := by
        have z_1 := congrArg Int32.toInt c_13
        have z_2 := congrArg Int32.toInt c_15
        have y_0 : (0 : Int32).toInt = 0 := by decide
        omega
      have hp_116 : (((r_111 : Int32).toInt = 0 ∧ ¬ (sv_109 : Int32).toInt = 0) ∨ (r_111 : Int32).toInt = 1) := by
        have z_1 := congrArg Int32.toInt c_13
        have z_2 := congrArg Int32.toInt c_15
        have y_0 : (0 : Int32).toInt = 0 := by decide
        omega
      have hm_117 : (r_111 : Int32).toInt = 1 → (RdO (Mf 6)) := by
        intro h1r
        exfalso
        have z_1 := congrArg Int32.toInt c_13
        have z_2 := congrArg Int32.toInt c_15
        have y_0 : (0 : Int32).toInt = 0 := by decide
        omega
      exact retI (v := r_111) hx hb hr hlk (nar01 hb_115) hP hD hS (sv_5, sv_109, (Mv 4), (Mf 6)) ⟨_, rfl, hp_116, ha_114, hm_117⟩ [2, 1, 0] rfl rfl dX12_bookLineHere_31 (Nat.le_of_ble_eq_true rfl) (Nat.le_of_ble_eq_true rfl) rfl
  · skip
    have hz_119 : (r_9 : Int32).toInt = 1 := by
      have z_1 : ¬ (r_9 : Int32).toInt = (0 : Int32).toInt := fun z => c_13 (Int32.toInt_inj.mp z)
      have y_0 : (0 : Int32).toInt = 0 := by decide
      omega
    obtain pf_118 := hm_12 hz_119
    have pf_118 : Ltr (Mf 1) (Mv 0) sv_5 := pf_118
    have ar_pf_118 := pf_118.1
    refine lv_aload_n hx hb dX12_bookLineHere_10 rfl (lv_at hl 0 rfl) ?_
    refine lv_iload_n hx hb dX12_bookLineHere_11 rfl (lv_at hl 1 rfl) ?_
    have ha_120 : 0 ≤ (sv_5 : Int32).toInt ∧ (sv_5 : Int32).toInt ≤ ((Mv 0) : Int32).toInt ∧ ((Mv 0) : Int32).toInt ≤ 400 := by
      have z_1 : ¬ (r_9 : Int32).toInt = (0 : Int32).toInt := fun z => c_13 (Int32.toInt_inj.mp z)
      have y_0 : (0 : Int32).toInt = 0 := by decide
      refine ⟨?_, ?_, ?_⟩ <;> omega
    have ha_121 : 0 ≤ x1.toInt ∧ x1.toInt ≤ 400 := by
      have z_1 : ¬ (r_9 : Int32).toInt = (0 : Int32).toInt := fun z => c_13 (Int32.toInt_inj.mp z)
      have y_0 : (0 : Int32).toInt = 0 := by decide
      refine ⟨?_, ?_⟩ <;> omega
    refine cV (a := (Ma 0)) (As := [.int x1]) (rest := []) (wr := []) ⟨hx, hb, hml, hown, hts⟩ hK hX hA (ct_X12_isBookHere l D tc sk Ma (fun k => ([(Mv 0), (Mv 1), sv_5, (Mv 3), (Mv 4), (Mv 5), (Mv 6), (Mv 7), (Mv 8), (Mv 9), (Mv 10), (Mv 11), (Mv 12), (Mv 13), (Mv 14)] : List (Int32)).getD k 0) Mf Mj x1 ha_120 ha_121 h_ro) k_1240 k_1237 k_1239 k_33 k_106 pl_X12_isBookHere ⟨Nat.le_of_ble_eq_true rfl, Nat.le_of_ble_eq_true rfl⟩ rfl rfl (va_recv hK hP (ci := 12) (q0 := 1) rfl rfl) hP hD hS [1, 2, 0] [] rfl rfl rfl rfl rfl (by decide) rfl hl.1 rfl (Nat.le_of_ble_eq_true rfl) dX12_bookLineHere_12 ⟨Nat.le_of_ble_eq_true rfl, Nat.le_of_ble_eq_true rfl⟩ (fun v_122 u_123 H locs hv_124 hP hD hS => ?_)
    obtain ⟨sv_125, sv_126, sv_127, sv_128⟩ := u_123
    obtain ⟨r_130, rfl, he_131, pf_129, hm_133⟩ := hv_124
    have he_131 : ((r_130.toInt = 0 ∧ ¬ (sv_126 : Int32).toInt = 0) ∨ r_130.toInt = 1) := he_131
    have pf_129 : (sv_5 : Int32).toInt ≤ (sv_125 : Int32).toInt ∧ (sv_125 : Int32).toInt ≤ ((Mv 0) : Int32).toInt := pf_129
    refine W.eq (g2 := F0 m 15 ls [.int r_130]) rfl ?_
    have hP : va_P D classes [((Ma 0), .inr (12, [.ref (Ma 1), .int (Mv 0), .int (Mv 1), .ref (Ma 2), .ref (Ma 3), .ref (Ma 4), .ref (Ma 5), .ref (Ma 6), .int sv_125, .int sv_126, .int sv_127, .int (Mv 5), .int (Mv 6), .int (Mv 7), .int (Mv 8), .ref (Ma 7), .int (Mv 9), .ref (Ma 8), .int (Mv 10), .ref (Ma 9), .ref (Ma 10), .int (Mv 11), .int (Mv 12), .int (Mv 13), .ref (Ma 11), .int (Mv 14), .ref (Ma 12), .ref (Ma 13), .ref (Ma 14), .ref (Ma 15), .ref (Ma 16), .long (Mj 0), .ref (Ma 17), .ref (Ma 18), .ref (Ma 19), .ref (Ma 20)])), ((Ma 1), .inl (tc 2, 400, .inl (Mf 1))), ((Ma 6), .inl (tc 0, 95, .inl sv_128))] H := hP
    have hD : va_D A [((Ma 0), .inr (12, [.ref (Ma 1), .int (Mv 0), .int (Mv 1), .ref (Ma 2), .ref (Ma 3), .ref (Ma 4), .ref (Ma 5), .ref (Ma 6), .int sv_125, .int sv_126, .int sv_127, .int (Mv 5), .int (Mv 6), .int (Mv 7), .int (Mv 8), .ref (Ma 7), .int (Mv 9), .ref (Ma 8), .int (Mv 10), .ref (Ma 9), .ref (Ma 10), .int (Mv 11), .int (Mv 12), .int (Mv 13), .ref (Ma 11), .int (Mv 14), .ref (Ma 12), .ref (Ma 13), .ref (Ma 14), .ref (Ma 15), .ref (Ma 16), .long (Mj 0), .ref (Ma 17), .ref (Ma 18), .ref (Ma 19), .ref (Ma 20)])), ((Ma 1), .inl (tc 2, 400, .inl (Mf 1))), ((Ma 6), .inl (tc 0, 95, .inl sv_128))] := hD
    have ha_134 : ((Mv 2) : Int32).toInt ≤ (sv_125 : Int32).toInt ∧ (sv_125 : Int32).toInt ≤ ((Mv 0) : Int32).toInt := by
      have z_1 : ¬ (r_9 : Int32).toInt = (0 : Int32).toInt := fun z => c_13 (Int32.toInt_inj.mp z)
      have y_0 : (0 : Int32).toInt = 0 := by decide
      refine ⟨?_, ?_⟩ <;> omega
    have hb_135 : (r_130 : Int32).toInt = 0 ∨ (r_130 : Int32).toInt = 1 := by
      have z_1 : ¬ (r_9 : Int32).toInt = (0 : Int32).toInt := fun z => c_13 (Int32.toInt_inj.mp z)
      have y_0 : (0 : Int32).toInt = 0 := by decide
      omega
    have hp_136 : (((r_130 : Int32).toInt = 0 ∧ ¬ (sv_126 : Int32).toInt = 0) ∨ (r_130 : Int32).toInt = 1) := by
      have z_1 : ¬ (r_9 : Int32).toInt = (0 : Int32).toInt := fun z => c_13 (Int32.toInt_inj.mp z)
      have y_0 : (0 : Int32).toInt = 0 := by decide
      omega
    have hm_137 : (r_130 : Int32).toInt = 1 → (RdO sv_128) := by
      intro h1r
      obtain pf_138 := hm_133 h1r
      have pf_138 : RdO sv_128 := pf_138
      have ar_pf_138 := RdO.ar pf_138
      exact pf_138
    exact retI (v := r_130) hx hb hr hlk (nar01 hb_135) hP hD hS (sv_125, sv_126, sv_127, sv_128) ⟨_, rfl, hp_136, ha_134, hm_137⟩ [0, 1, 2] rfl rfl dX12_bookLineHere_15 (Nat.le_of_ble_eq_true rfl) (Nat.le_of_ble_eq_true rfl) rfl
set_option maxHeartbeats 4000000 in
set_option maxRecDepth 100000 in
theorem ct_X12_isBookWord (l : Launch) (D : va_G) (tc : Nat → ClassId) (sk : (Nat → Nat) × (Nat → Nat)) (Ma : Nat → Nat) (Mv : Nat → Int32) (Mf : Nat → Nat → Int32) (Mj : Nat → Int64) (h_nx : 0 ≤ ((Mv 2) : Int32).toInt ∧ ((Mv 2) : Int32).toInt ≤ ((Mv 0) : Int32).toInt ∧ ((Mv 0) : Int32).toInt ≤ 400) : Ct l yX12_isBookWord cX12_isBookWord 1 (some .boolean) { frames := 2, cells := 0, slots := 0, locals := 46 } D tc sk [.ref (Ma 0)] [((Ma 0), .inr (12, [.ref (Ma 1), .int (Mv 0), .int (Mv 1), .ref (Ma 2), .ref (Ma 3), .ref (Ma 4), .ref (Ma 5), .ref (Ma 6), .int (Mv 2), .int (Mv 3), .int (Mv 4), .int (Mv 5), .int (Mv 6), .int (Mv 7), .int (Mv 8), .ref (Ma 7), .int (Mv 9), .ref (Ma 8), .int (Mv 10), .ref (Ma 9), .ref (Ma 10), .int (Mv 11), .int (Mv 12), .int (Mv 13), .ref (Ma 11), .int (Mv 14), .ref (Ma 12), .ref (Ma 13), .ref (Ma 14), .ref (Ma 15), .ref (Ma 16), .long (Mj 0), .ref (Ma 17), .ref (Ma 18), .ref (Ma 19), .ref (Ma 20)])), ((Ma 1), .inl (tc 2, 400, .inl (Mf 1)))] (fun (v : Option Value) (oo0x1 : Int32) => ∃ r : Int32, v = some (.int r) ∧ ((r.toInt = 0 ∨ r.toInt = 1)) ∧ (((Mv 2) : Int32).toInt ≤ (oo0x1 : Int32).toInt ∧ (oo0x1 : Int32).toInt ≤ ((Mv 0) : Int32).toInt)) (fun (oo0x1 : Int32) => [((Ma 0), .inr (12, [.ref (Ma 1), .int (Mv 0), .int (Mv 1), .ref (Ma 2), .ref (Ma 3), .ref (Ma 4), .ref (Ma 5), .ref (Ma 6), .int oo0x1, .int (Mv 3), .int (Mv 4), .int (Mv 5), .int (Mv 6), .int (Mv 7), .int (Mv 8), .ref (Ma 7), .int (Mv 9), .ref (Ma 8), .int (Mv 10), .ref (Ma 9), .ref (Ma 10), .int (Mv 11), .int (Mv 12), .int (Mv 13), .ref (Ma 11), .int (Mv 14), .ref (Ma 12), .ref (Ma 13), .ref (Ma 14), .ref (Ma 15), .ref (Ma 16), .long (Mj 0), .ref (Ma 17), .ref (Ma 18), .ref (Ma 19), .ref (Ma 20)])), ((Ma 1), .inl (tc 2, 400, .inl (Mf 1)))]) 0 0 := by
  refine Ct.start (by decide) (Nat.le_of_ble_eq_true rfl) (fun p e s m below meth c A ls hx hb hr hlk hin hml hown hts hK hX hP hD hA hl hS => ?_)
  have hl : lv_has ls 1 [(0, .ref (Ma 0))] := hl
  refine lv_aload_n hx hb dX12_isBookWord_0 rfl (lv_at hl 0 rfl) ?_
  refine lv_ldc2 hx hb hown (hts _ k_1216) dX12_isBookWord_1 ?_
  have ha_1 : 0 ≤ ((Mv 2) : Int32).toInt ∧ ((Mv 2) : Int32).toInt ≤ ((Mv 0) : Int32).toInt ∧ ((Mv 0) : Int32).toInt ≤ 400 := by
    refine ⟨?_, ?_, ?_⟩ <;> omega
  refine cV (a := (Ma 0)) (As := [.long 1651470187]) (rest := []) (wr := []) ⟨hx, hb, hml, hown, hts⟩ hK hX hA (ct_X12_isWord l D tc sk Ma Mv Mf Mj 1651470187 ha_1) k_1220 k_1217 k_1219 k_29 k_106 pl_X12_isWord ⟨Nat.le_of_ble_eq_true rfl, Nat.le_of_ble_eq_true rfl⟩ rfl rfl (va_recv hK hP (ci := 12) (q0 := 0) rfl rfl) hP hD hS [0, 1] [] rfl rfl rfl rfl rfl (by decide) rfl hl.1 rfl (Nat.le_of_ble_eq_true rfl) dX12_isBookWord_4 ⟨Nat.le_of_ble_eq_true rfl, Nat.le_of_ble_eq_true rfl⟩ (fun v_2 u_3 H locs hv_4 hP hD hS => ?_)
  obtain ⟨sv_5, rfl⟩ : ∃ z, z = u_3 := ⟨_, rfl⟩
  obtain ⟨r_9, rfl, he_10, pf_6, pf_7, pf_8, hm_12⟩ := hv_4
  have he_10 : (r_9.toInt = 0 ∨ r_9.toInt = 1) := he_10
  have pf_6 : ((Mv 2) : Int32).toInt ≤ (sv_5 : Int32).toInt ∧ (sv_5 : Int32).toInt ≤ ((Mv 0) : Int32).toInt := pf_6
  have pf_7 : NSq (Mf 1) (Mv 0) sv_5 := pf_7
  have pf_8 : Stl (Mf 1) (Mv 0) (Mv 2) sv_5 := pf_8
  refine W.eq (g2 := F0 m 7 ls [.int r_9]) rfl ?_
  have hP : va_P D classes [((Ma 0), .inr (12, [.ref (Ma 1), .int (Mv 0), .int (Mv 1), .ref (Ma 2), .ref (Ma 3), .ref (Ma 4), .ref (Ma 5), .ref (Ma 6), .int sv_5, .int (Mv 3), .int (Mv 4), .int (Mv 5), .int (Mv 6), .int (Mv 7), .int (Mv 8), .ref (Ma 7), .int (Mv 9), .ref (Ma 8), .int (Mv 10), .ref (Ma 9), .ref (Ma 10), .int (Mv 11), .int (Mv 12), .int (Mv 13), .ref (Ma 11), .int (Mv 14), .ref (Ma 12), .ref (Ma 13), .ref (Ma 14), .ref (Ma 15), .ref (Ma 16), .long (Mj 0), .ref (Ma 17), .ref (Ma 18), .ref (Ma 19), .ref (Ma 20)])), ((Ma 1), .inl (tc 2, 400, .inl (Mf 1)))] H := hP
  have hD : va_D A [((Ma 0), .inr (12, [.ref (Ma 1), .int (Mv 0), .int (Mv 1), .ref (Ma 2), .ref (Ma 3), .ref (Ma 4), .ref (Ma 5), .ref (Ma 6), .int sv_5, .int (Mv 3), .int (Mv 4), .int (Mv 5), .int (Mv 6), .int (Mv 7), .int (Mv 8), .ref (Ma 7), .int (Mv 9), .ref (Ma 8), .int (Mv 10), .ref (Ma 9), .ref (Ma 10), .int (Mv 11), .int (Mv 12), .int (Mv 13), .ref (Ma 11), .int (Mv 14), .ref (Ma 12), .ref (Ma 13), .ref (Ma 14), .ref (Ma 15), .ref (Ma 16), .long (Mj 0), .ref (Ma 17), .ref (Ma 18), .ref (Ma 19), .ref (Ma 20)])), ((Ma 1), .inl (tc 2, 400, .inl (Mf 1)))] := hD
  refine lv_if_ne (tgt := 40) hx hb dX12_isBookWord_7 (by decide) (fun c_13 => ?_) (fun c_13 => ?_)
  · skip
    have hz_15 : (r_9 : Int32).toInt = 1 := by
      have z_1 : ¬ (r_9 : Int32).toInt = (0 : Int32).toInt := fun z => c_13 (Int32.toInt_inj.mp z)
      have y_0 : (0 : Int32).toInt = 0 := by decide
      omega
    obtain pf_14 := hm_12 hz_15
    have pf_14 : Ltr (Mf 1) (Mv 0) sv_5 := pf_14
    have ar_pf_14 := pf_14.1
    refine lv_iconst (v := 1) hx hb dX12_isBookWord_40 (by decide) ?_
    refine lv_goto (tgt := 45) hx hb dX12_isBookWord_41 (by decide) ?_
    have ha_16 : ((Mv 2) : Int32).toInt ≤ (sv_5 : Int32).toInt ∧ (sv_5 : Int32).toInt ≤ ((Mv 0) : Int32).toInt := by
      have z_1 : ¬ (r_9 : Int32).toInt = (0 : Int32).toInt := fun z => c_13 (Int32.toInt_inj.mp z)
      have y_0 : (0 : Int32).toInt = 0 := by decide
      refine ⟨?_, ?_⟩ <;> omega
    have hp_17 : ((1 : Int32).toInt = 0 ∨ (1 : Int32).toInt = 1) := by
      have z_1 : ¬ (r_9 : Int32).toInt = (0 : Int32).toInt := fun z => c_13 (Int32.toInt_inj.mp z)
      have y_0 : (0 : Int32).toInt = 0 := by decide
      have y_1 : (1 : Int32).toInt = 1 := by decide
      have yr : (1 : Int32).toInt = 1 := by decide
      omega
    exact retI (v := 1) hx hb hr hlk (rfl) hP hD hS sv_5 ⟨_, rfl, hp_17, ha_16⟩ [0, 1] rfl rfl dX12_isBookWord_45 (Nat.le_of_ble_eq_true rfl) (Nat.le_of_ble_eq_true rfl) rfl
  · skip
    refine lv_aload_n hx hb dX12_isBookWord_10 rfl (lv_at hl 0 rfl) ?_
    refine lv_ldc2 hx hb hown (hts _ k_1225) dX12_isBookWord_11 ?_
    have ha_18 : 0 ≤ (sv_5 : Int32).toInt ∧ (sv_5 : Int32).toInt ≤ ((Mv 0) : Int32).toInt ∧ ((Mv 0) : Int32).toInt ≤ 400 := by
      have z_1 := congrArg Int32.toInt c_13
      have y_0 : (0 : Int32).toInt = 0 := by decide
      refine ⟨?_, ?_, ?_⟩ <;> omega
    refine cV (a := (Ma 0)) (As := [.long 7564153]) (rest := []) (wr := []) ⟨hx, hb, hml, hown, hts⟩ hK hX hA (ct_X12_isWord l D tc sk Ma (fun k => ([(Mv 0), (Mv 1), sv_5, (Mv 3), (Mv 4), (Mv 5), (Mv 6), (Mv 7), (Mv 8), (Mv 9), (Mv 10), (Mv 11), (Mv 12), (Mv 13), (Mv 14)] : List (Int32)).getD k 0) Mf Mj 7564153 ha_18) k_1220 k_1217 k_1219 k_29 k_106 pl_X12_isWord ⟨Nat.le_of_ble_eq_true rfl, Nat.le_of_ble_eq_true rfl⟩ rfl rfl (va_recv hK hP (ci := 12) (q0 := 0) rfl rfl) hP hD hS [0, 1] [] rfl rfl rfl rfl rfl (by decide) rfl hl.1 rfl (Nat.le_of_ble_eq_true rfl) dX12_isBookWord_14 ⟨Nat.le_of_ble_eq_true rfl, Nat.le_of_ble_eq_true rfl⟩ (fun v_19 u_20 H locs hv_21 hP hD hS => ?_)
    obtain ⟨sv_22, rfl⟩ : ∃ z, z = u_20 := ⟨_, rfl⟩
    obtain ⟨r_26, rfl, he_27, pf_23, pf_24, pf_25, hm_29⟩ := hv_21
    have he_27 : (r_26.toInt = 0 ∨ r_26.toInt = 1) := he_27
    have pf_23 : (sv_5 : Int32).toInt ≤ (sv_22 : Int32).toInt ∧ (sv_22 : Int32).toInt ≤ ((Mv 0) : Int32).toInt := pf_23
    have pf_24 : NSq (Mf 1) (Mv 0) sv_22 := pf_24
    have pf_25 : Stl (Mf 1) (Mv 0) sv_5 sv_22 := pf_25
    have ar_pf_25 := Stl.or pf_25 pf_7
    refine W.eq (g2 := F0 m 17 ls [.int r_26]) rfl ?_
    have hP : va_P D classes [((Ma 0), .inr (12, [.ref (Ma 1), .int (Mv 0), .int (Mv 1), .ref (Ma 2), .ref (Ma 3), .ref (Ma 4), .ref (Ma 5), .ref (Ma 6), .int sv_22, .int (Mv 3), .int (Mv 4), .int (Mv 5), .int (Mv 6), .int (Mv 7), .int (Mv 8), .ref (Ma 7), .int (Mv 9), .ref (Ma 8), .int (Mv 10), .ref (Ma 9), .ref (Ma 10), .int (Mv 11), .int (Mv 12), .int (Mv 13), .ref (Ma 11), .int (Mv 14), .ref (Ma 12), .ref (Ma 13), .ref (Ma 14), .ref (Ma 15), .ref (Ma 16), .long (Mj 0), .ref (Ma 17), .ref (Ma 18), .ref (Ma 19), .ref (Ma 20)])), ((Ma 1), .inl (tc 2, 400, .inl (Mf 1)))] H := hP
    have hD : va_D A [((Ma 0), .inr (12, [.ref (Ma 1), .int (Mv 0), .int (Mv 1), .ref (Ma 2), .ref (Ma 3), .ref (Ma 4), .ref (Ma 5), .ref (Ma 6), .int sv_22, .int (Mv 3), .int (Mv 4), .int (Mv 5), .int (Mv 6), .int (Mv 7), .int (Mv 8), .ref (Ma 7), .int (Mv 9), .ref (Ma 8), .int (Mv 10), .ref (Ma 9), .ref (Ma 10), .int (Mv 11), .int (Mv 12), .int (Mv 13), .ref (Ma 11), .int (Mv 14), .ref (Ma 12), .ref (Ma 13), .ref (Ma 14), .ref (Ma 15), .ref (Ma 16), .long (Mj 0), .ref (Ma 17), .ref (Ma 18), .ref (Ma 19), .ref (Ma 20)])), ((Ma 1), .inl (tc 2, 400, .inl (Mf 1)))] := hD
    refine lv_if_ne (tgt := 40) hx hb dX12_isBookWord_17 (by decide) (fun c_30 => ?_) (fun c_30 => ?_)
    · skip
      have hz_32 : (r_26 : Int32).toInt = 1 := by
        have z_1 := congrArg Int32.toInt c_13
        have z_2 : ¬ (r_26 : Int32).toInt = (0 : Int32).toInt := fun z => c_30 (Int32.toInt_inj.mp z)
        have y_0 : (0 : Int32).toInt = 0 := by decide
        omega
      obtain pf_31 := hm_29 hz_32
      have pf_31 : Ltr (Mf 1) (Mv 0) sv_22 := pf_31
      have ar_pf_31 := pf_31.1
      refine lv_iconst (v := 1) hx hb dX12_isBookWord_40 (by decide) ?_
      refine lv_goto (tgt := 45) hx hb dX12_isBookWord_41 (by decide) ?_
      have ha_33 : ((Mv 2) : Int32).toInt ≤ (sv_22 : Int32).toInt ∧ (sv_22 : Int32).toInt ≤ ((Mv 0) : Int32).toInt := by
        have z_1 := congrArg Int32.toInt c_13
        have z_2 : ¬ (r_26 : Int32).toInt = (0 : Int32).toInt := fun z => c_30 (Int32.toInt_inj.mp z)
        have y_0 : (0 : Int32).toInt = 0 := by decide
        refine ⟨?_, ?_⟩ <;> omega
      have hp_34 : ((1 : Int32).toInt = 0 ∨ (1 : Int32).toInt = 1) := by
        have z_1 := congrArg Int32.toInt c_13
        have z_2 : ¬ (r_26 : Int32).toInt = (0 : Int32).toInt := fun z => c_30 (Int32.toInt_inj.mp z)
        have y_0 : (0 : Int32).toInt = 0 := by decide
        have y_1 : (1 : Int32).toInt = 1 := by decide
        have yr : (1 : Int32).toInt = 1 := by decide
        omega
      exact retI (v := 1) hx hb hr hlk (rfl) hP hD hS sv_22 ⟨_, rfl, hp_34, ha_33⟩ [0, 1] rfl rfl dX12_isBookWord_45 (Nat.le_of_ble_eq_true rfl) (Nat.le_of_ble_eq_true rfl) rfl
    · skip
      refine lv_aload_n hx hb dX12_isBookWord_20 rfl (lv_at hl 0 rfl) ?_
      refine lv_ldc2 hx hb hown (hts _ k_1226) dX12_isBookWord_21 ?_
      have ha_35 : 0 ≤ (sv_22 : Int32).toInt ∧ (sv_22 : Int32).toInt ≤ ((Mv 0) : Int32).toInt ∧ ((Mv 0) : Int32).toInt ≤ 400 := by
        have z_1 := congrArg Int32.toInt c_13
        have z_2 := congrArg Int32.toInt c_30
        have y_0 : (0 : Int32).toInt = 0 := by decide
        refine ⟨?_, ?_, ?_⟩ <;> omega
      refine cV (a := (Ma 0)) (As := [.long 422877685106]) (rest := []) (wr := []) ⟨hx, hb, hml, hown, hts⟩ hK hX hA (ct_X12_isWord l D tc sk Ma (fun k => ([(Mv 0), (Mv 1), sv_22, (Mv 3), (Mv 4), (Mv 5), (Mv 6), (Mv 7), (Mv 8), (Mv 9), (Mv 10), (Mv 11), (Mv 12), (Mv 13), (Mv 14)] : List (Int32)).getD k 0) Mf Mj 422877685106 ha_35) k_1220 k_1217 k_1219 k_29 k_106 pl_X12_isWord ⟨Nat.le_of_ble_eq_true rfl, Nat.le_of_ble_eq_true rfl⟩ rfl rfl (va_recv hK hP (ci := 12) (q0 := 0) rfl rfl) hP hD hS [0, 1] [] rfl rfl rfl rfl rfl (by decide) rfl hl.1 rfl (Nat.le_of_ble_eq_true rfl) dX12_isBookWord_24 ⟨Nat.le_of_ble_eq_true rfl, Nat.le_of_ble_eq_true rfl⟩ (fun v_36 u_37 H locs hv_38 hP hD hS => ?_)
      obtain ⟨sv_39, rfl⟩ : ∃ z, z = u_37 := ⟨_, rfl⟩
      obtain ⟨r_43, rfl, he_44, pf_40, pf_41, pf_42, hm_46⟩ := hv_38
      have he_44 : (r_43.toInt = 0 ∨ r_43.toInt = 1) := he_44
      have pf_40 : (sv_22 : Int32).toInt ≤ (sv_39 : Int32).toInt ∧ (sv_39 : Int32).toInt ≤ ((Mv 0) : Int32).toInt := pf_40
      have pf_41 : NSq (Mf 1) (Mv 0) sv_39 := pf_41
      have pf_42 : Stl (Mf 1) (Mv 0) sv_22 sv_39 := pf_42
      have ar_pf_42 := Stl.or pf_42 pf_24
      refine W.eq (g2 := F0 m 27 ls [.int r_43]) rfl ?_
      have hP : va_P D classes [((Ma 0), .inr (12, [.ref (Ma 1), .int (Mv 0), .int (Mv 1), .ref (Ma 2), .ref (Ma 3), .ref (Ma 4), .ref (Ma 5), .ref (Ma 6), .int sv_39, .int (Mv 3), .int (Mv 4), .int (Mv 5), .int (Mv 6), .int (Mv 7), .int (Mv 8), .ref (Ma 7), .int (Mv 9), .ref (Ma 8), .int (Mv 10), .ref (Ma 9), .ref (Ma 10), .int (Mv 11), .int (Mv 12), .int (Mv 13), .ref (Ma 11), .int (Mv 14), .ref (Ma 12), .ref (Ma 13), .ref (Ma 14), .ref (Ma 15), .ref (Ma 16), .long (Mj 0), .ref (Ma 17), .ref (Ma 18), .ref (Ma 19), .ref (Ma 20)])), ((Ma 1), .inl (tc 2, 400, .inl (Mf 1)))] H := hP
      have hD : va_D A [((Ma 0), .inr (12, [.ref (Ma 1), .int (Mv 0), .int (Mv 1), .ref (Ma 2), .ref (Ma 3), .ref (Ma 4), .ref (Ma 5), .ref (Ma 6), .int sv_39, .int (Mv 3), .int (Mv 4), .int (Mv 5), .int (Mv 6), .int (Mv 7), .int (Mv 8), .ref (Ma 7), .int (Mv 9), .ref (Ma 8), .int (Mv 10), .ref (Ma 9), .ref (Ma 10), .int (Mv 11), .int (Mv 12), .int (Mv 13), .ref (Ma 11), .int (Mv 14), .ref (Ma 12), .ref (Ma 13), .ref (Ma 14), .ref (Ma 15), .ref (Ma 16), .long (Mj 0), .ref (Ma 17), .ref (Ma 18), .ref (Ma 19), .ref (Ma 20)])), ((Ma 1), .inl (tc 2, 400, .inl (Mf 1)))] := hD
      refine lv_if_ne (tgt := 40) hx hb dX12_isBookWord_27 (by decide) (fun c_47 => ?_) (fun c_47 => ?_)
      · skip
        have hz_49 : (r_43 : Int32).toInt = 1 := by
          have z_1 := congrArg Int32.toInt c_13
          have z_2 := congrArg Int32.toInt c_30
          have z_3 : ¬ (r_43 : Int32).toInt = (0 : Int32).toInt := fun z => c_47 (Int32.toInt_inj.mp z)
          have y_0 : (0 : Int32).toInt = 0 := by decide
          omega
        obtain pf_48 := hm_46 hz_49
        have pf_48 : Ltr (Mf 1) (Mv 0) sv_39 := pf_48
        have ar_pf_48 := pf_48.1
        refine lv_iconst (v := 1) hx hb dX12_isBookWord_40 (by decide) ?_
        refine lv_goto (tgt := 45) hx hb dX12_isBookWord_41 (by decide) ?_
        have ha_50 : ((Mv 2) : Int32).toInt ≤ (sv_39 : Int32).toInt ∧ (sv_39 : Int32).toInt ≤ ((Mv 0) : Int32).toInt := by
          have z_1 := congrArg Int32.toInt c_13
          have z_2 := congrArg Int32.toInt c_30
          have z_3 : ¬ (r_43 : Int32).toInt = (0 : Int32).toInt := fun z => c_47 (Int32.toInt_inj.mp z)
          have y_0 : (0 : Int32).toInt = 0 := by decide
          refine ⟨?_, ?_⟩ <;> omega
        have hp_51 : ((1 : Int32).toInt = 0 ∨ (1 : Int32).toInt = 1) := by
          have z_1 := congrArg Int32.toInt c_13
          have z_2 := congrArg Int32.toInt c_30
          have z_3 : ¬ (r_43 : Int32).toInt = (0 : Int32).toInt := fun z => c_47 (Int32.toInt_inj.mp z)
          have y_0 : (0 : Int32).toInt = 0 := by decide
          have y_1 : (1 : Int32).toInt = 1 := by decide
          have yr : (1 : Int32).toInt = 1 := by decide
          omega
        exact retI (v := 1) hx hb hr hlk (rfl) hP hD hS sv_39 ⟨_, rfl, hp_51, ha_50⟩ [0, 1] rfl rfl dX12_isBookWord_45 (Nat.le_of_ble_eq_true rfl) (Nat.le_of_ble_eq_true rfl) rfl
      · skip
        refine lv_aload_n hx hb dX12_isBookWord_30 rfl (lv_at hl 0 rfl) ?_
        refine lv_ldc2 hx hb hown (hts _ k_1227) dX12_isBookWord_31 ?_
        have ha_52 : 0 ≤ (sv_39 : Int32).toInt ∧ (sv_39 : Int32).toInt ≤ ((Mv 0) : Int32).toInt ∧ ((Mv 0) : Int32).toInt ≤ 400 := by
          have z_1 := congrArg Int32.toInt c_13
          have z_2 := congrArg Int32.toInt c_30
          have z_3 := congrArg Int32.toInt c_47
          have y_0 : (0 : Int32).toInt = 0 := by decide
          refine ⟨?_, ?_, ?_⟩ <;> omega
        refine cV (a := (Ma 0)) (As := [.long 512736125800]) (rest := []) (wr := []) ⟨hx, hb, hml, hown, hts⟩ hK hX hA (ct_X12_isWord l D tc sk Ma (fun k => ([(Mv 0), (Mv 1), sv_39, (Mv 3), (Mv 4), (Mv 5), (Mv 6), (Mv 7), (Mv 8), (Mv 9), (Mv 10), (Mv 11), (Mv 12), (Mv 13), (Mv 14)] : List (Int32)).getD k 0) Mf Mj 512736125800 ha_52) k_1220 k_1217 k_1219 k_29 k_106 pl_X12_isWord ⟨Nat.le_of_ble_eq_true rfl, Nat.le_of_ble_eq_true rfl⟩ rfl rfl (va_recv hK hP (ci := 12) (q0 := 0) rfl rfl) hP hD hS [0, 1] [] rfl rfl rfl rfl rfl (by decide) rfl hl.1 rfl (Nat.le_of_ble_eq_true rfl) dX12_isBookWord_34 ⟨Nat.le_of_ble_eq_true rfl, Nat.le_of_ble_eq_true rfl⟩ (fun v_53 u_54 H locs hv_55 hP hD hS => ?_)
        obtain ⟨sv_56, rfl⟩ : ∃ z, z = u_54 := ⟨_, rfl⟩
        obtain ⟨r_60, rfl, he_61, pf_57, pf_58, pf_59, hm_63⟩ := hv_55
        have he_61 : (r_60.toInt = 0 ∨ r_60.toInt = 1) := he_61
        have pf_57 : (sv_39 : Int32).toInt ≤ (sv_56 : Int32).toInt ∧ (sv_56 : Int32).toInt ≤ ((Mv 0) : Int32).toInt := pf_57
        have pf_58 : NSq (Mf 1) (Mv 0) sv_56 := pf_58
        have pf_59 : Stl (Mf 1) (Mv 0) sv_39 sv_56 := pf_59
        have ar_pf_59 := Stl.or pf_59 pf_41
        refine W.eq (g2 := F0 m 37 ls [.int r_60]) rfl ?_
        have hP : va_P D classes [((Ma 0), .inr (12, [.ref (Ma 1), .int (Mv 0), .int (Mv 1), .ref (Ma 2), .ref (Ma 3), .ref (Ma 4), .ref (Ma 5), .ref (Ma 6), .int sv_56, .int (Mv 3), .int (Mv 4), .int (Mv 5), .int (Mv 6), .int (Mv 7), .int (Mv 8), .ref (Ma 7), .int (Mv 9), .ref (Ma 8), .int (Mv 10), .ref (Ma 9), .ref (Ma 10), .int (Mv 11), .int (Mv 12), .int (Mv 13), .ref (Ma 11), .int (Mv 14), .ref (Ma 12), .ref (Ma 13), .ref (Ma 14), .ref (Ma 15), .ref (Ma 16), .long (Mj 0), .ref (Ma 17), .ref (Ma 18), .ref (Ma 19), .ref (Ma 20)])), ((Ma 1), .inl (tc 2, 400, .inl (Mf 1)))] H := hP
        have hD : va_D A [((Ma 0), .inr (12, [.ref (Ma 1), .int (Mv 0), .int (Mv 1), .ref (Ma 2), .ref (Ma 3), .ref (Ma 4), .ref (Ma 5), .ref (Ma 6), .int sv_56, .int (Mv 3), .int (Mv 4), .int (Mv 5), .int (Mv 6), .int (Mv 7), .int (Mv 8), .ref (Ma 7), .int (Mv 9), .ref (Ma 8), .int (Mv 10), .ref (Ma 9), .ref (Ma 10), .int (Mv 11), .int (Mv 12), .int (Mv 13), .ref (Ma 11), .int (Mv 14), .ref (Ma 12), .ref (Ma 13), .ref (Ma 14), .ref (Ma 15), .ref (Ma 16), .long (Mj 0), .ref (Ma 17), .ref (Ma 18), .ref (Ma 19), .ref (Ma 20)])), ((Ma 1), .inl (tc 2, 400, .inl (Mf 1)))] := hD
        refine lv_if_eq (tgt := 44) hx hb dX12_isBookWord_37 (by decide) (fun c_64 => ?_) (fun c_64 => ?_)
        · skip
          refine lv_iconst (v := 0) hx hb dX12_isBookWord_44 (by decide) ?_
          have ha_65 : ((Mv 2) : Int32).toInt ≤ (sv_56 : Int32).toInt ∧ (sv_56 : Int32).toInt ≤ ((Mv 0) : Int32).toInt := by
            have z_1 := congrArg Int32.toInt c_13
            have z_2 := congrArg Int32.toInt c_30
            have z_3 := congrArg Int32.toInt c_47
            have z_4 := congrArg Int32.toInt c_64
            have y_0 : (0 : Int32).toInt = 0 := by decide
            refine ⟨?_, ?_⟩ <;> omega
          have hp_66 : ((0 : Int32).toInt = 0 ∨ (0 : Int32).toInt = 1) := by
            have z_1 := congrArg Int32.toInt c_13
            have z_2 := congrArg Int32.toInt c_30
            have z_3 := congrArg Int32.toInt c_47
            have z_4 := congrArg Int32.toInt c_64
            have y_0 : (0 : Int32).toInt = 0 := by decide
            omega
          exact retI (v := 0) hx hb hr hlk (rfl) hP hD hS sv_56 ⟨_, rfl, hp_66, ha_65⟩ [0, 1] rfl rfl dX12_isBookWord_45 (Nat.le_of_ble_eq_true rfl) (Nat.le_of_ble_eq_true rfl) rfl
        · skip
          have hz_68 : (r_60 : Int32).toInt = 1 := by
            have z_1 := congrArg Int32.toInt c_13
            have z_2 := congrArg Int32.toInt c_30
            have z_3 := congrArg Int32.toInt c_47
            have z_4 : ¬ (r_60 : Int32).toInt = (0 : Int32).toInt := fun z => c_64 (Int32.toInt_inj.mp z)
            have y_0 : (0 : Int32).toInt = 0 := by decide
            omega
          obtain pf_67 := hm_63 hz_68
          have pf_67 : Ltr (Mf 1) (Mv 0) sv_56 := pf_67
          have ar_pf_67 := pf_67.1
          refine lv_iconst (v := 1) hx hb dX12_isBookWord_40 (by decide) ?_
          refine lv_goto (tgt := 45) hx hb dX12_isBookWord_41 (by decide) ?_
          have ha_69 : ((Mv 2) : Int32).toInt ≤ (sv_56 : Int32).toInt ∧ (sv_56 : Int32).toInt ≤ ((Mv 0) : Int32).toInt := by
            have z_1 := congrArg Int32.toInt c_13
            have z_2 := congrArg Int32.toInt c_30
            have z_3 := congrArg Int32.toInt c_47
            have z_4 : ¬ (r_60 : Int32).toInt = (0 : Int32).toInt := fun z => c_64 (Int32.toInt_inj.mp z)
            have y_0 : (0 : Int32).toInt = 0 := by decide
            refine ⟨?_, ?_⟩ <;> omega
          have hp_70 : ((1 : Int32).toInt = 0 ∨ (1 : Int32).toInt = 1) := by
            have z_1 := congrArg Int32.toInt c_13
            have z_2 := congrArg Int32.toInt c_30
            have z_3 := congrArg Int32.toInt c_47
            have z_4 : ¬ (r_60 : Int32).toInt = (0 : Int32).toInt := fun z => c_64 (Int32.toInt_inj.mp z)
            have y_0 : (0 : Int32).toInt = 0 := by decide
            have y_1 : (1 : Int32).toInt = 1 := by decide
            have yr : (1 : Int32).toInt = 1 := by decide
            omega
          exact retI (v := 1) hx hb hr hlk (rfl) hP hD hS sv_56 ⟨_, rfl, hp_70, ha_69⟩ [0, 1] rfl rfl dX12_isBookWord_45 (Nat.le_of_ble_eq_true rfl) (Nat.le_of_ble_eq_true rfl) rfl
set_option maxHeartbeats 4000000 in
set_option maxRecDepth 100000 in
theorem ct_X12_clauseHere_b (l : Launch) (D : va_G) (tc : Nat → ClassId) (sk : (Nat → Nat) × (Nat → Nat)) (Ma : Nat → Nat) (Mv : Nat → Int32) (Mf : Nat → Nat → Int32) (Mj : Nat → Int64) (h_nx : 0 ≤ ((Mv 2) : Int32).toInt ∧ ((Mv 2) : Int32).toInt ≤ ((Mv 0) : Int32).toInt ∧ ((Mv 0) : Int32).toInt ≤ 400) (h_ro : RdO (Mf 6)) : Ct l yX12_clauseHere cX12_clauseHere 3 (some .boolean) { frames := 5, cells := 0, slots := 0, locals := 115 } D tc sk [.ref (Ma 0)] [((Ma 0), .inr (12, [.ref (Ma 1), .int (Mv 0), .int (Mv 1), .ref (Ma 2), .ref (Ma 3), .ref (Ma 4), .ref (Ma 5), .ref (Ma 6), .int (Mv 2), .int (Mv 3), .int (Mv 4), .int 6, .int (Mv 6), .int (Mv 7), .int (Mv 8), .ref (Ma 7), .int (Mv 9), .ref (Ma 8), .int (Mv 10), .ref (Ma 9), .ref (Ma 10), .int (Mv 11), .int (Mv 12), .int (Mv 13), .ref (Ma 11), .int (Mv 14), .ref (Ma 12), .ref (Ma 13), .ref (Ma 14), .ref (Ma 15), .ref (Ma 16), .long (Mj 0), .ref (Ma 17), .ref (Ma 18), .ref (Ma 19), .ref (Ma 20)])), ((Ma 1), .inl (tc 2, 400, .inl (Mf 1))), ((Ma 3), .inl (tc 0, 7, .inl (Mf 3))), ((Ma 6), .inl (tc 0, 95, .inl (Mf 6)))] (fun (v : Option Value) (u : (Int32) × (Int32) × (Int32) × (Int32) × (Nat → Int32)) => match u with | (oo0x1, oo0x2, oo0x3, oo0x4, oo0x5) => ∃ r : Int32, v = some (.int r) ∧ (((r.toInt = 0 ∧ ¬ (oo0x2 : Int32).toInt = 0) ∨ r.toInt = 1)) ∧ (((Mv 2) : Int32).toInt ≤ (oo0x1 : Int32).toInt ∧ (oo0x1 : Int32).toInt ≤ ((Mv 0) : Int32).toInt) ∧ (r.toInt = 1 → (RdO oo0x5))) (fun (u : (Int32) × (Int32) × (Int32) × (Int32) × (Nat → Int32)) => match u with | (oo0x1, oo0x2, oo0x3, oo0x4, oo0x5) => [((Ma 0), .inr (12, [.ref (Ma 1), .int (Mv 0), .int (Mv 1), .ref (Ma 2), .ref (Ma 3), .ref (Ma 4), .ref (Ma 5), .ref (Ma 6), .int oo0x1, .int oo0x2, .int oo0x3, .int 6, .int (Mv 6), .int (Mv 7), .int oo0x4, .ref (Ma 7), .int (Mv 9), .ref (Ma 8), .int (Mv 10), .ref (Ma 9), .ref (Ma 10), .int (Mv 11), .int (Mv 12), .int (Mv 13), .ref (Ma 11), .int (Mv 14), .ref (Ma 12), .ref (Ma 13), .ref (Ma 14), .ref (Ma 15), .ref (Ma 16), .long (Mj 0), .ref (Ma 17), .ref (Ma 18), .ref (Ma 19), .ref (Ma 20)])), ((Ma 1), .inl (tc 2, 400, .inl (Mf 1))), ((Ma 3), .inl (tc 0, 7, .inl (Mf 3))), ((Ma 6), .inl (tc 0, 95, .inl oo0x5))]) 0 0 := by
  refine Ct.start (by decide) (Nat.le_of_ble_eq_true rfl) (fun p e s m below meth c A ls hx hb hr hlk hin hml hown hts hK hX hP hD hA hl hS => ?_)
  have hl : lv_has ls 3 [(0, .ref (Ma 0))] := hl
  have ar_h_ro := RdO.ar h_ro
  refine lv_aload_n hx hb dX12_clauseHere_0 rfl (lv_at hl 0 rfl) ?_
  have ha_1 : 0 ≤ ((Mv 2) : Int32).toInt ∧ ((Mv 2) : Int32).toInt ≤ ((Mv 0) : Int32).toInt ∧ ((Mv 0) : Int32).toInt ≤ 400 := by
    omega
  refine cV (a := (Ma 0)) (As := []) (rest := []) (wr := [((Ma 3), .inl (tc 0, 7, .inl (Mf 3))), ((Ma 6), .inl (tc 0, 95, .inl (Mf 6)))]) ⟨hx, hb, hml, hown, hts⟩ hK hX hA (ct_X12_see l D tc sk Ma (fun k => ([(Mv 0), (Mv 1), (Mv 2), (Mv 3), (Mv 4), 6, (Mv 6), (Mv 7), (Mv 8), (Mv 9), (Mv 10), (Mv 11), (Mv 12), (Mv 13), (Mv 14)] : List (Int32)).getD k 0) Mf Mj ha_1) k_1211 k_1208 k_1210 k_27 k_106 pl_X12_see ⟨Nat.le_of_ble_eq_true rfl, Nat.le_of_ble_eq_true rfl⟩ rfl rfl (va_recv hK hP (ci := 12) (q0 := 0) rfl rfl) hP hD hS [0, 1] [2, 3] rfl rfl rfl rfl rfl (by decide) rfl hl.1 rfl (Nat.le_of_ble_eq_true rfl) dX12_clauseHere_1 ⟨Nat.le_of_ble_eq_true rfl, Nat.le_of_ble_eq_true rfl⟩ (fun v_2 u_3 H locs hv_4 hP hD hS => ?_)
  obtain ⟨sv_5, rfl⟩ : ∃ z, z = u_3 := ⟨_, rfl⟩
  obtain ⟨r_9, rfl, he_10, pf_6, pf_7, pf_8⟩ := hv_4
  have he_10 : (r_9.toInt = -1 ∨ (sv_5 : Int32).toInt < ((Mv 0) : Int32).toInt) := he_10
  have pf_6 : ((Mv 2) : Int32).toInt ≤ (sv_5 : Int32).toInt ∧ (sv_5 : Int32).toInt ≤ ((Mv 0) : Int32).toInt := pf_6
  have pf_7 : NSq (Mf 1) (Mv 0) sv_5 := pf_7
  have pf_8 : Stl (Mf 1) (Mv 0) (Mv 2) sv_5 := pf_8
  refine W.eq (g2 := F0 m 4 ls [.int r_9]) rfl ?_
  have hP : va_P D classes [((Ma 3), .inl (tc 0, 7, .inl (Mf 3))), ((Ma 6), .inl (tc 0, 95, .inl (Mf 6))), ((Ma 0), .inr (12, [.ref (Ma 1), .int (Mv 0), .int (Mv 1), .ref (Ma 2), .ref (Ma 3), .ref (Ma 4), .ref (Ma 5), .ref (Ma 6), .int sv_5, .int (Mv 3), .int (Mv 4), .int 6, .int (Mv 6), .int (Mv 7), .int (Mv 8), .ref (Ma 7), .int (Mv 9), .ref (Ma 8), .int (Mv 10), .ref (Ma 9), .ref (Ma 10), .int (Mv 11), .int (Mv 12), .int (Mv 13), .ref (Ma 11), .int (Mv 14), .ref (Ma 12), .ref (Ma 13), .ref (Ma 14), .ref (Ma 15), .ref (Ma 16), .long (Mj 0), .ref (Ma 17), .ref (Ma 18), .ref (Ma 19), .ref (Ma 20)])), ((Ma 1), .inl (tc 2, 400, .inl (Mf 1)))] H := hP
  have hD : va_D A [((Ma 3), .inl (tc 0, 7, .inl (Mf 3))), ((Ma 6), .inl (tc 0, 95, .inl (Mf 6))), ((Ma 0), .inr (12, [.ref (Ma 1), .int (Mv 0), .int (Mv 1), .ref (Ma 2), .ref (Ma 3), .ref (Ma 4), .ref (Ma 5), .ref (Ma 6), .int sv_5, .int (Mv 3), .int (Mv 4), .int 6, .int (Mv 6), .int (Mv 7), .int (Mv 8), .ref (Ma 7), .int (Mv 9), .ref (Ma 8), .int (Mv 10), .ref (Ma 9), .ref (Ma 10), .int (Mv 11), .int (Mv 12), .int (Mv 13), .ref (Ma 11), .int (Mv 14), .ref (Ma 12), .ref (Ma 13), .ref (Ma 14), .ref (Ma 15), .ref (Ma 16), .long (Mj 0), .ref (Ma 17), .ref (Ma 18), .ref (Ma 19), .ref (Ma 20)])), ((Ma 1), .inl (tc 2, 400, .inl (Mf 1)))] := hD
  refine lv_pop hx hb dX12_clauseHere_4 rfl ?_
  refine lv_aload_n hx hb dX12_clauseHere_5 rfl (lv_at hl 0 rfl) ?_
  refine gf_X12_87 hx hb hts hown hK hP 2 rfl rfl dX12_clauseHere_6 ?_
  refine lv_istore_n (lv' := [(1, .int sv_5), (0, .ref (Ma 0))]) hx hb dX12_clauseHere_9 rfl hl (by decide) rfl (fun ls hl => ?_)
  refine lv_aload_n hx hb dX12_clauseHere_10 rfl (lv_at hl 1 rfl) ?_
  refine gf_X12_145 hx hb hts hown hK hP 2 rfl rfl dX12_clauseHere_11 ?_
  refine lv_bipush (v := 6) hx hb dX12_clauseHere_14 (by decide) ?_
  refine lv_icmp_ne (tgt := 23) hx hb dX12_clauseHere_16 (by decide) (fun c_12 => absurd c_12 (by decide)) (fun c_12 => ?_)
  refine lv_iconst (v := 1) hx hb dX12_clauseHere_19 (by decide) ?_
  refine lv_goto (tgt := 24) hx hb dX12_clauseHere_20 (by decide) ?_
  refine lv_istore_n (lv' := [(2, .int 1), (1, .int sv_5), (0, .ref (Ma 0))]) hx hb dX12_clauseHere_24 rfl hl (by decide) rfl (fun ls hl => ?_)
  refine lv_iload_n hx hb dX12_clauseHere_25 rfl (lv_at hl 0 rfl) ?_
  refine lv_if_eq (tgt := 39) hx hb dX12_clauseHere_26 (by decide) (fun c_13 => absurd c_13 (by decide)) (fun c_13 => ?_)
  refine lv_aload_n hx hb dX12_clauseHere_29 rfl (lv_at hl 2 rfl) ?_
  have ha_14 : 0 ≤ (sv_5 : Int32).toInt ∧ (sv_5 : Int32).toInt ≤ ((Mv 0) : Int32).toInt ∧ ((Mv 0) : Int32).toInt ≤ 400 := by
    omega
  refine cV (a := (Ma 0)) (As := []) (rest := []) (wr := [((Ma 3), .inl (tc 0, 7, .inl (Mf 3))), ((Ma 6), .inl (tc 0, 95, .inl (Mf 6)))]) ⟨hx, hb, hml, hown, hts⟩ hK hX hA (ct_X12_isBookWord l D tc sk Ma (fun k => ([(Mv 0), (Mv 1), sv_5, (Mv 3), (Mv 4), 6, (Mv 6), (Mv 7), (Mv 8), (Mv 9), (Mv 10), (Mv 11), (Mv 12), (Mv 13), (Mv 14)] : List (Int32)).getD k 0) Mf Mj ha_14) k_1215 k_1212 k_1214 k_28 k_106 pl_X12_isBookWord ⟨Nat.le_of_ble_eq_true rfl, Nat.le_of_ble_eq_true rfl⟩ rfl rfl (va_recv hK hP (ci := 12) (q0 := 2) rfl rfl) hP hD hS [2, 3] [0, 1] rfl rfl rfl rfl rfl (by decide) rfl hl.1 rfl (Nat.le_of_ble_eq_true rfl) dX12_clauseHere_30 ⟨Nat.le_of_ble_eq_true rfl, Nat.le_of_ble_eq_true rfl⟩ (fun v_15 u_16 H locs hv_17 hP hD hS => ?_)
  obtain ⟨sv_18, rfl⟩ : ∃ z, z = u_16 := ⟨_, rfl⟩
  obtain ⟨r_20, rfl, he_21, pf_19⟩ := hv_17
  have he_21 : (r_20.toInt = 0 ∨ r_20.toInt = 1) := he_21
  have pf_19 : (sv_5 : Int32).toInt ≤ (sv_18 : Int32).toInt ∧ (sv_18 : Int32).toInt ≤ ((Mv 0) : Int32).toInt := pf_19
  refine W.eq (g2 := F0 m 33 ls [.int r_20]) rfl ?_
  have hP : va_P D classes [((Ma 3), .inl (tc 0, 7, .inl (Mf 3))), ((Ma 6), .inl (tc 0, 95, .inl (Mf 6))), ((Ma 0), .inr (12, [.ref (Ma 1), .int (Mv 0), .int (Mv 1), .ref (Ma 2), .ref (Ma 3), .ref (Ma 4), .ref (Ma 5), .ref (Ma 6), .int sv_18, .int (Mv 3), .int (Mv 4), .int 6, .int (Mv 6), .int (Mv 7), .int (Mv 8), .ref (Ma 7), .int (Mv 9), .ref (Ma 8), .int (Mv 10), .ref (Ma 9), .ref (Ma 10), .int (Mv 11), .int (Mv 12), .int (Mv 13), .ref (Ma 11), .int (Mv 14), .ref (Ma 12), .ref (Ma 13), .ref (Ma 14), .ref (Ma 15), .ref (Ma 16), .long (Mj 0), .ref (Ma 17), .ref (Ma 18), .ref (Ma 19), .ref (Ma 20)])), ((Ma 1), .inl (tc 2, 400, .inl (Mf 1)))] H := hP
  have hD : va_D A [((Ma 3), .inl (tc 0, 7, .inl (Mf 3))), ((Ma 6), .inl (tc 0, 95, .inl (Mf 6))), ((Ma 0), .inr (12, [.ref (Ma 1), .int (Mv 0), .int (Mv 1), .ref (Ma 2), .ref (Ma 3), .ref (Ma 4), .ref (Ma 5), .ref (Ma 6), .int sv_18, .int (Mv 3), .int (Mv 4), .int 6, .int (Mv 6), .int (Mv 7), .int (Mv 8), .ref (Ma 7), .int (Mv 9), .ref (Ma 8), .int (Mv 10), .ref (Ma 9), .ref (Ma 10), .int (Mv 11), .int (Mv 12), .int (Mv 13), .ref (Ma 11), .int (Mv 14), .ref (Ma 12), .ref (Ma 13), .ref (Ma 14), .ref (Ma 15), .ref (Ma 16), .long (Mj 0), .ref (Ma 17), .ref (Ma 18), .ref (Ma 19), .ref (Ma 20)])), ((Ma 1), .inl (tc 2, 400, .inl (Mf 1)))] := hD
  refine lv_if_ne (tgt := 56) hx hb dX12_clauseHere_33 (by decide) (fun c_23 => ?_) (fun c_23 => ?_)
  · skip
    refine lv_aload_n hx hb dX12_clauseHere_56 rfl (lv_at hl 2 rfl) ?_
    refine gf_X12_244 hx hb hts hown hK hP 2 rfl rfl dX12_clauseHere_57 ?_
    refine lv_iload_n hx hb dX12_clauseHere_60 rfl (lv_at hl 0 rfl) ?_
    refine lv_if_eq (tgt := 69) hx hb dX12_clauseHere_61 (by decide) (fun c_24 => absurd c_24 (by decide)) (fun c_24 => ?_)
    refine lv_bipush (v := 40) hx hb dX12_clauseHere_64 (by decide) ?_
    refine lv_goto (tgt := 71) hx hb dX12_clauseHere_66 (by decide) ?_
    refine lv_icmp_ne (tgt := 81) hx hb dX12_clauseHere_71 (by decide) (fun c_25 => ?_) (fun c_25 => ?_)
    · skip
      refine lv_aload_n hx hb dX12_clauseHere_81 rfl (lv_at hl 2 rfl) ?_
      refine lv_dup hx hb dX12_clauseHere_82 rfl ?_
      refine gf_X12_244 hx hb hts hown hK hP 2 rfl rfl dX12_clauseHere_83 ?_
      refine lv_iconst (v := 1) hx hb dX12_clauseHere_86 (by decide) ?_
      refine lv_iadd hx hb dX12_clauseHere_87 ?_
      refine lv_topi (fun x_26 ex_26 => ?_)
      refine pf_X12_244 hx hb hts hown hK hP hD hS 2 rfl (Nat.le_of_ble_eq_true rfl) rfl rfl dX12_clauseHere_88 (fun H locs hP hD hS => ?_)
      have hP : va_P D classes [((Ma 3), .inl (tc 0, 7, .inl (Mf 3))), ((Ma 6), .inl (tc 0, 95, .inl (Mf 6))), ((Ma 0), .inr (12, [.ref (Ma 1), .int (Mv 0), .int (Mv 1), .ref (Ma 2), .ref (Ma 3), .ref (Ma 4), .ref (Ma 5), .ref (Ma 6), .int sv_18, .int (Mv 3), .int (Mv 4), .int 6, .int (Mv 6), .int (Mv 7), .int x_26, .ref (Ma 7), .int (Mv 9), .ref (Ma 8), .int (Mv 10), .ref (Ma 9), .ref (Ma 10), .int (Mv 11), .int (Mv 12), .int (Mv 13), .ref (Ma 11), .int (Mv 14), .ref (Ma 12), .ref (Ma 13), .ref (Ma 14), .ref (Ma 15), .ref (Ma 16), .long (Mj 0), .ref (Ma 17), .ref (Ma 18), .ref (Ma 19), .ref (Ma 20)])), ((Ma 1), .inl (tc 2, 400, .inl (Mf 1)))] H := hP
      have hD : va_D A [((Ma 3), .inl (tc 0, 7, .inl (Mf 3))), ((Ma 6), .inl (tc 0, 95, .inl (Mf 6))), ((Ma 0), .inr (12, [.ref (Ma 1), .int (Mv 0), .int (Mv 1), .ref (Ma 2), .ref (Ma 3), .ref (Ma 4), .ref (Ma 5), .ref (Ma 6), .int sv_18, .int (Mv 3), .int (Mv 4), .int 6, .int (Mv 6), .int (Mv 7), .int x_26, .ref (Ma 7), .int (Mv 9), .ref (Ma 8), .int (Mv 10), .ref (Ma 9), .ref (Ma 10), .int (Mv 11), .int (Mv 12), .int (Mv 13), .ref (Ma 11), .int (Mv 14), .ref (Ma 12), .ref (Ma 13), .ref (Ma 14), .ref (Ma 15), .ref (Ma 16), .long (Mj 0), .ref (Ma 17), .ref (Ma 18), .ref (Ma 19), .ref (Ma 20)])), ((Ma 1), .inl (tc 2, 400, .inl (Mf 1)))] := hD
      refine lv_iload_n hx hb dX12_clauseHere_91 rfl (lv_at hl 0 rfl) ?_
      refine lv_if_eq (tgt := 103) hx hb dX12_clauseHere_92 (by decide) (fun c_27 => absurd c_27 (by decide)) (fun c_27 => ?_)
      refine lv_aload_n hx hb dX12_clauseHere_95 rfl (lv_at hl 2 rfl) ?_
      refine lv_iload_n hx hb dX12_clauseHere_96 rfl (lv_at hl 1 rfl) ?_
      have ha_28 : 0 ≤ (sv_18 : Int32).toInt ∧ (sv_18 : Int32).toInt ≤ ((Mv 0) : Int32).toInt ∧ ((Mv 0) : Int32).toInt ≤ 400 := by
        have z_1 : ¬ (r_20 : Int32).toInt = (0 : Int32).toInt := fun z => c_23 (Int32.toInt_inj.mp z)
        have z_2 : ¬ ((Mv 8) : Int32).toInt = (40 : Int32).toInt := fun z => c_25 (Int32.toInt_inj.mp z)
        have y_0 : (0 : Int32).toInt = 0 := by decide
        have y_40 : (40 : Int32).toInt = 40 := by decide
        omega
      have ha_29 : 0 ≤ sv_5.toInt ∧ sv_5.toInt ≤ 400 := by
        have z_1 : ¬ (r_20 : Int32).toInt = (0 : Int32).toInt := fun z => c_23 (Int32.toInt_inj.mp z)
        have z_2 : ¬ ((Mv 8) : Int32).toInt = (40 : Int32).toInt := fun z => c_25 (Int32.toInt_inj.mp z)
        have y_0 : (0 : Int32).toInt = 0 := by decide
        have y_40 : (40 : Int32).toInt = 40 := by decide
        omega
      refine cV (a := (Ma 0)) (As := [.int sv_5]) (rest := []) (wr := [((Ma 3), .inl (tc 0, 7, .inl (Mf 3)))]) ⟨hx, hb, hml, hown, hts⟩ hK hX hA (ct_X12_bookLineHere l D tc sk Ma (fun k => ([(Mv 0), (Mv 1), sv_18, (Mv 3), (Mv 4), 6, (Mv 6), (Mv 7), x_26, (Mv 9), (Mv 10), (Mv 11), (Mv 12), (Mv 13), (Mv 14)] : List (Int32)).getD k 0) Mf Mj sv_5 ha_28 ha_29 h_ro) k_1236 k_1233 k_1235 k_32 k_106 pl_X12_bookLineHere ⟨Nat.le_of_ble_eq_true rfl, Nat.le_of_ble_eq_true rfl⟩ rfl rfl (va_recv hK hP (ci := 12) (q0 := 2) rfl rfl) hP hD hS [2, 3, 1] [0] rfl rfl rfl rfl rfl (by decide) rfl hl.1 rfl (Nat.le_of_ble_eq_true rfl) dX12_clauseHere_97 ⟨Nat.le_of_ble_eq_true rfl, Nat.le_of_ble_eq_true rfl⟩ (fun v_30 u_31 H locs hv_32 hP hD hS => ?_)
      obtain ⟨sv_33, sv_34, sv_35, sv_36⟩ := u_31
      obtain ⟨r_38, rfl, he_39, pf_37, hm_41⟩ := hv_32
      have he_39 : ((r_38.toInt = 0 ∧ ¬ (sv_34 : Int32).toInt = 0) ∨ r_38.toInt = 1) := he_39
      have pf_37 : (sv_18 : Int32).toInt ≤ (sv_33 : Int32).toInt ∧ (sv_33 : Int32).toInt ≤ ((Mv 0) : Int32).toInt := pf_37
      refine W.eq (g2 := F0 m 100 ls [.int r_38]) rfl ?_
      have hP : va_P D classes [((Ma 3), .inl (tc 0, 7, .inl (Mf 3))), ((Ma 0), .inr (12, [.ref (Ma 1), .int (Mv 0), .int (Mv 1), .ref (Ma 2), .ref (Ma 3), .ref (Ma 4), .ref (Ma 5), .ref (Ma 6), .int sv_33, .int sv_34, .int sv_35, .int 6, .int (Mv 6), .int (Mv 7), .int x_26, .ref (Ma 7), .int (Mv 9), .ref (Ma 8), .int (Mv 10), .ref (Ma 9), .ref (Ma 10), .int (Mv 11), .int (Mv 12), .int (Mv 13), .ref (Ma 11), .int (Mv 14), .ref (Ma 12), .ref (Ma 13), .ref (Ma 14), .ref (Ma 15), .ref (Ma 16), .long (Mj 0), .ref (Ma 17), .ref (Ma 18), .ref (Ma 19), .ref (Ma 20)])), ((Ma 1), .inl (tc 2, 400, .inl (Mf 1))), ((Ma 6), .inl (tc 0, 95, .inl sv_36))] H := hP
      have hD : va_D A [((Ma 3), .inl (tc 0, 7, .inl (Mf 3))), ((Ma 0), .inr (12, [.ref (Ma 1), .int (Mv 0), .int (Mv 1), .ref (Ma 2), .ref (Ma 3), .ref (Ma 4), .ref (Ma 5), .ref (Ma 6), .int sv_33, .int sv_34, .int sv_35, .int 6, .int (Mv 6), .int (Mv 7), .int x_26, .ref (Ma 7), .int (Mv 9), .ref (Ma 8), .int (Mv 10), .ref (Ma 9), .ref (Ma 10), .int (Mv 11), .int (Mv 12), .int (Mv 13), .ref (Ma 11), .int (Mv 14), .ref (Ma 12), .ref (Ma 13), .ref (Ma 14), .ref (Ma 15), .ref (Ma 16), .long (Mj 0), .ref (Ma 17), .ref (Ma 18), .ref (Ma 19), .ref (Ma 20)])), ((Ma 1), .inl (tc 2, 400, .inl (Mf 1))), ((Ma 6), .inl (tc 0, 95, .inl sv_36))] := hD
      refine lv_goto (tgt := 107) hx hb dX12_clauseHere_100 (by decide) ?_
      have ha_42 : ((Mv 2) : Int32).toInt ≤ (sv_33 : Int32).toInt ∧ (sv_33 : Int32).toInt ≤ ((Mv 0) : Int32).toInt := by
        have z_1 : ¬ (r_20 : Int32).toInt = (0 : Int32).toInt := fun z => c_23 (Int32.toInt_inj.mp z)
        have z_2 : ¬ ((Mv 8) : Int32).toInt = (40 : Int32).toInt := fun z => c_25 (Int32.toInt_inj.mp z)
        have y_0 : (0 : Int32).toInt = 0 := by decide
        have y_40 : (40 : Int32).toInt = 40 := by decide
        omega
      have hb_43 : (r_38 : Int32).toInt = 0 ∨ (r_38 : Int32).toInt = 1 := by
        have z_1 : ¬ (r_20 : Int32).toInt = (0 : Int32).toInt := fun z => c_23 (Int32.toInt_inj.mp z)
        have z_2 : ¬ ((Mv 8) : Int32).toInt = (40 : Int32).toInt := fun z => c_25 (Int32.toInt_inj.mp z)
        have y_0 : (0 : Int32).toInt = 0 := by decide
        have y_40 : (40 : Int32).toInt = 40 := by decide
        omega
      have hp_44 : (((r_38 : Int32).toInt = 0 ∧ ¬ (sv_34 : Int32).toInt = 0) ∨ (r_38 : Int32).toInt = 1) := by
        have z_1 : ¬ (r_20 : Int32).toInt = (0 : Int32).toInt := fun z => c_23 (Int32.toInt_inj.mp z)
        have z_2 : ¬ ((Mv 8) : Int32).toInt = (40 : Int32).toInt := fun z => c_25 (Int32.toInt_inj.mp z)
        have y_0 : (0 : Int32).toInt = 0 := by decide
        have y_40 : (40 : Int32).toInt = 40 := by decide
        omega
      have hm_45 : (r_38 : Int32).toInt = 1 → (RdO sv_36) := by
        intro h1r
        obtain pf_46 := hm_41 h1r
        have pf_46 : RdO sv_36 := pf_46
        have ar_pf_46 := RdO.ar pf_46
        exact pf_46
      exact retI (v := r_38) hx hb hr hlk (nar01 hb_43) hP hD hS (sv_33, sv_34, sv_35, x_26, sv_36) ⟨_, rfl, hp_44, ha_42, hm_45⟩ [1, 2, 0, 3] rfl rfl dX12_clauseHere_107 (Nat.le_of_ble_eq_true rfl) (Nat.le_of_ble_eq_true rfl) rfl
    · skip
      refine lv_aload_n hx hb dX12_clauseHere_74 rfl (lv_at hl 2 rfl) ?_
      refine lv_iconst (v := 4) hx hb dX12_clauseHere_75 (by decide) ?_
      refine lv_iload_n hx hb dX12_clauseHere_76 rfl (lv_at hl 1 rfl) ?_
      have ha_47 : 0 ≤ (4 : Int32).toInt ∧ (4 : Int32).toInt ≤ 4 := by
        have z_1 : ¬ (r_20 : Int32).toInt = (0 : Int32).toInt := fun z => c_23 (Int32.toInt_inj.mp z)
        have z_2 := congrArg Int32.toInt c_25
        have y_0 : (0 : Int32).toInt = 0 := by decide
        have y_40 : (40 : Int32).toInt = 40 := by decide
        have y_4 : (4 : Int32).toInt = 4 := by decide
        omega
      have ha_48 : 0 ≤ sv_5.toInt ∧ sv_5.toInt ≤ 400 := by
        have z_1 : ¬ (r_20 : Int32).toInt = (0 : Int32).toInt := fun z => c_23 (Int32.toInt_inj.mp z)
        have z_2 := congrArg Int32.toInt c_25
        have y_0 : (0 : Int32).toInt = 0 := by decide
        have y_40 : (40 : Int32).toInt = 40 := by decide
        omega
      refine cV (a := (Ma 0)) (As := [.int 4, .int sv_5]) (rest := []) (wr := [((Ma 3), .inl (tc 0, 7, .inl (Mf 3))), ((Ma 6), .inl (tc 0, 95, .inl (Mf 6))), ((Ma 1), .inl (tc 2, 400, .inl (Mf 1)))]) ⟨hx, hb, hml, hown, hts⟩ hK hX hA (ct_X12_fails l D tc sk Ma (fun k => ([(Mv 0), (Mv 1), sv_18, (Mv 3), (Mv 4), 6, (Mv 6), (Mv 7), (Mv 8), (Mv 9), (Mv 10), (Mv 11), (Mv 12), (Mv 13), (Mv 14)] : List (Int32)).getD k 0) Mj 4 sv_5 ha_47 ha_48) k_1232 k_1229 k_1231 k_31 k_106 pl_X12_fails ⟨Nat.le_of_ble_eq_true rfl, Nat.le_of_ble_eq_true rfl⟩ rfl rfl (va_recv hK hP (ci := 12) (q0 := 2) rfl rfl) hP hD hS [2] [0, 1, 3] rfl rfl rfl rfl rfl (by decide) rfl hl.1 rfl (Nat.le_of_ble_eq_true rfl) dX12_clauseHere_77 ⟨Nat.le_of_ble_eq_true rfl, Nat.le_of_ble_eq_true rfl⟩ (fun v_49 u_50 H locs hv_51 hP hD hS => ?_)
      obtain ⟨sv_52, rfl⟩ : ∃ z, z = u_50 := ⟨_, rfl⟩
      obtain ⟨r_54, rfl, he_55, pf_53⟩ := hv_51
      have he_55 : r_54.toInt = 0 := he_55
      have pf_53 : ¬ (sv_52 : Int32).toInt = 0 := pf_53
      refine W.eq (g2 := F0 m 80 ls [.int r_54]) rfl ?_
      have hP : va_P D classes [((Ma 3), .inl (tc 0, 7, .inl (Mf 3))), ((Ma 6), .inl (tc 0, 95, .inl (Mf 6))), ((Ma 1), .inl (tc 2, 400, .inl (Mf 1))), ((Ma 0), .inr (12, [.ref (Ma 1), .int (Mv 0), .int (Mv 1), .ref (Ma 2), .ref (Ma 3), .ref (Ma 4), .ref (Ma 5), .ref (Ma 6), .int sv_18, .int sv_52, .int (Mv 4), .int 6, .int (Mv 6), .int (Mv 7), .int (Mv 8), .ref (Ma 7), .int (Mv 9), .ref (Ma 8), .int (Mv 10), .ref (Ma 9), .ref (Ma 10), .int (Mv 11), .int (Mv 12), .int (Mv 13), .ref (Ma 11), .int (Mv 14), .ref (Ma 12), .ref (Ma 13), .ref (Ma 14), .ref (Ma 15), .ref (Ma 16), .long (Mj 0), .ref (Ma 17), .ref (Ma 18), .ref (Ma 19), .ref (Ma 20)]))] H := hP
      have hD : va_D A [((Ma 3), .inl (tc 0, 7, .inl (Mf 3))), ((Ma 6), .inl (tc 0, 95, .inl (Mf 6))), ((Ma 1), .inl (tc 2, 400, .inl (Mf 1))), ((Ma 0), .inr (12, [.ref (Ma 1), .int (Mv 0), .int (Mv 1), .ref (Ma 2), .ref (Ma 3), .ref (Ma 4), .ref (Ma 5), .ref (Ma 6), .int sv_18, .int sv_52, .int (Mv 4), .int 6, .int (Mv 6), .int (Mv 7), .int (Mv 8), .ref (Ma 7), .int (Mv 9), .ref (Ma 8), .int (Mv 10), .ref (Ma 9), .ref (Ma 10), .int (Mv 11), .int (Mv 12), .int (Mv 13), .ref (Ma 11), .int (Mv 14), .ref (Ma 12), .ref (Ma 13), .ref (Ma 14), .ref (Ma 15), .ref (Ma 16), .long (Mj 0), .ref (Ma 17), .ref (Ma 18), .ref (Ma 19), .ref (Ma 20)]))] := hD
      have ha_57 : ((Mv 2) : Int32).toInt ≤ (sv_18 : Int32).toInt ∧ (sv_18 : Int32).toInt ≤ ((Mv 0) : Int32).toInt := by
        have z_1 : ¬ (r_20 : Int32).toInt = (0 : Int32).toInt := fun z => c_23 (Int32.toInt_inj.mp z)
        have z_2 := congrArg Int32.toInt c_25
        have y_0 : (0 : Int32).toInt = 0 := by decide
        have y_40 : (40 : Int32).toInt = 40 := by decide
        omega
      have hb_58 : (r_54 : Int32).toInt = 0 ∨ (r_54 : Int32).toInt = 1 := by
        have z_1 : ¬ (r_20 : Int32).toInt = (0 : Int32).toInt := fun z => c_23 (Int32.toInt_inj.mp z)
        have z_2 := congrArg Int32.toInt c_25
        have y_0 : (0 : Int32).toInt = 0 := by decide
        have y_40 : (40 : Int32).toInt = 40 := by decide
        omega
      have hp_59 : (((r_54 : Int32).toInt = 0 ∧ ¬ (sv_52 : Int32).toInt = 0) ∨ (r_54 : Int32).toInt = 1) := by
        have z_1 : ¬ (r_20 : Int32).toInt = (0 : Int32).toInt := fun z => c_23 (Int32.toInt_inj.mp z)
        have z_2 := congrArg Int32.toInt c_25
        have y_0 : (0 : Int32).toInt = 0 := by decide
        have y_40 : (40 : Int32).toInt = 40 := by decide
        omega
      have hm_60 : (r_54 : Int32).toInt = 1 → (RdO (Mf 6)) := by
        intro h1r
        exfalso
        have z_1 : ¬ (r_20 : Int32).toInt = (0 : Int32).toInt := fun z => c_23 (Int32.toInt_inj.mp z)
        have z_2 := congrArg Int32.toInt c_25
        have y_0 : (0 : Int32).toInt = 0 := by decide
        have y_40 : (40 : Int32).toInt = 40 := by decide
        omega
      exact retI (v := r_54) hx hb hr hlk (nar01 hb_58) hP hD hS (sv_18, sv_52, (Mv 4), (Mv 8), (Mf 6)) ⟨_, rfl, hp_59, ha_57, hm_60⟩ [3, 2, 0, 1] rfl rfl dX12_clauseHere_80 (Nat.le_of_ble_eq_true rfl) (Nat.le_of_ble_eq_true rfl) rfl
  · skip
    refine lv_goto (tgt := 49) hx hb dX12_clauseHere_36 (by decide) ?_
    refine lv_aload_n hx hb dX12_clauseHere_49 rfl (lv_at hl 2 rfl) ?_
    refine lv_iconst (v := 0) hx hb dX12_clauseHere_50 (by decide) ?_
    refine lv_iload_n hx hb dX12_clauseHere_51 rfl (lv_at hl 1 rfl) ?_
    have ha_61 : 0 ≤ (0 : Int32).toInt ∧ (0 : Int32).toInt ≤ 4 := by
      have z_1 := congrArg Int32.toInt c_23
      have y_0 : (0 : Int32).toInt = 0 := by decide
      omega
    have ha_62 : 0 ≤ sv_5.toInt ∧ sv_5.toInt ≤ 400 := by
      have z_1 := congrArg Int32.toInt c_23
      have y_0 : (0 : Int32).toInt = 0 := by decide
      omega
    refine cV (a := (Ma 0)) (As := [.int 0, .int sv_5]) (rest := []) (wr := [((Ma 3), .inl (tc 0, 7, .inl (Mf 3))), ((Ma 6), .inl (tc 0, 95, .inl (Mf 6))), ((Ma 1), .inl (tc 2, 400, .inl (Mf 1)))]) ⟨hx, hb, hml, hown, hts⟩ hK hX hA (ct_X12_fails l D tc sk Ma (fun k => ([(Mv 0), (Mv 1), sv_18, (Mv 3), (Mv 4), 6, (Mv 6), (Mv 7), (Mv 8), (Mv 9), (Mv 10), (Mv 11), (Mv 12), (Mv 13), (Mv 14)] : List (Int32)).getD k 0) Mj 0 sv_5 ha_61 ha_62) k_1232 k_1229 k_1231 k_31 k_106 pl_X12_fails ⟨Nat.le_of_ble_eq_true rfl, Nat.le_of_ble_eq_true rfl⟩ rfl rfl (va_recv hK hP (ci := 12) (q0 := 2) rfl rfl) hP hD hS [2] [0, 1, 3] rfl rfl rfl rfl rfl (by decide) rfl hl.1 rfl (Nat.le_of_ble_eq_true rfl) dX12_clauseHere_52 ⟨Nat.le_of_ble_eq_true rfl, Nat.le_of_ble_eq_true rfl⟩ (fun v_63 u_64 H locs hv_65 hP hD hS => ?_)
    obtain ⟨sv_66, rfl⟩ : ∃ z, z = u_64 := ⟨_, rfl⟩
    obtain ⟨r_68, rfl, he_69, pf_67⟩ := hv_65
    have he_69 : r_68.toInt = 0 := he_69
    have pf_67 : ¬ (sv_66 : Int32).toInt = 0 := pf_67
    refine W.eq (g2 := F0 m 55 ls [.int r_68]) rfl ?_
    have hP : va_P D classes [((Ma 3), .inl (tc 0, 7, .inl (Mf 3))), ((Ma 6), .inl (tc 0, 95, .inl (Mf 6))), ((Ma 1), .inl (tc 2, 400, .inl (Mf 1))), ((Ma 0), .inr (12, [.ref (Ma 1), .int (Mv 0), .int (Mv 1), .ref (Ma 2), .ref (Ma 3), .ref (Ma 4), .ref (Ma 5), .ref (Ma 6), .int sv_18, .int sv_66, .int (Mv 4), .int 6, .int (Mv 6), .int (Mv 7), .int (Mv 8), .ref (Ma 7), .int (Mv 9), .ref (Ma 8), .int (Mv 10), .ref (Ma 9), .ref (Ma 10), .int (Mv 11), .int (Mv 12), .int (Mv 13), .ref (Ma 11), .int (Mv 14), .ref (Ma 12), .ref (Ma 13), .ref (Ma 14), .ref (Ma 15), .ref (Ma 16), .long (Mj 0), .ref (Ma 17), .ref (Ma 18), .ref (Ma 19), .ref (Ma 20)]))] H := hP
    have hD : va_D A [((Ma 3), .inl (tc 0, 7, .inl (Mf 3))), ((Ma 6), .inl (tc 0, 95, .inl (Mf 6))), ((Ma 1), .inl (tc 2, 400, .inl (Mf 1))), ((Ma 0), .inr (12, [.ref (Ma 1), .int (Mv 0), .int (Mv 1), .ref (Ma 2), .ref (Ma 3), .ref (Ma 4), .ref (Ma 5), .ref (Ma 6), .int sv_18, .int sv_66, .int (Mv 4), .int 6, .int (Mv 6), .int (Mv 7), .int (Mv 8), .ref (Ma 7), .int (Mv 9), .ref (Ma 8), .int (Mv 10), .ref (Ma 9), .ref (Ma 10), .int (Mv 11), .int (Mv 12), .int (Mv 13), .ref (Ma 11), .int (Mv 14), .ref (Ma 12), .ref (Ma 13), .ref (Ma 14), .ref (Ma 15), .ref (Ma 16), .long (Mj 0), .ref (Ma 17), .ref (Ma 18), .ref (Ma 19), .ref (Ma 20)]))] := hD
    have ha_71 : ((Mv 2) : Int32).toInt ≤ (sv_18 : Int32).toInt ∧ (sv_18 : Int32).toInt ≤ ((Mv 0) : Int32).toInt := by
      have z_1 := congrArg Int32.toInt c_23
      have y_0 : (0 : Int32).toInt = 0 := by decide
      omega
    have hb_72 : (r_68 : Int32).toInt = 0 ∨ (r_68 : Int32).toInt = 1 := by
      have z_1 := congrArg Int32.toInt c_23
      have y_0 : (0 : Int32).toInt = 0 := by decide
      omega
    have hp_73 : (((r_68 : Int32).toInt = 0 ∧ ¬ (sv_66 : Int32).toInt = 0) ∨ (r_68 : Int32).toInt = 1) := by
      have z_1 := congrArg Int32.toInt c_23
      have y_0 : (0 : Int32).toInt = 0 := by decide
      omega
    have hm_74 : (r_68 : Int32).toInt = 1 → (RdO (Mf 6)) := by
      intro h1r
      exfalso
      have z_1 := congrArg Int32.toInt c_23
      have y_0 : (0 : Int32).toInt = 0 := by decide
      omega
    exact retI (v := r_68) hx hb hr hlk (nar01 hb_72) hP hD hS (sv_18, sv_66, (Mv 4), (Mv 8), (Mf 6)) ⟨_, rfl, hp_73, ha_71, hm_74⟩ [3, 2, 0, 1] rfl rfl dX12_clauseHere_55 (Nat.le_of_ble_eq_true rfl) (Nat.le_of_ble_eq_true rfl) rfl
set_option maxHeartbeats 4000000 in
set_option maxRecDepth 100000 in
theorem ct_X12_readsAll_b (l : Launch) (D : va_G) (tc : Nat → ClassId) (sk : (Nat → Nat) × (Nat → Nat)) (Ma : Nat → Nat) (Mv : Nat → Int32) (Mf : Nat → Nat → Int32) (Mj : Nat → Int64) (h_tp : 0 ≤ ((Mv 0) : Int32).toInt ∧ ((Mv 0) : Int32).toInt ≤ 400) (h_ro : RdO (Mf 6)) : Ct l yX12_readsAll cX12_readsAll 2 (some .boolean) { frames := 6, cells := 0, slots := 0, locals := 137 } D tc sk [.ref (Ma 0)] [((Ma 0), .inr (12, [.ref (Ma 1), .int (Mv 0), .int (Mv 1), .ref (Ma 2), .ref (Ma 3), .ref (Ma 4), .ref (Ma 5), .ref (Ma 6), .int (Mv 2), .int (Mv 3), .int (Mv 4), .int 6, .int (Mv 6), .int (Mv 7), .int (Mv 8), .ref (Ma 7), .int (Mv 9), .ref (Ma 8), .int (Mv 10), .ref (Ma 9), .ref (Ma 10), .int (Mv 11), .int (Mv 12), .int (Mv 13), .ref (Ma 11), .int (Mv 14), .ref (Ma 12), .ref (Ma 13), .ref (Ma 14), .ref (Ma 15), .ref (Ma 16), .long (Mj 0), .ref (Ma 17), .ref (Ma 18), .ref (Ma 19), .ref (Ma 20)])), ((Ma 1), .inl (tc 2, 400, .inl (Mf 1))), ((Ma 3), .inl (tc 0, 7, .inl (Mf 3))), ((Ma 6), .inl (tc 0, 95, .inl (Mf 6)))] (fun (v : Option Value) (u : (Int32) × (Int32) × (Int32) × (Int32) × (Nat → Int32) × (Nat → Int32)) => match u with | (oo0x1, oo0x2, oo0x3, oo0x4, oo0x5, oo0x6) => ∃ r : Int32, v = some (.int r) ∧ ((r.toInt = 0 ∨ r.toInt = 1)) ∧ (r.toInt = 1 → (RdO oo0x6))) (fun (u : (Int32) × (Int32) × (Int32) × (Int32) × (Nat → Int32) × (Nat → Int32)) => match u with | (oo0x1, oo0x2, oo0x3, oo0x4, oo0x5, oo0x6) => [((Ma 0), .inr (12, [.ref (Ma 1), .int 0, .int (Mv 1), .ref (Ma 2), .ref (Ma 3), .ref (Ma 4), .ref (Ma 5), .ref (Ma 6), .int oo0x1, .int oo0x2, .int oo0x3, .int 6, .int 0, .int (Mv 7), .int oo0x4, .ref (Ma 7), .int (Mv 9), .ref (Ma 8), .int (Mv 10), .ref (Ma 9), .ref (Ma 10), .int (Mv 11), .int (Mv 12), .int (Mv 13), .ref (Ma 11), .int (Mv 14), .ref (Ma 12), .ref (Ma 13), .ref (Ma 14), .ref (Ma 15), .ref (Ma 16), .long (Mj 0), .ref (Ma 17), .ref (Ma 18), .ref (Ma 19), .ref (Ma 20)])), ((Ma 1), .inl (tc 2, 400, .inl (Mf 1))), ((Ma 3), .inl (tc 0, 7, .inl oo0x5)), ((Ma 6), .inl (tc 0, 95, .inl oo0x6))]) 0 0 := by
  refine Ct.start (by decide) (Nat.le_of_ble_eq_true rfl) (fun p e s m below meth c A ls hx hb hr hlk hin hml hown hts hK hX hP hD hA hl hS => ?_)
  have hl : lv_has ls 2 [(0, .ref (Ma 0))] := hl
  have ar_h_ro := RdO.ar h_ro
  refine lv_aload_n hx hb dX12_readsAll_0 rfl (lv_at hl 0 rfl) ?_
  refine gf_X12_17 hx hb hts hown hK hP 0 rfl rfl dX12_readsAll_1 ?_
  refine lv_aload_n hx hb dX12_readsAll_4 rfl (lv_at hl 0 rfl) ?_
  refine gf_X12_145 hx hb hts hown hK hP 0 rfl rfl dX12_readsAll_5 ?_
  refine lv_iconst (v := 0) hx hb dX12_readsAll_8 (by decide) ?_
  refine st_int hx hb hK hP hD hS 2 0 rfl rfl (vin_dec (by decide +kernel)) dX12_readsAll_9 (fun g_1 H locs eg_1 hP hD hS => ?_)
  have hP : va_P D classes [((Ma 0), .inr (12, [.ref (Ma 1), .int (Mv 0), .int (Mv 1), .ref (Ma 2), .ref (Ma 3), .ref (Ma 4), .ref (Ma 5), .ref (Ma 6), .int (Mv 2), .int (Mv 3), .int (Mv 4), .int 6, .int (Mv 6), .int (Mv 7), .int (Mv 8), .ref (Ma 7), .int (Mv 9), .ref (Ma 8), .int (Mv 10), .ref (Ma 9), .ref (Ma 10), .int (Mv 11), .int (Mv 12), .int (Mv 13), .ref (Ma 11), .int (Mv 14), .ref (Ma 12), .ref (Ma 13), .ref (Ma 14), .ref (Ma 15), .ref (Ma 16), .long (Mj 0), .ref (Ma 17), .ref (Ma 18), .ref (Ma 19), .ref (Ma 20)])), ((Ma 1), .inl (tc 2, 400, .inl (Mf 1))), ((Ma 3), .inl (tc 0, 7, .inl g_1)), ((Ma 6), .inl (tc 0, 95, .inl (Mf 6)))] H := hP
  have hD : va_D A [((Ma 0), .inr (12, [.ref (Ma 1), .int (Mv 0), .int (Mv 1), .ref (Ma 2), .ref (Ma 3), .ref (Ma 4), .ref (Ma 5), .ref (Ma 6), .int (Mv 2), .int (Mv 3), .int (Mv 4), .int 6, .int (Mv 6), .int (Mv 7), .int (Mv 8), .ref (Ma 7), .int (Mv 9), .ref (Ma 8), .int (Mv 10), .ref (Ma 9), .ref (Ma 10), .int (Mv 11), .int (Mv 12), .int (Mv 13), .ref (Ma 11), .int (Mv 14), .ref (Ma 12), .ref (Ma 13), .ref (Ma 14), .ref (Ma 15), .ref (Ma 16), .long (Mj 0), .ref (Ma 17), .ref (Ma 18), .ref (Ma 19), .ref (Ma 20)])), ((Ma 1), .inl (tc 2, 400, .inl (Mf 1))), ((Ma 3), .inl (tc 0, 7, .inl g_1)), ((Ma 6), .inl (tc 0, 95, .inl (Mf 6)))] := hD
  refine lv_aload_n hx hb dX12_readsAll_10 rfl (lv_at hl 0 rfl) ?_
  refine lv_iconst (v := 0) hx hb dX12_readsAll_11 (by decide) ?_
  refine pf_X12_244 hx hb hts hown hK hP hD hS 0 rfl (Nat.le_of_ble_eq_true rfl) rfl rfl dX12_readsAll_12 (fun H locs hP hD hS => ?_)
  have hP : va_P D classes [((Ma 0), .inr (12, [.ref (Ma 1), .int (Mv 0), .int (Mv 1), .ref (Ma 2), .ref (Ma 3), .ref (Ma 4), .ref (Ma 5), .ref (Ma 6), .int (Mv 2), .int (Mv 3), .int (Mv 4), .int 6, .int (Mv 6), .int (Mv 7), .int 0, .ref (Ma 7), .int (Mv 9), .ref (Ma 8), .int (Mv 10), .ref (Ma 9), .ref (Ma 10), .int (Mv 11), .int (Mv 12), .int (Mv 13), .ref (Ma 11), .int (Mv 14), .ref (Ma 12), .ref (Ma 13), .ref (Ma 14), .ref (Ma 15), .ref (Ma 16), .long (Mj 0), .ref (Ma 17), .ref (Ma 18), .ref (Ma 19), .ref (Ma 20)])), ((Ma 1), .inl (tc 2, 400, .inl (Mf 1))), ((Ma 3), .inl (tc 0, 7, .inl g_1)), ((Ma 6), .inl (tc 0, 95, .inl (Mf 6)))] H := hP
  have hD : va_D A [((Ma 0), .inr (12, [.ref (Ma 1), .int (Mv 0), .int (Mv 1), .ref (Ma 2), .ref (Ma 3), .ref (Ma 4), .ref (Ma 5), .ref (Ma 6), .int (Mv 2), .int (Mv 3), .int (Mv 4), .int 6, .int (Mv 6), .int (Mv 7), .int 0, .ref (Ma 7), .int (Mv 9), .ref (Ma 8), .int (Mv 10), .ref (Ma 9), .ref (Ma 10), .int (Mv 11), .int (Mv 12), .int (Mv 13), .ref (Ma 11), .int (Mv 14), .ref (Ma 12), .ref (Ma 13), .ref (Ma 14), .ref (Ma 15), .ref (Ma 16), .long (Mj 0), .ref (Ma 17), .ref (Ma 18), .ref (Ma 19), .ref (Ma 20)])), ((Ma 1), .inl (tc 2, 400, .inl (Mf 1))), ((Ma 3), .inl (tc 0, 7, .inl g_1)), ((Ma 6), .inl (tc 0, 95, .inl (Mf 6)))] := hD
  refine lv_aload_n hx hb dX12_readsAll_15 rfl (lv_at hl 0 rfl) ?_
  refine lv_iconst (v := 0) hx hb dX12_readsAll_16 (by decide) ?_
  refine pf_X12_87 hx hb hts hown hK hP hD hS 0 rfl (Nat.le_of_ble_eq_true rfl) rfl rfl dX12_readsAll_17 (fun H locs hP hD hS => ?_)
  have hP : va_P D classes [((Ma 0), .inr (12, [.ref (Ma 1), .int (Mv 0), .int (Mv 1), .ref (Ma 2), .ref (Ma 3), .ref (Ma 4), .ref (Ma 5), .ref (Ma 6), .int 0, .int (Mv 3), .int (Mv 4), .int 6, .int (Mv 6), .int (Mv 7), .int 0, .ref (Ma 7), .int (Mv 9), .ref (Ma 8), .int (Mv 10), .ref (Ma 9), .ref (Ma 10), .int (Mv 11), .int (Mv 12), .int (Mv 13), .ref (Ma 11), .int (Mv 14), .ref (Ma 12), .ref (Ma 13), .ref (Ma 14), .ref (Ma 15), .ref (Ma 16), .long (Mj 0), .ref (Ma 17), .ref (Ma 18), .ref (Ma 19), .ref (Ma 20)])), ((Ma 1), .inl (tc 2, 400, .inl (Mf 1))), ((Ma 3), .inl (tc 0, 7, .inl g_1)), ((Ma 6), .inl (tc 0, 95, .inl (Mf 6)))] H := hP
  have hD : va_D A [((Ma 0), .inr (12, [.ref (Ma 1), .int (Mv 0), .int (Mv 1), .ref (Ma 2), .ref (Ma 3), .ref (Ma 4), .ref (Ma 5), .ref (Ma 6), .int 0, .int (Mv 3), .int (Mv 4), .int 6, .int (Mv 6), .int (Mv 7), .int 0, .ref (Ma 7), .int (Mv 9), .ref (Ma 8), .int (Mv 10), .ref (Ma 9), .ref (Ma 10), .int (Mv 11), .int (Mv 12), .int (Mv 13), .ref (Ma 11), .int (Mv 14), .ref (Ma 12), .ref (Ma 13), .ref (Ma 14), .ref (Ma 15), .ref (Ma 16), .long (Mj 0), .ref (Ma 17), .ref (Ma 18), .ref (Ma 19), .ref (Ma 20)])), ((Ma 1), .inl (tc 2, 400, .inl (Mf 1))), ((Ma 3), .inl (tc 0, 7, .inl g_1)), ((Ma 6), .inl (tc 0, 95, .inl (Mf 6)))] := hD
  refine lv_aload_n hx hb dX12_readsAll_20 rfl (lv_at hl 0 rfl) ?_
  refine lv_iconst (v := 0) hx hb dX12_readsAll_21 (by decide) ?_
  refine pf_X12_84 hx hb hts hown hK hP hD hS 0 rfl (Nat.le_of_ble_eq_true rfl) rfl rfl dX12_readsAll_22 (fun H locs hP hD hS => ?_)
  have hP : va_P D classes [((Ma 0), .inr (12, [.ref (Ma 1), .int (Mv 0), .int (Mv 1), .ref (Ma 2), .ref (Ma 3), .ref (Ma 4), .ref (Ma 5), .ref (Ma 6), .int 0, .int 0, .int (Mv 4), .int 6, .int (Mv 6), .int (Mv 7), .int 0, .ref (Ma 7), .int (Mv 9), .ref (Ma 8), .int (Mv 10), .ref (Ma 9), .ref (Ma 10), .int (Mv 11), .int (Mv 12), .int (Mv 13), .ref (Ma 11), .int (Mv 14), .ref (Ma 12), .ref (Ma 13), .ref (Ma 14), .ref (Ma 15), .ref (Ma 16), .long (Mj 0), .ref (Ma 17), .ref (Ma 18), .ref (Ma 19), .ref (Ma 20)])), ((Ma 1), .inl (tc 2, 400, .inl (Mf 1))), ((Ma 3), .inl (tc 0, 7, .inl g_1)), ((Ma 6), .inl (tc 0, 95, .inl (Mf 6)))] H := hP
  have hD : va_D A [((Ma 0), .inr (12, [.ref (Ma 1), .int (Mv 0), .int (Mv 1), .ref (Ma 2), .ref (Ma 3), .ref (Ma 4), .ref (Ma 5), .ref (Ma 6), .int 0, .int 0, .int (Mv 4), .int 6, .int (Mv 6), .int (Mv 7), .int 0, .ref (Ma 7), .int (Mv 9), .ref (Ma 8), .int (Mv 10), .ref (Ma 9), .ref (Ma 10), .int (Mv 11), .int (Mv 12), .int (Mv 13), .ref (Ma 11), .int (Mv 14), .ref (Ma 12), .ref (Ma 13), .ref (Ma 14), .ref (Ma 15), .ref (Ma 16), .long (Mj 0), .ref (Ma 17), .ref (Ma 18), .ref (Ma 19), .ref (Ma 20)])), ((Ma 1), .inl (tc 2, 400, .inl (Mf 1))), ((Ma 3), .inl (tc 0, 7, .inl g_1)), ((Ma 6), .inl (tc 0, 95, .inl (Mf 6)))] := hD
  refine lv_aload_n hx hb dX12_readsAll_25 rfl (lv_at hl 0 rfl) ?_
  refine lv_iconst (v := 0) hx hb dX12_readsAll_26 (by decide) ?_
  refine pf_X12_148 hx hb hts hown hK hP hD hS 0 rfl (Nat.le_of_ble_eq_true rfl) rfl rfl dX12_readsAll_27 (fun H locs hP hD hS => ?_)
  have hP : va_P D classes [((Ma 0), .inr (12, [.ref (Ma 1), .int (Mv 0), .int (Mv 1), .ref (Ma 2), .ref (Ma 3), .ref (Ma 4), .ref (Ma 5), .ref (Ma 6), .int 0, .int 0, .int (Mv 4), .int 6, .int 0, .int (Mv 7), .int 0, .ref (Ma 7), .int (Mv 9), .ref (Ma 8), .int (Mv 10), .ref (Ma 9), .ref (Ma 10), .int (Mv 11), .int (Mv 12), .int (Mv 13), .ref (Ma 11), .int (Mv 14), .ref (Ma 12), .ref (Ma 13), .ref (Ma 14), .ref (Ma 15), .ref (Ma 16), .long (Mj 0), .ref (Ma 17), .ref (Ma 18), .ref (Ma 19), .ref (Ma 20)])), ((Ma 1), .inl (tc 2, 400, .inl (Mf 1))), ((Ma 3), .inl (tc 0, 7, .inl g_1)), ((Ma 6), .inl (tc 0, 95, .inl (Mf 6)))] H := hP
  have hD : va_D A [((Ma 0), .inr (12, [.ref (Ma 1), .int (Mv 0), .int (Mv 1), .ref (Ma 2), .ref (Ma 3), .ref (Ma 4), .ref (Ma 5), .ref (Ma 6), .int 0, .int 0, .int (Mv 4), .int 6, .int 0, .int (Mv 7), .int 0, .ref (Ma 7), .int (Mv 9), .ref (Ma 8), .int (Mv 10), .ref (Ma 9), .ref (Ma 10), .int (Mv 11), .int (Mv 12), .int (Mv 13), .ref (Ma 11), .int (Mv 14), .ref (Ma 12), .ref (Ma 13), .ref (Ma 14), .ref (Ma 15), .ref (Ma 16), .long (Mj 0), .ref (Ma 17), .ref (Ma 18), .ref (Ma 19), .ref (Ma 20)])), ((Ma 1), .inl (tc 2, 400, .inl (Mf 1))), ((Ma 3), .inl (tc 0, 7, .inl g_1)), ((Ma 6), .inl (tc 0, 95, .inl (Mf 6)))] := hD
  refine lv_aload_n hx hb dX12_readsAll_30 rfl (lv_at hl 0 rfl) ?_
  have ha_2 : 0 ≤ ((0 : Int32) : Int32).toInt ∧ ((0 : Int32) : Int32).toInt ≤ ((Mv 0) : Int32).toInt ∧ ((Mv 0) : Int32).toInt ≤ 400 := by
    have y_0 : (0 : Int32).toInt = 0 := by decide
    omega
  refine cV (a := (Ma 0)) (As := []) (rest := []) (wr := []) ⟨hx, hb, hml, hown, hts⟩ hK hX hA (ct_X12_clauseHere_b l D tc sk Ma (fun k => ([(Mv 0), (Mv 1), 0, 0, (Mv 4), 0, 0, (Mv 7), 0, (Mv 9), (Mv 10), (Mv 11), (Mv 12), (Mv 13), (Mv 14)] : List (Int32)).getD k 0) (fun k => ([(fun _ => 0), (Mf 1), (fun _ => 0), g_1, (fun _ => 0), (fun _ => 0), (Mf 6)] : List (Nat → Int32)).getD k (fun _ => 0)) Mj ha_2 h_ro) k_1207 k_1204 k_1206 k_26 k_106 pl_X12_clauseHere ⟨Nat.le_of_ble_eq_true rfl, Nat.le_of_ble_eq_true rfl⟩ rfl rfl (va_recv hK hP (ci := 12) (q0 := 0) rfl rfl) hP hD hS [0, 1, 2, 3] [] rfl rfl rfl rfl rfl (by decide) rfl hl.1 rfl (Nat.le_of_ble_eq_true rfl) dX12_readsAll_31 ⟨Nat.le_of_ble_eq_true rfl, Nat.le_of_ble_eq_true rfl⟩ (fun v_3 u_4 H locs hv_5 hP hD hS => ?_)
  obtain ⟨sv_6, sv_7, sv_8, sv_9, sv_10⟩ := u_4
  obtain ⟨r_12, rfl, he_13, pf_11, hm_15⟩ := hv_5
  have he_13 : ((r_12.toInt = 0 ∧ ¬ (sv_7 : Int32).toInt = 0) ∨ r_12.toInt = 1) := he_13
  have pf_11 : ((0 : Int32) : Int32).toInt ≤ (sv_6 : Int32).toInt ∧ (sv_6 : Int32).toInt ≤ ((Mv 0) : Int32).toInt := pf_11
  refine W.eq (g2 := F0 m 34 ls [.int r_12]) rfl ?_
  have hP : va_P D classes [((Ma 0), .inr (12, [.ref (Ma 1), .int (Mv 0), .int (Mv 1), .ref (Ma 2), .ref (Ma 3), .ref (Ma 4), .ref (Ma 5), .ref (Ma 6), .int sv_6, .int sv_7, .int sv_8, .int 6, .int 0, .int (Mv 7), .int sv_9, .ref (Ma 7), .int (Mv 9), .ref (Ma 8), .int (Mv 10), .ref (Ma 9), .ref (Ma 10), .int (Mv 11), .int (Mv 12), .int (Mv 13), .ref (Ma 11), .int (Mv 14), .ref (Ma 12), .ref (Ma 13), .ref (Ma 14), .ref (Ma 15), .ref (Ma 16), .long (Mj 0), .ref (Ma 17), .ref (Ma 18), .ref (Ma 19), .ref (Ma 20)])), ((Ma 1), .inl (tc 2, 400, .inl (Mf 1))), ((Ma 3), .inl (tc 0, 7, .inl g_1)), ((Ma 6), .inl (tc 0, 95, .inl sv_10))] H := hP
  have hD : va_D A [((Ma 0), .inr (12, [.ref (Ma 1), .int (Mv 0), .int (Mv 1), .ref (Ma 2), .ref (Ma 3), .ref (Ma 4), .ref (Ma 5), .ref (Ma 6), .int sv_6, .int sv_7, .int sv_8, .int 6, .int 0, .int (Mv 7), .int sv_9, .ref (Ma 7), .int (Mv 9), .ref (Ma 8), .int (Mv 10), .ref (Ma 9), .ref (Ma 10), .int (Mv 11), .int (Mv 12), .int (Mv 13), .ref (Ma 11), .int (Mv 14), .ref (Ma 12), .ref (Ma 13), .ref (Ma 14), .ref (Ma 15), .ref (Ma 16), .long (Mj 0), .ref (Ma 17), .ref (Ma 18), .ref (Ma 19), .ref (Ma 20)])), ((Ma 1), .inl (tc 2, 400, .inl (Mf 1))), ((Ma 3), .inl (tc 0, 7, .inl g_1)), ((Ma 6), .inl (tc 0, 95, .inl sv_10))] := hD
  refine lv_istore_n (lv' := [(1, .int r_12), (0, .ref (Ma 0))]) hx hb dX12_readsAll_34 rfl hl (by decide) rfl (fun ls hl => ?_)
  have loop_30 : ∀ (n_28 : Nat) (vy_22 : Int32) (vy_23 : Int32) (vy_24 : Int32) (vy_25 : Int32) (vy_26 : Int32) (vy_27 : Nat → Int32) (H : Heap) (locs : List Loc) (ls : Array Slot), (2 * (401 - (vy_23 : Int32).toInt) + (vy_22 : Int32).toInt).toNat < n_28 → (0 ≤ (vy_23 : Int32).toInt ∧ (vy_23 : Int32).toInt ≤ ((Mv 0) : Int32).toInt ∧ ((Mv 0) : Int32).toInt ≤ 400) → ((((vy_22 : Int32).toInt = 0 ∧ ¬ (vy_24 : Int32).toInt = 0) ∨ (vy_22 : Int32).toInt = 1)) → (RdG vy_27 vy_22) → va_P D classes [((Ma 0), .inr (12, [.ref (Ma 1), .int (Mv 0), .int (Mv 1), .ref (Ma 2), .ref (Ma 3), .ref (Ma 4), .ref (Ma 5), .ref (Ma 6), .int vy_23, .int vy_24, .int vy_25, .int 6, .int 0, .int (Mv 7), .int vy_26, .ref (Ma 7), .int (Mv 9), .ref (Ma 8), .int (Mv 10), .ref (Ma 9), .ref (Ma 10), .int (Mv 11), .int (Mv 12), .int (Mv 13), .ref (Ma 11), .int (Mv 14), .ref (Ma 12), .ref (Ma 13), .ref (Ma 14), .ref (Ma 15), .ref (Ma 16), .long (Mj 0), .ref (Ma 17), .ref (Ma 18), .ref (Ma 19), .ref (Ma 20)])), ((Ma 1), .inl (tc 2, 400, .inl (Mf 1))), ((Ma 3), .inl (tc 0, 7, .inl g_1)), ((Ma 6), .inl (tc 0, 95, .inl vy_27))] H → va_D A [((Ma 0), .inr (12, [.ref (Ma 1), .int (Mv 0), .int (Mv 1), .ref (Ma 2), .ref (Ma 3), .ref (Ma 4), .ref (Ma 5), .ref (Ma 6), .int vy_23, .int vy_24, .int vy_25, .int 6, .int 0, .int (Mv 7), .int vy_26, .ref (Ma 7), .int (Mv 9), .ref (Ma 8), .int (Mv 10), .ref (Ma 9), .ref (Ma 10), .int (Mv 11), .int (Mv 12), .int (Mv 13), .ref (Ma 11), .int (Mv 14), .ref (Ma 12), .ref (Ma 13), .ref (Ma 14), .ref (Ma 15), .ref (Ma 16), .long (Mj 0), .ref (Ma 17), .ref (Ma 18), .ref (Ma 19), .ref (Ma 20)])), ((Ma 1), .inl (tc 2, 400, .inl (Mf 1))), ((Ma 3), .inl (tc 0, 7, .inl g_1)), ((Ma 6), .inl (tc 0, 95, .inl vy_27))] → va_S A s.heap H locs → lv_has ls 2 [(1, .int vy_22), (0, .ref (Ma 0))] → W p l e ({ frames := 6, cells := 0, slots := 0, locals := 137 }) s m ([.ref (Ma 0)].toArray) below meth c H locs 0 0 (MQ below (QW (fun (v : Option Value) (u : (Int32) × (Int32) × (Int32) × (Int32) × (Nat → Int32) × (Nat → Int32)) => match u with | (oo0x1, oo0x2, oo0x3, oo0x4, oo0x5, oo0x6) => ∃ r : Int32, v = some (.int r) ∧ ((r.toInt = 0 ∨ r.toInt = 1)) ∧ (r.toInt = 1 → (RdO oo0x6))) (BW D (fun (u : (Int32) × (Int32) × (Int32) × (Int32) × (Nat → Int32) × (Nat → Int32)) => match u with | (oo0x1, oo0x2, oo0x3, oo0x4, oo0x5, oo0x6) => [((Ma 0), .inr (12, [.ref (Ma 1), .int 0, .int (Mv 1), .ref (Ma 2), .ref (Ma 3), .ref (Ma 4), .ref (Ma 5), .ref (Ma 6), .int oo0x1, .int oo0x2, .int oo0x3, .int 6, .int 0, .int (Mv 7), .int oo0x4, .ref (Ma 7), .int (Mv 9), .ref (Ma 8), .int (Mv 10), .ref (Ma 9), .ref (Ma 10), .int (Mv 11), .int (Mv 12), .int (Mv 13), .ref (Ma 11), .int (Mv 14), .ref (Ma 12), .ref (Ma 13), .ref (Ma 14), .ref (Ma 15), .ref (Ma 16), .long (Mj 0), .ref (Ma 17), .ref (Ma 18), .ref (Ma 19), .ref (Ma 20)])), ((Ma 1), .inl (tc 2, 400, .inl (Mf 1))), ((Ma 3), .inl (tc 0, 7, .inl oo0x5)), ((Ma 6), .inl (tc 0, 95, .inl oo0x6))]) A) A) ([.ref (Ma 0)].toArray) s 0 0 A) (F0 m 35 ls []) := by
    intro n_28
    induction n_28 with
    | zero =>
      intro vy_22 vy_23 vy_24 vy_25 vy_26 vy_27 H locs ls h1
      exact absurd h1 (Nat.not_lt_zero _)
    | succ n_28 ih_29 =>
      intro vy_22 vy_23 vy_24 vy_25 vy_26 vy_27 H locs ls hn_34 pf_31 pf_32 pf_33 hP hD hS hl
      refine lv_iload_n hx hb dX12_readsAll_35 rfl (lv_at hl 0 rfl) ?_
      refine lv_if_eq (tgt := 66) hx hb dX12_readsAll_36 (by decide) (fun c_35 => ?_) (fun c_35 => ?_)
      · skip
        refine lv_iload_n hx hb dX12_readsAll_66 rfl (lv_at hl 0 rfl) ?_
        refine lv_if_eq (tgt := 88) hx hb dX12_readsAll_67 (by decide) (fun c_36 => ?_) (fun c_36 => ?_)
        · skip
          refine lv_aload_n hx hb dX12_readsAll_88 rfl (lv_at hl 1 rfl) ?_
          refine lv_iconst (v := 0) hx hb dX12_readsAll_89 (by decide) ?_
          refine pf_X12_77 hx hb hts hown hK hP hD hS 0 rfl (Nat.le_of_ble_eq_true rfl) rfl rfl dX12_readsAll_90 (fun H locs hP hD hS => ?_)
          have hP : va_P D classes [((Ma 0), .inr (12, [.ref (Ma 1), .int 0, .int (Mv 1), .ref (Ma 2), .ref (Ma 3), .ref (Ma 4), .ref (Ma 5), .ref (Ma 6), .int vy_23, .int vy_24, .int vy_25, .int 6, .int 0, .int (Mv 7), .int vy_26, .ref (Ma 7), .int (Mv 9), .ref (Ma 8), .int (Mv 10), .ref (Ma 9), .ref (Ma 10), .int (Mv 11), .int (Mv 12), .int (Mv 13), .ref (Ma 11), .int (Mv 14), .ref (Ma 12), .ref (Ma 13), .ref (Ma 14), .ref (Ma 15), .ref (Ma 16), .long (Mj 0), .ref (Ma 17), .ref (Ma 18), .ref (Ma 19), .ref (Ma 20)])), ((Ma 1), .inl (tc 2, 400, .inl (Mf 1))), ((Ma 3), .inl (tc 0, 7, .inl g_1)), ((Ma 6), .inl (tc 0, 95, .inl vy_27))] H := hP
          have hD : va_D A [((Ma 0), .inr (12, [.ref (Ma 1), .int 0, .int (Mv 1), .ref (Ma 2), .ref (Ma 3), .ref (Ma 4), .ref (Ma 5), .ref (Ma 6), .int vy_23, .int vy_24, .int vy_25, .int 6, .int 0, .int (Mv 7), .int vy_26, .ref (Ma 7), .int (Mv 9), .ref (Ma 8), .int (Mv 10), .ref (Ma 9), .ref (Ma 10), .int (Mv 11), .int (Mv 12), .int (Mv 13), .ref (Ma 11), .int (Mv 14), .ref (Ma 12), .ref (Ma 13), .ref (Ma 14), .ref (Ma 15), .ref (Ma 16), .long (Mj 0), .ref (Ma 17), .ref (Ma 18), .ref (Ma 19), .ref (Ma 20)])), ((Ma 1), .inl (tc 2, 400, .inl (Mf 1))), ((Ma 3), .inl (tc 0, 7, .inl g_1)), ((Ma 6), .inl (tc 0, 95, .inl vy_27))] := hD
          refine lv_aload_n hx hb dX12_readsAll_93 rfl (lv_at hl 1 rfl) ?_
          refine gf_X12_84 hx hb hts hown hK hP 0 rfl rfl dX12_readsAll_94 ?_
          refine lv_if_ne (tgt := 104) hx hb dX12_readsAll_97 (by decide) (fun c_37 => ?_) (fun c_37 => ?_)
          · skip
            refine lv_iconst (v := 0) hx hb dX12_readsAll_104 (by decide) ?_
            have hp_38 : ((0 : Int32).toInt = 0 ∨ (0 : Int32).toInt = 1) := by
              have z_1 := congrArg Int32.toInt c_35
              have z_2 := congrArg Int32.toInt c_36
              have z_3 : ¬ (vy_24 : Int32).toInt = (0 : Int32).toInt := fun z => c_37 (Int32.toInt_inj.mp z)
              have y_0 : (0 : Int32).toInt = 0 := by decide
              omega
            exact retI (v := 0) hx hb hr hlk (rfl) hP hD hS (vy_23, vy_24, vy_25, vy_26, g_1, vy_27) ⟨_, rfl, hp_38, (fun h => absurd h (by decide))⟩ [0, 1, 2, 3] rfl rfl dX12_readsAll_105 (Nat.le_of_ble_eq_true rfl) (Nat.le_of_ble_eq_true rfl) rfl
          · skip
            refine lv_iconst (v := 1) hx hb dX12_readsAll_100 (by decide) ?_
            refine lv_goto (tgt := 105) hx hb dX12_readsAll_101 (by decide) ?_
            have hp_39 : ((1 : Int32).toInt = 0 ∨ (1 : Int32).toInt = 1) := by
              have z_1 := congrArg Int32.toInt c_35
              have z_2 := congrArg Int32.toInt c_36
              have z_3 := congrArg Int32.toInt c_37
              have y_0 : (0 : Int32).toInt = 0 := by decide
              have y_1 : (1 : Int32).toInt = 1 := by decide
              have yr : (1 : Int32).toInt = 1 := by decide
              omega
            have hm_40 : (1 : Int32).toInt = 1 → (RdO vy_27) := by
              intro h1r
              have hf_41 : False := by
                have z_1 := congrArg Int32.toInt c_35
                have z_2 := congrArg Int32.toInt c_36
                have z_3 := congrArg Int32.toInt c_37
                have y_0 : (0 : Int32).toInt = 0 := by decide
                omega
              exact (hf_41.elim)
            exact retI (v := 1) hx hb hr hlk (rfl) hP hD hS (vy_23, vy_24, vy_25, vy_26, g_1, vy_27) ⟨_, rfl, hp_39, hm_40⟩ [0, 1, 2, 3] rfl rfl dX12_readsAll_105 (Nat.le_of_ble_eq_true rfl) (Nat.le_of_ble_eq_true rfl) rfl
        · skip
          exfalso
          have z_1 := congrArg Int32.toInt c_35
          have z_2 : ¬ (vy_22 : Int32).toInt = (0 : Int32).toInt := fun z => c_36 (Int32.toInt_inj.mp z)
          have y_0 : (0 : Int32).toInt = 0 := by decide
          omega
      · skip
        have hr_43 : (vy_22 : Int32).toInt = 1 := by
          have z_1 : ¬ (vy_22 : Int32).toInt = (0 : Int32).toInt := fun z => c_35 (Int32.toInt_inj.mp z)
          have y_0 : (0 : Int32).toInt = 0 := by decide
          omega
        have pf_42 : RdO vy_27 := pf_33 hr_43
        have ar_pf_42 := RdO.ar pf_42
        refine lv_aload_n hx hb dX12_readsAll_39 rfl (lv_at hl 1 rfl) ?_
        have ha_44 : 0 ≤ (vy_23 : Int32).toInt ∧ (vy_23 : Int32).toInt ≤ ((Mv 0) : Int32).toInt ∧ ((Mv 0) : Int32).toInt ≤ 400 := by
          have z_1 : ¬ (vy_22 : Int32).toInt = (0 : Int32).toInt := fun z => c_35 (Int32.toInt_inj.mp z)
          have y_0 : (0 : Int32).toInt = 0 := by decide
          omega
        refine cV (a := (Ma 0)) (As := []) (rest := []) (wr := [((Ma 3), .inl (tc 0, 7, .inl g_1)), ((Ma 6), .inl (tc 0, 95, .inl vy_27))]) ⟨hx, hb, hml, hown, hts⟩ hK hX hA (ct_X12_see l D tc sk Ma (fun k => ([(Mv 0), (Mv 1), vy_23, vy_24, vy_25, 6, 0, (Mv 7), vy_26, (Mv 9), (Mv 10), (Mv 11), (Mv 12), (Mv 13), (Mv 14)] : List (Int32)).getD k 0) Mf Mj ha_44) k_1211 k_1208 k_1210 k_27 k_106 pl_X12_see ⟨Nat.le_of_ble_eq_true rfl, Nat.le_of_ble_eq_true rfl⟩ rfl rfl (va_recv hK hP (ci := 12) (q0 := 0) rfl rfl) hP hD hS [0, 1] [2, 3] rfl rfl rfl rfl rfl (by decide) rfl hl.1 rfl (Nat.le_of_ble_eq_true rfl) dX12_readsAll_40 ⟨Nat.le_of_ble_eq_true rfl, Nat.le_of_ble_eq_true rfl⟩ (fun v_45 u_46 H locs hv_47 hP hD hS => ?_)
        obtain ⟨sv_48, rfl⟩ : ∃ z, z = u_46 := ⟨_, rfl⟩
        obtain ⟨r_52, rfl, he_53, pf_49, pf_50, pf_51⟩ := hv_47
        have he_53 : (r_52.toInt = -1 ∨ (sv_48 : Int32).toInt < ((Mv 0) : Int32).toInt) := he_53
        have pf_49 : (vy_23 : Int32).toInt ≤ (sv_48 : Int32).toInt ∧ (sv_48 : Int32).toInt ≤ ((Mv 0) : Int32).toInt := pf_49
        have pf_50 : NSq (Mf 1) (Mv 0) sv_48 := pf_50
        have pf_51 : Stl (Mf 1) (Mv 0) vy_23 sv_48 := pf_51
        refine W.eq (g2 := F0 m 43 ls [.int r_52]) rfl ?_
        have hP : va_P D classes [((Ma 3), .inl (tc 0, 7, .inl g_1)), ((Ma 6), .inl (tc 0, 95, .inl vy_27)), ((Ma 0), .inr (12, [.ref (Ma 1), .int (Mv 0), .int (Mv 1), .ref (Ma 2), .ref (Ma 3), .ref (Ma 4), .ref (Ma 5), .ref (Ma 6), .int sv_48, .int vy_24, .int vy_25, .int 6, .int 0, .int (Mv 7), .int vy_26, .ref (Ma 7), .int (Mv 9), .ref (Ma 8), .int (Mv 10), .ref (Ma 9), .ref (Ma 10), .int (Mv 11), .int (Mv 12), .int (Mv 13), .ref (Ma 11), .int (Mv 14), .ref (Ma 12), .ref (Ma 13), .ref (Ma 14), .ref (Ma 15), .ref (Ma 16), .long (Mj 0), .ref (Ma 17), .ref (Ma 18), .ref (Ma 19), .ref (Ma 20)])), ((Ma 1), .inl (tc 2, 400, .inl (Mf 1)))] H := hP
        have hD : va_D A [((Ma 3), .inl (tc 0, 7, .inl g_1)), ((Ma 6), .inl (tc 0, 95, .inl vy_27)), ((Ma 0), .inr (12, [.ref (Ma 1), .int (Mv 0), .int (Mv 1), .ref (Ma 2), .ref (Ma 3), .ref (Ma 4), .ref (Ma 5), .ref (Ma 6), .int sv_48, .int vy_24, .int vy_25, .int 6, .int 0, .int (Mv 7), .int vy_26, .ref (Ma 7), .int (Mv 9), .ref (Ma 8), .int (Mv 10), .ref (Ma 9), .ref (Ma 10), .int (Mv 11), .int (Mv 12), .int (Mv 13), .ref (Ma 11), .int (Mv 14), .ref (Ma 12), .ref (Ma 13), .ref (Ma 14), .ref (Ma 15), .ref (Ma 16), .long (Mj 0), .ref (Ma 17), .ref (Ma 18), .ref (Ma 19), .ref (Ma 20)])), ((Ma 1), .inl (tc 2, 400, .inl (Mf 1)))] := hD
        refine lv_bipush (v := 59) hx hb dX12_readsAll_43 (by decide) ?_
        refine lv_icmp_ne (tgt := 66) hx hb dX12_readsAll_45 (by decide) (fun c_55 => ?_) (fun c_55 => ?_)
        · skip
          refine lv_iload_n hx hb dX12_readsAll_66 rfl (lv_at hl 0 rfl) ?_
          refine lv_if_eq (tgt := 88) hx hb dX12_readsAll_67 (by decide) (fun c_56 => ?_) (fun c_56 => ?_)
          · skip
            exfalso
            have z_1 : ¬ (vy_22 : Int32).toInt = (0 : Int32).toInt := fun z => c_35 (Int32.toInt_inj.mp z)
            have z_2 : ¬ (r_52 : Int32).toInt = (59 : Int32).toInt := fun z => c_55 (Int32.toInt_inj.mp z)
            have z_3 := congrArg Int32.toInt c_56
            have y_0 : (0 : Int32).toInt = 0 := by decide
            have y_59 : (59 : Int32).toInt = 59 := by decide
            omega
          · skip
            refine lv_aload_n hx hb dX12_readsAll_70 rfl (lv_at hl 1 rfl) ?_
            have ha_57 : 0 ≤ (sv_48 : Int32).toInt ∧ (sv_48 : Int32).toInt ≤ ((Mv 0) : Int32).toInt ∧ ((Mv 0) : Int32).toInt ≤ 400 := by
              have z_1 : ¬ (vy_22 : Int32).toInt = (0 : Int32).toInt := fun z => c_35 (Int32.toInt_inj.mp z)
              have z_2 : ¬ (r_52 : Int32).toInt = (59 : Int32).toInt := fun z => c_55 (Int32.toInt_inj.mp z)
              have z_3 : ¬ (vy_22 : Int32).toInt = (0 : Int32).toInt := fun z => c_56 (Int32.toInt_inj.mp z)
              have y_0 : (0 : Int32).toInt = 0 := by decide
              have y_59 : (59 : Int32).toInt = 59 := by decide
              omega
            refine cV (a := (Ma 0)) (As := []) (rest := []) (wr := [((Ma 3), .inl (tc 0, 7, .inl g_1)), ((Ma 6), .inl (tc 0, 95, .inl vy_27))]) ⟨hx, hb, hml, hown, hts⟩ hK hX hA (ct_X12_see l D tc sk Ma (fun k => ([(Mv 0), (Mv 1), sv_48, vy_24, vy_25, 6, 0, (Mv 7), vy_26, (Mv 9), (Mv 10), (Mv 11), (Mv 12), (Mv 13), (Mv 14)] : List (Int32)).getD k 0) Mf Mj ha_57) k_1211 k_1208 k_1210 k_27 k_106 pl_X12_see ⟨Nat.le_of_ble_eq_true rfl, Nat.le_of_ble_eq_true rfl⟩ rfl rfl (va_recv hK hP (ci := 12) (q0 := 2) rfl rfl) hP hD hS [2, 3] [0, 1] rfl rfl rfl rfl rfl (by decide) rfl hl.1 rfl (Nat.le_of_ble_eq_true rfl) dX12_readsAll_71 ⟨Nat.le_of_ble_eq_true rfl, Nat.le_of_ble_eq_true rfl⟩ (fun v_58 u_59 H locs hv_60 hP hD hS => ?_)
            obtain ⟨sv_61, rfl⟩ : ∃ z, z = u_59 := ⟨_, rfl⟩
            obtain ⟨r_65, rfl, he_66, pf_62, pf_63, pf_64⟩ := hv_60
            have he_66 : (r_65.toInt = -1 ∨ (sv_61 : Int32).toInt < ((Mv 0) : Int32).toInt) := he_66
            have pf_62 : (sv_48 : Int32).toInt ≤ (sv_61 : Int32).toInt ∧ (sv_61 : Int32).toInt ≤ ((Mv 0) : Int32).toInt := pf_62
            have pf_63 : NSq (Mf 1) (Mv 0) sv_61 := pf_63
            have pf_64 : Stl (Mf 1) (Mv 0) sv_48 sv_61 := pf_64
            have ar_pf_64 := Stl.or pf_64 pf_50
            refine W.eq (g2 := F0 m 74 ls [.int r_65]) rfl ?_
            have hP : va_P D classes [((Ma 3), .inl (tc 0, 7, .inl g_1)), ((Ma 6), .inl (tc 0, 95, .inl vy_27)), ((Ma 0), .inr (12, [.ref (Ma 1), .int (Mv 0), .int (Mv 1), .ref (Ma 2), .ref (Ma 3), .ref (Ma 4), .ref (Ma 5), .ref (Ma 6), .int sv_61, .int vy_24, .int vy_25, .int 6, .int 0, .int (Mv 7), .int vy_26, .ref (Ma 7), .int (Mv 9), .ref (Ma 8), .int (Mv 10), .ref (Ma 9), .ref (Ma 10), .int (Mv 11), .int (Mv 12), .int (Mv 13), .ref (Ma 11), .int (Mv 14), .ref (Ma 12), .ref (Ma 13), .ref (Ma 14), .ref (Ma 15), .ref (Ma 16), .long (Mj 0), .ref (Ma 17), .ref (Ma 18), .ref (Ma 19), .ref (Ma 20)])), ((Ma 1), .inl (tc 2, 400, .inl (Mf 1)))] H := hP
            have hD : va_D A [((Ma 3), .inl (tc 0, 7, .inl g_1)), ((Ma 6), .inl (tc 0, 95, .inl vy_27)), ((Ma 0), .inr (12, [.ref (Ma 1), .int (Mv 0), .int (Mv 1), .ref (Ma 2), .ref (Ma 3), .ref (Ma 4), .ref (Ma 5), .ref (Ma 6), .int sv_61, .int vy_24, .int vy_25, .int 6, .int 0, .int (Mv 7), .int vy_26, .ref (Ma 7), .int (Mv 9), .ref (Ma 8), .int (Mv 10), .ref (Ma 9), .ref (Ma 10), .int (Mv 11), .int (Mv 12), .int (Mv 13), .ref (Ma 11), .int (Mv 14), .ref (Ma 12), .ref (Ma 13), .ref (Ma 14), .ref (Ma 15), .ref (Ma 16), .long (Mj 0), .ref (Ma 17), .ref (Ma 18), .ref (Ma 19), .ref (Ma 20)])), ((Ma 1), .inl (tc 2, 400, .inl (Mf 1)))] := hD
            refine lv_iconst (v := (-1)) hx hb dX12_readsAll_74 (by decide) ?_
            refine lv_icmp_eq (tgt := 88) hx hb dX12_readsAll_75 (by decide) (fun c_68 => ?_) (fun c_68 => ?_)
            · skip
              refine lv_aload_n hx hb dX12_readsAll_88 rfl (lv_at hl 1 rfl) ?_
              refine lv_iconst (v := 0) hx hb dX12_readsAll_89 (by decide) ?_
              refine pf_X12_77 hx hb hts hown hK hP hD hS 2 rfl (Nat.le_of_ble_eq_true rfl) rfl rfl dX12_readsAll_90 (fun H locs hP hD hS => ?_)
              have hP : va_P D classes [((Ma 3), .inl (tc 0, 7, .inl g_1)), ((Ma 6), .inl (tc 0, 95, .inl vy_27)), ((Ma 0), .inr (12, [.ref (Ma 1), .int 0, .int (Mv 1), .ref (Ma 2), .ref (Ma 3), .ref (Ma 4), .ref (Ma 5), .ref (Ma 6), .int sv_61, .int vy_24, .int vy_25, .int 6, .int 0, .int (Mv 7), .int vy_26, .ref (Ma 7), .int (Mv 9), .ref (Ma 8), .int (Mv 10), .ref (Ma 9), .ref (Ma 10), .int (Mv 11), .int (Mv 12), .int (Mv 13), .ref (Ma 11), .int (Mv 14), .ref (Ma 12), .ref (Ma 13), .ref (Ma 14), .ref (Ma 15), .ref (Ma 16), .long (Mj 0), .ref (Ma 17), .ref (Ma 18), .ref (Ma 19), .ref (Ma 20)])), ((Ma 1), .inl (tc 2, 400, .inl (Mf 1)))] H := hP
              have hD : va_D A [((Ma 3), .inl (tc 0, 7, .inl g_1)), ((Ma 6), .inl (tc 0, 95, .inl vy_27)), ((Ma 0), .inr (12, [.ref (Ma 1), .int 0, .int (Mv 1), .ref (Ma 2), .ref (Ma 3), .ref (Ma 4), .ref (Ma 5), .ref (Ma 6), .int sv_61, .int vy_24, .int vy_25, .int 6, .int 0, .int (Mv 7), .int vy_26, .ref (Ma 7), .int (Mv 9), .ref (Ma 8), .int (Mv 10), .ref (Ma 9), .ref (Ma 10), .int (Mv 11), .int (Mv 12), .int (Mv 13), .ref (Ma 11), .int (Mv 14), .ref (Ma 12), .ref (Ma 13), .ref (Ma 14), .ref (Ma 15), .ref (Ma 16), .long (Mj 0), .ref (Ma 17), .ref (Ma 18), .ref (Ma 19), .ref (Ma 20)])), ((Ma 1), .inl (tc 2, 400, .inl (Mf 1)))] := hD
              refine lv_aload_n hx hb dX12_readsAll_93 rfl (lv_at hl 1 rfl) ?_
              refine gf_X12_84 hx hb hts hown hK hP 2 rfl rfl dX12_readsAll_94 ?_
              refine lv_if_ne (tgt := 104) hx hb dX12_readsAll_97 (by decide) (fun c_69 => ?_) (fun c_69 => ?_)
              · skip
                refine lv_iconst (v := 0) hx hb dX12_readsAll_104 (by decide) ?_
                have hp_70 : ((0 : Int32).toInt = 0 ∨ (0 : Int32).toInt = 1) := by
                  have z_1 : ¬ (vy_22 : Int32).toInt = (0 : Int32).toInt := fun z => c_35 (Int32.toInt_inj.mp z)
                  have z_2 : ¬ (r_52 : Int32).toInt = (59 : Int32).toInt := fun z => c_55 (Int32.toInt_inj.mp z)
                  have z_3 : ¬ (vy_22 : Int32).toInt = (0 : Int32).toInt := fun z => c_56 (Int32.toInt_inj.mp z)
                  have z_4 := congrArg Int32.toInt c_68
                  have z_5 : ¬ (vy_24 : Int32).toInt = (0 : Int32).toInt := fun z => c_69 (Int32.toInt_inj.mp z)
                  have y_m1 : (-1 : Int32).toInt = -1 := by decide
                  have y_0 : (0 : Int32).toInt = 0 := by decide
                  have y_59 : (59 : Int32).toInt = 59 := by decide
                  omega
                exact retI (v := 0) hx hb hr hlk (rfl) hP hD hS (sv_61, vy_24, vy_25, vy_26, g_1, vy_27) ⟨_, rfl, hp_70, (fun h => absurd h (by decide))⟩ [2, 3, 0, 1] rfl rfl dX12_readsAll_105 (Nat.le_of_ble_eq_true rfl) (Nat.le_of_ble_eq_true rfl) rfl
              · skip
                refine lv_iconst (v := 1) hx hb dX12_readsAll_100 (by decide) ?_
                refine lv_goto (tgt := 105) hx hb dX12_readsAll_101 (by decide) ?_
                have hp_71 : ((1 : Int32).toInt = 0 ∨ (1 : Int32).toInt = 1) := by
                  have z_1 : ¬ (vy_22 : Int32).toInt = (0 : Int32).toInt := fun z => c_35 (Int32.toInt_inj.mp z)
                  have z_2 : ¬ (r_52 : Int32).toInt = (59 : Int32).toInt := fun z => c_55 (Int32.toInt_inj.mp z)
                  have z_3 : ¬ (vy_22 : Int32).toInt = (0 : Int32).toInt := fun z => c_56 (Int32.toInt_inj.mp z)
                  have z_4 := congrArg Int32.toInt c_68
                  have z_5 := congrArg Int32.toInt c_69
                  have y_m1 : (-1 : Int32).toInt = -1 := by decide
                  have y_0 : (0 : Int32).toInt = 0 := by decide
                  have y_59 : (59 : Int32).toInt = 59 := by decide
                  have y_1 : (1 : Int32).toInt = 1 := by decide
                  have yr : (1 : Int32).toInt = 1 := by decide
                  omega
                have hm_72 : (1 : Int32).toInt = 1 → (RdO vy_27) := by
                  intro h1r
                  exact pf_42
                exact retI (v := 1) hx hb hr hlk (rfl) hP hD hS (sv_61, vy_24, vy_25, vy_26, g_1, vy_27) ⟨_, rfl, hp_71, hm_72⟩ [2, 3, 0, 1] rfl rfl dX12_readsAll_105 (Nat.le_of_ble_eq_true rfl) (Nat.le_of_ble_eq_true rfl) rfl
            · skip
              refine lv_aload_n hx hb dX12_readsAll_78 rfl (lv_at hl 1 rfl) ?_
              refine lv_iconst (v := 0) hx hb dX12_readsAll_79 (by decide) ?_
              refine lv_aload_n hx hb dX12_readsAll_80 rfl (lv_at hl 1 rfl) ?_
              refine gf_X12_87 hx hb hts hown hK hP 2 rfl rfl dX12_readsAll_81 ?_
              have ha_73 : 0 ≤ (0 : Int32).toInt ∧ (0 : Int32).toInt ≤ 4 := by
                have z_1 : ¬ (vy_22 : Int32).toInt = (0 : Int32).toInt := fun z => c_35 (Int32.toInt_inj.mp z)
                have z_2 : ¬ (r_52 : Int32).toInt = (59 : Int32).toInt := fun z => c_55 (Int32.toInt_inj.mp z)
                have z_3 : ¬ (vy_22 : Int32).toInt = (0 : Int32).toInt := fun z => c_56 (Int32.toInt_inj.mp z)
                have z_4 : ¬ (r_65 : Int32).toInt = ((-1) : Int32).toInt := fun z => c_68 (Int32.toInt_inj.mp z)
                have y_m1 : (-1 : Int32).toInt = -1 := by decide
                have y_0 : (0 : Int32).toInt = 0 := by decide
                have y_59 : (59 : Int32).toInt = 59 := by decide
                omega
              have ha_74 : 0 ≤ sv_61.toInt ∧ sv_61.toInt ≤ 400 := by
                have z_1 : ¬ (vy_22 : Int32).toInt = (0 : Int32).toInt := fun z => c_35 (Int32.toInt_inj.mp z)
                have z_2 : ¬ (r_52 : Int32).toInt = (59 : Int32).toInt := fun z => c_55 (Int32.toInt_inj.mp z)
                have z_3 : ¬ (vy_22 : Int32).toInt = (0 : Int32).toInt := fun z => c_56 (Int32.toInt_inj.mp z)
                have z_4 : ¬ (r_65 : Int32).toInt = ((-1) : Int32).toInt := fun z => c_68 (Int32.toInt_inj.mp z)
                have y_m1 : (-1 : Int32).toInt = -1 := by decide
                have y_0 : (0 : Int32).toInt = 0 := by decide
                have y_59 : (59 : Int32).toInt = 59 := by decide
                omega
              refine cV (a := (Ma 0)) (As := [.int 0, .int sv_61]) (rest := []) (wr := [((Ma 3), .inl (tc 0, 7, .inl g_1)), ((Ma 6), .inl (tc 0, 95, .inl vy_27)), ((Ma 1), .inl (tc 2, 400, .inl (Mf 1)))]) ⟨hx, hb, hml, hown, hts⟩ hK hX hA (ct_X12_fails l D tc sk Ma (fun k => ([(Mv 0), (Mv 1), sv_61, vy_24, vy_25, 6, 0, (Mv 7), vy_26, (Mv 9), (Mv 10), (Mv 11), (Mv 12), (Mv 13), (Mv 14)] : List (Int32)).getD k 0) Mj 0 sv_61 ha_73 ha_74) k_1232 k_1229 k_1231 k_31 k_106 pl_X12_fails ⟨Nat.le_of_ble_eq_true rfl, Nat.le_of_ble_eq_true rfl⟩ rfl rfl (va_recv hK hP (ci := 12) (q0 := 2) rfl rfl) hP hD hS [2] [0, 1, 3] rfl rfl rfl rfl rfl (by decide) rfl hl.1 rfl (Nat.le_of_ble_eq_true rfl) dX12_readsAll_84 ⟨Nat.le_of_ble_eq_true rfl, Nat.le_of_ble_eq_true rfl⟩ (fun v_75 u_76 H locs hv_77 hP hD hS => ?_)
              obtain ⟨sv_78, rfl⟩ : ∃ z, z = u_76 := ⟨_, rfl⟩
              obtain ⟨r_80, rfl, he_81, pf_79⟩ := hv_77
              have he_81 : r_80.toInt = 0 := he_81
              have pf_79 : ¬ (sv_78 : Int32).toInt = 0 := pf_79
              refine W.eq (g2 := F0 m 87 ls [.int r_80]) rfl ?_
              have hP : va_P D classes [((Ma 3), .inl (tc 0, 7, .inl g_1)), ((Ma 6), .inl (tc 0, 95, .inl vy_27)), ((Ma 1), .inl (tc 2, 400, .inl (Mf 1))), ((Ma 0), .inr (12, [.ref (Ma 1), .int (Mv 0), .int (Mv 1), .ref (Ma 2), .ref (Ma 3), .ref (Ma 4), .ref (Ma 5), .ref (Ma 6), .int sv_61, .int sv_78, .int vy_25, .int 6, .int 0, .int (Mv 7), .int vy_26, .ref (Ma 7), .int (Mv 9), .ref (Ma 8), .int (Mv 10), .ref (Ma 9), .ref (Ma 10), .int (Mv 11), .int (Mv 12), .int (Mv 13), .ref (Ma 11), .int (Mv 14), .ref (Ma 12), .ref (Ma 13), .ref (Ma 14), .ref (Ma 15), .ref (Ma 16), .long (Mj 0), .ref (Ma 17), .ref (Ma 18), .ref (Ma 19), .ref (Ma 20)]))] H := hP
              have hD : va_D A [((Ma 3), .inl (tc 0, 7, .inl g_1)), ((Ma 6), .inl (tc 0, 95, .inl vy_27)), ((Ma 1), .inl (tc 2, 400, .inl (Mf 1))), ((Ma 0), .inr (12, [.ref (Ma 1), .int (Mv 0), .int (Mv 1), .ref (Ma 2), .ref (Ma 3), .ref (Ma 4), .ref (Ma 5), .ref (Ma 6), .int sv_61, .int sv_78, .int vy_25, .int 6, .int 0, .int (Mv 7), .int vy_26, .ref (Ma 7), .int (Mv 9), .ref (Ma 8), .int (Mv 10), .ref (Ma 9), .ref (Ma 10), .int (Mv 11), .int (Mv 12), .int (Mv 13), .ref (Ma 11), .int (Mv 14), .ref (Ma 12), .ref (Ma 13), .ref (Ma 14), .ref (Ma 15), .ref (Ma 16), .long (Mj 0), .ref (Ma 17), .ref (Ma 18), .ref (Ma 19), .ref (Ma 20)]))] := hD
              refine lv_pop hx hb dX12_readsAll_87 rfl ?_
              refine lv_aload_n hx hb dX12_readsAll_88 rfl (lv_at hl 1 rfl) ?_
              refine lv_iconst (v := 0) hx hb dX12_readsAll_89 (by decide) ?_
              refine pf_X12_77 hx hb hts hown hK hP hD hS 3 rfl (Nat.le_of_ble_eq_true rfl) rfl rfl dX12_readsAll_90 (fun H locs hP hD hS => ?_)
              have hP : va_P D classes [((Ma 3), .inl (tc 0, 7, .inl g_1)), ((Ma 6), .inl (tc 0, 95, .inl vy_27)), ((Ma 1), .inl (tc 2, 400, .inl (Mf 1))), ((Ma 0), .inr (12, [.ref (Ma 1), .int 0, .int (Mv 1), .ref (Ma 2), .ref (Ma 3), .ref (Ma 4), .ref (Ma 5), .ref (Ma 6), .int sv_61, .int sv_78, .int vy_25, .int 6, .int 0, .int (Mv 7), .int vy_26, .ref (Ma 7), .int (Mv 9), .ref (Ma 8), .int (Mv 10), .ref (Ma 9), .ref (Ma 10), .int (Mv 11), .int (Mv 12), .int (Mv 13), .ref (Ma 11), .int (Mv 14), .ref (Ma 12), .ref (Ma 13), .ref (Ma 14), .ref (Ma 15), .ref (Ma 16), .long (Mj 0), .ref (Ma 17), .ref (Ma 18), .ref (Ma 19), .ref (Ma 20)]))] H := hP
              have hD : va_D A [((Ma 3), .inl (tc 0, 7, .inl g_1)), ((Ma 6), .inl (tc 0, 95, .inl vy_27)), ((Ma 1), .inl (tc 2, 400, .inl (Mf 1))), ((Ma 0), .inr (12, [.ref (Ma 1), .int 0, .int (Mv 1), .ref (Ma 2), .ref (Ma 3), .ref (Ma 4), .ref (Ma 5), .ref (Ma 6), .int sv_61, .int sv_78, .int vy_25, .int 6, .int 0, .int (Mv 7), .int vy_26, .ref (Ma 7), .int (Mv 9), .ref (Ma 8), .int (Mv 10), .ref (Ma 9), .ref (Ma 10), .int (Mv 11), .int (Mv 12), .int (Mv 13), .ref (Ma 11), .int (Mv 14), .ref (Ma 12), .ref (Ma 13), .ref (Ma 14), .ref (Ma 15), .ref (Ma 16), .long (Mj 0), .ref (Ma 17), .ref (Ma 18), .ref (Ma 19), .ref (Ma 20)]))] := hD
              refine lv_aload_n hx hb dX12_readsAll_93 rfl (lv_at hl 1 rfl) ?_
              refine gf_X12_84 hx hb hts hown hK hP 3 rfl rfl dX12_readsAll_94 ?_
              refine lv_if_ne (tgt := 104) hx hb dX12_readsAll_97 (by decide) (fun c_83 => ?_) (fun c_83 => ?_)
              · skip
                refine lv_iconst (v := 0) hx hb dX12_readsAll_104 (by decide) ?_
                have hp_84 : ((0 : Int32).toInt = 0 ∨ (0 : Int32).toInt = 1) := by
                  have z_1 : ¬ (vy_22 : Int32).toInt = (0 : Int32).toInt := fun z => c_35 (Int32.toInt_inj.mp z)
                  have z_2 : ¬ (r_52 : Int32).toInt = (59 : Int32).toInt := fun z => c_55 (Int32.toInt_inj.mp z)
                  have z_3 : ¬ (vy_22 : Int32).toInt = (0 : Int32).toInt := fun z => c_56 (Int32.toInt_inj.mp z)
                  have z_4 : ¬ (r_65 : Int32).toInt = ((-1) : Int32).toInt := fun z => c_68 (Int32.toInt_inj.mp z)
                  have z_5 : ¬ (sv_78 : Int32).toInt = (0 : Int32).toInt := fun z => c_83 (Int32.toInt_inj.mp z)
                  have y_m1 : (-1 : Int32).toInt = -1 := by decide
                  have y_0 : (0 : Int32).toInt = 0 := by decide
                  have y_59 : (59 : Int32).toInt = 59 := by decide
                  omega
                exact retI (v := 0) hx hb hr hlk (rfl) hP hD hS (sv_61, sv_78, vy_25, vy_26, g_1, vy_27) ⟨_, rfl, hp_84, (fun h => absurd h (by decide))⟩ [3, 2, 0, 1] rfl rfl dX12_readsAll_105 (Nat.le_of_ble_eq_true rfl) (Nat.le_of_ble_eq_true rfl) rfl
              · skip
                refine lv_iconst (v := 1) hx hb dX12_readsAll_100 (by decide) ?_
                refine lv_goto (tgt := 105) hx hb dX12_readsAll_101 (by decide) ?_
                have hp_85 : ((1 : Int32).toInt = 0 ∨ (1 : Int32).toInt = 1) := by
                  have z_1 : ¬ (vy_22 : Int32).toInt = (0 : Int32).toInt := fun z => c_35 (Int32.toInt_inj.mp z)
                  have z_2 : ¬ (r_52 : Int32).toInt = (59 : Int32).toInt := fun z => c_55 (Int32.toInt_inj.mp z)
                  have z_3 : ¬ (vy_22 : Int32).toInt = (0 : Int32).toInt := fun z => c_56 (Int32.toInt_inj.mp z)
                  have z_4 : ¬ (r_65 : Int32).toInt = ((-1) : Int32).toInt := fun z => c_68 (Int32.toInt_inj.mp z)
                  have z_5 := congrArg Int32.toInt c_83
                  have y_m1 : (-1 : Int32).toInt = -1 := by decide
                  have y_0 : (0 : Int32).toInt = 0 := by decide
                  have y_59 : (59 : Int32).toInt = 59 := by decide
                  have y_1 : (1 : Int32).toInt = 1 := by decide
                  have yr : (1 : Int32).toInt = 1 := by decide
                  omega
                have hm_86 : (1 : Int32).toInt = 1 → (RdO vy_27) := by
                  intro h1r
                  exact pf_42
                exact retI (v := 1) hx hb hr hlk (rfl) hP hD hS (sv_61, sv_78, vy_25, vy_26, g_1, vy_27) ⟨_, rfl, hp_85, hm_86⟩ [3, 2, 0, 1] rfl rfl dX12_readsAll_105 (Nat.le_of_ble_eq_true rfl) (Nat.le_of_ble_eq_true rfl) rfl
        · skip
          refine lv_aload_n hx hb dX12_readsAll_48 rfl (lv_at hl 1 rfl) ?_
          refine lv_dup hx hb dX12_readsAll_49 rfl ?_
          refine gf_X12_87 hx hb hts hown hK hP 2 rfl rfl dX12_readsAll_50 ?_
          refine lv_iconst (v := 1) hx hb dX12_readsAll_53 (by decide) ?_
          refine lv_iadd hx hb dX12_readsAll_54 ?_
          refine lv_topi (fun x_87 ex_87 => ?_)
          refine pf_X12_87 hx hb hts hown hK hP hD hS 2 rfl (Nat.le_of_ble_eq_true rfl) rfl rfl dX12_readsAll_55 (fun H locs hP hD hS => ?_)
          have hP : va_P D classes [((Ma 3), .inl (tc 0, 7, .inl g_1)), ((Ma 6), .inl (tc 0, 95, .inl vy_27)), ((Ma 0), .inr (12, [.ref (Ma 1), .int (Mv 0), .int (Mv 1), .ref (Ma 2), .ref (Ma 3), .ref (Ma 4), .ref (Ma 5), .ref (Ma 6), .int x_87, .int vy_24, .int vy_25, .int 6, .int 0, .int (Mv 7), .int vy_26, .ref (Ma 7), .int (Mv 9), .ref (Ma 8), .int (Mv 10), .ref (Ma 9), .ref (Ma 10), .int (Mv 11), .int (Mv 12), .int (Mv 13), .ref (Ma 11), .int (Mv 14), .ref (Ma 12), .ref (Ma 13), .ref (Ma 14), .ref (Ma 15), .ref (Ma 16), .long (Mj 0), .ref (Ma 17), .ref (Ma 18), .ref (Ma 19), .ref (Ma 20)])), ((Ma 1), .inl (tc 2, 400, .inl (Mf 1)))] H := hP
          have hD : va_D A [((Ma 3), .inl (tc 0, 7, .inl g_1)), ((Ma 6), .inl (tc 0, 95, .inl vy_27)), ((Ma 0), .inr (12, [.ref (Ma 1), .int (Mv 0), .int (Mv 1), .ref (Ma 2), .ref (Ma 3), .ref (Ma 4), .ref (Ma 5), .ref (Ma 6), .int x_87, .int vy_24, .int vy_25, .int 6, .int 0, .int (Mv 7), .int vy_26, .ref (Ma 7), .int (Mv 9), .ref (Ma 8), .int (Mv 10), .ref (Ma 9), .ref (Ma 10), .int (Mv 11), .int (Mv 12), .int (Mv 13), .ref (Ma 11), .int (Mv 14), .ref (Ma 12), .ref (Ma 13), .ref (Ma 14), .ref (Ma 15), .ref (Ma 16), .long (Mj 0), .ref (Ma 17), .ref (Ma 18), .ref (Ma 19), .ref (Ma 20)])), ((Ma 1), .inl (tc 2, 400, .inl (Mf 1)))] := hD
          refine lv_aload_n hx hb dX12_readsAll_58 rfl (lv_at hl 1 rfl) ?_
          have ha_88 : 0 ≤ (x_87 : Int32).toInt ∧ (x_87 : Int32).toInt ≤ ((Mv 0) : Int32).toInt ∧ ((Mv 0) : Int32).toInt ≤ 400 := by
            have z_1 : ¬ (vy_22 : Int32).toInt = (0 : Int32).toInt := fun z => c_35 (Int32.toInt_inj.mp z)
            have z_2 := congrArg Int32.toInt c_55
            have y_0 : (0 : Int32).toInt = 0 := by decide
            have y_59 : (59 : Int32).toInt = 59 := by decide
            have y_1 : (1 : Int32).toInt = 1 := by decide
            have t_x_87 : x_87.toInt = (sv_48 : Int32).toInt + (1 : Int32).toInt := by rw [ex_87]; exact add_toInt (by omega) (by omega)
            omega
          refine cV (a := (Ma 0)) (As := []) (rest := []) (wr := []) ⟨hx, hb, hml, hown, hts⟩ hK hX hA (ct_X12_clauseHere_b l D tc sk Ma (fun k => ([(Mv 0), (Mv 1), x_87, vy_24, vy_25, 0, 0, (Mv 7), vy_26, (Mv 9), (Mv 10), (Mv 11), (Mv 12), (Mv 13), (Mv 14)] : List (Int32)).getD k 0) (fun k => ([(fun _ => 0), (Mf 1), (fun _ => 0), g_1, (fun _ => 0), (fun _ => 0), vy_27] : List (Nat → Int32)).getD k (fun _ => 0)) Mj ha_88 pf_42) k_1207 k_1204 k_1206 k_26 k_106 pl_X12_clauseHere ⟨Nat.le_of_ble_eq_true rfl, Nat.le_of_ble_eq_true rfl⟩ rfl rfl (va_recv hK hP (ci := 12) (q0 := 2) rfl rfl) hP hD hS [2, 3, 0, 1] [] rfl rfl rfl rfl rfl (by decide) rfl hl.1 rfl (Nat.le_of_ble_eq_true rfl) dX12_readsAll_59 ⟨Nat.le_of_ble_eq_true rfl, Nat.le_of_ble_eq_true rfl⟩ (fun v_89 u_90 H locs hv_91 hP hD hS => ?_)
          obtain ⟨sv_92, sv_93, sv_94, sv_95, sv_96⟩ := u_90
          obtain ⟨r_98, rfl, he_99, pf_97, hm_101⟩ := hv_91
          have he_99 : ((r_98.toInt = 0 ∧ ¬ (sv_93 : Int32).toInt = 0) ∨ r_98.toInt = 1) := he_99
          have pf_97 : (x_87 : Int32).toInt ≤ (sv_92 : Int32).toInt ∧ (sv_92 : Int32).toInt ≤ ((Mv 0) : Int32).toInt := pf_97
          refine W.eq (g2 := F0 m 62 ls [.int r_98]) rfl ?_
          have hP : va_P D classes [((Ma 0), .inr (12, [.ref (Ma 1), .int (Mv 0), .int (Mv 1), .ref (Ma 2), .ref (Ma 3), .ref (Ma 4), .ref (Ma 5), .ref (Ma 6), .int sv_92, .int sv_93, .int sv_94, .int 6, .int 0, .int (Mv 7), .int sv_95, .ref (Ma 7), .int (Mv 9), .ref (Ma 8), .int (Mv 10), .ref (Ma 9), .ref (Ma 10), .int (Mv 11), .int (Mv 12), .int (Mv 13), .ref (Ma 11), .int (Mv 14), .ref (Ma 12), .ref (Ma 13), .ref (Ma 14), .ref (Ma 15), .ref (Ma 16), .long (Mj 0), .ref (Ma 17), .ref (Ma 18), .ref (Ma 19), .ref (Ma 20)])), ((Ma 1), .inl (tc 2, 400, .inl (Mf 1))), ((Ma 3), .inl (tc 0, 7, .inl g_1)), ((Ma 6), .inl (tc 0, 95, .inl sv_96))] H := hP
          have hD : va_D A [((Ma 0), .inr (12, [.ref (Ma 1), .int (Mv 0), .int (Mv 1), .ref (Ma 2), .ref (Ma 3), .ref (Ma 4), .ref (Ma 5), .ref (Ma 6), .int sv_92, .int sv_93, .int sv_94, .int 6, .int 0, .int (Mv 7), .int sv_95, .ref (Ma 7), .int (Mv 9), .ref (Ma 8), .int (Mv 10), .ref (Ma 9), .ref (Ma 10), .int (Mv 11), .int (Mv 12), .int (Mv 13), .ref (Ma 11), .int (Mv 14), .ref (Ma 12), .ref (Ma 13), .ref (Ma 14), .ref (Ma 15), .ref (Ma 16), .long (Mj 0), .ref (Ma 17), .ref (Ma 18), .ref (Ma 19), .ref (Ma 20)])), ((Ma 1), .inl (tc 2, 400, .inl (Mf 1))), ((Ma 3), .inl (tc 0, 7, .inl g_1)), ((Ma 6), .inl (tc 0, 95, .inl sv_96))] := hD
          refine lv_istore_n (lv' := [(1, .int r_98), (0, .ref (Ma 0))]) hx hb dX12_readsAll_62 rfl hl (by decide) rfl (fun ls hl => ?_)
          refine lv_goto (tgt := 35) hx hb dX12_readsAll_63 (by decide) ?_
          have hb_102 : 2 * (401 - (sv_92 : Int32).toInt) + (r_98 : Int32).toInt < 2 * (401 - (vy_23 : Int32).toInt) + (vy_22 : Int32).toInt ∧ 1 ≤ 2 * (401 - (vy_23 : Int32).toInt) + (vy_22 : Int32).toInt := by
            have z_1 : ¬ (vy_22 : Int32).toInt = (0 : Int32).toInt := fun z => c_35 (Int32.toInt_inj.mp z)
            have z_2 := congrArg Int32.toInt c_55
            have y_0 : (0 : Int32).toInt = 0 := by decide
            have y_59 : (59 : Int32).toInt = 59 := by decide
            omega
          have ha_103 : 0 ≤ (sv_92 : Int32).toInt ∧ (sv_92 : Int32).toInt ≤ ((Mv 0) : Int32).toInt ∧ ((Mv 0) : Int32).toInt ≤ 400 := by
            have z_1 : ¬ (vy_22 : Int32).toInt = (0 : Int32).toInt := fun z => c_35 (Int32.toInt_inj.mp z)
            have z_2 := congrArg Int32.toInt c_55
            have y_0 : (0 : Int32).toInt = 0 := by decide
            have y_59 : (59 : Int32).toInt = 59 := by decide
            omega
          have ha_104 : (((r_98 : Int32).toInt = 0 ∧ ¬ (sv_93 : Int32).toInt = 0) ∨ (r_98 : Int32).toInt = 1) := by
            have z_1 : ¬ (vy_22 : Int32).toInt = (0 : Int32).toInt := fun z => c_35 (Int32.toInt_inj.mp z)
            have z_2 := congrArg Int32.toInt c_55
            have y_0 : (0 : Int32).toInt = 0 := by decide
            have y_59 : (59 : Int32).toInt = 59 := by decide
            omega
          exact ih_29 r_98 sv_92 sv_93 sv_94 sv_95 sv_96 _ _ _ (by omega) ha_103 ha_104 hm_101 (hP.sub [0, 1, 2, 3] rfl) (hD.sub [0, 1, 2, 3] rfl rfl) hS (lv_sub hl [0, 1] rfl)
  have ha_105 : 0 ≤ (sv_6 : Int32).toInt ∧ (sv_6 : Int32).toInt ≤ ((Mv 0) : Int32).toInt ∧ ((Mv 0) : Int32).toInt ≤ 400 := by
    omega
  have ha_106 : (((r_12 : Int32).toInt = 0 ∧ ¬ (sv_7 : Int32).toInt = 0) ∨ (r_12 : Int32).toInt = 1) := by
    omega
  exact loop_30 _ r_12 sv_6 sv_7 sv_8 sv_9 sv_10 _ _ _ (Nat.lt_succ_self _) ha_105 ha_106 hm_15 hP hD hS hl
set_option maxHeartbeats 4000000 in
set_option maxRecDepth 100000 in
theorem ct_X12_book (l : Launch) (D : va_G) (tc : Nat → ClassId) (sk : (Nat → Nat) × (Nat → Nat)) (Ma : Nat → Nat) (Mv : Nat → Int32) (Mf : Nat → Nat → Int32) (Mj : Nat → Int64) (h_tp : 0 ≤ ((Mv 0) : Int32).toInt ∧ ((Mv 0) : Int32).toInt ≤ 400) (h_said : SaidD (Mf 10) 999) (h_un : 0 ≤ ((Mv 14) : Int32).toInt ∧ ((Mv 14) : Int32).toInt ≤ 20) : Ct l yX12_book cX12_book 2 (some .int) { frames := 7, cells := 0, slots := 0, locals := 158 } D tc sk [.ref (Ma 0)] [((Ma 0), .inr (12, [.ref (Ma 1), .int (Mv 0), .int (Mv 1), .ref (Ma 2), .ref (Ma 3), .ref (Ma 4), .ref (Ma 5), .ref (Ma 6), .int (Mv 2), .int (Mv 3), .int (Mv 4), .int (Mv 5), .int (Mv 6), .int (Mv 7), .int (Mv 8), .ref (Ma 7), .int (Mv 9), .ref (Ma 8), .int (Mv 10), .ref (Ma 9), .ref (Ma 10), .int (Mv 11), .int (Mv 12), .int (Mv 13), .ref (Ma 11), .int (Mv 14), .ref (Ma 12), .ref (Ma 13), .ref (Ma 14), .ref (Ma 15), .ref (Ma 16), .long (Mj 0), .ref (Ma 17), .ref (Ma 18), .ref (Ma 19), .ref (Ma 20)])), ((Ma 1), .inl (tc 2, 400, .inl (Mf 1))), ((Ma 3), .inl (tc 0, 7, .inl (Mf 3))), ((Ma 6), .inl (tc 0, 95, .inl (Mf 6))), ((Ma 10), .inl (tc 0, 126, .inl (Mf 10)))] (fun (v : Option Value) (u : (Int32) × (Int32) × (Int32) × (Int32) × (Int32) × (Nat → Int32) × (Nat → Int32) × (Nat → Int32)) => match u with | (oo0x1, oo0x2, oo0x3, oo0x4, oo0x5, oo0x6, oo0x7, oo0x8) => ∃ r : Int32, v = some (.int r) ∧ (True) ∧ (0 ≤ (0 : Int32).toInt ∧ (0 : Int32).toInt ≤ 400) ∧ (SaidD oo0x8 999) ∧ (0 ≤ (oo0x5 : Int32).toInt ∧ (oo0x5 : Int32).toInt ≤ 20)) (fun (u : (Int32) × (Int32) × (Int32) × (Int32) × (Int32) × (Nat → Int32) × (Nat → Int32) × (Nat → Int32)) => match u with | (oo0x1, oo0x2, oo0x3, oo0x4, oo0x5, oo0x6, oo0x7, oo0x8) => [((Ma 0), .inr (12, [.ref (Ma 1), .int 0, .int (Mv 1), .ref (Ma 2), .ref (Ma 3), .ref (Ma 4), .ref (Ma 5), .ref (Ma 6), .int oo0x1, .int oo0x2, .int oo0x3, .int 6, .int 0, .int (Mv 7), .int oo0x4, .ref (Ma 7), .int (Mv 9), .ref (Ma 8), .int (Mv 10), .ref (Ma 9), .ref (Ma 10), .int (Mv 11), .int (Mv 12), .int (Mv 13), .ref (Ma 11), .int oo0x5, .ref (Ma 12), .ref (Ma 13), .ref (Ma 14), .ref (Ma 15), .ref (Ma 16), .long (Mj 0), .ref (Ma 17), .ref (Ma 18), .ref (Ma 19), .ref (Ma 20)])), ((Ma 1), .inl (tc 2, 400, .inl (Mf 1))), ((Ma 3), .inl (tc 0, 7, .inl oo0x6)), ((Ma 6), .inl (tc 0, 95, .inl oo0x7)), ((Ma 10), .inl (tc 0, 126, .inl oo0x8))]) 0 0 := by
  refine Ct.start (by decide) (Nat.le_of_ble_eq_true rfl) (fun p e s m below meth c A ls hx hb hr hlk hin hml hown hts hK hX hP hD hA hl hS => ?_)
  have hl : lv_has ls 2 [(0, .ref (Ma 0))] := hl
  have ar_h_said := SaidD.al h_said
  refine lv_aload_n hx hb dX12_book_0 rfl (lv_at hl 0 rfl) ?_
  refine lv_bipush (v := 6) hx hb dX12_book_1 (by decide) ?_
  refine pf_X12_145 hx hb hts hown hK hP hD hS 0 rfl (Nat.le_of_ble_eq_true rfl) rfl rfl dX12_book_3 (fun H locs hP hD hS => ?_)
  have hP : va_P D classes [((Ma 0), .inr (12, [.ref (Ma 1), .int (Mv 0), .int (Mv 1), .ref (Ma 2), .ref (Ma 3), .ref (Ma 4), .ref (Ma 5), .ref (Ma 6), .int (Mv 2), .int (Mv 3), .int (Mv 4), .int 6, .int (Mv 6), .int (Mv 7), .int (Mv 8), .ref (Ma 7), .int (Mv 9), .ref (Ma 8), .int (Mv 10), .ref (Ma 9), .ref (Ma 10), .int (Mv 11), .int (Mv 12), .int (Mv 13), .ref (Ma 11), .int (Mv 14), .ref (Ma 12), .ref (Ma 13), .ref (Ma 14), .ref (Ma 15), .ref (Ma 16), .long (Mj 0), .ref (Ma 17), .ref (Ma 18), .ref (Ma 19), .ref (Ma 20)])), ((Ma 1), .inl (tc 2, 400, .inl (Mf 1))), ((Ma 3), .inl (tc 0, 7, .inl (Mf 3))), ((Ma 6), .inl (tc 0, 95, .inl (Mf 6))), ((Ma 10), .inl (tc 0, 126, .inl (Mf 10)))] H := hP
  have hD : va_D A [((Ma 0), .inr (12, [.ref (Ma 1), .int (Mv 0), .int (Mv 1), .ref (Ma 2), .ref (Ma 3), .ref (Ma 4), .ref (Ma 5), .ref (Ma 6), .int (Mv 2), .int (Mv 3), .int (Mv 4), .int 6, .int (Mv 6), .int (Mv 7), .int (Mv 8), .ref (Ma 7), .int (Mv 9), .ref (Ma 8), .int (Mv 10), .ref (Ma 9), .ref (Ma 10), .int (Mv 11), .int (Mv 12), .int (Mv 13), .ref (Ma 11), .int (Mv 14), .ref (Ma 12), .ref (Ma 13), .ref (Ma 14), .ref (Ma 15), .ref (Ma 16), .long (Mj 0), .ref (Ma 17), .ref (Ma 18), .ref (Ma 19), .ref (Ma 20)])), ((Ma 1), .inl (tc 2, 400, .inl (Mf 1))), ((Ma 3), .inl (tc 0, 7, .inl (Mf 3))), ((Ma 6), .inl (tc 0, 95, .inl (Mf 6))), ((Ma 10), .inl (tc 0, 126, .inl (Mf 10)))] := hD
  refine lv_iconst (v := 0) hx hb dX12_book_6 (by decide) ?_
  refine lv_istore_n (lv' := [(1, .int 0), (0, .ref (Ma 0))]) hx hb dX12_book_7 rfl hl (by decide) rfl (fun ls hl => ?_)
  have loop_7 : ∀ (n_5 : Nat) (vy_3 : Int32) (vy_4 : Nat → Int32) (H : Heap) (locs : List Loc) (ls : Array Slot), (95 - (vy_3 : Int32).toInt).toNat < n_5 → (0 ≤ (vy_3 : Int32).toInt) → (Rd0 vy_4 vy_3) → va_P D classes [((Ma 0), .inr (12, [.ref (Ma 1), .int (Mv 0), .int (Mv 1), .ref (Ma 2), .ref (Ma 3), .ref (Ma 4), .ref (Ma 5), .ref (Ma 6), .int (Mv 2), .int (Mv 3), .int (Mv 4), .int 6, .int (Mv 6), .int (Mv 7), .int (Mv 8), .ref (Ma 7), .int (Mv 9), .ref (Ma 8), .int (Mv 10), .ref (Ma 9), .ref (Ma 10), .int (Mv 11), .int (Mv 12), .int (Mv 13), .ref (Ma 11), .int (Mv 14), .ref (Ma 12), .ref (Ma 13), .ref (Ma 14), .ref (Ma 15), .ref (Ma 16), .long (Mj 0), .ref (Ma 17), .ref (Ma 18), .ref (Ma 19), .ref (Ma 20)])), ((Ma 1), .inl (tc 2, 400, .inl (Mf 1))), ((Ma 3), .inl (tc 0, 7, .inl (Mf 3))), ((Ma 6), .inl (tc 0, 95, .inl vy_4)), ((Ma 10), .inl (tc 0, 126, .inl (Mf 10)))] H → va_D A [((Ma 0), .inr (12, [.ref (Ma 1), .int (Mv 0), .int (Mv 1), .ref (Ma 2), .ref (Ma 3), .ref (Ma 4), .ref (Ma 5), .ref (Ma 6), .int (Mv 2), .int (Mv 3), .int (Mv 4), .int 6, .int (Mv 6), .int (Mv 7), .int (Mv 8), .ref (Ma 7), .int (Mv 9), .ref (Ma 8), .int (Mv 10), .ref (Ma 9), .ref (Ma 10), .int (Mv 11), .int (Mv 12), .int (Mv 13), .ref (Ma 11), .int (Mv 14), .ref (Ma 12), .ref (Ma 13), .ref (Ma 14), .ref (Ma 15), .ref (Ma 16), .long (Mj 0), .ref (Ma 17), .ref (Ma 18), .ref (Ma 19), .ref (Ma 20)])), ((Ma 1), .inl (tc 2, 400, .inl (Mf 1))), ((Ma 3), .inl (tc 0, 7, .inl (Mf 3))), ((Ma 6), .inl (tc 0, 95, .inl vy_4)), ((Ma 10), .inl (tc 0, 126, .inl (Mf 10)))] → va_S A s.heap H locs → lv_has ls 2 [(1, .int vy_3), (0, .ref (Ma 0))] → W p l e ({ frames := 7, cells := 0, slots := 0, locals := 158 }) s m ([.ref (Ma 0)].toArray) below meth c H locs 0 0 (MQ below (QW (fun (v : Option Value) (u : (Int32) × (Int32) × (Int32) × (Int32) × (Int32) × (Nat → Int32) × (Nat → Int32) × (Nat → Int32)) => match u with | (oo0x1, oo0x2, oo0x3, oo0x4, oo0x5, oo0x6, oo0x7, oo0x8) => ∃ r : Int32, v = some (.int r) ∧ (True) ∧ (0 ≤ (0 : Int32).toInt ∧ (0 : Int32).toInt ≤ 400) ∧ (SaidD oo0x8 999) ∧ (0 ≤ (oo0x5 : Int32).toInt ∧ (oo0x5 : Int32).toInt ≤ 20)) (BW D (fun (u : (Int32) × (Int32) × (Int32) × (Int32) × (Int32) × (Nat → Int32) × (Nat → Int32) × (Nat → Int32)) => match u with | (oo0x1, oo0x2, oo0x3, oo0x4, oo0x5, oo0x6, oo0x7, oo0x8) => [((Ma 0), .inr (12, [.ref (Ma 1), .int 0, .int (Mv 1), .ref (Ma 2), .ref (Ma 3), .ref (Ma 4), .ref (Ma 5), .ref (Ma 6), .int oo0x1, .int oo0x2, .int oo0x3, .int 6, .int 0, .int (Mv 7), .int oo0x4, .ref (Ma 7), .int (Mv 9), .ref (Ma 8), .int (Mv 10), .ref (Ma 9), .ref (Ma 10), .int (Mv 11), .int (Mv 12), .int (Mv 13), .ref (Ma 11), .int oo0x5, .ref (Ma 12), .ref (Ma 13), .ref (Ma 14), .ref (Ma 15), .ref (Ma 16), .long (Mj 0), .ref (Ma 17), .ref (Ma 18), .ref (Ma 19), .ref (Ma 20)])), ((Ma 1), .inl (tc 2, 400, .inl (Mf 1))), ((Ma 3), .inl (tc 0, 7, .inl oo0x6)), ((Ma 6), .inl (tc 0, 95, .inl oo0x7)), ((Ma 10), .inl (tc 0, 126, .inl oo0x8))]) A) A) ([.ref (Ma 0)].toArray) s 0 0 A) (F0 m 8 ls []) := by
    intro n_5
    induction n_5 with
    | zero =>
      intro vy_3 vy_4 H locs ls h1
      exact absurd h1 (Nat.not_lt_zero _)
    | succ n_5 ih_6 =>
      intro vy_3 vy_4 H locs ls hn_10 pf_8 pf_9 hP hD hS hl
      refine lv_iload_n hx hb dX12_book_8 rfl (lv_at hl 0 rfl) ?_
      refine lv_bipush (v := 95) hx hb dX12_book_9 (by decide) ?_
      refine lv_icmp_ge (tgt := 27) hx hb dX12_book_11 (by decide) (fun c_11 => ?_) (fun c_11 => ?_)
      · skip
        refine lv_aload_n hx hb dX12_book_27 rfl (lv_at hl 1 rfl) ?_
        have hr_12 : 95 ≤ (vy_3 : Int32).toInt := by
          have z_1 := Int32.le_iff_toInt_le.mp c_11
          have y_95 : (95 : Int32).toInt = 95 := by decide
          omega
        have ha_13 : 0 ≤ ((Mv 0) : Int32).toInt ∧ ((Mv 0) : Int32).toInt ≤ 400 := by
          have z_1 := Int32.le_iff_toInt_le.mp c_11
          have y_95 : (95 : Int32).toInt = 95 := by decide
          refine ⟨?_, ?_⟩ <;> omega
        refine cV (a := (Ma 0)) (As := []) (rest := []) (wr := [((Ma 10), .inl (tc 0, 126, .inl (Mf 10)))]) ⟨hx, hb, hml, hown, hts⟩ hK hX hA (ct_X12_readsAll_b l D tc sk Ma Mv (fun k => ([(fun _ => 0), (Mf 1), (fun _ => 0), (Mf 3), (fun _ => 0), (fun _ => 0), vy_4] : List (Nat → Int32)).getD k (fun _ => 0)) Mj ha_13 (Rd0.done pf_9 hr_12)) k_1203 k_1200 k_1202 k_25 k_106 pl_X12_readsAll ⟨Nat.le_of_ble_eq_true rfl, Nat.le_of_ble_eq_true rfl⟩ rfl rfl (va_recv hK hP (ci := 12) (q0 := 0) rfl rfl) hP hD hS [0, 1, 2, 3] [4] rfl rfl rfl rfl rfl (by decide) rfl hl.1 rfl (Nat.le_of_ble_eq_true rfl) dX12_book_28 ⟨Nat.le_of_ble_eq_true rfl, Nat.le_of_ble_eq_true rfl⟩ (fun v_14 u_15 H locs hv_16 hP hD hS => ?_)
        obtain ⟨sv_17, sv_18, sv_19, sv_20, sv_21, sv_22⟩ := u_15
        obtain ⟨r_23, rfl, he_24, hm_26⟩ := hv_16
        have he_24 : (r_23.toInt = 0 ∨ r_23.toInt = 1) := he_24
        refine W.eq (g2 := F0 m 31 ls [.int r_23]) rfl ?_
        have hP : va_P D classes [((Ma 10), .inl (tc 0, 126, .inl (Mf 10))), ((Ma 0), .inr (12, [.ref (Ma 1), .int 0, .int (Mv 1), .ref (Ma 2), .ref (Ma 3), .ref (Ma 4), .ref (Ma 5), .ref (Ma 6), .int sv_17, .int sv_18, .int sv_19, .int 6, .int 0, .int (Mv 7), .int sv_20, .ref (Ma 7), .int (Mv 9), .ref (Ma 8), .int (Mv 10), .ref (Ma 9), .ref (Ma 10), .int (Mv 11), .int (Mv 12), .int (Mv 13), .ref (Ma 11), .int (Mv 14), .ref (Ma 12), .ref (Ma 13), .ref (Ma 14), .ref (Ma 15), .ref (Ma 16), .long (Mj 0), .ref (Ma 17), .ref (Ma 18), .ref (Ma 19), .ref (Ma 20)])), ((Ma 1), .inl (tc 2, 400, .inl (Mf 1))), ((Ma 3), .inl (tc 0, 7, .inl sv_21)), ((Ma 6), .inl (tc 0, 95, .inl sv_22))] H := hP
        have hD : va_D A [((Ma 10), .inl (tc 0, 126, .inl (Mf 10))), ((Ma 0), .inr (12, [.ref (Ma 1), .int 0, .int (Mv 1), .ref (Ma 2), .ref (Ma 3), .ref (Ma 4), .ref (Ma 5), .ref (Ma 6), .int sv_17, .int sv_18, .int sv_19, .int 6, .int 0, .int (Mv 7), .int sv_20, .ref (Ma 7), .int (Mv 9), .ref (Ma 8), .int (Mv 10), .ref (Ma 9), .ref (Ma 10), .int (Mv 11), .int (Mv 12), .int (Mv 13), .ref (Ma 11), .int (Mv 14), .ref (Ma 12), .ref (Ma 13), .ref (Ma 14), .ref (Ma 15), .ref (Ma 16), .long (Mj 0), .ref (Ma 17), .ref (Ma 18), .ref (Ma 19), .ref (Ma 20)])), ((Ma 1), .inl (tc 2, 400, .inl (Mf 1))), ((Ma 3), .inl (tc 0, 7, .inl sv_21)), ((Ma 6), .inl (tc 0, 95, .inl sv_22))] := hD
        refine lv_if_ne (tgt := 42) hx hb dX12_book_31 (by decide) (fun c_27 => ?_) (fun c_27 => ?_)
        · skip
          have hz_29 : (r_23 : Int32).toInt = 1 := by
            have z_1 := Int32.le_iff_toInt_le.mp c_11
            have z_2 : ¬ (r_23 : Int32).toInt = (0 : Int32).toInt := fun z => c_27 (Int32.toInt_inj.mp z)
            have y_0 : (0 : Int32).toInt = 0 := by decide
            have y_95 : (95 : Int32).toInt = 95 := by decide
            omega
          obtain pf_28 := hm_26 hz_29
          have pf_28 : RdO sv_22 := pf_28
          have ar_pf_28 := RdO.ar pf_28
          refine lv_iconst (v := 0) hx hb dX12_book_42 (by decide) ?_
          refine lv_istore_n (lv' := [(1, .int 0), (0, .ref (Ma 0))]) hx hb dX12_book_43 rfl hl (by decide) rfl (fun ls hl => ?_)
          have loop_36 : ∀ (n_34 : Nat) (vy_32 : Int32) (vy_33 : Nat → Int32) (H : Heap) (locs : List Loc) (ls : Array Slot), (126 - (vy_32 : Int32).toInt).toNat < n_34 → (0 ≤ (vy_32 : Int32).toInt) → (SdK vy_33 sv_22 vy_32) → va_P D classes [((Ma 10), .inl (tc 0, 126, .inl vy_33)), ((Ma 0), .inr (12, [.ref (Ma 1), .int 0, .int (Mv 1), .ref (Ma 2), .ref (Ma 3), .ref (Ma 4), .ref (Ma 5), .ref (Ma 6), .int sv_17, .int sv_18, .int sv_19, .int 6, .int 0, .int (Mv 7), .int sv_20, .ref (Ma 7), .int (Mv 9), .ref (Ma 8), .int (Mv 10), .ref (Ma 9), .ref (Ma 10), .int (Mv 11), .int (Mv 12), .int (Mv 13), .ref (Ma 11), .int (Mv 14), .ref (Ma 12), .ref (Ma 13), .ref (Ma 14), .ref (Ma 15), .ref (Ma 16), .long (Mj 0), .ref (Ma 17), .ref (Ma 18), .ref (Ma 19), .ref (Ma 20)])), ((Ma 1), .inl (tc 2, 400, .inl (Mf 1))), ((Ma 3), .inl (tc 0, 7, .inl sv_21)), ((Ma 6), .inl (tc 0, 95, .inl sv_22))] H → va_D A [((Ma 10), .inl (tc 0, 126, .inl vy_33)), ((Ma 0), .inr (12, [.ref (Ma 1), .int 0, .int (Mv 1), .ref (Ma 2), .ref (Ma 3), .ref (Ma 4), .ref (Ma 5), .ref (Ma 6), .int sv_17, .int sv_18, .int sv_19, .int 6, .int 0, .int (Mv 7), .int sv_20, .ref (Ma 7), .int (Mv 9), .ref (Ma 8), .int (Mv 10), .ref (Ma 9), .ref (Ma 10), .int (Mv 11), .int (Mv 12), .int (Mv 13), .ref (Ma 11), .int (Mv 14), .ref (Ma 12), .ref (Ma 13), .ref (Ma 14), .ref (Ma 15), .ref (Ma 16), .long (Mj 0), .ref (Ma 17), .ref (Ma 18), .ref (Ma 19), .ref (Ma 20)])), ((Ma 1), .inl (tc 2, 400, .inl (Mf 1))), ((Ma 3), .inl (tc 0, 7, .inl sv_21)), ((Ma 6), .inl (tc 0, 95, .inl sv_22))] → va_S A s.heap H locs → lv_has ls 2 [(1, .int vy_32), (0, .ref (Ma 0))] → W p l e ({ frames := 7, cells := 0, slots := 0, locals := 158 }) s m ([.ref (Ma 0)].toArray) below meth c H locs 0 0 (MQ below (QW (fun (v : Option Value) (u : (Int32) × (Int32) × (Int32) × (Int32) × (Int32) × (Nat → Int32) × (Nat → Int32) × (Nat → Int32)) => match u with | (oo0x1, oo0x2, oo0x3, oo0x4, oo0x5, oo0x6, oo0x7, oo0x8) => ∃ r : Int32, v = some (.int r) ∧ (True) ∧ (0 ≤ (0 : Int32).toInt ∧ (0 : Int32).toInt ≤ 400) ∧ (SaidD oo0x8 999) ∧ (0 ≤ (oo0x5 : Int32).toInt ∧ (oo0x5 : Int32).toInt ≤ 20)) (BW D (fun (u : (Int32) × (Int32) × (Int32) × (Int32) × (Int32) × (Nat → Int32) × (Nat → Int32) × (Nat → Int32)) => match u with | (oo0x1, oo0x2, oo0x3, oo0x4, oo0x5, oo0x6, oo0x7, oo0x8) => [((Ma 0), .inr (12, [.ref (Ma 1), .int 0, .int (Mv 1), .ref (Ma 2), .ref (Ma 3), .ref (Ma 4), .ref (Ma 5), .ref (Ma 6), .int oo0x1, .int oo0x2, .int oo0x3, .int 6, .int 0, .int (Mv 7), .int oo0x4, .ref (Ma 7), .int (Mv 9), .ref (Ma 8), .int (Mv 10), .ref (Ma 9), .ref (Ma 10), .int (Mv 11), .int (Mv 12), .int (Mv 13), .ref (Ma 11), .int oo0x5, .ref (Ma 12), .ref (Ma 13), .ref (Ma 14), .ref (Ma 15), .ref (Ma 16), .long (Mj 0), .ref (Ma 17), .ref (Ma 18), .ref (Ma 19), .ref (Ma 20)])), ((Ma 1), .inl (tc 2, 400, .inl (Mf 1))), ((Ma 3), .inl (tc 0, 7, .inl oo0x6)), ((Ma 6), .inl (tc 0, 95, .inl oo0x7)), ((Ma 10), .inl (tc 0, 126, .inl oo0x8))]) A) A) ([.ref (Ma 0)].toArray) s 0 0 A) (F0 m 44 ls []) := by
            intro n_34
            induction n_34 with
            | zero =>
              intro vy_32 vy_33 H locs ls h1
              exact absurd h1 (Nat.not_lt_zero _)
            | succ n_34 ih_35 =>
              intro vy_32 vy_33 H locs ls hn_39 pf_37 pf_38 hP hD hS hl
              refine lv_iload_n hx hb dX12_book_44 rfl (lv_at hl 0 rfl) ?_
              refine lv_bipush (v := 126) hx hb dX12_book_45 (by decide) ?_
              refine lv_icmp_ge (tgt := 78) hx hb dX12_book_47 (by decide) (fun c_40 => ?_) (fun c_40 => ?_)
              · skip
                refine lv_aload_n hx hb dX12_book_78 rfl (lv_at hl 1 rfl) ?_
                have hr_41 : 126 ≤ (vy_32 : Int32).toInt := by
                  have z_1 := Int32.le_iff_toInt_le.mp c_11
                  have z_2 : ¬ (r_23 : Int32).toInt = (0 : Int32).toInt := fun z => c_27 (Int32.toInt_inj.mp z)
                  have z_3 := Int32.le_iff_toInt_le.mp c_40
                  have y_0 : (0 : Int32).toInt = 0 := by decide
                  have y_95 : (95 : Int32).toInt = 95 := by decide
                  have y_126 : (126 : Int32).toInt = 126 := by decide
                  omega
                refine cV (a := (Ma 0)) (As := []) (rest := []) (wr := [((Ma 1), .inl (tc 2, 400, .inl (Mf 1))), ((Ma 3), .inl (tc 0, 7, .inl sv_21)), ((Ma 6), .inl (tc 0, 95, .inl sv_22))]) ⟨hx, hb, hml, hown, hts⟩ hK hX hA (ct_X12_begins l D tc sk Ma (fun k => ([0, (Mv 1), sv_17, sv_18, sv_19, 6, 0, (Mv 7), sv_20, (Mv 9), (Mv 10), (Mv 11), (Mv 12), (Mv 13), (Mv 14)] : List (Int32)).getD k 0) (fun k => ([(fun _ => 0), (fun _ => 0), (fun _ => 0), (fun _ => 0), (fun _ => 0), (fun _ => 0), (fun _ => 0), (fun _ => 0), (fun _ => 0), (fun _ => 0), vy_33] : List (Nat → Int32)).getD k (fun _ => 0)) Mj (SdK.done pf_38 pf_28 hr_41)) k_1359 k_1356 k_1358 k_56 k_106 pl_X12_begins ⟨Nat.le_of_ble_eq_true rfl, Nat.le_of_ble_eq_true rfl⟩ rfl rfl (va_recv hK hP (ci := 12) (q0 := 1) rfl rfl) hP hD hS [1, 0] [2, 3, 4] rfl rfl rfl rfl rfl (by decide) rfl hl.1 rfl (Nat.le_of_ble_eq_true rfl) dX12_book_79 ⟨Nat.le_of_ble_eq_true rfl, Nat.le_of_ble_eq_true rfl⟩ (fun v_42 u_43 H locs hv_44 hP hD hS => ?_)
                obtain ⟨sv_45, rfl⟩ : ∃ z, z = u_43 := ⟨_, rfl⟩
                obtain ⟨rfl, pf_46⟩ := hv_44
                have pf_46 : SaidD sv_45 0 := pf_46
                have ar_pf_46 := SaidD.al pf_46
                refine W.eq (g2 := F0 m 82 ls []) rfl ?_
                have hP : va_P D classes [((Ma 1), .inl (tc 2, 400, .inl (Mf 1))), ((Ma 3), .inl (tc 0, 7, .inl sv_21)), ((Ma 6), .inl (tc 0, 95, .inl sv_22)), ((Ma 0), .inr (12, [.ref (Ma 1), .int 0, .int (Mv 1), .ref (Ma 2), .ref (Ma 3), .ref (Ma 4), .ref (Ma 5), .ref (Ma 6), .int sv_17, .int sv_18, .int sv_19, .int 6, .int 0, .int (Mv 7), .int sv_20, .ref (Ma 7), .int (Mv 9), .ref (Ma 8), .int (Mv 10), .ref (Ma 9), .ref (Ma 10), .int (Mv 11), .int (Mv 12), .int (Mv 13), .ref (Ma 11), .int (Mv 14), .ref (Ma 12), .ref (Ma 13), .ref (Ma 14), .ref (Ma 15), .ref (Ma 16), .long (Mj 0), .ref (Ma 17), .ref (Ma 18), .ref (Ma 19), .ref (Ma 20)])), ((Ma 10), .inl (tc 0, 126, .inl sv_45))] H := hP
                have hD : va_D A [((Ma 1), .inl (tc 2, 400, .inl (Mf 1))), ((Ma 3), .inl (tc 0, 7, .inl sv_21)), ((Ma 6), .inl (tc 0, 95, .inl sv_22)), ((Ma 0), .inr (12, [.ref (Ma 1), .int 0, .int (Mv 1), .ref (Ma 2), .ref (Ma 3), .ref (Ma 4), .ref (Ma 5), .ref (Ma 6), .int sv_17, .int sv_18, .int sv_19, .int 6, .int 0, .int (Mv 7), .int sv_20, .ref (Ma 7), .int (Mv 9), .ref (Ma 8), .int (Mv 10), .ref (Ma 9), .ref (Ma 10), .int (Mv 11), .int (Mv 12), .int (Mv 13), .ref (Ma 11), .int (Mv 14), .ref (Ma 12), .ref (Ma 13), .ref (Ma 14), .ref (Ma 15), .ref (Ma 16), .long (Mj 0), .ref (Ma 17), .ref (Ma 18), .ref (Ma 19), .ref (Ma 20)])), ((Ma 10), .inl (tc 0, 126, .inl sv_45))] := hD
                refine lv_aload_n hx hb dX12_book_82 rfl (lv_at hl 1 rfl) ?_
                refine lv_iconst (v := 0) hx hb dX12_book_83 (by decide) ?_
                refine pf_X12_265 hx hb hts hown hK hP hD hS 3 rfl (Nat.le_of_ble_eq_true rfl) rfl rfl dX12_book_84 (fun H locs hP hD hS => ?_)
                have hP : va_P D classes [((Ma 1), .inl (tc 2, 400, .inl (Mf 1))), ((Ma 3), .inl (tc 0, 7, .inl sv_21)), ((Ma 6), .inl (tc 0, 95, .inl sv_22)), ((Ma 0), .inr (12, [.ref (Ma 1), .int 0, .int (Mv 1), .ref (Ma 2), .ref (Ma 3), .ref (Ma 4), .ref (Ma 5), .ref (Ma 6), .int sv_17, .int sv_18, .int sv_19, .int 6, .int 0, .int (Mv 7), .int sv_20, .ref (Ma 7), .int (Mv 9), .ref (Ma 8), .int (Mv 10), .ref (Ma 9), .ref (Ma 10), .int (Mv 11), .int (Mv 12), .int (Mv 13), .ref (Ma 11), .int 0, .ref (Ma 12), .ref (Ma 13), .ref (Ma 14), .ref (Ma 15), .ref (Ma 16), .long (Mj 0), .ref (Ma 17), .ref (Ma 18), .ref (Ma 19), .ref (Ma 20)])), ((Ma 10), .inl (tc 0, 126, .inl sv_45))] H := hP
                have hD : va_D A [((Ma 1), .inl (tc 2, 400, .inl (Mf 1))), ((Ma 3), .inl (tc 0, 7, .inl sv_21)), ((Ma 6), .inl (tc 0, 95, .inl sv_22)), ((Ma 0), .inr (12, [.ref (Ma 1), .int 0, .int (Mv 1), .ref (Ma 2), .ref (Ma 3), .ref (Ma 4), .ref (Ma 5), .ref (Ma 6), .int sv_17, .int sv_18, .int sv_19, .int 6, .int 0, .int (Mv 7), .int sv_20, .ref (Ma 7), .int (Mv 9), .ref (Ma 8), .int (Mv 10), .ref (Ma 9), .ref (Ma 10), .int (Mv 11), .int (Mv 12), .int (Mv 13), .ref (Ma 11), .int 0, .ref (Ma 12), .ref (Ma 13), .ref (Ma 14), .ref (Ma 15), .ref (Ma 16), .long (Mj 0), .ref (Ma 17), .ref (Ma 18), .ref (Ma 19), .ref (Ma 20)])), ((Ma 10), .inl (tc 0, 126, .inl sv_45))] := hD
                refine lv_aload_n hx hb dX12_book_87 rfl (lv_at hl 1 rfl) ?_
                refine gf_X12_39 hx hb hts hown hK hP 3 rfl rfl dX12_book_88 ?_
                refine lv_iconst (v := 3) hx hb dX12_book_91 (by decide) ?_
                refine va_iald hx hb hK hP 4 0 rfl rfl (vin_dec (by decide +kernel)) dX12_book_92 ?_
                refine lv_topi (fun x_47 ex_47 => ?_)
                have lx_47 : x_47.toInt = (sv_45 3).toInt := congrArg Int32.toInt ex_47
                have ha_48 : 0 ≤ (0 : Int32).toInt ∧ (0 : Int32).toInt ≤ 400 := by
                  have z_1 := Int32.le_iff_toInt_le.mp c_11
                  have z_2 : ¬ (r_23 : Int32).toInt = (0 : Int32).toInt := fun z => c_27 (Int32.toInt_inj.mp z)
                  have z_3 := Int32.le_iff_toInt_le.mp c_40
                  have y_0 : (0 : Int32).toInt = 0 := by decide
                  have y_95 : (95 : Int32).toInt = 95 := by decide
                  have y_126 : (126 : Int32).toInt = 126 := by decide
                  refine ⟨?_, ?_⟩ <;> omega
                have ha_49 : 0 ≤ 999 := by
                  have z_1 := Int32.le_iff_toInt_le.mp c_11
                  have z_2 : ¬ (r_23 : Int32).toInt = (0 : Int32).toInt := fun z => c_27 (Int32.toInt_inj.mp z)
                  have z_3 := Int32.le_iff_toInt_le.mp c_40
                  have y_0 : (0 : Int32).toInt = 0 := by decide
                  have y_95 : (95 : Int32).toInt = 95 := by decide
                  have y_126 : (126 : Int32).toInt = 126 := by decide
                  omega
                have ha_50 : 0 ≤ (0 : Int32).toInt ∧ (0 : Int32).toInt ≤ 20 := by
                  have z_1 := Int32.le_iff_toInt_le.mp c_11
                  have z_2 : ¬ (r_23 : Int32).toInt = (0 : Int32).toInt := fun z => c_27 (Int32.toInt_inj.mp z)
                  have z_3 := Int32.le_iff_toInt_le.mp c_40
                  have y_0 : (0 : Int32).toInt = 0 := by decide
                  have y_95 : (95 : Int32).toInt = 95 := by decide
                  have y_126 : (126 : Int32).toInt = 126 := by decide
                  refine ⟨?_, ?_⟩ <;> omega
                exact retI (v := x_47) hx hb hr hlk (rfl) hP hD hS (sv_17, sv_18, sv_19, sv_20, 0, sv_21, sv_22, sv_45) ⟨_, rfl, trivial, ha_48, (SaidD.mono pf_46 ha_49), ha_50⟩ [3, 0, 1, 2, 4] rfl rfl dX12_book_93 (Nat.le_of_ble_eq_true rfl) (Nat.le_of_ble_eq_true rfl) rfl
              · skip
                refine lv_aload_n hx hb dX12_book_50 rfl (lv_at hl 1 rfl) ?_
                refine gf_X12_39 hx hb hts hown hK hP 1 rfl rfl dX12_book_51 ?_
                refine lv_iload_n hx hb dX12_book_54 rfl (lv_at hl 0 rfl) ?_
                refine lv_iload_n hx hb dX12_book_55 rfl (lv_at hl 0 rfl) ?_
                refine lv_bipush (v := 95) hx hb dX12_book_56 (by decide) ?_
                refine lv_icmp_ge (tgt := 70) hx hb dX12_book_58 (by decide) (fun c_51 => ?_) (fun c_51 => ?_)
                · skip
                  refine lv_iconst (v := 0) hx hb dX12_book_70 (by decide) ?_
                  have hi_52 : vp_in vy_32 126 := by
                    have z_1 := Int32.le_iff_toInt_le.mp c_11
                    have z_2 : ¬ (r_23 : Int32).toInt = (0 : Int32).toInt := fun z => c_27 (Int32.toInt_inj.mp z)
                    have z_3 := Int32.lt_iff_toInt_lt.mp (Int32.not_le.mp c_40)
                    have z_4 := Int32.le_iff_toInt_le.mp c_51
                    have y_0 : (0 : Int32).toInt = 0 := by decide
                    have y_95 : (95 : Int32).toInt = 95 := by decide
                    have y_126 : (126 : Int32).toInt = 126 := by decide
                    refine vp_in_iff.mpr ⟨?_, ?_⟩ <;> omega
                  refine st_int hx hb hK hP hD hS 0 0 rfl rfl hi_52 dX12_book_71 (fun g_53 H locs eg_53 hP hD hS => ?_)
                  have hP : va_P D classes [((Ma 10), .inl (tc 0, 126, .inl g_53)), ((Ma 0), .inr (12, [.ref (Ma 1), .int 0, .int (Mv 1), .ref (Ma 2), .ref (Ma 3), .ref (Ma 4), .ref (Ma 5), .ref (Ma 6), .int sv_17, .int sv_18, .int sv_19, .int 6, .int 0, .int (Mv 7), .int sv_20, .ref (Ma 7), .int (Mv 9), .ref (Ma 8), .int (Mv 10), .ref (Ma 9), .ref (Ma 10), .int (Mv 11), .int (Mv 12), .int (Mv 13), .ref (Ma 11), .int (Mv 14), .ref (Ma 12), .ref (Ma 13), .ref (Ma 14), .ref (Ma 15), .ref (Ma 16), .long (Mj 0), .ref (Ma 17), .ref (Ma 18), .ref (Ma 19), .ref (Ma 20)])), ((Ma 1), .inl (tc 2, 400, .inl (Mf 1))), ((Ma 3), .inl (tc 0, 7, .inl sv_21)), ((Ma 6), .inl (tc 0, 95, .inl sv_22))] H := hP
                  have hD : va_D A [((Ma 10), .inl (tc 0, 126, .inl g_53)), ((Ma 0), .inr (12, [.ref (Ma 1), .int 0, .int (Mv 1), .ref (Ma 2), .ref (Ma 3), .ref (Ma 4), .ref (Ma 5), .ref (Ma 6), .int sv_17, .int sv_18, .int sv_19, .int 6, .int 0, .int (Mv 7), .int sv_20, .ref (Ma 7), .int (Mv 9), .ref (Ma 8), .int (Mv 10), .ref (Ma 9), .ref (Ma 10), .int (Mv 11), .int (Mv 12), .int (Mv 13), .ref (Ma 11), .int (Mv 14), .ref (Ma 12), .ref (Ma 13), .ref (Ma 14), .ref (Ma 15), .ref (Ma 16), .long (Mj 0), .ref (Ma 17), .ref (Ma 18), .ref (Ma 19), .ref (Ma 20)])), ((Ma 1), .inl (tc 2, 400, .inl (Mf 1))), ((Ma 3), .inl (tc 0, 7, .inl sv_21)), ((Ma 6), .inl (tc 0, 95, .inl sv_22))] := hD
                  obtain ⟨x_54, ex_54⟩ : ∃ y : Int32, y = vy_32 + 1 := ⟨_, rfl⟩
                  refine lv_iinc (v := x_54) (lv' := [(1, .int x_54), (0, .ref (Ma 0))]) hx hb dX12_book_72 hl (k := 0) rfl (by rw [ex_54]; rfl) (by decide) rfl (fun ls hl => ?_)
                  refine lv_goto (tgt := 44) hx hb dX12_book_75 (by decide) ?_
                  have hb_55 : 126 - (x_54 : Int32).toInt < 126 - (vy_32 : Int32).toInt ∧ 1 ≤ 126 - (vy_32 : Int32).toInt := by
                    have z_1 := Int32.le_iff_toInt_le.mp c_11
                    have z_2 : ¬ (r_23 : Int32).toInt = (0 : Int32).toInt := fun z => c_27 (Int32.toInt_inj.mp z)
                    have z_3 := Int32.lt_iff_toInt_lt.mp (Int32.not_le.mp c_40)
                    have z_4 := Int32.le_iff_toInt_le.mp c_51
                    have y_0 : (0 : Int32).toInt = 0 := by decide
                    have y_95 : (95 : Int32).toInt = 95 := by decide
                    have y_126 : (126 : Int32).toInt = 126 := by decide
                    have y_1 : (1 : Int32).toInt = 1 := by decide
                    have t_x_54 : x_54.toInt = (vy_32 : Int32).toInt + (1 : Int32).toInt := by rw [ex_54]; exact add_toInt (by omega) (by omega)
                    refine ⟨?_, ?_⟩ <;> omega
                  have ha_56 : 0 ≤ (x_54 : Int32).toInt := by
                    have z_1 := Int32.le_iff_toInt_le.mp c_11
                    have z_2 : ¬ (r_23 : Int32).toInt = (0 : Int32).toInt := fun z => c_27 (Int32.toInt_inj.mp z)
                    have z_3 := Int32.lt_iff_toInt_lt.mp (Int32.not_le.mp c_40)
                    have z_4 := Int32.le_iff_toInt_le.mp c_51
                    have y_0 : (0 : Int32).toInt = 0 := by decide
                    have y_95 : (95 : Int32).toInt = 95 := by decide
                    have y_126 : (126 : Int32).toInt = 126 := by decide
                    have y_1 : (1 : Int32).toInt = 1 := by decide
                    have t_x_54 : x_54.toInt = (vy_32 : Int32).toInt + (1 : Int32).toInt := by rw [ex_54]; exact add_toInt (by omega) (by omega)
                    omega
                  have hr_57 : 95 ≤ (vy_32 : Int32).toInt := by
                    have z_1 := Int32.le_iff_toInt_le.mp c_11
                    have z_2 : ¬ (r_23 : Int32).toInt = (0 : Int32).toInt := fun z => c_27 (Int32.toInt_inj.mp z)
                    have z_3 := Int32.lt_iff_toInt_lt.mp (Int32.not_le.mp c_40)
                    have z_4 := Int32.le_iff_toInt_le.mp c_51
                    have y_0 : (0 : Int32).toInt = 0 := by decide
                    have y_95 : (95 : Int32).toInt = 95 := by decide
                    have y_126 : (126 : Int32).toInt = 126 := by decide
                    omega
                  have hi_58 : (x_54 : Int32).toInt = (vy_32 : Int32).toInt + 1 := by
                    have z_1 := Int32.le_iff_toInt_le.mp c_11
                    have z_2 : ¬ (r_23 : Int32).toInt = (0 : Int32).toInt := fun z => c_27 (Int32.toInt_inj.mp z)
                    have z_3 := Int32.lt_iff_toInt_lt.mp (Int32.not_le.mp c_40)
                    have z_4 := Int32.le_iff_toInt_le.mp c_51
                    have y_0 : (0 : Int32).toInt = 0 := by decide
                    have y_95 : (95 : Int32).toInt = 95 := by decide
                    have y_126 : (126 : Int32).toInt = 126 := by decide
                    have y_1 : (1 : Int32).toInt = 1 := by decide
                    have t_x_54 : x_54.toInt = (vy_32 : Int32).toInt + (1 : Int32).toInt := by rw [ex_54]; exact add_toInt (by omega) (by omega)
                    omega
                  have hr_59 : 0 ≤ (vy_32 : Int32).toInt := by
                    have z_1 := Int32.le_iff_toInt_le.mp c_11
                    have z_2 : ¬ (r_23 : Int32).toInt = (0 : Int32).toInt := fun z => c_27 (Int32.toInt_inj.mp z)
                    have z_3 := Int32.lt_iff_toInt_lt.mp (Int32.not_le.mp c_40)
                    have z_4 := Int32.le_iff_toInt_le.mp c_51
                    have y_0 : (0 : Int32).toInt = 0 := by decide
                    have y_95 : (95 : Int32).toInt = 95 := by decide
                    have y_126 : (126 : Int32).toInt = 126 := by decide
                    omega
                  exact ih_35 x_54 g_53 _ _ _ (by omega) ha_56 (SdK.step pf_38 eg_53 (Or.inr ⟨hr_57, by decide⟩) hi_58 hr_59) (hP.sub [0, 1, 2, 3, 4] rfl) (hD.sub [0, 1, 2, 3, 4] rfl rfl) hS (lv_sub hl [0, 1] rfl)
                · skip
                  refine lv_aload_n hx hb dX12_book_61 rfl (lv_at hl 1 rfl) ?_
                  refine gf_X12_26 hx hb hts hown hK hP 1 rfl rfl dX12_book_62 ?_
                  refine lv_iload_n hx hb dX12_book_65 rfl (lv_at hl 0 rfl) ?_
                  have hi_60 : vp_in vy_32 95 := by
                    have z_1 := Int32.le_iff_toInt_le.mp c_11
                    have z_2 : ¬ (r_23 : Int32).toInt = (0 : Int32).toInt := fun z => c_27 (Int32.toInt_inj.mp z)
                    have z_3 := Int32.lt_iff_toInt_lt.mp (Int32.not_le.mp c_40)
                    have z_4 := Int32.lt_iff_toInt_lt.mp (Int32.not_le.mp c_51)
                    have y_0 : (0 : Int32).toInt = 0 := by decide
                    have y_95 : (95 : Int32).toInt = 95 := by decide
                    have y_126 : (126 : Int32).toInt = 126 := by decide
                    refine vp_in_iff.mpr ⟨?_, ?_⟩ <;> omega
                  refine va_iald hx hb hK hP 4 0 rfl rfl hi_60 dX12_book_66 ?_
                  refine lv_topi (fun x_61 ex_61 => ?_)
                  refine lv_goto (tgt := 71) hx hb dX12_book_67 (by decide) ?_
                  have hi_62 : vp_in vy_32 126 := by
                    have z_1 := Int32.le_iff_toInt_le.mp c_11
                    have z_2 : ¬ (r_23 : Int32).toInt = (0 : Int32).toInt := fun z => c_27 (Int32.toInt_inj.mp z)
                    have z_3 := Int32.lt_iff_toInt_lt.mp (Int32.not_le.mp c_40)
                    have z_4 := Int32.lt_iff_toInt_lt.mp (Int32.not_le.mp c_51)
                    have y_0 : (0 : Int32).toInt = 0 := by decide
                    have y_95 : (95 : Int32).toInt = 95 := by decide
                    have y_126 : (126 : Int32).toInt = 126 := by decide
                    refine vp_in_iff.mpr ⟨?_, ?_⟩ <;> omega
                  refine st_int hx hb hK hP hD hS 0 0 rfl rfl hi_62 dX12_book_71 (fun g_63 H locs eg_63 hP hD hS => ?_)
                  have hP : va_P D classes [((Ma 10), .inl (tc 0, 126, .inl g_63)), ((Ma 0), .inr (12, [.ref (Ma 1), .int 0, .int (Mv 1), .ref (Ma 2), .ref (Ma 3), .ref (Ma 4), .ref (Ma 5), .ref (Ma 6), .int sv_17, .int sv_18, .int sv_19, .int 6, .int 0, .int (Mv 7), .int sv_20, .ref (Ma 7), .int (Mv 9), .ref (Ma 8), .int (Mv 10), .ref (Ma 9), .ref (Ma 10), .int (Mv 11), .int (Mv 12), .int (Mv 13), .ref (Ma 11), .int (Mv 14), .ref (Ma 12), .ref (Ma 13), .ref (Ma 14), .ref (Ma 15), .ref (Ma 16), .long (Mj 0), .ref (Ma 17), .ref (Ma 18), .ref (Ma 19), .ref (Ma 20)])), ((Ma 1), .inl (tc 2, 400, .inl (Mf 1))), ((Ma 3), .inl (tc 0, 7, .inl sv_21)), ((Ma 6), .inl (tc 0, 95, .inl sv_22))] H := hP
                  have hD : va_D A [((Ma 10), .inl (tc 0, 126, .inl g_63)), ((Ma 0), .inr (12, [.ref (Ma 1), .int 0, .int (Mv 1), .ref (Ma 2), .ref (Ma 3), .ref (Ma 4), .ref (Ma 5), .ref (Ma 6), .int sv_17, .int sv_18, .int sv_19, .int 6, .int 0, .int (Mv 7), .int sv_20, .ref (Ma 7), .int (Mv 9), .ref (Ma 8), .int (Mv 10), .ref (Ma 9), .ref (Ma 10), .int (Mv 11), .int (Mv 12), .int (Mv 13), .ref (Ma 11), .int (Mv 14), .ref (Ma 12), .ref (Ma 13), .ref (Ma 14), .ref (Ma 15), .ref (Ma 16), .long (Mj 0), .ref (Ma 17), .ref (Ma 18), .ref (Ma 19), .ref (Ma 20)])), ((Ma 1), .inl (tc 2, 400, .inl (Mf 1))), ((Ma 3), .inl (tc 0, 7, .inl sv_21)), ((Ma 6), .inl (tc 0, 95, .inl sv_22))] := hD
                  obtain ⟨x_64, ex_64⟩ : ∃ y : Int32, y = vy_32 + 1 := ⟨_, rfl⟩
                  refine lv_iinc (v := x_64) (lv' := [(1, .int x_64), (0, .ref (Ma 0))]) hx hb dX12_book_72 hl (k := 0) rfl (by rw [ex_64]; rfl) (by decide) rfl (fun ls hl => ?_)
                  refine lv_goto (tgt := 44) hx hb dX12_book_75 (by decide) ?_
                  have hb_65 : 126 - (x_64 : Int32).toInt < 126 - (vy_32 : Int32).toInt ∧ 1 ≤ 126 - (vy_32 : Int32).toInt := by
                    have z_1 := Int32.le_iff_toInt_le.mp c_11
                    have z_2 : ¬ (r_23 : Int32).toInt = (0 : Int32).toInt := fun z => c_27 (Int32.toInt_inj.mp z)
                    have z_3 := Int32.lt_iff_toInt_lt.mp (Int32.not_le.mp c_40)
                    have z_4 := Int32.lt_iff_toInt_lt.mp (Int32.not_le.mp c_51)
                    have y_0 : (0 : Int32).toInt = 0 := by decide
                    have y_95 : (95 : Int32).toInt = 95 := by decide
                    have y_126 : (126 : Int32).toInt = 126 := by decide
                    have y_1 : (1 : Int32).toInt = 1 := by decide
                    have t_x_64 : x_64.toInt = (vy_32 : Int32).toInt + (1 : Int32).toInt := by rw [ex_64]; exact add_toInt (by omega) (by omega)
                    refine ⟨?_, ?_⟩ <;> omega
                  have ha_66 : 0 ≤ (x_64 : Int32).toInt := by
                    have z_1 := Int32.le_iff_toInt_le.mp c_11
                    have z_2 : ¬ (r_23 : Int32).toInt = (0 : Int32).toInt := fun z => c_27 (Int32.toInt_inj.mp z)
                    have z_3 := Int32.lt_iff_toInt_lt.mp (Int32.not_le.mp c_40)
                    have z_4 := Int32.lt_iff_toInt_lt.mp (Int32.not_le.mp c_51)
                    have y_0 : (0 : Int32).toInt = 0 := by decide
                    have y_95 : (95 : Int32).toInt = 95 := by decide
                    have y_126 : (126 : Int32).toInt = 126 := by decide
                    have y_1 : (1 : Int32).toInt = 1 := by decide
                    have t_x_64 : x_64.toInt = (vy_32 : Int32).toInt + (1 : Int32).toInt := by rw [ex_64]; exact add_toInt (by omega) (by omega)
                    omega
                  have hr_67 : (vy_32 : Int32).toInt < 95 := by
                    have z_1 := Int32.le_iff_toInt_le.mp c_11
                    have z_2 : ¬ (r_23 : Int32).toInt = (0 : Int32).toInt := fun z => c_27 (Int32.toInt_inj.mp z)
                    have z_3 := Int32.lt_iff_toInt_lt.mp (Int32.not_le.mp c_40)
                    have z_4 := Int32.lt_iff_toInt_lt.mp (Int32.not_le.mp c_51)
                    have y_0 : (0 : Int32).toInt = 0 := by decide
                    have y_95 : (95 : Int32).toInt = 95 := by decide
                    have y_126 : (126 : Int32).toInt = 126 := by decide
                    omega
                  have hi_68 : (x_64 : Int32).toInt = (vy_32 : Int32).toInt + 1 := by
                    have z_1 := Int32.le_iff_toInt_le.mp c_11
                    have z_2 : ¬ (r_23 : Int32).toInt = (0 : Int32).toInt := fun z => c_27 (Int32.toInt_inj.mp z)
                    have z_3 := Int32.lt_iff_toInt_lt.mp (Int32.not_le.mp c_40)
                    have z_4 := Int32.lt_iff_toInt_lt.mp (Int32.not_le.mp c_51)
                    have y_0 : (0 : Int32).toInt = 0 := by decide
                    have y_95 : (95 : Int32).toInt = 95 := by decide
                    have y_126 : (126 : Int32).toInt = 126 := by decide
                    have y_1 : (1 : Int32).toInt = 1 := by decide
                    have t_x_64 : x_64.toInt = (vy_32 : Int32).toInt + (1 : Int32).toInt := by rw [ex_64]; exact add_toInt (by omega) (by omega)
                    omega
                  have hr_69 : 0 ≤ (vy_32 : Int32).toInt := by
                    have z_1 := Int32.le_iff_toInt_le.mp c_11
                    have z_2 : ¬ (r_23 : Int32).toInt = (0 : Int32).toInt := fun z => c_27 (Int32.toInt_inj.mp z)
                    have z_3 := Int32.lt_iff_toInt_lt.mp (Int32.not_le.mp c_40)
                    have z_4 := Int32.lt_iff_toInt_lt.mp (Int32.not_le.mp c_51)
                    have y_0 : (0 : Int32).toInt = 0 := by decide
                    have y_95 : (95 : Int32).toInt = 95 := by decide
                    have y_126 : (126 : Int32).toInt = 126 := by decide
                    omega
                  exact ih_35 x_64 g_63 _ _ _ (by omega) ha_66 (SdK.step pf_38 eg_63 (Or.inl ⟨hr_67, ex_61⟩) hi_68 hr_69) (hP.sub [0, 1, 2, 3, 4] rfl) (hD.sub [0, 1, 2, 3, 4] rfl rfl) hS (lv_sub hl [0, 1] rfl)
          have ha_70 : 0 ≤ (0 : Int32).toInt := by
            have z_1 := Int32.le_iff_toInt_le.mp c_11
            have z_2 : ¬ (r_23 : Int32).toInt = (0 : Int32).toInt := fun z => c_27 (Int32.toInt_inj.mp z)
            have y_0 : (0 : Int32).toInt = 0 := by decide
            have y_95 : (95 : Int32).toInt = 95 := by decide
            omega
          have ha_71 : SdK (Mf 10) sv_22 0 := fun i hi => absurd hi (by have : (0 : Int32).toInt = 0 := by decide
            omega)
          exact loop_36 _ 0 (Mf 10) _ _ _ (Nat.lt_succ_self _) ha_70 ha_71 hP hD hS hl
        · skip
          refine lv_bipush (v := (-2)) hx hb dX12_book_34 (by decide) ?_
          refine lv_aload_n hx hb dX12_book_36 rfl (lv_at hl 1 rfl) ?_
          refine gf_X12_84 hx hb hts hown hK hP 1 rfl rfl dX12_book_37 ?_
          refine lv_isub hx hb dX12_book_40 ?_
          refine lv_topi (fun x_72 ex_72 => ?_)
          have ha_73 : 0 ≤ (0 : Int32).toInt ∧ (0 : Int32).toInt ≤ 400 := by
            have z_1 := Int32.le_iff_toInt_le.mp c_11
            have z_2 := congrArg Int32.toInt c_27
            have y_0 : (0 : Int32).toInt = 0 := by decide
            have y_95 : (95 : Int32).toInt = 95 := by decide
            refine ⟨?_, ?_⟩ <;> omega
          have ha_74 : 0 ≤ ((Mv 14) : Int32).toInt ∧ ((Mv 14) : Int32).toInt ≤ 20 := by
            have z_1 := Int32.le_iff_toInt_le.mp c_11
            have z_2 := congrArg Int32.toInt c_27
            have y_0 : (0 : Int32).toInt = 0 := by decide
            have y_95 : (95 : Int32).toInt = 95 := by decide
            refine ⟨?_, ?_⟩ <;> omega
          exact retI (v := x_72) hx hb hr hlk (rfl) hP hD hS (sv_17, sv_18, sv_19, sv_20, (Mv 14), sv_21, sv_22, (Mf 10)) ⟨_, rfl, trivial, ha_73, h_said, ha_74⟩ [1, 2, 3, 4, 0] rfl rfl dX12_book_41 (Nat.le_of_ble_eq_true rfl) (Nat.le_of_ble_eq_true rfl) rfl
      · skip
        refine lv_aload_n hx hb dX12_book_14 rfl (lv_at hl 1 rfl) ?_
        refine gf_X12_26 hx hb hts hown hK hP 0 rfl rfl dX12_book_15 ?_
        refine lv_iload_n hx hb dX12_book_18 rfl (lv_at hl 0 rfl) ?_
        refine lv_iconst (v := 0) hx hb dX12_book_19 (by decide) ?_
        have hi_75 : vp_in vy_3 95 := by
          have z_1 := Int32.lt_iff_toInt_lt.mp (Int32.not_le.mp c_11)
          have y_95 : (95 : Int32).toInt = 95 := by decide
          refine vp_in_iff.mpr ⟨?_, ?_⟩ <;> omega
        refine st_int hx hb hK hP hD hS 3 0 rfl rfl hi_75 dX12_book_20 (fun g_76 H locs eg_76 hP hD hS => ?_)
        have hP : va_P D classes [((Ma 0), .inr (12, [.ref (Ma 1), .int (Mv 0), .int (Mv 1), .ref (Ma 2), .ref (Ma 3), .ref (Ma 4), .ref (Ma 5), .ref (Ma 6), .int (Mv 2), .int (Mv 3), .int (Mv 4), .int 6, .int (Mv 6), .int (Mv 7), .int (Mv 8), .ref (Ma 7), .int (Mv 9), .ref (Ma 8), .int (Mv 10), .ref (Ma 9), .ref (Ma 10), .int (Mv 11), .int (Mv 12), .int (Mv 13), .ref (Ma 11), .int (Mv 14), .ref (Ma 12), .ref (Ma 13), .ref (Ma 14), .ref (Ma 15), .ref (Ma 16), .long (Mj 0), .ref (Ma 17), .ref (Ma 18), .ref (Ma 19), .ref (Ma 20)])), ((Ma 1), .inl (tc 2, 400, .inl (Mf 1))), ((Ma 3), .inl (tc 0, 7, .inl (Mf 3))), ((Ma 6), .inl (tc 0, 95, .inl g_76)), ((Ma 10), .inl (tc 0, 126, .inl (Mf 10)))] H := hP
        have hD : va_D A [((Ma 0), .inr (12, [.ref (Ma 1), .int (Mv 0), .int (Mv 1), .ref (Ma 2), .ref (Ma 3), .ref (Ma 4), .ref (Ma 5), .ref (Ma 6), .int (Mv 2), .int (Mv 3), .int (Mv 4), .int 6, .int (Mv 6), .int (Mv 7), .int (Mv 8), .ref (Ma 7), .int (Mv 9), .ref (Ma 8), .int (Mv 10), .ref (Ma 9), .ref (Ma 10), .int (Mv 11), .int (Mv 12), .int (Mv 13), .ref (Ma 11), .int (Mv 14), .ref (Ma 12), .ref (Ma 13), .ref (Ma 14), .ref (Ma 15), .ref (Ma 16), .long (Mj 0), .ref (Ma 17), .ref (Ma 18), .ref (Ma 19), .ref (Ma 20)])), ((Ma 1), .inl (tc 2, 400, .inl (Mf 1))), ((Ma 3), .inl (tc 0, 7, .inl (Mf 3))), ((Ma 6), .inl (tc 0, 95, .inl g_76)), ((Ma 10), .inl (tc 0, 126, .inl (Mf 10)))] := hD
        obtain ⟨x_77, ex_77⟩ : ∃ y : Int32, y = vy_3 + 1 := ⟨_, rfl⟩
        refine lv_iinc (v := x_77) (lv' := [(1, .int x_77), (0, .ref (Ma 0))]) hx hb dX12_book_21 hl (k := 0) rfl (by rw [ex_77]; rfl) (by decide) rfl (fun ls hl => ?_)
        refine lv_goto (tgt := 8) hx hb dX12_book_24 (by decide) ?_
        have hb_78 : 95 - (x_77 : Int32).toInt < 95 - (vy_3 : Int32).toInt ∧ 1 ≤ 95 - (vy_3 : Int32).toInt := by
          have z_1 := Int32.lt_iff_toInt_lt.mp (Int32.not_le.mp c_11)
          have y_95 : (95 : Int32).toInt = 95 := by decide
          have y_1 : (1 : Int32).toInt = 1 := by decide
          have t_x_77 : x_77.toInt = (vy_3 : Int32).toInt + (1 : Int32).toInt := by rw [ex_77]; exact add_toInt (by omega) (by omega)
          refine ⟨?_, ?_⟩ <;> omega
        have ha_79 : 0 ≤ (x_77 : Int32).toInt := by
          have z_1 := Int32.lt_iff_toInt_lt.mp (Int32.not_le.mp c_11)
          have y_95 : (95 : Int32).toInt = 95 := by decide
          have y_1 : (1 : Int32).toInt = 1 := by decide
          have t_x_77 : x_77.toInt = (vy_3 : Int32).toInt + (1 : Int32).toInt := by rw [ex_77]; exact add_toInt (by omega) (by omega)
          omega
        have hi_80 : (x_77 : Int32).toInt = (vy_3 : Int32).toInt + 1 := by
          have z_1 := Int32.lt_iff_toInt_lt.mp (Int32.not_le.mp c_11)
          have y_95 : (95 : Int32).toInt = 95 := by decide
          have y_1 : (1 : Int32).toInt = 1 := by decide
          have t_x_77 : x_77.toInt = (vy_3 : Int32).toInt + (1 : Int32).toInt := by rw [ex_77]; exact add_toInt (by omega) (by omega)
          omega
        have hr_81 : 0 ≤ (vy_3 : Int32).toInt := by
          have z_1 := Int32.lt_iff_toInt_lt.mp (Int32.not_le.mp c_11)
          have y_95 : (95 : Int32).toInt = 95 := by decide
          omega
        exact ih_6 x_77 g_76 _ _ _ (by omega) ha_79 (Rd0.step pf_9 eg_76 hi_80 hr_81) (hP.sub [0, 1, 2, 3, 4] rfl) (hD.sub [0, 1, 2, 3, 4] rfl rfl) hS (lv_sub hl [0, 1] rfl)
  have ha_82 : 0 ≤ (0 : Int32).toInt := by
    have y_0 : (0 : Int32).toInt = 0 := by decide
    omega
  have ha_83 : Rd0 (Mf 6) 0 := fun i hi => absurd hi (by have : (0 : Int32).toInt = 0 := by decide
    omega)
  exact loop_7 _ 0 (Mf 6) _ _ _ (Nat.lt_succ_self _) ha_82 ha_83 hP hD hS hl
