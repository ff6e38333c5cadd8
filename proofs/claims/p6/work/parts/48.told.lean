theorem dX12_book_0 : decode cX12_book 0 = .ok (.aload_n 0, 1) := by decide +kernel
theorem dX12_book_1 : decode cX12_book 1 = .ok (.bipush 6, 2) := by decide +kernel
theorem dX12_book_3 : decode cX12_book 3 = .ok (.putfield 145, 3) := by decide +kernel
theorem dX12_book_6 : decode cX12_book 6 = .ok (.iconst 0, 1) := by decide +kernel
theorem dX12_book_7 : decode cX12_book 7 = .ok (.istore_n 1, 1) := by decide +kernel
theorem dX12_book_8 : decode cX12_book 8 = .ok (.iload_n 1, 1) := by decide +kernel
theorem dX12_book_9 : decode cX12_book 9 = .ok (.bipush 95, 2) := by decide +kernel
theorem dX12_book_11 : decode cX12_book 11 = .ok (.if_icmp .ge 16, 3) := by decide +kernel
theorem dX12_book_14 : decode cX12_book 14 = .ok (.aload_n 0, 1) := by decide +kernel
theorem dX12_book_15 : decode cX12_book 15 = .ok (.getfield 26, 3) := by decide +kernel
theorem dX12_book_18 : decode cX12_book 18 = .ok (.iload_n 1, 1) := by decide +kernel
theorem dX12_book_19 : decode cX12_book 19 = .ok (.iconst 0, 1) := by decide +kernel
theorem dX12_book_20 : decode cX12_book 20 = .ok (.iastore, 1) := by decide +kernel
theorem dX12_book_21 : decode cX12_book 21 = .ok (.iinc 1 1, 3) := by decide +kernel
theorem dX12_book_24 : decode cX12_book 24 = .ok (.goto (-16), 3) := by decide +kernel
theorem dX12_book_27 : decode cX12_book 27 = .ok (.aload_n 0, 1) := by decide +kernel
theorem dX12_book_28 : decode cX12_book 28 = .ok (.invokevirtual 259, 3) := by decide +kernel
theorem dX12_book_31 : decode cX12_book 31 = .ok (.ifCond .ne 11, 3) := by decide +kernel
theorem dX12_book_34 : decode cX12_book 34 = .ok (.bipush (-2), 2) := by decide +kernel
theorem dX12_book_36 : decode cX12_book 36 = .ok (.aload_n 0, 1) := by decide +kernel
theorem dX12_book_37 : decode cX12_book 37 = .ok (.getfield 84, 3) := by decide +kernel
theorem dX12_book_40 : decode cX12_book 40 = .ok (.isub, 1) := by decide +kernel
theorem dX12_book_41 : decode cX12_book 41 = .ok (.ireturn, 1) := by decide +kernel
theorem dX12_book_42 : decode cX12_book 42 = .ok (.iconst 0, 1) := by decide +kernel
theorem dX12_book_43 : decode cX12_book 43 = .ok (.istore_n 1, 1) := by decide +kernel
theorem dX12_book_44 : decode cX12_book 44 = .ok (.iload_n 1, 1) := by decide +kernel
theorem dX12_book_45 : decode cX12_book 45 = .ok (.bipush 126, 2) := by decide +kernel
theorem dX12_book_47 : decode cX12_book 47 = .ok (.if_icmp .ge 31, 3) := by decide +kernel
theorem dX12_book_50 : decode cX12_book 50 = .ok (.aload_n 0, 1) := by decide +kernel
theorem dX12_book_51 : decode cX12_book 51 = .ok (.getfield 39, 3) := by decide +kernel
theorem dX12_book_54 : decode cX12_book 54 = .ok (.iload_n 1, 1) := by decide +kernel
theorem dX12_book_55 : decode cX12_book 55 = .ok (.iload_n 1, 1) := by decide +kernel
theorem dX12_book_56 : decode cX12_book 56 = .ok (.bipush 95, 2) := by decide +kernel
theorem dX12_book_58 : decode cX12_book 58 = .ok (.if_icmp .ge 12, 3) := by decide +kernel
theorem dX12_book_61 : decode cX12_book 61 = .ok (.aload_n 0, 1) := by decide +kernel
theorem dX12_book_62 : decode cX12_book 62 = .ok (.getfield 26, 3) := by decide +kernel
theorem dX12_book_65 : decode cX12_book 65 = .ok (.iload_n 1, 1) := by decide +kernel
theorem dX12_book_66 : decode cX12_book 66 = .ok (.iaload, 1) := by decide +kernel
theorem dX12_book_67 : decode cX12_book 67 = .ok (.goto 4, 3) := by decide +kernel
theorem dX12_book_70 : decode cX12_book 70 = .ok (.iconst 0, 1) := by decide +kernel
theorem dX12_book_71 : decode cX12_book 71 = .ok (.iastore, 1) := by decide +kernel
theorem dX12_book_72 : decode cX12_book 72 = .ok (.iinc 1 1, 3) := by decide +kernel
theorem dX12_book_75 : decode cX12_book 75 = .ok (.goto (-31), 3) := by decide +kernel
theorem dX12_book_78 : decode cX12_book 78 = .ok (.aload_n 0, 1) := by decide +kernel
theorem dX12_book_79 : decode cX12_book 79 = .ok (.invokevirtual 262, 3) := by decide +kernel
theorem dX12_book_82 : decode cX12_book 82 = .ok (.aload_n 0, 1) := by decide +kernel
theorem dX12_book_83 : decode cX12_book 83 = .ok (.iconst 0, 1) := by decide +kernel
theorem dX12_book_84 : decode cX12_book 84 = .ok (.putfield 265, 3) := by decide +kernel
theorem dX12_book_87 : decode cX12_book 87 = .ok (.aload_n 0, 1) := by decide +kernel
theorem dX12_book_88 : decode cX12_book 88 = .ok (.getfield 39, 3) := by decide +kernel
theorem dX12_book_91 : decode cX12_book 91 = .ok (.iconst 3, 1) := by decide +kernel
theorem dX12_book_92 : decode cX12_book 92 = .ok (.iaload, 1) := by decide +kernel
theorem dX12_book_93 : decode cX12_book 93 = .ok (.ireturn, 1) := by decide +kernel
theorem dX12_bookLineHere_0 : decode cX12_bookLineHere 0 = .ok (.aload_n 0, 1) := by decide +kernel
theorem dX12_bookLineHere_1 : decode cX12_bookLineHere 1 = .ok (.ldc2_w 221, 3) := by decide +kernel
theorem dX12_bookLineHere_4 : decode cX12_bookLineHere 4 = .ok (.invokevirtual 98, 3) := by decide +kernel
theorem dX12_bookLineHere_7 : decode cX12_bookLineHere 7 = .ok (.ifCond .eq 9, 3) := by decide +kernel
theorem dX12_bookLineHere_10 : decode cX12_bookLineHere 10 = .ok (.aload_n 0, 1) := by decide +kernel
theorem dX12_bookLineHere_11 : decode cX12_bookLineHere 11 = .ok (.iload_n 1, 1) := by decide +kernel
theorem dX12_bookLineHere_12 : decode cX12_bookLineHere 12 = .ok (.invokevirtual 223, 3) := by decide +kernel
theorem dX12_bookLineHere_15 : decode cX12_bookLineHere 15 = .ok (.ireturn, 1) := by decide +kernel
theorem dX12_bookLineHere_16 : decode cX12_bookLineHere 16 = .ok (.aload_n 0, 1) := by decide +kernel
theorem dX12_bookLineHere_17 : decode cX12_bookLineHere 17 = .ok (.getfield 26, 3) := by decide +kernel
theorem dX12_bookLineHere_20 : decode cX12_bookLineHere 20 = .ok (.iconst 0, 1) := by decide +kernel
theorem dX12_bookLineHere_21 : decode cX12_bookLineHere 21 = .ok (.iaload, 1) := by decide +kernel
theorem dX12_bookLineHere_22 : decode cX12_bookLineHere 22 = .ok (.ifCond .ne 10, 3) := by decide +kernel
theorem dX12_bookLineHere_25 : decode cX12_bookLineHere 25 = .ok (.aload_n 0, 1) := by decide +kernel
theorem dX12_bookLineHere_26 : decode cX12_bookLineHere 26 = .ok (.iconst 4, 1) := by decide +kernel
theorem dX12_bookLineHere_27 : decode cX12_bookLineHere 27 = .ok (.iload_n 1, 1) := by decide +kernel
theorem dX12_bookLineHere_28 : decode cX12_bookLineHere 28 = .ok (.invokevirtual 108, 3) := by decide +kernel
theorem dX12_bookLineHere_31 : decode cX12_bookLineHere 31 = .ok (.ireturn, 1) := by decide +kernel
theorem dX12_bookLineHere_32 : decode cX12_bookLineHere 32 = .ok (.aload_n 0, 1) := by decide +kernel
theorem dX12_bookLineHere_33 : decode cX12_bookLineHere 33 = .ok (.ldc2_w 226, 3) := by decide +kernel
theorem dX12_bookLineHere_36 : decode cX12_bookLineHere 36 = .ok (.invokevirtual 98, 3) := by decide +kernel
theorem dX12_bookLineHere_39 : decode cX12_bookLineHere 39 = .ok (.ifCond .eq 8, 3) := by decide +kernel
theorem dX12_bookLineHere_42 : decode cX12_bookLineHere 42 = .ok (.aload_n 0, 1) := by decide +kernel
theorem dX12_bookLineHere_43 : decode cX12_bookLineHere 43 = .ok (.invokevirtual 228, 3) := by decide +kernel
theorem dX12_bookLineHere_46 : decode cX12_bookLineHere 46 = .ok (.ireturn, 1) := by decide +kernel
theorem dX12_bookLineHere_47 : decode cX12_bookLineHere 47 = .ok (.aload_n 0, 1) := by decide +kernel
theorem dX12_bookLineHere_48 : decode cX12_bookLineHere 48 = .ok (.ldc2_w 119, 3) := by decide +kernel
theorem dX12_bookLineHere_51 : decode cX12_bookLineHere 51 = .ok (.invokevirtual 98, 3) := by decide +kernel
theorem dX12_bookLineHere_54 : decode cX12_bookLineHere 54 = .ok (.ifCond .eq 11, 3) := by decide +kernel
theorem dX12_bookLineHere_57 : decode cX12_bookLineHere 57 = .ok (.aload_n 0, 1) := by decide +kernel
theorem dX12_bookLineHere_58 : decode cX12_bookLineHere 58 = .ok (.iload_n 1, 1) := by decide +kernel
theorem dX12_bookLineHere_59 : decode cX12_bookLineHere 59 = .ok (.invokevirtual 231, 3) := by decide +kernel
theorem dX12_bookLineHere_62 : decode cX12_bookLineHere 62 = .ok (.goto 7, 3) := by decide +kernel
theorem dX12_bookLineHere_65 : decode cX12_bookLineHere 65 = .ok (.aload_n 0, 1) := by decide +kernel
theorem dX12_bookLineHere_66 : decode cX12_bookLineHere 66 = .ok (.invokevirtual 234, 3) := by decide +kernel
theorem dX12_bookLineHere_69 : decode cX12_bookLineHere 69 = .ok (.ireturn, 1) := by decide +kernel
theorem dX12_cellHere_0 : decode cX12_cellHere 0 = .ok (.aload_n 0, 1) := by decide +kernel
theorem dX12_cellHere_1 : decode cX12_cellHere 1 = .ok (.iload_n 2, 1) := by decide +kernel
theorem dX12_cellHere_2 : decode cX12_cellHere 2 = .ok (.iload_n 3, 1) := by decide +kernel
theorem dX12_cellHere_3 : decode cX12_cellHere 3 = .ok (.invokevirtual 166, 3) := by decide +kernel
theorem dX12_cellHere_6 : decode cX12_cellHere 6 = .ok (.ifCond .ne 5, 3) := by decide +kernel
theorem dX12_cellHere_9 : decode cX12_cellHere 9 = .ok (.iconst 0, 1) := by decide +kernel
theorem dX12_cellHere_10 : decode cX12_cellHere 10 = .ok (.ireturn, 1) := by decide +kernel
theorem dX12_cellHere_11 : decode cX12_cellHere 11 = .ok (.aload_n 0, 1) := by decide +kernel
theorem dX12_cellHere_12 : decode cX12_cellHere 12 = .ok (.getfield 26, 3) := by decide +kernel
theorem dX12_cellHere_15 : decode cX12_cellHere 15 = .ok (.iload_n 1, 1) := by decide +kernel
theorem dX12_cellHere_16 : decode cX12_cellHere 16 = .ok (.aload_n 0, 1) := by decide +kernel
theorem dX12_cellHere_17 : decode cX12_cellHere 17 = .ok (.getfield 112, 3) := by decide +kernel
theorem dX12_cellHere_20 : decode cX12_cellHere 20 = .ok (.iastore, 1) := by decide +kernel
theorem dX12_cellHere_21 : decode cX12_cellHere 21 = .ok (.iconst 1, 1) := by decide +kernel
theorem dX12_cellHere_22 : decode cX12_cellHere 22 = .ok (.ireturn, 1) := by decide +kernel
theorem dX12_clauseHere_19 : decode cX12_clauseHere 19 = .ok (.iconst 1, 1) := by decide +kernel
theorem dX12_clauseHere_20 : decode cX12_clauseHere 20 = .ok (.goto 4, 3) := by decide +kernel
theorem dX12_clauseHere_29 : decode cX12_clauseHere 29 = .ok (.aload_n 0, 1) := by decide +kernel
theorem dX12_clauseHere_30 : decode cX12_clauseHere 30 = .ok (.invokevirtual 239, 3) := by decide +kernel
theorem dX12_clauseHere_33 : decode cX12_clauseHere 33 = .ok (.ifCond .ne 23, 3) := by decide +kernel
theorem dX12_clauseHere_36 : decode cX12_clauseHere 36 = .ok (.goto 13, 3) := by decide +kernel
theorem dX12_clauseHere_64 : decode cX12_clauseHere 64 = .ok (.bipush 40, 2) := by decide +kernel
theorem dX12_clauseHere_66 : decode cX12_clauseHere 66 = .ok (.goto 5, 3) := by decide +kernel
theorem dX12_clauseHere_95 : decode cX12_clauseHere 95 = .ok (.aload_n 0, 1) := by decide +kernel
theorem dX12_clauseHere_96 : decode cX12_clauseHere 96 = .ok (.iload_n 1, 1) := by decide +kernel
theorem dX12_clauseHere_97 : decode cX12_clauseHere 97 = .ok (.invokevirtual 247, 3) := by decide +kernel
theorem dX12_clauseHere_100 : decode cX12_clauseHere 100 = .ok (.goto 7, 3) := by decide +kernel
theorem dX12_isBookHere_0 : decode cX12_isBookHere 0 = .ok (.aload_n 0, 1) := by decide +kernel
theorem dX12_isBookHere_1 : decode cX12_isBookHere 1 = .ok (.getfield 26, 3) := by decide +kernel
theorem dX12_isBookHere_4 : decode cX12_isBookHere 4 = .ok (.iconst 0, 1) := by decide +kernel
theorem dX12_isBookHere_5 : decode cX12_isBookHere 5 = .ok (.iaload, 1) := by decide +kernel
theorem dX12_isBookHere_6 : decode cX12_isBookHere 6 = .ok (.ifCond .le 10, 3) := by decide +kernel
theorem dX12_isBookHere_9 : decode cX12_isBookHere 9 = .ok (.aload_n 0, 1) := by decide +kernel
theorem dX12_isBookHere_10 : decode cX12_isBookHere 10 = .ok (.iconst 4, 1) := by decide +kernel
theorem dX12_isBookHere_11 : decode cX12_isBookHere 11 = .ok (.iload_n 1, 1) := by decide +kernel
theorem dX12_isBookHere_12 : decode cX12_isBookHere 12 = .ok (.invokevirtual 108, 3) := by decide +kernel
theorem dX12_isBookHere_15 : decode cX12_isBookHere 15 = .ok (.ireturn, 1) := by decide +kernel
theorem dX12_isBookHere_16 : decode cX12_isBookHere 16 = .ok (.aload_n 0, 1) := by decide +kernel
theorem dX12_isBookHere_17 : decode cX12_isBookHere 17 = .ok (.invokevirtual 102, 3) := by decide +kernel
theorem dX12_isBookHere_20 : decode cX12_isBookHere 20 = .ok (.aload_n 0, 1) := by decide +kernel
theorem dX12_isBookHere_21 : decode cX12_isBookHere 21 = .ok (.bipush 94, 2) := by decide +kernel
theorem dX12_isBookHere_23 : decode cX12_isBookHere 23 = .ok (.iconst 0, 1) := by decide +kernel
theorem dX12_isBookHere_24 : decode cX12_isBookHere 24 = .ok (.bipush 99, 2) := by decide +kernel
theorem dX12_isBookHere_26 : decode cX12_isBookHere 26 = .ok (.invokevirtual 217, 3) := by decide +kernel
theorem dX12_isBookHere_29 : decode cX12_isBookHere 29 = .ok (.ifCond .eq 25, 3) := by decide +kernel
theorem dX12_isBookHere_32 : decode cX12_isBookHere 32 = .ok (.aload_n 0, 1) := by decide +kernel
theorem dX12_isBookHere_33 : decode cX12_isBookHere 33 = .ok (.iconst 1, 1) := by decide +kernel
theorem dX12_isBookHere_34 : decode cX12_isBookHere 34 = .ok (.iconst 0, 1) := by decide +kernel
theorem dX12_isBookHere_35 : decode cX12_isBookHere 35 = .ok (.bipush 9, 2) := by decide +kernel
theorem dX12_isBookHere_37 : decode cX12_isBookHere 37 = .ok (.invokevirtual 217, 3) := by decide +kernel
theorem dX12_isBookHere_40 : decode cX12_isBookHere 40 = .ok (.ifCond .eq 14, 3) := by decide +kernel
theorem dX12_isBookHere_43 : decode cX12_isBookHere 43 = .ok (.aload_n 0, 1) := by decide +kernel
theorem dX12_isBookHere_44 : decode cX12_isBookHere 44 = .ok (.iconst 2, 1) := by decide +kernel
theorem dX12_isBookHere_45 : decode cX12_isBookHere 45 = .ok (.iconst 1, 1) := by decide +kernel
theorem dX12_isBookHere_46 : decode cX12_isBookHere 46 = .ok (.bipush 10, 2) := by decide +kernel
theorem dX12_isBookHere_48 : decode cX12_isBookHere 48 = .ok (.invokevirtual 217, 3) := by decide +kernel
theorem dX12_isBookHere_51 : decode cX12_isBookHere 51 = .ok (.ifCond .ne 5, 3) := by decide +kernel
theorem dX12_isBookHere_54 : decode cX12_isBookHere 54 = .ok (.iconst 0, 1) := by decide +kernel
theorem dX12_isBookHere_55 : decode cX12_isBookHere 55 = .ok (.ireturn, 1) := by decide +kernel
theorem dX12_isBookHere_56 : decode cX12_isBookHere 56 = .ok (.aload_n 0, 1) := by decide +kernel
theorem dX12_isBookHere_57 : decode cX12_isBookHere 57 = .ok (.getfield 26, 3) := by decide +kernel
theorem dX12_isBookHere_60 : decode cX12_isBookHere 60 = .ok (.iconst 0, 1) := by decide +kernel
theorem dX12_isBookHere_61 : decode cX12_isBookHere 61 = .ok (.iconst 1, 1) := by decide +kernel
theorem dX12_isBookHere_62 : decode cX12_isBookHere 62 = .ok (.iastore, 1) := by decide +kernel
theorem dX12_isBookHere_63 : decode cX12_isBookHere 63 = .ok (.iconst 1, 1) := by decide +kernel
theorem dX12_isBookHere_64 : decode cX12_isBookHere 64 = .ok (.ireturn, 1) := by decide +kernel
theorem dX12_isBookWord_0 : decode cX12_isBookWord 0 = .ok (.aload_n 0, 1) := by decide +kernel
theorem dX12_isBookWord_1 : decode cX12_isBookWord 1 = .ok (.ldc2_w 221, 3) := by decide +kernel
theorem dX12_isBookWord_4 : decode cX12_isBookWord 4 = .ok (.invokevirtual 98, 3) := by decide +kernel
theorem dX12_isBookWord_7 : decode cX12_isBookWord 7 = .ok (.ifCond .ne 33, 3) := by decide +kernel
theorem dX12_isBookWord_10 : decode cX12_isBookWord 10 = .ok (.aload_n 0, 1) := by decide +kernel
theorem dX12_isBookWord_11 : decode cX12_isBookWord 11 = .ok (.ldc2_w 226, 3) := by decide +kernel
theorem dX12_isBookWord_14 : decode cX12_isBookWord 14 = .ok (.invokevirtual 98, 3) := by decide +kernel
theorem dX12_isBookWord_17 : decode cX12_isBookWord 17 = .ok (.ifCond .ne 23, 3) := by decide +kernel
theorem dX12_isBookWord_20 : decode cX12_isBookWord 20 = .ok (.aload_n 0, 1) := by decide +kernel
theorem dX12_isBookWord_21 : decode cX12_isBookWord 21 = .ok (.ldc2_w 119, 3) := by decide +kernel
theorem dX12_isBookWord_24 : decode cX12_isBookWord 24 = .ok (.invokevirtual 98, 3) := by decide +kernel
theorem dX12_isBookWord_27 : decode cX12_isBookWord 27 = .ok (.ifCond .ne 13, 3) := by decide +kernel
theorem dX12_isBookWord_30 : decode cX12_isBookWord 30 = .ok (.aload_n 0, 1) := by decide +kernel
theorem dX12_isBookWord_31 : decode cX12_isBookWord 31 = .ok (.ldc2_w 237, 3) := by decide +kernel
theorem dX12_isBookWord_34 : decode cX12_isBookWord 34 = .ok (.invokevirtual 98, 3) := by decide +kernel
theorem dX12_isBookWord_37 : decode cX12_isBookWord 37 = .ok (.ifCond .eq 7, 3) := by decide +kernel
theorem dX12_isBookWord_40 : decode cX12_isBookWord 40 = .ok (.iconst 1, 1) := by decide +kernel
theorem dX12_isBookWord_41 : decode cX12_isBookWord 41 = .ok (.goto 4, 3) := by decide +kernel
theorem dX12_isBookWord_44 : decode cX12_isBookWord 44 = .ok (.iconst 0, 1) := by decide +kernel
theorem dX12_isBookWord_45 : decode cX12_isBookWord 45 = .ok (.ireturn, 1) := by decide +kernel
theorem dX12_isBuyerHere_0 : decode cX12_isBuyerHere 0 = .ok (.aload_n 0, 1) := by decide +kernel
theorem dX12_isBuyerHere_1 : decode cX12_isBuyerHere 1 = .ok (.getfield 26, 3) := by decide +kernel
theorem dX12_isBuyerHere_4 : decode cX12_isBuyerHere 4 = .ok (.iconst 3, 1) := by decide +kernel
theorem dX12_isBuyerHere_5 : decode cX12_isBuyerHere 5 = .ok (.iaload, 1) := by decide +kernel
theorem dX12_isBuyerHere_6 : decode cX12_isBuyerHere 6 = .ok (.bipush 6, 2) := by decide +kernel
theorem dX12_isBuyerHere_8 : decode cX12_isBuyerHere 8 = .ok (.if_icmp .ne 10, 3) := by decide +kernel
theorem dX12_isBuyerHere_11 : decode cX12_isBuyerHere 11 = .ok (.aload_n 0, 1) := by decide +kernel
theorem dX12_isBuyerHere_12 : decode cX12_isBuyerHere 12 = .ok (.iconst 4, 1) := by decide +kernel
theorem dX12_isBuyerHere_13 : decode cX12_isBuyerHere 13 = .ok (.iload_n 1, 1) := by decide +kernel
theorem dX12_isBuyerHere_14 : decode cX12_isBuyerHere 14 = .ok (.invokevirtual 108, 3) := by decide +kernel
theorem dX12_isBuyerHere_17 : decode cX12_isBuyerHere 17 = .ok (.ireturn, 1) := by decide +kernel
theorem dX12_isBuyerHere_18 : decode cX12_isBuyerHere 18 = .ok (.aload_n 0, 1) := by decide +kernel
theorem dX12_isBuyerHere_19 : decode cX12_isBuyerHere 19 = .ok (.invokevirtual 102, 3) := by decide +kernel
theorem dX12_isBuyerHere_22 : decode cX12_isBuyerHere 22 = .ok (.aload_n 0, 1) := by decide +kernel
theorem dX12_isBuyerHere_23 : decode cX12_isBuyerHere 23 = .ok (.getfield 26, 3) := by decide +kernel
theorem dX12_isBuyerHere_26 : decode cX12_isBuyerHere 26 = .ok (.iconst 3, 1) := by decide +kernel
theorem dX12_isBuyerHere_27 : decode cX12_isBuyerHere 27 = .ok (.iaload, 1) := by decide +kernel
theorem dX12_isBuyerHere_28 : decode cX12_isBuyerHere 28 = .ok (.istore_n 2, 1) := by decide +kernel
theorem dX12_isBuyerHere_29 : decode cX12_isBuyerHere 29 = .ok (.aload_n 0, 1) := by decide +kernel
theorem dX12_isBuyerHere_30 : decode cX12_isBuyerHere 30 = .ok (.bipush 68, 2) := by decide +kernel
theorem dX12_isBuyerHere_32 : decode cX12_isBuyerHere 32 = .ok (.iload_n 2, 1) := by decide +kernel
theorem dX12_isBuyerHere_33 : decode cX12_isBuyerHere 33 = .ok (.iadd, 1) := by decide +kernel
theorem dX12_isBuyerHere_34 : decode cX12_isBuyerHere 34 = .ok (.iconst 0, 1) := by decide +kernel
theorem dX12_isBuyerHere_35 : decode cX12_isBuyerHere 35 = .ok (.bipush 20, 2) := by decide +kernel
theorem dX12_isBuyerHere_37 : decode cX12_isBuyerHere 37 = .ok (.invokevirtual 217, 3) := by decide +kernel
theorem dX12_isBuyerHere_40 : decode cX12_isBuyerHere 40 = .ok (.ifCond .eq 31, 3) := by decide +kernel
theorem dX12_isBuyerHere_43 : decode cX12_isBuyerHere 43 = .ok (.aload_n 0, 1) := by decide +kernel
theorem dX12_isBuyerHere_44 : decode cX12_isBuyerHere 44 = .ok (.bipush 56, 2) := by decide +kernel
theorem dX12_isBuyerHere_46 : decode cX12_isBuyerHere 46 = .ok (.iload_n 2, 1) := by decide +kernel
theorem dX12_isBuyerHere_47 : decode cX12_isBuyerHere 47 = .ok (.iadd, 1) := by decide +kernel
theorem dX12_isBuyerHere_48 : decode cX12_isBuyerHere 48 = .ok (.iconst 1, 1) := by decide +kernel
theorem dX12_isBuyerHere_49 : decode cX12_isBuyerHere 49 = .ok (.bipush 9, 2) := by decide +kernel
theorem dX12_isBuyerHere_51 : decode cX12_isBuyerHere 51 = .ok (.invokevirtual 217, 3) := by decide +kernel
theorem dX12_isBuyerHere_54 : decode cX12_isBuyerHere 54 = .ok (.ifCond .eq 17, 3) := by decide +kernel
theorem dX12_isBuyerHere_57 : decode cX12_isBuyerHere 57 = .ok (.aload_n 0, 1) := by decide +kernel
theorem dX12_isBuyerHere_58 : decode cX12_isBuyerHere 58 = .ok (.bipush 62, 2) := by decide +kernel
theorem dX12_isBuyerHere_60 : decode cX12_isBuyerHere 60 = .ok (.iload_n 2, 1) := by decide +kernel
theorem dX12_isBuyerHere_61 : decode cX12_isBuyerHere 61 = .ok (.iadd, 1) := by decide +kernel
theorem dX12_isBuyerHere_62 : decode cX12_isBuyerHere 62 = .ok (.iconst 0, 1) := by decide +kernel
theorem dX12_isBuyerHere_63 : decode cX12_isBuyerHere 63 = .ok (.bipush 9, 2) := by decide +kernel
theorem dX12_isBuyerHere_65 : decode cX12_isBuyerHere 65 = .ok (.invokevirtual 217, 3) := by decide +kernel
theorem dX12_isBuyerHere_68 : decode cX12_isBuyerHere 68 = .ok (.ifCond .ne 5, 3) := by decide +kernel
theorem dX12_isBuyerHere_71 : decode cX12_isBuyerHere 71 = .ok (.iconst 0, 1) := by decide +kernel
theorem dX12_isBuyerHere_72 : decode cX12_isBuyerHere 72 = .ok (.ireturn, 1) := by decide +kernel
theorem dX12_isBuyerHere_73 : decode cX12_isBuyerHere 73 = .ok (.aload_n 0, 1) := by decide +kernel
theorem dX12_isBuyerHere_74 : decode cX12_isBuyerHere 74 = .ok (.getfield 26, 3) := by decide +kernel
theorem dX12_isBuyerHere_77 : decode cX12_isBuyerHere 77 = .ok (.iconst 3, 1) := by decide +kernel
theorem dX12_isBuyerHere_78 : decode cX12_isBuyerHere 78 = .ok (.dup2, 1) := by decide +kernel
theorem dX12_isBuyerHere_79 : decode cX12_isBuyerHere 79 = .ok (.iaload, 1) := by decide +kernel
theorem dX12_isBuyerHere_80 : decode cX12_isBuyerHere 80 = .ok (.iconst 1, 1) := by decide +kernel
theorem dX12_isBuyerHere_81 : decode cX12_isBuyerHere 81 = .ok (.iadd, 1) := by decide +kernel
theorem dX12_isBuyerHere_82 : decode cX12_isBuyerHere 82 = .ok (.iastore, 1) := by decide +kernel
theorem dX12_isBuyerHere_83 : decode cX12_isBuyerHere 83 = .ok (.iconst 1, 1) := by decide +kernel
theorem dX12_isBuyerHere_84 : decode cX12_isBuyerHere 84 = .ok (.ireturn, 1) := by decide +kernel
theorem dX12_isSkyHere_0 : decode cX12_isSkyHere 0 = .ok (.aload_n 0, 1) := by decide +kernel
theorem dX12_isSkyHere_1 : decode cX12_isSkyHere 1 = .ok (.invokevirtual 102, 3) := by decide +kernel
theorem dX12_isSkyHere_4 : decode cX12_isSkyHere 4 = .ok (.aload_n 0, 1) := by decide +kernel
theorem dX12_isSkyHere_5 : decode cX12_isSkyHere 5 = .ok (.iconst 0, 1) := by decide +kernel
theorem dX12_isSkyHere_6 : decode cX12_isSkyHere 6 = .ok (.aload_n 0, 1) := by decide +kernel
theorem dX12_isSkyHere_7 : decode cX12_isSkyHere 7 = .ok (.getfield 26, 3) := by decide +kernel
theorem dX12_isSkyHere_10 : decode cX12_isSkyHere 10 = .ok (.iconst 2, 1) := by decide +kernel
theorem dX12_isSkyHere_11 : decode cX12_isSkyHere 11 = .ok (.iaload, 1) := by decide +kernel
theorem dX12_isSkyHere_12 : decode cX12_isSkyHere 12 = .ok (.iconst 1, 1) := by decide +kernel
theorem dX12_isSkyHere_13 : decode cX12_isSkyHere 13 = .ok (.isub, 1) := by decide +kernel
theorem dX12_isSkyHere_14 : decode cX12_isSkyHere 14 = .ok (.invokevirtual 166, 3) := by decide +kernel
theorem dX12_isSkyHere_17 : decode cX12_isSkyHere 17 = .ok (.ifCond .ne 5, 3) := by decide +kernel
theorem dX12_isSkyHere_20 : decode cX12_isSkyHere 20 = .ok (.iconst 0, 1) := by decide +kernel
theorem dX12_isSkyHere_21 : decode cX12_isSkyHere 21 = .ok (.ireturn, 1) := by decide +kernel
theorem dX12_isSkyHere_22 : decode cX12_isSkyHere 22 = .ok (.aload_n 0, 1) := by decide +kernel
theorem dX12_isSkyHere_23 : decode cX12_isSkyHere 23 = .ok (.bipush 74, 2) := by decide +kernel
theorem dX12_isSkyHere_25 : decode cX12_isSkyHere 25 = .ok (.aload_n 0, 1) := by decide +kernel
theorem dX12_isSkyHere_26 : decode cX12_isSkyHere 26 = .ok (.getfield 112, 3) := by decide +kernel
theorem dX12_isSkyHere_29 : decode cX12_isSkyHere 29 = .ok (.iadd, 1) := by decide +kernel
theorem dX12_isSkyHere_30 : decode cX12_isSkyHere 30 = .ok (.iconst 0, 1) := by decide +kernel
theorem dX12_isSkyHere_31 : decode cX12_isSkyHere 31 = .ok (.bipush 9, 2) := by decide +kernel
theorem dX12_isSkyHere_33 : decode cX12_isSkyHere 33 = .ok (.invokevirtual 217, 3) := by decide +kernel
theorem dX12_isSkyHere_36 : decode cX12_isSkyHere 36 = .ok (.ireturn, 1) := by decide +kernel
theorem dX12_isWatchHere_0 : decode cX12_isWatchHere 0 = .ok (.aload_n 0, 1) := by decide +kernel
theorem dX12_isWatchHere_1 : decode cX12_isWatchHere 1 = .ok (.invokevirtual 102, 3) := by decide +kernel
theorem dX12_isWatchHere_4 : decode cX12_isWatchHere 4 = .ok (.aload_n 0, 1) := by decide +kernel
theorem dX12_isWatchHere_5 : decode cX12_isWatchHere 5 = .ok (.iconst 0, 1) := by decide +kernel
theorem dX12_isWatchHere_6 : decode cX12_isWatchHere 6 = .ok (.aload_n 0, 1) := by decide +kernel
theorem dX12_isWatchHere_7 : decode cX12_isWatchHere 7 = .ok (.getfield 26, 3) := by decide +kernel
theorem dX12_isWatchHere_10 : decode cX12_isWatchHere 10 = .ok (.iconst 2, 1) := by decide +kernel
theorem dX12_isWatchHere_11 : decode cX12_isWatchHere 11 = .ok (.iaload, 1) := by decide +kernel
theorem dX12_isWatchHere_12 : decode cX12_isWatchHere 12 = .ok (.iconst 1, 1) := by decide +kernel
theorem dX12_isWatchHere_13 : decode cX12_isWatchHere 13 = .ok (.isub, 1) := by decide +kernel
theorem dX12_isWatchHere_14 : decode cX12_isWatchHere 14 = .ok (.invokevirtual 166, 3) := by decide +kernel
theorem dX12_isWatchHere_17 : decode cX12_isWatchHere 17 = .ok (.ifCond .ne 5, 3) := by decide +kernel
theorem dX12_isWatchHere_20 : decode cX12_isWatchHere 20 = .ok (.iconst 0, 1) := by decide +kernel
theorem dX12_isWatchHere_21 : decode cX12_isWatchHere 21 = .ok (.ireturn, 1) := by decide +kernel
theorem dX12_isWatchHere_22 : decode cX12_isWatchHere 22 = .ok (.aload_n 0, 1) := by decide +kernel
theorem dX12_isWatchHere_23 : decode cX12_isWatchHere 23 = .ok (.getfield 112, 3) := by decide +kernel
theorem dX12_isWatchHere_26 : decode cX12_isWatchHere 26 = .ok (.istore_n 1, 1) := by decide +kernel
theorem dX12_isWatchHere_27 : decode cX12_isWatchHere 27 = .ok (.aload_n 0, 1) := by decide +kernel
theorem dX12_isWatchHere_28 : decode cX12_isWatchHere 28 = .ok (.iconst 0, 1) := by decide +kernel
theorem dX12_isWatchHere_29 : decode cX12_isWatchHere 29 = .ok (.aload_n 0, 1) := by decide +kernel
theorem dX12_isWatchHere_30 : decode cX12_isWatchHere 30 = .ok (.getfield 26, 3) := by decide +kernel
theorem dX12_isWatchHere_33 : decode cX12_isWatchHere 33 = .ok (.iconst 3, 1) := by decide +kernel
theorem dX12_isWatchHere_34 : decode cX12_isWatchHere 34 = .ok (.iaload, 1) := by decide +kernel
theorem dX12_isWatchHere_35 : decode cX12_isWatchHere 35 = .ok (.iconst 1, 1) := by decide +kernel
theorem dX12_isWatchHere_36 : decode cX12_isWatchHere 36 = .ok (.isub, 1) := by decide +kernel
theorem dX12_isWatchHere_37 : decode cX12_isWatchHere 37 = .ok (.invokevirtual 166, 3) := by decide +kernel
theorem dX12_isWatchHere_40 : decode cX12_isWatchHere 40 = .ok (.ifCond .ne 5, 3) := by decide +kernel
theorem dX12_isWatchHere_43 : decode cX12_isWatchHere 43 = .ok (.iconst 0, 1) := by decide +kernel
theorem dX12_isWatchHere_44 : decode cX12_isWatchHere 44 = .ok (.ireturn, 1) := by decide +kernel
theorem dX12_isWatchHere_45 : decode cX12_isWatchHere 45 = .ok (.aload_n 0, 1) := by decide +kernel
theorem dX12_isWatchHere_46 : decode cX12_isWatchHere 46 = .ok (.getfield 26, 3) := by decide +kernel
theorem dX12_isWatchHere_49 : decode cX12_isWatchHere 49 = .ok (.bipush 84, 2) := by decide +kernel
theorem dX12_isWatchHere_51 : decode cX12_isWatchHere 51 = .ok (.iload_n 1, 1) := by decide +kernel
theorem dX12_isWatchHere_52 : decode cX12_isWatchHere 52 = .ok (.iadd, 1) := by decide +kernel
theorem dX12_isWatchHere_53 : decode cX12_isWatchHere 53 = .ok (.dup2, 1) := by decide +kernel
theorem dX12_isWatchHere_54 : decode cX12_isWatchHere 54 = .ok (.iaload, 1) := by decide +kernel
theorem dX12_isWatchHere_55 : decode cX12_isWatchHere 55 = .ok (.iconst 1, 1) := by decide +kernel
theorem dX12_isWatchHere_56 : decode cX12_isWatchHere 56 = .ok (.aload_n 0, 1) := by decide +kernel
theorem dX12_isWatchHere_57 : decode cX12_isWatchHere 57 = .ok (.getfield 112, 3) := by decide +kernel
theorem dX12_isWatchHere_60 : decode cX12_isWatchHere 60 = .ok (.ishl, 1) := by decide +kernel
theorem dX12_isWatchHere_61 : decode cX12_isWatchHere 61 = .ok (.ior, 1) := by decide +kernel
theorem dX12_isWatchHere_62 : decode cX12_isWatchHere 62 = .ok (.iastore, 1) := by decide +kernel
theorem dX12_isWatchHere_63 : decode cX12_isWatchHere 63 = .ok (.iconst 1, 1) := by decide +kernel
theorem dX12_isWatchHere_64 : decode cX12_isWatchHere 64 = .ok (.ireturn, 1) := by decide +kernel
set_option maxHeartbeats 4000000 in
set_option maxRecDepth 100000 in
theorem ct_X12_cellHere (l : Launch) (D : va_G) (tc : Nat → ClassId) (sk : (Nat → Nat) × (Nat → Nat)) (Ma : Nat → Nat) (Mv : Nat → Int32) (Mf : Nat → Nat → Int32) (Mj : Nat → Int64) (x1 : Int32) (x2 : Int32) (x3 : Int32) (h_nx : 0 ≤ ((Mv 2) : Int32).toInt ∧ ((Mv 2) : Int32).toInt ≤ ((Mv 0) : Int32).toInt ∧ ((Mv 0) : Int32).toInt ≤ 400) (h_c : 0 ≤ x1.toInt ∧ x1.toInt < 95) : Ct l yX12_cellHere cX12_cellHere 4 (some .boolean) { frames := 2, cells := 0, slots := 0, locals := 49 } D tc sk [.ref (Ma 0), .int x1, .int x2, .int x3] [((Ma 0), .inr (12, [.ref (Ma 1), .int (Mv 0), .int (Mv 1), .ref (Ma 2), .ref (Ma 3), .ref (Ma 4), .ref (Ma 5), .ref (Ma 6), .int (Mv 2), .int (Mv 3), .int (Mv 4), .int (Mv 5), .int (Mv 6), .int (Mv 7), .int (Mv 8), .ref (Ma 7), .int (Mv 9), .ref (Ma 8), .int (Mv 10), .ref (Ma 9), .ref (Ma 10), .int (Mv 11), .int (Mv 12), .int (Mv 13), .ref (Ma 11), .int (Mv 14), .ref (Ma 12), .ref (Ma 13), .ref (Ma 14), .ref (Ma 15), .ref (Ma 16), .long (Mj 0), .ref (Ma 17), .ref (Ma 18), .ref (Ma 19), .ref (Ma 20)])), ((Ma 1), .inl (tc 2, 400, .inl (Mf 1))), ((Ma 6), .inl (tc 0, 95, .inl (Mf 6)))] (fun (v : Option Value) (u : (Int32) × (Int32) × (Int32) × (Nat → Int32)) => match u with | (oo0x1, oo0x2, oo0x3, oo0x4) => ∃ r : Int32, v = some (.int r) ∧ (((r.toInt = 0 ∧ ¬ (oo0x2 : Int32).toInt = 0) ∨ (r.toInt = 1 ∧ x2.toInt ≤ (oo0x4 x1.toNatClampNeg).toInt ∧ (oo0x4 x1.toNatClampNeg).toInt ≤ x3.toInt))) ∧ (((Mv 2) : Int32).toInt ≤ (oo0x1 : Int32).toInt ∧ (oo0x1 : Int32).toInt ≤ ((Mv 0) : Int32).toInt) ∧ (RdC (Mf 6) oo0x4 x1)) (fun (u : (Int32) × (Int32) × (Int32) × (Nat → Int32)) => match u with | (oo0x1, oo0x2, oo0x3, oo0x4) => [((Ma 0), .inr (12, [.ref (Ma 1), .int (Mv 0), .int (Mv 1), .ref (Ma 2), .ref (Ma 3), .ref (Ma 4), .ref (Ma 5), .ref (Ma 6), .int oo0x1, .int oo0x2, .int oo0x3, .int (Mv 5), .int (Mv 6), .int (Mv 7), .int (Mv 8), .ref (Ma 7), .int (Mv 9), .ref (Ma 8), .int (Mv 10), .ref (Ma 9), .ref (Ma 10), .int (Mv 11), .int (Mv 12), .int (Mv 13), .ref (Ma 11), .int (Mv 14), .ref (Ma 12), .ref (Ma 13), .ref (Ma 14), .ref (Ma 15), .ref (Ma 16), .long (Mj 0), .ref (Ma 17), .ref (Ma 18), .ref (Ma 19), .ref (Ma 20)])), ((Ma 1), .inl (tc 2, 400, .inl (Mf 1))), ((Ma 6), .inl (tc 0, 95, .inl oo0x4))]) 0 0 := by
  refine Ct.start (by decide) (Nat.le_of_ble_eq_true rfl) (fun p e s m below meth c A ls hx hb hr hlk hin hml hown hts hK hX hP hD hA hl hS => ?_)
  have hl : lv_has ls 4 [(0, .ref (Ma 0)), (1, .int x1), (2, .int x2), (3, .int x3)] := hl
  refine lv_aload_n hx hb dX12_cellHere_0 rfl (lv_at hl 0 rfl) ?_
  refine lv_iload_n hx hb dX12_cellHere_1 rfl (lv_at hl 2 rfl) ?_
  refine lv_iload_n hx hb dX12_cellHere_2 rfl (lv_at hl 3 rfl) ?_
  refine cV (a := (Ma 0)) (As := [.int x2, .int x3]) (rest := []) (wr := [((Ma 6), .inl (tc 0, 95, .inl (Mf 6)))]) ⟨hx, hb, hml, hown, hts⟩ hK hX hA (cu_X12_numberHere l D tc sk (Ma 0) (Ma 1) (Ma 2) (Ma 3) (Ma 4) (Ma 5) (Ma 6) (Ma 7) (Ma 8) (Ma 9) (Ma 10) (Ma 11) (Ma 12) (Ma 13) (Ma 14) (Ma 15) (Ma 16) (Ma 17) (Ma 18) (Ma 19) (Ma 20) (Mv 0) (Mv 1) (Mv 2) (Mv 3) (Mv 4) (Mv 5) (Mv 6) (Mv 7) (Mv 8) (Mv 9) (Mv 10) (Mv 11) (Mv 12) (Mv 13) (Mv 14) (Mf 1) (Mj 0) x2 x3 h_nx) k_1252 k_1249 k_1251 k_36 k_106 pl_X12_numberHere ⟨Nat.le_of_ble_eq_true rfl, Nat.le_of_ble_eq_true rfl⟩ rfl rfl (va_recv hK hP (ci := 12) (q0 := 0) rfl rfl) hP hD hS [0, 1] [2] rfl rfl rfl rfl rfl (by decide) rfl hl.1 rfl (Nat.le_of_ble_eq_true rfl) dX12_cellHere_3 ⟨Nat.le_of_ble_eq_true rfl, Nat.le_of_ble_eq_true rfl⟩ (fun v_1 u_2 H locs hv_3 hP₀ hD₀ hS₀ => ?_)
  obtain ⟨sv_4, sv_5, sv_6⟩ := u_2
  obtain ⟨r_8, rfl, he_9, pf_7⟩ := hv_3
  have he_9 : ((r_8.toInt = 0 ∧ ¬ (sv_5 : Int32).toInt = 0) ∨ (r_8.toInt = 1 ∧ x2.toInt ≤ (sv_6 : Int32).toInt ∧ (sv_6 : Int32).toInt ≤ x3.toInt ∧ (Mv 2).toInt + 1 ≤ (sv_4 : Int32).toInt)) := he_9
  have pf_7 : ((Mv 2) : Int32).toInt ≤ (sv_4 : Int32).toInt ∧ (sv_4 : Int32).toInt ≤ ((Mv 0) : Int32).toInt := pf_7
  refine W.eq (g2 := F0 m 6 ls [.int r_8]) rfl ?_
  replace hP : va_P D classes [((Ma 6), .inl (tc 0, 95, .inl (Mf 6))), ((Ma 0), .inr (12, [.ref (Ma 1), .int (Mv 0), .int (Mv 1), .ref (Ma 2), .ref (Ma 3), .ref (Ma 4), .ref (Ma 5), .ref (Ma 6), .int sv_4, .int sv_5, .int sv_6, .int (Mv 5), .int (Mv 6), .int (Mv 7), .int (Mv 8), .ref (Ma 7), .int (Mv 9), .ref (Ma 8), .int (Mv 10), .ref (Ma 9), .ref (Ma 10), .int (Mv 11), .int (Mv 12), .int (Mv 13), .ref (Ma 11), .int (Mv 14), .ref (Ma 12), .ref (Ma 13), .ref (Ma 14), .ref (Ma 15), .ref (Ma 16), .long (Mj 0), .ref (Ma 17), .ref (Ma 18), .ref (Ma 19), .ref (Ma 20)])), ((Ma 1), .inl (tc 2, 400, .inl (Mf 1)))] H := hP₀
  replace hD : va_D A [((Ma 6), .inl (tc 0, 95, .inl (Mf 6))), ((Ma 0), .inr (12, [.ref (Ma 1), .int (Mv 0), .int (Mv 1), .ref (Ma 2), .ref (Ma 3), .ref (Ma 4), .ref (Ma 5), .ref (Ma 6), .int sv_4, .int sv_5, .int sv_6, .int (Mv 5), .int (Mv 6), .int (Mv 7), .int (Mv 8), .ref (Ma 7), .int (Mv 9), .ref (Ma 8), .int (Mv 10), .ref (Ma 9), .ref (Ma 10), .int (Mv 11), .int (Mv 12), .int (Mv 13), .ref (Ma 11), .int (Mv 14), .ref (Ma 12), .ref (Ma 13), .ref (Ma 14), .ref (Ma 15), .ref (Ma 16), .long (Mj 0), .ref (Ma 17), .ref (Ma 18), .ref (Ma 19), .ref (Ma 20)])), ((Ma 1), .inl (tc 2, 400, .inl (Mf 1)))] := hD₀
  replace hS := hS₀
  clear hP₀ hD₀ hS₀
  refine lv_if_ne (tgt := 11) hx hb dX12_cellHere_6 (by decide) (fun c_11 => ?_) (fun c_11 => ?_)
  · skip
    refine lv_aload_n hx hb dX12_cellHere_11 rfl (lv_at hl 0 rfl) ?_
    refine gf_X12_26 hx hb hts hown hK hP 1 rfl rfl dX12_cellHere_12 ?_
    refine lv_iload_n hx hb dX12_cellHere_15 rfl (lv_at hl 1 rfl) ?_
    refine lv_aload_n hx hb dX12_cellHere_16 rfl (lv_at hl 0 rfl) ?_
    refine gf_X12_112 hx hb hts hown hK hP 1 rfl rfl dX12_cellHere_17 ?_
    have hi_12 : vp_in x1 95 := by
      have z_1 : ¬ (r_8 : Int32).toInt = (0 : Int32).toInt := fun z => c_11 (Int32.toInt_inj.mp z)
      have y_0 : (0 : Int32).toInt = 0 := by decide
      refine vp_in_iff.mpr ⟨?_, ?_⟩ <;> omega
    refine st_int hx hb hK hP hD hS 0 0 rfl rfl hi_12 dX12_cellHere_20 (fun g_13 H locs eg_13 hP₀ hD₀ hS₀ => ?_)
    replace hP : va_P D classes [((Ma 6), .inl (tc 0, 95, .inl g_13)), ((Ma 0), .inr (12, [.ref (Ma 1), .int (Mv 0), .int (Mv 1), .ref (Ma 2), .ref (Ma 3), .ref (Ma 4), .ref (Ma 5), .ref (Ma 6), .int sv_4, .int sv_5, .int sv_6, .int (Mv 5), .int (Mv 6), .int (Mv 7), .int (Mv 8), .ref (Ma 7), .int (Mv 9), .ref (Ma 8), .int (Mv 10), .ref (Ma 9), .ref (Ma 10), .int (Mv 11), .int (Mv 12), .int (Mv 13), .ref (Ma 11), .int (Mv 14), .ref (Ma 12), .ref (Ma 13), .ref (Ma 14), .ref (Ma 15), .ref (Ma 16), .long (Mj 0), .ref (Ma 17), .ref (Ma 18), .ref (Ma 19), .ref (Ma 20)])), ((Ma 1), .inl (tc 2, 400, .inl (Mf 1)))] H := hP₀
    replace hD : va_D A [((Ma 6), .inl (tc 0, 95, .inl g_13)), ((Ma 0), .inr (12, [.ref (Ma 1), .int (Mv 0), .int (Mv 1), .ref (Ma 2), .ref (Ma 3), .ref (Ma 4), .ref (Ma 5), .ref (Ma 6), .int sv_4, .int sv_5, .int sv_6, .int (Mv 5), .int (Mv 6), .int (Mv 7), .int (Mv 8), .ref (Ma 7), .int (Mv 9), .ref (Ma 8), .int (Mv 10), .ref (Ma 9), .ref (Ma 10), .int (Mv 11), .int (Mv 12), .int (Mv 13), .ref (Ma 11), .int (Mv 14), .ref (Ma 12), .ref (Ma 13), .ref (Ma 14), .ref (Ma 15), .ref (Ma 16), .long (Mj 0), .ref (Ma 17), .ref (Ma 18), .ref (Ma 19), .ref (Ma 20)])), ((Ma 1), .inl (tc 2, 400, .inl (Mf 1)))] := hD₀
    replace hS := hS₀
    clear hP₀ hD₀ hS₀
    have pf_14 : RdC (Mf 6) g_13 x1 := RdC.up eg_13
    have ku_g_13 : (g_13 x1.toNatClampNeg).toInt = (sv_6 : Int32).toInt := upd_toInt_at eg_13
    refine lv_iconst (v := 1) hx hb dX12_cellHere_21 (by decide) ?_
    have hp_15 : (((1 : Int32).toInt = 0 ∧ ¬ (sv_5 : Int32).toInt = 0) ∨ ((1 : Int32).toInt = 1 ∧ x2.toInt ≤ (g_13 x1.toNatClampNeg).toInt ∧ (g_13 x1.toNatClampNeg).toInt ≤ x3.toInt)) := by
      have z_1 : ¬ (r_8 : Int32).toInt = (0 : Int32).toInt := fun z => c_11 (Int32.toInt_inj.mp z)
      have y_0 : (0 : Int32).toInt = 0 := by decide
      have y_1 : (1 : Int32).toInt = 1 := by decide
      have yr : (1 : Int32).toInt = 1 := by decide
      omega
    exact retI (v := 1) hx hb hr hlk (rfl) hP hD hS (sv_4, sv_5, sv_6, g_13) ⟨_, rfl, hp_15, pf_7, pf_14⟩ [1, 2, 0] rfl rfl dX12_cellHere_22 (Nat.le_of_ble_eq_true rfl) (Nat.le_of_ble_eq_true rfl) rfl
  · skip
    refine lv_iconst (v := 0) hx hb dX12_cellHere_9 (by decide) ?_
    have hp_16 : (((0 : Int32).toInt = 0 ∧ ¬ (sv_5 : Int32).toInt = 0) ∨ ((0 : Int32).toInt = 1 ∧ x2.toInt ≤ ((Mf 6) x1.toNatClampNeg).toInt ∧ ((Mf 6) x1.toNatClampNeg).toInt ≤ x3.toInt)) := by
      have z_1 := congrArg Int32.toInt c_11
      have y_0 : (0 : Int32).toInt = 0 := by decide
      omega
    exact retI (v := 0) hx hb hr hlk (rfl) hP hD hS (sv_4, sv_5, sv_6, (Mf 6)) ⟨_, rfl, hp_16, pf_7, (RdC.rf)⟩ [1, 2, 0] rfl rfl dX12_cellHere_10 (Nat.le_of_ble_eq_true rfl) (Nat.le_of_ble_eq_true rfl) rfl
set_option maxRecDepth 100000 in
theorem cu_X12_cellHere (l : Launch) (D : va_G) (tc : Nat → ClassId) (sk : (Nat → Nat) × (Nat → Nat)) (Ma_0 : Nat) (Ma_1 : Nat) (Ma_2 : Nat) (Ma_3 : Nat) (Ma_4 : Nat) (Ma_5 : Nat) (Ma_6 : Nat) (Ma_7 : Nat) (Ma_8 : Nat) (Ma_9 : Nat) (Ma_10 : Nat) (Ma_11 : Nat) (Ma_12 : Nat) (Ma_13 : Nat) (Ma_14 : Nat) (Ma_15 : Nat) (Ma_16 : Nat) (Ma_17 : Nat) (Ma_18 : Nat) (Ma_19 : Nat) (Ma_20 : Nat) (Mv_0 : Int32) (Mv_1 : Int32) (Mv_2 : Int32) (Mv_3 : Int32) (Mv_4 : Int32) (Mv_5 : Int32) (Mv_6 : Int32) (Mv_7 : Int32) (Mv_8 : Int32) (Mv_9 : Int32) (Mv_10 : Int32) (Mv_11 : Int32) (Mv_12 : Int32) (Mv_13 : Int32) (Mv_14 : Int32) (Mf_1 : Nat → Int32) (Mf_6 : Nat → Int32) (Mj_0 : Int64) (x1 : Int32) (x2 : Int32) (x3 : Int32) (h_nx : 0 ≤ (Mv_2 : Int32).toInt ∧ (Mv_2 : Int32).toInt ≤ (Mv_0 : Int32).toInt ∧ (Mv_0 : Int32).toInt ≤ 400) (h_c : 0 ≤ x1.toInt ∧ x1.toInt < 95) : Ct l yX12_cellHere cX12_cellHere 4 (some .boolean) { frames := 2, cells := 0, slots := 0, locals := 49 } D tc sk [.ref Ma_0, .int x1, .int x2, .int x3] [(Ma_0, .inr (12, [.ref Ma_1, .int Mv_0, .int Mv_1, .ref Ma_2, .ref Ma_3, .ref Ma_4, .ref Ma_5, .ref Ma_6, .int Mv_2, .int Mv_3, .int Mv_4, .int Mv_5, .int Mv_6, .int Mv_7, .int Mv_8, .ref Ma_7, .int Mv_9, .ref Ma_8, .int Mv_10, .ref Ma_9, .ref Ma_10, .int Mv_11, .int Mv_12, .int Mv_13, .ref Ma_11, .int Mv_14, .ref Ma_12, .ref Ma_13, .ref Ma_14, .ref Ma_15, .ref Ma_16, .long Mj_0, .ref Ma_17, .ref Ma_18, .ref Ma_19, .ref Ma_20])), (Ma_1, .inl (tc 2, 400, .inl Mf_1)), (Ma_6, .inl (tc 0, 95, .inl Mf_6))] (fun (v : Option Value) (u : (Int32) × (Int32) × (Int32) × (Nat → Int32)) => match u with | (oo0x1, oo0x2, oo0x3, oo0x4) => ∃ r : Int32, v = some (.int r) ∧ (((r.toInt = 0 ∧ ¬ (oo0x2 : Int32).toInt = 0) ∨ (r.toInt = 1 ∧ x2.toInt ≤ (oo0x4 x1.toNatClampNeg).toInt ∧ (oo0x4 x1.toNatClampNeg).toInt ≤ x3.toInt))) ∧ ((Mv_2 : Int32).toInt ≤ (oo0x1 : Int32).toInt ∧ (oo0x1 : Int32).toInt ≤ (Mv_0 : Int32).toInt) ∧ (RdC Mf_6 oo0x4 x1)) (fun (u : (Int32) × (Int32) × (Int32) × (Nat → Int32)) => match u with | (oo0x1, oo0x2, oo0x3, oo0x4) => [(Ma_0, .inr (12, [.ref Ma_1, .int Mv_0, .int Mv_1, .ref Ma_2, .ref Ma_3, .ref Ma_4, .ref Ma_5, .ref Ma_6, .int oo0x1, .int oo0x2, .int oo0x3, .int Mv_5, .int Mv_6, .int Mv_7, .int Mv_8, .ref Ma_7, .int Mv_9, .ref Ma_8, .int Mv_10, .ref Ma_9, .ref Ma_10, .int Mv_11, .int Mv_12, .int Mv_13, .ref Ma_11, .int Mv_14, .ref Ma_12, .ref Ma_13, .ref Ma_14, .ref Ma_15, .ref Ma_16, .long Mj_0, .ref Ma_17, .ref Ma_18, .ref Ma_19, .ref Ma_20])), (Ma_1, .inl (tc 2, 400, .inl Mf_1)), (Ma_6, .inl (tc 0, 95, .inl oo0x4))]) 0 0 :=
  ct_X12_cellHere l D tc sk (fun k => ([Ma_0, Ma_1, Ma_2, Ma_3, Ma_4, Ma_5, Ma_6, Ma_7, Ma_8, Ma_9, Ma_10, Ma_11, Ma_12, Ma_13, Ma_14, Ma_15, Ma_16, Ma_17, Ma_18, Ma_19, Ma_20] : List (Nat)).getD k 0) (fun k => ([Mv_0, Mv_1, Mv_2, Mv_3, Mv_4, Mv_5, Mv_6, Mv_7, Mv_8, Mv_9, Mv_10, Mv_11, Mv_12, Mv_13, Mv_14] : List (Int32)).getD k 0) (fun k => ([(fun _ => 0), Mf_1, (fun _ => 0), (fun _ => 0), (fun _ => 0), (fun _ => 0), Mf_6] : List (Nat → Int32)).getD k (fun _ => 0)) (fun k => ([Mj_0] : List (Int64)).getD k 0) x1 x2 x3 h_nx h_c
set_option maxHeartbeats 4000000 in
set_option maxRecDepth 100000 in
theorem ct_X12_isBookHere (l : Launch) (D : va_G) (tc : Nat → ClassId) (sk : (Nat → Nat) × (Nat → Nat)) (Ma : Nat → Nat) (Mv : Nat → Int32) (Mf : Nat → Nat → Int32) (Mj : Nat → Int64) (x1 : Int32) (h_nx : 0 ≤ ((Mv 2) : Int32).toInt ∧ ((Mv 2) : Int32).toInt ≤ ((Mv 0) : Int32).toInt ∧ ((Mv 0) : Int32).toInt ≤ 400) (h_at : 0 ≤ x1.toInt ∧ x1.toInt ≤ 400) (h_ro : RdO (Mf 6)) : Ct l yX12_isBookHere cX12_isBookHere 2 (some .boolean) { frames := 3, cells := 0, slots := 0, locals := 72 } D tc sk [.ref (Ma 0), .int x1] [((Ma 0), .inr (12, [.ref (Ma 1), .int (Mv 0), .int (Mv 1), .ref (Ma 2), .ref (Ma 3), .ref (Ma 4), .ref (Ma 5), .ref (Ma 6), .int (Mv 2), .int (Mv 3), .int (Mv 4), .int (Mv 5), .int (Mv 6), .int (Mv 7), .int (Mv 8), .ref (Ma 7), .int (Mv 9), .ref (Ma 8), .int (Mv 10), .ref (Ma 9), .ref (Ma 10), .int (Mv 11), .int (Mv 12), .int (Mv 13), .ref (Ma 11), .int (Mv 14), .ref (Ma 12), .ref (Ma 13), .ref (Ma 14), .ref (Ma 15), .ref (Ma 16), .long (Mj 0), .ref (Ma 17), .ref (Ma 18), .ref (Ma 19), .ref (Ma 20)])), ((Ma 1), .inl (tc 2, 400, .inl (Mf 1))), ((Ma 6), .inl (tc 0, 95, .inl (Mf 6)))] (fun (v : Option Value) (u : (Int32) × (Int32) × (Int32) × (Nat → Int32)) => match u with | (oo0x1, oo0x2, oo0x3, oo0x4) => ∃ r : Int32, v = some (.int r) ∧ (((r.toInt = 0 ∧ ¬ (oo0x2 : Int32).toInt = 0) ∨ r.toInt = 1)) ∧ (((Mv 2) : Int32).toInt ≤ (oo0x1 : Int32).toInt ∧ (oo0x1 : Int32).toInt ≤ ((Mv 0) : Int32).toInt) ∧ (r.toInt = 1 → (RdO oo0x4))) (fun (u : (Int32) × (Int32) × (Int32) × (Nat → Int32)) => match u with | (oo0x1, oo0x2, oo0x3, oo0x4) => [((Ma 0), .inr (12, [.ref (Ma 1), .int (Mv 0), .int (Mv 1), .ref (Ma 2), .ref (Ma 3), .ref (Ma 4), .ref (Ma 5), .ref (Ma 6), .int oo0x1, .int oo0x2, .int oo0x3, .int (Mv 5), .int (Mv 6), .int (Mv 7), .int (Mv 8), .ref (Ma 7), .int (Mv 9), .ref (Ma 8), .int (Mv 10), .ref (Ma 9), .ref (Ma 10), .int (Mv 11), .int (Mv 12), .int (Mv 13), .ref (Ma 11), .int (Mv 14), .ref (Ma 12), .ref (Ma 13), .ref (Ma 14), .ref (Ma 15), .ref (Ma 16), .long (Mj 0), .ref (Ma 17), .ref (Ma 18), .ref (Ma 19), .ref (Ma 20)])), ((Ma 1), .inl (tc 2, 400, .inl (Mf 1))), ((Ma 6), .inl (tc 0, 95, .inl oo0x4))]) 0 0 := by
  refine Ct.start (by decide) (Nat.le_of_ble_eq_true rfl) (fun p e s m below meth c A ls hx hb hr hlk hin hml hown hts hK hX hP hD hA hl hS => ?_)
  have hl : lv_has ls 2 [(0, .ref (Ma 0)), (1, .int x1)] := hl
  have ar_h_ro := RdO.ar h_ro
  refine lv_aload_n hx hb dX12_isBookHere_0 rfl (lv_at hl 0 rfl) ?_
  refine gf_X12_26 hx hb hts hown hK hP 0 rfl rfl dX12_isBookHere_1 ?_
  refine lv_iconst (v := 0) hx hb dX12_isBookHere_4 (by decide) ?_
  refine va_iald hx hb hK hP 2 0 rfl rfl (vin_dec (by decide +kernel)) dX12_isBookHere_5 ?_
  refine lv_topi (fun x_1 ex_1 => ?_)
  have lx_1 : x_1.toInt = ((Mf 6) 0).toInt := congrArg Int32.toInt ex_1
  refine lv_if_le (tgt := 16) hx hb dX12_isBookHere_6 (by decide) (fun c_2 => ?_) (fun c_2 => ?_)
  · skip
    refine lv_aload_n hx hb dX12_isBookHere_16 rfl (lv_at hl 0 rfl) ?_
    refine cV (a := (Ma 0)) (As := []) (rest := []) (wr := [((Ma 6), .inl (tc 0, 95, .inl (Mf 6)))]) ⟨hx, hb, hml, hown, hts⟩ hK hX hA (cu_X12_passWord l D tc sk (Ma 0) (Ma 1) (Ma 2) (Ma 3) (Ma 4) (Ma 5) (Ma 6) (Ma 7) (Ma 8) (Ma 9) (Ma 10) (Ma 11) (Ma 12) (Ma 13) (Ma 14) (Ma 15) (Ma 16) (Ma 17) (Ma 18) (Ma 19) (Ma 20) (Mv 0) (Mv 1) (Mv 2) (Mv 3) (Mv 4) (Mv 5) (Mv 6) (Mv 7) (Mv 8) (Mv 9) (Mv 10) (Mv 11) (Mv 12) (Mv 13) (Mv 14) (Mf 1) (Mj 0) h_nx) k_1244 k_1241 k_1243 k_34 k_106 pl_X12_passWord ⟨Nat.le_of_ble_eq_true rfl, Nat.le_of_ble_eq_true rfl⟩ rfl rfl (va_recv hK hP (ci := 12) (q0 := 0) rfl rfl) hP hD hS [0, 1] [2] rfl rfl rfl rfl rfl (by decide) rfl hl.1 rfl (Nat.le_of_ble_eq_true rfl) dX12_isBookHere_17 ⟨Nat.le_of_ble_eq_true rfl, Nat.le_of_ble_eq_true rfl⟩ (fun v_3 u_4 H locs hv_5 hP₀ hD₀ hS₀ => ?_)
    obtain ⟨sv_6, rfl⟩ : ∃ z, z = u_4 := ⟨_, rfl⟩
    obtain ⟨rfl, pf_7, pf_8⟩ := hv_5
    have pf_7 : ((Mv 2) : Int32).toInt ≤ (sv_6 : Int32).toInt ∧ (sv_6 : Int32).toInt ≤ ((Mv 0) : Int32).toInt := pf_7
    have pf_8 : Pw (Mf 1) (Mv 0) (Mv 2) sv_6 := pf_8
    refine W.eq (g2 := F0 m 20 ls []) rfl ?_
    replace hP : va_P D classes [((Ma 6), .inl (tc 0, 95, .inl (Mf 6))), ((Ma 0), .inr (12, [.ref (Ma 1), .int (Mv 0), .int (Mv 1), .ref (Ma 2), .ref (Ma 3), .ref (Ma 4), .ref (Ma 5), .ref (Ma 6), .int sv_6, .int (Mv 3), .int (Mv 4), .int (Mv 5), .int (Mv 6), .int (Mv 7), .int (Mv 8), .ref (Ma 7), .int (Mv 9), .ref (Ma 8), .int (Mv 10), .ref (Ma 9), .ref (Ma 10), .int (Mv 11), .int (Mv 12), .int (Mv 13), .ref (Ma 11), .int (Mv 14), .ref (Ma 12), .ref (Ma 13), .ref (Ma 14), .ref (Ma 15), .ref (Ma 16), .long (Mj 0), .ref (Ma 17), .ref (Ma 18), .ref (Ma 19), .ref (Ma 20)])), ((Ma 1), .inl (tc 2, 400, .inl (Mf 1)))] H := hP₀
    replace hD : va_D A [((Ma 6), .inl (tc 0, 95, .inl (Mf 6))), ((Ma 0), .inr (12, [.ref (Ma 1), .int (Mv 0), .int (Mv 1), .ref (Ma 2), .ref (Ma 3), .ref (Ma 4), .ref (Ma 5), .ref (Ma 6), .int sv_6, .int (Mv 3), .int (Mv 4), .int (Mv 5), .int (Mv 6), .int (Mv 7), .int (Mv 8), .ref (Ma 7), .int (Mv 9), .ref (Ma 8), .int (Mv 10), .ref (Ma 9), .ref (Ma 10), .int (Mv 11), .int (Mv 12), .int (Mv 13), .ref (Ma 11), .int (Mv 14), .ref (Ma 12), .ref (Ma 13), .ref (Ma 14), .ref (Ma 15), .ref (Ma 16), .long (Mj 0), .ref (Ma 17), .ref (Ma 18), .ref (Ma 19), .ref (Ma 20)])), ((Ma 1), .inl (tc 2, 400, .inl (Mf 1)))] := hD₀
    replace hS := hS₀
    clear hP₀ hD₀ hS₀
    refine lv_aload_n hx hb dX12_isBookHere_20 rfl (lv_at hl 0 rfl) ?_
    refine lv_bipush (v := 94) hx hb dX12_isBookHere_21 (by decide) ?_
    refine lv_iconst (v := 0) hx hb dX12_isBookHere_23 (by decide) ?_
    refine lv_bipush (v := 99) hx hb dX12_isBookHere_24 (by decide) ?_
    have ha_9 : 0 ≤ (sv_6 : Int32).toInt ∧ (sv_6 : Int32).toInt ≤ ((Mv 0) : Int32).toInt ∧ ((Mv 0) : Int32).toInt ≤ 400 := by
      have z_1 := Int32.le_iff_toInt_le.mp c_2
      have y_0 : (0 : Int32).toInt = 0 := by decide
      refine ⟨?_, ?_, ?_⟩ <;> omega
    have ha_10 : 0 ≤ (94 : Int32).toInt ∧ (94 : Int32).toInt < 95 := by
      have z_1 := Int32.le_iff_toInt_le.mp c_2
      have y_0 : (0 : Int32).toInt = 0 := by decide
      have y_94 : (94 : Int32).toInt = 94 := by decide
      refine ⟨?_, ?_⟩ <;> omega
    refine cV (a := (Ma 0)) (As := [.int 94, .int 0, .int 99]) (rest := []) (wr := []) ⟨hx, hb, hml, hown, hts⟩ hK hX hA (cu_X12_cellHere l D tc sk (Ma 0) (Ma 1) (Ma 2) (Ma 3) (Ma 4) (Ma 5) (Ma 6) (Ma 7) (Ma 8) (Ma 9) (Ma 10) (Ma 11) (Ma 12) (Ma 13) (Ma 14) (Ma 15) (Ma 16) (Ma 17) (Ma 18) (Ma 19) (Ma 20) (Mv 0) (Mv 1) sv_6 (Mv 3) (Mv 4) (Mv 5) (Mv 6) (Mv 7) (Mv 8) (Mv 9) (Mv 10) (Mv 11) (Mv 12) (Mv 13) (Mv 14) (Mf 1) (Mf 6) (Mj 0) 94 0 99 ha_9 ha_10) k_1248 k_1245 k_1247 k_35 k_106 pl_X12_cellHere ⟨Nat.le_of_ble_eq_true rfl, Nat.le_of_ble_eq_true rfl⟩ rfl rfl (va_recv hK hP (ci := 12) (q0 := 1) rfl rfl) hP hD hS [1, 2, 0] [] rfl rfl rfl rfl rfl (by decide) rfl hl.1 rfl (Nat.le_of_ble_eq_true rfl) dX12_isBookHere_26 ⟨Nat.le_of_ble_eq_true rfl, Nat.le_of_ble_eq_true rfl⟩ (fun v_11 u_12 H locs hv_13 hP₀ hD₀ hS₀ => ?_)
    obtain ⟨sv_14, sv_15, sv_16, sv_17⟩ := u_12
    obtain ⟨r_20, rfl, he_21, pf_18, pf_19⟩ := hv_13
    have he_21 : ((r_20.toInt = 0 ∧ ¬ (sv_15 : Int32).toInt = 0) ∨ (r_20.toInt = 1 ∧ (0 : Int32).toInt ≤ (sv_17 (94 : Int32).toNatClampNeg).toInt ∧ (sv_17 (94 : Int32).toNatClampNeg).toInt ≤ (99 : Int32).toInt)) := he_21
    have yl_he_21_0 : (0 : Int32).toInt = 0 := by decide
    have yl_he_21_94 : (94 : Int32).toInt = 94 := by decide
    have yl_he_21_99 : (99 : Int32).toInt = 99 := by decide
    have pf_18 : (sv_6 : Int32).toInt ≤ (sv_14 : Int32).toInt ∧ (sv_14 : Int32).toInt ≤ ((Mv 0) : Int32).toInt := pf_18
    have pf_19 : RdC (Mf 6) sv_17 (94 : Int32) := pf_19
    have kq_pf_19_0 := RdC.at pf_19 0 (by decide) (by decide)
    have kq_pf_19_2 := RdC.at pf_19 2 (by decide) (by decide)
    have kq_pf_19_3 := RdC.at pf_19 3 (by decide) (by decide)
    refine W.eq (g2 := F0 m 29 ls [.int r_20]) rfl ?_
    replace hP : va_P D classes [((Ma 0), .inr (12, [.ref (Ma 1), .int (Mv 0), .int (Mv 1), .ref (Ma 2), .ref (Ma 3), .ref (Ma 4), .ref (Ma 5), .ref (Ma 6), .int sv_14, .int sv_15, .int sv_16, .int (Mv 5), .int (Mv 6), .int (Mv 7), .int (Mv 8), .ref (Ma 7), .int (Mv 9), .ref (Ma 8), .int (Mv 10), .ref (Ma 9), .ref (Ma 10), .int (Mv 11), .int (Mv 12), .int (Mv 13), .ref (Ma 11), .int (Mv 14), .ref (Ma 12), .ref (Ma 13), .ref (Ma 14), .ref (Ma 15), .ref (Ma 16), .long (Mj 0), .ref (Ma 17), .ref (Ma 18), .ref (Ma 19), .ref (Ma 20)])), ((Ma 1), .inl (tc 2, 400, .inl (Mf 1))), ((Ma 6), .inl (tc 0, 95, .inl sv_17))] H := hP₀
    replace hD : va_D A [((Ma 0), .inr (12, [.ref (Ma 1), .int (Mv 0), .int (Mv 1), .ref (Ma 2), .ref (Ma 3), .ref (Ma 4), .ref (Ma 5), .ref (Ma 6), .int sv_14, .int sv_15, .int sv_16, .int (Mv 5), .int (Mv 6), .int (Mv 7), .int (Mv 8), .ref (Ma 7), .int (Mv 9), .ref (Ma 8), .int (Mv 10), .ref (Ma 9), .ref (Ma 10), .int (Mv 11), .int (Mv 12), .int (Mv 13), .ref (Ma 11), .int (Mv 14), .ref (Ma 12), .ref (Ma 13), .ref (Ma 14), .ref (Ma 15), .ref (Ma 16), .long (Mj 0), .ref (Ma 17), .ref (Ma 18), .ref (Ma 19), .ref (Ma 20)])), ((Ma 1), .inl (tc 2, 400, .inl (Mf 1))), ((Ma 6), .inl (tc 0, 95, .inl sv_17))] := hD₀
    replace hS := hS₀
    clear hP₀ hD₀ hS₀
    refine lv_if_eq (tgt := 54) hx hb dX12_isBookHere_29 (by decide) (fun c_23 => ?_) (fun c_23 => ?_)
    · skip
      refine lv_iconst (v := 0) hx hb dX12_isBookHere_54 (by decide) ?_
      have ha_24 : ((Mv 2) : Int32).toInt ≤ (sv_14 : Int32).toInt ∧ (sv_14 : Int32).toInt ≤ ((Mv 0) : Int32).toInt := by
        have z_1 := Int32.le_iff_toInt_le.mp c_2
        have z_2 := congrArg Int32.toInt c_23
        have y_0 : (0 : Int32).toInt = 0 := by decide
        refine ⟨?_, ?_⟩ <;> omega
      have hp_25 : (((0 : Int32).toInt = 0 ∧ ¬ (sv_15 : Int32).toInt = 0) ∨ (0 : Int32).toInt = 1) := by
        have z_1 := Int32.le_iff_toInt_le.mp c_2
        have z_2 := congrArg Int32.toInt c_23
        have y_0 : (0 : Int32).toInt = 0 := by decide
        omega
      exact retI (v := 0) hx hb hr hlk (rfl) hP hD hS (sv_14, sv_15, sv_16, sv_17) ⟨_, rfl, hp_25, ha_24, (fun h => absurd h (by decide))⟩ [0, 1, 2] rfl rfl dX12_isBookHere_55 (Nat.le_of_ble_eq_true rfl) (Nat.le_of_ble_eq_true rfl) rfl
    · skip
      refine lv_aload_n hx hb dX12_isBookHere_32 rfl (lv_at hl 0 rfl) ?_
      refine lv_iconst (v := 1) hx hb dX12_isBookHere_33 (by decide) ?_
      refine lv_iconst (v := 0) hx hb dX12_isBookHere_34 (by decide) ?_
      refine lv_bipush (v := 9) hx hb dX12_isBookHere_35 (by decide) ?_
      have ha_26 : 0 ≤ (sv_14 : Int32).toInt ∧ (sv_14 : Int32).toInt ≤ ((Mv 0) : Int32).toInt ∧ ((Mv 0) : Int32).toInt ≤ 400 := by
        have z_1 := Int32.le_iff_toInt_le.mp c_2
        have z_2 : ¬ (r_20 : Int32).toInt = (0 : Int32).toInt := fun z => c_23 (Int32.toInt_inj.mp z)
        have y_0 : (0 : Int32).toInt = 0 := by decide
        refine ⟨?_, ?_, ?_⟩ <;> omega
      have ha_27 : 0 ≤ (1 : Int32).toInt ∧ (1 : Int32).toInt < 95 := by
        have z_1 := Int32.le_iff_toInt_le.mp c_2
        have z_2 : ¬ (r_20 : Int32).toInt = (0 : Int32).toInt := fun z => c_23 (Int32.toInt_inj.mp z)
        have y_0 : (0 : Int32).toInt = 0 := by decide
        have y_1 : (1 : Int32).toInt = 1 := by decide
        refine ⟨?_, ?_⟩ <;> omega
      refine cV (a := (Ma 0)) (As := [.int 1, .int 0, .int 9]) (rest := []) (wr := []) ⟨hx, hb, hml, hown, hts⟩ hK hX hA (cu_X12_cellHere l D tc sk (Ma 0) (Ma 1) (Ma 2) (Ma 3) (Ma 4) (Ma 5) (Ma 6) (Ma 7) (Ma 8) (Ma 9) (Ma 10) (Ma 11) (Ma 12) (Ma 13) (Ma 14) (Ma 15) (Ma 16) (Ma 17) (Ma 18) (Ma 19) (Ma 20) (Mv 0) (Mv 1) sv_14 sv_15 sv_16 (Mv 5) (Mv 6) (Mv 7) (Mv 8) (Mv 9) (Mv 10) (Mv 11) (Mv 12) (Mv 13) (Mv 14) (Mf 1) sv_17 (Mj 0) 1 0 9 ha_26 ha_27) k_1248 k_1245 k_1247 k_35 k_106 pl_X12_cellHere ⟨Nat.le_of_ble_eq_true rfl, Nat.le_of_ble_eq_true rfl⟩ rfl rfl (va_recv hK hP (ci := 12) (q0 := 0) rfl rfl) hP hD hS [0, 1, 2] [] rfl rfl rfl rfl rfl (by decide) rfl hl.1 rfl (Nat.le_of_ble_eq_true rfl) dX12_isBookHere_37 ⟨Nat.le_of_ble_eq_true rfl, Nat.le_of_ble_eq_true rfl⟩ (fun v_28 u_29 H locs hv_30 hP₀ hD₀ hS₀ => ?_)
      obtain ⟨sv_31, sv_32, sv_33, sv_34⟩ := u_29
      obtain ⟨r_37, rfl, he_38, pf_35, pf_36⟩ := hv_30
      have he_38 : ((r_37.toInt = 0 ∧ ¬ (sv_32 : Int32).toInt = 0) ∨ (r_37.toInt = 1 ∧ (0 : Int32).toInt ≤ (sv_34 (1 : Int32).toNatClampNeg).toInt ∧ (sv_34 (1 : Int32).toNatClampNeg).toInt ≤ (9 : Int32).toInt)) := he_38
      have yl_he_38_0 : (0 : Int32).toInt = 0 := by decide
      have yl_he_38_1 : (1 : Int32).toInt = 1 := by decide
      have yl_he_38_9 : (9 : Int32).toInt = 9 := by decide
      have pf_35 : (sv_14 : Int32).toInt ≤ (sv_31 : Int32).toInt ∧ (sv_31 : Int32).toInt ≤ ((Mv 0) : Int32).toInt := pf_35
      have pf_36 : RdC sv_17 sv_34 (1 : Int32) := pf_36
      have kq_pf_36_0 := RdC.at pf_36 0 (by decide) (by decide)
      have kq_pf_36_2 := RdC.at pf_36 2 (by decide) (by decide)
      have kq_pf_36_3 := RdC.at pf_36 3 (by decide) (by decide)
      refine W.eq (g2 := F0 m 40 ls [.int r_37]) rfl ?_
      replace hP : va_P D classes [((Ma 0), .inr (12, [.ref (Ma 1), .int (Mv 0), .int (Mv 1), .ref (Ma 2), .ref (Ma 3), .ref (Ma 4), .ref (Ma 5), .ref (Ma 6), .int sv_31, .int sv_32, .int sv_33, .int (Mv 5), .int (Mv 6), .int (Mv 7), .int (Mv 8), .ref (Ma 7), .int (Mv 9), .ref (Ma 8), .int (Mv 10), .ref (Ma 9), .ref (Ma 10), .int (Mv 11), .int (Mv 12), .int (Mv 13), .ref (Ma 11), .int (Mv 14), .ref (Ma 12), .ref (Ma 13), .ref (Ma 14), .ref (Ma 15), .ref (Ma 16), .long (Mj 0), .ref (Ma 17), .ref (Ma 18), .ref (Ma 19), .ref (Ma 20)])), ((Ma 1), .inl (tc 2, 400, .inl (Mf 1))), ((Ma 6), .inl (tc 0, 95, .inl sv_34))] H := hP₀
      replace hD : va_D A [((Ma 0), .inr (12, [.ref (Ma 1), .int (Mv 0), .int (Mv 1), .ref (Ma 2), .ref (Ma 3), .ref (Ma 4), .ref (Ma 5), .ref (Ma 6), .int sv_31, .int sv_32, .int sv_33, .int (Mv 5), .int (Mv 6), .int (Mv 7), .int (Mv 8), .ref (Ma 7), .int (Mv 9), .ref (Ma 8), .int (Mv 10), .ref (Ma 9), .ref (Ma 10), .int (Mv 11), .int (Mv 12), .int (Mv 13), .ref (Ma 11), .int (Mv 14), .ref (Ma 12), .ref (Ma 13), .ref (Ma 14), .ref (Ma 15), .ref (Ma 16), .long (Mj 0), .ref (Ma 17), .ref (Ma 18), .ref (Ma 19), .ref (Ma 20)])), ((Ma 1), .inl (tc 2, 400, .inl (Mf 1))), ((Ma 6), .inl (tc 0, 95, .inl sv_34))] := hD₀
      replace hS := hS₀
      clear hP₀ hD₀ hS₀
      refine lv_if_eq (tgt := 54) hx hb dX12_isBookHere_40 (by decide) (fun c_40 => ?_) (fun c_40 => ?_)
      · skip
        refine lv_iconst (v := 0) hx hb dX12_isBookHere_54 (by decide) ?_
        have ha_41 : ((Mv 2) : Int32).toInt ≤ (sv_31 : Int32).toInt ∧ (sv_31 : Int32).toInt ≤ ((Mv 0) : Int32).toInt := by
          have z_1 := Int32.le_iff_toInt_le.mp c_2
          have z_2 : ¬ (r_20 : Int32).toInt = (0 : Int32).toInt := fun z => c_23 (Int32.toInt_inj.mp z)
          have z_3 := congrArg Int32.toInt c_40
          have y_0 : (0 : Int32).toInt = 0 := by decide
          refine ⟨?_, ?_⟩ <;> omega
        have hp_42 : (((0 : Int32).toInt = 0 ∧ ¬ (sv_32 : Int32).toInt = 0) ∨ (0 : Int32).toInt = 1) := by
          have z_1 := Int32.le_iff_toInt_le.mp c_2
          have z_2 : ¬ (r_20 : Int32).toInt = (0 : Int32).toInt := fun z => c_23 (Int32.toInt_inj.mp z)
          have z_3 := congrArg Int32.toInt c_40
          have y_0 : (0 : Int32).toInt = 0 := by decide
          omega
        exact retI (v := 0) hx hb hr hlk (rfl) hP hD hS (sv_31, sv_32, sv_33, sv_34) ⟨_, rfl, hp_42, ha_41, (fun h => absurd h (by decide))⟩ [0, 1, 2] rfl rfl dX12_isBookHere_55 (Nat.le_of_ble_eq_true rfl) (Nat.le_of_ble_eq_true rfl) rfl
      · skip
        refine lv_aload_n hx hb dX12_isBookHere_43 rfl (lv_at hl 0 rfl) ?_
        refine lv_iconst (v := 2) hx hb dX12_isBookHere_44 (by decide) ?_
        refine lv_iconst (v := 1) hx hb dX12_isBookHere_45 (by decide) ?_
        refine lv_bipush (v := 10) hx hb dX12_isBookHere_46 (by decide) ?_
        have ha_43 : 0 ≤ (sv_31 : Int32).toInt ∧ (sv_31 : Int32).toInt ≤ ((Mv 0) : Int32).toInt ∧ ((Mv 0) : Int32).toInt ≤ 400 := by
          have z_1 := Int32.le_iff_toInt_le.mp c_2
          have z_2 : ¬ (r_20 : Int32).toInt = (0 : Int32).toInt := fun z => c_23 (Int32.toInt_inj.mp z)
          have z_3 : ¬ (r_37 : Int32).toInt = (0 : Int32).toInt := fun z => c_40 (Int32.toInt_inj.mp z)
          have y_0 : (0 : Int32).toInt = 0 := by decide
          refine ⟨?_, ?_, ?_⟩ <;> omega
        have ha_44 : 0 ≤ (2 : Int32).toInt ∧ (2 : Int32).toInt < 95 := by
          have z_1 := Int32.le_iff_toInt_le.mp c_2
          have z_2 : ¬ (r_20 : Int32).toInt = (0 : Int32).toInt := fun z => c_23 (Int32.toInt_inj.mp z)
          have z_3 : ¬ (r_37 : Int32).toInt = (0 : Int32).toInt := fun z => c_40 (Int32.toInt_inj.mp z)
          have y_0 : (0 : Int32).toInt = 0 := by decide
          have y_2 : (2 : Int32).toInt = 2 := by decide
          refine ⟨?_, ?_⟩ <;> omega
        refine cV (a := (Ma 0)) (As := [.int 2, .int 1, .int 10]) (rest := []) (wr := []) ⟨hx, hb, hml, hown, hts⟩ hK hX hA (cu_X12_cellHere l D tc sk (Ma 0) (Ma 1) (Ma 2) (Ma 3) (Ma 4) (Ma 5) (Ma 6) (Ma 7) (Ma 8) (Ma 9) (Ma 10) (Ma 11) (Ma 12) (Ma 13) (Ma 14) (Ma 15) (Ma 16) (Ma 17) (Ma 18) (Ma 19) (Ma 20) (Mv 0) (Mv 1) sv_31 sv_32 sv_33 (Mv 5) (Mv 6) (Mv 7) (Mv 8) (Mv 9) (Mv 10) (Mv 11) (Mv 12) (Mv 13) (Mv 14) (Mf 1) sv_34 (Mj 0) 2 1 10 ha_43 ha_44) k_1248 k_1245 k_1247 k_35 k_106 pl_X12_cellHere ⟨Nat.le_of_ble_eq_true rfl, Nat.le_of_ble_eq_true rfl⟩ rfl rfl (va_recv hK hP (ci := 12) (q0 := 0) rfl rfl) hP hD hS [0, 1, 2] [] rfl rfl rfl rfl rfl (by decide) rfl hl.1 rfl (Nat.le_of_ble_eq_true rfl) dX12_isBookHere_48 ⟨Nat.le_of_ble_eq_true rfl, Nat.le_of_ble_eq_true rfl⟩ (fun v_45 u_46 H locs hv_47 hP₀ hD₀ hS₀ => ?_)
        obtain ⟨sv_48, sv_49, sv_50, sv_51⟩ := u_46
        obtain ⟨r_54, rfl, he_55, pf_52, pf_53⟩ := hv_47
        have he_55 : ((r_54.toInt = 0 ∧ ¬ (sv_49 : Int32).toInt = 0) ∨ (r_54.toInt = 1 ∧ (1 : Int32).toInt ≤ (sv_51 (2 : Int32).toNatClampNeg).toInt ∧ (sv_51 (2 : Int32).toNatClampNeg).toInt ≤ (10 : Int32).toInt)) := he_55
        have yl_he_55_1 : (1 : Int32).toInt = 1 := by decide
        have yl_he_55_2 : (2 : Int32).toInt = 2 := by decide
        have yl_he_55_10 : (10 : Int32).toInt = 10 := by decide
        have pf_52 : (sv_31 : Int32).toInt ≤ (sv_48 : Int32).toInt ∧ (sv_48 : Int32).toInt ≤ ((Mv 0) : Int32).toInt := pf_52
        have pf_53 : RdC sv_34 sv_51 (2 : Int32) := pf_53
        have kq_pf_53_0 := RdC.at pf_53 0 (by decide) (by decide)
        have kq_pf_53_2 : (sv_51 2).toInt = (sv_51 (2 : Int32).toNatClampNeg).toInt := rfl
        have kq_pf_53_3 := RdC.at pf_53 3 (by decide) (by decide)
        refine W.eq (g2 := F0 m 51 ls [.int r_54]) rfl ?_
        replace hP : va_P D classes [((Ma 0), .inr (12, [.ref (Ma 1), .int (Mv 0), .int (Mv 1), .ref (Ma 2), .ref (Ma 3), .ref (Ma 4), .ref (Ma 5), .ref (Ma 6), .int sv_48, .int sv_49, .int sv_50, .int (Mv 5), .int (Mv 6), .int (Mv 7), .int (Mv 8), .ref (Ma 7), .int (Mv 9), .ref (Ma 8), .int (Mv 10), .ref (Ma 9), .ref (Ma 10), .int (Mv 11), .int (Mv 12), .int (Mv 13), .ref (Ma 11), .int (Mv 14), .ref (Ma 12), .ref (Ma 13), .ref (Ma 14), .ref (Ma 15), .ref (Ma 16), .long (Mj 0), .ref (Ma 17), .ref (Ma 18), .ref (Ma 19), .ref (Ma 20)])), ((Ma 1), .inl (tc 2, 400, .inl (Mf 1))), ((Ma 6), .inl (tc 0, 95, .inl sv_51))] H := hP₀
        replace hD : va_D A [((Ma 0), .inr (12, [.ref (Ma 1), .int (Mv 0), .int (Mv 1), .ref (Ma 2), .ref (Ma 3), .ref (Ma 4), .ref (Ma 5), .ref (Ma 6), .int sv_48, .int sv_49, .int sv_50, .int (Mv 5), .int (Mv 6), .int (Mv 7), .int (Mv 8), .ref (Ma 7), .int (Mv 9), .ref (Ma 8), .int (Mv 10), .ref (Ma 9), .ref (Ma 10), .int (Mv 11), .int (Mv 12), .int (Mv 13), .ref (Ma 11), .int (Mv 14), .ref (Ma 12), .ref (Ma 13), .ref (Ma 14), .ref (Ma 15), .ref (Ma 16), .long (Mj 0), .ref (Ma 17), .ref (Ma 18), .ref (Ma 19), .ref (Ma 20)])), ((Ma 1), .inl (tc 2, 400, .inl (Mf 1))), ((Ma 6), .inl (tc 0, 95, .inl sv_51))] := hD₀
        replace hS := hS₀
        clear hP₀ hD₀ hS₀
        refine lv_if_ne (tgt := 56) hx hb dX12_isBookHere_51 (by decide) (fun c_57 => ?_) (fun c_57 => ?_)
        · skip
          refine lv_aload_n hx hb dX12_isBookHere_56 rfl (lv_at hl 0 rfl) ?_
          refine gf_X12_26 hx hb hts hown hK hP 0 rfl rfl dX12_isBookHere_57 ?_
          refine lv_iconst (v := 0) hx hb dX12_isBookHere_60 (by decide) ?_
          refine lv_iconst (v := 1) hx hb dX12_isBookHere_61 (by decide) ?_
          refine st_int hx hb hK hP hD hS 2 0 rfl rfl (vin_dec (by decide +kernel)) dX12_isBookHere_62 (fun g_58 H locs eg_58 hP₀ hD₀ hS₀ => ?_)
          replace hP : va_P D classes [((Ma 0), .inr (12, [.ref (Ma 1), .int (Mv 0), .int (Mv 1), .ref (Ma 2), .ref (Ma 3), .ref (Ma 4), .ref (Ma 5), .ref (Ma 6), .int sv_48, .int sv_49, .int sv_50, .int (Mv 5), .int (Mv 6), .int (Mv 7), .int (Mv 8), .ref (Ma 7), .int (Mv 9), .ref (Ma 8), .int (Mv 10), .ref (Ma 9), .ref (Ma 10), .int (Mv 11), .int (Mv 12), .int (Mv 13), .ref (Ma 11), .int (Mv 14), .ref (Ma 12), .ref (Ma 13), .ref (Ma 14), .ref (Ma 15), .ref (Ma 16), .long (Mj 0), .ref (Ma 17), .ref (Ma 18), .ref (Ma 19), .ref (Ma 20)])), ((Ma 1), .inl (tc 2, 400, .inl (Mf 1))), ((Ma 6), .inl (tc 0, 95, .inl g_58))] H := hP₀
          replace hD : va_D A [((Ma 0), .inr (12, [.ref (Ma 1), .int (Mv 0), .int (Mv 1), .ref (Ma 2), .ref (Ma 3), .ref (Ma 4), .ref (Ma 5), .ref (Ma 6), .int sv_48, .int sv_49, .int sv_50, .int (Mv 5), .int (Mv 6), .int (Mv 7), .int (Mv 8), .ref (Ma 7), .int (Mv 9), .ref (Ma 8), .int (Mv 10), .ref (Ma 9), .ref (Ma 10), .int (Mv 11), .int (Mv 12), .int (Mv 13), .ref (Ma 11), .int (Mv 14), .ref (Ma 12), .ref (Ma 13), .ref (Ma 14), .ref (Ma 15), .ref (Ma 16), .long (Mj 0), .ref (Ma 17), .ref (Ma 18), .ref (Ma 19), .ref (Ma 20)])), ((Ma 1), .inl (tc 2, 400, .inl (Mf 1))), ((Ma 6), .inl (tc 0, 95, .inl g_58))] := hD₀
          replace hS := hS₀
          clear hP₀ hD₀ hS₀
          have ku_g_58_0 : (g_58 0).toInt = (1 : Int32).toInt := upd_toInt_at (i := 0) eg_58
          have ku_g_58_2 : (g_58 2).toInt = (sv_51 2).toInt := upd_toInt_ne (i := 0) eg_58 (by decide)
          have ku_g_58_3 : (g_58 3).toInt = (sv_51 3).toInt := upd_toInt_ne (i := 0) eg_58 (by decide)
          have kv_g_58 : (1 : Int32).toInt = 1 := by decide
          refine lv_iconst (v := 1) hx hb dX12_isBookHere_63 (by decide) ?_
          have ha_59 : ((Mv 2) : Int32).toInt ≤ (sv_48 : Int32).toInt ∧ (sv_48 : Int32).toInt ≤ ((Mv 0) : Int32).toInt := by
            have z_1 := Int32.le_iff_toInt_le.mp c_2
            have z_2 : ¬ (r_20 : Int32).toInt = (0 : Int32).toInt := fun z => c_23 (Int32.toInt_inj.mp z)
            have z_3 : ¬ (r_37 : Int32).toInt = (0 : Int32).toInt := fun z => c_40 (Int32.toInt_inj.mp z)
            have z_4 : ¬ (r_54 : Int32).toInt = (0 : Int32).toInt := fun z => c_57 (Int32.toInt_inj.mp z)
            have y_0 : (0 : Int32).toInt = 0 := by decide
            refine ⟨?_, ?_⟩ <;> omega
          have hp_60 : (((1 : Int32).toInt = 0 ∧ ¬ (sv_49 : Int32).toInt = 0) ∨ (1 : Int32).toInt = 1) := by
            have z_1 := Int32.le_iff_toInt_le.mp c_2
            have z_2 : ¬ (r_20 : Int32).toInt = (0 : Int32).toInt := fun z => c_23 (Int32.toInt_inj.mp z)
            have z_3 : ¬ (r_37 : Int32).toInt = (0 : Int32).toInt := fun z => c_40 (Int32.toInt_inj.mp z)
            have z_4 : ¬ (r_54 : Int32).toInt = (0 : Int32).toInt := fun z => c_57 (Int32.toInt_inj.mp z)
            have y_0 : (0 : Int32).toInt = 0 := by decide
            have y_1 : (1 : Int32).toInt = 1 := by decide
            have yr : (1 : Int32).toInt = 1 := by decide
            omega
          have hm_61 : (1 : Int32).toInt = 1 → (RdO g_58) := by
            intro h1r
            have ha_62 : RdO g_58 := RdO.of (by
              have z_1 := Int32.le_iff_toInt_le.mp c_2
              have z_2 : ¬ (r_20 : Int32).toInt = (0 : Int32).toInt := fun z => c_23 (Int32.toInt_inj.mp z)
              have z_3 : ¬ (r_37 : Int32).toInt = (0 : Int32).toInt := fun z => c_40 (Int32.toInt_inj.mp z)
              have z_4 : ¬ (r_54 : Int32).toInt = (0 : Int32).toInt := fun z => c_57 (Int32.toInt_inj.mp z)
              have y_0 : (0 : Int32).toInt = 0 := by decide
              omega)
            exact ha_62
          exact retI (v := 1) hx hb hr hlk (rfl) hP hD hS (sv_48, sv_49, sv_50, g_58) ⟨_, rfl, hp_60, ha_59, hm_61⟩ [0, 1, 2] rfl rfl dX12_isBookHere_64 (Nat.le_of_ble_eq_true rfl) (Nat.le_of_ble_eq_true rfl) rfl
        · skip
          refine lv_iconst (v := 0) hx hb dX12_isBookHere_54 (by decide) ?_
          have ha_63 : ((Mv 2) : Int32).toInt ≤ (sv_48 : Int32).toInt ∧ (sv_48 : Int32).toInt ≤ ((Mv 0) : Int32).toInt := by
            have z_1 := Int32.le_iff_toInt_le.mp c_2
            have z_2 : ¬ (r_20 : Int32).toInt = (0 : Int32).toInt := fun z => c_23 (Int32.toInt_inj.mp z)
            have z_3 : ¬ (r_37 : Int32).toInt = (0 : Int32).toInt := fun z => c_40 (Int32.toInt_inj.mp z)
            have z_4 := congrArg Int32.toInt c_57
            have y_0 : (0 : Int32).toInt = 0 := by decide
            refine ⟨?_, ?_⟩ <;> omega
          have hp_64 : (((0 : Int32).toInt = 0 ∧ ¬ (sv_49 : Int32).toInt = 0) ∨ (0 : Int32).toInt = 1) := by
            have z_1 := Int32.le_iff_toInt_le.mp c_2
            have z_2 : ¬ (r_20 : Int32).toInt = (0 : Int32).toInt := fun z => c_23 (Int32.toInt_inj.mp z)
            have z_3 : ¬ (r_37 : Int32).toInt = (0 : Int32).toInt := fun z => c_40 (Int32.toInt_inj.mp z)
            have z_4 := congrArg Int32.toInt c_57
            have y_0 : (0 : Int32).toInt = 0 := by decide
            omega
          exact retI (v := 0) hx hb hr hlk (rfl) hP hD hS (sv_48, sv_49, sv_50, sv_51) ⟨_, rfl, hp_64, ha_63, (fun h => absurd h (by decide))⟩ [0, 1, 2] rfl rfl dX12_isBookHere_55 (Nat.le_of_ble_eq_true rfl) (Nat.le_of_ble_eq_true rfl) rfl
  · skip
    refine lv_aload_n hx hb dX12_isBookHere_9 rfl (lv_at hl 0 rfl) ?_
    refine lv_iconst (v := 4) hx hb dX12_isBookHere_10 (by decide) ?_
    refine lv_iload_n hx hb dX12_isBookHere_11 rfl (lv_at hl 1 rfl) ?_
    have ha_65 : 0 ≤ (4 : Int32).toInt ∧ (4 : Int32).toInt ≤ 4 := by
      have z_1 := Int32.lt_iff_toInt_lt.mp (Int32.not_le.mp c_2)
      have y_0 : (0 : Int32).toInt = 0 := by decide
      have y_4 : (4 : Int32).toInt = 4 := by decide
      refine ⟨?_, ?_⟩ <;> omega
    refine cV (a := (Ma 0)) (As := [.int 4, .int x1]) (rest := []) (wr := [((Ma 1), .inl (tc 2, 400, .inl (Mf 1))), ((Ma 6), .inl (tc 0, 95, .inl (Mf 6)))]) ⟨hx, hb, hml, hown, hts⟩ hK hX hA (cu_X12_fails l D tc sk (Ma 0) (Ma 1) (Ma 2) (Ma 3) (Ma 4) (Ma 5) (Ma 6) (Ma 7) (Ma 8) (Ma 9) (Ma 10) (Ma 11) (Ma 12) (Ma 13) (Ma 14) (Ma 15) (Ma 16) (Ma 17) (Ma 18) (Ma 19) (Ma 20) (Mv 0) (Mv 1) (Mv 2) (Mv 3) (Mv 4) (Mv 5) (Mv 6) (Mv 7) (Mv 8) (Mv 9) (Mv 10) (Mv 11) (Mv 12) (Mv 13) (Mv 14) (Mj 0) 4 x1 ha_65 h_at) k_1232 k_1229 k_1231 k_31 k_106 pl_X12_fails ⟨Nat.le_of_ble_eq_true rfl, Nat.le_of_ble_eq_true rfl⟩ rfl rfl (va_recv hK hP (ci := 12) (q0 := 0) rfl rfl) hP hD hS [0] [1, 2] rfl rfl rfl rfl rfl (by decide) rfl hl.1 rfl (Nat.le_of_ble_eq_true rfl) dX12_isBookHere_12 ⟨Nat.le_of_ble_eq_true rfl, Nat.le_of_ble_eq_true rfl⟩ (fun v_66 u_67 H locs hv_68 hP₀ hD₀ hS₀ => ?_)
    obtain ⟨sv_69, rfl⟩ : ∃ z, z = u_67 := ⟨_, rfl⟩
    obtain ⟨r_71, rfl, he_72, pf_70⟩ := hv_68
    have he_72 : r_71.toInt = 0 := he_72
    have pf_70 : ¬ (sv_69 : Int32).toInt = 0 := pf_70
    refine W.eq (g2 := F0 m 15 ls [.int r_71]) rfl ?_
    replace hP : va_P D classes [((Ma 1), .inl (tc 2, 400, .inl (Mf 1))), ((Ma 6), .inl (tc 0, 95, .inl (Mf 6))), ((Ma 0), .inr (12, [.ref (Ma 1), .int (Mv 0), .int (Mv 1), .ref (Ma 2), .ref (Ma 3), .ref (Ma 4), .ref (Ma 5), .ref (Ma 6), .int (Mv 2), .int sv_69, .int (Mv 4), .int (Mv 5), .int (Mv 6), .int (Mv 7), .int (Mv 8), .ref (Ma 7), .int (Mv 9), .ref (Ma 8), .int (Mv 10), .ref (Ma 9), .ref (Ma 10), .int (Mv 11), .int (Mv 12), .int (Mv 13), .ref (Ma 11), .int (Mv 14), .ref (Ma 12), .ref (Ma 13), .ref (Ma 14), .ref (Ma 15), .ref (Ma 16), .long (Mj 0), .ref (Ma 17), .ref (Ma 18), .ref (Ma 19), .ref (Ma 20)]))] H := hP₀
    replace hD : va_D A [((Ma 1), .inl (tc 2, 400, .inl (Mf 1))), ((Ma 6), .inl (tc 0, 95, .inl (Mf 6))), ((Ma 0), .inr (12, [.ref (Ma 1), .int (Mv 0), .int (Mv 1), .ref (Ma 2), .ref (Ma 3), .ref (Ma 4), .ref (Ma 5), .ref (Ma 6), .int (Mv 2), .int sv_69, .int (Mv 4), .int (Mv 5), .int (Mv 6), .int (Mv 7), .int (Mv 8), .ref (Ma 7), .int (Mv 9), .ref (Ma 8), .int (Mv 10), .ref (Ma 9), .ref (Ma 10), .int (Mv 11), .int (Mv 12), .int (Mv 13), .ref (Ma 11), .int (Mv 14), .ref (Ma 12), .ref (Ma 13), .ref (Ma 14), .ref (Ma 15), .ref (Ma 16), .long (Mj 0), .ref (Ma 17), .ref (Ma 18), .ref (Ma 19), .ref (Ma 20)]))] := hD₀
    replace hS := hS₀
    clear hP₀ hD₀ hS₀
    have ha_74 : ((Mv 2) : Int32).toInt ≤ ((Mv 2) : Int32).toInt ∧ ((Mv 2) : Int32).toInt ≤ ((Mv 0) : Int32).toInt := by
      have z_1 := Int32.lt_iff_toInt_lt.mp (Int32.not_le.mp c_2)
      have y_0 : (0 : Int32).toInt = 0 := by decide
      refine ⟨?_, ?_⟩ <;> omega
    have hb_75 : (r_71 : Int32).toInt = 0 ∨ (r_71 : Int32).toInt = 1 := by
      have z_1 := Int32.lt_iff_toInt_lt.mp (Int32.not_le.mp c_2)
      have y_0 : (0 : Int32).toInt = 0 := by decide
      omega
    have hp_76 : (((r_71 : Int32).toInt = 0 ∧ ¬ (sv_69 : Int32).toInt = 0) ∨ (r_71 : Int32).toInt = 1) := by
      have z_1 := Int32.lt_iff_toInt_lt.mp (Int32.not_le.mp c_2)
      have y_0 : (0 : Int32).toInt = 0 := by decide
      omega
    have hm_77 : (r_71 : Int32).toInt = 1 → (RdO (Mf 6)) := by
      intro h1r
      exfalso
      have z_1 := Int32.lt_iff_toInt_lt.mp (Int32.not_le.mp c_2)
      have y_0 : (0 : Int32).toInt = 0 := by decide
      omega
    exact retI (v := r_71) hx hb hr hlk (nar01 hb_75) hP hD hS ((Mv 2), sv_69, (Mv 4), (Mf 6)) ⟨_, rfl, hp_76, ha_74, hm_77⟩ [2, 0, 1] rfl rfl dX12_isBookHere_15 (Nat.le_of_ble_eq_true rfl) (Nat.le_of_ble_eq_true rfl) rfl
set_option maxRecDepth 100000 in
theorem cu_X12_isBookHere (l : Launch) (D : va_G) (tc : Nat → ClassId) (sk : (Nat → Nat) × (Nat → Nat)) (Ma_0 : Nat) (Ma_1 : Nat) (Ma_2 : Nat) (Ma_3 : Nat) (Ma_4 : Nat) (Ma_5 : Nat) (Ma_6 : Nat) (Ma_7 : Nat) (Ma_8 : Nat) (Ma_9 : Nat) (Ma_10 : Nat) (Ma_11 : Nat) (Ma_12 : Nat) (Ma_13 : Nat) (Ma_14 : Nat) (Ma_15 : Nat) (Ma_16 : Nat) (Ma_17 : Nat) (Ma_18 : Nat) (Ma_19 : Nat) (Ma_20 : Nat) (Mv_0 : Int32) (Mv_1 : Int32) (Mv_2 : Int32) (Mv_3 : Int32) (Mv_4 : Int32) (Mv_5 : Int32) (Mv_6 : Int32) (Mv_7 : Int32) (Mv_8 : Int32) (Mv_9 : Int32) (Mv_10 : Int32) (Mv_11 : Int32) (Mv_12 : Int32) (Mv_13 : Int32) (Mv_14 : Int32) (Mf_1 : Nat → Int32) (Mf_6 : Nat → Int32) (Mj_0 : Int64) (x1 : Int32) (h_nx : 0 ≤ (Mv_2 : Int32).toInt ∧ (Mv_2 : Int32).toInt ≤ (Mv_0 : Int32).toInt ∧ (Mv_0 : Int32).toInt ≤ 400) (h_at : 0 ≤ x1.toInt ∧ x1.toInt ≤ 400) (h_ro : RdO Mf_6) : Ct l yX12_isBookHere cX12_isBookHere 2 (some .boolean) { frames := 3, cells := 0, slots := 0, locals := 72 } D tc sk [.ref Ma_0, .int x1] [(Ma_0, .inr (12, [.ref Ma_1, .int Mv_0, .int Mv_1, .ref Ma_2, .ref Ma_3, .ref Ma_4, .ref Ma_5, .ref Ma_6, .int Mv_2, .int Mv_3, .int Mv_4, .int Mv_5, .int Mv_6, .int Mv_7, .int Mv_8, .ref Ma_7, .int Mv_9, .ref Ma_8, .int Mv_10, .ref Ma_9, .ref Ma_10, .int Mv_11, .int Mv_12, .int Mv_13, .ref Ma_11, .int Mv_14, .ref Ma_12, .ref Ma_13, .ref Ma_14, .ref Ma_15, .ref Ma_16, .long Mj_0, .ref Ma_17, .ref Ma_18, .ref Ma_19, .ref Ma_20])), (Ma_1, .inl (tc 2, 400, .inl Mf_1)), (Ma_6, .inl (tc 0, 95, .inl Mf_6))] (fun (v : Option Value) (u : (Int32) × (Int32) × (Int32) × (Nat → Int32)) => match u with | (oo0x1, oo0x2, oo0x3, oo0x4) => ∃ r : Int32, v = some (.int r) ∧ (((r.toInt = 0 ∧ ¬ (oo0x2 : Int32).toInt = 0) ∨ r.toInt = 1)) ∧ ((Mv_2 : Int32).toInt ≤ (oo0x1 : Int32).toInt ∧ (oo0x1 : Int32).toInt ≤ (Mv_0 : Int32).toInt) ∧ (r.toInt = 1 → (RdO oo0x4))) (fun (u : (Int32) × (Int32) × (Int32) × (Nat → Int32)) => match u with | (oo0x1, oo0x2, oo0x3, oo0x4) => [(Ma_0, .inr (12, [.ref Ma_1, .int Mv_0, .int Mv_1, .ref Ma_2, .ref Ma_3, .ref Ma_4, .ref Ma_5, .ref Ma_6, .int oo0x1, .int oo0x2, .int oo0x3, .int Mv_5, .int Mv_6, .int Mv_7, .int Mv_8, .ref Ma_7, .int Mv_9, .ref Ma_8, .int Mv_10, .ref Ma_9, .ref Ma_10, .int Mv_11, .int Mv_12, .int Mv_13, .ref Ma_11, .int Mv_14, .ref Ma_12, .ref Ma_13, .ref Ma_14, .ref Ma_15, .ref Ma_16, .long Mj_0, .ref Ma_17, .ref Ma_18, .ref Ma_19, .ref Ma_20])), (Ma_1, .inl (tc 2, 400, .inl Mf_1)), (Ma_6, .inl (tc 0, 95, .inl oo0x4))]) 0 0 :=
  ct_X12_isBookHere l D tc sk (fun k => ([Ma_0, Ma_1, Ma_2, Ma_3, Ma_4, Ma_5, Ma_6, Ma_7, Ma_8, Ma_9, Ma_10, Ma_11, Ma_12, Ma_13, Ma_14, Ma_15, Ma_16, Ma_17, Ma_18, Ma_19, Ma_20] : List (Nat)).getD k 0) (fun k => ([Mv_0, Mv_1, Mv_2, Mv_3, Mv_4, Mv_5, Mv_6, Mv_7, Mv_8, Mv_9, Mv_10, Mv_11, Mv_12, Mv_13, Mv_14] : List (Int32)).getD k 0) (fun k => ([(fun _ => 0), Mf_1, (fun _ => 0), (fun _ => 0), (fun _ => 0), (fun _ => 0), Mf_6] : List (Nat → Int32)).getD k (fun _ => 0)) (fun k => ([Mj_0] : List (Int64)).getD k 0) x1 h_nx h_at h_ro
set_option maxHeartbeats 4000000 in
set_option maxRecDepth 100000 in
theorem ct_X12_isSkyHere (l : Launch) (D : va_G) (tc : Nat → ClassId) (sk : (Nat → Nat) × (Nat → Nat)) (Ma : Nat → Nat) (Mv : Nat → Int32) (Mf : Nat → Nat → Int32) (Mj : Nat → Int64) (h_nx : 0 ≤ ((Mv 2) : Int32).toInt ∧ ((Mv 2) : Int32).toInt ≤ ((Mv 0) : Int32).toInt ∧ ((Mv 0) : Int32).toInt ≤ 400) (h_ro : RdO (Mf 6)) (h_f1 : ((Mf 6) 0).toInt = 1) : Ct l yX12_isSkyHere cX12_isSkyHere 1 (some .boolean) { frames := 3, cells := 0, slots := 0, locals := 72 } D tc sk [.ref (Ma 0)] [((Ma 0), .inr (12, [.ref (Ma 1), .int (Mv 0), .int (Mv 1), .ref (Ma 2), .ref (Ma 3), .ref (Ma 4), .ref (Ma 5), .ref (Ma 6), .int (Mv 2), .int (Mv 3), .int (Mv 4), .int (Mv 5), .int (Mv 6), .int (Mv 7), .int (Mv 8), .ref (Ma 7), .int (Mv 9), .ref (Ma 8), .int (Mv 10), .ref (Ma 9), .ref (Ma 10), .int (Mv 11), .int (Mv 12), .int (Mv 13), .ref (Ma 11), .int (Mv 14), .ref (Ma 12), .ref (Ma 13), .ref (Ma 14), .ref (Ma 15), .ref (Ma 16), .long (Mj 0), .ref (Ma 17), .ref (Ma 18), .ref (Ma 19), .ref (Ma 20)])), ((Ma 1), .inl (tc 2, 400, .inl (Mf 1))), ((Ma 6), .inl (tc 0, 95, .inl (Mf 6)))] (fun (v : Option Value) (u : (Int32) × (Int32) × (Int32) × (Nat → Int32)) => match u with | (oo0x1, oo0x2, oo0x3, oo0x4) => ∃ r : Int32, v = some (.int r) ∧ (((r.toInt = 0 ∧ ¬ (oo0x2 : Int32).toInt = 0) ∨ r.toInt = 1)) ∧ (((Mv 2) : Int32).toInt ≤ (oo0x1 : Int32).toInt ∧ (oo0x1 : Int32).toInt ≤ ((Mv 0) : Int32).toInt) ∧ (r.toInt = 1 → (RdO oo0x4))) (fun (u : (Int32) × (Int32) × (Int32) × (Nat → Int32)) => match u with | (oo0x1, oo0x2, oo0x3, oo0x4) => [((Ma 0), .inr (12, [.ref (Ma 1), .int (Mv 0), .int (Mv 1), .ref (Ma 2), .ref (Ma 3), .ref (Ma 4), .ref (Ma 5), .ref (Ma 6), .int oo0x1, .int oo0x2, .int oo0x3, .int (Mv 5), .int (Mv 6), .int (Mv 7), .int (Mv 8), .ref (Ma 7), .int (Mv 9), .ref (Ma 8), .int (Mv 10), .ref (Ma 9), .ref (Ma 10), .int (Mv 11), .int (Mv 12), .int (Mv 13), .ref (Ma 11), .int (Mv 14), .ref (Ma 12), .ref (Ma 13), .ref (Ma 14), .ref (Ma 15), .ref (Ma 16), .long (Mj 0), .ref (Ma 17), .ref (Ma 18), .ref (Ma 19), .ref (Ma 20)])), ((Ma 1), .inl (tc 2, 400, .inl (Mf 1))), ((Ma 6), .inl (tc 0, 95, .inl oo0x4))]) 0 0 := by
  refine Ct.start (by decide) (Nat.le_of_ble_eq_true rfl) (fun p e s m below meth c A ls hx hb hr hlk hin hml hown hts hK hX hP hD hA hl hS => ?_)
  have hl : lv_has ls 1 [(0, .ref (Ma 0))] := hl
  have ar_h_ro := RdO.ar h_ro
  refine lv_aload_n hx hb dX12_isSkyHere_0 rfl (lv_at hl 0 rfl) ?_
  refine cV (a := (Ma 0)) (As := []) (rest := []) (wr := [((Ma 6), .inl (tc 0, 95, .inl (Mf 6)))]) ⟨hx, hb, hml, hown, hts⟩ hK hX hA (cu_X12_passWord l D tc sk (Ma 0) (Ma 1) (Ma 2) (Ma 3) (Ma 4) (Ma 5) (Ma 6) (Ma 7) (Ma 8) (Ma 9) (Ma 10) (Ma 11) (Ma 12) (Ma 13) (Ma 14) (Ma 15) (Ma 16) (Ma 17) (Ma 18) (Ma 19) (Ma 20) (Mv 0) (Mv 1) (Mv 2) (Mv 3) (Mv 4) (Mv 5) (Mv 6) (Mv 7) (Mv 8) (Mv 9) (Mv 10) (Mv 11) (Mv 12) (Mv 13) (Mv 14) (Mf 1) (Mj 0) h_nx) k_1244 k_1241 k_1243 k_34 k_106 pl_X12_passWord ⟨Nat.le_of_ble_eq_true rfl, Nat.le_of_ble_eq_true rfl⟩ rfl rfl (va_recv hK hP (ci := 12) (q0 := 0) rfl rfl) hP hD hS [0, 1] [2] rfl rfl rfl rfl rfl (by decide) rfl hl.1 rfl (Nat.le_of_ble_eq_true rfl) dX12_isSkyHere_1 ⟨Nat.le_of_ble_eq_true rfl, Nat.le_of_ble_eq_true rfl⟩ (fun v_1 u_2 H locs hv_3 hP₀ hD₀ hS₀ => ?_)
  obtain ⟨sv_4, rfl⟩ : ∃ z, z = u_2 := ⟨_, rfl⟩
  obtain ⟨rfl, pf_5, pf_6⟩ := hv_3
  have pf_5 : ((Mv 2) : Int32).toInt ≤ (sv_4 : Int32).toInt ∧ (sv_4 : Int32).toInt ≤ ((Mv 0) : Int32).toInt := pf_5
  have pf_6 : Pw (Mf 1) (Mv 0) (Mv 2) sv_4 := pf_6
  refine W.eq (g2 := F0 m 4 ls []) rfl ?_
  replace hP : va_P D classes [((Ma 6), .inl (tc 0, 95, .inl (Mf 6))), ((Ma 0), .inr (12, [.ref (Ma 1), .int (Mv 0), .int (Mv 1), .ref (Ma 2), .ref (Ma 3), .ref (Ma 4), .ref (Ma 5), .ref (Ma 6), .int sv_4, .int (Mv 3), .int (Mv 4), .int (Mv 5), .int (Mv 6), .int (Mv 7), .int (Mv 8), .ref (Ma 7), .int (Mv 9), .ref (Ma 8), .int (Mv 10), .ref (Ma 9), .ref (Ma 10), .int (Mv 11), .int (Mv 12), .int (Mv 13), .ref (Ma 11), .int (Mv 14), .ref (Ma 12), .ref (Ma 13), .ref (Ma 14), .ref (Ma 15), .ref (Ma 16), .long (Mj 0), .ref (Ma 17), .ref (Ma 18), .ref (Ma 19), .ref (Ma 20)])), ((Ma 1), .inl (tc 2, 400, .inl (Mf 1)))] H := hP₀
  replace hD : va_D A [((Ma 6), .inl (tc 0, 95, .inl (Mf 6))), ((Ma 0), .inr (12, [.ref (Ma 1), .int (Mv 0), .int (Mv 1), .ref (Ma 2), .ref (Ma 3), .ref (Ma 4), .ref (Ma 5), .ref (Ma 6), .int sv_4, .int (Mv 3), .int (Mv 4), .int (Mv 5), .int (Mv 6), .int (Mv 7), .int (Mv 8), .ref (Ma 7), .int (Mv 9), .ref (Ma 8), .int (Mv 10), .ref (Ma 9), .ref (Ma 10), .int (Mv 11), .int (Mv 12), .int (Mv 13), .ref (Ma 11), .int (Mv 14), .ref (Ma 12), .ref (Ma 13), .ref (Ma 14), .ref (Ma 15), .ref (Ma 16), .long (Mj 0), .ref (Ma 17), .ref (Ma 18), .ref (Ma 19), .ref (Ma 20)])), ((Ma 1), .inl (tc 2, 400, .inl (Mf 1)))] := hD₀
  replace hS := hS₀
  clear hP₀ hD₀ hS₀
  refine lv_aload_n hx hb dX12_isSkyHere_4 rfl (lv_at hl 0 rfl) ?_
  refine lv_iconst (v := 0) hx hb dX12_isSkyHere_5 (by decide) ?_
  refine lv_aload_n hx hb dX12_isSkyHere_6 rfl (lv_at hl 0 rfl) ?_
  refine gf_X12_26 hx hb hts hown hK hP 1 rfl rfl dX12_isSkyHere_7 ?_
  refine lv_iconst (v := 2) hx hb dX12_isSkyHere_10 (by decide) ?_
  refine va_iald hx hb hK hP 0 0 rfl rfl (vin_dec (by decide +kernel)) dX12_isSkyHere_11 ?_
  refine lv_topi (fun x_7 ex_7 => ?_)
  have lx_7 : x_7.toInt = ((Mf 6) 2).toInt := congrArg Int32.toInt ex_7
  refine lv_iconst (v := 1) hx hb dX12_isSkyHere_12 (by decide) ?_
  refine lv_isub hx hb dX12_isSkyHere_13 ?_
  refine lv_topi (fun x_8 ex_8 => ?_)
  have ha_9 : 0 ≤ (sv_4 : Int32).toInt ∧ (sv_4 : Int32).toInt ≤ ((Mv 0) : Int32).toInt ∧ ((Mv 0) : Int32).toInt ≤ 400 := by
    have y_1 : (1 : Int32).toInt = 1 := by decide
    have t_x_8 : x_8.toInt = (x_7 : Int32).toInt - (1 : Int32).toInt := by rw [ex_8]; exact sub_toInt (by omega) (by omega)
    refine ⟨?_, ?_, ?_⟩ <;> omega
  refine cV (a := (Ma 0)) (As := [.int 0, .int x_8]) (rest := []) (wr := [((Ma 6), .inl (tc 0, 95, .inl (Mf 6)))]) ⟨hx, hb, hml, hown, hts⟩ hK hX hA (cu_X12_numberHere l D tc sk (Ma 0) (Ma 1) (Ma 2) (Ma 3) (Ma 4) (Ma 5) (Ma 6) (Ma 7) (Ma 8) (Ma 9) (Ma 10) (Ma 11) (Ma 12) (Ma 13) (Ma 14) (Ma 15) (Ma 16) (Ma 17) (Ma 18) (Ma 19) (Ma 20) (Mv 0) (Mv 1) sv_4 (Mv 3) (Mv 4) (Mv 5) (Mv 6) (Mv 7) (Mv 8) (Mv 9) (Mv 10) (Mv 11) (Mv 12) (Mv 13) (Mv 14) (Mf 1) (Mj 0) 0 x_8 ha_9) k_1252 k_1249 k_1251 k_36 k_106 pl_X12_numberHere ⟨Nat.le_of_ble_eq_true rfl, Nat.le_of_ble_eq_true rfl⟩ rfl rfl (va_recv hK hP (ci := 12) (q0 := 1) rfl rfl) hP hD hS [1, 2] [0] rfl rfl rfl rfl rfl (by decide) rfl hl.1 rfl (Nat.le_of_ble_eq_true rfl) dX12_isSkyHere_14 ⟨Nat.le_of_ble_eq_true rfl, Nat.le_of_ble_eq_true rfl⟩ (fun v_10 u_11 H locs hv_12 hP₀ hD₀ hS₀ => ?_)
  obtain ⟨sv_13, sv_14, sv_15⟩ := u_11
  obtain ⟨r_17, rfl, he_18, pf_16⟩ := hv_12
  have he_18 : ((r_17.toInt = 0 ∧ ¬ (sv_14 : Int32).toInt = 0) ∨ (r_17.toInt = 1 ∧ (0 : Int32).toInt ≤ (sv_15 : Int32).toInt ∧ (sv_15 : Int32).toInt ≤ x_8.toInt ∧ sv_4.toInt + 1 ≤ (sv_13 : Int32).toInt)) := he_18
  have yl_he_18_0 : (0 : Int32).toInt = 0 := by decide
  have pf_16 : (sv_4 : Int32).toInt ≤ (sv_13 : Int32).toInt ∧ (sv_13 : Int32).toInt ≤ ((Mv 0) : Int32).toInt := pf_16
  refine W.eq (g2 := F0 m 17 ls [.int r_17]) rfl ?_
  replace hP : va_P D classes [((Ma 6), .inl (tc 0, 95, .inl (Mf 6))), ((Ma 0), .inr (12, [.ref (Ma 1), .int (Mv 0), .int (Mv 1), .ref (Ma 2), .ref (Ma 3), .ref (Ma 4), .ref (Ma 5), .ref (Ma 6), .int sv_13, .int sv_14, .int sv_15, .int (Mv 5), .int (Mv 6), .int (Mv 7), .int (Mv 8), .ref (Ma 7), .int (Mv 9), .ref (Ma 8), .int (Mv 10), .ref (Ma 9), .ref (Ma 10), .int (Mv 11), .int (Mv 12), .int (Mv 13), .ref (Ma 11), .int (Mv 14), .ref (Ma 12), .ref (Ma 13), .ref (Ma 14), .ref (Ma 15), .ref (Ma 16), .long (Mj 0), .ref (Ma 17), .ref (Ma 18), .ref (Ma 19), .ref (Ma 20)])), ((Ma 1), .inl (tc 2, 400, .inl (Mf 1)))] H := hP₀
  replace hD : va_D A [((Ma 6), .inl (tc 0, 95, .inl (Mf 6))), ((Ma 0), .inr (12, [.ref (Ma 1), .int (Mv 0), .int (Mv 1), .ref (Ma 2), .ref (Ma 3), .ref (Ma 4), .ref (Ma 5), .ref (Ma 6), .int sv_13, .int sv_14, .int sv_15, .int (Mv 5), .int (Mv 6), .int (Mv 7), .int (Mv 8), .ref (Ma 7), .int (Mv 9), .ref (Ma 8), .int (Mv 10), .ref (Ma 9), .ref (Ma 10), .int (Mv 11), .int (Mv 12), .int (Mv 13), .ref (Ma 11), .int (Mv 14), .ref (Ma 12), .ref (Ma 13), .ref (Ma 14), .ref (Ma 15), .ref (Ma 16), .long (Mj 0), .ref (Ma 17), .ref (Ma 18), .ref (Ma 19), .ref (Ma 20)])), ((Ma 1), .inl (tc 2, 400, .inl (Mf 1)))] := hD₀
  replace hS := hS₀
  clear hP₀ hD₀ hS₀
  refine lv_if_ne (tgt := 22) hx hb dX12_isSkyHere_17 (by decide) (fun c_20 => ?_) (fun c_20 => ?_)
  · skip
    refine lv_aload_n hx hb dX12_isSkyHere_22 rfl (lv_at hl 0 rfl) ?_
    refine lv_bipush (v := 74) hx hb dX12_isSkyHere_23 (by decide) ?_
    refine lv_aload_n hx hb dX12_isSkyHere_25 rfl (lv_at hl 0 rfl) ?_
    refine gf_X12_112 hx hb hts hown hK hP 1 rfl rfl dX12_isSkyHere_26 ?_
    refine lv_iadd hx hb dX12_isSkyHere_29 ?_
    refine lv_topi (fun x_21 ex_21 => ?_)
    refine lv_iconst (v := 0) hx hb dX12_isSkyHere_30 (by decide) ?_
    refine lv_bipush (v := 9) hx hb dX12_isSkyHere_31 (by decide) ?_
    have ha_22 : 0 ≤ (sv_13 : Int32).toInt ∧ (sv_13 : Int32).toInt ≤ ((Mv 0) : Int32).toInt ∧ ((Mv 0) : Int32).toInt ≤ 400 := by
      have z_1 : ¬ (r_17 : Int32).toInt = (0 : Int32).toInt := fun z => c_20 (Int32.toInt_inj.mp z)
      have y_0 : (0 : Int32).toInt = 0 := by decide
      have y_1 : (1 : Int32).toInt = 1 := by decide
      have y_74 : (74 : Int32).toInt = 74 := by decide
      have t_x_8 : x_8.toInt = (x_7 : Int32).toInt - (1 : Int32).toInt := by rw [ex_8]; exact sub_toInt (by omega) (by omega)
      have t_x_21 : x_21.toInt = (74 : Int32).toInt + (sv_15 : Int32).toInt := by rw [ex_21]; exact add_toInt (by omega) (by omega)
      refine ⟨?_, ?_, ?_⟩ <;> omega
    have ha_23 : 0 ≤ x_21.toInt ∧ x_21.toInt < 95 := by
      have z_1 : ¬ (r_17 : Int32).toInt = (0 : Int32).toInt := fun z => c_20 (Int32.toInt_inj.mp z)
      have y_0 : (0 : Int32).toInt = 0 := by decide
      have y_1 : (1 : Int32).toInt = 1 := by decide
      have y_74 : (74 : Int32).toInt = 74 := by decide
      have t_x_8 : x_8.toInt = (x_7 : Int32).toInt - (1 : Int32).toInt := by rw [ex_8]; exact sub_toInt (by omega) (by omega)
      have t_x_21 : x_21.toInt = (74 : Int32).toInt + (sv_15 : Int32).toInt := by rw [ex_21]; exact add_toInt (by omega) (by omega)
      refine ⟨?_, ?_⟩ <;> omega
    refine cV (a := (Ma 0)) (As := [.int x_21, .int 0, .int 9]) (rest := []) (wr := []) ⟨hx, hb, hml, hown, hts⟩ hK hX hA (cu_X12_cellHere l D tc sk (Ma 0) (Ma 1) (Ma 2) (Ma 3) (Ma 4) (Ma 5) (Ma 6) (Ma 7) (Ma 8) (Ma 9) (Ma 10) (Ma 11) (Ma 12) (Ma 13) (Ma 14) (Ma 15) (Ma 16) (Ma 17) (Ma 18) (Ma 19) (Ma 20) (Mv 0) (Mv 1) sv_13 sv_14 sv_15 (Mv 5) (Mv 6) (Mv 7) (Mv 8) (Mv 9) (Mv 10) (Mv 11) (Mv 12) (Mv 13) (Mv 14) (Mf 1) (Mf 6) (Mj 0) x_21 0 9 ha_22 ha_23) k_1248 k_1245 k_1247 k_35 k_106 pl_X12_cellHere ⟨Nat.le_of_ble_eq_true rfl, Nat.le_of_ble_eq_true rfl⟩ rfl rfl (va_recv hK hP (ci := 12) (q0 := 1) rfl rfl) hP hD hS [1, 2, 0] [] rfl rfl rfl rfl rfl (by decide) rfl hl.1 rfl (Nat.le_of_ble_eq_true rfl) dX12_isSkyHere_33 ⟨Nat.le_of_ble_eq_true rfl, Nat.le_of_ble_eq_true rfl⟩ (fun v_24 u_25 H locs hv_26 hP₀ hD₀ hS₀ => ?_)
    obtain ⟨sv_27, sv_28, sv_29, sv_30⟩ := u_25
    obtain ⟨r_33, rfl, he_34, pf_31, pf_32⟩ := hv_26
    have he_34 : ((r_33.toInt = 0 ∧ ¬ (sv_28 : Int32).toInt = 0) ∨ (r_33.toInt = 1 ∧ (0 : Int32).toInt ≤ (sv_30 x_21.toNatClampNeg).toInt ∧ (sv_30 x_21.toNatClampNeg).toInt ≤ (9 : Int32).toInt)) := he_34
    have yl_he_34_0 : (0 : Int32).toInt = 0 := by decide
    have yl_he_34_9 : (9 : Int32).toInt = 9 := by decide
    have pf_31 : (sv_13 : Int32).toInt ≤ (sv_27 : Int32).toInt ∧ (sv_27 : Int32).toInt ≤ ((Mv 0) : Int32).toInt := pf_31
    have pf_32 : RdC (Mf 6) sv_30 x_21 := pf_32
    have hr_36 : 4 ≤ (x_21 : Int32).toInt := by
      have z_1 : ¬ (r_17 : Int32).toInt = (0 : Int32).toInt := fun z => c_20 (Int32.toInt_inj.mp z)
      have y_0 : (0 : Int32).toInt = 0 := by decide
      have y_1 : (1 : Int32).toInt = 1 := by decide
      have y_74 : (74 : Int32).toInt = 74 := by decide
      have t_x_8 : x_8.toInt = (x_7 : Int32).toInt - (1 : Int32).toInt := by rw [ex_8]; exact sub_toInt (by omega) (by omega)
      have t_x_21 : x_21.toInt = (74 : Int32).toInt + (sv_15 : Int32).toInt := by rw [ex_21]; exact add_toInt (by omega) (by omega)
      omega
    have kq_pf_32_0 := RdC.at pf_32 0 (by omega) (by omega)
    have hr_37 : 4 ≤ (x_21 : Int32).toInt := by
      have z_1 : ¬ (r_17 : Int32).toInt = (0 : Int32).toInt := fun z => c_20 (Int32.toInt_inj.mp z)
      have y_0 : (0 : Int32).toInt = 0 := by decide
      have y_1 : (1 : Int32).toInt = 1 := by decide
      have y_74 : (74 : Int32).toInt = 74 := by decide
      have t_x_8 : x_8.toInt = (x_7 : Int32).toInt - (1 : Int32).toInt := by rw [ex_8]; exact sub_toInt (by omega) (by omega)
      have t_x_21 : x_21.toInt = (74 : Int32).toInt + (sv_15 : Int32).toInt := by rw [ex_21]; exact add_toInt (by omega) (by omega)
      omega
    have kq_pf_32_2 := RdC.at pf_32 2 (by omega) (by omega)
    have hr_38 : 4 ≤ (x_21 : Int32).toInt := by
      have z_1 : ¬ (r_17 : Int32).toInt = (0 : Int32).toInt := fun z => c_20 (Int32.toInt_inj.mp z)
      have y_0 : (0 : Int32).toInt = 0 := by decide
      have y_1 : (1 : Int32).toInt = 1 := by decide
      have y_74 : (74 : Int32).toInt = 74 := by decide
      have t_x_8 : x_8.toInt = (x_7 : Int32).toInt - (1 : Int32).toInt := by rw [ex_8]; exact sub_toInt (by omega) (by omega)
      have t_x_21 : x_21.toInt = (74 : Int32).toInt + (sv_15 : Int32).toInt := by rw [ex_21]; exact add_toInt (by omega) (by omega)
      omega
    have kq_pf_32_3 := RdC.at pf_32 3 (by omega) (by omega)
    refine W.eq (g2 := F0 m 36 ls [.int r_33]) rfl ?_
    replace hP : va_P D classes [((Ma 0), .inr (12, [.ref (Ma 1), .int (Mv 0), .int (Mv 1), .ref (Ma 2), .ref (Ma 3), .ref (Ma 4), .ref (Ma 5), .ref (Ma 6), .int sv_27, .int sv_28, .int sv_29, .int (Mv 5), .int (Mv 6), .int (Mv 7), .int (Mv 8), .ref (Ma 7), .int (Mv 9), .ref (Ma 8), .int (Mv 10), .ref (Ma 9), .ref (Ma 10), .int (Mv 11), .int (Mv 12), .int (Mv 13), .ref (Ma 11), .int (Mv 14), .ref (Ma 12), .ref (Ma 13), .ref (Ma 14), .ref (Ma 15), .ref (Ma 16), .long (Mj 0), .ref (Ma 17), .ref (Ma 18), .ref (Ma 19), .ref (Ma 20)])), ((Ma 1), .inl (tc 2, 400, .inl (Mf 1))), ((Ma 6), .inl (tc 0, 95, .inl sv_30))] H := hP₀
    replace hD : va_D A [((Ma 0), .inr (12, [.ref (Ma 1), .int (Mv 0), .int (Mv 1), .ref (Ma 2), .ref (Ma 3), .ref (Ma 4), .ref (Ma 5), .ref (Ma 6), .int sv_27, .int sv_28, .int sv_29, .int (Mv 5), .int (Mv 6), .int (Mv 7), .int (Mv 8), .ref (Ma 7), .int (Mv 9), .ref (Ma 8), .int (Mv 10), .ref (Ma 9), .ref (Ma 10), .int (Mv 11), .int (Mv 12), .int (Mv 13), .ref (Ma 11), .int (Mv 14), .ref (Ma 12), .ref (Ma 13), .ref (Ma 14), .ref (Ma 15), .ref (Ma 16), .long (Mj 0), .ref (Ma 17), .ref (Ma 18), .ref (Ma 19), .ref (Ma 20)])), ((Ma 1), .inl (tc 2, 400, .inl (Mf 1))), ((Ma 6), .inl (tc 0, 95, .inl sv_30))] := hD₀
    replace hS := hS₀
    clear hP₀ hD₀ hS₀
    have ha_39 : ((Mv 2) : Int32).toInt ≤ (sv_27 : Int32).toInt ∧ (sv_27 : Int32).toInt ≤ ((Mv 0) : Int32).toInt := by
      have z_1 : ¬ (r_17 : Int32).toInt = (0 : Int32).toInt := fun z => c_20 (Int32.toInt_inj.mp z)
      have y_0 : (0 : Int32).toInt = 0 := by decide
      have y_1 : (1 : Int32).toInt = 1 := by decide
      have y_74 : (74 : Int32).toInt = 74 := by decide
      have t_x_8 : x_8.toInt = (x_7 : Int32).toInt - (1 : Int32).toInt := by rw [ex_8]; exact sub_toInt (by omega) (by omega)
      have t_x_21 : x_21.toInt = (74 : Int32).toInt + (sv_15 : Int32).toInt := by rw [ex_21]; exact add_toInt (by omega) (by omega)
      refine ⟨?_, ?_⟩ <;> omega
    have hb_40 : (r_33 : Int32).toInt = 0 ∨ (r_33 : Int32).toInt = 1 := by
      have z_1 : ¬ (r_17 : Int32).toInt = (0 : Int32).toInt := fun z => c_20 (Int32.toInt_inj.mp z)
      have y_0 : (0 : Int32).toInt = 0 := by decide
      have y_1 : (1 : Int32).toInt = 1 := by decide
      have y_74 : (74 : Int32).toInt = 74 := by decide
      have t_x_8 : x_8.toInt = (x_7 : Int32).toInt - (1 : Int32).toInt := by rw [ex_8]; exact sub_toInt (by omega) (by omega)
      have t_x_21 : x_21.toInt = (74 : Int32).toInt + (sv_15 : Int32).toInt := by rw [ex_21]; exact add_toInt (by omega) (by omega)
      omega
    have hp_41 : (((r_33 : Int32).toInt = 0 ∧ ¬ (sv_28 : Int32).toInt = 0) ∨ (r_33 : Int32).toInt = 1) := by
      have z_1 : ¬ (r_17 : Int32).toInt = (0 : Int32).toInt := fun z => c_20 (Int32.toInt_inj.mp z)
      have y_0 : (0 : Int32).toInt = 0 := by decide
      have y_1 : (1 : Int32).toInt = 1 := by decide
      have y_74 : (74 : Int32).toInt = 74 := by decide
      have t_x_8 : x_8.toInt = (x_7 : Int32).toInt - (1 : Int32).toInt := by rw [ex_8]; exact sub_toInt (by omega) (by omega)
      have t_x_21 : x_21.toInt = (74 : Int32).toInt + (sv_15 : Int32).toInt := by rw [ex_21]; exact add_toInt (by omega) (by omega)
      omega
    have hm_42 : (r_33 : Int32).toInt = 1 → (RdO sv_30) := by
      intro h1r
      have ha_43 : RdO sv_30 := RdO.of (by
        have z_1 : ¬ (r_17 : Int32).toInt = (0 : Int32).toInt := fun z => c_20 (Int32.toInt_inj.mp z)
        have y_0 : (0 : Int32).toInt = 0 := by decide
        have y_1 : (1 : Int32).toInt = 1 := by decide
        have y_74 : (74 : Int32).toInt = 74 := by decide
        have t_x_8 : x_8.toInt = (x_7 : Int32).toInt - (1 : Int32).toInt := by rw [ex_8]; exact sub_toInt (by omega) (by omega)
        have t_x_21 : x_21.toInt = (74 : Int32).toInt + (sv_15 : Int32).toInt := by rw [ex_21]; exact add_toInt (by omega) (by omega)
        omega)
      exact ha_43
    exact retI (v := r_33) hx hb hr hlk (nar01 hb_40) hP hD hS (sv_27, sv_28, sv_29, sv_30) ⟨_, rfl, hp_41, ha_39, hm_42⟩ [0, 1, 2] rfl rfl dX12_isSkyHere_36 (Nat.le_of_ble_eq_true rfl) (Nat.le_of_ble_eq_true rfl) rfl
  · skip
    refine lv_iconst (v := 0) hx hb dX12_isSkyHere_20 (by decide) ?_
    have ha_44 : ((Mv 2) : Int32).toInt ≤ (sv_13 : Int32).toInt ∧ (sv_13 : Int32).toInt ≤ ((Mv 0) : Int32).toInt := by
      have z_1 := congrArg Int32.toInt c_20
      have y_0 : (0 : Int32).toInt = 0 := by decide
      have y_1 : (1 : Int32).toInt = 1 := by decide
      have t_x_8 : x_8.toInt = (x_7 : Int32).toInt - (1 : Int32).toInt := by rw [ex_8]; exact sub_toInt (by omega) (by omega)
      refine ⟨?_, ?_⟩ <;> omega
    have hp_45 : (((0 : Int32).toInt = 0 ∧ ¬ (sv_14 : Int32).toInt = 0) ∨ (0 : Int32).toInt = 1) := by
      have z_1 := congrArg Int32.toInt c_20
      have y_0 : (0 : Int32).toInt = 0 := by decide
      have y_1 : (1 : Int32).toInt = 1 := by decide
      have t_x_8 : x_8.toInt = (x_7 : Int32).toInt - (1 : Int32).toInt := by rw [ex_8]; exact sub_toInt (by omega) (by omega)
      omega
    exact retI (v := 0) hx hb hr hlk (rfl) hP hD hS (sv_13, sv_14, sv_15, (Mf 6)) ⟨_, rfl, hp_45, ha_44, (fun h => absurd h (by decide))⟩ [1, 2, 0] rfl rfl dX12_isSkyHere_21 (Nat.le_of_ble_eq_true rfl) (Nat.le_of_ble_eq_true rfl) rfl
set_option maxRecDepth 100000 in
theorem cu_X12_isSkyHere (l : Launch) (D : va_G) (tc : Nat → ClassId) (sk : (Nat → Nat) × (Nat → Nat)) (Ma_0 : Nat) (Ma_1 : Nat) (Ma_2 : Nat) (Ma_3 : Nat) (Ma_4 : Nat) (Ma_5 : Nat) (Ma_6 : Nat) (Ma_7 : Nat) (Ma_8 : Nat) (Ma_9 : Nat) (Ma_10 : Nat) (Ma_11 : Nat) (Ma_12 : Nat) (Ma_13 : Nat) (Ma_14 : Nat) (Ma_15 : Nat) (Ma_16 : Nat) (Ma_17 : Nat) (Ma_18 : Nat) (Ma_19 : Nat) (Ma_20 : Nat) (Mv_0 : Int32) (Mv_1 : Int32) (Mv_2 : Int32) (Mv_3 : Int32) (Mv_4 : Int32) (Mv_5 : Int32) (Mv_6 : Int32) (Mv_7 : Int32) (Mv_8 : Int32) (Mv_9 : Int32) (Mv_10 : Int32) (Mv_11 : Int32) (Mv_12 : Int32) (Mv_13 : Int32) (Mv_14 : Int32) (Mf_1 : Nat → Int32) (Mf_6 : Nat → Int32) (Mj_0 : Int64) (h_nx : 0 ≤ (Mv_2 : Int32).toInt ∧ (Mv_2 : Int32).toInt ≤ (Mv_0 : Int32).toInt ∧ (Mv_0 : Int32).toInt ≤ 400) (h_ro : RdO Mf_6) (h_f1 : (Mf_6 0).toInt = 1) : Ct l yX12_isSkyHere cX12_isSkyHere 1 (some .boolean) { frames := 3, cells := 0, slots := 0, locals := 72 } D tc sk [.ref Ma_0] [(Ma_0, .inr (12, [.ref Ma_1, .int Mv_0, .int Mv_1, .ref Ma_2, .ref Ma_3, .ref Ma_4, .ref Ma_5, .ref Ma_6, .int Mv_2, .int Mv_3, .int Mv_4, .int Mv_5, .int Mv_6, .int Mv_7, .int Mv_8, .ref Ma_7, .int Mv_9, .ref Ma_8, .int Mv_10, .ref Ma_9, .ref Ma_10, .int Mv_11, .int Mv_12, .int Mv_13, .ref Ma_11, .int Mv_14, .ref Ma_12, .ref Ma_13, .ref Ma_14, .ref Ma_15, .ref Ma_16, .long Mj_0, .ref Ma_17, .ref Ma_18, .ref Ma_19, .ref Ma_20])), (Ma_1, .inl (tc 2, 400, .inl Mf_1)), (Ma_6, .inl (tc 0, 95, .inl Mf_6))] (fun (v : Option Value) (u : (Int32) × (Int32) × (Int32) × (Nat → Int32)) => match u with | (oo0x1, oo0x2, oo0x3, oo0x4) => ∃ r : Int32, v = some (.int r) ∧ (((r.toInt = 0 ∧ ¬ (oo0x2 : Int32).toInt = 0) ∨ r.toInt = 1)) ∧ ((Mv_2 : Int32).toInt ≤ (oo0x1 : Int32).toInt ∧ (oo0x1 : Int32).toInt ≤ (Mv_0 : Int32).toInt) ∧ (r.toInt = 1 → (RdO oo0x4))) (fun (u : (Int32) × (Int32) × (Int32) × (Nat → Int32)) => match u with | (oo0x1, oo0x2, oo0x3, oo0x4) => [(Ma_0, .inr (12, [.ref Ma_1, .int Mv_0, .int Mv_1, .ref Ma_2, .ref Ma_3, .ref Ma_4, .ref Ma_5, .ref Ma_6, .int oo0x1, .int oo0x2, .int oo0x3, .int Mv_5, .int Mv_6, .int Mv_7, .int Mv_8, .ref Ma_7, .int Mv_9, .ref Ma_8, .int Mv_10, .ref Ma_9, .ref Ma_10, .int Mv_11, .int Mv_12, .int Mv_13, .ref Ma_11, .int Mv_14, .ref Ma_12, .ref Ma_13, .ref Ma_14, .ref Ma_15, .ref Ma_16, .long Mj_0, .ref Ma_17, .ref Ma_18, .ref Ma_19, .ref Ma_20])), (Ma_1, .inl (tc 2, 400, .inl Mf_1)), (Ma_6, .inl (tc 0, 95, .inl oo0x4))]) 0 0 :=
  ct_X12_isSkyHere l D tc sk (fun k => ([Ma_0, Ma_1, Ma_2, Ma_3, Ma_4, Ma_5, Ma_6, Ma_7, Ma_8, Ma_9, Ma_10, Ma_11, Ma_12, Ma_13, Ma_14, Ma_15, Ma_16, Ma_17, Ma_18, Ma_19, Ma_20] : List (Nat)).getD k 0) (fun k => ([Mv_0, Mv_1, Mv_2, Mv_3, Mv_4, Mv_5, Mv_6, Mv_7, Mv_8, Mv_9, Mv_10, Mv_11, Mv_12, Mv_13, Mv_14] : List (Int32)).getD k 0) (fun k => ([(fun _ => 0), Mf_1, (fun _ => 0), (fun _ => 0), (fun _ => 0), (fun _ => 0), Mf_6] : List (Nat → Int32)).getD k (fun _ => 0)) (fun k => ([Mj_0] : List (Int64)).getD k 0) h_nx h_ro h_f1
set_option maxHeartbeats 4000000 in
set_option maxRecDepth 100000 in
theorem ct_X12_isBuyerHere (l : Launch) (D : va_G) (tc : Nat → ClassId) (sk : (Nat → Nat) × (Nat → Nat)) (Ma : Nat → Nat) (Mv : Nat → Int32) (Mf : Nat → Nat → Int32) (Mj : Nat → Int64) (x1 : Int32) (h_nx : 0 ≤ ((Mv 2) : Int32).toInt ∧ ((Mv 2) : Int32).toInt ≤ ((Mv 0) : Int32).toInt ∧ ((Mv 0) : Int32).toInt ≤ 400) (h_at : 0 ≤ x1.toInt ∧ x1.toInt ≤ 400) (h_ro : RdO (Mf 6)) (h_f1 : ((Mf 6) 0).toInt = 1) : Ct l yX12_isBuyerHere cX12_isBuyerHere 3 (some .boolean) { frames := 3, cells := 0, slots := 0, locals := 72 } D tc sk [.ref (Ma 0), .int x1] [((Ma 0), .inr (12, [.ref (Ma 1), .int (Mv 0), .int (Mv 1), .ref (Ma 2), .ref (Ma 3), .ref (Ma 4), .ref (Ma 5), .ref (Ma 6), .int (Mv 2), .int (Mv 3), .int (Mv 4), .int (Mv 5), .int (Mv 6), .int (Mv 7), .int (Mv 8), .ref (Ma 7), .int (Mv 9), .ref (Ma 8), .int (Mv 10), .ref (Ma 9), .ref (Ma 10), .int (Mv 11), .int (Mv 12), .int (Mv 13), .ref (Ma 11), .int (Mv 14), .ref (Ma 12), .ref (Ma 13), .ref (Ma 14), .ref (Ma 15), .ref (Ma 16), .long (Mj 0), .ref (Ma 17), .ref (Ma 18), .ref (Ma 19), .ref (Ma 20)])), ((Ma 1), .inl (tc 2, 400, .inl (Mf 1))), ((Ma 6), .inl (tc 0, 95, .inl (Mf 6)))] (fun (v : Option Value) (u : (Int32) × (Int32) × (Int32) × (Nat → Int32)) => match u with | (oo0x1, oo0x2, oo0x3, oo0x4) => ∃ r : Int32, v = some (.int r) ∧ (((r.toInt = 0 ∧ ¬ (oo0x2 : Int32).toInt = 0) ∨ r.toInt = 1)) ∧ (((Mv 2) : Int32).toInt ≤ (oo0x1 : Int32).toInt ∧ (oo0x1 : Int32).toInt ≤ ((Mv 0) : Int32).toInt) ∧ (r.toInt = 1 → (RdO oo0x4))) (fun (u : (Int32) × (Int32) × (Int32) × (Nat → Int32)) => match u with | (oo0x1, oo0x2, oo0x3, oo0x4) => [((Ma 0), .inr (12, [.ref (Ma 1), .int (Mv 0), .int (Mv 1), .ref (Ma 2), .ref (Ma 3), .ref (Ma 4), .ref (Ma 5), .ref (Ma 6), .int oo0x1, .int oo0x2, .int oo0x3, .int (Mv 5), .int (Mv 6), .int (Mv 7), .int (Mv 8), .ref (Ma 7), .int (Mv 9), .ref (Ma 8), .int (Mv 10), .ref (Ma 9), .ref (Ma 10), .int (Mv 11), .int (Mv 12), .int (Mv 13), .ref (Ma 11), .int (Mv 14), .ref (Ma 12), .ref (Ma 13), .ref (Ma 14), .ref (Ma 15), .ref (Ma 16), .long (Mj 0), .ref (Ma 17), .ref (Ma 18), .ref (Ma 19), .ref (Ma 20)])), ((Ma 1), .inl (tc 2, 400, .inl (Mf 1))), ((Ma 6), .inl (tc 0, 95, .inl oo0x4))]) 0 0 := by
  refine Ct.start (by decide) (Nat.le_of_ble_eq_true rfl) (fun p e s m below meth c A ls hx hb hr hlk hin hml hown hts hK hX hP hD hA hl hS => ?_)
  have hl : lv_has ls 3 [(0, .ref (Ma 0)), (1, .int x1)] := hl
  have ar_h_ro := RdO.ar h_ro
  refine lv_aload_n hx hb dX12_isBuyerHere_0 rfl (lv_at hl 0 rfl) ?_
  refine gf_X12_26 hx hb hts hown hK hP 0 rfl rfl dX12_isBuyerHere_1 ?_
  refine lv_iconst (v := 3) hx hb dX12_isBuyerHere_4 (by decide) ?_
  refine va_iald hx hb hK hP 2 0 rfl rfl (vin_dec (by decide +kernel)) dX12_isBuyerHere_5 ?_
  refine lv_topi (fun x_1 ex_1 => ?_)
  have lx_1 : x_1.toInt = ((Mf 6) 3).toInt := congrArg Int32.toInt ex_1
  refine lv_bipush (v := 6) hx hb dX12_isBuyerHere_6 (by decide) ?_
  refine lv_icmp_ne (tgt := 18) hx hb dX12_isBuyerHere_8 (by decide) (fun c_2 => ?_) (fun c_2 => ?_)
  · skip
    refine lv_aload_n hx hb dX12_isBuyerHere_18 rfl (lv_at hl 0 rfl) ?_
    refine cV (a := (Ma 0)) (As := []) (rest := []) (wr := [((Ma 6), .inl (tc 0, 95, .inl (Mf 6)))]) ⟨hx, hb, hml, hown, hts⟩ hK hX hA (cu_X12_passWord l D tc sk (Ma 0) (Ma 1) (Ma 2) (Ma 3) (Ma 4) (Ma 5) (Ma 6) (Ma 7) (Ma 8) (Ma 9) (Ma 10) (Ma 11) (Ma 12) (Ma 13) (Ma 14) (Ma 15) (Ma 16) (Ma 17) (Ma 18) (Ma 19) (Ma 20) (Mv 0) (Mv 1) (Mv 2) (Mv 3) (Mv 4) (Mv 5) (Mv 6) (Mv 7) (Mv 8) (Mv 9) (Mv 10) (Mv 11) (Mv 12) (Mv 13) (Mv 14) (Mf 1) (Mj 0) h_nx) k_1244 k_1241 k_1243 k_34 k_106 pl_X12_passWord ⟨Nat.le_of_ble_eq_true rfl, Nat.le_of_ble_eq_true rfl⟩ rfl rfl (va_recv hK hP (ci := 12) (q0 := 0) rfl rfl) hP hD hS [0, 1] [2] rfl rfl rfl rfl rfl (by decide) rfl hl.1 rfl (Nat.le_of_ble_eq_true rfl) dX12_isBuyerHere_19 ⟨Nat.le_of_ble_eq_true rfl, Nat.le_of_ble_eq_true rfl⟩ (fun v_3 u_4 H locs hv_5 hP₀ hD₀ hS₀ => ?_)
    obtain ⟨sv_6, rfl⟩ : ∃ z, z = u_4 := ⟨_, rfl⟩
    obtain ⟨rfl, pf_7, pf_8⟩ := hv_5
    have pf_7 : ((Mv 2) : Int32).toInt ≤ (sv_6 : Int32).toInt ∧ (sv_6 : Int32).toInt ≤ ((Mv 0) : Int32).toInt := pf_7
    have pf_8 : Pw (Mf 1) (Mv 0) (Mv 2) sv_6 := pf_8
    refine W.eq (g2 := F0 m 22 ls []) rfl ?_
    replace hP : va_P D classes [((Ma 6), .inl (tc 0, 95, .inl (Mf 6))), ((Ma 0), .inr (12, [.ref (Ma 1), .int (Mv 0), .int (Mv 1), .ref (Ma 2), .ref (Ma 3), .ref (Ma 4), .ref (Ma 5), .ref (Ma 6), .int sv_6, .int (Mv 3), .int (Mv 4), .int (Mv 5), .int (Mv 6), .int (Mv 7), .int (Mv 8), .ref (Ma 7), .int (Mv 9), .ref (Ma 8), .int (Mv 10), .ref (Ma 9), .ref (Ma 10), .int (Mv 11), .int (Mv 12), .int (Mv 13), .ref (Ma 11), .int (Mv 14), .ref (Ma 12), .ref (Ma 13), .ref (Ma 14), .ref (Ma 15), .ref (Ma 16), .long (Mj 0), .ref (Ma 17), .ref (Ma 18), .ref (Ma 19), .ref (Ma 20)])), ((Ma 1), .inl (tc 2, 400, .inl (Mf 1)))] H := hP₀
    replace hD : va_D A [((Ma 6), .inl (tc 0, 95, .inl (Mf 6))), ((Ma 0), .inr (12, [.ref (Ma 1), .int (Mv 0), .int (Mv 1), .ref (Ma 2), .ref (Ma 3), .ref (Ma 4), .ref (Ma 5), .ref (Ma 6), .int sv_6, .int (Mv 3), .int (Mv 4), .int (Mv 5), .int (Mv 6), .int (Mv 7), .int (Mv 8), .ref (Ma 7), .int (Mv 9), .ref (Ma 8), .int (Mv 10), .ref (Ma 9), .ref (Ma 10), .int (Mv 11), .int (Mv 12), .int (Mv 13), .ref (Ma 11), .int (Mv 14), .ref (Ma 12), .ref (Ma 13), .ref (Ma 14), .ref (Ma 15), .ref (Ma 16), .long (Mj 0), .ref (Ma 17), .ref (Ma 18), .ref (Ma 19), .ref (Ma 20)])), ((Ma 1), .inl (tc 2, 400, .inl (Mf 1)))] := hD₀
    replace hS := hS₀
    clear hP₀ hD₀ hS₀
    refine lv_aload_n hx hb dX12_isBuyerHere_22 rfl (lv_at hl 0 rfl) ?_
    refine gf_X12_26 hx hb hts hown hK hP 1 rfl rfl dX12_isBuyerHere_23 ?_
    refine lv_iconst (v := 3) hx hb dX12_isBuyerHere_26 (by decide) ?_
    refine va_iald hx hb hK hP 0 0 rfl rfl (vin_dec (by decide +kernel)) dX12_isBuyerHere_27 ?_
    refine lv_topi (fun x_9 ex_9 => ?_)
    have lx_9 : x_9.toInt = ((Mf 6) 3).toInt := congrArg Int32.toInt ex_9
    refine lv_istore_n (lv' := [(2, .int x_9), (0, .ref (Ma 0)), (1, .int x1)]) hx hb dX12_isBuyerHere_28 rfl hl (by decide) rfl (fun ls hl₀ => ?_)
    replace hl := hl₀
    clear hl₀
    refine lv_aload_n hx hb dX12_isBuyerHere_29 rfl (lv_at hl 1 rfl) ?_
    refine lv_bipush (v := 68) hx hb dX12_isBuyerHere_30 (by decide) ?_
    refine lv_iload_n hx hb dX12_isBuyerHere_32 rfl (lv_at hl 0 rfl) ?_
    refine lv_iadd hx hb dX12_isBuyerHere_33 ?_
    refine lv_topi (fun x_10 ex_10 => ?_)
    refine lv_iconst (v := 0) hx hb dX12_isBuyerHere_34 (by decide) ?_
    refine lv_bipush (v := 20) hx hb dX12_isBuyerHere_35 (by decide) ?_
    have ha_11 : 0 ≤ (sv_6 : Int32).toInt ∧ (sv_6 : Int32).toInt ≤ ((Mv 0) : Int32).toInt ∧ ((Mv 0) : Int32).toInt ≤ 400 := by
      have z_1 : ¬ (x_1 : Int32).toInt = (6 : Int32).toInt := fun z => c_2 (Int32.toInt_inj.mp z)
      have y_6 : (6 : Int32).toInt = 6 := by decide
      have y_68 : (68 : Int32).toInt = 68 := by decide
      have t_x_10 : x_10.toInt = (68 : Int32).toInt + (x_9 : Int32).toInt := by rw [ex_10]; exact add_toInt (by omega) (by omega)
      refine ⟨?_, ?_, ?_⟩ <;> omega
    have ha_12 : 0 ≤ x_10.toInt ∧ x_10.toInt < 95 := by
      have z_1 : ¬ (x_1 : Int32).toInt = (6 : Int32).toInt := fun z => c_2 (Int32.toInt_inj.mp z)
      have y_6 : (6 : Int32).toInt = 6 := by decide
      have y_68 : (68 : Int32).toInt = 68 := by decide
      have t_x_10 : x_10.toInt = (68 : Int32).toInt + (x_9 : Int32).toInt := by rw [ex_10]; exact add_toInt (by omega) (by omega)
      refine ⟨?_, ?_⟩ <;> omega
    refine cV (a := (Ma 0)) (As := [.int x_10, .int 0, .int 20]) (rest := []) (wr := []) ⟨hx, hb, hml, hown, hts⟩ hK hX hA (cu_X12_cellHere l D tc sk (Ma 0) (Ma 1) (Ma 2) (Ma 3) (Ma 4) (Ma 5) (Ma 6) (Ma 7) (Ma 8) (Ma 9) (Ma 10) (Ma 11) (Ma 12) (Ma 13) (Ma 14) (Ma 15) (Ma 16) (Ma 17) (Ma 18) (Ma 19) (Ma 20) (Mv 0) (Mv 1) sv_6 (Mv 3) (Mv 4) (Mv 5) (Mv 6) (Mv 7) (Mv 8) (Mv 9) (Mv 10) (Mv 11) (Mv 12) (Mv 13) (Mv 14) (Mf 1) (Mf 6) (Mj 0) x_10 0 20 ha_11 ha_12) k_1248 k_1245 k_1247 k_35 k_106 pl_X12_cellHere ⟨Nat.le_of_ble_eq_true rfl, Nat.le_of_ble_eq_true rfl⟩ rfl rfl (va_recv hK hP (ci := 12) (q0 := 1) rfl rfl) hP hD hS [1, 2, 0] [] rfl rfl rfl rfl rfl (by decide) rfl hl.1 rfl (Nat.le_of_ble_eq_true rfl) dX12_isBuyerHere_37 ⟨Nat.le_of_ble_eq_true rfl, Nat.le_of_ble_eq_true rfl⟩ (fun v_13 u_14 H locs hv_15 hP₀ hD₀ hS₀ => ?_)
    obtain ⟨sv_16, sv_17, sv_18, sv_19⟩ := u_14
    obtain ⟨r_22, rfl, he_23, pf_20, pf_21⟩ := hv_15
    have he_23 : ((r_22.toInt = 0 ∧ ¬ (sv_17 : Int32).toInt = 0) ∨ (r_22.toInt = 1 ∧ (0 : Int32).toInt ≤ (sv_19 x_10.toNatClampNeg).toInt ∧ (sv_19 x_10.toNatClampNeg).toInt ≤ (20 : Int32).toInt)) := he_23
    have yl_he_23_0 : (0 : Int32).toInt = 0 := by decide
    have yl_he_23_20 : (20 : Int32).toInt = 20 := by decide
    have pf_20 : (sv_6 : Int32).toInt ≤ (sv_16 : Int32).toInt ∧ (sv_16 : Int32).toInt ≤ ((Mv 0) : Int32).toInt := pf_20
    have pf_21 : RdC (Mf 6) sv_19 x_10 := pf_21
    have hr_25 : 4 ≤ (x_10 : Int32).toInt := by
      have z_1 : ¬ (x_1 : Int32).toInt = (6 : Int32).toInt := fun z => c_2 (Int32.toInt_inj.mp z)
      have y_6 : (6 : Int32).toInt = 6 := by decide
      have y_68 : (68 : Int32).toInt = 68 := by decide
      have t_x_10 : x_10.toInt = (68 : Int32).toInt + (x_9 : Int32).toInt := by rw [ex_10]; exact add_toInt (by omega) (by omega)
      omega
    have kq_pf_21_0 := RdC.at pf_21 0 (by omega) (by omega)
    have hr_26 : 4 ≤ (x_10 : Int32).toInt := by
      have z_1 : ¬ (x_1 : Int32).toInt = (6 : Int32).toInt := fun z => c_2 (Int32.toInt_inj.mp z)
      have y_6 : (6 : Int32).toInt = 6 := by decide
      have y_68 : (68 : Int32).toInt = 68 := by decide
      have t_x_10 : x_10.toInt = (68 : Int32).toInt + (x_9 : Int32).toInt := by rw [ex_10]; exact add_toInt (by omega) (by omega)
      omega
    have kq_pf_21_2 := RdC.at pf_21 2 (by omega) (by omega)
    have hr_27 : 4 ≤ (x_10 : Int32).toInt := by
      have z_1 : ¬ (x_1 : Int32).toInt = (6 : Int32).toInt := fun z => c_2 (Int32.toInt_inj.mp z)
      have y_6 : (6 : Int32).toInt = 6 := by decide
      have y_68 : (68 : Int32).toInt = 68 := by decide
      have t_x_10 : x_10.toInt = (68 : Int32).toInt + (x_9 : Int32).toInt := by rw [ex_10]; exact add_toInt (by omega) (by omega)
      omega
    have kq_pf_21_3 := RdC.at pf_21 3 (by omega) (by omega)
    refine W.eq (g2 := F0 m 40 ls [.int r_22]) rfl ?_
    replace hP : va_P D classes [((Ma 0), .inr (12, [.ref (Ma 1), .int (Mv 0), .int (Mv 1), .ref (Ma 2), .ref (Ma 3), .ref (Ma 4), .ref (Ma 5), .ref (Ma 6), .int sv_16, .int sv_17, .int sv_18, .int (Mv 5), .int (Mv 6), .int (Mv 7), .int (Mv 8), .ref (Ma 7), .int (Mv 9), .ref (Ma 8), .int (Mv 10), .ref (Ma 9), .ref (Ma 10), .int (Mv 11), .int (Mv 12), .int (Mv 13), .ref (Ma 11), .int (Mv 14), .ref (Ma 12), .ref (Ma 13), .ref (Ma 14), .ref (Ma 15), .ref (Ma 16), .long (Mj 0), .ref (Ma 17), .ref (Ma 18), .ref (Ma 19), .ref (Ma 20)])), ((Ma 1), .inl (tc 2, 400, .inl (Mf 1))), ((Ma 6), .inl (tc 0, 95, .inl sv_19))] H := hP₀
    replace hD : va_D A [((Ma 0), .inr (12, [.ref (Ma 1), .int (Mv 0), .int (Mv 1), .ref (Ma 2), .ref (Ma 3), .ref (Ma 4), .ref (Ma 5), .ref (Ma 6), .int sv_16, .int sv_17, .int sv_18, .int (Mv 5), .int (Mv 6), .int (Mv 7), .int (Mv 8), .ref (Ma 7), .int (Mv 9), .ref (Ma 8), .int (Mv 10), .ref (Ma 9), .ref (Ma 10), .int (Mv 11), .int (Mv 12), .int (Mv 13), .ref (Ma 11), .int (Mv 14), .ref (Ma 12), .ref (Ma 13), .ref (Ma 14), .ref (Ma 15), .ref (Ma 16), .long (Mj 0), .ref (Ma 17), .ref (Ma 18), .ref (Ma 19), .ref (Ma 20)])), ((Ma 1), .inl (tc 2, 400, .inl (Mf 1))), ((Ma 6), .inl (tc 0, 95, .inl sv_19))] := hD₀
    replace hS := hS₀
    clear hP₀ hD₀ hS₀
    refine lv_if_eq (tgt := 71) hx hb dX12_isBuyerHere_40 (by decide) (fun c_28 => ?_) (fun c_28 => ?_)
    · skip
      refine lv_iconst (v := 0) hx hb dX12_isBuyerHere_71 (by decide) ?_
      have ha_29 : ((Mv 2) : Int32).toInt ≤ (sv_16 : Int32).toInt ∧ (sv_16 : Int32).toInt ≤ ((Mv 0) : Int32).toInt := by
        have z_1 : ¬ (x_1 : Int32).toInt = (6 : Int32).toInt := fun z => c_2 (Int32.toInt_inj.mp z)
        have z_2 := congrArg Int32.toInt c_28
        have y_0 : (0 : Int32).toInt = 0 := by decide
        have y_6 : (6 : Int32).toInt = 6 := by decide
        have y_68 : (68 : Int32).toInt = 68 := by decide
        have t_x_10 : x_10.toInt = (68 : Int32).toInt + (x_9 : Int32).toInt := by rw [ex_10]; exact add_toInt (by omega) (by omega)
        refine ⟨?_, ?_⟩ <;> omega
      have hp_30 : (((0 : Int32).toInt = 0 ∧ ¬ (sv_17 : Int32).toInt = 0) ∨ (0 : Int32).toInt = 1) := by
        have z_1 : ¬ (x_1 : Int32).toInt = (6 : Int32).toInt := fun z => c_2 (Int32.toInt_inj.mp z)
        have z_2 := congrArg Int32.toInt c_28
        have y_0 : (0 : Int32).toInt = 0 := by decide
        have y_6 : (6 : Int32).toInt = 6 := by decide
        have y_68 : (68 : Int32).toInt = 68 := by decide
        have t_x_10 : x_10.toInt = (68 : Int32).toInt + (x_9 : Int32).toInt := by rw [ex_10]; exact add_toInt (by omega) (by omega)
        omega
      exact retI (v := 0) hx hb hr hlk (rfl) hP hD hS (sv_16, sv_17, sv_18, sv_19) ⟨_, rfl, hp_30, ha_29, (fun h => absurd h (by decide))⟩ [0, 1, 2] rfl rfl dX12_isBuyerHere_72 (Nat.le_of_ble_eq_true rfl) (Nat.le_of_ble_eq_true rfl) rfl
    · skip
      refine lv_aload_n hx hb dX12_isBuyerHere_43 rfl (lv_at hl 1 rfl) ?_
      refine lv_bipush (v := 56) hx hb dX12_isBuyerHere_44 (by decide) ?_
      refine lv_iload_n hx hb dX12_isBuyerHere_46 rfl (lv_at hl 0 rfl) ?_
      refine lv_iadd hx hb dX12_isBuyerHere_47 ?_
      refine lv_topi (fun x_31 ex_31 => ?_)
      refine lv_iconst (v := 1) hx hb dX12_isBuyerHere_48 (by decide) ?_
      refine lv_bipush (v := 9) hx hb dX12_isBuyerHere_49 (by decide) ?_
      have ha_32 : 0 ≤ (sv_16 : Int32).toInt ∧ (sv_16 : Int32).toInt ≤ ((Mv 0) : Int32).toInt ∧ ((Mv 0) : Int32).toInt ≤ 400 := by
        have z_1 : ¬ (x_1 : Int32).toInt = (6 : Int32).toInt := fun z => c_2 (Int32.toInt_inj.mp z)
        have z_2 : ¬ (r_22 : Int32).toInt = (0 : Int32).toInt := fun z => c_28 (Int32.toInt_inj.mp z)
        have y_0 : (0 : Int32).toInt = 0 := by decide
        have y_6 : (6 : Int32).toInt = 6 := by decide
        have y_56 : (56 : Int32).toInt = 56 := by decide
        have y_68 : (68 : Int32).toInt = 68 := by decide
        have t_x_10 : x_10.toInt = (68 : Int32).toInt + (x_9 : Int32).toInt := by rw [ex_10]; exact add_toInt (by omega) (by omega)
        have t_x_31 : x_31.toInt = (56 : Int32).toInt + (x_9 : Int32).toInt := by rw [ex_31]; exact add_toInt (by omega) (by omega)
        refine ⟨?_, ?_, ?_⟩ <;> omega
      have ha_33 : 0 ≤ x_31.toInt ∧ x_31.toInt < 95 := by
        have z_1 : ¬ (x_1 : Int32).toInt = (6 : Int32).toInt := fun z => c_2 (Int32.toInt_inj.mp z)
        have z_2 : ¬ (r_22 : Int32).toInt = (0 : Int32).toInt := fun z => c_28 (Int32.toInt_inj.mp z)
        have y_0 : (0 : Int32).toInt = 0 := by decide
        have y_6 : (6 : Int32).toInt = 6 := by decide
        have y_56 : (56 : Int32).toInt = 56 := by decide
        have y_68 : (68 : Int32).toInt = 68 := by decide
        have t_x_10 : x_10.toInt = (68 : Int32).toInt + (x_9 : Int32).toInt := by rw [ex_10]; exact add_toInt (by omega) (by omega)
        have t_x_31 : x_31.toInt = (56 : Int32).toInt + (x_9 : Int32).toInt := by rw [ex_31]; exact add_toInt (by omega) (by omega)
        refine ⟨?_, ?_⟩ <;> omega
      refine cV (a := (Ma 0)) (As := [.int x_31, .int 1, .int 9]) (rest := []) (wr := []) ⟨hx, hb, hml, hown, hts⟩ hK hX hA (cu_X12_cellHere l D tc sk (Ma 0) (Ma 1) (Ma 2) (Ma 3) (Ma 4) (Ma 5) (Ma 6) (Ma 7) (Ma 8) (Ma 9) (Ma 10) (Ma 11) (Ma 12) (Ma 13) (Ma 14) (Ma 15) (Ma 16) (Ma 17) (Ma 18) (Ma 19) (Ma 20) (Mv 0) (Mv 1) sv_16 sv_17 sv_18 (Mv 5) (Mv 6) (Mv 7) (Mv 8) (Mv 9) (Mv 10) (Mv 11) (Mv 12) (Mv 13) (Mv 14) (Mf 1) sv_19 (Mj 0) x_31 1 9 ha_32 ha_33) k_1248 k_1245 k_1247 k_35 k_106 pl_X12_cellHere ⟨Nat.le_of_ble_eq_true rfl, Nat.le_of_ble_eq_true rfl⟩ rfl rfl (va_recv hK hP (ci := 12) (q0 := 0) rfl rfl) hP hD hS [0, 1, 2] [] rfl rfl rfl rfl rfl (by decide) rfl hl.1 rfl (Nat.le_of_ble_eq_true rfl) dX12_isBuyerHere_51 ⟨Nat.le_of_ble_eq_true rfl, Nat.le_of_ble_eq_true rfl⟩ (fun v_34 u_35 H locs hv_36 hP₀ hD₀ hS₀ => ?_)
      obtain ⟨sv_37, sv_38, sv_39, sv_40⟩ := u_35
      obtain ⟨r_43, rfl, he_44, pf_41, pf_42⟩ := hv_36
      have he_44 : ((r_43.toInt = 0 ∧ ¬ (sv_38 : Int32).toInt = 0) ∨ (r_43.toInt = 1 ∧ (1 : Int32).toInt ≤ (sv_40 x_31.toNatClampNeg).toInt ∧ (sv_40 x_31.toNatClampNeg).toInt ≤ (9 : Int32).toInt)) := he_44
      have yl_he_44_1 : (1 : Int32).toInt = 1 := by decide
      have yl_he_44_9 : (9 : Int32).toInt = 9 := by decide
      have pf_41 : (sv_16 : Int32).toInt ≤ (sv_37 : Int32).toInt ∧ (sv_37 : Int32).toInt ≤ ((Mv 0) : Int32).toInt := pf_41
      have pf_42 : RdC sv_19 sv_40 x_31 := pf_42
      have hr_46 : 4 ≤ (x_31 : Int32).toInt := by
        have z_1 : ¬ (x_1 : Int32).toInt = (6 : Int32).toInt := fun z => c_2 (Int32.toInt_inj.mp z)
        have z_2 : ¬ (r_22 : Int32).toInt = (0 : Int32).toInt := fun z => c_28 (Int32.toInt_inj.mp z)
        have y_0 : (0 : Int32).toInt = 0 := by decide
        have y_6 : (6 : Int32).toInt = 6 := by decide
        have y_56 : (56 : Int32).toInt = 56 := by decide
        have y_68 : (68 : Int32).toInt = 68 := by decide
        have t_x_10 : x_10.toInt = (68 : Int32).toInt + (x_9 : Int32).toInt := by rw [ex_10]; exact add_toInt (by omega) (by omega)
        have t_x_31 : x_31.toInt = (56 : Int32).toInt + (x_9 : Int32).toInt := by rw [ex_31]; exact add_toInt (by omega) (by omega)
        omega
      have kq_pf_42_0 := RdC.at pf_42 0 (by omega) (by omega)
      have hr_47 : 4 ≤ (x_31 : Int32).toInt := by
        have z_1 : ¬ (x_1 : Int32).toInt = (6 : Int32).toInt := fun z => c_2 (Int32.toInt_inj.mp z)
        have z_2 : ¬ (r_22 : Int32).toInt = (0 : Int32).toInt := fun z => c_28 (Int32.toInt_inj.mp z)
        have y_0 : (0 : Int32).toInt = 0 := by decide
        have y_6 : (6 : Int32).toInt = 6 := by decide
        have y_56 : (56 : Int32).toInt = 56 := by decide
        have y_68 : (68 : Int32).toInt = 68 := by decide
        have t_x_10 : x_10.toInt = (68 : Int32).toInt + (x_9 : Int32).toInt := by rw [ex_10]; exact add_toInt (by omega) (by omega)
        have t_x_31 : x_31.toInt = (56 : Int32).toInt + (x_9 : Int32).toInt := by rw [ex_31]; exact add_toInt (by omega) (by omega)
        omega
      have kq_pf_42_2 := RdC.at pf_42 2 (by omega) (by omega)
      have hr_48 : 4 ≤ (x_31 : Int32).toInt := by
        have z_1 : ¬ (x_1 : Int32).toInt = (6 : Int32).toInt := fun z => c_2 (Int32.toInt_inj.mp z)
        have z_2 : ¬ (r_22 : Int32).toInt = (0 : Int32).toInt := fun z => c_28 (Int32.toInt_inj.mp z)
        have y_0 : (0 : Int32).toInt = 0 := by decide
        have y_6 : (6 : Int32).toInt = 6 := by decide
        have y_56 : (56 : Int32).toInt = 56 := by decide
        have y_68 : (68 : Int32).toInt = 68 := by decide
        have t_x_10 : x_10.toInt = (68 : Int32).toInt + (x_9 : Int32).toInt := by rw [ex_10]; exact add_toInt (by omega) (by omega)
        have t_x_31 : x_31.toInt = (56 : Int32).toInt + (x_9 : Int32).toInt := by rw [ex_31]; exact add_toInt (by omega) (by omega)
        omega
      have kq_pf_42_3 := RdC.at pf_42 3 (by omega) (by omega)
      refine W.eq (g2 := F0 m 54 ls [.int r_43]) rfl ?_
      replace hP : va_P D classes [((Ma 0), .inr (12, [.ref (Ma 1), .int (Mv 0), .int (Mv 1), .ref (Ma 2), .ref (Ma 3), .ref (Ma 4), .ref (Ma 5), .ref (Ma 6), .int sv_37, .int sv_38, .int sv_39, .int (Mv 5), .int (Mv 6), .int (Mv 7), .int (Mv 8), .ref (Ma 7), .int (Mv 9), .ref (Ma 8), .int (Mv 10), .ref (Ma 9), .ref (Ma 10), .int (Mv 11), .int (Mv 12), .int (Mv 13), .ref (Ma 11), .int (Mv 14), .ref (Ma 12), .ref (Ma 13), .ref (Ma 14), .ref (Ma 15), .ref (Ma 16), .long (Mj 0), .ref (Ma 17), .ref (Ma 18), .ref (Ma 19), .ref (Ma 20)])), ((Ma 1), .inl (tc 2, 400, .inl (Mf 1))), ((Ma 6), .inl (tc 0, 95, .inl sv_40))] H := hP₀
      replace hD : va_D A [((Ma 0), .inr (12, [.ref (Ma 1), .int (Mv 0), .int (Mv 1), .ref (Ma 2), .ref (Ma 3), .ref (Ma 4), .ref (Ma 5), .ref (Ma 6), .int sv_37, .int sv_38, .int sv_39, .int (Mv 5), .int (Mv 6), .int (Mv 7), .int (Mv 8), .ref (Ma 7), .int (Mv 9), .ref (Ma 8), .int (Mv 10), .ref (Ma 9), .ref (Ma 10), .int (Mv 11), .int (Mv 12), .int (Mv 13), .ref (Ma 11), .int (Mv 14), .ref (Ma 12), .ref (Ma 13), .ref (Ma 14), .ref (Ma 15), .ref (Ma 16), .long (Mj 0), .ref (Ma 17), .ref (Ma 18), .ref (Ma 19), .ref (Ma 20)])), ((Ma 1), .inl (tc 2, 400, .inl (Mf 1))), ((Ma 6), .inl (tc 0, 95, .inl sv_40))] := hD₀
      replace hS := hS₀
      clear hP₀ hD₀ hS₀
      refine lv_if_eq (tgt := 71) hx hb dX12_isBuyerHere_54 (by decide) (fun c_49 => ?_) (fun c_49 => ?_)
      · skip
        refine lv_iconst (v := 0) hx hb dX12_isBuyerHere_71 (by decide) ?_
        have ha_50 : ((Mv 2) : Int32).toInt ≤ (sv_37 : Int32).toInt ∧ (sv_37 : Int32).toInt ≤ ((Mv 0) : Int32).toInt := by
          have z_1 : ¬ (x_1 : Int32).toInt = (6 : Int32).toInt := fun z => c_2 (Int32.toInt_inj.mp z)
          have z_2 : ¬ (r_22 : Int32).toInt = (0 : Int32).toInt := fun z => c_28 (Int32.toInt_inj.mp z)
          have z_3 := congrArg Int32.toInt c_49
          have y_0 : (0 : Int32).toInt = 0 := by decide
          have y_6 : (6 : Int32).toInt = 6 := by decide
          have y_56 : (56 : Int32).toInt = 56 := by decide
          have y_68 : (68 : Int32).toInt = 68 := by decide
          have t_x_10 : x_10.toInt = (68 : Int32).toInt + (x_9 : Int32).toInt := by rw [ex_10]; exact add_toInt (by omega) (by omega)
          have t_x_31 : x_31.toInt = (56 : Int32).toInt + (x_9 : Int32).toInt := by rw [ex_31]; exact add_toInt (by omega) (by omega)
          refine ⟨?_, ?_⟩ <;> omega
        have hp_51 : (((0 : Int32).toInt = 0 ∧ ¬ (sv_38 : Int32).toInt = 0) ∨ (0 : Int32).toInt = 1) := by
          have z_1 : ¬ (x_1 : Int32).toInt = (6 : Int32).toInt := fun z => c_2 (Int32.toInt_inj.mp z)
          have z_2 : ¬ (r_22 : Int32).toInt = (0 : Int32).toInt := fun z => c_28 (Int32.toInt_inj.mp z)
          have z_3 := congrArg Int32.toInt c_49
          have y_0 : (0 : Int32).toInt = 0 := by decide
          have y_6 : (6 : Int32).toInt = 6 := by decide
          have y_56 : (56 : Int32).toInt = 56 := by decide
          have y_68 : (68 : Int32).toInt = 68 := by decide
          have t_x_10 : x_10.toInt = (68 : Int32).toInt + (x_9 : Int32).toInt := by rw [ex_10]; exact add_toInt (by omega) (by omega)
          have t_x_31 : x_31.toInt = (56 : Int32).toInt + (x_9 : Int32).toInt := by rw [ex_31]; exact add_toInt (by omega) (by omega)
          omega
        exact retI (v := 0) hx hb hr hlk (rfl) hP hD hS (sv_37, sv_38, sv_39, sv_40) ⟨_, rfl, hp_51, ha_50, (fun h => absurd h (by decide))⟩ [0, 1, 2] rfl rfl dX12_isBuyerHere_72 (Nat.le_of_ble_eq_true rfl) (Nat.le_of_ble_eq_true rfl) rfl
      · skip
        refine lv_aload_n hx hb dX12_isBuyerHere_57 rfl (lv_at hl 1 rfl) ?_
        refine lv_bipush (v := 62) hx hb dX12_isBuyerHere_58 (by decide) ?_
        refine lv_iload_n hx hb dX12_isBuyerHere_60 rfl (lv_at hl 0 rfl) ?_
        refine lv_iadd hx hb dX12_isBuyerHere_61 ?_
        refine lv_topi (fun x_52 ex_52 => ?_)
        refine lv_iconst (v := 0) hx hb dX12_isBuyerHere_62 (by decide) ?_
        refine lv_bipush (v := 9) hx hb dX12_isBuyerHere_63 (by decide) ?_
        have ha_53 : 0 ≤ (sv_37 : Int32).toInt ∧ (sv_37 : Int32).toInt ≤ ((Mv 0) : Int32).toInt ∧ ((Mv 0) : Int32).toInt ≤ 400 := by
          have z_1 : ¬ (x_1 : Int32).toInt = (6 : Int32).toInt := fun z => c_2 (Int32.toInt_inj.mp z)
          have z_2 : ¬ (r_22 : Int32).toInt = (0 : Int32).toInt := fun z => c_28 (Int32.toInt_inj.mp z)
          have z_3 : ¬ (r_43 : Int32).toInt = (0 : Int32).toInt := fun z => c_49 (Int32.toInt_inj.mp z)
          have y_0 : (0 : Int32).toInt = 0 := by decide
          have y_6 : (6 : Int32).toInt = 6 := by decide
          have y_56 : (56 : Int32).toInt = 56 := by decide
          have y_62 : (62 : Int32).toInt = 62 := by decide
          have y_68 : (68 : Int32).toInt = 68 := by decide
          have t_x_10 : x_10.toInt = (68 : Int32).toInt + (x_9 : Int32).toInt := by rw [ex_10]; exact add_toInt (by omega) (by omega)
          have t_x_31 : x_31.toInt = (56 : Int32).toInt + (x_9 : Int32).toInt := by rw [ex_31]; exact add_toInt (by omega) (by omega)
          have t_x_52 : x_52.toInt = (62 : Int32).toInt + (x_9 : Int32).toInt := by rw [ex_52]; exact add_toInt (by omega) (by omega)
          refine ⟨?_, ?_, ?_⟩ <;> omega
        have ha_54 : 0 ≤ x_52.toInt ∧ x_52.toInt < 95 := by
          have z_1 : ¬ (x_1 : Int32).toInt = (6 : Int32).toInt := fun z => c_2 (Int32.toInt_inj.mp z)
          have z_2 : ¬ (r_22 : Int32).toInt = (0 : Int32).toInt := fun z => c_28 (Int32.toInt_inj.mp z)
          have z_3 : ¬ (r_43 : Int32).toInt = (0 : Int32).toInt := fun z => c_49 (Int32.toInt_inj.mp z)
          have y_0 : (0 : Int32).toInt = 0 := by decide
          have y_6 : (6 : Int32).toInt = 6 := by decide
          have y_56 : (56 : Int32).toInt = 56 := by decide
          have y_62 : (62 : Int32).toInt = 62 := by decide
          have y_68 : (68 : Int32).toInt = 68 := by decide
          have t_x_10 : x_10.toInt = (68 : Int32).toInt + (x_9 : Int32).toInt := by rw [ex_10]; exact add_toInt (by omega) (by omega)
          have t_x_31 : x_31.toInt = (56 : Int32).toInt + (x_9 : Int32).toInt := by rw [ex_31]; exact add_toInt (by omega) (by omega)
          have t_x_52 : x_52.toInt = (62 : Int32).toInt + (x_9 : Int32).toInt := by rw [ex_52]; exact add_toInt (by omega) (by omega)
          refine ⟨?_, ?_⟩ <;> omega
        refine cV (a := (Ma 0)) (As := [.int x_52, .int 0, .int 9]) (rest := []) (wr := []) ⟨hx, hb, hml, hown, hts⟩ hK hX hA (cu_X12_cellHere l D tc sk (Ma 0) (Ma 1) (Ma 2) (Ma 3) (Ma 4) (Ma 5) (Ma 6) (Ma 7) (Ma 8) (Ma 9) (Ma 10) (Ma 11) (Ma 12) (Ma 13) (Ma 14) (Ma 15) (Ma 16) (Ma 17) (Ma 18) (Ma 19) (Ma 20) (Mv 0) (Mv 1) sv_37 sv_38 sv_39 (Mv 5) (Mv 6) (Mv 7) (Mv 8) (Mv 9) (Mv 10) (Mv 11) (Mv 12) (Mv 13) (Mv 14) (Mf 1) sv_40 (Mj 0) x_52 0 9 ha_53 ha_54) k_1248 k_1245 k_1247 k_35 k_106 pl_X12_cellHere ⟨Nat.le_of_ble_eq_true rfl, Nat.le_of_ble_eq_true rfl⟩ rfl rfl (va_recv hK hP (ci := 12) (q0 := 0) rfl rfl) hP hD hS [0, 1, 2] [] rfl rfl rfl rfl rfl (by decide) rfl hl.1 rfl (Nat.le_of_ble_eq_true rfl) dX12_isBuyerHere_65 ⟨Nat.le_of_ble_eq_true rfl, Nat.le_of_ble_eq_true rfl⟩ (fun v_55 u_56 H locs hv_57 hP₀ hD₀ hS₀ => ?_)
        obtain ⟨sv_58, sv_59, sv_60, sv_61⟩ := u_56
        obtain ⟨r_64, rfl, he_65, pf_62, pf_63⟩ := hv_57
        have he_65 : ((r_64.toInt = 0 ∧ ¬ (sv_59 : Int32).toInt = 0) ∨ (r_64.toInt = 1 ∧ (0 : Int32).toInt ≤ (sv_61 x_52.toNatClampNeg).toInt ∧ (sv_61 x_52.toNatClampNeg).toInt ≤ (9 : Int32).toInt)) := he_65
        have yl_he_65_0 : (0 : Int32).toInt = 0 := by decide
        have yl_he_65_9 : (9 : Int32).toInt = 9 := by decide
        have pf_62 : (sv_37 : Int32).toInt ≤ (sv_58 : Int32).toInt ∧ (sv_58 : Int32).toInt ≤ ((Mv 0) : Int32).toInt := pf_62
        have pf_63 : RdC sv_40 sv_61 x_52 := pf_63
        have hr_67 : 4 ≤ (x_52 : Int32).toInt := by
          have z_1 : ¬ (x_1 : Int32).toInt = (6 : Int32).toInt := fun z => c_2 (Int32.toInt_inj.mp z)
          have z_2 : ¬ (r_22 : Int32).toInt = (0 : Int32).toInt := fun z => c_28 (Int32.toInt_inj.mp z)
          have z_3 : ¬ (r_43 : Int32).toInt = (0 : Int32).toInt := fun z => c_49 (Int32.toInt_inj.mp z)
          have y_0 : (0 : Int32).toInt = 0 := by decide
          have y_6 : (6 : Int32).toInt = 6 := by decide
          have y_56 : (56 : Int32).toInt = 56 := by decide
          have y_62 : (62 : Int32).toInt = 62 := by decide
          have y_68 : (68 : Int32).toInt = 68 := by decide
          have t_x_10 : x_10.toInt = (68 : Int32).toInt + (x_9 : Int32).toInt := by rw [ex_10]; exact add_toInt (by omega) (by omega)
          have t_x_31 : x_31.toInt = (56 : Int32).toInt + (x_9 : Int32).toInt := by rw [ex_31]; exact add_toInt (by omega) (by omega)
          have t_x_52 : x_52.toInt = (62 : Int32).toInt + (x_9 : Int32).toInt := by rw [ex_52]; exact add_toInt (by omega) (by omega)
          omega
        have kq_pf_63_0 := RdC.at pf_63 0 (by omega) (by omega)
        have hr_68 : 4 ≤ (x_52 : Int32).toInt := by
          have z_1 : ¬ (x_1 : Int32).toInt = (6 : Int32).toInt := fun z => c_2 (Int32.toInt_inj.mp z)
          have z_2 : ¬ (r_22 : Int32).toInt = (0 : Int32).toInt := fun z => c_28 (Int32.toInt_inj.mp z)
          have z_3 : ¬ (r_43 : Int32).toInt = (0 : Int32).toInt := fun z => c_49 (Int32.toInt_inj.mp z)
          have y_0 : (0 : Int32).toInt = 0 := by decide
          have y_6 : (6 : Int32).toInt = 6 := by decide
          have y_56 : (56 : Int32).toInt = 56 := by decide
          have y_62 : (62 : Int32).toInt = 62 := by decide
          have y_68 : (68 : Int32).toInt = 68 := by decide
          have t_x_10 : x_10.toInt = (68 : Int32).toInt + (x_9 : Int32).toInt := by rw [ex_10]; exact add_toInt (by omega) (by omega)
          have t_x_31 : x_31.toInt = (56 : Int32).toInt + (x_9 : Int32).toInt := by rw [ex_31]; exact add_toInt (by omega) (by omega)
          have t_x_52 : x_52.toInt = (62 : Int32).toInt + (x_9 : Int32).toInt := by rw [ex_52]; exact add_toInt (by omega) (by omega)
          omega
        have kq_pf_63_2 := RdC.at pf_63 2 (by omega) (by omega)
        have hr_69 : 4 ≤ (x_52 : Int32).toInt := by
          have z_1 : ¬ (x_1 : Int32).toInt = (6 : Int32).toInt := fun z => c_2 (Int32.toInt_inj.mp z)
          have z_2 : ¬ (r_22 : Int32).toInt = (0 : Int32).toInt := fun z => c_28 (Int32.toInt_inj.mp z)
          have z_3 : ¬ (r_43 : Int32).toInt = (0 : Int32).toInt := fun z => c_49 (Int32.toInt_inj.mp z)
          have y_0 : (0 : Int32).toInt = 0 := by decide
          have y_6 : (6 : Int32).toInt = 6 := by decide
          have y_56 : (56 : Int32).toInt = 56 := by decide
          have y_62 : (62 : Int32).toInt = 62 := by decide
          have y_68 : (68 : Int32).toInt = 68 := by decide
          have t_x_10 : x_10.toInt = (68 : Int32).toInt + (x_9 : Int32).toInt := by rw [ex_10]; exact add_toInt (by omega) (by omega)
          have t_x_31 : x_31.toInt = (56 : Int32).toInt + (x_9 : Int32).toInt := by rw [ex_31]; exact add_toInt (by omega) (by omega)
          have t_x_52 : x_52.toInt = (62 : Int32).toInt + (x_9 : Int32).toInt := by rw [ex_52]; exact add_toInt (by omega) (by omega)
          omega
        have kq_pf_63_3 := RdC.at pf_63 3 (by omega) (by omega)
        refine W.eq (g2 := F0 m 68 ls [.int r_64]) rfl ?_
        replace hP : va_P D classes [((Ma 0), .inr (12, [.ref (Ma 1), .int (Mv 0), .int (Mv 1), .ref (Ma 2), .ref (Ma 3), .ref (Ma 4), .ref (Ma 5), .ref (Ma 6), .int sv_58, .int sv_59, .int sv_60, .int (Mv 5), .int (Mv 6), .int (Mv 7), .int (Mv 8), .ref (Ma 7), .int (Mv 9), .ref (Ma 8), .int (Mv 10), .ref (Ma 9), .ref (Ma 10), .int (Mv 11), .int (Mv 12), .int (Mv 13), .ref (Ma 11), .int (Mv 14), .ref (Ma 12), .ref (Ma 13), .ref (Ma 14), .ref (Ma 15), .ref (Ma 16), .long (Mj 0), .ref (Ma 17), .ref (Ma 18), .ref (Ma 19), .ref (Ma 20)])), ((Ma 1), .inl (tc 2, 400, .inl (Mf 1))), ((Ma 6), .inl (tc 0, 95, .inl sv_61))] H := hP₀
        replace hD : va_D A [((Ma 0), .inr (12, [.ref (Ma 1), .int (Mv 0), .int (Mv 1), .ref (Ma 2), .ref (Ma 3), .ref (Ma 4), .ref (Ma 5), .ref (Ma 6), .int sv_58, .int sv_59, .int sv_60, .int (Mv 5), .int (Mv 6), .int (Mv 7), .int (Mv 8), .ref (Ma 7), .int (Mv 9), .ref (Ma 8), .int (Mv 10), .ref (Ma 9), .ref (Ma 10), .int (Mv 11), .int (Mv 12), .int (Mv 13), .ref (Ma 11), .int (Mv 14), .ref (Ma 12), .ref (Ma 13), .ref (Ma 14), .ref (Ma 15), .ref (Ma 16), .long (Mj 0), .ref (Ma 17), .ref (Ma 18), .ref (Ma 19), .ref (Ma 20)])), ((Ma 1), .inl (tc 2, 400, .inl (Mf 1))), ((Ma 6), .inl (tc 0, 95, .inl sv_61))] := hD₀
        replace hS := hS₀
        clear hP₀ hD₀ hS₀
        refine lv_if_ne (tgt := 73) hx hb dX12_isBuyerHere_68 (by decide) (fun c_70 => ?_) (fun c_70 => ?_)
        · skip
          refine lv_aload_n hx hb dX12_isBuyerHere_73 rfl (lv_at hl 1 rfl) ?_
          refine gf_X12_26 hx hb hts hown hK hP 0 rfl rfl dX12_isBuyerHere_74 ?_
          refine lv_iconst (v := 3) hx hb dX12_isBuyerHere_77 (by decide) ?_
          refine lv_dup2_11 hx hb dX12_isBuyerHere_78 rfl rfl ?_
          refine va_iald hx hb hK hP 2 0 rfl rfl (vin_dec (by decide +kernel)) dX12_isBuyerHere_79 ?_
          refine lv_topi (fun x_71 ex_71 => ?_)
          have lx_71 : x_71.toInt = (sv_61 3).toInt := congrArg Int32.toInt ex_71
          refine lv_iconst (v := 1) hx hb dX12_isBuyerHere_80 (by decide) ?_
          refine lv_iadd hx hb dX12_isBuyerHere_81 ?_
          refine lv_topi (fun x_72 ex_72 => ?_)
          refine st_int hx hb hK hP hD hS 2 0 rfl rfl (vin_dec (by decide +kernel)) dX12_isBuyerHere_82 (fun g_73 H locs eg_73 hP₀ hD₀ hS₀ => ?_)
          replace hP : va_P D classes [((Ma 0), .inr (12, [.ref (Ma 1), .int (Mv 0), .int (Mv 1), .ref (Ma 2), .ref (Ma 3), .ref (Ma 4), .ref (Ma 5), .ref (Ma 6), .int sv_58, .int sv_59, .int sv_60, .int (Mv 5), .int (Mv 6), .int (Mv 7), .int (Mv 8), .ref (Ma 7), .int (Mv 9), .ref (Ma 8), .int (Mv 10), .ref (Ma 9), .ref (Ma 10), .int (Mv 11), .int (Mv 12), .int (Mv 13), .ref (Ma 11), .int (Mv 14), .ref (Ma 12), .ref (Ma 13), .ref (Ma 14), .ref (Ma 15), .ref (Ma 16), .long (Mj 0), .ref (Ma 17), .ref (Ma 18), .ref (Ma 19), .ref (Ma 20)])), ((Ma 1), .inl (tc 2, 400, .inl (Mf 1))), ((Ma 6), .inl (tc 0, 95, .inl g_73))] H := hP₀
          replace hD : va_D A [((Ma 0), .inr (12, [.ref (Ma 1), .int (Mv 0), .int (Mv 1), .ref (Ma 2), .ref (Ma 3), .ref (Ma 4), .ref (Ma 5), .ref (Ma 6), .int sv_58, .int sv_59, .int sv_60, .int (Mv 5), .int (Mv 6), .int (Mv 7), .int (Mv 8), .ref (Ma 7), .int (Mv 9), .ref (Ma 8), .int (Mv 10), .ref (Ma 9), .ref (Ma 10), .int (Mv 11), .int (Mv 12), .int (Mv 13), .ref (Ma 11), .int (Mv 14), .ref (Ma 12), .ref (Ma 13), .ref (Ma 14), .ref (Ma 15), .ref (Ma 16), .long (Mj 0), .ref (Ma 17), .ref (Ma 18), .ref (Ma 19), .ref (Ma 20)])), ((Ma 1), .inl (tc 2, 400, .inl (Mf 1))), ((Ma 6), .inl (tc 0, 95, .inl g_73))] := hD₀
          replace hS := hS₀
          clear hP₀ hD₀ hS₀
          have ku_g_73_0 : (g_73 0).toInt = (sv_61 0).toInt := upd_toInt_ne (i := 3) eg_73 (by decide)
          have ku_g_73_2 : (g_73 2).toInt = (sv_61 2).toInt := upd_toInt_ne (i := 3) eg_73 (by decide)
          have ku_g_73_3 : (g_73 3).toInt = (x_72 : Int32).toInt := upd_toInt_at (i := 3) eg_73
          have z_1 : ¬ (x_1 : Int32).toInt = (6 : Int32).toInt := fun z => c_2 (Int32.toInt_inj.mp z)
          have z_2 : ¬ (r_22 : Int32).toInt = (0 : Int32).toInt := fun z => c_28 (Int32.toInt_inj.mp z)
          have z_3 : ¬ (r_43 : Int32).toInt = (0 : Int32).toInt := fun z => c_49 (Int32.toInt_inj.mp z)
          have z_4 : ¬ (r_64 : Int32).toInt = (0 : Int32).toInt := fun z => c_70 (Int32.toInt_inj.mp z)
          have y_0 : (0 : Int32).toInt = 0 := by decide
          have y_6 : (6 : Int32).toInt = 6 := by decide
          have y_1 : (1 : Int32).toInt = 1 := by decide
          have y_56 : (56 : Int32).toInt = 56 := by decide
          have y_62 : (62 : Int32).toInt = 62 := by decide
          have y_68 : (68 : Int32).toInt = 68 := by decide
          have t_x_10 : x_10.toInt = (68 : Int32).toInt + (x_9 : Int32).toInt := by rw [ex_10]; exact add_toInt (by omega) (by omega)
          have t_x_31 : x_31.toInt = (56 : Int32).toInt + (x_9 : Int32).toInt := by rw [ex_31]; exact add_toInt (by omega) (by omega)
          have t_x_52 : x_52.toInt = (62 : Int32).toInt + (x_9 : Int32).toInt := by rw [ex_52]; exact add_toInt (by omega) (by omega)
          have t_x_72 : x_72.toInt = (x_71 : Int32).toInt + (1 : Int32).toInt := by rw [ex_72]; exact add_toInt (by omega) (by omega)
          refine lv_iconst (v := 1) hx hb dX12_isBuyerHere_83 (by decide) ?_
          have ha_74 : ((Mv 2) : Int32).toInt ≤ (sv_58 : Int32).toInt ∧ (sv_58 : Int32).toInt ≤ ((Mv 0) : Int32).toInt := by
            have z_1 : ¬ (x_1 : Int32).toInt = (6 : Int32).toInt := fun z => c_2 (Int32.toInt_inj.mp z)
            have z_2 : ¬ (r_22 : Int32).toInt = (0 : Int32).toInt := fun z => c_28 (Int32.toInt_inj.mp z)
            have z_3 : ¬ (r_43 : Int32).toInt = (0 : Int32).toInt := fun z => c_49 (Int32.toInt_inj.mp z)
            have z_4 : ¬ (r_64 : Int32).toInt = (0 : Int32).toInt := fun z => c_70 (Int32.toInt_inj.mp z)
            have y_0 : (0 : Int32).toInt = 0 := by decide
            have y_6 : (6 : Int32).toInt = 6 := by decide
            have y_56 : (56 : Int32).toInt = 56 := by decide
            have y_62 : (62 : Int32).toInt = 62 := by decide
            have y_68 : (68 : Int32).toInt = 68 := by decide
            have t_x_10 : x_10.toInt = (68 : Int32).toInt + (x_9 : Int32).toInt := by rw [ex_10]; exact add_toInt (by omega) (by omega)
            have t_x_31 : x_31.toInt = (56 : Int32).toInt + (x_9 : Int32).toInt := by rw [ex_31]; exact add_toInt (by omega) (by omega)
            have t_x_52 : x_52.toInt = (62 : Int32).toInt + (x_9 : Int32).toInt := by rw [ex_52]; exact add_toInt (by omega) (by omega)
            refine ⟨?_, ?_⟩ <;> omega
          have hp_75 : (((1 : Int32).toInt = 0 ∧ ¬ (sv_59 : Int32).toInt = 0) ∨ (1 : Int32).toInt = 1) := by
            have z_1 : ¬ (x_1 : Int32).toInt = (6 : Int32).toInt := fun z => c_2 (Int32.toInt_inj.mp z)
            have z_2 : ¬ (r_22 : Int32).toInt = (0 : Int32).toInt := fun z => c_28 (Int32.toInt_inj.mp z)
            have z_3 : ¬ (r_43 : Int32).toInt = (0 : Int32).toInt := fun z => c_49 (Int32.toInt_inj.mp z)
            have z_4 : ¬ (r_64 : Int32).toInt = (0 : Int32).toInt := fun z => c_70 (Int32.toInt_inj.mp z)
            have y_0 : (0 : Int32).toInt = 0 := by decide
            have y_6 : (6 : Int32).toInt = 6 := by decide
            have y_1 : (1 : Int32).toInt = 1 := by decide
            have y_56 : (56 : Int32).toInt = 56 := by decide
            have y_62 : (62 : Int32).toInt = 62 := by decide
            have y_68 : (68 : Int32).toInt = 68 := by decide
            have t_x_10 : x_10.toInt = (68 : Int32).toInt + (x_9 : Int32).toInt := by rw [ex_10]; exact add_toInt (by omega) (by omega)
            have t_x_31 : x_31.toInt = (56 : Int32).toInt + (x_9 : Int32).toInt := by rw [ex_31]; exact add_toInt (by omega) (by omega)
            have t_x_52 : x_52.toInt = (62 : Int32).toInt + (x_9 : Int32).toInt := by rw [ex_52]; exact add_toInt (by omega) (by omega)
            have yr : (1 : Int32).toInt = 1 := by decide
            omega
          have hm_76 : (1 : Int32).toInt = 1 → (RdO g_73) := by
            intro h1r
            have ha_77 : RdO g_73 := RdO.of (by
              have z_1 : ¬ (x_1 : Int32).toInt = (6 : Int32).toInt := fun z => c_2 (Int32.toInt_inj.mp z)
              have z_2 : ¬ (r_22 : Int32).toInt = (0 : Int32).toInt := fun z => c_28 (Int32.toInt_inj.mp z)
              have z_3 : ¬ (r_43 : Int32).toInt = (0 : Int32).toInt := fun z => c_49 (Int32.toInt_inj.mp z)
              have z_4 : ¬ (r_64 : Int32).toInt = (0 : Int32).toInt := fun z => c_70 (Int32.toInt_inj.mp z)
              have y_0 : (0 : Int32).toInt = 0 := by decide
              have y_6 : (6 : Int32).toInt = 6 := by decide
              have y_56 : (56 : Int32).toInt = 56 := by decide
              have y_62 : (62 : Int32).toInt = 62 := by decide
              have y_68 : (68 : Int32).toInt = 68 := by decide
              have t_x_10 : x_10.toInt = (68 : Int32).toInt + (x_9 : Int32).toInt := by rw [ex_10]; exact add_toInt (by omega) (by omega)
              have t_x_31 : x_31.toInt = (56 : Int32).toInt + (x_9 : Int32).toInt := by rw [ex_31]; exact add_toInt (by omega) (by omega)
              have t_x_52 : x_52.toInt = (62 : Int32).toInt + (x_9 : Int32).toInt := by rw [ex_52]; exact add_toInt (by omega) (by omega)
              omega)
            exact ha_77
          exact retI (v := 1) hx hb hr hlk (rfl) hP hD hS (sv_58, sv_59, sv_60, g_73) ⟨_, rfl, hp_75, ha_74, hm_76⟩ [0, 1, 2] rfl rfl dX12_isBuyerHere_84 (Nat.le_of_ble_eq_true rfl) (Nat.le_of_ble_eq_true rfl) rfl
        · skip
          refine lv_iconst (v := 0) hx hb dX12_isBuyerHere_71 (by decide) ?_
          have ha_78 : ((Mv 2) : Int32).toInt ≤ (sv_58 : Int32).toInt ∧ (sv_58 : Int32).toInt ≤ ((Mv 0) : Int32).toInt := by
            have z_1 : ¬ (x_1 : Int32).toInt = (6 : Int32).toInt := fun z => c_2 (Int32.toInt_inj.mp z)
            have z_2 : ¬ (r_22 : Int32).toInt = (0 : Int32).toInt := fun z => c_28 (Int32.toInt_inj.mp z)
            have z_3 : ¬ (r_43 : Int32).toInt = (0 : Int32).toInt := fun z => c_49 (Int32.toInt_inj.mp z)
            have z_4 := congrArg Int32.toInt c_70
            have y_0 : (0 : Int32).toInt = 0 := by decide
            have y_6 : (6 : Int32).toInt = 6 := by decide
            have y_56 : (56 : Int32).toInt = 56 := by decide
            have y_62 : (62 : Int32).toInt = 62 := by decide
            have y_68 : (68 : Int32).toInt = 68 := by decide
            have t_x_10 : x_10.toInt = (68 : Int32).toInt + (x_9 : Int32).toInt := by rw [ex_10]; exact add_toInt (by omega) (by omega)
            have t_x_31 : x_31.toInt = (56 : Int32).toInt + (x_9 : Int32).toInt := by rw [ex_31]; exact add_toInt (by omega) (by omega)
            have t_x_52 : x_52.toInt = (62 : Int32).toInt + (x_9 : Int32).toInt := by rw [ex_52]; exact add_toInt (by omega) (by omega)
            refine ⟨?_, ?_⟩ <;> omega
          have hp_79 : (((0 : Int32).toInt = 0 ∧ ¬ (sv_59 : Int32).toInt = 0) ∨ (0 : Int32).toInt = 1) := by
            have z_1 : ¬ (x_1 : Int32).toInt = (6 : Int32).toInt := fun z => c_2 (Int32.toInt_inj.mp z)
            have z_2 : ¬ (r_22 : Int32).toInt = (0 : Int32).toInt := fun z => c_28 (Int32.toInt_inj.mp z)
            have z_3 : ¬ (r_43 : Int32).toInt = (0 : Int32).toInt := fun z => c_49 (Int32.toInt_inj.mp z)
            have z_4 := congrArg Int32.toInt c_70
            have y_0 : (0 : Int32).toInt = 0 := by decide
            have y_6 : (6 : Int32).toInt = 6 := by decide
            have y_56 : (56 : Int32).toInt = 56 := by decide
            have y_62 : (62 : Int32).toInt = 62 := by decide
            have y_68 : (68 : Int32).toInt = 68 := by decide
            have t_x_10 : x_10.toInt = (68 : Int32).toInt + (x_9 : Int32).toInt := by rw [ex_10]; exact add_toInt (by omega) (by omega)
            have t_x_31 : x_31.toInt = (56 : Int32).toInt + (x_9 : Int32).toInt := by rw [ex_31]; exact add_toInt (by omega) (by omega)
            have t_x_52 : x_52.toInt = (62 : Int32).toInt + (x_9 : Int32).toInt := by rw [ex_52]; exact add_toInt (by omega) (by omega)
            omega
          exact retI (v := 0) hx hb hr hlk (rfl) hP hD hS (sv_58, sv_59, sv_60, sv_61) ⟨_, rfl, hp_79, ha_78, (fun h => absurd h (by decide))⟩ [0, 1, 2] rfl rfl dX12_isBuyerHere_72 (Nat.le_of_ble_eq_true rfl) (Nat.le_of_ble_eq_true rfl) rfl
  · skip
    refine lv_aload_n hx hb dX12_isBuyerHere_11 rfl (lv_at hl 0 rfl) ?_
    refine lv_iconst (v := 4) hx hb dX12_isBuyerHere_12 (by decide) ?_
    refine lv_iload_n hx hb dX12_isBuyerHere_13 rfl (lv_at hl 1 rfl) ?_
    have ha_80 : 0 ≤ (4 : Int32).toInt ∧ (4 : Int32).toInt ≤ 4 := by
      have z_1 := congrArg Int32.toInt c_2
      have y_6 : (6 : Int32).toInt = 6 := by decide
      have y_4 : (4 : Int32).toInt = 4 := by decide
      refine ⟨?_, ?_⟩ <;> omega
    refine cV (a := (Ma 0)) (As := [.int 4, .int x1]) (rest := []) (wr := [((Ma 1), .inl (tc 2, 400, .inl (Mf 1))), ((Ma 6), .inl (tc 0, 95, .inl (Mf 6)))]) ⟨hx, hb, hml, hown, hts⟩ hK hX hA (cu_X12_fails l D tc sk (Ma 0) (Ma 1) (Ma 2) (Ma 3) (Ma 4) (Ma 5) (Ma 6) (Ma 7) (Ma 8) (Ma 9) (Ma 10) (Ma 11) (Ma 12) (Ma 13) (Ma 14) (Ma 15) (Ma 16) (Ma 17) (Ma 18) (Ma 19) (Ma 20) (Mv 0) (Mv 1) (Mv 2) (Mv 3) (Mv 4) (Mv 5) (Mv 6) (Mv 7) (Mv 8) (Mv 9) (Mv 10) (Mv 11) (Mv 12) (Mv 13) (Mv 14) (Mj 0) 4 x1 ha_80 h_at) k_1232 k_1229 k_1231 k_31 k_106 pl_X12_fails ⟨Nat.le_of_ble_eq_true rfl, Nat.le_of_ble_eq_true rfl⟩ rfl rfl (va_recv hK hP (ci := 12) (q0 := 0) rfl rfl) hP hD hS [0] [1, 2] rfl rfl rfl rfl rfl (by decide) rfl hl.1 rfl (Nat.le_of_ble_eq_true rfl) dX12_isBuyerHere_14 ⟨Nat.le_of_ble_eq_true rfl, Nat.le_of_ble_eq_true rfl⟩ (fun v_81 u_82 H locs hv_83 hP₀ hD₀ hS₀ => ?_)
    obtain ⟨sv_84, rfl⟩ : ∃ z, z = u_82 := ⟨_, rfl⟩
    obtain ⟨r_86, rfl, he_87, pf_85⟩ := hv_83
    have he_87 : r_86.toInt = 0 := he_87
    have pf_85 : ¬ (sv_84 : Int32).toInt = 0 := pf_85
    refine W.eq (g2 := F0 m 17 ls [.int r_86]) rfl ?_
    replace hP : va_P D classes [((Ma 1), .inl (tc 2, 400, .inl (Mf 1))), ((Ma 6), .inl (tc 0, 95, .inl (Mf 6))), ((Ma 0), .inr (12, [.ref (Ma 1), .int (Mv 0), .int (Mv 1), .ref (Ma 2), .ref (Ma 3), .ref (Ma 4), .ref (Ma 5), .ref (Ma 6), .int (Mv 2), .int sv_84, .int (Mv 4), .int (Mv 5), .int (Mv 6), .int (Mv 7), .int (Mv 8), .ref (Ma 7), .int (Mv 9), .ref (Ma 8), .int (Mv 10), .ref (Ma 9), .ref (Ma 10), .int (Mv 11), .int (Mv 12), .int (Mv 13), .ref (Ma 11), .int (Mv 14), .ref (Ma 12), .ref (Ma 13), .ref (Ma 14), .ref (Ma 15), .ref (Ma 16), .long (Mj 0), .ref (Ma 17), .ref (Ma 18), .ref (Ma 19), .ref (Ma 20)]))] H := hP₀
    replace hD : va_D A [((Ma 1), .inl (tc 2, 400, .inl (Mf 1))), ((Ma 6), .inl (tc 0, 95, .inl (Mf 6))), ((Ma 0), .inr (12, [.ref (Ma 1), .int (Mv 0), .int (Mv 1), .ref (Ma 2), .ref (Ma 3), .ref (Ma 4), .ref (Ma 5), .ref (Ma 6), .int (Mv 2), .int sv_84, .int (Mv 4), .int (Mv 5), .int (Mv 6), .int (Mv 7), .int (Mv 8), .ref (Ma 7), .int (Mv 9), .ref (Ma 8), .int (Mv 10), .ref (Ma 9), .ref (Ma 10), .int (Mv 11), .int (Mv 12), .int (Mv 13), .ref (Ma 11), .int (Mv 14), .ref (Ma 12), .ref (Ma 13), .ref (Ma 14), .ref (Ma 15), .ref (Ma 16), .long (Mj 0), .ref (Ma 17), .ref (Ma 18), .ref (Ma 19), .ref (Ma 20)]))] := hD₀
    replace hS := hS₀
    clear hP₀ hD₀ hS₀
    have ha_89 : ((Mv 2) : Int32).toInt ≤ ((Mv 2) : Int32).toInt ∧ ((Mv 2) : Int32).toInt ≤ ((Mv 0) : Int32).toInt := by
      have z_1 := congrArg Int32.toInt c_2
      have y_6 : (6 : Int32).toInt = 6 := by decide
      refine ⟨?_, ?_⟩ <;> omega
    have hb_90 : (r_86 : Int32).toInt = 0 ∨ (r_86 : Int32).toInt = 1 := by
      have z_1 := congrArg Int32.toInt c_2
      have y_6 : (6 : Int32).toInt = 6 := by decide
      omega
    have hp_91 : (((r_86 : Int32).toInt = 0 ∧ ¬ (sv_84 : Int32).toInt = 0) ∨ (r_86 : Int32).toInt = 1) := by
      have z_1 := congrArg Int32.toInt c_2
      have y_6 : (6 : Int32).toInt = 6 := by decide
      omega
    have hm_92 : (r_86 : Int32).toInt = 1 → (RdO (Mf 6)) := by
      intro h1r
      exfalso
      have z_1 := congrArg Int32.toInt c_2
      have y_6 : (6 : Int32).toInt = 6 := by decide
      omega
    exact retI (v := r_86) hx hb hr hlk (nar01 hb_90) hP hD hS ((Mv 2), sv_84, (Mv 4), (Mf 6)) ⟨_, rfl, hp_91, ha_89, hm_92⟩ [2, 0, 1] rfl rfl dX12_isBuyerHere_17 (Nat.le_of_ble_eq_true rfl) (Nat.le_of_ble_eq_true rfl) rfl
set_option maxRecDepth 100000 in
theorem cu_X12_isBuyerHere (l : Launch) (D : va_G) (tc : Nat → ClassId) (sk : (Nat → Nat) × (Nat → Nat)) (Ma_0 : Nat) (Ma_1 : Nat) (Ma_2 : Nat) (Ma_3 : Nat) (Ma_4 : Nat) (Ma_5 : Nat) (Ma_6 : Nat) (Ma_7 : Nat) (Ma_8 : Nat) (Ma_9 : Nat) (Ma_10 : Nat) (Ma_11 : Nat) (Ma_12 : Nat) (Ma_13 : Nat) (Ma_14 : Nat) (Ma_15 : Nat) (Ma_16 : Nat) (Ma_17 : Nat) (Ma_18 : Nat) (Ma_19 : Nat) (Ma_20 : Nat) (Mv_0 : Int32) (Mv_1 : Int32) (Mv_2 : Int32) (Mv_3 : Int32) (Mv_4 : Int32) (Mv_5 : Int32) (Mv_6 : Int32) (Mv_7 : Int32) (Mv_8 : Int32) (Mv_9 : Int32) (Mv_10 : Int32) (Mv_11 : Int32) (Mv_12 : Int32) (Mv_13 : Int32) (Mv_14 : Int32) (Mf_1 : Nat → Int32) (Mf_6 : Nat → Int32) (Mj_0 : Int64) (x1 : Int32) (h_nx : 0 ≤ (Mv_2 : Int32).toInt ∧ (Mv_2 : Int32).toInt ≤ (Mv_0 : Int32).toInt ∧ (Mv_0 : Int32).toInt ≤ 400) (h_at : 0 ≤ x1.toInt ∧ x1.toInt ≤ 400) (h_ro : RdO Mf_6) (h_f1 : (Mf_6 0).toInt = 1) : Ct l yX12_isBuyerHere cX12_isBuyerHere 3 (some .boolean) { frames := 3, cells := 0, slots := 0, locals := 72 } D tc sk [.ref Ma_0, .int x1] [(Ma_0, .inr (12, [.ref Ma_1, .int Mv_0, .int Mv_1, .ref Ma_2, .ref Ma_3, .ref Ma_4, .ref Ma_5, .ref Ma_6, .int Mv_2, .int Mv_3, .int Mv_4, .int Mv_5, .int Mv_6, .int Mv_7, .int Mv_8, .ref Ma_7, .int Mv_9, .ref Ma_8, .int Mv_10, .ref Ma_9, .ref Ma_10, .int Mv_11, .int Mv_12, .int Mv_13, .ref Ma_11, .int Mv_14, .ref Ma_12, .ref Ma_13, .ref Ma_14, .ref Ma_15, .ref Ma_16, .long Mj_0, .ref Ma_17, .ref Ma_18, .ref Ma_19, .ref Ma_20])), (Ma_1, .inl (tc 2, 400, .inl Mf_1)), (Ma_6, .inl (tc 0, 95, .inl Mf_6))] (fun (v : Option Value) (u : (Int32) × (Int32) × (Int32) × (Nat → Int32)) => match u with | (oo0x1, oo0x2, oo0x3, oo0x4) => ∃ r : Int32, v = some (.int r) ∧ (((r.toInt = 0 ∧ ¬ (oo0x2 : Int32).toInt = 0) ∨ r.toInt = 1)) ∧ ((Mv_2 : Int32).toInt ≤ (oo0x1 : Int32).toInt ∧ (oo0x1 : Int32).toInt ≤ (Mv_0 : Int32).toInt) ∧ (r.toInt = 1 → (RdO oo0x4))) (fun (u : (Int32) × (Int32) × (Int32) × (Nat → Int32)) => match u with | (oo0x1, oo0x2, oo0x3, oo0x4) => [(Ma_0, .inr (12, [.ref Ma_1, .int Mv_0, .int Mv_1, .ref Ma_2, .ref Ma_3, .ref Ma_4, .ref Ma_5, .ref Ma_6, .int oo0x1, .int oo0x2, .int oo0x3, .int Mv_5, .int Mv_6, .int Mv_7, .int Mv_8, .ref Ma_7, .int Mv_9, .ref Ma_8, .int Mv_10, .ref Ma_9, .ref Ma_10, .int Mv_11, .int Mv_12, .int Mv_13, .ref Ma_11, .int Mv_14, .ref Ma_12, .ref Ma_13, .ref Ma_14, .ref Ma_15, .ref Ma_16, .long Mj_0, .ref Ma_17, .ref Ma_18, .ref Ma_19, .ref Ma_20])), (Ma_1, .inl (tc 2, 400, .inl Mf_1)), (Ma_6, .inl (tc 0, 95, .inl oo0x4))]) 0 0 :=
  ct_X12_isBuyerHere l D tc sk (fun k => ([Ma_0, Ma_1, Ma_2, Ma_3, Ma_4, Ma_5, Ma_6, Ma_7, Ma_8, Ma_9, Ma_10, Ma_11, Ma_12, Ma_13, Ma_14, Ma_15, Ma_16, Ma_17, Ma_18, Ma_19, Ma_20] : List (Nat)).getD k 0) (fun k => ([Mv_0, Mv_1, Mv_2, Mv_3, Mv_4, Mv_5, Mv_6, Mv_7, Mv_8, Mv_9, Mv_10, Mv_11, Mv_12, Mv_13, Mv_14] : List (Int32)).getD k 0) (fun k => ([(fun _ => 0), Mf_1, (fun _ => 0), (fun _ => 0), (fun _ => 0), (fun _ => 0), Mf_6] : List (Nat → Int32)).getD k (fun _ => 0)) (fun k => ([Mj_0] : List (Int64)).getD k 0) x1 h_nx h_at h_ro h_f1
set_option maxHeartbeats 4000000 in
set_option maxRecDepth 100000 in
theorem ct_X12_isWatchHere (l : Launch) (D : va_G) (tc : Nat → ClassId) (sk : (Nat → Nat) × (Nat → Nat)) (Ma : Nat → Nat) (Mv : Nat → Int32) (Mf : Nat → Nat → Int32) (Mj : Nat → Int64) (h_nx : 0 ≤ ((Mv 2) : Int32).toInt ∧ ((Mv 2) : Int32).toInt ≤ ((Mv 0) : Int32).toInt ∧ ((Mv 0) : Int32).toInt ≤ 400) (h_ro : RdO (Mf 6)) (h_f1 : ((Mf 6) 0).toInt = 1) : Ct l yX12_isWatchHere cX12_isWatchHere 2 (some .boolean) { frames := 2, cells := 0, slots := 0, locals := 49 } D tc sk [.ref (Ma 0)] [((Ma 0), .inr (12, [.ref (Ma 1), .int (Mv 0), .int (Mv 1), .ref (Ma 2), .ref (Ma 3), .ref (Ma 4), .ref (Ma 5), .ref (Ma 6), .int (Mv 2), .int (Mv 3), .int (Mv 4), .int (Mv 5), .int (Mv 6), .int (Mv 7), .int (Mv 8), .ref (Ma 7), .int (Mv 9), .ref (Ma 8), .int (Mv 10), .ref (Ma 9), .ref (Ma 10), .int (Mv 11), .int (Mv 12), .int (Mv 13), .ref (Ma 11), .int (Mv 14), .ref (Ma 12), .ref (Ma 13), .ref (Ma 14), .ref (Ma 15), .ref (Ma 16), .long (Mj 0), .ref (Ma 17), .ref (Ma 18), .ref (Ma 19), .ref (Ma 20)])), ((Ma 1), .inl (tc 2, 400, .inl (Mf 1))), ((Ma 6), .inl (tc 0, 95, .inl (Mf 6)))] (fun (v : Option Value) (u : (Int32) × (Int32) × (Int32) × (Nat → Int32)) => match u with | (oo0x1, oo0x2, oo0x3, oo0x4) => ∃ r : Int32, v = some (.int r) ∧ (((r.toInt = 0 ∧ ¬ (oo0x2 : Int32).toInt = 0) ∨ r.toInt = 1)) ∧ (((Mv 2) : Int32).toInt ≤ (oo0x1 : Int32).toInt ∧ (oo0x1 : Int32).toInt ≤ ((Mv 0) : Int32).toInt) ∧ (r.toInt = 1 → (RdO oo0x4))) (fun (u : (Int32) × (Int32) × (Int32) × (Nat → Int32)) => match u with | (oo0x1, oo0x2, oo0x3, oo0x4) => [((Ma 0), .inr (12, [.ref (Ma 1), .int (Mv 0), .int (Mv 1), .ref (Ma 2), .ref (Ma 3), .ref (Ma 4), .ref (Ma 5), .ref (Ma 6), .int oo0x1, .int oo0x2, .int oo0x3, .int (Mv 5), .int (Mv 6), .int (Mv 7), .int (Mv 8), .ref (Ma 7), .int (Mv 9), .ref (Ma 8), .int (Mv 10), .ref (Ma 9), .ref (Ma 10), .int (Mv 11), .int (Mv 12), .int (Mv 13), .ref (Ma 11), .int (Mv 14), .ref (Ma 12), .ref (Ma 13), .ref (Ma 14), .ref (Ma 15), .ref (Ma 16), .long (Mj 0), .ref (Ma 17), .ref (Ma 18), .ref (Ma 19), .ref (Ma 20)])), ((Ma 1), .inl (tc 2, 400, .inl (Mf 1))), ((Ma 6), .inl (tc 0, 95, .inl oo0x4))]) 0 0 := by
  refine Ct.start (by decide) (Nat.le_of_ble_eq_true rfl) (fun p e s m below meth c A ls hx hb hr hlk hin hml hown hts hK hX hP hD hA hl hS => ?_)
  have hl : lv_has ls 2 [(0, .ref (Ma 0))] := hl
  have ar_h_ro := RdO.ar h_ro
  refine lv_aload_n hx hb dX12_isWatchHere_0 rfl (lv_at hl 0 rfl) ?_
  refine cV (a := (Ma 0)) (As := []) (rest := []) (wr := [((Ma 6), .inl (tc 0, 95, .inl (Mf 6)))]) ⟨hx, hb, hml, hown, hts⟩ hK hX hA (cu_X12_passWord l D tc sk (Ma 0) (Ma 1) (Ma 2) (Ma 3) (Ma 4) (Ma 5) (Ma 6) (Ma 7) (Ma 8) (Ma 9) (Ma 10) (Ma 11) (Ma 12) (Ma 13) (Ma 14) (Ma 15) (Ma 16) (Ma 17) (Ma 18) (Ma 19) (Ma 20) (Mv 0) (Mv 1) (Mv 2) (Mv 3) (Mv 4) (Mv 5) (Mv 6) (Mv 7) (Mv 8) (Mv 9) (Mv 10) (Mv 11) (Mv 12) (Mv 13) (Mv 14) (Mf 1) (Mj 0) h_nx) k_1244 k_1241 k_1243 k_34 k_106 pl_X12_passWord ⟨Nat.le_of_ble_eq_true rfl, Nat.le_of_ble_eq_true rfl⟩ rfl rfl (va_recv hK hP (ci := 12) (q0 := 0) rfl rfl) hP hD hS [0, 1] [2] rfl rfl rfl rfl rfl (by decide) rfl hl.1 rfl (Nat.le_of_ble_eq_true rfl) dX12_isWatchHere_1 ⟨Nat.le_of_ble_eq_true rfl, Nat.le_of_ble_eq_true rfl⟩ (fun v_1 u_2 H locs hv_3 hP₀ hD₀ hS₀ => ?_)
  obtain ⟨sv_4, rfl⟩ : ∃ z, z = u_2 := ⟨_, rfl⟩
  obtain ⟨rfl, pf_5, pf_6⟩ := hv_3
  have pf_5 : ((Mv 2) : Int32).toInt ≤ (sv_4 : Int32).toInt ∧ (sv_4 : Int32).toInt ≤ ((Mv 0) : Int32).toInt := pf_5
  have pf_6 : Pw (Mf 1) (Mv 0) (Mv 2) sv_4 := pf_6
  refine W.eq (g2 := F0 m 4 ls []) rfl ?_
  replace hP : va_P D classes [((Ma 6), .inl (tc 0, 95, .inl (Mf 6))), ((Ma 0), .inr (12, [.ref (Ma 1), .int (Mv 0), .int (Mv 1), .ref (Ma 2), .ref (Ma 3), .ref (Ma 4), .ref (Ma 5), .ref (Ma 6), .int sv_4, .int (Mv 3), .int (Mv 4), .int (Mv 5), .int (Mv 6), .int (Mv 7), .int (Mv 8), .ref (Ma 7), .int (Mv 9), .ref (Ma 8), .int (Mv 10), .ref (Ma 9), .ref (Ma 10), .int (Mv 11), .int (Mv 12), .int (Mv 13), .ref (Ma 11), .int (Mv 14), .ref (Ma 12), .ref (Ma 13), .ref (Ma 14), .ref (Ma 15), .ref (Ma 16), .long (Mj 0), .ref (Ma 17), .ref (Ma 18), .ref (Ma 19), .ref (Ma 20)])), ((Ma 1), .inl (tc 2, 400, .inl (Mf 1)))] H := hP₀
  replace hD : va_D A [((Ma 6), .inl (tc 0, 95, .inl (Mf 6))), ((Ma 0), .inr (12, [.ref (Ma 1), .int (Mv 0), .int (Mv 1), .ref (Ma 2), .ref (Ma 3), .ref (Ma 4), .ref (Ma 5), .ref (Ma 6), .int sv_4, .int (Mv 3), .int (Mv 4), .int (Mv 5), .int (Mv 6), .int (Mv 7), .int (Mv 8), .ref (Ma 7), .int (Mv 9), .ref (Ma 8), .int (Mv 10), .ref (Ma 9), .ref (Ma 10), .int (Mv 11), .int (Mv 12), .int (Mv 13), .ref (Ma 11), .int (Mv 14), .ref (Ma 12), .ref (Ma 13), .ref (Ma 14), .ref (Ma 15), .ref (Ma 16), .long (Mj 0), .ref (Ma 17), .ref (Ma 18), .ref (Ma 19), .ref (Ma 20)])), ((Ma 1), .inl (tc 2, 400, .inl (Mf 1)))] := hD₀
  replace hS := hS₀
  clear hP₀ hD₀ hS₀
  refine lv_aload_n hx hb dX12_isWatchHere_4 rfl (lv_at hl 0 rfl) ?_
  refine lv_iconst (v := 0) hx hb dX12_isWatchHere_5 (by decide) ?_
  refine lv_aload_n hx hb dX12_isWatchHere_6 rfl (lv_at hl 0 rfl) ?_
  refine gf_X12_26 hx hb hts hown hK hP 1 rfl rfl dX12_isWatchHere_7 ?_
  refine lv_iconst (v := 2) hx hb dX12_isWatchHere_10 (by decide) ?_
  refine va_iald hx hb hK hP 0 0 rfl rfl (vin_dec (by decide +kernel)) dX12_isWatchHere_11 ?_
  refine lv_topi (fun x_7 ex_7 => ?_)
  have lx_7 : x_7.toInt = ((Mf 6) 2).toInt := congrArg Int32.toInt ex_7
  refine lv_iconst (v := 1) hx hb dX12_isWatchHere_12 (by decide) ?_
  refine lv_isub hx hb dX12_isWatchHere_13 ?_
  refine lv_topi (fun x_8 ex_8 => ?_)
  have ha_9 : 0 ≤ (sv_4 : Int32).toInt ∧ (sv_4 : Int32).toInt ≤ ((Mv 0) : Int32).toInt ∧ ((Mv 0) : Int32).toInt ≤ 400 := by
    have y_1 : (1 : Int32).toInt = 1 := by decide
    have t_x_8 : x_8.toInt = (x_7 : Int32).toInt - (1 : Int32).toInt := by rw [ex_8]; exact sub_toInt (by omega) (by omega)
    refine ⟨?_, ?_, ?_⟩ <;> omega
  refine cV (a := (Ma 0)) (As := [.int 0, .int x_8]) (rest := []) (wr := [((Ma 6), .inl (tc 0, 95, .inl (Mf 6)))]) ⟨hx, hb, hml, hown, hts⟩ hK hX hA (cu_X12_numberHere l D tc sk (Ma 0) (Ma 1) (Ma 2) (Ma 3) (Ma 4) (Ma 5) (Ma 6) (Ma 7) (Ma 8) (Ma 9) (Ma 10) (Ma 11) (Ma 12) (Ma 13) (Ma 14) (Ma 15) (Ma 16) (Ma 17) (Ma 18) (Ma 19) (Ma 20) (Mv 0) (Mv 1) sv_4 (Mv 3) (Mv 4) (Mv 5) (Mv 6) (Mv 7) (Mv 8) (Mv 9) (Mv 10) (Mv 11) (Mv 12) (Mv 13) (Mv 14) (Mf 1) (Mj 0) 0 x_8 ha_9) k_1252 k_1249 k_1251 k_36 k_106 pl_X12_numberHere ⟨Nat.le_of_ble_eq_true rfl, Nat.le_of_ble_eq_true rfl⟩ rfl rfl (va_recv hK hP (ci := 12) (q0 := 1) rfl rfl) hP hD hS [1, 2] [0] rfl rfl rfl rfl rfl (by decide) rfl hl.1 rfl (Nat.le_of_ble_eq_true rfl) dX12_isWatchHere_14 ⟨Nat.le_of_ble_eq_true rfl, Nat.le_of_ble_eq_true rfl⟩ (fun v_10 u_11 H locs hv_12 hP₀ hD₀ hS₀ => ?_)
  obtain ⟨sv_13, sv_14, sv_15⟩ := u_11
  obtain ⟨r_17, rfl, he_18, pf_16⟩ := hv_12
  have he_18 : ((r_17.toInt = 0 ∧ ¬ (sv_14 : Int32).toInt = 0) ∨ (r_17.toInt = 1 ∧ (0 : Int32).toInt ≤ (sv_15 : Int32).toInt ∧ (sv_15 : Int32).toInt ≤ x_8.toInt ∧ sv_4.toInt + 1 ≤ (sv_13 : Int32).toInt)) := he_18
  have yl_he_18_0 : (0 : Int32).toInt = 0 := by decide
  have pf_16 : (sv_4 : Int32).toInt ≤ (sv_13 : Int32).toInt ∧ (sv_13 : Int32).toInt ≤ ((Mv 0) : Int32).toInt := pf_16
  refine W.eq (g2 := F0 m 17 ls [.int r_17]) rfl ?_
  replace hP : va_P D classes [((Ma 6), .inl (tc 0, 95, .inl (Mf 6))), ((Ma 0), .inr (12, [.ref (Ma 1), .int (Mv 0), .int (Mv 1), .ref (Ma 2), .ref (Ma 3), .ref (Ma 4), .ref (Ma 5), .ref (Ma 6), .int sv_13, .int sv_14, .int sv_15, .int (Mv 5), .int (Mv 6), .int (Mv 7), .int (Mv 8), .ref (Ma 7), .int (Mv 9), .ref (Ma 8), .int (Mv 10), .ref (Ma 9), .ref (Ma 10), .int (Mv 11), .int (Mv 12), .int (Mv 13), .ref (Ma 11), .int (Mv 14), .ref (Ma 12), .ref (Ma 13), .ref (Ma 14), .ref (Ma 15), .ref (Ma 16), .long (Mj 0), .ref (Ma 17), .ref (Ma 18), .ref (Ma 19), .ref (Ma 20)])), ((Ma 1), .inl (tc 2, 400, .inl (Mf 1)))] H := hP₀
  replace hD : va_D A [((Ma 6), .inl (tc 0, 95, .inl (Mf 6))), ((Ma 0), .inr (12, [.ref (Ma 1), .int (Mv 0), .int (Mv 1), .ref (Ma 2), .ref (Ma 3), .ref (Ma 4), .ref (Ma 5), .ref (Ma 6), .int sv_13, .int sv_14, .int sv_15, .int (Mv 5), .int (Mv 6), .int (Mv 7), .int (Mv 8), .ref (Ma 7), .int (Mv 9), .ref (Ma 8), .int (Mv 10), .ref (Ma 9), .ref (Ma 10), .int (Mv 11), .int (Mv 12), .int (Mv 13), .ref (Ma 11), .int (Mv 14), .ref (Ma 12), .ref (Ma 13), .ref (Ma 14), .ref (Ma 15), .ref (Ma 16), .long (Mj 0), .ref (Ma 17), .ref (Ma 18), .ref (Ma 19), .ref (Ma 20)])), ((Ma 1), .inl (tc 2, 400, .inl (Mf 1)))] := hD₀
  replace hS := hS₀
  clear hP₀ hD₀ hS₀
  refine lv_if_ne (tgt := 22) hx hb dX12_isWatchHere_17 (by decide) (fun c_20 => ?_) (fun c_20 => ?_)
  · skip
    refine lv_aload_n hx hb dX12_isWatchHere_22 rfl (lv_at hl 0 rfl) ?_
    refine gf_X12_112 hx hb hts hown hK hP 1 rfl rfl dX12_isWatchHere_23 ?_
    refine lv_istore_n (lv' := [(1, .int sv_15), (0, .ref (Ma 0))]) hx hb dX12_isWatchHere_26 rfl hl (by decide) rfl (fun ls hl₀ => ?_)
    replace hl := hl₀
    clear hl₀
    refine lv_aload_n hx hb dX12_isWatchHere_27 rfl (lv_at hl 1 rfl) ?_
    refine lv_iconst (v := 0) hx hb dX12_isWatchHere_28 (by decide) ?_
    refine lv_aload_n hx hb dX12_isWatchHere_29 rfl (lv_at hl 1 rfl) ?_
    refine gf_X12_26 hx hb hts hown hK hP 1 rfl rfl dX12_isWatchHere_30 ?_
    refine lv_iconst (v := 3) hx hb dX12_isWatchHere_33 (by decide) ?_
    refine va_iald hx hb hK hP 0 0 rfl rfl (vin_dec (by decide +kernel)) dX12_isWatchHere_34 ?_
    refine lv_topi (fun x_21 ex_21 => ?_)
    have lx_21 : x_21.toInt = ((Mf 6) 3).toInt := congrArg Int32.toInt ex_21
    refine lv_iconst (v := 1) hx hb dX12_isWatchHere_35 (by decide) ?_
    refine lv_isub hx hb dX12_isWatchHere_36 ?_
    refine lv_topi (fun x_22 ex_22 => ?_)
    have ha_23 : 0 ≤ (sv_13 : Int32).toInt ∧ (sv_13 : Int32).toInt ≤ ((Mv 0) : Int32).toInt ∧ ((Mv 0) : Int32).toInt ≤ 400 := by
      have z_1 : ¬ (r_17 : Int32).toInt = (0 : Int32).toInt := fun z => c_20 (Int32.toInt_inj.mp z)
      have y_0 : (0 : Int32).toInt = 0 := by decide
      have y_1 : (1 : Int32).toInt = 1 := by decide
      have t_x_8 : x_8.toInt = (x_7 : Int32).toInt - (1 : Int32).toInt := by rw [ex_8]; exact sub_toInt (by omega) (by omega)
      have t_x_22 : x_22.toInt = (x_21 : Int32).toInt - (1 : Int32).toInt := by rw [ex_22]; exact sub_toInt (by omega) (by omega)
      refine ⟨?_, ?_, ?_⟩ <;> omega
    refine cV (a := (Ma 0)) (As := [.int 0, .int x_22]) (rest := []) (wr := [((Ma 6), .inl (tc 0, 95, .inl (Mf 6)))]) ⟨hx, hb, hml, hown, hts⟩ hK hX hA (cu_X12_numberHere l D tc sk (Ma 0) (Ma 1) (Ma 2) (Ma 3) (Ma 4) (Ma 5) (Ma 6) (Ma 7) (Ma 8) (Ma 9) (Ma 10) (Ma 11) (Ma 12) (Ma 13) (Ma 14) (Ma 15) (Ma 16) (Ma 17) (Ma 18) (Ma 19) (Ma 20) (Mv 0) (Mv 1) sv_13 sv_14 sv_15 (Mv 5) (Mv 6) (Mv 7) (Mv 8) (Mv 9) (Mv 10) (Mv 11) (Mv 12) (Mv 13) (Mv 14) (Mf 1) (Mj 0) 0 x_22 ha_23) k_1252 k_1249 k_1251 k_36 k_106 pl_X12_numberHere ⟨Nat.le_of_ble_eq_true rfl, Nat.le_of_ble_eq_true rfl⟩ rfl rfl (va_recv hK hP (ci := 12) (q0 := 1) rfl rfl) hP hD hS [1, 2] [0] rfl rfl rfl rfl rfl (by decide) rfl hl.1 rfl (Nat.le_of_ble_eq_true rfl) dX12_isWatchHere_37 ⟨Nat.le_of_ble_eq_true rfl, Nat.le_of_ble_eq_true rfl⟩ (fun v_24 u_25 H locs hv_26 hP₀ hD₀ hS₀ => ?_)
    obtain ⟨sv_27, sv_28, sv_29⟩ := u_25
    obtain ⟨r_31, rfl, he_32, pf_30⟩ := hv_26
    have he_32 : ((r_31.toInt = 0 ∧ ¬ (sv_28 : Int32).toInt = 0) ∨ (r_31.toInt = 1 ∧ (0 : Int32).toInt ≤ (sv_29 : Int32).toInt ∧ (sv_29 : Int32).toInt ≤ x_22.toInt ∧ sv_13.toInt + 1 ≤ (sv_27 : Int32).toInt)) := he_32
    have yl_he_32_0 : (0 : Int32).toInt = 0 := by decide
    have pf_30 : (sv_13 : Int32).toInt ≤ (sv_27 : Int32).toInt ∧ (sv_27 : Int32).toInt ≤ ((Mv 0) : Int32).toInt := pf_30
    refine W.eq (g2 := F0 m 40 ls [.int r_31]) rfl ?_
    replace hP : va_P D classes [((Ma 6), .inl (tc 0, 95, .inl (Mf 6))), ((Ma 0), .inr (12, [.ref (Ma 1), .int (Mv 0), .int (Mv 1), .ref (Ma 2), .ref (Ma 3), .ref (Ma 4), .ref (Ma 5), .ref (Ma 6), .int sv_27, .int sv_28, .int sv_29, .int (Mv 5), .int (Mv 6), .int (Mv 7), .int (Mv 8), .ref (Ma 7), .int (Mv 9), .ref (Ma 8), .int (Mv 10), .ref (Ma 9), .ref (Ma 10), .int (Mv 11), .int (Mv 12), .int (Mv 13), .ref (Ma 11), .int (Mv 14), .ref (Ma 12), .ref (Ma 13), .ref (Ma 14), .ref (Ma 15), .ref (Ma 16), .long (Mj 0), .ref (Ma 17), .ref (Ma 18), .ref (Ma 19), .ref (Ma 20)])), ((Ma 1), .inl (tc 2, 400, .inl (Mf 1)))] H := hP₀
    replace hD : va_D A [((Ma 6), .inl (tc 0, 95, .inl (Mf 6))), ((Ma 0), .inr (12, [.ref (Ma 1), .int (Mv 0), .int (Mv 1), .ref (Ma 2), .ref (Ma 3), .ref (Ma 4), .ref (Ma 5), .ref (Ma 6), .int sv_27, .int sv_28, .int sv_29, .int (Mv 5), .int (Mv 6), .int (Mv 7), .int (Mv 8), .ref (Ma 7), .int (Mv 9), .ref (Ma 8), .int (Mv 10), .ref (Ma 9), .ref (Ma 10), .int (Mv 11), .int (Mv 12), .int (Mv 13), .ref (Ma 11), .int (Mv 14), .ref (Ma 12), .ref (Ma 13), .ref (Ma 14), .ref (Ma 15), .ref (Ma 16), .long (Mj 0), .ref (Ma 17), .ref (Ma 18), .ref (Ma 19), .ref (Ma 20)])), ((Ma 1), .inl (tc 2, 400, .inl (Mf 1)))] := hD₀
    replace hS := hS₀
    clear hP₀ hD₀ hS₀
    refine lv_if_ne (tgt := 45) hx hb dX12_isWatchHere_40 (by decide) (fun c_34 => ?_) (fun c_34 => ?_)
    · skip
      refine lv_aload_n hx hb dX12_isWatchHere_45 rfl (lv_at hl 1 rfl) ?_
      refine gf_X12_26 hx hb hts hown hK hP 1 rfl rfl dX12_isWatchHere_46 ?_
      refine lv_bipush (v := 84) hx hb dX12_isWatchHere_49 (by decide) ?_
      refine lv_iload_n hx hb dX12_isWatchHere_51 rfl (lv_at hl 0 rfl) ?_
      refine lv_iadd hx hb dX12_isWatchHere_52 ?_
      refine lv_topi (fun x_35 ex_35 => ?_)
      refine lv_dup2_11 hx hb dX12_isWatchHere_53 rfl rfl ?_
      have hi_36 : vp_in x_35 95 := by
        have z_1 : ¬ (r_17 : Int32).toInt = (0 : Int32).toInt := fun z => c_20 (Int32.toInt_inj.mp z)
        have z_2 : ¬ (r_31 : Int32).toInt = (0 : Int32).toInt := fun z => c_34 (Int32.toInt_inj.mp z)
        have y_0 : (0 : Int32).toInt = 0 := by decide
        have y_1 : (1 : Int32).toInt = 1 := by decide
        have y_84 : (84 : Int32).toInt = 84 := by decide
        have t_x_8 : x_8.toInt = (x_7 : Int32).toInt - (1 : Int32).toInt := by rw [ex_8]; exact sub_toInt (by omega) (by omega)
        have t_x_22 : x_22.toInt = (x_21 : Int32).toInt - (1 : Int32).toInt := by rw [ex_22]; exact sub_toInt (by omega) (by omega)
        have t_x_35 : x_35.toInt = (84 : Int32).toInt + (sv_15 : Int32).toInt := by rw [ex_35]; exact add_toInt (by omega) (by omega)
        refine vp_in_iff.mpr ⟨?_, ?_⟩ <;> omega
      refine va_iald hx hb hK hP 0 0 rfl rfl hi_36 dX12_isWatchHere_54 ?_
      refine lv_topi (fun x_37 ex_37 => ?_)
      refine lv_iconst (v := 1) hx hb dX12_isWatchHere_55 (by decide) ?_
      refine lv_aload_n hx hb dX12_isWatchHere_56 rfl (lv_at hl 1 rfl) ?_
      refine gf_X12_112 hx hb hts hown hK hP 1 rfl rfl dX12_isWatchHere_57 ?_
      refine lv_ishl hx hb dX12_isWatchHere_60 ?_
      refine lv_topi (fun x_38 ex_38 => ?_)
      refine lv_ior hx hb dX12_isWatchHere_61 ?_
      refine lv_topi (fun x_39 ex_39 => ?_)
      have hi_40 : vp_in x_35 95 := by
        have z_1 : ¬ (r_17 : Int32).toInt = (0 : Int32).toInt := fun z => c_20 (Int32.toInt_inj.mp z)
        have z_2 : ¬ (r_31 : Int32).toInt = (0 : Int32).toInt := fun z => c_34 (Int32.toInt_inj.mp z)
        have y_0 : (0 : Int32).toInt = 0 := by decide
        have y_1 : (1 : Int32).toInt = 1 := by decide
        have y_84 : (84 : Int32).toInt = 84 := by decide
        have t_x_8 : x_8.toInt = (x_7 : Int32).toInt - (1 : Int32).toInt := by rw [ex_8]; exact sub_toInt (by omega) (by omega)
        have t_x_22 : x_22.toInt = (x_21 : Int32).toInt - (1 : Int32).toInt := by rw [ex_22]; exact sub_toInt (by omega) (by omega)
        have t_x_35 : x_35.toInt = (84 : Int32).toInt + (sv_15 : Int32).toInt := by rw [ex_35]; exact add_toInt (by omega) (by omega)
        refine vp_in_iff.mpr ⟨?_, ?_⟩ <;> omega
      refine st_int hx hb hK hP hD hS 0 0 rfl rfl hi_40 dX12_isWatchHere_62 (fun g_41 H locs eg_41 hP₀ hD₀ hS₀ => ?_)
      replace hP : va_P D classes [((Ma 6), .inl (tc 0, 95, .inl g_41)), ((Ma 0), .inr (12, [.ref (Ma 1), .int (Mv 0), .int (Mv 1), .ref (Ma 2), .ref (Ma 3), .ref (Ma 4), .ref (Ma 5), .ref (Ma 6), .int sv_27, .int sv_28, .int sv_29, .int (Mv 5), .int (Mv 6), .int (Mv 7), .int (Mv 8), .ref (Ma 7), .int (Mv 9), .ref (Ma 8), .int (Mv 10), .ref (Ma 9), .ref (Ma 10), .int (Mv 11), .int (Mv 12), .int (Mv 13), .ref (Ma 11), .int (Mv 14), .ref (Ma 12), .ref (Ma 13), .ref (Ma 14), .ref (Ma 15), .ref (Ma 16), .long (Mj 0), .ref (Ma 17), .ref (Ma 18), .ref (Ma 19), .ref (Ma 20)])), ((Ma 1), .inl (tc 2, 400, .inl (Mf 1)))] H := hP₀
      replace hD : va_D A [((Ma 6), .inl (tc 0, 95, .inl g_41)), ((Ma 0), .inr (12, [.ref (Ma 1), .int (Mv 0), .int (Mv 1), .ref (Ma 2), .ref (Ma 3), .ref (Ma 4), .ref (Ma 5), .ref (Ma 6), .int sv_27, .int sv_28, .int sv_29, .int (Mv 5), .int (Mv 6), .int (Mv 7), .int (Mv 8), .ref (Ma 7), .int (Mv 9), .ref (Ma 8), .int (Mv 10), .ref (Ma 9), .ref (Ma 10), .int (Mv 11), .int (Mv 12), .int (Mv 13), .ref (Ma 11), .int (Mv 14), .ref (Ma 12), .ref (Ma 13), .ref (Ma 14), .ref (Ma 15), .ref (Ma 16), .long (Mj 0), .ref (Ma 17), .ref (Ma 18), .ref (Ma 19), .ref (Ma 20)])), ((Ma 1), .inl (tc 2, 400, .inl (Mf 1)))] := hD₀
      replace hS := hS₀
      clear hP₀ hD₀ hS₀
      have hr_42 : 0 ≠ (x_35 : Int32).toNatClampNeg := by
        have z_1 : ¬ (r_17 : Int32).toInt = (0 : Int32).toInt := fun z => c_20 (Int32.toInt_inj.mp z)
        have z_2 : ¬ (r_31 : Int32).toInt = (0 : Int32).toInt := fun z => c_34 (Int32.toInt_inj.mp z)
        have y_0 : (0 : Int32).toInt = 0 := by decide
        have y_1 : (1 : Int32).toInt = 1 := by decide
        have y_84 : (84 : Int32).toInt = 84 := by decide
        have t_x_8 : x_8.toInt = (x_7 : Int32).toInt - (1 : Int32).toInt := by rw [ex_8]; exact sub_toInt (by omega) (by omega)
        have t_x_22 : x_22.toInt = (x_21 : Int32).toInt - (1 : Int32).toInt := by rw [ex_22]; exact sub_toInt (by omega) (by omega)
        have t_x_35 : x_35.toInt = (84 : Int32).toInt + (sv_15 : Int32).toInt := by rw [ex_35]; exact add_toInt (by omega) (by omega)
        have hcl : (x_35 : Int32).toNatClampNeg = (x_35 : Int32).toInt.toNat := rfl
        omega
      have ku_g_41_0 : (g_41 0).toInt = ((Mf 6) 0).toInt := upd_toInt_ne eg_41 hr_42
      have hr_43 : 2 ≠ (x_35 : Int32).toNatClampNeg := by
        have z_1 : ¬ (r_17 : Int32).toInt = (0 : Int32).toInt := fun z => c_20 (Int32.toInt_inj.mp z)
        have z_2 : ¬ (r_31 : Int32).toInt = (0 : Int32).toInt := fun z => c_34 (Int32.toInt_inj.mp z)
        have y_0 : (0 : Int32).toInt = 0 := by decide
        have y_1 : (1 : Int32).toInt = 1 := by decide
        have y_84 : (84 : Int32).toInt = 84 := by decide
        have t_x_8 : x_8.toInt = (x_7 : Int32).toInt - (1 : Int32).toInt := by rw [ex_8]; exact sub_toInt (by omega) (by omega)
        have t_x_22 : x_22.toInt = (x_21 : Int32).toInt - (1 : Int32).toInt := by rw [ex_22]; exact sub_toInt (by omega) (by omega)
        have t_x_35 : x_35.toInt = (84 : Int32).toInt + (sv_15 : Int32).toInt := by rw [ex_35]; exact add_toInt (by omega) (by omega)
        have hcl : (x_35 : Int32).toNatClampNeg = (x_35 : Int32).toInt.toNat := rfl
        omega
      have ku_g_41_2 : (g_41 2).toInt = ((Mf 6) 2).toInt := upd_toInt_ne eg_41 hr_43
      have hr_44 : 3 ≠ (x_35 : Int32).toNatClampNeg := by
        have z_1 : ¬ (r_17 : Int32).toInt = (0 : Int32).toInt := fun z => c_20 (Int32.toInt_inj.mp z)
        have z_2 : ¬ (r_31 : Int32).toInt = (0 : Int32).toInt := fun z => c_34 (Int32.toInt_inj.mp z)
        have y_0 : (0 : Int32).toInt = 0 := by decide
        have y_1 : (1 : Int32).toInt = 1 := by decide
        have y_84 : (84 : Int32).toInt = 84 := by decide
        have t_x_8 : x_8.toInt = (x_7 : Int32).toInt - (1 : Int32).toInt := by rw [ex_8]; exact sub_toInt (by omega) (by omega)
        have t_x_22 : x_22.toInt = (x_21 : Int32).toInt - (1 : Int32).toInt := by rw [ex_22]; exact sub_toInt (by omega) (by omega)
        have t_x_35 : x_35.toInt = (84 : Int32).toInt + (sv_15 : Int32).toInt := by rw [ex_35]; exact add_toInt (by omega) (by omega)
        have hcl : (x_35 : Int32).toNatClampNeg = (x_35 : Int32).toInt.toNat := rfl
        omega
      have ku_g_41_3 : (g_41 3).toInt = ((Mf 6) 3).toInt := upd_toInt_ne eg_41 hr_44
      refine lv_iconst (v := 1) hx hb dX12_isWatchHere_63 (by decide) ?_
      have ha_45 : ((Mv 2) : Int32).toInt ≤ (sv_27 : Int32).toInt ∧ (sv_27 : Int32).toInt ≤ ((Mv 0) : Int32).toInt := by
        have z_1 : ¬ (r_17 : Int32).toInt = (0 : Int32).toInt := fun z => c_20 (Int32.toInt_inj.mp z)
        have z_2 : ¬ (r_31 : Int32).toInt = (0 : Int32).toInt := fun z => c_34 (Int32.toInt_inj.mp z)
        have y_0 : (0 : Int32).toInt = 0 := by decide
        have y_1 : (1 : Int32).toInt = 1 := by decide
        have t_x_8 : x_8.toInt = (x_7 : Int32).toInt - (1 : Int32).toInt := by rw [ex_8]; exact sub_toInt (by omega) (by omega)
        have t_x_22 : x_22.toInt = (x_21 : Int32).toInt - (1 : Int32).toInt := by rw [ex_22]; exact sub_toInt (by omega) (by omega)
        refine ⟨?_, ?_⟩ <;> omega
      have hp_46 : (((1 : Int32).toInt = 0 ∧ ¬ (sv_28 : Int32).toInt = 0) ∨ (1 : Int32).toInt = 1) := by
        have z_1 : ¬ (r_17 : Int32).toInt = (0 : Int32).toInt := fun z => c_20 (Int32.toInt_inj.mp z)
        have z_2 : ¬ (r_31 : Int32).toInt = (0 : Int32).toInt := fun z => c_34 (Int32.toInt_inj.mp z)
        have y_0 : (0 : Int32).toInt = 0 := by decide
        have y_1 : (1 : Int32).toInt = 1 := by decide
        have t_x_8 : x_8.toInt = (x_7 : Int32).toInt - (1 : Int32).toInt := by rw [ex_8]; exact sub_toInt (by omega) (by omega)
        have t_x_22 : x_22.toInt = (x_21 : Int32).toInt - (1 : Int32).toInt := by rw [ex_22]; exact sub_toInt (by omega) (by omega)
        have yr : (1 : Int32).toInt = 1 := by decide
        omega
      have hm_47 : (1 : Int32).toInt = 1 → (RdO g_41) := by
        intro h1r
        have ha_48 : RdO g_41 := RdO.of (by
          have z_1 : ¬ (r_17 : Int32).toInt = (0 : Int32).toInt := fun z => c_20 (Int32.toInt_inj.mp z)
          have z_2 : ¬ (r_31 : Int32).toInt = (0 : Int32).toInt := fun z => c_34 (Int32.toInt_inj.mp z)
          have y_0 : (0 : Int32).toInt = 0 := by decide
          have y_1 : (1 : Int32).toInt = 1 := by decide
          have t_x_8 : x_8.toInt = (x_7 : Int32).toInt - (1 : Int32).toInt := by rw [ex_8]; exact sub_toInt (by omega) (by omega)
          have t_x_22 : x_22.toInt = (x_21 : Int32).toInt - (1 : Int32).toInt := by rw [ex_22]; exact sub_toInt (by omega) (by omega)
          omega)
        exact ha_48
      exact retI (v := 1) hx hb hr hlk (rfl) hP hD hS (sv_27, sv_28, sv_29, g_41) ⟨_, rfl, hp_46, ha_45, hm_47⟩ [1, 2, 0] rfl rfl dX12_isWatchHere_64 (Nat.le_of_ble_eq_true rfl) (Nat.le_of_ble_eq_true rfl) rfl
    · skip
      refine lv_iconst (v := 0) hx hb dX12_isWatchHere_43 (by decide) ?_
      have ha_49 : ((Mv 2) : Int32).toInt ≤ (sv_27 : Int32).toInt ∧ (sv_27 : Int32).toInt ≤ ((Mv 0) : Int32).toInt := by
        have z_1 : ¬ (r_17 : Int32).toInt = (0 : Int32).toInt := fun z => c_20 (Int32.toInt_inj.mp z)
        have z_2 := congrArg Int32.toInt c_34
        have y_0 : (0 : Int32).toInt = 0 := by decide
        have y_1 : (1 : Int32).toInt = 1 := by decide
        have t_x_8 : x_8.toInt = (x_7 : Int32).toInt - (1 : Int32).toInt := by rw [ex_8]; exact sub_toInt (by omega) (by omega)
        have t_x_22 : x_22.toInt = (x_21 : Int32).toInt - (1 : Int32).toInt := by rw [ex_22]; exact sub_toInt (by omega) (by omega)
        refine ⟨?_, ?_⟩ <;> omega
      have hp_50 : (((0 : Int32).toInt = 0 ∧ ¬ (sv_28 : Int32).toInt = 0) ∨ (0 : Int32).toInt = 1) := by
        have z_1 : ¬ (r_17 : Int32).toInt = (0 : Int32).toInt := fun z => c_20 (Int32.toInt_inj.mp z)
        have z_2 := congrArg Int32.toInt c_34
        have y_0 : (0 : Int32).toInt = 0 := by decide
        have y_1 : (1 : Int32).toInt = 1 := by decide
        have t_x_8 : x_8.toInt = (x_7 : Int32).toInt - (1 : Int32).toInt := by rw [ex_8]; exact sub_toInt (by omega) (by omega)
        have t_x_22 : x_22.toInt = (x_21 : Int32).toInt - (1 : Int32).toInt := by rw [ex_22]; exact sub_toInt (by omega) (by omega)
        omega
      exact retI (v := 0) hx hb hr hlk (rfl) hP hD hS (sv_27, sv_28, sv_29, (Mf 6)) ⟨_, rfl, hp_50, ha_49, (fun h => absurd h (by decide))⟩ [1, 2, 0] rfl rfl dX12_isWatchHere_44 (Nat.le_of_ble_eq_true rfl) (Nat.le_of_ble_eq_true rfl) rfl
  · skip
    refine lv_iconst (v := 0) hx hb dX12_isWatchHere_20 (by decide) ?_
    have ha_51 : ((Mv 2) : Int32).toInt ≤ (sv_13 : Int32).toInt ∧ (sv_13 : Int32).toInt ≤ ((Mv 0) : Int32).toInt := by
      have z_1 := congrArg Int32.toInt c_20
      have y_0 : (0 : Int32).toInt = 0 := by decide
      have y_1 : (1 : Int32).toInt = 1 := by decide
      have t_x_8 : x_8.toInt = (x_7 : Int32).toInt - (1 : Int32).toInt := by rw [ex_8]; exact sub_toInt (by omega) (by omega)
      refine ⟨?_, ?_⟩ <;> omega
    have hp_52 : (((0 : Int32).toInt = 0 ∧ ¬ (sv_14 : Int32).toInt = 0) ∨ (0 : Int32).toInt = 1) := by
      have z_1 := congrArg Int32.toInt c_20
      have y_0 : (0 : Int32).toInt = 0 := by decide
      have y_1 : (1 : Int32).toInt = 1 := by decide
      have t_x_8 : x_8.toInt = (x_7 : Int32).toInt - (1 : Int32).toInt := by rw [ex_8]; exact sub_toInt (by omega) (by omega)
      omega
    exact retI (v := 0) hx hb hr hlk (rfl) hP hD hS (sv_13, sv_14, sv_15, (Mf 6)) ⟨_, rfl, hp_52, ha_51, (fun h => absurd h (by decide))⟩ [1, 2, 0] rfl rfl dX12_isWatchHere_21 (Nat.le_of_ble_eq_true rfl) (Nat.le_of_ble_eq_true rfl) rfl
set_option maxRecDepth 100000 in
theorem cu_X12_isWatchHere (l : Launch) (D : va_G) (tc : Nat → ClassId) (sk : (Nat → Nat) × (Nat → Nat)) (Ma_0 : Nat) (Ma_1 : Nat) (Ma_2 : Nat) (Ma_3 : Nat) (Ma_4 : Nat) (Ma_5 : Nat) (Ma_6 : Nat) (Ma_7 : Nat) (Ma_8 : Nat) (Ma_9 : Nat) (Ma_10 : Nat) (Ma_11 : Nat) (Ma_12 : Nat) (Ma_13 : Nat) (Ma_14 : Nat) (Ma_15 : Nat) (Ma_16 : Nat) (Ma_17 : Nat) (Ma_18 : Nat) (Ma_19 : Nat) (Ma_20 : Nat) (Mv_0 : Int32) (Mv_1 : Int32) (Mv_2 : Int32) (Mv_3 : Int32) (Mv_4 : Int32) (Mv_5 : Int32) (Mv_6 : Int32) (Mv_7 : Int32) (Mv_8 : Int32) (Mv_9 : Int32) (Mv_10 : Int32) (Mv_11 : Int32) (Mv_12 : Int32) (Mv_13 : Int32) (Mv_14 : Int32) (Mf_1 : Nat → Int32) (Mf_6 : Nat → Int32) (Mj_0 : Int64) (h_nx : 0 ≤ (Mv_2 : Int32).toInt ∧ (Mv_2 : Int32).toInt ≤ (Mv_0 : Int32).toInt ∧ (Mv_0 : Int32).toInt ≤ 400) (h_ro : RdO Mf_6) (h_f1 : (Mf_6 0).toInt = 1) : Ct l yX12_isWatchHere cX12_isWatchHere 2 (some .boolean) { frames := 2, cells := 0, slots := 0, locals := 49 } D tc sk [.ref Ma_0] [(Ma_0, .inr (12, [.ref Ma_1, .int Mv_0, .int Mv_1, .ref Ma_2, .ref Ma_3, .ref Ma_4, .ref Ma_5, .ref Ma_6, .int Mv_2, .int Mv_3, .int Mv_4, .int Mv_5, .int Mv_6, .int Mv_7, .int Mv_8, .ref Ma_7, .int Mv_9, .ref Ma_8, .int Mv_10, .ref Ma_9, .ref Ma_10, .int Mv_11, .int Mv_12, .int Mv_13, .ref Ma_11, .int Mv_14, .ref Ma_12, .ref Ma_13, .ref Ma_14, .ref Ma_15, .ref Ma_16, .long Mj_0, .ref Ma_17, .ref Ma_18, .ref Ma_19, .ref Ma_20])), (Ma_1, .inl (tc 2, 400, .inl Mf_1)), (Ma_6, .inl (tc 0, 95, .inl Mf_6))] (fun (v : Option Value) (u : (Int32) × (Int32) × (Int32) × (Nat → Int32)) => match u with | (oo0x1, oo0x2, oo0x3, oo0x4) => ∃ r : Int32, v = some (.int r) ∧ (((r.toInt = 0 ∧ ¬ (oo0x2 : Int32).toInt = 0) ∨ r.toInt = 1)) ∧ ((Mv_2 : Int32).toInt ≤ (oo0x1 : Int32).toInt ∧ (oo0x1 : Int32).toInt ≤ (Mv_0 : Int32).toInt) ∧ (r.toInt = 1 → (RdO oo0x4))) (fun (u : (Int32) × (Int32) × (Int32) × (Nat → Int32)) => match u with | (oo0x1, oo0x2, oo0x3, oo0x4) => [(Ma_0, .inr (12, [.ref Ma_1, .int Mv_0, .int Mv_1, .ref Ma_2, .ref Ma_3, .ref Ma_4, .ref Ma_5, .ref Ma_6, .int oo0x1, .int oo0x2, .int oo0x3, .int Mv_5, .int Mv_6, .int Mv_7, .int Mv_8, .ref Ma_7, .int Mv_9, .ref Ma_8, .int Mv_10, .ref Ma_9, .ref Ma_10, .int Mv_11, .int Mv_12, .int Mv_13, .ref Ma_11, .int Mv_14, .ref Ma_12, .ref Ma_13, .ref Ma_14, .ref Ma_15, .ref Ma_16, .long Mj_0, .ref Ma_17, .ref Ma_18, .ref Ma_19, .ref Ma_20])), (Ma_1, .inl (tc 2, 400, .inl Mf_1)), (Ma_6, .inl (tc 0, 95, .inl oo0x4))]) 0 0 :=
  ct_X12_isWatchHere l D tc sk (fun k => ([Ma_0, Ma_1, Ma_2, Ma_3, Ma_4, Ma_5, Ma_6, Ma_7, Ma_8, Ma_9, Ma_10, Ma_11, Ma_12, Ma_13, Ma_14, Ma_15, Ma_16, Ma_17, Ma_18, Ma_19, Ma_20] : List (Nat)).getD k 0) (fun k => ([Mv_0, Mv_1, Mv_2, Mv_3, Mv_4, Mv_5, Mv_6, Mv_7, Mv_8, Mv_9, Mv_10, Mv_11, Mv_12, Mv_13, Mv_14] : List (Int32)).getD k 0) (fun k => ([(fun _ => 0), Mf_1, (fun _ => 0), (fun _ => 0), (fun _ => 0), (fun _ => 0), Mf_6] : List (Nat → Int32)).getD k (fun _ => 0)) (fun k => ([Mj_0] : List (Int64)).getD k 0) h_nx h_ro h_f1
set_option maxHeartbeats 4000000 in
set_option maxRecDepth 100000 in
theorem ct_X12_bookLineHere (l : Launch) (D : va_G) (tc : Nat → ClassId) (sk : (Nat → Nat) × (Nat → Nat)) (Ma : Nat → Nat) (Mv : Nat → Int32) (Mf : Nat → Nat → Int32) (Mj : Nat → Int64) (x1 : Int32) (h_nx : 0 ≤ ((Mv 2) : Int32).toInt ∧ ((Mv 2) : Int32).toInt ≤ ((Mv 0) : Int32).toInt ∧ ((Mv 0) : Int32).toInt ≤ 400) (h_at : 0 ≤ x1.toInt ∧ x1.toInt ≤ 400) (h_ro : RdO (Mf 6)) : Ct l yX12_bookLineHere cX12_bookLineHere 2 (some .boolean) { frames := 4, cells := 0, slots := 0, locals := 94 } D tc sk [.ref (Ma 0), .int x1] [((Ma 0), .inr (12, [.ref (Ma 1), .int (Mv 0), .int (Mv 1), .ref (Ma 2), .ref (Ma 3), .ref (Ma 4), .ref (Ma 5), .ref (Ma 6), .int (Mv 2), .int (Mv 3), .int (Mv 4), .int (Mv 5), .int (Mv 6), .int (Mv 7), .int (Mv 8), .ref (Ma 7), .int (Mv 9), .ref (Ma 8), .int (Mv 10), .ref (Ma 9), .ref (Ma 10), .int (Mv 11), .int (Mv 12), .int (Mv 13), .ref (Ma 11), .int (Mv 14), .ref (Ma 12), .ref (Ma 13), .ref (Ma 14), .ref (Ma 15), .ref (Ma 16), .long (Mj 0), .ref (Ma 17), .ref (Ma 18), .ref (Ma 19), .ref (Ma 20)])), ((Ma 1), .inl (tc 2, 400, .inl (Mf 1))), ((Ma 6), .inl (tc 0, 95, .inl (Mf 6)))] (fun (v : Option Value) (u : (Int32) × (Int32) × (Int32) × (Nat → Int32)) => match u with | (oo0x1, oo0x2, oo0x3, oo0x4) => ∃ r : Int32, v = some (.int r) ∧ (((r.toInt = 0 ∧ ¬ (oo0x2 : Int32).toInt = 0) ∨ r.toInt = 1)) ∧ (((Mv 2) : Int32).toInt ≤ (oo0x1 : Int32).toInt ∧ (oo0x1 : Int32).toInt ≤ ((Mv 0) : Int32).toInt) ∧ (r.toInt = 1 → (RdO oo0x4))) (fun (u : (Int32) × (Int32) × (Int32) × (Nat → Int32)) => match u with | (oo0x1, oo0x2, oo0x3, oo0x4) => [((Ma 0), .inr (12, [.ref (Ma 1), .int (Mv 0), .int (Mv 1), .ref (Ma 2), .ref (Ma 3), .ref (Ma 4), .ref (Ma 5), .ref (Ma 6), .int oo0x1, .int oo0x2, .int oo0x3, .int (Mv 5), .int (Mv 6), .int (Mv 7), .int (Mv 8), .ref (Ma 7), .int (Mv 9), .ref (Ma 8), .int (Mv 10), .ref (Ma 9), .ref (Ma 10), .int (Mv 11), .int (Mv 12), .int (Mv 13), .ref (Ma 11), .int (Mv 14), .ref (Ma 12), .ref (Ma 13), .ref (Ma 14), .ref (Ma 15), .ref (Ma 16), .long (Mj 0), .ref (Ma 17), .ref (Ma 18), .ref (Ma 19), .ref (Ma 20)])), ((Ma 1), .inl (tc 2, 400, .inl (Mf 1))), ((Ma 6), .inl (tc 0, 95, .inl oo0x4))]) 0 0 := by
  refine Ct.start (by decide) (Nat.le_of_ble_eq_true rfl) (fun p e s m below meth c A ls hx hb hr hlk hin hml hown hts hK hX hP hD hA hl hS => ?_)
  have hl : lv_has ls 2 [(0, .ref (Ma 0)), (1, .int x1)] := hl
  have ar_h_ro := RdO.ar h_ro
  refine lv_aload_n hx hb dX12_bookLineHere_0 rfl (lv_at hl 0 rfl) ?_
  refine lv_ldc2 hx hb hown (hts _ k_1216) dX12_bookLineHere_1 ?_
  refine cV (a := (Ma 0)) (As := [.long 1651470187]) (rest := []) (wr := [((Ma 6), .inl (tc 0, 95, .inl (Mf 6)))]) ⟨hx, hb, hml, hown, hts⟩ hK hX hA (cu_X12_isWord l D tc sk (Ma 0) (Ma 1) (Ma 2) (Ma 3) (Ma 4) (Ma 5) (Ma 6) (Ma 7) (Ma 8) (Ma 9) (Ma 10) (Ma 11) (Ma 12) (Ma 13) (Ma 14) (Ma 15) (Ma 16) (Ma 17) (Ma 18) (Ma 19) (Ma 20) (Mv 0) (Mv 1) (Mv 2) (Mv 3) (Mv 4) (Mv 5) (Mv 6) (Mv 7) (Mv 8) (Mv 9) (Mv 10) (Mv 11) (Mv 12) (Mv 13) (Mv 14) (Mf 1) (Mj 0) 1651470187 h_nx) k_1220 k_1217 k_1219 k_29 k_106 pl_X12_isWord ⟨Nat.le_of_ble_eq_true rfl, Nat.le_of_ble_eq_true rfl⟩ rfl rfl (va_recv hK hP (ci := 12) (q0 := 0) rfl rfl) hP hD hS [0, 1] [2] rfl rfl rfl rfl rfl (by decide) rfl hl.1 rfl (Nat.le_of_ble_eq_true rfl) dX12_bookLineHere_4 ⟨Nat.le_of_ble_eq_true rfl, Nat.le_of_ble_eq_true rfl⟩ (fun v_1 u_2 H locs hv_3 hP₀ hD₀ hS₀ => ?_)
  obtain ⟨sv_4, rfl⟩ : ∃ z, z = u_2 := ⟨_, rfl⟩
  obtain ⟨r_8, rfl, he_9, pf_5, pf_6, pf_7, hm_11⟩ := hv_3
  have he_9 : (r_8.toInt = 0 ∨ r_8.toInt = 1) := he_9
  have pf_5 : ((Mv 2) : Int32).toInt ≤ (sv_4 : Int32).toInt ∧ (sv_4 : Int32).toInt ≤ ((Mv 0) : Int32).toInt := pf_5
  have pf_6 : NSq (Mf 1) (Mv 0) sv_4 := pf_6
  have pf_7 : Stl (Mf 1) (Mv 0) (Mv 2) sv_4 := pf_7
  refine W.eq (g2 := F0 m 7 ls [.int r_8]) rfl ?_
  replace hP : va_P D classes [((Ma 6), .inl (tc 0, 95, .inl (Mf 6))), ((Ma 0), .inr (12, [.ref (Ma 1), .int (Mv 0), .int (Mv 1), .ref (Ma 2), .ref (Ma 3), .ref (Ma 4), .ref (Ma 5), .ref (Ma 6), .int sv_4, .int (Mv 3), .int (Mv 4), .int (Mv 5), .int (Mv 6), .int (Mv 7), .int (Mv 8), .ref (Ma 7), .int (Mv 9), .ref (Ma 8), .int (Mv 10), .ref (Ma 9), .ref (Ma 10), .int (Mv 11), .int (Mv 12), .int (Mv 13), .ref (Ma 11), .int (Mv 14), .ref (Ma 12), .ref (Ma 13), .ref (Ma 14), .ref (Ma 15), .ref (Ma 16), .long (Mj 0), .ref (Ma 17), .ref (Ma 18), .ref (Ma 19), .ref (Ma 20)])), ((Ma 1), .inl (tc 2, 400, .inl (Mf 1)))] H := hP₀
  replace hD : va_D A [((Ma 6), .inl (tc 0, 95, .inl (Mf 6))), ((Ma 0), .inr (12, [.ref (Ma 1), .int (Mv 0), .int (Mv 1), .ref (Ma 2), .ref (Ma 3), .ref (Ma 4), .ref (Ma 5), .ref (Ma 6), .int sv_4, .int (Mv 3), .int (Mv 4), .int (Mv 5), .int (Mv 6), .int (Mv 7), .int (Mv 8), .ref (Ma 7), .int (Mv 9), .ref (Ma 8), .int (Mv 10), .ref (Ma 9), .ref (Ma 10), .int (Mv 11), .int (Mv 12), .int (Mv 13), .ref (Ma 11), .int (Mv 14), .ref (Ma 12), .ref (Ma 13), .ref (Ma 14), .ref (Ma 15), .ref (Ma 16), .long (Mj 0), .ref (Ma 17), .ref (Ma 18), .ref (Ma 19), .ref (Ma 20)])), ((Ma 1), .inl (tc 2, 400, .inl (Mf 1)))] := hD₀
  replace hS := hS₀
  clear hP₀ hD₀ hS₀
  refine lv_if_eq (tgt := 16) hx hb dX12_bookLineHere_7 (by decide) (fun c_12 => ?_) (fun c_12 => ?_)
  · skip
    refine lv_aload_n hx hb dX12_bookLineHere_16 rfl (lv_at hl 0 rfl) ?_
    refine gf_X12_26 hx hb hts hown hK hP 1 rfl rfl dX12_bookLineHere_17 ?_
    refine lv_iconst (v := 0) hx hb dX12_bookLineHere_20 (by decide) ?_
    refine va_iald hx hb hK hP 0 0 rfl rfl (vin_dec (by decide +kernel)) dX12_bookLineHere_21 ?_
    refine lv_topi (fun x_13 ex_13 => ?_)
    have lx_13 : x_13.toInt = ((Mf 6) 0).toInt := congrArg Int32.toInt ex_13
    refine lv_if_ne (tgt := 32) hx hb dX12_bookLineHere_22 (by decide) (fun c_14 => ?_) (fun c_14 => ?_)
    · skip
      refine lv_aload_n hx hb dX12_bookLineHere_32 rfl (lv_at hl 0 rfl) ?_
      refine lv_ldc2 hx hb hown (hts _ k_1225) dX12_bookLineHere_33 ?_
      have ha_15 : 0 ≤ (sv_4 : Int32).toInt ∧ (sv_4 : Int32).toInt ≤ ((Mv 0) : Int32).toInt ∧ ((Mv 0) : Int32).toInt ≤ 400 := by
        have z_1 := congrArg Int32.toInt c_12
        have z_2 : ¬ (x_13 : Int32).toInt = (0 : Int32).toInt := fun z => c_14 (Int32.toInt_inj.mp z)
        have y_0 : (0 : Int32).toInt = 0 := by decide
        refine ⟨?_, ?_, ?_⟩ <;> omega
      refine cV (a := (Ma 0)) (As := [.long 7564153]) (rest := []) (wr := [((Ma 6), .inl (tc 0, 95, .inl (Mf 6)))]) ⟨hx, hb, hml, hown, hts⟩ hK hX hA (cu_X12_isWord l D tc sk (Ma 0) (Ma 1) (Ma 2) (Ma 3) (Ma 4) (Ma 5) (Ma 6) (Ma 7) (Ma 8) (Ma 9) (Ma 10) (Ma 11) (Ma 12) (Ma 13) (Ma 14) (Ma 15) (Ma 16) (Ma 17) (Ma 18) (Ma 19) (Ma 20) (Mv 0) (Mv 1) sv_4 (Mv 3) (Mv 4) (Mv 5) (Mv 6) (Mv 7) (Mv 8) (Mv 9) (Mv 10) (Mv 11) (Mv 12) (Mv 13) (Mv 14) (Mf 1) (Mj 0) 7564153 ha_15) k_1220 k_1217 k_1219 k_29 k_106 pl_X12_isWord ⟨Nat.le_of_ble_eq_true rfl, Nat.le_of_ble_eq_true rfl⟩ rfl rfl (va_recv hK hP (ci := 12) (q0 := 1) rfl rfl) hP hD hS [1, 2] [0] rfl rfl rfl rfl rfl (by decide) rfl hl.1 rfl (Nat.le_of_ble_eq_true rfl) dX12_bookLineHere_36 ⟨Nat.le_of_ble_eq_true rfl, Nat.le_of_ble_eq_true rfl⟩ (fun v_16 u_17 H locs hv_18 hP₀ hD₀ hS₀ => ?_)
      obtain ⟨sv_19, rfl⟩ : ∃ z, z = u_17 := ⟨_, rfl⟩
      obtain ⟨r_23, rfl, he_24, pf_20, pf_21, pf_22, hm_26⟩ := hv_18
      have he_24 : (r_23.toInt = 0 ∨ r_23.toInt = 1) := he_24
      have pf_20 : (sv_4 : Int32).toInt ≤ (sv_19 : Int32).toInt ∧ (sv_19 : Int32).toInt ≤ ((Mv 0) : Int32).toInt := pf_20
      have pf_21 : NSq (Mf 1) (Mv 0) sv_19 := pf_21
      have pf_22 : Stl (Mf 1) (Mv 0) sv_4 sv_19 := pf_22
      have ar_pf_22 := Stl.or pf_22 pf_6
      refine W.eq (g2 := F0 m 39 ls [.int r_23]) rfl ?_
      replace hP : va_P D classes [((Ma 6), .inl (tc 0, 95, .inl (Mf 6))), ((Ma 0), .inr (12, [.ref (Ma 1), .int (Mv 0), .int (Mv 1), .ref (Ma 2), .ref (Ma 3), .ref (Ma 4), .ref (Ma 5), .ref (Ma 6), .int sv_19, .int (Mv 3), .int (Mv 4), .int (Mv 5), .int (Mv 6), .int (Mv 7), .int (Mv 8), .ref (Ma 7), .int (Mv 9), .ref (Ma 8), .int (Mv 10), .ref (Ma 9), .ref (Ma 10), .int (Mv 11), .int (Mv 12), .int (Mv 13), .ref (Ma 11), .int (Mv 14), .ref (Ma 12), .ref (Ma 13), .ref (Ma 14), .ref (Ma 15), .ref (Ma 16), .long (Mj 0), .ref (Ma 17), .ref (Ma 18), .ref (Ma 19), .ref (Ma 20)])), ((Ma 1), .inl (tc 2, 400, .inl (Mf 1)))] H := hP₀
      replace hD : va_D A [((Ma 6), .inl (tc 0, 95, .inl (Mf 6))), ((Ma 0), .inr (12, [.ref (Ma 1), .int (Mv 0), .int (Mv 1), .ref (Ma 2), .ref (Ma 3), .ref (Ma 4), .ref (Ma 5), .ref (Ma 6), .int sv_19, .int (Mv 3), .int (Mv 4), .int (Mv 5), .int (Mv 6), .int (Mv 7), .int (Mv 8), .ref (Ma 7), .int (Mv 9), .ref (Ma 8), .int (Mv 10), .ref (Ma 9), .ref (Ma 10), .int (Mv 11), .int (Mv 12), .int (Mv 13), .ref (Ma 11), .int (Mv 14), .ref (Ma 12), .ref (Ma 13), .ref (Ma 14), .ref (Ma 15), .ref (Ma 16), .long (Mj 0), .ref (Ma 17), .ref (Ma 18), .ref (Ma 19), .ref (Ma 20)])), ((Ma 1), .inl (tc 2, 400, .inl (Mf 1)))] := hD₀
      replace hS := hS₀
      clear hP₀ hD₀ hS₀
      refine lv_if_eq (tgt := 47) hx hb dX12_bookLineHere_39 (by decide) (fun c_27 => ?_) (fun c_27 => ?_)
      · skip
        refine lv_aload_n hx hb dX12_bookLineHere_47 rfl (lv_at hl 0 rfl) ?_
        refine lv_ldc2 hx hb hown (hts _ k_1226) dX12_bookLineHere_48 ?_
        have ha_28 : 0 ≤ (sv_19 : Int32).toInt ∧ (sv_19 : Int32).toInt ≤ ((Mv 0) : Int32).toInt ∧ ((Mv 0) : Int32).toInt ≤ 400 := by
          have z_1 := congrArg Int32.toInt c_12
          have z_2 : ¬ (x_13 : Int32).toInt = (0 : Int32).toInt := fun z => c_14 (Int32.toInt_inj.mp z)
          have z_3 := congrArg Int32.toInt c_27
          have y_0 : (0 : Int32).toInt = 0 := by decide
          refine ⟨?_, ?_, ?_⟩ <;> omega
        refine cV (a := (Ma 0)) (As := [.long 422877685106]) (rest := []) (wr := [((Ma 6), .inl (tc 0, 95, .inl (Mf 6)))]) ⟨hx, hb, hml, hown, hts⟩ hK hX hA (cu_X12_isWord l D tc sk (Ma 0) (Ma 1) (Ma 2) (Ma 3) (Ma 4) (Ma 5) (Ma 6) (Ma 7) (Ma 8) (Ma 9) (Ma 10) (Ma 11) (Ma 12) (Ma 13) (Ma 14) (Ma 15) (Ma 16) (Ma 17) (Ma 18) (Ma 19) (Ma 20) (Mv 0) (Mv 1) sv_19 (Mv 3) (Mv 4) (Mv 5) (Mv 6) (Mv 7) (Mv 8) (Mv 9) (Mv 10) (Mv 11) (Mv 12) (Mv 13) (Mv 14) (Mf 1) (Mj 0) 422877685106 ha_28) k_1220 k_1217 k_1219 k_29 k_106 pl_X12_isWord ⟨Nat.le_of_ble_eq_true rfl, Nat.le_of_ble_eq_true rfl⟩ rfl rfl (va_recv hK hP (ci := 12) (q0 := 1) rfl rfl) hP hD hS [1, 2] [0] rfl rfl rfl rfl rfl (by decide) rfl hl.1 rfl (Nat.le_of_ble_eq_true rfl) dX12_bookLineHere_51 ⟨Nat.le_of_ble_eq_true rfl, Nat.le_of_ble_eq_true rfl⟩ (fun v_29 u_30 H locs hv_31 hP₀ hD₀ hS₀ => ?_)
        obtain ⟨sv_32, rfl⟩ : ∃ z, z = u_30 := ⟨_, rfl⟩
        obtain ⟨r_36, rfl, he_37, pf_33, pf_34, pf_35, hm_39⟩ := hv_31
        have he_37 : (r_36.toInt = 0 ∨ r_36.toInt = 1) := he_37
        have pf_33 : (sv_19 : Int32).toInt ≤ (sv_32 : Int32).toInt ∧ (sv_32 : Int32).toInt ≤ ((Mv 0) : Int32).toInt := pf_33
        have pf_34 : NSq (Mf 1) (Mv 0) sv_32 := pf_34
        have pf_35 : Stl (Mf 1) (Mv 0) sv_19 sv_32 := pf_35
        have ar_pf_35 := Stl.or pf_35 pf_21
        refine W.eq (g2 := F0 m 54 ls [.int r_36]) rfl ?_
        replace hP : va_P D classes [((Ma 6), .inl (tc 0, 95, .inl (Mf 6))), ((Ma 0), .inr (12, [.ref (Ma 1), .int (Mv 0), .int (Mv 1), .ref (Ma 2), .ref (Ma 3), .ref (Ma 4), .ref (Ma 5), .ref (Ma 6), .int sv_32, .int (Mv 3), .int (Mv 4), .int (Mv 5), .int (Mv 6), .int (Mv 7), .int (Mv 8), .ref (Ma 7), .int (Mv 9), .ref (Ma 8), .int (Mv 10), .ref (Ma 9), .ref (Ma 10), .int (Mv 11), .int (Mv 12), .int (Mv 13), .ref (Ma 11), .int (Mv 14), .ref (Ma 12), .ref (Ma 13), .ref (Ma 14), .ref (Ma 15), .ref (Ma 16), .long (Mj 0), .ref (Ma 17), .ref (Ma 18), .ref (Ma 19), .ref (Ma 20)])), ((Ma 1), .inl (tc 2, 400, .inl (Mf 1)))] H := hP₀
        replace hD : va_D A [((Ma 6), .inl (tc 0, 95, .inl (Mf 6))), ((Ma 0), .inr (12, [.ref (Ma 1), .int (Mv 0), .int (Mv 1), .ref (Ma 2), .ref (Ma 3), .ref (Ma 4), .ref (Ma 5), .ref (Ma 6), .int sv_32, .int (Mv 3), .int (Mv 4), .int (Mv 5), .int (Mv 6), .int (Mv 7), .int (Mv 8), .ref (Ma 7), .int (Mv 9), .ref (Ma 8), .int (Mv 10), .ref (Ma 9), .ref (Ma 10), .int (Mv 11), .int (Mv 12), .int (Mv 13), .ref (Ma 11), .int (Mv 14), .ref (Ma 12), .ref (Ma 13), .ref (Ma 14), .ref (Ma 15), .ref (Ma 16), .long (Mj 0), .ref (Ma 17), .ref (Ma 18), .ref (Ma 19), .ref (Ma 20)])), ((Ma 1), .inl (tc 2, 400, .inl (Mf 1)))] := hD₀
        replace hS := hS₀
        clear hP₀ hD₀ hS₀
        refine lv_if_eq (tgt := 65) hx hb dX12_bookLineHere_54 (by decide) (fun c_40 => ?_) (fun c_40 => ?_)
        · skip
          refine lv_aload_n hx hb dX12_bookLineHere_65 rfl (lv_at hl 0 rfl) ?_
          have ha_41 : 0 ≤ (sv_32 : Int32).toInt ∧ (sv_32 : Int32).toInt ≤ ((Mv 0) : Int32).toInt ∧ ((Mv 0) : Int32).toInt ≤ 400 := by
            have z_1 := congrArg Int32.toInt c_12
            have z_2 : ¬ (x_13 : Int32).toInt = (0 : Int32).toInt := fun z => c_14 (Int32.toInt_inj.mp z)
            have z_3 := congrArg Int32.toInt c_27
            have z_4 := congrArg Int32.toInt c_40
            have y_0 : (0 : Int32).toInt = 0 := by decide
            refine ⟨?_, ?_, ?_⟩ <;> omega
          have ha_42 : ((Mf 6) 0).toInt = 1 := by
            have z_1 := congrArg Int32.toInt c_12
            have z_2 : ¬ (x_13 : Int32).toInt = (0 : Int32).toInt := fun z => c_14 (Int32.toInt_inj.mp z)
            have z_3 := congrArg Int32.toInt c_27
            have z_4 := congrArg Int32.toInt c_40
            have y_0 : (0 : Int32).toInt = 0 := by decide
            omega
          refine cV (a := (Ma 0)) (As := []) (rest := []) (wr := []) ⟨hx, hb, hml, hown, hts⟩ hK hX hA (cu_X12_isWatchHere l D tc sk (Ma 0) (Ma 1) (Ma 2) (Ma 3) (Ma 4) (Ma 5) (Ma 6) (Ma 7) (Ma 8) (Ma 9) (Ma 10) (Ma 11) (Ma 12) (Ma 13) (Ma 14) (Ma 15) (Ma 16) (Ma 17) (Ma 18) (Ma 19) (Ma 20) (Mv 0) (Mv 1) sv_32 (Mv 3) (Mv 4) (Mv 5) (Mv 6) (Mv 7) (Mv 8) (Mv 9) (Mv 10) (Mv 11) (Mv 12) (Mv 13) (Mv 14) (Mf 1) (Mf 6) (Mj 0) ha_41 h_ro ha_42) k_1271 k_1268 k_1270 k_40 k_106 pl_X12_isWatchHere ⟨Nat.le_of_ble_eq_true rfl, Nat.le_of_ble_eq_true rfl⟩ rfl rfl (va_recv hK hP (ci := 12) (q0 := 1) rfl rfl) hP hD hS [1, 2, 0] [] rfl rfl rfl rfl rfl (by decide) rfl hl.1 rfl (Nat.le_of_ble_eq_true rfl) dX12_bookLineHere_66 ⟨Nat.le_of_ble_eq_true rfl, Nat.le_of_ble_eq_true rfl⟩ (fun v_43 u_44 H locs hv_45 hP₀ hD₀ hS₀ => ?_)
          obtain ⟨sv_46, sv_47, sv_48, sv_49⟩ := u_44
          obtain ⟨r_51, rfl, he_52, pf_50, hm_54⟩ := hv_45
          have he_52 : ((r_51.toInt = 0 ∧ ¬ (sv_47 : Int32).toInt = 0) ∨ r_51.toInt = 1) := he_52
          have pf_50 : (sv_32 : Int32).toInt ≤ (sv_46 : Int32).toInt ∧ (sv_46 : Int32).toInt ≤ ((Mv 0) : Int32).toInt := pf_50
          refine W.eq (g2 := F0 m 69 ls [.int r_51]) rfl ?_
          replace hP : va_P D classes [((Ma 0), .inr (12, [.ref (Ma 1), .int (Mv 0), .int (Mv 1), .ref (Ma 2), .ref (Ma 3), .ref (Ma 4), .ref (Ma 5), .ref (Ma 6), .int sv_46, .int sv_47, .int sv_48, .int (Mv 5), .int (Mv 6), .int (Mv 7), .int (Mv 8), .ref (Ma 7), .int (Mv 9), .ref (Ma 8), .int (Mv 10), .ref (Ma 9), .ref (Ma 10), .int (Mv 11), .int (Mv 12), .int (Mv 13), .ref (Ma 11), .int (Mv 14), .ref (Ma 12), .ref (Ma 13), .ref (Ma 14), .ref (Ma 15), .ref (Ma 16), .long (Mj 0), .ref (Ma 17), .ref (Ma 18), .ref (Ma 19), .ref (Ma 20)])), ((Ma 1), .inl (tc 2, 400, .inl (Mf 1))), ((Ma 6), .inl (tc 0, 95, .inl sv_49))] H := hP₀
          replace hD : va_D A [((Ma 0), .inr (12, [.ref (Ma 1), .int (Mv 0), .int (Mv 1), .ref (Ma 2), .ref (Ma 3), .ref (Ma 4), .ref (Ma 5), .ref (Ma 6), .int sv_46, .int sv_47, .int sv_48, .int (Mv 5), .int (Mv 6), .int (Mv 7), .int (Mv 8), .ref (Ma 7), .int (Mv 9), .ref (Ma 8), .int (Mv 10), .ref (Ma 9), .ref (Ma 10), .int (Mv 11), .int (Mv 12), .int (Mv 13), .ref (Ma 11), .int (Mv 14), .ref (Ma 12), .ref (Ma 13), .ref (Ma 14), .ref (Ma 15), .ref (Ma 16), .long (Mj 0), .ref (Ma 17), .ref (Ma 18), .ref (Ma 19), .ref (Ma 20)])), ((Ma 1), .inl (tc 2, 400, .inl (Mf 1))), ((Ma 6), .inl (tc 0, 95, .inl sv_49))] := hD₀
          replace hS := hS₀
          clear hP₀ hD₀ hS₀
          have ha_55 : ((Mv 2) : Int32).toInt ≤ (sv_46 : Int32).toInt ∧ (sv_46 : Int32).toInt ≤ ((Mv 0) : Int32).toInt := by
            have z_1 := congrArg Int32.toInt c_12
            have z_2 : ¬ (x_13 : Int32).toInt = (0 : Int32).toInt := fun z => c_14 (Int32.toInt_inj.mp z)
            have z_3 := congrArg Int32.toInt c_27
            have z_4 := congrArg Int32.toInt c_40
            have y_0 : (0 : Int32).toInt = 0 := by decide
            refine ⟨?_, ?_⟩ <;> omega
          have hb_56 : (r_51 : Int32).toInt = 0 ∨ (r_51 : Int32).toInt = 1 := by
            have z_1 := congrArg Int32.toInt c_12
            have z_2 : ¬ (x_13 : Int32).toInt = (0 : Int32).toInt := fun z => c_14 (Int32.toInt_inj.mp z)
            have z_3 := congrArg Int32.toInt c_27
            have z_4 := congrArg Int32.toInt c_40
            have y_0 : (0 : Int32).toInt = 0 := by decide
            omega
          have hp_57 : (((r_51 : Int32).toInt = 0 ∧ ¬ (sv_47 : Int32).toInt = 0) ∨ (r_51 : Int32).toInt = 1) := by
            have z_1 := congrArg Int32.toInt c_12
            have z_2 : ¬ (x_13 : Int32).toInt = (0 : Int32).toInt := fun z => c_14 (Int32.toInt_inj.mp z)
            have z_3 := congrArg Int32.toInt c_27
            have z_4 := congrArg Int32.toInt c_40
            have y_0 : (0 : Int32).toInt = 0 := by decide
            omega
          have hm_58 : (r_51 : Int32).toInt = 1 → (RdO sv_49) := by
            intro h1r
            obtain pf_59 := hm_54 h1r
            have pf_59 : RdO sv_49 := pf_59
            have ar_pf_59 := RdO.ar pf_59
            exact pf_59
          exact retI (v := r_51) hx hb hr hlk (nar01 hb_56) hP hD hS (sv_46, sv_47, sv_48, sv_49) ⟨_, rfl, hp_57, ha_55, hm_58⟩ [0, 1, 2] rfl rfl dX12_bookLineHere_69 (Nat.le_of_ble_eq_true rfl) (Nat.le_of_ble_eq_true rfl) rfl
        · skip
          have hz_61 : (r_36 : Int32).toInt = 1 := by
            have z_1 := congrArg Int32.toInt c_12
            have z_2 : ¬ (x_13 : Int32).toInt = (0 : Int32).toInt := fun z => c_14 (Int32.toInt_inj.mp z)
            have z_3 := congrArg Int32.toInt c_27
            have z_4 : ¬ (r_36 : Int32).toInt = (0 : Int32).toInt := fun z => c_40 (Int32.toInt_inj.mp z)
            have y_0 : (0 : Int32).toInt = 0 := by decide
            omega
          obtain pf_60 := hm_39 hz_61
          have pf_60 : Ltr (Mf 1) (Mv 0) sv_32 := pf_60
          have ar_pf_60 := pf_60.1
          refine lv_aload_n hx hb dX12_bookLineHere_57 rfl (lv_at hl 0 rfl) ?_
          refine lv_iload_n hx hb dX12_bookLineHere_58 rfl (lv_at hl 1 rfl) ?_
          have ha_62 : 0 ≤ (sv_32 : Int32).toInt ∧ (sv_32 : Int32).toInt ≤ ((Mv 0) : Int32).toInt ∧ ((Mv 0) : Int32).toInt ≤ 400 := by
            have z_1 := congrArg Int32.toInt c_12
            have z_2 : ¬ (x_13 : Int32).toInt = (0 : Int32).toInt := fun z => c_14 (Int32.toInt_inj.mp z)
            have z_3 := congrArg Int32.toInt c_27
            have z_4 : ¬ (r_36 : Int32).toInt = (0 : Int32).toInt := fun z => c_40 (Int32.toInt_inj.mp z)
            have y_0 : (0 : Int32).toInt = 0 := by decide
            refine ⟨?_, ?_, ?_⟩ <;> omega
          have ha_63 : ((Mf 6) 0).toInt = 1 := by
            have z_1 := congrArg Int32.toInt c_12
            have z_2 : ¬ (x_13 : Int32).toInt = (0 : Int32).toInt := fun z => c_14 (Int32.toInt_inj.mp z)
            have z_3 := congrArg Int32.toInt c_27
            have z_4 : ¬ (r_36 : Int32).toInt = (0 : Int32).toInt := fun z => c_40 (Int32.toInt_inj.mp z)
            have y_0 : (0 : Int32).toInt = 0 := by decide
            omega
          refine cV (a := (Ma 0)) (As := [.int x1]) (rest := []) (wr := []) ⟨hx, hb, hml, hown, hts⟩ hK hX hA (cu_X12_isBuyerHere l D tc sk (Ma 0) (Ma 1) (Ma 2) (Ma 3) (Ma 4) (Ma 5) (Ma 6) (Ma 7) (Ma 8) (Ma 9) (Ma 10) (Ma 11) (Ma 12) (Ma 13) (Ma 14) (Ma 15) (Ma 16) (Ma 17) (Ma 18) (Ma 19) (Ma 20) (Mv 0) (Mv 1) sv_32 (Mv 3) (Mv 4) (Mv 5) (Mv 6) (Mv 7) (Mv 8) (Mv 9) (Mv 10) (Mv 11) (Mv 12) (Mv 13) (Mv 14) (Mf 1) (Mf 6) (Mj 0) x1 ha_62 h_at h_ro ha_63) k_1267 k_1264 k_1266 k_39 k_106 pl_X12_isBuyerHere ⟨Nat.le_of_ble_eq_true rfl, Nat.le_of_ble_eq_true rfl⟩ rfl rfl (va_recv hK hP (ci := 12) (q0 := 1) rfl rfl) hP hD hS [1, 2, 0] [] rfl rfl rfl rfl rfl (by decide) rfl hl.1 rfl (Nat.le_of_ble_eq_true rfl) dX12_bookLineHere_59 ⟨Nat.le_of_ble_eq_true rfl, Nat.le_of_ble_eq_true rfl⟩ (fun v_64 u_65 H locs hv_66 hP₀ hD₀ hS₀ => ?_)
          obtain ⟨sv_67, sv_68, sv_69, sv_70⟩ := u_65
          obtain ⟨r_72, rfl, he_73, pf_71, hm_75⟩ := hv_66
          have he_73 : ((r_72.toInt = 0 ∧ ¬ (sv_68 : Int32).toInt = 0) ∨ r_72.toInt = 1) := he_73
          have pf_71 : (sv_32 : Int32).toInt ≤ (sv_67 : Int32).toInt ∧ (sv_67 : Int32).toInt ≤ ((Mv 0) : Int32).toInt := pf_71
          refine W.eq (g2 := F0 m 62 ls [.int r_72]) rfl ?_
          replace hP : va_P D classes [((Ma 0), .inr (12, [.ref (Ma 1), .int (Mv 0), .int (Mv 1), .ref (Ma 2), .ref (Ma 3), .ref (Ma 4), .ref (Ma 5), .ref (Ma 6), .int sv_67, .int sv_68, .int sv_69, .int (Mv 5), .int (Mv 6), .int (Mv 7), .int (Mv 8), .ref (Ma 7), .int (Mv 9), .ref (Ma 8), .int (Mv 10), .ref (Ma 9), .ref (Ma 10), .int (Mv 11), .int (Mv 12), .int (Mv 13), .ref (Ma 11), .int (Mv 14), .ref (Ma 12), .ref (Ma 13), .ref (Ma 14), .ref (Ma 15), .ref (Ma 16), .long (Mj 0), .ref (Ma 17), .ref (Ma 18), .ref (Ma 19), .ref (Ma 20)])), ((Ma 1), .inl (tc 2, 400, .inl (Mf 1))), ((Ma 6), .inl (tc 0, 95, .inl sv_70))] H := hP₀
          replace hD : va_D A [((Ma 0), .inr (12, [.ref (Ma 1), .int (Mv 0), .int (Mv 1), .ref (Ma 2), .ref (Ma 3), .ref (Ma 4), .ref (Ma 5), .ref (Ma 6), .int sv_67, .int sv_68, .int sv_69, .int (Mv 5), .int (Mv 6), .int (Mv 7), .int (Mv 8), .ref (Ma 7), .int (Mv 9), .ref (Ma 8), .int (Mv 10), .ref (Ma 9), .ref (Ma 10), .int (Mv 11), .int (Mv 12), .int (Mv 13), .ref (Ma 11), .int (Mv 14), .ref (Ma 12), .ref (Ma 13), .ref (Ma 14), .ref (Ma 15), .ref (Ma 16), .long (Mj 0), .ref (Ma 17), .ref (Ma 18), .ref (Ma 19), .ref (Ma 20)])), ((Ma 1), .inl (tc 2, 400, .inl (Mf 1))), ((Ma 6), .inl (tc 0, 95, .inl sv_70))] := hD₀
          replace hS := hS₀
          clear hP₀ hD₀ hS₀
          refine lv_goto (tgt := 69) hx hb dX12_bookLineHere_62 (by decide) ?_
          have ha_76 : ((Mv 2) : Int32).toInt ≤ (sv_67 : Int32).toInt ∧ (sv_67 : Int32).toInt ≤ ((Mv 0) : Int32).toInt := by
            have z_1 := congrArg Int32.toInt c_12
            have z_2 : ¬ (x_13 : Int32).toInt = (0 : Int32).toInt := fun z => c_14 (Int32.toInt_inj.mp z)
            have z_3 := congrArg Int32.toInt c_27
            have z_4 : ¬ (r_36 : Int32).toInt = (0 : Int32).toInt := fun z => c_40 (Int32.toInt_inj.mp z)
            have y_0 : (0 : Int32).toInt = 0 := by decide
            refine ⟨?_, ?_⟩ <;> omega
          have hb_77 : (r_72 : Int32).toInt = 0 ∨ (r_72 : Int32).toInt = 1 := by
            have z_1 := congrArg Int32.toInt c_12
            have z_2 : ¬ (x_13 : Int32).toInt = (0 : Int32).toInt := fun z => c_14 (Int32.toInt_inj.mp z)
            have z_3 := congrArg Int32.toInt c_27
            have z_4 : ¬ (r_36 : Int32).toInt = (0 : Int32).toInt := fun z => c_40 (Int32.toInt_inj.mp z)
            have y_0 : (0 : Int32).toInt = 0 := by decide
            omega
          have hp_78 : (((r_72 : Int32).toInt = 0 ∧ ¬ (sv_68 : Int32).toInt = 0) ∨ (r_72 : Int32).toInt = 1) := by
            have z_1 := congrArg Int32.toInt c_12
            have z_2 : ¬ (x_13 : Int32).toInt = (0 : Int32).toInt := fun z => c_14 (Int32.toInt_inj.mp z)
            have z_3 := congrArg Int32.toInt c_27
            have z_4 : ¬ (r_36 : Int32).toInt = (0 : Int32).toInt := fun z => c_40 (Int32.toInt_inj.mp z)
            have y_0 : (0 : Int32).toInt = 0 := by decide
            omega
          have hm_79 : (r_72 : Int32).toInt = 1 → (RdO sv_70) := by
            intro h1r
            obtain pf_80 := hm_75 h1r
            have pf_80 : RdO sv_70 := pf_80
            have ar_pf_80 := RdO.ar pf_80
            exact pf_80
          exact retI (v := r_72) hx hb hr hlk (nar01 hb_77) hP hD hS (sv_67, sv_68, sv_69, sv_70) ⟨_, rfl, hp_78, ha_76, hm_79⟩ [0, 1, 2] rfl rfl dX12_bookLineHere_69 (Nat.le_of_ble_eq_true rfl) (Nat.le_of_ble_eq_true rfl) rfl
      · skip
        have hz_82 : (r_23 : Int32).toInt = 1 := by
          have z_1 := congrArg Int32.toInt c_12
          have z_2 : ¬ (x_13 : Int32).toInt = (0 : Int32).toInt := fun z => c_14 (Int32.toInt_inj.mp z)
          have z_3 : ¬ (r_23 : Int32).toInt = (0 : Int32).toInt := fun z => c_27 (Int32.toInt_inj.mp z)
          have y_0 : (0 : Int32).toInt = 0 := by decide
          omega
        obtain pf_81 := hm_26 hz_82
        have pf_81 : Ltr (Mf 1) (Mv 0) sv_19 := pf_81
        have ar_pf_81 := pf_81.1
        refine lv_aload_n hx hb dX12_bookLineHere_42 rfl (lv_at hl 0 rfl) ?_
        have ha_83 : 0 ≤ (sv_19 : Int32).toInt ∧ (sv_19 : Int32).toInt ≤ ((Mv 0) : Int32).toInt ∧ ((Mv 0) : Int32).toInt ≤ 400 := by
          have z_1 := congrArg Int32.toInt c_12
          have z_2 : ¬ (x_13 : Int32).toInt = (0 : Int32).toInt := fun z => c_14 (Int32.toInt_inj.mp z)
          have z_3 : ¬ (r_23 : Int32).toInt = (0 : Int32).toInt := fun z => c_27 (Int32.toInt_inj.mp z)
          have y_0 : (0 : Int32).toInt = 0 := by decide
          refine ⟨?_, ?_, ?_⟩ <;> omega
        have ha_84 : ((Mf 6) 0).toInt = 1 := by
          have z_1 := congrArg Int32.toInt c_12
          have z_2 : ¬ (x_13 : Int32).toInt = (0 : Int32).toInt := fun z => c_14 (Int32.toInt_inj.mp z)
          have z_3 : ¬ (r_23 : Int32).toInt = (0 : Int32).toInt := fun z => c_27 (Int32.toInt_inj.mp z)
          have y_0 : (0 : Int32).toInt = 0 := by decide
          omega
        refine cV (a := (Ma 0)) (As := []) (rest := []) (wr := []) ⟨hx, hb, hml, hown, hts⟩ hK hX hA (cu_X12_isSkyHere l D tc sk (Ma 0) (Ma 1) (Ma 2) (Ma 3) (Ma 4) (Ma 5) (Ma 6) (Ma 7) (Ma 8) (Ma 9) (Ma 10) (Ma 11) (Ma 12) (Ma 13) (Ma 14) (Ma 15) (Ma 16) (Ma 17) (Ma 18) (Ma 19) (Ma 20) (Mv 0) (Mv 1) sv_19 (Mv 3) (Mv 4) (Mv 5) (Mv 6) (Mv 7) (Mv 8) (Mv 9) (Mv 10) (Mv 11) (Mv 12) (Mv 13) (Mv 14) (Mf 1) (Mf 6) (Mj 0) ha_83 h_ro ha_84) k_1263 k_1260 k_1262 k_38 k_106 pl_X12_isSkyHere ⟨Nat.le_of_ble_eq_true rfl, Nat.le_of_ble_eq_true rfl⟩ rfl rfl (va_recv hK hP (ci := 12) (q0 := 1) rfl rfl) hP hD hS [1, 2, 0] [] rfl rfl rfl rfl rfl (by decide) rfl hl.1 rfl (Nat.le_of_ble_eq_true rfl) dX12_bookLineHere_43 ⟨Nat.le_of_ble_eq_true rfl, Nat.le_of_ble_eq_true rfl⟩ (fun v_85 u_86 H locs hv_87 hP₀ hD₀ hS₀ => ?_)
        obtain ⟨sv_88, sv_89, sv_90, sv_91⟩ := u_86
        obtain ⟨r_93, rfl, he_94, pf_92, hm_96⟩ := hv_87
        have he_94 : ((r_93.toInt = 0 ∧ ¬ (sv_89 : Int32).toInt = 0) ∨ r_93.toInt = 1) := he_94
        have pf_92 : (sv_19 : Int32).toInt ≤ (sv_88 : Int32).toInt ∧ (sv_88 : Int32).toInt ≤ ((Mv 0) : Int32).toInt := pf_92
        refine W.eq (g2 := F0 m 46 ls [.int r_93]) rfl ?_
        replace hP : va_P D classes [((Ma 0), .inr (12, [.ref (Ma 1), .int (Mv 0), .int (Mv 1), .ref (Ma 2), .ref (Ma 3), .ref (Ma 4), .ref (Ma 5), .ref (Ma 6), .int sv_88, .int sv_89, .int sv_90, .int (Mv 5), .int (Mv 6), .int (Mv 7), .int (Mv 8), .ref (Ma 7), .int (Mv 9), .ref (Ma 8), .int (Mv 10), .ref (Ma 9), .ref (Ma 10), .int (Mv 11), .int (Mv 12), .int (Mv 13), .ref (Ma 11), .int (Mv 14), .ref (Ma 12), .ref (Ma 13), .ref (Ma 14), .ref (Ma 15), .ref (Ma 16), .long (Mj 0), .ref (Ma 17), .ref (Ma 18), .ref (Ma 19), .ref (Ma 20)])), ((Ma 1), .inl (tc 2, 400, .inl (Mf 1))), ((Ma 6), .inl (tc 0, 95, .inl sv_91))] H := hP₀
        replace hD : va_D A [((Ma 0), .inr (12, [.ref (Ma 1), .int (Mv 0), .int (Mv 1), .ref (Ma 2), .ref (Ma 3), .ref (Ma 4), .ref (Ma 5), .ref (Ma 6), .int sv_88, .int sv_89, .int sv_90, .int (Mv 5), .int (Mv 6), .int (Mv 7), .int (Mv 8), .ref (Ma 7), .int (Mv 9), .ref (Ma 8), .int (Mv 10), .ref (Ma 9), .ref (Ma 10), .int (Mv 11), .int (Mv 12), .int (Mv 13), .ref (Ma 11), .int (Mv 14), .ref (Ma 12), .ref (Ma 13), .ref (Ma 14), .ref (Ma 15), .ref (Ma 16), .long (Mj 0), .ref (Ma 17), .ref (Ma 18), .ref (Ma 19), .ref (Ma 20)])), ((Ma 1), .inl (tc 2, 400, .inl (Mf 1))), ((Ma 6), .inl (tc 0, 95, .inl sv_91))] := hD₀
        replace hS := hS₀
        clear hP₀ hD₀ hS₀
        have ha_97 : ((Mv 2) : Int32).toInt ≤ (sv_88 : Int32).toInt ∧ (sv_88 : Int32).toInt ≤ ((Mv 0) : Int32).toInt := by
          have z_1 := congrArg Int32.toInt c_12
          have z_2 : ¬ (x_13 : Int32).toInt = (0 : Int32).toInt := fun z => c_14 (Int32.toInt_inj.mp z)
          have z_3 : ¬ (r_23 : Int32).toInt = (0 : Int32).toInt := fun z => c_27 (Int32.toInt_inj.mp z)
          have y_0 : (0 : Int32).toInt = 0 := by decide
          refine ⟨?_, ?_⟩ <;> omega
        have hb_98 : (r_93 : Int32).toInt = 0 ∨ (r_93 : Int32).toInt = 1 := by
          have z_1 := congrArg Int32.toInt c_12
          have z_2 : ¬ (x_13 : Int32).toInt = (0 : Int32).toInt := fun z => c_14 (Int32.toInt_inj.mp z)
          have z_3 : ¬ (r_23 : Int32).toInt = (0 : Int32).toInt := fun z => c_27 (Int32.toInt_inj.mp z)
          have y_0 : (0 : Int32).toInt = 0 := by decide
          omega
        have hp_99 : (((r_93 : Int32).toInt = 0 ∧ ¬ (sv_89 : Int32).toInt = 0) ∨ (r_93 : Int32).toInt = 1) := by
          have z_1 := congrArg Int32.toInt c_12
          have z_2 : ¬ (x_13 : Int32).toInt = (0 : Int32).toInt := fun z => c_14 (Int32.toInt_inj.mp z)
          have z_3 : ¬ (r_23 : Int32).toInt = (0 : Int32).toInt := fun z => c_27 (Int32.toInt_inj.mp z)
          have y_0 : (0 : Int32).toInt = 0 := by decide
          omega
        have hm_100 : (r_93 : Int32).toInt = 1 → (RdO sv_91) := by
          intro h1r
          obtain pf_101 := hm_96 h1r
          have pf_101 : RdO sv_91 := pf_101
          have ar_pf_101 := RdO.ar pf_101
          exact pf_101
        exact retI (v := r_93) hx hb hr hlk (nar01 hb_98) hP hD hS (sv_88, sv_89, sv_90, sv_91) ⟨_, rfl, hp_99, ha_97, hm_100⟩ [0, 1, 2] rfl rfl dX12_bookLineHere_46 (Nat.le_of_ble_eq_true rfl) (Nat.le_of_ble_eq_true rfl) rfl
    · skip
      refine lv_aload_n hx hb dX12_bookLineHere_25 rfl (lv_at hl 0 rfl) ?_
      refine lv_iconst (v := 4) hx hb dX12_bookLineHere_26 (by decide) ?_
      refine lv_iload_n hx hb dX12_bookLineHere_27 rfl (lv_at hl 1 rfl) ?_
      have ha_102 : 0 ≤ (4 : Int32).toInt ∧ (4 : Int32).toInt ≤ 4 := by
        have z_1 := congrArg Int32.toInt c_12
        have z_2 := congrArg Int32.toInt c_14
        have y_0 : (0 : Int32).toInt = 0 := by decide
        have y_4 : (4 : Int32).toInt = 4 := by decide
        refine ⟨?_, ?_⟩ <;> omega
      refine cV (a := (Ma 0)) (As := [.int 4, .int x1]) (rest := []) (wr := [((Ma 6), .inl (tc 0, 95, .inl (Mf 6))), ((Ma 1), .inl (tc 2, 400, .inl (Mf 1)))]) ⟨hx, hb, hml, hown, hts⟩ hK hX hA (cu_X12_fails l D tc sk (Ma 0) (Ma 1) (Ma 2) (Ma 3) (Ma 4) (Ma 5) (Ma 6) (Ma 7) (Ma 8) (Ma 9) (Ma 10) (Ma 11) (Ma 12) (Ma 13) (Ma 14) (Ma 15) (Ma 16) (Ma 17) (Ma 18) (Ma 19) (Ma 20) (Mv 0) (Mv 1) sv_4 (Mv 3) (Mv 4) (Mv 5) (Mv 6) (Mv 7) (Mv 8) (Mv 9) (Mv 10) (Mv 11) (Mv 12) (Mv 13) (Mv 14) (Mj 0) 4 x1 ha_102 h_at) k_1232 k_1229 k_1231 k_31 k_106 pl_X12_fails ⟨Nat.le_of_ble_eq_true rfl, Nat.le_of_ble_eq_true rfl⟩ rfl rfl (va_recv hK hP (ci := 12) (q0 := 1) rfl rfl) hP hD hS [1] [0, 2] rfl rfl rfl rfl rfl (by decide) rfl hl.1 rfl (Nat.le_of_ble_eq_true rfl) dX12_bookLineHere_28 ⟨Nat.le_of_ble_eq_true rfl, Nat.le_of_ble_eq_true rfl⟩ (fun v_103 u_104 H locs hv_105 hP₀ hD₀ hS₀ => ?_)
      obtain ⟨sv_106, rfl⟩ : ∃ z, z = u_104 := ⟨_, rfl⟩
      obtain ⟨r_108, rfl, he_109, pf_107⟩ := hv_105
      have he_109 : r_108.toInt = 0 := he_109
      have pf_107 : ¬ (sv_106 : Int32).toInt = 0 := pf_107
      refine W.eq (g2 := F0 m 31 ls [.int r_108]) rfl ?_
      replace hP : va_P D classes [((Ma 6), .inl (tc 0, 95, .inl (Mf 6))), ((Ma 1), .inl (tc 2, 400, .inl (Mf 1))), ((Ma 0), .inr (12, [.ref (Ma 1), .int (Mv 0), .int (Mv 1), .ref (Ma 2), .ref (Ma 3), .ref (Ma 4), .ref (Ma 5), .ref (Ma 6), .int sv_4, .int sv_106, .int (Mv 4), .int (Mv 5), .int (Mv 6), .int (Mv 7), .int (Mv 8), .ref (Ma 7), .int (Mv 9), .ref (Ma 8), .int (Mv 10), .ref (Ma 9), .ref (Ma 10), .int (Mv 11), .int (Mv 12), .int (Mv 13), .ref (Ma 11), .int (Mv 14), .ref (Ma 12), .ref (Ma 13), .ref (Ma 14), .ref (Ma 15), .ref (Ma 16), .long (Mj 0), .ref (Ma 17), .ref (Ma 18), .ref (Ma 19), .ref (Ma 20)]))] H := hP₀
      replace hD : va_D A [((Ma 6), .inl (tc 0, 95, .inl (Mf 6))), ((Ma 1), .inl (tc 2, 400, .inl (Mf 1))), ((Ma 0), .inr (12, [.ref (Ma 1), .int (Mv 0), .int (Mv 1), .ref (Ma 2), .ref (Ma 3), .ref (Ma 4), .ref (Ma 5), .ref (Ma 6), .int sv_4, .int sv_106, .int (Mv 4), .int (Mv 5), .int (Mv 6), .int (Mv 7), .int (Mv 8), .ref (Ma 7), .int (Mv 9), .ref (Ma 8), .int (Mv 10), .ref (Ma 9), .ref (Ma 10), .int (Mv 11), .int (Mv 12), .int (Mv 13), .ref (Ma 11), .int (Mv 14), .ref (Ma 12), .ref (Ma 13), .ref (Ma 14), .ref (Ma 15), .ref (Ma 16), .long (Mj 0), .ref (Ma 17), .ref (Ma 18), .ref (Ma 19), .ref (Ma 20)]))] := hD₀
      replace hS := hS₀
      clear hP₀ hD₀ hS₀
      have hb_111 : (r_108 : Int32).toInt = 0 ∨ (r_108 : Int32).toInt = 1 := by
        have z_1 := congrArg Int32.toInt c_12
        have z_2 := congrArg Int32.toInt c_14
        have y_0 : (0 : Int32).toInt = 0 := by decide
        omega
      have hp_112 : (((r_108 : Int32).toInt = 0 ∧ ¬ (sv_106 : Int32).toInt = 0) ∨ (r_108 : Int32).toInt = 1) := by
        have z_1 := congrArg Int32.toInt c_12
        have z_2 := congrArg Int32.toInt c_14
        have y_0 : (0 : Int32).toInt = 0 := by decide
        omega
      have hm_113 : (r_108 : Int32).toInt = 1 → (RdO (Mf 6)) := by
        intro h1r
        exfalso
        have z_1 := congrArg Int32.toInt c_12
        have z_2 := congrArg Int32.toInt c_14
        have y_0 : (0 : Int32).toInt = 0 := by decide
        omega
      exact retI (v := r_108) hx hb hr hlk (nar01 hb_111) hP hD hS (sv_4, sv_106, (Mv 4), (Mf 6)) ⟨_, rfl, hp_112, pf_5, hm_113⟩ [2, 1, 0] rfl rfl dX12_bookLineHere_31 (Nat.le_of_ble_eq_true rfl) (Nat.le_of_ble_eq_true rfl) rfl
  · skip
    have hz_115 : (r_8 : Int32).toInt = 1 := by
      have z_1 : ¬ (r_8 : Int32).toInt = (0 : Int32).toInt := fun z => c_12 (Int32.toInt_inj.mp z)
      have y_0 : (0 : Int32).toInt = 0 := by decide
      omega
    obtain pf_114 := hm_11 hz_115
    have pf_114 : Ltr (Mf 1) (Mv 0) sv_4 := pf_114
    have ar_pf_114 := pf_114.1
    refine lv_aload_n hx hb dX12_bookLineHere_10 rfl (lv_at hl 0 rfl) ?_
    refine lv_iload_n hx hb dX12_bookLineHere_11 rfl (lv_at hl 1 rfl) ?_
    have ha_116 : 0 ≤ (sv_4 : Int32).toInt ∧ (sv_4 : Int32).toInt ≤ ((Mv 0) : Int32).toInt ∧ ((Mv 0) : Int32).toInt ≤ 400 := by
      have z_1 : ¬ (r_8 : Int32).toInt = (0 : Int32).toInt := fun z => c_12 (Int32.toInt_inj.mp z)
      have y_0 : (0 : Int32).toInt = 0 := by decide
      refine ⟨?_, ?_, ?_⟩ <;> omega
    refine cV (a := (Ma 0)) (As := [.int x1]) (rest := []) (wr := []) ⟨hx, hb, hml, hown, hts⟩ hK hX hA (cu_X12_isBookHere l D tc sk (Ma 0) (Ma 1) (Ma 2) (Ma 3) (Ma 4) (Ma 5) (Ma 6) (Ma 7) (Ma 8) (Ma 9) (Ma 10) (Ma 11) (Ma 12) (Ma 13) (Ma 14) (Ma 15) (Ma 16) (Ma 17) (Ma 18) (Ma 19) (Ma 20) (Mv 0) (Mv 1) sv_4 (Mv 3) (Mv 4) (Mv 5) (Mv 6) (Mv 7) (Mv 8) (Mv 9) (Mv 10) (Mv 11) (Mv 12) (Mv 13) (Mv 14) (Mf 1) (Mf 6) (Mj 0) x1 ha_116 h_at h_ro) k_1240 k_1237 k_1239 k_33 k_106 pl_X12_isBookHere ⟨Nat.le_of_ble_eq_true rfl, Nat.le_of_ble_eq_true rfl⟩ rfl rfl (va_recv hK hP (ci := 12) (q0 := 1) rfl rfl) hP hD hS [1, 2, 0] [] rfl rfl rfl rfl rfl (by decide) rfl hl.1 rfl (Nat.le_of_ble_eq_true rfl) dX12_bookLineHere_12 ⟨Nat.le_of_ble_eq_true rfl, Nat.le_of_ble_eq_true rfl⟩ (fun v_117 u_118 H locs hv_119 hP₀ hD₀ hS₀ => ?_)
    obtain ⟨sv_120, sv_121, sv_122, sv_123⟩ := u_118
    obtain ⟨r_125, rfl, he_126, pf_124, hm_128⟩ := hv_119
    have he_126 : ((r_125.toInt = 0 ∧ ¬ (sv_121 : Int32).toInt = 0) ∨ r_125.toInt = 1) := he_126
    have pf_124 : (sv_4 : Int32).toInt ≤ (sv_120 : Int32).toInt ∧ (sv_120 : Int32).toInt ≤ ((Mv 0) : Int32).toInt := pf_124
    refine W.eq (g2 := F0 m 15 ls [.int r_125]) rfl ?_
    replace hP : va_P D classes [((Ma 0), .inr (12, [.ref (Ma 1), .int (Mv 0), .int (Mv 1), .ref (Ma 2), .ref (Ma 3), .ref (Ma 4), .ref (Ma 5), .ref (Ma 6), .int sv_120, .int sv_121, .int sv_122, .int (Mv 5), .int (Mv 6), .int (Mv 7), .int (Mv 8), .ref (Ma 7), .int (Mv 9), .ref (Ma 8), .int (Mv 10), .ref (Ma 9), .ref (Ma 10), .int (Mv 11), .int (Mv 12), .int (Mv 13), .ref (Ma 11), .int (Mv 14), .ref (Ma 12), .ref (Ma 13), .ref (Ma 14), .ref (Ma 15), .ref (Ma 16), .long (Mj 0), .ref (Ma 17), .ref (Ma 18), .ref (Ma 19), .ref (Ma 20)])), ((Ma 1), .inl (tc 2, 400, .inl (Mf 1))), ((Ma 6), .inl (tc 0, 95, .inl sv_123))] H := hP₀
    replace hD : va_D A [((Ma 0), .inr (12, [.ref (Ma 1), .int (Mv 0), .int (Mv 1), .ref (Ma 2), .ref (Ma 3), .ref (Ma 4), .ref (Ma 5), .ref (Ma 6), .int sv_120, .int sv_121, .int sv_122, .int (Mv 5), .int (Mv 6), .int (Mv 7), .int (Mv 8), .ref (Ma 7), .int (Mv 9), .ref (Ma 8), .int (Mv 10), .ref (Ma 9), .ref (Ma 10), .int (Mv 11), .int (Mv 12), .int (Mv 13), .ref (Ma 11), .int (Mv 14), .ref (Ma 12), .ref (Ma 13), .ref (Ma 14), .ref (Ma 15), .ref (Ma 16), .long (Mj 0), .ref (Ma 17), .ref (Ma 18), .ref (Ma 19), .ref (Ma 20)])), ((Ma 1), .inl (tc 2, 400, .inl (Mf 1))), ((Ma 6), .inl (tc 0, 95, .inl sv_123))] := hD₀
    replace hS := hS₀
    clear hP₀ hD₀ hS₀
    have ha_129 : ((Mv 2) : Int32).toInt ≤ (sv_120 : Int32).toInt ∧ (sv_120 : Int32).toInt ≤ ((Mv 0) : Int32).toInt := by
      have z_1 : ¬ (r_8 : Int32).toInt = (0 : Int32).toInt := fun z => c_12 (Int32.toInt_inj.mp z)
      have y_0 : (0 : Int32).toInt = 0 := by decide
      refine ⟨?_, ?_⟩ <;> omega
    have hb_130 : (r_125 : Int32).toInt = 0 ∨ (r_125 : Int32).toInt = 1 := by
      have z_1 : ¬ (r_8 : Int32).toInt = (0 : Int32).toInt := fun z => c_12 (Int32.toInt_inj.mp z)
      have y_0 : (0 : Int32).toInt = 0 := by decide
      omega
    have hp_131 : (((r_125 : Int32).toInt = 0 ∧ ¬ (sv_121 : Int32).toInt = 0) ∨ (r_125 : Int32).toInt = 1) := by
      have z_1 : ¬ (r_8 : Int32).toInt = (0 : Int32).toInt := fun z => c_12 (Int32.toInt_inj.mp z)
      have y_0 : (0 : Int32).toInt = 0 := by decide
      omega
    have hm_132 : (r_125 : Int32).toInt = 1 → (RdO sv_123) := by
      intro h1r
      obtain pf_133 := hm_128 h1r
      have pf_133 : RdO sv_123 := pf_133
      have ar_pf_133 := RdO.ar pf_133
      exact pf_133
    exact retI (v := r_125) hx hb hr hlk (nar01 hb_130) hP hD hS (sv_120, sv_121, sv_122, sv_123) ⟨_, rfl, hp_131, ha_129, hm_132⟩ [0, 1, 2] rfl rfl dX12_bookLineHere_15 (Nat.le_of_ble_eq_true rfl) (Nat.le_of_ble_eq_true rfl) rfl
set_option maxRecDepth 100000 in
theorem cu_X12_bookLineHere (l : Launch) (D : va_G) (tc : Nat → ClassId) (sk : (Nat → Nat) × (Nat → Nat)) (Ma_0 : Nat) (Ma_1 : Nat) (Ma_2 : Nat) (Ma_3 : Nat) (Ma_4 : Nat) (Ma_5 : Nat) (Ma_6 : Nat) (Ma_7 : Nat) (Ma_8 : Nat) (Ma_9 : Nat) (Ma_10 : Nat) (Ma_11 : Nat) (Ma_12 : Nat) (Ma_13 : Nat) (Ma_14 : Nat) (Ma_15 : Nat) (Ma_16 : Nat) (Ma_17 : Nat) (Ma_18 : Nat) (Ma_19 : Nat) (Ma_20 : Nat) (Mv_0 : Int32) (Mv_1 : Int32) (Mv_2 : Int32) (Mv_3 : Int32) (Mv_4 : Int32) (Mv_5 : Int32) (Mv_6 : Int32) (Mv_7 : Int32) (Mv_8 : Int32) (Mv_9 : Int32) (Mv_10 : Int32) (Mv_11 : Int32) (Mv_12 : Int32) (Mv_13 : Int32) (Mv_14 : Int32) (Mf_1 : Nat → Int32) (Mf_6 : Nat → Int32) (Mj_0 : Int64) (x1 : Int32) (h_nx : 0 ≤ (Mv_2 : Int32).toInt ∧ (Mv_2 : Int32).toInt ≤ (Mv_0 : Int32).toInt ∧ (Mv_0 : Int32).toInt ≤ 400) (h_at : 0 ≤ x1.toInt ∧ x1.toInt ≤ 400) (h_ro : RdO Mf_6) : Ct l yX12_bookLineHere cX12_bookLineHere 2 (some .boolean) { frames := 4, cells := 0, slots := 0, locals := 94 } D tc sk [.ref Ma_0, .int x1] [(Ma_0, .inr (12, [.ref Ma_1, .int Mv_0, .int Mv_1, .ref Ma_2, .ref Ma_3, .ref Ma_4, .ref Ma_5, .ref Ma_6, .int Mv_2, .int Mv_3, .int Mv_4, .int Mv_5, .int Mv_6, .int Mv_7, .int Mv_8, .ref Ma_7, .int Mv_9, .ref Ma_8, .int Mv_10, .ref Ma_9, .ref Ma_10, .int Mv_11, .int Mv_12, .int Mv_13, .ref Ma_11, .int Mv_14, .ref Ma_12, .ref Ma_13, .ref Ma_14, .ref Ma_15, .ref Ma_16, .long Mj_0, .ref Ma_17, .ref Ma_18, .ref Ma_19, .ref Ma_20])), (Ma_1, .inl (tc 2, 400, .inl Mf_1)), (Ma_6, .inl (tc 0, 95, .inl Mf_6))] (fun (v : Option Value) (u : (Int32) × (Int32) × (Int32) × (Nat → Int32)) => match u with | (oo0x1, oo0x2, oo0x3, oo0x4) => ∃ r : Int32, v = some (.int r) ∧ (((r.toInt = 0 ∧ ¬ (oo0x2 : Int32).toInt = 0) ∨ r.toInt = 1)) ∧ ((Mv_2 : Int32).toInt ≤ (oo0x1 : Int32).toInt ∧ (oo0x1 : Int32).toInt ≤ (Mv_0 : Int32).toInt) ∧ (r.toInt = 1 → (RdO oo0x4))) (fun (u : (Int32) × (Int32) × (Int32) × (Nat → Int32)) => match u with | (oo0x1, oo0x2, oo0x3, oo0x4) => [(Ma_0, .inr (12, [.ref Ma_1, .int Mv_0, .int Mv_1, .ref Ma_2, .ref Ma_3, .ref Ma_4, .ref Ma_5, .ref Ma_6, .int oo0x1, .int oo0x2, .int oo0x3, .int Mv_5, .int Mv_6, .int Mv_7, .int Mv_8, .ref Ma_7, .int Mv_9, .ref Ma_8, .int Mv_10, .ref Ma_9, .ref Ma_10, .int Mv_11, .int Mv_12, .int Mv_13, .ref Ma_11, .int Mv_14, .ref Ma_12, .ref Ma_13, .ref Ma_14, .ref Ma_15, .ref Ma_16, .long Mj_0, .ref Ma_17, .ref Ma_18, .ref Ma_19, .ref Ma_20])), (Ma_1, .inl (tc 2, 400, .inl Mf_1)), (Ma_6, .inl (tc 0, 95, .inl oo0x4))]) 0 0 :=
  ct_X12_bookLineHere l D tc sk (fun k => ([Ma_0, Ma_1, Ma_2, Ma_3, Ma_4, Ma_5, Ma_6, Ma_7, Ma_8, Ma_9, Ma_10, Ma_11, Ma_12, Ma_13, Ma_14, Ma_15, Ma_16, Ma_17, Ma_18, Ma_19, Ma_20] : List (Nat)).getD k 0) (fun k => ([Mv_0, Mv_1, Mv_2, Mv_3, Mv_4, Mv_5, Mv_6, Mv_7, Mv_8, Mv_9, Mv_10, Mv_11, Mv_12, Mv_13, Mv_14] : List (Int32)).getD k 0) (fun k => ([(fun _ => 0), Mf_1, (fun _ => 0), (fun _ => 0), (fun _ => 0), (fun _ => 0), Mf_6] : List (Nat → Int32)).getD k (fun _ => 0)) (fun k => ([Mj_0] : List (Int64)).getD k 0) x1 h_nx h_at h_ro
set_option maxHeartbeats 4000000 in
set_option maxRecDepth 100000 in
theorem ct_X12_isBookWord (l : Launch) (D : va_G) (tc : Nat → ClassId) (sk : (Nat → Nat) × (Nat → Nat)) (Ma : Nat → Nat) (Mv : Nat → Int32) (Mf : Nat → Nat → Int32) (Mj : Nat → Int64) (h_nx : 0 ≤ ((Mv 2) : Int32).toInt ∧ ((Mv 2) : Int32).toInt ≤ ((Mv 0) : Int32).toInt ∧ ((Mv 0) : Int32).toInt ≤ 400) : Ct l yX12_isBookWord cX12_isBookWord 1 (some .boolean) { frames := 2, cells := 0, slots := 0, locals := 46 } D tc sk [.ref (Ma 0)] [((Ma 0), .inr (12, [.ref (Ma 1), .int (Mv 0), .int (Mv 1), .ref (Ma 2), .ref (Ma 3), .ref (Ma 4), .ref (Ma 5), .ref (Ma 6), .int (Mv 2), .int (Mv 3), .int (Mv 4), .int (Mv 5), .int (Mv 6), .int (Mv 7), .int (Mv 8), .ref (Ma 7), .int (Mv 9), .ref (Ma 8), .int (Mv 10), .ref (Ma 9), .ref (Ma 10), .int (Mv 11), .int (Mv 12), .int (Mv 13), .ref (Ma 11), .int (Mv 14), .ref (Ma 12), .ref (Ma 13), .ref (Ma 14), .ref (Ma 15), .ref (Ma 16), .long (Mj 0), .ref (Ma 17), .ref (Ma 18), .ref (Ma 19), .ref (Ma 20)])), ((Ma 1), .inl (tc 2, 400, .inl (Mf 1)))] (fun (v : Option Value) (oo0x1 : Int32) => ∃ r : Int32, v = some (.int r) ∧ ((r.toInt = 0 ∨ r.toInt = 1)) ∧ (((Mv 2) : Int32).toInt ≤ (oo0x1 : Int32).toInt ∧ (oo0x1 : Int32).toInt ≤ ((Mv 0) : Int32).toInt)) (fun (oo0x1 : Int32) => [((Ma 0), .inr (12, [.ref (Ma 1), .int (Mv 0), .int (Mv 1), .ref (Ma 2), .ref (Ma 3), .ref (Ma 4), .ref (Ma 5), .ref (Ma 6), .int oo0x1, .int (Mv 3), .int (Mv 4), .int (Mv 5), .int (Mv 6), .int (Mv 7), .int (Mv 8), .ref (Ma 7), .int (Mv 9), .ref (Ma 8), .int (Mv 10), .ref (Ma 9), .ref (Ma 10), .int (Mv 11), .int (Mv 12), .int (Mv 13), .ref (Ma 11), .int (Mv 14), .ref (Ma 12), .ref (Ma 13), .ref (Ma 14), .ref (Ma 15), .ref (Ma 16), .long (Mj 0), .ref (Ma 17), .ref (Ma 18), .ref (Ma 19), .ref (Ma 20)])), ((Ma 1), .inl (tc 2, 400, .inl (Mf 1)))]) 0 0 := by
  refine Ct.start (by decide) (Nat.le_of_ble_eq_true rfl) (fun p e s m below meth c A ls hx hb hr hlk hin hml hown hts hK hX hP hD hA hl hS => ?_)
  have hl : lv_has ls 1 [(0, .ref (Ma 0))] := hl
  refine lv_aload_n hx hb dX12_isBookWord_0 rfl (lv_at hl 0 rfl) ?_
  refine lv_ldc2 hx hb hown (hts _ k_1216) dX12_isBookWord_1 ?_
  refine cV (a := (Ma 0)) (As := [.long 1651470187]) (rest := []) (wr := []) ⟨hx, hb, hml, hown, hts⟩ hK hX hA (cu_X12_isWord l D tc sk (Ma 0) (Ma 1) (Ma 2) (Ma 3) (Ma 4) (Ma 5) (Ma 6) (Ma 7) (Ma 8) (Ma 9) (Ma 10) (Ma 11) (Ma 12) (Ma 13) (Ma 14) (Ma 15) (Ma 16) (Ma 17) (Ma 18) (Ma 19) (Ma 20) (Mv 0) (Mv 1) (Mv 2) (Mv 3) (Mv 4) (Mv 5) (Mv 6) (Mv 7) (Mv 8) (Mv 9) (Mv 10) (Mv 11) (Mv 12) (Mv 13) (Mv 14) (Mf 1) (Mj 0) 1651470187 h_nx) k_1220 k_1217 k_1219 k_29 k_106 pl_X12_isWord ⟨Nat.le_of_ble_eq_true rfl, Nat.le_of_ble_eq_true rfl⟩ rfl rfl (va_recv hK hP (ci := 12) (q0 := 0) rfl rfl) hP hD hS [0, 1] [] rfl rfl rfl rfl rfl (by decide) rfl hl.1 rfl (Nat.le_of_ble_eq_true rfl) dX12_isBookWord_4 ⟨Nat.le_of_ble_eq_true rfl, Nat.le_of_ble_eq_true rfl⟩ (fun v_1 u_2 H locs hv_3 hP₀ hD₀ hS₀ => ?_)
  obtain ⟨sv_4, rfl⟩ : ∃ z, z = u_2 := ⟨_, rfl⟩
  obtain ⟨r_8, rfl, he_9, pf_5, pf_6, pf_7, hm_11⟩ := hv_3
  have he_9 : (r_8.toInt = 0 ∨ r_8.toInt = 1) := he_9
  have pf_5 : ((Mv 2) : Int32).toInt ≤ (sv_4 : Int32).toInt ∧ (sv_4 : Int32).toInt ≤ ((Mv 0) : Int32).toInt := pf_5
  have pf_6 : NSq (Mf 1) (Mv 0) sv_4 := pf_6
  have pf_7 : Stl (Mf 1) (Mv 0) (Mv 2) sv_4 := pf_7
  refine W.eq (g2 := F0 m 7 ls [.int r_8]) rfl ?_
  replace hP : va_P D classes [((Ma 0), .inr (12, [.ref (Ma 1), .int (Mv 0), .int (Mv 1), .ref (Ma 2), .ref (Ma 3), .ref (Ma 4), .ref (Ma 5), .ref (Ma 6), .int sv_4, .int (Mv 3), .int (Mv 4), .int (Mv 5), .int (Mv 6), .int (Mv 7), .int (Mv 8), .ref (Ma 7), .int (Mv 9), .ref (Ma 8), .int (Mv 10), .ref (Ma 9), .ref (Ma 10), .int (Mv 11), .int (Mv 12), .int (Mv 13), .ref (Ma 11), .int (Mv 14), .ref (Ma 12), .ref (Ma 13), .ref (Ma 14), .ref (Ma 15), .ref (Ma 16), .long (Mj 0), .ref (Ma 17), .ref (Ma 18), .ref (Ma 19), .ref (Ma 20)])), ((Ma 1), .inl (tc 2, 400, .inl (Mf 1)))] H := hP₀
  replace hD : va_D A [((Ma 0), .inr (12, [.ref (Ma 1), .int (Mv 0), .int (Mv 1), .ref (Ma 2), .ref (Ma 3), .ref (Ma 4), .ref (Ma 5), .ref (Ma 6), .int sv_4, .int (Mv 3), .int (Mv 4), .int (Mv 5), .int (Mv 6), .int (Mv 7), .int (Mv 8), .ref (Ma 7), .int (Mv 9), .ref (Ma 8), .int (Mv 10), .ref (Ma 9), .ref (Ma 10), .int (Mv 11), .int (Mv 12), .int (Mv 13), .ref (Ma 11), .int (Mv 14), .ref (Ma 12), .ref (Ma 13), .ref (Ma 14), .ref (Ma 15), .ref (Ma 16), .long (Mj 0), .ref (Ma 17), .ref (Ma 18), .ref (Ma 19), .ref (Ma 20)])), ((Ma 1), .inl (tc 2, 400, .inl (Mf 1)))] := hD₀
  replace hS := hS₀
  clear hP₀ hD₀ hS₀
  refine lv_if_ne (tgt := 40) hx hb dX12_isBookWord_7 (by decide) (fun c_12 => ?_) (fun c_12 => ?_)
  · skip
    have hz_14 : (r_8 : Int32).toInt = 1 := by
      have z_1 : ¬ (r_8 : Int32).toInt = (0 : Int32).toInt := fun z => c_12 (Int32.toInt_inj.mp z)
      have y_0 : (0 : Int32).toInt = 0 := by decide
      omega
    obtain pf_13 := hm_11 hz_14
    have pf_13 : Ltr (Mf 1) (Mv 0) sv_4 := pf_13
    have ar_pf_13 := pf_13.1
    refine lv_iconst (v := 1) hx hb dX12_isBookWord_40 (by decide) ?_
    refine lv_goto (tgt := 45) hx hb dX12_isBookWord_41 (by decide) ?_
    have hp_15 : ((1 : Int32).toInt = 0 ∨ (1 : Int32).toInt = 1) := by
      have z_1 : ¬ (r_8 : Int32).toInt = (0 : Int32).toInt := fun z => c_12 (Int32.toInt_inj.mp z)
      have y_0 : (0 : Int32).toInt = 0 := by decide
      have y_1 : (1 : Int32).toInt = 1 := by decide
      have yr : (1 : Int32).toInt = 1 := by decide
      omega
    exact retI (v := 1) hx hb hr hlk (rfl) hP hD hS sv_4 ⟨_, rfl, hp_15, pf_5⟩ [0, 1] rfl rfl dX12_isBookWord_45 (Nat.le_of_ble_eq_true rfl) (Nat.le_of_ble_eq_true rfl) rfl
  · skip
    refine lv_aload_n hx hb dX12_isBookWord_10 rfl (lv_at hl 0 rfl) ?_
    refine lv_ldc2 hx hb hown (hts _ k_1225) dX12_isBookWord_11 ?_
    have ha_16 : 0 ≤ (sv_4 : Int32).toInt ∧ (sv_4 : Int32).toInt ≤ ((Mv 0) : Int32).toInt ∧ ((Mv 0) : Int32).toInt ≤ 400 := by
      have z_1 := congrArg Int32.toInt c_12
      have y_0 : (0 : Int32).toInt = 0 := by decide
      refine ⟨?_, ?_, ?_⟩ <;> omega
    refine cV (a := (Ma 0)) (As := [.long 7564153]) (rest := []) (wr := []) ⟨hx, hb, hml, hown, hts⟩ hK hX hA (cu_X12_isWord l D tc sk (Ma 0) (Ma 1) (Ma 2) (Ma 3) (Ma 4) (Ma 5) (Ma 6) (Ma 7) (Ma 8) (Ma 9) (Ma 10) (Ma 11) (Ma 12) (Ma 13) (Ma 14) (Ma 15) (Ma 16) (Ma 17) (Ma 18) (Ma 19) (Ma 20) (Mv 0) (Mv 1) sv_4 (Mv 3) (Mv 4) (Mv 5) (Mv 6) (Mv 7) (Mv 8) (Mv 9) (Mv 10) (Mv 11) (Mv 12) (Mv 13) (Mv 14) (Mf 1) (Mj 0) 7564153 ha_16) k_1220 k_1217 k_1219 k_29 k_106 pl_X12_isWord ⟨Nat.le_of_ble_eq_true rfl, Nat.le_of_ble_eq_true rfl⟩ rfl rfl (va_recv hK hP (ci := 12) (q0 := 0) rfl rfl) hP hD hS [0, 1] [] rfl rfl rfl rfl rfl (by decide) rfl hl.1 rfl (Nat.le_of_ble_eq_true rfl) dX12_isBookWord_14 ⟨Nat.le_of_ble_eq_true rfl, Nat.le_of_ble_eq_true rfl⟩ (fun v_17 u_18 H locs hv_19 hP₀ hD₀ hS₀ => ?_)
    obtain ⟨sv_20, rfl⟩ : ∃ z, z = u_18 := ⟨_, rfl⟩
    obtain ⟨r_24, rfl, he_25, pf_21, pf_22, pf_23, hm_27⟩ := hv_19
    have he_25 : (r_24.toInt = 0 ∨ r_24.toInt = 1) := he_25
    have pf_21 : (sv_4 : Int32).toInt ≤ (sv_20 : Int32).toInt ∧ (sv_20 : Int32).toInt ≤ ((Mv 0) : Int32).toInt := pf_21
    have pf_22 : NSq (Mf 1) (Mv 0) sv_20 := pf_22
    have pf_23 : Stl (Mf 1) (Mv 0) sv_4 sv_20 := pf_23
    have ar_pf_23 := Stl.or pf_23 pf_6
    refine W.eq (g2 := F0 m 17 ls [.int r_24]) rfl ?_
    replace hP : va_P D classes [((Ma 0), .inr (12, [.ref (Ma 1), .int (Mv 0), .int (Mv 1), .ref (Ma 2), .ref (Ma 3), .ref (Ma 4), .ref (Ma 5), .ref (Ma 6), .int sv_20, .int (Mv 3), .int (Mv 4), .int (Mv 5), .int (Mv 6), .int (Mv 7), .int (Mv 8), .ref (Ma 7), .int (Mv 9), .ref (Ma 8), .int (Mv 10), .ref (Ma 9), .ref (Ma 10), .int (Mv 11), .int (Mv 12), .int (Mv 13), .ref (Ma 11), .int (Mv 14), .ref (Ma 12), .ref (Ma 13), .ref (Ma 14), .ref (Ma 15), .ref (Ma 16), .long (Mj 0), .ref (Ma 17), .ref (Ma 18), .ref (Ma 19), .ref (Ma 20)])), ((Ma 1), .inl (tc 2, 400, .inl (Mf 1)))] H := hP₀
    replace hD : va_D A [((Ma 0), .inr (12, [.ref (Ma 1), .int (Mv 0), .int (Mv 1), .ref (Ma 2), .ref (Ma 3), .ref (Ma 4), .ref (Ma 5), .ref (Ma 6), .int sv_20, .int (Mv 3), .int (Mv 4), .int (Mv 5), .int (Mv 6), .int (Mv 7), .int (Mv 8), .ref (Ma 7), .int (Mv 9), .ref (Ma 8), .int (Mv 10), .ref (Ma 9), .ref (Ma 10), .int (Mv 11), .int (Mv 12), .int (Mv 13), .ref (Ma 11), .int (Mv 14), .ref (Ma 12), .ref (Ma 13), .ref (Ma 14), .ref (Ma 15), .ref (Ma 16), .long (Mj 0), .ref (Ma 17), .ref (Ma 18), .ref (Ma 19), .ref (Ma 20)])), ((Ma 1), .inl (tc 2, 400, .inl (Mf 1)))] := hD₀
    replace hS := hS₀
    clear hP₀ hD₀ hS₀
    refine lv_if_ne (tgt := 40) hx hb dX12_isBookWord_17 (by decide) (fun c_28 => ?_) (fun c_28 => ?_)
    · skip
      have hz_30 : (r_24 : Int32).toInt = 1 := by
        have z_1 := congrArg Int32.toInt c_12
        have z_2 : ¬ (r_24 : Int32).toInt = (0 : Int32).toInt := fun z => c_28 (Int32.toInt_inj.mp z)
        have y_0 : (0 : Int32).toInt = 0 := by decide
        omega
      obtain pf_29 := hm_27 hz_30
      have pf_29 : Ltr (Mf 1) (Mv 0) sv_20 := pf_29
      have ar_pf_29 := pf_29.1
      refine lv_iconst (v := 1) hx hb dX12_isBookWord_40 (by decide) ?_
      refine lv_goto (tgt := 45) hx hb dX12_isBookWord_41 (by decide) ?_
      have ha_31 : ((Mv 2) : Int32).toInt ≤ (sv_20 : Int32).toInt ∧ (sv_20 : Int32).toInt ≤ ((Mv 0) : Int32).toInt := by
        have z_1 := congrArg Int32.toInt c_12
        have z_2 : ¬ (r_24 : Int32).toInt = (0 : Int32).toInt := fun z => c_28 (Int32.toInt_inj.mp z)
        have y_0 : (0 : Int32).toInt = 0 := by decide
        refine ⟨?_, ?_⟩ <;> omega
      have hp_32 : ((1 : Int32).toInt = 0 ∨ (1 : Int32).toInt = 1) := by
        have z_1 := congrArg Int32.toInt c_12
        have z_2 : ¬ (r_24 : Int32).toInt = (0 : Int32).toInt := fun z => c_28 (Int32.toInt_inj.mp z)
        have y_0 : (0 : Int32).toInt = 0 := by decide
        have y_1 : (1 : Int32).toInt = 1 := by decide
        have yr : (1 : Int32).toInt = 1 := by decide
        omega
      exact retI (v := 1) hx hb hr hlk (rfl) hP hD hS sv_20 ⟨_, rfl, hp_32, ha_31⟩ [0, 1] rfl rfl dX12_isBookWord_45 (Nat.le_of_ble_eq_true rfl) (Nat.le_of_ble_eq_true rfl) rfl
    · skip
      refine lv_aload_n hx hb dX12_isBookWord_20 rfl (lv_at hl 0 rfl) ?_
      refine lv_ldc2 hx hb hown (hts _ k_1226) dX12_isBookWord_21 ?_
      have ha_33 : 0 ≤ (sv_20 : Int32).toInt ∧ (sv_20 : Int32).toInt ≤ ((Mv 0) : Int32).toInt ∧ ((Mv 0) : Int32).toInt ≤ 400 := by
        have z_1 := congrArg Int32.toInt c_12
        have z_2 := congrArg Int32.toInt c_28
        have y_0 : (0 : Int32).toInt = 0 := by decide
        refine ⟨?_, ?_, ?_⟩ <;> omega
      refine cV (a := (Ma 0)) (As := [.long 422877685106]) (rest := []) (wr := []) ⟨hx, hb, hml, hown, hts⟩ hK hX hA (cu_X12_isWord l D tc sk (Ma 0) (Ma 1) (Ma 2) (Ma 3) (Ma 4) (Ma 5) (Ma 6) (Ma 7) (Ma 8) (Ma 9) (Ma 10) (Ma 11) (Ma 12) (Ma 13) (Ma 14) (Ma 15) (Ma 16) (Ma 17) (Ma 18) (Ma 19) (Ma 20) (Mv 0) (Mv 1) sv_20 (Mv 3) (Mv 4) (Mv 5) (Mv 6) (Mv 7) (Mv 8) (Mv 9) (Mv 10) (Mv 11) (Mv 12) (Mv 13) (Mv 14) (Mf 1) (Mj 0) 422877685106 ha_33) k_1220 k_1217 k_1219 k_29 k_106 pl_X12_isWord ⟨Nat.le_of_ble_eq_true rfl, Nat.le_of_ble_eq_true rfl⟩ rfl rfl (va_recv hK hP (ci := 12) (q0 := 0) rfl rfl) hP hD hS [0, 1] [] rfl rfl rfl rfl rfl (by decide) rfl hl.1 rfl (Nat.le_of_ble_eq_true rfl) dX12_isBookWord_24 ⟨Nat.le_of_ble_eq_true rfl, Nat.le_of_ble_eq_true rfl⟩ (fun v_34 u_35 H locs hv_36 hP₀ hD₀ hS₀ => ?_)
      obtain ⟨sv_37, rfl⟩ : ∃ z, z = u_35 := ⟨_, rfl⟩
      obtain ⟨r_41, rfl, he_42, pf_38, pf_39, pf_40, hm_44⟩ := hv_36
      have he_42 : (r_41.toInt = 0 ∨ r_41.toInt = 1) := he_42
      have pf_38 : (sv_20 : Int32).toInt ≤ (sv_37 : Int32).toInt ∧ (sv_37 : Int32).toInt ≤ ((Mv 0) : Int32).toInt := pf_38
      have pf_39 : NSq (Mf 1) (Mv 0) sv_37 := pf_39
      have pf_40 : Stl (Mf 1) (Mv 0) sv_20 sv_37 := pf_40
      have ar_pf_40 := Stl.or pf_40 pf_22
      refine W.eq (g2 := F0 m 27 ls [.int r_41]) rfl ?_
      replace hP : va_P D classes [((Ma 0), .inr (12, [.ref (Ma 1), .int (Mv 0), .int (Mv 1), .ref (Ma 2), .ref (Ma 3), .ref (Ma 4), .ref (Ma 5), .ref (Ma 6), .int sv_37, .int (Mv 3), .int (Mv 4), .int (Mv 5), .int (Mv 6), .int (Mv 7), .int (Mv 8), .ref (Ma 7), .int (Mv 9), .ref (Ma 8), .int (Mv 10), .ref (Ma 9), .ref (Ma 10), .int (Mv 11), .int (Mv 12), .int (Mv 13), .ref (Ma 11), .int (Mv 14), .ref (Ma 12), .ref (Ma 13), .ref (Ma 14), .ref (Ma 15), .ref (Ma 16), .long (Mj 0), .ref (Ma 17), .ref (Ma 18), .ref (Ma 19), .ref (Ma 20)])), ((Ma 1), .inl (tc 2, 400, .inl (Mf 1)))] H := hP₀
      replace hD : va_D A [((Ma 0), .inr (12, [.ref (Ma 1), .int (Mv 0), .int (Mv 1), .ref (Ma 2), .ref (Ma 3), .ref (Ma 4), .ref (Ma 5), .ref (Ma 6), .int sv_37, .int (Mv 3), .int (Mv 4), .int (Mv 5), .int (Mv 6), .int (Mv 7), .int (Mv 8), .ref (Ma 7), .int (Mv 9), .ref (Ma 8), .int (Mv 10), .ref (Ma 9), .ref (Ma 10), .int (Mv 11), .int (Mv 12), .int (Mv 13), .ref (Ma 11), .int (Mv 14), .ref (Ma 12), .ref (Ma 13), .ref (Ma 14), .ref (Ma 15), .ref (Ma 16), .long (Mj 0), .ref (Ma 17), .ref (Ma 18), .ref (Ma 19), .ref (Ma 20)])), ((Ma 1), .inl (tc 2, 400, .inl (Mf 1)))] := hD₀
      replace hS := hS₀
      clear hP₀ hD₀ hS₀
      refine lv_if_ne (tgt := 40) hx hb dX12_isBookWord_27 (by decide) (fun c_45 => ?_) (fun c_45 => ?_)
      · skip
        have hz_47 : (r_41 : Int32).toInt = 1 := by
          have z_1 := congrArg Int32.toInt c_12
          have z_2 := congrArg Int32.toInt c_28
          have z_3 : ¬ (r_41 : Int32).toInt = (0 : Int32).toInt := fun z => c_45 (Int32.toInt_inj.mp z)
          have y_0 : (0 : Int32).toInt = 0 := by decide
          omega
        obtain pf_46 := hm_44 hz_47
        have pf_46 : Ltr (Mf 1) (Mv 0) sv_37 := pf_46
        have ar_pf_46 := pf_46.1
        refine lv_iconst (v := 1) hx hb dX12_isBookWord_40 (by decide) ?_
        refine lv_goto (tgt := 45) hx hb dX12_isBookWord_41 (by decide) ?_
        have ha_48 : ((Mv 2) : Int32).toInt ≤ (sv_37 : Int32).toInt ∧ (sv_37 : Int32).toInt ≤ ((Mv 0) : Int32).toInt := by
          have z_1 := congrArg Int32.toInt c_12
          have z_2 := congrArg Int32.toInt c_28
          have z_3 : ¬ (r_41 : Int32).toInt = (0 : Int32).toInt := fun z => c_45 (Int32.toInt_inj.mp z)
          have y_0 : (0 : Int32).toInt = 0 := by decide
          refine ⟨?_, ?_⟩ <;> omega
        have hp_49 : ((1 : Int32).toInt = 0 ∨ (1 : Int32).toInt = 1) := by
          have z_1 := congrArg Int32.toInt c_12
          have z_2 := congrArg Int32.toInt c_28
          have z_3 : ¬ (r_41 : Int32).toInt = (0 : Int32).toInt := fun z => c_45 (Int32.toInt_inj.mp z)
          have y_0 : (0 : Int32).toInt = 0 := by decide
          have y_1 : (1 : Int32).toInt = 1 := by decide
          have yr : (1 : Int32).toInt = 1 := by decide
          omega
        exact retI (v := 1) hx hb hr hlk (rfl) hP hD hS sv_37 ⟨_, rfl, hp_49, ha_48⟩ [0, 1] rfl rfl dX12_isBookWord_45 (Nat.le_of_ble_eq_true rfl) (Nat.le_of_ble_eq_true rfl) rfl
      · skip
        refine lv_aload_n hx hb dX12_isBookWord_30 rfl (lv_at hl 0 rfl) ?_
        refine lv_ldc2 hx hb hown (hts _ k_1227) dX12_isBookWord_31 ?_
        have ha_50 : 0 ≤ (sv_37 : Int32).toInt ∧ (sv_37 : Int32).toInt ≤ ((Mv 0) : Int32).toInt ∧ ((Mv 0) : Int32).toInt ≤ 400 := by
          have z_1 := congrArg Int32.toInt c_12
          have z_2 := congrArg Int32.toInt c_28
          have z_3 := congrArg Int32.toInt c_45
          have y_0 : (0 : Int32).toInt = 0 := by decide
          refine ⟨?_, ?_, ?_⟩ <;> omega
        refine cV (a := (Ma 0)) (As := [.long 512736125800]) (rest := []) (wr := []) ⟨hx, hb, hml, hown, hts⟩ hK hX hA (cu_X12_isWord l D tc sk (Ma 0) (Ma 1) (Ma 2) (Ma 3) (Ma 4) (Ma 5) (Ma 6) (Ma 7) (Ma 8) (Ma 9) (Ma 10) (Ma 11) (Ma 12) (Ma 13) (Ma 14) (Ma 15) (Ma 16) (Ma 17) (Ma 18) (Ma 19) (Ma 20) (Mv 0) (Mv 1) sv_37 (Mv 3) (Mv 4) (Mv 5) (Mv 6) (Mv 7) (Mv 8) (Mv 9) (Mv 10) (Mv 11) (Mv 12) (Mv 13) (Mv 14) (Mf 1) (Mj 0) 512736125800 ha_50) k_1220 k_1217 k_1219 k_29 k_106 pl_X12_isWord ⟨Nat.le_of_ble_eq_true rfl, Nat.le_of_ble_eq_true rfl⟩ rfl rfl (va_recv hK hP (ci := 12) (q0 := 0) rfl rfl) hP hD hS [0, 1] [] rfl rfl rfl rfl rfl (by decide) rfl hl.1 rfl (Nat.le_of_ble_eq_true rfl) dX12_isBookWord_34 ⟨Nat.le_of_ble_eq_true rfl, Nat.le_of_ble_eq_true rfl⟩ (fun v_51 u_52 H locs hv_53 hP₀ hD₀ hS₀ => ?_)
        obtain ⟨sv_54, rfl⟩ : ∃ z, z = u_52 := ⟨_, rfl⟩
        obtain ⟨r_58, rfl, he_59, pf_55, pf_56, pf_57, hm_61⟩ := hv_53
        have he_59 : (r_58.toInt = 0 ∨ r_58.toInt = 1) := he_59
        have pf_55 : (sv_37 : Int32).toInt ≤ (sv_54 : Int32).toInt ∧ (sv_54 : Int32).toInt ≤ ((Mv 0) : Int32).toInt := pf_55
        have pf_56 : NSq (Mf 1) (Mv 0) sv_54 := pf_56
        have pf_57 : Stl (Mf 1) (Mv 0) sv_37 sv_54 := pf_57
        have ar_pf_57 := Stl.or pf_57 pf_39
        refine W.eq (g2 := F0 m 37 ls [.int r_58]) rfl ?_
        replace hP : va_P D classes [((Ma 0), .inr (12, [.ref (Ma 1), .int (Mv 0), .int (Mv 1), .ref (Ma 2), .ref (Ma 3), .ref (Ma 4), .ref (Ma 5), .ref (Ma 6), .int sv_54, .int (Mv 3), .int (Mv 4), .int (Mv 5), .int (Mv 6), .int (Mv 7), .int (Mv 8), .ref (Ma 7), .int (Mv 9), .ref (Ma 8), .int (Mv 10), .ref (Ma 9), .ref (Ma 10), .int (Mv 11), .int (Mv 12), .int (Mv 13), .ref (Ma 11), .int (Mv 14), .ref (Ma 12), .ref (Ma 13), .ref (Ma 14), .ref (Ma 15), .ref (Ma 16), .long (Mj 0), .ref (Ma 17), .ref (Ma 18), .ref (Ma 19), .ref (Ma 20)])), ((Ma 1), .inl (tc 2, 400, .inl (Mf 1)))] H := hP₀
        replace hD : va_D A [((Ma 0), .inr (12, [.ref (Ma 1), .int (Mv 0), .int (Mv 1), .ref (Ma 2), .ref (Ma 3), .ref (Ma 4), .ref (Ma 5), .ref (Ma 6), .int sv_54, .int (Mv 3), .int (Mv 4), .int (Mv 5), .int (Mv 6), .int (Mv 7), .int (Mv 8), .ref (Ma 7), .int (Mv 9), .ref (Ma 8), .int (Mv 10), .ref (Ma 9), .ref (Ma 10), .int (Mv 11), .int (Mv 12), .int (Mv 13), .ref (Ma 11), .int (Mv 14), .ref (Ma 12), .ref (Ma 13), .ref (Ma 14), .ref (Ma 15), .ref (Ma 16), .long (Mj 0), .ref (Ma 17), .ref (Ma 18), .ref (Ma 19), .ref (Ma 20)])), ((Ma 1), .inl (tc 2, 400, .inl (Mf 1)))] := hD₀
        replace hS := hS₀
        clear hP₀ hD₀ hS₀
        refine lv_if_eq (tgt := 44) hx hb dX12_isBookWord_37 (by decide) (fun c_62 => ?_) (fun c_62 => ?_)
        · skip
          refine lv_iconst (v := 0) hx hb dX12_isBookWord_44 (by decide) ?_
          have ha_63 : ((Mv 2) : Int32).toInt ≤ (sv_54 : Int32).toInt ∧ (sv_54 : Int32).toInt ≤ ((Mv 0) : Int32).toInt := by
            have z_1 := congrArg Int32.toInt c_12
            have z_2 := congrArg Int32.toInt c_28
            have z_3 := congrArg Int32.toInt c_45
            have z_4 := congrArg Int32.toInt c_62
            have y_0 : (0 : Int32).toInt = 0 := by decide
            refine ⟨?_, ?_⟩ <;> omega
          have hp_64 : ((0 : Int32).toInt = 0 ∨ (0 : Int32).toInt = 1) := by
            have z_1 := congrArg Int32.toInt c_12
            have z_2 := congrArg Int32.toInt c_28
            have z_3 := congrArg Int32.toInt c_45
            have z_4 := congrArg Int32.toInt c_62
            have y_0 : (0 : Int32).toInt = 0 := by decide
            omega
          exact retI (v := 0) hx hb hr hlk (rfl) hP hD hS sv_54 ⟨_, rfl, hp_64, ha_63⟩ [0, 1] rfl rfl dX12_isBookWord_45 (Nat.le_of_ble_eq_true rfl) (Nat.le_of_ble_eq_true rfl) rfl
        · skip
          have hz_66 : (r_58 : Int32).toInt = 1 := by
            have z_1 := congrArg Int32.toInt c_12
            have z_2 := congrArg Int32.toInt c_28
            have z_3 := congrArg Int32.toInt c_45
            have z_4 : ¬ (r_58 : Int32).toInt = (0 : Int32).toInt := fun z => c_62 (Int32.toInt_inj.mp z)
            have y_0 : (0 : Int32).toInt = 0 := by decide
            omega
          obtain pf_65 := hm_61 hz_66
          have pf_65 : Ltr (Mf 1) (Mv 0) sv_54 := pf_65
          have ar_pf_65 := pf_65.1
          refine lv_iconst (v := 1) hx hb dX12_isBookWord_40 (by decide) ?_
          refine lv_goto (tgt := 45) hx hb dX12_isBookWord_41 (by decide) ?_
          have ha_67 : ((Mv 2) : Int32).toInt ≤ (sv_54 : Int32).toInt ∧ (sv_54 : Int32).toInt ≤ ((Mv 0) : Int32).toInt := by
            have z_1 := congrArg Int32.toInt c_12
            have z_2 := congrArg Int32.toInt c_28
            have z_3 := congrArg Int32.toInt c_45
            have z_4 : ¬ (r_58 : Int32).toInt = (0 : Int32).toInt := fun z => c_62 (Int32.toInt_inj.mp z)
            have y_0 : (0 : Int32).toInt = 0 := by decide
            refine ⟨?_, ?_⟩ <;> omega
          have hp_68 : ((1 : Int32).toInt = 0 ∨ (1 : Int32).toInt = 1) := by
            have z_1 := congrArg Int32.toInt c_12
            have z_2 := congrArg Int32.toInt c_28
            have z_3 := congrArg Int32.toInt c_45
            have z_4 : ¬ (r_58 : Int32).toInt = (0 : Int32).toInt := fun z => c_62 (Int32.toInt_inj.mp z)
            have y_0 : (0 : Int32).toInt = 0 := by decide
            have y_1 : (1 : Int32).toInt = 1 := by decide
            have yr : (1 : Int32).toInt = 1 := by decide
            omega
          exact retI (v := 1) hx hb hr hlk (rfl) hP hD hS sv_54 ⟨_, rfl, hp_68, ha_67⟩ [0, 1] rfl rfl dX12_isBookWord_45 (Nat.le_of_ble_eq_true rfl) (Nat.le_of_ble_eq_true rfl) rfl
set_option maxRecDepth 100000 in
theorem cu_X12_isBookWord (l : Launch) (D : va_G) (tc : Nat → ClassId) (sk : (Nat → Nat) × (Nat → Nat)) (Ma_0 : Nat) (Ma_1 : Nat) (Ma_2 : Nat) (Ma_3 : Nat) (Ma_4 : Nat) (Ma_5 : Nat) (Ma_6 : Nat) (Ma_7 : Nat) (Ma_8 : Nat) (Ma_9 : Nat) (Ma_10 : Nat) (Ma_11 : Nat) (Ma_12 : Nat) (Ma_13 : Nat) (Ma_14 : Nat) (Ma_15 : Nat) (Ma_16 : Nat) (Ma_17 : Nat) (Ma_18 : Nat) (Ma_19 : Nat) (Ma_20 : Nat) (Mv_0 : Int32) (Mv_1 : Int32) (Mv_2 : Int32) (Mv_3 : Int32) (Mv_4 : Int32) (Mv_5 : Int32) (Mv_6 : Int32) (Mv_7 : Int32) (Mv_8 : Int32) (Mv_9 : Int32) (Mv_10 : Int32) (Mv_11 : Int32) (Mv_12 : Int32) (Mv_13 : Int32) (Mv_14 : Int32) (Mf_1 : Nat → Int32) (Mj_0 : Int64) (h_nx : 0 ≤ (Mv_2 : Int32).toInt ∧ (Mv_2 : Int32).toInt ≤ (Mv_0 : Int32).toInt ∧ (Mv_0 : Int32).toInt ≤ 400) : Ct l yX12_isBookWord cX12_isBookWord 1 (some .boolean) { frames := 2, cells := 0, slots := 0, locals := 46 } D tc sk [.ref Ma_0] [(Ma_0, .inr (12, [.ref Ma_1, .int Mv_0, .int Mv_1, .ref Ma_2, .ref Ma_3, .ref Ma_4, .ref Ma_5, .ref Ma_6, .int Mv_2, .int Mv_3, .int Mv_4, .int Mv_5, .int Mv_6, .int Mv_7, .int Mv_8, .ref Ma_7, .int Mv_9, .ref Ma_8, .int Mv_10, .ref Ma_9, .ref Ma_10, .int Mv_11, .int Mv_12, .int Mv_13, .ref Ma_11, .int Mv_14, .ref Ma_12, .ref Ma_13, .ref Ma_14, .ref Ma_15, .ref Ma_16, .long Mj_0, .ref Ma_17, .ref Ma_18, .ref Ma_19, .ref Ma_20])), (Ma_1, .inl (tc 2, 400, .inl Mf_1))] (fun (v : Option Value) (oo0x1 : Int32) => ∃ r : Int32, v = some (.int r) ∧ ((r.toInt = 0 ∨ r.toInt = 1)) ∧ ((Mv_2 : Int32).toInt ≤ (oo0x1 : Int32).toInt ∧ (oo0x1 : Int32).toInt ≤ (Mv_0 : Int32).toInt)) (fun (oo0x1 : Int32) => [(Ma_0, .inr (12, [.ref Ma_1, .int Mv_0, .int Mv_1, .ref Ma_2, .ref Ma_3, .ref Ma_4, .ref Ma_5, .ref Ma_6, .int oo0x1, .int Mv_3, .int Mv_4, .int Mv_5, .int Mv_6, .int Mv_7, .int Mv_8, .ref Ma_7, .int Mv_9, .ref Ma_8, .int Mv_10, .ref Ma_9, .ref Ma_10, .int Mv_11, .int Mv_12, .int Mv_13, .ref Ma_11, .int Mv_14, .ref Ma_12, .ref Ma_13, .ref Ma_14, .ref Ma_15, .ref Ma_16, .long Mj_0, .ref Ma_17, .ref Ma_18, .ref Ma_19, .ref Ma_20])), (Ma_1, .inl (tc 2, 400, .inl Mf_1))]) 0 0 :=
  ct_X12_isBookWord l D tc sk (fun k => ([Ma_0, Ma_1, Ma_2, Ma_3, Ma_4, Ma_5, Ma_6, Ma_7, Ma_8, Ma_9, Ma_10, Ma_11, Ma_12, Ma_13, Ma_14, Ma_15, Ma_16, Ma_17, Ma_18, Ma_19, Ma_20] : List (Nat)).getD k 0) (fun k => ([Mv_0, Mv_1, Mv_2, Mv_3, Mv_4, Mv_5, Mv_6, Mv_7, Mv_8, Mv_9, Mv_10, Mv_11, Mv_12, Mv_13, Mv_14] : List (Int32)).getD k 0) (fun k => ([(fun _ => 0), Mf_1] : List (Nat → Int32)).getD k (fun _ => 0)) (fun k => ([Mj_0] : List (Int64)).getD k 0) h_nx
set_option maxHeartbeats 4000000 in
set_option maxRecDepth 100000 in
theorem ct_X12_clauseHere_b (l : Launch) (D : va_G) (tc : Nat → ClassId) (sk : (Nat → Nat) × (Nat → Nat)) (Ma : Nat → Nat) (Mv : Nat → Int32) (Mf : Nat → Nat → Int32) (Mj : Nat → Int64) (h_nx : 0 ≤ ((Mv 2) : Int32).toInt ∧ ((Mv 2) : Int32).toInt ≤ ((Mv 0) : Int32).toInt ∧ ((Mv 0) : Int32).toInt ≤ 400) (h_ro : RdO (Mf 6)) : Ct l yX12_clauseHere cX12_clauseHere 3 (some .boolean) { frames := 5, cells := 0, slots := 0, locals := 115 } D tc sk [.ref (Ma 0)] [((Ma 0), .inr (12, [.ref (Ma 1), .int (Mv 0), .int (Mv 1), .ref (Ma 2), .ref (Ma 3), .ref (Ma 4), .ref (Ma 5), .ref (Ma 6), .int (Mv 2), .int (Mv 3), .int (Mv 4), .int 6, .int (Mv 6), .int (Mv 7), .int (Mv 8), .ref (Ma 7), .int (Mv 9), .ref (Ma 8), .int (Mv 10), .ref (Ma 9), .ref (Ma 10), .int (Mv 11), .int (Mv 12), .int (Mv 13), .ref (Ma 11), .int (Mv 14), .ref (Ma 12), .ref (Ma 13), .ref (Ma 14), .ref (Ma 15), .ref (Ma 16), .long (Mj 0), .ref (Ma 17), .ref (Ma 18), .ref (Ma 19), .ref (Ma 20)])), ((Ma 1), .inl (tc 2, 400, .inl (Mf 1))), ((Ma 3), .inl (tc 0, 7, .inl (Mf 3))), ((Ma 6), .inl (tc 0, 95, .inl (Mf 6)))] (fun (v : Option Value) (u : (Int32) × (Int32) × (Int32) × (Int32) × (Nat → Int32)) => match u with | (oo0x1, oo0x2, oo0x3, oo0x4, oo0x5) => ∃ r : Int32, v = some (.int r) ∧ (((r.toInt = 0 ∧ ¬ (oo0x2 : Int32).toInt = 0) ∨ r.toInt = 1)) ∧ (((Mv 2) : Int32).toInt ≤ (oo0x1 : Int32).toInt ∧ (oo0x1 : Int32).toInt ≤ ((Mv 0) : Int32).toInt) ∧ (r.toInt = 1 → (RdO oo0x5))) (fun (u : (Int32) × (Int32) × (Int32) × (Int32) × (Nat → Int32)) => match u with | (oo0x1, oo0x2, oo0x3, oo0x4, oo0x5) => [((Ma 0), .inr (12, [.ref (Ma 1), .int (Mv 0), .int (Mv 1), .ref (Ma 2), .ref (Ma 3), .ref (Ma 4), .ref (Ma 5), .ref (Ma 6), .int oo0x1, .int oo0x2, .int oo0x3, .int 6, .int (Mv 6), .int (Mv 7), .int oo0x4, .ref (Ma 7), .int (Mv 9), .ref (Ma 8), .int (Mv 10), .ref (Ma 9), .ref (Ma 10), .int (Mv 11), .int (Mv 12), .int (Mv 13), .ref (Ma 11), .int (Mv 14), .ref (Ma 12), .ref (Ma 13), .ref (Ma 14), .ref (Ma 15), .ref (Ma 16), .long (Mj 0), .ref (Ma 17), .ref (Ma 18), .ref (Ma 19), .ref (Ma 20)])), ((Ma 1), .inl (tc 2, 400, .inl (Mf 1))), ((Ma 3), .inl (tc 0, 7, .inl (Mf 3))), ((Ma 6), .inl (tc 0, 95, .inl oo0x5))]) 0 0 := by
  refine Ct.start (by decide) (Nat.le_of_ble_eq_true rfl) (fun p e s m below meth c A ls hx hb hr hlk hin hml hown hts hK hX hP hD hA hl hS => ?_)
  have hl : lv_has ls 3 [(0, .ref (Ma 0))] := hl
  have ar_h_ro := RdO.ar h_ro
  refine lv_aload_n hx hb dX12_clauseHere_0 rfl (lv_at hl 0 rfl) ?_
  refine cV (a := (Ma 0)) (As := []) (rest := []) (wr := [((Ma 3), .inl (tc 0, 7, .inl (Mf 3))), ((Ma 6), .inl (tc 0, 95, .inl (Mf 6)))]) ⟨hx, hb, hml, hown, hts⟩ hK hX hA (cu_X12_see l D tc sk (Ma 0) (Ma 1) (Ma 2) (Ma 3) (Ma 4) (Ma 5) (Ma 6) (Ma 7) (Ma 8) (Ma 9) (Ma 10) (Ma 11) (Ma 12) (Ma 13) (Ma 14) (Ma 15) (Ma 16) (Ma 17) (Ma 18) (Ma 19) (Ma 20) (Mv 0) (Mv 1) (Mv 2) (Mv 3) (Mv 4) 6 (Mv 6) (Mv 7) (Mv 8) (Mv 9) (Mv 10) (Mv 11) (Mv 12) (Mv 13) (Mv 14) (Mf 1) (Mj 0) h_nx) k_1211 k_1208 k_1210 k_27 k_106 pl_X12_see ⟨Nat.le_of_ble_eq_true rfl, Nat.le_of_ble_eq_true rfl⟩ rfl rfl (va_recv hK hP (ci := 12) (q0 := 0) rfl rfl) hP hD hS [0, 1] [2, 3] rfl rfl rfl rfl rfl (by decide) rfl hl.1 rfl (Nat.le_of_ble_eq_true rfl) dX12_clauseHere_1 ⟨Nat.le_of_ble_eq_true rfl, Nat.le_of_ble_eq_true rfl⟩ (fun v_1 u_2 H locs hv_3 hP₀ hD₀ hS₀ => ?_)
  obtain ⟨sv_4, rfl⟩ : ∃ z, z = u_2 := ⟨_, rfl⟩
  obtain ⟨r_8, rfl, he_9, pf_5, pf_6, pf_7⟩ := hv_3
  have he_9 : (r_8.toInt = -1 ∨ (sv_4 : Int32).toInt < ((Mv 0) : Int32).toInt) := he_9
  have pf_5 : ((Mv 2) : Int32).toInt ≤ (sv_4 : Int32).toInt ∧ (sv_4 : Int32).toInt ≤ ((Mv 0) : Int32).toInt := pf_5
  have pf_6 : NSq (Mf 1) (Mv 0) sv_4 := pf_6
  have pf_7 : Stl (Mf 1) (Mv 0) (Mv 2) sv_4 := pf_7
  refine W.eq (g2 := F0 m 4 ls [.int r_8]) rfl ?_
  replace hP : va_P D classes [((Ma 3), .inl (tc 0, 7, .inl (Mf 3))), ((Ma 6), .inl (tc 0, 95, .inl (Mf 6))), ((Ma 0), .inr (12, [.ref (Ma 1), .int (Mv 0), .int (Mv 1), .ref (Ma 2), .ref (Ma 3), .ref (Ma 4), .ref (Ma 5), .ref (Ma 6), .int sv_4, .int (Mv 3), .int (Mv 4), .int 6, .int (Mv 6), .int (Mv 7), .int (Mv 8), .ref (Ma 7), .int (Mv 9), .ref (Ma 8), .int (Mv 10), .ref (Ma 9), .ref (Ma 10), .int (Mv 11), .int (Mv 12), .int (Mv 13), .ref (Ma 11), .int (Mv 14), .ref (Ma 12), .ref (Ma 13), .ref (Ma 14), .ref (Ma 15), .ref (Ma 16), .long (Mj 0), .ref (Ma 17), .ref (Ma 18), .ref (Ma 19), .ref (Ma 20)])), ((Ma 1), .inl (tc 2, 400, .inl (Mf 1)))] H := hP₀
  replace hD : va_D A [((Ma 3), .inl (tc 0, 7, .inl (Mf 3))), ((Ma 6), .inl (tc 0, 95, .inl (Mf 6))), ((Ma 0), .inr (12, [.ref (Ma 1), .int (Mv 0), .int (Mv 1), .ref (Ma 2), .ref (Ma 3), .ref (Ma 4), .ref (Ma 5), .ref (Ma 6), .int sv_4, .int (Mv 3), .int (Mv 4), .int 6, .int (Mv 6), .int (Mv 7), .int (Mv 8), .ref (Ma 7), .int (Mv 9), .ref (Ma 8), .int (Mv 10), .ref (Ma 9), .ref (Ma 10), .int (Mv 11), .int (Mv 12), .int (Mv 13), .ref (Ma 11), .int (Mv 14), .ref (Ma 12), .ref (Ma 13), .ref (Ma 14), .ref (Ma 15), .ref (Ma 16), .long (Mj 0), .ref (Ma 17), .ref (Ma 18), .ref (Ma 19), .ref (Ma 20)])), ((Ma 1), .inl (tc 2, 400, .inl (Mf 1)))] := hD₀
  replace hS := hS₀
  clear hP₀ hD₀ hS₀
  refine lv_pop hx hb dX12_clauseHere_4 rfl ?_
  refine lv_aload_n hx hb dX12_clauseHere_5 rfl (lv_at hl 0 rfl) ?_
  refine gf_X12_87 hx hb hts hown hK hP 2 rfl rfl dX12_clauseHere_6 ?_
  refine lv_istore_n (lv' := [(1, .int sv_4), (0, .ref (Ma 0))]) hx hb dX12_clauseHere_9 rfl hl (by decide) rfl (fun ls hl₀ => ?_)
  replace hl := hl₀
  clear hl₀
  refine lv_aload_n hx hb dX12_clauseHere_10 rfl (lv_at hl 1 rfl) ?_
  refine gf_X12_145 hx hb hts hown hK hP 2 rfl rfl dX12_clauseHere_11 ?_
  refine lv_bipush (v := 6) hx hb dX12_clauseHere_14 (by decide) ?_
  refine lv_icmp_ne (tgt := 23) hx hb dX12_clauseHere_16 (by decide) (fun c_11 => absurd c_11 (by decide)) (fun c_11 => ?_)
  refine lv_iconst (v := 1) hx hb dX12_clauseHere_19 (by decide) ?_
  refine lv_goto (tgt := 24) hx hb dX12_clauseHere_20 (by decide) ?_
  refine lv_istore_n (lv' := [(2, .int 1), (1, .int sv_4), (0, .ref (Ma 0))]) hx hb dX12_clauseHere_24 rfl hl (by decide) rfl (fun ls hl₀ => ?_)
  replace hl := hl₀
  clear hl₀
  refine lv_iload_n hx hb dX12_clauseHere_25 rfl (lv_at hl 0 rfl) ?_
  refine lv_if_eq (tgt := 39) hx hb dX12_clauseHere_26 (by decide) (fun c_12 => absurd c_12 (by decide)) (fun c_12 => ?_)
  refine lv_aload_n hx hb dX12_clauseHere_29 rfl (lv_at hl 2 rfl) ?_
  have ha_13 : 0 ≤ (sv_4 : Int32).toInt ∧ (sv_4 : Int32).toInt ≤ ((Mv 0) : Int32).toInt ∧ ((Mv 0) : Int32).toInt ≤ 400 := by
    omega
  refine cV (a := (Ma 0)) (As := []) (rest := []) (wr := [((Ma 3), .inl (tc 0, 7, .inl (Mf 3))), ((Ma 6), .inl (tc 0, 95, .inl (Mf 6)))]) ⟨hx, hb, hml, hown, hts⟩ hK hX hA (cu_X12_isBookWord l D tc sk (Ma 0) (Ma 1) (Ma 2) (Ma 3) (Ma 4) (Ma 5) (Ma 6) (Ma 7) (Ma 8) (Ma 9) (Ma 10) (Ma 11) (Ma 12) (Ma 13) (Ma 14) (Ma 15) (Ma 16) (Ma 17) (Ma 18) (Ma 19) (Ma 20) (Mv 0) (Mv 1) sv_4 (Mv 3) (Mv 4) 6 (Mv 6) (Mv 7) (Mv 8) (Mv 9) (Mv 10) (Mv 11) (Mv 12) (Mv 13) (Mv 14) (Mf 1) (Mj 0) ha_13) k_1215 k_1212 k_1214 k_28 k_106 pl_X12_isBookWord ⟨Nat.le_of_ble_eq_true rfl, Nat.le_of_ble_eq_true rfl⟩ rfl rfl (va_recv hK hP (ci := 12) (q0 := 2) rfl rfl) hP hD hS [2, 3] [0, 1] rfl rfl rfl rfl rfl (by decide) rfl hl.1 rfl (Nat.le_of_ble_eq_true rfl) dX12_clauseHere_30 ⟨Nat.le_of_ble_eq_true rfl, Nat.le_of_ble_eq_true rfl⟩ (fun v_14 u_15 H locs hv_16 hP₀ hD₀ hS₀ => ?_)
  obtain ⟨sv_17, rfl⟩ : ∃ z, z = u_15 := ⟨_, rfl⟩
  obtain ⟨r_19, rfl, he_20, pf_18⟩ := hv_16
  have he_20 : (r_19.toInt = 0 ∨ r_19.toInt = 1) := he_20
  have pf_18 : (sv_4 : Int32).toInt ≤ (sv_17 : Int32).toInt ∧ (sv_17 : Int32).toInt ≤ ((Mv 0) : Int32).toInt := pf_18
  refine W.eq (g2 := F0 m 33 ls [.int r_19]) rfl ?_
  replace hP : va_P D classes [((Ma 3), .inl (tc 0, 7, .inl (Mf 3))), ((Ma 6), .inl (tc 0, 95, .inl (Mf 6))), ((Ma 0), .inr (12, [.ref (Ma 1), .int (Mv 0), .int (Mv 1), .ref (Ma 2), .ref (Ma 3), .ref (Ma 4), .ref (Ma 5), .ref (Ma 6), .int sv_17, .int (Mv 3), .int (Mv 4), .int 6, .int (Mv 6), .int (Mv 7), .int (Mv 8), .ref (Ma 7), .int (Mv 9), .ref (Ma 8), .int (Mv 10), .ref (Ma 9), .ref (Ma 10), .int (Mv 11), .int (Mv 12), .int (Mv 13), .ref (Ma 11), .int (Mv 14), .ref (Ma 12), .ref (Ma 13), .ref (Ma 14), .ref (Ma 15), .ref (Ma 16), .long (Mj 0), .ref (Ma 17), .ref (Ma 18), .ref (Ma 19), .ref (Ma 20)])), ((Ma 1), .inl (tc 2, 400, .inl (Mf 1)))] H := hP₀
  replace hD : va_D A [((Ma 3), .inl (tc 0, 7, .inl (Mf 3))), ((Ma 6), .inl (tc 0, 95, .inl (Mf 6))), ((Ma 0), .inr (12, [.ref (Ma 1), .int (Mv 0), .int (Mv 1), .ref (Ma 2), .ref (Ma 3), .ref (Ma 4), .ref (Ma 5), .ref (Ma 6), .int sv_17, .int (Mv 3), .int (Mv 4), .int 6, .int (Mv 6), .int (Mv 7), .int (Mv 8), .ref (Ma 7), .int (Mv 9), .ref (Ma 8), .int (Mv 10), .ref (Ma 9), .ref (Ma 10), .int (Mv 11), .int (Mv 12), .int (Mv 13), .ref (Ma 11), .int (Mv 14), .ref (Ma 12), .ref (Ma 13), .ref (Ma 14), .ref (Ma 15), .ref (Ma 16), .long (Mj 0), .ref (Ma 17), .ref (Ma 18), .ref (Ma 19), .ref (Ma 20)])), ((Ma 1), .inl (tc 2, 400, .inl (Mf 1)))] := hD₀
  replace hS := hS₀
  clear hP₀ hD₀ hS₀
  refine lv_if_ne (tgt := 56) hx hb dX12_clauseHere_33 (by decide) (fun c_22 => ?_) (fun c_22 => ?_)
  · skip
    refine lv_aload_n hx hb dX12_clauseHere_56 rfl (lv_at hl 2 rfl) ?_
    refine gf_X12_244 hx hb hts hown hK hP 2 rfl rfl dX12_clauseHere_57 ?_
    refine lv_iload_n hx hb dX12_clauseHere_60 rfl (lv_at hl 0 rfl) ?_
    refine lv_if_eq (tgt := 69) hx hb dX12_clauseHere_61 (by decide) (fun c_23 => absurd c_23 (by decide)) (fun c_23 => ?_)
    refine lv_bipush (v := 40) hx hb dX12_clauseHere_64 (by decide) ?_
    refine lv_goto (tgt := 71) hx hb dX12_clauseHere_66 (by decide) ?_
    refine lv_icmp_ne (tgt := 81) hx hb dX12_clauseHere_71 (by decide) (fun c_24 => ?_) (fun c_24 => ?_)
    · skip
      refine lv_aload_n hx hb dX12_clauseHere_81 rfl (lv_at hl 2 rfl) ?_
      refine lv_dup hx hb dX12_clauseHere_82 rfl ?_
      refine gf_X12_244 hx hb hts hown hK hP 2 rfl rfl dX12_clauseHere_83 ?_
      refine lv_iconst (v := 1) hx hb dX12_clauseHere_86 (by decide) ?_
      refine lv_iadd hx hb dX12_clauseHere_87 ?_
      refine lv_topi (fun x_25 ex_25 => ?_)
      refine pf_X12_244 hx hb hts hown hK hP hD hS 2 rfl (Nat.le_of_ble_eq_true rfl) rfl rfl dX12_clauseHere_88 (fun H locs hP₀ hD₀ hS₀ => ?_)
      replace hP : va_P D classes [((Ma 3), .inl (tc 0, 7, .inl (Mf 3))), ((Ma 6), .inl (tc 0, 95, .inl (Mf 6))), ((Ma 0), .inr (12, [.ref (Ma 1), .int (Mv 0), .int (Mv 1), .ref (Ma 2), .ref (Ma 3), .ref (Ma 4), .ref (Ma 5), .ref (Ma 6), .int sv_17, .int (Mv 3), .int (Mv 4), .int 6, .int (Mv 6), .int (Mv 7), .int x_25, .ref (Ma 7), .int (Mv 9), .ref (Ma 8), .int (Mv 10), .ref (Ma 9), .ref (Ma 10), .int (Mv 11), .int (Mv 12), .int (Mv 13), .ref (Ma 11), .int (Mv 14), .ref (Ma 12), .ref (Ma 13), .ref (Ma 14), .ref (Ma 15), .ref (Ma 16), .long (Mj 0), .ref (Ma 17), .ref (Ma 18), .ref (Ma 19), .ref (Ma 20)])), ((Ma 1), .inl (tc 2, 400, .inl (Mf 1)))] H := hP₀
      replace hD : va_D A [((Ma 3), .inl (tc 0, 7, .inl (Mf 3))), ((Ma 6), .inl (tc 0, 95, .inl (Mf 6))), ((Ma 0), .inr (12, [.ref (Ma 1), .int (Mv 0), .int (Mv 1), .ref (Ma 2), .ref (Ma 3), .ref (Ma 4), .ref (Ma 5), .ref (Ma 6), .int sv_17, .int (Mv 3), .int (Mv 4), .int 6, .int (Mv 6), .int (Mv 7), .int x_25, .ref (Ma 7), .int (Mv 9), .ref (Ma 8), .int (Mv 10), .ref (Ma 9), .ref (Ma 10), .int (Mv 11), .int (Mv 12), .int (Mv 13), .ref (Ma 11), .int (Mv 14), .ref (Ma 12), .ref (Ma 13), .ref (Ma 14), .ref (Ma 15), .ref (Ma 16), .long (Mj 0), .ref (Ma 17), .ref (Ma 18), .ref (Ma 19), .ref (Ma 20)])), ((Ma 1), .inl (tc 2, 400, .inl (Mf 1)))] := hD₀
      replace hS := hS₀
      clear hP₀ hD₀ hS₀
      refine lv_iload_n hx hb dX12_clauseHere_91 rfl (lv_at hl 0 rfl) ?_
      refine lv_if_eq (tgt := 103) hx hb dX12_clauseHere_92 (by decide) (fun c_26 => absurd c_26 (by decide)) (fun c_26 => ?_)
      refine lv_aload_n hx hb dX12_clauseHere_95 rfl (lv_at hl 2 rfl) ?_
      refine lv_iload_n hx hb dX12_clauseHere_96 rfl (lv_at hl 1 rfl) ?_
      have ha_27 : 0 ≤ (sv_17 : Int32).toInt ∧ (sv_17 : Int32).toInt ≤ ((Mv 0) : Int32).toInt ∧ ((Mv 0) : Int32).toInt ≤ 400 := by
        have z_1 : ¬ (r_19 : Int32).toInt = (0 : Int32).toInt := fun z => c_22 (Int32.toInt_inj.mp z)
        have z_2 : ¬ ((Mv 8) : Int32).toInt = (40 : Int32).toInt := fun z => c_24 (Int32.toInt_inj.mp z)
        have y_0 : (0 : Int32).toInt = 0 := by decide
        have y_40 : (40 : Int32).toInt = 40 := by decide
        omega
      have ha_28 : 0 ≤ sv_4.toInt ∧ sv_4.toInt ≤ 400 := by
        have z_1 : ¬ (r_19 : Int32).toInt = (0 : Int32).toInt := fun z => c_22 (Int32.toInt_inj.mp z)
        have z_2 : ¬ ((Mv 8) : Int32).toInt = (40 : Int32).toInt := fun z => c_24 (Int32.toInt_inj.mp z)
        have y_0 : (0 : Int32).toInt = 0 := by decide
        have y_40 : (40 : Int32).toInt = 40 := by decide
        omega
      refine cV (a := (Ma 0)) (As := [.int sv_4]) (rest := []) (wr := [((Ma 3), .inl (tc 0, 7, .inl (Mf 3)))]) ⟨hx, hb, hml, hown, hts⟩ hK hX hA (cu_X12_bookLineHere l D tc sk (Ma 0) (Ma 1) (Ma 2) (Ma 3) (Ma 4) (Ma 5) (Ma 6) (Ma 7) (Ma 8) (Ma 9) (Ma 10) (Ma 11) (Ma 12) (Ma 13) (Ma 14) (Ma 15) (Ma 16) (Ma 17) (Ma 18) (Ma 19) (Ma 20) (Mv 0) (Mv 1) sv_17 (Mv 3) (Mv 4) 6 (Mv 6) (Mv 7) x_25 (Mv 9) (Mv 10) (Mv 11) (Mv 12) (Mv 13) (Mv 14) (Mf 1) (Mf 6) (Mj 0) sv_4 ha_27 ha_28 h_ro) k_1236 k_1233 k_1235 k_32 k_106 pl_X12_bookLineHere ⟨Nat.le_of_ble_eq_true rfl, Nat.le_of_ble_eq_true rfl⟩ rfl rfl (va_recv hK hP (ci := 12) (q0 := 2) rfl rfl) hP hD hS [2, 3, 1] [0] rfl rfl rfl rfl rfl (by decide) rfl hl.1 rfl (Nat.le_of_ble_eq_true rfl) dX12_clauseHere_97 ⟨Nat.le_of_ble_eq_true rfl, Nat.le_of_ble_eq_true rfl⟩ (fun v_29 u_30 H locs hv_31 hP₀ hD₀ hS₀ => ?_)
      obtain ⟨sv_32, sv_33, sv_34, sv_35⟩ := u_30
      obtain ⟨r_37, rfl, he_38, pf_36, hm_40⟩ := hv_31
      have he_38 : ((r_37.toInt = 0 ∧ ¬ (sv_33 : Int32).toInt = 0) ∨ r_37.toInt = 1) := he_38
      have pf_36 : (sv_17 : Int32).toInt ≤ (sv_32 : Int32).toInt ∧ (sv_32 : Int32).toInt ≤ ((Mv 0) : Int32).toInt := pf_36
      refine W.eq (g2 := F0 m 100 ls [.int r_37]) rfl ?_
      replace hP : va_P D classes [((Ma 3), .inl (tc 0, 7, .inl (Mf 3))), ((Ma 0), .inr (12, [.ref (Ma 1), .int (Mv 0), .int (Mv 1), .ref (Ma 2), .ref (Ma 3), .ref (Ma 4), .ref (Ma 5), .ref (Ma 6), .int sv_32, .int sv_33, .int sv_34, .int 6, .int (Mv 6), .int (Mv 7), .int x_25, .ref (Ma 7), .int (Mv 9), .ref (Ma 8), .int (Mv 10), .ref (Ma 9), .ref (Ma 10), .int (Mv 11), .int (Mv 12), .int (Mv 13), .ref (Ma 11), .int (Mv 14), .ref (Ma 12), .ref (Ma 13), .ref (Ma 14), .ref (Ma 15), .ref (Ma 16), .long (Mj 0), .ref (Ma 17), .ref (Ma 18), .ref (Ma 19), .ref (Ma 20)])), ((Ma 1), .inl (tc 2, 400, .inl (Mf 1))), ((Ma 6), .inl (tc 0, 95, .inl sv_35))] H := hP₀
      replace hD : va_D A [((Ma 3), .inl (tc 0, 7, .inl (Mf 3))), ((Ma 0), .inr (12, [.ref (Ma 1), .int (Mv 0), .int (Mv 1), .ref (Ma 2), .ref (Ma 3), .ref (Ma 4), .ref (Ma 5), .ref (Ma 6), .int sv_32, .int sv_33, .int sv_34, .int 6, .int (Mv 6), .int (Mv 7), .int x_25, .ref (Ma 7), .int (Mv 9), .ref (Ma 8), .int (Mv 10), .ref (Ma 9), .ref (Ma 10), .int (Mv 11), .int (Mv 12), .int (Mv 13), .ref (Ma 11), .int (Mv 14), .ref (Ma 12), .ref (Ma 13), .ref (Ma 14), .ref (Ma 15), .ref (Ma 16), .long (Mj 0), .ref (Ma 17), .ref (Ma 18), .ref (Ma 19), .ref (Ma 20)])), ((Ma 1), .inl (tc 2, 400, .inl (Mf 1))), ((Ma 6), .inl (tc 0, 95, .inl sv_35))] := hD₀
      replace hS := hS₀
      clear hP₀ hD₀ hS₀
      refine lv_goto (tgt := 107) hx hb dX12_clauseHere_100 (by decide) ?_
      have ha_41 : ((Mv 2) : Int32).toInt ≤ (sv_32 : Int32).toInt ∧ (sv_32 : Int32).toInt ≤ ((Mv 0) : Int32).toInt := by
        have z_1 : ¬ (r_19 : Int32).toInt = (0 : Int32).toInt := fun z => c_22 (Int32.toInt_inj.mp z)
        have z_2 : ¬ ((Mv 8) : Int32).toInt = (40 : Int32).toInt := fun z => c_24 (Int32.toInt_inj.mp z)
        have y_0 : (0 : Int32).toInt = 0 := by decide
        have y_40 : (40 : Int32).toInt = 40 := by decide
        omega
      have hb_42 : (r_37 : Int32).toInt = 0 ∨ (r_37 : Int32).toInt = 1 := by
        have z_1 : ¬ (r_19 : Int32).toInt = (0 : Int32).toInt := fun z => c_22 (Int32.toInt_inj.mp z)
        have z_2 : ¬ ((Mv 8) : Int32).toInt = (40 : Int32).toInt := fun z => c_24 (Int32.toInt_inj.mp z)
        have y_0 : (0 : Int32).toInt = 0 := by decide
        have y_40 : (40 : Int32).toInt = 40 := by decide
        omega
      have hp_43 : (((r_37 : Int32).toInt = 0 ∧ ¬ (sv_33 : Int32).toInt = 0) ∨ (r_37 : Int32).toInt = 1) := by
        have z_1 : ¬ (r_19 : Int32).toInt = (0 : Int32).toInt := fun z => c_22 (Int32.toInt_inj.mp z)
        have z_2 : ¬ ((Mv 8) : Int32).toInt = (40 : Int32).toInt := fun z => c_24 (Int32.toInt_inj.mp z)
        have y_0 : (0 : Int32).toInt = 0 := by decide
        have y_40 : (40 : Int32).toInt = 40 := by decide
        omega
      have hm_44 : (r_37 : Int32).toInt = 1 → (RdO sv_35) := by
        intro h1r
        obtain pf_45 := hm_40 h1r
        have pf_45 : RdO sv_35 := pf_45
        have ar_pf_45 := RdO.ar pf_45
        exact pf_45
      exact retI (v := r_37) hx hb hr hlk (nar01 hb_42) hP hD hS (sv_32, sv_33, sv_34, x_25, sv_35) ⟨_, rfl, hp_43, ha_41, hm_44⟩ [1, 2, 0, 3] rfl rfl dX12_clauseHere_107 (Nat.le_of_ble_eq_true rfl) (Nat.le_of_ble_eq_true rfl) rfl
    · skip
      refine lv_aload_n hx hb dX12_clauseHere_74 rfl (lv_at hl 2 rfl) ?_
      refine lv_iconst (v := 4) hx hb dX12_clauseHere_75 (by decide) ?_
      refine lv_iload_n hx hb dX12_clauseHere_76 rfl (lv_at hl 1 rfl) ?_
      have ha_46 : 0 ≤ (4 : Int32).toInt ∧ (4 : Int32).toInt ≤ 4 := by
        have z_1 : ¬ (r_19 : Int32).toInt = (0 : Int32).toInt := fun z => c_22 (Int32.toInt_inj.mp z)
        have z_2 := congrArg Int32.toInt c_24
        have y_0 : (0 : Int32).toInt = 0 := by decide
        have y_40 : (40 : Int32).toInt = 40 := by decide
        have y_4 : (4 : Int32).toInt = 4 := by decide
        omega
      have ha_47 : 0 ≤ sv_4.toInt ∧ sv_4.toInt ≤ 400 := by
        have z_1 : ¬ (r_19 : Int32).toInt = (0 : Int32).toInt := fun z => c_22 (Int32.toInt_inj.mp z)
        have z_2 := congrArg Int32.toInt c_24
        have y_0 : (0 : Int32).toInt = 0 := by decide
        have y_40 : (40 : Int32).toInt = 40 := by decide
        omega
      refine cV (a := (Ma 0)) (As := [.int 4, .int sv_4]) (rest := []) (wr := [((Ma 3), .inl (tc 0, 7, .inl (Mf 3))), ((Ma 6), .inl (tc 0, 95, .inl (Mf 6))), ((Ma 1), .inl (tc 2, 400, .inl (Mf 1)))]) ⟨hx, hb, hml, hown, hts⟩ hK hX hA (cu_X12_fails l D tc sk (Ma 0) (Ma 1) (Ma 2) (Ma 3) (Ma 4) (Ma 5) (Ma 6) (Ma 7) (Ma 8) (Ma 9) (Ma 10) (Ma 11) (Ma 12) (Ma 13) (Ma 14) (Ma 15) (Ma 16) (Ma 17) (Ma 18) (Ma 19) (Ma 20) (Mv 0) (Mv 1) sv_17 (Mv 3) (Mv 4) 6 (Mv 6) (Mv 7) (Mv 8) (Mv 9) (Mv 10) (Mv 11) (Mv 12) (Mv 13) (Mv 14) (Mj 0) 4 sv_4 ha_46 ha_47) k_1232 k_1229 k_1231 k_31 k_106 pl_X12_fails ⟨Nat.le_of_ble_eq_true rfl, Nat.le_of_ble_eq_true rfl⟩ rfl rfl (va_recv hK hP (ci := 12) (q0 := 2) rfl rfl) hP hD hS [2] [0, 1, 3] rfl rfl rfl rfl rfl (by decide) rfl hl.1 rfl (Nat.le_of_ble_eq_true rfl) dX12_clauseHere_77 ⟨Nat.le_of_ble_eq_true rfl, Nat.le_of_ble_eq_true rfl⟩ (fun v_48 u_49 H locs hv_50 hP₀ hD₀ hS₀ => ?_)
      obtain ⟨sv_51, rfl⟩ : ∃ z, z = u_49 := ⟨_, rfl⟩
      obtain ⟨r_53, rfl, he_54, pf_52⟩ := hv_50
      have he_54 : r_53.toInt = 0 := he_54
      have pf_52 : ¬ (sv_51 : Int32).toInt = 0 := pf_52
      refine W.eq (g2 := F0 m 80 ls [.int r_53]) rfl ?_
      replace hP : va_P D classes [((Ma 3), .inl (tc 0, 7, .inl (Mf 3))), ((Ma 6), .inl (tc 0, 95, .inl (Mf 6))), ((Ma 1), .inl (tc 2, 400, .inl (Mf 1))), ((Ma 0), .inr (12, [.ref (Ma 1), .int (Mv 0), .int (Mv 1), .ref (Ma 2), .ref (Ma 3), .ref (Ma 4), .ref (Ma 5), .ref (Ma 6), .int sv_17, .int sv_51, .int (Mv 4), .int 6, .int (Mv 6), .int (Mv 7), .int (Mv 8), .ref (Ma 7), .int (Mv 9), .ref (Ma 8), .int (Mv 10), .ref (Ma 9), .ref (Ma 10), .int (Mv 11), .int (Mv 12), .int (Mv 13), .ref (Ma 11), .int (Mv 14), .ref (Ma 12), .ref (Ma 13), .ref (Ma 14), .ref (Ma 15), .ref (Ma 16), .long (Mj 0), .ref (Ma 17), .ref (Ma 18), .ref (Ma 19), .ref (Ma 20)]))] H := hP₀
      replace hD : va_D A [((Ma 3), .inl (tc 0, 7, .inl (Mf 3))), ((Ma 6), .inl (tc 0, 95, .inl (Mf 6))), ((Ma 1), .inl (tc 2, 400, .inl (Mf 1))), ((Ma 0), .inr (12, [.ref (Ma 1), .int (Mv 0), .int (Mv 1), .ref (Ma 2), .ref (Ma 3), .ref (Ma 4), .ref (Ma 5), .ref (Ma 6), .int sv_17, .int sv_51, .int (Mv 4), .int 6, .int (Mv 6), .int (Mv 7), .int (Mv 8), .ref (Ma 7), .int (Mv 9), .ref (Ma 8), .int (Mv 10), .ref (Ma 9), .ref (Ma 10), .int (Mv 11), .int (Mv 12), .int (Mv 13), .ref (Ma 11), .int (Mv 14), .ref (Ma 12), .ref (Ma 13), .ref (Ma 14), .ref (Ma 15), .ref (Ma 16), .long (Mj 0), .ref (Ma 17), .ref (Ma 18), .ref (Ma 19), .ref (Ma 20)]))] := hD₀
      replace hS := hS₀
      clear hP₀ hD₀ hS₀
      have ha_56 : ((Mv 2) : Int32).toInt ≤ (sv_17 : Int32).toInt ∧ (sv_17 : Int32).toInt ≤ ((Mv 0) : Int32).toInt := by
        have z_1 : ¬ (r_19 : Int32).toInt = (0 : Int32).toInt := fun z => c_22 (Int32.toInt_inj.mp z)
        have z_2 := congrArg Int32.toInt c_24
        have y_0 : (0 : Int32).toInt = 0 := by decide
        have y_40 : (40 : Int32).toInt = 40 := by decide
        omega
      have hb_57 : (r_53 : Int32).toInt = 0 ∨ (r_53 : Int32).toInt = 1 := by
        have z_1 : ¬ (r_19 : Int32).toInt = (0 : Int32).toInt := fun z => c_22 (Int32.toInt_inj.mp z)
        have z_2 := congrArg Int32.toInt c_24
        have y_0 : (0 : Int32).toInt = 0 := by decide
        have y_40 : (40 : Int32).toInt = 40 := by decide
        omega
      have hp_58 : (((r_53 : Int32).toInt = 0 ∧ ¬ (sv_51 : Int32).toInt = 0) ∨ (r_53 : Int32).toInt = 1) := by
        have z_1 : ¬ (r_19 : Int32).toInt = (0 : Int32).toInt := fun z => c_22 (Int32.toInt_inj.mp z)
        have z_2 := congrArg Int32.toInt c_24
        have y_0 : (0 : Int32).toInt = 0 := by decide
        have y_40 : (40 : Int32).toInt = 40 := by decide
        omega
      have hm_59 : (r_53 : Int32).toInt = 1 → (RdO (Mf 6)) := by
        intro h1r
        exfalso
        have z_1 : ¬ (r_19 : Int32).toInt = (0 : Int32).toInt := fun z => c_22 (Int32.toInt_inj.mp z)
        have z_2 := congrArg Int32.toInt c_24
        have y_0 : (0 : Int32).toInt = 0 := by decide
        have y_40 : (40 : Int32).toInt = 40 := by decide
        omega
      exact retI (v := r_53) hx hb hr hlk (nar01 hb_57) hP hD hS (sv_17, sv_51, (Mv 4), (Mv 8), (Mf 6)) ⟨_, rfl, hp_58, ha_56, hm_59⟩ [3, 2, 0, 1] rfl rfl dX12_clauseHere_80 (Nat.le_of_ble_eq_true rfl) (Nat.le_of_ble_eq_true rfl) rfl
  · skip
    refine lv_goto (tgt := 49) hx hb dX12_clauseHere_36 (by decide) ?_
    refine lv_aload_n hx hb dX12_clauseHere_49 rfl (lv_at hl 2 rfl) ?_
    refine lv_iconst (v := 0) hx hb dX12_clauseHere_50 (by decide) ?_
    refine lv_iload_n hx hb dX12_clauseHere_51 rfl (lv_at hl 1 rfl) ?_
    have ha_60 : 0 ≤ (0 : Int32).toInt ∧ (0 : Int32).toInt ≤ 4 := by
      have z_1 := congrArg Int32.toInt c_22
      have y_0 : (0 : Int32).toInt = 0 := by decide
      omega
    have ha_61 : 0 ≤ sv_4.toInt ∧ sv_4.toInt ≤ 400 := by
      have z_1 := congrArg Int32.toInt c_22
      have y_0 : (0 : Int32).toInt = 0 := by decide
      omega
    refine cV (a := (Ma 0)) (As := [.int 0, .int sv_4]) (rest := []) (wr := [((Ma 3), .inl (tc 0, 7, .inl (Mf 3))), ((Ma 6), .inl (tc 0, 95, .inl (Mf 6))), ((Ma 1), .inl (tc 2, 400, .inl (Mf 1)))]) ⟨hx, hb, hml, hown, hts⟩ hK hX hA (cu_X12_fails l D tc sk (Ma 0) (Ma 1) (Ma 2) (Ma 3) (Ma 4) (Ma 5) (Ma 6) (Ma 7) (Ma 8) (Ma 9) (Ma 10) (Ma 11) (Ma 12) (Ma 13) (Ma 14) (Ma 15) (Ma 16) (Ma 17) (Ma 18) (Ma 19) (Ma 20) (Mv 0) (Mv 1) sv_17 (Mv 3) (Mv 4) 6 (Mv 6) (Mv 7) (Mv 8) (Mv 9) (Mv 10) (Mv 11) (Mv 12) (Mv 13) (Mv 14) (Mj 0) 0 sv_4 ha_60 ha_61) k_1232 k_1229 k_1231 k_31 k_106 pl_X12_fails ⟨Nat.le_of_ble_eq_true rfl, Nat.le_of_ble_eq_true rfl⟩ rfl rfl (va_recv hK hP (ci := 12) (q0 := 2) rfl rfl) hP hD hS [2] [0, 1, 3] rfl rfl rfl rfl rfl (by decide) rfl hl.1 rfl (Nat.le_of_ble_eq_true rfl) dX12_clauseHere_52 ⟨Nat.le_of_ble_eq_true rfl, Nat.le_of_ble_eq_true rfl⟩ (fun v_62 u_63 H locs hv_64 hP₀ hD₀ hS₀ => ?_)
    obtain ⟨sv_65, rfl⟩ : ∃ z, z = u_63 := ⟨_, rfl⟩
    obtain ⟨r_67, rfl, he_68, pf_66⟩ := hv_64
    have he_68 : r_67.toInt = 0 := he_68
    have pf_66 : ¬ (sv_65 : Int32).toInt = 0 := pf_66
    refine W.eq (g2 := F0 m 55 ls [.int r_67]) rfl ?_
    replace hP : va_P D classes [((Ma 3), .inl (tc 0, 7, .inl (Mf 3))), ((Ma 6), .inl (tc 0, 95, .inl (Mf 6))), ((Ma 1), .inl (tc 2, 400, .inl (Mf 1))), ((Ma 0), .inr (12, [.ref (Ma 1), .int (Mv 0), .int (Mv 1), .ref (Ma 2), .ref (Ma 3), .ref (Ma 4), .ref (Ma 5), .ref (Ma 6), .int sv_17, .int sv_65, .int (Mv 4), .int 6, .int (Mv 6), .int (Mv 7), .int (Mv 8), .ref (Ma 7), .int (Mv 9), .ref (Ma 8), .int (Mv 10), .ref (Ma 9), .ref (Ma 10), .int (Mv 11), .int (Mv 12), .int (Mv 13), .ref (Ma 11), .int (Mv 14), .ref (Ma 12), .ref (Ma 13), .ref (Ma 14), .ref (Ma 15), .ref (Ma 16), .long (Mj 0), .ref (Ma 17), .ref (Ma 18), .ref (Ma 19), .ref (Ma 20)]))] H := hP₀
    replace hD : va_D A [((Ma 3), .inl (tc 0, 7, .inl (Mf 3))), ((Ma 6), .inl (tc 0, 95, .inl (Mf 6))), ((Ma 1), .inl (tc 2, 400, .inl (Mf 1))), ((Ma 0), .inr (12, [.ref (Ma 1), .int (Mv 0), .int (Mv 1), .ref (Ma 2), .ref (Ma 3), .ref (Ma 4), .ref (Ma 5), .ref (Ma 6), .int sv_17, .int sv_65, .int (Mv 4), .int 6, .int (Mv 6), .int (Mv 7), .int (Mv 8), .ref (Ma 7), .int (Mv 9), .ref (Ma 8), .int (Mv 10), .ref (Ma 9), .ref (Ma 10), .int (Mv 11), .int (Mv 12), .int (Mv 13), .ref (Ma 11), .int (Mv 14), .ref (Ma 12), .ref (Ma 13), .ref (Ma 14), .ref (Ma 15), .ref (Ma 16), .long (Mj 0), .ref (Ma 17), .ref (Ma 18), .ref (Ma 19), .ref (Ma 20)]))] := hD₀
    replace hS := hS₀
    clear hP₀ hD₀ hS₀
    have ha_70 : ((Mv 2) : Int32).toInt ≤ (sv_17 : Int32).toInt ∧ (sv_17 : Int32).toInt ≤ ((Mv 0) : Int32).toInt := by
      have z_1 := congrArg Int32.toInt c_22
      have y_0 : (0 : Int32).toInt = 0 := by decide
      omega
    have hb_71 : (r_67 : Int32).toInt = 0 ∨ (r_67 : Int32).toInt = 1 := by
      have z_1 := congrArg Int32.toInt c_22
      have y_0 : (0 : Int32).toInt = 0 := by decide
      omega
    have hp_72 : (((r_67 : Int32).toInt = 0 ∧ ¬ (sv_65 : Int32).toInt = 0) ∨ (r_67 : Int32).toInt = 1) := by
      have z_1 := congrArg Int32.toInt c_22
      have y_0 : (0 : Int32).toInt = 0 := by decide
      omega
    have hm_73 : (r_67 : Int32).toInt = 1 → (RdO (Mf 6)) := by
      intro h1r
      exfalso
      have z_1 := congrArg Int32.toInt c_22
      have y_0 : (0 : Int32).toInt = 0 := by decide
      omega
    exact retI (v := r_67) hx hb hr hlk (nar01 hb_71) hP hD hS (sv_17, sv_65, (Mv 4), (Mv 8), (Mf 6)) ⟨_, rfl, hp_72, ha_70, hm_73⟩ [3, 2, 0, 1] rfl rfl dX12_clauseHere_55 (Nat.le_of_ble_eq_true rfl) (Nat.le_of_ble_eq_true rfl) rfl
set_option maxRecDepth 100000 in
theorem cu_X12_clauseHere_b (l : Launch) (D : va_G) (tc : Nat → ClassId) (sk : (Nat → Nat) × (Nat → Nat)) (Ma_0 : Nat) (Ma_1 : Nat) (Ma_2 : Nat) (Ma_3 : Nat) (Ma_4 : Nat) (Ma_5 : Nat) (Ma_6 : Nat) (Ma_7 : Nat) (Ma_8 : Nat) (Ma_9 : Nat) (Ma_10 : Nat) (Ma_11 : Nat) (Ma_12 : Nat) (Ma_13 : Nat) (Ma_14 : Nat) (Ma_15 : Nat) (Ma_16 : Nat) (Ma_17 : Nat) (Ma_18 : Nat) (Ma_19 : Nat) (Ma_20 : Nat) (Mv_0 : Int32) (Mv_1 : Int32) (Mv_2 : Int32) (Mv_3 : Int32) (Mv_4 : Int32) (Mv_6 : Int32) (Mv_7 : Int32) (Mv_8 : Int32) (Mv_9 : Int32) (Mv_10 : Int32) (Mv_11 : Int32) (Mv_12 : Int32) (Mv_13 : Int32) (Mv_14 : Int32) (Mf_1 : Nat → Int32) (Mf_3 : Nat → Int32) (Mf_6 : Nat → Int32) (Mj_0 : Int64) (h_nx : 0 ≤ (Mv_2 : Int32).toInt ∧ (Mv_2 : Int32).toInt ≤ (Mv_0 : Int32).toInt ∧ (Mv_0 : Int32).toInt ≤ 400) (h_ro : RdO Mf_6) : Ct l yX12_clauseHere cX12_clauseHere 3 (some .boolean) { frames := 5, cells := 0, slots := 0, locals := 115 } D tc sk [.ref Ma_0] [(Ma_0, .inr (12, [.ref Ma_1, .int Mv_0, .int Mv_1, .ref Ma_2, .ref Ma_3, .ref Ma_4, .ref Ma_5, .ref Ma_6, .int Mv_2, .int Mv_3, .int Mv_4, .int 6, .int Mv_6, .int Mv_7, .int Mv_8, .ref Ma_7, .int Mv_9, .ref Ma_8, .int Mv_10, .ref Ma_9, .ref Ma_10, .int Mv_11, .int Mv_12, .int Mv_13, .ref Ma_11, .int Mv_14, .ref Ma_12, .ref Ma_13, .ref Ma_14, .ref Ma_15, .ref Ma_16, .long Mj_0, .ref Ma_17, .ref Ma_18, .ref Ma_19, .ref Ma_20])), (Ma_1, .inl (tc 2, 400, .inl Mf_1)), (Ma_3, .inl (tc 0, 7, .inl Mf_3)), (Ma_6, .inl (tc 0, 95, .inl Mf_6))] (fun (v : Option Value) (u : (Int32) × (Int32) × (Int32) × (Int32) × (Nat → Int32)) => match u with | (oo0x1, oo0x2, oo0x3, oo0x4, oo0x5) => ∃ r : Int32, v = some (.int r) ∧ (((r.toInt = 0 ∧ ¬ (oo0x2 : Int32).toInt = 0) ∨ r.toInt = 1)) ∧ ((Mv_2 : Int32).toInt ≤ (oo0x1 : Int32).toInt ∧ (oo0x1 : Int32).toInt ≤ (Mv_0 : Int32).toInt) ∧ (r.toInt = 1 → (RdO oo0x5))) (fun (u : (Int32) × (Int32) × (Int32) × (Int32) × (Nat → Int32)) => match u with | (oo0x1, oo0x2, oo0x3, oo0x4, oo0x5) => [(Ma_0, .inr (12, [.ref Ma_1, .int Mv_0, .int Mv_1, .ref Ma_2, .ref Ma_3, .ref Ma_4, .ref Ma_5, .ref Ma_6, .int oo0x1, .int oo0x2, .int oo0x3, .int 6, .int Mv_6, .int Mv_7, .int oo0x4, .ref Ma_7, .int Mv_9, .ref Ma_8, .int Mv_10, .ref Ma_9, .ref Ma_10, .int Mv_11, .int Mv_12, .int Mv_13, .ref Ma_11, .int Mv_14, .ref Ma_12, .ref Ma_13, .ref Ma_14, .ref Ma_15, .ref Ma_16, .long Mj_0, .ref Ma_17, .ref Ma_18, .ref Ma_19, .ref Ma_20])), (Ma_1, .inl (tc 2, 400, .inl Mf_1)), (Ma_3, .inl (tc 0, 7, .inl Mf_3)), (Ma_6, .inl (tc 0, 95, .inl oo0x5))]) 0 0 :=
  ct_X12_clauseHere_b l D tc sk (fun k => ([Ma_0, Ma_1, Ma_2, Ma_3, Ma_4, Ma_5, Ma_6, Ma_7, Ma_8, Ma_9, Ma_10, Ma_11, Ma_12, Ma_13, Ma_14, Ma_15, Ma_16, Ma_17, Ma_18, Ma_19, Ma_20] : List (Nat)).getD k 0) (fun k => ([Mv_0, Mv_1, Mv_2, Mv_3, Mv_4, 0, Mv_6, Mv_7, Mv_8, Mv_9, Mv_10, Mv_11, Mv_12, Mv_13, Mv_14] : List (Int32)).getD k 0) (fun k => ([(fun _ => 0), Mf_1, (fun _ => 0), Mf_3, (fun _ => 0), (fun _ => 0), Mf_6] : List (Nat → Int32)).getD k (fun _ => 0)) (fun k => ([Mj_0] : List (Int64)).getD k 0) h_nx h_ro
set_option maxHeartbeats 4000000 in
set_option maxRecDepth 100000 in
theorem ct_X12_readsAll_b (l : Launch) (D : va_G) (tc : Nat → ClassId) (sk : (Nat → Nat) × (Nat → Nat)) (Ma : Nat → Nat) (Mv : Nat → Int32) (Mf : Nat → Nat → Int32) (Mj : Nat → Int64) (h_tp : 0 ≤ ((Mv 0) : Int32).toInt ∧ ((Mv 0) : Int32).toInt ≤ 400) (h_ro : RdO (Mf 6)) : Ct l yX12_readsAll cX12_readsAll 2 (some .boolean) { frames := 6, cells := 0, slots := 0, locals := 137 } D tc sk [.ref (Ma 0)] [((Ma 0), .inr (12, [.ref (Ma 1), .int (Mv 0), .int (Mv 1), .ref (Ma 2), .ref (Ma 3), .ref (Ma 4), .ref (Ma 5), .ref (Ma 6), .int (Mv 2), .int (Mv 3), .int (Mv 4), .int 6, .int (Mv 6), .int (Mv 7), .int (Mv 8), .ref (Ma 7), .int (Mv 9), .ref (Ma 8), .int (Mv 10), .ref (Ma 9), .ref (Ma 10), .int (Mv 11), .int (Mv 12), .int (Mv 13), .ref (Ma 11), .int (Mv 14), .ref (Ma 12), .ref (Ma 13), .ref (Ma 14), .ref (Ma 15), .ref (Ma 16), .long (Mj 0), .ref (Ma 17), .ref (Ma 18), .ref (Ma 19), .ref (Ma 20)])), ((Ma 1), .inl (tc 2, 400, .inl (Mf 1))), ((Ma 3), .inl (tc 0, 7, .inl (Mf 3))), ((Ma 6), .inl (tc 0, 95, .inl (Mf 6)))] (fun (v : Option Value) (u : (Int32) × (Int32) × (Int32) × (Int32) × (Nat → Int32) × (Nat → Int32)) => match u with | (oo0x1, oo0x2, oo0x3, oo0x4, oo0x5, oo0x6) => ∃ r : Int32, v = some (.int r) ∧ ((r.toInt = 0 ∨ r.toInt = 1)) ∧ (r.toInt = 1 → (RdO oo0x6))) (fun (u : (Int32) × (Int32) × (Int32) × (Int32) × (Nat → Int32) × (Nat → Int32)) => match u with | (oo0x1, oo0x2, oo0x3, oo0x4, oo0x5, oo0x6) => [((Ma 0), .inr (12, [.ref (Ma 1), .int 0, .int (Mv 1), .ref (Ma 2), .ref (Ma 3), .ref (Ma 4), .ref (Ma 5), .ref (Ma 6), .int oo0x1, .int oo0x2, .int oo0x3, .int 6, .int 0, .int (Mv 7), .int oo0x4, .ref (Ma 7), .int (Mv 9), .ref (Ma 8), .int (Mv 10), .ref (Ma 9), .ref (Ma 10), .int (Mv 11), .int (Mv 12), .int (Mv 13), .ref (Ma 11), .int (Mv 14), .ref (Ma 12), .ref (Ma 13), .ref (Ma 14), .ref (Ma 15), .ref (Ma 16), .long (Mj 0), .ref (Ma 17), .ref (Ma 18), .ref (Ma 19), .ref (Ma 20)])), ((Ma 1), .inl (tc 2, 400, .inl (Mf 1))), ((Ma 3), .inl (tc 0, 7, .inl oo0x5)), ((Ma 6), .inl (tc 0, 95, .inl oo0x6))]) 0 0 := by
  refine Ct.start (by decide) (Nat.le_of_ble_eq_true rfl) (fun p e s m below meth c A ls hx hb hr hlk hin hml hown hts hK hX hP hD hA hl hS => ?_)
  have hl : lv_has ls 2 [(0, .ref (Ma 0))] := hl
  have ar_h_ro := RdO.ar h_ro
  refine lv_aload_n hx hb dX12_readsAll_0 rfl (lv_at hl 0 rfl) ?_
  refine gf_X12_17 hx hb hts hown hK hP 0 rfl rfl dX12_readsAll_1 ?_
  refine lv_aload_n hx hb dX12_readsAll_4 rfl (lv_at hl 0 rfl) ?_
  refine gf_X12_145 hx hb hts hown hK hP 0 rfl rfl dX12_readsAll_5 ?_
  refine lv_iconst (v := 0) hx hb dX12_readsAll_8 (by decide) ?_
  refine st_int hx hb hK hP hD hS 2 0 rfl rfl (vin_dec (by decide +kernel)) dX12_readsAll_9 (fun g_1 H locs eg_1 hP₀ hD₀ hS₀ => ?_)
  replace hP : va_P D classes [((Ma 0), .inr (12, [.ref (Ma 1), .int (Mv 0), .int (Mv 1), .ref (Ma 2), .ref (Ma 3), .ref (Ma 4), .ref (Ma 5), .ref (Ma 6), .int (Mv 2), .int (Mv 3), .int (Mv 4), .int 6, .int (Mv 6), .int (Mv 7), .int (Mv 8), .ref (Ma 7), .int (Mv 9), .ref (Ma 8), .int (Mv 10), .ref (Ma 9), .ref (Ma 10), .int (Mv 11), .int (Mv 12), .int (Mv 13), .ref (Ma 11), .int (Mv 14), .ref (Ma 12), .ref (Ma 13), .ref (Ma 14), .ref (Ma 15), .ref (Ma 16), .long (Mj 0), .ref (Ma 17), .ref (Ma 18), .ref (Ma 19), .ref (Ma 20)])), ((Ma 1), .inl (tc 2, 400, .inl (Mf 1))), ((Ma 3), .inl (tc 0, 7, .inl g_1)), ((Ma 6), .inl (tc 0, 95, .inl (Mf 6)))] H := hP₀
  replace hD : va_D A [((Ma 0), .inr (12, [.ref (Ma 1), .int (Mv 0), .int (Mv 1), .ref (Ma 2), .ref (Ma 3), .ref (Ma 4), .ref (Ma 5), .ref (Ma 6), .int (Mv 2), .int (Mv 3), .int (Mv 4), .int 6, .int (Mv 6), .int (Mv 7), .int (Mv 8), .ref (Ma 7), .int (Mv 9), .ref (Ma 8), .int (Mv 10), .ref (Ma 9), .ref (Ma 10), .int (Mv 11), .int (Mv 12), .int (Mv 13), .ref (Ma 11), .int (Mv 14), .ref (Ma 12), .ref (Ma 13), .ref (Ma 14), .ref (Ma 15), .ref (Ma 16), .long (Mj 0), .ref (Ma 17), .ref (Ma 18), .ref (Ma 19), .ref (Ma 20)])), ((Ma 1), .inl (tc 2, 400, .inl (Mf 1))), ((Ma 3), .inl (tc 0, 7, .inl g_1)), ((Ma 6), .inl (tc 0, 95, .inl (Mf 6)))] := hD₀
  replace hS := hS₀
  clear hP₀ hD₀ hS₀
  refine lv_aload_n hx hb dX12_readsAll_10 rfl (lv_at hl 0 rfl) ?_
  refine lv_iconst (v := 0) hx hb dX12_readsAll_11 (by decide) ?_
  refine pf_X12_244 hx hb hts hown hK hP hD hS 0 rfl (Nat.le_of_ble_eq_true rfl) rfl rfl dX12_readsAll_12 (fun H locs hP₀ hD₀ hS₀ => ?_)
  replace hP : va_P D classes [((Ma 0), .inr (12, [.ref (Ma 1), .int (Mv 0), .int (Mv 1), .ref (Ma 2), .ref (Ma 3), .ref (Ma 4), .ref (Ma 5), .ref (Ma 6), .int (Mv 2), .int (Mv 3), .int (Mv 4), .int 6, .int (Mv 6), .int (Mv 7), .int 0, .ref (Ma 7), .int (Mv 9), .ref (Ma 8), .int (Mv 10), .ref (Ma 9), .ref (Ma 10), .int (Mv 11), .int (Mv 12), .int (Mv 13), .ref (Ma 11), .int (Mv 14), .ref (Ma 12), .ref (Ma 13), .ref (Ma 14), .ref (Ma 15), .ref (Ma 16), .long (Mj 0), .ref (Ma 17), .ref (Ma 18), .ref (Ma 19), .ref (Ma 20)])), ((Ma 1), .inl (tc 2, 400, .inl (Mf 1))), ((Ma 3), .inl (tc 0, 7, .inl g_1)), ((Ma 6), .inl (tc 0, 95, .inl (Mf 6)))] H := hP₀
  replace hD : va_D A [((Ma 0), .inr (12, [.ref (Ma 1), .int (Mv 0), .int (Mv 1), .ref (Ma 2), .ref (Ma 3), .ref (Ma 4), .ref (Ma 5), .ref (Ma 6), .int (Mv 2), .int (Mv 3), .int (Mv 4), .int 6, .int (Mv 6), .int (Mv 7), .int 0, .ref (Ma 7), .int (Mv 9), .ref (Ma 8), .int (Mv 10), .ref (Ma 9), .ref (Ma 10), .int (Mv 11), .int (Mv 12), .int (Mv 13), .ref (Ma 11), .int (Mv 14), .ref (Ma 12), .ref (Ma 13), .ref (Ma 14), .ref (Ma 15), .ref (Ma 16), .long (Mj 0), .ref (Ma 17), .ref (Ma 18), .ref (Ma 19), .ref (Ma 20)])), ((Ma 1), .inl (tc 2, 400, .inl (Mf 1))), ((Ma 3), .inl (tc 0, 7, .inl g_1)), ((Ma 6), .inl (tc 0, 95, .inl (Mf 6)))] := hD₀
  replace hS := hS₀
  clear hP₀ hD₀ hS₀
  refine lv_aload_n hx hb dX12_readsAll_15 rfl (lv_at hl 0 rfl) ?_
  refine lv_iconst (v := 0) hx hb dX12_readsAll_16 (by decide) ?_
  refine pf_X12_87 hx hb hts hown hK hP hD hS 0 rfl (Nat.le_of_ble_eq_true rfl) rfl rfl dX12_readsAll_17 (fun H locs hP₀ hD₀ hS₀ => ?_)
  replace hP : va_P D classes [((Ma 0), .inr (12, [.ref (Ma 1), .int (Mv 0), .int (Mv 1), .ref (Ma 2), .ref (Ma 3), .ref (Ma 4), .ref (Ma 5), .ref (Ma 6), .int 0, .int (Mv 3), .int (Mv 4), .int 6, .int (Mv 6), .int (Mv 7), .int 0, .ref (Ma 7), .int (Mv 9), .ref (Ma 8), .int (Mv 10), .ref (Ma 9), .ref (Ma 10), .int (Mv 11), .int (Mv 12), .int (Mv 13), .ref (Ma 11), .int (Mv 14), .ref (Ma 12), .ref (Ma 13), .ref (Ma 14), .ref (Ma 15), .ref (Ma 16), .long (Mj 0), .ref (Ma 17), .ref (Ma 18), .ref (Ma 19), .ref (Ma 20)])), ((Ma 1), .inl (tc 2, 400, .inl (Mf 1))), ((Ma 3), .inl (tc 0, 7, .inl g_1)), ((Ma 6), .inl (tc 0, 95, .inl (Mf 6)))] H := hP₀
  replace hD : va_D A [((Ma 0), .inr (12, [.ref (Ma 1), .int (Mv 0), .int (Mv 1), .ref (Ma 2), .ref (Ma 3), .ref (Ma 4), .ref (Ma 5), .ref (Ma 6), .int 0, .int (Mv 3), .int (Mv 4), .int 6, .int (Mv 6), .int (Mv 7), .int 0, .ref (Ma 7), .int (Mv 9), .ref (Ma 8), .int (Mv 10), .ref (Ma 9), .ref (Ma 10), .int (Mv 11), .int (Mv 12), .int (Mv 13), .ref (Ma 11), .int (Mv 14), .ref (Ma 12), .ref (Ma 13), .ref (Ma 14), .ref (Ma 15), .ref (Ma 16), .long (Mj 0), .ref (Ma 17), .ref (Ma 18), .ref (Ma 19), .ref (Ma 20)])), ((Ma 1), .inl (tc 2, 400, .inl (Mf 1))), ((Ma 3), .inl (tc 0, 7, .inl g_1)), ((Ma 6), .inl (tc 0, 95, .inl (Mf 6)))] := hD₀
  replace hS := hS₀
  clear hP₀ hD₀ hS₀
  refine lv_aload_n hx hb dX12_readsAll_20 rfl (lv_at hl 0 rfl) ?_
  refine lv_iconst (v := 0) hx hb dX12_readsAll_21 (by decide) ?_
  refine pf_X12_84 hx hb hts hown hK hP hD hS 0 rfl (Nat.le_of_ble_eq_true rfl) rfl rfl dX12_readsAll_22 (fun H locs hP₀ hD₀ hS₀ => ?_)
  replace hP : va_P D classes [((Ma 0), .inr (12, [.ref (Ma 1), .int (Mv 0), .int (Mv 1), .ref (Ma 2), .ref (Ma 3), .ref (Ma 4), .ref (Ma 5), .ref (Ma 6), .int 0, .int 0, .int (Mv 4), .int 6, .int (Mv 6), .int (Mv 7), .int 0, .ref (Ma 7), .int (Mv 9), .ref (Ma 8), .int (Mv 10), .ref (Ma 9), .ref (Ma 10), .int (Mv 11), .int (Mv 12), .int (Mv 13), .ref (Ma 11), .int (Mv 14), .ref (Ma 12), .ref (Ma 13), .ref (Ma 14), .ref (Ma 15), .ref (Ma 16), .long (Mj 0), .ref (Ma 17), .ref (Ma 18), .ref (Ma 19), .ref (Ma 20)])), ((Ma 1), .inl (tc 2, 400, .inl (Mf 1))), ((Ma 3), .inl (tc 0, 7, .inl g_1)), ((Ma 6), .inl (tc 0, 95, .inl (Mf 6)))] H := hP₀
  replace hD : va_D A [((Ma 0), .inr (12, [.ref (Ma 1), .int (Mv 0), .int (Mv 1), .ref (Ma 2), .ref (Ma 3), .ref (Ma 4), .ref (Ma 5), .ref (Ma 6), .int 0, .int 0, .int (Mv 4), .int 6, .int (Mv 6), .int (Mv 7), .int 0, .ref (Ma 7), .int (Mv 9), .ref (Ma 8), .int (Mv 10), .ref (Ma 9), .ref (Ma 10), .int (Mv 11), .int (Mv 12), .int (Mv 13), .ref (Ma 11), .int (Mv 14), .ref (Ma 12), .ref (Ma 13), .ref (Ma 14), .ref (Ma 15), .ref (Ma 16), .long (Mj 0), .ref (Ma 17), .ref (Ma 18), .ref (Ma 19), .ref (Ma 20)])), ((Ma 1), .inl (tc 2, 400, .inl (Mf 1))), ((Ma 3), .inl (tc 0, 7, .inl g_1)), ((Ma 6), .inl (tc 0, 95, .inl (Mf 6)))] := hD₀
  replace hS := hS₀
  clear hP₀ hD₀ hS₀
  refine lv_aload_n hx hb dX12_readsAll_25 rfl (lv_at hl 0 rfl) ?_
  refine lv_iconst (v := 0) hx hb dX12_readsAll_26 (by decide) ?_
  refine pf_X12_148 hx hb hts hown hK hP hD hS 0 rfl (Nat.le_of_ble_eq_true rfl) rfl rfl dX12_readsAll_27 (fun H locs hP₀ hD₀ hS₀ => ?_)
  replace hP : va_P D classes [((Ma 0), .inr (12, [.ref (Ma 1), .int (Mv 0), .int (Mv 1), .ref (Ma 2), .ref (Ma 3), .ref (Ma 4), .ref (Ma 5), .ref (Ma 6), .int 0, .int 0, .int (Mv 4), .int 6, .int 0, .int (Mv 7), .int 0, .ref (Ma 7), .int (Mv 9), .ref (Ma 8), .int (Mv 10), .ref (Ma 9), .ref (Ma 10), .int (Mv 11), .int (Mv 12), .int (Mv 13), .ref (Ma 11), .int (Mv 14), .ref (Ma 12), .ref (Ma 13), .ref (Ma 14), .ref (Ma 15), .ref (Ma 16), .long (Mj 0), .ref (Ma 17), .ref (Ma 18), .ref (Ma 19), .ref (Ma 20)])), ((Ma 1), .inl (tc 2, 400, .inl (Mf 1))), ((Ma 3), .inl (tc 0, 7, .inl g_1)), ((Ma 6), .inl (tc 0, 95, .inl (Mf 6)))] H := hP₀
  replace hD : va_D A [((Ma 0), .inr (12, [.ref (Ma 1), .int (Mv 0), .int (Mv 1), .ref (Ma 2), .ref (Ma 3), .ref (Ma 4), .ref (Ma 5), .ref (Ma 6), .int 0, .int 0, .int (Mv 4), .int 6, .int 0, .int (Mv 7), .int 0, .ref (Ma 7), .int (Mv 9), .ref (Ma 8), .int (Mv 10), .ref (Ma 9), .ref (Ma 10), .int (Mv 11), .int (Mv 12), .int (Mv 13), .ref (Ma 11), .int (Mv 14), .ref (Ma 12), .ref (Ma 13), .ref (Ma 14), .ref (Ma 15), .ref (Ma 16), .long (Mj 0), .ref (Ma 17), .ref (Ma 18), .ref (Ma 19), .ref (Ma 20)])), ((Ma 1), .inl (tc 2, 400, .inl (Mf 1))), ((Ma 3), .inl (tc 0, 7, .inl g_1)), ((Ma 6), .inl (tc 0, 95, .inl (Mf 6)))] := hD₀
  replace hS := hS₀
  clear hP₀ hD₀ hS₀
  refine lv_aload_n hx hb dX12_readsAll_30 rfl (lv_at hl 0 rfl) ?_
  have ha_2 : 0 ≤ ((0 : Int32) : Int32).toInt ∧ ((0 : Int32) : Int32).toInt ≤ ((Mv 0) : Int32).toInt ∧ ((Mv 0) : Int32).toInt ≤ 400 := by
    have y_0 : (0 : Int32).toInt = 0 := by decide
    omega
  refine cV (a := (Ma 0)) (As := []) (rest := []) (wr := []) ⟨hx, hb, hml, hown, hts⟩ hK hX hA (cu_X12_clauseHere_b l D tc sk (Ma 0) (Ma 1) (Ma 2) (Ma 3) (Ma 4) (Ma 5) (Ma 6) (Ma 7) (Ma 8) (Ma 9) (Ma 10) (Ma 11) (Ma 12) (Ma 13) (Ma 14) (Ma 15) (Ma 16) (Ma 17) (Ma 18) (Ma 19) (Ma 20) (Mv 0) (Mv 1) 0 0 (Mv 4) 0 (Mv 7) 0 (Mv 9) (Mv 10) (Mv 11) (Mv 12) (Mv 13) (Mv 14) (Mf 1) g_1 (Mf 6) (Mj 0) ha_2 h_ro) k_1207 k_1204 k_1206 k_26 k_106 pl_X12_clauseHere ⟨Nat.le_of_ble_eq_true rfl, Nat.le_of_ble_eq_true rfl⟩ rfl rfl (va_recv hK hP (ci := 12) (q0 := 0) rfl rfl) hP hD hS [0, 1, 2, 3] [] rfl rfl rfl rfl rfl (by decide) rfl hl.1 rfl (Nat.le_of_ble_eq_true rfl) dX12_readsAll_31 ⟨Nat.le_of_ble_eq_true rfl, Nat.le_of_ble_eq_true rfl⟩ (fun v_3 u_4 H locs hv_5 hP₀ hD₀ hS₀ => ?_)
  obtain ⟨sv_6, sv_7, sv_8, sv_9, sv_10⟩ := u_4
  obtain ⟨r_12, rfl, he_13, pf_11, hm_15⟩ := hv_5
  have he_13 : ((r_12.toInt = 0 ∧ ¬ (sv_7 : Int32).toInt = 0) ∨ r_12.toInt = 1) := he_13
  have pf_11 : ((0 : Int32) : Int32).toInt ≤ (sv_6 : Int32).toInt ∧ (sv_6 : Int32).toInt ≤ ((Mv 0) : Int32).toInt := pf_11
  refine W.eq (g2 := F0 m 34 ls [.int r_12]) rfl ?_
  replace hP : va_P D classes [((Ma 0), .inr (12, [.ref (Ma 1), .int (Mv 0), .int (Mv 1), .ref (Ma 2), .ref (Ma 3), .ref (Ma 4), .ref (Ma 5), .ref (Ma 6), .int sv_6, .int sv_7, .int sv_8, .int 6, .int 0, .int (Mv 7), .int sv_9, .ref (Ma 7), .int (Mv 9), .ref (Ma 8), .int (Mv 10), .ref (Ma 9), .ref (Ma 10), .int (Mv 11), .int (Mv 12), .int (Mv 13), .ref (Ma 11), .int (Mv 14), .ref (Ma 12), .ref (Ma 13), .ref (Ma 14), .ref (Ma 15), .ref (Ma 16), .long (Mj 0), .ref (Ma 17), .ref (Ma 18), .ref (Ma 19), .ref (Ma 20)])), ((Ma 1), .inl (tc 2, 400, .inl (Mf 1))), ((Ma 3), .inl (tc 0, 7, .inl g_1)), ((Ma 6), .inl (tc 0, 95, .inl sv_10))] H := hP₀
  replace hD : va_D A [((Ma 0), .inr (12, [.ref (Ma 1), .int (Mv 0), .int (Mv 1), .ref (Ma 2), .ref (Ma 3), .ref (Ma 4), .ref (Ma 5), .ref (Ma 6), .int sv_6, .int sv_7, .int sv_8, .int 6, .int 0, .int (Mv 7), .int sv_9, .ref (Ma 7), .int (Mv 9), .ref (Ma 8), .int (Mv 10), .ref (Ma 9), .ref (Ma 10), .int (Mv 11), .int (Mv 12), .int (Mv 13), .ref (Ma 11), .int (Mv 14), .ref (Ma 12), .ref (Ma 13), .ref (Ma 14), .ref (Ma 15), .ref (Ma 16), .long (Mj 0), .ref (Ma 17), .ref (Ma 18), .ref (Ma 19), .ref (Ma 20)])), ((Ma 1), .inl (tc 2, 400, .inl (Mf 1))), ((Ma 3), .inl (tc 0, 7, .inl g_1)), ((Ma 6), .inl (tc 0, 95, .inl sv_10))] := hD₀
  replace hS := hS₀
  clear hP₀ hD₀ hS₀
  refine lv_istore_n (lv' := [(1, .int r_12), (0, .ref (Ma 0))]) hx hb dX12_readsAll_34 rfl hl (by decide) rfl (fun ls hl₀ => ?_)
  replace hl := hl₀
  clear hl₀
  have loop_30 : ∀ (n_28 : Nat) (vy_22 : Int32) (vy_23 : Int32) (vy_24 : Int32) (vy_25 : Int32) (vy_26 : Int32) (vy_27 : Nat → Int32) (H : Heap) (locs : List Loc) (ls : Array Slot), (2 * (401 - (vy_23 : Int32).toInt) + (vy_22 : Int32).toInt).toNat < n_28 → (0 ≤ (vy_23 : Int32).toInt ∧ (vy_23 : Int32).toInt ≤ ((Mv 0) : Int32).toInt ∧ ((Mv 0) : Int32).toInt ≤ 400) → ((((vy_22 : Int32).toInt = 0 ∧ ¬ (vy_24 : Int32).toInt = 0) ∨ (vy_22 : Int32).toInt = 1)) → (RdG vy_27 vy_22) → va_P D classes [((Ma 0), .inr (12, [.ref (Ma 1), .int (Mv 0), .int (Mv 1), .ref (Ma 2), .ref (Ma 3), .ref (Ma 4), .ref (Ma 5), .ref (Ma 6), .int vy_23, .int vy_24, .int vy_25, .int 6, .int 0, .int (Mv 7), .int vy_26, .ref (Ma 7), .int (Mv 9), .ref (Ma 8), .int (Mv 10), .ref (Ma 9), .ref (Ma 10), .int (Mv 11), .int (Mv 12), .int (Mv 13), .ref (Ma 11), .int (Mv 14), .ref (Ma 12), .ref (Ma 13), .ref (Ma 14), .ref (Ma 15), .ref (Ma 16), .long (Mj 0), .ref (Ma 17), .ref (Ma 18), .ref (Ma 19), .ref (Ma 20)])), ((Ma 1), .inl (tc 2, 400, .inl (Mf 1))), ((Ma 3), .inl (tc 0, 7, .inl g_1)), ((Ma 6), .inl (tc 0, 95, .inl vy_27))] H → va_D A [((Ma 0), .inr (12, [.ref (Ma 1), .int (Mv 0), .int (Mv 1), .ref (Ma 2), .ref (Ma 3), .ref (Ma 4), .ref (Ma 5), .ref (Ma 6), .int vy_23, .int vy_24, .int vy_25, .int 6, .int 0, .int (Mv 7), .int vy_26, .ref (Ma 7), .int (Mv 9), .ref (Ma 8), .int (Mv 10), .ref (Ma 9), .ref (Ma 10), .int (Mv 11), .int (Mv 12), .int (Mv 13), .ref (Ma 11), .int (Mv 14), .ref (Ma 12), .ref (Ma 13), .ref (Ma 14), .ref (Ma 15), .ref (Ma 16), .long (Mj 0), .ref (Ma 17), .ref (Ma 18), .ref (Ma 19), .ref (Ma 20)])), ((Ma 1), .inl (tc 2, 400, .inl (Mf 1))), ((Ma 3), .inl (tc 0, 7, .inl g_1)), ((Ma 6), .inl (tc 0, 95, .inl vy_27))] → va_S A s.heap H locs → lv_has ls 2 [(1, .int vy_22), (0, .ref (Ma 0))] → W p l e ({ frames := 6, cells := 0, slots := 0, locals := 137 }) s m ([.ref (Ma 0)].toArray) below meth c H locs 0 0 (MQ below (QW (fun (v : Option Value) (u : (Int32) × (Int32) × (Int32) × (Int32) × (Nat → Int32) × (Nat → Int32)) => match u with | (oo0x1, oo0x2, oo0x3, oo0x4, oo0x5, oo0x6) => ∃ r : Int32, v = some (.int r) ∧ ((r.toInt = 0 ∨ r.toInt = 1)) ∧ (r.toInt = 1 → (RdO oo0x6))) (BW D (fun (u : (Int32) × (Int32) × (Int32) × (Int32) × (Nat → Int32) × (Nat → Int32)) => match u with | (oo0x1, oo0x2, oo0x3, oo0x4, oo0x5, oo0x6) => [((Ma 0), .inr (12, [.ref (Ma 1), .int 0, .int (Mv 1), .ref (Ma 2), .ref (Ma 3), .ref (Ma 4), .ref (Ma 5), .ref (Ma 6), .int oo0x1, .int oo0x2, .int oo0x3, .int 6, .int 0, .int (Mv 7), .int oo0x4, .ref (Ma 7), .int (Mv 9), .ref (Ma 8), .int (Mv 10), .ref (Ma 9), .ref (Ma 10), .int (Mv 11), .int (Mv 12), .int (Mv 13), .ref (Ma 11), .int (Mv 14), .ref (Ma 12), .ref (Ma 13), .ref (Ma 14), .ref (Ma 15), .ref (Ma 16), .long (Mj 0), .ref (Ma 17), .ref (Ma 18), .ref (Ma 19), .ref (Ma 20)])), ((Ma 1), .inl (tc 2, 400, .inl (Mf 1))), ((Ma 3), .inl (tc 0, 7, .inl oo0x5)), ((Ma 6), .inl (tc 0, 95, .inl oo0x6))]) A) A) ([.ref (Ma 0)].toArray) s 0 0 A) (F0 m 35 ls []) := by
    clear hP hD hS hl
    intro n_28
    induction n_28 with
    | zero =>
      intro vy_22 vy_23 vy_24 vy_25 vy_26 vy_27 H locs ls h1
      exact absurd h1 (Nat.not_lt_zero _)
    | succ n_28 ih_29 =>
      intro vy_22 vy_23 vy_24 vy_25 vy_26 vy_27 H locs ls hn_34 pf_31 pf_32 pf_33 hP hD hS hl
      refine lv_iload_n hx hb dX12_readsAll_35 rfl (lv_at hl 0 rfl) ?_
      refine lv_if_eq (tgt := 66) hx hb dX12_readsAll_36 (by decide) (fun c_35 => ?_) (fun c_35 => ?_)
      · skip
        refine lv_iload_n hx hb dX12_readsAll_66 rfl (lv_at hl 0 rfl) ?_
        refine lv_if_eq (tgt := 88) hx hb dX12_readsAll_67 (by decide) (fun c_36 => ?_) (fun c_36 => ?_)
        · skip
          refine lv_aload_n hx hb dX12_readsAll_88 rfl (lv_at hl 1 rfl) ?_
          refine lv_iconst (v := 0) hx hb dX12_readsAll_89 (by decide) ?_
          refine pf_X12_77 hx hb hts hown hK hP hD hS 0 rfl (Nat.le_of_ble_eq_true rfl) rfl rfl dX12_readsAll_90 (fun H locs hP₀ hD₀ hS₀ => ?_)
          replace hP : va_P D classes [((Ma 0), .inr (12, [.ref (Ma 1), .int 0, .int (Mv 1), .ref (Ma 2), .ref (Ma 3), .ref (Ma 4), .ref (Ma 5), .ref (Ma 6), .int vy_23, .int vy_24, .int vy_25, .int 6, .int 0, .int (Mv 7), .int vy_26, .ref (Ma 7), .int (Mv 9), .ref (Ma 8), .int (Mv 10), .ref (Ma 9), .ref (Ma 10), .int (Mv 11), .int (Mv 12), .int (Mv 13), .ref (Ma 11), .int (Mv 14), .ref (Ma 12), .ref (Ma 13), .ref (Ma 14), .ref (Ma 15), .ref (Ma 16), .long (Mj 0), .ref (Ma 17), .ref (Ma 18), .ref (Ma 19), .ref (Ma 20)])), ((Ma 1), .inl (tc 2, 400, .inl (Mf 1))), ((Ma 3), .inl (tc 0, 7, .inl g_1)), ((Ma 6), .inl (tc 0, 95, .inl vy_27))] H := hP₀
          replace hD : va_D A [((Ma 0), .inr (12, [.ref (Ma 1), .int 0, .int (Mv 1), .ref (Ma 2), .ref (Ma 3), .ref (Ma 4), .ref (Ma 5), .ref (Ma 6), .int vy_23, .int vy_24, .int vy_25, .int 6, .int 0, .int (Mv 7), .int vy_26, .ref (Ma 7), .int (Mv 9), .ref (Ma 8), .int (Mv 10), .ref (Ma 9), .ref (Ma 10), .int (Mv 11), .int (Mv 12), .int (Mv 13), .ref (Ma 11), .int (Mv 14), .ref (Ma 12), .ref (Ma 13), .ref (Ma 14), .ref (Ma 15), .ref (Ma 16), .long (Mj 0), .ref (Ma 17), .ref (Ma 18), .ref (Ma 19), .ref (Ma 20)])), ((Ma 1), .inl (tc 2, 400, .inl (Mf 1))), ((Ma 3), .inl (tc 0, 7, .inl g_1)), ((Ma 6), .inl (tc 0, 95, .inl vy_27))] := hD₀
          replace hS := hS₀
          clear hP₀ hD₀ hS₀
          refine lv_aload_n hx hb dX12_readsAll_93 rfl (lv_at hl 1 rfl) ?_
          refine gf_X12_84 hx hb hts hown hK hP 0 rfl rfl dX12_readsAll_94 ?_
          refine lv_if_ne (tgt := 104) hx hb dX12_readsAll_97 (by decide) (fun c_37 => ?_) (fun c_37 => ?_)
          · skip
            refine lv_iconst (v := 0) hx hb dX12_readsAll_104 (by decide) ?_
            have hp_38 : ((0 : Int32).toInt = 0 ∨ (0 : Int32).toInt = 1) := by
              have z_1 := congrArg Int32.toInt c_35
              have z_2 := congrArg Int32.toInt c_36
              have z_3 : ¬ (vy_24 : Int32).toInt = (0 : Int32).toInt := fun z => c_37 (Int32.toInt_inj.mp z)
              have y_0 : (0 : Int32).toInt = 0 := by decide
              omega
            exact retI (v := 0) hx hb hr hlk (rfl) hP hD hS (vy_23, vy_24, vy_25, vy_26, g_1, vy_27) ⟨_, rfl, hp_38, (fun h => absurd h (by decide))⟩ [0, 1, 2, 3] rfl rfl dX12_readsAll_105 (Nat.le_of_ble_eq_true rfl) (Nat.le_of_ble_eq_true rfl) rfl
          · skip
            refine lv_iconst (v := 1) hx hb dX12_readsAll_100 (by decide) ?_
            refine lv_goto (tgt := 105) hx hb dX12_readsAll_101 (by decide) ?_
            have hp_39 : ((1 : Int32).toInt = 0 ∨ (1 : Int32).toInt = 1) := by
              have z_1 := congrArg Int32.toInt c_35
              have z_2 := congrArg Int32.toInt c_36
              have z_3 := congrArg Int32.toInt c_37
              have y_0 : (0 : Int32).toInt = 0 := by decide
              have y_1 : (1 : Int32).toInt = 1 := by decide
              have yr : (1 : Int32).toInt = 1 := by decide
              omega
            have hm_40 : (1 : Int32).toInt = 1 → (RdO vy_27) := by
              intro h1r
              have hf_41 : False := by
                have z_1 := congrArg Int32.toInt c_35
                have z_2 := congrArg Int32.toInt c_36
                have z_3 := congrArg Int32.toInt c_37
                have y_0 : (0 : Int32).toInt = 0 := by decide
                omega
              exact (hf_41.elim)
            exact retI (v := 1) hx hb hr hlk (rfl) hP hD hS (vy_23, vy_24, vy_25, vy_26, g_1, vy_27) ⟨_, rfl, hp_39, hm_40⟩ [0, 1, 2, 3] rfl rfl dX12_readsAll_105 (Nat.le_of_ble_eq_true rfl) (Nat.le_of_ble_eq_true rfl) rfl
        · skip
          exfalso
          have z_1 := congrArg Int32.toInt c_35
          have z_2 : ¬ (vy_22 : Int32).toInt = (0 : Int32).toInt := fun z => c_36 (Int32.toInt_inj.mp z)
          have y_0 : (0 : Int32).toInt = 0 := by decide
          omega
      · skip
        have hr_43 : (vy_22 : Int32).toInt = 1 := by
          have z_1 : ¬ (vy_22 : Int32).toInt = (0 : Int32).toInt := fun z => c_35 (Int32.toInt_inj.mp z)
          have y_0 : (0 : Int32).toInt = 0 := by decide
          omega
        have pf_42 : RdO vy_27 := pf_33 hr_43
        have ar_pf_42 := RdO.ar pf_42
        refine lv_aload_n hx hb dX12_readsAll_39 rfl (lv_at hl 1 rfl) ?_
        refine cV (a := (Ma 0)) (As := []) (rest := []) (wr := [((Ma 3), .inl (tc 0, 7, .inl g_1)), ((Ma 6), .inl (tc 0, 95, .inl vy_27))]) ⟨hx, hb, hml, hown, hts⟩ hK hX hA (cu_X12_see l D tc sk (Ma 0) (Ma 1) (Ma 2) (Ma 3) (Ma 4) (Ma 5) (Ma 6) (Ma 7) (Ma 8) (Ma 9) (Ma 10) (Ma 11) (Ma 12) (Ma 13) (Ma 14) (Ma 15) (Ma 16) (Ma 17) (Ma 18) (Ma 19) (Ma 20) (Mv 0) (Mv 1) vy_23 vy_24 vy_25 6 0 (Mv 7) vy_26 (Mv 9) (Mv 10) (Mv 11) (Mv 12) (Mv 13) (Mv 14) (Mf 1) (Mj 0) pf_31) k_1211 k_1208 k_1210 k_27 k_106 pl_X12_see ⟨Nat.le_of_ble_eq_true rfl, Nat.le_of_ble_eq_true rfl⟩ rfl rfl (va_recv hK hP (ci := 12) (q0 := 0) rfl rfl) hP hD hS [0, 1] [2, 3] rfl rfl rfl rfl rfl (by decide) rfl hl.1 rfl (Nat.le_of_ble_eq_true rfl) dX12_readsAll_40 ⟨Nat.le_of_ble_eq_true rfl, Nat.le_of_ble_eq_true rfl⟩ (fun v_44 u_45 H locs hv_46 hP₀ hD₀ hS₀ => ?_)
        obtain ⟨sv_47, rfl⟩ : ∃ z, z = u_45 := ⟨_, rfl⟩
        obtain ⟨r_51, rfl, he_52, pf_48, pf_49, pf_50⟩ := hv_46
        have he_52 : (r_51.toInt = -1 ∨ (sv_47 : Int32).toInt < ((Mv 0) : Int32).toInt) := he_52
        have pf_48 : (vy_23 : Int32).toInt ≤ (sv_47 : Int32).toInt ∧ (sv_47 : Int32).toInt ≤ ((Mv 0) : Int32).toInt := pf_48
        have pf_49 : NSq (Mf 1) (Mv 0) sv_47 := pf_49
        have pf_50 : Stl (Mf 1) (Mv 0) vy_23 sv_47 := pf_50
        refine W.eq (g2 := F0 m 43 ls [.int r_51]) rfl ?_
        replace hP : va_P D classes [((Ma 3), .inl (tc 0, 7, .inl g_1)), ((Ma 6), .inl (tc 0, 95, .inl vy_27)), ((Ma 0), .inr (12, [.ref (Ma 1), .int (Mv 0), .int (Mv 1), .ref (Ma 2), .ref (Ma 3), .ref (Ma 4), .ref (Ma 5), .ref (Ma 6), .int sv_47, .int vy_24, .int vy_25, .int 6, .int 0, .int (Mv 7), .int vy_26, .ref (Ma 7), .int (Mv 9), .ref (Ma 8), .int (Mv 10), .ref (Ma 9), .ref (Ma 10), .int (Mv 11), .int (Mv 12), .int (Mv 13), .ref (Ma 11), .int (Mv 14), .ref (Ma 12), .ref (Ma 13), .ref (Ma 14), .ref (Ma 15), .ref (Ma 16), .long (Mj 0), .ref (Ma 17), .ref (Ma 18), .ref (Ma 19), .ref (Ma 20)])), ((Ma 1), .inl (tc 2, 400, .inl (Mf 1)))] H := hP₀
        replace hD : va_D A [((Ma 3), .inl (tc 0, 7, .inl g_1)), ((Ma 6), .inl (tc 0, 95, .inl vy_27)), ((Ma 0), .inr (12, [.ref (Ma 1), .int (Mv 0), .int (Mv 1), .ref (Ma 2), .ref (Ma 3), .ref (Ma 4), .ref (Ma 5), .ref (Ma 6), .int sv_47, .int vy_24, .int vy_25, .int 6, .int 0, .int (Mv 7), .int vy_26, .ref (Ma 7), .int (Mv 9), .ref (Ma 8), .int (Mv 10), .ref (Ma 9), .ref (Ma 10), .int (Mv 11), .int (Mv 12), .int (Mv 13), .ref (Ma 11), .int (Mv 14), .ref (Ma 12), .ref (Ma 13), .ref (Ma 14), .ref (Ma 15), .ref (Ma 16), .long (Mj 0), .ref (Ma 17), .ref (Ma 18), .ref (Ma 19), .ref (Ma 20)])), ((Ma 1), .inl (tc 2, 400, .inl (Mf 1)))] := hD₀
        replace hS := hS₀
        clear hP₀ hD₀ hS₀
        refine lv_bipush (v := 59) hx hb dX12_readsAll_43 (by decide) ?_
        refine lv_icmp_ne (tgt := 66) hx hb dX12_readsAll_45 (by decide) (fun c_54 => ?_) (fun c_54 => ?_)
        · skip
          refine lv_iload_n hx hb dX12_readsAll_66 rfl (lv_at hl 0 rfl) ?_
          refine lv_if_eq (tgt := 88) hx hb dX12_readsAll_67 (by decide) (fun c_55 => ?_) (fun c_55 => ?_)
          · skip
            exfalso
            have z_1 : ¬ (vy_22 : Int32).toInt = (0 : Int32).toInt := fun z => c_35 (Int32.toInt_inj.mp z)
            have z_2 : ¬ (r_51 : Int32).toInt = (59 : Int32).toInt := fun z => c_54 (Int32.toInt_inj.mp z)
            have z_3 := congrArg Int32.toInt c_55
            have y_0 : (0 : Int32).toInt = 0 := by decide
            have y_59 : (59 : Int32).toInt = 59 := by decide
            omega
          · skip
            refine lv_aload_n hx hb dX12_readsAll_70 rfl (lv_at hl 1 rfl) ?_
            have ha_56 : 0 ≤ (sv_47 : Int32).toInt ∧ (sv_47 : Int32).toInt ≤ ((Mv 0) : Int32).toInt ∧ ((Mv 0) : Int32).toInt ≤ 400 := by
              have z_1 : ¬ (vy_22 : Int32).toInt = (0 : Int32).toInt := fun z => c_35 (Int32.toInt_inj.mp z)
              have z_2 : ¬ (r_51 : Int32).toInt = (59 : Int32).toInt := fun z => c_54 (Int32.toInt_inj.mp z)
              have z_3 : ¬ (vy_22 : Int32).toInt = (0 : Int32).toInt := fun z => c_55 (Int32.toInt_inj.mp z)
              have y_0 : (0 : Int32).toInt = 0 := by decide
              have y_59 : (59 : Int32).toInt = 59 := by decide
              omega
            refine cV (a := (Ma 0)) (As := []) (rest := []) (wr := [((Ma 3), .inl (tc 0, 7, .inl g_1)), ((Ma 6), .inl (tc 0, 95, .inl vy_27))]) ⟨hx, hb, hml, hown, hts⟩ hK hX hA (cu_X12_see l D tc sk (Ma 0) (Ma 1) (Ma 2) (Ma 3) (Ma 4) (Ma 5) (Ma 6) (Ma 7) (Ma 8) (Ma 9) (Ma 10) (Ma 11) (Ma 12) (Ma 13) (Ma 14) (Ma 15) (Ma 16) (Ma 17) (Ma 18) (Ma 19) (Ma 20) (Mv 0) (Mv 1) sv_47 vy_24 vy_25 6 0 (Mv 7) vy_26 (Mv 9) (Mv 10) (Mv 11) (Mv 12) (Mv 13) (Mv 14) (Mf 1) (Mj 0) ha_56) k_1211 k_1208 k_1210 k_27 k_106 pl_X12_see ⟨Nat.le_of_ble_eq_true rfl, Nat.le_of_ble_eq_true rfl⟩ rfl rfl (va_recv hK hP (ci := 12) (q0 := 2) rfl rfl) hP hD hS [2, 3] [0, 1] rfl rfl rfl rfl rfl (by decide) rfl hl.1 rfl (Nat.le_of_ble_eq_true rfl) dX12_readsAll_71 ⟨Nat.le_of_ble_eq_true rfl, Nat.le_of_ble_eq_true rfl⟩ (fun v_57 u_58 H locs hv_59 hP₀ hD₀ hS₀ => ?_)
            obtain ⟨sv_60, rfl⟩ : ∃ z, z = u_58 := ⟨_, rfl⟩
            obtain ⟨r_64, rfl, he_65, pf_61, pf_62, pf_63⟩ := hv_59
            have he_65 : (r_64.toInt = -1 ∨ (sv_60 : Int32).toInt < ((Mv 0) : Int32).toInt) := he_65
            have pf_61 : (sv_47 : Int32).toInt ≤ (sv_60 : Int32).toInt ∧ (sv_60 : Int32).toInt ≤ ((Mv 0) : Int32).toInt := pf_61
            have pf_62 : NSq (Mf 1) (Mv 0) sv_60 := pf_62
            have pf_63 : Stl (Mf 1) (Mv 0) sv_47 sv_60 := pf_63
            have ar_pf_63 := Stl.or pf_63 pf_49
            refine W.eq (g2 := F0 m 74 ls [.int r_64]) rfl ?_
            replace hP : va_P D classes [((Ma 3), .inl (tc 0, 7, .inl g_1)), ((Ma 6), .inl (tc 0, 95, .inl vy_27)), ((Ma 0), .inr (12, [.ref (Ma 1), .int (Mv 0), .int (Mv 1), .ref (Ma 2), .ref (Ma 3), .ref (Ma 4), .ref (Ma 5), .ref (Ma 6), .int sv_60, .int vy_24, .int vy_25, .int 6, .int 0, .int (Mv 7), .int vy_26, .ref (Ma 7), .int (Mv 9), .ref (Ma 8), .int (Mv 10), .ref (Ma 9), .ref (Ma 10), .int (Mv 11), .int (Mv 12), .int (Mv 13), .ref (Ma 11), .int (Mv 14), .ref (Ma 12), .ref (Ma 13), .ref (Ma 14), .ref (Ma 15), .ref (Ma 16), .long (Mj 0), .ref (Ma 17), .ref (Ma 18), .ref (Ma 19), .ref (Ma 20)])), ((Ma 1), .inl (tc 2, 400, .inl (Mf 1)))] H := hP₀
            replace hD : va_D A [((Ma 3), .inl (tc 0, 7, .inl g_1)), ((Ma 6), .inl (tc 0, 95, .inl vy_27)), ((Ma 0), .inr (12, [.ref (Ma 1), .int (Mv 0), .int (Mv 1), .ref (Ma 2), .ref (Ma 3), .ref (Ma 4), .ref (Ma 5), .ref (Ma 6), .int sv_60, .int vy_24, .int vy_25, .int 6, .int 0, .int (Mv 7), .int vy_26, .ref (Ma 7), .int (Mv 9), .ref (Ma 8), .int (Mv 10), .ref (Ma 9), .ref (Ma 10), .int (Mv 11), .int (Mv 12), .int (Mv 13), .ref (Ma 11), .int (Mv 14), .ref (Ma 12), .ref (Ma 13), .ref (Ma 14), .ref (Ma 15), .ref (Ma 16), .long (Mj 0), .ref (Ma 17), .ref (Ma 18), .ref (Ma 19), .ref (Ma 20)])), ((Ma 1), .inl (tc 2, 400, .inl (Mf 1)))] := hD₀
            replace hS := hS₀
            clear hP₀ hD₀ hS₀
            refine lv_iconst (v := (-1)) hx hb dX12_readsAll_74 (by decide) ?_
            refine lv_icmp_eq (tgt := 88) hx hb dX12_readsAll_75 (by decide) (fun c_67 => ?_) (fun c_67 => ?_)
            · skip
              refine lv_aload_n hx hb dX12_readsAll_88 rfl (lv_at hl 1 rfl) ?_
              refine lv_iconst (v := 0) hx hb dX12_readsAll_89 (by decide) ?_
              refine pf_X12_77 hx hb hts hown hK hP hD hS 2 rfl (Nat.le_of_ble_eq_true rfl) rfl rfl dX12_readsAll_90 (fun H locs hP₀ hD₀ hS₀ => ?_)
              replace hP : va_P D classes [((Ma 3), .inl (tc 0, 7, .inl g_1)), ((Ma 6), .inl (tc 0, 95, .inl vy_27)), ((Ma 0), .inr (12, [.ref (Ma 1), .int 0, .int (Mv 1), .ref (Ma 2), .ref (Ma 3), .ref (Ma 4), .ref (Ma 5), .ref (Ma 6), .int sv_60, .int vy_24, .int vy_25, .int 6, .int 0, .int (Mv 7), .int vy_26, .ref (Ma 7), .int (Mv 9), .ref (Ma 8), .int (Mv 10), .ref (Ma 9), .ref (Ma 10), .int (Mv 11), .int (Mv 12), .int (Mv 13), .ref (Ma 11), .int (Mv 14), .ref (Ma 12), .ref (Ma 13), .ref (Ma 14), .ref (Ma 15), .ref (Ma 16), .long (Mj 0), .ref (Ma 17), .ref (Ma 18), .ref (Ma 19), .ref (Ma 20)])), ((Ma 1), .inl (tc 2, 400, .inl (Mf 1)))] H := hP₀
              replace hD : va_D A [((Ma 3), .inl (tc 0, 7, .inl g_1)), ((Ma 6), .inl (tc 0, 95, .inl vy_27)), ((Ma 0), .inr (12, [.ref (Ma 1), .int 0, .int (Mv 1), .ref (Ma 2), .ref (Ma 3), .ref (Ma 4), .ref (Ma 5), .ref (Ma 6), .int sv_60, .int vy_24, .int vy_25, .int 6, .int 0, .int (Mv 7), .int vy_26, .ref (Ma 7), .int (Mv 9), .ref (Ma 8), .int (Mv 10), .ref (Ma 9), .ref (Ma 10), .int (Mv 11), .int (Mv 12), .int (Mv 13), .ref (Ma 11), .int (Mv 14), .ref (Ma 12), .ref (Ma 13), .ref (Ma 14), .ref (Ma 15), .ref (Ma 16), .long (Mj 0), .ref (Ma 17), .ref (Ma 18), .ref (Ma 19), .ref (Ma 20)])), ((Ma 1), .inl (tc 2, 400, .inl (Mf 1)))] := hD₀
              replace hS := hS₀
              clear hP₀ hD₀ hS₀
              refine lv_aload_n hx hb dX12_readsAll_93 rfl (lv_at hl 1 rfl) ?_
              refine gf_X12_84 hx hb hts hown hK hP 2 rfl rfl dX12_readsAll_94 ?_
              refine lv_if_ne (tgt := 104) hx hb dX12_readsAll_97 (by decide) (fun c_68 => ?_) (fun c_68 => ?_)
              · skip
                refine lv_iconst (v := 0) hx hb dX12_readsAll_104 (by decide) ?_
                have hp_69 : ((0 : Int32).toInt = 0 ∨ (0 : Int32).toInt = 1) := by
                  have z_1 : ¬ (vy_22 : Int32).toInt = (0 : Int32).toInt := fun z => c_35 (Int32.toInt_inj.mp z)
                  have z_2 : ¬ (r_51 : Int32).toInt = (59 : Int32).toInt := fun z => c_54 (Int32.toInt_inj.mp z)
                  have z_3 : ¬ (vy_22 : Int32).toInt = (0 : Int32).toInt := fun z => c_55 (Int32.toInt_inj.mp z)
                  have z_4 := congrArg Int32.toInt c_67
                  have z_5 : ¬ (vy_24 : Int32).toInt = (0 : Int32).toInt := fun z => c_68 (Int32.toInt_inj.mp z)
                  have y_m1 : (-1 : Int32).toInt = -1 := by decide
                  have y_0 : (0 : Int32).toInt = 0 := by decide
                  have y_59 : (59 : Int32).toInt = 59 := by decide
                  omega
                exact retI (v := 0) hx hb hr hlk (rfl) hP hD hS (sv_60, vy_24, vy_25, vy_26, g_1, vy_27) ⟨_, rfl, hp_69, (fun h => absurd h (by decide))⟩ [2, 3, 0, 1] rfl rfl dX12_readsAll_105 (Nat.le_of_ble_eq_true rfl) (Nat.le_of_ble_eq_true rfl) rfl
              · skip
                refine lv_iconst (v := 1) hx hb dX12_readsAll_100 (by decide) ?_
                refine lv_goto (tgt := 105) hx hb dX12_readsAll_101 (by decide) ?_
                have hp_70 : ((1 : Int32).toInt = 0 ∨ (1 : Int32).toInt = 1) := by
                  have z_1 : ¬ (vy_22 : Int32).toInt = (0 : Int32).toInt := fun z => c_35 (Int32.toInt_inj.mp z)
                  have z_2 : ¬ (r_51 : Int32).toInt = (59 : Int32).toInt := fun z => c_54 (Int32.toInt_inj.mp z)
                  have z_3 : ¬ (vy_22 : Int32).toInt = (0 : Int32).toInt := fun z => c_55 (Int32.toInt_inj.mp z)
                  have z_4 := congrArg Int32.toInt c_67
                  have z_5 := congrArg Int32.toInt c_68
                  have y_m1 : (-1 : Int32).toInt = -1 := by decide
                  have y_0 : (0 : Int32).toInt = 0 := by decide
                  have y_59 : (59 : Int32).toInt = 59 := by decide
                  have y_1 : (1 : Int32).toInt = 1 := by decide
                  have yr : (1 : Int32).toInt = 1 := by decide
                  omega
                have hm_71 : (1 : Int32).toInt = 1 → (RdO vy_27) := by
                  intro h1r
                  exact pf_42
                exact retI (v := 1) hx hb hr hlk (rfl) hP hD hS (sv_60, vy_24, vy_25, vy_26, g_1, vy_27) ⟨_, rfl, hp_70, hm_71⟩ [2, 3, 0, 1] rfl rfl dX12_readsAll_105 (Nat.le_of_ble_eq_true rfl) (Nat.le_of_ble_eq_true rfl) rfl
            · skip
              refine lv_aload_n hx hb dX12_readsAll_78 rfl (lv_at hl 1 rfl) ?_
              refine lv_iconst (v := 0) hx hb dX12_readsAll_79 (by decide) ?_
              refine lv_aload_n hx hb dX12_readsAll_80 rfl (lv_at hl 1 rfl) ?_
              refine gf_X12_87 hx hb hts hown hK hP 2 rfl rfl dX12_readsAll_81 ?_
              have ha_72 : 0 ≤ (0 : Int32).toInt ∧ (0 : Int32).toInt ≤ 4 := by
                have z_1 : ¬ (vy_22 : Int32).toInt = (0 : Int32).toInt := fun z => c_35 (Int32.toInt_inj.mp z)
                have z_2 : ¬ (r_51 : Int32).toInt = (59 : Int32).toInt := fun z => c_54 (Int32.toInt_inj.mp z)
                have z_3 : ¬ (vy_22 : Int32).toInt = (0 : Int32).toInt := fun z => c_55 (Int32.toInt_inj.mp z)
                have z_4 : ¬ (r_64 : Int32).toInt = ((-1) : Int32).toInt := fun z => c_67 (Int32.toInt_inj.mp z)
                have y_m1 : (-1 : Int32).toInt = -1 := by decide
                have y_0 : (0 : Int32).toInt = 0 := by decide
                have y_59 : (59 : Int32).toInt = 59 := by decide
                omega
              have ha_73 : 0 ≤ sv_60.toInt ∧ sv_60.toInt ≤ 400 := by
                have z_1 : ¬ (vy_22 : Int32).toInt = (0 : Int32).toInt := fun z => c_35 (Int32.toInt_inj.mp z)
                have z_2 : ¬ (r_51 : Int32).toInt = (59 : Int32).toInt := fun z => c_54 (Int32.toInt_inj.mp z)
                have z_3 : ¬ (vy_22 : Int32).toInt = (0 : Int32).toInt := fun z => c_55 (Int32.toInt_inj.mp z)
                have z_4 : ¬ (r_64 : Int32).toInt = ((-1) : Int32).toInt := fun z => c_67 (Int32.toInt_inj.mp z)
                have y_m1 : (-1 : Int32).toInt = -1 := by decide
                have y_0 : (0 : Int32).toInt = 0 := by decide
                have y_59 : (59 : Int32).toInt = 59 := by decide
                omega
              refine cV (a := (Ma 0)) (As := [.int 0, .int sv_60]) (rest := []) (wr := [((Ma 3), .inl (tc 0, 7, .inl g_1)), ((Ma 6), .inl (tc 0, 95, .inl vy_27)), ((Ma 1), .inl (tc 2, 400, .inl (Mf 1)))]) ⟨hx, hb, hml, hown, hts⟩ hK hX hA (cu_X12_fails l D tc sk (Ma 0) (Ma 1) (Ma 2) (Ma 3) (Ma 4) (Ma 5) (Ma 6) (Ma 7) (Ma 8) (Ma 9) (Ma 10) (Ma 11) (Ma 12) (Ma 13) (Ma 14) (Ma 15) (Ma 16) (Ma 17) (Ma 18) (Ma 19) (Ma 20) (Mv 0) (Mv 1) sv_60 vy_24 vy_25 6 0 (Mv 7) vy_26 (Mv 9) (Mv 10) (Mv 11) (Mv 12) (Mv 13) (Mv 14) (Mj 0) 0 sv_60 ha_72 ha_73) k_1232 k_1229 k_1231 k_31 k_106 pl_X12_fails ⟨Nat.le_of_ble_eq_true rfl, Nat.le_of_ble_eq_true rfl⟩ rfl rfl (va_recv hK hP (ci := 12) (q0 := 2) rfl rfl) hP hD hS [2] [0, 1, 3] rfl rfl rfl rfl rfl (by decide) rfl hl.1 rfl (Nat.le_of_ble_eq_true rfl) dX12_readsAll_84 ⟨Nat.le_of_ble_eq_true rfl, Nat.le_of_ble_eq_true rfl⟩ (fun v_74 u_75 H locs hv_76 hP₀ hD₀ hS₀ => ?_)
              obtain ⟨sv_77, rfl⟩ : ∃ z, z = u_75 := ⟨_, rfl⟩
              obtain ⟨r_79, rfl, he_80, pf_78⟩ := hv_76
              have he_80 : r_79.toInt = 0 := he_80
              have pf_78 : ¬ (sv_77 : Int32).toInt = 0 := pf_78
              refine W.eq (g2 := F0 m 87 ls [.int r_79]) rfl ?_
              replace hP : va_P D classes [((Ma 3), .inl (tc 0, 7, .inl g_1)), ((Ma 6), .inl (tc 0, 95, .inl vy_27)), ((Ma 1), .inl (tc 2, 400, .inl (Mf 1))), ((Ma 0), .inr (12, [.ref (Ma 1), .int (Mv 0), .int (Mv 1), .ref (Ma 2), .ref (Ma 3), .ref (Ma 4), .ref (Ma 5), .ref (Ma 6), .int sv_60, .int sv_77, .int vy_25, .int 6, .int 0, .int (Mv 7), .int vy_26, .ref (Ma 7), .int (Mv 9), .ref (Ma 8), .int (Mv 10), .ref (Ma 9), .ref (Ma 10), .int (Mv 11), .int (Mv 12), .int (Mv 13), .ref (Ma 11), .int (Mv 14), .ref (Ma 12), .ref (Ma 13), .ref (Ma 14), .ref (Ma 15), .ref (Ma 16), .long (Mj 0), .ref (Ma 17), .ref (Ma 18), .ref (Ma 19), .ref (Ma 20)]))] H := hP₀
              replace hD : va_D A [((Ma 3), .inl (tc 0, 7, .inl g_1)), ((Ma 6), .inl (tc 0, 95, .inl vy_27)), ((Ma 1), .inl (tc 2, 400, .inl (Mf 1))), ((Ma 0), .inr (12, [.ref (Ma 1), .int (Mv 0), .int (Mv 1), .ref (Ma 2), .ref (Ma 3), .ref (Ma 4), .ref (Ma 5), .ref (Ma 6), .int sv_60, .int sv_77, .int vy_25, .int 6, .int 0, .int (Mv 7), .int vy_26, .ref (Ma 7), .int (Mv 9), .ref (Ma 8), .int (Mv 10), .ref (Ma 9), .ref (Ma 10), .int (Mv 11), .int (Mv 12), .int (Mv 13), .ref (Ma 11), .int (Mv 14), .ref (Ma 12), .ref (Ma 13), .ref (Ma 14), .ref (Ma 15), .ref (Ma 16), .long (Mj 0), .ref (Ma 17), .ref (Ma 18), .ref (Ma 19), .ref (Ma 20)]))] := hD₀
              replace hS := hS₀
              clear hP₀ hD₀ hS₀
              refine lv_pop hx hb dX12_readsAll_87 rfl ?_
              refine lv_aload_n hx hb dX12_readsAll_88 rfl (lv_at hl 1 rfl) ?_
              refine lv_iconst (v := 0) hx hb dX12_readsAll_89 (by decide) ?_
              refine pf_X12_77 hx hb hts hown hK hP hD hS 3 rfl (Nat.le_of_ble_eq_true rfl) rfl rfl dX12_readsAll_90 (fun H locs hP₀ hD₀ hS₀ => ?_)
              replace hP : va_P D classes [((Ma 3), .inl (tc 0, 7, .inl g_1)), ((Ma 6), .inl (tc 0, 95, .inl vy_27)), ((Ma 1), .inl (tc 2, 400, .inl (Mf 1))), ((Ma 0), .inr (12, [.ref (Ma 1), .int 0, .int (Mv 1), .ref (Ma 2), .ref (Ma 3), .ref (Ma 4), .ref (Ma 5), .ref (Ma 6), .int sv_60, .int sv_77, .int vy_25, .int 6, .int 0, .int (Mv 7), .int vy_26, .ref (Ma 7), .int (Mv 9), .ref (Ma 8), .int (Mv 10), .ref (Ma 9), .ref (Ma 10), .int (Mv 11), .int (Mv 12), .int (Mv 13), .ref (Ma 11), .int (Mv 14), .ref (Ma 12), .ref (Ma 13), .ref (Ma 14), .ref (Ma 15), .ref (Ma 16), .long (Mj 0), .ref (Ma 17), .ref (Ma 18), .ref (Ma 19), .ref (Ma 20)]))] H := hP₀
              replace hD : va_D A [((Ma 3), .inl (tc 0, 7, .inl g_1)), ((Ma 6), .inl (tc 0, 95, .inl vy_27)), ((Ma 1), .inl (tc 2, 400, .inl (Mf 1))), ((Ma 0), .inr (12, [.ref (Ma 1), .int 0, .int (Mv 1), .ref (Ma 2), .ref (Ma 3), .ref (Ma 4), .ref (Ma 5), .ref (Ma 6), .int sv_60, .int sv_77, .int vy_25, .int 6, .int 0, .int (Mv 7), .int vy_26, .ref (Ma 7), .int (Mv 9), .ref (Ma 8), .int (Mv 10), .ref (Ma 9), .ref (Ma 10), .int (Mv 11), .int (Mv 12), .int (Mv 13), .ref (Ma 11), .int (Mv 14), .ref (Ma 12), .ref (Ma 13), .ref (Ma 14), .ref (Ma 15), .ref (Ma 16), .long (Mj 0), .ref (Ma 17), .ref (Ma 18), .ref (Ma 19), .ref (Ma 20)]))] := hD₀
              replace hS := hS₀
              clear hP₀ hD₀ hS₀
              refine lv_aload_n hx hb dX12_readsAll_93 rfl (lv_at hl 1 rfl) ?_
              refine gf_X12_84 hx hb hts hown hK hP 3 rfl rfl dX12_readsAll_94 ?_
              refine lv_if_ne (tgt := 104) hx hb dX12_readsAll_97 (by decide) (fun c_82 => ?_) (fun c_82 => ?_)
              · skip
                refine lv_iconst (v := 0) hx hb dX12_readsAll_104 (by decide) ?_
                have hp_83 : ((0 : Int32).toInt = 0 ∨ (0 : Int32).toInt = 1) := by
                  have z_1 : ¬ (vy_22 : Int32).toInt = (0 : Int32).toInt := fun z => c_35 (Int32.toInt_inj.mp z)
                  have z_2 : ¬ (r_51 : Int32).toInt = (59 : Int32).toInt := fun z => c_54 (Int32.toInt_inj.mp z)
                  have z_3 : ¬ (vy_22 : Int32).toInt = (0 : Int32).toInt := fun z => c_55 (Int32.toInt_inj.mp z)
                  have z_4 : ¬ (r_64 : Int32).toInt = ((-1) : Int32).toInt := fun z => c_67 (Int32.toInt_inj.mp z)
                  have z_5 : ¬ (sv_77 : Int32).toInt = (0 : Int32).toInt := fun z => c_82 (Int32.toInt_inj.mp z)
                  have y_m1 : (-1 : Int32).toInt = -1 := by decide
                  have y_0 : (0 : Int32).toInt = 0 := by decide
                  have y_59 : (59 : Int32).toInt = 59 := by decide
                  omega
                exact retI (v := 0) hx hb hr hlk (rfl) hP hD hS (sv_60, sv_77, vy_25, vy_26, g_1, vy_27) ⟨_, rfl, hp_83, (fun h => absurd h (by decide))⟩ [3, 2, 0, 1] rfl rfl dX12_readsAll_105 (Nat.le_of_ble_eq_true rfl) (Nat.le_of_ble_eq_true rfl) rfl
              · skip
                refine lv_iconst (v := 1) hx hb dX12_readsAll_100 (by decide) ?_
                refine lv_goto (tgt := 105) hx hb dX12_readsAll_101 (by decide) ?_
                have hp_84 : ((1 : Int32).toInt = 0 ∨ (1 : Int32).toInt = 1) := by
                  have z_1 : ¬ (vy_22 : Int32).toInt = (0 : Int32).toInt := fun z => c_35 (Int32.toInt_inj.mp z)
                  have z_2 : ¬ (r_51 : Int32).toInt = (59 : Int32).toInt := fun z => c_54 (Int32.toInt_inj.mp z)
                  have z_3 : ¬ (vy_22 : Int32).toInt = (0 : Int32).toInt := fun z => c_55 (Int32.toInt_inj.mp z)
                  have z_4 : ¬ (r_64 : Int32).toInt = ((-1) : Int32).toInt := fun z => c_67 (Int32.toInt_inj.mp z)
                  have z_5 := congrArg Int32.toInt c_82
                  have y_m1 : (-1 : Int32).toInt = -1 := by decide
                  have y_0 : (0 : Int32).toInt = 0 := by decide
                  have y_59 : (59 : Int32).toInt = 59 := by decide
                  have y_1 : (1 : Int32).toInt = 1 := by decide
                  have yr : (1 : Int32).toInt = 1 := by decide
                  omega
                have hm_85 : (1 : Int32).toInt = 1 → (RdO vy_27) := by
                  intro h1r
                  exact pf_42
                exact retI (v := 1) hx hb hr hlk (rfl) hP hD hS (sv_60, sv_77, vy_25, vy_26, g_1, vy_27) ⟨_, rfl, hp_84, hm_85⟩ [3, 2, 0, 1] rfl rfl dX12_readsAll_105 (Nat.le_of_ble_eq_true rfl) (Nat.le_of_ble_eq_true rfl) rfl
        · skip
          refine lv_aload_n hx hb dX12_readsAll_48 rfl (lv_at hl 1 rfl) ?_
          refine lv_dup hx hb dX12_readsAll_49 rfl ?_
          refine gf_X12_87 hx hb hts hown hK hP 2 rfl rfl dX12_readsAll_50 ?_
          refine lv_iconst (v := 1) hx hb dX12_readsAll_53 (by decide) ?_
          refine lv_iadd hx hb dX12_readsAll_54 ?_
          refine lv_topi (fun x_86 ex_86 => ?_)
          refine pf_X12_87 hx hb hts hown hK hP hD hS 2 rfl (Nat.le_of_ble_eq_true rfl) rfl rfl dX12_readsAll_55 (fun H locs hP₀ hD₀ hS₀ => ?_)
          replace hP : va_P D classes [((Ma 3), .inl (tc 0, 7, .inl g_1)), ((Ma 6), .inl (tc 0, 95, .inl vy_27)), ((Ma 0), .inr (12, [.ref (Ma 1), .int (Mv 0), .int (Mv 1), .ref (Ma 2), .ref (Ma 3), .ref (Ma 4), .ref (Ma 5), .ref (Ma 6), .int x_86, .int vy_24, .int vy_25, .int 6, .int 0, .int (Mv 7), .int vy_26, .ref (Ma 7), .int (Mv 9), .ref (Ma 8), .int (Mv 10), .ref (Ma 9), .ref (Ma 10), .int (Mv 11), .int (Mv 12), .int (Mv 13), .ref (Ma 11), .int (Mv 14), .ref (Ma 12), .ref (Ma 13), .ref (Ma 14), .ref (Ma 15), .ref (Ma 16), .long (Mj 0), .ref (Ma 17), .ref (Ma 18), .ref (Ma 19), .ref (Ma 20)])), ((Ma 1), .inl (tc 2, 400, .inl (Mf 1)))] H := hP₀
          replace hD : va_D A [((Ma 3), .inl (tc 0, 7, .inl g_1)), ((Ma 6), .inl (tc 0, 95, .inl vy_27)), ((Ma 0), .inr (12, [.ref (Ma 1), .int (Mv 0), .int (Mv 1), .ref (Ma 2), .ref (Ma 3), .ref (Ma 4), .ref (Ma 5), .ref (Ma 6), .int x_86, .int vy_24, .int vy_25, .int 6, .int 0, .int (Mv 7), .int vy_26, .ref (Ma 7), .int (Mv 9), .ref (Ma 8), .int (Mv 10), .ref (Ma 9), .ref (Ma 10), .int (Mv 11), .int (Mv 12), .int (Mv 13), .ref (Ma 11), .int (Mv 14), .ref (Ma 12), .ref (Ma 13), .ref (Ma 14), .ref (Ma 15), .ref (Ma 16), .long (Mj 0), .ref (Ma 17), .ref (Ma 18), .ref (Ma 19), .ref (Ma 20)])), ((Ma 1), .inl (tc 2, 400, .inl (Mf 1)))] := hD₀
          replace hS := hS₀
          clear hP₀ hD₀ hS₀
          have tp_x_86 : (x_86 : Int32).toInt = (sv_47 : Int32).toInt + 1 := by
            have z_1 : ¬ (vy_22 : Int32).toInt = (0 : Int32).toInt := fun z => c_35 (Int32.toInt_inj.mp z)
            have z_2 := congrArg Int32.toInt c_54
            have y_0 : (0 : Int32).toInt = 0 := by decide
            have y_59 : (59 : Int32).toInt = 59 := by decide
            have y_1 : (1 : Int32).toInt = 1 := by decide
            have t_x_86 : x_86.toInt = (sv_47 : Int32).toInt + (1 : Int32).toInt := by rw [ex_86]; exact add_toInt (by omega) (by omega)
            omega
          refine lv_aload_n hx hb dX12_readsAll_58 rfl (lv_at hl 1 rfl) ?_
          have ha_87 : 0 ≤ (x_86 : Int32).toInt ∧ (x_86 : Int32).toInt ≤ ((Mv 0) : Int32).toInt ∧ ((Mv 0) : Int32).toInt ≤ 400 := by
            have z_1 : ¬ (vy_22 : Int32).toInt = (0 : Int32).toInt := fun z => c_35 (Int32.toInt_inj.mp z)
            have z_2 := congrArg Int32.toInt c_54
            have y_0 : (0 : Int32).toInt = 0 := by decide
            have y_59 : (59 : Int32).toInt = 59 := by decide
            have y_1 : (1 : Int32).toInt = 1 := by decide
            have t_x_86 : x_86.toInt = (sv_47 : Int32).toInt + (1 : Int32).toInt := by rw [ex_86]; exact add_toInt (by omega) (by omega)
            omega
          refine cV (a := (Ma 0)) (As := []) (rest := []) (wr := []) ⟨hx, hb, hml, hown, hts⟩ hK hX hA (cu_X12_clauseHere_b l D tc sk (Ma 0) (Ma 1) (Ma 2) (Ma 3) (Ma 4) (Ma 5) (Ma 6) (Ma 7) (Ma 8) (Ma 9) (Ma 10) (Ma 11) (Ma 12) (Ma 13) (Ma 14) (Ma 15) (Ma 16) (Ma 17) (Ma 18) (Ma 19) (Ma 20) (Mv 0) (Mv 1) x_86 vy_24 vy_25 0 (Mv 7) vy_26 (Mv 9) (Mv 10) (Mv 11) (Mv 12) (Mv 13) (Mv 14) (Mf 1) g_1 vy_27 (Mj 0) ha_87 pf_42) k_1207 k_1204 k_1206 k_26 k_106 pl_X12_clauseHere ⟨Nat.le_of_ble_eq_true rfl, Nat.le_of_ble_eq_true rfl⟩ rfl rfl (va_recv hK hP (ci := 12) (q0 := 2) rfl rfl) hP hD hS [2, 3, 0, 1] [] rfl rfl rfl rfl rfl (by decide) rfl hl.1 rfl (Nat.le_of_ble_eq_true rfl) dX12_readsAll_59 ⟨Nat.le_of_ble_eq_true rfl, Nat.le_of_ble_eq_true rfl⟩ (fun v_88 u_89 H locs hv_90 hP₀ hD₀ hS₀ => ?_)
          obtain ⟨sv_91, sv_92, sv_93, sv_94, sv_95⟩ := u_89
          obtain ⟨r_97, rfl, he_98, pf_96, hm_100⟩ := hv_90
          have he_98 : ((r_97.toInt = 0 ∧ ¬ (sv_92 : Int32).toInt = 0) ∨ r_97.toInt = 1) := he_98
          have pf_96 : (x_86 : Int32).toInt ≤ (sv_91 : Int32).toInt ∧ (sv_91 : Int32).toInt ≤ ((Mv 0) : Int32).toInt := pf_96
          refine W.eq (g2 := F0 m 62 ls [.int r_97]) rfl ?_
          replace hP : va_P D classes [((Ma 0), .inr (12, [.ref (Ma 1), .int (Mv 0), .int (Mv 1), .ref (Ma 2), .ref (Ma 3), .ref (Ma 4), .ref (Ma 5), .ref (Ma 6), .int sv_91, .int sv_92, .int sv_93, .int 6, .int 0, .int (Mv 7), .int sv_94, .ref (Ma 7), .int (Mv 9), .ref (Ma 8), .int (Mv 10), .ref (Ma 9), .ref (Ma 10), .int (Mv 11), .int (Mv 12), .int (Mv 13), .ref (Ma 11), .int (Mv 14), .ref (Ma 12), .ref (Ma 13), .ref (Ma 14), .ref (Ma 15), .ref (Ma 16), .long (Mj 0), .ref (Ma 17), .ref (Ma 18), .ref (Ma 19), .ref (Ma 20)])), ((Ma 1), .inl (tc 2, 400, .inl (Mf 1))), ((Ma 3), .inl (tc 0, 7, .inl g_1)), ((Ma 6), .inl (tc 0, 95, .inl sv_95))] H := hP₀
          replace hD : va_D A [((Ma 0), .inr (12, [.ref (Ma 1), .int (Mv 0), .int (Mv 1), .ref (Ma 2), .ref (Ma 3), .ref (Ma 4), .ref (Ma 5), .ref (Ma 6), .int sv_91, .int sv_92, .int sv_93, .int 6, .int 0, .int (Mv 7), .int sv_94, .ref (Ma 7), .int (Mv 9), .ref (Ma 8), .int (Mv 10), .ref (Ma 9), .ref (Ma 10), .int (Mv 11), .int (Mv 12), .int (Mv 13), .ref (Ma 11), .int (Mv 14), .ref (Ma 12), .ref (Ma 13), .ref (Ma 14), .ref (Ma 15), .ref (Ma 16), .long (Mj 0), .ref (Ma 17), .ref (Ma 18), .ref (Ma 19), .ref (Ma 20)])), ((Ma 1), .inl (tc 2, 400, .inl (Mf 1))), ((Ma 3), .inl (tc 0, 7, .inl g_1)), ((Ma 6), .inl (tc 0, 95, .inl sv_95))] := hD₀
          replace hS := hS₀
          clear hP₀ hD₀ hS₀
          refine lv_istore_n (lv' := [(1, .int r_97), (0, .ref (Ma 0))]) hx hb dX12_readsAll_62 rfl hl (by decide) rfl (fun ls hl₀ => ?_)
          replace hl := hl₀
          clear hl₀
          refine lv_goto (tgt := 35) hx hb dX12_readsAll_63 (by decide) ?_
          have hb_101 : 2 * (401 - (sv_91 : Int32).toInt) + (r_97 : Int32).toInt < 2 * (401 - (vy_23 : Int32).toInt) + (vy_22 : Int32).toInt ∧ 1 ≤ 2 * (401 - (vy_23 : Int32).toInt) + (vy_22 : Int32).toInt := by
            have z_1 : ¬ (vy_22 : Int32).toInt = (0 : Int32).toInt := fun z => c_35 (Int32.toInt_inj.mp z)
            have z_2 := congrArg Int32.toInt c_54
            have y_0 : (0 : Int32).toInt = 0 := by decide
            have y_59 : (59 : Int32).toInt = 59 := by decide
            omega
          have ha_102 : 0 ≤ (sv_91 : Int32).toInt ∧ (sv_91 : Int32).toInt ≤ ((Mv 0) : Int32).toInt ∧ ((Mv 0) : Int32).toInt ≤ 400 := by
            have z_1 : ¬ (vy_22 : Int32).toInt = (0 : Int32).toInt := fun z => c_35 (Int32.toInt_inj.mp z)
            have z_2 := congrArg Int32.toInt c_54
            have y_0 : (0 : Int32).toInt = 0 := by decide
            have y_59 : (59 : Int32).toInt = 59 := by decide
            omega
          have ha_103 : (((r_97 : Int32).toInt = 0 ∧ ¬ (sv_92 : Int32).toInt = 0) ∨ (r_97 : Int32).toInt = 1) := by
            have z_1 : ¬ (vy_22 : Int32).toInt = (0 : Int32).toInt := fun z => c_35 (Int32.toInt_inj.mp z)
            have z_2 := congrArg Int32.toInt c_54
            have y_0 : (0 : Int32).toInt = 0 := by decide
            have y_59 : (59 : Int32).toInt = 59 := by decide
            omega
          exact ih_29 r_97 sv_91 sv_92 sv_93 sv_94 sv_95 _ _ _ (by omega) ha_102 ha_103 hm_100 (hP.sub [0, 1, 2, 3] rfl) (hD.sub [0, 1, 2, 3] rfl rfl) hS (lv_sub hl [0, 1] rfl)
  have ha_104 : 0 ≤ (sv_6 : Int32).toInt ∧ (sv_6 : Int32).toInt ≤ ((Mv 0) : Int32).toInt ∧ ((Mv 0) : Int32).toInt ≤ 400 := by
    omega
  have ha_105 : (((r_12 : Int32).toInt = 0 ∧ ¬ (sv_7 : Int32).toInt = 0) ∨ (r_12 : Int32).toInt = 1) := by
    omega
  exact loop_30 _ r_12 sv_6 sv_7 sv_8 sv_9 sv_10 _ _ _ (Nat.lt_succ_self _) ha_104 ha_105 hm_15 hP hD hS hl
set_option maxRecDepth 100000 in
theorem cu_X12_readsAll_b (l : Launch) (D : va_G) (tc : Nat → ClassId) (sk : (Nat → Nat) × (Nat → Nat)) (Ma_0 : Nat) (Ma_1 : Nat) (Ma_2 : Nat) (Ma_3 : Nat) (Ma_4 : Nat) (Ma_5 : Nat) (Ma_6 : Nat) (Ma_7 : Nat) (Ma_8 : Nat) (Ma_9 : Nat) (Ma_10 : Nat) (Ma_11 : Nat) (Ma_12 : Nat) (Ma_13 : Nat) (Ma_14 : Nat) (Ma_15 : Nat) (Ma_16 : Nat) (Ma_17 : Nat) (Ma_18 : Nat) (Ma_19 : Nat) (Ma_20 : Nat) (Mv_0 : Int32) (Mv_1 : Int32) (Mv_2 : Int32) (Mv_3 : Int32) (Mv_4 : Int32) (Mv_6 : Int32) (Mv_7 : Int32) (Mv_8 : Int32) (Mv_9 : Int32) (Mv_10 : Int32) (Mv_11 : Int32) (Mv_12 : Int32) (Mv_13 : Int32) (Mv_14 : Int32) (Mf_1 : Nat → Int32) (Mf_3 : Nat → Int32) (Mf_6 : Nat → Int32) (Mj_0 : Int64) (h_tp : 0 ≤ (Mv_0 : Int32).toInt ∧ (Mv_0 : Int32).toInt ≤ 400) (h_ro : RdO Mf_6) : Ct l yX12_readsAll cX12_readsAll 2 (some .boolean) { frames := 6, cells := 0, slots := 0, locals := 137 } D tc sk [.ref Ma_0] [(Ma_0, .inr (12, [.ref Ma_1, .int Mv_0, .int Mv_1, .ref Ma_2, .ref Ma_3, .ref Ma_4, .ref Ma_5, .ref Ma_6, .int Mv_2, .int Mv_3, .int Mv_4, .int 6, .int Mv_6, .int Mv_7, .int Mv_8, .ref Ma_7, .int Mv_9, .ref Ma_8, .int Mv_10, .ref Ma_9, .ref Ma_10, .int Mv_11, .int Mv_12, .int Mv_13, .ref Ma_11, .int Mv_14, .ref Ma_12, .ref Ma_13, .ref Ma_14, .ref Ma_15, .ref Ma_16, .long Mj_0, .ref Ma_17, .ref Ma_18, .ref Ma_19, .ref Ma_20])), (Ma_1, .inl (tc 2, 400, .inl Mf_1)), (Ma_3, .inl (tc 0, 7, .inl Mf_3)), (Ma_6, .inl (tc 0, 95, .inl Mf_6))] (fun (v : Option Value) (u : (Int32) × (Int32) × (Int32) × (Int32) × (Nat → Int32) × (Nat → Int32)) => match u with | (oo0x1, oo0x2, oo0x3, oo0x4, oo0x5, oo0x6) => ∃ r : Int32, v = some (.int r) ∧ ((r.toInt = 0 ∨ r.toInt = 1)) ∧ (r.toInt = 1 → (RdO oo0x6))) (fun (u : (Int32) × (Int32) × (Int32) × (Int32) × (Nat → Int32) × (Nat → Int32)) => match u with | (oo0x1, oo0x2, oo0x3, oo0x4, oo0x5, oo0x6) => [(Ma_0, .inr (12, [.ref Ma_1, .int 0, .int Mv_1, .ref Ma_2, .ref Ma_3, .ref Ma_4, .ref Ma_5, .ref Ma_6, .int oo0x1, .int oo0x2, .int oo0x3, .int 6, .int 0, .int Mv_7, .int oo0x4, .ref Ma_7, .int Mv_9, .ref Ma_8, .int Mv_10, .ref Ma_9, .ref Ma_10, .int Mv_11, .int Mv_12, .int Mv_13, .ref Ma_11, .int Mv_14, .ref Ma_12, .ref Ma_13, .ref Ma_14, .ref Ma_15, .ref Ma_16, .long Mj_0, .ref Ma_17, .ref Ma_18, .ref Ma_19, .ref Ma_20])), (Ma_1, .inl (tc 2, 400, .inl Mf_1)), (Ma_3, .inl (tc 0, 7, .inl oo0x5)), (Ma_6, .inl (tc 0, 95, .inl oo0x6))]) 0 0 :=
  ct_X12_readsAll_b l D tc sk (fun k => ([Ma_0, Ma_1, Ma_2, Ma_3, Ma_4, Ma_5, Ma_6, Ma_7, Ma_8, Ma_9, Ma_10, Ma_11, Ma_12, Ma_13, Ma_14, Ma_15, Ma_16, Ma_17, Ma_18, Ma_19, Ma_20] : List (Nat)).getD k 0) (fun k => ([Mv_0, Mv_1, Mv_2, Mv_3, Mv_4, 0, Mv_6, Mv_7, Mv_8, Mv_9, Mv_10, Mv_11, Mv_12, Mv_13, Mv_14] : List (Int32)).getD k 0) (fun k => ([(fun _ => 0), Mf_1, (fun _ => 0), Mf_3, (fun _ => 0), (fun _ => 0), Mf_6] : List (Nat → Int32)).getD k (fun _ => 0)) (fun k => ([Mj_0] : List (Int64)).getD k 0) h_tp h_ro
set_option maxHeartbeats 4000000 in
set_option maxRecDepth 100000 in
theorem ct_X12_book (l : Launch) (D : va_G) (tc : Nat → ClassId) (sk : (Nat → Nat) × (Nat → Nat)) (Ma : Nat → Nat) (Mv : Nat → Int32) (Mf : Nat → Nat → Int32) (Mj : Nat → Int64) (h_tp : 0 ≤ ((Mv 0) : Int32).toInt ∧ ((Mv 0) : Int32).toInt ≤ 400) (h_said : SaidD (Mf 10) 999) (h_un : 0 ≤ ((Mv 14) : Int32).toInt ∧ ((Mv 14) : Int32).toInt ≤ 20) : Ct l yX12_book cX12_book 2 (some .int) { frames := 7, cells := 0, slots := 0, locals := 158 } D tc sk [.ref (Ma 0)] [((Ma 0), .inr (12, [.ref (Ma 1), .int (Mv 0), .int (Mv 1), .ref (Ma 2), .ref (Ma 3), .ref (Ma 4), .ref (Ma 5), .ref (Ma 6), .int (Mv 2), .int (Mv 3), .int (Mv 4), .int (Mv 5), .int (Mv 6), .int (Mv 7), .int (Mv 8), .ref (Ma 7), .int (Mv 9), .ref (Ma 8), .int (Mv 10), .ref (Ma 9), .ref (Ma 10), .int (Mv 11), .int (Mv 12), .int (Mv 13), .ref (Ma 11), .int (Mv 14), .ref (Ma 12), .ref (Ma 13), .ref (Ma 14), .ref (Ma 15), .ref (Ma 16), .long (Mj 0), .ref (Ma 17), .ref (Ma 18), .ref (Ma 19), .ref (Ma 20)])), ((Ma 1), .inl (tc 2, 400, .inl (Mf 1))), ((Ma 3), .inl (tc 0, 7, .inl (Mf 3))), ((Ma 6), .inl (tc 0, 95, .inl (Mf 6))), ((Ma 10), .inl (tc 0, 126, .inl (Mf 10)))] (fun (v : Option Value) (u : (Int32) × (Int32) × (Int32) × (Int32) × (Int32) × (Nat → Int32) × (Nat → Int32) × (Nat → Int32)) => match u with | (oo0x1, oo0x2, oo0x3, oo0x4, oo0x5, oo0x6, oo0x7, oo0x8) => ∃ r : Int32, v = some (.int r) ∧ (True) ∧ (0 ≤ (0 : Int32).toInt ∧ (0 : Int32).toInt ≤ 400) ∧ (SaidD oo0x8 999) ∧ (0 ≤ (oo0x5 : Int32).toInt ∧ (oo0x5 : Int32).toInt ≤ 20)) (fun (u : (Int32) × (Int32) × (Int32) × (Int32) × (Int32) × (Nat → Int32) × (Nat → Int32) × (Nat → Int32)) => match u with | (oo0x1, oo0x2, oo0x3, oo0x4, oo0x5, oo0x6, oo0x7, oo0x8) => [((Ma 0), .inr (12, [.ref (Ma 1), .int 0, .int (Mv 1), .ref (Ma 2), .ref (Ma 3), .ref (Ma 4), .ref (Ma 5), .ref (Ma 6), .int oo0x1, .int oo0x2, .int oo0x3, .int 6, .int 0, .int (Mv 7), .int oo0x4, .ref (Ma 7), .int (Mv 9), .ref (Ma 8), .int (Mv 10), .ref (Ma 9), .ref (Ma 10), .int (Mv 11), .int (Mv 12), .int (Mv 13), .ref (Ma 11), .int oo0x5, .ref (Ma 12), .ref (Ma 13), .ref (Ma 14), .ref (Ma 15), .ref (Ma 16), .long (Mj 0), .ref (Ma 17), .ref (Ma 18), .ref (Ma 19), .ref (Ma 20)])), ((Ma 1), .inl (tc 2, 400, .inl (Mf 1))), ((Ma 3), .inl (tc 0, 7, .inl oo0x6)), ((Ma 6), .inl (tc 0, 95, .inl oo0x7)), ((Ma 10), .inl (tc 0, 126, .inl oo0x8))]) 0 0 := by
  refine Ct.start (by decide) (Nat.le_of_ble_eq_true rfl) (fun p e s m below meth c A ls hx hb hr hlk hin hml hown hts hK hX hP hD hA hl hS => ?_)
  have hl : lv_has ls 2 [(0, .ref (Ma 0))] := hl
  have ar_h_said := SaidD.al h_said
  refine lv_aload_n hx hb dX12_book_0 rfl (lv_at hl 0 rfl) ?_
  refine lv_bipush (v := 6) hx hb dX12_book_1 (by decide) ?_
  refine pf_X12_145 hx hb hts hown hK hP hD hS 0 rfl (Nat.le_of_ble_eq_true rfl) rfl rfl dX12_book_3 (fun H locs hP₀ hD₀ hS₀ => ?_)
  replace hP : va_P D classes [((Ma 0), .inr (12, [.ref (Ma 1), .int (Mv 0), .int (Mv 1), .ref (Ma 2), .ref (Ma 3), .ref (Ma 4), .ref (Ma 5), .ref (Ma 6), .int (Mv 2), .int (Mv 3), .int (Mv 4), .int 6, .int (Mv 6), .int (Mv 7), .int (Mv 8), .ref (Ma 7), .int (Mv 9), .ref (Ma 8), .int (Mv 10), .ref (Ma 9), .ref (Ma 10), .int (Mv 11), .int (Mv 12), .int (Mv 13), .ref (Ma 11), .int (Mv 14), .ref (Ma 12), .ref (Ma 13), .ref (Ma 14), .ref (Ma 15), .ref (Ma 16), .long (Mj 0), .ref (Ma 17), .ref (Ma 18), .ref (Ma 19), .ref (Ma 20)])), ((Ma 1), .inl (tc 2, 400, .inl (Mf 1))), ((Ma 3), .inl (tc 0, 7, .inl (Mf 3))), ((Ma 6), .inl (tc 0, 95, .inl (Mf 6))), ((Ma 10), .inl (tc 0, 126, .inl (Mf 10)))] H := hP₀
  replace hD : va_D A [((Ma 0), .inr (12, [.ref (Ma 1), .int (Mv 0), .int (Mv 1), .ref (Ma 2), .ref (Ma 3), .ref (Ma 4), .ref (Ma 5), .ref (Ma 6), .int (Mv 2), .int (Mv 3), .int (Mv 4), .int 6, .int (Mv 6), .int (Mv 7), .int (Mv 8), .ref (Ma 7), .int (Mv 9), .ref (Ma 8), .int (Mv 10), .ref (Ma 9), .ref (Ma 10), .int (Mv 11), .int (Mv 12), .int (Mv 13), .ref (Ma 11), .int (Mv 14), .ref (Ma 12), .ref (Ma 13), .ref (Ma 14), .ref (Ma 15), .ref (Ma 16), .long (Mj 0), .ref (Ma 17), .ref (Ma 18), .ref (Ma 19), .ref (Ma 20)])), ((Ma 1), .inl (tc 2, 400, .inl (Mf 1))), ((Ma 3), .inl (tc 0, 7, .inl (Mf 3))), ((Ma 6), .inl (tc 0, 95, .inl (Mf 6))), ((Ma 10), .inl (tc 0, 126, .inl (Mf 10)))] := hD₀
  replace hS := hS₀
  clear hP₀ hD₀ hS₀
  refine lv_iconst (v := 0) hx hb dX12_book_6 (by decide) ?_
  refine lv_istore_n (lv' := [(1, .int 0), (0, .ref (Ma 0))]) hx hb dX12_book_7 rfl hl (by decide) rfl (fun ls hl₀ => ?_)
  replace hl := hl₀
  clear hl₀
  have loop_7 : ∀ (n_5 : Nat) (vy_3 : Int32) (vy_4 : Nat → Int32) (H : Heap) (locs : List Loc) (ls : Array Slot), (95 - (vy_3 : Int32).toInt).toNat < n_5 → (0 ≤ (vy_3 : Int32).toInt) → (Rd0 vy_4 vy_3) → va_P D classes [((Ma 0), .inr (12, [.ref (Ma 1), .int (Mv 0), .int (Mv 1), .ref (Ma 2), .ref (Ma 3), .ref (Ma 4), .ref (Ma 5), .ref (Ma 6), .int (Mv 2), .int (Mv 3), .int (Mv 4), .int 6, .int (Mv 6), .int (Mv 7), .int (Mv 8), .ref (Ma 7), .int (Mv 9), .ref (Ma 8), .int (Mv 10), .ref (Ma 9), .ref (Ma 10), .int (Mv 11), .int (Mv 12), .int (Mv 13), .ref (Ma 11), .int (Mv 14), .ref (Ma 12), .ref (Ma 13), .ref (Ma 14), .ref (Ma 15), .ref (Ma 16), .long (Mj 0), .ref (Ma 17), .ref (Ma 18), .ref (Ma 19), .ref (Ma 20)])), ((Ma 1), .inl (tc 2, 400, .inl (Mf 1))), ((Ma 3), .inl (tc 0, 7, .inl (Mf 3))), ((Ma 6), .inl (tc 0, 95, .inl vy_4)), ((Ma 10), .inl (tc 0, 126, .inl (Mf 10)))] H → va_D A [((Ma 0), .inr (12, [.ref (Ma 1), .int (Mv 0), .int (Mv 1), .ref (Ma 2), .ref (Ma 3), .ref (Ma 4), .ref (Ma 5), .ref (Ma 6), .int (Mv 2), .int (Mv 3), .int (Mv 4), .int 6, .int (Mv 6), .int (Mv 7), .int (Mv 8), .ref (Ma 7), .int (Mv 9), .ref (Ma 8), .int (Mv 10), .ref (Ma 9), .ref (Ma 10), .int (Mv 11), .int (Mv 12), .int (Mv 13), .ref (Ma 11), .int (Mv 14), .ref (Ma 12), .ref (Ma 13), .ref (Ma 14), .ref (Ma 15), .ref (Ma 16), .long (Mj 0), .ref (Ma 17), .ref (Ma 18), .ref (Ma 19), .ref (Ma 20)])), ((Ma 1), .inl (tc 2, 400, .inl (Mf 1))), ((Ma 3), .inl (tc 0, 7, .inl (Mf 3))), ((Ma 6), .inl (tc 0, 95, .inl vy_4)), ((Ma 10), .inl (tc 0, 126, .inl (Mf 10)))] → va_S A s.heap H locs → lv_has ls 2 [(1, .int vy_3), (0, .ref (Ma 0))] → W p l e ({ frames := 7, cells := 0, slots := 0, locals := 158 }) s m ([.ref (Ma 0)].toArray) below meth c H locs 0 0 (MQ below (QW (fun (v : Option Value) (u : (Int32) × (Int32) × (Int32) × (Int32) × (Int32) × (Nat → Int32) × (Nat → Int32) × (Nat → Int32)) => match u with | (oo0x1, oo0x2, oo0x3, oo0x4, oo0x5, oo0x6, oo0x7, oo0x8) => ∃ r : Int32, v = some (.int r) ∧ (True) ∧ (0 ≤ (0 : Int32).toInt ∧ (0 : Int32).toInt ≤ 400) ∧ (SaidD oo0x8 999) ∧ (0 ≤ (oo0x5 : Int32).toInt ∧ (oo0x5 : Int32).toInt ≤ 20)) (BW D (fun (u : (Int32) × (Int32) × (Int32) × (Int32) × (Int32) × (Nat → Int32) × (Nat → Int32) × (Nat → Int32)) => match u with | (oo0x1, oo0x2, oo0x3, oo0x4, oo0x5, oo0x6, oo0x7, oo0x8) => [((Ma 0), .inr (12, [.ref (Ma 1), .int 0, .int (Mv 1), .ref (Ma 2), .ref (Ma 3), .ref (Ma 4), .ref (Ma 5), .ref (Ma 6), .int oo0x1, .int oo0x2, .int oo0x3, .int 6, .int 0, .int (Mv 7), .int oo0x4, .ref (Ma 7), .int (Mv 9), .ref (Ma 8), .int (Mv 10), .ref (Ma 9), .ref (Ma 10), .int (Mv 11), .int (Mv 12), .int (Mv 13), .ref (Ma 11), .int oo0x5, .ref (Ma 12), .ref (Ma 13), .ref (Ma 14), .ref (Ma 15), .ref (Ma 16), .long (Mj 0), .ref (Ma 17), .ref (Ma 18), .ref (Ma 19), .ref (Ma 20)])), ((Ma 1), .inl (tc 2, 400, .inl (Mf 1))), ((Ma 3), .inl (tc 0, 7, .inl oo0x6)), ((Ma 6), .inl (tc 0, 95, .inl oo0x7)), ((Ma 10), .inl (tc 0, 126, .inl oo0x8))]) A) A) ([.ref (Ma 0)].toArray) s 0 0 A) (F0 m 8 ls []) := by
    clear hP hD hS hl
    intro n_5
    induction n_5 with
    | zero =>
      intro vy_3 vy_4 H locs ls h1
      exact absurd h1 (Nat.not_lt_zero _)
    | succ n_5 ih_6 =>
      intro vy_3 vy_4 H locs ls hn_10 pf_8 pf_9 hP hD hS hl
      refine lv_iload_n hx hb dX12_book_8 rfl (lv_at hl 0 rfl) ?_
      refine lv_bipush (v := 95) hx hb dX12_book_9 (by decide) ?_
      refine lv_icmp_ge (tgt := 27) hx hb dX12_book_11 (by decide) (fun c_11 => ?_) (fun c_11 => ?_)
      · skip
        refine lv_aload_n hx hb dX12_book_27 rfl (lv_at hl 1 rfl) ?_
        have hr_12 : 95 ≤ (vy_3 : Int32).toInt := by
          have z_1 := Int32.le_iff_toInt_le.mp c_11
          have y_95 : (95 : Int32).toInt = 95 := by decide
          omega
        refine cV (a := (Ma 0)) (As := []) (rest := []) (wr := [((Ma 10), .inl (tc 0, 126, .inl (Mf 10)))]) ⟨hx, hb, hml, hown, hts⟩ hK hX hA (cu_X12_readsAll_b l D tc sk (Ma 0) (Ma 1) (Ma 2) (Ma 3) (Ma 4) (Ma 5) (Ma 6) (Ma 7) (Ma 8) (Ma 9) (Ma 10) (Ma 11) (Ma 12) (Ma 13) (Ma 14) (Ma 15) (Ma 16) (Ma 17) (Ma 18) (Ma 19) (Ma 20) (Mv 0) (Mv 1) (Mv 2) (Mv 3) (Mv 4) (Mv 6) (Mv 7) (Mv 8) (Mv 9) (Mv 10) (Mv 11) (Mv 12) (Mv 13) (Mv 14) (Mf 1) (Mf 3) vy_4 (Mj 0) h_tp (Rd0.done pf_9 hr_12)) k_1203 k_1200 k_1202 k_25 k_106 pl_X12_readsAll ⟨Nat.le_of_ble_eq_true rfl, Nat.le_of_ble_eq_true rfl⟩ rfl rfl (va_recv hK hP (ci := 12) (q0 := 0) rfl rfl) hP hD hS [0, 1, 2, 3] [4] rfl rfl rfl rfl rfl (by decide) rfl hl.1 rfl (Nat.le_of_ble_eq_true rfl) dX12_book_28 ⟨Nat.le_of_ble_eq_true rfl, Nat.le_of_ble_eq_true rfl⟩ (fun v_13 u_14 H locs hv_15 hP₀ hD₀ hS₀ => ?_)
        obtain ⟨sv_16, sv_17, sv_18, sv_19, sv_20, sv_21⟩ := u_14
        obtain ⟨r_22, rfl, he_23, hm_25⟩ := hv_15
        have he_23 : (r_22.toInt = 0 ∨ r_22.toInt = 1) := he_23
        refine W.eq (g2 := F0 m 31 ls [.int r_22]) rfl ?_
        replace hP : va_P D classes [((Ma 10), .inl (tc 0, 126, .inl (Mf 10))), ((Ma 0), .inr (12, [.ref (Ma 1), .int 0, .int (Mv 1), .ref (Ma 2), .ref (Ma 3), .ref (Ma 4), .ref (Ma 5), .ref (Ma 6), .int sv_16, .int sv_17, .int sv_18, .int 6, .int 0, .int (Mv 7), .int sv_19, .ref (Ma 7), .int (Mv 9), .ref (Ma 8), .int (Mv 10), .ref (Ma 9), .ref (Ma 10), .int (Mv 11), .int (Mv 12), .int (Mv 13), .ref (Ma 11), .int (Mv 14), .ref (Ma 12), .ref (Ma 13), .ref (Ma 14), .ref (Ma 15), .ref (Ma 16), .long (Mj 0), .ref (Ma 17), .ref (Ma 18), .ref (Ma 19), .ref (Ma 20)])), ((Ma 1), .inl (tc 2, 400, .inl (Mf 1))), ((Ma 3), .inl (tc 0, 7, .inl sv_20)), ((Ma 6), .inl (tc 0, 95, .inl sv_21))] H := hP₀
        replace hD : va_D A [((Ma 10), .inl (tc 0, 126, .inl (Mf 10))), ((Ma 0), .inr (12, [.ref (Ma 1), .int 0, .int (Mv 1), .ref (Ma 2), .ref (Ma 3), .ref (Ma 4), .ref (Ma 5), .ref (Ma 6), .int sv_16, .int sv_17, .int sv_18, .int 6, .int 0, .int (Mv 7), .int sv_19, .ref (Ma 7), .int (Mv 9), .ref (Ma 8), .int (Mv 10), .ref (Ma 9), .ref (Ma 10), .int (Mv 11), .int (Mv 12), .int (Mv 13), .ref (Ma 11), .int (Mv 14), .ref (Ma 12), .ref (Ma 13), .ref (Ma 14), .ref (Ma 15), .ref (Ma 16), .long (Mj 0), .ref (Ma 17), .ref (Ma 18), .ref (Ma 19), .ref (Ma 20)])), ((Ma 1), .inl (tc 2, 400, .inl (Mf 1))), ((Ma 3), .inl (tc 0, 7, .inl sv_20)), ((Ma 6), .inl (tc 0, 95, .inl sv_21))] := hD₀
        replace hS := hS₀
        clear hP₀ hD₀ hS₀
        refine lv_if_ne (tgt := 42) hx hb dX12_book_31 (by decide) (fun c_26 => ?_) (fun c_26 => ?_)
        · skip
          have hz_28 : (r_22 : Int32).toInt = 1 := by
            have z_1 := Int32.le_iff_toInt_le.mp c_11
            have z_2 : ¬ (r_22 : Int32).toInt = (0 : Int32).toInt := fun z => c_26 (Int32.toInt_inj.mp z)
            have y_0 : (0 : Int32).toInt = 0 := by decide
            have y_95 : (95 : Int32).toInt = 95 := by decide
            omega
          obtain pf_27 := hm_25 hz_28
          have pf_27 : RdO sv_21 := pf_27
          have ar_pf_27 := RdO.ar pf_27
          refine lv_iconst (v := 0) hx hb dX12_book_42 (by decide) ?_
          refine lv_istore_n (lv' := [(1, .int 0), (0, .ref (Ma 0))]) hx hb dX12_book_43 rfl hl (by decide) rfl (fun ls hl₀ => ?_)
          replace hl := hl₀
          clear hl₀
          have loop_35 : ∀ (n_33 : Nat) (vy_31 : Int32) (vy_32 : Nat → Int32) (H : Heap) (locs : List Loc) (ls : Array Slot), (126 - (vy_31 : Int32).toInt).toNat < n_33 → (0 ≤ (vy_31 : Int32).toInt) → (SdK vy_32 sv_21 vy_31) → va_P D classes [((Ma 10), .inl (tc 0, 126, .inl vy_32)), ((Ma 0), .inr (12, [.ref (Ma 1), .int 0, .int (Mv 1), .ref (Ma 2), .ref (Ma 3), .ref (Ma 4), .ref (Ma 5), .ref (Ma 6), .int sv_16, .int sv_17, .int sv_18, .int 6, .int 0, .int (Mv 7), .int sv_19, .ref (Ma 7), .int (Mv 9), .ref (Ma 8), .int (Mv 10), .ref (Ma 9), .ref (Ma 10), .int (Mv 11), .int (Mv 12), .int (Mv 13), .ref (Ma 11), .int (Mv 14), .ref (Ma 12), .ref (Ma 13), .ref (Ma 14), .ref (Ma 15), .ref (Ma 16), .long (Mj 0), .ref (Ma 17), .ref (Ma 18), .ref (Ma 19), .ref (Ma 20)])), ((Ma 1), .inl (tc 2, 400, .inl (Mf 1))), ((Ma 3), .inl (tc 0, 7, .inl sv_20)), ((Ma 6), .inl (tc 0, 95, .inl sv_21))] H → va_D A [((Ma 10), .inl (tc 0, 126, .inl vy_32)), ((Ma 0), .inr (12, [.ref (Ma 1), .int 0, .int (Mv 1), .ref (Ma 2), .ref (Ma 3), .ref (Ma 4), .ref (Ma 5), .ref (Ma 6), .int sv_16, .int sv_17, .int sv_18, .int 6, .int 0, .int (Mv 7), .int sv_19, .ref (Ma 7), .int (Mv 9), .ref (Ma 8), .int (Mv 10), .ref (Ma 9), .ref (Ma 10), .int (Mv 11), .int (Mv 12), .int (Mv 13), .ref (Ma 11), .int (Mv 14), .ref (Ma 12), .ref (Ma 13), .ref (Ma 14), .ref (Ma 15), .ref (Ma 16), .long (Mj 0), .ref (Ma 17), .ref (Ma 18), .ref (Ma 19), .ref (Ma 20)])), ((Ma 1), .inl (tc 2, 400, .inl (Mf 1))), ((Ma 3), .inl (tc 0, 7, .inl sv_20)), ((Ma 6), .inl (tc 0, 95, .inl sv_21))] → va_S A s.heap H locs → lv_has ls 2 [(1, .int vy_31), (0, .ref (Ma 0))] → W p l e ({ frames := 7, cells := 0, slots := 0, locals := 158 }) s m ([.ref (Ma 0)].toArray) below meth c H locs 0 0 (MQ below (QW (fun (v : Option Value) (u : (Int32) × (Int32) × (Int32) × (Int32) × (Int32) × (Nat → Int32) × (Nat → Int32) × (Nat → Int32)) => match u with | (oo0x1, oo0x2, oo0x3, oo0x4, oo0x5, oo0x6, oo0x7, oo0x8) => ∃ r : Int32, v = some (.int r) ∧ (True) ∧ (0 ≤ (0 : Int32).toInt ∧ (0 : Int32).toInt ≤ 400) ∧ (SaidD oo0x8 999) ∧ (0 ≤ (oo0x5 : Int32).toInt ∧ (oo0x5 : Int32).toInt ≤ 20)) (BW D (fun (u : (Int32) × (Int32) × (Int32) × (Int32) × (Int32) × (Nat → Int32) × (Nat → Int32) × (Nat → Int32)) => match u with | (oo0x1, oo0x2, oo0x3, oo0x4, oo0x5, oo0x6, oo0x7, oo0x8) => [((Ma 0), .inr (12, [.ref (Ma 1), .int 0, .int (Mv 1), .ref (Ma 2), .ref (Ma 3), .ref (Ma 4), .ref (Ma 5), .ref (Ma 6), .int oo0x1, .int oo0x2, .int oo0x3, .int 6, .int 0, .int (Mv 7), .int oo0x4, .ref (Ma 7), .int (Mv 9), .ref (Ma 8), .int (Mv 10), .ref (Ma 9), .ref (Ma 10), .int (Mv 11), .int (Mv 12), .int (Mv 13), .ref (Ma 11), .int oo0x5, .ref (Ma 12), .ref (Ma 13), .ref (Ma 14), .ref (Ma 15), .ref (Ma 16), .long (Mj 0), .ref (Ma 17), .ref (Ma 18), .ref (Ma 19), .ref (Ma 20)])), ((Ma 1), .inl (tc 2, 400, .inl (Mf 1))), ((Ma 3), .inl (tc 0, 7, .inl oo0x6)), ((Ma 6), .inl (tc 0, 95, .inl oo0x7)), ((Ma 10), .inl (tc 0, 126, .inl oo0x8))]) A) A) ([.ref (Ma 0)].toArray) s 0 0 A) (F0 m 44 ls []) := by
            clear hP hD hS hl
            intro n_33
            induction n_33 with
            | zero =>
              intro vy_31 vy_32 H locs ls h1
              exact absurd h1 (Nat.not_lt_zero _)
            | succ n_33 ih_34 =>
              intro vy_31 vy_32 H locs ls hn_38 pf_36 pf_37 hP hD hS hl
              refine lv_iload_n hx hb dX12_book_44 rfl (lv_at hl 0 rfl) ?_
              refine lv_bipush (v := 126) hx hb dX12_book_45 (by decide) ?_
              refine lv_icmp_ge (tgt := 78) hx hb dX12_book_47 (by decide) (fun c_39 => ?_) (fun c_39 => ?_)
              · skip
                refine lv_aload_n hx hb dX12_book_78 rfl (lv_at hl 1 rfl) ?_
                have hr_40 : 126 ≤ (vy_31 : Int32).toInt := by
                  have z_1 := Int32.le_iff_toInt_le.mp c_11
                  have z_2 : ¬ (r_22 : Int32).toInt = (0 : Int32).toInt := fun z => c_26 (Int32.toInt_inj.mp z)
                  have z_3 := Int32.le_iff_toInt_le.mp c_39
                  have y_0 : (0 : Int32).toInt = 0 := by decide
                  have y_95 : (95 : Int32).toInt = 95 := by decide
                  have y_126 : (126 : Int32).toInt = 126 := by decide
                  omega
                refine cV (a := (Ma 0)) (As := []) (rest := []) (wr := [((Ma 1), .inl (tc 2, 400, .inl (Mf 1))), ((Ma 3), .inl (tc 0, 7, .inl sv_20)), ((Ma 6), .inl (tc 0, 95, .inl sv_21))]) ⟨hx, hb, hml, hown, hts⟩ hK hX hA (cu_X12_begins l D tc sk (Ma 0) (Ma 1) (Ma 2) (Ma 3) (Ma 4) (Ma 5) (Ma 6) (Ma 7) (Ma 8) (Ma 9) (Ma 10) (Ma 11) (Ma 12) (Ma 13) (Ma 14) (Ma 15) (Ma 16) (Ma 17) (Ma 18) (Ma 19) (Ma 20) 0 (Mv 1) sv_16 sv_17 sv_18 6 0 (Mv 7) sv_19 (Mv 9) (Mv 10) (Mv 11) (Mv 12) (Mv 13) (Mv 14) vy_32 (Mj 0) (SdK.done pf_37 pf_27 hr_40)) k_1359 k_1356 k_1358 k_56 k_106 pl_X12_begins ⟨Nat.le_of_ble_eq_true rfl, Nat.le_of_ble_eq_true rfl⟩ rfl rfl (va_recv hK hP (ci := 12) (q0 := 1) rfl rfl) hP hD hS [1, 0] [2, 3, 4] rfl rfl rfl rfl rfl (by decide) rfl hl.1 rfl (Nat.le_of_ble_eq_true rfl) dX12_book_79 ⟨Nat.le_of_ble_eq_true rfl, Nat.le_of_ble_eq_true rfl⟩ (fun v_41 u_42 H locs hv_43 hP₀ hD₀ hS₀ => ?_)
                obtain ⟨sv_44, rfl⟩ : ∃ z, z = u_42 := ⟨_, rfl⟩
                obtain ⟨rfl, pf_45⟩ := hv_43
                have pf_45 : SaidD sv_44 0 := pf_45
                have ar_pf_45 := SaidD.al pf_45
                refine W.eq (g2 := F0 m 82 ls []) rfl ?_
                replace hP : va_P D classes [((Ma 1), .inl (tc 2, 400, .inl (Mf 1))), ((Ma 3), .inl (tc 0, 7, .inl sv_20)), ((Ma 6), .inl (tc 0, 95, .inl sv_21)), ((Ma 0), .inr (12, [.ref (Ma 1), .int 0, .int (Mv 1), .ref (Ma 2), .ref (Ma 3), .ref (Ma 4), .ref (Ma 5), .ref (Ma 6), .int sv_16, .int sv_17, .int sv_18, .int 6, .int 0, .int (Mv 7), .int sv_19, .ref (Ma 7), .int (Mv 9), .ref (Ma 8), .int (Mv 10), .ref (Ma 9), .ref (Ma 10), .int (Mv 11), .int (Mv 12), .int (Mv 13), .ref (Ma 11), .int (Mv 14), .ref (Ma 12), .ref (Ma 13), .ref (Ma 14), .ref (Ma 15), .ref (Ma 16), .long (Mj 0), .ref (Ma 17), .ref (Ma 18), .ref (Ma 19), .ref (Ma 20)])), ((Ma 10), .inl (tc 0, 126, .inl sv_44))] H := hP₀
                replace hD : va_D A [((Ma 1), .inl (tc 2, 400, .inl (Mf 1))), ((Ma 3), .inl (tc 0, 7, .inl sv_20)), ((Ma 6), .inl (tc 0, 95, .inl sv_21)), ((Ma 0), .inr (12, [.ref (Ma 1), .int 0, .int (Mv 1), .ref (Ma 2), .ref (Ma 3), .ref (Ma 4), .ref (Ma 5), .ref (Ma 6), .int sv_16, .int sv_17, .int sv_18, .int 6, .int 0, .int (Mv 7), .int sv_19, .ref (Ma 7), .int (Mv 9), .ref (Ma 8), .int (Mv 10), .ref (Ma 9), .ref (Ma 10), .int (Mv 11), .int (Mv 12), .int (Mv 13), .ref (Ma 11), .int (Mv 14), .ref (Ma 12), .ref (Ma 13), .ref (Ma 14), .ref (Ma 15), .ref (Ma 16), .long (Mj 0), .ref (Ma 17), .ref (Ma 18), .ref (Ma 19), .ref (Ma 20)])), ((Ma 10), .inl (tc 0, 126, .inl sv_44))] := hD₀
                replace hS := hS₀
                clear hP₀ hD₀ hS₀
                refine lv_aload_n hx hb dX12_book_82 rfl (lv_at hl 1 rfl) ?_
                refine lv_iconst (v := 0) hx hb dX12_book_83 (by decide) ?_
                refine pf_X12_265 hx hb hts hown hK hP hD hS 3 rfl (Nat.le_of_ble_eq_true rfl) rfl rfl dX12_book_84 (fun H locs hP₀ hD₀ hS₀ => ?_)
                replace hP : va_P D classes [((Ma 1), .inl (tc 2, 400, .inl (Mf 1))), ((Ma 3), .inl (tc 0, 7, .inl sv_20)), ((Ma 6), .inl (tc 0, 95, .inl sv_21)), ((Ma 0), .inr (12, [.ref (Ma 1), .int 0, .int (Mv 1), .ref (Ma 2), .ref (Ma 3), .ref (Ma 4), .ref (Ma 5), .ref (Ma 6), .int sv_16, .int sv_17, .int sv_18, .int 6, .int 0, .int (Mv 7), .int sv_19, .ref (Ma 7), .int (Mv 9), .ref (Ma 8), .int (Mv 10), .ref (Ma 9), .ref (Ma 10), .int (Mv 11), .int (Mv 12), .int (Mv 13), .ref (Ma 11), .int 0, .ref (Ma 12), .ref (Ma 13), .ref (Ma 14), .ref (Ma 15), .ref (Ma 16), .long (Mj 0), .ref (Ma 17), .ref (Ma 18), .ref (Ma 19), .ref (Ma 20)])), ((Ma 10), .inl (tc 0, 126, .inl sv_44))] H := hP₀
                replace hD : va_D A [((Ma 1), .inl (tc 2, 400, .inl (Mf 1))), ((Ma 3), .inl (tc 0, 7, .inl sv_20)), ((Ma 6), .inl (tc 0, 95, .inl sv_21)), ((Ma 0), .inr (12, [.ref (Ma 1), .int 0, .int (Mv 1), .ref (Ma 2), .ref (Ma 3), .ref (Ma 4), .ref (Ma 5), .ref (Ma 6), .int sv_16, .int sv_17, .int sv_18, .int 6, .int 0, .int (Mv 7), .int sv_19, .ref (Ma 7), .int (Mv 9), .ref (Ma 8), .int (Mv 10), .ref (Ma 9), .ref (Ma 10), .int (Mv 11), .int (Mv 12), .int (Mv 13), .ref (Ma 11), .int 0, .ref (Ma 12), .ref (Ma 13), .ref (Ma 14), .ref (Ma 15), .ref (Ma 16), .long (Mj 0), .ref (Ma 17), .ref (Ma 18), .ref (Ma 19), .ref (Ma 20)])), ((Ma 10), .inl (tc 0, 126, .inl sv_44))] := hD₀
                replace hS := hS₀
                clear hP₀ hD₀ hS₀
                refine lv_aload_n hx hb dX12_book_87 rfl (lv_at hl 1 rfl) ?_
                refine gf_X12_39 hx hb hts hown hK hP 3 rfl rfl dX12_book_88 ?_
                refine lv_iconst (v := 3) hx hb dX12_book_91 (by decide) ?_
                refine va_iald hx hb hK hP 4 0 rfl rfl (vin_dec (by decide +kernel)) dX12_book_92 ?_
                refine lv_topi (fun x_46 ex_46 => ?_)
                have lx_46 : x_46.toInt = (sv_44 3).toInt := congrArg Int32.toInt ex_46
                have ha_47 : 0 ≤ (0 : Int32).toInt ∧ (0 : Int32).toInt ≤ 400 := by
                  have z_1 := Int32.le_iff_toInt_le.mp c_11
                  have z_2 : ¬ (r_22 : Int32).toInt = (0 : Int32).toInt := fun z => c_26 (Int32.toInt_inj.mp z)
                  have z_3 := Int32.le_iff_toInt_le.mp c_39
                  have y_0 : (0 : Int32).toInt = 0 := by decide
                  have y_95 : (95 : Int32).toInt = 95 := by decide
                  have y_126 : (126 : Int32).toInt = 126 := by decide
                  refine ⟨?_, ?_⟩ <;> omega
                have ha_48 : (0 : Int) ≤ 999 := by
                  have z_1 := Int32.le_iff_toInt_le.mp c_11
                  have z_2 : ¬ (r_22 : Int32).toInt = (0 : Int32).toInt := fun z => c_26 (Int32.toInt_inj.mp z)
                  have z_3 := Int32.le_iff_toInt_le.mp c_39
                  have y_0 : (0 : Int32).toInt = 0 := by decide
                  have y_95 : (95 : Int32).toInt = 95 := by decide
                  have y_126 : (126 : Int32).toInt = 126 := by decide
                  omega
                have ha_49 : 0 ≤ (0 : Int32).toInt ∧ (0 : Int32).toInt ≤ 20 := by
                  have z_1 := Int32.le_iff_toInt_le.mp c_11
                  have z_2 : ¬ (r_22 : Int32).toInt = (0 : Int32).toInt := fun z => c_26 (Int32.toInt_inj.mp z)
                  have z_3 := Int32.le_iff_toInt_le.mp c_39
                  have y_0 : (0 : Int32).toInt = 0 := by decide
                  have y_95 : (95 : Int32).toInt = 95 := by decide
                  have y_126 : (126 : Int32).toInt = 126 := by decide
                  refine ⟨?_, ?_⟩ <;> omega
                exact retI (v := x_46) hx hb hr hlk (rfl) hP hD hS (sv_16, sv_17, sv_18, sv_19, 0, sv_20, sv_21, sv_44) ⟨_, rfl, trivial, ha_47, (SaidD.mono pf_45 ha_48), ha_49⟩ [3, 0, 1, 2, 4] rfl rfl dX12_book_93 (Nat.le_of_ble_eq_true rfl) (Nat.le_of_ble_eq_true rfl) rfl
              · skip
                refine lv_aload_n hx hb dX12_book_50 rfl (lv_at hl 1 rfl) ?_
                refine gf_X12_39 hx hb hts hown hK hP 1 rfl rfl dX12_book_51 ?_
                refine lv_iload_n hx hb dX12_book_54 rfl (lv_at hl 0 rfl) ?_
                refine lv_iload_n hx hb dX12_book_55 rfl (lv_at hl 0 rfl) ?_
                refine lv_bipush (v := 95) hx hb dX12_book_56 (by decide) ?_
                refine lv_icmp_ge (tgt := 70) hx hb dX12_book_58 (by decide) (fun c_50 => ?_) (fun c_50 => ?_)
                · skip
                  refine lv_iconst (v := 0) hx hb dX12_book_70 (by decide) ?_
                  have hi_51 : vp_in vy_31 126 := by
                    have z_1 := Int32.le_iff_toInt_le.mp c_11
                    have z_2 : ¬ (r_22 : Int32).toInt = (0 : Int32).toInt := fun z => c_26 (Int32.toInt_inj.mp z)
                    have z_3 := Int32.lt_iff_toInt_lt.mp (Int32.not_le.mp c_39)
                    have z_4 := Int32.le_iff_toInt_le.mp c_50
                    have y_0 : (0 : Int32).toInt = 0 := by decide
                    have y_95 : (95 : Int32).toInt = 95 := by decide
                    have y_126 : (126 : Int32).toInt = 126 := by decide
                    refine vp_in_iff.mpr ⟨?_, ?_⟩ <;> omega
                  refine st_int hx hb hK hP hD hS 0 0 rfl rfl hi_51 dX12_book_71 (fun g_52 H locs eg_52 hP₀ hD₀ hS₀ => ?_)
                  replace hP : va_P D classes [((Ma 10), .inl (tc 0, 126, .inl g_52)), ((Ma 0), .inr (12, [.ref (Ma 1), .int 0, .int (Mv 1), .ref (Ma 2), .ref (Ma 3), .ref (Ma 4), .ref (Ma 5), .ref (Ma 6), .int sv_16, .int sv_17, .int sv_18, .int 6, .int 0, .int (Mv 7), .int sv_19, .ref (Ma 7), .int (Mv 9), .ref (Ma 8), .int (Mv 10), .ref (Ma 9), .ref (Ma 10), .int (Mv 11), .int (Mv 12), .int (Mv 13), .ref (Ma 11), .int (Mv 14), .ref (Ma 12), .ref (Ma 13), .ref (Ma 14), .ref (Ma 15), .ref (Ma 16), .long (Mj 0), .ref (Ma 17), .ref (Ma 18), .ref (Ma 19), .ref (Ma 20)])), ((Ma 1), .inl (tc 2, 400, .inl (Mf 1))), ((Ma 3), .inl (tc 0, 7, .inl sv_20)), ((Ma 6), .inl (tc 0, 95, .inl sv_21))] H := hP₀
                  replace hD : va_D A [((Ma 10), .inl (tc 0, 126, .inl g_52)), ((Ma 0), .inr (12, [.ref (Ma 1), .int 0, .int (Mv 1), .ref (Ma 2), .ref (Ma 3), .ref (Ma 4), .ref (Ma 5), .ref (Ma 6), .int sv_16, .int sv_17, .int sv_18, .int 6, .int 0, .int (Mv 7), .int sv_19, .ref (Ma 7), .int (Mv 9), .ref (Ma 8), .int (Mv 10), .ref (Ma 9), .ref (Ma 10), .int (Mv 11), .int (Mv 12), .int (Mv 13), .ref (Ma 11), .int (Mv 14), .ref (Ma 12), .ref (Ma 13), .ref (Ma 14), .ref (Ma 15), .ref (Ma 16), .long (Mj 0), .ref (Ma 17), .ref (Ma 18), .ref (Ma 19), .ref (Ma 20)])), ((Ma 1), .inl (tc 2, 400, .inl (Mf 1))), ((Ma 3), .inl (tc 0, 7, .inl sv_20)), ((Ma 6), .inl (tc 0, 95, .inl sv_21))] := hD₀
                  replace hS := hS₀
                  clear hP₀ hD₀ hS₀
                  obtain ⟨x_53, ex_53⟩ : ∃ y : Int32, y = vy_31 + 1 := ⟨_, rfl⟩
                  refine lv_iinc (v := x_53) (lv' := [(1, .int x_53), (0, .ref (Ma 0))]) hx hb dX12_book_72 hl (k := 0) rfl (by rw [ex_53]; rfl) (by decide) rfl (fun ls hl₀ => ?_)
                  replace hl := hl₀
                  clear hl₀
                  refine lv_goto (tgt := 44) hx hb dX12_book_75 (by decide) ?_
                  have hb_54 : 126 - (x_53 : Int32).toInt < 126 - (vy_31 : Int32).toInt ∧ 1 ≤ 126 - (vy_31 : Int32).toInt := by
                    have z_1 := Int32.le_iff_toInt_le.mp c_11
                    have z_2 : ¬ (r_22 : Int32).toInt = (0 : Int32).toInt := fun z => c_26 (Int32.toInt_inj.mp z)
                    have z_3 := Int32.lt_iff_toInt_lt.mp (Int32.not_le.mp c_39)
                    have z_4 := Int32.le_iff_toInt_le.mp c_50
                    have y_0 : (0 : Int32).toInt = 0 := by decide
                    have y_95 : (95 : Int32).toInt = 95 := by decide
                    have y_126 : (126 : Int32).toInt = 126 := by decide
                    have y_1 : (1 : Int32).toInt = 1 := by decide
                    have t_x_53 : x_53.toInt = (vy_31 : Int32).toInt + (1 : Int32).toInt := by rw [ex_53]; exact add_toInt (by omega) (by omega)
                    refine ⟨?_, ?_⟩ <;> omega
                  have ha_55 : 0 ≤ (x_53 : Int32).toInt := by
                    have z_1 := Int32.le_iff_toInt_le.mp c_11
                    have z_2 : ¬ (r_22 : Int32).toInt = (0 : Int32).toInt := fun z => c_26 (Int32.toInt_inj.mp z)
                    have z_3 := Int32.lt_iff_toInt_lt.mp (Int32.not_le.mp c_39)
                    have z_4 := Int32.le_iff_toInt_le.mp c_50
                    have y_0 : (0 : Int32).toInt = 0 := by decide
                    have y_95 : (95 : Int32).toInt = 95 := by decide
                    have y_126 : (126 : Int32).toInt = 126 := by decide
                    have y_1 : (1 : Int32).toInt = 1 := by decide
                    have t_x_53 : x_53.toInt = (vy_31 : Int32).toInt + (1 : Int32).toInt := by rw [ex_53]; exact add_toInt (by omega) (by omega)
                    omega
                  have hr_56 : 95 ≤ (vy_31 : Int32).toInt := by
                    have z_1 := Int32.le_iff_toInt_le.mp c_11
                    have z_2 : ¬ (r_22 : Int32).toInt = (0 : Int32).toInt := fun z => c_26 (Int32.toInt_inj.mp z)
                    have z_3 := Int32.lt_iff_toInt_lt.mp (Int32.not_le.mp c_39)
                    have z_4 := Int32.le_iff_toInt_le.mp c_50
                    have y_0 : (0 : Int32).toInt = 0 := by decide
                    have y_95 : (95 : Int32).toInt = 95 := by decide
                    have y_126 : (126 : Int32).toInt = 126 := by decide
                    omega
                  have hi_57 : (x_53 : Int32).toInt = (vy_31 : Int32).toInt + 1 := by
                    have z_1 := Int32.le_iff_toInt_le.mp c_11
                    have z_2 : ¬ (r_22 : Int32).toInt = (0 : Int32).toInt := fun z => c_26 (Int32.toInt_inj.mp z)
                    have z_3 := Int32.lt_iff_toInt_lt.mp (Int32.not_le.mp c_39)
                    have z_4 := Int32.le_iff_toInt_le.mp c_50
                    have y_0 : (0 : Int32).toInt = 0 := by decide
                    have y_95 : (95 : Int32).toInt = 95 := by decide
                    have y_126 : (126 : Int32).toInt = 126 := by decide
                    have y_1 : (1 : Int32).toInt = 1 := by decide
                    have t_x_53 : x_53.toInt = (vy_31 : Int32).toInt + (1 : Int32).toInt := by rw [ex_53]; exact add_toInt (by omega) (by omega)
                    omega
                  have hr_58 : 0 ≤ (vy_31 : Int32).toInt := by
                    have z_1 := Int32.le_iff_toInt_le.mp c_11
                    have z_2 : ¬ (r_22 : Int32).toInt = (0 : Int32).toInt := fun z => c_26 (Int32.toInt_inj.mp z)
                    have z_3 := Int32.lt_iff_toInt_lt.mp (Int32.not_le.mp c_39)
                    have z_4 := Int32.le_iff_toInt_le.mp c_50
                    have y_0 : (0 : Int32).toInt = 0 := by decide
                    have y_95 : (95 : Int32).toInt = 95 := by decide
                    have y_126 : (126 : Int32).toInt = 126 := by decide
                    omega
                  exact ih_34 x_53 g_52 _ _ _ (by omega) ha_55 (SdK.step pf_37 eg_52 (Or.inr ⟨hr_56, by decide⟩) hi_57 hr_58) (hP.sub [0, 1, 2, 3, 4] rfl) (hD.sub [0, 1, 2, 3, 4] rfl rfl) hS (lv_sub hl [0, 1] rfl)
                · skip
                  refine lv_aload_n hx hb dX12_book_61 rfl (lv_at hl 1 rfl) ?_
                  refine gf_X12_26 hx hb hts hown hK hP 1 rfl rfl dX12_book_62 ?_
                  refine lv_iload_n hx hb dX12_book_65 rfl (lv_at hl 0 rfl) ?_
                  have hi_59 : vp_in vy_31 95 := by
                    have z_1 := Int32.le_iff_toInt_le.mp c_11
                    have z_2 : ¬ (r_22 : Int32).toInt = (0 : Int32).toInt := fun z => c_26 (Int32.toInt_inj.mp z)
                    have z_3 := Int32.lt_iff_toInt_lt.mp (Int32.not_le.mp c_39)
                    have z_4 := Int32.lt_iff_toInt_lt.mp (Int32.not_le.mp c_50)
                    have y_0 : (0 : Int32).toInt = 0 := by decide
                    have y_95 : (95 : Int32).toInt = 95 := by decide
                    have y_126 : (126 : Int32).toInt = 126 := by decide
                    refine vp_in_iff.mpr ⟨?_, ?_⟩ <;> omega
                  refine va_iald hx hb hK hP 4 0 rfl rfl hi_59 dX12_book_66 ?_
                  refine lv_topi (fun x_60 ex_60 => ?_)
                  refine lv_goto (tgt := 71) hx hb dX12_book_67 (by decide) ?_
                  have hi_61 : vp_in vy_31 126 := by
                    have z_1 := Int32.le_iff_toInt_le.mp c_11
                    have z_2 : ¬ (r_22 : Int32).toInt = (0 : Int32).toInt := fun z => c_26 (Int32.toInt_inj.mp z)
                    have z_3 := Int32.lt_iff_toInt_lt.mp (Int32.not_le.mp c_39)
                    have z_4 := Int32.lt_iff_toInt_lt.mp (Int32.not_le.mp c_50)
                    have y_0 : (0 : Int32).toInt = 0 := by decide
                    have y_95 : (95 : Int32).toInt = 95 := by decide
                    have y_126 : (126 : Int32).toInt = 126 := by decide
                    refine vp_in_iff.mpr ⟨?_, ?_⟩ <;> omega
                  refine st_int hx hb hK hP hD hS 0 0 rfl rfl hi_61 dX12_book_71 (fun g_62 H locs eg_62 hP₀ hD₀ hS₀ => ?_)
                  replace hP : va_P D classes [((Ma 10), .inl (tc 0, 126, .inl g_62)), ((Ma 0), .inr (12, [.ref (Ma 1), .int 0, .int (Mv 1), .ref (Ma 2), .ref (Ma 3), .ref (Ma 4), .ref (Ma 5), .ref (Ma 6), .int sv_16, .int sv_17, .int sv_18, .int 6, .int 0, .int (Mv 7), .int sv_19, .ref (Ma 7), .int (Mv 9), .ref (Ma 8), .int (Mv 10), .ref (Ma 9), .ref (Ma 10), .int (Mv 11), .int (Mv 12), .int (Mv 13), .ref (Ma 11), .int (Mv 14), .ref (Ma 12), .ref (Ma 13), .ref (Ma 14), .ref (Ma 15), .ref (Ma 16), .long (Mj 0), .ref (Ma 17), .ref (Ma 18), .ref (Ma 19), .ref (Ma 20)])), ((Ma 1), .inl (tc 2, 400, .inl (Mf 1))), ((Ma 3), .inl (tc 0, 7, .inl sv_20)), ((Ma 6), .inl (tc 0, 95, .inl sv_21))] H := hP₀
                  replace hD : va_D A [((Ma 10), .inl (tc 0, 126, .inl g_62)), ((Ma 0), .inr (12, [.ref (Ma 1), .int 0, .int (Mv 1), .ref (Ma 2), .ref (Ma 3), .ref (Ma 4), .ref (Ma 5), .ref (Ma 6), .int sv_16, .int sv_17, .int sv_18, .int 6, .int 0, .int (Mv 7), .int sv_19, .ref (Ma 7), .int (Mv 9), .ref (Ma 8), .int (Mv 10), .ref (Ma 9), .ref (Ma 10), .int (Mv 11), .int (Mv 12), .int (Mv 13), .ref (Ma 11), .int (Mv 14), .ref (Ma 12), .ref (Ma 13), .ref (Ma 14), .ref (Ma 15), .ref (Ma 16), .long (Mj 0), .ref (Ma 17), .ref (Ma 18), .ref (Ma 19), .ref (Ma 20)])), ((Ma 1), .inl (tc 2, 400, .inl (Mf 1))), ((Ma 3), .inl (tc 0, 7, .inl sv_20)), ((Ma 6), .inl (tc 0, 95, .inl sv_21))] := hD₀
                  replace hS := hS₀
                  clear hP₀ hD₀ hS₀
                  obtain ⟨x_63, ex_63⟩ : ∃ y : Int32, y = vy_31 + 1 := ⟨_, rfl⟩
                  refine lv_iinc (v := x_63) (lv' := [(1, .int x_63), (0, .ref (Ma 0))]) hx hb dX12_book_72 hl (k := 0) rfl (by rw [ex_63]; rfl) (by decide) rfl (fun ls hl₀ => ?_)
                  replace hl := hl₀
                  clear hl₀
                  refine lv_goto (tgt := 44) hx hb dX12_book_75 (by decide) ?_
                  have hb_64 : 126 - (x_63 : Int32).toInt < 126 - (vy_31 : Int32).toInt ∧ 1 ≤ 126 - (vy_31 : Int32).toInt := by
                    have z_1 := Int32.le_iff_toInt_le.mp c_11
                    have z_2 : ¬ (r_22 : Int32).toInt = (0 : Int32).toInt := fun z => c_26 (Int32.toInt_inj.mp z)
                    have z_3 := Int32.lt_iff_toInt_lt.mp (Int32.not_le.mp c_39)
                    have z_4 := Int32.lt_iff_toInt_lt.mp (Int32.not_le.mp c_50)
                    have y_0 : (0 : Int32).toInt = 0 := by decide
                    have y_95 : (95 : Int32).toInt = 95 := by decide
                    have y_126 : (126 : Int32).toInt = 126 := by decide
                    have y_1 : (1 : Int32).toInt = 1 := by decide
                    have t_x_63 : x_63.toInt = (vy_31 : Int32).toInt + (1 : Int32).toInt := by rw [ex_63]; exact add_toInt (by omega) (by omega)
                    refine ⟨?_, ?_⟩ <;> omega
                  have ha_65 : 0 ≤ (x_63 : Int32).toInt := by
                    have z_1 := Int32.le_iff_toInt_le.mp c_11
                    have z_2 : ¬ (r_22 : Int32).toInt = (0 : Int32).toInt := fun z => c_26 (Int32.toInt_inj.mp z)
                    have z_3 := Int32.lt_iff_toInt_lt.mp (Int32.not_le.mp c_39)
                    have z_4 := Int32.lt_iff_toInt_lt.mp (Int32.not_le.mp c_50)
                    have y_0 : (0 : Int32).toInt = 0 := by decide
                    have y_95 : (95 : Int32).toInt = 95 := by decide
                    have y_126 : (126 : Int32).toInt = 126 := by decide
                    have y_1 : (1 : Int32).toInt = 1 := by decide
                    have t_x_63 : x_63.toInt = (vy_31 : Int32).toInt + (1 : Int32).toInt := by rw [ex_63]; exact add_toInt (by omega) (by omega)
                    omega
                  have hr_66 : (vy_31 : Int32).toInt < 95 := by
                    have z_1 := Int32.le_iff_toInt_le.mp c_11
                    have z_2 : ¬ (r_22 : Int32).toInt = (0 : Int32).toInt := fun z => c_26 (Int32.toInt_inj.mp z)
                    have z_3 := Int32.lt_iff_toInt_lt.mp (Int32.not_le.mp c_39)
                    have z_4 := Int32.lt_iff_toInt_lt.mp (Int32.not_le.mp c_50)
                    have y_0 : (0 : Int32).toInt = 0 := by decide
                    have y_95 : (95 : Int32).toInt = 95 := by decide
                    have y_126 : (126 : Int32).toInt = 126 := by decide
                    omega
                  have hi_67 : (x_63 : Int32).toInt = (vy_31 : Int32).toInt + 1 := by
                    have z_1 := Int32.le_iff_toInt_le.mp c_11
                    have z_2 : ¬ (r_22 : Int32).toInt = (0 : Int32).toInt := fun z => c_26 (Int32.toInt_inj.mp z)
                    have z_3 := Int32.lt_iff_toInt_lt.mp (Int32.not_le.mp c_39)
                    have z_4 := Int32.lt_iff_toInt_lt.mp (Int32.not_le.mp c_50)
                    have y_0 : (0 : Int32).toInt = 0 := by decide
                    have y_95 : (95 : Int32).toInt = 95 := by decide
                    have y_126 : (126 : Int32).toInt = 126 := by decide
                    have y_1 : (1 : Int32).toInt = 1 := by decide
                    have t_x_63 : x_63.toInt = (vy_31 : Int32).toInt + (1 : Int32).toInt := by rw [ex_63]; exact add_toInt (by omega) (by omega)
                    omega
                  have hr_68 : 0 ≤ (vy_31 : Int32).toInt := by
                    have z_1 := Int32.le_iff_toInt_le.mp c_11
                    have z_2 : ¬ (r_22 : Int32).toInt = (0 : Int32).toInt := fun z => c_26 (Int32.toInt_inj.mp z)
                    have z_3 := Int32.lt_iff_toInt_lt.mp (Int32.not_le.mp c_39)
                    have z_4 := Int32.lt_iff_toInt_lt.mp (Int32.not_le.mp c_50)
                    have y_0 : (0 : Int32).toInt = 0 := by decide
                    have y_95 : (95 : Int32).toInt = 95 := by decide
                    have y_126 : (126 : Int32).toInt = 126 := by decide
                    omega
                  exact ih_34 x_63 g_62 _ _ _ (by omega) ha_65 (SdK.step pf_37 eg_62 (Or.inl ⟨hr_66, ex_60⟩) hi_67 hr_68) (hP.sub [0, 1, 2, 3, 4] rfl) (hD.sub [0, 1, 2, 3, 4] rfl rfl) hS (lv_sub hl [0, 1] rfl)
          have ha_69 : 0 ≤ (0 : Int32).toInt := by
            have z_1 := Int32.le_iff_toInt_le.mp c_11
            have z_2 : ¬ (r_22 : Int32).toInt = (0 : Int32).toInt := fun z => c_26 (Int32.toInt_inj.mp z)
            have y_0 : (0 : Int32).toInt = 0 := by decide
            have y_95 : (95 : Int32).toInt = 95 := by decide
            omega
          have ha_70 : SdK (Mf 10) sv_21 0 := fun i hi => absurd hi (by have h0z : (0 : Int32).toInt = 0 := (by decide); omega)
          exact loop_35 _ 0 (Mf 10) _ _ _ (Nat.lt_succ_self _) ha_69 ha_70 hP hD hS hl
        · skip
          refine lv_bipush (v := (-2)) hx hb dX12_book_34 (by decide) ?_
          refine lv_aload_n hx hb dX12_book_36 rfl (lv_at hl 1 rfl) ?_
          refine gf_X12_84 hx hb hts hown hK hP 1 rfl rfl dX12_book_37 ?_
          refine lv_isub hx hb dX12_book_40 ?_
          refine lv_topi (fun x_71 ex_71 => ?_)
          have ha_72 : 0 ≤ (0 : Int32).toInt ∧ (0 : Int32).toInt ≤ 400 := by
            have z_1 := Int32.le_iff_toInt_le.mp c_11
            have z_2 := congrArg Int32.toInt c_26
            have y_0 : (0 : Int32).toInt = 0 := by decide
            have y_95 : (95 : Int32).toInt = 95 := by decide
            refine ⟨?_, ?_⟩ <;> omega
          exact retI (v := x_71) hx hb hr hlk (rfl) hP hD hS (sv_16, sv_17, sv_18, sv_19, (Mv 14), sv_20, sv_21, (Mf 10)) ⟨_, rfl, trivial, ha_72, h_said, h_un⟩ [1, 2, 3, 4, 0] rfl rfl dX12_book_41 (Nat.le_of_ble_eq_true rfl) (Nat.le_of_ble_eq_true rfl) rfl
      · skip
        refine lv_aload_n hx hb dX12_book_14 rfl (lv_at hl 1 rfl) ?_
        refine gf_X12_26 hx hb hts hown hK hP 0 rfl rfl dX12_book_15 ?_
        refine lv_iload_n hx hb dX12_book_18 rfl (lv_at hl 0 rfl) ?_
        refine lv_iconst (v := 0) hx hb dX12_book_19 (by decide) ?_
        have hi_73 : vp_in vy_3 95 := by
          have z_1 := Int32.lt_iff_toInt_lt.mp (Int32.not_le.mp c_11)
          have y_95 : (95 : Int32).toInt = 95 := by decide
          refine vp_in_iff.mpr ⟨?_, ?_⟩ <;> omega
        refine st_int hx hb hK hP hD hS 3 0 rfl rfl hi_73 dX12_book_20 (fun g_74 H locs eg_74 hP₀ hD₀ hS₀ => ?_)
        replace hP : va_P D classes [((Ma 0), .inr (12, [.ref (Ma 1), .int (Mv 0), .int (Mv 1), .ref (Ma 2), .ref (Ma 3), .ref (Ma 4), .ref (Ma 5), .ref (Ma 6), .int (Mv 2), .int (Mv 3), .int (Mv 4), .int 6, .int (Mv 6), .int (Mv 7), .int (Mv 8), .ref (Ma 7), .int (Mv 9), .ref (Ma 8), .int (Mv 10), .ref (Ma 9), .ref (Ma 10), .int (Mv 11), .int (Mv 12), .int (Mv 13), .ref (Ma 11), .int (Mv 14), .ref (Ma 12), .ref (Ma 13), .ref (Ma 14), .ref (Ma 15), .ref (Ma 16), .long (Mj 0), .ref (Ma 17), .ref (Ma 18), .ref (Ma 19), .ref (Ma 20)])), ((Ma 1), .inl (tc 2, 400, .inl (Mf 1))), ((Ma 3), .inl (tc 0, 7, .inl (Mf 3))), ((Ma 6), .inl (tc 0, 95, .inl g_74)), ((Ma 10), .inl (tc 0, 126, .inl (Mf 10)))] H := hP₀
        replace hD : va_D A [((Ma 0), .inr (12, [.ref (Ma 1), .int (Mv 0), .int (Mv 1), .ref (Ma 2), .ref (Ma 3), .ref (Ma 4), .ref (Ma 5), .ref (Ma 6), .int (Mv 2), .int (Mv 3), .int (Mv 4), .int 6, .int (Mv 6), .int (Mv 7), .int (Mv 8), .ref (Ma 7), .int (Mv 9), .ref (Ma 8), .int (Mv 10), .ref (Ma 9), .ref (Ma 10), .int (Mv 11), .int (Mv 12), .int (Mv 13), .ref (Ma 11), .int (Mv 14), .ref (Ma 12), .ref (Ma 13), .ref (Ma 14), .ref (Ma 15), .ref (Ma 16), .long (Mj 0), .ref (Ma 17), .ref (Ma 18), .ref (Ma 19), .ref (Ma 20)])), ((Ma 1), .inl (tc 2, 400, .inl (Mf 1))), ((Ma 3), .inl (tc 0, 7, .inl (Mf 3))), ((Ma 6), .inl (tc 0, 95, .inl g_74)), ((Ma 10), .inl (tc 0, 126, .inl (Mf 10)))] := hD₀
        replace hS := hS₀
        clear hP₀ hD₀ hS₀
        obtain ⟨x_75, ex_75⟩ : ∃ y : Int32, y = vy_3 + 1 := ⟨_, rfl⟩
        refine lv_iinc (v := x_75) (lv' := [(1, .int x_75), (0, .ref (Ma 0))]) hx hb dX12_book_21 hl (k := 0) rfl (by rw [ex_75]; rfl) (by decide) rfl (fun ls hl₀ => ?_)
        replace hl := hl₀
        clear hl₀
        refine lv_goto (tgt := 8) hx hb dX12_book_24 (by decide) ?_
        have hb_76 : 95 - (x_75 : Int32).toInt < 95 - (vy_3 : Int32).toInt ∧ 1 ≤ 95 - (vy_3 : Int32).toInt := by
          have z_1 := Int32.lt_iff_toInt_lt.mp (Int32.not_le.mp c_11)
          have y_95 : (95 : Int32).toInt = 95 := by decide
          have y_1 : (1 : Int32).toInt = 1 := by decide
          have t_x_75 : x_75.toInt = (vy_3 : Int32).toInt + (1 : Int32).toInt := by rw [ex_75]; exact add_toInt (by omega) (by omega)
          refine ⟨?_, ?_⟩ <;> omega
        have ha_77 : 0 ≤ (x_75 : Int32).toInt := by
          have z_1 := Int32.lt_iff_toInt_lt.mp (Int32.not_le.mp c_11)
          have y_95 : (95 : Int32).toInt = 95 := by decide
          have y_1 : (1 : Int32).toInt = 1 := by decide
          have t_x_75 : x_75.toInt = (vy_3 : Int32).toInt + (1 : Int32).toInt := by rw [ex_75]; exact add_toInt (by omega) (by omega)
          omega
        have hi_78 : (x_75 : Int32).toInt = (vy_3 : Int32).toInt + 1 := by
          have z_1 := Int32.lt_iff_toInt_lt.mp (Int32.not_le.mp c_11)
          have y_95 : (95 : Int32).toInt = 95 := by decide
          have y_1 : (1 : Int32).toInt = 1 := by decide
          have t_x_75 : x_75.toInt = (vy_3 : Int32).toInt + (1 : Int32).toInt := by rw [ex_75]; exact add_toInt (by omega) (by omega)
          omega
        have hr_79 : 0 ≤ (vy_3 : Int32).toInt := by
          have z_1 := Int32.lt_iff_toInt_lt.mp (Int32.not_le.mp c_11)
          have y_95 : (95 : Int32).toInt = 95 := by decide
          omega
        exact ih_6 x_75 g_74 _ _ _ (by omega) ha_77 (Rd0.step pf_9 eg_74 hi_78 hr_79) (hP.sub [0, 1, 2, 3, 4] rfl) (hD.sub [0, 1, 2, 3, 4] rfl rfl) hS (lv_sub hl [0, 1] rfl)
  have ha_80 : 0 ≤ (0 : Int32).toInt := by
    have y_0 : (0 : Int32).toInt = 0 := by decide
    omega
  have ha_81 : Rd0 (Mf 6) 0 := fun i hi => absurd hi (by have h0z : (0 : Int32).toInt = 0 := (by decide); omega)
  exact loop_7 _ 0 (Mf 6) _ _ _ (Nat.lt_succ_self _) ha_80 ha_81 hP hD hS hl
set_option maxRecDepth 100000 in
theorem cu_X12_book (l : Launch) (D : va_G) (tc : Nat → ClassId) (sk : (Nat → Nat) × (Nat → Nat)) (Ma_0 : Nat) (Ma_1 : Nat) (Ma_2 : Nat) (Ma_3 : Nat) (Ma_4 : Nat) (Ma_5 : Nat) (Ma_6 : Nat) (Ma_7 : Nat) (Ma_8 : Nat) (Ma_9 : Nat) (Ma_10 : Nat) (Ma_11 : Nat) (Ma_12 : Nat) (Ma_13 : Nat) (Ma_14 : Nat) (Ma_15 : Nat) (Ma_16 : Nat) (Ma_17 : Nat) (Ma_18 : Nat) (Ma_19 : Nat) (Ma_20 : Nat) (Mv_0 : Int32) (Mv_1 : Int32) (Mv_2 : Int32) (Mv_3 : Int32) (Mv_4 : Int32) (Mv_5 : Int32) (Mv_6 : Int32) (Mv_7 : Int32) (Mv_8 : Int32) (Mv_9 : Int32) (Mv_10 : Int32) (Mv_11 : Int32) (Mv_12 : Int32) (Mv_13 : Int32) (Mv_14 : Int32) (Mf_1 : Nat → Int32) (Mf_3 : Nat → Int32) (Mf_6 : Nat → Int32) (Mf_10 : Nat → Int32) (Mj_0 : Int64) (h_tp : 0 ≤ (Mv_0 : Int32).toInt ∧ (Mv_0 : Int32).toInt ≤ 400) (h_said : SaidD Mf_10 999) (h_un : 0 ≤ (Mv_14 : Int32).toInt ∧ (Mv_14 : Int32).toInt ≤ 20) : Ct l yX12_book cX12_book 2 (some .int) { frames := 7, cells := 0, slots := 0, locals := 158 } D tc sk [.ref Ma_0] [(Ma_0, .inr (12, [.ref Ma_1, .int Mv_0, .int Mv_1, .ref Ma_2, .ref Ma_3, .ref Ma_4, .ref Ma_5, .ref Ma_6, .int Mv_2, .int Mv_3, .int Mv_4, .int Mv_5, .int Mv_6, .int Mv_7, .int Mv_8, .ref Ma_7, .int Mv_9, .ref Ma_8, .int Mv_10, .ref Ma_9, .ref Ma_10, .int Mv_11, .int Mv_12, .int Mv_13, .ref Ma_11, .int Mv_14, .ref Ma_12, .ref Ma_13, .ref Ma_14, .ref Ma_15, .ref Ma_16, .long Mj_0, .ref Ma_17, .ref Ma_18, .ref Ma_19, .ref Ma_20])), (Ma_1, .inl (tc 2, 400, .inl Mf_1)), (Ma_3, .inl (tc 0, 7, .inl Mf_3)), (Ma_6, .inl (tc 0, 95, .inl Mf_6)), (Ma_10, .inl (tc 0, 126, .inl Mf_10))] (fun (v : Option Value) (u : (Int32) × (Int32) × (Int32) × (Int32) × (Int32) × (Nat → Int32) × (Nat → Int32) × (Nat → Int32)) => match u with | (oo0x1, oo0x2, oo0x3, oo0x4, oo0x5, oo0x6, oo0x7, oo0x8) => ∃ r : Int32, v = some (.int r) ∧ (True) ∧ (0 ≤ (0 : Int32).toInt ∧ (0 : Int32).toInt ≤ 400) ∧ (SaidD oo0x8 999) ∧ (0 ≤ (oo0x5 : Int32).toInt ∧ (oo0x5 : Int32).toInt ≤ 20)) (fun (u : (Int32) × (Int32) × (Int32) × (Int32) × (Int32) × (Nat → Int32) × (Nat → Int32) × (Nat → Int32)) => match u with | (oo0x1, oo0x2, oo0x3, oo0x4, oo0x5, oo0x6, oo0x7, oo0x8) => [(Ma_0, .inr (12, [.ref Ma_1, .int 0, .int Mv_1, .ref Ma_2, .ref Ma_3, .ref Ma_4, .ref Ma_5, .ref Ma_6, .int oo0x1, .int oo0x2, .int oo0x3, .int 6, .int 0, .int Mv_7, .int oo0x4, .ref Ma_7, .int Mv_9, .ref Ma_8, .int Mv_10, .ref Ma_9, .ref Ma_10, .int Mv_11, .int Mv_12, .int Mv_13, .ref Ma_11, .int oo0x5, .ref Ma_12, .ref Ma_13, .ref Ma_14, .ref Ma_15, .ref Ma_16, .long Mj_0, .ref Ma_17, .ref Ma_18, .ref Ma_19, .ref Ma_20])), (Ma_1, .inl (tc 2, 400, .inl Mf_1)), (Ma_3, .inl (tc 0, 7, .inl oo0x6)), (Ma_6, .inl (tc 0, 95, .inl oo0x7)), (Ma_10, .inl (tc 0, 126, .inl oo0x8))]) 0 0 :=
  ct_X12_book l D tc sk (fun k => ([Ma_0, Ma_1, Ma_2, Ma_3, Ma_4, Ma_5, Ma_6, Ma_7, Ma_8, Ma_9, Ma_10, Ma_11, Ma_12, Ma_13, Ma_14, Ma_15, Ma_16, Ma_17, Ma_18, Ma_19, Ma_20] : List (Nat)).getD k 0) (fun k => ([Mv_0, Mv_1, Mv_2, Mv_3, Mv_4, Mv_5, Mv_6, Mv_7, Mv_8, Mv_9, Mv_10, Mv_11, Mv_12, Mv_13, Mv_14] : List (Int32)).getD k 0) (fun k => ([(fun _ => 0), Mf_1, (fun _ => 0), Mf_3, (fun _ => 0), (fun _ => 0), Mf_6, (fun _ => 0), (fun _ => 0), (fun _ => 0), Mf_10] : List (Nat → Int32)).getD k (fun _ => 0)) (fun k => ([Mj_0] : List (Int64)).getD k 0) h_tp h_said h_un
