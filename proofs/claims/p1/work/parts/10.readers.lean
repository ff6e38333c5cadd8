theorem dX0_read_0 : decode cX0_read 0 = .ok (.aload_n 0, 1) := by decide +kernel
theorem dX0_read_1 : decode cX0_read 1 = .ok (.getfield 12, 3) := by decide +kernel
theorem dX0_read_4 : decode cX0_read 4 = .ok (.invokevirtual 18, 3) := by decide +kernel
theorem dX0_read_7 : decode cX0_read 7 = .ok (.aload_n 1, 1) := by decide +kernel
theorem dX0_read_8 : decode cX0_read 8 = .ok (.invokevirtual 21, 3) := by decide +kernel
theorem dX0_read_11 : decode cX0_read 11 = .ok (.iconst 0, 1) := by decide +kernel
theorem dX0_read_12 : decode cX0_read 12 = .ok (.istore_n 2, 1) := by decide +kernel
theorem dX0_read_13 : decode cX0_read 13 = .ok (.iload_n 2, 1) := by decide +kernel
theorem dX0_read_14 : decode cX0_read 14 = .ok (.bipush 40, 2) := by decide +kernel
theorem dX0_read_16 : decode cX0_read 16 = .ok (.if_icmp .gt 28, 3) := by decide +kernel
theorem dX0_read_19 : decode cX0_read 19 = .ok (.iload_n 2, 1) := by decide +kernel
theorem dX0_read_20 : decode cX0_read 20 = .ok (.ifCond .eq 12, 3) := by decide +kernel
theorem dX0_read_23 : decode cX0_read 23 = .ok (.aload_n 1, 1) := by decide +kernel
theorem dX0_read_24 : decode cX0_read 24 = .ok (.bipush 59, 2) := by decide +kernel
theorem dX0_read_26 : decode cX0_read 26 = .ok (.invokevirtual 26, 3) := by decide +kernel
theorem dX0_read_29 : decode cX0_read 29 = .ok (.ifCond .eq 15, 3) := by decide +kernel
theorem dX0_read_32 : decode cX0_read 32 = .ok (.aload_n 0, 1) := by decide +kernel
theorem dX0_read_33 : decode cX0_read 33 = .ok (.aload_n 1, 1) := by decide +kernel
theorem dX0_read_34 : decode cX0_read 34 = .ok (.iload_n 2, 1) := by decide +kernel
theorem dX0_read_35 : decode cX0_read 35 = .ok (.invokevirtual 30, 3) := by decide +kernel
theorem dX0_read_38 : decode cX0_read 38 = .ok (.iinc 2 1, 3) := by decide +kernel
theorem dX0_read_41 : decode cX0_read 41 = .ok (.goto (-28), 3) := by decide +kernel
theorem dX0_read_44 : decode cX0_read 44 = .ok (.aload_n 1, 1) := by decide +kernel
theorem dX0_read_45 : decode cX0_read 45 = .ok (.invokevirtual 34, 3) := by decide +kernel
theorem dX0_read_48 : decode cX0_read 48 = .ok (.aload_n 1, 1) := by decide +kernel
theorem dX0_read_49 : decode cX0_read 49 = .ok (.getfield 37, 3) := by decide +kernel
theorem dX0_read_52 : decode cX0_read 52 = .ok (.ireturn, 1) := by decide +kernel
theorem dX0_readClause_0 : decode cX0_readClause 0 = .ok (.aload_n 1, 1) := by decide +kernel
theorem dX0_readClause_1 : decode cX0_readClause 1 = .ok (.ldc 41, 2) := by decide +kernel
theorem dX0_readClause_3 : decode cX0_readClause 3 = .ok (.invokevirtual 43, 3) := by decide +kernel
theorem dX0_readClause_6 : decode cX0_readClause 6 = .ok (.istore_n 3, 1) := by decide +kernel
theorem dX0_readClause_7 : decode cX0_readClause 7 = .ok (.iload_n 3, 1) := by decide +kernel
theorem dX0_readClause_8 : decode cX0_readClause 8 = .ok (.iconst (-1), 1) := by decide +kernel
theorem dX0_readClause_9 : decode cX0_readClause 9 = .ok (.if_icmp .ne 11, 3) := by decide +kernel
theorem dX0_readClause_12 : decode cX0_readClause 12 = .ok (.aload_n 1, 1) := by decide +kernel
theorem dX0_readClause_13 : decode cX0_readClause 13 = .ok (.iconst 0, 1) := by decide +kernel
theorem dX0_readClause_14 : decode cX0_readClause 14 = .ok (.invokevirtual 47, 3) := by decide +kernel
theorem dX0_readClause_17 : decode cX0_readClause 17 = .ok (.goto 102, 3) := by decide +kernel
theorem dX0_readClause_119 : decode cX0_readClause 119 = .ok (.return_, 1) := by decide +kernel
theorem dX10_add_0 : decode cX10_add 0 = .ok (.bipush 24, 2) := by decide +kernel
theorem dX10_add_2 : decode cX10_add 2 = .ok (.istore_n 2, 1) := by decide +kernel
theorem dX10_add_3 : decode cX10_add 3 = .ok (.iload_n 2, 1) := by decide +kernel
theorem dX10_add_4 : decode cX10_add 4 = .ok (.ifCond .lt 54, 3) := by decide +kernel
theorem dX10_add_7 : decode cX10_add 7 = .ok (.aload_n 0, 1) := by decide +kernel
theorem dX10_add_8 : decode cX10_add 8 = .ok (.getfield 15, 3) := by decide +kernel
theorem dX10_add_11 : decode cX10_add 11 = .ok (.ifCond .lt 41, 3) := by decide +kernel
theorem dX10_add_14 : decode cX10_add 14 = .ok (.aload_n 0, 1) := by decide +kernel
theorem dX10_add_15 : decode cX10_add 15 = .ok (.getfield 15, 3) := by decide +kernel
theorem dX10_add_18 : decode cX10_add 18 = .ok (.aload_n 0, 1) := by decide +kernel
theorem dX10_add_19 : decode cX10_add 19 = .ok (.getfield 9, 3) := by decide +kernel
theorem dX10_add_22 : decode cX10_add 22 = .ok (.arraylength, 1) := by decide +kernel
theorem dX10_add_23 : decode cX10_add 23 = .ok (.if_icmp .ge 29, 3) := by decide +kernel
theorem dX10_add_26 : decode cX10_add 26 = .ok (.aload_n 0, 1) := by decide +kernel
theorem dX10_add_27 : decode cX10_add 27 = .ok (.getfield 9, 3) := by decide +kernel
theorem dX10_add_30 : decode cX10_add 30 = .ok (.aload_n 0, 1) := by decide +kernel
theorem dX10_add_31 : decode cX10_add 31 = .ok (.getfield 15, 3) := by decide +kernel
theorem dX10_add_34 : decode cX10_add 34 = .ok (.iload_n 1, 1) := by decide +kernel
theorem dX10_add_35 : decode cX10_add 35 = .ok (.iload_n 2, 1) := by decide +kernel
theorem dX10_add_36 : decode cX10_add 36 = .ok (.iushr, 1) := by decide +kernel
theorem dX10_add_37 : decode cX10_add 37 = .ok (.sipush 255, 3) := by decide +kernel
theorem dX10_add_40 : decode cX10_add 40 = .ok (.iand, 1) := by decide +kernel
theorem dX10_add_41 : decode cX10_add 41 = .ok (.iastore, 1) := by decide +kernel
theorem dX10_add_42 : decode cX10_add 42 = .ok (.aload_n 0, 1) := by decide +kernel
theorem dX10_add_43 : decode cX10_add 43 = .ok (.dup, 1) := by decide +kernel
theorem dX10_add_44 : decode cX10_add 44 = .ok (.getfield 15, 3) := by decide +kernel
theorem dX10_add_47 : decode cX10_add 47 = .ok (.iconst 1, 1) := by decide +kernel
theorem dX10_add_48 : decode cX10_add 48 = .ok (.iadd, 1) := by decide +kernel
theorem dX10_add_49 : decode cX10_add 49 = .ok (.putfield 15, 3) := by decide +kernel
theorem dX10_add_52 : decode cX10_add 52 = .ok (.iinc 2 (-8), 3) := by decide +kernel
theorem dX10_add_55 : decode cX10_add 55 = .ok (.goto (-52), 3) := by decide +kernel
theorem dX10_add_58 : decode cX10_add 58 = .ok (.return_, 1) := by decide +kernel
theorem dX10_hasRoom_0 : decode cX10_hasRoom 0 = .ok (.aload_n 0, 1) := by decide +kernel
theorem dX10_hasRoom_1 : decode cX10_hasRoom 1 = .ok (.getfield 15, 3) := by decide +kernel
theorem dX10_hasRoom_4 : decode cX10_hasRoom 4 = .ok (.bipush 20, 2) := by decide +kernel
theorem dX10_hasRoom_6 : decode cX10_hasRoom 6 = .ok (.iadd, 1) := by decide +kernel
theorem dX10_hasRoom_7 : decode cX10_hasRoom 7 = .ok (.aload_n 0, 1) := by decide +kernel
theorem dX10_hasRoom_8 : decode cX10_hasRoom 8 = .ok (.getfield 9, 3) := by decide +kernel
theorem dX10_hasRoom_11 : decode cX10_hasRoom 11 = .ok (.arraylength, 1) := by decide +kernel
theorem dX10_hasRoom_12 : decode cX10_hasRoom 12 = .ok (.if_icmp .gt 7, 3) := by decide +kernel
theorem dX10_hasRoom_15 : decode cX10_hasRoom 15 = .ok (.iconst 1, 1) := by decide +kernel
theorem dX10_hasRoom_16 : decode cX10_hasRoom 16 = .ok (.goto 4, 3) := by decide +kernel
theorem dX10_hasRoom_20 : decode cX10_hasRoom 20 = .ok (.ireturn, 1) := by decide +kernel
theorem dX11_book_0 : decode cX11_book 0 = .ok (.aload_n 0, 1) := by decide +kernel
theorem dX11_book_1 : decode cX11_book 1 = .ok (.getfield 19, 3) := by decide +kernel
theorem dX11_book_4 : decode cX11_book 4 = .ok (.aload_n 0, 1) := by decide +kernel
theorem dX11_book_5 : decode cX11_book 5 = .ok (.getfield 10, 3) := by decide +kernel
theorem dX11_book_8 : decode cX11_book 8 = .ok (.invokevirtual 97, 3) := by decide +kernel
theorem dX11_book_11 : decode cX11_book 11 = .ok (.istore_n 1, 1) := by decide +kernel
theorem dX11_book_12 : decode cX11_book 12 = .ok (.aload_n 0, 1) := by decide +kernel
theorem dX11_book_13 : decode cX11_book 13 = .ok (.getfield 10, 3) := by decide +kernel
theorem dX11_book_16 : decode cX11_book 16 = .ok (.iconst 0, 1) := by decide +kernel
theorem dX11_book_17 : decode cX11_book 17 = .ok (.putfield 94, 3) := by decide +kernel
theorem dX11_book_20 : decode cX11_book 20 = .ok (.iload_n 1, 1) := by decide +kernel
theorem dX11_book_21 : decode cX11_book 21 = .ok (.ifCond .eq 8, 3) := by decide +kernel
theorem dX11_book_24 : decode cX11_book 24 = .ok (.bipush (-2), 2) := by decide +kernel
theorem dX11_book_26 : decode cX11_book 26 = .ok (.iload_n 1, 1) := by decide +kernel
theorem dX11_book_27 : decode cX11_book 27 = .ok (.isub, 1) := by decide +kernel
theorem dX11_book_28 : decode cX11_book 28 = .ok (.ireturn, 1) := by decide +kernel
theorem dX11_feed_0 : decode cX11_feed 0 = .ok (.aload_n 0, 1) := by decide +kernel
theorem dX11_feed_1 : decode cX11_feed 1 = .ok (.getfield 10, 3) := by decide +kernel
theorem dX11_feed_4 : decode cX11_feed 4 = .ok (.invokevirtual 86, 3) := by decide +kernel
theorem dX11_feed_7 : decode cX11_feed 7 = .ok (.ifCond .ne 5, 3) := by decide +kernel
theorem dX11_feed_12 : decode cX11_feed 12 = .ok (.aload_n 0, 1) := by decide +kernel
theorem dX11_feed_13 : decode cX11_feed 13 = .ok (.getfield 10, 3) := by decide +kernel
theorem dX11_feed_16 : decode cX11_feed 16 = .ok (.iload_n 1, 1) := by decide +kernel
theorem dX11_feed_17 : decode cX11_feed 17 = .ok (.invokevirtual 90, 3) := by decide +kernel
theorem dX11_feed_20 : decode cX11_feed 20 = .ok (.aload_n 0, 1) := by decide +kernel
theorem dX11_feed_21 : decode cX11_feed 21 = .ok (.getfield 10, 3) := by decide +kernel
theorem dX11_feed_24 : decode cX11_feed 24 = .ok (.iload_n 2, 1) := by decide +kernel
theorem dX11_feed_25 : decode cX11_feed 25 = .ok (.invokevirtual 90, 3) := by decide +kernel
theorem dX11_feed_28 : decode cX11_feed 28 = .ok (.aload_n 0, 1) := by decide +kernel
theorem dX11_feed_29 : decode cX11_feed 29 = .ok (.getfield 10, 3) := by decide +kernel
theorem dX11_feed_32 : decode cX11_feed 32 = .ok (.iload_n 3, 1) := by decide +kernel
theorem dX11_feed_33 : decode cX11_feed 33 = .ok (.invokevirtual 90, 3) := by decide +kernel
theorem dX11_feed_36 : decode cX11_feed 36 = .ok (.aload_n 0, 1) := by decide +kernel
theorem dX11_feed_37 : decode cX11_feed 37 = .ok (.getfield 10, 3) := by decide +kernel
theorem dX11_feed_40 : decode cX11_feed 40 = .ok (.iload 4, 2) := by decide +kernel
theorem dX11_feed_42 : decode cX11_feed 42 = .ok (.invokevirtual 90, 3) := by decide +kernel
theorem dX11_feed_45 : decode cX11_feed 45 = .ok (.aload_n 0, 1) := by decide +kernel
theorem dX11_feed_46 : decode cX11_feed 46 = .ok (.getfield 10, 3) := by decide +kernel
theorem dX11_feed_49 : decode cX11_feed 49 = .ok (.iload 5, 2) := by decide +kernel
theorem dX11_feed_51 : decode cX11_feed 51 = .ok (.invokevirtual 90, 3) := by decide +kernel
theorem dX11_feed_54 : decode cX11_feed 54 = .ok (.aload_n 0, 1) := by decide +kernel
theorem dX11_feed_55 : decode cX11_feed 55 = .ok (.getfield 10, 3) := by decide +kernel
theorem dX11_feed_58 : decode cX11_feed 58 = .ok (.getfield 94, 3) := by decide +kernel
theorem dX11_feed_61 : decode cX11_feed 61 = .ok (.ireturn, 1) := by decide +kernel
theorem dX11_rule_0 : decode cX11_rule 0 = .ok (.aload_n 0, 1) := by decide +kernel
theorem dX11_rule_1 : decode cX11_rule 1 = .ok (.getfield 36, 3) := by decide +kernel
theorem dX11_rule_4 : decode cX11_rule 4 = .ok (.ifCond .lt 15, 3) := by decide +kernel
theorem dX11_rule_7 : decode cX11_rule 7 = .ok (.aload_n 0, 1) := by decide +kernel
theorem dX11_rule_8 : decode cX11_rule 8 = .ok (.getfield 36, 3) := by decide +kernel
theorem dX11_rule_11 : decode cX11_rule 11 = .ok (.aload_n 0, 1) := by decide +kernel
theorem dX11_rule_12 : decode cX11_rule 12 = .ok (.getfield 32, 3) := by decide +kernel
theorem dX11_rule_15 : decode cX11_rule 15 = .ok (.arraylength, 1) := by decide +kernel
theorem dX11_rule_16 : decode cX11_rule 16 = .ok (.if_icmp .lt 5, 3) := by decide +kernel
theorem dX11_rule_21 : decode cX11_rule 21 = .ok (.aload_n 0, 1) := by decide +kernel
theorem dX11_rule_22 : decode cX11_rule 22 = .ok (.getfield 26, 3) := by decide +kernel
theorem dX11_rule_25 : decode cX11_rule 25 = .ok (.aload_n 0, 1) := by decide +kernel
theorem dX11_rule_26 : decode cX11_rule 26 = .ok (.getfield 10, 3) := by decide +kernel
theorem dX11_rule_29 : decode cX11_rule 29 = .ok (.invokevirtual 124, 3) := by decide +kernel
theorem dX11_rule_32 : decode cX11_rule 32 = .ok (.astore_n 1, 1) := by decide +kernel
theorem dX11_rule_33 : decode cX11_rule 33 = .ok (.aload_n 0, 1) := by decide +kernel
theorem dX11_rule_34 : decode cX11_rule 34 = .ok (.getfield 10, 3) := by decide +kernel
theorem dX11_rule_37 : decode cX11_rule 37 = .ok (.iconst 0, 1) := by decide +kernel
theorem dX11_rule_38 : decode cX11_rule 38 = .ok (.putfield 94, 3) := by decide +kernel
theorem dX11_rule_41 : decode cX11_rule 41 = .ok (.aload_n 1, 1) := by decide +kernel
theorem dX11_rule_42 : decode cX11_rule 42 = .ok (.ifnonnull 14, 3) := by decide +kernel
theorem dX11_rule_45 : decode cX11_rule 45 = .ok (.bipush (-2), 2) := by decide +kernel
theorem dX11_rule_47 : decode cX11_rule 47 = .ok (.aload_n 0, 1) := by decide +kernel
theorem dX11_rule_48 : decode cX11_rule 48 = .ok (.getfield 10, 3) := by decide +kernel
theorem dX11_rule_51 : decode cX11_rule 51 = .ok (.getfield 127, 3) := by decide +kernel
theorem dX11_rule_54 : decode cX11_rule 54 = .ok (.isub, 1) := by decide +kernel
theorem dX11_rule_55 : decode cX11_rule 55 = .ok (.ireturn, 1) := by decide +kernel
theorem dX7_arithmetic_0 : decode cX7_arithmetic 0 = .ok (.aload_n 0, 1) := by decide +kernel
theorem dX7_arithmetic_1 : decode cX7_arithmetic 1 = .ok (.getfield 86, 3) := by decide +kernel
theorem dX7_arithmetic_4 : decode cX7_arithmetic 4 = .ok (.tableswitch 75 37 47 #[72, 75, 75, 75, 75, 66, 60, 75, 63, 75, 69], 60) := by decide +kernel
theorem dX7_arithmetic_79 : decode cX7_arithmetic 79 = .ok (.iconst (-1), 1) := by decide +kernel
theorem dX7_arithmetic_80 : decode cX7_arithmetic 80 = .ok (.ireturn, 1) := by decide +kernel
theorem dX7_countOne_0 : decode cX7_countOne 0 = .ok (.aload_n 0, 1) := by decide +kernel
theorem dX7_countOne_1 : decode cX7_countOne 1 = .ok (.getfield 19, 3) := by decide +kernel
theorem dX7_countOne_4 : decode cX7_countOne 4 = .ok (.bipush 60, 2) := by decide +kernel
theorem dX7_countOne_6 : decode cX7_countOne 6 = .ok (.if_icmp .lt 8, 3) := by decide +kernel
theorem dX7_countOne_14 : decode cX7_countOne 14 = .ok (.aload_n 0, 1) := by decide +kernel
theorem dX7_countOne_15 : decode cX7_countOne 15 = .ok (.dup, 1) := by decide +kernel
theorem dX7_countOne_16 : decode cX7_countOne 16 = .ok (.getfield 19, 3) := by decide +kernel
theorem dX7_countOne_19 : decode cX7_countOne 19 = .ok (.iconst 1, 1) := by decide +kernel
theorem dX7_countOne_20 : decode cX7_countOne 20 = .ok (.iadd, 1) := by decide +kernel
theorem dX7_countOne_21 : decode cX7_countOne 21 = .ok (.putfield 19, 3) := by decide +kernel
theorem dX7_countOne_24 : decode cX7_countOne 24 = .ok (.return_, 1) := by decide +kernel
theorem dX7_put_0 : decode cX7_put 0 = .ok (.aload_n 0, 1) := by decide +kernel
theorem dX7_put_1 : decode cX7_put 1 = .ok (.getfield 15, 3) := by decide +kernel
theorem dX7_put_4 : decode cX7_put 4 = .ok (.ifCond .lt 35, 3) := by decide +kernel
theorem dX7_put_7 : decode cX7_put 7 = .ok (.aload_n 0, 1) := by decide +kernel
theorem dX7_put_8 : decode cX7_put 8 = .ok (.getfield 15, 3) := by decide +kernel
theorem dX7_put_11 : decode cX7_put 11 = .ok (.aload_n 0, 1) := by decide +kernel
theorem dX7_put_12 : decode cX7_put 12 = .ok (.getfield 9, 3) := by decide +kernel
theorem dX7_put_15 : decode cX7_put 15 = .ok (.arraylength, 1) := by decide +kernel
theorem dX7_put_16 : decode cX7_put 16 = .ok (.if_icmp .ge 23, 3) := by decide +kernel
theorem dX7_put_19 : decode cX7_put 19 = .ok (.aload_n 0, 1) := by decide +kernel
theorem dX7_put_20 : decode cX7_put 20 = .ok (.getfield 9, 3) := by decide +kernel
theorem dX7_put_23 : decode cX7_put 23 = .ok (.aload_n 0, 1) := by decide +kernel
theorem dX7_put_24 : decode cX7_put 24 = .ok (.getfield 15, 3) := by decide +kernel
theorem dX7_put_27 : decode cX7_put 27 = .ok (.iload_n 1, 1) := by decide +kernel
theorem dX7_put_28 : decode cX7_put 28 = .ok (.iastore, 1) := by decide +kernel
theorem dX7_put_29 : decode cX7_put 29 = .ok (.aload_n 0, 1) := by decide +kernel
theorem dX7_put_30 : decode cX7_put 30 = .ok (.dup, 1) := by decide +kernel
theorem dX7_put_31 : decode cX7_put 31 = .ok (.getfield 15, 3) := by decide +kernel
theorem dX7_put_34 : decode cX7_put 34 = .ok (.iconst 1, 1) := by decide +kernel
theorem dX7_put_35 : decode cX7_put 35 = .ok (.iadd, 1) := by decide +kernel
theorem dX7_put_36 : decode cX7_put 36 = .ok (.putfield 15, 3) := by decide +kernel
theorem dX7_put_39 : decode cX7_put 39 = .ok (.return_, 1) := by decide +kernel
theorem dX7_read_0 : decode cX7_read 0 = .ok (.aload_n 0, 1) := by decide +kernel
theorem dX7_read_1 : decode cX7_read 1 = .ok (.iconst 0, 1) := by decide +kernel
theorem dX7_read_2 : decode cX7_read 2 = .ok (.putfield 15, 3) := by decide +kernel
theorem dX7_read_5 : decode cX7_read 5 = .ok (.aload_n 0, 1) := by decide +kernel
theorem dX7_read_6 : decode cX7_read 6 = .ok (.iconst 0, 1) := by decide +kernel
theorem dX7_read_7 : decode cX7_read 7 = .ok (.putfield 19, 3) := by decide +kernel
theorem dX7_read_10 : decode cX7_read 10 = .ok (.aload_n 1, 1) := by decide +kernel
theorem dX7_read_11 : decode cX7_read 11 = .ok (.invokevirtual 22, 3) := by decide +kernel
theorem dX7_read_14 : decode cX7_read 14 = .ok (.iconst 0, 1) := by decide +kernel
theorem dX7_read_15 : decode cX7_read 15 = .ok (.istore_n 2, 1) := by decide +kernel
theorem dX7_read_16 : decode cX7_read 16 = .ok (.iload_n 2, 1) := by decide +kernel
theorem dX7_read_17 : decode cX7_read 17 = .ok (.bipush 12, 2) := by decide +kernel
theorem dX7_read_19 : decode cX7_read 19 = .ok (.if_icmp .gt 89, 3) := by decide +kernel
theorem dX7_read_22 : decode cX7_read 22 = .ok (.iload_n 2, 1) := by decide +kernel
theorem dX7_read_23 : decode cX7_read 23 = .ok (.ifCond .eq 12, 3) := by decide +kernel
theorem dX7_read_26 : decode cX7_read 26 = .ok (.aload_n 1, 1) := by decide +kernel
theorem dX7_read_27 : decode cX7_read 27 = .ok (.bipush 59, 2) := by decide +kernel
theorem dX7_read_29 : decode cX7_read 29 = .ok (.invokevirtual 27, 3) := by decide +kernel
theorem dX7_read_32 : decode cX7_read 32 = .ok (.ifCond .eq 76, 3) := by decide +kernel
theorem dX7_read_35 : decode cX7_read 35 = .ok (.aload_n 1, 1) := by decide +kernel
theorem dX7_read_36 : decode cX7_read 36 = .ok (.ldc 31, 2) := by decide +kernel
theorem dX7_read_38 : decode cX7_read 38 = .ok (.invokevirtual 33, 3) := by decide +kernel
theorem dX7_read_41 : decode cX7_read 41 = .ok (.ifCond .ne 11, 3) := by decide +kernel
theorem dX7_read_44 : decode cX7_read 44 = .ok (.aload_n 1, 1) := by decide +kernel
theorem dX7_read_45 : decode cX7_read 45 = .ok (.iconst 0, 1) := by decide +kernel
theorem dX7_read_46 : decode cX7_read 46 = .ok (.invokevirtual 37, 3) := by decide +kernel
theorem dX7_read_49 : decode cX7_read 49 = .ok (.goto 14, 3) := by decide +kernel
theorem dX7_read_63 : decode cX7_read 63 = .ok (.aload_n 1, 1) := by decide +kernel
theorem dX7_read_64 : decode cX7_read 64 = .ok (.invokevirtual 41, 3) := by decide +kernel
theorem dX7_read_67 : decode cX7_read 67 = .ok (.aload_n 0, 1) := by decide +kernel
theorem dX7_read_68 : decode cX7_read 68 = .ok (.aload_n 1, 1) := by decide +kernel
theorem dX7_read_69 : decode cX7_read 69 = .ok (.invokevirtual 44, 3) := by decide +kernel
theorem dX7_read_72 : decode cX7_read 72 = .ok (.aload_n 1, 1) := by decide +kernel
theorem dX7_read_73 : decode cX7_read 73 = .ok (.ldc 48, 2) := by decide +kernel
theorem dX7_read_75 : decode cX7_read 75 = .ok (.invokevirtual 50, 3) := by decide +kernel
theorem dX7_read_78 : decode cX7_read 78 = .ok (.ifCond .eq 18, 3) := by decide +kernel
theorem dX7_read_96 : decode cX7_read 96 = .ok (.aload_n 0, 1) := by decide +kernel
theorem dX7_read_97 : decode cX7_read 97 = .ok (.bipush (-2), 2) := by decide +kernel
theorem dX7_read_99 : decode cX7_read 99 = .ok (.invokevirtual 59, 3) := by decide +kernel
theorem dX7_read_102 : decode cX7_read 102 = .ok (.iinc 2 1, 3) := by decide +kernel
theorem dX7_read_105 : decode cX7_read 105 = .ok (.goto (-89), 3) := by decide +kernel
theorem dX7_read_108 : decode cX7_read 108 = .ok (.aload_n 1, 1) := by decide +kernel
theorem dX7_read_109 : decode cX7_read 109 = .ok (.invokevirtual 62, 3) := by decide +kernel
theorem dX7_read_112 : decode cX7_read 112 = .ok (.aload_n 1, 1) := by decide +kernel
theorem dX7_read_113 : decode cX7_read 113 = .ok (.getfield 65, 3) := by decide +kernel
theorem dX7_read_116 : decode cX7_read 116 = .ok (.ifCond .ne 22, 3) := by decide +kernel
theorem dX7_read_138 : decode cX7_read 138 = .ok (.aconst_null, 1) := by decide +kernel
theorem dX7_read_139 : decode cX7_read 139 = .ok (.areturn, 1) := by decide +kernel
theorem dX7_readSum_0 : decode cX7_readSum 0 = .ok (.aload_n 0, 1) := by decide +kernel
theorem dX7_readSum_1 : decode cX7_readSum 1 = .ok (.aload_n 1, 1) := by decide +kernel
theorem dX7_readSum_2 : decode cX7_readSum 2 = .ok (.invokevirtual 96, 3) := by decide +kernel
theorem dX7_readSum_5 : decode cX7_readSum 5 = .ok (.iconst (-1), 1) := by decide +kernel
theorem dX7_readSum_6 : decode cX7_readSum 6 = .ok (.istore_n 2, 1) := by decide +kernel
theorem dX7_readSum_7 : decode cX7_readSum 7 = .ok (.iconst 0, 1) := by decide +kernel
theorem dX7_readSum_8 : decode cX7_readSum 8 = .ok (.istore_n 3, 1) := by decide +kernel
theorem dX7_readSum_9 : decode cX7_readSum 9 = .ok (.iload_n 3, 1) := by decide +kernel
theorem dX7_readSum_10 : decode cX7_readSum 10 = .ok (.sipush 400, 3) := by decide +kernel
theorem dX7_readSum_13 : decode cX7_readSum 13 = .ok (.if_icmp .ge 73, 3) := by decide +kernel
theorem dX7_readSum_16 : decode cX7_readSum 16 = .ok (.aload_n 1, 1) := by decide +kernel
theorem dX7_readSum_17 : decode cX7_readSum 17 = .ok (.invokestatic 99, 3) := by decide +kernel
theorem dX7_readSum_20 : decode cX7_readSum 20 = .ok (.iconst (-1), 1) := by decide +kernel
theorem dX7_readSum_21 : decode cX7_readSum 21 = .ok (.if_icmp .eq 65, 3) := by decide +kernel
theorem dX7_readSum_86 : decode cX7_readSum 86 = .ok (.iload_n 2, 1) := by decide +kernel
theorem dX7_readSum_87 : decode cX7_readSum 87 = .ok (.iconst (-1), 1) := by decide +kernel
theorem dX7_readSum_88 : decode cX7_readSum 88 = .ok (.if_icmp .eq 8, 3) := by decide +kernel
theorem dX7_readSum_96 : decode cX7_readSum 96 = .ok (.return_, 1) := by decide +kernel
theorem dX7_readValue_0 : decode cX7_readValue 0 = .ok (.iconst 0, 1) := by decide +kernel
theorem dX7_readValue_1 : decode cX7_readValue 1 = .ok (.istore_n 2, 1) := by decide +kernel
theorem dX7_readValue_2 : decode cX7_readValue 2 = .ok (.aload_n 1, 1) := by decide +kernel
theorem dX7_readValue_3 : decode cX7_readValue 3 = .ok (.getfield 86, 3) := by decide +kernel
theorem dX7_readValue_6 : decode cX7_readValue 6 = .ok (.invokestatic 102, 3) := by decide +kernel
theorem dX7_readValue_9 : decode cX7_readValue 9 = .ok (.ifCond .eq 14, 3) := by decide +kernel
theorem dX7_readValue_23 : decode cX7_readValue 23 = .ok (.aload_n 1, 1) := by decide +kernel
theorem dX7_readValue_24 : decode cX7_readValue 24 = .ok (.ldc 111, 2) := by decide +kernel
theorem dX7_readValue_26 : decode cX7_readValue 26 = .ok (.invokevirtual 113, 3) := by decide +kernel
theorem dX7_readValue_29 : decode cX7_readValue 29 = .ok (.istore_n 3, 1) := by decide +kernel
theorem dX7_readValue_30 : decode cX7_readValue 30 = .ok (.iload_n 3, 1) := by decide +kernel
theorem dX7_readValue_31 : decode cX7_readValue 31 = .ok (.iconst (-1), 1) := by decide +kernel
theorem dX7_readValue_32 : decode cX7_readValue 32 = .ok (.if_icmp .ne 11, 3) := by decide +kernel
theorem dX7_readValue_35 : decode cX7_readValue 35 = .ok (.aload_n 1, 1) := by decide +kernel
theorem dX7_readValue_36 : decode cX7_readValue 36 = .ok (.iconst 0, 1) := by decide +kernel
theorem dX7_readValue_37 : decode cX7_readValue 37 = .ok (.invokevirtual 37, 3) := by decide +kernel
theorem dX7_readValue_40 : decode cX7_readValue 40 = .ok (.goto 8, 3) := by decide +kernel
theorem dX7_readValue_48 : decode cX7_readValue 48 = .ok (.aload_n 0, 1) := by decide +kernel
theorem dX7_readValue_49 : decode cX7_readValue 49 = .ok (.aload_n 1, 1) := by decide +kernel
theorem dX7_readValue_50 : decode cX7_readValue 50 = .ok (.invokevirtual 93, 3) := by decide +kernel
theorem dX7_readValue_53 : decode cX7_readValue 53 = .ok (.aload_n 0, 1) := by decide +kernel
theorem dX7_readValue_54 : decode cX7_readValue 54 = .ok (.iload_n 2, 1) := by decide +kernel
theorem dX7_readValue_55 : decode cX7_readValue 55 = .ok (.invokevirtual 59, 3) := by decide +kernel
theorem dX7_readValue_58 : decode cX7_readValue 58 = .ok (.aload_n 1, 1) := by decide +kernel
theorem dX7_readValue_59 : decode cX7_readValue 59 = .ok (.invokevirtual 41, 3) := by decide +kernel
theorem dX7_readValue_62 : decode cX7_readValue 62 = .ok (.return_, 1) := by decide +kernel
theorem dX9_clear_0 : decode cX9_clear 0 = .ok (.aload_n 0, 1) := by decide +kernel
theorem dX9_clear_1 : decode cX9_clear 1 = .ok (.iconst 0, 1) := by decide +kernel
theorem dX9_clear_2 : decode cX9_clear 2 = .ok (.putfield 9, 3) := by decide +kernel
theorem dX9_clear_5 : decode cX9_clear 5 = .ok (.aload_n 0, 1) := by decide +kernel
theorem dX9_clear_6 : decode cX9_clear 6 = .ok (.iconst 0, 1) := by decide +kernel
theorem dX9_clear_7 : decode cX9_clear 7 = .ok (.putfield 15, 3) := by decide +kernel
theorem dX9_clear_10 : decode cX9_clear 10 = .ok (.aload_n 0, 1) := by decide +kernel
theorem dX9_clear_11 : decode cX9_clear 11 = .ok (.iconst 0, 1) := by decide +kernel
theorem dX9_clear_12 : decode cX9_clear 12 = .ok (.putfield 18, 3) := by decide +kernel
theorem dX9_clear_15 : decode cX9_clear 15 = .ok (.aload_n 0, 1) := by decide +kernel
theorem dX9_clear_16 : decode cX9_clear 16 = .ok (.iconst 0, 1) := by decide +kernel
theorem dX9_clear_17 : decode cX9_clear 17 = .ok (.putfield 21, 3) := by decide +kernel
theorem dX9_clear_20 : decode cX9_clear 20 = .ok (.aload_n 0, 1) := by decide +kernel
theorem dX9_clear_21 : decode cX9_clear 21 = .ok (.iconst 0, 1) := by decide +kernel
theorem dX9_clear_22 : decode cX9_clear 22 = .ok (.putfield 24, 3) := by decide +kernel
theorem dX9_clear_25 : decode cX9_clear 25 = .ok (.aload_n 0, 1) := by decide +kernel
theorem dX9_clear_26 : decode cX9_clear 26 = .ok (.iconst 0, 1) := by decide +kernel
theorem dX9_clear_27 : decode cX9_clear 27 = .ok (.putfield 27, 3) := by decide +kernel
theorem dX9_clear_30 : decode cX9_clear 30 = .ok (.iconst 0, 1) := by decide +kernel
theorem dX9_clear_31 : decode cX9_clear 31 = .ok (.istore_n 1, 1) := by decide +kernel
theorem dX9_clear_32 : decode cX9_clear 32 = .ok (.iload_n 1, 1) := by decide +kernel
theorem dX9_clear_33 : decode cX9_clear 33 = .ok (.bipush 10, 2) := by decide +kernel
theorem dX9_clear_35 : decode cX9_clear 35 = .ok (.if_icmp .ge 23, 3) := by decide +kernel
theorem dX9_clear_38 : decode cX9_clear 38 = .ok (.aload_n 0, 1) := by decide +kernel
theorem dX9_clear_39 : decode cX9_clear 39 = .ok (.getfield 30, 3) := by decide +kernel
theorem dX9_clear_42 : decode cX9_clear 42 = .ok (.iload_n 1, 1) := by decide +kernel
theorem dX9_clear_43 : decode cX9_clear 43 = .ok (.iconst 0, 1) := by decide +kernel
theorem dX9_clear_44 : decode cX9_clear 44 = .ok (.iastore, 1) := by decide +kernel
theorem dX9_clear_45 : decode cX9_clear 45 = .ok (.aload_n 0, 1) := by decide +kernel
theorem dX9_clear_46 : decode cX9_clear 46 = .ok (.getfield 34, 3) := by decide +kernel
theorem dX9_clear_49 : decode cX9_clear 49 = .ok (.iload_n 1, 1) := by decide +kernel
theorem dX9_clear_50 : decode cX9_clear 50 = .ok (.iconst 0, 1) := by decide +kernel
theorem dX9_clear_51 : decode cX9_clear 51 = .ok (.iastore, 1) := by decide +kernel
theorem dX9_clear_52 : decode cX9_clear 52 = .ok (.iinc 1 1, 3) := by decide +kernel
theorem dX9_clear_55 : decode cX9_clear 55 = .ok (.goto (-23), 3) := by decide +kernel
theorem dX9_clear_58 : decode cX9_clear 58 = .ok (.iconst 0, 1) := by decide +kernel
theorem dX9_clear_59 : decode cX9_clear 59 = .ok (.istore_n 1, 1) := by decide +kernel
theorem dX9_clear_60 : decode cX9_clear 60 = .ok (.iload_n 1, 1) := by decide +kernel
theorem dX9_clear_61 : decode cX9_clear 61 = .ok (.bipush 6, 2) := by decide +kernel
theorem dX9_clear_63 : decode cX9_clear 63 = .ok (.if_icmp .ge 51, 3) := by decide +kernel
theorem dX9_clear_66 : decode cX9_clear 66 = .ok (.aload_n 0, 1) := by decide +kernel
theorem dX9_clear_67 : decode cX9_clear 67 = .ok (.getfield 37, 3) := by decide +kernel
theorem dX9_clear_70 : decode cX9_clear 70 = .ok (.iload_n 1, 1) := by decide +kernel
theorem dX9_clear_71 : decode cX9_clear 71 = .ok (.iconst 0, 1) := by decide +kernel
theorem dX9_clear_72 : decode cX9_clear 72 = .ok (.iastore, 1) := by decide +kernel
theorem dX9_clear_73 : decode cX9_clear 73 = .ok (.aload_n 0, 1) := by decide +kernel
theorem dX9_clear_74 : decode cX9_clear 74 = .ok (.getfield 40, 3) := by decide +kernel
theorem dX9_clear_77 : decode cX9_clear 77 = .ok (.iload_n 1, 1) := by decide +kernel
theorem dX9_clear_78 : decode cX9_clear 78 = .ok (.iconst 0, 1) := by decide +kernel
theorem dX9_clear_79 : decode cX9_clear 79 = .ok (.iastore, 1) := by decide +kernel
theorem dX9_clear_80 : decode cX9_clear 80 = .ok (.aload_n 0, 1) := by decide +kernel
theorem dX9_clear_81 : decode cX9_clear 81 = .ok (.getfield 43, 3) := by decide +kernel
theorem dX9_clear_84 : decode cX9_clear 84 = .ok (.iload_n 1, 1) := by decide +kernel
theorem dX9_clear_85 : decode cX9_clear 85 = .ok (.iconst 0, 1) := by decide +kernel
theorem dX9_clear_86 : decode cX9_clear 86 = .ok (.iastore, 1) := by decide +kernel
theorem dX9_clear_87 : decode cX9_clear 87 = .ok (.aload_n 0, 1) := by decide +kernel
theorem dX9_clear_88 : decode cX9_clear 88 = .ok (.getfield 46, 3) := by decide +kernel
theorem dX9_clear_91 : decode cX9_clear 91 = .ok (.iload_n 1, 1) := by decide +kernel
theorem dX9_clear_92 : decode cX9_clear 92 = .ok (.iconst 0, 1) := by decide +kernel
theorem dX9_clear_93 : decode cX9_clear 93 = .ok (.iastore, 1) := by decide +kernel
theorem dX9_clear_94 : decode cX9_clear 94 = .ok (.aload_n 0, 1) := by decide +kernel
theorem dX9_clear_95 : decode cX9_clear 95 = .ok (.getfield 49, 3) := by decide +kernel
theorem dX9_clear_98 : decode cX9_clear 98 = .ok (.iload_n 1, 1) := by decide +kernel
theorem dX9_clear_99 : decode cX9_clear 99 = .ok (.iconst 0, 1) := by decide +kernel
theorem dX9_clear_100 : decode cX9_clear 100 = .ok (.iastore, 1) := by decide +kernel
theorem dX9_clear_101 : decode cX9_clear 101 = .ok (.aload_n 0, 1) := by decide +kernel
theorem dX9_clear_102 : decode cX9_clear 102 = .ok (.getfield 52, 3) := by decide +kernel
theorem dX9_clear_105 : decode cX9_clear 105 = .ok (.iload_n 1, 1) := by decide +kernel
theorem dX9_clear_106 : decode cX9_clear 106 = .ok (.iconst (-1), 1) := by decide +kernel
theorem dX9_clear_107 : decode cX9_clear 107 = .ok (.iastore, 1) := by decide +kernel
theorem dX9_clear_108 : decode cX9_clear 108 = .ok (.iinc 1 1, 3) := by decide +kernel
theorem dX9_clear_111 : decode cX9_clear 111 = .ok (.goto (-51), 3) := by decide +kernel
theorem dX9_clear_114 : decode cX9_clear 114 = .ok (.return_, 1) := by decide +kernel
set_option maxHeartbeats 4000000 in
set_option maxRecDepth 100000 in
theorem ct_X10_hasRoom (l : Launch) (D : va_G) (tc : Nat → ClassId) (sk : (Nat → Nat) × (Nat → Nat)) (ta : Nat) (t1 : Nat)  : Ct l yX10_hasRoom cX10_hasRoom 1 (some .boolean) { frames := 0, cells := 0, slots := 0, locals := 0 } D tc sk [.ref ta] [(ta, .inr (10, [.ref t1, .int 0, .int 0, .int 0, .int (-1), .int 0])), (t1, .inl (tc 0, 400, .inl (fun _ => 0)))] (fun (v : Option Value) (_ : Unit) => v = some (.int 1)) (fun (_ : Unit) => [(ta, .inr (10, [.ref t1, .int 0, .int 0, .int 0, .int (-1), .int 0])), (t1, .inl (tc 0, 400, .inl (fun _ => 0)))]) 0 0 := by
  refine Ct.start (by decide) (Nat.le_of_ble_eq_true rfl) (fun p e s m below meth c A ls hx hb hr hlk hin hml hown hts hK hX hP hD hA hl hS => ?_)
  have hl : lv_has ls 1 [(0, .ref ta)] := hl
  refine lv_aload_n hx hb dX10_hasRoom_0 rfl (lv_at hl 0 rfl) ?_
  refine gf_X10_15 hx hb hts hown hK hP 0 rfl rfl dX10_hasRoom_1 ?_
  refine lv_bipush (v := 20) hx hb dX10_hasRoom_4 (by decide) ?_
  refine lv_iadd hx hb dX10_hasRoom_6 ?_
  refine lv_lit (v := 20) (by decide) ?_
  refine lv_aload_n hx hb dX10_hasRoom_7 rfl (lv_at hl 0 rfl) ?_
  refine gf_X10_9 hx hb hts hown hK hP 0 rfl rfl dX10_hasRoom_8 ?_
  refine va_alen hx hb hK hP 1 0 rfl rfl (v := 400) (by decide) dX10_hasRoom_11 ?_
  refine lv_icmp_gt (tgt := 19) hx hb dX10_hasRoom_12 (by decide) (fun c_1 => absurd c_1 (by decide)) (fun c_1 => ?_)
  refine lv_iconst (v := 1) hx hb dX10_hasRoom_15 (by decide) ?_
  refine lv_goto (tgt := 20) hx hb dX10_hasRoom_16 (by decide) ?_
  exact retI (v := 1) hx hb hr hlk (rfl) hP hD hS () rfl [0, 1] rfl rfl dX10_hasRoom_20 (Nat.le_of_ble_eq_true rfl) (Nat.le_of_ble_eq_true rfl) rfl
set_option maxHeartbeats 4000000 in
set_option maxRecDepth 100000 in
theorem ct_X10_add (l : Launch) (D : va_G) (tc : Nat → ClassId) (sk : (Nat → Nat) × (Nat → Nat)) (ta : Nat) (t1 : Nat) (n : Nat) (x1 : Int32) (gt : Nat → Int32) (hn : n + 4 ≤ 400) : Ct l yX10_add cX10_add 3 none { frames := 0, cells := 0, slots := 0, locals := 0 } D tc sk [.ref ta, .int x1] [(ta, .inr (10, [.ref t1, .int (nI n), .int 0, .int 0, .int (-1), .int 0])), (t1, .inl (tc 0, 400, .inl gt))] (fun (v : Option Value) (gz : Nat → Int32) => v = none) (fun (gz : Nat → Int32) => [(ta, .inr (10, [.ref t1, .int (nI (n + 4)), .int 0, .int 0, .int (-1), .int 0])), (t1, .inl (tc 0, 400, .inl gz))]) 0 0 := by
  refine Ct.start (by decide) (Nat.le_of_ble_eq_true rfl) (fun p e s m below meth c A ls hx hb hr hlk hin hml hown hts hK hX hP hD hA hl hS => ?_)
  have hl : lv_has ls 3 [(0, .ref ta), (1, .int x1)] := hl
  refine lv_bipush (v := 24) hx hb dX10_add_0 (by decide) ?_
  refine lv_istore_n (lv' := [(2, .int 24), (0, .ref ta), (1, .int x1)]) hx hb dX10_add_2 rfl hl (by decide) rfl (fun ls hl => ?_)
  refine lv_iload_n hx hb dX10_add_3 rfl (lv_at hl 0 rfl) ?_
  refine lv_if_lt (tgt := 58) hx hb dX10_add_4 (by decide) (fun c_1 => absurd c_1 (by decide)) (fun c_1 => ?_)
  refine lv_aload_n hx hb dX10_add_7 rfl (lv_at hl 1 rfl) ?_
  refine gf_X10_15 hx hb hts hown hK hP 0 rfl rfl dX10_add_8 ?_
  refine lv_if_lt (tgt := 52) hx hb dX10_add_11 (by decide) (fun c_2 => ?_) (fun c_2 => ?_)
  · skip
    exfalso
    have z_1 := Int32.lt_iff_toInt_lt.mp c_2
    have y_0 : (0 : Int32).toInt = 0 := by decide
    have n_0 : (nI n).toInt = ((n : Nat) : Int) := nI_toInt (by omega)
    omega
  · skip
    refine lv_aload_n hx hb dX10_add_14 rfl (lv_at hl 1 rfl) ?_
    refine gf_X10_15 hx hb hts hown hK hP 0 rfl rfl dX10_add_15 ?_
    refine lv_aload_n hx hb dX10_add_18 rfl (lv_at hl 1 rfl) ?_
    refine gf_X10_9 hx hb hts hown hK hP 0 rfl rfl dX10_add_19 ?_
    refine va_alen hx hb hK hP 1 0 rfl rfl (v := 400) rfl dX10_add_22 ?_
    refine lv_icmp_ge (tgt := 52) hx hb dX10_add_23 (by decide) (fun c_3 => ?_) (fun c_3 => ?_)
    · skip
      exfalso
      have z_1 := Int32.le_iff_toInt_le.mp (Int32.not_lt.mp c_2)
      have z_2 := Int32.le_iff_toInt_le.mp c_3
      have y_0 : (0 : Int32).toInt = 0 := by decide
      have y_400 : (400 : Int32).toInt = 400 := by decide
      have n_0 : (nI n).toInt = ((n : Nat) : Int) := nI_toInt (by omega)
      omega
    · skip
      refine lv_aload_n hx hb dX10_add_26 rfl (lv_at hl 1 rfl) ?_
      refine gf_X10_9 hx hb hts hown hK hP 0 rfl rfl dX10_add_27 ?_
      refine lv_aload_n hx hb dX10_add_30 rfl (lv_at hl 1 rfl) ?_
      refine gf_X10_15 hx hb hts hown hK hP 0 rfl rfl dX10_add_31 ?_
      refine lv_iload_n hx hb dX10_add_34 rfl (lv_at hl 2 rfl) ?_
      refine lv_iload_n hx hb dX10_add_35 rfl (lv_at hl 0 rfl) ?_
      obtain ⟨x_4, ex_4⟩ : ∃ y : Int32, y = ((x1 : Int32).toUInt32 >>> ((24 : Int32).toUInt32 &&& Int32.toUInt32 31)).toInt32 := ⟨_, rfl⟩
      refine lv_iushr (v := x_4) hx hb dX10_add_36 ex_4.symm ?_
      refine lv_sipush (v := 255) hx hb dX10_add_37 (by decide) ?_
      refine lv_iand hx hb dX10_add_40 ?_
      refine lv_topi (fun x_5 ex_5 => ?_)
      have hi_6 : vp_in (nI n) 400 := by
        have z_1 := Int32.le_iff_toInt_le.mp (Int32.not_lt.mp c_2)
        have z_2 := Int32.lt_iff_toInt_lt.mp (Int32.not_le.mp c_3)
        have y_0 : (0 : Int32).toInt = 0 := by decide
        have y_400 : (400 : Int32).toInt = 400 := by decide
        have n_0 : (nI n).toInt = ((n : Nat) : Int) := nI_toInt (by omega)
        exact vp_in_nI (by omega) (by omega)
      refine st_int hx hb hK hP hD hS 1 0 rfl rfl hi_6 dX10_add_41 (fun g_7 H locs eg_7 hP hD hS => ?_)
      have hP : va_P D classes [(ta, .inr (10, [.ref t1, .int (nI n), .int 0, .int 0, .int (-1), .int 0])), (t1, .inl (tc 0, 400, .inl g_7))] H := hP
      have hD : va_D A [(ta, .inr (10, [.ref t1, .int (nI n), .int 0, .int 0, .int (-1), .int 0])), (t1, .inl (tc 0, 400, .inl g_7))] := hD
      refine lv_aload_n hx hb dX10_add_42 rfl (lv_at hl 1 rfl) ?_
      refine lv_dup hx hb dX10_add_43 rfl ?_
      refine gf_X10_15 hx hb hts hown hK hP 0 rfl rfl dX10_add_44 ?_
      refine lv_iconst (v := 1) hx hb dX10_add_47 (by decide) ?_
      refine lv_iadd hx hb dX10_add_48 ?_
      refine lv_lit (v := (nI (n + 1))) (nI_addE (n) (1) (n + 1) (by omega)) ?_
      refine pf_X10_15 hx hb hts hown hK hP hD hS 0 rfl (Nat.le_of_ble_eq_true rfl) rfl rfl dX10_add_49 (fun H locs hP hD hS => ?_)
      have hP : va_P D classes [(ta, .inr (10, [.ref t1, .int (nI (n + 1)), .int 0, .int 0, .int (-1), .int 0])), (t1, .inl (tc 0, 400, .inl g_7))] H := hP
      have hD : va_D A [(ta, .inr (10, [.ref t1, .int (nI (n + 1)), .int 0, .int 0, .int (-1), .int 0])), (t1, .inl (tc 0, 400, .inl g_7))] := hD
      refine lv_iinc (v := 16) (lv' := [(2, .int 16), (0, .ref ta), (1, .int x1)]) hx hb dX10_add_52 hl (k := 0) rfl (by decide) (by decide) rfl (fun ls hl => ?_)
      refine lv_goto (tgt := 3) hx hb dX10_add_55 (by decide) ?_
      refine lv_iload_n hx hb dX10_add_3 rfl (lv_at hl 0 rfl) ?_
      refine lv_if_lt (tgt := 58) hx hb dX10_add_4 (by decide) (fun c_8 => absurd c_8 (by decide)) (fun c_8 => ?_)
      refine lv_aload_n hx hb dX10_add_7 rfl (lv_at hl 1 rfl) ?_
      refine gf_X10_15 hx hb hts hown hK hP 0 rfl rfl dX10_add_8 ?_
      refine lv_if_lt (tgt := 52) hx hb dX10_add_11 (by decide) (fun c_9 => ?_) (fun c_9 => ?_)
      · skip
        exfalso
        have z_1 := Int32.le_iff_toInt_le.mp (Int32.not_lt.mp c_2)
        have z_2 := Int32.lt_iff_toInt_lt.mp (Int32.not_le.mp c_3)
        have z_3 := Int32.lt_iff_toInt_lt.mp c_9
        have y_0 : (0 : Int32).toInt = 0 := by decide
        have y_400 : (400 : Int32).toInt = 400 := by decide
        have n_0 : (nI n).toInt = ((n : Nat) : Int) := nI_toInt (by omega)
        have n_1 : (nI (n + 1)).toInt = ((n + 1 : Nat) : Int) := nI_toInt (by omega)
        omega
      · skip
        refine lv_aload_n hx hb dX10_add_14 rfl (lv_at hl 1 rfl) ?_
        refine gf_X10_15 hx hb hts hown hK hP 0 rfl rfl dX10_add_15 ?_
        refine lv_aload_n hx hb dX10_add_18 rfl (lv_at hl 1 rfl) ?_
        refine gf_X10_9 hx hb hts hown hK hP 0 rfl rfl dX10_add_19 ?_
        refine va_alen hx hb hK hP 1 0 rfl rfl (v := 400) rfl dX10_add_22 ?_
        refine lv_icmp_ge (tgt := 52) hx hb dX10_add_23 (by decide) (fun c_10 => ?_) (fun c_10 => ?_)
        · skip
          exfalso
          have z_1 := Int32.le_iff_toInt_le.mp (Int32.not_lt.mp c_2)
          have z_2 := Int32.lt_iff_toInt_lt.mp (Int32.not_le.mp c_3)
          have z_3 := Int32.le_iff_toInt_le.mp (Int32.not_lt.mp c_9)
          have z_4 := Int32.le_iff_toInt_le.mp c_10
          have y_0 : (0 : Int32).toInt = 0 := by decide
          have y_400 : (400 : Int32).toInt = 400 := by decide
          have n_0 : (nI n).toInt = ((n : Nat) : Int) := nI_toInt (by omega)
          have n_1 : (nI (n + 1)).toInt = ((n + 1 : Nat) : Int) := nI_toInt (by omega)
          omega
        · skip
          refine lv_aload_n hx hb dX10_add_26 rfl (lv_at hl 1 rfl) ?_
          refine gf_X10_9 hx hb hts hown hK hP 0 rfl rfl dX10_add_27 ?_
          refine lv_aload_n hx hb dX10_add_30 rfl (lv_at hl 1 rfl) ?_
          refine gf_X10_15 hx hb hts hown hK hP 0 rfl rfl dX10_add_31 ?_
          refine lv_iload_n hx hb dX10_add_34 rfl (lv_at hl 2 rfl) ?_
          refine lv_iload_n hx hb dX10_add_35 rfl (lv_at hl 0 rfl) ?_
          obtain ⟨x_11, ex_11⟩ : ∃ y : Int32, y = ((x1 : Int32).toUInt32 >>> ((16 : Int32).toUInt32 &&& Int32.toUInt32 31)).toInt32 := ⟨_, rfl⟩
          refine lv_iushr (v := x_11) hx hb dX10_add_36 ex_11.symm ?_
          refine lv_sipush (v := 255) hx hb dX10_add_37 (by decide) ?_
          refine lv_iand hx hb dX10_add_40 ?_
          refine lv_topi (fun x_12 ex_12 => ?_)
          have hi_13 : vp_in (nI (n + 1)) 400 := by
            have z_1 := Int32.le_iff_toInt_le.mp (Int32.not_lt.mp c_2)
            have z_2 := Int32.lt_iff_toInt_lt.mp (Int32.not_le.mp c_3)
            have z_3 := Int32.le_iff_toInt_le.mp (Int32.not_lt.mp c_9)
            have z_4 := Int32.lt_iff_toInt_lt.mp (Int32.not_le.mp c_10)
            have y_0 : (0 : Int32).toInt = 0 := by decide
            have y_400 : (400 : Int32).toInt = 400 := by decide
            have n_0 : (nI n).toInt = ((n : Nat) : Int) := nI_toInt (by omega)
            have n_1 : (nI (n + 1)).toInt = ((n + 1 : Nat) : Int) := nI_toInt (by omega)
            exact vp_in_nI (by omega) (by omega)
          refine st_int hx hb hK hP hD hS 1 0 rfl rfl hi_13 dX10_add_41 (fun g_14 H locs eg_14 hP hD hS => ?_)
          have hP : va_P D classes [(ta, .inr (10, [.ref t1, .int (nI (n + 1)), .int 0, .int 0, .int (-1), .int 0])), (t1, .inl (tc 0, 400, .inl g_14))] H := hP
          have hD : va_D A [(ta, .inr (10, [.ref t1, .int (nI (n + 1)), .int 0, .int 0, .int (-1), .int 0])), (t1, .inl (tc 0, 400, .inl g_14))] := hD
          refine lv_aload_n hx hb dX10_add_42 rfl (lv_at hl 1 rfl) ?_
          refine lv_dup hx hb dX10_add_43 rfl ?_
          refine gf_X10_15 hx hb hts hown hK hP 0 rfl rfl dX10_add_44 ?_
          refine lv_iconst (v := 1) hx hb dX10_add_47 (by decide) ?_
          refine lv_iadd hx hb dX10_add_48 ?_
          refine lv_lit (v := (nI (n + 2))) (nI_addE (n + 1) (1) (n + 2) (by omega)) ?_
          refine pf_X10_15 hx hb hts hown hK hP hD hS 0 rfl (Nat.le_of_ble_eq_true rfl) rfl rfl dX10_add_49 (fun H locs hP hD hS => ?_)
          have hP : va_P D classes [(ta, .inr (10, [.ref t1, .int (nI (n + 2)), .int 0, .int 0, .int (-1), .int 0])), (t1, .inl (tc 0, 400, .inl g_14))] H := hP
          have hD : va_D A [(ta, .inr (10, [.ref t1, .int (nI (n + 2)), .int 0, .int 0, .int (-1), .int 0])), (t1, .inl (tc 0, 400, .inl g_14))] := hD
          refine lv_iinc (v := 8) (lv' := [(2, .int 8), (0, .ref ta), (1, .int x1)]) hx hb dX10_add_52 hl (k := 0) rfl (by decide) (by decide) rfl (fun ls hl => ?_)
          refine lv_goto (tgt := 3) hx hb dX10_add_55 (by decide) ?_
          refine lv_iload_n hx hb dX10_add_3 rfl (lv_at hl 0 rfl) ?_
          refine lv_if_lt (tgt := 58) hx hb dX10_add_4 (by decide) (fun c_15 => absurd c_15 (by decide)) (fun c_15 => ?_)
          refine lv_aload_n hx hb dX10_add_7 rfl (lv_at hl 1 rfl) ?_
          refine gf_X10_15 hx hb hts hown hK hP 0 rfl rfl dX10_add_8 ?_
          refine lv_if_lt (tgt := 52) hx hb dX10_add_11 (by decide) (fun c_16 => ?_) (fun c_16 => ?_)
          · skip
            exfalso
            have z_1 := Int32.le_iff_toInt_le.mp (Int32.not_lt.mp c_2)
            have z_2 := Int32.lt_iff_toInt_lt.mp (Int32.not_le.mp c_3)
            have z_3 := Int32.le_iff_toInt_le.mp (Int32.not_lt.mp c_9)
            have z_4 := Int32.lt_iff_toInt_lt.mp (Int32.not_le.mp c_10)
            have z_5 := Int32.lt_iff_toInt_lt.mp c_16
            have y_0 : (0 : Int32).toInt = 0 := by decide
            have y_400 : (400 : Int32).toInt = 400 := by decide
            have n_0 : (nI n).toInt = ((n : Nat) : Int) := nI_toInt (by omega)
            have n_1 : (nI (n + 1)).toInt = ((n + 1 : Nat) : Int) := nI_toInt (by omega)
            have n_2 : (nI (n + 2)).toInt = ((n + 2 : Nat) : Int) := nI_toInt (by omega)
            omega
          · skip
            refine lv_aload_n hx hb dX10_add_14 rfl (lv_at hl 1 rfl) ?_
            refine gf_X10_15 hx hb hts hown hK hP 0 rfl rfl dX10_add_15 ?_
            refine lv_aload_n hx hb dX10_add_18 rfl (lv_at hl 1 rfl) ?_
            refine gf_X10_9 hx hb hts hown hK hP 0 rfl rfl dX10_add_19 ?_
            refine va_alen hx hb hK hP 1 0 rfl rfl (v := 400) rfl dX10_add_22 ?_
            refine lv_icmp_ge (tgt := 52) hx hb dX10_add_23 (by decide) (fun c_17 => ?_) (fun c_17 => ?_)
            · skip
              exfalso
              have z_1 := Int32.le_iff_toInt_le.mp (Int32.not_lt.mp c_2)
              have z_2 := Int32.lt_iff_toInt_lt.mp (Int32.not_le.mp c_3)
              have z_3 := Int32.le_iff_toInt_le.mp (Int32.not_lt.mp c_9)
              have z_4 := Int32.lt_iff_toInt_lt.mp (Int32.not_le.mp c_10)
              have z_5 := Int32.le_iff_toInt_le.mp (Int32.not_lt.mp c_16)
              have z_6 := Int32.le_iff_toInt_le.mp c_17
              have y_0 : (0 : Int32).toInt = 0 := by decide
              have y_400 : (400 : Int32).toInt = 400 := by decide
              have n_0 : (nI n).toInt = ((n : Nat) : Int) := nI_toInt (by omega)
              have n_1 : (nI (n + 1)).toInt = ((n + 1 : Nat) : Int) := nI_toInt (by omega)
              have n_2 : (nI (n + 2)).toInt = ((n + 2 : Nat) : Int) := nI_toInt (by omega)
              omega
            · skip
              refine lv_aload_n hx hb dX10_add_26 rfl (lv_at hl 1 rfl) ?_
              refine gf_X10_9 hx hb hts hown hK hP 0 rfl rfl dX10_add_27 ?_
              refine lv_aload_n hx hb dX10_add_30 rfl (lv_at hl 1 rfl) ?_
              refine gf_X10_15 hx hb hts hown hK hP 0 rfl rfl dX10_add_31 ?_
              refine lv_iload_n hx hb dX10_add_34 rfl (lv_at hl 2 rfl) ?_
              refine lv_iload_n hx hb dX10_add_35 rfl (lv_at hl 0 rfl) ?_
              obtain ⟨x_18, ex_18⟩ : ∃ y : Int32, y = ((x1 : Int32).toUInt32 >>> ((8 : Int32).toUInt32 &&& Int32.toUInt32 31)).toInt32 := ⟨_, rfl⟩
              refine lv_iushr (v := x_18) hx hb dX10_add_36 ex_18.symm ?_
              refine lv_sipush (v := 255) hx hb dX10_add_37 (by decide) ?_
              refine lv_iand hx hb dX10_add_40 ?_
              refine lv_topi (fun x_19 ex_19 => ?_)
              have hi_20 : vp_in (nI (n + 2)) 400 := by
                have z_1 := Int32.le_iff_toInt_le.mp (Int32.not_lt.mp c_2)
                have z_2 := Int32.lt_iff_toInt_lt.mp (Int32.not_le.mp c_3)
                have z_3 := Int32.le_iff_toInt_le.mp (Int32.not_lt.mp c_9)
                have z_4 := Int32.lt_iff_toInt_lt.mp (Int32.not_le.mp c_10)
                have z_5 := Int32.le_iff_toInt_le.mp (Int32.not_lt.mp c_16)
                have z_6 := Int32.lt_iff_toInt_lt.mp (Int32.not_le.mp c_17)
                have y_0 : (0 : Int32).toInt = 0 := by decide
                have y_400 : (400 : Int32).toInt = 400 := by decide
                have n_0 : (nI n).toInt = ((n : Nat) : Int) := nI_toInt (by omega)
                have n_1 : (nI (n + 1)).toInt = ((n + 1 : Nat) : Int) := nI_toInt (by omega)
                have n_2 : (nI (n + 2)).toInt = ((n + 2 : Nat) : Int) := nI_toInt (by omega)
                exact vp_in_nI (by omega) (by omega)
              refine st_int hx hb hK hP hD hS 1 0 rfl rfl hi_20 dX10_add_41 (fun g_21 H locs eg_21 hP hD hS => ?_)
              have hP : va_P D classes [(ta, .inr (10, [.ref t1, .int (nI (n + 2)), .int 0, .int 0, .int (-1), .int 0])), (t1, .inl (tc 0, 400, .inl g_21))] H := hP
              have hD : va_D A [(ta, .inr (10, [.ref t1, .int (nI (n + 2)), .int 0, .int 0, .int (-1), .int 0])), (t1, .inl (tc 0, 400, .inl g_21))] := hD
              refine lv_aload_n hx hb dX10_add_42 rfl (lv_at hl 1 rfl) ?_
              refine lv_dup hx hb dX10_add_43 rfl ?_
              refine gf_X10_15 hx hb hts hown hK hP 0 rfl rfl dX10_add_44 ?_
              refine lv_iconst (v := 1) hx hb dX10_add_47 (by decide) ?_
              refine lv_iadd hx hb dX10_add_48 ?_
              refine lv_lit (v := (nI (n + 3))) (nI_addE (n + 2) (1) (n + 3) (by omega)) ?_
              refine pf_X10_15 hx hb hts hown hK hP hD hS 0 rfl (Nat.le_of_ble_eq_true rfl) rfl rfl dX10_add_49 (fun H locs hP hD hS => ?_)
              have hP : va_P D classes [(ta, .inr (10, [.ref t1, .int (nI (n + 3)), .int 0, .int 0, .int (-1), .int 0])), (t1, .inl (tc 0, 400, .inl g_21))] H := hP
              have hD : va_D A [(ta, .inr (10, [.ref t1, .int (nI (n + 3)), .int 0, .int 0, .int (-1), .int 0])), (t1, .inl (tc 0, 400, .inl g_21))] := hD
              refine lv_iinc (v := 0) (lv' := [(2, .int 0), (0, .ref ta), (1, .int x1)]) hx hb dX10_add_52 hl (k := 0) rfl (by decide) (by decide) rfl (fun ls hl => ?_)
              refine lv_goto (tgt := 3) hx hb dX10_add_55 (by decide) ?_
              refine lv_iload_n hx hb dX10_add_3 rfl (lv_at hl 0 rfl) ?_
              refine lv_if_lt (tgt := 58) hx hb dX10_add_4 (by decide) (fun c_22 => absurd c_22 (by decide)) (fun c_22 => ?_)
              refine lv_aload_n hx hb dX10_add_7 rfl (lv_at hl 1 rfl) ?_
              refine gf_X10_15 hx hb hts hown hK hP 0 rfl rfl dX10_add_8 ?_
              refine lv_if_lt (tgt := 52) hx hb dX10_add_11 (by decide) (fun c_23 => ?_) (fun c_23 => ?_)
              · skip
                exfalso
                have z_1 := Int32.le_iff_toInt_le.mp (Int32.not_lt.mp c_2)
                have z_2 := Int32.lt_iff_toInt_lt.mp (Int32.not_le.mp c_3)
                have z_3 := Int32.le_iff_toInt_le.mp (Int32.not_lt.mp c_9)
                have z_4 := Int32.lt_iff_toInt_lt.mp (Int32.not_le.mp c_10)
                have z_5 := Int32.le_iff_toInt_le.mp (Int32.not_lt.mp c_16)
                have z_6 := Int32.lt_iff_toInt_lt.mp (Int32.not_le.mp c_17)
                have z_7 := Int32.lt_iff_toInt_lt.mp c_23
                have y_0 : (0 : Int32).toInt = 0 := by decide
                have y_400 : (400 : Int32).toInt = 400 := by decide
                have n_0 : (nI n).toInt = ((n : Nat) : Int) := nI_toInt (by omega)
                have n_1 : (nI (n + 1)).toInt = ((n + 1 : Nat) : Int) := nI_toInt (by omega)
                have n_2 : (nI (n + 2)).toInt = ((n + 2 : Nat) : Int) := nI_toInt (by omega)
                have n_3 : (nI (n + 3)).toInt = ((n + 3 : Nat) : Int) := nI_toInt (by omega)
                omega
              · skip
                refine lv_aload_n hx hb dX10_add_14 rfl (lv_at hl 1 rfl) ?_
                refine gf_X10_15 hx hb hts hown hK hP 0 rfl rfl dX10_add_15 ?_
                refine lv_aload_n hx hb dX10_add_18 rfl (lv_at hl 1 rfl) ?_
                refine gf_X10_9 hx hb hts hown hK hP 0 rfl rfl dX10_add_19 ?_
                refine va_alen hx hb hK hP 1 0 rfl rfl (v := 400) rfl dX10_add_22 ?_
                refine lv_icmp_ge (tgt := 52) hx hb dX10_add_23 (by decide) (fun c_24 => ?_) (fun c_24 => ?_)
                · skip
                  exfalso
                  have z_1 := Int32.le_iff_toInt_le.mp (Int32.not_lt.mp c_2)
                  have z_2 := Int32.lt_iff_toInt_lt.mp (Int32.not_le.mp c_3)
                  have z_3 := Int32.le_iff_toInt_le.mp (Int32.not_lt.mp c_9)
                  have z_4 := Int32.lt_iff_toInt_lt.mp (Int32.not_le.mp c_10)
                  have z_5 := Int32.le_iff_toInt_le.mp (Int32.not_lt.mp c_16)
                  have z_6 := Int32.lt_iff_toInt_lt.mp (Int32.not_le.mp c_17)
                  have z_7 := Int32.le_iff_toInt_le.mp (Int32.not_lt.mp c_23)
                  have z_8 := Int32.le_iff_toInt_le.mp c_24
                  have y_0 : (0 : Int32).toInt = 0 := by decide
                  have y_400 : (400 : Int32).toInt = 400 := by decide
                  have n_0 : (nI n).toInt = ((n : Nat) : Int) := nI_toInt (by omega)
                  have n_1 : (nI (n + 1)).toInt = ((n + 1 : Nat) : Int) := nI_toInt (by omega)
                  have n_2 : (nI (n + 2)).toInt = ((n + 2 : Nat) : Int) := nI_toInt (by omega)
                  have n_3 : (nI (n + 3)).toInt = ((n + 3 : Nat) : Int) := nI_toInt (by omega)
                  omega
                · skip
                  refine lv_aload_n hx hb dX10_add_26 rfl (lv_at hl 1 rfl) ?_
                  refine gf_X10_9 hx hb hts hown hK hP 0 rfl rfl dX10_add_27 ?_
                  refine lv_aload_n hx hb dX10_add_30 rfl (lv_at hl 1 rfl) ?_
                  refine gf_X10_15 hx hb hts hown hK hP 0 rfl rfl dX10_add_31 ?_
                  refine lv_iload_n hx hb dX10_add_34 rfl (lv_at hl 2 rfl) ?_
                  refine lv_iload_n hx hb dX10_add_35 rfl (lv_at hl 0 rfl) ?_
                  obtain ⟨x_25, ex_25⟩ : ∃ y : Int32, y = ((x1 : Int32).toUInt32 >>> ((0 : Int32).toUInt32 &&& Int32.toUInt32 31)).toInt32 := ⟨_, rfl⟩
                  refine lv_iushr (v := x_25) hx hb dX10_add_36 ex_25.symm ?_
                  refine lv_sipush (v := 255) hx hb dX10_add_37 (by decide) ?_
                  refine lv_iand hx hb dX10_add_40 ?_
                  refine lv_topi (fun x_26 ex_26 => ?_)
                  have hi_27 : vp_in (nI (n + 3)) 400 := by
                    have z_1 := Int32.le_iff_toInt_le.mp (Int32.not_lt.mp c_2)
                    have z_2 := Int32.lt_iff_toInt_lt.mp (Int32.not_le.mp c_3)
                    have z_3 := Int32.le_iff_toInt_le.mp (Int32.not_lt.mp c_9)
                    have z_4 := Int32.lt_iff_toInt_lt.mp (Int32.not_le.mp c_10)
                    have z_5 := Int32.le_iff_toInt_le.mp (Int32.not_lt.mp c_16)
                    have z_6 := Int32.lt_iff_toInt_lt.mp (Int32.not_le.mp c_17)
                    have z_7 := Int32.le_iff_toInt_le.mp (Int32.not_lt.mp c_23)
                    have z_8 := Int32.lt_iff_toInt_lt.mp (Int32.not_le.mp c_24)
                    have y_0 : (0 : Int32).toInt = 0 := by decide
                    have y_400 : (400 : Int32).toInt = 400 := by decide
                    have n_0 : (nI n).toInt = ((n : Nat) : Int) := nI_toInt (by omega)
                    have n_1 : (nI (n + 1)).toInt = ((n + 1 : Nat) : Int) := nI_toInt (by omega)
                    have n_2 : (nI (n + 2)).toInt = ((n + 2 : Nat) : Int) := nI_toInt (by omega)
                    have n_3 : (nI (n + 3)).toInt = ((n + 3 : Nat) : Int) := nI_toInt (by omega)
                    exact vp_in_nI (by omega) (by omega)
                  refine st_int hx hb hK hP hD hS 1 0 rfl rfl hi_27 dX10_add_41 (fun g_28 H locs eg_28 hP hD hS => ?_)
                  have hP : va_P D classes [(ta, .inr (10, [.ref t1, .int (nI (n + 3)), .int 0, .int 0, .int (-1), .int 0])), (t1, .inl (tc 0, 400, .inl g_28))] H := hP
                  have hD : va_D A [(ta, .inr (10, [.ref t1, .int (nI (n + 3)), .int 0, .int 0, .int (-1), .int 0])), (t1, .inl (tc 0, 400, .inl g_28))] := hD
                  refine lv_aload_n hx hb dX10_add_42 rfl (lv_at hl 1 rfl) ?_
                  refine lv_dup hx hb dX10_add_43 rfl ?_
                  refine gf_X10_15 hx hb hts hown hK hP 0 rfl rfl dX10_add_44 ?_
                  refine lv_iconst (v := 1) hx hb dX10_add_47 (by decide) ?_
                  refine lv_iadd hx hb dX10_add_48 ?_
                  refine lv_lit (v := (nI (n + 4))) (nI_addE (n + 3) (1) (n + 4) (by omega)) ?_
                  refine pf_X10_15 hx hb hts hown hK hP hD hS 0 rfl (Nat.le_of_ble_eq_true rfl) rfl rfl dX10_add_49 (fun H locs hP hD hS => ?_)
                  have hP : va_P D classes [(ta, .inr (10, [.ref t1, .int (nI (n + 4)), .int 0, .int 0, .int (-1), .int 0])), (t1, .inl (tc 0, 400, .inl g_28))] H := hP
                  have hD : va_D A [(ta, .inr (10, [.ref t1, .int (nI (n + 4)), .int 0, .int 0, .int (-1), .int 0])), (t1, .inl (tc 0, 400, .inl g_28))] := hD
                  refine lv_iinc (v := (-8)) (lv' := [(2, .int (-8)), (0, .ref ta), (1, .int x1)]) hx hb dX10_add_52 hl (k := 0) rfl (by decide) (by decide) rfl (fun ls hl => ?_)
                  refine lv_goto (tgt := 3) hx hb dX10_add_55 (by decide) ?_
                  refine lv_iload_n hx hb dX10_add_3 rfl (lv_at hl 0 rfl) ?_
                  refine lv_if_lt (tgt := 58) hx hb dX10_add_4 (by decide) (fun c_29 => ?_) (fun c_29 => absurd c_29 (by decide))
                  exact retV hx hb hr hlk hP hD hS g_28 rfl [0, 1] rfl rfl dX10_add_58 (Nat.le_of_ble_eq_true rfl) (Nat.le_of_ble_eq_true rfl) rfl
set_option maxHeartbeats 4000000 in
set_option maxRecDepth 100000 in
theorem ct_X11_feed (l : Launch) (D : va_G) (tc : Nat → ClassId) (sk : (Nat → Nat) × (Nat → Nat)) (h0 : Nat) (ta : Nat) (br : Nat) (rr : Nat) (ru : Nat) (sc : Nat) (sh : Nat) (pa : Nat) (im : Nat) (ou : Nat) (ch : Nat) (iq : Nat) (t1 : Nat) (x1 : Int32) (x2 : Int32) (x3 : Int32) (x4 : Int32) (x5 : Int32)  : Ct l yX11_feed cX11_feed 6 (some .int) { frames := 1, cells := 0, slots := 0, locals := 22 } D tc sk [.ref h0, .int x1, .int x2, .int x3, .int x4, .int x5] [(h0, .inr (11, [.ref ta, .ref br, .ref rr, .ref ru, .int 0, .ref sc, .ref sh, .ref pa, .ref im, .ref ou, .ref ch, .ref iq])), (ta, .inr (10, [.ref t1, .int 0, .int 0, .int 0, .int (-1), .int 0])), (t1, .inl (tc 0, 400, .inl (fun _ => 0)))] (fun (v : Option Value) (_ : Unit) => v = some (.int 20)) (fun (_ : Unit) => []) 0 0 := by
  refine Ct.start (by decide) (Nat.le_of_ble_eq_true rfl) (fun p e s m below meth c A ls hx hb hr hlk hin hml hown hts hK hX hP hD hA hl hS => ?_)
  have hl : lv_has ls 6 [(0, .ref h0), (1, .int x1), (2, .int x2), (3, .int x3), (4, .int x4), (5, .int x5)] := hl
  refine lv_aload_n hx hb dX11_feed_0 rfl (lv_at hl 0 rfl) ?_
  refine gf_X11_10 hx hb hts hown hK hP 0 rfl rfl dX11_feed_1 ?_
  refine cV (a := ta) (As := []) (rest := []) (wr := [(h0, .inr (11, [.ref ta, .ref br, .ref rr, .ref ru, .int 0, .ref sc, .ref sh, .ref pa, .ref im, .ref ou, .ref ch, .ref iq]))]) ⟨hx, hb, hml, hown, hts⟩ hK hX hA (ct_X10_hasRoom l D tc sk ta t1) k_450 k_447 k_448 k_449 k_96 pl_X10_hasRoom ⟨Nat.le_of_ble_eq_true rfl, Nat.le_of_ble_eq_true rfl⟩ rfl rfl (va_recv hK hP (ci := 10) (q0 := 1) rfl rfl) hP hD hS [1, 2] [0] rfl rfl rfl rfl rfl (by decide) rfl hl.1 rfl (Nat.le_of_ble_eq_true rfl) dX11_feed_4 ⟨Nat.le_of_ble_eq_true rfl, Nat.le_of_ble_eq_true rfl⟩ (fun v_1 u_2 H locs hv_3 hP hD hS => ?_)
  obtain rfl : v_1 = some (.int 1) := hv_3
  refine W.eq (g2 := F0 m 7 ls [.int 1]) rfl ?_
  have hP : va_P D classes [(h0, .inr (11, [.ref ta, .ref br, .ref rr, .ref ru, .int 0, .ref sc, .ref sh, .ref pa, .ref im, .ref ou, .ref ch, .ref iq])), (ta, .inr (10, [.ref t1, .int 0, .int 0, .int 0, .int (-1), .int 0])), (t1, .inl (tc 0, 400, .inl (fun _ => 0)))] H := hP
  have hD : va_D A [(h0, .inr (11, [.ref ta, .ref br, .ref rr, .ref ru, .int 0, .ref sc, .ref sh, .ref pa, .ref im, .ref ou, .ref ch, .ref iq])), (ta, .inr (10, [.ref t1, .int 0, .int 0, .int 0, .int (-1), .int 0])), (t1, .inl (tc 0, 400, .inl (fun _ => 0)))] := hD
  refine lv_if_ne (tgt := 12) hx hb dX11_feed_7 (by decide) (fun c_4 => ?_) (fun c_4 => absurd c_4 (by decide))
  refine lv_aload_n hx hb dX11_feed_12 rfl (lv_at hl 0 rfl) ?_
  refine gf_X11_10 hx hb hts hown hK hP 0 rfl rfl dX11_feed_13 ?_
  refine lv_iload_n hx hb dX11_feed_16 rfl (lv_at hl 1 rfl) ?_
  refine cV (a := ta) (As := [.int x1]) (rest := []) (wr := [(h0, .inr (11, [.ref ta, .ref br, .ref rr, .ref ru, .int 0, .ref sc, .ref sh, .ref pa, .ref im, .ref ou, .ref ch, .ref iq]))]) ⟨hx, hb, hml, hown, hts⟩ hK hX hA (ct_X10_add l D tc sk ta t1 0 x1 (fun _ => 0) (by decide)) k_454 k_451 k_452 k_453 k_96 pl_X10_add ⟨Nat.le_of_ble_eq_true rfl, Nat.le_of_ble_eq_true rfl⟩ rfl rfl (va_recv hK hP (ci := 10) (q0 := 1) rfl rfl) hP hD hS [1, 2] [0] rfl rfl rfl rfl rfl (by decide) rfl hl.1 rfl (Nat.le_of_ble_eq_true rfl) dX11_feed_17 ⟨Nat.le_of_ble_eq_true rfl, Nat.le_of_ble_eq_true rfl⟩ (fun v_5 u_6 H locs hv_7 hP hD hS => ?_)
  obtain ⟨gz_8, rfl⟩ : ∃ z, z = u_6 := ⟨_, rfl⟩
  obtain rfl : v_5 = none := hv_7
  refine W.eq (g2 := F0 m 20 ls []) rfl ?_
  have hP : va_P D classes [(h0, .inr (11, [.ref ta, .ref br, .ref rr, .ref ru, .int 0, .ref sc, .ref sh, .ref pa, .ref im, .ref ou, .ref ch, .ref iq])), (ta, .inr (10, [.ref t1, .int 4, .int 0, .int 0, .int (-1), .int 0])), (t1, .inl (tc 0, 400, .inl gz_8))] H := hP
  have hD : va_D A [(h0, .inr (11, [.ref ta, .ref br, .ref rr, .ref ru, .int 0, .ref sc, .ref sh, .ref pa, .ref im, .ref ou, .ref ch, .ref iq])), (ta, .inr (10, [.ref t1, .int 4, .int 0, .int 0, .int (-1), .int 0])), (t1, .inl (tc 0, 400, .inl gz_8))] := hD
  refine lv_aload_n hx hb dX11_feed_20 rfl (lv_at hl 0 rfl) ?_
  refine gf_X11_10 hx hb hts hown hK hP 0 rfl rfl dX11_feed_21 ?_
  refine lv_iload_n hx hb dX11_feed_24 rfl (lv_at hl 2 rfl) ?_
  refine cV (a := ta) (As := [.int x2]) (rest := []) (wr := [(h0, .inr (11, [.ref ta, .ref br, .ref rr, .ref ru, .int 0, .ref sc, .ref sh, .ref pa, .ref im, .ref ou, .ref ch, .ref iq]))]) ⟨hx, hb, hml, hown, hts⟩ hK hX hA (ct_X10_add l D tc sk ta t1 4 x2 gz_8 (by decide)) k_454 k_451 k_452 k_453 k_96 pl_X10_add ⟨Nat.le_of_ble_eq_true rfl, Nat.le_of_ble_eq_true rfl⟩ rfl rfl (va_recv hK hP (ci := 10) (q0 := 1) rfl rfl) hP hD hS [1, 2] [0] rfl rfl rfl rfl rfl (by decide) rfl hl.1 rfl (Nat.le_of_ble_eq_true rfl) dX11_feed_25 ⟨Nat.le_of_ble_eq_true rfl, Nat.le_of_ble_eq_true rfl⟩ (fun v_9 u_10 H locs hv_11 hP hD hS => ?_)
  obtain ⟨gz_12, rfl⟩ : ∃ z, z = u_10 := ⟨_, rfl⟩
  obtain rfl : v_9 = none := hv_11
  refine W.eq (g2 := F0 m 28 ls []) rfl ?_
  have hP : va_P D classes [(h0, .inr (11, [.ref ta, .ref br, .ref rr, .ref ru, .int 0, .ref sc, .ref sh, .ref pa, .ref im, .ref ou, .ref ch, .ref iq])), (ta, .inr (10, [.ref t1, .int 8, .int 0, .int 0, .int (-1), .int 0])), (t1, .inl (tc 0, 400, .inl gz_12))] H := hP
  have hD : va_D A [(h0, .inr (11, [.ref ta, .ref br, .ref rr, .ref ru, .int 0, .ref sc, .ref sh, .ref pa, .ref im, .ref ou, .ref ch, .ref iq])), (ta, .inr (10, [.ref t1, .int 8, .int 0, .int 0, .int (-1), .int 0])), (t1, .inl (tc 0, 400, .inl gz_12))] := hD
  refine lv_aload_n hx hb dX11_feed_28 rfl (lv_at hl 0 rfl) ?_
  refine gf_X11_10 hx hb hts hown hK hP 0 rfl rfl dX11_feed_29 ?_
  refine lv_iload_n hx hb dX11_feed_32 rfl (lv_at hl 3 rfl) ?_
  refine cV (a := ta) (As := [.int x3]) (rest := []) (wr := [(h0, .inr (11, [.ref ta, .ref br, .ref rr, .ref ru, .int 0, .ref sc, .ref sh, .ref pa, .ref im, .ref ou, .ref ch, .ref iq]))]) ⟨hx, hb, hml, hown, hts⟩ hK hX hA (ct_X10_add l D tc sk ta t1 8 x3 gz_12 (by decide)) k_454 k_451 k_452 k_453 k_96 pl_X10_add ⟨Nat.le_of_ble_eq_true rfl, Nat.le_of_ble_eq_true rfl⟩ rfl rfl (va_recv hK hP (ci := 10) (q0 := 1) rfl rfl) hP hD hS [1, 2] [0] rfl rfl rfl rfl rfl (by decide) rfl hl.1 rfl (Nat.le_of_ble_eq_true rfl) dX11_feed_33 ⟨Nat.le_of_ble_eq_true rfl, Nat.le_of_ble_eq_true rfl⟩ (fun v_13 u_14 H locs hv_15 hP hD hS => ?_)
  obtain ⟨gz_16, rfl⟩ : ∃ z, z = u_14 := ⟨_, rfl⟩
  obtain rfl : v_13 = none := hv_15
  refine W.eq (g2 := F0 m 36 ls []) rfl ?_
  have hP : va_P D classes [(h0, .inr (11, [.ref ta, .ref br, .ref rr, .ref ru, .int 0, .ref sc, .ref sh, .ref pa, .ref im, .ref ou, .ref ch, .ref iq])), (ta, .inr (10, [.ref t1, .int 12, .int 0, .int 0, .int (-1), .int 0])), (t1, .inl (tc 0, 400, .inl gz_16))] H := hP
  have hD : va_D A [(h0, .inr (11, [.ref ta, .ref br, .ref rr, .ref ru, .int 0, .ref sc, .ref sh, .ref pa, .ref im, .ref ou, .ref ch, .ref iq])), (ta, .inr (10, [.ref t1, .int 12, .int 0, .int 0, .int (-1), .int 0])), (t1, .inl (tc 0, 400, .inl gz_16))] := hD
  refine lv_aload_n hx hb dX11_feed_36 rfl (lv_at hl 0 rfl) ?_
  refine gf_X11_10 hx hb hts hown hK hP 0 rfl rfl dX11_feed_37 ?_
  refine lv_iload hx hb dX11_feed_40 (lv_at hl 4 rfl) ?_
  refine cV (a := ta) (As := [.int x4]) (rest := []) (wr := [(h0, .inr (11, [.ref ta, .ref br, .ref rr, .ref ru, .int 0, .ref sc, .ref sh, .ref pa, .ref im, .ref ou, .ref ch, .ref iq]))]) ⟨hx, hb, hml, hown, hts⟩ hK hX hA (ct_X10_add l D tc sk ta t1 12 x4 gz_16 (by decide)) k_454 k_451 k_452 k_453 k_96 pl_X10_add ⟨Nat.le_of_ble_eq_true rfl, Nat.le_of_ble_eq_true rfl⟩ rfl rfl (va_recv hK hP (ci := 10) (q0 := 1) rfl rfl) hP hD hS [1, 2] [0] rfl rfl rfl rfl rfl (by decide) rfl hl.1 rfl (Nat.le_of_ble_eq_true rfl) dX11_feed_42 ⟨Nat.le_of_ble_eq_true rfl, Nat.le_of_ble_eq_true rfl⟩ (fun v_17 u_18 H locs hv_19 hP hD hS => ?_)
  obtain ⟨gz_20, rfl⟩ : ∃ z, z = u_18 := ⟨_, rfl⟩
  obtain rfl : v_17 = none := hv_19
  refine W.eq (g2 := F0 m 45 ls []) rfl ?_
  have hP : va_P D classes [(h0, .inr (11, [.ref ta, .ref br, .ref rr, .ref ru, .int 0, .ref sc, .ref sh, .ref pa, .ref im, .ref ou, .ref ch, .ref iq])), (ta, .inr (10, [.ref t1, .int 16, .int 0, .int 0, .int (-1), .int 0])), (t1, .inl (tc 0, 400, .inl gz_20))] H := hP
  have hD : va_D A [(h0, .inr (11, [.ref ta, .ref br, .ref rr, .ref ru, .int 0, .ref sc, .ref sh, .ref pa, .ref im, .ref ou, .ref ch, .ref iq])), (ta, .inr (10, [.ref t1, .int 16, .int 0, .int 0, .int (-1), .int 0])), (t1, .inl (tc 0, 400, .inl gz_20))] := hD
  refine lv_aload_n hx hb dX11_feed_45 rfl (lv_at hl 0 rfl) ?_
  refine gf_X11_10 hx hb hts hown hK hP 0 rfl rfl dX11_feed_46 ?_
  refine lv_iload hx hb dX11_feed_49 (lv_at hl 5 rfl) ?_
  refine cV (a := ta) (As := [.int x5]) (rest := []) (wr := [(h0, .inr (11, [.ref ta, .ref br, .ref rr, .ref ru, .int 0, .ref sc, .ref sh, .ref pa, .ref im, .ref ou, .ref ch, .ref iq]))]) ⟨hx, hb, hml, hown, hts⟩ hK hX hA (ct_X10_add l D tc sk ta t1 16 x5 gz_20 (by decide)) k_454 k_451 k_452 k_453 k_96 pl_X10_add ⟨Nat.le_of_ble_eq_true rfl, Nat.le_of_ble_eq_true rfl⟩ rfl rfl (va_recv hK hP (ci := 10) (q0 := 1) rfl rfl) hP hD hS [1, 2] [0] rfl rfl rfl rfl rfl (by decide) rfl hl.1 rfl (Nat.le_of_ble_eq_true rfl) dX11_feed_51 ⟨Nat.le_of_ble_eq_true rfl, Nat.le_of_ble_eq_true rfl⟩ (fun v_21 u_22 H locs hv_23 hP hD hS => ?_)
  obtain ⟨gz_24, rfl⟩ : ∃ z, z = u_22 := ⟨_, rfl⟩
  obtain rfl : v_21 = none := hv_23
  refine W.eq (g2 := F0 m 54 ls []) rfl ?_
  have hP : va_P D classes [(h0, .inr (11, [.ref ta, .ref br, .ref rr, .ref ru, .int 0, .ref sc, .ref sh, .ref pa, .ref im, .ref ou, .ref ch, .ref iq])), (ta, .inr (10, [.ref t1, .int 20, .int 0, .int 0, .int (-1), .int 0])), (t1, .inl (tc 0, 400, .inl gz_24))] H := hP
  have hD : va_D A [(h0, .inr (11, [.ref ta, .ref br, .ref rr, .ref ru, .int 0, .ref sc, .ref sh, .ref pa, .ref im, .ref ou, .ref ch, .ref iq])), (ta, .inr (10, [.ref t1, .int 20, .int 0, .int 0, .int (-1), .int 0])), (t1, .inl (tc 0, 400, .inl gz_24))] := hD
  refine lv_aload_n hx hb dX11_feed_54 rfl (lv_at hl 0 rfl) ?_
  refine gf_X11_10 hx hb hts hown hK hP 0 rfl rfl dX11_feed_55 ?_
  refine gf_X11_94 hx hb hts hown hK hP 1 rfl rfl dX11_feed_58 ?_
  exact retI (v := 20) hx hb hr hlk (rfl) hP hD hS () rfl [] rfl rfl dX11_feed_61 (Nat.le_of_ble_eq_true rfl) (Nat.le_of_ble_eq_true rfl) rfl
set_option maxHeartbeats 4000000 in
set_option maxRecDepth 100000 in
theorem ct_X9_clear (l : Launch) (D : va_G) (tc : Nat → ClassId) (sk : (Nat → Nat) × (Nat → Nat)) (sh : Nat) (a1 : Nat) (a2 : Nat) (a3 : Nat) (a4 : Nat) (a5 : Nat) (a6 : Nat) (a7 : Nat) (a8 : Nat) (u1 : Int32) (u2 : Int32) (u3 : Int32) (u4 : Int32) (u5 : Int32) (u6 : Int32) (d1 : Nat → Int32) (d2 : Nat → Int32) (d3 : Nat → Int32) (d4 : Nat → Int32) (d5 : Nat → Int32) (d6 : Nat → Int32) (d7 : Nat → Int32) (d8 : Nat → Int32)  : Ct l yX9_clear cX9_clear 2 none { frames := 0, cells := 0, slots := 0, locals := 0 } D tc sk [.ref sh] [(sh, .inr (9, [.int u1, .int u2, .int u3, .int u4, .int u5, .int u6, .ref a1, .ref a2, .ref a3, .ref a4, .ref a5, .ref a6, .ref a7, .ref a8])), (a1, .inl (tc 0, 10, .inl d1)), (a2, .inl (tc 0, 10, .inl d2)), (a3, .inl (tc 0, 6, .inl d3)), (a4, .inl (tc 0, 6, .inl d4)), (a5, .inl (tc 0, 6, .inl d5)), (a6, .inl (tc 0, 6, .inl d6)), (a7, .inl (tc 0, 6, .inl d7)), (a8, .inl (tc 0, 6, .inl d8))] (fun (v : Option Value) (u : (Nat → Int32) × (Nat → Int32) × (Nat → Int32) × (Nat → Int32) × (Nat → Int32) × (Nat → Int32) × (Nat → Int32) × (Nat → Int32)) => match u with | (z1, z2, z3, z4, z5, z6, z7, z8) => v = none) (fun (u : (Nat → Int32) × (Nat → Int32) × (Nat → Int32) × (Nat → Int32) × (Nat → Int32) × (Nat → Int32) × (Nat → Int32) × (Nat → Int32)) => match u with | (z1, z2, z3, z4, z5, z6, z7, z8) => [(sh, .inr (9, [.int 0, .int 0, .int 0, .int 0, .int 0, .int 0, .ref a1, .ref a2, .ref a3, .ref a4, .ref a5, .ref a6, .ref a7, .ref a8])), (a1, .inl (tc 0, 10, .inl z1)), (a2, .inl (tc 0, 10, .inl z2)), (a3, .inl (tc 0, 6, .inl z3)), (a4, .inl (tc 0, 6, .inl z4)), (a5, .inl (tc 0, 6, .inl z5)), (a6, .inl (tc 0, 6, .inl z6)), (a7, .inl (tc 0, 6, .inl z7)), (a8, .inl (tc 0, 6, .inl z8))]) 0 0 := by
  refine Ct.start (by decide) (Nat.le_of_ble_eq_true rfl) (fun p e s m below meth c A ls hx hb hr hlk hin hml hown hts hK hX hP hD hA hl hS => ?_)
  have hl : lv_has ls 2 [(0, .ref sh)] := hl
  refine lv_aload_n hx hb dX9_clear_0 rfl (lv_at hl 0 rfl) ?_
  refine lv_iconst (v := 0) hx hb dX9_clear_1 (by decide) ?_
  refine pf_X9_9 hx hb hts hown hK hP hD hS 0 rfl (Nat.le_of_ble_eq_true rfl) rfl rfl dX9_clear_2 (fun H locs hP hD hS => ?_)
  have hP : va_P D classes [(sh, .inr (9, [.int 0, .int u2, .int u3, .int u4, .int u5, .int u6, .ref a1, .ref a2, .ref a3, .ref a4, .ref a5, .ref a6, .ref a7, .ref a8])), (a1, .inl (tc 0, 10, .inl d1)), (a2, .inl (tc 0, 10, .inl d2)), (a3, .inl (tc 0, 6, .inl d3)), (a4, .inl (tc 0, 6, .inl d4)), (a5, .inl (tc 0, 6, .inl d5)), (a6, .inl (tc 0, 6, .inl d6)), (a7, .inl (tc 0, 6, .inl d7)), (a8, .inl (tc 0, 6, .inl d8))] H := hP
  have hD : va_D A [(sh, .inr (9, [.int 0, .int u2, .int u3, .int u4, .int u5, .int u6, .ref a1, .ref a2, .ref a3, .ref a4, .ref a5, .ref a6, .ref a7, .ref a8])), (a1, .inl (tc 0, 10, .inl d1)), (a2, .inl (tc 0, 10, .inl d2)), (a3, .inl (tc 0, 6, .inl d3)), (a4, .inl (tc 0, 6, .inl d4)), (a5, .inl (tc 0, 6, .inl d5)), (a6, .inl (tc 0, 6, .inl d6)), (a7, .inl (tc 0, 6, .inl d7)), (a8, .inl (tc 0, 6, .inl d8))] := hD
  refine lv_aload_n hx hb dX9_clear_5 rfl (lv_at hl 0 rfl) ?_
  refine lv_iconst (v := 0) hx hb dX9_clear_6 (by decide) ?_
  refine pf_X9_15 hx hb hts hown hK hP hD hS 0 rfl (Nat.le_of_ble_eq_true rfl) rfl rfl dX9_clear_7 (fun H locs hP hD hS => ?_)
  have hP : va_P D classes [(sh, .inr (9, [.int 0, .int 0, .int u3, .int u4, .int u5, .int u6, .ref a1, .ref a2, .ref a3, .ref a4, .ref a5, .ref a6, .ref a7, .ref a8])), (a1, .inl (tc 0, 10, .inl d1)), (a2, .inl (tc 0, 10, .inl d2)), (a3, .inl (tc 0, 6, .inl d3)), (a4, .inl (tc 0, 6, .inl d4)), (a5, .inl (tc 0, 6, .inl d5)), (a6, .inl (tc 0, 6, .inl d6)), (a7, .inl (tc 0, 6, .inl d7)), (a8, .inl (tc 0, 6, .inl d8))] H := hP
  have hD : va_D A [(sh, .inr (9, [.int 0, .int 0, .int u3, .int u4, .int u5, .int u6, .ref a1, .ref a2, .ref a3, .ref a4, .ref a5, .ref a6, .ref a7, .ref a8])), (a1, .inl (tc 0, 10, .inl d1)), (a2, .inl (tc 0, 10, .inl d2)), (a3, .inl (tc 0, 6, .inl d3)), (a4, .inl (tc 0, 6, .inl d4)), (a5, .inl (tc 0, 6, .inl d5)), (a6, .inl (tc 0, 6, .inl d6)), (a7, .inl (tc 0, 6, .inl d7)), (a8, .inl (tc 0, 6, .inl d8))] := hD
  refine lv_aload_n hx hb dX9_clear_10 rfl (lv_at hl 0 rfl) ?_
  refine lv_iconst (v := 0) hx hb dX9_clear_11 (by decide) ?_
  refine pf_X9_18 hx hb hts hown hK hP hD hS 0 rfl (Nat.le_of_ble_eq_true rfl) rfl rfl dX9_clear_12 (fun H locs hP hD hS => ?_)
  have hP : va_P D classes [(sh, .inr (9, [.int 0, .int 0, .int 0, .int u4, .int u5, .int u6, .ref a1, .ref a2, .ref a3, .ref a4, .ref a5, .ref a6, .ref a7, .ref a8])), (a1, .inl (tc 0, 10, .inl d1)), (a2, .inl (tc 0, 10, .inl d2)), (a3, .inl (tc 0, 6, .inl d3)), (a4, .inl (tc 0, 6, .inl d4)), (a5, .inl (tc 0, 6, .inl d5)), (a6, .inl (tc 0, 6, .inl d6)), (a7, .inl (tc 0, 6, .inl d7)), (a8, .inl (tc 0, 6, .inl d8))] H := hP
  have hD : va_D A [(sh, .inr (9, [.int 0, .int 0, .int 0, .int u4, .int u5, .int u6, .ref a1, .ref a2, .ref a3, .ref a4, .ref a5, .ref a6, .ref a7, .ref a8])), (a1, .inl (tc 0, 10, .inl d1)), (a2, .inl (tc 0, 10, .inl d2)), (a3, .inl (tc 0, 6, .inl d3)), (a4, .inl (tc 0, 6, .inl d4)), (a5, .inl (tc 0, 6, .inl d5)), (a6, .inl (tc 0, 6, .inl d6)), (a7, .inl (tc 0, 6, .inl d7)), (a8, .inl (tc 0, 6, .inl d8))] := hD
  refine lv_aload_n hx hb dX9_clear_15 rfl (lv_at hl 0 rfl) ?_
  refine lv_iconst (v := 0) hx hb dX9_clear_16 (by decide) ?_
  refine pf_X9_21 hx hb hts hown hK hP hD hS 0 rfl (Nat.le_of_ble_eq_true rfl) rfl rfl dX9_clear_17 (fun H locs hP hD hS => ?_)
  have hP : va_P D classes [(sh, .inr (9, [.int 0, .int 0, .int 0, .int 0, .int u5, .int u6, .ref a1, .ref a2, .ref a3, .ref a4, .ref a5, .ref a6, .ref a7, .ref a8])), (a1, .inl (tc 0, 10, .inl d1)), (a2, .inl (tc 0, 10, .inl d2)), (a3, .inl (tc 0, 6, .inl d3)), (a4, .inl (tc 0, 6, .inl d4)), (a5, .inl (tc 0, 6, .inl d5)), (a6, .inl (tc 0, 6, .inl d6)), (a7, .inl (tc 0, 6, .inl d7)), (a8, .inl (tc 0, 6, .inl d8))] H := hP
  have hD : va_D A [(sh, .inr (9, [.int 0, .int 0, .int 0, .int 0, .int u5, .int u6, .ref a1, .ref a2, .ref a3, .ref a4, .ref a5, .ref a6, .ref a7, .ref a8])), (a1, .inl (tc 0, 10, .inl d1)), (a2, .inl (tc 0, 10, .inl d2)), (a3, .inl (tc 0, 6, .inl d3)), (a4, .inl (tc 0, 6, .inl d4)), (a5, .inl (tc 0, 6, .inl d5)), (a6, .inl (tc 0, 6, .inl d6)), (a7, .inl (tc 0, 6, .inl d7)), (a8, .inl (tc 0, 6, .inl d8))] := hD
  refine lv_aload_n hx hb dX9_clear_20 rfl (lv_at hl 0 rfl) ?_
  refine lv_iconst (v := 0) hx hb dX9_clear_21 (by decide) ?_
  refine pf_X9_24 hx hb hts hown hK hP hD hS 0 rfl (Nat.le_of_ble_eq_true rfl) rfl rfl dX9_clear_22 (fun H locs hP hD hS => ?_)
  have hP : va_P D classes [(sh, .inr (9, [.int 0, .int 0, .int 0, .int 0, .int 0, .int u6, .ref a1, .ref a2, .ref a3, .ref a4, .ref a5, .ref a6, .ref a7, .ref a8])), (a1, .inl (tc 0, 10, .inl d1)), (a2, .inl (tc 0, 10, .inl d2)), (a3, .inl (tc 0, 6, .inl d3)), (a4, .inl (tc 0, 6, .inl d4)), (a5, .inl (tc 0, 6, .inl d5)), (a6, .inl (tc 0, 6, .inl d6)), (a7, .inl (tc 0, 6, .inl d7)), (a8, .inl (tc 0, 6, .inl d8))] H := hP
  have hD : va_D A [(sh, .inr (9, [.int 0, .int 0, .int 0, .int 0, .int 0, .int u6, .ref a1, .ref a2, .ref a3, .ref a4, .ref a5, .ref a6, .ref a7, .ref a8])), (a1, .inl (tc 0, 10, .inl d1)), (a2, .inl (tc 0, 10, .inl d2)), (a3, .inl (tc 0, 6, .inl d3)), (a4, .inl (tc 0, 6, .inl d4)), (a5, .inl (tc 0, 6, .inl d5)), (a6, .inl (tc 0, 6, .inl d6)), (a7, .inl (tc 0, 6, .inl d7)), (a8, .inl (tc 0, 6, .inl d8))] := hD
  refine lv_aload_n hx hb dX9_clear_25 rfl (lv_at hl 0 rfl) ?_
  refine lv_iconst (v := 0) hx hb dX9_clear_26 (by decide) ?_
  refine pf_X9_27 hx hb hts hown hK hP hD hS 0 rfl (Nat.le_of_ble_eq_true rfl) rfl rfl dX9_clear_27 (fun H locs hP hD hS => ?_)
  have hP : va_P D classes [(sh, .inr (9, [.int 0, .int 0, .int 0, .int 0, .int 0, .int 0, .ref a1, .ref a2, .ref a3, .ref a4, .ref a5, .ref a6, .ref a7, .ref a8])), (a1, .inl (tc 0, 10, .inl d1)), (a2, .inl (tc 0, 10, .inl d2)), (a3, .inl (tc 0, 6, .inl d3)), (a4, .inl (tc 0, 6, .inl d4)), (a5, .inl (tc 0, 6, .inl d5)), (a6, .inl (tc 0, 6, .inl d6)), (a7, .inl (tc 0, 6, .inl d7)), (a8, .inl (tc 0, 6, .inl d8))] H := hP
  have hD : va_D A [(sh, .inr (9, [.int 0, .int 0, .int 0, .int 0, .int 0, .int 0, .ref a1, .ref a2, .ref a3, .ref a4, .ref a5, .ref a6, .ref a7, .ref a8])), (a1, .inl (tc 0, 10, .inl d1)), (a2, .inl (tc 0, 10, .inl d2)), (a3, .inl (tc 0, 6, .inl d3)), (a4, .inl (tc 0, 6, .inl d4)), (a5, .inl (tc 0, 6, .inl d5)), (a6, .inl (tc 0, 6, .inl d6)), (a7, .inl (tc 0, 6, .inl d7)), (a8, .inl (tc 0, 6, .inl d8))] := hD
  refine lv_iconst (v := 0) hx hb dX9_clear_30 (by decide) ?_
  refine lv_istore_n (lv' := [(1, .int 0), (0, .ref sh)]) hx hb dX9_clear_31 rfl hl (by decide) rfl (fun ls hl => ?_)
  have loop_6 : ∀ (n_4 i_1 : Nat) (g_2 : Nat → Int32) (g_3 : Nat → Int32) (H : Heap) (locs : List Loc) (ls : Array Slot), i_1 ≤ 10 → 10 + 1 ≤ i_1 + n_4 → va_P D classes [(sh, .inr (9, [.int 0, .int 0, .int 0, .int 0, .int 0, .int 0, .ref a1, .ref a2, .ref a3, .ref a4, .ref a5, .ref a6, .ref a7, .ref a8])), (a1, .inl (tc 0, 10, .inl g_2)), (a2, .inl (tc 0, 10, .inl g_3)), (a3, .inl (tc 0, 6, .inl d3)), (a4, .inl (tc 0, 6, .inl d4)), (a5, .inl (tc 0, 6, .inl d5)), (a6, .inl (tc 0, 6, .inl d6)), (a7, .inl (tc 0, 6, .inl d7)), (a8, .inl (tc 0, 6, .inl d8))] H → va_D A [(sh, .inr (9, [.int 0, .int 0, .int 0, .int 0, .int 0, .int 0, .ref a1, .ref a2, .ref a3, .ref a4, .ref a5, .ref a6, .ref a7, .ref a8])), (a1, .inl (tc 0, 10, .inl g_2)), (a2, .inl (tc 0, 10, .inl g_3)), (a3, .inl (tc 0, 6, .inl d3)), (a4, .inl (tc 0, 6, .inl d4)), (a5, .inl (tc 0, 6, .inl d5)), (a6, .inl (tc 0, 6, .inl d6)), (a7, .inl (tc 0, 6, .inl d7)), (a8, .inl (tc 0, 6, .inl d8))] → va_S A s.heap H locs → lv_has ls 2 [(1, .int (nI i_1)), (0, .ref sh)] → W p l e ({ frames := 0, cells := 0, slots := 0, locals := 0 }) s m ([.ref sh].toArray) below meth c H locs 0 0 (MQ below (QW (fun (v : Option Value) (u : (Nat → Int32) × (Nat → Int32) × (Nat → Int32) × (Nat → Int32) × (Nat → Int32) × (Nat → Int32) × (Nat → Int32) × (Nat → Int32)) => match u with | (z1, z2, z3, z4, z5, z6, z7, z8) => v = none) (BW D (fun (u : (Nat → Int32) × (Nat → Int32) × (Nat → Int32) × (Nat → Int32) × (Nat → Int32) × (Nat → Int32) × (Nat → Int32) × (Nat → Int32)) => match u with | (z1, z2, z3, z4, z5, z6, z7, z8) => [(sh, .inr (9, [.int 0, .int 0, .int 0, .int 0, .int 0, .int 0, .ref a1, .ref a2, .ref a3, .ref a4, .ref a5, .ref a6, .ref a7, .ref a8])), (a1, .inl (tc 0, 10, .inl z1)), (a2, .inl (tc 0, 10, .inl z2)), (a3, .inl (tc 0, 6, .inl z3)), (a4, .inl (tc 0, 6, .inl z4)), (a5, .inl (tc 0, 6, .inl z5)), (a6, .inl (tc 0, 6, .inl z6)), (a7, .inl (tc 0, 6, .inl z7)), (a8, .inl (tc 0, 6, .inl z8))]) A) A) ([.ref sh].toArray) s 0 0 A) (F0 m 32 ls []) := by
    intro n_4
    induction n_4 with
    | zero =>
      intro i_1 g_2 g_3 H locs ls h1 h2
      exact absurd h2 (by omega)
    | succ n_4 ih_5 =>
      intro i_1 g_2 g_3 H locs ls hi_7 hn_8 hP hD hS hl
      refine lv_iload_n hx hb dX9_clear_32 rfl (lv_at hl 0 rfl) ?_
      refine lv_bipush (v := 10) hx hb dX9_clear_33 (by decide) ?_
      refine lv_icmp_ge (tgt := 58) hx hb dX9_clear_35 (by decide) (fun c_9 => ?_) (fun c_9 => ?_)
      · skip
        refine lv_iconst (v := 0) hx hb dX9_clear_58 (by decide) ?_
        refine lv_istore_n (lv' := [(1, .int 0), (0, .ref sh)]) hx hb dX9_clear_59 rfl hl (by decide) rfl (fun ls hl => ?_)
        have loop_19 : ∀ (n_17 i_10 : Nat) (g_11 : Nat → Int32) (g_12 : Nat → Int32) (g_13 : Nat → Int32) (g_14 : Nat → Int32) (g_15 : Nat → Int32) (g_16 : Nat → Int32) (H : Heap) (locs : List Loc) (ls : Array Slot), i_10 ≤ 6 → 6 + 1 ≤ i_10 + n_17 → va_P D classes [(sh, .inr (9, [.int 0, .int 0, .int 0, .int 0, .int 0, .int 0, .ref a1, .ref a2, .ref a3, .ref a4, .ref a5, .ref a6, .ref a7, .ref a8])), (a1, .inl (tc 0, 10, .inl g_2)), (a2, .inl (tc 0, 10, .inl g_3)), (a3, .inl (tc 0, 6, .inl g_11)), (a4, .inl (tc 0, 6, .inl g_12)), (a5, .inl (tc 0, 6, .inl g_13)), (a6, .inl (tc 0, 6, .inl g_14)), (a7, .inl (tc 0, 6, .inl g_15)), (a8, .inl (tc 0, 6, .inl g_16))] H → va_D A [(sh, .inr (9, [.int 0, .int 0, .int 0, .int 0, .int 0, .int 0, .ref a1, .ref a2, .ref a3, .ref a4, .ref a5, .ref a6, .ref a7, .ref a8])), (a1, .inl (tc 0, 10, .inl g_2)), (a2, .inl (tc 0, 10, .inl g_3)), (a3, .inl (tc 0, 6, .inl g_11)), (a4, .inl (tc 0, 6, .inl g_12)), (a5, .inl (tc 0, 6, .inl g_13)), (a6, .inl (tc 0, 6, .inl g_14)), (a7, .inl (tc 0, 6, .inl g_15)), (a8, .inl (tc 0, 6, .inl g_16))] → va_S A s.heap H locs → lv_has ls 2 [(1, .int (nI i_10)), (0, .ref sh)] → W p l e ({ frames := 0, cells := 0, slots := 0, locals := 0 }) s m ([.ref sh].toArray) below meth c H locs 0 0 (MQ below (QW (fun (v : Option Value) (u : (Nat → Int32) × (Nat → Int32) × (Nat → Int32) × (Nat → Int32) × (Nat → Int32) × (Nat → Int32) × (Nat → Int32) × (Nat → Int32)) => match u with | (z1, z2, z3, z4, z5, z6, z7, z8) => v = none) (BW D (fun (u : (Nat → Int32) × (Nat → Int32) × (Nat → Int32) × (Nat → Int32) × (Nat → Int32) × (Nat → Int32) × (Nat → Int32) × (Nat → Int32)) => match u with | (z1, z2, z3, z4, z5, z6, z7, z8) => [(sh, .inr (9, [.int 0, .int 0, .int 0, .int 0, .int 0, .int 0, .ref a1, .ref a2, .ref a3, .ref a4, .ref a5, .ref a6, .ref a7, .ref a8])), (a1, .inl (tc 0, 10, .inl z1)), (a2, .inl (tc 0, 10, .inl z2)), (a3, .inl (tc 0, 6, .inl z3)), (a4, .inl (tc 0, 6, .inl z4)), (a5, .inl (tc 0, 6, .inl z5)), (a6, .inl (tc 0, 6, .inl z6)), (a7, .inl (tc 0, 6, .inl z7)), (a8, .inl (tc 0, 6, .inl z8))]) A) A) ([.ref sh].toArray) s 0 0 A) (F0 m 60 ls []) := by
          intro n_17
          induction n_17 with
          | zero =>
            intro i_10 g_11 g_12 g_13 g_14 g_15 g_16 H locs ls h1 h2
            exact absurd h2 (by omega)
          | succ n_17 ih_18 =>
            intro i_10 g_11 g_12 g_13 g_14 g_15 g_16 H locs ls hi_20 hn_21 hP hD hS hl
            refine lv_iload_n hx hb dX9_clear_60 rfl (lv_at hl 0 rfl) ?_
            refine lv_bipush (v := 6) hx hb dX9_clear_61 (by decide) ?_
            refine lv_icmp_ge (tgt := 114) hx hb dX9_clear_63 (by decide) (fun c_22 => ?_) (fun c_22 => ?_)
            · skip
              exact retV hx hb hr hlk hP hD hS (g_2, g_3, g_11, g_12, g_13, g_14, g_15, g_16) rfl [0, 1, 2, 3, 4, 5, 6, 7, 8] rfl rfl dX9_clear_114 (Nat.le_of_ble_eq_true rfl) (Nat.le_of_ble_eq_true rfl) rfl
            · skip
              refine lv_aload_n hx hb dX9_clear_66 rfl (lv_at hl 1 rfl) ?_
              refine gf_X9_37 hx hb hts hown hK hP 0 rfl rfl dX9_clear_67 ?_
              refine lv_iload_n hx hb dX9_clear_70 rfl (lv_at hl 0 rfl) ?_
              refine lv_iconst (v := 0) hx hb dX9_clear_71 (by decide) ?_
              have hi_23 : vp_in (nI i_10) 6 := by
                have z_1 := Int32.le_iff_toInt_le.mp c_9
                have z_2 := Int32.lt_iff_toInt_lt.mp (Int32.not_le.mp c_22)
                have y_6 : (6 : Int32).toInt = 6 := by decide
                have y_10 : (10 : Int32).toInt = 10 := by decide
                have n_0 : (nI i_1).toInt = ((i_1 : Nat) : Int) := nI_toInt (by omega)
                have n_1 : (nI i_10).toInt = ((i_10 : Nat) : Int) := nI_toInt (by omega)
                exact vp_in_nI (by omega) (by omega)
              refine st_int hx hb hK hP hD hS 3 0 rfl rfl hi_23 dX9_clear_72 (fun g_24 H locs eg_24 hP hD hS => ?_)
              have hP : va_P D classes [(sh, .inr (9, [.int 0, .int 0, .int 0, .int 0, .int 0, .int 0, .ref a1, .ref a2, .ref a3, .ref a4, .ref a5, .ref a6, .ref a7, .ref a8])), (a1, .inl (tc 0, 10, .inl g_2)), (a2, .inl (tc 0, 10, .inl g_3)), (a3, .inl (tc 0, 6, .inl g_24)), (a4, .inl (tc 0, 6, .inl g_12)), (a5, .inl (tc 0, 6, .inl g_13)), (a6, .inl (tc 0, 6, .inl g_14)), (a7, .inl (tc 0, 6, .inl g_15)), (a8, .inl (tc 0, 6, .inl g_16))] H := hP
              have hD : va_D A [(sh, .inr (9, [.int 0, .int 0, .int 0, .int 0, .int 0, .int 0, .ref a1, .ref a2, .ref a3, .ref a4, .ref a5, .ref a6, .ref a7, .ref a8])), (a1, .inl (tc 0, 10, .inl g_2)), (a2, .inl (tc 0, 10, .inl g_3)), (a3, .inl (tc 0, 6, .inl g_24)), (a4, .inl (tc 0, 6, .inl g_12)), (a5, .inl (tc 0, 6, .inl g_13)), (a6, .inl (tc 0, 6, .inl g_14)), (a7, .inl (tc 0, 6, .inl g_15)), (a8, .inl (tc 0, 6, .inl g_16))] := hD
              refine lv_aload_n hx hb dX9_clear_73 rfl (lv_at hl 1 rfl) ?_
              refine gf_X9_40 hx hb hts hown hK hP 0 rfl rfl dX9_clear_74 ?_
              refine lv_iload_n hx hb dX9_clear_77 rfl (lv_at hl 0 rfl) ?_
              refine lv_iconst (v := 0) hx hb dX9_clear_78 (by decide) ?_
              have hi_25 : vp_in (nI i_10) 6 := by
                have z_1 := Int32.le_iff_toInt_le.mp c_9
                have z_2 := Int32.lt_iff_toInt_lt.mp (Int32.not_le.mp c_22)
                have y_6 : (6 : Int32).toInt = 6 := by decide
                have y_10 : (10 : Int32).toInt = 10 := by decide
                have n_0 : (nI i_1).toInt = ((i_1 : Nat) : Int) := nI_toInt (by omega)
                have n_1 : (nI i_10).toInt = ((i_10 : Nat) : Int) := nI_toInt (by omega)
                exact vp_in_nI (by omega) (by omega)
              refine st_int hx hb hK hP hD hS 4 0 rfl rfl hi_25 dX9_clear_79 (fun g_26 H locs eg_26 hP hD hS => ?_)
              have hP : va_P D classes [(sh, .inr (9, [.int 0, .int 0, .int 0, .int 0, .int 0, .int 0, .ref a1, .ref a2, .ref a3, .ref a4, .ref a5, .ref a6, .ref a7, .ref a8])), (a1, .inl (tc 0, 10, .inl g_2)), (a2, .inl (tc 0, 10, .inl g_3)), (a3, .inl (tc 0, 6, .inl g_24)), (a4, .inl (tc 0, 6, .inl g_26)), (a5, .inl (tc 0, 6, .inl g_13)), (a6, .inl (tc 0, 6, .inl g_14)), (a7, .inl (tc 0, 6, .inl g_15)), (a8, .inl (tc 0, 6, .inl g_16))] H := hP
              have hD : va_D A [(sh, .inr (9, [.int 0, .int 0, .int 0, .int 0, .int 0, .int 0, .ref a1, .ref a2, .ref a3, .ref a4, .ref a5, .ref a6, .ref a7, .ref a8])), (a1, .inl (tc 0, 10, .inl g_2)), (a2, .inl (tc 0, 10, .inl g_3)), (a3, .inl (tc 0, 6, .inl g_24)), (a4, .inl (tc 0, 6, .inl g_26)), (a5, .inl (tc 0, 6, .inl g_13)), (a6, .inl (tc 0, 6, .inl g_14)), (a7, .inl (tc 0, 6, .inl g_15)), (a8, .inl (tc 0, 6, .inl g_16))] := hD
              refine lv_aload_n hx hb dX9_clear_80 rfl (lv_at hl 1 rfl) ?_
              refine gf_X9_43 hx hb hts hown hK hP 0 rfl rfl dX9_clear_81 ?_
              refine lv_iload_n hx hb dX9_clear_84 rfl (lv_at hl 0 rfl) ?_
              refine lv_iconst (v := 0) hx hb dX9_clear_85 (by decide) ?_
              have hi_27 : vp_in (nI i_10) 6 := by
                have z_1 := Int32.le_iff_toInt_le.mp c_9
                have z_2 := Int32.lt_iff_toInt_lt.mp (Int32.not_le.mp c_22)
                have y_6 : (6 : Int32).toInt = 6 := by decide
                have y_10 : (10 : Int32).toInt = 10 := by decide
                have n_0 : (nI i_1).toInt = ((i_1 : Nat) : Int) := nI_toInt (by omega)
                have n_1 : (nI i_10).toInt = ((i_10 : Nat) : Int) := nI_toInt (by omega)
                exact vp_in_nI (by omega) (by omega)
              refine st_int hx hb hK hP hD hS 5 0 rfl rfl hi_27 dX9_clear_86 (fun g_28 H locs eg_28 hP hD hS => ?_)
              have hP : va_P D classes [(sh, .inr (9, [.int 0, .int 0, .int 0, .int 0, .int 0, .int 0, .ref a1, .ref a2, .ref a3, .ref a4, .ref a5, .ref a6, .ref a7, .ref a8])), (a1, .inl (tc 0, 10, .inl g_2)), (a2, .inl (tc 0, 10, .inl g_3)), (a3, .inl (tc 0, 6, .inl g_24)), (a4, .inl (tc 0, 6, .inl g_26)), (a5, .inl (tc 0, 6, .inl g_28)), (a6, .inl (tc 0, 6, .inl g_14)), (a7, .inl (tc 0, 6, .inl g_15)), (a8, .inl (tc 0, 6, .inl g_16))] H := hP
              have hD : va_D A [(sh, .inr (9, [.int 0, .int 0, .int 0, .int 0, .int 0, .int 0, .ref a1, .ref a2, .ref a3, .ref a4, .ref a5, .ref a6, .ref a7, .ref a8])), (a1, .inl (tc 0, 10, .inl g_2)), (a2, .inl (tc 0, 10, .inl g_3)), (a3, .inl (tc 0, 6, .inl g_24)), (a4, .inl (tc 0, 6, .inl g_26)), (a5, .inl (tc 0, 6, .inl g_28)), (a6, .inl (tc 0, 6, .inl g_14)), (a7, .inl (tc 0, 6, .inl g_15)), (a8, .inl (tc 0, 6, .inl g_16))] := hD
              refine lv_aload_n hx hb dX9_clear_87 rfl (lv_at hl 1 rfl) ?_
              refine gf_X9_46 hx hb hts hown hK hP 0 rfl rfl dX9_clear_88 ?_
              refine lv_iload_n hx hb dX9_clear_91 rfl (lv_at hl 0 rfl) ?_
              refine lv_iconst (v := 0) hx hb dX9_clear_92 (by decide) ?_
              have hi_29 : vp_in (nI i_10) 6 := by
                have z_1 := Int32.le_iff_toInt_le.mp c_9
                have z_2 := Int32.lt_iff_toInt_lt.mp (Int32.not_le.mp c_22)
                have y_6 : (6 : Int32).toInt = 6 := by decide
                have y_10 : (10 : Int32).toInt = 10 := by decide
                have n_0 : (nI i_1).toInt = ((i_1 : Nat) : Int) := nI_toInt (by omega)
                have n_1 : (nI i_10).toInt = ((i_10 : Nat) : Int) := nI_toInt (by omega)
                exact vp_in_nI (by omega) (by omega)
              refine st_int hx hb hK hP hD hS 6 0 rfl rfl hi_29 dX9_clear_93 (fun g_30 H locs eg_30 hP hD hS => ?_)
              have hP : va_P D classes [(sh, .inr (9, [.int 0, .int 0, .int 0, .int 0, .int 0, .int 0, .ref a1, .ref a2, .ref a3, .ref a4, .ref a5, .ref a6, .ref a7, .ref a8])), (a1, .inl (tc 0, 10, .inl g_2)), (a2, .inl (tc 0, 10, .inl g_3)), (a3, .inl (tc 0, 6, .inl g_24)), (a4, .inl (tc 0, 6, .inl g_26)), (a5, .inl (tc 0, 6, .inl g_28)), (a6, .inl (tc 0, 6, .inl g_30)), (a7, .inl (tc 0, 6, .inl g_15)), (a8, .inl (tc 0, 6, .inl g_16))] H := hP
              have hD : va_D A [(sh, .inr (9, [.int 0, .int 0, .int 0, .int 0, .int 0, .int 0, .ref a1, .ref a2, .ref a3, .ref a4, .ref a5, .ref a6, .ref a7, .ref a8])), (a1, .inl (tc 0, 10, .inl g_2)), (a2, .inl (tc 0, 10, .inl g_3)), (a3, .inl (tc 0, 6, .inl g_24)), (a4, .inl (tc 0, 6, .inl g_26)), (a5, .inl (tc 0, 6, .inl g_28)), (a6, .inl (tc 0, 6, .inl g_30)), (a7, .inl (tc 0, 6, .inl g_15)), (a8, .inl (tc 0, 6, .inl g_16))] := hD
              refine lv_aload_n hx hb dX9_clear_94 rfl (lv_at hl 1 rfl) ?_
              refine gf_X9_49 hx hb hts hown hK hP 0 rfl rfl dX9_clear_95 ?_
              refine lv_iload_n hx hb dX9_clear_98 rfl (lv_at hl 0 rfl) ?_
              refine lv_iconst (v := 0) hx hb dX9_clear_99 (by decide) ?_
              have hi_31 : vp_in (nI i_10) 6 := by
                have z_1 := Int32.le_iff_toInt_le.mp c_9
                have z_2 := Int32.lt_iff_toInt_lt.mp (Int32.not_le.mp c_22)
                have y_6 : (6 : Int32).toInt = 6 := by decide
                have y_10 : (10 : Int32).toInt = 10 := by decide
                have n_0 : (nI i_1).toInt = ((i_1 : Nat) : Int) := nI_toInt (by omega)
                have n_1 : (nI i_10).toInt = ((i_10 : Nat) : Int) := nI_toInt (by omega)
                exact vp_in_nI (by omega) (by omega)
              refine st_int hx hb hK hP hD hS 7 0 rfl rfl hi_31 dX9_clear_100 (fun g_32 H locs eg_32 hP hD hS => ?_)
              have hP : va_P D classes [(sh, .inr (9, [.int 0, .int 0, .int 0, .int 0, .int 0, .int 0, .ref a1, .ref a2, .ref a3, .ref a4, .ref a5, .ref a6, .ref a7, .ref a8])), (a1, .inl (tc 0, 10, .inl g_2)), (a2, .inl (tc 0, 10, .inl g_3)), (a3, .inl (tc 0, 6, .inl g_24)), (a4, .inl (tc 0, 6, .inl g_26)), (a5, .inl (tc 0, 6, .inl g_28)), (a6, .inl (tc 0, 6, .inl g_30)), (a7, .inl (tc 0, 6, .inl g_32)), (a8, .inl (tc 0, 6, .inl g_16))] H := hP
              have hD : va_D A [(sh, .inr (9, [.int 0, .int 0, .int 0, .int 0, .int 0, .int 0, .ref a1, .ref a2, .ref a3, .ref a4, .ref a5, .ref a6, .ref a7, .ref a8])), (a1, .inl (tc 0, 10, .inl g_2)), (a2, .inl (tc 0, 10, .inl g_3)), (a3, .inl (tc 0, 6, .inl g_24)), (a4, .inl (tc 0, 6, .inl g_26)), (a5, .inl (tc 0, 6, .inl g_28)), (a6, .inl (tc 0, 6, .inl g_30)), (a7, .inl (tc 0, 6, .inl g_32)), (a8, .inl (tc 0, 6, .inl g_16))] := hD
              refine lv_aload_n hx hb dX9_clear_101 rfl (lv_at hl 1 rfl) ?_
              refine gf_X9_52 hx hb hts hown hK hP 0 rfl rfl dX9_clear_102 ?_
              refine lv_iload_n hx hb dX9_clear_105 rfl (lv_at hl 0 rfl) ?_
              refine lv_iconst (v := (-1)) hx hb dX9_clear_106 (by decide) ?_
              have hi_33 : vp_in (nI i_10) 6 := by
                have z_1 := Int32.le_iff_toInt_le.mp c_9
                have z_2 := Int32.lt_iff_toInt_lt.mp (Int32.not_le.mp c_22)
                have y_6 : (6 : Int32).toInt = 6 := by decide
                have y_10 : (10 : Int32).toInt = 10 := by decide
                have n_0 : (nI i_1).toInt = ((i_1 : Nat) : Int) := nI_toInt (by omega)
                have n_1 : (nI i_10).toInt = ((i_10 : Nat) : Int) := nI_toInt (by omega)
                exact vp_in_nI (by omega) (by omega)
              refine st_int hx hb hK hP hD hS 8 0 rfl rfl hi_33 dX9_clear_107 (fun g_34 H locs eg_34 hP hD hS => ?_)
              have hP : va_P D classes [(sh, .inr (9, [.int 0, .int 0, .int 0, .int 0, .int 0, .int 0, .ref a1, .ref a2, .ref a3, .ref a4, .ref a5, .ref a6, .ref a7, .ref a8])), (a1, .inl (tc 0, 10, .inl g_2)), (a2, .inl (tc 0, 10, .inl g_3)), (a3, .inl (tc 0, 6, .inl g_24)), (a4, .inl (tc 0, 6, .inl g_26)), (a5, .inl (tc 0, 6, .inl g_28)), (a6, .inl (tc 0, 6, .inl g_30)), (a7, .inl (tc 0, 6, .inl g_32)), (a8, .inl (tc 0, 6, .inl g_34))] H := hP
              have hD : va_D A [(sh, .inr (9, [.int 0, .int 0, .int 0, .int 0, .int 0, .int 0, .ref a1, .ref a2, .ref a3, .ref a4, .ref a5, .ref a6, .ref a7, .ref a8])), (a1, .inl (tc 0, 10, .inl g_2)), (a2, .inl (tc 0, 10, .inl g_3)), (a3, .inl (tc 0, 6, .inl g_24)), (a4, .inl (tc 0, 6, .inl g_26)), (a5, .inl (tc 0, 6, .inl g_28)), (a6, .inl (tc 0, 6, .inl g_30)), (a7, .inl (tc 0, 6, .inl g_32)), (a8, .inl (tc 0, 6, .inl g_34))] := hD
              refine lv_iinc (v := (nI (i_10 + 1))) (lv' := [(1, .int (nI (i_10 + 1))), (0, .ref sh)]) hx hb dX9_clear_108 hl (k := 0) rfl (nI_add (i_10) 1) (by decide) rfl (fun ls hl => ?_)
              refine lv_goto (tgt := 60) hx hb dX9_clear_111 (by decide) ?_
              have hlt_35 : i_10 < 6 := by
                have z_1 := Int32.le_iff_toInt_le.mp c_9
                have z_2 := Int32.lt_iff_toInt_lt.mp (Int32.not_le.mp c_22)
                have y_6 : (6 : Int32).toInt = 6 := by decide
                have y_10 : (10 : Int32).toInt = 10 := by decide
                have n_0 : (nI i_1).toInt = ((i_1 : Nat) : Int) := nI_toInt (by omega)
                have n_1 : (nI i_10).toInt = ((i_10 : Nat) : Int) := nI_toInt (by omega)
                omega
              exact ih_18 (i_10 + 1) g_24 g_26 g_28 g_30 g_32 g_34 _ _ _ (by omega) (by omega) (hP.sub [0, 1, 2, 3, 4, 5, 6, 7, 8] rfl) (hD.sub [0, 1, 2, 3, 4, 5, 6, 7, 8] rfl rfl) hS (lv_sub hl [0, 1] rfl)
        exact loop_19 (6 + 1) 0 d3 d4 d5 d6 d7 d8 _ _ _ (by omega) (by omega) hP hD hS hl
      · skip
        refine lv_aload_n hx hb dX9_clear_38 rfl (lv_at hl 1 rfl) ?_
        refine gf_X9_30 hx hb hts hown hK hP 0 rfl rfl dX9_clear_39 ?_
        refine lv_iload_n hx hb dX9_clear_42 rfl (lv_at hl 0 rfl) ?_
        refine lv_iconst (v := 0) hx hb dX9_clear_43 (by decide) ?_
        have hi_36 : vp_in (nI i_1) 10 := by
          have z_1 := Int32.lt_iff_toInt_lt.mp (Int32.not_le.mp c_9)
          have y_10 : (10 : Int32).toInt = 10 := by decide
          have n_0 : (nI i_1).toInt = ((i_1 : Nat) : Int) := nI_toInt (by omega)
          exact vp_in_nI (by omega) (by omega)
        refine st_int hx hb hK hP hD hS 1 0 rfl rfl hi_36 dX9_clear_44 (fun g_37 H locs eg_37 hP hD hS => ?_)
        have hP : va_P D classes [(sh, .inr (9, [.int 0, .int 0, .int 0, .int 0, .int 0, .int 0, .ref a1, .ref a2, .ref a3, .ref a4, .ref a5, .ref a6, .ref a7, .ref a8])), (a1, .inl (tc 0, 10, .inl g_37)), (a2, .inl (tc 0, 10, .inl g_3)), (a3, .inl (tc 0, 6, .inl d3)), (a4, .inl (tc 0, 6, .inl d4)), (a5, .inl (tc 0, 6, .inl d5)), (a6, .inl (tc 0, 6, .inl d6)), (a7, .inl (tc 0, 6, .inl d7)), (a8, .inl (tc 0, 6, .inl d8))] H := hP
        have hD : va_D A [(sh, .inr (9, [.int 0, .int 0, .int 0, .int 0, .int 0, .int 0, .ref a1, .ref a2, .ref a3, .ref a4, .ref a5, .ref a6, .ref a7, .ref a8])), (a1, .inl (tc 0, 10, .inl g_37)), (a2, .inl (tc 0, 10, .inl g_3)), (a3, .inl (tc 0, 6, .inl d3)), (a4, .inl (tc 0, 6, .inl d4)), (a5, .inl (tc 0, 6, .inl d5)), (a6, .inl (tc 0, 6, .inl d6)), (a7, .inl (tc 0, 6, .inl d7)), (a8, .inl (tc 0, 6, .inl d8))] := hD
        refine lv_aload_n hx hb dX9_clear_45 rfl (lv_at hl 1 rfl) ?_
        refine gf_X9_34 hx hb hts hown hK hP 0 rfl rfl dX9_clear_46 ?_
        refine lv_iload_n hx hb dX9_clear_49 rfl (lv_at hl 0 rfl) ?_
        refine lv_iconst (v := 0) hx hb dX9_clear_50 (by decide) ?_
        have hi_38 : vp_in (nI i_1) 10 := by
          have z_1 := Int32.lt_iff_toInt_lt.mp (Int32.not_le.mp c_9)
          have y_10 : (10 : Int32).toInt = 10 := by decide
          have n_0 : (nI i_1).toInt = ((i_1 : Nat) : Int) := nI_toInt (by omega)
          exact vp_in_nI (by omega) (by omega)
        refine st_int hx hb hK hP hD hS 2 0 rfl rfl hi_38 dX9_clear_51 (fun g_39 H locs eg_39 hP hD hS => ?_)
        have hP : va_P D classes [(sh, .inr (9, [.int 0, .int 0, .int 0, .int 0, .int 0, .int 0, .ref a1, .ref a2, .ref a3, .ref a4, .ref a5, .ref a6, .ref a7, .ref a8])), (a1, .inl (tc 0, 10, .inl g_37)), (a2, .inl (tc 0, 10, .inl g_39)), (a3, .inl (tc 0, 6, .inl d3)), (a4, .inl (tc 0, 6, .inl d4)), (a5, .inl (tc 0, 6, .inl d5)), (a6, .inl (tc 0, 6, .inl d6)), (a7, .inl (tc 0, 6, .inl d7)), (a8, .inl (tc 0, 6, .inl d8))] H := hP
        have hD : va_D A [(sh, .inr (9, [.int 0, .int 0, .int 0, .int 0, .int 0, .int 0, .ref a1, .ref a2, .ref a3, .ref a4, .ref a5, .ref a6, .ref a7, .ref a8])), (a1, .inl (tc 0, 10, .inl g_37)), (a2, .inl (tc 0, 10, .inl g_39)), (a3, .inl (tc 0, 6, .inl d3)), (a4, .inl (tc 0, 6, .inl d4)), (a5, .inl (tc 0, 6, .inl d5)), (a6, .inl (tc 0, 6, .inl d6)), (a7, .inl (tc 0, 6, .inl d7)), (a8, .inl (tc 0, 6, .inl d8))] := hD
        refine lv_iinc (v := (nI (i_1 + 1))) (lv' := [(1, .int (nI (i_1 + 1))), (0, .ref sh)]) hx hb dX9_clear_52 hl (k := 0) rfl (nI_add (i_1) 1) (by decide) rfl (fun ls hl => ?_)
        refine lv_goto (tgt := 32) hx hb dX9_clear_55 (by decide) ?_
        have hlt_40 : i_1 < 10 := by
          have z_1 := Int32.lt_iff_toInt_lt.mp (Int32.not_le.mp c_9)
          have y_10 : (10 : Int32).toInt = 10 := by decide
          have n_0 : (nI i_1).toInt = ((i_1 : Nat) : Int) := nI_toInt (by omega)
          omega
        exact ih_5 (i_1 + 1) g_37 g_39 _ _ _ (by omega) (by omega) (hP.sub [0, 1, 2, 3, 4, 5, 6, 7, 8] rfl) (hD.sub [0, 1, 2, 3, 4, 5, 6, 7, 8] rfl rfl) hS (lv_sub hl [0, 1] rfl)
  exact loop_6 (10 + 1) 0 d1 d2 _ _ _ (by omega) (by omega) hP hD hS hl
set_option maxHeartbeats 4000000 in
set_option maxRecDepth 100000 in
theorem ct_X0_readClause (l : Launch) (D : va_G) (tc : Nat → ClassId) (sk : (Nat → Nat) × (Nat → Nat)) (h0 : Nat) (ta : Nat) (t1 : Nat)  : Ct l yX0_readClause cX0_readClause 4 none { frames := 5, cells := 0, slots := 0, locals := 109 } D tc sk [.ref h0, .ref ta, .int 0] [(ta, .inr (10, [.ref t1, .int 0, .int 0, .int 0, .int (-1), .int 0]))] (fun (v : Option Value) (_ : Unit) => v = none) (fun (_ : Unit) => [(ta, .inr (10, [.ref t1, .int 0, .int 0, .int 0, .int (-1), .int 1]))]) 0 0 := by
  refine Ct.start (by decide) (Nat.le_of_ble_eq_true rfl) (fun p e s m below meth c A ls hx hb hr hlk hin hml hown hts hK hX hP hD hA hl hS => ?_)
  have hl : lv_has ls 4 [(0, .ref h0), (1, .ref ta), (2, .int 0)] := hl
  refine lv_aload_n hx hb dX0_readClause_0 rfl (lv_at hl 1 rfl) ?_
  refine va_ldcS hx hb hown (hX.2.2.2.1 0 _ rfl) dX0_readClause_1 ?_
  refine cV (a := ta) (As := [.ref (sk.1 0)]) (rest := []) (wr := []) ⟨hx, hb, hml, hown, hts⟩ hK hX hA (ct_X10_wordAmong_0 l D tc sk ta t1) k_501 k_498 k_499 k_500 k_96 pl_X10_wordAmong ⟨Nat.le_of_ble_eq_true rfl, Nat.le_of_ble_eq_true rfl⟩ rfl rfl (va_recv hK hP (ci := 10) (q0 := 0) rfl rfl) hP hD hS [0] [] rfl rfl rfl rfl rfl (by decide) rfl hl.1 rfl (Nat.le_of_ble_eq_true rfl) dX0_readClause_3 ⟨Nat.le_of_ble_eq_true rfl, Nat.le_of_ble_eq_true rfl⟩ (fun v_1 u_2 H locs hv_3 hP hD hS => ?_)
  obtain rfl : v_1 = some (.int (-1)) := hv_3
  refine W.eq (g2 := F0 m 6 ls [.int (-1)]) rfl ?_
  have hP : va_P D classes [(ta, .inr (10, [.ref t1, .int 0, .int 0, .int 0, .int (-1), .int 0]))] H := hP
  have hD : va_D A [(ta, .inr (10, [.ref t1, .int 0, .int 0, .int 0, .int (-1), .int 0]))] := hD
  refine lv_istore_n (lv' := [(3, .int (-1)), (0, .ref h0), (1, .ref ta), (2, .int 0)]) hx hb dX0_readClause_6 rfl hl (by decide) rfl (fun ls hl => ?_)
  refine lv_iload_n hx hb dX0_readClause_7 rfl (lv_at hl 0 rfl) ?_
  refine lv_iconst (v := (-1)) hx hb dX0_readClause_8 (by decide) ?_
  refine lv_icmp_ne (tgt := 20) hx hb dX0_readClause_9 (by decide) (fun c_4 => absurd c_4 (by decide)) (fun c_4 => ?_)
  refine lv_aload_n hx hb dX0_readClause_12 rfl (lv_at hl 2 rfl) ?_
  refine lv_iconst (v := 0) hx hb dX0_readClause_13 (by decide) ?_
  refine cV (a := ta) (As := [.int 0]) (rest := []) (wr := []) ⟨hx, hb, hml, hown, hts⟩ hK hX hA (ct_X10_fail_0 l D tc sk ta t1) k_557 k_554 k_555 k_556 k_96 pl_X10_fail ⟨Nat.le_of_ble_eq_true rfl, Nat.le_of_ble_eq_true rfl⟩ rfl rfl (va_recv hK hP (ci := 10) (q0 := 0) rfl rfl) hP hD hS [0] [] rfl rfl rfl rfl rfl (by decide) rfl hl.1 rfl (Nat.le_of_ble_eq_true rfl) dX0_readClause_14 ⟨Nat.le_of_ble_eq_true rfl, Nat.le_of_ble_eq_true rfl⟩ (fun v_5 u_6 H locs hv_7 hP hD hS => ?_)
  obtain rfl : v_5 = none := hv_7
  refine W.eq (g2 := F0 m 17 ls []) rfl ?_
  have hP : va_P D classes [(ta, .inr (10, [.ref t1, .int 0, .int 0, .int 0, .int (-1), .int 1]))] H := hP
  have hD : va_D A [(ta, .inr (10, [.ref t1, .int 0, .int 0, .int 0, .int (-1), .int 1]))] := hD
  refine lv_goto (tgt := 119) hx hb dX0_readClause_17 (by decide) ?_
  exact retV hx hb hr hlk hP hD hS () rfl [0] rfl rfl dX0_readClause_119 (Nat.le_of_ble_eq_true rfl) (Nat.le_of_ble_eq_true rfl) rfl
set_option maxHeartbeats 4000000 in
set_option maxRecDepth 100000 in
theorem ct_X0_read (l : Launch) (D : va_G) (tc : Nat → ClassId) (sk : (Nat → Nat) × (Nat → Nat)) (br : Nat) (b0 : Nat) (b1 : Nat) (b2 : Nat) (b3 : Nat) (b4 : Nat) (b5 : Nat) (b6 : Nat) (b7 : Nat) (b8 : Nat) (ta : Nat) (t1 : Nat)  : Ct l yX0_read cX0_read 3 (some .int) { frames := 6, cells := 0, slots := 0, locals := 132 } D tc sk [.ref br, .ref ta] [(br, .inr (0, [.ref b0])), (b0, .inr (9, [.int 0, .int 0, .int 0, .int 0, .int 0, .int 0, .ref b1, .ref b2, .ref b3, .ref b4, .ref b5, .ref b6, .ref b7, .ref b8])), (b1, .inl (tc 0, 10, .inl (fun _ => 0))), (b2, .inl (tc 0, 10, .inl (fun _ => 0))), (b3, .inl (tc 0, 6, .inl (fun _ => 0))), (b4, .inl (tc 0, 6, .inl (fun _ => 0))), (b5, .inl (tc 0, 6, .inl (fun _ => 0))), (b6, .inl (tc 0, 6, .inl (fun _ => 0))), (b7, .inl (tc 0, 6, .inl (fun _ => 0))), (b8, .inl (tc 0, 6, .inl (fun _ => 0))), (ta, .inr (10, [.ref t1, .int 0, .int 0, .int 0, .int (-1), .int 0]))] (fun (v : Option Value) (u : (Nat → Int32) × (Nat → Int32) × (Nat → Int32) × (Nat → Int32) × (Nat → Int32) × (Nat → Int32) × (Nat → Int32) × (Nat → Int32)) => match u with | (z1, z2, z3, z4, z5, z6, z7, z8) => v = some (.int 1)) (fun (u : (Nat → Int32) × (Nat → Int32) × (Nat → Int32) × (Nat → Int32) × (Nat → Int32) × (Nat → Int32) × (Nat → Int32) × (Nat → Int32)) => match u with | (z1, z2, z3, z4, z5, z6, z7, z8) => [(br, .inr (0, [.ref b0])), (b0, .inr (9, [.int 0, .int 0, .int 0, .int 0, .int 0, .int 0, .ref b1, .ref b2, .ref b3, .ref b4, .ref b5, .ref b6, .ref b7, .ref b8])), (b1, .inl (tc 0, 10, .inl z1)), (b2, .inl (tc 0, 10, .inl z2)), (b3, .inl (tc 0, 6, .inl z3)), (b4, .inl (tc 0, 6, .inl z4)), (b5, .inl (tc 0, 6, .inl z5)), (b6, .inl (tc 0, 6, .inl z6)), (b7, .inl (tc 0, 6, .inl z7)), (b8, .inl (tc 0, 6, .inl z8)), (ta, .inr (10, [.ref t1, .int 0, .int 0, .int 0, .int (-1), .int 1]))]) 0 0 := by
  refine Ct.start (by decide) (Nat.le_of_ble_eq_true rfl) (fun p e s m below meth c A ls hx hb hr hlk hin hml hown hts hK hX hP hD hA hl hS => ?_)
  have hl : lv_has ls 3 [(0, .ref br), (1, .ref ta)] := hl
  refine lv_aload_n hx hb dX0_read_0 rfl (lv_at hl 0 rfl) ?_
  refine gf_X0_12 hx hb hts hown hK hP 0 rfl rfl dX0_read_1 ?_
  refine cV (a := b0) (As := []) (rest := []) (wr := [(br, .inr (0, [.ref b0])), (ta, .inr (10, [.ref t1, .int 0, .int 0, .int 0, .int (-1), .int 0]))]) ⟨hx, hb, hml, hown, hts⟩ hK hX hA (ct_X9_clear l D tc sk b0 b1 b2 b3 b4 b5 b6 b7 b8 0 0 0 0 0 0 (fun _ => 0) (fun _ => 0) (fun _ => 0) (fun _ => 0) (fun _ => 0) (fun _ => 0) (fun _ => 0) (fun _ => 0)) k_470 k_467 k_468 k_469 k_98 pl_X9_clear ⟨Nat.le_of_ble_eq_true rfl, Nat.le_of_ble_eq_true rfl⟩ rfl rfl (va_recv hK hP (ci := 9) (q0 := 1) rfl rfl) hP hD hS [1, 2, 3, 4, 5, 6, 7, 8, 9] [0, 10] rfl rfl rfl rfl rfl (by decide) rfl hl.1 rfl (Nat.le_of_ble_eq_true rfl) dX0_read_4 ⟨Nat.le_of_ble_eq_true rfl, Nat.le_of_ble_eq_true rfl⟩ (fun v_1 u_2 H locs hv_3 hP hD hS => ?_)
  obtain ⟨z_4, z_5, z_6, z_7, z_8, z_9, z_10, z_11⟩ := u_2
  obtain rfl : v_1 = none := hv_3
  refine W.eq (g2 := F0 m 7 ls []) rfl ?_
  have hP : va_P D classes [(br, .inr (0, [.ref b0])), (ta, .inr (10, [.ref t1, .int 0, .int 0, .int 0, .int (-1), .int 0])), (b0, .inr (9, [.int 0, .int 0, .int 0, .int 0, .int 0, .int 0, .ref b1, .ref b2, .ref b3, .ref b4, .ref b5, .ref b6, .ref b7, .ref b8])), (b1, .inl (tc 0, 10, .inl z_4)), (b2, .inl (tc 0, 10, .inl z_5)), (b3, .inl (tc 0, 6, .inl z_6)), (b4, .inl (tc 0, 6, .inl z_7)), (b5, .inl (tc 0, 6, .inl z_8)), (b6, .inl (tc 0, 6, .inl z_9)), (b7, .inl (tc 0, 6, .inl z_10)), (b8, .inl (tc 0, 6, .inl z_11))] H := hP
  have hD : va_D A [(br, .inr (0, [.ref b0])), (ta, .inr (10, [.ref t1, .int 0, .int 0, .int 0, .int (-1), .int 0])), (b0, .inr (9, [.int 0, .int 0, .int 0, .int 0, .int 0, .int 0, .ref b1, .ref b2, .ref b3, .ref b4, .ref b5, .ref b6, .ref b7, .ref b8])), (b1, .inl (tc 0, 10, .inl z_4)), (b2, .inl (tc 0, 10, .inl z_5)), (b3, .inl (tc 0, 6, .inl z_6)), (b4, .inl (tc 0, 6, .inl z_7)), (b5, .inl (tc 0, 6, .inl z_8)), (b6, .inl (tc 0, 6, .inl z_9)), (b7, .inl (tc 0, 6, .inl z_10)), (b8, .inl (tc 0, 6, .inl z_11))] := hD
  refine lv_aload_n hx hb dX0_read_7 rfl (lv_at hl 1 rfl) ?_
  refine cV (a := ta) (As := []) (rest := []) (wr := [(br, .inr (0, [.ref b0])), (b0, .inr (9, [.int 0, .int 0, .int 0, .int 0, .int 0, .int 0, .ref b1, .ref b2, .ref b3, .ref b4, .ref b5, .ref b6, .ref b7, .ref b8])), (b1, .inl (tc 0, 10, .inl z_4)), (b2, .inl (tc 0, 10, .inl z_5)), (b3, .inl (tc 0, 6, .inl z_6)), (b4, .inl (tc 0, 6, .inl z_7)), (b5, .inl (tc 0, 6, .inl z_8)), (b6, .inl (tc 0, 6, .inl z_9)), (b7, .inl (tc 0, 6, .inl z_10)), (b8, .inl (tc 0, 6, .inl z_11))]) ⟨hx, hb, hml, hown, hts⟩ hK hX hA (ct_X10_begin l D tc sk ta t1 (-1) 0 0 0) k_474 k_471 k_472 k_473 k_96 pl_X10_begin ⟨Nat.le_of_ble_eq_true rfl, Nat.le_of_ble_eq_true rfl⟩ rfl rfl (va_recv hK hP (ci := 10) (q0 := 1) rfl rfl) hP hD hS [1] [0, 2, 3, 4, 5, 6, 7, 8, 9, 10] rfl rfl rfl rfl rfl (by decide) rfl hl.1 rfl (Nat.le_of_ble_eq_true rfl) dX0_read_8 ⟨Nat.le_of_ble_eq_true rfl, Nat.le_of_ble_eq_true rfl⟩ (fun v_12 u_13 H locs hv_14 hP hD hS => ?_)
  obtain rfl : v_12 = none := hv_14
  refine W.eq (g2 := F0 m 11 ls []) rfl ?_
  have hP : va_P D classes [(br, .inr (0, [.ref b0])), (b0, .inr (9, [.int 0, .int 0, .int 0, .int 0, .int 0, .int 0, .ref b1, .ref b2, .ref b3, .ref b4, .ref b5, .ref b6, .ref b7, .ref b8])), (b1, .inl (tc 0, 10, .inl z_4)), (b2, .inl (tc 0, 10, .inl z_5)), (b3, .inl (tc 0, 6, .inl z_6)), (b4, .inl (tc 0, 6, .inl z_7)), (b5, .inl (tc 0, 6, .inl z_8)), (b6, .inl (tc 0, 6, .inl z_9)), (b7, .inl (tc 0, 6, .inl z_10)), (b8, .inl (tc 0, 6, .inl z_11)), (ta, .inr (10, [.ref t1, .int 0, .int 0, .int 0, .int (-1), .int 0]))] H := hP
  have hD : va_D A [(br, .inr (0, [.ref b0])), (b0, .inr (9, [.int 0, .int 0, .int 0, .int 0, .int 0, .int 0, .ref b1, .ref b2, .ref b3, .ref b4, .ref b5, .ref b6, .ref b7, .ref b8])), (b1, .inl (tc 0, 10, .inl z_4)), (b2, .inl (tc 0, 10, .inl z_5)), (b3, .inl (tc 0, 6, .inl z_6)), (b4, .inl (tc 0, 6, .inl z_7)), (b5, .inl (tc 0, 6, .inl z_8)), (b6, .inl (tc 0, 6, .inl z_9)), (b7, .inl (tc 0, 6, .inl z_10)), (b8, .inl (tc 0, 6, .inl z_11)), (ta, .inr (10, [.ref t1, .int 0, .int 0, .int 0, .int (-1), .int 0]))] := hD
  refine lv_iconst (v := 0) hx hb dX0_read_11 (by decide) ?_
  refine lv_istore_n (lv' := [(2, .int 0), (0, .ref br), (1, .ref ta)]) hx hb dX0_read_12 rfl hl (by decide) rfl (fun ls hl => ?_)
  refine lv_iload_n hx hb dX0_read_13 rfl (lv_at hl 0 rfl) ?_
  refine lv_bipush (v := 40) hx hb dX0_read_14 (by decide) ?_
  refine lv_icmp_gt (tgt := 44) hx hb dX0_read_16 (by decide) (fun c_15 => absurd c_15 (by decide)) (fun c_15 => ?_)
  refine lv_iload_n hx hb dX0_read_19 rfl (lv_at hl 0 rfl) ?_
  refine lv_if_eq (tgt := 32) hx hb dX0_read_20 (by decide) (fun c_16 => ?_) (fun c_16 => absurd c_16 (by decide))
  refine lv_aload_n hx hb dX0_read_32 rfl (lv_at hl 1 rfl) ?_
  refine lv_aload_n hx hb dX0_read_33 rfl (lv_at hl 2 rfl) ?_
  refine lv_iload_n hx hb dX0_read_34 rfl (lv_at hl 0 rfl) ?_
  refine cV (a := br) (As := [.ref ta, .int 0]) (rest := []) (wr := [(br, .inr (0, [.ref b0])), (b0, .inr (9, [.int 0, .int 0, .int 0, .int 0, .int 0, .int 0, .ref b1, .ref b2, .ref b3, .ref b4, .ref b5, .ref b6, .ref b7, .ref b8])), (b1, .inl (tc 0, 10, .inl z_4)), (b2, .inl (tc 0, 10, .inl z_5)), (b3, .inl (tc 0, 6, .inl z_6)), (b4, .inl (tc 0, 6, .inl z_7)), (b5, .inl (tc 0, 6, .inl z_8)), (b6, .inl (tc 0, 6, .inl z_9)), (b7, .inl (tc 0, 6, .inl z_10)), (b8, .inl (tc 0, 6, .inl z_11))]) ⟨hx, hb, hml, hown, hts⟩ hK hX hA (ct_X0_readClause l D tc sk br ta t1) k_496 k_493 k_495 k_1 k_97 pl_X0_readClause ⟨Nat.le_of_ble_eq_true rfl, Nat.le_of_ble_eq_true rfl⟩ rfl rfl (va_recv hK hP (ci := 0) (q0 := 0) rfl rfl) hP hD hS [10] [0, 1, 2, 3, 4, 5, 6, 7, 8, 9] rfl rfl rfl rfl rfl (by decide) rfl hl.1 rfl (Nat.le_of_ble_eq_true rfl) dX0_read_35 ⟨Nat.le_of_ble_eq_true rfl, Nat.le_of_ble_eq_true rfl⟩ (fun v_17 u_18 H locs hv_19 hP hD hS => ?_)
  obtain rfl : v_17 = none := hv_19
  refine W.eq (g2 := F0 m 38 ls []) rfl ?_
  have hP : va_P D classes [(br, .inr (0, [.ref b0])), (b0, .inr (9, [.int 0, .int 0, .int 0, .int 0, .int 0, .int 0, .ref b1, .ref b2, .ref b3, .ref b4, .ref b5, .ref b6, .ref b7, .ref b8])), (b1, .inl (tc 0, 10, .inl z_4)), (b2, .inl (tc 0, 10, .inl z_5)), (b3, .inl (tc 0, 6, .inl z_6)), (b4, .inl (tc 0, 6, .inl z_7)), (b5, .inl (tc 0, 6, .inl z_8)), (b6, .inl (tc 0, 6, .inl z_9)), (b7, .inl (tc 0, 6, .inl z_10)), (b8, .inl (tc 0, 6, .inl z_11)), (ta, .inr (10, [.ref t1, .int 0, .int 0, .int 0, .int (-1), .int 1]))] H := hP
  have hD : va_D A [(br, .inr (0, [.ref b0])), (b0, .inr (9, [.int 0, .int 0, .int 0, .int 0, .int 0, .int 0, .ref b1, .ref b2, .ref b3, .ref b4, .ref b5, .ref b6, .ref b7, .ref b8])), (b1, .inl (tc 0, 10, .inl z_4)), (b2, .inl (tc 0, 10, .inl z_5)), (b3, .inl (tc 0, 6, .inl z_6)), (b4, .inl (tc 0, 6, .inl z_7)), (b5, .inl (tc 0, 6, .inl z_8)), (b6, .inl (tc 0, 6, .inl z_9)), (b7, .inl (tc 0, 6, .inl z_10)), (b8, .inl (tc 0, 6, .inl z_11)), (ta, .inr (10, [.ref t1, .int 0, .int 0, .int 0, .int (-1), .int 1]))] := hD
  refine lv_iinc (v := 1) (lv' := [(2, .int 1), (0, .ref br), (1, .ref ta)]) hx hb dX0_read_38 hl (k := 0) rfl (by decide) (by decide) rfl (fun ls hl => ?_)
  refine lv_goto (tgt := 13) hx hb dX0_read_41 (by decide) ?_
  refine lv_iload_n hx hb dX0_read_13 rfl (lv_at hl 0 rfl) ?_
  refine lv_bipush (v := 40) hx hb dX0_read_14 (by decide) ?_
  refine lv_icmp_gt (tgt := 44) hx hb dX0_read_16 (by decide) (fun c_20 => absurd c_20 (by decide)) (fun c_20 => ?_)
  refine lv_iload_n hx hb dX0_read_19 rfl (lv_at hl 0 rfl) ?_
  refine lv_if_eq (tgt := 32) hx hb dX0_read_20 (by decide) (fun c_21 => absurd c_21 (by decide)) (fun c_21 => ?_)
  refine lv_aload_n hx hb dX0_read_23 rfl (lv_at hl 2 rfl) ?_
  refine lv_bipush (v := 59) hx hb dX0_read_24 (by decide) ?_
  refine cV (a := ta) (As := [.int 59]) (rest := []) (wr := [(br, .inr (0, [.ref b0])), (b0, .inr (9, [.int 0, .int 0, .int 0, .int 0, .int 0, .int 0, .ref b1, .ref b2, .ref b3, .ref b4, .ref b5, .ref b6, .ref b7, .ref b8])), (b1, .inl (tc 0, 10, .inl z_4)), (b2, .inl (tc 0, 10, .inl z_5)), (b3, .inl (tc 0, 6, .inl z_6)), (b4, .inl (tc 0, 6, .inl z_7)), (b5, .inl (tc 0, 6, .inl z_8)), (b6, .inl (tc 0, 6, .inl z_9)), (b7, .inl (tc 0, 6, .inl z_10)), (b8, .inl (tc 0, 6, .inl z_11))]) ⟨hx, hb, hml, hown, hts⟩ hK hX hA (ct_X10_takes_1 l D tc sk ta t1) k_492 k_489 k_490 k_491 k_96 pl_X10_takes ⟨Nat.le_of_ble_eq_true rfl, Nat.le_of_ble_eq_true rfl⟩ rfl rfl (va_recv hK hP (ci := 10) (q0 := 10) rfl rfl) hP hD hS [10] [0, 1, 2, 3, 4, 5, 6, 7, 8, 9] rfl rfl rfl rfl rfl (by decide) rfl hl.1 rfl (Nat.le_of_ble_eq_true rfl) dX0_read_26 ⟨Nat.le_of_ble_eq_true rfl, Nat.le_of_ble_eq_true rfl⟩ (fun v_22 u_23 H locs hv_24 hP hD hS => ?_)
  obtain rfl : v_22 = some (.int 0) := hv_24
  refine W.eq (g2 := F0 m 29 ls [.int 0]) rfl ?_
  have hP : va_P D classes [(br, .inr (0, [.ref b0])), (b0, .inr (9, [.int 0, .int 0, .int 0, .int 0, .int 0, .int 0, .ref b1, .ref b2, .ref b3, .ref b4, .ref b5, .ref b6, .ref b7, .ref b8])), (b1, .inl (tc 0, 10, .inl z_4)), (b2, .inl (tc 0, 10, .inl z_5)), (b3, .inl (tc 0, 6, .inl z_6)), (b4, .inl (tc 0, 6, .inl z_7)), (b5, .inl (tc 0, 6, .inl z_8)), (b6, .inl (tc 0, 6, .inl z_9)), (b7, .inl (tc 0, 6, .inl z_10)), (b8, .inl (tc 0, 6, .inl z_11)), (ta, .inr (10, [.ref t1, .int 0, .int 0, .int 0, .int (-1), .int 1]))] H := hP
  have hD : va_D A [(br, .inr (0, [.ref b0])), (b0, .inr (9, [.int 0, .int 0, .int 0, .int 0, .int 0, .int 0, .ref b1, .ref b2, .ref b3, .ref b4, .ref b5, .ref b6, .ref b7, .ref b8])), (b1, .inl (tc 0, 10, .inl z_4)), (b2, .inl (tc 0, 10, .inl z_5)), (b3, .inl (tc 0, 6, .inl z_6)), (b4, .inl (tc 0, 6, .inl z_7)), (b5, .inl (tc 0, 6, .inl z_8)), (b6, .inl (tc 0, 6, .inl z_9)), (b7, .inl (tc 0, 6, .inl z_10)), (b8, .inl (tc 0, 6, .inl z_11)), (ta, .inr (10, [.ref t1, .int 0, .int 0, .int 0, .int (-1), .int 1]))] := hD
  refine lv_if_eq (tgt := 44) hx hb dX0_read_29 (by decide) (fun c_25 => ?_) (fun c_25 => absurd c_25 (by decide))
  refine lv_aload_n hx hb dX0_read_44 rfl (lv_at hl 2 rfl) ?_
  refine cV (a := ta) (As := []) (rest := []) (wr := [(br, .inr (0, [.ref b0])), (b0, .inr (9, [.int 0, .int 0, .int 0, .int 0, .int 0, .int 0, .ref b1, .ref b2, .ref b3, .ref b4, .ref b5, .ref b6, .ref b7, .ref b8])), (b1, .inl (tc 0, 10, .inl z_4)), (b2, .inl (tc 0, 10, .inl z_5)), (b3, .inl (tc 0, 6, .inl z_6)), (b4, .inl (tc 0, 6, .inl z_7)), (b5, .inl (tc 0, 6, .inl z_8)), (b6, .inl (tc 0, 6, .inl z_9)), (b7, .inl (tc 0, 6, .inl z_10)), (b8, .inl (tc 0, 6, .inl z_11))]) ⟨hx, hb, hml, hown, hts⟩ hK hX hA (ct_X10_finish_1 l D tc sk ta t1) k_595 k_592 k_593 k_594 k_96 pl_X10_finish ⟨Nat.le_of_ble_eq_true rfl, Nat.le_of_ble_eq_true rfl⟩ rfl rfl (va_recv hK hP (ci := 10) (q0 := 10) rfl rfl) hP hD hS [10] [0, 1, 2, 3, 4, 5, 6, 7, 8, 9] rfl rfl rfl rfl rfl (by decide) rfl hl.1 rfl (Nat.le_of_ble_eq_true rfl) dX0_read_45 ⟨Nat.le_of_ble_eq_true rfl, Nat.le_of_ble_eq_true rfl⟩ (fun v_26 u_27 H locs hv_28 hP hD hS => ?_)
  obtain rfl : v_26 = none := hv_28
  refine W.eq (g2 := F0 m 48 ls []) rfl ?_
  have hP : va_P D classes [(br, .inr (0, [.ref b0])), (b0, .inr (9, [.int 0, .int 0, .int 0, .int 0, .int 0, .int 0, .ref b1, .ref b2, .ref b3, .ref b4, .ref b5, .ref b6, .ref b7, .ref b8])), (b1, .inl (tc 0, 10, .inl z_4)), (b2, .inl (tc 0, 10, .inl z_5)), (b3, .inl (tc 0, 6, .inl z_6)), (b4, .inl (tc 0, 6, .inl z_7)), (b5, .inl (tc 0, 6, .inl z_8)), (b6, .inl (tc 0, 6, .inl z_9)), (b7, .inl (tc 0, 6, .inl z_10)), (b8, .inl (tc 0, 6, .inl z_11)), (ta, .inr (10, [.ref t1, .int 0, .int 0, .int 0, .int (-1), .int 1]))] H := hP
  have hD : va_D A [(br, .inr (0, [.ref b0])), (b0, .inr (9, [.int 0, .int 0, .int 0, .int 0, .int 0, .int 0, .ref b1, .ref b2, .ref b3, .ref b4, .ref b5, .ref b6, .ref b7, .ref b8])), (b1, .inl (tc 0, 10, .inl z_4)), (b2, .inl (tc 0, 10, .inl z_5)), (b3, .inl (tc 0, 6, .inl z_6)), (b4, .inl (tc 0, 6, .inl z_7)), (b5, .inl (tc 0, 6, .inl z_8)), (b6, .inl (tc 0, 6, .inl z_9)), (b7, .inl (tc 0, 6, .inl z_10)), (b8, .inl (tc 0, 6, .inl z_11)), (ta, .inr (10, [.ref t1, .int 0, .int 0, .int 0, .int (-1), .int 1]))] := hD
  refine lv_aload_n hx hb dX0_read_48 rfl (lv_at hl 2 rfl) ?_
  refine gf_X0_37 hx hb hts hown hK hP 10 rfl rfl dX0_read_49 ?_
  exact retI (v := 1) hx hb hr hlk (rfl) hP hD hS (z_4, z_5, z_6, z_7, z_8, z_9, z_10, z_11) rfl [0, 1, 2, 3, 4, 5, 6, 7, 8, 9, 10] rfl rfl dX0_read_52 (Nat.le_of_ble_eq_true rfl) (Nat.le_of_ble_eq_true rfl) rfl
set_option maxHeartbeats 4000000 in
set_option maxRecDepth 100000 in
theorem ct_X11_book (l : Launch) (D : va_G) (tc : Nat → ClassId) (sk : (Nat → Nat) × (Nat → Nat)) (h0 : Nat) (ta : Nat) (br : Nat) (rr : Nat) (ru : Nat) (sc : Nat) (sh : Nat) (pa : Nat) (im : Nat) (ou : Nat) (ch : Nat) (iq : Nat) (t1 : Nat) (b0 : Nat) (b1 : Nat) (b2 : Nat) (b3 : Nat) (b4 : Nat) (b5 : Nat) (b6 : Nat) (b7 : Nat) (b8 : Nat)  : Ct l yX11_book cX11_book 2 (some .int) { frames := 7, cells := 0, slots := 0, locals := 154 } D tc sk [.ref h0] [(h0, .inr (11, [.ref ta, .ref br, .ref rr, .ref ru, .int 0, .ref sc, .ref sh, .ref pa, .ref im, .ref ou, .ref ch, .ref iq])), (br, .inr (0, [.ref b0])), (b0, .inr (9, [.int 0, .int 0, .int 0, .int 0, .int 0, .int 0, .ref b1, .ref b2, .ref b3, .ref b4, .ref b5, .ref b6, .ref b7, .ref b8])), (b1, .inl (tc 0, 10, .inl (fun _ => 0))), (b2, .inl (tc 0, 10, .inl (fun _ => 0))), (b3, .inl (tc 0, 6, .inl (fun _ => 0))), (b4, .inl (tc 0, 6, .inl (fun _ => 0))), (b5, .inl (tc 0, 6, .inl (fun _ => 0))), (b6, .inl (tc 0, 6, .inl (fun _ => 0))), (b7, .inl (tc 0, 6, .inl (fun _ => 0))), (b8, .inl (tc 0, 6, .inl (fun _ => 0))), (ta, .inr (10, [.ref t1, .int 0, .int 0, .int 0, .int (-1), .int 0]))] (fun (v : Option Value) (_ : Unit) => v = some (.int (-3))) (fun (_ : Unit) => []) 0 0 := by
  refine Ct.start (by decide) (Nat.le_of_ble_eq_true rfl) (fun p e s m below meth c A ls hx hb hr hlk hin hml hown hts hK hX hP hD hA hl hS => ?_)
  have hl : lv_has ls 2 [(0, .ref h0)] := hl
  refine lv_aload_n hx hb dX11_book_0 rfl (lv_at hl 0 rfl) ?_
  refine gf_X11_19 hx hb hts hown hK hP 0 rfl rfl dX11_book_1 ?_
  refine lv_aload_n hx hb dX11_book_4 rfl (lv_at hl 0 rfl) ?_
  refine gf_X11_10 hx hb hts hown hK hP 0 rfl rfl dX11_book_5 ?_
  refine cV (a := br) (As := [.ref ta]) (rest := []) (wr := [(h0, .inr (11, [.ref ta, .ref br, .ref rr, .ref ru, .int 0, .ref sc, .ref sh, .ref pa, .ref im, .ref ou, .ref ch, .ref iq]))]) ⟨hx, hb, hml, hown, hts⟩ hK hX hA (ct_X0_read l D tc sk br b0 b1 b2 b3 b4 b5 b6 b7 b8 ta t1) k_466 k_463 k_464 k_465 k_97 pl_X0_read ⟨Nat.le_of_ble_eq_true rfl, Nat.le_of_ble_eq_true rfl⟩ rfl rfl (va_recv hK hP (ci := 0) (q0 := 1) rfl rfl) hP hD hS [1, 2, 3, 4, 5, 6, 7, 8, 9, 10, 11] [0] rfl rfl rfl rfl rfl (by decide) rfl hl.1 rfl (Nat.le_of_ble_eq_true rfl) dX11_book_8 ⟨Nat.le_of_ble_eq_true rfl, Nat.le_of_ble_eq_true rfl⟩ (fun v_1 u_2 H locs hv_3 hP hD hS => ?_)
  obtain ⟨z_4, z_5, z_6, z_7, z_8, z_9, z_10, z_11⟩ := u_2
  obtain rfl : v_1 = some (.int 1) := hv_3
  refine W.eq (g2 := F0 m 11 ls [.int 1]) rfl ?_
  have hP : va_P D classes [(h0, .inr (11, [.ref ta, .ref br, .ref rr, .ref ru, .int 0, .ref sc, .ref sh, .ref pa, .ref im, .ref ou, .ref ch, .ref iq])), (br, .inr (0, [.ref b0])), (b0, .inr (9, [.int 0, .int 0, .int 0, .int 0, .int 0, .int 0, .ref b1, .ref b2, .ref b3, .ref b4, .ref b5, .ref b6, .ref b7, .ref b8])), (b1, .inl (tc 0, 10, .inl z_4)), (b2, .inl (tc 0, 10, .inl z_5)), (b3, .inl (tc 0, 6, .inl z_6)), (b4, .inl (tc 0, 6, .inl z_7)), (b5, .inl (tc 0, 6, .inl z_8)), (b6, .inl (tc 0, 6, .inl z_9)), (b7, .inl (tc 0, 6, .inl z_10)), (b8, .inl (tc 0, 6, .inl z_11)), (ta, .inr (10, [.ref t1, .int 0, .int 0, .int 0, .int (-1), .int 1]))] H := hP
  have hD : va_D A [(h0, .inr (11, [.ref ta, .ref br, .ref rr, .ref ru, .int 0, .ref sc, .ref sh, .ref pa, .ref im, .ref ou, .ref ch, .ref iq])), (br, .inr (0, [.ref b0])), (b0, .inr (9, [.int 0, .int 0, .int 0, .int 0, .int 0, .int 0, .ref b1, .ref b2, .ref b3, .ref b4, .ref b5, .ref b6, .ref b7, .ref b8])), (b1, .inl (tc 0, 10, .inl z_4)), (b2, .inl (tc 0, 10, .inl z_5)), (b3, .inl (tc 0, 6, .inl z_6)), (b4, .inl (tc 0, 6, .inl z_7)), (b5, .inl (tc 0, 6, .inl z_8)), (b6, .inl (tc 0, 6, .inl z_9)), (b7, .inl (tc 0, 6, .inl z_10)), (b8, .inl (tc 0, 6, .inl z_11)), (ta, .inr (10, [.ref t1, .int 0, .int 0, .int 0, .int (-1), .int 1]))] := hD
  refine lv_istore_n (lv' := [(1, .int 1), (0, .ref h0)]) hx hb dX11_book_11 rfl hl (by decide) rfl (fun ls hl => ?_)
  refine lv_aload_n hx hb dX11_book_12 rfl (lv_at hl 1 rfl) ?_
  refine gf_X11_10 hx hb hts hown hK hP 0 rfl rfl dX11_book_13 ?_
  refine lv_iconst (v := 0) hx hb dX11_book_16 (by decide) ?_
  refine pf_X11_94 hx hb hts hown hK hP hD hS 11 rfl (Nat.le_of_ble_eq_true rfl) rfl rfl dX11_book_17 (fun H locs hP hD hS => ?_)
  have hP : va_P D classes [(h0, .inr (11, [.ref ta, .ref br, .ref rr, .ref ru, .int 0, .ref sc, .ref sh, .ref pa, .ref im, .ref ou, .ref ch, .ref iq])), (br, .inr (0, [.ref b0])), (b0, .inr (9, [.int 0, .int 0, .int 0, .int 0, .int 0, .int 0, .ref b1, .ref b2, .ref b3, .ref b4, .ref b5, .ref b6, .ref b7, .ref b8])), (b1, .inl (tc 0, 10, .inl z_4)), (b2, .inl (tc 0, 10, .inl z_5)), (b3, .inl (tc 0, 6, .inl z_6)), (b4, .inl (tc 0, 6, .inl z_7)), (b5, .inl (tc 0, 6, .inl z_8)), (b6, .inl (tc 0, 6, .inl z_9)), (b7, .inl (tc 0, 6, .inl z_10)), (b8, .inl (tc 0, 6, .inl z_11)), (ta, .inr (10, [.ref t1, .int 0, .int 0, .int 0, .int (-1), .int 1]))] H := hP
  have hD : va_D A [(h0, .inr (11, [.ref ta, .ref br, .ref rr, .ref ru, .int 0, .ref sc, .ref sh, .ref pa, .ref im, .ref ou, .ref ch, .ref iq])), (br, .inr (0, [.ref b0])), (b0, .inr (9, [.int 0, .int 0, .int 0, .int 0, .int 0, .int 0, .ref b1, .ref b2, .ref b3, .ref b4, .ref b5, .ref b6, .ref b7, .ref b8])), (b1, .inl (tc 0, 10, .inl z_4)), (b2, .inl (tc 0, 10, .inl z_5)), (b3, .inl (tc 0, 6, .inl z_6)), (b4, .inl (tc 0, 6, .inl z_7)), (b5, .inl (tc 0, 6, .inl z_8)), (b6, .inl (tc 0, 6, .inl z_9)), (b7, .inl (tc 0, 6, .inl z_10)), (b8, .inl (tc 0, 6, .inl z_11)), (ta, .inr (10, [.ref t1, .int 0, .int 0, .int 0, .int (-1), .int 1]))] := hD
  refine lv_iload_n hx hb dX11_book_20 rfl (lv_at hl 0 rfl) ?_
  refine lv_if_eq (tgt := 29) hx hb dX11_book_21 (by decide) (fun c_12 => absurd c_12 (by decide)) (fun c_12 => ?_)
  refine lv_bipush (v := (-2)) hx hb dX11_book_24 (by decide) ?_
  refine lv_iload_n hx hb dX11_book_26 rfl (lv_at hl 0 rfl) ?_
  refine lv_isub hx hb dX11_book_27 ?_
  refine lv_lit (v := (-3)) (by decide) ?_
  exact retI (v := (-3)) hx hb hr hlk (rfl) hP hD hS () rfl [] rfl rfl dX11_book_28 (Nat.le_of_ble_eq_true rfl) (Nat.le_of_ble_eq_true rfl) rfl
set_option maxHeartbeats 4000000 in
set_option maxRecDepth 100000 in
theorem ct_X7_countOne (l : Launch) (D : va_G) (tc : Nat → ClassId) (sk : (Nat → Nat) × (Nat → Nat)) (rr : Nat) (r1 : Nat) (ta : Nat) (un : Int32)  : Ct l yX7_countOne cX7_countOne 2 none { frames := 0, cells := 0, slots := 0, locals := 0 } D tc sk [.ref rr, .ref ta] [(rr, .inr (7, [.ref r1, .int un, .int 0]))] (fun (v : Option Value) (_ : Unit) => v = none) (fun (_ : Unit) => [(rr, .inr (7, [.ref r1, .int un, .int 1]))]) 0 0 := by
  refine Ct.start (by decide) (Nat.le_of_ble_eq_true rfl) (fun p e s m below meth c A ls hx hb hr hlk hin hml hown hts hK hX hP hD hA hl hS => ?_)
  have hl : lv_has ls 2 [(0, .ref rr), (1, .ref ta)] := hl
  refine lv_aload_n hx hb dX7_countOne_0 rfl (lv_at hl 0 rfl) ?_
  refine gf_X7_19 hx hb hts hown hK hP 0 rfl rfl dX7_countOne_1 ?_
  refine lv_bipush (v := 60) hx hb dX7_countOne_4 (by decide) ?_
  refine lv_icmp_lt (tgt := 14) hx hb dX7_countOne_6 (by decide) (fun c_1 => ?_) (fun c_1 => absurd c_1 (by decide))
  refine lv_aload_n hx hb dX7_countOne_14 rfl (lv_at hl 0 rfl) ?_
  refine lv_dup hx hb dX7_countOne_15 rfl ?_
  refine gf_X7_19 hx hb hts hown hK hP 0 rfl rfl dX7_countOne_16 ?_
  refine lv_iconst (v := 1) hx hb dX7_countOne_19 (by decide) ?_
  refine lv_iadd hx hb dX7_countOne_20 ?_
  refine lv_lit (v := 1) (by decide) ?_
  refine pf_X7_19 hx hb hts hown hK hP hD hS 0 rfl (Nat.le_of_ble_eq_true rfl) rfl rfl dX7_countOne_21 (fun H locs hP hD hS => ?_)
  have hP : va_P D classes [(rr, .inr (7, [.ref r1, .int un, .int 1]))] H := hP
  have hD : va_D A [(rr, .inr (7, [.ref r1, .int un, .int 1]))] := hD
  exact retV hx hb hr hlk hP hD hS () rfl [0] rfl rfl dX7_countOne_24 (Nat.le_of_ble_eq_true rfl) (Nat.le_of_ble_eq_true rfl) rfl
set_option maxHeartbeats 4000000 in
set_option maxRecDepth 100000 in
theorem ct_X7_put (l : Launch) (D : va_G) (tc : Nat → ClassId) (sk : (Nat → Nat) × (Nat → Nat)) (rr : Nat) (r1 : Nat) (n : Nat) (x1 : Int32) (cn : Int32) (gc : Nat → Int32) (hn : n < 400) : Ct l yX7_put cX7_put 2 none { frames := 0, cells := 0, slots := 0, locals := 0 } D tc sk [.ref rr, .int x1] [(rr, .inr (7, [.ref r1, .int (nI n), .int cn])), (r1, .inl (tc 0, 400, .inl gc))] (fun (v : Option Value) (gz : Nat → Int32) => v = none) (fun (gz : Nat → Int32) => [(rr, .inr (7, [.ref r1, .int (nI (n + 1)), .int cn])), (r1, .inl (tc 0, 400, .inl gz))]) 0 0 := by
  refine Ct.start (by decide) (Nat.le_of_ble_eq_true rfl) (fun p e s m below meth c A ls hx hb hr hlk hin hml hown hts hK hX hP hD hA hl hS => ?_)
  have hl : lv_has ls 2 [(0, .ref rr), (1, .int x1)] := hl
  refine lv_aload_n hx hb dX7_put_0 rfl (lv_at hl 0 rfl) ?_
  refine gf_X7_15 hx hb hts hown hK hP 0 rfl rfl dX7_put_1 ?_
  refine lv_if_lt (tgt := 39) hx hb dX7_put_4 (by decide) (fun c_1 => ?_) (fun c_1 => ?_)
  · skip
    exfalso
    have z_1 := Int32.lt_iff_toInt_lt.mp c_1
    have y_0 : (0 : Int32).toInt = 0 := by decide
    have n_0 : (nI n).toInt = ((n : Nat) : Int) := nI_toInt (by omega)
    omega
  · skip
    refine lv_aload_n hx hb dX7_put_7 rfl (lv_at hl 0 rfl) ?_
    refine gf_X7_15 hx hb hts hown hK hP 0 rfl rfl dX7_put_8 ?_
    refine lv_aload_n hx hb dX7_put_11 rfl (lv_at hl 0 rfl) ?_
    refine gf_X7_9 hx hb hts hown hK hP 0 rfl rfl dX7_put_12 ?_
    refine va_alen hx hb hK hP 1 0 rfl rfl (v := 400) rfl dX7_put_15 ?_
    refine lv_icmp_ge (tgt := 39) hx hb dX7_put_16 (by decide) (fun c_2 => ?_) (fun c_2 => ?_)
    · skip
      exfalso
      have z_1 := Int32.le_iff_toInt_le.mp (Int32.not_lt.mp c_1)
      have z_2 := Int32.le_iff_toInt_le.mp c_2
      have y_0 : (0 : Int32).toInt = 0 := by decide
      have y_400 : (400 : Int32).toInt = 400 := by decide
      have n_0 : (nI n).toInt = ((n : Nat) : Int) := nI_toInt (by omega)
      omega
    · skip
      refine lv_aload_n hx hb dX7_put_19 rfl (lv_at hl 0 rfl) ?_
      refine gf_X7_9 hx hb hts hown hK hP 0 rfl rfl dX7_put_20 ?_
      refine lv_aload_n hx hb dX7_put_23 rfl (lv_at hl 0 rfl) ?_
      refine gf_X7_15 hx hb hts hown hK hP 0 rfl rfl dX7_put_24 ?_
      refine lv_iload_n hx hb dX7_put_27 rfl (lv_at hl 1 rfl) ?_
      have hi_3 : vp_in (nI n) 400 := by
        have z_1 := Int32.le_iff_toInt_le.mp (Int32.not_lt.mp c_1)
        have z_2 := Int32.lt_iff_toInt_lt.mp (Int32.not_le.mp c_2)
        have y_0 : (0 : Int32).toInt = 0 := by decide
        have y_400 : (400 : Int32).toInt = 400 := by decide
        have n_0 : (nI n).toInt = ((n : Nat) : Int) := nI_toInt (by omega)
        exact vp_in_nI (by omega) (by omega)
      refine st_int hx hb hK hP hD hS 1 0 rfl rfl hi_3 dX7_put_28 (fun g_4 H locs eg_4 hP hD hS => ?_)
      have hP : va_P D classes [(rr, .inr (7, [.ref r1, .int (nI n), .int cn])), (r1, .inl (tc 0, 400, .inl g_4))] H := hP
      have hD : va_D A [(rr, .inr (7, [.ref r1, .int (nI n), .int cn])), (r1, .inl (tc 0, 400, .inl g_4))] := hD
      refine lv_aload_n hx hb dX7_put_29 rfl (lv_at hl 0 rfl) ?_
      refine lv_dup hx hb dX7_put_30 rfl ?_
      refine gf_X7_15 hx hb hts hown hK hP 0 rfl rfl dX7_put_31 ?_
      refine lv_iconst (v := 1) hx hb dX7_put_34 (by decide) ?_
      refine lv_iadd hx hb dX7_put_35 ?_
      refine lv_lit (v := (nI (n + 1))) (nI_addE (n) (1) (n + 1) (by omega)) ?_
      refine pf_X7_15 hx hb hts hown hK hP hD hS 0 rfl (Nat.le_of_ble_eq_true rfl) rfl rfl dX7_put_36 (fun H locs hP hD hS => ?_)
      have hP : va_P D classes [(rr, .inr (7, [.ref r1, .int (nI (n + 1)), .int cn])), (r1, .inl (tc 0, 400, .inl g_4))] H := hP
      have hD : va_D A [(rr, .inr (7, [.ref r1, .int (nI (n + 1)), .int cn])), (r1, .inl (tc 0, 400, .inl g_4))] := hD
      exact retV hx hb hr hlk hP hD hS g_4 rfl [0, 1] rfl rfl dX7_put_39 (Nat.le_of_ble_eq_true rfl) (Nat.le_of_ble_eq_true rfl) rfl
set_option maxHeartbeats 4000000 in
set_option maxRecDepth 100000 in
theorem ct_X7_readValue (l : Launch) (D : va_G) (tc : Nat → ClassId) (sk : (Nat → Nat) × (Nat → Nat)) (rr : Nat) (r1 : Nat) (ta : Nat) (t1 : Nat) (gc : Nat → Int32)  : Ct l yX7_readValue cX7_readValue 4 none { frames := 5, cells := 0, slots := 0, locals := 109 } D tc sk [.ref rr, .ref ta] [(rr, .inr (7, [.ref r1, .int 0, .int 0])), (r1, .inl (tc 0, 400, .inl gc)), (ta, .inr (10, [.ref t1, .int 0, .int 0, .int 0, .int (-1), .int 1]))] (fun (v : Option Value) (gz : Nat → Int32) => v = none) (fun (gz : Nat → Int32) => [(rr, .inr (7, [.ref r1, .int 1, .int 1])), (r1, .inl (tc 0, 400, .inl gz)), (ta, .inr (10, [.ref t1, .int 0, .int 0, .int 0, .int (-1), .int 1]))]) 0 0 := by
  refine Ct.start (by decide) (Nat.le_of_ble_eq_true rfl) (fun p e s m below meth c A ls hx hb hr hlk hin hml hown hts hK hX hP hD hA hl hS => ?_)
  have hl : lv_has ls 4 [(0, .ref rr), (1, .ref ta)] := hl
  refine lv_iconst (v := 0) hx hb dX7_readValue_0 (by decide) ?_
  refine lv_istore_n (lv' := [(2, .int 0), (0, .ref rr), (1, .ref ta)]) hx hb dX7_readValue_1 rfl hl (by decide) rfl (fun ls hl => ?_)
  refine lv_aload_n hx hb dX7_readValue_2 rfl (lv_at hl 2 rfl) ?_
  refine gf_X7_86 hx hb hts hown hK hP 2 rfl rfl dX7_readValue_3 ?_
  refine cS (As := [.int (-1)]) (rest := []) (wr := [(rr, .inr (7, [.ref r1, .int 0, .int 0])), (r1, .inl (tc 0, 400, .inl gc)), (ta, .inr (10, [.ref t1, .int 0, .int 0, .int 0, .int (-1), .int 1]))]) ⟨hx, hb, hml, hown, hts⟩ hK hX hA (ct_X10_isDigit l D tc sk ) k_488 k_629 k_487 k_96 pl_X10_isDigit ⟨Nat.le_of_ble_eq_true rfl, Nat.le_of_ble_eq_true rfl⟩ rfl rfl  hP hD hS [] [0, 1, 2] rfl rfl rfl rfl rfl (by decide) rfl hl.1 rfl (Nat.le_of_ble_eq_true rfl) dX7_readValue_6 ⟨Nat.le_of_ble_eq_true rfl, Nat.le_of_ble_eq_true rfl⟩ (fun v_1 u_2 H locs hv_3 hP hD hS => ?_)
  obtain rfl : v_1 = some (.int 0) := hv_3
  refine W.eq (g2 := F0 m 9 ls [.int 0]) rfl ?_
  have hP : va_P D classes [(rr, .inr (7, [.ref r1, .int 0, .int 0])), (r1, .inl (tc 0, 400, .inl gc)), (ta, .inr (10, [.ref t1, .int 0, .int 0, .int 0, .int (-1), .int 1]))] H := hP
  have hD : va_D A [(rr, .inr (7, [.ref r1, .int 0, .int 0])), (r1, .inl (tc 0, 400, .inl gc)), (ta, .inr (10, [.ref t1, .int 0, .int 0, .int 0, .int (-1), .int 1]))] := hD
  refine lv_if_eq (tgt := 23) hx hb dX7_readValue_9 (by decide) (fun c_4 => ?_) (fun c_4 => absurd c_4 (by decide))
  refine lv_aload_n hx hb dX7_readValue_23 rfl (lv_at hl 2 rfl) ?_
  refine va_ldcS hx hb hown (hX.2.2.2.1 2 _ rfl) dX7_readValue_24 ?_
  refine cV (a := ta) (As := [.ref (sk.1 2)]) (rest := []) (wr := [(rr, .inr (7, [.ref r1, .int 0, .int 0])), (r1, .inl (tc 0, 400, .inl gc))]) ⟨hx, hb, hml, hown, hts⟩ hK hX hA (ct_X10_wordAmong_1 l D tc sk ta t1) k_501 k_633 k_499 k_500 k_96 pl_X10_wordAmong ⟨Nat.le_of_ble_eq_true rfl, Nat.le_of_ble_eq_true rfl⟩ rfl rfl (va_recv hK hP (ci := 10) (q0 := 2) rfl rfl) hP hD hS [2] [0, 1] rfl rfl rfl rfl rfl (by decide) rfl hl.1 rfl (Nat.le_of_ble_eq_true rfl) dX7_readValue_26 ⟨Nat.le_of_ble_eq_true rfl, Nat.le_of_ble_eq_true rfl⟩ (fun v_5 u_6 H locs hv_7 hP hD hS => ?_)
  obtain rfl : v_5 = some (.int (-1)) := hv_7
  refine W.eq (g2 := F0 m 29 ls [.int (-1)]) rfl ?_
  have hP : va_P D classes [(rr, .inr (7, [.ref r1, .int 0, .int 0])), (r1, .inl (tc 0, 400, .inl gc)), (ta, .inr (10, [.ref t1, .int 0, .int 0, .int 0, .int (-1), .int 1]))] H := hP
  have hD : va_D A [(rr, .inr (7, [.ref r1, .int 0, .int 0])), (r1, .inl (tc 0, 400, .inl gc)), (ta, .inr (10, [.ref t1, .int 0, .int 0, .int 0, .int (-1), .int 1]))] := hD
  refine lv_istore_n (lv' := [(3, .int (-1)), (2, .int 0), (0, .ref rr), (1, .ref ta)]) hx hb dX7_readValue_29 rfl hl (by decide) rfl (fun ls hl => ?_)
  refine lv_iload_n hx hb dX7_readValue_30 rfl (lv_at hl 0 rfl) ?_
  refine lv_iconst (v := (-1)) hx hb dX7_readValue_31 (by decide) ?_
  refine lv_icmp_ne (tgt := 43) hx hb dX7_readValue_32 (by decide) (fun c_8 => absurd c_8 (by decide)) (fun c_8 => ?_)
  refine lv_aload_n hx hb dX7_readValue_35 rfl (lv_at hl 3 rfl) ?_
  refine lv_iconst (v := 0) hx hb dX7_readValue_36 (by decide) ?_
  refine cV (a := ta) (As := [.int 0]) (rest := []) (wr := [(rr, .inr (7, [.ref r1, .int 0, .int 0])), (r1, .inl (tc 0, 400, .inl gc))]) ⟨hx, hb, hml, hown, hts⟩ hK hX hA (ct_X10_fail_1 l D tc sk ta t1) k_557 k_619 k_555 k_556 k_96 pl_X10_fail ⟨Nat.le_of_ble_eq_true rfl, Nat.le_of_ble_eq_true rfl⟩ rfl rfl (va_recv hK hP (ci := 10) (q0 := 2) rfl rfl) hP hD hS [2] [0, 1] rfl rfl rfl rfl rfl (by decide) rfl hl.1 rfl (Nat.le_of_ble_eq_true rfl) dX7_readValue_37 ⟨Nat.le_of_ble_eq_true rfl, Nat.le_of_ble_eq_true rfl⟩ (fun v_9 u_10 H locs hv_11 hP hD hS => ?_)
  obtain rfl : v_9 = none := hv_11
  refine W.eq (g2 := F0 m 40 ls []) rfl ?_
  have hP : va_P D classes [(rr, .inr (7, [.ref r1, .int 0, .int 0])), (r1, .inl (tc 0, 400, .inl gc)), (ta, .inr (10, [.ref t1, .int 0, .int 0, .int 0, .int (-1), .int 1]))] H := hP
  have hD : va_D A [(rr, .inr (7, [.ref r1, .int 0, .int 0])), (r1, .inl (tc 0, 400, .inl gc)), (ta, .inr (10, [.ref t1, .int 0, .int 0, .int 0, .int (-1), .int 1]))] := hD
  refine lv_goto (tgt := 48) hx hb dX7_readValue_40 (by decide) ?_
  refine lv_aload_n hx hb dX7_readValue_48 rfl (lv_at hl 2 rfl) ?_
  refine lv_aload_n hx hb dX7_readValue_49 rfl (lv_at hl 3 rfl) ?_
  refine cV (a := rr) (As := [.ref ta]) (rest := []) (wr := [(r1, .inl (tc 0, 400, .inl gc)), (ta, .inr (10, [.ref t1, .int 0, .int 0, .int 0, .int (-1), .int 1]))]) ⟨hx, hb, hml, hown, hts⟩ hK hX hA (ct_X7_countOne l D tc sk rr r1 ta 0) k_638 k_635 k_637 k_9 k_99 pl_X7_countOne ⟨Nat.le_of_ble_eq_true rfl, Nat.le_of_ble_eq_true rfl⟩ rfl rfl (va_recv hK hP (ci := 7) (q0 := 0) rfl rfl) hP hD hS [0] [1, 2] rfl rfl rfl rfl rfl (by decide) rfl hl.1 rfl (Nat.le_of_ble_eq_true rfl) dX7_readValue_50 ⟨Nat.le_of_ble_eq_true rfl, Nat.le_of_ble_eq_true rfl⟩ (fun v_12 u_13 H locs hv_14 hP hD hS => ?_)
  obtain rfl : v_12 = none := hv_14
  refine W.eq (g2 := F0 m 53 ls []) rfl ?_
  have hP : va_P D classes [(r1, .inl (tc 0, 400, .inl gc)), (ta, .inr (10, [.ref t1, .int 0, .int 0, .int 0, .int (-1), .int 1])), (rr, .inr (7, [.ref r1, .int 0, .int 1]))] H := hP
  have hD : va_D A [(r1, .inl (tc 0, 400, .inl gc)), (ta, .inr (10, [.ref t1, .int 0, .int 0, .int 0, .int (-1), .int 1])), (rr, .inr (7, [.ref r1, .int 0, .int 1]))] := hD
  refine lv_aload_n hx hb dX7_readValue_53 rfl (lv_at hl 2 rfl) ?_
  refine lv_iload_n hx hb dX7_readValue_54 rfl (lv_at hl 1 rfl) ?_
  refine cV (a := rr) (As := [.int 0]) (rest := []) (wr := [(ta, .inr (10, [.ref t1, .int 0, .int 0, .int 0, .int (-1), .int 1]))]) ⟨hx, hb, hml, hown, hts⟩ hK hX hA (ct_X7_put l D tc sk rr r1 0 0 1 gc (by decide)) k_642 k_639 k_641 k_10 k_99 pl_X7_put ⟨Nat.le_of_ble_eq_true rfl, Nat.le_of_ble_eq_true rfl⟩ rfl rfl (va_recv hK hP (ci := 7) (q0 := 2) rfl rfl) hP hD hS [2, 0] [1] rfl rfl rfl rfl rfl (by decide) rfl hl.1 rfl (Nat.le_of_ble_eq_true rfl) dX7_readValue_55 ⟨Nat.le_of_ble_eq_true rfl, Nat.le_of_ble_eq_true rfl⟩ (fun v_15 u_16 H locs hv_17 hP hD hS => ?_)
  obtain ⟨gz_18, rfl⟩ : ∃ z, z = u_16 := ⟨_, rfl⟩
  obtain rfl : v_15 = none := hv_17
  refine W.eq (g2 := F0 m 58 ls []) rfl ?_
  have hP : va_P D classes [(ta, .inr (10, [.ref t1, .int 0, .int 0, .int 0, .int (-1), .int 1])), (rr, .inr (7, [.ref r1, .int 1, .int 1])), (r1, .inl (tc 0, 400, .inl gz_18))] H := hP
  have hD : va_D A [(ta, .inr (10, [.ref t1, .int 0, .int 0, .int 0, .int (-1), .int 1])), (rr, .inr (7, [.ref r1, .int 1, .int 1])), (r1, .inl (tc 0, 400, .inl gz_18))] := hD
  refine lv_aload_n hx hb dX7_readValue_58 rfl (lv_at hl 3 rfl) ?_
  refine cV (a := ta) (As := []) (rest := []) (wr := [(rr, .inr (7, [.ref r1, .int 1, .int 1])), (r1, .inl (tc 0, 400, .inl gz_18))]) ⟨hx, hb, hml, hown, hts⟩ hK hX hA (ct_X10_step_1 l D tc sk ta t1 (-1) 0) k_478 k_620 k_476 k_477 k_96 pl_X10_step ⟨Nat.le_of_ble_eq_true rfl, Nat.le_of_ble_eq_true rfl⟩ rfl rfl (va_recv hK hP (ci := 10) (q0 := 0) rfl rfl) hP hD hS [0] [1, 2] rfl rfl rfl rfl rfl (by decide) rfl hl.1 rfl (Nat.le_of_ble_eq_true rfl) dX7_readValue_59 ⟨Nat.le_of_ble_eq_true rfl, Nat.le_of_ble_eq_true rfl⟩ (fun v_19 u_20 H locs hv_21 hP hD hS => ?_)
  obtain rfl : v_19 = none := hv_21
  refine W.eq (g2 := F0 m 62 ls []) rfl ?_
  have hP : va_P D classes [(rr, .inr (7, [.ref r1, .int 1, .int 1])), (r1, .inl (tc 0, 400, .inl gz_18)), (ta, .inr (10, [.ref t1, .int 0, .int 0, .int 0, .int (-1), .int 1]))] H := hP
  have hD : va_D A [(rr, .inr (7, [.ref r1, .int 1, .int 1])), (r1, .inl (tc 0, 400, .inl gz_18)), (ta, .inr (10, [.ref t1, .int 0, .int 0, .int 0, .int (-1), .int 1]))] := hD
  exact retV hx hb hr hlk hP hD hS gz_18 rfl [0, 1, 2] rfl rfl dX7_readValue_62 (Nat.le_of_ble_eq_true rfl) (Nat.le_of_ble_eq_true rfl) rfl
set_option maxHeartbeats 4000000 in
set_option maxRecDepth 100000 in
theorem ct_X7_arithmetic (l : Launch) (D : va_G) (tc : Nat → ClassId) (sk : (Nat → Nat) × (Nat → Nat)) (ta : Nat) (t1 : Nat)  : Ct l yX7_arithmetic cX7_arithmetic 1 (some .int) { frames := 0, cells := 0, slots := 0, locals := 0 } D tc sk [.ref ta] [(ta, .inr (10, [.ref t1, .int 0, .int 0, .int 0, .int (-1), .int 1]))] (fun (v : Option Value) (_ : Unit) => v = some (.int (-1))) (fun (_ : Unit) => [(ta, .inr (10, [.ref t1, .int 0, .int 0, .int 0, .int (-1), .int 1]))]) 0 0 := by
  refine Ct.start (by decide) (Nat.le_of_ble_eq_true rfl) (fun p e s m below meth c A ls hx hb hr hlk hin hml hown hts hK hX hP hD hA hl hS => ?_)
  have hl : lv_has ls 1 [(0, .ref ta)] := hl
  refine lv_aload_n hx hb dX7_arithmetic_0 rfl (lv_at hl 0 rfl) ?_
  refine gf_X7_86 hx hb hts hown hK hP 0 rfl rfl dX7_arithmetic_1 ?_
  refine lv_tableOut (tgt := 79) hx hb dX7_arithmetic_4 (by decide) (by decide) ?_
  refine lv_iconst (v := (-1)) hx hb dX7_arithmetic_79 (by decide) ?_
  exact retI (v := (-1)) hx hb hr hlk (rfl) hP hD hS () rfl [0] rfl rfl dX7_arithmetic_80 (Nat.le_of_ble_eq_true rfl) (Nat.le_of_ble_eq_true rfl) rfl
set_option maxHeartbeats 4000000 in
set_option maxRecDepth 100000 in
theorem ct_X7_readSum (l : Launch) (D : va_G) (tc : Nat → ClassId) (sk : (Nat → Nat) × (Nat → Nat)) (rr : Nat) (r1 : Nat) (ta : Nat) (t1 : Nat) (gc : Nat → Int32)  : Ct l yX7_readSum cX7_readSum 5 none { frames := 6, cells := 0, slots := 0, locals := 132 } D tc sk [.ref rr, .ref ta] [(rr, .inr (7, [.ref r1, .int 0, .int 0])), (r1, .inl (tc 0, 400, .inl gc)), (ta, .inr (10, [.ref t1, .int 0, .int 0, .int 0, .int (-1), .int 1]))] (fun (v : Option Value) (gz : Nat → Int32) => v = none) (fun (gz : Nat → Int32) => [(rr, .inr (7, [.ref r1, .int 1, .int 1])), (r1, .inl (tc 0, 400, .inl gz)), (ta, .inr (10, [.ref t1, .int 0, .int 0, .int 0, .int (-1), .int 1]))]) 0 0 := by
  refine Ct.start (by decide) (Nat.le_of_ble_eq_true rfl) (fun p e s m below meth c A ls hx hb hr hlk hin hml hown hts hK hX hP hD hA hl hS => ?_)
  have hl : lv_has ls 5 [(0, .ref rr), (1, .ref ta)] := hl
  refine lv_aload_n hx hb dX7_readSum_0 rfl (lv_at hl 0 rfl) ?_
  refine lv_aload_n hx hb dX7_readSum_1 rfl (lv_at hl 1 rfl) ?_
  refine cV (a := rr) (As := [.ref ta]) (rest := []) (wr := []) ⟨hx, hb, hml, hown, hts⟩ hK hX hA (ct_X7_readValue l D tc sk rr r1 ta t1 gc) k_628 k_625 k_627 k_8 k_99 pl_X7_readValue ⟨Nat.le_of_ble_eq_true rfl, Nat.le_of_ble_eq_true rfl⟩ rfl rfl (va_recv hK hP (ci := 7) (q0 := 0) rfl rfl) hP hD hS [0, 1, 2] [] rfl rfl rfl rfl rfl (by decide) rfl hl.1 rfl (Nat.le_of_ble_eq_true rfl) dX7_readSum_2 ⟨Nat.le_of_ble_eq_true rfl, Nat.le_of_ble_eq_true rfl⟩ (fun v_1 u_2 H locs hv_3 hP hD hS => ?_)
  obtain ⟨gz_4, rfl⟩ : ∃ z, z = u_2 := ⟨_, rfl⟩
  obtain rfl : v_1 = none := hv_3
  refine W.eq (g2 := F0 m 5 ls []) rfl ?_
  have hP : va_P D classes [(rr, .inr (7, [.ref r1, .int 1, .int 1])), (r1, .inl (tc 0, 400, .inl gz_4)), (ta, .inr (10, [.ref t1, .int 0, .int 0, .int 0, .int (-1), .int 1]))] H := hP
  have hD : va_D A [(rr, .inr (7, [.ref r1, .int 1, .int 1])), (r1, .inl (tc 0, 400, .inl gz_4)), (ta, .inr (10, [.ref t1, .int 0, .int 0, .int 0, .int (-1), .int 1]))] := hD
  refine lv_iconst (v := (-1)) hx hb dX7_readSum_5 (by decide) ?_
  refine lv_istore_n (lv' := [(2, .int (-1)), (0, .ref rr), (1, .ref ta)]) hx hb dX7_readSum_6 rfl hl (by decide) rfl (fun ls hl => ?_)
  refine lv_iconst (v := 0) hx hb dX7_readSum_7 (by decide) ?_
  refine lv_istore_n (lv' := [(3, .int 0), (2, .int (-1)), (0, .ref rr), (1, .ref ta)]) hx hb dX7_readSum_8 rfl hl (by decide) rfl (fun ls hl => ?_)
  refine lv_iload_n hx hb dX7_readSum_9 rfl (lv_at hl 0 rfl) ?_
  refine lv_sipush (v := 400) hx hb dX7_readSum_10 (by decide) ?_
  refine lv_icmp_ge (tgt := 86) hx hb dX7_readSum_13 (by decide) (fun c_5 => absurd c_5 (by decide)) (fun c_5 => ?_)
  refine lv_aload_n hx hb dX7_readSum_16 rfl (lv_at hl 3 rfl) ?_
  refine cS (As := [.ref ta]) (rest := []) (wr := [(rr, .inr (7, [.ref r1, .int 1, .int 1])), (r1, .inl (tc 0, 400, .inl gz_4))]) ⟨hx, hb, hml, hown, hts⟩ hK hX hA (ct_X7_arithmetic l D tc sk ta t1) k_645 k_643 k_644 k_99 pl_X7_arithmetic ⟨Nat.le_of_ble_eq_true rfl, Nat.le_of_ble_eq_true rfl⟩ rfl rfl  hP hD hS [2] [0, 1] rfl rfl rfl rfl rfl (by decide) rfl hl.1 rfl (Nat.le_of_ble_eq_true rfl) dX7_readSum_17 ⟨Nat.le_of_ble_eq_true rfl, Nat.le_of_ble_eq_true rfl⟩ (fun v_6 u_7 H locs hv_8 hP hD hS => ?_)
  obtain rfl : v_6 = some (.int (-1)) := hv_8
  refine W.eq (g2 := F0 m 20 ls [.int (-1)]) rfl ?_
  have hP : va_P D classes [(rr, .inr (7, [.ref r1, .int 1, .int 1])), (r1, .inl (tc 0, 400, .inl gz_4)), (ta, .inr (10, [.ref t1, .int 0, .int 0, .int 0, .int (-1), .int 1]))] H := hP
  have hD : va_D A [(rr, .inr (7, [.ref r1, .int 1, .int 1])), (r1, .inl (tc 0, 400, .inl gz_4)), (ta, .inr (10, [.ref t1, .int 0, .int 0, .int 0, .int (-1), .int 1]))] := hD
  refine lv_iconst (v := (-1)) hx hb dX7_readSum_20 (by decide) ?_
  refine lv_icmp_eq (tgt := 86) hx hb dX7_readSum_21 (by decide) (fun c_9 => ?_) (fun c_9 => absurd c_9 (by decide))
  refine lv_iload_n hx hb dX7_readSum_86 rfl (lv_at hl 1 rfl) ?_
  refine lv_iconst (v := (-1)) hx hb dX7_readSum_87 (by decide) ?_
  refine lv_icmp_eq (tgt := 96) hx hb dX7_readSum_88 (by decide) (fun c_10 => ?_) (fun c_10 => absurd c_10 (by decide))
  exact retV hx hb hr hlk hP hD hS gz_4 rfl [0, 1, 2] rfl rfl dX7_readSum_96 (Nat.le_of_ble_eq_true rfl) (Nat.le_of_ble_eq_true rfl) rfl
set_option maxHeartbeats 4000000 in
set_option maxRecDepth 100000 in
theorem ct_X7_read (l : Launch) (D : va_G) (tc : Nat → ClassId) (sk : (Nat → Nat) × (Nat → Nat)) (rr : Nat) (r1 : Nat) (ta : Nat) (t1 : Nat)  : Ct l yX7_read cX7_read 3 (some (.object "PoisonBook$Rule")) { frames := 7, cells := 0, slots := 0, locals := 156 } D tc sk [.ref rr, .ref ta] [(rr, .inr (7, [.ref r1, .int 0, .int 0])), (r1, .inl (tc 0, 400, .inl (fun _ => 0))), (ta, .inr (10, [.ref t1, .int 0, .int 0, .int 0, .int (-1), .int 0]))] (fun (v : Option Value) (gz : Nat → Int32) => v = some (.null)) (fun (gz : Nat → Int32) => [(rr, .inr (7, [.ref r1, .int 2, .int 1])), (r1, .inl (tc 0, 400, .inl gz)), (ta, .inr (10, [.ref t1, .int 0, .int 0, .int 0, .int (-1), .int 1]))]) 0 0 := by
  refine Ct.start (by decide) (Nat.le_of_ble_eq_true rfl) (fun p e s m below meth c A ls hx hb hr hlk hin hml hown hts hK hX hP hD hA hl hS => ?_)
  have hl : lv_has ls 3 [(0, .ref rr), (1, .ref ta)] := hl
  refine lv_aload_n hx hb dX7_read_0 rfl (lv_at hl 0 rfl) ?_
  refine lv_iconst (v := 0) hx hb dX7_read_1 (by decide) ?_
  refine pf_X7_15 hx hb hts hown hK hP hD hS 0 rfl (Nat.le_of_ble_eq_true rfl) rfl rfl dX7_read_2 (fun H locs hP hD hS => ?_)
  have hP : va_P D classes [(rr, .inr (7, [.ref r1, .int 0, .int 0])), (r1, .inl (tc 0, 400, .inl (fun _ => 0))), (ta, .inr (10, [.ref t1, .int 0, .int 0, .int 0, .int (-1), .int 0]))] H := hP
  have hD : va_D A [(rr, .inr (7, [.ref r1, .int 0, .int 0])), (r1, .inl (tc 0, 400, .inl (fun _ => 0))), (ta, .inr (10, [.ref t1, .int 0, .int 0, .int 0, .int (-1), .int 0]))] := hD
  refine lv_aload_n hx hb dX7_read_5 rfl (lv_at hl 0 rfl) ?_
  refine lv_iconst (v := 0) hx hb dX7_read_6 (by decide) ?_
  refine pf_X7_19 hx hb hts hown hK hP hD hS 0 rfl (Nat.le_of_ble_eq_true rfl) rfl rfl dX7_read_7 (fun H locs hP hD hS => ?_)
  have hP : va_P D classes [(rr, .inr (7, [.ref r1, .int 0, .int 0])), (r1, .inl (tc 0, 400, .inl (fun _ => 0))), (ta, .inr (10, [.ref t1, .int 0, .int 0, .int 0, .int (-1), .int 0]))] H := hP
  have hD : va_D A [(rr, .inr (7, [.ref r1, .int 0, .int 0])), (r1, .inl (tc 0, 400, .inl (fun _ => 0))), (ta, .inr (10, [.ref t1, .int 0, .int 0, .int 0, .int (-1), .int 0]))] := hD
  refine lv_aload_n hx hb dX7_read_10 rfl (lv_at hl 1 rfl) ?_
  refine cV (a := ta) (As := []) (rest := []) (wr := [(rr, .inr (7, [.ref r1, .int 0, .int 0])), (r1, .inl (tc 0, 400, .inl (fun _ => 0)))]) ⟨hx, hb, hml, hown, hts⟩ hK hX hA (ct_X10_begin l D tc sk ta t1 (-1) 0 0 0) k_474 k_612 k_472 k_473 k_96 pl_X10_begin ⟨Nat.le_of_ble_eq_true rfl, Nat.le_of_ble_eq_true rfl⟩ rfl rfl (va_recv hK hP (ci := 10) (q0 := 2) rfl rfl) hP hD hS [2] [0, 1] rfl rfl rfl rfl rfl (by decide) rfl hl.1 rfl (Nat.le_of_ble_eq_true rfl) dX7_read_11 ⟨Nat.le_of_ble_eq_true rfl, Nat.le_of_ble_eq_true rfl⟩ (fun v_1 u_2 H locs hv_3 hP hD hS => ?_)
  obtain rfl : v_1 = none := hv_3
  refine W.eq (g2 := F0 m 14 ls []) rfl ?_
  have hP : va_P D classes [(rr, .inr (7, [.ref r1, .int 0, .int 0])), (r1, .inl (tc 0, 400, .inl (fun _ => 0))), (ta, .inr (10, [.ref t1, .int 0, .int 0, .int 0, .int (-1), .int 0]))] H := hP
  have hD : va_D A [(rr, .inr (7, [.ref r1, .int 0, .int 0])), (r1, .inl (tc 0, 400, .inl (fun _ => 0))), (ta, .inr (10, [.ref t1, .int 0, .int 0, .int 0, .int (-1), .int 0]))] := hD
  refine lv_iconst (v := 0) hx hb dX7_read_14 (by decide) ?_
  refine lv_istore_n (lv' := [(2, .int 0), (0, .ref rr), (1, .ref ta)]) hx hb dX7_read_15 rfl hl (by decide) rfl (fun ls hl => ?_)
  refine lv_iload_n hx hb dX7_read_16 rfl (lv_at hl 0 rfl) ?_
  refine lv_bipush (v := 12) hx hb dX7_read_17 (by decide) ?_
  refine lv_icmp_gt (tgt := 108) hx hb dX7_read_19 (by decide) (fun c_4 => absurd c_4 (by decide)) (fun c_4 => ?_)
  refine lv_iload_n hx hb dX7_read_22 rfl (lv_at hl 0 rfl) ?_
  refine lv_if_eq (tgt := 35) hx hb dX7_read_23 (by decide) (fun c_5 => ?_) (fun c_5 => absurd c_5 (by decide))
  refine lv_aload_n hx hb dX7_read_35 rfl (lv_at hl 2 rfl) ?_
  refine va_ldcS hx hb hown (hX.2.2.2.1 1 _ rfl) dX7_read_36 ?_
  refine cV (a := ta) (As := [.ref (sk.1 1)]) (rest := []) (wr := [(rr, .inr (7, [.ref r1, .int 0, .int 0])), (r1, .inl (tc 0, 400, .inl (fun _ => 0)))]) ⟨hx, hb, hml, hown, hts⟩ hK hX hA (ct_X10_isWord_0 l D tc sk ta t1) k_618 k_615 k_616 k_617 k_96 pl_X10_isWord ⟨Nat.le_of_ble_eq_true rfl, Nat.le_of_ble_eq_true rfl⟩ rfl rfl (va_recv hK hP (ci := 10) (q0 := 2) rfl rfl) hP hD hS [2] [0, 1] rfl rfl rfl rfl rfl (by decide) rfl hl.1 rfl (Nat.le_of_ble_eq_true rfl) dX7_read_38 ⟨Nat.le_of_ble_eq_true rfl, Nat.le_of_ble_eq_true rfl⟩ (fun v_6 u_7 H locs hv_8 hP hD hS => ?_)
  obtain rfl : v_6 = some (.int 0) := hv_8
  refine W.eq (g2 := F0 m 41 ls [.int 0]) rfl ?_
  have hP : va_P D classes [(rr, .inr (7, [.ref r1, .int 0, .int 0])), (r1, .inl (tc 0, 400, .inl (fun _ => 0))), (ta, .inr (10, [.ref t1, .int 0, .int 0, .int 0, .int (-1), .int 0]))] H := hP
  have hD : va_D A [(rr, .inr (7, [.ref r1, .int 0, .int 0])), (r1, .inl (tc 0, 400, .inl (fun _ => 0))), (ta, .inr (10, [.ref t1, .int 0, .int 0, .int 0, .int (-1), .int 0]))] := hD
  refine lv_if_ne (tgt := 52) hx hb dX7_read_41 (by decide) (fun c_9 => absurd c_9 (by decide)) (fun c_9 => ?_)
  refine lv_aload_n hx hb dX7_read_44 rfl (lv_at hl 2 rfl) ?_
  refine lv_iconst (v := 0) hx hb dX7_read_45 (by decide) ?_
  refine cV (a := ta) (As := [.int 0]) (rest := []) (wr := [(rr, .inr (7, [.ref r1, .int 0, .int 0])), (r1, .inl (tc 0, 400, .inl (fun _ => 0)))]) ⟨hx, hb, hml, hown, hts⟩ hK hX hA (ct_X10_fail_0 l D tc sk ta t1) k_557 k_619 k_555 k_556 k_96 pl_X10_fail ⟨Nat.le_of_ble_eq_true rfl, Nat.le_of_ble_eq_true rfl⟩ rfl rfl (va_recv hK hP (ci := 10) (q0 := 2) rfl rfl) hP hD hS [2] [0, 1] rfl rfl rfl rfl rfl (by decide) rfl hl.1 rfl (Nat.le_of_ble_eq_true rfl) dX7_read_46 ⟨Nat.le_of_ble_eq_true rfl, Nat.le_of_ble_eq_true rfl⟩ (fun v_10 u_11 H locs hv_12 hP hD hS => ?_)
  obtain rfl : v_10 = none := hv_12
  refine W.eq (g2 := F0 m 49 ls []) rfl ?_
  have hP : va_P D classes [(rr, .inr (7, [.ref r1, .int 0, .int 0])), (r1, .inl (tc 0, 400, .inl (fun _ => 0))), (ta, .inr (10, [.ref t1, .int 0, .int 0, .int 0, .int (-1), .int 1]))] H := hP
  have hD : va_D A [(rr, .inr (7, [.ref r1, .int 0, .int 0])), (r1, .inl (tc 0, 400, .inl (fun _ => 0))), (ta, .inr (10, [.ref t1, .int 0, .int 0, .int 0, .int (-1), .int 1]))] := hD
  refine lv_goto (tgt := 63) hx hb dX7_read_49 (by decide) ?_
  refine lv_aload_n hx hb dX7_read_63 rfl (lv_at hl 2 rfl) ?_
  refine cV (a := ta) (As := []) (rest := []) (wr := [(rr, .inr (7, [.ref r1, .int 0, .int 0])), (r1, .inl (tc 0, 400, .inl (fun _ => 0)))]) ⟨hx, hb, hml, hown, hts⟩ hK hX hA (ct_X10_step_1 l D tc sk ta t1 (-1) 0) k_478 k_620 k_476 k_477 k_96 pl_X10_step ⟨Nat.le_of_ble_eq_true rfl, Nat.le_of_ble_eq_true rfl⟩ rfl rfl (va_recv hK hP (ci := 10) (q0 := 2) rfl rfl) hP hD hS [2] [0, 1] rfl rfl rfl rfl rfl (by decide) rfl hl.1 rfl (Nat.le_of_ble_eq_true rfl) dX7_read_64 ⟨Nat.le_of_ble_eq_true rfl, Nat.le_of_ble_eq_true rfl⟩ (fun v_13 u_14 H locs hv_15 hP hD hS => ?_)
  obtain rfl : v_13 = none := hv_15
  refine W.eq (g2 := F0 m 67 ls []) rfl ?_
  have hP : va_P D classes [(rr, .inr (7, [.ref r1, .int 0, .int 0])), (r1, .inl (tc 0, 400, .inl (fun _ => 0))), (ta, .inr (10, [.ref t1, .int 0, .int 0, .int 0, .int (-1), .int 1]))] H := hP
  have hD : va_D A [(rr, .inr (7, [.ref r1, .int 0, .int 0])), (r1, .inl (tc 0, 400, .inl (fun _ => 0))), (ta, .inr (10, [.ref t1, .int 0, .int 0, .int 0, .int (-1), .int 1]))] := hD
  refine lv_aload_n hx hb dX7_read_67 rfl (lv_at hl 1 rfl) ?_
  refine lv_aload_n hx hb dX7_read_68 rfl (lv_at hl 2 rfl) ?_
  refine cV (a := rr) (As := [.ref ta]) (rest := []) (wr := []) ⟨hx, hb, hml, hown, hts⟩ hK hX hA (ct_X7_readSum l D tc sk rr r1 ta t1 (fun _ => 0)) k_624 k_621 k_623 k_7 k_99 pl_X7_readSum ⟨Nat.le_of_ble_eq_true rfl, Nat.le_of_ble_eq_true rfl⟩ rfl rfl (va_recv hK hP (ci := 7) (q0 := 0) rfl rfl) hP hD hS [0, 1, 2] [] rfl rfl rfl rfl rfl (by decide) rfl hl.1 rfl (Nat.le_of_ble_eq_true rfl) dX7_read_69 ⟨Nat.le_of_ble_eq_true rfl, Nat.le_of_ble_eq_true rfl⟩ (fun v_16 u_17 H locs hv_18 hP hD hS => ?_)
  obtain ⟨gz_19, rfl⟩ : ∃ z, z = u_17 := ⟨_, rfl⟩
  obtain rfl : v_16 = none := hv_18
  refine W.eq (g2 := F0 m 72 ls []) rfl ?_
  have hP : va_P D classes [(rr, .inr (7, [.ref r1, .int 1, .int 1])), (r1, .inl (tc 0, 400, .inl gz_19)), (ta, .inr (10, [.ref t1, .int 0, .int 0, .int 0, .int (-1), .int 1]))] H := hP
  have hD : va_D A [(rr, .inr (7, [.ref r1, .int 1, .int 1])), (r1, .inl (tc 0, 400, .inl gz_19)), (ta, .inr (10, [.ref t1, .int 0, .int 0, .int 0, .int (-1), .int 1]))] := hD
  refine lv_aload_n hx hb dX7_read_72 rfl (lv_at hl 2 rfl) ?_
  refine va_ldcS hx hb hown (hX.2.2.2.1 3 _ rfl) dX7_read_73 ?_
  refine cV (a := ta) (As := [.ref (sk.1 3)]) (rest := []) (wr := [(rr, .inr (7, [.ref r1, .int 1, .int 1])), (r1, .inl (tc 0, 400, .inl gz_19))]) ⟨hx, hb, hml, hown, hts⟩ hK hX hA (ct_X10_takesWord l D tc sk ta t1 3 (by decide)) k_650 k_647 k_648 k_649 k_96 pl_X10_takesWord ⟨Nat.le_of_ble_eq_true rfl, Nat.le_of_ble_eq_true rfl⟩ rfl rfl (va_recv hK hP (ci := 10) (q0 := 2) rfl rfl) hP hD hS [2] [0, 1] rfl rfl rfl rfl rfl (by decide) rfl hl.1 rfl (Nat.le_of_ble_eq_true rfl) dX7_read_75 ⟨Nat.le_of_ble_eq_true rfl, Nat.le_of_ble_eq_true rfl⟩ (fun v_20 u_21 H locs hv_22 hP hD hS => ?_)
  obtain rfl : v_20 = some (.int 0) := hv_22
  refine W.eq (g2 := F0 m 78 ls [.int 0]) rfl ?_
  have hP : va_P D classes [(rr, .inr (7, [.ref r1, .int 1, .int 1])), (r1, .inl (tc 0, 400, .inl gz_19)), (ta, .inr (10, [.ref t1, .int 0, .int 0, .int 0, .int (-1), .int 1]))] H := hP
  have hD : va_D A [(rr, .inr (7, [.ref r1, .int 1, .int 1])), (r1, .inl (tc 0, 400, .inl gz_19)), (ta, .inr (10, [.ref t1, .int 0, .int 0, .int 0, .int (-1), .int 1]))] := hD
  refine lv_if_eq (tgt := 96) hx hb dX7_read_78 (by decide) (fun c_23 => ?_) (fun c_23 => absurd c_23 (by decide))
  refine lv_aload_n hx hb dX7_read_96 rfl (lv_at hl 1 rfl) ?_
  refine lv_bipush (v := (-2)) hx hb dX7_read_97 (by decide) ?_
  refine cV (a := rr) (As := [.int (-2)]) (rest := []) (wr := [(ta, .inr (10, [.ref t1, .int 0, .int 0, .int 0, .int (-1), .int 1]))]) ⟨hx, hb, hml, hown, hts⟩ hK hX hA (ct_X7_put l D tc sk rr r1 1 (-2) 1 gz_19 (by decide)) k_642 k_639 k_641 k_10 k_99 pl_X7_put ⟨Nat.le_of_ble_eq_true rfl, Nat.le_of_ble_eq_true rfl⟩ rfl rfl (va_recv hK hP (ci := 7) (q0 := 0) rfl rfl) hP hD hS [0, 1] [2] rfl rfl rfl rfl rfl (by decide) rfl hl.1 rfl (Nat.le_of_ble_eq_true rfl) dX7_read_99 ⟨Nat.le_of_ble_eq_true rfl, Nat.le_of_ble_eq_true rfl⟩ (fun v_24 u_25 H locs hv_26 hP hD hS => ?_)
  obtain ⟨gz_27, rfl⟩ : ∃ z, z = u_25 := ⟨_, rfl⟩
  obtain rfl : v_24 = none := hv_26
  refine W.eq (g2 := F0 m 102 ls []) rfl ?_
  have hP : va_P D classes [(ta, .inr (10, [.ref t1, .int 0, .int 0, .int 0, .int (-1), .int 1])), (rr, .inr (7, [.ref r1, .int 2, .int 1])), (r1, .inl (tc 0, 400, .inl gz_27))] H := hP
  have hD : va_D A [(ta, .inr (10, [.ref t1, .int 0, .int 0, .int 0, .int (-1), .int 1])), (rr, .inr (7, [.ref r1, .int 2, .int 1])), (r1, .inl (tc 0, 400, .inl gz_27))] := hD
  refine lv_iinc (v := 1) (lv' := [(2, .int 1), (0, .ref rr), (1, .ref ta)]) hx hb dX7_read_102 hl (k := 0) rfl (by decide) (by decide) rfl (fun ls hl => ?_)
  refine lv_goto (tgt := 16) hx hb dX7_read_105 (by decide) ?_
  refine lv_iload_n hx hb dX7_read_16 rfl (lv_at hl 0 rfl) ?_
  refine lv_bipush (v := 12) hx hb dX7_read_17 (by decide) ?_
  refine lv_icmp_gt (tgt := 108) hx hb dX7_read_19 (by decide) (fun c_28 => absurd c_28 (by decide)) (fun c_28 => ?_)
  refine lv_iload_n hx hb dX7_read_22 rfl (lv_at hl 0 rfl) ?_
  refine lv_if_eq (tgt := 35) hx hb dX7_read_23 (by decide) (fun c_29 => absurd c_29 (by decide)) (fun c_29 => ?_)
  refine lv_aload_n hx hb dX7_read_26 rfl (lv_at hl 2 rfl) ?_
  refine lv_bipush (v := 59) hx hb dX7_read_27 (by decide) ?_
  refine cV (a := ta) (As := [.int 59]) (rest := []) (wr := [(rr, .inr (7, [.ref r1, .int 2, .int 1])), (r1, .inl (tc 0, 400, .inl gz_27))]) ⟨hx, hb, hml, hown, hts⟩ hK hX hA (ct_X10_takes_1 l D tc sk ta t1) k_492 k_613 k_490 k_491 k_96 pl_X10_takes ⟨Nat.le_of_ble_eq_true rfl, Nat.le_of_ble_eq_true rfl⟩ rfl rfl (va_recv hK hP (ci := 10) (q0 := 0) rfl rfl) hP hD hS [0] [1, 2] rfl rfl rfl rfl rfl (by decide) rfl hl.1 rfl (Nat.le_of_ble_eq_true rfl) dX7_read_29 ⟨Nat.le_of_ble_eq_true rfl, Nat.le_of_ble_eq_true rfl⟩ (fun v_30 u_31 H locs hv_32 hP hD hS => ?_)
  obtain rfl : v_30 = some (.int 0) := hv_32
  refine W.eq (g2 := F0 m 32 ls [.int 0]) rfl ?_
  have hP : va_P D classes [(rr, .inr (7, [.ref r1, .int 2, .int 1])), (r1, .inl (tc 0, 400, .inl gz_27)), (ta, .inr (10, [.ref t1, .int 0, .int 0, .int 0, .int (-1), .int 1]))] H := hP
  have hD : va_D A [(rr, .inr (7, [.ref r1, .int 2, .int 1])), (r1, .inl (tc 0, 400, .inl gz_27)), (ta, .inr (10, [.ref t1, .int 0, .int 0, .int 0, .int (-1), .int 1]))] := hD
  refine lv_if_eq (tgt := 108) hx hb dX7_read_32 (by decide) (fun c_33 => ?_) (fun c_33 => absurd c_33 (by decide))
  refine lv_aload_n hx hb dX7_read_108 rfl (lv_at hl 2 rfl) ?_
  refine cV (a := ta) (As := []) (rest := []) (wr := [(rr, .inr (7, [.ref r1, .int 2, .int 1])), (r1, .inl (tc 0, 400, .inl gz_27))]) ⟨hx, hb, hml, hown, hts⟩ hK hX hA (ct_X10_finish_1 l D tc sk ta t1) k_595 k_666 k_593 k_594 k_96 pl_X10_finish ⟨Nat.le_of_ble_eq_true rfl, Nat.le_of_ble_eq_true rfl⟩ rfl rfl (va_recv hK hP (ci := 10) (q0 := 2) rfl rfl) hP hD hS [2] [0, 1] rfl rfl rfl rfl rfl (by decide) rfl hl.1 rfl (Nat.le_of_ble_eq_true rfl) dX7_read_109 ⟨Nat.le_of_ble_eq_true rfl, Nat.le_of_ble_eq_true rfl⟩ (fun v_34 u_35 H locs hv_36 hP hD hS => ?_)
  obtain rfl : v_34 = none := hv_36
  refine W.eq (g2 := F0 m 112 ls []) rfl ?_
  have hP : va_P D classes [(rr, .inr (7, [.ref r1, .int 2, .int 1])), (r1, .inl (tc 0, 400, .inl gz_27)), (ta, .inr (10, [.ref t1, .int 0, .int 0, .int 0, .int (-1), .int 1]))] H := hP
  have hD : va_D A [(rr, .inr (7, [.ref r1, .int 2, .int 1])), (r1, .inl (tc 0, 400, .inl gz_27)), (ta, .inr (10, [.ref t1, .int 0, .int 0, .int 0, .int (-1), .int 1]))] := hD
  refine lv_aload_n hx hb dX7_read_112 rfl (lv_at hl 2 rfl) ?_
  refine gf_X7_65 hx hb hts hown hK hP 2 rfl rfl dX7_read_113 ?_
  refine lv_if_ne (tgt := 138) hx hb dX7_read_116 (by decide) (fun c_37 => ?_) (fun c_37 => absurd c_37 (by decide))
  refine lv_null hx hb dX7_read_138 ?_
  exact retA (v := .null) hx hb hr hlk (Or.inl ⟨_, rfl⟩) (Or.inl rfl) hP hD hS gz_27 rfl [0, 1, 2] rfl rfl dX7_read_139 (Nat.le_of_ble_eq_true rfl) (Nat.le_of_ble_eq_true rfl) rfl
set_option maxHeartbeats 4000000 in
set_option maxRecDepth 100000 in
theorem ct_X11_rule (l : Launch) (D : va_G) (tc : Nat → ClassId) (sk : (Nat → Nat) × (Nat → Nat)) (h0 : Nat) (ta : Nat) (br : Nat) (rr : Nat) (ru : Nat) (sc : Nat) (sh : Nat) (pa : Nat) (im : Nat) (ou : Nat) (ch : Nat) (iq : Nat) (t1 : Nat) (r1 : Nat)  : Ct l yX11_rule cX11_rule 2 (some .int) { frames := 8, cells := 0, slots := 0, locals := 178 } D tc sk [.ref h0] [(h0, .inr (11, [.ref ta, .ref br, .ref rr, .ref ru, .int 0, .ref sc, .ref sh, .ref pa, .ref im, .ref ou, .ref ch, .ref iq])), (ru, .inl (tc 4, 6, .inr (.inr (.inr (.inr (fun _ => none)))))), (rr, .inr (7, [.ref r1, .int 0, .int 0])), (r1, .inl (tc 0, 400, .inl (fun _ => 0))), (ta, .inr (10, [.ref t1, .int 0, .int 0, .int 0, .int (-1), .int 0]))] (fun (v : Option Value) (_ : Unit) => v = some (.int (-3))) (fun (_ : Unit) => []) 0 0 := by
  refine Ct.start (by decide) (Nat.le_of_ble_eq_true rfl) (fun p e s m below meth c A ls hx hb hr hlk hin hml hown hts hK hX hP hD hA hl hS => ?_)
  have hl : lv_has ls 2 [(0, .ref h0)] := hl
  refine lv_aload_n hx hb dX11_rule_0 rfl (lv_at hl 0 rfl) ?_
  refine gf_X11_36 hx hb hts hown hK hP 0 rfl rfl dX11_rule_1 ?_
  refine lv_if_lt (tgt := 19) hx hb dX11_rule_4 (by decide) (fun c_1 => absurd c_1 (by decide)) (fun c_1 => ?_)
  refine lv_aload_n hx hb dX11_rule_7 rfl (lv_at hl 0 rfl) ?_
  refine gf_X11_36 hx hb hts hown hK hP 0 rfl rfl dX11_rule_8 ?_
  refine lv_aload_n hx hb dX11_rule_11 rfl (lv_at hl 0 rfl) ?_
  refine gf_X11_32 hx hb hts hown hK hP 0 rfl rfl dX11_rule_12 ?_
  refine va_alen hx hb hK hP 1 4 rfl rfl (v := 6) (by decide) dX11_rule_15 ?_
  refine lv_icmp_lt (tgt := 21) hx hb dX11_rule_16 (by decide) (fun c_2 => ?_) (fun c_2 => absurd c_2 (by decide))
  refine lv_aload_n hx hb dX11_rule_21 rfl (lv_at hl 0 rfl) ?_
  refine gf_X11_26 hx hb hts hown hK hP 0 rfl rfl dX11_rule_22 ?_
  refine lv_aload_n hx hb dX11_rule_25 rfl (lv_at hl 0 rfl) ?_
  refine gf_X11_10 hx hb hts hown hK hP 0 rfl rfl dX11_rule_26 ?_
  refine cV (a := rr) (As := [.ref ta]) (rest := []) (wr := [(h0, .inr (11, [.ref ta, .ref br, .ref rr, .ref ru, .int 0, .ref sc, .ref sh, .ref pa, .ref im, .ref ou, .ref ch, .ref iq])), (ru, .inl (tc 4, 6, .inr (.inr (.inr (.inr (fun _ => none))))))]) ⟨hx, hb, hml, hown, hts⟩ hK hX hA (ct_X7_read l D tc sk rr r1 ta t1) k_611 k_608 k_609 k_610 k_99 pl_X7_read ⟨Nat.le_of_ble_eq_true rfl, Nat.le_of_ble_eq_true rfl⟩ rfl rfl (va_recv hK hP (ci := 7) (q0 := 2) rfl rfl) hP hD hS [2, 3, 4] [0, 1] rfl rfl rfl rfl rfl (by decide) rfl hl.1 rfl (Nat.le_of_ble_eq_true rfl) dX11_rule_29 ⟨Nat.le_of_ble_eq_true rfl, Nat.le_of_ble_eq_true rfl⟩ (fun v_3 u_4 H locs hv_5 hP hD hS => ?_)
  obtain ⟨gz_6, rfl⟩ : ∃ z, z = u_4 := ⟨_, rfl⟩
  obtain rfl : v_3 = some (.null) := hv_5
  refine W.eq (g2 := F0 m 32 ls [.null]) rfl ?_
  have hP : va_P D classes [(h0, .inr (11, [.ref ta, .ref br, .ref rr, .ref ru, .int 0, .ref sc, .ref sh, .ref pa, .ref im, .ref ou, .ref ch, .ref iq])), (ru, .inl (tc 4, 6, .inr (.inr (.inr (.inr (fun _ => none)))))), (rr, .inr (7, [.ref r1, .int 2, .int 1])), (r1, .inl (tc 0, 400, .inl gz_6)), (ta, .inr (10, [.ref t1, .int 0, .int 0, .int 0, .int (-1), .int 1]))] H := hP
  have hD : va_D A [(h0, .inr (11, [.ref ta, .ref br, .ref rr, .ref ru, .int 0, .ref sc, .ref sh, .ref pa, .ref im, .ref ou, .ref ch, .ref iq])), (ru, .inl (tc 4, 6, .inr (.inr (.inr (.inr (fun _ => none)))))), (rr, .inr (7, [.ref r1, .int 2, .int 1])), (r1, .inl (tc 0, 400, .inl gz_6)), (ta, .inr (10, [.ref t1, .int 0, .int 0, .int 0, .int (-1), .int 1]))] := hD
  refine lv_astore_nN (lv' := [(1, .null), (0, .ref h0)]) hx hb dX11_rule_32 rfl hl (by decide) rfl (fun ls hl => ?_)
  refine lv_aload_n hx hb dX11_rule_33 rfl (lv_at hl 1 rfl) ?_
  refine gf_X11_10 hx hb hts hown hK hP 0 rfl rfl dX11_rule_34 ?_
  refine lv_iconst (v := 0) hx hb dX11_rule_37 (by decide) ?_
  refine pf_X11_94 hx hb hts hown hK hP hD hS 4 rfl (Nat.le_of_ble_eq_true rfl) rfl rfl dX11_rule_38 (fun H locs hP hD hS => ?_)
  have hP : va_P D classes [(h0, .inr (11, [.ref ta, .ref br, .ref rr, .ref ru, .int 0, .ref sc, .ref sh, .ref pa, .ref im, .ref ou, .ref ch, .ref iq])), (ru, .inl (tc 4, 6, .inr (.inr (.inr (.inr (fun _ => none)))))), (rr, .inr (7, [.ref r1, .int 2, .int 1])), (r1, .inl (tc 0, 400, .inl gz_6)), (ta, .inr (10, [.ref t1, .int 0, .int 0, .int 0, .int (-1), .int 1]))] H := hP
  have hD : va_D A [(h0, .inr (11, [.ref ta, .ref br, .ref rr, .ref ru, .int 0, .ref sc, .ref sh, .ref pa, .ref im, .ref ou, .ref ch, .ref iq])), (ru, .inl (tc 4, 6, .inr (.inr (.inr (.inr (fun _ => none)))))), (rr, .inr (7, [.ref r1, .int 2, .int 1])), (r1, .inl (tc 0, 400, .inl gz_6)), (ta, .inr (10, [.ref t1, .int 0, .int 0, .int 0, .int (-1), .int 1]))] := hD
  refine lv_aload_nN hx hb dX11_rule_41 rfl (lv_at hl 0 rfl) ?_
  refine lv_ifnonnullN hx hb dX11_rule_42 ?_
  refine lv_bipush (v := (-2)) hx hb dX11_rule_45 (by decide) ?_
  refine lv_aload_n hx hb dX11_rule_47 rfl (lv_at hl 1 rfl) ?_
  refine gf_X11_10 hx hb hts hown hK hP 0 rfl rfl dX11_rule_48 ?_
  refine gf_X11_127 hx hb hts hown hK hP 4 rfl rfl dX11_rule_51 ?_
  refine lv_isub hx hb dX11_rule_54 ?_
  refine lv_lit (v := (-3)) (by decide) ?_
  exact retI (v := (-3)) hx hb hr hlk (rfl) hP hD hS () rfl [] rfl rfl dX11_rule_55 (Nat.le_of_ble_eq_true rfl) (Nat.le_of_ble_eq_true rfl) rfl
