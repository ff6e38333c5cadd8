theorem dX0_read_0 : decode cX0_read 0 = .ok (.aload_n 0, 1) := by decide +kernel
theorem dX0_read_1 : decode cX0_read 1 = .ok (.getfield 12, 3) := by decide +kernel
theorem dX0_read_4 : decode cX0_read 4 = .ok (.invokevirtual 18, 3) := by decide +kernel
theorem dX0_read_7 : decode cX0_read 7 = .ok (.aload_n 1, 1) := by decide +kernel
theorem dX0_read_8 : decode cX0_read 8 = .ok (.invokevirtual 21, 3) := by decide +kernel
theorem dX0_read_11 : decode cX0_read 11 = .ok (.iconst 0, 1) := by decide +kernel
theorem dX0_read_12 : decode cX0_read 12 = .ok (.istore_n 2, 1) := by decide +kernel
theorem dX0_read_13 : decode cX0_read 13 = .ok (.iload_n 2, 1) := by decide +kernel
theorem dX0_read_14 : decode cX0_read 14 = .ok (.bipush 40, 2) := by decide +kernel
theorem dX0_read_16 : decode cX0_read 16 = .ok (.if_icmp .gt 28, 3) := by decide +kernel
theorem dX0_read_19 : decode cX0_read 19 = .ok (.iload_n 2, 1) := by decide +kernel
theorem dX0_read_20 : decode cX0_read 20 = .ok (.ifCond .eq 12, 3) := by decide +kernel
theorem dX0_read_23 : decode cX0_read 23 = .ok (.aload_n 1, 1) := by decide +kernel
theorem dX0_read_24 : decode cX0_read 24 = .ok (.bipush 59, 2) := by decide +kernel
theorem dX0_read_26 : decode cX0_read 26 = .ok (.invokevirtual 26, 3) := by decide +kernel
theorem dX0_read_29 : decode cX0_read 29 = .ok (.ifCond .eq 15, 3) := by decide +kernel
theorem dX0_read_32 : decode cX0_read 32 = .ok (.aload_n 0, 1) := by decide +kernel
theorem dX0_read_33 : decode cX0_read 33 = .ok (.aload_n 1, 1) := by decide +kernel
theorem dX0_read_34 : decode cX0_read 34 = .ok (.iload_n 2, 1) := by decide +kernel
theorem dX0_read_35 : decode cX0_read 35 = .ok (.invokevirtual 30, 3) := by decide +kernel
theorem dX0_read_38 : decode cX0_read 38 = .ok (.iinc 2 1, 3) := by decide +kernel
theorem dX0_read_41 : decode cX0_read 41 = .ok (.goto (-28), 3) := by decide +kernel
theorem dX0_read_44 : decode cX0_read 44 = .ok (.aload_n 1, 1) := by decide +kernel
theorem dX0_read_45 : decode cX0_read 45 = .ok (.invokevirtual 34, 3) := by decide +kernel
theorem dX0_read_48 : decode cX0_read 48 = .ok (.aload_n 1, 1) := by decide +kernel
theorem dX0_read_49 : decode cX0_read 49 = .ok (.getfield 37, 3) := by decide +kernel
theorem dX0_read_52 : decode cX0_read 52 = .ok (.ireturn, 1) := by decide +kernel
theorem dX0_readBook_0 : decode cX0_readBook 0 = .ok (.aload_n 0, 1) := by decide +kernel
theorem dX0_readBook_1 : decode cX0_readBook 1 = .ok (.getfield 12, 3) := by decide +kernel
theorem dX0_readBook_4 : decode cX0_readBook 4 = .ok (.aload_n 1, 1) := by decide +kernel
theorem dX0_readBook_5 : decode cX0_readBook 5 = .ok (.iconst 0, 1) := by decide +kernel
theorem dX0_readBook_6 : decode cX0_readBook 6 = .ok (.bipush 99, 2) := by decide +kernel
theorem dX0_readBook_8 : decode cX0_readBook 8 = .ok (.invokevirtual 70, 3) := by decide +kernel
theorem dX0_readBook_11 : decode cX0_readBook 11 = .ok (.putfield 74, 3) := by decide +kernel
theorem dX0_readBook_14 : decode cX0_readBook 14 = .ok (.aload_n 0, 1) := by decide +kernel
theorem dX0_readBook_15 : decode cX0_readBook 15 = .ok (.getfield 12, 3) := by decide +kernel
theorem dX0_readBook_18 : decode cX0_readBook 18 = .ok (.aload_n 1, 1) := by decide +kernel
theorem dX0_readBook_19 : decode cX0_readBook 19 = .ok (.iconst 0, 1) := by decide +kernel
theorem dX0_readBook_20 : decode cX0_readBook 20 = .ok (.bipush 9, 2) := by decide +kernel
theorem dX0_readBook_22 : decode cX0_readBook 22 = .ok (.invokevirtual 70, 3) := by decide +kernel
theorem dX0_readBook_25 : decode cX0_readBook 25 = .ok (.putfield 77, 3) := by decide +kernel
theorem dX0_readBook_28 : decode cX0_readBook 28 = .ok (.aload_n 0, 1) := by decide +kernel
theorem dX0_readBook_29 : decode cX0_readBook 29 = .ok (.getfield 12, 3) := by decide +kernel
theorem dX0_readBook_32 : decode cX0_readBook 32 = .ok (.aload_n 1, 1) := by decide +kernel
theorem dX0_readBook_33 : decode cX0_readBook 33 = .ok (.iconst 1, 1) := by decide +kernel
theorem dX0_readBook_34 : decode cX0_readBook 34 = .ok (.bipush 10, 2) := by decide +kernel
theorem dX0_readBook_36 : decode cX0_readBook 36 = .ok (.invokevirtual 70, 3) := by decide +kernel
theorem dX0_readBook_39 : decode cX0_readBook 39 = .ok (.putfield 80, 3) := by decide +kernel
theorem dX0_readBook_42 : decode cX0_readBook 42 = .ok (.return_, 1) := by decide +kernel
theorem dX0_readBuyer_0 : decode cX0_readBuyer 0 = .ok (.aload_n 0, 1) := by decide +kernel
theorem dX0_readBuyer_1 : decode cX0_readBuyer 1 = .ok (.getfield 12, 3) := by decide +kernel
theorem dX0_readBuyer_4 : decode cX0_readBuyer 4 = .ok (.getfield 51, 3) := by decide +kernel
theorem dX0_readBuyer_7 : decode cX0_readBuyer 7 = .ok (.istore_n 2, 1) := by decide +kernel
theorem dX0_readBuyer_8 : decode cX0_readBuyer 8 = .ok (.iload_n 2, 1) := by decide +kernel
theorem dX0_readBuyer_9 : decode cX0_readBuyer 9 = .ok (.ifCond .lt 9, 3) := by decide +kernel
theorem dX0_readBuyer_12 : decode cX0_readBuyer 12 = .ok (.iload_n 2, 1) := by decide +kernel
theorem dX0_readBuyer_13 : decode cX0_readBuyer 13 = .ok (.bipush 6, 2) := by decide +kernel
theorem dX0_readBuyer_15 : decode cX0_readBuyer 15 = .ok (.if_icmp .lt 4, 3) := by decide +kernel
theorem dX0_readBuyer_18 : decode cX0_readBuyer 18 = .ok (.return_, 1) := by decide +kernel
theorem dX0_readBuyer_19 : decode cX0_readBuyer 19 = .ok (.aload_n 0, 1) := by decide +kernel
theorem dX0_readBuyer_20 : decode cX0_readBuyer 20 = .ok (.getfield 12, 3) := by decide +kernel
theorem dX0_readBuyer_23 : decode cX0_readBuyer 23 = .ok (.getfield 91, 3) := by decide +kernel
theorem dX0_readBuyer_26 : decode cX0_readBuyer 26 = .ok (.iload_n 2, 1) := by decide +kernel
theorem dX0_readBuyer_27 : decode cX0_readBuyer 27 = .ok (.aload_n 1, 1) := by decide +kernel
theorem dX0_readBuyer_28 : decode cX0_readBuyer 28 = .ok (.iconst 0, 1) := by decide +kernel
theorem dX0_readBuyer_29 : decode cX0_readBuyer 29 = .ok (.bipush 20, 2) := by decide +kernel
theorem dX0_readBuyer_31 : decode cX0_readBuyer 31 = .ok (.invokevirtual 70, 3) := by decide +kernel
theorem dX0_readBuyer_34 : decode cX0_readBuyer 34 = .ok (.iastore, 1) := by decide +kernel
theorem dX0_readBuyer_35 : decode cX0_readBuyer 35 = .ok (.aload_n 0, 1) := by decide +kernel
theorem dX0_readBuyer_36 : decode cX0_readBuyer 36 = .ok (.getfield 12, 3) := by decide +kernel
theorem dX0_readBuyer_39 : decode cX0_readBuyer 39 = .ok (.getfield 94, 3) := by decide +kernel
theorem dX0_readBuyer_42 : decode cX0_readBuyer 42 = .ok (.iload_n 2, 1) := by decide +kernel
theorem dX0_readBuyer_43 : decode cX0_readBuyer 43 = .ok (.aload_n 1, 1) := by decide +kernel
theorem dX0_readBuyer_44 : decode cX0_readBuyer 44 = .ok (.iconst 1, 1) := by decide +kernel
theorem dX0_readBuyer_45 : decode cX0_readBuyer 45 = .ok (.bipush 9, 2) := by decide +kernel
theorem dX0_readBuyer_47 : decode cX0_readBuyer 47 = .ok (.invokevirtual 70, 3) := by decide +kernel
theorem dX0_readBuyer_50 : decode cX0_readBuyer 50 = .ok (.iastore, 1) := by decide +kernel
theorem dX0_readBuyer_51 : decode cX0_readBuyer 51 = .ok (.aload_n 0, 1) := by decide +kernel
theorem dX0_readBuyer_52 : decode cX0_readBuyer 52 = .ok (.getfield 12, 3) := by decide +kernel
theorem dX0_readBuyer_55 : decode cX0_readBuyer 55 = .ok (.getfield 97, 3) := by decide +kernel
theorem dX0_readBuyer_58 : decode cX0_readBuyer 58 = .ok (.iload_n 2, 1) := by decide +kernel
theorem dX0_readBuyer_59 : decode cX0_readBuyer 59 = .ok (.aload_n 1, 1) := by decide +kernel
theorem dX0_readBuyer_60 : decode cX0_readBuyer 60 = .ok (.iconst 0, 1) := by decide +kernel
theorem dX0_readBuyer_61 : decode cX0_readBuyer 61 = .ok (.bipush 9, 2) := by decide +kernel
theorem dX0_readBuyer_63 : decode cX0_readBuyer 63 = .ok (.invokevirtual 70, 3) := by decide +kernel
theorem dX0_readBuyer_66 : decode cX0_readBuyer 66 = .ok (.iastore, 1) := by decide +kernel
theorem dX0_readBuyer_67 : decode cX0_readBuyer 67 = .ok (.aload_n 0, 1) := by decide +kernel
theorem dX0_readBuyer_68 : decode cX0_readBuyer 68 = .ok (.getfield 12, 3) := by decide +kernel
theorem dX0_readBuyer_71 : decode cX0_readBuyer 71 = .ok (.dup, 1) := by decide +kernel
theorem dX0_readBuyer_72 : decode cX0_readBuyer 72 = .ok (.getfield 51, 3) := by decide +kernel
theorem dX0_readBuyer_75 : decode cX0_readBuyer 75 = .ok (.iconst 1, 1) := by decide +kernel
theorem dX0_readBuyer_76 : decode cX0_readBuyer 76 = .ok (.iadd, 1) := by decide +kernel
theorem dX0_readBuyer_77 : decode cX0_readBuyer 77 = .ok (.putfield 51, 3) := by decide +kernel
theorem dX0_readBuyer_80 : decode cX0_readBuyer 80 = .ok (.return_, 1) := by decide +kernel
theorem dX0_readClause_0 : decode cX0_readClause 0 = .ok (.aload_n 1, 1) := by decide +kernel
theorem dX0_readClause_1 : decode cX0_readClause 1 = .ok (.ldc 41, 2) := by decide +kernel
theorem dX0_readClause_3 : decode cX0_readClause 3 = .ok (.invokevirtual 43, 3) := by decide +kernel
theorem dX0_readClause_6 : decode cX0_readClause 6 = .ok (.istore_n 3, 1) := by decide +kernel
theorem dX0_readClause_7 : decode cX0_readClause 7 = .ok (.iload_n 3, 1) := by decide +kernel
theorem dX0_readClause_8 : decode cX0_readClause 8 = .ok (.iconst (-1), 1) := by decide +kernel
theorem dX0_readClause_9 : decode cX0_readClause 9 = .ok (.if_icmp .ne 11, 3) := by decide +kernel
theorem dX0_readClause_12 : decode cX0_readClause 12 = .ok (.aload_n 1, 1) := by decide +kernel
theorem dX0_readClause_13 : decode cX0_readClause 13 = .ok (.iconst 0, 1) := by decide +kernel
theorem dX0_readClause_14 : decode cX0_readClause 14 = .ok (.invokevirtual 47, 3) := by decide +kernel
theorem dX0_readClause_17 : decode cX0_readClause 17 = .ok (.goto 102, 3) := by decide +kernel
theorem dX0_readClause_20 : decode cX0_readClause 20 = .ok (.iload_n 2, 1) := by decide +kernel
theorem dX0_readClause_21 : decode cX0_readClause 21 = .ok (.bipush 40, 2) := by decide +kernel
theorem dX0_readClause_23 : decode cX0_readClause 23 = .ok (.if_icmp .ge 41, 3) := by decide +kernel
theorem dX0_readClause_26 : decode cX0_readClause 26 = .ok (.iload_n 3, 1) := by decide +kernel
theorem dX0_readClause_27 : decode cX0_readClause 27 = .ok (.ifCond .ne 7, 3) := by decide +kernel
theorem dX0_readClause_30 : decode cX0_readClause 30 = .ok (.iconst 1, 1) := by decide +kernel
theorem dX0_readClause_31 : decode cX0_readClause 31 = .ok (.goto 4, 3) := by decide +kernel
theorem dX0_readClause_34 : decode cX0_readClause 34 = .ok (.iconst 0, 1) := by decide +kernel
theorem dX0_readClause_35 : decode cX0_readClause 35 = .ok (.iload_n 2, 1) := by decide +kernel
theorem dX0_readClause_36 : decode cX0_readClause 36 = .ok (.ifCond .ne 7, 3) := by decide +kernel
theorem dX0_readClause_39 : decode cX0_readClause 39 = .ok (.iconst 1, 1) := by decide +kernel
theorem dX0_readClause_40 : decode cX0_readClause 40 = .ok (.goto 4, 3) := by decide +kernel
theorem dX0_readClause_43 : decode cX0_readClause 43 = .ok (.iconst 0, 1) := by decide +kernel
theorem dX0_readClause_44 : decode cX0_readClause 44 = .ok (.if_icmp .ne 20, 3) := by decide +kernel
theorem dX0_readClause_47 : decode cX0_readClause 47 = .ok (.iload_n 3, 1) := by decide +kernel
theorem dX0_readClause_48 : decode cX0_readClause 48 = .ok (.iconst 2, 1) := by decide +kernel
theorem dX0_readClause_49 : decode cX0_readClause 49 = .ok (.if_icmp .ne 23, 3) := by decide +kernel
theorem dX0_readClause_52 : decode cX0_readClause 52 = .ok (.aload_n 0, 1) := by decide +kernel
theorem dX0_readClause_53 : decode cX0_readClause 53 = .ok (.getfield 12, 3) := by decide +kernel
theorem dX0_readClause_56 : decode cX0_readClause 56 = .ok (.getfield 51, 3) := by decide +kernel
theorem dX0_readClause_59 : decode cX0_readClause 59 = .ok (.bipush 6, 2) := by decide +kernel
theorem dX0_readClause_61 : decode cX0_readClause 61 = .ok (.if_icmp .lt 11, 3) := by decide +kernel
theorem dX0_readClause_64 : decode cX0_readClause 64 = .ok (.aload_n 1, 1) := by decide +kernel
theorem dX0_readClause_65 : decode cX0_readClause 65 = .ok (.iconst 4, 1) := by decide +kernel
theorem dX0_readClause_66 : decode cX0_readClause 66 = .ok (.invokevirtual 47, 3) := by decide +kernel
theorem dX0_readClause_69 : decode cX0_readClause 69 = .ok (.goto 50, 3) := by decide +kernel
theorem dX0_readClause_72 : decode cX0_readClause 72 = .ok (.aload_n 1, 1) := by decide +kernel
theorem dX0_readClause_73 : decode cX0_readClause 73 = .ok (.invokevirtual 54, 3) := by decide +kernel
theorem dX0_readClause_76 : decode cX0_readClause 76 = .ok (.iload_n 3, 1) := by decide +kernel
theorem dX0_readClause_77 : decode cX0_readClause 77 = .ok (.ifCond .ne 11, 3) := by decide +kernel
theorem dX0_readClause_80 : decode cX0_readClause 80 = .ok (.aload_n 0, 1) := by decide +kernel
theorem dX0_readClause_81 : decode cX0_readClause 81 = .ok (.aload_n 1, 1) := by decide +kernel
theorem dX0_readClause_82 : decode cX0_readClause 82 = .ok (.invokevirtual 57, 3) := by decide +kernel
theorem dX0_readClause_85 : decode cX0_readClause 85 = .ok (.goto 34, 3) := by decide +kernel
theorem dX0_readClause_88 : decode cX0_readClause 88 = .ok (.iload_n 3, 1) := by decide +kernel
theorem dX0_readClause_89 : decode cX0_readClause 89 = .ok (.iconst 1, 1) := by decide +kernel
theorem dX0_readClause_90 : decode cX0_readClause 90 = .ok (.if_icmp .ne 11, 3) := by decide +kernel
theorem dX0_readClause_93 : decode cX0_readClause 93 = .ok (.aload_n 0, 1) := by decide +kernel
theorem dX0_readClause_94 : decode cX0_readClause 94 = .ok (.aload_n 1, 1) := by decide +kernel
theorem dX0_readClause_95 : decode cX0_readClause 95 = .ok (.invokevirtual 61, 3) := by decide +kernel
theorem dX0_readClause_98 : decode cX0_readClause 98 = .ok (.goto 21, 3) := by decide +kernel
theorem dX0_readClause_101 : decode cX0_readClause 101 = .ok (.iload_n 3, 1) := by decide +kernel
theorem dX0_readClause_102 : decode cX0_readClause 102 = .ok (.iconst 2, 1) := by decide +kernel
theorem dX0_readClause_103 : decode cX0_readClause 103 = .ok (.if_icmp .ne 11, 3) := by decide +kernel
theorem dX0_readClause_106 : decode cX0_readClause 106 = .ok (.aload_n 0, 1) := by decide +kernel
theorem dX0_readClause_107 : decode cX0_readClause 107 = .ok (.aload_n 1, 1) := by decide +kernel
theorem dX0_readClause_108 : decode cX0_readClause 108 = .ok (.invokevirtual 64, 3) := by decide +kernel
theorem dX0_readClause_111 : decode cX0_readClause 111 = .ok (.goto 8, 3) := by decide +kernel
theorem dX0_readClause_114 : decode cX0_readClause 114 = .ok (.aload_n 0, 1) := by decide +kernel
theorem dX0_readClause_115 : decode cX0_readClause 115 = .ok (.aload_n 1, 1) := by decide +kernel
theorem dX0_readClause_116 : decode cX0_readClause 116 = .ok (.invokevirtual 67, 3) := by decide +kernel
theorem dX0_readClause_119 : decode cX0_readClause 119 = .ok (.return_, 1) := by decide +kernel
theorem dX0_readSky_0 : decode cX0_readSky 0 = .ok (.aload_n 1, 1) := by decide +kernel
theorem dX0_readSky_1 : decode cX0_readSky 1 = .ok (.iconst 0, 1) := by decide +kernel
theorem dX0_readSky_2 : decode cX0_readSky 2 = .ok (.aload_n 0, 1) := by decide +kernel
theorem dX0_readSky_3 : decode cX0_readSky 3 = .ok (.getfield 12, 3) := by decide +kernel
theorem dX0_readSky_6 : decode cX0_readSky 6 = .ok (.getfield 80, 3) := by decide +kernel
theorem dX0_readSky_9 : decode cX0_readSky 9 = .ok (.iconst 1, 1) := by decide +kernel
theorem dX0_readSky_10 : decode cX0_readSky 10 = .ok (.isub, 1) := by decide +kernel
theorem dX0_readSky_11 : decode cX0_readSky 11 = .ok (.invokevirtual 70, 3) := by decide +kernel
theorem dX0_readSky_14 : decode cX0_readSky 14 = .ok (.istore_n 2, 1) := by decide +kernel
theorem dX0_readSky_15 : decode cX0_readSky 15 = .ok (.aload_n 1, 1) := by decide +kernel
theorem dX0_readSky_16 : decode cX0_readSky 16 = .ok (.iconst 0, 1) := by decide +kernel
theorem dX0_readSky_17 : decode cX0_readSky 17 = .ok (.bipush 9, 2) := by decide +kernel
theorem dX0_readSky_19 : decode cX0_readSky 19 = .ok (.invokevirtual 70, 3) := by decide +kernel
theorem dX0_readSky_22 : decode cX0_readSky 22 = .ok (.istore_n 3, 1) := by decide +kernel
theorem dX0_readSky_23 : decode cX0_readSky 23 = .ok (.aload_n 0, 1) := by decide +kernel
theorem dX0_readSky_24 : decode cX0_readSky 24 = .ok (.getfield 12, 3) := by decide +kernel
theorem dX0_readSky_27 : decode cX0_readSky 27 = .ok (.iload_n 2, 1) := by decide +kernel
theorem dX0_readSky_28 : decode cX0_readSky 28 = .ok (.invokevirtual 83, 3) := by decide +kernel
theorem dX0_readSky_31 : decode cX0_readSky 31 = .ok (.ifCond .eq 13, 3) := by decide +kernel
theorem dX0_readSky_34 : decode cX0_readSky 34 = .ok (.aload_n 0, 1) := by decide +kernel
theorem dX0_readSky_35 : decode cX0_readSky 35 = .ok (.getfield 12, 3) := by decide +kernel
theorem dX0_readSky_38 : decode cX0_readSky 38 = .ok (.getfield 87, 3) := by decide +kernel
theorem dX0_readSky_41 : decode cX0_readSky 41 = .ok (.iload_n 2, 1) := by decide +kernel
theorem dX0_readSky_42 : decode cX0_readSky 42 = .ok (.iload_n 3, 1) := by decide +kernel
theorem dX0_readSky_43 : decode cX0_readSky 43 = .ok (.iastore, 1) := by decide +kernel
theorem dX0_readSky_44 : decode cX0_readSky 44 = .ok (.return_, 1) := by decide +kernel
theorem dX0_readWatch_0 : decode cX0_readWatch 0 = .ok (.aload_n 1, 1) := by decide +kernel
theorem dX0_readWatch_1 : decode cX0_readWatch 1 = .ok (.iconst 0, 1) := by decide +kernel
theorem dX0_readWatch_2 : decode cX0_readWatch 2 = .ok (.aload_n 0, 1) := by decide +kernel
theorem dX0_readWatch_3 : decode cX0_readWatch 3 = .ok (.getfield 12, 3) := by decide +kernel
theorem dX0_readWatch_6 : decode cX0_readWatch 6 = .ok (.getfield 80, 3) := by decide +kernel
theorem dX0_readWatch_9 : decode cX0_readWatch 9 = .ok (.iconst 1, 1) := by decide +kernel
theorem dX0_readWatch_10 : decode cX0_readWatch 10 = .ok (.isub, 1) := by decide +kernel
theorem dX0_readWatch_11 : decode cX0_readWatch 11 = .ok (.invokevirtual 70, 3) := by decide +kernel
theorem dX0_readWatch_14 : decode cX0_readWatch 14 = .ok (.istore_n 2, 1) := by decide +kernel
theorem dX0_readWatch_15 : decode cX0_readWatch 15 = .ok (.aload_n 1, 1) := by decide +kernel
theorem dX0_readWatch_16 : decode cX0_readWatch 16 = .ok (.iconst 0, 1) := by decide +kernel
theorem dX0_readWatch_17 : decode cX0_readWatch 17 = .ok (.aload_n 0, 1) := by decide +kernel
theorem dX0_readWatch_18 : decode cX0_readWatch 18 = .ok (.getfield 12, 3) := by decide +kernel
theorem dX0_readWatch_21 : decode cX0_readWatch 21 = .ok (.getfield 51, 3) := by decide +kernel
theorem dX0_readWatch_24 : decode cX0_readWatch 24 = .ok (.iconst 1, 1) := by decide +kernel
theorem dX0_readWatch_25 : decode cX0_readWatch 25 = .ok (.isub, 1) := by decide +kernel
theorem dX0_readWatch_26 : decode cX0_readWatch 26 = .ok (.invokevirtual 70, 3) := by decide +kernel
theorem dX0_readWatch_29 : decode cX0_readWatch 29 = .ok (.istore_n 3, 1) := by decide +kernel
theorem dX0_readWatch_30 : decode cX0_readWatch 30 = .ok (.aload_n 0, 1) := by decide +kernel
theorem dX0_readWatch_31 : decode cX0_readWatch 31 = .ok (.getfield 12, 3) := by decide +kernel
theorem dX0_readWatch_34 : decode cX0_readWatch 34 = .ok (.iload_n 2, 1) := by decide +kernel
theorem dX0_readWatch_35 : decode cX0_readWatch 35 = .ok (.invokevirtual 83, 3) := by decide +kernel
theorem dX0_readWatch_38 : decode cX0_readWatch 38 = .ok (.ifCond .eq 29, 3) := by decide +kernel
theorem dX0_readWatch_41 : decode cX0_readWatch 41 = .ok (.aload_n 0, 1) := by decide +kernel
theorem dX0_readWatch_42 : decode cX0_readWatch 42 = .ok (.getfield 12, 3) := by decide +kernel
theorem dX0_readWatch_45 : decode cX0_readWatch 45 = .ok (.iload_n 3, 1) := by decide +kernel
theorem dX0_readWatch_46 : decode cX0_readWatch 46 = .ok (.invokevirtual 100, 3) := by decide +kernel
theorem dX0_readWatch_49 : decode cX0_readWatch 49 = .ok (.ifCond .eq 18, 3) := by decide +kernel
theorem dX0_readWatch_52 : decode cX0_readWatch 52 = .ok (.aload_n 0, 1) := by decide +kernel
theorem dX0_readWatch_53 : decode cX0_readWatch 53 = .ok (.getfield 12, 3) := by decide +kernel
theorem dX0_readWatch_56 : decode cX0_readWatch 56 = .ok (.getfield 103, 3) := by decide +kernel
theorem dX0_readWatch_59 : decode cX0_readWatch 59 = .ok (.iload_n 2, 1) := by decide +kernel
theorem dX0_readWatch_60 : decode cX0_readWatch 60 = .ok (.dup2, 1) := by decide +kernel
theorem dX0_readWatch_61 : decode cX0_readWatch 61 = .ok (.iaload, 1) := by decide +kernel
theorem dX0_readWatch_62 : decode cX0_readWatch 62 = .ok (.iconst 1, 1) := by decide +kernel
theorem dX0_readWatch_63 : decode cX0_readWatch 63 = .ok (.iload_n 3, 1) := by decide +kernel
theorem dX0_readWatch_64 : decode cX0_readWatch 64 = .ok (.ishl, 1) := by decide +kernel
theorem dX0_readWatch_65 : decode cX0_readWatch 65 = .ok (.ior, 1) := by decide +kernel
theorem dX0_readWatch_66 : decode cX0_readWatch 66 = .ok (.iastore, 1) := by decide +kernel
theorem dX0_readWatch_67 : decode cX0_readWatch 67 = .ok (.return_, 1) := by decide +kernel
set_option maxHeartbeats 4000000 in
set_option maxRecDepth 100000 in
theorem ct_X0_readBook (l : Launch) (D : va_G) (tc : Nat → ClassId) (sk : (Nat → Nat) × (Nat → Nat)) (Wa : Nat → Nat) (Aa : Nat → Nat) (Av : Nat → Int32) (Af : Nat → Nat → Int32) (Ta : Nat → Nat) (Tv : Nat → Int32) (Tf : Nat → Nat → Int32) (h_tape : 0 ≤ ((Tv 0) : Int32).toInt ∧ ((Tv 0) : Int32).toInt ≤ 400 ∧ 0 ≤ ((Tv 1) : Int32).toInt ∧ ((Tv 1) : Int32).toInt ≤ 400 ∧ 0 ≤ ((Tv 2) : Int32).toInt ∧ ((Tv 2) : Int32).toInt ≤ 400) (h_buy : 0 ≤ ((Av 3) : Int32).toInt ∧ ((Av 3) : Int32).toInt ≤ 6) : Ct l yX0_readBook cX0_readBook 2 none { frames := 3, cells := 0, slots := 0, locals := 68 } D tc sk [.ref (Wa 0), .ref (Ta 0)] [((Wa 0), .inr (0, [.ref (Aa 0)])), ((Aa 0), .inr (9, [.int (Av 0), .int (Av 1), .int (Av 2), .int (Av 3), .int (Av 4), .int (Av 5), .ref (Aa 1), .ref (Aa 2), .ref (Aa 3), .ref (Aa 4), .ref (Aa 5), .ref (Aa 6), .ref (Aa 7), .ref (Aa 8)])), ((Aa 1), .inl (tc 0, 10, .inl (Af 1))), ((Aa 2), .inl (tc 0, 10, .inl (Af 2))), ((Aa 3), .inl (tc 0, 6, .inl (Af 3))), ((Aa 4), .inl (tc 0, 6, .inl (Af 4))), ((Aa 5), .inl (tc 0, 6, .inl (Af 5))), ((Aa 6), .inl (tc 0, 6, .inl (Af 6))), ((Aa 7), .inl (tc 0, 6, .inl (Af 7))), ((Aa 8), .inl (tc 0, 6, .inl (Af 8))), ((Ta 0), .inr (10, [.ref (Ta 1), .int (Tv 0), .int (Tv 1), .int (Tv 2), .int (Tv 3), .int (Tv 4)])), ((Ta 1), .inl (tc 0, 400, .inl (Tf 1)))] (fun (v : Option Value) (u : (Int32) × (Int32) × (Int32) × (Int32) × (Int32) × (Int32) × (Int32)) => match u with | (o1, o2, o3, o4, o5, o6, o7) => v = none ∧ (0 ≤ ((Tv 0) : Int32).toInt ∧ ((Tv 0) : Int32).toInt ≤ 400 ∧ 0 ≤ (o4 : Int32).toInt ∧ (o4 : Int32).toInt ≤ 400 ∧ 0 ≤ (o5 : Int32).toInt ∧ (o5 : Int32).toInt ≤ 400) ∧ (0 ≤ ((Av 3) : Int32).toInt ∧ ((Av 3) : Int32).toInt ≤ 6)) (fun (u : (Int32) × (Int32) × (Int32) × (Int32) × (Int32) × (Int32) × (Int32)) => match u with | (o1, o2, o3, o4, o5, o6, o7) => [((Wa 0), .inr (0, [.ref (Aa 0)])), ((Aa 0), .inr (9, [.int o1, .int o2, .int o3, .int (Av 3), .int (Av 4), .int (Av 5), .ref (Aa 1), .ref (Aa 2), .ref (Aa 3), .ref (Aa 4), .ref (Aa 5), .ref (Aa 6), .ref (Aa 7), .ref (Aa 8)])), ((Aa 1), .inl (tc 0, 10, .inl (Af 1))), ((Aa 2), .inl (tc 0, 10, .inl (Af 2))), ((Aa 3), .inl (tc 0, 6, .inl (Af 3))), ((Aa 4), .inl (tc 0, 6, .inl (Af 4))), ((Aa 5), .inl (tc 0, 6, .inl (Af 5))), ((Aa 6), .inl (tc 0, 6, .inl (Af 6))), ((Aa 7), .inl (tc 0, 6, .inl (Af 7))), ((Aa 8), .inl (tc 0, 6, .inl (Af 8))), ((Ta 0), .inr (10, [.ref (Ta 1), .int (Tv 0), .int o4, .int o5, .int o6, .int o7])), ((Ta 1), .inl (tc 0, 400, .inl (Tf 1)))]) 0 0 := by
  refine Ct.start (by decide) (Nat.le_of_ble_eq_true rfl) (fun p e s m below meth c A ls hx hb hr hlk hin hml hown hts hK hX hP hD hA hl hS => ?_)
  have hl : lv_has ls 2 [(0, .ref (Wa 0)), (1, .ref (Ta 0))] := hl
  refine lv_aload_n hx hb dX0_readBook_0 rfl (lv_at hl 0 rfl) ?_
  refine gf_X0_12 hx hb hts hown hK hP 0 rfl rfl dX0_readBook_1 ?_
  refine lv_aload_n hx hb dX0_readBook_4 rfl (lv_at hl 1 rfl) ?_
  refine lv_iconst (v := 0) hx hb dX0_readBook_5 (by decide) ?_
  refine lv_bipush (v := 99) hx hb dX0_readBook_6 (by decide) ?_
  have hh_1 : 0 ≤ ((Tv 0) : Int32).toInt ∧ ((Tv 0) : Int32).toInt ≤ 400 ∧ 0 ≤ ((Tv 1) : Int32).toInt ∧ ((Tv 1) : Int32).toInt ≤ 400 ∧ 0 ≤ ((Tv 2) : Int32).toInt ∧ ((Tv 2) : Int32).toInt ≤ 400 := by
    first | assumption | omega
  refine cV (a := (Ta 0)) (As := [.int 0, .int 99]) (rest := [.ref (Aa 0)]) (wr := [((Wa 0), .inr (0, [.ref (Aa 0)])), ((Aa 0), .inr (9, [.int (Av 0), .int (Av 1), .int (Av 2), .int (Av 3), .int (Av 4), .int (Av 5), .ref (Aa 1), .ref (Aa 2), .ref (Aa 3), .ref (Aa 4), .ref (Aa 5), .ref (Aa 6), .ref (Aa 7), .ref (Aa 8)])), ((Aa 1), .inl (tc 0, 10, .inl (Af 1))), ((Aa 2), .inl (tc 0, 10, .inl (Af 2))), ((Aa 3), .inl (tc 0, 6, .inl (Af 3))), ((Aa 4), .inl (tc 0, 6, .inl (Af 4))), ((Aa 5), .inl (tc 0, 6, .inl (Af 5))), ((Aa 6), .inl (tc 0, 6, .inl (Af 6))), ((Aa 7), .inl (tc 0, 6, .inl (Af 7))), ((Aa 8), .inl (tc 0, 6, .inl (Af 8)))]) ⟨hx, hb, hml, hown, hts⟩ hK hX hA (cu_X10_takeNumber l D tc sk (Ta 0) (Ta 1) (Tv 0) (Tv 1) (Tv 2) (Tv 3) (Tv 4) (Tf 1) 0 99 hh_1) k_566 k_563 k_564 k_565 k_96 pl_X10_takeNumber ⟨Nat.le_of_ble_eq_true rfl, Nat.le_of_ble_eq_true rfl⟩ rfl rfl (va_recv hK hP (ci := 10) (q0 := 10) rfl rfl) hP hD hS [10, 11] [0, 1, 2, 3, 4, 5, 6, 7, 8, 9] rfl rfl rfl rfl rfl (by decide) rfl hl.1 rfl (Nat.le_of_ble_eq_true rfl) dX0_readBook_8 ⟨Nat.le_of_ble_eq_true rfl, Nat.le_of_ble_eq_true rfl⟩ (fun v_2 u_3 H locs hv_4 hP hD hS => ?_)
  obtain ⟨sv_5, sv_6, sv_7, sv_8⟩ := u_3
  obtain ⟨r_9, rfl, he_10⟩ := hv_4
  have he_10 : (True) ∧ (0 ≤ ((Tv 0) : Int32).toInt ∧ ((Tv 0) : Int32).toInt ≤ 400 ∧ 0 ≤ (sv_5 : Int32).toInt ∧ (sv_5 : Int32).toInt ≤ 400 ∧ 0 ≤ (sv_6 : Int32).toInt ∧ (sv_6 : Int32).toInt ≤ 400) := he_10
  have he_10_0 : (0 ≤ ((Tv 0) : Int32).toInt ∧ ((Tv 0) : Int32).toInt ≤ 400 ∧ 0 ≤ (sv_5 : Int32).toInt ∧ (sv_5 : Int32).toInt ≤ 400 ∧ 0 ≤ (sv_6 : Int32).toInt ∧ (sv_6 : Int32).toInt ≤ 400) := he_10.2
  refine W.eq (g2 := F0 m 11 ls [.int r_9, .ref (Aa 0)]) rfl ?_
  have hP : va_P D classes [((Wa 0), .inr (0, [.ref (Aa 0)])), ((Aa 0), .inr (9, [.int (Av 0), .int (Av 1), .int (Av 2), .int (Av 3), .int (Av 4), .int (Av 5), .ref (Aa 1), .ref (Aa 2), .ref (Aa 3), .ref (Aa 4), .ref (Aa 5), .ref (Aa 6), .ref (Aa 7), .ref (Aa 8)])), ((Aa 1), .inl (tc 0, 10, .inl (Af 1))), ((Aa 2), .inl (tc 0, 10, .inl (Af 2))), ((Aa 3), .inl (tc 0, 6, .inl (Af 3))), ((Aa 4), .inl (tc 0, 6, .inl (Af 4))), ((Aa 5), .inl (tc 0, 6, .inl (Af 5))), ((Aa 6), .inl (tc 0, 6, .inl (Af 6))), ((Aa 7), .inl (tc 0, 6, .inl (Af 7))), ((Aa 8), .inl (tc 0, 6, .inl (Af 8))), ((Ta 0), .inr (10, [.ref (Ta 1), .int (Tv 0), .int sv_5, .int sv_6, .int sv_7, .int sv_8])), ((Ta 1), .inl (tc 0, 400, .inl (Tf 1)))] H := hP
  have hD : va_D A [((Wa 0), .inr (0, [.ref (Aa 0)])), ((Aa 0), .inr (9, [.int (Av 0), .int (Av 1), .int (Av 2), .int (Av 3), .int (Av 4), .int (Av 5), .ref (Aa 1), .ref (Aa 2), .ref (Aa 3), .ref (Aa 4), .ref (Aa 5), .ref (Aa 6), .ref (Aa 7), .ref (Aa 8)])), ((Aa 1), .inl (tc 0, 10, .inl (Af 1))), ((Aa 2), .inl (tc 0, 10, .inl (Af 2))), ((Aa 3), .inl (tc 0, 6, .inl (Af 3))), ((Aa 4), .inl (tc 0, 6, .inl (Af 4))), ((Aa 5), .inl (tc 0, 6, .inl (Af 5))), ((Aa 6), .inl (tc 0, 6, .inl (Af 6))), ((Aa 7), .inl (tc 0, 6, .inl (Af 7))), ((Aa 8), .inl (tc 0, 6, .inl (Af 8))), ((Ta 0), .inr (10, [.ref (Ta 1), .int (Tv 0), .int sv_5, .int sv_6, .int sv_7, .int sv_8])), ((Ta 1), .inl (tc 0, 400, .inl (Tf 1)))] := hD
  refine pf_X0_74 hx hb hts hown hK hP hD hS 1 rfl (Nat.le_of_ble_eq_true rfl) rfl rfl dX0_readBook_11 (fun H locs hP hD hS => ?_)
  have hP : va_P D classes [((Wa 0), .inr (0, [.ref (Aa 0)])), ((Aa 0), .inr (9, [.int r_9, .int (Av 1), .int (Av 2), .int (Av 3), .int (Av 4), .int (Av 5), .ref (Aa 1), .ref (Aa 2), .ref (Aa 3), .ref (Aa 4), .ref (Aa 5), .ref (Aa 6), .ref (Aa 7), .ref (Aa 8)])), ((Aa 1), .inl (tc 0, 10, .inl (Af 1))), ((Aa 2), .inl (tc 0, 10, .inl (Af 2))), ((Aa 3), .inl (tc 0, 6, .inl (Af 3))), ((Aa 4), .inl (tc 0, 6, .inl (Af 4))), ((Aa 5), .inl (tc 0, 6, .inl (Af 5))), ((Aa 6), .inl (tc 0, 6, .inl (Af 6))), ((Aa 7), .inl (tc 0, 6, .inl (Af 7))), ((Aa 8), .inl (tc 0, 6, .inl (Af 8))), ((Ta 0), .inr (10, [.ref (Ta 1), .int (Tv 0), .int sv_5, .int sv_6, .int sv_7, .int sv_8])), ((Ta 1), .inl (tc 0, 400, .inl (Tf 1)))] H := hP
  have hD : va_D A [((Wa 0), .inr (0, [.ref (Aa 0)])), ((Aa 0), .inr (9, [.int r_9, .int (Av 1), .int (Av 2), .int (Av 3), .int (Av 4), .int (Av 5), .ref (Aa 1), .ref (Aa 2), .ref (Aa 3), .ref (Aa 4), .ref (Aa 5), .ref (Aa 6), .ref (Aa 7), .ref (Aa 8)])), ((Aa 1), .inl (tc 0, 10, .inl (Af 1))), ((Aa 2), .inl (tc 0, 10, .inl (Af 2))), ((Aa 3), .inl (tc 0, 6, .inl (Af 3))), ((Aa 4), .inl (tc 0, 6, .inl (Af 4))), ((Aa 5), .inl (tc 0, 6, .inl (Af 5))), ((Aa 6), .inl (tc 0, 6, .inl (Af 6))), ((Aa 7), .inl (tc 0, 6, .inl (Af 7))), ((Aa 8), .inl (tc 0, 6, .inl (Af 8))), ((Ta 0), .inr (10, [.ref (Ta 1), .int (Tv 0), .int sv_5, .int sv_6, .int sv_7, .int sv_8])), ((Ta 1), .inl (tc 0, 400, .inl (Tf 1)))] := hD
  refine lv_aload_n hx hb dX0_readBook_14 rfl (lv_at hl 0 rfl) ?_
  refine gf_X0_12 hx hb hts hown hK hP 0 rfl rfl dX0_readBook_15 ?_
  refine lv_aload_n hx hb dX0_readBook_18 rfl (lv_at hl 1 rfl) ?_
  refine lv_iconst (v := 0) hx hb dX0_readBook_19 (by decide) ?_
  refine lv_bipush (v := 9) hx hb dX0_readBook_20 (by decide) ?_
  have hh_11 : 0 ≤ ((Tv 0) : Int32).toInt ∧ ((Tv 0) : Int32).toInt ≤ 400 ∧ 0 ≤ (sv_5 : Int32).toInt ∧ (sv_5 : Int32).toInt ≤ 400 ∧ 0 ≤ (sv_6 : Int32).toInt ∧ (sv_6 : Int32).toInt ≤ 400 := by
    first | assumption | omega
  refine cV (a := (Ta 0)) (As := [.int 0, .int 9]) (rest := [.ref (Aa 0)]) (wr := [((Wa 0), .inr (0, [.ref (Aa 0)])), ((Aa 0), .inr (9, [.int r_9, .int (Av 1), .int (Av 2), .int (Av 3), .int (Av 4), .int (Av 5), .ref (Aa 1), .ref (Aa 2), .ref (Aa 3), .ref (Aa 4), .ref (Aa 5), .ref (Aa 6), .ref (Aa 7), .ref (Aa 8)])), ((Aa 1), .inl (tc 0, 10, .inl (Af 1))), ((Aa 2), .inl (tc 0, 10, .inl (Af 2))), ((Aa 3), .inl (tc 0, 6, .inl (Af 3))), ((Aa 4), .inl (tc 0, 6, .inl (Af 4))), ((Aa 5), .inl (tc 0, 6, .inl (Af 5))), ((Aa 6), .inl (tc 0, 6, .inl (Af 6))), ((Aa 7), .inl (tc 0, 6, .inl (Af 7))), ((Aa 8), .inl (tc 0, 6, .inl (Af 8)))]) ⟨hx, hb, hml, hown, hts⟩ hK hX hA (cu_X10_takeNumber l D tc sk (Ta 0) (Ta 1) (Tv 0) sv_5 sv_6 sv_7 sv_8 (Tf 1) 0 9 hh_11) k_566 k_563 k_564 k_565 k_96 pl_X10_takeNumber ⟨Nat.le_of_ble_eq_true rfl, Nat.le_of_ble_eq_true rfl⟩ rfl rfl (va_recv hK hP (ci := 10) (q0 := 10) rfl rfl) hP hD hS [10, 11] [0, 1, 2, 3, 4, 5, 6, 7, 8, 9] rfl rfl rfl rfl rfl (by decide) rfl hl.1 rfl (Nat.le_of_ble_eq_true rfl) dX0_readBook_22 ⟨Nat.le_of_ble_eq_true rfl, Nat.le_of_ble_eq_true rfl⟩ (fun v_12 u_13 H locs hv_14 hP hD hS => ?_)
  obtain ⟨sv_15, sv_16, sv_17, sv_18⟩ := u_13
  obtain ⟨r_19, rfl, he_20⟩ := hv_14
  have he_20 : (True) ∧ (0 ≤ ((Tv 0) : Int32).toInt ∧ ((Tv 0) : Int32).toInt ≤ 400 ∧ 0 ≤ (sv_15 : Int32).toInt ∧ (sv_15 : Int32).toInt ≤ 400 ∧ 0 ≤ (sv_16 : Int32).toInt ∧ (sv_16 : Int32).toInt ≤ 400) := he_20
  have he_20_0 : (0 ≤ ((Tv 0) : Int32).toInt ∧ ((Tv 0) : Int32).toInt ≤ 400 ∧ 0 ≤ (sv_15 : Int32).toInt ∧ (sv_15 : Int32).toInt ≤ 400 ∧ 0 ≤ (sv_16 : Int32).toInt ∧ (sv_16 : Int32).toInt ≤ 400) := he_20.2
  refine W.eq (g2 := F0 m 25 ls [.int r_19, .ref (Aa 0)]) rfl ?_
  have hP : va_P D classes [((Wa 0), .inr (0, [.ref (Aa 0)])), ((Aa 0), .inr (9, [.int r_9, .int (Av 1), .int (Av 2), .int (Av 3), .int (Av 4), .int (Av 5), .ref (Aa 1), .ref (Aa 2), .ref (Aa 3), .ref (Aa 4), .ref (Aa 5), .ref (Aa 6), .ref (Aa 7), .ref (Aa 8)])), ((Aa 1), .inl (tc 0, 10, .inl (Af 1))), ((Aa 2), .inl (tc 0, 10, .inl (Af 2))), ((Aa 3), .inl (tc 0, 6, .inl (Af 3))), ((Aa 4), .inl (tc 0, 6, .inl (Af 4))), ((Aa 5), .inl (tc 0, 6, .inl (Af 5))), ((Aa 6), .inl (tc 0, 6, .inl (Af 6))), ((Aa 7), .inl (tc 0, 6, .inl (Af 7))), ((Aa 8), .inl (tc 0, 6, .inl (Af 8))), ((Ta 0), .inr (10, [.ref (Ta 1), .int (Tv 0), .int sv_15, .int sv_16, .int sv_17, .int sv_18])), ((Ta 1), .inl (tc 0, 400, .inl (Tf 1)))] H := hP
  have hD : va_D A [((Wa 0), .inr (0, [.ref (Aa 0)])), ((Aa 0), .inr (9, [.int r_9, .int (Av 1), .int (Av 2), .int (Av 3), .int (Av 4), .int (Av 5), .ref (Aa 1), .ref (Aa 2), .ref (Aa 3), .ref (Aa 4), .ref (Aa 5), .ref (Aa 6), .ref (Aa 7), .ref (Aa 8)])), ((Aa 1), .inl (tc 0, 10, .inl (Af 1))), ((Aa 2), .inl (tc 0, 10, .inl (Af 2))), ((Aa 3), .inl (tc 0, 6, .inl (Af 3))), ((Aa 4), .inl (tc 0, 6, .inl (Af 4))), ((Aa 5), .inl (tc 0, 6, .inl (Af 5))), ((Aa 6), .inl (tc 0, 6, .inl (Af 6))), ((Aa 7), .inl (tc 0, 6, .inl (Af 7))), ((Aa 8), .inl (tc 0, 6, .inl (Af 8))), ((Ta 0), .inr (10, [.ref (Ta 1), .int (Tv 0), .int sv_15, .int sv_16, .int sv_17, .int sv_18])), ((Ta 1), .inl (tc 0, 400, .inl (Tf 1)))] := hD
  refine pf_X0_77 hx hb hts hown hK hP hD hS 1 rfl (Nat.le_of_ble_eq_true rfl) rfl rfl dX0_readBook_25 (fun H locs hP hD hS => ?_)
  have hP : va_P D classes [((Wa 0), .inr (0, [.ref (Aa 0)])), ((Aa 0), .inr (9, [.int r_9, .int r_19, .int (Av 2), .int (Av 3), .int (Av 4), .int (Av 5), .ref (Aa 1), .ref (Aa 2), .ref (Aa 3), .ref (Aa 4), .ref (Aa 5), .ref (Aa 6), .ref (Aa 7), .ref (Aa 8)])), ((Aa 1), .inl (tc 0, 10, .inl (Af 1))), ((Aa 2), .inl (tc 0, 10, .inl (Af 2))), ((Aa 3), .inl (tc 0, 6, .inl (Af 3))), ((Aa 4), .inl (tc 0, 6, .inl (Af 4))), ((Aa 5), .inl (tc 0, 6, .inl (Af 5))), ((Aa 6), .inl (tc 0, 6, .inl (Af 6))), ((Aa 7), .inl (tc 0, 6, .inl (Af 7))), ((Aa 8), .inl (tc 0, 6, .inl (Af 8))), ((Ta 0), .inr (10, [.ref (Ta 1), .int (Tv 0), .int sv_15, .int sv_16, .int sv_17, .int sv_18])), ((Ta 1), .inl (tc 0, 400, .inl (Tf 1)))] H := hP
  have hD : va_D A [((Wa 0), .inr (0, [.ref (Aa 0)])), ((Aa 0), .inr (9, [.int r_9, .int r_19, .int (Av 2), .int (Av 3), .int (Av 4), .int (Av 5), .ref (Aa 1), .ref (Aa 2), .ref (Aa 3), .ref (Aa 4), .ref (Aa 5), .ref (Aa 6), .ref (Aa 7), .ref (Aa 8)])), ((Aa 1), .inl (tc 0, 10, .inl (Af 1))), ((Aa 2), .inl (tc 0, 10, .inl (Af 2))), ((Aa 3), .inl (tc 0, 6, .inl (Af 3))), ((Aa 4), .inl (tc 0, 6, .inl (Af 4))), ((Aa 5), .inl (tc 0, 6, .inl (Af 5))), ((Aa 6), .inl (tc 0, 6, .inl (Af 6))), ((Aa 7), .inl (tc 0, 6, .inl (Af 7))), ((Aa 8), .inl (tc 0, 6, .inl (Af 8))), ((Ta 0), .inr (10, [.ref (Ta 1), .int (Tv 0), .int sv_15, .int sv_16, .int sv_17, .int sv_18])), ((Ta 1), .inl (tc 0, 400, .inl (Tf 1)))] := hD
  refine lv_aload_n hx hb dX0_readBook_28 rfl (lv_at hl 0 rfl) ?_
  refine gf_X0_12 hx hb hts hown hK hP 0 rfl rfl dX0_readBook_29 ?_
  refine lv_aload_n hx hb dX0_readBook_32 rfl (lv_at hl 1 rfl) ?_
  refine lv_iconst (v := 1) hx hb dX0_readBook_33 (by decide) ?_
  refine lv_bipush (v := 10) hx hb dX0_readBook_34 (by decide) ?_
  have hh_21 : 0 ≤ ((Tv 0) : Int32).toInt ∧ ((Tv 0) : Int32).toInt ≤ 400 ∧ 0 ≤ (sv_15 : Int32).toInt ∧ (sv_15 : Int32).toInt ≤ 400 ∧ 0 ≤ (sv_16 : Int32).toInt ∧ (sv_16 : Int32).toInt ≤ 400 := by
    first | assumption | omega
  refine cV (a := (Ta 0)) (As := [.int 1, .int 10]) (rest := [.ref (Aa 0)]) (wr := [((Wa 0), .inr (0, [.ref (Aa 0)])), ((Aa 0), .inr (9, [.int r_9, .int r_19, .int (Av 2), .int (Av 3), .int (Av 4), .int (Av 5), .ref (Aa 1), .ref (Aa 2), .ref (Aa 3), .ref (Aa 4), .ref (Aa 5), .ref (Aa 6), .ref (Aa 7), .ref (Aa 8)])), ((Aa 1), .inl (tc 0, 10, .inl (Af 1))), ((Aa 2), .inl (tc 0, 10, .inl (Af 2))), ((Aa 3), .inl (tc 0, 6, .inl (Af 3))), ((Aa 4), .inl (tc 0, 6, .inl (Af 4))), ((Aa 5), .inl (tc 0, 6, .inl (Af 5))), ((Aa 6), .inl (tc 0, 6, .inl (Af 6))), ((Aa 7), .inl (tc 0, 6, .inl (Af 7))), ((Aa 8), .inl (tc 0, 6, .inl (Af 8)))]) ⟨hx, hb, hml, hown, hts⟩ hK hX hA (cu_X10_takeNumber l D tc sk (Ta 0) (Ta 1) (Tv 0) sv_15 sv_16 sv_17 sv_18 (Tf 1) 1 10 hh_21) k_566 k_563 k_564 k_565 k_96 pl_X10_takeNumber ⟨Nat.le_of_ble_eq_true rfl, Nat.le_of_ble_eq_true rfl⟩ rfl rfl (va_recv hK hP (ci := 10) (q0 := 10) rfl rfl) hP hD hS [10, 11] [0, 1, 2, 3, 4, 5, 6, 7, 8, 9] rfl rfl rfl rfl rfl (by decide) rfl hl.1 rfl (Nat.le_of_ble_eq_true rfl) dX0_readBook_36 ⟨Nat.le_of_ble_eq_true rfl, Nat.le_of_ble_eq_true rfl⟩ (fun v_22 u_23 H locs hv_24 hP hD hS => ?_)
  obtain ⟨sv_25, sv_26, sv_27, sv_28⟩ := u_23
  obtain ⟨r_29, rfl, he_30⟩ := hv_24
  have he_30 : (True) ∧ (0 ≤ ((Tv 0) : Int32).toInt ∧ ((Tv 0) : Int32).toInt ≤ 400 ∧ 0 ≤ (sv_25 : Int32).toInt ∧ (sv_25 : Int32).toInt ≤ 400 ∧ 0 ≤ (sv_26 : Int32).toInt ∧ (sv_26 : Int32).toInt ≤ 400) := he_30
  have he_30_0 : (0 ≤ ((Tv 0) : Int32).toInt ∧ ((Tv 0) : Int32).toInt ≤ 400 ∧ 0 ≤ (sv_25 : Int32).toInt ∧ (sv_25 : Int32).toInt ≤ 400 ∧ 0 ≤ (sv_26 : Int32).toInt ∧ (sv_26 : Int32).toInt ≤ 400) := he_30.2
  refine W.eq (g2 := F0 m 39 ls [.int r_29, .ref (Aa 0)]) rfl ?_
  have hP : va_P D classes [((Wa 0), .inr (0, [.ref (Aa 0)])), ((Aa 0), .inr (9, [.int r_9, .int r_19, .int (Av 2), .int (Av 3), .int (Av 4), .int (Av 5), .ref (Aa 1), .ref (Aa 2), .ref (Aa 3), .ref (Aa 4), .ref (Aa 5), .ref (Aa 6), .ref (Aa 7), .ref (Aa 8)])), ((Aa 1), .inl (tc 0, 10, .inl (Af 1))), ((Aa 2), .inl (tc 0, 10, .inl (Af 2))), ((Aa 3), .inl (tc 0, 6, .inl (Af 3))), ((Aa 4), .inl (tc 0, 6, .inl (Af 4))), ((Aa 5), .inl (tc 0, 6, .inl (Af 5))), ((Aa 6), .inl (tc 0, 6, .inl (Af 6))), ((Aa 7), .inl (tc 0, 6, .inl (Af 7))), ((Aa 8), .inl (tc 0, 6, .inl (Af 8))), ((Ta 0), .inr (10, [.ref (Ta 1), .int (Tv 0), .int sv_25, .int sv_26, .int sv_27, .int sv_28])), ((Ta 1), .inl (tc 0, 400, .inl (Tf 1)))] H := hP
  have hD : va_D A [((Wa 0), .inr (0, [.ref (Aa 0)])), ((Aa 0), .inr (9, [.int r_9, .int r_19, .int (Av 2), .int (Av 3), .int (Av 4), .int (Av 5), .ref (Aa 1), .ref (Aa 2), .ref (Aa 3), .ref (Aa 4), .ref (Aa 5), .ref (Aa 6), .ref (Aa 7), .ref (Aa 8)])), ((Aa 1), .inl (tc 0, 10, .inl (Af 1))), ((Aa 2), .inl (tc 0, 10, .inl (Af 2))), ((Aa 3), .inl (tc 0, 6, .inl (Af 3))), ((Aa 4), .inl (tc 0, 6, .inl (Af 4))), ((Aa 5), .inl (tc 0, 6, .inl (Af 5))), ((Aa 6), .inl (tc 0, 6, .inl (Af 6))), ((Aa 7), .inl (tc 0, 6, .inl (Af 7))), ((Aa 8), .inl (tc 0, 6, .inl (Af 8))), ((Ta 0), .inr (10, [.ref (Ta 1), .int (Tv 0), .int sv_25, .int sv_26, .int sv_27, .int sv_28])), ((Ta 1), .inl (tc 0, 400, .inl (Tf 1)))] := hD
  refine pf_X0_80 hx hb hts hown hK hP hD hS 1 rfl (Nat.le_of_ble_eq_true rfl) rfl rfl dX0_readBook_39 (fun H locs hP hD hS => ?_)
  have hP : va_P D classes [((Wa 0), .inr (0, [.ref (Aa 0)])), ((Aa 0), .inr (9, [.int r_9, .int r_19, .int r_29, .int (Av 3), .int (Av 4), .int (Av 5), .ref (Aa 1), .ref (Aa 2), .ref (Aa 3), .ref (Aa 4), .ref (Aa 5), .ref (Aa 6), .ref (Aa 7), .ref (Aa 8)])), ((Aa 1), .inl (tc 0, 10, .inl (Af 1))), ((Aa 2), .inl (tc 0, 10, .inl (Af 2))), ((Aa 3), .inl (tc 0, 6, .inl (Af 3))), ((Aa 4), .inl (tc 0, 6, .inl (Af 4))), ((Aa 5), .inl (tc 0, 6, .inl (Af 5))), ((Aa 6), .inl (tc 0, 6, .inl (Af 6))), ((Aa 7), .inl (tc 0, 6, .inl (Af 7))), ((Aa 8), .inl (tc 0, 6, .inl (Af 8))), ((Ta 0), .inr (10, [.ref (Ta 1), .int (Tv 0), .int sv_25, .int sv_26, .int sv_27, .int sv_28])), ((Ta 1), .inl (tc 0, 400, .inl (Tf 1)))] H := hP
  have hD : va_D A [((Wa 0), .inr (0, [.ref (Aa 0)])), ((Aa 0), .inr (9, [.int r_9, .int r_19, .int r_29, .int (Av 3), .int (Av 4), .int (Av 5), .ref (Aa 1), .ref (Aa 2), .ref (Aa 3), .ref (Aa 4), .ref (Aa 5), .ref (Aa 6), .ref (Aa 7), .ref (Aa 8)])), ((Aa 1), .inl (tc 0, 10, .inl (Af 1))), ((Aa 2), .inl (tc 0, 10, .inl (Af 2))), ((Aa 3), .inl (tc 0, 6, .inl (Af 3))), ((Aa 4), .inl (tc 0, 6, .inl (Af 4))), ((Aa 5), .inl (tc 0, 6, .inl (Af 5))), ((Aa 6), .inl (tc 0, 6, .inl (Af 6))), ((Aa 7), .inl (tc 0, 6, .inl (Af 7))), ((Aa 8), .inl (tc 0, 6, .inl (Af 8))), ((Ta 0), .inr (10, [.ref (Ta 1), .int (Tv 0), .int sv_25, .int sv_26, .int sv_27, .int sv_28])), ((Ta 1), .inl (tc 0, 400, .inl (Tf 1)))] := hD
  have hq_31 : 0 ≤ ((Tv 0) : Int32).toInt ∧ ((Tv 0) : Int32).toInt ≤ 400 ∧ 0 ≤ (sv_25 : Int32).toInt ∧ (sv_25 : Int32).toInt ≤ 400 ∧ 0 ≤ (sv_26 : Int32).toInt ∧ (sv_26 : Int32).toInt ≤ 400 := by
    first | assumption | omega
  have hq_32 : 0 ≤ ((Av 3) : Int32).toInt ∧ ((Av 3) : Int32).toInt ≤ 6 := by
    first | assumption | omega
  exact retV hx hb hr hlk hP hD hS (r_9, r_19, r_29, sv_25, sv_26, sv_27, sv_28) ⟨rfl, hq_31, hq_32⟩ [0, 1, 2, 3, 4, 5, 6, 7, 8, 9, 10, 11] rfl rfl dX0_readBook_42 (Nat.le_of_ble_eq_true rfl) (Nat.le_of_ble_eq_true rfl) rfl
set_option maxRecDepth 100000 in
theorem cu_X0_readBook (l : Launch) (D : va_G) (tc : Nat → ClassId) (sk : (Nat → Nat) × (Nat → Nat)) (Wa_0 : Nat) (Aa_0 : Nat) (Aa_1 : Nat) (Aa_2 : Nat) (Aa_3 : Nat) (Aa_4 : Nat) (Aa_5 : Nat) (Aa_6 : Nat) (Aa_7 : Nat) (Aa_8 : Nat) (Av_0 : Int32) (Av_1 : Int32) (Av_2 : Int32) (Av_3 : Int32) (Av_4 : Int32) (Av_5 : Int32) (Af_1 : Nat → Int32) (Af_2 : Nat → Int32) (Af_3 : Nat → Int32) (Af_4 : Nat → Int32) (Af_5 : Nat → Int32) (Af_6 : Nat → Int32) (Af_7 : Nat → Int32) (Af_8 : Nat → Int32) (Ta_0 : Nat) (Ta_1 : Nat) (Tv_0 : Int32) (Tv_1 : Int32) (Tv_2 : Int32) (Tv_3 : Int32) (Tv_4 : Int32) (Tf_1 : Nat → Int32) (h_tape : 0 ≤ (Tv_0 : Int32).toInt ∧ (Tv_0 : Int32).toInt ≤ 400 ∧ 0 ≤ (Tv_1 : Int32).toInt ∧ (Tv_1 : Int32).toInt ≤ 400 ∧ 0 ≤ (Tv_2 : Int32).toInt ∧ (Tv_2 : Int32).toInt ≤ 400) (h_buy : 0 ≤ (Av_3 : Int32).toInt ∧ (Av_3 : Int32).toInt ≤ 6) : Ct l yX0_readBook cX0_readBook 2 none { frames := 3, cells := 0, slots := 0, locals := 68 } D tc sk [.ref Wa_0, .ref Ta_0] [(Wa_0, .inr (0, [.ref Aa_0])), (Aa_0, .inr (9, [.int Av_0, .int Av_1, .int Av_2, .int Av_3, .int Av_4, .int Av_5, .ref Aa_1, .ref Aa_2, .ref Aa_3, .ref Aa_4, .ref Aa_5, .ref Aa_6, .ref Aa_7, .ref Aa_8])), (Aa_1, .inl (tc 0, 10, .inl Af_1)), (Aa_2, .inl (tc 0, 10, .inl Af_2)), (Aa_3, .inl (tc 0, 6, .inl Af_3)), (Aa_4, .inl (tc 0, 6, .inl Af_4)), (Aa_5, .inl (tc 0, 6, .inl Af_5)), (Aa_6, .inl (tc 0, 6, .inl Af_6)), (Aa_7, .inl (tc 0, 6, .inl Af_7)), (Aa_8, .inl (tc 0, 6, .inl Af_8)), (Ta_0, .inr (10, [.ref Ta_1, .int Tv_0, .int Tv_1, .int Tv_2, .int Tv_3, .int Tv_4])), (Ta_1, .inl (tc 0, 400, .inl Tf_1))] (fun (v : Option Value) (u : (Int32) × (Int32) × (Int32) × (Int32) × (Int32) × (Int32) × (Int32)) => match u with | (o1, o2, o3, o4, o5, o6, o7) => v = none ∧ (0 ≤ (Tv_0 : Int32).toInt ∧ (Tv_0 : Int32).toInt ≤ 400 ∧ 0 ≤ (o4 : Int32).toInt ∧ (o4 : Int32).toInt ≤ 400 ∧ 0 ≤ (o5 : Int32).toInt ∧ (o5 : Int32).toInt ≤ 400) ∧ (0 ≤ (Av_3 : Int32).toInt ∧ (Av_3 : Int32).toInt ≤ 6)) (fun (u : (Int32) × (Int32) × (Int32) × (Int32) × (Int32) × (Int32) × (Int32)) => match u with | (o1, o2, o3, o4, o5, o6, o7) => [(Wa_0, .inr (0, [.ref Aa_0])), (Aa_0, .inr (9, [.int o1, .int o2, .int o3, .int Av_3, .int Av_4, .int Av_5, .ref Aa_1, .ref Aa_2, .ref Aa_3, .ref Aa_4, .ref Aa_5, .ref Aa_6, .ref Aa_7, .ref Aa_8])), (Aa_1, .inl (tc 0, 10, .inl Af_1)), (Aa_2, .inl (tc 0, 10, .inl Af_2)), (Aa_3, .inl (tc 0, 6, .inl Af_3)), (Aa_4, .inl (tc 0, 6, .inl Af_4)), (Aa_5, .inl (tc 0, 6, .inl Af_5)), (Aa_6, .inl (tc 0, 6, .inl Af_6)), (Aa_7, .inl (tc 0, 6, .inl Af_7)), (Aa_8, .inl (tc 0, 6, .inl Af_8)), (Ta_0, .inr (10, [.ref Ta_1, .int Tv_0, .int o4, .int o5, .int o6, .int o7])), (Ta_1, .inl (tc 0, 400, .inl Tf_1))]) 0 0 :=
  ct_X0_readBook l D tc sk (fun k => ([Wa_0] : List (Nat)).getD k 0) (fun k => ([Aa_0, Aa_1, Aa_2, Aa_3, Aa_4, Aa_5, Aa_6, Aa_7, Aa_8] : List (Nat)).getD k 0) (fun k => ([Av_0, Av_1, Av_2, Av_3, Av_4, Av_5] : List (Int32)).getD k 0) (fun k => ([(fun _ => 0), Af_1, Af_2, Af_3, Af_4, Af_5, Af_6, Af_7, Af_8] : List (Nat → Int32)).getD k (fun _ => 0)) (fun k => ([Ta_0, Ta_1] : List (Nat)).getD k 0) (fun k => ([Tv_0, Tv_1, Tv_2, Tv_3, Tv_4] : List (Int32)).getD k 0) (fun k => ([(fun _ => 0), Tf_1] : List (Nat → Int32)).getD k (fun _ => 0)) h_tape h_buy
set_option maxHeartbeats 4000000 in
set_option maxRecDepth 100000 in
theorem ct_X0_readSky (l : Launch) (D : va_G) (tc : Nat → ClassId) (sk : (Nat → Nat) × (Nat → Nat)) (Wa : Nat → Nat) (Aa : Nat → Nat) (Av : Nat → Int32) (Af : Nat → Nat → Int32) (Ta : Nat → Nat) (Tv : Nat → Int32) (Tf : Nat → Nat → Int32) (h_tape : 0 ≤ ((Tv 0) : Int32).toInt ∧ ((Tv 0) : Int32).toInt ≤ 400 ∧ 0 ≤ ((Tv 1) : Int32).toInt ∧ ((Tv 1) : Int32).toInt ≤ 400 ∧ 0 ≤ ((Tv 2) : Int32).toInt ∧ ((Tv 2) : Int32).toInt ≤ 400) (h_buy : 0 ≤ ((Av 3) : Int32).toInt ∧ ((Av 3) : Int32).toInt ≤ 6) : Ct l yX0_readSky cX0_readSky 4 none { frames := 3, cells := 0, slots := 0, locals := 68 } D tc sk [.ref (Wa 0), .ref (Ta 0)] [((Wa 0), .inr (0, [.ref (Aa 0)])), ((Aa 0), .inr (9, [.int (Av 0), .int (Av 1), .int (Av 2), .int (Av 3), .int (Av 4), .int (Av 5), .ref (Aa 1), .ref (Aa 2), .ref (Aa 3), .ref (Aa 4), .ref (Aa 5), .ref (Aa 6), .ref (Aa 7), .ref (Aa 8)])), ((Aa 1), .inl (tc 0, 10, .inl (Af 1))), ((Aa 2), .inl (tc 0, 10, .inl (Af 2))), ((Aa 3), .inl (tc 0, 6, .inl (Af 3))), ((Aa 4), .inl (tc 0, 6, .inl (Af 4))), ((Aa 5), .inl (tc 0, 6, .inl (Af 5))), ((Aa 6), .inl (tc 0, 6, .inl (Af 6))), ((Aa 7), .inl (tc 0, 6, .inl (Af 7))), ((Aa 8), .inl (tc 0, 6, .inl (Af 8))), ((Ta 0), .inr (10, [.ref (Ta 1), .int (Tv 0), .int (Tv 1), .int (Tv 2), .int (Tv 3), .int (Tv 4)])), ((Ta 1), .inl (tc 0, 400, .inl (Tf 1)))] (fun (v : Option Value) (u : (Nat → Int32) × (Int32) × (Int32) × (Int32) × (Int32)) => match u with | (o1, o2, o3, o4, o5) => v = none ∧ (0 ≤ ((Tv 0) : Int32).toInt ∧ ((Tv 0) : Int32).toInt ≤ 400 ∧ 0 ≤ (o2 : Int32).toInt ∧ (o2 : Int32).toInt ≤ 400 ∧ 0 ≤ (o3 : Int32).toInt ∧ (o3 : Int32).toInt ≤ 400) ∧ (0 ≤ ((Av 3) : Int32).toInt ∧ ((Av 3) : Int32).toInt ≤ 6)) (fun (u : (Nat → Int32) × (Int32) × (Int32) × (Int32) × (Int32)) => match u with | (o1, o2, o3, o4, o5) => [((Wa 0), .inr (0, [.ref (Aa 0)])), ((Aa 0), .inr (9, [.int (Av 0), .int (Av 1), .int (Av 2), .int (Av 3), .int (Av 4), .int (Av 5), .ref (Aa 1), .ref (Aa 2), .ref (Aa 3), .ref (Aa 4), .ref (Aa 5), .ref (Aa 6), .ref (Aa 7), .ref (Aa 8)])), ((Aa 1), .inl (tc 0, 10, .inl o1)), ((Aa 2), .inl (tc 0, 10, .inl (Af 2))), ((Aa 3), .inl (tc 0, 6, .inl (Af 3))), ((Aa 4), .inl (tc 0, 6, .inl (Af 4))), ((Aa 5), .inl (tc 0, 6, .inl (Af 5))), ((Aa 6), .inl (tc 0, 6, .inl (Af 6))), ((Aa 7), .inl (tc 0, 6, .inl (Af 7))), ((Aa 8), .inl (tc 0, 6, .inl (Af 8))), ((Ta 0), .inr (10, [.ref (Ta 1), .int (Tv 0), .int o2, .int o3, .int o4, .int o5])), ((Ta 1), .inl (tc 0, 400, .inl (Tf 1)))]) 0 0 := by
  refine Ct.start (by decide) (Nat.le_of_ble_eq_true rfl) (fun p e s m below meth c A ls hx hb hr hlk hin hml hown hts hK hX hP hD hA hl hS => ?_)
  have hl : lv_has ls 4 [(0, .ref (Wa 0)), (1, .ref (Ta 0))] := hl
  refine lv_aload_n hx hb dX0_readSky_0 rfl (lv_at hl 1 rfl) ?_
  refine lv_iconst (v := 0) hx hb dX0_readSky_1 (by decide) ?_
  refine lv_aload_n hx hb dX0_readSky_2 rfl (lv_at hl 0 rfl) ?_
  refine gf_X0_12 hx hb hts hown hK hP 0 rfl rfl dX0_readSky_3 ?_
  refine gf_X0_80 hx hb hts hown hK hP 1 rfl rfl dX0_readSky_6 ?_
  refine lv_iconst (v := 1) hx hb dX0_readSky_9 (by decide) ?_
  refine lv_isub hx hb dX0_readSky_10 ?_
  refine lv_topi (fun x_1 ex_1 => ?_)
  have hh_2 : 0 ≤ ((Tv 0) : Int32).toInt ∧ ((Tv 0) : Int32).toInt ≤ 400 ∧ 0 ≤ ((Tv 1) : Int32).toInt ∧ ((Tv 1) : Int32).toInt ≤ 400 ∧ 0 ≤ ((Tv 2) : Int32).toInt ∧ ((Tv 2) : Int32).toInt ≤ 400 := by
    first | assumption | omega
  refine cV (a := (Ta 0)) (As := [.int 0, .int x_1]) (rest := []) (wr := [((Wa 0), .inr (0, [.ref (Aa 0)])), ((Aa 0), .inr (9, [.int (Av 0), .int (Av 1), .int (Av 2), .int (Av 3), .int (Av 4), .int (Av 5), .ref (Aa 1), .ref (Aa 2), .ref (Aa 3), .ref (Aa 4), .ref (Aa 5), .ref (Aa 6), .ref (Aa 7), .ref (Aa 8)])), ((Aa 1), .inl (tc 0, 10, .inl (Af 1))), ((Aa 2), .inl (tc 0, 10, .inl (Af 2))), ((Aa 3), .inl (tc 0, 6, .inl (Af 3))), ((Aa 4), .inl (tc 0, 6, .inl (Af 4))), ((Aa 5), .inl (tc 0, 6, .inl (Af 5))), ((Aa 6), .inl (tc 0, 6, .inl (Af 6))), ((Aa 7), .inl (tc 0, 6, .inl (Af 7))), ((Aa 8), .inl (tc 0, 6, .inl (Af 8)))]) ⟨hx, hb, hml, hown, hts⟩ hK hX hA (cu_X10_takeNumber l D tc sk (Ta 0) (Ta 1) (Tv 0) (Tv 1) (Tv 2) (Tv 3) (Tv 4) (Tf 1) 0 x_1 hh_2) k_566 k_563 k_564 k_565 k_96 pl_X10_takeNumber ⟨Nat.le_of_ble_eq_true rfl, Nat.le_of_ble_eq_true rfl⟩ rfl rfl (va_recv hK hP (ci := 10) (q0 := 10) rfl rfl) hP hD hS [10, 11] [0, 1, 2, 3, 4, 5, 6, 7, 8, 9] rfl rfl rfl rfl rfl (by decide) rfl hl.1 rfl (Nat.le_of_ble_eq_true rfl) dX0_readSky_11 ⟨Nat.le_of_ble_eq_true rfl, Nat.le_of_ble_eq_true rfl⟩ (fun v_3 u_4 H locs hv_5 hP hD hS => ?_)
  obtain ⟨sv_6, sv_7, sv_8, sv_9⟩ := u_4
  obtain ⟨r_10, rfl, he_11⟩ := hv_5
  have he_11 : (True) ∧ (0 ≤ ((Tv 0) : Int32).toInt ∧ ((Tv 0) : Int32).toInt ≤ 400 ∧ 0 ≤ (sv_6 : Int32).toInt ∧ (sv_6 : Int32).toInt ≤ 400 ∧ 0 ≤ (sv_7 : Int32).toInt ∧ (sv_7 : Int32).toInt ≤ 400) := he_11
  have he_11_0 : (0 ≤ ((Tv 0) : Int32).toInt ∧ ((Tv 0) : Int32).toInt ≤ 400 ∧ 0 ≤ (sv_6 : Int32).toInt ∧ (sv_6 : Int32).toInt ≤ 400 ∧ 0 ≤ (sv_7 : Int32).toInt ∧ (sv_7 : Int32).toInt ≤ 400) := he_11.2
  refine W.eq (g2 := F0 m 14 ls [.int r_10]) rfl ?_
  have hP : va_P D classes [((Wa 0), .inr (0, [.ref (Aa 0)])), ((Aa 0), .inr (9, [.int (Av 0), .int (Av 1), .int (Av 2), .int (Av 3), .int (Av 4), .int (Av 5), .ref (Aa 1), .ref (Aa 2), .ref (Aa 3), .ref (Aa 4), .ref (Aa 5), .ref (Aa 6), .ref (Aa 7), .ref (Aa 8)])), ((Aa 1), .inl (tc 0, 10, .inl (Af 1))), ((Aa 2), .inl (tc 0, 10, .inl (Af 2))), ((Aa 3), .inl (tc 0, 6, .inl (Af 3))), ((Aa 4), .inl (tc 0, 6, .inl (Af 4))), ((Aa 5), .inl (tc 0, 6, .inl (Af 5))), ((Aa 6), .inl (tc 0, 6, .inl (Af 6))), ((Aa 7), .inl (tc 0, 6, .inl (Af 7))), ((Aa 8), .inl (tc 0, 6, .inl (Af 8))), ((Ta 0), .inr (10, [.ref (Ta 1), .int (Tv 0), .int sv_6, .int sv_7, .int sv_8, .int sv_9])), ((Ta 1), .inl (tc 0, 400, .inl (Tf 1)))] H := hP
  have hD : va_D A [((Wa 0), .inr (0, [.ref (Aa 0)])), ((Aa 0), .inr (9, [.int (Av 0), .int (Av 1), .int (Av 2), .int (Av 3), .int (Av 4), .int (Av 5), .ref (Aa 1), .ref (Aa 2), .ref (Aa 3), .ref (Aa 4), .ref (Aa 5), .ref (Aa 6), .ref (Aa 7), .ref (Aa 8)])), ((Aa 1), .inl (tc 0, 10, .inl (Af 1))), ((Aa 2), .inl (tc 0, 10, .inl (Af 2))), ((Aa 3), .inl (tc 0, 6, .inl (Af 3))), ((Aa 4), .inl (tc 0, 6, .inl (Af 4))), ((Aa 5), .inl (tc 0, 6, .inl (Af 5))), ((Aa 6), .inl (tc 0, 6, .inl (Af 6))), ((Aa 7), .inl (tc 0, 6, .inl (Af 7))), ((Aa 8), .inl (tc 0, 6, .inl (Af 8))), ((Ta 0), .inr (10, [.ref (Ta 1), .int (Tv 0), .int sv_6, .int sv_7, .int sv_8, .int sv_9])), ((Ta 1), .inl (tc 0, 400, .inl (Tf 1)))] := hD
  refine lv_istore_n (lv' := [(2, .int r_10), (0, .ref (Wa 0)), (1, .ref (Ta 0))]) hx hb dX0_readSky_14 rfl hl (by decide) rfl (fun ls hl => ?_)
  refine lv_aload_n hx hb dX0_readSky_15 rfl (lv_at hl 2 rfl) ?_
  refine lv_iconst (v := 0) hx hb dX0_readSky_16 (by decide) ?_
  refine lv_bipush (v := 9) hx hb dX0_readSky_17 (by decide) ?_
  have hh_12 : 0 ≤ ((Tv 0) : Int32).toInt ∧ ((Tv 0) : Int32).toInt ≤ 400 ∧ 0 ≤ (sv_6 : Int32).toInt ∧ (sv_6 : Int32).toInt ≤ 400 ∧ 0 ≤ (sv_7 : Int32).toInt ∧ (sv_7 : Int32).toInt ≤ 400 := by
    first | assumption | omega
  refine cV (a := (Ta 0)) (As := [.int 0, .int 9]) (rest := []) (wr := [((Wa 0), .inr (0, [.ref (Aa 0)])), ((Aa 0), .inr (9, [.int (Av 0), .int (Av 1), .int (Av 2), .int (Av 3), .int (Av 4), .int (Av 5), .ref (Aa 1), .ref (Aa 2), .ref (Aa 3), .ref (Aa 4), .ref (Aa 5), .ref (Aa 6), .ref (Aa 7), .ref (Aa 8)])), ((Aa 1), .inl (tc 0, 10, .inl (Af 1))), ((Aa 2), .inl (tc 0, 10, .inl (Af 2))), ((Aa 3), .inl (tc 0, 6, .inl (Af 3))), ((Aa 4), .inl (tc 0, 6, .inl (Af 4))), ((Aa 5), .inl (tc 0, 6, .inl (Af 5))), ((Aa 6), .inl (tc 0, 6, .inl (Af 6))), ((Aa 7), .inl (tc 0, 6, .inl (Af 7))), ((Aa 8), .inl (tc 0, 6, .inl (Af 8)))]) ⟨hx, hb, hml, hown, hts⟩ hK hX hA (cu_X10_takeNumber l D tc sk (Ta 0) (Ta 1) (Tv 0) sv_6 sv_7 sv_8 sv_9 (Tf 1) 0 9 hh_12) k_566 k_563 k_564 k_565 k_96 pl_X10_takeNumber ⟨Nat.le_of_ble_eq_true rfl, Nat.le_of_ble_eq_true rfl⟩ rfl rfl (va_recv hK hP (ci := 10) (q0 := 10) rfl rfl) hP hD hS [10, 11] [0, 1, 2, 3, 4, 5, 6, 7, 8, 9] rfl rfl rfl rfl rfl (by decide) rfl hl.1 rfl (Nat.le_of_ble_eq_true rfl) dX0_readSky_19 ⟨Nat.le_of_ble_eq_true rfl, Nat.le_of_ble_eq_true rfl⟩ (fun v_13 u_14 H locs hv_15 hP hD hS => ?_)
  obtain ⟨sv_16, sv_17, sv_18, sv_19⟩ := u_14
  obtain ⟨r_20, rfl, he_21⟩ := hv_15
  have he_21 : (True) ∧ (0 ≤ ((Tv 0) : Int32).toInt ∧ ((Tv 0) : Int32).toInt ≤ 400 ∧ 0 ≤ (sv_16 : Int32).toInt ∧ (sv_16 : Int32).toInt ≤ 400 ∧ 0 ≤ (sv_17 : Int32).toInt ∧ (sv_17 : Int32).toInt ≤ 400) := he_21
  have he_21_0 : (0 ≤ ((Tv 0) : Int32).toInt ∧ ((Tv 0) : Int32).toInt ≤ 400 ∧ 0 ≤ (sv_16 : Int32).toInt ∧ (sv_16 : Int32).toInt ≤ 400 ∧ 0 ≤ (sv_17 : Int32).toInt ∧ (sv_17 : Int32).toInt ≤ 400) := he_21.2
  refine W.eq (g2 := F0 m 22 ls [.int r_20]) rfl ?_
  have hP : va_P D classes [((Wa 0), .inr (0, [.ref (Aa 0)])), ((Aa 0), .inr (9, [.int (Av 0), .int (Av 1), .int (Av 2), .int (Av 3), .int (Av 4), .int (Av 5), .ref (Aa 1), .ref (Aa 2), .ref (Aa 3), .ref (Aa 4), .ref (Aa 5), .ref (Aa 6), .ref (Aa 7), .ref (Aa 8)])), ((Aa 1), .inl (tc 0, 10, .inl (Af 1))), ((Aa 2), .inl (tc 0, 10, .inl (Af 2))), ((Aa 3), .inl (tc 0, 6, .inl (Af 3))), ((Aa 4), .inl (tc 0, 6, .inl (Af 4))), ((Aa 5), .inl (tc 0, 6, .inl (Af 5))), ((Aa 6), .inl (tc 0, 6, .inl (Af 6))), ((Aa 7), .inl (tc 0, 6, .inl (Af 7))), ((Aa 8), .inl (tc 0, 6, .inl (Af 8))), ((Ta 0), .inr (10, [.ref (Ta 1), .int (Tv 0), .int sv_16, .int sv_17, .int sv_18, .int sv_19])), ((Ta 1), .inl (tc 0, 400, .inl (Tf 1)))] H := hP
  have hD : va_D A [((Wa 0), .inr (0, [.ref (Aa 0)])), ((Aa 0), .inr (9, [.int (Av 0), .int (Av 1), .int (Av 2), .int (Av 3), .int (Av 4), .int (Av 5), .ref (Aa 1), .ref (Aa 2), .ref (Aa 3), .ref (Aa 4), .ref (Aa 5), .ref (Aa 6), .ref (Aa 7), .ref (Aa 8)])), ((Aa 1), .inl (tc 0, 10, .inl (Af 1))), ((Aa 2), .inl (tc 0, 10, .inl (Af 2))), ((Aa 3), .inl (tc 0, 6, .inl (Af 3))), ((Aa 4), .inl (tc 0, 6, .inl (Af 4))), ((Aa 5), .inl (tc 0, 6, .inl (Af 5))), ((Aa 6), .inl (tc 0, 6, .inl (Af 6))), ((Aa 7), .inl (tc 0, 6, .inl (Af 7))), ((Aa 8), .inl (tc 0, 6, .inl (Af 8))), ((Ta 0), .inr (10, [.ref (Ta 1), .int (Tv 0), .int sv_16, .int sv_17, .int sv_18, .int sv_19])), ((Ta 1), .inl (tc 0, 400, .inl (Tf 1)))] := hD
  refine lv_istore_n (lv' := [(3, .int r_20), (2, .int r_10), (0, .ref (Wa 0)), (1, .ref (Ta 0))]) hx hb dX0_readSky_22 rfl hl (by decide) rfl (fun ls hl => ?_)
  refine lv_aload_n hx hb dX0_readSky_23 rfl (lv_at hl 2 rfl) ?_
  refine gf_X0_12 hx hb hts hown hK hP 0 rfl rfl dX0_readSky_24 ?_
  refine lv_iload_n hx hb dX0_readSky_27 rfl (lv_at hl 1 rfl) ?_
  refine cV (a := (Aa 0)) (As := [.int r_10]) (rest := []) (wr := [((Wa 0), .inr (0, [.ref (Aa 0)])), ((Ta 0), .inr (10, [.ref (Ta 1), .int (Tv 0), .int sv_16, .int sv_17, .int sv_18, .int sv_19])), ((Ta 1), .inl (tc 0, 400, .inl (Tf 1)))]) ⟨hx, hb, hml, hown, hts⟩ hK hX hA (cu_X9_hasClock l D tc sk (Aa 0) (Aa 1) (Aa 2) (Aa 3) (Aa 4) (Aa 5) (Aa 6) (Aa 7) (Aa 8) (Av 0) (Av 1) (Av 2) (Av 3) (Av 4) (Av 5) (Af 1) (Af 2) (Af 3) (Af 4) (Af 5) (Af 6) (Af 7) (Af 8) r_10) k_579 k_576 k_577 k_578 k_98 pl_X9_hasClock ⟨Nat.le_of_ble_eq_true rfl, Nat.le_of_ble_eq_true rfl⟩ rfl rfl (va_recv hK hP (ci := 9) (q0 := 1) rfl rfl) hP hD hS [1, 2, 3, 4, 5, 6, 7, 8, 9] [0, 10, 11] rfl rfl rfl rfl rfl (by decide) rfl hl.1 rfl (Nat.le_of_ble_eq_true rfl) dX0_readSky_28 ⟨Nat.le_of_ble_eq_true rfl, Nat.le_of_ble_eq_true rfl⟩ (fun v_22 u_23 H locs hv_24 hP hD hS => ?_)
  obtain ⟨r_25, rfl, he_26⟩ := hv_24
  have he_26 : ((r_25.toInt = 0 ∨ (r_25.toInt = 1 ∧ 0 ≤ r_10.toInt ∧ r_10.toInt < 10))) := he_26
  refine W.eq (g2 := F0 m 31 ls [.int r_25]) rfl ?_
  have hP : va_P D classes [((Wa 0), .inr (0, [.ref (Aa 0)])), ((Ta 0), .inr (10, [.ref (Ta 1), .int (Tv 0), .int sv_16, .int sv_17, .int sv_18, .int sv_19])), ((Ta 1), .inl (tc 0, 400, .inl (Tf 1))), ((Aa 0), .inr (9, [.int (Av 0), .int (Av 1), .int (Av 2), .int (Av 3), .int (Av 4), .int (Av 5), .ref (Aa 1), .ref (Aa 2), .ref (Aa 3), .ref (Aa 4), .ref (Aa 5), .ref (Aa 6), .ref (Aa 7), .ref (Aa 8)])), ((Aa 1), .inl (tc 0, 10, .inl (Af 1))), ((Aa 2), .inl (tc 0, 10, .inl (Af 2))), ((Aa 3), .inl (tc 0, 6, .inl (Af 3))), ((Aa 4), .inl (tc 0, 6, .inl (Af 4))), ((Aa 5), .inl (tc 0, 6, .inl (Af 5))), ((Aa 6), .inl (tc 0, 6, .inl (Af 6))), ((Aa 7), .inl (tc 0, 6, .inl (Af 7))), ((Aa 8), .inl (tc 0, 6, .inl (Af 8)))] H := hP
  have hD : va_D A [((Wa 0), .inr (0, [.ref (Aa 0)])), ((Ta 0), .inr (10, [.ref (Ta 1), .int (Tv 0), .int sv_16, .int sv_17, .int sv_18, .int sv_19])), ((Ta 1), .inl (tc 0, 400, .inl (Tf 1))), ((Aa 0), .inr (9, [.int (Av 0), .int (Av 1), .int (Av 2), .int (Av 3), .int (Av 4), .int (Av 5), .ref (Aa 1), .ref (Aa 2), .ref (Aa 3), .ref (Aa 4), .ref (Aa 5), .ref (Aa 6), .ref (Aa 7), .ref (Aa 8)])), ((Aa 1), .inl (tc 0, 10, .inl (Af 1))), ((Aa 2), .inl (tc 0, 10, .inl (Af 2))), ((Aa 3), .inl (tc 0, 6, .inl (Af 3))), ((Aa 4), .inl (tc 0, 6, .inl (Af 4))), ((Aa 5), .inl (tc 0, 6, .inl (Af 5))), ((Aa 6), .inl (tc 0, 6, .inl (Af 6))), ((Aa 7), .inl (tc 0, 6, .inl (Af 7))), ((Aa 8), .inl (tc 0, 6, .inl (Af 8)))] := hD
  refine lv_if_eq (tgt := 44) hx hb dX0_readSky_31 (by decide) (fun c_27 => ?_) (fun c_27 => ?_)
  · skip
    have hq_28 : 0 ≤ ((Tv 0) : Int32).toInt ∧ ((Tv 0) : Int32).toInt ≤ 400 ∧ 0 ≤ (sv_16 : Int32).toInt ∧ (sv_16 : Int32).toInt ≤ 400 ∧ 0 ≤ (sv_17 : Int32).toInt ∧ (sv_17 : Int32).toInt ≤ 400 := by
      have z_1 := congrArg Int32.toInt c_27
      have y_0 : (0 : Int32).toInt = 0 := by decide
      first | assumption | omega
    have hq_29 : 0 ≤ ((Av 3) : Int32).toInt ∧ ((Av 3) : Int32).toInt ≤ 6 := by
      have z_1 := congrArg Int32.toInt c_27
      have y_0 : (0 : Int32).toInt = 0 := by decide
      first | assumption | omega
    exact retV hx hb hr hlk hP hD hS ((Af 1), sv_16, sv_17, sv_18, sv_19) ⟨rfl, hq_28, hq_29⟩ [0, 3, 4, 5, 6, 7, 8, 9, 10, 11, 1, 2] rfl rfl dX0_readSky_44 (Nat.le_of_ble_eq_true rfl) (Nat.le_of_ble_eq_true rfl) rfl
  · skip
    refine lv_aload_n hx hb dX0_readSky_34 rfl (lv_at hl 2 rfl) ?_
    refine gf_X0_12 hx hb hts hown hK hP 0 rfl rfl dX0_readSky_35 ?_
    refine gf_X0_87 hx hb hts hown hK hP 3 rfl rfl dX0_readSky_38 ?_
    refine lv_iload_n hx hb dX0_readSky_41 rfl (lv_at hl 1 rfl) ?_
    refine lv_iload_n hx hb dX0_readSky_42 rfl (lv_at hl 0 rfl) ?_
    have hi_30 : vp_in r_10 10 := by
      have z_1 : ¬ (r_25 : Int32).toInt = (0 : Int32).toInt := fun z => c_27 (Int32.toInt_inj.mp z)
      have y_0 : (0 : Int32).toInt = 0 := by decide
      refine vp_in_iff.mpr ⟨?_, ?_⟩ <;> omega
    refine st_int hx hb hK hP hD hS 4 0 rfl rfl hi_30 dX0_readSky_43 (fun g_31 H locs eg_31 hP hD hS => ?_)
    have hP : va_P D classes [((Wa 0), .inr (0, [.ref (Aa 0)])), ((Ta 0), .inr (10, [.ref (Ta 1), .int (Tv 0), .int sv_16, .int sv_17, .int sv_18, .int sv_19])), ((Ta 1), .inl (tc 0, 400, .inl (Tf 1))), ((Aa 0), .inr (9, [.int (Av 0), .int (Av 1), .int (Av 2), .int (Av 3), .int (Av 4), .int (Av 5), .ref (Aa 1), .ref (Aa 2), .ref (Aa 3), .ref (Aa 4), .ref (Aa 5), .ref (Aa 6), .ref (Aa 7), .ref (Aa 8)])), ((Aa 1), .inl (tc 0, 10, .inl g_31)), ((Aa 2), .inl (tc 0, 10, .inl (Af 2))), ((Aa 3), .inl (tc 0, 6, .inl (Af 3))), ((Aa 4), .inl (tc 0, 6, .inl (Af 4))), ((Aa 5), .inl (tc 0, 6, .inl (Af 5))), ((Aa 6), .inl (tc 0, 6, .inl (Af 6))), ((Aa 7), .inl (tc 0, 6, .inl (Af 7))), ((Aa 8), .inl (tc 0, 6, .inl (Af 8)))] H := hP
    have hD : va_D A [((Wa 0), .inr (0, [.ref (Aa 0)])), ((Ta 0), .inr (10, [.ref (Ta 1), .int (Tv 0), .int sv_16, .int sv_17, .int sv_18, .int sv_19])), ((Ta 1), .inl (tc 0, 400, .inl (Tf 1))), ((Aa 0), .inr (9, [.int (Av 0), .int (Av 1), .int (Av 2), .int (Av 3), .int (Av 4), .int (Av 5), .ref (Aa 1), .ref (Aa 2), .ref (Aa 3), .ref (Aa 4), .ref (Aa 5), .ref (Aa 6), .ref (Aa 7), .ref (Aa 8)])), ((Aa 1), .inl (tc 0, 10, .inl g_31)), ((Aa 2), .inl (tc 0, 10, .inl (Af 2))), ((Aa 3), .inl (tc 0, 6, .inl (Af 3))), ((Aa 4), .inl (tc 0, 6, .inl (Af 4))), ((Aa 5), .inl (tc 0, 6, .inl (Af 5))), ((Aa 6), .inl (tc 0, 6, .inl (Af 6))), ((Aa 7), .inl (tc 0, 6, .inl (Af 7))), ((Aa 8), .inl (tc 0, 6, .inl (Af 8)))] := hD
    have hq_32 : 0 ≤ ((Tv 0) : Int32).toInt ∧ ((Tv 0) : Int32).toInt ≤ 400 ∧ 0 ≤ (sv_16 : Int32).toInt ∧ (sv_16 : Int32).toInt ≤ 400 ∧ 0 ≤ (sv_17 : Int32).toInt ∧ (sv_17 : Int32).toInt ≤ 400 := by
      have z_1 : ¬ (r_25 : Int32).toInt = (0 : Int32).toInt := fun z => c_27 (Int32.toInt_inj.mp z)
      have y_0 : (0 : Int32).toInt = 0 := by decide
      first | assumption | omega
    have hq_33 : 0 ≤ ((Av 3) : Int32).toInt ∧ ((Av 3) : Int32).toInt ≤ 6 := by
      have z_1 : ¬ (r_25 : Int32).toInt = (0 : Int32).toInt := fun z => c_27 (Int32.toInt_inj.mp z)
      have y_0 : (0 : Int32).toInt = 0 := by decide
      first | assumption | omega
    exact retV hx hb hr hlk hP hD hS (g_31, sv_16, sv_17, sv_18, sv_19) ⟨rfl, hq_32, hq_33⟩ [0, 3, 4, 5, 6, 7, 8, 9, 10, 11, 1, 2] rfl rfl dX0_readSky_44 (Nat.le_of_ble_eq_true rfl) (Nat.le_of_ble_eq_true rfl) rfl
set_option maxRecDepth 100000 in
theorem cu_X0_readSky (l : Launch) (D : va_G) (tc : Nat → ClassId) (sk : (Nat → Nat) × (Nat → Nat)) (Wa_0 : Nat) (Aa_0 : Nat) (Aa_1 : Nat) (Aa_2 : Nat) (Aa_3 : Nat) (Aa_4 : Nat) (Aa_5 : Nat) (Aa_6 : Nat) (Aa_7 : Nat) (Aa_8 : Nat) (Av_0 : Int32) (Av_1 : Int32) (Av_2 : Int32) (Av_3 : Int32) (Av_4 : Int32) (Av_5 : Int32) (Af_1 : Nat → Int32) (Af_2 : Nat → Int32) (Af_3 : Nat → Int32) (Af_4 : Nat → Int32) (Af_5 : Nat → Int32) (Af_6 : Nat → Int32) (Af_7 : Nat → Int32) (Af_8 : Nat → Int32) (Ta_0 : Nat) (Ta_1 : Nat) (Tv_0 : Int32) (Tv_1 : Int32) (Tv_2 : Int32) (Tv_3 : Int32) (Tv_4 : Int32) (Tf_1 : Nat → Int32) (h_tape : 0 ≤ (Tv_0 : Int32).toInt ∧ (Tv_0 : Int32).toInt ≤ 400 ∧ 0 ≤ (Tv_1 : Int32).toInt ∧ (Tv_1 : Int32).toInt ≤ 400 ∧ 0 ≤ (Tv_2 : Int32).toInt ∧ (Tv_2 : Int32).toInt ≤ 400) (h_buy : 0 ≤ (Av_3 : Int32).toInt ∧ (Av_3 : Int32).toInt ≤ 6) : Ct l yX0_readSky cX0_readSky 4 none { frames := 3, cells := 0, slots := 0, locals := 68 } D tc sk [.ref Wa_0, .ref Ta_0] [(Wa_0, .inr (0, [.ref Aa_0])), (Aa_0, .inr (9, [.int Av_0, .int Av_1, .int Av_2, .int Av_3, .int Av_4, .int Av_5, .ref Aa_1, .ref Aa_2, .ref Aa_3, .ref Aa_4, .ref Aa_5, .ref Aa_6, .ref Aa_7, .ref Aa_8])), (Aa_1, .inl (tc 0, 10, .inl Af_1)), (Aa_2, .inl (tc 0, 10, .inl Af_2)), (Aa_3, .inl (tc 0, 6, .inl Af_3)), (Aa_4, .inl (tc 0, 6, .inl Af_4)), (Aa_5, .inl (tc 0, 6, .inl Af_5)), (Aa_6, .inl (tc 0, 6, .inl Af_6)), (Aa_7, .inl (tc 0, 6, .inl Af_7)), (Aa_8, .inl (tc 0, 6, .inl Af_8)), (Ta_0, .inr (10, [.ref Ta_1, .int Tv_0, .int Tv_1, .int Tv_2, .int Tv_3, .int Tv_4])), (Ta_1, .inl (tc 0, 400, .inl Tf_1))] (fun (v : Option Value) (u : (Nat → Int32) × (Int32) × (Int32) × (Int32) × (Int32)) => match u with | (o1, o2, o3, o4, o5) => v = none ∧ (0 ≤ (Tv_0 : Int32).toInt ∧ (Tv_0 : Int32).toInt ≤ 400 ∧ 0 ≤ (o2 : Int32).toInt ∧ (o2 : Int32).toInt ≤ 400 ∧ 0 ≤ (o3 : Int32).toInt ∧ (o3 : Int32).toInt ≤ 400) ∧ (0 ≤ (Av_3 : Int32).toInt ∧ (Av_3 : Int32).toInt ≤ 6)) (fun (u : (Nat → Int32) × (Int32) × (Int32) × (Int32) × (Int32)) => match u with | (o1, o2, o3, o4, o5) => [(Wa_0, .inr (0, [.ref Aa_0])), (Aa_0, .inr (9, [.int Av_0, .int Av_1, .int Av_2, .int Av_3, .int Av_4, .int Av_5, .ref Aa_1, .ref Aa_2, .ref Aa_3, .ref Aa_4, .ref Aa_5, .ref Aa_6, .ref Aa_7, .ref Aa_8])), (Aa_1, .inl (tc 0, 10, .inl o1)), (Aa_2, .inl (tc 0, 10, .inl Af_2)), (Aa_3, .inl (tc 0, 6, .inl Af_3)), (Aa_4, .inl (tc 0, 6, .inl Af_4)), (Aa_5, .inl (tc 0, 6, .inl Af_5)), (Aa_6, .inl (tc 0, 6, .inl Af_6)), (Aa_7, .inl (tc 0, 6, .inl Af_7)), (Aa_8, .inl (tc 0, 6, .inl Af_8)), (Ta_0, .inr (10, [.ref Ta_1, .int Tv_0, .int o2, .int o3, .int o4, .int o5])), (Ta_1, .inl (tc 0, 400, .inl Tf_1))]) 0 0 :=
  ct_X0_readSky l D tc sk (fun k => ([Wa_0] : List (Nat)).getD k 0) (fun k => ([Aa_0, Aa_1, Aa_2, Aa_3, Aa_4, Aa_5, Aa_6, Aa_7, Aa_8] : List (Nat)).getD k 0) (fun k => ([Av_0, Av_1, Av_2, Av_3, Av_4, Av_5] : List (Int32)).getD k 0) (fun k => ([(fun _ => 0), Af_1, Af_2, Af_3, Af_4, Af_5, Af_6, Af_7, Af_8] : List (Nat → Int32)).getD k (fun _ => 0)) (fun k => ([Ta_0, Ta_1] : List (Nat)).getD k 0) (fun k => ([Tv_0, Tv_1, Tv_2, Tv_3, Tv_4] : List (Int32)).getD k 0) (fun k => ([(fun _ => 0), Tf_1] : List (Nat → Int32)).getD k (fun _ => 0)) h_tape h_buy
set_option maxHeartbeats 4000000 in
set_option maxRecDepth 100000 in
theorem ct_X0_readBuyer (l : Launch) (D : va_G) (tc : Nat → ClassId) (sk : (Nat → Nat) × (Nat → Nat)) (Wa : Nat → Nat) (Aa : Nat → Nat) (Av : Nat → Int32) (Af : Nat → Nat → Int32) (Ta : Nat → Nat) (Tv : Nat → Int32) (Tf : Nat → Nat → Int32) (h_tape : 0 ≤ ((Tv 0) : Int32).toInt ∧ ((Tv 0) : Int32).toInt ≤ 400 ∧ 0 ≤ ((Tv 1) : Int32).toInt ∧ ((Tv 1) : Int32).toInt ≤ 400 ∧ 0 ≤ ((Tv 2) : Int32).toInt ∧ ((Tv 2) : Int32).toInt ≤ 400) (h_buy : 0 ≤ ((Av 3) : Int32).toInt ∧ ((Av 3) : Int32).toInt ≤ 6) : Ct l yX0_readBuyer cX0_readBuyer 3 none { frames := 3, cells := 0, slots := 0, locals := 68 } D tc sk [.ref (Wa 0), .ref (Ta 0)] [((Wa 0), .inr (0, [.ref (Aa 0)])), ((Aa 0), .inr (9, [.int (Av 0), .int (Av 1), .int (Av 2), .int (Av 3), .int (Av 4), .int (Av 5), .ref (Aa 1), .ref (Aa 2), .ref (Aa 3), .ref (Aa 4), .ref (Aa 5), .ref (Aa 6), .ref (Aa 7), .ref (Aa 8)])), ((Aa 1), .inl (tc 0, 10, .inl (Af 1))), ((Aa 2), .inl (tc 0, 10, .inl (Af 2))), ((Aa 3), .inl (tc 0, 6, .inl (Af 3))), ((Aa 4), .inl (tc 0, 6, .inl (Af 4))), ((Aa 5), .inl (tc 0, 6, .inl (Af 5))), ((Aa 6), .inl (tc 0, 6, .inl (Af 6))), ((Aa 7), .inl (tc 0, 6, .inl (Af 7))), ((Aa 8), .inl (tc 0, 6, .inl (Af 8))), ((Ta 0), .inr (10, [.ref (Ta 1), .int (Tv 0), .int (Tv 1), .int (Tv 2), .int (Tv 3), .int (Tv 4)])), ((Ta 1), .inl (tc 0, 400, .inl (Tf 1)))] (fun (v : Option Value) (u : (Int32) × (Nat → Int32) × (Nat → Int32) × (Nat → Int32) × (Int32) × (Int32) × (Int32) × (Int32)) => match u with | (o1, o2, o3, o4, o5, o6, o7, o8) => v = none ∧ (0 ≤ ((Tv 0) : Int32).toInt ∧ ((Tv 0) : Int32).toInt ≤ 400 ∧ 0 ≤ (o5 : Int32).toInt ∧ (o5 : Int32).toInt ≤ 400 ∧ 0 ≤ (o6 : Int32).toInt ∧ (o6 : Int32).toInt ≤ 400) ∧ (0 ≤ (o1 : Int32).toInt ∧ (o1 : Int32).toInt ≤ 6)) (fun (u : (Int32) × (Nat → Int32) × (Nat → Int32) × (Nat → Int32) × (Int32) × (Int32) × (Int32) × (Int32)) => match u with | (o1, o2, o3, o4, o5, o6, o7, o8) => [((Wa 0), .inr (0, [.ref (Aa 0)])), ((Aa 0), .inr (9, [.int (Av 0), .int (Av 1), .int (Av 2), .int o1, .int (Av 4), .int (Av 5), .ref (Aa 1), .ref (Aa 2), .ref (Aa 3), .ref (Aa 4), .ref (Aa 5), .ref (Aa 6), .ref (Aa 7), .ref (Aa 8)])), ((Aa 1), .inl (tc 0, 10, .inl (Af 1))), ((Aa 2), .inl (tc 0, 10, .inl (Af 2))), ((Aa 3), .inl (tc 0, 6, .inl o2)), ((Aa 4), .inl (tc 0, 6, .inl o3)), ((Aa 5), .inl (tc 0, 6, .inl o4)), ((Aa 6), .inl (tc 0, 6, .inl (Af 6))), ((Aa 7), .inl (tc 0, 6, .inl (Af 7))), ((Aa 8), .inl (tc 0, 6, .inl (Af 8))), ((Ta 0), .inr (10, [.ref (Ta 1), .int (Tv 0), .int o5, .int o6, .int o7, .int o8])), ((Ta 1), .inl (tc 0, 400, .inl (Tf 1)))]) 0 0 := by
  refine Ct.start (by decide) (Nat.le_of_ble_eq_true rfl) (fun p e s m below meth c A ls hx hb hr hlk hin hml hown hts hK hX hP hD hA hl hS => ?_)
  have hl : lv_has ls 3 [(0, .ref (Wa 0)), (1, .ref (Ta 0))] := hl
  refine lv_aload_n hx hb dX0_readBuyer_0 rfl (lv_at hl 0 rfl) ?_
  refine gf_X0_12 hx hb hts hown hK hP 0 rfl rfl dX0_readBuyer_1 ?_
  refine gf_X0_51 hx hb hts hown hK hP 1 rfl rfl dX0_readBuyer_4 ?_
  refine lv_istore_n (lv' := [(2, .int (Av 3)), (0, .ref (Wa 0)), (1, .ref (Ta 0))]) hx hb dX0_readBuyer_7 rfl hl (by decide) rfl (fun ls hl => ?_)
  refine lv_iload_n hx hb dX0_readBuyer_8 rfl (lv_at hl 0 rfl) ?_
  refine lv_if_lt (tgt := 18) hx hb dX0_readBuyer_9 (by decide) (fun c_1 => ?_) (fun c_1 => ?_)
  · skip
    have hq_2 : 0 ≤ ((Tv 0) : Int32).toInt ∧ ((Tv 0) : Int32).toInt ≤ 400 ∧ 0 ≤ ((Tv 1) : Int32).toInt ∧ ((Tv 1) : Int32).toInt ≤ 400 ∧ 0 ≤ ((Tv 2) : Int32).toInt ∧ ((Tv 2) : Int32).toInt ≤ 400 := by
      have z_1 := Int32.lt_iff_toInt_lt.mp c_1
      have y_0 : (0 : Int32).toInt = 0 := by decide
      first | assumption | omega
    have hq_3 : 0 ≤ ((Av 3) : Int32).toInt ∧ ((Av 3) : Int32).toInt ≤ 6 := by
      have z_1 := Int32.lt_iff_toInt_lt.mp c_1
      have y_0 : (0 : Int32).toInt = 0 := by decide
      first | assumption | omega
    exact retV hx hb hr hlk hP hD hS ((Av 3), (Af 3), (Af 4), (Af 5), (Tv 1), (Tv 2), (Tv 3), (Tv 4)) ⟨rfl, hq_2, hq_3⟩ [0, 1, 2, 3, 4, 5, 6, 7, 8, 9, 10, 11] rfl rfl dX0_readBuyer_18 (Nat.le_of_ble_eq_true rfl) (Nat.le_of_ble_eq_true rfl) rfl
  · skip
    refine lv_iload_n hx hb dX0_readBuyer_12 rfl (lv_at hl 0 rfl) ?_
    refine lv_bipush (v := 6) hx hb dX0_readBuyer_13 (by decide) ?_
    refine lv_icmp_lt (tgt := 19) hx hb dX0_readBuyer_15 (by decide) (fun c_4 => ?_) (fun c_4 => ?_)
    · skip
      refine lv_aload_n hx hb dX0_readBuyer_19 rfl (lv_at hl 1 rfl) ?_
      refine gf_X0_12 hx hb hts hown hK hP 0 rfl rfl dX0_readBuyer_20 ?_
      refine gf_X0_91 hx hb hts hown hK hP 1 rfl rfl dX0_readBuyer_23 ?_
      refine lv_iload_n hx hb dX0_readBuyer_26 rfl (lv_at hl 0 rfl) ?_
      refine lv_aload_n hx hb dX0_readBuyer_27 rfl (lv_at hl 2 rfl) ?_
      refine lv_iconst (v := 0) hx hb dX0_readBuyer_28 (by decide) ?_
      refine lv_bipush (v := 20) hx hb dX0_readBuyer_29 (by decide) ?_
      have hh_5 : 0 ≤ ((Tv 0) : Int32).toInt ∧ ((Tv 0) : Int32).toInt ≤ 400 ∧ 0 ≤ ((Tv 1) : Int32).toInt ∧ ((Tv 1) : Int32).toInt ≤ 400 ∧ 0 ≤ ((Tv 2) : Int32).toInt ∧ ((Tv 2) : Int32).toInt ≤ 400 := by
        have z_1 := Int32.le_iff_toInt_le.mp (Int32.not_lt.mp c_1)
        have z_2 := Int32.lt_iff_toInt_lt.mp c_4
        have y_0 : (0 : Int32).toInt = 0 := by decide
        have y_6 : (6 : Int32).toInt = 6 := by decide
        first | assumption | omega
      refine cV (a := (Ta 0)) (As := [.int 0, .int 20]) (rest := [.int (Av 3), .ref (Aa 3)]) (wr := [((Wa 0), .inr (0, [.ref (Aa 0)])), ((Aa 0), .inr (9, [.int (Av 0), .int (Av 1), .int (Av 2), .int (Av 3), .int (Av 4), .int (Av 5), .ref (Aa 1), .ref (Aa 2), .ref (Aa 3), .ref (Aa 4), .ref (Aa 5), .ref (Aa 6), .ref (Aa 7), .ref (Aa 8)])), ((Aa 1), .inl (tc 0, 10, .inl (Af 1))), ((Aa 2), .inl (tc 0, 10, .inl (Af 2))), ((Aa 3), .inl (tc 0, 6, .inl (Af 3))), ((Aa 4), .inl (tc 0, 6, .inl (Af 4))), ((Aa 5), .inl (tc 0, 6, .inl (Af 5))), ((Aa 6), .inl (tc 0, 6, .inl (Af 6))), ((Aa 7), .inl (tc 0, 6, .inl (Af 7))), ((Aa 8), .inl (tc 0, 6, .inl (Af 8)))]) ⟨hx, hb, hml, hown, hts⟩ hK hX hA (cu_X10_takeNumber l D tc sk (Ta 0) (Ta 1) (Tv 0) (Tv 1) (Tv 2) (Tv 3) (Tv 4) (Tf 1) 0 20 hh_5) k_566 k_563 k_564 k_565 k_96 pl_X10_takeNumber ⟨Nat.le_of_ble_eq_true rfl, Nat.le_of_ble_eq_true rfl⟩ rfl rfl (va_recv hK hP (ci := 10) (q0 := 10) rfl rfl) hP hD hS [10, 11] [0, 1, 2, 3, 4, 5, 6, 7, 8, 9] rfl rfl rfl rfl rfl (by decide) rfl hl.1 rfl (Nat.le_of_ble_eq_true rfl) dX0_readBuyer_31 ⟨Nat.le_of_ble_eq_true rfl, Nat.le_of_ble_eq_true rfl⟩ (fun v_6 u_7 H locs hv_8 hP hD hS => ?_)
      obtain ⟨sv_9, sv_10, sv_11, sv_12⟩ := u_7
      obtain ⟨r_13, rfl, he_14⟩ := hv_8
      have he_14 : (True) ∧ (0 ≤ ((Tv 0) : Int32).toInt ∧ ((Tv 0) : Int32).toInt ≤ 400 ∧ 0 ≤ (sv_9 : Int32).toInt ∧ (sv_9 : Int32).toInt ≤ 400 ∧ 0 ≤ (sv_10 : Int32).toInt ∧ (sv_10 : Int32).toInt ≤ 400) := he_14
      have he_14_0 : (0 ≤ ((Tv 0) : Int32).toInt ∧ ((Tv 0) : Int32).toInt ≤ 400 ∧ 0 ≤ (sv_9 : Int32).toInt ∧ (sv_9 : Int32).toInt ≤ 400 ∧ 0 ≤ (sv_10 : Int32).toInt ∧ (sv_10 : Int32).toInt ≤ 400) := he_14.2
      refine W.eq (g2 := F0 m 34 ls [.int r_13, .int (Av 3), .ref (Aa 3)]) rfl ?_
      have hP : va_P D classes [((Wa 0), .inr (0, [.ref (Aa 0)])), ((Aa 0), .inr (9, [.int (Av 0), .int (Av 1), .int (Av 2), .int (Av 3), .int (Av 4), .int (Av 5), .ref (Aa 1), .ref (Aa 2), .ref (Aa 3), .ref (Aa 4), .ref (Aa 5), .ref (Aa 6), .ref (Aa 7), .ref (Aa 8)])), ((Aa 1), .inl (tc 0, 10, .inl (Af 1))), ((Aa 2), .inl (tc 0, 10, .inl (Af 2))), ((Aa 3), .inl (tc 0, 6, .inl (Af 3))), ((Aa 4), .inl (tc 0, 6, .inl (Af 4))), ((Aa 5), .inl (tc 0, 6, .inl (Af 5))), ((Aa 6), .inl (tc 0, 6, .inl (Af 6))), ((Aa 7), .inl (tc 0, 6, .inl (Af 7))), ((Aa 8), .inl (tc 0, 6, .inl (Af 8))), ((Ta 0), .inr (10, [.ref (Ta 1), .int (Tv 0), .int sv_9, .int sv_10, .int sv_11, .int sv_12])), ((Ta 1), .inl (tc 0, 400, .inl (Tf 1)))] H := hP
      have hD : va_D A [((Wa 0), .inr (0, [.ref (Aa 0)])), ((Aa 0), .inr (9, [.int (Av 0), .int (Av 1), .int (Av 2), .int (Av 3), .int (Av 4), .int (Av 5), .ref (Aa 1), .ref (Aa 2), .ref (Aa 3), .ref (Aa 4), .ref (Aa 5), .ref (Aa 6), .ref (Aa 7), .ref (Aa 8)])), ((Aa 1), .inl (tc 0, 10, .inl (Af 1))), ((Aa 2), .inl (tc 0, 10, .inl (Af 2))), ((Aa 3), .inl (tc 0, 6, .inl (Af 3))), ((Aa 4), .inl (tc 0, 6, .inl (Af 4))), ((Aa 5), .inl (tc 0, 6, .inl (Af 5))), ((Aa 6), .inl (tc 0, 6, .inl (Af 6))), ((Aa 7), .inl (tc 0, 6, .inl (Af 7))), ((Aa 8), .inl (tc 0, 6, .inl (Af 8))), ((Ta 0), .inr (10, [.ref (Ta 1), .int (Tv 0), .int sv_9, .int sv_10, .int sv_11, .int sv_12])), ((Ta 1), .inl (tc 0, 400, .inl (Tf 1)))] := hD
      have hi_15 : vp_in (Av 3) 6 := by
        have z_1 := Int32.le_iff_toInt_le.mp (Int32.not_lt.mp c_1)
        have z_2 := Int32.lt_iff_toInt_lt.mp c_4
        have y_0 : (0 : Int32).toInt = 0 := by decide
        have y_6 : (6 : Int32).toInt = 6 := by decide
        refine vp_in_iff.mpr ⟨?_, ?_⟩ <;> omega
      refine st_int hx hb hK hP hD hS 4 0 rfl rfl hi_15 dX0_readBuyer_34 (fun g_16 H locs eg_16 hP hD hS => ?_)
      have hP : va_P D classes [((Wa 0), .inr (0, [.ref (Aa 0)])), ((Aa 0), .inr (9, [.int (Av 0), .int (Av 1), .int (Av 2), .int (Av 3), .int (Av 4), .int (Av 5), .ref (Aa 1), .ref (Aa 2), .ref (Aa 3), .ref (Aa 4), .ref (Aa 5), .ref (Aa 6), .ref (Aa 7), .ref (Aa 8)])), ((Aa 1), .inl (tc 0, 10, .inl (Af 1))), ((Aa 2), .inl (tc 0, 10, .inl (Af 2))), ((Aa 3), .inl (tc 0, 6, .inl g_16)), ((Aa 4), .inl (tc 0, 6, .inl (Af 4))), ((Aa 5), .inl (tc 0, 6, .inl (Af 5))), ((Aa 6), .inl (tc 0, 6, .inl (Af 6))), ((Aa 7), .inl (tc 0, 6, .inl (Af 7))), ((Aa 8), .inl (tc 0, 6, .inl (Af 8))), ((Ta 0), .inr (10, [.ref (Ta 1), .int (Tv 0), .int sv_9, .int sv_10, .int sv_11, .int sv_12])), ((Ta 1), .inl (tc 0, 400, .inl (Tf 1)))] H := hP
      have hD : va_D A [((Wa 0), .inr (0, [.ref (Aa 0)])), ((Aa 0), .inr (9, [.int (Av 0), .int (Av 1), .int (Av 2), .int (Av 3), .int (Av 4), .int (Av 5), .ref (Aa 1), .ref (Aa 2), .ref (Aa 3), .ref (Aa 4), .ref (Aa 5), .ref (Aa 6), .ref (Aa 7), .ref (Aa 8)])), ((Aa 1), .inl (tc 0, 10, .inl (Af 1))), ((Aa 2), .inl (tc 0, 10, .inl (Af 2))), ((Aa 3), .inl (tc 0, 6, .inl g_16)), ((Aa 4), .inl (tc 0, 6, .inl (Af 4))), ((Aa 5), .inl (tc 0, 6, .inl (Af 5))), ((Aa 6), .inl (tc 0, 6, .inl (Af 6))), ((Aa 7), .inl (tc 0, 6, .inl (Af 7))), ((Aa 8), .inl (tc 0, 6, .inl (Af 8))), ((Ta 0), .inr (10, [.ref (Ta 1), .int (Tv 0), .int sv_9, .int sv_10, .int sv_11, .int sv_12])), ((Ta 1), .inl (tc 0, 400, .inl (Tf 1)))] := hD
      refine lv_aload_n hx hb dX0_readBuyer_35 rfl (lv_at hl 1 rfl) ?_
      refine gf_X0_12 hx hb hts hown hK hP 0 rfl rfl dX0_readBuyer_36 ?_
      refine gf_X0_94 hx hb hts hown hK hP 1 rfl rfl dX0_readBuyer_39 ?_
      refine lv_iload_n hx hb dX0_readBuyer_42 rfl (lv_at hl 0 rfl) ?_
      refine lv_aload_n hx hb dX0_readBuyer_43 rfl (lv_at hl 2 rfl) ?_
      refine lv_iconst (v := 1) hx hb dX0_readBuyer_44 (by decide) ?_
      refine lv_bipush (v := 9) hx hb dX0_readBuyer_45 (by decide) ?_
      have hh_17 : 0 ≤ ((Tv 0) : Int32).toInt ∧ ((Tv 0) : Int32).toInt ≤ 400 ∧ 0 ≤ (sv_9 : Int32).toInt ∧ (sv_9 : Int32).toInt ≤ 400 ∧ 0 ≤ (sv_10 : Int32).toInt ∧ (sv_10 : Int32).toInt ≤ 400 := by
        have z_1 := Int32.le_iff_toInt_le.mp (Int32.not_lt.mp c_1)
        have z_2 := Int32.lt_iff_toInt_lt.mp c_4
        have y_0 : (0 : Int32).toInt = 0 := by decide
        have y_6 : (6 : Int32).toInt = 6 := by decide
        first | assumption | omega
      refine cV (a := (Ta 0)) (As := [.int 1, .int 9]) (rest := [.int (Av 3), .ref (Aa 4)]) (wr := [((Wa 0), .inr (0, [.ref (Aa 0)])), ((Aa 0), .inr (9, [.int (Av 0), .int (Av 1), .int (Av 2), .int (Av 3), .int (Av 4), .int (Av 5), .ref (Aa 1), .ref (Aa 2), .ref (Aa 3), .ref (Aa 4), .ref (Aa 5), .ref (Aa 6), .ref (Aa 7), .ref (Aa 8)])), ((Aa 1), .inl (tc 0, 10, .inl (Af 1))), ((Aa 2), .inl (tc 0, 10, .inl (Af 2))), ((Aa 3), .inl (tc 0, 6, .inl g_16)), ((Aa 4), .inl (tc 0, 6, .inl (Af 4))), ((Aa 5), .inl (tc 0, 6, .inl (Af 5))), ((Aa 6), .inl (tc 0, 6, .inl (Af 6))), ((Aa 7), .inl (tc 0, 6, .inl (Af 7))), ((Aa 8), .inl (tc 0, 6, .inl (Af 8)))]) ⟨hx, hb, hml, hown, hts⟩ hK hX hA (cu_X10_takeNumber l D tc sk (Ta 0) (Ta 1) (Tv 0) sv_9 sv_10 sv_11 sv_12 (Tf 1) 1 9 hh_17) k_566 k_563 k_564 k_565 k_96 pl_X10_takeNumber ⟨Nat.le_of_ble_eq_true rfl, Nat.le_of_ble_eq_true rfl⟩ rfl rfl (va_recv hK hP (ci := 10) (q0 := 10) rfl rfl) hP hD hS [10, 11] [0, 1, 2, 3, 4, 5, 6, 7, 8, 9] rfl rfl rfl rfl rfl (by decide) rfl hl.1 rfl (Nat.le_of_ble_eq_true rfl) dX0_readBuyer_47 ⟨Nat.le_of_ble_eq_true rfl, Nat.le_of_ble_eq_true rfl⟩ (fun v_18 u_19 H locs hv_20 hP hD hS => ?_)
      obtain ⟨sv_21, sv_22, sv_23, sv_24⟩ := u_19
      obtain ⟨r_25, rfl, he_26⟩ := hv_20
      have he_26 : (True) ∧ (0 ≤ ((Tv 0) : Int32).toInt ∧ ((Tv 0) : Int32).toInt ≤ 400 ∧ 0 ≤ (sv_21 : Int32).toInt ∧ (sv_21 : Int32).toInt ≤ 400 ∧ 0 ≤ (sv_22 : Int32).toInt ∧ (sv_22 : Int32).toInt ≤ 400) := he_26
      have he_26_0 : (0 ≤ ((Tv 0) : Int32).toInt ∧ ((Tv 0) : Int32).toInt ≤ 400 ∧ 0 ≤ (sv_21 : Int32).toInt ∧ (sv_21 : Int32).toInt ≤ 400 ∧ 0 ≤ (sv_22 : Int32).toInt ∧ (sv_22 : Int32).toInt ≤ 400) := he_26.2
      refine W.eq (g2 := F0 m 50 ls [.int r_25, .int (Av 3), .ref (Aa 4)]) rfl ?_
      have hP : va_P D classes [((Wa 0), .inr (0, [.ref (Aa 0)])), ((Aa 0), .inr (9, [.int (Av 0), .int (Av 1), .int (Av 2), .int (Av 3), .int (Av 4), .int (Av 5), .ref (Aa 1), .ref (Aa 2), .ref (Aa 3), .ref (Aa 4), .ref (Aa 5), .ref (Aa 6), .ref (Aa 7), .ref (Aa 8)])), ((Aa 1), .inl (tc 0, 10, .inl (Af 1))), ((Aa 2), .inl (tc 0, 10, .inl (Af 2))), ((Aa 3), .inl (tc 0, 6, .inl g_16)), ((Aa 4), .inl (tc 0, 6, .inl (Af 4))), ((Aa 5), .inl (tc 0, 6, .inl (Af 5))), ((Aa 6), .inl (tc 0, 6, .inl (Af 6))), ((Aa 7), .inl (tc 0, 6, .inl (Af 7))), ((Aa 8), .inl (tc 0, 6, .inl (Af 8))), ((Ta 0), .inr (10, [.ref (Ta 1), .int (Tv 0), .int sv_21, .int sv_22, .int sv_23, .int sv_24])), ((Ta 1), .inl (tc 0, 400, .inl (Tf 1)))] H := hP
      have hD : va_D A [((Wa 0), .inr (0, [.ref (Aa 0)])), ((Aa 0), .inr (9, [.int (Av 0), .int (Av 1), .int (Av 2), .int (Av 3), .int (Av 4), .int (Av 5), .ref (Aa 1), .ref (Aa 2), .ref (Aa 3), .ref (Aa 4), .ref (Aa 5), .ref (Aa 6), .ref (Aa 7), .ref (Aa 8)])), ((Aa 1), .inl (tc 0, 10, .inl (Af 1))), ((Aa 2), .inl (tc 0, 10, .inl (Af 2))), ((Aa 3), .inl (tc 0, 6, .inl g_16)), ((Aa 4), .inl (tc 0, 6, .inl (Af 4))), ((Aa 5), .inl (tc 0, 6, .inl (Af 5))), ((Aa 6), .inl (tc 0, 6, .inl (Af 6))), ((Aa 7), .inl (tc 0, 6, .inl (Af 7))), ((Aa 8), .inl (tc 0, 6, .inl (Af 8))), ((Ta 0), .inr (10, [.ref (Ta 1), .int (Tv 0), .int sv_21, .int sv_22, .int sv_23, .int sv_24])), ((Ta 1), .inl (tc 0, 400, .inl (Tf 1)))] := hD
      have hi_27 : vp_in (Av 3) 6 := by
        have z_1 := Int32.le_iff_toInt_le.mp (Int32.not_lt.mp c_1)
        have z_2 := Int32.lt_iff_toInt_lt.mp c_4
        have y_0 : (0 : Int32).toInt = 0 := by decide
        have y_6 : (6 : Int32).toInt = 6 := by decide
        refine vp_in_iff.mpr ⟨?_, ?_⟩ <;> omega
      refine st_int hx hb hK hP hD hS 5 0 rfl rfl hi_27 dX0_readBuyer_50 (fun g_28 H locs eg_28 hP hD hS => ?_)
      have hP : va_P D classes [((Wa 0), .inr (0, [.ref (Aa 0)])), ((Aa 0), .inr (9, [.int (Av 0), .int (Av 1), .int (Av 2), .int (Av 3), .int (Av 4), .int (Av 5), .ref (Aa 1), .ref (Aa 2), .ref (Aa 3), .ref (Aa 4), .ref (Aa 5), .ref (Aa 6), .ref (Aa 7), .ref (Aa 8)])), ((Aa 1), .inl (tc 0, 10, .inl (Af 1))), ((Aa 2), .inl (tc 0, 10, .inl (Af 2))), ((Aa 3), .inl (tc 0, 6, .inl g_16)), ((Aa 4), .inl (tc 0, 6, .inl g_28)), ((Aa 5), .inl (tc 0, 6, .inl (Af 5))), ((Aa 6), .inl (tc 0, 6, .inl (Af 6))), ((Aa 7), .inl (tc 0, 6, .inl (Af 7))), ((Aa 8), .inl (tc 0, 6, .inl (Af 8))), ((Ta 0), .inr (10, [.ref (Ta 1), .int (Tv 0), .int sv_21, .int sv_22, .int sv_23, .int sv_24])), ((Ta 1), .inl (tc 0, 400, .inl (Tf 1)))] H := hP
      have hD : va_D A [((Wa 0), .inr (0, [.ref (Aa 0)])), ((Aa 0), .inr (9, [.int (Av 0), .int (Av 1), .int (Av 2), .int (Av 3), .int (Av 4), .int (Av 5), .ref (Aa 1), .ref (Aa 2), .ref (Aa 3), .ref (Aa 4), .ref (Aa 5), .ref (Aa 6), .ref (Aa 7), .ref (Aa 8)])), ((Aa 1), .inl (tc 0, 10, .inl (Af 1))), ((Aa 2), .inl (tc 0, 10, .inl (Af 2))), ((Aa 3), .inl (tc 0, 6, .inl g_16)), ((Aa 4), .inl (tc 0, 6, .inl g_28)), ((Aa 5), .inl (tc 0, 6, .inl (Af 5))), ((Aa 6), .inl (tc 0, 6, .inl (Af 6))), ((Aa 7), .inl (tc 0, 6, .inl (Af 7))), ((Aa 8), .inl (tc 0, 6, .inl (Af 8))), ((Ta 0), .inr (10, [.ref (Ta 1), .int (Tv 0), .int sv_21, .int sv_22, .int sv_23, .int sv_24])), ((Ta 1), .inl (tc 0, 400, .inl (Tf 1)))] := hD
      refine lv_aload_n hx hb dX0_readBuyer_51 rfl (lv_at hl 1 rfl) ?_
      refine gf_X0_12 hx hb hts hown hK hP 0 rfl rfl dX0_readBuyer_52 ?_
      refine gf_X0_97 hx hb hts hown hK hP 1 rfl rfl dX0_readBuyer_55 ?_
      refine lv_iload_n hx hb dX0_readBuyer_58 rfl (lv_at hl 0 rfl) ?_
      refine lv_aload_n hx hb dX0_readBuyer_59 rfl (lv_at hl 2 rfl) ?_
      refine lv_iconst (v := 0) hx hb dX0_readBuyer_60 (by decide) ?_
      refine lv_bipush (v := 9) hx hb dX0_readBuyer_61 (by decide) ?_
      have hh_29 : 0 ≤ ((Tv 0) : Int32).toInt ∧ ((Tv 0) : Int32).toInt ≤ 400 ∧ 0 ≤ (sv_21 : Int32).toInt ∧ (sv_21 : Int32).toInt ≤ 400 ∧ 0 ≤ (sv_22 : Int32).toInt ∧ (sv_22 : Int32).toInt ≤ 400 := by
        have z_1 := Int32.le_iff_toInt_le.mp (Int32.not_lt.mp c_1)
        have z_2 := Int32.lt_iff_toInt_lt.mp c_4
        have y_0 : (0 : Int32).toInt = 0 := by decide
        have y_6 : (6 : Int32).toInt = 6 := by decide
        first | assumption | omega
      refine cV (a := (Ta 0)) (As := [.int 0, .int 9]) (rest := [.int (Av 3), .ref (Aa 5)]) (wr := [((Wa 0), .inr (0, [.ref (Aa 0)])), ((Aa 0), .inr (9, [.int (Av 0), .int (Av 1), .int (Av 2), .int (Av 3), .int (Av 4), .int (Av 5), .ref (Aa 1), .ref (Aa 2), .ref (Aa 3), .ref (Aa 4), .ref (Aa 5), .ref (Aa 6), .ref (Aa 7), .ref (Aa 8)])), ((Aa 1), .inl (tc 0, 10, .inl (Af 1))), ((Aa 2), .inl (tc 0, 10, .inl (Af 2))), ((Aa 3), .inl (tc 0, 6, .inl g_16)), ((Aa 4), .inl (tc 0, 6, .inl g_28)), ((Aa 5), .inl (tc 0, 6, .inl (Af 5))), ((Aa 6), .inl (tc 0, 6, .inl (Af 6))), ((Aa 7), .inl (tc 0, 6, .inl (Af 7))), ((Aa 8), .inl (tc 0, 6, .inl (Af 8)))]) ⟨hx, hb, hml, hown, hts⟩ hK hX hA (cu_X10_takeNumber l D tc sk (Ta 0) (Ta 1) (Tv 0) sv_21 sv_22 sv_23 sv_24 (Tf 1) 0 9 hh_29) k_566 k_563 k_564 k_565 k_96 pl_X10_takeNumber ⟨Nat.le_of_ble_eq_true rfl, Nat.le_of_ble_eq_true rfl⟩ rfl rfl (va_recv hK hP (ci := 10) (q0 := 10) rfl rfl) hP hD hS [10, 11] [0, 1, 2, 3, 4, 5, 6, 7, 8, 9] rfl rfl rfl rfl rfl (by decide) rfl hl.1 rfl (Nat.le_of_ble_eq_true rfl) dX0_readBuyer_63 ⟨Nat.le_of_ble_eq_true rfl, Nat.le_of_ble_eq_true rfl⟩ (fun v_30 u_31 H locs hv_32 hP hD hS => ?_)
      obtain ⟨sv_33, sv_34, sv_35, sv_36⟩ := u_31
      obtain ⟨r_37, rfl, he_38⟩ := hv_32
      have he_38 : (True) ∧ (0 ≤ ((Tv 0) : Int32).toInt ∧ ((Tv 0) : Int32).toInt ≤ 400 ∧ 0 ≤ (sv_33 : Int32).toInt ∧ (sv_33 : Int32).toInt ≤ 400 ∧ 0 ≤ (sv_34 : Int32).toInt ∧ (sv_34 : Int32).toInt ≤ 400) := he_38
      have he_38_0 : (0 ≤ ((Tv 0) : Int32).toInt ∧ ((Tv 0) : Int32).toInt ≤ 400 ∧ 0 ≤ (sv_33 : Int32).toInt ∧ (sv_33 : Int32).toInt ≤ 400 ∧ 0 ≤ (sv_34 : Int32).toInt ∧ (sv_34 : Int32).toInt ≤ 400) := he_38.2
      refine W.eq (g2 := F0 m 66 ls [.int r_37, .int (Av 3), .ref (Aa 5)]) rfl ?_
      have hP : va_P D classes [((Wa 0), .inr (0, [.ref (Aa 0)])), ((Aa 0), .inr (9, [.int (Av 0), .int (Av 1), .int (Av 2), .int (Av 3), .int (Av 4), .int (Av 5), .ref (Aa 1), .ref (Aa 2), .ref (Aa 3), .ref (Aa 4), .ref (Aa 5), .ref (Aa 6), .ref (Aa 7), .ref (Aa 8)])), ((Aa 1), .inl (tc 0, 10, .inl (Af 1))), ((Aa 2), .inl (tc 0, 10, .inl (Af 2))), ((Aa 3), .inl (tc 0, 6, .inl g_16)), ((Aa 4), .inl (tc 0, 6, .inl g_28)), ((Aa 5), .inl (tc 0, 6, .inl (Af 5))), ((Aa 6), .inl (tc 0, 6, .inl (Af 6))), ((Aa 7), .inl (tc 0, 6, .inl (Af 7))), ((Aa 8), .inl (tc 0, 6, .inl (Af 8))), ((Ta 0), .inr (10, [.ref (Ta 1), .int (Tv 0), .int sv_33, .int sv_34, .int sv_35, .int sv_36])), ((Ta 1), .inl (tc 0, 400, .inl (Tf 1)))] H := hP
      have hD : va_D A [((Wa 0), .inr (0, [.ref (Aa 0)])), ((Aa 0), .inr (9, [.int (Av 0), .int (Av 1), .int (Av 2), .int (Av 3), .int (Av 4), .int (Av 5), .ref (Aa 1), .ref (Aa 2), .ref (Aa 3), .ref (Aa 4), .ref (Aa 5), .ref (Aa 6), .ref (Aa 7), .ref (Aa 8)])), ((Aa 1), .inl (tc 0, 10, .inl (Af 1))), ((Aa 2), .inl (tc 0, 10, .inl (Af 2))), ((Aa 3), .inl (tc 0, 6, .inl g_16)), ((Aa 4), .inl (tc 0, 6, .inl g_28)), ((Aa 5), .inl (tc 0, 6, .inl (Af 5))), ((Aa 6), .inl (tc 0, 6, .inl (Af 6))), ((Aa 7), .inl (tc 0, 6, .inl (Af 7))), ((Aa 8), .inl (tc 0, 6, .inl (Af 8))), ((Ta 0), .inr (10, [.ref (Ta 1), .int (Tv 0), .int sv_33, .int sv_34, .int sv_35, .int sv_36])), ((Ta 1), .inl (tc 0, 400, .inl (Tf 1)))] := hD
      have hi_39 : vp_in (Av 3) 6 := by
        have z_1 := Int32.le_iff_toInt_le.mp (Int32.not_lt.mp c_1)
        have z_2 := Int32.lt_iff_toInt_lt.mp c_4
        have y_0 : (0 : Int32).toInt = 0 := by decide
        have y_6 : (6 : Int32).toInt = 6 := by decide
        refine vp_in_iff.mpr ⟨?_, ?_⟩ <;> omega
      refine st_int hx hb hK hP hD hS 6 0 rfl rfl hi_39 dX0_readBuyer_66 (fun g_40 H locs eg_40 hP hD hS => ?_)
      have hP : va_P D classes [((Wa 0), .inr (0, [.ref (Aa 0)])), ((Aa 0), .inr (9, [.int (Av 0), .int (Av 1), .int (Av 2), .int (Av 3), .int (Av 4), .int (Av 5), .ref (Aa 1), .ref (Aa 2), .ref (Aa 3), .ref (Aa 4), .ref (Aa 5), .ref (Aa 6), .ref (Aa 7), .ref (Aa 8)])), ((Aa 1), .inl (tc 0, 10, .inl (Af 1))), ((Aa 2), .inl (tc 0, 10, .inl (Af 2))), ((Aa 3), .inl (tc 0, 6, .inl g_16)), ((Aa 4), .inl (tc 0, 6, .inl g_28)), ((Aa 5), .inl (tc 0, 6, .inl g_40)), ((Aa 6), .inl (tc 0, 6, .inl (Af 6))), ((Aa 7), .inl (tc 0, 6, .inl (Af 7))), ((Aa 8), .inl (tc 0, 6, .inl (Af 8))), ((Ta 0), .inr (10, [.ref (Ta 1), .int (Tv 0), .int sv_33, .int sv_34, .int sv_35, .int sv_36])), ((Ta 1), .inl (tc 0, 400, .inl (Tf 1)))] H := hP
      have hD : va_D A [((Wa 0), .inr (0, [.ref (Aa 0)])), ((Aa 0), .inr (9, [.int (Av 0), .int (Av 1), .int (Av 2), .int (Av 3), .int (Av 4), .int (Av 5), .ref (Aa 1), .ref (Aa 2), .ref (Aa 3), .ref (Aa 4), .ref (Aa 5), .ref (Aa 6), .ref (Aa 7), .ref (Aa 8)])), ((Aa 1), .inl (tc 0, 10, .inl (Af 1))), ((Aa 2), .inl (tc 0, 10, .inl (Af 2))), ((Aa 3), .inl (tc 0, 6, .inl g_16)), ((Aa 4), .inl (tc 0, 6, .inl g_28)), ((Aa 5), .inl (tc 0, 6, .inl g_40)), ((Aa 6), .inl (tc 0, 6, .inl (Af 6))), ((Aa 7), .inl (tc 0, 6, .inl (Af 7))), ((Aa 8), .inl (tc 0, 6, .inl (Af 8))), ((Ta 0), .inr (10, [.ref (Ta 1), .int (Tv 0), .int sv_33, .int sv_34, .int sv_35, .int sv_36])), ((Ta 1), .inl (tc 0, 400, .inl (Tf 1)))] := hD
      refine lv_aload_n hx hb dX0_readBuyer_67 rfl (lv_at hl 1 rfl) ?_
      refine gf_X0_12 hx hb hts hown hK hP 0 rfl rfl dX0_readBuyer_68 ?_
      refine lv_dup hx hb dX0_readBuyer_71 rfl ?_
      refine gf_X0_51 hx hb hts hown hK hP 1 rfl rfl dX0_readBuyer_72 ?_
      refine lv_iconst (v := 1) hx hb dX0_readBuyer_75 (by decide) ?_
      refine lv_iadd hx hb dX0_readBuyer_76 ?_
      refine lv_topi (fun x_41 ex_41 => ?_)
      refine pf_X0_51 hx hb hts hown hK hP hD hS 1 rfl (Nat.le_of_ble_eq_true rfl) rfl rfl dX0_readBuyer_77 (fun H locs hP hD hS => ?_)
      have hP : va_P D classes [((Wa 0), .inr (0, [.ref (Aa 0)])), ((Aa 0), .inr (9, [.int (Av 0), .int (Av 1), .int (Av 2), .int x_41, .int (Av 4), .int (Av 5), .ref (Aa 1), .ref (Aa 2), .ref (Aa 3), .ref (Aa 4), .ref (Aa 5), .ref (Aa 6), .ref (Aa 7), .ref (Aa 8)])), ((Aa 1), .inl (tc 0, 10, .inl (Af 1))), ((Aa 2), .inl (tc 0, 10, .inl (Af 2))), ((Aa 3), .inl (tc 0, 6, .inl g_16)), ((Aa 4), .inl (tc 0, 6, .inl g_28)), ((Aa 5), .inl (tc 0, 6, .inl g_40)), ((Aa 6), .inl (tc 0, 6, .inl (Af 6))), ((Aa 7), .inl (tc 0, 6, .inl (Af 7))), ((Aa 8), .inl (tc 0, 6, .inl (Af 8))), ((Ta 0), .inr (10, [.ref (Ta 1), .int (Tv 0), .int sv_33, .int sv_34, .int sv_35, .int sv_36])), ((Ta 1), .inl (tc 0, 400, .inl (Tf 1)))] H := hP
      have hD : va_D A [((Wa 0), .inr (0, [.ref (Aa 0)])), ((Aa 0), .inr (9, [.int (Av 0), .int (Av 1), .int (Av 2), .int x_41, .int (Av 4), .int (Av 5), .ref (Aa 1), .ref (Aa 2), .ref (Aa 3), .ref (Aa 4), .ref (Aa 5), .ref (Aa 6), .ref (Aa 7), .ref (Aa 8)])), ((Aa 1), .inl (tc 0, 10, .inl (Af 1))), ((Aa 2), .inl (tc 0, 10, .inl (Af 2))), ((Aa 3), .inl (tc 0, 6, .inl g_16)), ((Aa 4), .inl (tc 0, 6, .inl g_28)), ((Aa 5), .inl (tc 0, 6, .inl g_40)), ((Aa 6), .inl (tc 0, 6, .inl (Af 6))), ((Aa 7), .inl (tc 0, 6, .inl (Af 7))), ((Aa 8), .inl (tc 0, 6, .inl (Af 8))), ((Ta 0), .inr (10, [.ref (Ta 1), .int (Tv 0), .int sv_33, .int sv_34, .int sv_35, .int sv_36])), ((Ta 1), .inl (tc 0, 400, .inl (Tf 1)))] := hD
      have hq_42 : 0 ≤ ((Tv 0) : Int32).toInt ∧ ((Tv 0) : Int32).toInt ≤ 400 ∧ 0 ≤ (sv_33 : Int32).toInt ∧ (sv_33 : Int32).toInt ≤ 400 ∧ 0 ≤ (sv_34 : Int32).toInt ∧ (sv_34 : Int32).toInt ≤ 400 := by
        have z_1 := Int32.le_iff_toInt_le.mp (Int32.not_lt.mp c_1)
        have z_2 := Int32.lt_iff_toInt_lt.mp c_4
        have y_0 : (0 : Int32).toInt = 0 := by decide
        have y_6 : (6 : Int32).toInt = 6 := by decide
        first | assumption | omega
      have hq_43 : 0 ≤ (x_41 : Int32).toInt ∧ (x_41 : Int32).toInt ≤ 6 := by
        have z_1 := Int32.le_iff_toInt_le.mp (Int32.not_lt.mp c_1)
        have z_2 := Int32.lt_iff_toInt_lt.mp c_4
        have y_0 : (0 : Int32).toInt = 0 := by decide
        have y_6 : (6 : Int32).toInt = 6 := by decide
        have y_1 : (1 : Int32).toInt = 1 := by decide
        have t_x_41 : x_41.toInt = ((Av 3) : Int32).toInt + (1 : Int32).toInt := by rw [ex_41]; exact add_toInt (by omega) (by omega)
        first | assumption | omega
      exact retV hx hb hr hlk hP hD hS (x_41, g_16, g_28, g_40, sv_33, sv_34, sv_35, sv_36) ⟨rfl, hq_42, hq_43⟩ [0, 1, 2, 3, 4, 5, 6, 7, 8, 9, 10, 11] rfl rfl dX0_readBuyer_80 (Nat.le_of_ble_eq_true rfl) (Nat.le_of_ble_eq_true rfl) rfl
    · skip
      have hq_44 : 0 ≤ ((Tv 0) : Int32).toInt ∧ ((Tv 0) : Int32).toInt ≤ 400 ∧ 0 ≤ ((Tv 1) : Int32).toInt ∧ ((Tv 1) : Int32).toInt ≤ 400 ∧ 0 ≤ ((Tv 2) : Int32).toInt ∧ ((Tv 2) : Int32).toInt ≤ 400 := by
        have z_1 := Int32.le_iff_toInt_le.mp (Int32.not_lt.mp c_1)
        have z_2 := Int32.le_iff_toInt_le.mp (Int32.not_lt.mp c_4)
        have y_0 : (0 : Int32).toInt = 0 := by decide
        have y_6 : (6 : Int32).toInt = 6 := by decide
        first | assumption | omega
      have hq_45 : 0 ≤ ((Av 3) : Int32).toInt ∧ ((Av 3) : Int32).toInt ≤ 6 := by
        have z_1 := Int32.le_iff_toInt_le.mp (Int32.not_lt.mp c_1)
        have z_2 := Int32.le_iff_toInt_le.mp (Int32.not_lt.mp c_4)
        have y_0 : (0 : Int32).toInt = 0 := by decide
        have y_6 : (6 : Int32).toInt = 6 := by decide
        first | assumption | omega
      exact retV hx hb hr hlk hP hD hS ((Av 3), (Af 3), (Af 4), (Af 5), (Tv 1), (Tv 2), (Tv 3), (Tv 4)) ⟨rfl, hq_44, hq_45⟩ [0, 1, 2, 3, 4, 5, 6, 7, 8, 9, 10, 11] rfl rfl dX0_readBuyer_18 (Nat.le_of_ble_eq_true rfl) (Nat.le_of_ble_eq_true rfl) rfl
set_option maxRecDepth 100000 in
theorem cu_X0_readBuyer (l : Launch) (D : va_G) (tc : Nat → ClassId) (sk : (Nat → Nat) × (Nat → Nat)) (Wa_0 : Nat) (Aa_0 : Nat) (Aa_1 : Nat) (Aa_2 : Nat) (Aa_3 : Nat) (Aa_4 : Nat) (Aa_5 : Nat) (Aa_6 : Nat) (Aa_7 : Nat) (Aa_8 : Nat) (Av_0 : Int32) (Av_1 : Int32) (Av_2 : Int32) (Av_3 : Int32) (Av_4 : Int32) (Av_5 : Int32) (Af_1 : Nat → Int32) (Af_2 : Nat → Int32) (Af_3 : Nat → Int32) (Af_4 : Nat → Int32) (Af_5 : Nat → Int32) (Af_6 : Nat → Int32) (Af_7 : Nat → Int32) (Af_8 : Nat → Int32) (Ta_0 : Nat) (Ta_1 : Nat) (Tv_0 : Int32) (Tv_1 : Int32) (Tv_2 : Int32) (Tv_3 : Int32) (Tv_4 : Int32) (Tf_1 : Nat → Int32) (h_tape : 0 ≤ (Tv_0 : Int32).toInt ∧ (Tv_0 : Int32).toInt ≤ 400 ∧ 0 ≤ (Tv_1 : Int32).toInt ∧ (Tv_1 : Int32).toInt ≤ 400 ∧ 0 ≤ (Tv_2 : Int32).toInt ∧ (Tv_2 : Int32).toInt ≤ 400) (h_buy : 0 ≤ (Av_3 : Int32).toInt ∧ (Av_3 : Int32).toInt ≤ 6) : Ct l yX0_readBuyer cX0_readBuyer 3 none { frames := 3, cells := 0, slots := 0, locals := 68 } D tc sk [.ref Wa_0, .ref Ta_0] [(Wa_0, .inr (0, [.ref Aa_0])), (Aa_0, .inr (9, [.int Av_0, .int Av_1, .int Av_2, .int Av_3, .int Av_4, .int Av_5, .ref Aa_1, .ref Aa_2, .ref Aa_3, .ref Aa_4, .ref Aa_5, .ref Aa_6, .ref Aa_7, .ref Aa_8])), (Aa_1, .inl (tc 0, 10, .inl Af_1)), (Aa_2, .inl (tc 0, 10, .inl Af_2)), (Aa_3, .inl (tc 0, 6, .inl Af_3)), (Aa_4, .inl (tc 0, 6, .inl Af_4)), (Aa_5, .inl (tc 0, 6, .inl Af_5)), (Aa_6, .inl (tc 0, 6, .inl Af_6)), (Aa_7, .inl (tc 0, 6, .inl Af_7)), (Aa_8, .inl (tc 0, 6, .inl Af_8)), (Ta_0, .inr (10, [.ref Ta_1, .int Tv_0, .int Tv_1, .int Tv_2, .int Tv_3, .int Tv_4])), (Ta_1, .inl (tc 0, 400, .inl Tf_1))] (fun (v : Option Value) (u : (Int32) × (Nat → Int32) × (Nat → Int32) × (Nat → Int32) × (Int32) × (Int32) × (Int32) × (Int32)) => match u with | (o1, o2, o3, o4, o5, o6, o7, o8) => v = none ∧ (0 ≤ (Tv_0 : Int32).toInt ∧ (Tv_0 : Int32).toInt ≤ 400 ∧ 0 ≤ (o5 : Int32).toInt ∧ (o5 : Int32).toInt ≤ 400 ∧ 0 ≤ (o6 : Int32).toInt ∧ (o6 : Int32).toInt ≤ 400) ∧ (0 ≤ (o1 : Int32).toInt ∧ (o1 : Int32).toInt ≤ 6)) (fun (u : (Int32) × (Nat → Int32) × (Nat → Int32) × (Nat → Int32) × (Int32) × (Int32) × (Int32) × (Int32)) => match u with | (o1, o2, o3, o4, o5, o6, o7, o8) => [(Wa_0, .inr (0, [.ref Aa_0])), (Aa_0, .inr (9, [.int Av_0, .int Av_1, .int Av_2, .int o1, .int Av_4, .int Av_5, .ref Aa_1, .ref Aa_2, .ref Aa_3, .ref Aa_4, .ref Aa_5, .ref Aa_6, .ref Aa_7, .ref Aa_8])), (Aa_1, .inl (tc 0, 10, .inl Af_1)), (Aa_2, .inl (tc 0, 10, .inl Af_2)), (Aa_3, .inl (tc 0, 6, .inl o2)), (Aa_4, .inl (tc 0, 6, .inl o3)), (Aa_5, .inl (tc 0, 6, .inl o4)), (Aa_6, .inl (tc 0, 6, .inl Af_6)), (Aa_7, .inl (tc 0, 6, .inl Af_7)), (Aa_8, .inl (tc 0, 6, .inl Af_8)), (Ta_0, .inr (10, [.ref Ta_1, .int Tv_0, .int o5, .int o6, .int o7, .int o8])), (Ta_1, .inl (tc 0, 400, .inl Tf_1))]) 0 0 :=
  ct_X0_readBuyer l D tc sk (fun k => ([Wa_0] : List (Nat)).getD k 0) (fun k => ([Aa_0, Aa_1, Aa_2, Aa_3, Aa_4, Aa_5, Aa_6, Aa_7, Aa_8] : List (Nat)).getD k 0) (fun k => ([Av_0, Av_1, Av_2, Av_3, Av_4, Av_5] : List (Int32)).getD k 0) (fun k => ([(fun _ => 0), Af_1, Af_2, Af_3, Af_4, Af_5, Af_6, Af_7, Af_8] : List (Nat → Int32)).getD k (fun _ => 0)) (fun k => ([Ta_0, Ta_1] : List (Nat)).getD k 0) (fun k => ([Tv_0, Tv_1, Tv_2, Tv_3, Tv_4] : List (Int32)).getD k 0) (fun k => ([(fun _ => 0), Tf_1] : List (Nat → Int32)).getD k (fun _ => 0)) h_tape h_buy
set_option maxHeartbeats 4000000 in
set_option maxRecDepth 100000 in
theorem ct_X0_readWatch (l : Launch) (D : va_G) (tc : Nat → ClassId) (sk : (Nat → Nat) × (Nat → Nat)) (Wa : Nat → Nat) (Aa : Nat → Nat) (Av : Nat → Int32) (Af : Nat → Nat → Int32) (Ta : Nat → Nat) (Tv : Nat → Int32) (Tf : Nat → Nat → Int32) (h_tape : 0 ≤ ((Tv 0) : Int32).toInt ∧ ((Tv 0) : Int32).toInt ≤ 400 ∧ 0 ≤ ((Tv 1) : Int32).toInt ∧ ((Tv 1) : Int32).toInt ≤ 400 ∧ 0 ≤ ((Tv 2) : Int32).toInt ∧ ((Tv 2) : Int32).toInt ≤ 400) (h_buy : 0 ≤ ((Av 3) : Int32).toInt ∧ ((Av 3) : Int32).toInt ≤ 6) : Ct l yX0_readWatch cX0_readWatch 4 none { frames := 3, cells := 0, slots := 0, locals := 68 } D tc sk [.ref (Wa 0), .ref (Ta 0)] [((Wa 0), .inr (0, [.ref (Aa 0)])), ((Aa 0), .inr (9, [.int (Av 0), .int (Av 1), .int (Av 2), .int (Av 3), .int (Av 4), .int (Av 5), .ref (Aa 1), .ref (Aa 2), .ref (Aa 3), .ref (Aa 4), .ref (Aa 5), .ref (Aa 6), .ref (Aa 7), .ref (Aa 8)])), ((Aa 1), .inl (tc 0, 10, .inl (Af 1))), ((Aa 2), .inl (tc 0, 10, .inl (Af 2))), ((Aa 3), .inl (tc 0, 6, .inl (Af 3))), ((Aa 4), .inl (tc 0, 6, .inl (Af 4))), ((Aa 5), .inl (tc 0, 6, .inl (Af 5))), ((Aa 6), .inl (tc 0, 6, .inl (Af 6))), ((Aa 7), .inl (tc 0, 6, .inl (Af 7))), ((Aa 8), .inl (tc 0, 6, .inl (Af 8))), ((Ta 0), .inr (10, [.ref (Ta 1), .int (Tv 0), .int (Tv 1), .int (Tv 2), .int (Tv 3), .int (Tv 4)])), ((Ta 1), .inl (tc 0, 400, .inl (Tf 1)))] (fun (v : Option Value) (u : (Nat → Int32) × (Int32) × (Int32) × (Int32) × (Int32)) => match u with | (o1, o2, o3, o4, o5) => v = none ∧ (0 ≤ ((Tv 0) : Int32).toInt ∧ ((Tv 0) : Int32).toInt ≤ 400 ∧ 0 ≤ (o2 : Int32).toInt ∧ (o2 : Int32).toInt ≤ 400 ∧ 0 ≤ (o3 : Int32).toInt ∧ (o3 : Int32).toInt ≤ 400) ∧ (0 ≤ ((Av 3) : Int32).toInt ∧ ((Av 3) : Int32).toInt ≤ 6)) (fun (u : (Nat → Int32) × (Int32) × (Int32) × (Int32) × (Int32)) => match u with | (o1, o2, o3, o4, o5) => [((Wa 0), .inr (0, [.ref (Aa 0)])), ((Aa 0), .inr (9, [.int (Av 0), .int (Av 1), .int (Av 2), .int (Av 3), .int (Av 4), .int (Av 5), .ref (Aa 1), .ref (Aa 2), .ref (Aa 3), .ref (Aa 4), .ref (Aa 5), .ref (Aa 6), .ref (Aa 7), .ref (Aa 8)])), ((Aa 1), .inl (tc 0, 10, .inl (Af 1))), ((Aa 2), .inl (tc 0, 10, .inl o1)), ((Aa 3), .inl (tc 0, 6, .inl (Af 3))), ((Aa 4), .inl (tc 0, 6, .inl (Af 4))), ((Aa 5), .inl (tc 0, 6, .inl (Af 5))), ((Aa 6), .inl (tc 0, 6, .inl (Af 6))), ((Aa 7), .inl (tc 0, 6, .inl (Af 7))), ((Aa 8), .inl (tc 0, 6, .inl (Af 8))), ((Ta 0), .inr (10, [.ref (Ta 1), .int (Tv 0), .int o2, .int o3, .int o4, .int o5])), ((Ta 1), .inl (tc 0, 400, .inl (Tf 1)))]) 0 0 := by
  refine Ct.start (by decide) (Nat.le_of_ble_eq_true rfl) (fun p e s m below meth c A ls hx hb hr hlk hin hml hown hts hK hX hP hD hA hl hS => ?_)
  have hl : lv_has ls 4 [(0, .ref (Wa 0)), (1, .ref (Ta 0))] := hl
  refine lv_aload_n hx hb dX0_readWatch_0 rfl (lv_at hl 1 rfl) ?_
  refine lv_iconst (v := 0) hx hb dX0_readWatch_1 (by decide) ?_
  refine lv_aload_n hx hb dX0_readWatch_2 rfl (lv_at hl 0 rfl) ?_
  refine gf_X0_12 hx hb hts hown hK hP 0 rfl rfl dX0_readWatch_3 ?_
  refine gf_X0_80 hx hb hts hown hK hP 1 rfl rfl dX0_readWatch_6 ?_
  refine lv_iconst (v := 1) hx hb dX0_readWatch_9 (by decide) ?_
  refine lv_isub hx hb dX0_readWatch_10 ?_
  refine lv_topi (fun x_1 ex_1 => ?_)
  have hh_2 : 0 ≤ ((Tv 0) : Int32).toInt ∧ ((Tv 0) : Int32).toInt ≤ 400 ∧ 0 ≤ ((Tv 1) : Int32).toInt ∧ ((Tv 1) : Int32).toInt ≤ 400 ∧ 0 ≤ ((Tv 2) : Int32).toInt ∧ ((Tv 2) : Int32).toInt ≤ 400 := by
    first | assumption | omega
  refine cV (a := (Ta 0)) (As := [.int 0, .int x_1]) (rest := []) (wr := [((Wa 0), .inr (0, [.ref (Aa 0)])), ((Aa 0), .inr (9, [.int (Av 0), .int (Av 1), .int (Av 2), .int (Av 3), .int (Av 4), .int (Av 5), .ref (Aa 1), .ref (Aa 2), .ref (Aa 3), .ref (Aa 4), .ref (Aa 5), .ref (Aa 6), .ref (Aa 7), .ref (Aa 8)])), ((Aa 1), .inl (tc 0, 10, .inl (Af 1))), ((Aa 2), .inl (tc 0, 10, .inl (Af 2))), ((Aa 3), .inl (tc 0, 6, .inl (Af 3))), ((Aa 4), .inl (tc 0, 6, .inl (Af 4))), ((Aa 5), .inl (tc 0, 6, .inl (Af 5))), ((Aa 6), .inl (tc 0, 6, .inl (Af 6))), ((Aa 7), .inl (tc 0, 6, .inl (Af 7))), ((Aa 8), .inl (tc 0, 6, .inl (Af 8)))]) ⟨hx, hb, hml, hown, hts⟩ hK hX hA (cu_X10_takeNumber l D tc sk (Ta 0) (Ta 1) (Tv 0) (Tv 1) (Tv 2) (Tv 3) (Tv 4) (Tf 1) 0 x_1 hh_2) k_566 k_563 k_564 k_565 k_96 pl_X10_takeNumber ⟨Nat.le_of_ble_eq_true rfl, Nat.le_of_ble_eq_true rfl⟩ rfl rfl (va_recv hK hP (ci := 10) (q0 := 10) rfl rfl) hP hD hS [10, 11] [0, 1, 2, 3, 4, 5, 6, 7, 8, 9] rfl rfl rfl rfl rfl (by decide) rfl hl.1 rfl (Nat.le_of_ble_eq_true rfl) dX0_readWatch_11 ⟨Nat.le_of_ble_eq_true rfl, Nat.le_of_ble_eq_true rfl⟩ (fun v_3 u_4 H locs hv_5 hP hD hS => ?_)
  obtain ⟨sv_6, sv_7, sv_8, sv_9⟩ := u_4
  obtain ⟨r_10, rfl, he_11⟩ := hv_5
  have he_11 : (True) ∧ (0 ≤ ((Tv 0) : Int32).toInt ∧ ((Tv 0) : Int32).toInt ≤ 400 ∧ 0 ≤ (sv_6 : Int32).toInt ∧ (sv_6 : Int32).toInt ≤ 400 ∧ 0 ≤ (sv_7 : Int32).toInt ∧ (sv_7 : Int32).toInt ≤ 400) := he_11
  have he_11_0 : (0 ≤ ((Tv 0) : Int32).toInt ∧ ((Tv 0) : Int32).toInt ≤ 400 ∧ 0 ≤ (sv_6 : Int32).toInt ∧ (sv_6 : Int32).toInt ≤ 400 ∧ 0 ≤ (sv_7 : Int32).toInt ∧ (sv_7 : Int32).toInt ≤ 400) := he_11.2
  refine W.eq (g2 := F0 m 14 ls [.int r_10]) rfl ?_
  have hP : va_P D classes [((Wa 0), .inr (0, [.ref (Aa 0)])), ((Aa 0), .inr (9, [.int (Av 0), .int (Av 1), .int (Av 2), .int (Av 3), .int (Av 4), .int (Av 5), .ref (Aa 1), .ref (Aa 2), .ref (Aa 3), .ref (Aa 4), .ref (Aa 5), .ref (Aa 6), .ref (Aa 7), .ref (Aa 8)])), ((Aa 1), .inl (tc 0, 10, .inl (Af 1))), ((Aa 2), .inl (tc 0, 10, .inl (Af 2))), ((Aa 3), .inl (tc 0, 6, .inl (Af 3))), ((Aa 4), .inl (tc 0, 6, .inl (Af 4))), ((Aa 5), .inl (tc 0, 6, .inl (Af 5))), ((Aa 6), .inl (tc 0, 6, .inl (Af 6))), ((Aa 7), .inl (tc 0, 6, .inl (Af 7))), ((Aa 8), .inl (tc 0, 6, .inl (Af 8))), ((Ta 0), .inr (10, [.ref (Ta 1), .int (Tv 0), .int sv_6, .int sv_7, .int sv_8, .int sv_9])), ((Ta 1), .inl (tc 0, 400, .inl (Tf 1)))] H := hP
  have hD : va_D A [((Wa 0), .inr (0, [.ref (Aa 0)])), ((Aa 0), .inr (9, [.int (Av 0), .int (Av 1), .int (Av 2), .int (Av 3), .int (Av 4), .int (Av 5), .ref (Aa 1), .ref (Aa 2), .ref (Aa 3), .ref (Aa 4), .ref (Aa 5), .ref (Aa 6), .ref (Aa 7), .ref (Aa 8)])), ((Aa 1), .inl (tc 0, 10, .inl (Af 1))), ((Aa 2), .inl (tc 0, 10, .inl (Af 2))), ((Aa 3), .inl (tc 0, 6, .inl (Af 3))), ((Aa 4), .inl (tc 0, 6, .inl (Af 4))), ((Aa 5), .inl (tc 0, 6, .inl (Af 5))), ((Aa 6), .inl (tc 0, 6, .inl (Af 6))), ((Aa 7), .inl (tc 0, 6, .inl (Af 7))), ((Aa 8), .inl (tc 0, 6, .inl (Af 8))), ((Ta 0), .inr (10, [.ref (Ta 1), .int (Tv 0), .int sv_6, .int sv_7, .int sv_8, .int sv_9])), ((Ta 1), .inl (tc 0, 400, .inl (Tf 1)))] := hD
  refine lv_istore_n (lv' := [(2, .int r_10), (0, .ref (Wa 0)), (1, .ref (Ta 0))]) hx hb dX0_readWatch_14 rfl hl (by decide) rfl (fun ls hl => ?_)
  refine lv_aload_n hx hb dX0_readWatch_15 rfl (lv_at hl 2 rfl) ?_
  refine lv_iconst (v := 0) hx hb dX0_readWatch_16 (by decide) ?_
  refine lv_aload_n hx hb dX0_readWatch_17 rfl (lv_at hl 1 rfl) ?_
  refine gf_X0_12 hx hb hts hown hK hP 0 rfl rfl dX0_readWatch_18 ?_
  refine gf_X0_51 hx hb hts hown hK hP 1 rfl rfl dX0_readWatch_21 ?_
  refine lv_iconst (v := 1) hx hb dX0_readWatch_24 (by decide) ?_
  refine lv_isub hx hb dX0_readWatch_25 ?_
  refine lv_topi (fun x_12 ex_12 => ?_)
  have hh_13 : 0 ≤ ((Tv 0) : Int32).toInt ∧ ((Tv 0) : Int32).toInt ≤ 400 ∧ 0 ≤ (sv_6 : Int32).toInt ∧ (sv_6 : Int32).toInt ≤ 400 ∧ 0 ≤ (sv_7 : Int32).toInt ∧ (sv_7 : Int32).toInt ≤ 400 := by
    first | assumption | omega
  refine cV (a := (Ta 0)) (As := [.int 0, .int x_12]) (rest := []) (wr := [((Wa 0), .inr (0, [.ref (Aa 0)])), ((Aa 0), .inr (9, [.int (Av 0), .int (Av 1), .int (Av 2), .int (Av 3), .int (Av 4), .int (Av 5), .ref (Aa 1), .ref (Aa 2), .ref (Aa 3), .ref (Aa 4), .ref (Aa 5), .ref (Aa 6), .ref (Aa 7), .ref (Aa 8)])), ((Aa 1), .inl (tc 0, 10, .inl (Af 1))), ((Aa 2), .inl (tc 0, 10, .inl (Af 2))), ((Aa 3), .inl (tc 0, 6, .inl (Af 3))), ((Aa 4), .inl (tc 0, 6, .inl (Af 4))), ((Aa 5), .inl (tc 0, 6, .inl (Af 5))), ((Aa 6), .inl (tc 0, 6, .inl (Af 6))), ((Aa 7), .inl (tc 0, 6, .inl (Af 7))), ((Aa 8), .inl (tc 0, 6, .inl (Af 8)))]) ⟨hx, hb, hml, hown, hts⟩ hK hX hA (cu_X10_takeNumber l D tc sk (Ta 0) (Ta 1) (Tv 0) sv_6 sv_7 sv_8 sv_9 (Tf 1) 0 x_12 hh_13) k_566 k_563 k_564 k_565 k_96 pl_X10_takeNumber ⟨Nat.le_of_ble_eq_true rfl, Nat.le_of_ble_eq_true rfl⟩ rfl rfl (va_recv hK hP (ci := 10) (q0 := 10) rfl rfl) hP hD hS [10, 11] [0, 1, 2, 3, 4, 5, 6, 7, 8, 9] rfl rfl rfl rfl rfl (by decide) rfl hl.1 rfl (Nat.le_of_ble_eq_true rfl) dX0_readWatch_26 ⟨Nat.le_of_ble_eq_true rfl, Nat.le_of_ble_eq_true rfl⟩ (fun v_14 u_15 H locs hv_16 hP hD hS => ?_)
  obtain ⟨sv_17, sv_18, sv_19, sv_20⟩ := u_15
  obtain ⟨r_21, rfl, he_22⟩ := hv_16
  have he_22 : (True) ∧ (0 ≤ ((Tv 0) : Int32).toInt ∧ ((Tv 0) : Int32).toInt ≤ 400 ∧ 0 ≤ (sv_17 : Int32).toInt ∧ (sv_17 : Int32).toInt ≤ 400 ∧ 0 ≤ (sv_18 : Int32).toInt ∧ (sv_18 : Int32).toInt ≤ 400) := he_22
  have he_22_0 : (0 ≤ ((Tv 0) : Int32).toInt ∧ ((Tv 0) : Int32).toInt ≤ 400 ∧ 0 ≤ (sv_17 : Int32).toInt ∧ (sv_17 : Int32).toInt ≤ 400 ∧ 0 ≤ (sv_18 : Int32).toInt ∧ (sv_18 : Int32).toInt ≤ 400) := he_22.2
  refine W.eq (g2 := F0 m 29 ls [.int r_21]) rfl ?_
  have hP : va_P D classes [((Wa 0), .inr (0, [.ref (Aa 0)])), ((Aa 0), .inr (9, [.int (Av 0), .int (Av 1), .int (Av 2), .int (Av 3), .int (Av 4), .int (Av 5), .ref (Aa 1), .ref (Aa 2), .ref (Aa 3), .ref (Aa 4), .ref (Aa 5), .ref (Aa 6), .ref (Aa 7), .ref (Aa 8)])), ((Aa 1), .inl (tc 0, 10, .inl (Af 1))), ((Aa 2), .inl (tc 0, 10, .inl (Af 2))), ((Aa 3), .inl (tc 0, 6, .inl (Af 3))), ((Aa 4), .inl (tc 0, 6, .inl (Af 4))), ((Aa 5), .inl (tc 0, 6, .inl (Af 5))), ((Aa 6), .inl (tc 0, 6, .inl (Af 6))), ((Aa 7), .inl (tc 0, 6, .inl (Af 7))), ((Aa 8), .inl (tc 0, 6, .inl (Af 8))), ((Ta 0), .inr (10, [.ref (Ta 1), .int (Tv 0), .int sv_17, .int sv_18, .int sv_19, .int sv_20])), ((Ta 1), .inl (tc 0, 400, .inl (Tf 1)))] H := hP
  have hD : va_D A [((Wa 0), .inr (0, [.ref (Aa 0)])), ((Aa 0), .inr (9, [.int (Av 0), .int (Av 1), .int (Av 2), .int (Av 3), .int (Av 4), .int (Av 5), .ref (Aa 1), .ref (Aa 2), .ref (Aa 3), .ref (Aa 4), .ref (Aa 5), .ref (Aa 6), .ref (Aa 7), .ref (Aa 8)])), ((Aa 1), .inl (tc 0, 10, .inl (Af 1))), ((Aa 2), .inl (tc 0, 10, .inl (Af 2))), ((Aa 3), .inl (tc 0, 6, .inl (Af 3))), ((Aa 4), .inl (tc 0, 6, .inl (Af 4))), ((Aa 5), .inl (tc 0, 6, .inl (Af 5))), ((Aa 6), .inl (tc 0, 6, .inl (Af 6))), ((Aa 7), .inl (tc 0, 6, .inl (Af 7))), ((Aa 8), .inl (tc 0, 6, .inl (Af 8))), ((Ta 0), .inr (10, [.ref (Ta 1), .int (Tv 0), .int sv_17, .int sv_18, .int sv_19, .int sv_20])), ((Ta 1), .inl (tc 0, 400, .inl (Tf 1)))] := hD
  refine lv_istore_n (lv' := [(3, .int r_21), (2, .int r_10), (0, .ref (Wa 0)), (1, .ref (Ta 0))]) hx hb dX0_readWatch_29 rfl hl (by decide) rfl (fun ls hl => ?_)
  refine lv_aload_n hx hb dX0_readWatch_30 rfl (lv_at hl 2 rfl) ?_
  refine gf_X0_12 hx hb hts hown hK hP 0 rfl rfl dX0_readWatch_31 ?_
  refine lv_iload_n hx hb dX0_readWatch_34 rfl (lv_at hl 1 rfl) ?_
  refine cV (a := (Aa 0)) (As := [.int r_10]) (rest := []) (wr := [((Wa 0), .inr (0, [.ref (Aa 0)])), ((Ta 0), .inr (10, [.ref (Ta 1), .int (Tv 0), .int sv_17, .int sv_18, .int sv_19, .int sv_20])), ((Ta 1), .inl (tc 0, 400, .inl (Tf 1)))]) ⟨hx, hb, hml, hown, hts⟩ hK hX hA (cu_X9_hasClock l D tc sk (Aa 0) (Aa 1) (Aa 2) (Aa 3) (Aa 4) (Aa 5) (Aa 6) (Aa 7) (Aa 8) (Av 0) (Av 1) (Av 2) (Av 3) (Av 4) (Av 5) (Af 1) (Af 2) (Af 3) (Af 4) (Af 5) (Af 6) (Af 7) (Af 8) r_10) k_579 k_576 k_577 k_578 k_98 pl_X9_hasClock ⟨Nat.le_of_ble_eq_true rfl, Nat.le_of_ble_eq_true rfl⟩ rfl rfl (va_recv hK hP (ci := 9) (q0 := 1) rfl rfl) hP hD hS [1, 2, 3, 4, 5, 6, 7, 8, 9] [0, 10, 11] rfl rfl rfl rfl rfl (by decide) rfl hl.1 rfl (Nat.le_of_ble_eq_true rfl) dX0_readWatch_35 ⟨Nat.le_of_ble_eq_true rfl, Nat.le_of_ble_eq_true rfl⟩ (fun v_23 u_24 H locs hv_25 hP hD hS => ?_)
  obtain ⟨r_26, rfl, he_27⟩ := hv_25
  have he_27 : ((r_26.toInt = 0 ∨ (r_26.toInt = 1 ∧ 0 ≤ r_10.toInt ∧ r_10.toInt < 10))) := he_27
  refine W.eq (g2 := F0 m 38 ls [.int r_26]) rfl ?_
  have hP : va_P D classes [((Wa 0), .inr (0, [.ref (Aa 0)])), ((Ta 0), .inr (10, [.ref (Ta 1), .int (Tv 0), .int sv_17, .int sv_18, .int sv_19, .int sv_20])), ((Ta 1), .inl (tc 0, 400, .inl (Tf 1))), ((Aa 0), .inr (9, [.int (Av 0), .int (Av 1), .int (Av 2), .int (Av 3), .int (Av 4), .int (Av 5), .ref (Aa 1), .ref (Aa 2), .ref (Aa 3), .ref (Aa 4), .ref (Aa 5), .ref (Aa 6), .ref (Aa 7), .ref (Aa 8)])), ((Aa 1), .inl (tc 0, 10, .inl (Af 1))), ((Aa 2), .inl (tc 0, 10, .inl (Af 2))), ((Aa 3), .inl (tc 0, 6, .inl (Af 3))), ((Aa 4), .inl (tc 0, 6, .inl (Af 4))), ((Aa 5), .inl (tc 0, 6, .inl (Af 5))), ((Aa 6), .inl (tc 0, 6, .inl (Af 6))), ((Aa 7), .inl (tc 0, 6, .inl (Af 7))), ((Aa 8), .inl (tc 0, 6, .inl (Af 8)))] H := hP
  have hD : va_D A [((Wa 0), .inr (0, [.ref (Aa 0)])), ((Ta 0), .inr (10, [.ref (Ta 1), .int (Tv 0), .int sv_17, .int sv_18, .int sv_19, .int sv_20])), ((Ta 1), .inl (tc 0, 400, .inl (Tf 1))), ((Aa 0), .inr (9, [.int (Av 0), .int (Av 1), .int (Av 2), .int (Av 3), .int (Av 4), .int (Av 5), .ref (Aa 1), .ref (Aa 2), .ref (Aa 3), .ref (Aa 4), .ref (Aa 5), .ref (Aa 6), .ref (Aa 7), .ref (Aa 8)])), ((Aa 1), .inl (tc 0, 10, .inl (Af 1))), ((Aa 2), .inl (tc 0, 10, .inl (Af 2))), ((Aa 3), .inl (tc 0, 6, .inl (Af 3))), ((Aa 4), .inl (tc 0, 6, .inl (Af 4))), ((Aa 5), .inl (tc 0, 6, .inl (Af 5))), ((Aa 6), .inl (tc 0, 6, .inl (Af 6))), ((Aa 7), .inl (tc 0, 6, .inl (Af 7))), ((Aa 8), .inl (tc 0, 6, .inl (Af 8)))] := hD
  refine lv_if_eq (tgt := 67) hx hb dX0_readWatch_38 (by decide) (fun c_28 => ?_) (fun c_28 => ?_)
  · skip
    have hq_29 : 0 ≤ ((Tv 0) : Int32).toInt ∧ ((Tv 0) : Int32).toInt ≤ 400 ∧ 0 ≤ (sv_17 : Int32).toInt ∧ (sv_17 : Int32).toInt ≤ 400 ∧ 0 ≤ (sv_18 : Int32).toInt ∧ (sv_18 : Int32).toInt ≤ 400 := by
      have z_1 := congrArg Int32.toInt c_28
      have y_0 : (0 : Int32).toInt = 0 := by decide
      first | assumption | omega
    have hq_30 : 0 ≤ ((Av 3) : Int32).toInt ∧ ((Av 3) : Int32).toInt ≤ 6 := by
      have z_1 := congrArg Int32.toInt c_28
      have y_0 : (0 : Int32).toInt = 0 := by decide
      first | assumption | omega
    exact retV hx hb hr hlk hP hD hS ((Af 2), sv_17, sv_18, sv_19, sv_20) ⟨rfl, hq_29, hq_30⟩ [0, 3, 4, 5, 6, 7, 8, 9, 10, 11, 1, 2] rfl rfl dX0_readWatch_67 (Nat.le_of_ble_eq_true rfl) (Nat.le_of_ble_eq_true rfl) rfl
  · skip
    refine lv_aload_n hx hb dX0_readWatch_41 rfl (lv_at hl 2 rfl) ?_
    refine gf_X0_12 hx hb hts hown hK hP 0 rfl rfl dX0_readWatch_42 ?_
    refine lv_iload_n hx hb dX0_readWatch_45 rfl (lv_at hl 0 rfl) ?_
    refine cV (a := (Aa 0)) (As := [.int r_21]) (rest := []) (wr := [((Wa 0), .inr (0, [.ref (Aa 0)])), ((Ta 0), .inr (10, [.ref (Ta 1), .int (Tv 0), .int sv_17, .int sv_18, .int sv_19, .int sv_20])), ((Ta 1), .inl (tc 0, 400, .inl (Tf 1)))]) ⟨hx, hb, hml, hown, hts⟩ hK hX hA (cu_X9_hasBuyer l D tc sk (Aa 0) (Aa 1) (Aa 2) (Aa 3) (Aa 4) (Aa 5) (Aa 6) (Aa 7) (Aa 8) (Av 0) (Av 1) (Av 2) (Av 3) (Av 4) (Av 5) (Af 1) (Af 2) (Af 3) (Af 4) (Af 5) (Af 6) (Af 7) (Af 8) r_21) k_591 k_588 k_589 k_590 k_98 pl_X9_hasBuyer ⟨Nat.le_of_ble_eq_true rfl, Nat.le_of_ble_eq_true rfl⟩ rfl rfl (va_recv hK hP (ci := 9) (q0 := 3) rfl rfl) hP hD hS [3, 4, 5, 6, 7, 8, 9, 10, 11] [0, 1, 2] rfl rfl rfl rfl rfl (by decide) rfl hl.1 rfl (Nat.le_of_ble_eq_true rfl) dX0_readWatch_46 ⟨Nat.le_of_ble_eq_true rfl, Nat.le_of_ble_eq_true rfl⟩ (fun v_31 u_32 H locs hv_33 hP hD hS => ?_)
    obtain ⟨r_34, rfl, he_35⟩ := hv_33
    have he_35 : ((r_34.toInt = 0 ∨ (r_34.toInt = 1 ∧ 0 ≤ r_21.toInt ∧ r_21.toInt < 6 ∧ r_21.toInt < (Av 3).toInt))) := he_35
    refine W.eq (g2 := F0 m 49 ls [.int r_34]) rfl ?_
    have hP : va_P D classes [((Wa 0), .inr (0, [.ref (Aa 0)])), ((Ta 0), .inr (10, [.ref (Ta 1), .int (Tv 0), .int sv_17, .int sv_18, .int sv_19, .int sv_20])), ((Ta 1), .inl (tc 0, 400, .inl (Tf 1))), ((Aa 0), .inr (9, [.int (Av 0), .int (Av 1), .int (Av 2), .int (Av 3), .int (Av 4), .int (Av 5), .ref (Aa 1), .ref (Aa 2), .ref (Aa 3), .ref (Aa 4), .ref (Aa 5), .ref (Aa 6), .ref (Aa 7), .ref (Aa 8)])), ((Aa 1), .inl (tc 0, 10, .inl (Af 1))), ((Aa 2), .inl (tc 0, 10, .inl (Af 2))), ((Aa 3), .inl (tc 0, 6, .inl (Af 3))), ((Aa 4), .inl (tc 0, 6, .inl (Af 4))), ((Aa 5), .inl (tc 0, 6, .inl (Af 5))), ((Aa 6), .inl (tc 0, 6, .inl (Af 6))), ((Aa 7), .inl (tc 0, 6, .inl (Af 7))), ((Aa 8), .inl (tc 0, 6, .inl (Af 8)))] H := hP
    have hD : va_D A [((Wa 0), .inr (0, [.ref (Aa 0)])), ((Ta 0), .inr (10, [.ref (Ta 1), .int (Tv 0), .int sv_17, .int sv_18, .int sv_19, .int sv_20])), ((Ta 1), .inl (tc 0, 400, .inl (Tf 1))), ((Aa 0), .inr (9, [.int (Av 0), .int (Av 1), .int (Av 2), .int (Av 3), .int (Av 4), .int (Av 5), .ref (Aa 1), .ref (Aa 2), .ref (Aa 3), .ref (Aa 4), .ref (Aa 5), .ref (Aa 6), .ref (Aa 7), .ref (Aa 8)])), ((Aa 1), .inl (tc 0, 10, .inl (Af 1))), ((Aa 2), .inl (tc 0, 10, .inl (Af 2))), ((Aa 3), .inl (tc 0, 6, .inl (Af 3))), ((Aa 4), .inl (tc 0, 6, .inl (Af 4))), ((Aa 5), .inl (tc 0, 6, .inl (Af 5))), ((Aa 6), .inl (tc 0, 6, .inl (Af 6))), ((Aa 7), .inl (tc 0, 6, .inl (Af 7))), ((Aa 8), .inl (tc 0, 6, .inl (Af 8)))] := hD
    refine lv_if_eq (tgt := 67) hx hb dX0_readWatch_49 (by decide) (fun c_36 => ?_) (fun c_36 => ?_)
    · skip
      have hq_37 : 0 ≤ ((Tv 0) : Int32).toInt ∧ ((Tv 0) : Int32).toInt ≤ 400 ∧ 0 ≤ (sv_17 : Int32).toInt ∧ (sv_17 : Int32).toInt ≤ 400 ∧ 0 ≤ (sv_18 : Int32).toInt ∧ (sv_18 : Int32).toInt ≤ 400 := by
        have z_1 : ¬ (r_26 : Int32).toInt = (0 : Int32).toInt := fun z => c_28 (Int32.toInt_inj.mp z)
        have z_2 := congrArg Int32.toInt c_36
        have y_0 : (0 : Int32).toInt = 0 := by decide
        first | assumption | omega
      have hq_38 : 0 ≤ ((Av 3) : Int32).toInt ∧ ((Av 3) : Int32).toInt ≤ 6 := by
        have z_1 : ¬ (r_26 : Int32).toInt = (0 : Int32).toInt := fun z => c_28 (Int32.toInt_inj.mp z)
        have z_2 := congrArg Int32.toInt c_36
        have y_0 : (0 : Int32).toInt = 0 := by decide
        first | assumption | omega
      exact retV hx hb hr hlk hP hD hS ((Af 2), sv_17, sv_18, sv_19, sv_20) ⟨rfl, hq_37, hq_38⟩ [0, 3, 4, 5, 6, 7, 8, 9, 10, 11, 1, 2] rfl rfl dX0_readWatch_67 (Nat.le_of_ble_eq_true rfl) (Nat.le_of_ble_eq_true rfl) rfl
    · skip
      refine lv_aload_n hx hb dX0_readWatch_52 rfl (lv_at hl 2 rfl) ?_
      refine gf_X0_12 hx hb hts hown hK hP 0 rfl rfl dX0_readWatch_53 ?_
      refine gf_X0_103 hx hb hts hown hK hP 3 rfl rfl dX0_readWatch_56 ?_
      refine lv_iload_n hx hb dX0_readWatch_59 rfl (lv_at hl 1 rfl) ?_
      refine lv_dup2_11 hx hb dX0_readWatch_60 rfl rfl ?_
      have hi_39 : vp_in r_10 10 := by
        have z_1 : ¬ (r_26 : Int32).toInt = (0 : Int32).toInt := fun z => c_28 (Int32.toInt_inj.mp z)
        have z_2 : ¬ (r_34 : Int32).toInt = (0 : Int32).toInt := fun z => c_36 (Int32.toInt_inj.mp z)
        have y_0 : (0 : Int32).toInt = 0 := by decide
        refine vp_in_iff.mpr ⟨?_, ?_⟩ <;> omega
      refine va_iald hx hb hK hP 5 0 rfl rfl hi_39 dX0_readWatch_61 ?_
      refine lv_topi (fun x_40 ex_40 => ?_)
      refine lv_iconst (v := 1) hx hb dX0_readWatch_62 (by decide) ?_
      refine lv_iload_n hx hb dX0_readWatch_63 rfl (lv_at hl 0 rfl) ?_
      refine lv_ishl hx hb dX0_readWatch_64 ?_
      refine lv_topi (fun x_41 ex_41 => ?_)
      refine lv_ior hx hb dX0_readWatch_65 ?_
      refine lv_topi (fun x_42 ex_42 => ?_)
      have hi_43 : vp_in r_10 10 := by
        have z_1 : ¬ (r_26 : Int32).toInt = (0 : Int32).toInt := fun z => c_28 (Int32.toInt_inj.mp z)
        have z_2 : ¬ (r_34 : Int32).toInt = (0 : Int32).toInt := fun z => c_36 (Int32.toInt_inj.mp z)
        have y_0 : (0 : Int32).toInt = 0 := by decide
        refine vp_in_iff.mpr ⟨?_, ?_⟩ <;> omega
      refine st_int hx hb hK hP hD hS 5 0 rfl rfl hi_43 dX0_readWatch_66 (fun g_44 H locs eg_44 hP hD hS => ?_)
      have hP : va_P D classes [((Wa 0), .inr (0, [.ref (Aa 0)])), ((Ta 0), .inr (10, [.ref (Ta 1), .int (Tv 0), .int sv_17, .int sv_18, .int sv_19, .int sv_20])), ((Ta 1), .inl (tc 0, 400, .inl (Tf 1))), ((Aa 0), .inr (9, [.int (Av 0), .int (Av 1), .int (Av 2), .int (Av 3), .int (Av 4), .int (Av 5), .ref (Aa 1), .ref (Aa 2), .ref (Aa 3), .ref (Aa 4), .ref (Aa 5), .ref (Aa 6), .ref (Aa 7), .ref (Aa 8)])), ((Aa 1), .inl (tc 0, 10, .inl (Af 1))), ((Aa 2), .inl (tc 0, 10, .inl g_44)), ((Aa 3), .inl (tc 0, 6, .inl (Af 3))), ((Aa 4), .inl (tc 0, 6, .inl (Af 4))), ((Aa 5), .inl (tc 0, 6, .inl (Af 5))), ((Aa 6), .inl (tc 0, 6, .inl (Af 6))), ((Aa 7), .inl (tc 0, 6, .inl (Af 7))), ((Aa 8), .inl (tc 0, 6, .inl (Af 8)))] H := hP
      have hD : va_D A [((Wa 0), .inr (0, [.ref (Aa 0)])), ((Ta 0), .inr (10, [.ref (Ta 1), .int (Tv 0), .int sv_17, .int sv_18, .int sv_19, .int sv_20])), ((Ta 1), .inl (tc 0, 400, .inl (Tf 1))), ((Aa 0), .inr (9, [.int (Av 0), .int (Av 1), .int (Av 2), .int (Av 3), .int (Av 4), .int (Av 5), .ref (Aa 1), .ref (Aa 2), .ref (Aa 3), .ref (Aa 4), .ref (Aa 5), .ref (Aa 6), .ref (Aa 7), .ref (Aa 8)])), ((Aa 1), .inl (tc 0, 10, .inl (Af 1))), ((Aa 2), .inl (tc 0, 10, .inl g_44)), ((Aa 3), .inl (tc 0, 6, .inl (Af 3))), ((Aa 4), .inl (tc 0, 6, .inl (Af 4))), ((Aa 5), .inl (tc 0, 6, .inl (Af 5))), ((Aa 6), .inl (tc 0, 6, .inl (Af 6))), ((Aa 7), .inl (tc 0, 6, .inl (Af 7))), ((Aa 8), .inl (tc 0, 6, .inl (Af 8)))] := hD
      have hq_45 : 0 ≤ ((Tv 0) : Int32).toInt ∧ ((Tv 0) : Int32).toInt ≤ 400 ∧ 0 ≤ (sv_17 : Int32).toInt ∧ (sv_17 : Int32).toInt ≤ 400 ∧ 0 ≤ (sv_18 : Int32).toInt ∧ (sv_18 : Int32).toInt ≤ 400 := by
        have z_1 : ¬ (r_26 : Int32).toInt = (0 : Int32).toInt := fun z => c_28 (Int32.toInt_inj.mp z)
        have z_2 : ¬ (r_34 : Int32).toInt = (0 : Int32).toInt := fun z => c_36 (Int32.toInt_inj.mp z)
        have y_0 : (0 : Int32).toInt = 0 := by decide
        first | assumption | omega
      have hq_46 : 0 ≤ ((Av 3) : Int32).toInt ∧ ((Av 3) : Int32).toInt ≤ 6 := by
        have z_1 : ¬ (r_26 : Int32).toInt = (0 : Int32).toInt := fun z => c_28 (Int32.toInt_inj.mp z)
        have z_2 : ¬ (r_34 : Int32).toInt = (0 : Int32).toInt := fun z => c_36 (Int32.toInt_inj.mp z)
        have y_0 : (0 : Int32).toInt = 0 := by decide
        first | assumption | omega
      exact retV hx hb hr hlk hP hD hS (g_44, sv_17, sv_18, sv_19, sv_20) ⟨rfl, hq_45, hq_46⟩ [0, 3, 4, 5, 6, 7, 8, 9, 10, 11, 1, 2] rfl rfl dX0_readWatch_67 (Nat.le_of_ble_eq_true rfl) (Nat.le_of_ble_eq_true rfl) rfl
set_option maxRecDepth 100000 in
theorem cu_X0_readWatch (l : Launch) (D : va_G) (tc : Nat → ClassId) (sk : (Nat → Nat) × (Nat → Nat)) (Wa_0 : Nat) (Aa_0 : Nat) (Aa_1 : Nat) (Aa_2 : Nat) (Aa_3 : Nat) (Aa_4 : Nat) (Aa_5 : Nat) (Aa_6 : Nat) (Aa_7 : Nat) (Aa_8 : Nat) (Av_0 : Int32) (Av_1 : Int32) (Av_2 : Int32) (Av_3 : Int32) (Av_4 : Int32) (Av_5 : Int32) (Af_1 : Nat → Int32) (Af_2 : Nat → Int32) (Af_3 : Nat → Int32) (Af_4 : Nat → Int32) (Af_5 : Nat → Int32) (Af_6 : Nat → Int32) (Af_7 : Nat → Int32) (Af_8 : Nat → Int32) (Ta_0 : Nat) (Ta_1 : Nat) (Tv_0 : Int32) (Tv_1 : Int32) (Tv_2 : Int32) (Tv_3 : Int32) (Tv_4 : Int32) (Tf_1 : Nat → Int32) (h_tape : 0 ≤ (Tv_0 : Int32).toInt ∧ (Tv_0 : Int32).toInt ≤ 400 ∧ 0 ≤ (Tv_1 : Int32).toInt ∧ (Tv_1 : Int32).toInt ≤ 400 ∧ 0 ≤ (Tv_2 : Int32).toInt ∧ (Tv_2 : Int32).toInt ≤ 400) (h_buy : 0 ≤ (Av_3 : Int32).toInt ∧ (Av_3 : Int32).toInt ≤ 6) : Ct l yX0_readWatch cX0_readWatch 4 none { frames := 3, cells := 0, slots := 0, locals := 68 } D tc sk [.ref Wa_0, .ref Ta_0] [(Wa_0, .inr (0, [.ref Aa_0])), (Aa_0, .inr (9, [.int Av_0, .int Av_1, .int Av_2, .int Av_3, .int Av_4, .int Av_5, .ref Aa_1, .ref Aa_2, .ref Aa_3, .ref Aa_4, .ref Aa_5, .ref Aa_6, .ref Aa_7, .ref Aa_8])), (Aa_1, .inl (tc 0, 10, .inl Af_1)), (Aa_2, .inl (tc 0, 10, .inl Af_2)), (Aa_3, .inl (tc 0, 6, .inl Af_3)), (Aa_4, .inl (tc 0, 6, .inl Af_4)), (Aa_5, .inl (tc 0, 6, .inl Af_5)), (Aa_6, .inl (tc 0, 6, .inl Af_6)), (Aa_7, .inl (tc 0, 6, .inl Af_7)), (Aa_8, .inl (tc 0, 6, .inl Af_8)), (Ta_0, .inr (10, [.ref Ta_1, .int Tv_0, .int Tv_1, .int Tv_2, .int Tv_3, .int Tv_4])), (Ta_1, .inl (tc 0, 400, .inl Tf_1))] (fun (v : Option Value) (u : (Nat → Int32) × (Int32) × (Int32) × (Int32) × (Int32)) => match u with | (o1, o2, o3, o4, o5) => v = none ∧ (0 ≤ (Tv_0 : Int32).toInt ∧ (Tv_0 : Int32).toInt ≤ 400 ∧ 0 ≤ (o2 : Int32).toInt ∧ (o2 : Int32).toInt ≤ 400 ∧ 0 ≤ (o3 : Int32).toInt ∧ (o3 : Int32).toInt ≤ 400) ∧ (0 ≤ (Av_3 : Int32).toInt ∧ (Av_3 : Int32).toInt ≤ 6)) (fun (u : (Nat → Int32) × (Int32) × (Int32) × (Int32) × (Int32)) => match u with | (o1, o2, o3, o4, o5) => [(Wa_0, .inr (0, [.ref Aa_0])), (Aa_0, .inr (9, [.int Av_0, .int Av_1, .int Av_2, .int Av_3, .int Av_4, .int Av_5, .ref Aa_1, .ref Aa_2, .ref Aa_3, .ref Aa_4, .ref Aa_5, .ref Aa_6, .ref Aa_7, .ref Aa_8])), (Aa_1, .inl (tc 0, 10, .inl Af_1)), (Aa_2, .inl (tc 0, 10, .inl o1)), (Aa_3, .inl (tc 0, 6, .inl Af_3)), (Aa_4, .inl (tc 0, 6, .inl Af_4)), (Aa_5, .inl (tc 0, 6, .inl Af_5)), (Aa_6, .inl (tc 0, 6, .inl Af_6)), (Aa_7, .inl (tc 0, 6, .inl Af_7)), (Aa_8, .inl (tc 0, 6, .inl Af_8)), (Ta_0, .inr (10, [.ref Ta_1, .int Tv_0, .int o2, .int o3, .int o4, .int o5])), (Ta_1, .inl (tc 0, 400, .inl Tf_1))]) 0 0 :=
  ct_X0_readWatch l D tc sk (fun k => ([Wa_0] : List (Nat)).getD k 0) (fun k => ([Aa_0, Aa_1, Aa_2, Aa_3, Aa_4, Aa_5, Aa_6, Aa_7, Aa_8] : List (Nat)).getD k 0) (fun k => ([Av_0, Av_1, Av_2, Av_3, Av_4, Av_5] : List (Int32)).getD k 0) (fun k => ([(fun _ => 0), Af_1, Af_2, Af_3, Af_4, Af_5, Af_6, Af_7, Af_8] : List (Nat → Int32)).getD k (fun _ => 0)) (fun k => ([Ta_0, Ta_1] : List (Nat)).getD k 0) (fun k => ([Tv_0, Tv_1, Tv_2, Tv_3, Tv_4] : List (Int32)).getD k 0) (fun k => ([(fun _ => 0), Tf_1] : List (Nat → Int32)).getD k (fun _ => 0)) h_tape h_buy
set_option maxHeartbeats 4000000 in
set_option maxRecDepth 100000 in
theorem ct_X0_readClause (l : Launch) (D : va_G) (tc : Nat → ClassId) (sk : (Nat → Nat) × (Nat → Nat)) (Wa : Nat → Nat) (Aa : Nat → Nat) (Av : Nat → Int32) (Af : Nat → Nat → Int32) (Ta : Nat → Nat) (Tv : Nat → Int32) (Tf : Nat → Nat → Int32) (x1 : Int32) (h_tape : 0 ≤ ((Tv 0) : Int32).toInt ∧ ((Tv 0) : Int32).toInt ≤ 400 ∧ 0 ≤ ((Tv 1) : Int32).toInt ∧ ((Tv 1) : Int32).toInt ≤ 400 ∧ 0 ≤ ((Tv 2) : Int32).toInt ∧ ((Tv 2) : Int32).toInt ≤ 400) (h_buy : 0 ≤ ((Av 3) : Int32).toInt ∧ ((Av 3) : Int32).toInt ≤ 6) : Ct l yX0_readClause cX0_readClause 4 none { frames := 6, cells := 0, slots := 0, locals := 133 } D tc sk [.ref (Wa 0), .ref (Ta 0), .int x1] [((Wa 0), .inr (0, [.ref (Aa 0)])), ((Aa 0), .inr (9, [.int (Av 0), .int (Av 1), .int (Av 2), .int (Av 3), .int (Av 4), .int (Av 5), .ref (Aa 1), .ref (Aa 2), .ref (Aa 3), .ref (Aa 4), .ref (Aa 5), .ref (Aa 6), .ref (Aa 7), .ref (Aa 8)])), ((Aa 1), .inl (tc 0, 10, .inl (Af 1))), ((Aa 2), .inl (tc 0, 10, .inl (Af 2))), ((Aa 3), .inl (tc 0, 6, .inl (Af 3))), ((Aa 4), .inl (tc 0, 6, .inl (Af 4))), ((Aa 5), .inl (tc 0, 6, .inl (Af 5))), ((Aa 6), .inl (tc 0, 6, .inl (Af 6))), ((Aa 7), .inl (tc 0, 6, .inl (Af 7))), ((Aa 8), .inl (tc 0, 6, .inl (Af 8))), ((Ta 0), .inr (10, [.ref (Ta 1), .int (Tv 0), .int (Tv 1), .int (Tv 2), .int (Tv 3), .int (Tv 4)])), ((Ta 1), .inl (tc 0, 400, .inl (Tf 1)))] (fun (v : Option Value) (u : (Int32) × (Int32) × (Int32) × (Int32) × (Nat → Int32) × (Nat → Int32) × (Nat → Int32) × (Nat → Int32) × (Nat → Int32) × (Int32) × (Int32) × (Int32) × (Int32)) => match u with | (o1, o2, o3, o4, o5, o6, o7, o8, o9, o10, o11, o12, o13) => v = none ∧ (0 ≤ ((Tv 0) : Int32).toInt ∧ ((Tv 0) : Int32).toInt ≤ 400 ∧ 0 ≤ (o10 : Int32).toInt ∧ (o10 : Int32).toInt ≤ 400 ∧ 0 ≤ (o11 : Int32).toInt ∧ (o11 : Int32).toInt ≤ 400) ∧ (0 ≤ (o4 : Int32).toInt ∧ (o4 : Int32).toInt ≤ 6)) (fun (u : (Int32) × (Int32) × (Int32) × (Int32) × (Nat → Int32) × (Nat → Int32) × (Nat → Int32) × (Nat → Int32) × (Nat → Int32) × (Int32) × (Int32) × (Int32) × (Int32)) => match u with | (o1, o2, o3, o4, o5, o6, o7, o8, o9, o10, o11, o12, o13) => [((Wa 0), .inr (0, [.ref (Aa 0)])), ((Aa 0), .inr (9, [.int o1, .int o2, .int o3, .int o4, .int (Av 4), .int (Av 5), .ref (Aa 1), .ref (Aa 2), .ref (Aa 3), .ref (Aa 4), .ref (Aa 5), .ref (Aa 6), .ref (Aa 7), .ref (Aa 8)])), ((Aa 1), .inl (tc 0, 10, .inl o5)), ((Aa 2), .inl (tc 0, 10, .inl o6)), ((Aa 3), .inl (tc 0, 6, .inl o7)), ((Aa 4), .inl (tc 0, 6, .inl o8)), ((Aa 5), .inl (tc 0, 6, .inl o9)), ((Aa 6), .inl (tc 0, 6, .inl (Af 6))), ((Aa 7), .inl (tc 0, 6, .inl (Af 7))), ((Aa 8), .inl (tc 0, 6, .inl (Af 8))), ((Ta 0), .inr (10, [.ref (Ta 1), .int (Tv 0), .int o10, .int o11, .int o12, .int o13])), ((Ta 1), .inl (tc 0, 400, .inl (Tf 1)))]) 0 0 := by
  refine Ct.start (by decide) (Nat.le_of_ble_eq_true rfl) (fun p e s m below meth c A ls hx hb hr hlk hin hml hown hts hK hX hP hD hA hl hS => ?_)
  have hl : lv_has ls 4 [(0, .ref (Wa 0)), (1, .ref (Ta 0)), (2, .int x1)] := hl
  refine lv_aload_n hx hb dX0_readClause_0 rfl (lv_at hl 1 rfl) ?_
  refine va_ldcS hx hb hown (hX.2.2.2.1 0 _ rfl) dX0_readClause_1 ?_
  have hh_1 : (0 : Nat) < 7 := by
    have y_0 : (0 : Int32).toInt = 0 := by decide
    first | assumption | omega
  have hh_2 : 0 ≤ ((Tv 0) : Int32).toInt ∧ ((Tv 0) : Int32).toInt ≤ 400 ∧ 0 ≤ ((Tv 1) : Int32).toInt ∧ ((Tv 1) : Int32).toInt ≤ 400 ∧ 0 ≤ ((Tv 2) : Int32).toInt ∧ ((Tv 2) : Int32).toInt ≤ 400 := by
    first | assumption | omega
  refine cV (a := (Ta 0)) (As := [.ref (sk.1 0)]) (rest := []) (wr := [((Wa 0), .inr (0, [.ref (Aa 0)])), ((Aa 0), .inr (9, [.int (Av 0), .int (Av 1), .int (Av 2), .int (Av 3), .int (Av 4), .int (Av 5), .ref (Aa 1), .ref (Aa 2), .ref (Aa 3), .ref (Aa 4), .ref (Aa 5), .ref (Aa 6), .ref (Aa 7), .ref (Aa 8)])), ((Aa 1), .inl (tc 0, 10, .inl (Af 1))), ((Aa 2), .inl (tc 0, 10, .inl (Af 2))), ((Aa 3), .inl (tc 0, 6, .inl (Af 3))), ((Aa 4), .inl (tc 0, 6, .inl (Af 4))), ((Aa 5), .inl (tc 0, 6, .inl (Af 5))), ((Aa 6), .inl (tc 0, 6, .inl (Af 6))), ((Aa 7), .inl (tc 0, 6, .inl (Af 7))), ((Aa 8), .inl (tc 0, 6, .inl (Af 8)))]) ⟨hx, hb, hml, hown, hts⟩ hK hX hA (cu_X10_wordAmong l D tc sk (Ta 0) (Ta 1) (Tv 0) (Tv 1) (Tv 2) (Tv 3) (Tv 4) (Tf 1) 0 hh_1 hh_2) k_501 k_498 k_499 k_500 k_96 pl_X10_wordAmong ⟨Nat.le_of_ble_eq_true rfl, Nat.le_of_ble_eq_true rfl⟩ rfl rfl (va_recv hK hP (ci := 10) (q0 := 10) rfl rfl) hP hD hS [10, 11] [0, 1, 2, 3, 4, 5, 6, 7, 8, 9] rfl rfl rfl rfl rfl (by decide) rfl hl.1 rfl (Nat.le_of_ble_eq_true rfl) dX0_readClause_3 ⟨Nat.le_of_ble_eq_true rfl, Nat.le_of_ble_eq_true rfl⟩ (fun v_3 u_4 H locs hv_5 hP hD hS => ?_)
  obtain ⟨r_6, rfl, he_7⟩ := hv_5
  have he_7 : (True) ∧ (0 ≤ ((Tv 0) : Int32).toInt ∧ ((Tv 0) : Int32).toInt ≤ 400 ∧ 0 ≤ ((Tv 1) : Int32).toInt ∧ ((Tv 1) : Int32).toInt ≤ 400 ∧ 0 ≤ ((Tv 2) : Int32).toInt ∧ ((Tv 2) : Int32).toInt ≤ 400) := he_7
  have he_7_0 : (0 ≤ ((Tv 0) : Int32).toInt ∧ ((Tv 0) : Int32).toInt ≤ 400 ∧ 0 ≤ ((Tv 1) : Int32).toInt ∧ ((Tv 1) : Int32).toInt ≤ 400 ∧ 0 ≤ ((Tv 2) : Int32).toInt ∧ ((Tv 2) : Int32).toInt ≤ 400) := he_7.2
  refine W.eq (g2 := F0 m 6 ls [.int r_6]) rfl ?_
  have hP : va_P D classes [((Wa 0), .inr (0, [.ref (Aa 0)])), ((Aa 0), .inr (9, [.int (Av 0), .int (Av 1), .int (Av 2), .int (Av 3), .int (Av 4), .int (Av 5), .ref (Aa 1), .ref (Aa 2), .ref (Aa 3), .ref (Aa 4), .ref (Aa 5), .ref (Aa 6), .ref (Aa 7), .ref (Aa 8)])), ((Aa 1), .inl (tc 0, 10, .inl (Af 1))), ((Aa 2), .inl (tc 0, 10, .inl (Af 2))), ((Aa 3), .inl (tc 0, 6, .inl (Af 3))), ((Aa 4), .inl (tc 0, 6, .inl (Af 4))), ((Aa 5), .inl (tc 0, 6, .inl (Af 5))), ((Aa 6), .inl (tc 0, 6, .inl (Af 6))), ((Aa 7), .inl (tc 0, 6, .inl (Af 7))), ((Aa 8), .inl (tc 0, 6, .inl (Af 8))), ((Ta 0), .inr (10, [.ref (Ta 1), .int (Tv 0), .int (Tv 1), .int (Tv 2), .int (Tv 3), .int (Tv 4)])), ((Ta 1), .inl (tc 0, 400, .inl (Tf 1)))] H := hP
  have hD : va_D A [((Wa 0), .inr (0, [.ref (Aa 0)])), ((Aa 0), .inr (9, [.int (Av 0), .int (Av 1), .int (Av 2), .int (Av 3), .int (Av 4), .int (Av 5), .ref (Aa 1), .ref (Aa 2), .ref (Aa 3), .ref (Aa 4), .ref (Aa 5), .ref (Aa 6), .ref (Aa 7), .ref (Aa 8)])), ((Aa 1), .inl (tc 0, 10, .inl (Af 1))), ((Aa 2), .inl (tc 0, 10, .inl (Af 2))), ((Aa 3), .inl (tc 0, 6, .inl (Af 3))), ((Aa 4), .inl (tc 0, 6, .inl (Af 4))), ((Aa 5), .inl (tc 0, 6, .inl (Af 5))), ((Aa 6), .inl (tc 0, 6, .inl (Af 6))), ((Aa 7), .inl (tc 0, 6, .inl (Af 7))), ((Aa 8), .inl (tc 0, 6, .inl (Af 8))), ((Ta 0), .inr (10, [.ref (Ta 1), .int (Tv 0), .int (Tv 1), .int (Tv 2), .int (Tv 3), .int (Tv 4)])), ((Ta 1), .inl (tc 0, 400, .inl (Tf 1)))] := hD
  refine lv_istore_n (lv' := [(3, .int r_6), (0, .ref (Wa 0)), (1, .ref (Ta 0)), (2, .int x1)]) hx hb dX0_readClause_6 rfl hl (by decide) rfl (fun ls hl => ?_)
  refine lv_iload_n hx hb dX0_readClause_7 rfl (lv_at hl 0 rfl) ?_
  refine lv_iconst (v := (-1)) hx hb dX0_readClause_8 (by decide) ?_
  refine lv_icmp_ne (tgt := 20) hx hb dX0_readClause_9 (by decide) (fun c_8 => ?_) (fun c_8 => ?_)
  · skip
    refine lv_iload_n hx hb dX0_readClause_20 rfl (lv_at hl 3 rfl) ?_
    refine lv_bipush (v := 40) hx hb dX0_readClause_21 (by decide) ?_
    refine lv_icmp_ge (tgt := 64) hx hb dX0_readClause_23 (by decide) (fun c_9 => ?_) (fun c_9 => ?_)
    · skip
      refine lv_aload_n hx hb dX0_readClause_64 rfl (lv_at hl 2 rfl) ?_
      refine lv_iconst (v := 4) hx hb dX0_readClause_65 (by decide) ?_
      have hh_10 : 0 ≤ ((Tv 0) : Int32).toInt ∧ ((Tv 0) : Int32).toInt ≤ 400 ∧ 0 ≤ ((Tv 1) : Int32).toInt ∧ ((Tv 1) : Int32).toInt ≤ 400 ∧ 0 ≤ ((Tv 2) : Int32).toInt ∧ ((Tv 2) : Int32).toInt ≤ 400 := by
        have z_1 : ¬ (r_6 : Int32).toInt = ((-1) : Int32).toInt := fun z => c_8 (Int32.toInt_inj.mp z)
        have z_2 := Int32.le_iff_toInt_le.mp c_9
        have y_m1 : (-1 : Int32).toInt = -1 := by decide
        have y_40 : (40 : Int32).toInt = 40 := by decide
        first | assumption | omega
      refine cV (a := (Ta 0)) (As := [.int 4]) (rest := []) (wr := [((Wa 0), .inr (0, [.ref (Aa 0)])), ((Aa 0), .inr (9, [.int (Av 0), .int (Av 1), .int (Av 2), .int (Av 3), .int (Av 4), .int (Av 5), .ref (Aa 1), .ref (Aa 2), .ref (Aa 3), .ref (Aa 4), .ref (Aa 5), .ref (Aa 6), .ref (Aa 7), .ref (Aa 8)])), ((Aa 1), .inl (tc 0, 10, .inl (Af 1))), ((Aa 2), .inl (tc 0, 10, .inl (Af 2))), ((Aa 3), .inl (tc 0, 6, .inl (Af 3))), ((Aa 4), .inl (tc 0, 6, .inl (Af 4))), ((Aa 5), .inl (tc 0, 6, .inl (Af 5))), ((Aa 6), .inl (tc 0, 6, .inl (Af 6))), ((Aa 7), .inl (tc 0, 6, .inl (Af 7))), ((Aa 8), .inl (tc 0, 6, .inl (Af 8)))]) ⟨hx, hb, hml, hown, hts⟩ hK hX hA (cu_X10_fail l D tc sk (Ta 0) (Ta 1) (Tv 0) (Tv 1) (Tv 2) (Tv 3) (Tv 4) (Tf 1) 4 hh_10) k_557 k_554 k_555 k_556 k_96 pl_X10_fail ⟨Nat.le_of_ble_eq_true rfl, Nat.le_of_ble_eq_true rfl⟩ rfl rfl (va_recv hK hP (ci := 10) (q0 := 10) rfl rfl) hP hD hS [10, 11] [0, 1, 2, 3, 4, 5, 6, 7, 8, 9] rfl rfl rfl rfl rfl (by decide) rfl hl.1 rfl (Nat.le_of_ble_eq_true rfl) dX0_readClause_66 ⟨Nat.le_of_ble_eq_true rfl, Nat.le_of_ble_eq_true rfl⟩ (fun v_11 u_12 H locs hv_13 hP hD hS => ?_)
      obtain ⟨sv_14, sv_15⟩ := u_12
      obtain ⟨rfl, he_16⟩ := hv_13
      have he_16 : (0 ≤ ((Tv 0) : Int32).toInt ∧ ((Tv 0) : Int32).toInt ≤ 400 ∧ 0 ≤ ((Tv 1) : Int32).toInt ∧ ((Tv 1) : Int32).toInt ≤ 400 ∧ 0 ≤ ((Tv 2) : Int32).toInt ∧ ((Tv 2) : Int32).toInt ≤ 400) := he_16
      refine W.eq (g2 := F0 m 69 ls []) rfl ?_
      have hP : va_P D classes [((Wa 0), .inr (0, [.ref (Aa 0)])), ((Aa 0), .inr (9, [.int (Av 0), .int (Av 1), .int (Av 2), .int (Av 3), .int (Av 4), .int (Av 5), .ref (Aa 1), .ref (Aa 2), .ref (Aa 3), .ref (Aa 4), .ref (Aa 5), .ref (Aa 6), .ref (Aa 7), .ref (Aa 8)])), ((Aa 1), .inl (tc 0, 10, .inl (Af 1))), ((Aa 2), .inl (tc 0, 10, .inl (Af 2))), ((Aa 3), .inl (tc 0, 6, .inl (Af 3))), ((Aa 4), .inl (tc 0, 6, .inl (Af 4))), ((Aa 5), .inl (tc 0, 6, .inl (Af 5))), ((Aa 6), .inl (tc 0, 6, .inl (Af 6))), ((Aa 7), .inl (tc 0, 6, .inl (Af 7))), ((Aa 8), .inl (tc 0, 6, .inl (Af 8))), ((Ta 0), .inr (10, [.ref (Ta 1), .int (Tv 0), .int (Tv 1), .int (Tv 2), .int sv_14, .int sv_15])), ((Ta 1), .inl (tc 0, 400, .inl (Tf 1)))] H := hP
      have hD : va_D A [((Wa 0), .inr (0, [.ref (Aa 0)])), ((Aa 0), .inr (9, [.int (Av 0), .int (Av 1), .int (Av 2), .int (Av 3), .int (Av 4), .int (Av 5), .ref (Aa 1), .ref (Aa 2), .ref (Aa 3), .ref (Aa 4), .ref (Aa 5), .ref (Aa 6), .ref (Aa 7), .ref (Aa 8)])), ((Aa 1), .inl (tc 0, 10, .inl (Af 1))), ((Aa 2), .inl (tc 0, 10, .inl (Af 2))), ((Aa 3), .inl (tc 0, 6, .inl (Af 3))), ((Aa 4), .inl (tc 0, 6, .inl (Af 4))), ((Aa 5), .inl (tc 0, 6, .inl (Af 5))), ((Aa 6), .inl (tc 0, 6, .inl (Af 6))), ((Aa 7), .inl (tc 0, 6, .inl (Af 7))), ((Aa 8), .inl (tc 0, 6, .inl (Af 8))), ((Ta 0), .inr (10, [.ref (Ta 1), .int (Tv 0), .int (Tv 1), .int (Tv 2), .int sv_14, .int sv_15])), ((Ta 1), .inl (tc 0, 400, .inl (Tf 1)))] := hD
      refine lv_goto (tgt := 119) hx hb dX0_readClause_69 (by decide) ?_
      have hq_17 : 0 ≤ ((Tv 0) : Int32).toInt ∧ ((Tv 0) : Int32).toInt ≤ 400 ∧ 0 ≤ ((Tv 1) : Int32).toInt ∧ ((Tv 1) : Int32).toInt ≤ 400 ∧ 0 ≤ ((Tv 2) : Int32).toInt ∧ ((Tv 2) : Int32).toInt ≤ 400 := by
        have z_1 : ¬ (r_6 : Int32).toInt = ((-1) : Int32).toInt := fun z => c_8 (Int32.toInt_inj.mp z)
        have z_2 := Int32.le_iff_toInt_le.mp c_9
        have y_m1 : (-1 : Int32).toInt = -1 := by decide
        have y_40 : (40 : Int32).toInt = 40 := by decide
        first | assumption | omega
      have hq_18 : 0 ≤ ((Av 3) : Int32).toInt ∧ ((Av 3) : Int32).toInt ≤ 6 := by
        have z_1 : ¬ (r_6 : Int32).toInt = ((-1) : Int32).toInt := fun z => c_8 (Int32.toInt_inj.mp z)
        have z_2 := Int32.le_iff_toInt_le.mp c_9
        have y_m1 : (-1 : Int32).toInt = -1 := by decide
        have y_40 : (40 : Int32).toInt = 40 := by decide
        first | assumption | omega
      exact retV hx hb hr hlk hP hD hS ((Av 0), (Av 1), (Av 2), (Av 3), (Af 1), (Af 2), (Af 3), (Af 4), (Af 5), (Tv 1), (Tv 2), sv_14, sv_15) ⟨rfl, hq_17, hq_18⟩ [0, 1, 2, 3, 4, 5, 6, 7, 8, 9, 10, 11] rfl rfl dX0_readClause_119 (Nat.le_of_ble_eq_true rfl) (Nat.le_of_ble_eq_true rfl) rfl
    · skip
      refine lv_iload_n hx hb dX0_readClause_26 rfl (lv_at hl 0 rfl) ?_
      refine lv_if_ne (tgt := 34) hx hb dX0_readClause_27 (by decide) (fun c_19 => ?_) (fun c_19 => ?_)
      · skip
        refine lv_iconst (v := 0) hx hb dX0_readClause_34 (by decide) ?_
        refine lv_iload_n hx hb dX0_readClause_35 rfl (lv_at hl 3 rfl) ?_
        refine lv_if_ne (tgt := 43) hx hb dX0_readClause_36 (by decide) (fun c_20 => ?_) (fun c_20 => ?_)
        · skip
          refine lv_iconst (v := 0) hx hb dX0_readClause_43 (by decide) ?_
          refine lv_icmp_ne (tgt := 64) hx hb dX0_readClause_44 (by decide) (fun c_21 => absurd c_21 (by decide)) (fun c_21 => ?_)
          refine lv_iload_n hx hb dX0_readClause_47 rfl (lv_at hl 0 rfl) ?_
          refine lv_iconst (v := 2) hx hb dX0_readClause_48 (by decide) ?_
          refine lv_icmp_ne (tgt := 72) hx hb dX0_readClause_49 (by decide) (fun c_22 => ?_) (fun c_22 => ?_)
          · skip
            refine lv_aload_n hx hb dX0_readClause_72 rfl (lv_at hl 2 rfl) ?_
            have hh_23 : 0 ≤ ((Tv 0) : Int32).toInt ∧ ((Tv 0) : Int32).toInt ≤ 400 ∧ 0 ≤ ((Tv 1) : Int32).toInt ∧ ((Tv 1) : Int32).toInt ≤ 400 ∧ 0 ≤ ((Tv 2) : Int32).toInt ∧ ((Tv 2) : Int32).toInt ≤ 400 := by
              have z_1 : ¬ (r_6 : Int32).toInt = ((-1) : Int32).toInt := fun z => c_8 (Int32.toInt_inj.mp z)
              have z_2 := Int32.lt_iff_toInt_lt.mp (Int32.not_le.mp c_9)
              have z_3 : ¬ (r_6 : Int32).toInt = (0 : Int32).toInt := fun z => c_19 (Int32.toInt_inj.mp z)
              have z_4 : ¬ (x1 : Int32).toInt = (0 : Int32).toInt := fun z => c_20 (Int32.toInt_inj.mp z)
              have z_5 : ¬ (r_6 : Int32).toInt = (2 : Int32).toInt := fun z => c_22 (Int32.toInt_inj.mp z)
              have y_m1 : (-1 : Int32).toInt = -1 := by decide
              have y_0 : (0 : Int32).toInt = 0 := by decide
              have y_2 : (2 : Int32).toInt = 2 := by decide
              have y_40 : (40 : Int32).toInt = 40 := by decide
              first | assumption | omega
            refine cV (a := (Ta 0)) (As := []) (rest := []) (wr := [((Wa 0), .inr (0, [.ref (Aa 0)])), ((Aa 0), .inr (9, [.int (Av 0), .int (Av 1), .int (Av 2), .int (Av 3), .int (Av 4), .int (Av 5), .ref (Aa 1), .ref (Aa 2), .ref (Aa 3), .ref (Aa 4), .ref (Aa 5), .ref (Aa 6), .ref (Aa 7), .ref (Aa 8)])), ((Aa 1), .inl (tc 0, 10, .inl (Af 1))), ((Aa 2), .inl (tc 0, 10, .inl (Af 2))), ((Aa 3), .inl (tc 0, 6, .inl (Af 3))), ((Aa 4), .inl (tc 0, 6, .inl (Af 4))), ((Aa 5), .inl (tc 0, 6, .inl (Af 5))), ((Aa 6), .inl (tc 0, 6, .inl (Af 6))), ((Aa 7), .inl (tc 0, 6, .inl (Af 7))), ((Aa 8), .inl (tc 0, 6, .inl (Af 8)))]) ⟨hx, hb, hml, hown, hts⟩ hK hX hA (cu_X10_step l D tc sk (Ta 0) (Ta 1) (Tv 0) (Tv 1) (Tv 2) (Tv 3) (Tv 4) (Tf 1) hh_23) k_478 k_558 k_476 k_477 k_96 pl_X10_step ⟨Nat.le_of_ble_eq_true rfl, Nat.le_of_ble_eq_true rfl⟩ rfl rfl (va_recv hK hP (ci := 10) (q0 := 10) rfl rfl) hP hD hS [10, 11] [0, 1, 2, 3, 4, 5, 6, 7, 8, 9] rfl rfl rfl rfl rfl (by decide) rfl hl.1 rfl (Nat.le_of_ble_eq_true rfl) dX0_readClause_73 ⟨Nat.le_of_ble_eq_true rfl, Nat.le_of_ble_eq_true rfl⟩ (fun v_24 u_25 H locs hv_26 hP hD hS => ?_)
            obtain ⟨sv_27, sv_28, sv_29⟩ := u_25
            obtain ⟨rfl, he_30⟩ := hv_26
            have he_30 : (0 ≤ ((Tv 0) : Int32).toInt ∧ ((Tv 0) : Int32).toInt ≤ 400 ∧ 0 ≤ (sv_27 : Int32).toInt ∧ (sv_27 : Int32).toInt ≤ 400 ∧ 0 ≤ (sv_28 : Int32).toInt ∧ (sv_28 : Int32).toInt ≤ 400) := he_30
            refine W.eq (g2 := F0 m 76 ls []) rfl ?_
            have hP : va_P D classes [((Wa 0), .inr (0, [.ref (Aa 0)])), ((Aa 0), .inr (9, [.int (Av 0), .int (Av 1), .int (Av 2), .int (Av 3), .int (Av 4), .int (Av 5), .ref (Aa 1), .ref (Aa 2), .ref (Aa 3), .ref (Aa 4), .ref (Aa 5), .ref (Aa 6), .ref (Aa 7), .ref (Aa 8)])), ((Aa 1), .inl (tc 0, 10, .inl (Af 1))), ((Aa 2), .inl (tc 0, 10, .inl (Af 2))), ((Aa 3), .inl (tc 0, 6, .inl (Af 3))), ((Aa 4), .inl (tc 0, 6, .inl (Af 4))), ((Aa 5), .inl (tc 0, 6, .inl (Af 5))), ((Aa 6), .inl (tc 0, 6, .inl (Af 6))), ((Aa 7), .inl (tc 0, 6, .inl (Af 7))), ((Aa 8), .inl (tc 0, 6, .inl (Af 8))), ((Ta 0), .inr (10, [.ref (Ta 1), .int (Tv 0), .int sv_27, .int sv_28, .int sv_29, .int (Tv 4)])), ((Ta 1), .inl (tc 0, 400, .inl (Tf 1)))] H := hP
            have hD : va_D A [((Wa 0), .inr (0, [.ref (Aa 0)])), ((Aa 0), .inr (9, [.int (Av 0), .int (Av 1), .int (Av 2), .int (Av 3), .int (Av 4), .int (Av 5), .ref (Aa 1), .ref (Aa 2), .ref (Aa 3), .ref (Aa 4), .ref (Aa 5), .ref (Aa 6), .ref (Aa 7), .ref (Aa 8)])), ((Aa 1), .inl (tc 0, 10, .inl (Af 1))), ((Aa 2), .inl (tc 0, 10, .inl (Af 2))), ((Aa 3), .inl (tc 0, 6, .inl (Af 3))), ((Aa 4), .inl (tc 0, 6, .inl (Af 4))), ((Aa 5), .inl (tc 0, 6, .inl (Af 5))), ((Aa 6), .inl (tc 0, 6, .inl (Af 6))), ((Aa 7), .inl (tc 0, 6, .inl (Af 7))), ((Aa 8), .inl (tc 0, 6, .inl (Af 8))), ((Ta 0), .inr (10, [.ref (Ta 1), .int (Tv 0), .int sv_27, .int sv_28, .int sv_29, .int (Tv 4)])), ((Ta 1), .inl (tc 0, 400, .inl (Tf 1)))] := hD
            refine lv_iload_n hx hb dX0_readClause_76 rfl (lv_at hl 0 rfl) ?_
            refine lv_if_ne (tgt := 88) hx hb dX0_readClause_77 (by decide) (fun c_31 => ?_) (fun c_31 => ?_)
            · skip
              refine lv_iload_n hx hb dX0_readClause_88 rfl (lv_at hl 0 rfl) ?_
              refine lv_iconst (v := 1) hx hb dX0_readClause_89 (by decide) ?_
              refine lv_icmp_ne (tgt := 101) hx hb dX0_readClause_90 (by decide) (fun c_32 => ?_) (fun c_32 => ?_)
              · skip
                refine lv_iload_n hx hb dX0_readClause_101 rfl (lv_at hl 0 rfl) ?_
                refine lv_iconst (v := 2) hx hb dX0_readClause_102 (by decide) ?_
                refine lv_icmp_ne (tgt := 114) hx hb dX0_readClause_103 (by decide) (fun c_33 => ?_) (fun c_33 => ?_)
                · skip
                  refine lv_aload_n hx hb dX0_readClause_114 rfl (lv_at hl 1 rfl) ?_
                  refine lv_aload_n hx hb dX0_readClause_115 rfl (lv_at hl 2 rfl) ?_
                  have hh_34 : 0 ≤ ((Tv 0) : Int32).toInt ∧ ((Tv 0) : Int32).toInt ≤ 400 ∧ 0 ≤ (sv_27 : Int32).toInt ∧ (sv_27 : Int32).toInt ≤ 400 ∧ 0 ≤ (sv_28 : Int32).toInt ∧ (sv_28 : Int32).toInt ≤ 400 := by
                    have z_1 : ¬ (r_6 : Int32).toInt = ((-1) : Int32).toInt := fun z => c_8 (Int32.toInt_inj.mp z)
                    have z_2 := Int32.lt_iff_toInt_lt.mp (Int32.not_le.mp c_9)
                    have z_3 : ¬ (r_6 : Int32).toInt = (0 : Int32).toInt := fun z => c_19 (Int32.toInt_inj.mp z)
                    have z_4 : ¬ (x1 : Int32).toInt = (0 : Int32).toInt := fun z => c_20 (Int32.toInt_inj.mp z)
                    have z_5 : ¬ (r_6 : Int32).toInt = (2 : Int32).toInt := fun z => c_22 (Int32.toInt_inj.mp z)
                    have z_6 : ¬ (r_6 : Int32).toInt = (0 : Int32).toInt := fun z => c_31 (Int32.toInt_inj.mp z)
                    have z_7 : ¬ (r_6 : Int32).toInt = (1 : Int32).toInt := fun z => c_32 (Int32.toInt_inj.mp z)
                    have z_8 : ¬ (r_6 : Int32).toInt = (2 : Int32).toInt := fun z => c_33 (Int32.toInt_inj.mp z)
                    have y_m1 : (-1 : Int32).toInt = -1 := by decide
                    have y_0 : (0 : Int32).toInt = 0 := by decide
                    have y_1 : (1 : Int32).toInt = 1 := by decide
                    have y_2 : (2 : Int32).toInt = 2 := by decide
                    have y_40 : (40 : Int32).toInt = 40 := by decide
                    first | assumption | omega
                  have hh_35 : 0 ≤ ((Av 3) : Int32).toInt ∧ ((Av 3) : Int32).toInt ≤ 6 := by
                    have z_1 : ¬ (r_6 : Int32).toInt = ((-1) : Int32).toInt := fun z => c_8 (Int32.toInt_inj.mp z)
                    have z_2 := Int32.lt_iff_toInt_lt.mp (Int32.not_le.mp c_9)
                    have z_3 : ¬ (r_6 : Int32).toInt = (0 : Int32).toInt := fun z => c_19 (Int32.toInt_inj.mp z)
                    have z_4 : ¬ (x1 : Int32).toInt = (0 : Int32).toInt := fun z => c_20 (Int32.toInt_inj.mp z)
                    have z_5 : ¬ (r_6 : Int32).toInt = (2 : Int32).toInt := fun z => c_22 (Int32.toInt_inj.mp z)
                    have z_6 : ¬ (r_6 : Int32).toInt = (0 : Int32).toInt := fun z => c_31 (Int32.toInt_inj.mp z)
                    have z_7 : ¬ (r_6 : Int32).toInt = (1 : Int32).toInt := fun z => c_32 (Int32.toInt_inj.mp z)
                    have z_8 : ¬ (r_6 : Int32).toInt = (2 : Int32).toInt := fun z => c_33 (Int32.toInt_inj.mp z)
                    have y_m1 : (-1 : Int32).toInt = -1 := by decide
                    have y_0 : (0 : Int32).toInt = 0 := by decide
                    have y_1 : (1 : Int32).toInt = 1 := by decide
                    have y_2 : (2 : Int32).toInt = 2 := by decide
                    have y_40 : (40 : Int32).toInt = 40 := by decide
                    first | assumption | omega
                  refine cV (a := (Wa 0)) (As := [.ref (Ta 0)]) (rest := []) (wr := []) ⟨hx, hb, hml, hown, hts⟩ hK hX hA (cu_X0_readWatch l D tc sk (Wa 0) (Aa 0) (Aa 1) (Aa 2) (Aa 3) (Aa 4) (Aa 5) (Aa 6) (Aa 7) (Aa 8) (Av 0) (Av 1) (Av 2) (Av 3) (Av 4) (Av 5) (Af 1) (Af 2) (Af 3) (Af 4) (Af 5) (Af 6) (Af 7) (Af 8) (Ta 0) (Ta 1) (Tv 0) sv_27 sv_28 sv_29 (Tv 4) (Tf 1) hh_34 hh_35) k_587 k_584 k_586 k_6 k_97 pl_X0_readWatch ⟨Nat.le_of_ble_eq_true rfl, Nat.le_of_ble_eq_true rfl⟩ rfl rfl (va_recv hK hP (ci := 0) (q0 := 0) rfl rfl) hP hD hS [0, 1, 2, 3, 4, 5, 6, 7, 8, 9, 10, 11] [] rfl rfl rfl rfl rfl (by decide) rfl hl.1 rfl (Nat.le_of_ble_eq_true rfl) dX0_readClause_116 ⟨Nat.le_of_ble_eq_true rfl, Nat.le_of_ble_eq_true rfl⟩ (fun v_36 u_37 H locs hv_38 hP hD hS => ?_)
                  obtain ⟨sv_39, sv_40, sv_41, sv_42, sv_43⟩ := u_37
                  obtain ⟨rfl, he_44⟩ := hv_38
                  have he_44 : (0 ≤ ((Tv 0) : Int32).toInt ∧ ((Tv 0) : Int32).toInt ≤ 400 ∧ 0 ≤ (sv_40 : Int32).toInt ∧ (sv_40 : Int32).toInt ≤ 400 ∧ 0 ≤ (sv_41 : Int32).toInt ∧ (sv_41 : Int32).toInt ≤ 400) ∧ (0 ≤ ((Av 3) : Int32).toInt ∧ ((Av 3) : Int32).toInt ≤ 6) := he_44
                  have he_44_0 : (0 ≤ ((Tv 0) : Int32).toInt ∧ ((Tv 0) : Int32).toInt ≤ 400 ∧ 0 ≤ (sv_40 : Int32).toInt ∧ (sv_40 : Int32).toInt ≤ 400 ∧ 0 ≤ (sv_41 : Int32).toInt ∧ (sv_41 : Int32).toInt ≤ 400) := he_44.1
                  have he_44_1 : (0 ≤ ((Av 3) : Int32).toInt ∧ ((Av 3) : Int32).toInt ≤ 6) := he_44.2
                  refine W.eq (g2 := F0 m 119 ls []) rfl ?_
                  have hP : va_P D classes [((Wa 0), .inr (0, [.ref (Aa 0)])), ((Aa 0), .inr (9, [.int (Av 0), .int (Av 1), .int (Av 2), .int (Av 3), .int (Av 4), .int (Av 5), .ref (Aa 1), .ref (Aa 2), .ref (Aa 3), .ref (Aa 4), .ref (Aa 5), .ref (Aa 6), .ref (Aa 7), .ref (Aa 8)])), ((Aa 1), .inl (tc 0, 10, .inl (Af 1))), ((Aa 2), .inl (tc 0, 10, .inl sv_39)), ((Aa 3), .inl (tc 0, 6, .inl (Af 3))), ((Aa 4), .inl (tc 0, 6, .inl (Af 4))), ((Aa 5), .inl (tc 0, 6, .inl (Af 5))), ((Aa 6), .inl (tc 0, 6, .inl (Af 6))), ((Aa 7), .inl (tc 0, 6, .inl (Af 7))), ((Aa 8), .inl (tc 0, 6, .inl (Af 8))), ((Ta 0), .inr (10, [.ref (Ta 1), .int (Tv 0), .int sv_40, .int sv_41, .int sv_42, .int sv_43])), ((Ta 1), .inl (tc 0, 400, .inl (Tf 1)))] H := hP
                  have hD : va_D A [((Wa 0), .inr (0, [.ref (Aa 0)])), ((Aa 0), .inr (9, [.int (Av 0), .int (Av 1), .int (Av 2), .int (Av 3), .int (Av 4), .int (Av 5), .ref (Aa 1), .ref (Aa 2), .ref (Aa 3), .ref (Aa 4), .ref (Aa 5), .ref (Aa 6), .ref (Aa 7), .ref (Aa 8)])), ((Aa 1), .inl (tc 0, 10, .inl (Af 1))), ((Aa 2), .inl (tc 0, 10, .inl sv_39)), ((Aa 3), .inl (tc 0, 6, .inl (Af 3))), ((Aa 4), .inl (tc 0, 6, .inl (Af 4))), ((Aa 5), .inl (tc 0, 6, .inl (Af 5))), ((Aa 6), .inl (tc 0, 6, .inl (Af 6))), ((Aa 7), .inl (tc 0, 6, .inl (Af 7))), ((Aa 8), .inl (tc 0, 6, .inl (Af 8))), ((Ta 0), .inr (10, [.ref (Ta 1), .int (Tv 0), .int sv_40, .int sv_41, .int sv_42, .int sv_43])), ((Ta 1), .inl (tc 0, 400, .inl (Tf 1)))] := hD
                  have hq_45 : 0 ≤ ((Tv 0) : Int32).toInt ∧ ((Tv 0) : Int32).toInt ≤ 400 ∧ 0 ≤ (sv_40 : Int32).toInt ∧ (sv_40 : Int32).toInt ≤ 400 ∧ 0 ≤ (sv_41 : Int32).toInt ∧ (sv_41 : Int32).toInt ≤ 400 := by
                    have z_1 : ¬ (r_6 : Int32).toInt = ((-1) : Int32).toInt := fun z => c_8 (Int32.toInt_inj.mp z)
                    have z_2 := Int32.lt_iff_toInt_lt.mp (Int32.not_le.mp c_9)
                    have z_3 : ¬ (r_6 : Int32).toInt = (0 : Int32).toInt := fun z => c_19 (Int32.toInt_inj.mp z)
                    have z_4 : ¬ (x1 : Int32).toInt = (0 : Int32).toInt := fun z => c_20 (Int32.toInt_inj.mp z)
                    have z_5 : ¬ (r_6 : Int32).toInt = (2 : Int32).toInt := fun z => c_22 (Int32.toInt_inj.mp z)
                    have z_6 : ¬ (r_6 : Int32).toInt = (0 : Int32).toInt := fun z => c_31 (Int32.toInt_inj.mp z)
                    have z_7 : ¬ (r_6 : Int32).toInt = (1 : Int32).toInt := fun z => c_32 (Int32.toInt_inj.mp z)
                    have z_8 : ¬ (r_6 : Int32).toInt = (2 : Int32).toInt := fun z => c_33 (Int32.toInt_inj.mp z)
                    have y_m1 : (-1 : Int32).toInt = -1 := by decide
                    have y_0 : (0 : Int32).toInt = 0 := by decide
                    have y_1 : (1 : Int32).toInt = 1 := by decide
                    have y_2 : (2 : Int32).toInt = 2 := by decide
                    have y_40 : (40 : Int32).toInt = 40 := by decide
                    first | assumption | omega
                  have hq_46 : 0 ≤ ((Av 3) : Int32).toInt ∧ ((Av 3) : Int32).toInt ≤ 6 := by
                    have z_1 : ¬ (r_6 : Int32).toInt = ((-1) : Int32).toInt := fun z => c_8 (Int32.toInt_inj.mp z)
                    have z_2 := Int32.lt_iff_toInt_lt.mp (Int32.not_le.mp c_9)
                    have z_3 : ¬ (r_6 : Int32).toInt = (0 : Int32).toInt := fun z => c_19 (Int32.toInt_inj.mp z)
                    have z_4 : ¬ (x1 : Int32).toInt = (0 : Int32).toInt := fun z => c_20 (Int32.toInt_inj.mp z)
                    have z_5 : ¬ (r_6 : Int32).toInt = (2 : Int32).toInt := fun z => c_22 (Int32.toInt_inj.mp z)
                    have z_6 : ¬ (r_6 : Int32).toInt = (0 : Int32).toInt := fun z => c_31 (Int32.toInt_inj.mp z)
                    have z_7 : ¬ (r_6 : Int32).toInt = (1 : Int32).toInt := fun z => c_32 (Int32.toInt_inj.mp z)
                    have z_8 : ¬ (r_6 : Int32).toInt = (2 : Int32).toInt := fun z => c_33 (Int32.toInt_inj.mp z)
                    have y_m1 : (-1 : Int32).toInt = -1 := by decide
                    have y_0 : (0 : Int32).toInt = 0 := by decide
                    have y_1 : (1 : Int32).toInt = 1 := by decide
                    have y_2 : (2 : Int32).toInt = 2 := by decide
                    have y_40 : (40 : Int32).toInt = 40 := by decide
                    first | assumption | omega
                  exact retV hx hb hr hlk hP hD hS ((Av 0), (Av 1), (Av 2), (Av 3), (Af 1), sv_39, (Af 3), (Af 4), (Af 5), sv_40, sv_41, sv_42, sv_43) ⟨rfl, hq_45, hq_46⟩ [0, 1, 2, 3, 4, 5, 6, 7, 8, 9, 10, 11] rfl rfl dX0_readClause_119 (Nat.le_of_ble_eq_true rfl) (Nat.le_of_ble_eq_true rfl) rfl
                · skip
                  exfalso
                  have z_1 : ¬ (r_6 : Int32).toInt = ((-1) : Int32).toInt := fun z => c_8 (Int32.toInt_inj.mp z)
                  have z_2 := Int32.lt_iff_toInt_lt.mp (Int32.not_le.mp c_9)
                  have z_3 : ¬ (r_6 : Int32).toInt = (0 : Int32).toInt := fun z => c_19 (Int32.toInt_inj.mp z)
                  have z_4 : ¬ (x1 : Int32).toInt = (0 : Int32).toInt := fun z => c_20 (Int32.toInt_inj.mp z)
                  have z_5 : ¬ (r_6 : Int32).toInt = (2 : Int32).toInt := fun z => c_22 (Int32.toInt_inj.mp z)
                  have z_6 : ¬ (r_6 : Int32).toInt = (0 : Int32).toInt := fun z => c_31 (Int32.toInt_inj.mp z)
                  have z_7 : ¬ (r_6 : Int32).toInt = (1 : Int32).toInt := fun z => c_32 (Int32.toInt_inj.mp z)
                  have z_8 := congrArg Int32.toInt c_33
                  have y_m1 : (-1 : Int32).toInt = -1 := by decide
                  have y_0 : (0 : Int32).toInt = 0 := by decide
                  have y_1 : (1 : Int32).toInt = 1 := by decide
                  have y_2 : (2 : Int32).toInt = 2 := by decide
                  have y_40 : (40 : Int32).toInt = 40 := by decide
                  omega
              · skip
                refine lv_aload_n hx hb dX0_readClause_93 rfl (lv_at hl 1 rfl) ?_
                refine lv_aload_n hx hb dX0_readClause_94 rfl (lv_at hl 2 rfl) ?_
                have hh_47 : 0 ≤ ((Tv 0) : Int32).toInt ∧ ((Tv 0) : Int32).toInt ≤ 400 ∧ 0 ≤ (sv_27 : Int32).toInt ∧ (sv_27 : Int32).toInt ≤ 400 ∧ 0 ≤ (sv_28 : Int32).toInt ∧ (sv_28 : Int32).toInt ≤ 400 := by
                  have z_1 : ¬ (r_6 : Int32).toInt = ((-1) : Int32).toInt := fun z => c_8 (Int32.toInt_inj.mp z)
                  have z_2 := Int32.lt_iff_toInt_lt.mp (Int32.not_le.mp c_9)
                  have z_3 : ¬ (r_6 : Int32).toInt = (0 : Int32).toInt := fun z => c_19 (Int32.toInt_inj.mp z)
                  have z_4 : ¬ (x1 : Int32).toInt = (0 : Int32).toInt := fun z => c_20 (Int32.toInt_inj.mp z)
                  have z_5 : ¬ (r_6 : Int32).toInt = (2 : Int32).toInt := fun z => c_22 (Int32.toInt_inj.mp z)
                  have z_6 : ¬ (r_6 : Int32).toInt = (0 : Int32).toInt := fun z => c_31 (Int32.toInt_inj.mp z)
                  have z_7 := congrArg Int32.toInt c_32
                  have y_m1 : (-1 : Int32).toInt = -1 := by decide
                  have y_0 : (0 : Int32).toInt = 0 := by decide
                  have y_1 : (1 : Int32).toInt = 1 := by decide
                  have y_2 : (2 : Int32).toInt = 2 := by decide
                  have y_40 : (40 : Int32).toInt = 40 := by decide
                  first | assumption | omega
                have hh_48 : 0 ≤ ((Av 3) : Int32).toInt ∧ ((Av 3) : Int32).toInt ≤ 6 := by
                  have z_1 : ¬ (r_6 : Int32).toInt = ((-1) : Int32).toInt := fun z => c_8 (Int32.toInt_inj.mp z)
                  have z_2 := Int32.lt_iff_toInt_lt.mp (Int32.not_le.mp c_9)
                  have z_3 : ¬ (r_6 : Int32).toInt = (0 : Int32).toInt := fun z => c_19 (Int32.toInt_inj.mp z)
                  have z_4 : ¬ (x1 : Int32).toInt = (0 : Int32).toInt := fun z => c_20 (Int32.toInt_inj.mp z)
                  have z_5 : ¬ (r_6 : Int32).toInt = (2 : Int32).toInt := fun z => c_22 (Int32.toInt_inj.mp z)
                  have z_6 : ¬ (r_6 : Int32).toInt = (0 : Int32).toInt := fun z => c_31 (Int32.toInt_inj.mp z)
                  have z_7 := congrArg Int32.toInt c_32
                  have y_m1 : (-1 : Int32).toInt = -1 := by decide
                  have y_0 : (0 : Int32).toInt = 0 := by decide
                  have y_1 : (1 : Int32).toInt = 1 := by decide
                  have y_2 : (2 : Int32).toInt = 2 := by decide
                  have y_40 : (40 : Int32).toInt = 40 := by decide
                  first | assumption | omega
                refine cV (a := (Wa 0)) (As := [.ref (Ta 0)]) (rest := []) (wr := []) ⟨hx, hb, hml, hown, hts⟩ hK hX hA (cu_X0_readSky l D tc sk (Wa 0) (Aa 0) (Aa 1) (Aa 2) (Aa 3) (Aa 4) (Aa 5) (Aa 6) (Aa 7) (Aa 8) (Av 0) (Av 1) (Av 2) (Av 3) (Av 4) (Av 5) (Af 1) (Af 2) (Af 3) (Af 4) (Af 5) (Af 6) (Af 7) (Af 8) (Ta 0) (Ta 1) (Tv 0) sv_27 sv_28 sv_29 (Tv 4) (Tf 1) hh_47 hh_48) k_575 k_572 k_574 k_4 k_97 pl_X0_readSky ⟨Nat.le_of_ble_eq_true rfl, Nat.le_of_ble_eq_true rfl⟩ rfl rfl (va_recv hK hP (ci := 0) (q0 := 0) rfl rfl) hP hD hS [0, 1, 2, 3, 4, 5, 6, 7, 8, 9, 10, 11] [] rfl rfl rfl rfl rfl (by decide) rfl hl.1 rfl (Nat.le_of_ble_eq_true rfl) dX0_readClause_95 ⟨Nat.le_of_ble_eq_true rfl, Nat.le_of_ble_eq_true rfl⟩ (fun v_49 u_50 H locs hv_51 hP hD hS => ?_)
                obtain ⟨sv_52, sv_53, sv_54, sv_55, sv_56⟩ := u_50
                obtain ⟨rfl, he_57⟩ := hv_51
                have he_57 : (0 ≤ ((Tv 0) : Int32).toInt ∧ ((Tv 0) : Int32).toInt ≤ 400 ∧ 0 ≤ (sv_53 : Int32).toInt ∧ (sv_53 : Int32).toInt ≤ 400 ∧ 0 ≤ (sv_54 : Int32).toInt ∧ (sv_54 : Int32).toInt ≤ 400) ∧ (0 ≤ ((Av 3) : Int32).toInt ∧ ((Av 3) : Int32).toInt ≤ 6) := he_57
                have he_57_0 : (0 ≤ ((Tv 0) : Int32).toInt ∧ ((Tv 0) : Int32).toInt ≤ 400 ∧ 0 ≤ (sv_53 : Int32).toInt ∧ (sv_53 : Int32).toInt ≤ 400 ∧ 0 ≤ (sv_54 : Int32).toInt ∧ (sv_54 : Int32).toInt ≤ 400) := he_57.1
                have he_57_1 : (0 ≤ ((Av 3) : Int32).toInt ∧ ((Av 3) : Int32).toInt ≤ 6) := he_57.2
                refine W.eq (g2 := F0 m 98 ls []) rfl ?_
                have hP : va_P D classes [((Wa 0), .inr (0, [.ref (Aa 0)])), ((Aa 0), .inr (9, [.int (Av 0), .int (Av 1), .int (Av 2), .int (Av 3), .int (Av 4), .int (Av 5), .ref (Aa 1), .ref (Aa 2), .ref (Aa 3), .ref (Aa 4), .ref (Aa 5), .ref (Aa 6), .ref (Aa 7), .ref (Aa 8)])), ((Aa 1), .inl (tc 0, 10, .inl sv_52)), ((Aa 2), .inl (tc 0, 10, .inl (Af 2))), ((Aa 3), .inl (tc 0, 6, .inl (Af 3))), ((Aa 4), .inl (tc 0, 6, .inl (Af 4))), ((Aa 5), .inl (tc 0, 6, .inl (Af 5))), ((Aa 6), .inl (tc 0, 6, .inl (Af 6))), ((Aa 7), .inl (tc 0, 6, .inl (Af 7))), ((Aa 8), .inl (tc 0, 6, .inl (Af 8))), ((Ta 0), .inr (10, [.ref (Ta 1), .int (Tv 0), .int sv_53, .int sv_54, .int sv_55, .int sv_56])), ((Ta 1), .inl (tc 0, 400, .inl (Tf 1)))] H := hP
                have hD : va_D A [((Wa 0), .inr (0, [.ref (Aa 0)])), ((Aa 0), .inr (9, [.int (Av 0), .int (Av 1), .int (Av 2), .int (Av 3), .int (Av 4), .int (Av 5), .ref (Aa 1), .ref (Aa 2), .ref (Aa 3), .ref (Aa 4), .ref (Aa 5), .ref (Aa 6), .ref (Aa 7), .ref (Aa 8)])), ((Aa 1), .inl (tc 0, 10, .inl sv_52)), ((Aa 2), .inl (tc 0, 10, .inl (Af 2))), ((Aa 3), .inl (tc 0, 6, .inl (Af 3))), ((Aa 4), .inl (tc 0, 6, .inl (Af 4))), ((Aa 5), .inl (tc 0, 6, .inl (Af 5))), ((Aa 6), .inl (tc 0, 6, .inl (Af 6))), ((Aa 7), .inl (tc 0, 6, .inl (Af 7))), ((Aa 8), .inl (tc 0, 6, .inl (Af 8))), ((Ta 0), .inr (10, [.ref (Ta 1), .int (Tv 0), .int sv_53, .int sv_54, .int sv_55, .int sv_56])), ((Ta 1), .inl (tc 0, 400, .inl (Tf 1)))] := hD
                refine lv_goto (tgt := 119) hx hb dX0_readClause_98 (by decide) ?_
                have hq_58 : 0 ≤ ((Tv 0) : Int32).toInt ∧ ((Tv 0) : Int32).toInt ≤ 400 ∧ 0 ≤ (sv_53 : Int32).toInt ∧ (sv_53 : Int32).toInt ≤ 400 ∧ 0 ≤ (sv_54 : Int32).toInt ∧ (sv_54 : Int32).toInt ≤ 400 := by
                  have z_1 : ¬ (r_6 : Int32).toInt = ((-1) : Int32).toInt := fun z => c_8 (Int32.toInt_inj.mp z)
                  have z_2 := Int32.lt_iff_toInt_lt.mp (Int32.not_le.mp c_9)
                  have z_3 : ¬ (r_6 : Int32).toInt = (0 : Int32).toInt := fun z => c_19 (Int32.toInt_inj.mp z)
                  have z_4 : ¬ (x1 : Int32).toInt = (0 : Int32).toInt := fun z => c_20 (Int32.toInt_inj.mp z)
                  have z_5 : ¬ (r_6 : Int32).toInt = (2 : Int32).toInt := fun z => c_22 (Int32.toInt_inj.mp z)
                  have z_6 : ¬ (r_6 : Int32).toInt = (0 : Int32).toInt := fun z => c_31 (Int32.toInt_inj.mp z)
                  have z_7 := congrArg Int32.toInt c_32
                  have y_m1 : (-1 : Int32).toInt = -1 := by decide
                  have y_0 : (0 : Int32).toInt = 0 := by decide
                  have y_1 : (1 : Int32).toInt = 1 := by decide
                  have y_2 : (2 : Int32).toInt = 2 := by decide
                  have y_40 : (40 : Int32).toInt = 40 := by decide
                  first | assumption | omega
                have hq_59 : 0 ≤ ((Av 3) : Int32).toInt ∧ ((Av 3) : Int32).toInt ≤ 6 := by
                  have z_1 : ¬ (r_6 : Int32).toInt = ((-1) : Int32).toInt := fun z => c_8 (Int32.toInt_inj.mp z)
                  have z_2 := Int32.lt_iff_toInt_lt.mp (Int32.not_le.mp c_9)
                  have z_3 : ¬ (r_6 : Int32).toInt = (0 : Int32).toInt := fun z => c_19 (Int32.toInt_inj.mp z)
                  have z_4 : ¬ (x1 : Int32).toInt = (0 : Int32).toInt := fun z => c_20 (Int32.toInt_inj.mp z)
                  have z_5 : ¬ (r_6 : Int32).toInt = (2 : Int32).toInt := fun z => c_22 (Int32.toInt_inj.mp z)
                  have z_6 : ¬ (r_6 : Int32).toInt = (0 : Int32).toInt := fun z => c_31 (Int32.toInt_inj.mp z)
                  have z_7 := congrArg Int32.toInt c_32
                  have y_m1 : (-1 : Int32).toInt = -1 := by decide
                  have y_0 : (0 : Int32).toInt = 0 := by decide
                  have y_1 : (1 : Int32).toInt = 1 := by decide
                  have y_2 : (2 : Int32).toInt = 2 := by decide
                  have y_40 : (40 : Int32).toInt = 40 := by decide
                  first | assumption | omega
                exact retV hx hb hr hlk hP hD hS ((Av 0), (Av 1), (Av 2), (Av 3), sv_52, (Af 2), (Af 3), (Af 4), (Af 5), sv_53, sv_54, sv_55, sv_56) ⟨rfl, hq_58, hq_59⟩ [0, 1, 2, 3, 4, 5, 6, 7, 8, 9, 10, 11] rfl rfl dX0_readClause_119 (Nat.le_of_ble_eq_true rfl) (Nat.le_of_ble_eq_true rfl) rfl
            · skip
              exfalso
              have z_1 : ¬ (r_6 : Int32).toInt = ((-1) : Int32).toInt := fun z => c_8 (Int32.toInt_inj.mp z)
              have z_2 := Int32.lt_iff_toInt_lt.mp (Int32.not_le.mp c_9)
              have z_3 : ¬ (r_6 : Int32).toInt = (0 : Int32).toInt := fun z => c_19 (Int32.toInt_inj.mp z)
              have z_4 : ¬ (x1 : Int32).toInt = (0 : Int32).toInt := fun z => c_20 (Int32.toInt_inj.mp z)
              have z_5 : ¬ (r_6 : Int32).toInt = (2 : Int32).toInt := fun z => c_22 (Int32.toInt_inj.mp z)
              have z_6 := congrArg Int32.toInt c_31
              have y_m1 : (-1 : Int32).toInt = -1 := by decide
              have y_0 : (0 : Int32).toInt = 0 := by decide
              have y_2 : (2 : Int32).toInt = 2 := by decide
              have y_40 : (40 : Int32).toInt = 40 := by decide
              omega
          · skip
            refine lv_aload_n hx hb dX0_readClause_52 rfl (lv_at hl 1 rfl) ?_
            refine gf_X0_12 hx hb hts hown hK hP 0 rfl rfl dX0_readClause_53 ?_
            refine gf_X0_51 hx hb hts hown hK hP 1 rfl rfl dX0_readClause_56 ?_
            refine lv_bipush (v := 6) hx hb dX0_readClause_59 (by decide) ?_
            refine lv_icmp_lt (tgt := 72) hx hb dX0_readClause_61 (by decide) (fun c_60 => ?_) (fun c_60 => ?_)
            · skip
              refine lv_aload_n hx hb dX0_readClause_72 rfl (lv_at hl 2 rfl) ?_
              have hh_61 : 0 ≤ ((Tv 0) : Int32).toInt ∧ ((Tv 0) : Int32).toInt ≤ 400 ∧ 0 ≤ ((Tv 1) : Int32).toInt ∧ ((Tv 1) : Int32).toInt ≤ 400 ∧ 0 ≤ ((Tv 2) : Int32).toInt ∧ ((Tv 2) : Int32).toInt ≤ 400 := by
                have z_1 : ¬ (r_6 : Int32).toInt = ((-1) : Int32).toInt := fun z => c_8 (Int32.toInt_inj.mp z)
                have z_2 := Int32.lt_iff_toInt_lt.mp (Int32.not_le.mp c_9)
                have z_3 : ¬ (r_6 : Int32).toInt = (0 : Int32).toInt := fun z => c_19 (Int32.toInt_inj.mp z)
                have z_4 : ¬ (x1 : Int32).toInt = (0 : Int32).toInt := fun z => c_20 (Int32.toInt_inj.mp z)
                have z_5 := congrArg Int32.toInt c_22
                have z_6 := Int32.lt_iff_toInt_lt.mp c_60
                have y_m1 : (-1 : Int32).toInt = -1 := by decide
                have y_0 : (0 : Int32).toInt = 0 := by decide
                have y_2 : (2 : Int32).toInt = 2 := by decide
                have y_6 : (6 : Int32).toInt = 6 := by decide
                have y_40 : (40 : Int32).toInt = 40 := by decide
                first | assumption | omega
              refine cV (a := (Ta 0)) (As := []) (rest := []) (wr := [((Wa 0), .inr (0, [.ref (Aa 0)])), ((Aa 0), .inr (9, [.int (Av 0), .int (Av 1), .int (Av 2), .int (Av 3), .int (Av 4), .int (Av 5), .ref (Aa 1), .ref (Aa 2), .ref (Aa 3), .ref (Aa 4), .ref (Aa 5), .ref (Aa 6), .ref (Aa 7), .ref (Aa 8)])), ((Aa 1), .inl (tc 0, 10, .inl (Af 1))), ((Aa 2), .inl (tc 0, 10, .inl (Af 2))), ((Aa 3), .inl (tc 0, 6, .inl (Af 3))), ((Aa 4), .inl (tc 0, 6, .inl (Af 4))), ((Aa 5), .inl (tc 0, 6, .inl (Af 5))), ((Aa 6), .inl (tc 0, 6, .inl (Af 6))), ((Aa 7), .inl (tc 0, 6, .inl (Af 7))), ((Aa 8), .inl (tc 0, 6, .inl (Af 8)))]) ⟨hx, hb, hml, hown, hts⟩ hK hX hA (cu_X10_step l D tc sk (Ta 0) (Ta 1) (Tv 0) (Tv 1) (Tv 2) (Tv 3) (Tv 4) (Tf 1) hh_61) k_478 k_558 k_476 k_477 k_96 pl_X10_step ⟨Nat.le_of_ble_eq_true rfl, Nat.le_of_ble_eq_true rfl⟩ rfl rfl (va_recv hK hP (ci := 10) (q0 := 10) rfl rfl) hP hD hS [10, 11] [0, 1, 2, 3, 4, 5, 6, 7, 8, 9] rfl rfl rfl rfl rfl (by decide) rfl hl.1 rfl (Nat.le_of_ble_eq_true rfl) dX0_readClause_73 ⟨Nat.le_of_ble_eq_true rfl, Nat.le_of_ble_eq_true rfl⟩ (fun v_62 u_63 H locs hv_64 hP hD hS => ?_)
              obtain ⟨sv_65, sv_66, sv_67⟩ := u_63
              obtain ⟨rfl, he_68⟩ := hv_64
              have he_68 : (0 ≤ ((Tv 0) : Int32).toInt ∧ ((Tv 0) : Int32).toInt ≤ 400 ∧ 0 ≤ (sv_65 : Int32).toInt ∧ (sv_65 : Int32).toInt ≤ 400 ∧ 0 ≤ (sv_66 : Int32).toInt ∧ (sv_66 : Int32).toInt ≤ 400) := he_68
              refine W.eq (g2 := F0 m 76 ls []) rfl ?_
              have hP : va_P D classes [((Wa 0), .inr (0, [.ref (Aa 0)])), ((Aa 0), .inr (9, [.int (Av 0), .int (Av 1), .int (Av 2), .int (Av 3), .int (Av 4), .int (Av 5), .ref (Aa 1), .ref (Aa 2), .ref (Aa 3), .ref (Aa 4), .ref (Aa 5), .ref (Aa 6), .ref (Aa 7), .ref (Aa 8)])), ((Aa 1), .inl (tc 0, 10, .inl (Af 1))), ((Aa 2), .inl (tc 0, 10, .inl (Af 2))), ((Aa 3), .inl (tc 0, 6, .inl (Af 3))), ((Aa 4), .inl (tc 0, 6, .inl (Af 4))), ((Aa 5), .inl (tc 0, 6, .inl (Af 5))), ((Aa 6), .inl (tc 0, 6, .inl (Af 6))), ((Aa 7), .inl (tc 0, 6, .inl (Af 7))), ((Aa 8), .inl (tc 0, 6, .inl (Af 8))), ((Ta 0), .inr (10, [.ref (Ta 1), .int (Tv 0), .int sv_65, .int sv_66, .int sv_67, .int (Tv 4)])), ((Ta 1), .inl (tc 0, 400, .inl (Tf 1)))] H := hP
              have hD : va_D A [((Wa 0), .inr (0, [.ref (Aa 0)])), ((Aa 0), .inr (9, [.int (Av 0), .int (Av 1), .int (Av 2), .int (Av 3), .int (Av 4), .int (Av 5), .ref (Aa 1), .ref (Aa 2), .ref (Aa 3), .ref (Aa 4), .ref (Aa 5), .ref (Aa 6), .ref (Aa 7), .ref (Aa 8)])), ((Aa 1), .inl (tc 0, 10, .inl (Af 1))), ((Aa 2), .inl (tc 0, 10, .inl (Af 2))), ((Aa 3), .inl (tc 0, 6, .inl (Af 3))), ((Aa 4), .inl (tc 0, 6, .inl (Af 4))), ((Aa 5), .inl (tc 0, 6, .inl (Af 5))), ((Aa 6), .inl (tc 0, 6, .inl (Af 6))), ((Aa 7), .inl (tc 0, 6, .inl (Af 7))), ((Aa 8), .inl (tc 0, 6, .inl (Af 8))), ((Ta 0), .inr (10, [.ref (Ta 1), .int (Tv 0), .int sv_65, .int sv_66, .int sv_67, .int (Tv 4)])), ((Ta 1), .inl (tc 0, 400, .inl (Tf 1)))] := hD
              refine lv_iload_n hx hb dX0_readClause_76 rfl (lv_at hl 0 rfl) ?_
              refine lv_if_ne (tgt := 88) hx hb dX0_readClause_77 (by decide) (fun c_69 => ?_) (fun c_69 => ?_)
              · skip
                refine lv_iload_n hx hb dX0_readClause_88 rfl (lv_at hl 0 rfl) ?_
                refine lv_iconst (v := 1) hx hb dX0_readClause_89 (by decide) ?_
                refine lv_icmp_ne (tgt := 101) hx hb dX0_readClause_90 (by decide) (fun c_70 => ?_) (fun c_70 => ?_)
                · skip
                  refine lv_iload_n hx hb dX0_readClause_101 rfl (lv_at hl 0 rfl) ?_
                  refine lv_iconst (v := 2) hx hb dX0_readClause_102 (by decide) ?_
                  refine lv_icmp_ne (tgt := 114) hx hb dX0_readClause_103 (by decide) (fun c_71 => ?_) (fun c_71 => ?_)
                  · skip
                    exfalso
                    have z_1 : ¬ (r_6 : Int32).toInt = ((-1) : Int32).toInt := fun z => c_8 (Int32.toInt_inj.mp z)
                    have z_2 := Int32.lt_iff_toInt_lt.mp (Int32.not_le.mp c_9)
                    have z_3 : ¬ (r_6 : Int32).toInt = (0 : Int32).toInt := fun z => c_19 (Int32.toInt_inj.mp z)
                    have z_4 : ¬ (x1 : Int32).toInt = (0 : Int32).toInt := fun z => c_20 (Int32.toInt_inj.mp z)
                    have z_5 := congrArg Int32.toInt c_22
                    have z_6 := Int32.lt_iff_toInt_lt.mp c_60
                    have z_7 : ¬ (r_6 : Int32).toInt = (0 : Int32).toInt := fun z => c_69 (Int32.toInt_inj.mp z)
                    have z_8 : ¬ (r_6 : Int32).toInt = (1 : Int32).toInt := fun z => c_70 (Int32.toInt_inj.mp z)
                    have z_9 : ¬ (r_6 : Int32).toInt = (2 : Int32).toInt := fun z => c_71 (Int32.toInt_inj.mp z)
                    have y_m1 : (-1 : Int32).toInt = -1 := by decide
                    have y_0 : (0 : Int32).toInt = 0 := by decide
                    have y_1 : (1 : Int32).toInt = 1 := by decide
                    have y_2 : (2 : Int32).toInt = 2 := by decide
                    have y_6 : (6 : Int32).toInt = 6 := by decide
                    have y_40 : (40 : Int32).toInt = 40 := by decide
                    omega
                  · skip
                    refine lv_aload_n hx hb dX0_readClause_106 rfl (lv_at hl 1 rfl) ?_
                    refine lv_aload_n hx hb dX0_readClause_107 rfl (lv_at hl 2 rfl) ?_
                    have hh_72 : 0 ≤ ((Tv 0) : Int32).toInt ∧ ((Tv 0) : Int32).toInt ≤ 400 ∧ 0 ≤ (sv_65 : Int32).toInt ∧ (sv_65 : Int32).toInt ≤ 400 ∧ 0 ≤ (sv_66 : Int32).toInt ∧ (sv_66 : Int32).toInt ≤ 400 := by
                      have z_1 : ¬ (r_6 : Int32).toInt = ((-1) : Int32).toInt := fun z => c_8 (Int32.toInt_inj.mp z)
                      have z_2 := Int32.lt_iff_toInt_lt.mp (Int32.not_le.mp c_9)
                      have z_3 : ¬ (r_6 : Int32).toInt = (0 : Int32).toInt := fun z => c_19 (Int32.toInt_inj.mp z)
                      have z_4 : ¬ (x1 : Int32).toInt = (0 : Int32).toInt := fun z => c_20 (Int32.toInt_inj.mp z)
                      have z_5 := congrArg Int32.toInt c_22
                      have z_6 := Int32.lt_iff_toInt_lt.mp c_60
                      have z_7 : ¬ (r_6 : Int32).toInt = (0 : Int32).toInt := fun z => c_69 (Int32.toInt_inj.mp z)
                      have z_8 : ¬ (r_6 : Int32).toInt = (1 : Int32).toInt := fun z => c_70 (Int32.toInt_inj.mp z)
                      have z_9 := congrArg Int32.toInt c_71
                      have y_m1 : (-1 : Int32).toInt = -1 := by decide
                      have y_0 : (0 : Int32).toInt = 0 := by decide
                      have y_1 : (1 : Int32).toInt = 1 := by decide
                      have y_2 : (2 : Int32).toInt = 2 := by decide
                      have y_6 : (6 : Int32).toInt = 6 := by decide
                      have y_40 : (40 : Int32).toInt = 40 := by decide
                      first | assumption | omega
                    have hh_73 : 0 ≤ ((Av 3) : Int32).toInt ∧ ((Av 3) : Int32).toInt ≤ 6 := by
                      have z_1 : ¬ (r_6 : Int32).toInt = ((-1) : Int32).toInt := fun z => c_8 (Int32.toInt_inj.mp z)
                      have z_2 := Int32.lt_iff_toInt_lt.mp (Int32.not_le.mp c_9)
                      have z_3 : ¬ (r_6 : Int32).toInt = (0 : Int32).toInt := fun z => c_19 (Int32.toInt_inj.mp z)
                      have z_4 : ¬ (x1 : Int32).toInt = (0 : Int32).toInt := fun z => c_20 (Int32.toInt_inj.mp z)
                      have z_5 := congrArg Int32.toInt c_22
                      have z_6 := Int32.lt_iff_toInt_lt.mp c_60
                      have z_7 : ¬ (r_6 : Int32).toInt = (0 : Int32).toInt := fun z => c_69 (Int32.toInt_inj.mp z)
                      have z_8 : ¬ (r_6 : Int32).toInt = (1 : Int32).toInt := fun z => c_70 (Int32.toInt_inj.mp z)
                      have z_9 := congrArg Int32.toInt c_71
                      have y_m1 : (-1 : Int32).toInt = -1 := by decide
                      have y_0 : (0 : Int32).toInt = 0 := by decide
                      have y_1 : (1 : Int32).toInt = 1 := by decide
                      have y_2 : (2 : Int32).toInt = 2 := by decide
                      have y_6 : (6 : Int32).toInt = 6 := by decide
                      have y_40 : (40 : Int32).toInt = 40 := by decide
                      first | assumption | omega
                    refine cV (a := (Wa 0)) (As := [.ref (Ta 0)]) (rest := []) (wr := []) ⟨hx, hb, hml, hown, hts⟩ hK hX hA (cu_X0_readBuyer l D tc sk (Wa 0) (Aa 0) (Aa 1) (Aa 2) (Aa 3) (Aa 4) (Aa 5) (Aa 6) (Aa 7) (Aa 8) (Av 0) (Av 1) (Av 2) (Av 3) (Av 4) (Av 5) (Af 1) (Af 2) (Af 3) (Af 4) (Af 5) (Af 6) (Af 7) (Af 8) (Ta 0) (Ta 1) (Tv 0) sv_65 sv_66 sv_67 (Tv 4) (Tf 1) hh_72 hh_73) k_583 k_580 k_582 k_5 k_97 pl_X0_readBuyer ⟨Nat.le_of_ble_eq_true rfl, Nat.le_of_ble_eq_true rfl⟩ rfl rfl (va_recv hK hP (ci := 0) (q0 := 0) rfl rfl) hP hD hS [0, 1, 2, 3, 4, 5, 6, 7, 8, 9, 10, 11] [] rfl rfl rfl rfl rfl (by decide) rfl hl.1 rfl (Nat.le_of_ble_eq_true rfl) dX0_readClause_108 ⟨Nat.le_of_ble_eq_true rfl, Nat.le_of_ble_eq_true rfl⟩ (fun v_74 u_75 H locs hv_76 hP hD hS => ?_)
                    obtain ⟨sv_77, sv_78, sv_79, sv_80, sv_81, sv_82, sv_83, sv_84⟩ := u_75
                    obtain ⟨rfl, he_85⟩ := hv_76
                    have he_85 : (0 ≤ ((Tv 0) : Int32).toInt ∧ ((Tv 0) : Int32).toInt ≤ 400 ∧ 0 ≤ (sv_81 : Int32).toInt ∧ (sv_81 : Int32).toInt ≤ 400 ∧ 0 ≤ (sv_82 : Int32).toInt ∧ (sv_82 : Int32).toInt ≤ 400) ∧ (0 ≤ (sv_77 : Int32).toInt ∧ (sv_77 : Int32).toInt ≤ 6) := he_85
                    have he_85_0 : (0 ≤ ((Tv 0) : Int32).toInt ∧ ((Tv 0) : Int32).toInt ≤ 400 ∧ 0 ≤ (sv_81 : Int32).toInt ∧ (sv_81 : Int32).toInt ≤ 400 ∧ 0 ≤ (sv_82 : Int32).toInt ∧ (sv_82 : Int32).toInt ≤ 400) := he_85.1
                    have he_85_1 : (0 ≤ (sv_77 : Int32).toInt ∧ (sv_77 : Int32).toInt ≤ 6) := he_85.2
                    refine W.eq (g2 := F0 m 111 ls []) rfl ?_
                    have hP : va_P D classes [((Wa 0), .inr (0, [.ref (Aa 0)])), ((Aa 0), .inr (9, [.int (Av 0), .int (Av 1), .int (Av 2), .int sv_77, .int (Av 4), .int (Av 5), .ref (Aa 1), .ref (Aa 2), .ref (Aa 3), .ref (Aa 4), .ref (Aa 5), .ref (Aa 6), .ref (Aa 7), .ref (Aa 8)])), ((Aa 1), .inl (tc 0, 10, .inl (Af 1))), ((Aa 2), .inl (tc 0, 10, .inl (Af 2))), ((Aa 3), .inl (tc 0, 6, .inl sv_78)), ((Aa 4), .inl (tc 0, 6, .inl sv_79)), ((Aa 5), .inl (tc 0, 6, .inl sv_80)), ((Aa 6), .inl (tc 0, 6, .inl (Af 6))), ((Aa 7), .inl (tc 0, 6, .inl (Af 7))), ((Aa 8), .inl (tc 0, 6, .inl (Af 8))), ((Ta 0), .inr (10, [.ref (Ta 1), .int (Tv 0), .int sv_81, .int sv_82, .int sv_83, .int sv_84])), ((Ta 1), .inl (tc 0, 400, .inl (Tf 1)))] H := hP
                    have hD : va_D A [((Wa 0), .inr (0, [.ref (Aa 0)])), ((Aa 0), .inr (9, [.int (Av 0), .int (Av 1), .int (Av 2), .int sv_77, .int (Av 4), .int (Av 5), .ref (Aa 1), .ref (Aa 2), .ref (Aa 3), .ref (Aa 4), .ref (Aa 5), .ref (Aa 6), .ref (Aa 7), .ref (Aa 8)])), ((Aa 1), .inl (tc 0, 10, .inl (Af 1))), ((Aa 2), .inl (tc 0, 10, .inl (Af 2))), ((Aa 3), .inl (tc 0, 6, .inl sv_78)), ((Aa 4), .inl (tc 0, 6, .inl sv_79)), ((Aa 5), .inl (tc 0, 6, .inl sv_80)), ((Aa 6), .inl (tc 0, 6, .inl (Af 6))), ((Aa 7), .inl (tc 0, 6, .inl (Af 7))), ((Aa 8), .inl (tc 0, 6, .inl (Af 8))), ((Ta 0), .inr (10, [.ref (Ta 1), .int (Tv 0), .int sv_81, .int sv_82, .int sv_83, .int sv_84])), ((Ta 1), .inl (tc 0, 400, .inl (Tf 1)))] := hD
                    refine lv_goto (tgt := 119) hx hb dX0_readClause_111 (by decide) ?_
                    have hq_86 : 0 ≤ ((Tv 0) : Int32).toInt ∧ ((Tv 0) : Int32).toInt ≤ 400 ∧ 0 ≤ (sv_81 : Int32).toInt ∧ (sv_81 : Int32).toInt ≤ 400 ∧ 0 ≤ (sv_82 : Int32).toInt ∧ (sv_82 : Int32).toInt ≤ 400 := by
                      have z_1 : ¬ (r_6 : Int32).toInt = ((-1) : Int32).toInt := fun z => c_8 (Int32.toInt_inj.mp z)
                      have z_2 := Int32.lt_iff_toInt_lt.mp (Int32.not_le.mp c_9)
                      have z_3 : ¬ (r_6 : Int32).toInt = (0 : Int32).toInt := fun z => c_19 (Int32.toInt_inj.mp z)
                      have z_4 : ¬ (x1 : Int32).toInt = (0 : Int32).toInt := fun z => c_20 (Int32.toInt_inj.mp z)
                      have z_5 := congrArg Int32.toInt c_22
                      have z_6 := Int32.lt_iff_toInt_lt.mp c_60
                      have z_7 : ¬ (r_6 : Int32).toInt = (0 : Int32).toInt := fun z => c_69 (Int32.toInt_inj.mp z)
                      have z_8 : ¬ (r_6 : Int32).toInt = (1 : Int32).toInt := fun z => c_70 (Int32.toInt_inj.mp z)
                      have z_9 := congrArg Int32.toInt c_71
                      have y_m1 : (-1 : Int32).toInt = -1 := by decide
                      have y_0 : (0 : Int32).toInt = 0 := by decide
                      have y_1 : (1 : Int32).toInt = 1 := by decide
                      have y_2 : (2 : Int32).toInt = 2 := by decide
                      have y_6 : (6 : Int32).toInt = 6 := by decide
                      have y_40 : (40 : Int32).toInt = 40 := by decide
                      first | assumption | omega
                    have hq_87 : 0 ≤ (sv_77 : Int32).toInt ∧ (sv_77 : Int32).toInt ≤ 6 := by
                      have z_1 : ¬ (r_6 : Int32).toInt = ((-1) : Int32).toInt := fun z => c_8 (Int32.toInt_inj.mp z)
                      have z_2 := Int32.lt_iff_toInt_lt.mp (Int32.not_le.mp c_9)
                      have z_3 : ¬ (r_6 : Int32).toInt = (0 : Int32).toInt := fun z => c_19 (Int32.toInt_inj.mp z)
                      have z_4 : ¬ (x1 : Int32).toInt = (0 : Int32).toInt := fun z => c_20 (Int32.toInt_inj.mp z)
                      have z_5 := congrArg Int32.toInt c_22
                      have z_6 := Int32.lt_iff_toInt_lt.mp c_60
                      have z_7 : ¬ (r_6 : Int32).toInt = (0 : Int32).toInt := fun z => c_69 (Int32.toInt_inj.mp z)
                      have z_8 : ¬ (r_6 : Int32).toInt = (1 : Int32).toInt := fun z => c_70 (Int32.toInt_inj.mp z)
                      have z_9 := congrArg Int32.toInt c_71
                      have y_m1 : (-1 : Int32).toInt = -1 := by decide
                      have y_0 : (0 : Int32).toInt = 0 := by decide
                      have y_1 : (1 : Int32).toInt = 1 := by decide
                      have y_2 : (2 : Int32).toInt = 2 := by decide
                      have y_6 : (6 : Int32).toInt = 6 := by decide
                      have y_40 : (40 : Int32).toInt = 40 := by decide
                      first | assumption | omega
                    exact retV hx hb hr hlk hP hD hS ((Av 0), (Av 1), (Av 2), sv_77, (Af 1), (Af 2), sv_78, sv_79, sv_80, sv_81, sv_82, sv_83, sv_84) ⟨rfl, hq_86, hq_87⟩ [0, 1, 2, 3, 4, 5, 6, 7, 8, 9, 10, 11] rfl rfl dX0_readClause_119 (Nat.le_of_ble_eq_true rfl) (Nat.le_of_ble_eq_true rfl) rfl
                · skip
                  refine lv_aload_n hx hb dX0_readClause_93 rfl (lv_at hl 1 rfl) ?_
                  refine lv_aload_n hx hb dX0_readClause_94 rfl (lv_at hl 2 rfl) ?_
                  have hh_88 : 0 ≤ ((Tv 0) : Int32).toInt ∧ ((Tv 0) : Int32).toInt ≤ 400 ∧ 0 ≤ (sv_65 : Int32).toInt ∧ (sv_65 : Int32).toInt ≤ 400 ∧ 0 ≤ (sv_66 : Int32).toInt ∧ (sv_66 : Int32).toInt ≤ 400 := by
                    have z_1 : ¬ (r_6 : Int32).toInt = ((-1) : Int32).toInt := fun z => c_8 (Int32.toInt_inj.mp z)
                    have z_2 := Int32.lt_iff_toInt_lt.mp (Int32.not_le.mp c_9)
                    have z_3 : ¬ (r_6 : Int32).toInt = (0 : Int32).toInt := fun z => c_19 (Int32.toInt_inj.mp z)
                    have z_4 : ¬ (x1 : Int32).toInt = (0 : Int32).toInt := fun z => c_20 (Int32.toInt_inj.mp z)
                    have z_5 := congrArg Int32.toInt c_22
                    have z_6 := Int32.lt_iff_toInt_lt.mp c_60
                    have z_7 : ¬ (r_6 : Int32).toInt = (0 : Int32).toInt := fun z => c_69 (Int32.toInt_inj.mp z)
                    have z_8 := congrArg Int32.toInt c_70
                    have y_m1 : (-1 : Int32).toInt = -1 := by decide
                    have y_0 : (0 : Int32).toInt = 0 := by decide
                    have y_1 : (1 : Int32).toInt = 1 := by decide
                    have y_2 : (2 : Int32).toInt = 2 := by decide
                    have y_6 : (6 : Int32).toInt = 6 := by decide
                    have y_40 : (40 : Int32).toInt = 40 := by decide
                    first | assumption | omega
                  have hh_89 : 0 ≤ ((Av 3) : Int32).toInt ∧ ((Av 3) : Int32).toInt ≤ 6 := by
                    have z_1 : ¬ (r_6 : Int32).toInt = ((-1) : Int32).toInt := fun z => c_8 (Int32.toInt_inj.mp z)
                    have z_2 := Int32.lt_iff_toInt_lt.mp (Int32.not_le.mp c_9)
                    have z_3 : ¬ (r_6 : Int32).toInt = (0 : Int32).toInt := fun z => c_19 (Int32.toInt_inj.mp z)
                    have z_4 : ¬ (x1 : Int32).toInt = (0 : Int32).toInt := fun z => c_20 (Int32.toInt_inj.mp z)
                    have z_5 := congrArg Int32.toInt c_22
                    have z_6 := Int32.lt_iff_toInt_lt.mp c_60
                    have z_7 : ¬ (r_6 : Int32).toInt = (0 : Int32).toInt := fun z => c_69 (Int32.toInt_inj.mp z)
                    have z_8 := congrArg Int32.toInt c_70
                    have y_m1 : (-1 : Int32).toInt = -1 := by decide
                    have y_0 : (0 : Int32).toInt = 0 := by decide
                    have y_1 : (1 : Int32).toInt = 1 := by decide
                    have y_2 : (2 : Int32).toInt = 2 := by decide
                    have y_6 : (6 : Int32).toInt = 6 := by decide
                    have y_40 : (40 : Int32).toInt = 40 := by decide
                    first | assumption | omega
                  refine cV (a := (Wa 0)) (As := [.ref (Ta 0)]) (rest := []) (wr := []) ⟨hx, hb, hml, hown, hts⟩ hK hX hA (cu_X0_readSky l D tc sk (Wa 0) (Aa 0) (Aa 1) (Aa 2) (Aa 3) (Aa 4) (Aa 5) (Aa 6) (Aa 7) (Aa 8) (Av 0) (Av 1) (Av 2) (Av 3) (Av 4) (Av 5) (Af 1) (Af 2) (Af 3) (Af 4) (Af 5) (Af 6) (Af 7) (Af 8) (Ta 0) (Ta 1) (Tv 0) sv_65 sv_66 sv_67 (Tv 4) (Tf 1) hh_88 hh_89) k_575 k_572 k_574 k_4 k_97 pl_X0_readSky ⟨Nat.le_of_ble_eq_true rfl, Nat.le_of_ble_eq_true rfl⟩ rfl rfl (va_recv hK hP (ci := 0) (q0 := 0) rfl rfl) hP hD hS [0, 1, 2, 3, 4, 5, 6, 7, 8, 9, 10, 11] [] rfl rfl rfl rfl rfl (by decide) rfl hl.1 rfl (Nat.le_of_ble_eq_true rfl) dX0_readClause_95 ⟨Nat.le_of_ble_eq_true rfl, Nat.le_of_ble_eq_true rfl⟩ (fun v_90 u_91 H locs hv_92 hP hD hS => ?_)
                  obtain ⟨sv_93, sv_94, sv_95, sv_96, sv_97⟩ := u_91
                  obtain ⟨rfl, he_98⟩ := hv_92
                  have he_98 : (0 ≤ ((Tv 0) : Int32).toInt ∧ ((Tv 0) : Int32).toInt ≤ 400 ∧ 0 ≤ (sv_94 : Int32).toInt ∧ (sv_94 : Int32).toInt ≤ 400 ∧ 0 ≤ (sv_95 : Int32).toInt ∧ (sv_95 : Int32).toInt ≤ 400) ∧ (0 ≤ ((Av 3) : Int32).toInt ∧ ((Av 3) : Int32).toInt ≤ 6) := he_98
                  have he_98_0 : (0 ≤ ((Tv 0) : Int32).toInt ∧ ((Tv 0) : Int32).toInt ≤ 400 ∧ 0 ≤ (sv_94 : Int32).toInt ∧ (sv_94 : Int32).toInt ≤ 400 ∧ 0 ≤ (sv_95 : Int32).toInt ∧ (sv_95 : Int32).toInt ≤ 400) := he_98.1
                  have he_98_1 : (0 ≤ ((Av 3) : Int32).toInt ∧ ((Av 3) : Int32).toInt ≤ 6) := he_98.2
                  refine W.eq (g2 := F0 m 98 ls []) rfl ?_
                  have hP : va_P D classes [((Wa 0), .inr (0, [.ref (Aa 0)])), ((Aa 0), .inr (9, [.int (Av 0), .int (Av 1), .int (Av 2), .int (Av 3), .int (Av 4), .int (Av 5), .ref (Aa 1), .ref (Aa 2), .ref (Aa 3), .ref (Aa 4), .ref (Aa 5), .ref (Aa 6), .ref (Aa 7), .ref (Aa 8)])), ((Aa 1), .inl (tc 0, 10, .inl sv_93)), ((Aa 2), .inl (tc 0, 10, .inl (Af 2))), ((Aa 3), .inl (tc 0, 6, .inl (Af 3))), ((Aa 4), .inl (tc 0, 6, .inl (Af 4))), ((Aa 5), .inl (tc 0, 6, .inl (Af 5))), ((Aa 6), .inl (tc 0, 6, .inl (Af 6))), ((Aa 7), .inl (tc 0, 6, .inl (Af 7))), ((Aa 8), .inl (tc 0, 6, .inl (Af 8))), ((Ta 0), .inr (10, [.ref (Ta 1), .int (Tv 0), .int sv_94, .int sv_95, .int sv_96, .int sv_97])), ((Ta 1), .inl (tc 0, 400, .inl (Tf 1)))] H := hP
                  have hD : va_D A [((Wa 0), .inr (0, [.ref (Aa 0)])), ((Aa 0), .inr (9, [.int (Av 0), .int (Av 1), .int (Av 2), .int (Av 3), .int (Av 4), .int (Av 5), .ref (Aa 1), .ref (Aa 2), .ref (Aa 3), .ref (Aa 4), .ref (Aa 5), .ref (Aa 6), .ref (Aa 7), .ref (Aa 8)])), ((Aa 1), .inl (tc 0, 10, .inl sv_93)), ((Aa 2), .inl (tc 0, 10, .inl (Af 2))), ((Aa 3), .inl (tc 0, 6, .inl (Af 3))), ((Aa 4), .inl (tc 0, 6, .inl (Af 4))), ((Aa 5), .inl (tc 0, 6, .inl (Af 5))), ((Aa 6), .inl (tc 0, 6, .inl (Af 6))), ((Aa 7), .inl (tc 0, 6, .inl (Af 7))), ((Aa 8), .inl (tc 0, 6, .inl (Af 8))), ((Ta 0), .inr (10, [.ref (Ta 1), .int (Tv 0), .int sv_94, .int sv_95, .int sv_96, .int sv_97])), ((Ta 1), .inl (tc 0, 400, .inl (Tf 1)))] := hD
                  refine lv_goto (tgt := 119) hx hb dX0_readClause_98 (by decide) ?_
                  have hq_99 : 0 ≤ ((Tv 0) : Int32).toInt ∧ ((Tv 0) : Int32).toInt ≤ 400 ∧ 0 ≤ (sv_94 : Int32).toInt ∧ (sv_94 : Int32).toInt ≤ 400 ∧ 0 ≤ (sv_95 : Int32).toInt ∧ (sv_95 : Int32).toInt ≤ 400 := by
                    have z_1 : ¬ (r_6 : Int32).toInt = ((-1) : Int32).toInt := fun z => c_8 (Int32.toInt_inj.mp z)
                    have z_2 := Int32.lt_iff_toInt_lt.mp (Int32.not_le.mp c_9)
                    have z_3 : ¬ (r_6 : Int32).toInt = (0 : Int32).toInt := fun z => c_19 (Int32.toInt_inj.mp z)
                    have z_4 : ¬ (x1 : Int32).toInt = (0 : Int32).toInt := fun z => c_20 (Int32.toInt_inj.mp z)
                    have z_5 := congrArg Int32.toInt c_22
                    have z_6 := Int32.lt_iff_toInt_lt.mp c_60
                    have z_7 : ¬ (r_6 : Int32).toInt = (0 : Int32).toInt := fun z => c_69 (Int32.toInt_inj.mp z)
                    have z_8 := congrArg Int32.toInt c_70
                    have y_m1 : (-1 : Int32).toInt = -1 := by decide
                    have y_0 : (0 : Int32).toInt = 0 := by decide
                    have y_1 : (1 : Int32).toInt = 1 := by decide
                    have y_2 : (2 : Int32).toInt = 2 := by decide
                    have y_6 : (6 : Int32).toInt = 6 := by decide
                    have y_40 : (40 : Int32).toInt = 40 := by decide
                    first | assumption | omega
                  have hq_100 : 0 ≤ ((Av 3) : Int32).toInt ∧ ((Av 3) : Int32).toInt ≤ 6 := by
                    have z_1 : ¬ (r_6 : Int32).toInt = ((-1) : Int32).toInt := fun z => c_8 (Int32.toInt_inj.mp z)
                    have z_2 := Int32.lt_iff_toInt_lt.mp (Int32.not_le.mp c_9)
                    have z_3 : ¬ (r_6 : Int32).toInt = (0 : Int32).toInt := fun z => c_19 (Int32.toInt_inj.mp z)
                    have z_4 : ¬ (x1 : Int32).toInt = (0 : Int32).toInt := fun z => c_20 (Int32.toInt_inj.mp z)
                    have z_5 := congrArg Int32.toInt c_22
                    have z_6 := Int32.lt_iff_toInt_lt.mp c_60
                    have z_7 : ¬ (r_6 : Int32).toInt = (0 : Int32).toInt := fun z => c_69 (Int32.toInt_inj.mp z)
                    have z_8 := congrArg Int32.toInt c_70
                    have y_m1 : (-1 : Int32).toInt = -1 := by decide
                    have y_0 : (0 : Int32).toInt = 0 := by decide
                    have y_1 : (1 : Int32).toInt = 1 := by decide
                    have y_2 : (2 : Int32).toInt = 2 := by decide
                    have y_6 : (6 : Int32).toInt = 6 := by decide
                    have y_40 : (40 : Int32).toInt = 40 := by decide
                    first | assumption | omega
                  exact retV hx hb hr hlk hP hD hS ((Av 0), (Av 1), (Av 2), (Av 3), sv_93, (Af 2), (Af 3), (Af 4), (Af 5), sv_94, sv_95, sv_96, sv_97) ⟨rfl, hq_99, hq_100⟩ [0, 1, 2, 3, 4, 5, 6, 7, 8, 9, 10, 11] rfl rfl dX0_readClause_119 (Nat.le_of_ble_eq_true rfl) (Nat.le_of_ble_eq_true rfl) rfl
              · skip
                exfalso
                have z_1 : ¬ (r_6 : Int32).toInt = ((-1) : Int32).toInt := fun z => c_8 (Int32.toInt_inj.mp z)
                have z_2 := Int32.lt_iff_toInt_lt.mp (Int32.not_le.mp c_9)
                have z_3 : ¬ (r_6 : Int32).toInt = (0 : Int32).toInt := fun z => c_19 (Int32.toInt_inj.mp z)
                have z_4 : ¬ (x1 : Int32).toInt = (0 : Int32).toInt := fun z => c_20 (Int32.toInt_inj.mp z)
                have z_5 := congrArg Int32.toInt c_22
                have z_6 := Int32.lt_iff_toInt_lt.mp c_60
                have z_7 := congrArg Int32.toInt c_69
                have y_m1 : (-1 : Int32).toInt = -1 := by decide
                have y_0 : (0 : Int32).toInt = 0 := by decide
                have y_2 : (2 : Int32).toInt = 2 := by decide
                have y_6 : (6 : Int32).toInt = 6 := by decide
                have y_40 : (40 : Int32).toInt = 40 := by decide
                omega
            · skip
              refine lv_aload_n hx hb dX0_readClause_64 rfl (lv_at hl 2 rfl) ?_
              refine lv_iconst (v := 4) hx hb dX0_readClause_65 (by decide) ?_
              have hh_101 : 0 ≤ ((Tv 0) : Int32).toInt ∧ ((Tv 0) : Int32).toInt ≤ 400 ∧ 0 ≤ ((Tv 1) : Int32).toInt ∧ ((Tv 1) : Int32).toInt ≤ 400 ∧ 0 ≤ ((Tv 2) : Int32).toInt ∧ ((Tv 2) : Int32).toInt ≤ 400 := by
                have z_1 : ¬ (r_6 : Int32).toInt = ((-1) : Int32).toInt := fun z => c_8 (Int32.toInt_inj.mp z)
                have z_2 := Int32.lt_iff_toInt_lt.mp (Int32.not_le.mp c_9)
                have z_3 : ¬ (r_6 : Int32).toInt = (0 : Int32).toInt := fun z => c_19 (Int32.toInt_inj.mp z)
                have z_4 : ¬ (x1 : Int32).toInt = (0 : Int32).toInt := fun z => c_20 (Int32.toInt_inj.mp z)
                have z_5 := congrArg Int32.toInt c_22
                have z_6 := Int32.le_iff_toInt_le.mp (Int32.not_lt.mp c_60)
                have y_m1 : (-1 : Int32).toInt = -1 := by decide
                have y_0 : (0 : Int32).toInt = 0 := by decide
                have y_2 : (2 : Int32).toInt = 2 := by decide
                have y_6 : (6 : Int32).toInt = 6 := by decide
                have y_40 : (40 : Int32).toInt = 40 := by decide
                first | assumption | omega
              refine cV (a := (Ta 0)) (As := [.int 4]) (rest := []) (wr := [((Wa 0), .inr (0, [.ref (Aa 0)])), ((Aa 0), .inr (9, [.int (Av 0), .int (Av 1), .int (Av 2), .int (Av 3), .int (Av 4), .int (Av 5), .ref (Aa 1), .ref (Aa 2), .ref (Aa 3), .ref (Aa 4), .ref (Aa 5), .ref (Aa 6), .ref (Aa 7), .ref (Aa 8)])), ((Aa 1), .inl (tc 0, 10, .inl (Af 1))), ((Aa 2), .inl (tc 0, 10, .inl (Af 2))), ((Aa 3), .inl (tc 0, 6, .inl (Af 3))), ((Aa 4), .inl (tc 0, 6, .inl (Af 4))), ((Aa 5), .inl (tc 0, 6, .inl (Af 5))), ((Aa 6), .inl (tc 0, 6, .inl (Af 6))), ((Aa 7), .inl (tc 0, 6, .inl (Af 7))), ((Aa 8), .inl (tc 0, 6, .inl (Af 8)))]) ⟨hx, hb, hml, hown, hts⟩ hK hX hA (cu_X10_fail l D tc sk (Ta 0) (Ta 1) (Tv 0) (Tv 1) (Tv 2) (Tv 3) (Tv 4) (Tf 1) 4 hh_101) k_557 k_554 k_555 k_556 k_96 pl_X10_fail ⟨Nat.le_of_ble_eq_true rfl, Nat.le_of_ble_eq_true rfl⟩ rfl rfl (va_recv hK hP (ci := 10) (q0 := 10) rfl rfl) hP hD hS [10, 11] [0, 1, 2, 3, 4, 5, 6, 7, 8, 9] rfl rfl rfl rfl rfl (by decide) rfl hl.1 rfl (Nat.le_of_ble_eq_true rfl) dX0_readClause_66 ⟨Nat.le_of_ble_eq_true rfl, Nat.le_of_ble_eq_true rfl⟩ (fun v_102 u_103 H locs hv_104 hP hD hS => ?_)
              obtain ⟨sv_105, sv_106⟩ := u_103
              obtain ⟨rfl, he_107⟩ := hv_104
              have he_107 : (0 ≤ ((Tv 0) : Int32).toInt ∧ ((Tv 0) : Int32).toInt ≤ 400 ∧ 0 ≤ ((Tv 1) : Int32).toInt ∧ ((Tv 1) : Int32).toInt ≤ 400 ∧ 0 ≤ ((Tv 2) : Int32).toInt ∧ ((Tv 2) : Int32).toInt ≤ 400) := he_107
              refine W.eq (g2 := F0 m 69 ls []) rfl ?_
              have hP : va_P D classes [((Wa 0), .inr (0, [.ref (Aa 0)])), ((Aa 0), .inr (9, [.int (Av 0), .int (Av 1), .int (Av 2), .int (Av 3), .int (Av 4), .int (Av 5), .ref (Aa 1), .ref (Aa 2), .ref (Aa 3), .ref (Aa 4), .ref (Aa 5), .ref (Aa 6), .ref (Aa 7), .ref (Aa 8)])), ((Aa 1), .inl (tc 0, 10, .inl (Af 1))), ((Aa 2), .inl (tc 0, 10, .inl (Af 2))), ((Aa 3), .inl (tc 0, 6, .inl (Af 3))), ((Aa 4), .inl (tc 0, 6, .inl (Af 4))), ((Aa 5), .inl (tc 0, 6, .inl (Af 5))), ((Aa 6), .inl (tc 0, 6, .inl (Af 6))), ((Aa 7), .inl (tc 0, 6, .inl (Af 7))), ((Aa 8), .inl (tc 0, 6, .inl (Af 8))), ((Ta 0), .inr (10, [.ref (Ta 1), .int (Tv 0), .int (Tv 1), .int (Tv 2), .int sv_105, .int sv_106])), ((Ta 1), .inl (tc 0, 400, .inl (Tf 1)))] H := hP
              have hD : va_D A [((Wa 0), .inr (0, [.ref (Aa 0)])), ((Aa 0), .inr (9, [.int (Av 0), .int (Av 1), .int (Av 2), .int (Av 3), .int (Av 4), .int (Av 5), .ref (Aa 1), .ref (Aa 2), .ref (Aa 3), .ref (Aa 4), .ref (Aa 5), .ref (Aa 6), .ref (Aa 7), .ref (Aa 8)])), ((Aa 1), .inl (tc 0, 10, .inl (Af 1))), ((Aa 2), .inl (tc 0, 10, .inl (Af 2))), ((Aa 3), .inl (tc 0, 6, .inl (Af 3))), ((Aa 4), .inl (tc 0, 6, .inl (Af 4))), ((Aa 5), .inl (tc 0, 6, .inl (Af 5))), ((Aa 6), .inl (tc 0, 6, .inl (Af 6))), ((Aa 7), .inl (tc 0, 6, .inl (Af 7))), ((Aa 8), .inl (tc 0, 6, .inl (Af 8))), ((Ta 0), .inr (10, [.ref (Ta 1), .int (Tv 0), .int (Tv 1), .int (Tv 2), .int sv_105, .int sv_106])), ((Ta 1), .inl (tc 0, 400, .inl (Tf 1)))] := hD
              refine lv_goto (tgt := 119) hx hb dX0_readClause_69 (by decide) ?_
              have hq_108 : 0 ≤ ((Tv 0) : Int32).toInt ∧ ((Tv 0) : Int32).toInt ≤ 400 ∧ 0 ≤ ((Tv 1) : Int32).toInt ∧ ((Tv 1) : Int32).toInt ≤ 400 ∧ 0 ≤ ((Tv 2) : Int32).toInt ∧ ((Tv 2) : Int32).toInt ≤ 400 := by
                have z_1 : ¬ (r_6 : Int32).toInt = ((-1) : Int32).toInt := fun z => c_8 (Int32.toInt_inj.mp z)
                have z_2 := Int32.lt_iff_toInt_lt.mp (Int32.not_le.mp c_9)
                have z_3 : ¬ (r_6 : Int32).toInt = (0 : Int32).toInt := fun z => c_19 (Int32.toInt_inj.mp z)
                have z_4 : ¬ (x1 : Int32).toInt = (0 : Int32).toInt := fun z => c_20 (Int32.toInt_inj.mp z)
                have z_5 := congrArg Int32.toInt c_22
                have z_6 := Int32.le_iff_toInt_le.mp (Int32.not_lt.mp c_60)
                have y_m1 : (-1 : Int32).toInt = -1 := by decide
                have y_0 : (0 : Int32).toInt = 0 := by decide
                have y_2 : (2 : Int32).toInt = 2 := by decide
                have y_6 : (6 : Int32).toInt = 6 := by decide
                have y_40 : (40 : Int32).toInt = 40 := by decide
                first | assumption | omega
              have hq_109 : 0 ≤ ((Av 3) : Int32).toInt ∧ ((Av 3) : Int32).toInt ≤ 6 := by
                have z_1 : ¬ (r_6 : Int32).toInt = ((-1) : Int32).toInt := fun z => c_8 (Int32.toInt_inj.mp z)
                have z_2 := Int32.lt_iff_toInt_lt.mp (Int32.not_le.mp c_9)
                have z_3 : ¬ (r_6 : Int32).toInt = (0 : Int32).toInt := fun z => c_19 (Int32.toInt_inj.mp z)
                have z_4 : ¬ (x1 : Int32).toInt = (0 : Int32).toInt := fun z => c_20 (Int32.toInt_inj.mp z)
                have z_5 := congrArg Int32.toInt c_22
                have z_6 := Int32.le_iff_toInt_le.mp (Int32.not_lt.mp c_60)
                have y_m1 : (-1 : Int32).toInt = -1 := by decide
                have y_0 : (0 : Int32).toInt = 0 := by decide
                have y_2 : (2 : Int32).toInt = 2 := by decide
                have y_6 : (6 : Int32).toInt = 6 := by decide
                have y_40 : (40 : Int32).toInt = 40 := by decide
                first | assumption | omega
              exact retV hx hb hr hlk hP hD hS ((Av 0), (Av 1), (Av 2), (Av 3), (Af 1), (Af 2), (Af 3), (Af 4), (Af 5), (Tv 1), (Tv 2), sv_105, sv_106) ⟨rfl, hq_108, hq_109⟩ [0, 1, 2, 3, 4, 5, 6, 7, 8, 9, 10, 11] rfl rfl dX0_readClause_119 (Nat.le_of_ble_eq_true rfl) (Nat.le_of_ble_eq_true rfl) rfl
        · skip
          refine lv_iconst (v := 1) hx hb dX0_readClause_39 (by decide) ?_
          refine lv_goto (tgt := 44) hx hb dX0_readClause_40 (by decide) ?_
          refine lv_icmp_ne (tgt := 64) hx hb dX0_readClause_44 (by decide) (fun c_110 => ?_) (fun c_110 => absurd c_110 (by decide))
          refine lv_aload_n hx hb dX0_readClause_64 rfl (lv_at hl 2 rfl) ?_
          refine lv_iconst (v := 4) hx hb dX0_readClause_65 (by decide) ?_
          have hh_111 : 0 ≤ ((Tv 0) : Int32).toInt ∧ ((Tv 0) : Int32).toInt ≤ 400 ∧ 0 ≤ ((Tv 1) : Int32).toInt ∧ ((Tv 1) : Int32).toInt ≤ 400 ∧ 0 ≤ ((Tv 2) : Int32).toInt ∧ ((Tv 2) : Int32).toInt ≤ 400 := by
            have z_1 : ¬ (r_6 : Int32).toInt = ((-1) : Int32).toInt := fun z => c_8 (Int32.toInt_inj.mp z)
            have z_2 := Int32.lt_iff_toInt_lt.mp (Int32.not_le.mp c_9)
            have z_3 : ¬ (r_6 : Int32).toInt = (0 : Int32).toInt := fun z => c_19 (Int32.toInt_inj.mp z)
            have z_4 := congrArg Int32.toInt c_20
            have y_m1 : (-1 : Int32).toInt = -1 := by decide
            have y_0 : (0 : Int32).toInt = 0 := by decide
            have y_40 : (40 : Int32).toInt = 40 := by decide
            first | assumption | omega
          refine cV (a := (Ta 0)) (As := [.int 4]) (rest := []) (wr := [((Wa 0), .inr (0, [.ref (Aa 0)])), ((Aa 0), .inr (9, [.int (Av 0), .int (Av 1), .int (Av 2), .int (Av 3), .int (Av 4), .int (Av 5), .ref (Aa 1), .ref (Aa 2), .ref (Aa 3), .ref (Aa 4), .ref (Aa 5), .ref (Aa 6), .ref (Aa 7), .ref (Aa 8)])), ((Aa 1), .inl (tc 0, 10, .inl (Af 1))), ((Aa 2), .inl (tc 0, 10, .inl (Af 2))), ((Aa 3), .inl (tc 0, 6, .inl (Af 3))), ((Aa 4), .inl (tc 0, 6, .inl (Af 4))), ((Aa 5), .inl (tc 0, 6, .inl (Af 5))), ((Aa 6), .inl (tc 0, 6, .inl (Af 6))), ((Aa 7), .inl (tc 0, 6, .inl (Af 7))), ((Aa 8), .inl (tc 0, 6, .inl (Af 8)))]) ⟨hx, hb, hml, hown, hts⟩ hK hX hA (cu_X10_fail l D tc sk (Ta 0) (Ta 1) (Tv 0) (Tv 1) (Tv 2) (Tv 3) (Tv 4) (Tf 1) 4 hh_111) k_557 k_554 k_555 k_556 k_96 pl_X10_fail ⟨Nat.le_of_ble_eq_true rfl, Nat.le_of_ble_eq_true rfl⟩ rfl rfl (va_recv hK hP (ci := 10) (q0 := 10) rfl rfl) hP hD hS [10, 11] [0, 1, 2, 3, 4, 5, 6, 7, 8, 9] rfl rfl rfl rfl rfl (by decide) rfl hl.1 rfl (Nat.le_of_ble_eq_true rfl) dX0_readClause_66 ⟨Nat.le_of_ble_eq_true rfl, Nat.le_of_ble_eq_true rfl⟩ (fun v_112 u_113 H locs hv_114 hP hD hS => ?_)
          obtain ⟨sv_115, sv_116⟩ := u_113
          obtain ⟨rfl, he_117⟩ := hv_114
          have he_117 : (0 ≤ ((Tv 0) : Int32).toInt ∧ ((Tv 0) : Int32).toInt ≤ 400 ∧ 0 ≤ ((Tv 1) : Int32).toInt ∧ ((Tv 1) : Int32).toInt ≤ 400 ∧ 0 ≤ ((Tv 2) : Int32).toInt ∧ ((Tv 2) : Int32).toInt ≤ 400) := he_117
          refine W.eq (g2 := F0 m 69 ls []) rfl ?_
          have hP : va_P D classes [((Wa 0), .inr (0, [.ref (Aa 0)])), ((Aa 0), .inr (9, [.int (Av 0), .int (Av 1), .int (Av 2), .int (Av 3), .int (Av 4), .int (Av 5), .ref (Aa 1), .ref (Aa 2), .ref (Aa 3), .ref (Aa 4), .ref (Aa 5), .ref (Aa 6), .ref (Aa 7), .ref (Aa 8)])), ((Aa 1), .inl (tc 0, 10, .inl (Af 1))), ((Aa 2), .inl (tc 0, 10, .inl (Af 2))), ((Aa 3), .inl (tc 0, 6, .inl (Af 3))), ((Aa 4), .inl (tc 0, 6, .inl (Af 4))), ((Aa 5), .inl (tc 0, 6, .inl (Af 5))), ((Aa 6), .inl (tc 0, 6, .inl (Af 6))), ((Aa 7), .inl (tc 0, 6, .inl (Af 7))), ((Aa 8), .inl (tc 0, 6, .inl (Af 8))), ((Ta 0), .inr (10, [.ref (Ta 1), .int (Tv 0), .int (Tv 1), .int (Tv 2), .int sv_115, .int sv_116])), ((Ta 1), .inl (tc 0, 400, .inl (Tf 1)))] H := hP
          have hD : va_D A [((Wa 0), .inr (0, [.ref (Aa 0)])), ((Aa 0), .inr (9, [.int (Av 0), .int (Av 1), .int (Av 2), .int (Av 3), .int (Av 4), .int (Av 5), .ref (Aa 1), .ref (Aa 2), .ref (Aa 3), .ref (Aa 4), .ref (Aa 5), .ref (Aa 6), .ref (Aa 7), .ref (Aa 8)])), ((Aa 1), .inl (tc 0, 10, .inl (Af 1))), ((Aa 2), .inl (tc 0, 10, .inl (Af 2))), ((Aa 3), .inl (tc 0, 6, .inl (Af 3))), ((Aa 4), .inl (tc 0, 6, .inl (Af 4))), ((Aa 5), .inl (tc 0, 6, .inl (Af 5))), ((Aa 6), .inl (tc 0, 6, .inl (Af 6))), ((Aa 7), .inl (tc 0, 6, .inl (Af 7))), ((Aa 8), .inl (tc 0, 6, .inl (Af 8))), ((Ta 0), .inr (10, [.ref (Ta 1), .int (Tv 0), .int (Tv 1), .int (Tv 2), .int sv_115, .int sv_116])), ((Ta 1), .inl (tc 0, 400, .inl (Tf 1)))] := hD
          refine lv_goto (tgt := 119) hx hb dX0_readClause_69 (by decide) ?_
          have hq_118 : 0 ≤ ((Tv 0) : Int32).toInt ∧ ((Tv 0) : Int32).toInt ≤ 400 ∧ 0 ≤ ((Tv 1) : Int32).toInt ∧ ((Tv 1) : Int32).toInt ≤ 400 ∧ 0 ≤ ((Tv 2) : Int32).toInt ∧ ((Tv 2) : Int32).toInt ≤ 400 := by
            have z_1 : ¬ (r_6 : Int32).toInt = ((-1) : Int32).toInt := fun z => c_8 (Int32.toInt_inj.mp z)
            have z_2 := Int32.lt_iff_toInt_lt.mp (Int32.not_le.mp c_9)
            have z_3 : ¬ (r_6 : Int32).toInt = (0 : Int32).toInt := fun z => c_19 (Int32.toInt_inj.mp z)
            have z_4 := congrArg Int32.toInt c_20
            have y_m1 : (-1 : Int32).toInt = -1 := by decide
            have y_0 : (0 : Int32).toInt = 0 := by decide
            have y_40 : (40 : Int32).toInt = 40 := by decide
            first | assumption | omega
          have hq_119 : 0 ≤ ((Av 3) : Int32).toInt ∧ ((Av 3) : Int32).toInt ≤ 6 := by
            have z_1 : ¬ (r_6 : Int32).toInt = ((-1) : Int32).toInt := fun z => c_8 (Int32.toInt_inj.mp z)
            have z_2 := Int32.lt_iff_toInt_lt.mp (Int32.not_le.mp c_9)
            have z_3 : ¬ (r_6 : Int32).toInt = (0 : Int32).toInt := fun z => c_19 (Int32.toInt_inj.mp z)
            have z_4 := congrArg Int32.toInt c_20
            have y_m1 : (-1 : Int32).toInt = -1 := by decide
            have y_0 : (0 : Int32).toInt = 0 := by decide
            have y_40 : (40 : Int32).toInt = 40 := by decide
            first | assumption | omega
          exact retV hx hb hr hlk hP hD hS ((Av 0), (Av 1), (Av 2), (Av 3), (Af 1), (Af 2), (Af 3), (Af 4), (Af 5), (Tv 1), (Tv 2), sv_115, sv_116) ⟨rfl, hq_118, hq_119⟩ [0, 1, 2, 3, 4, 5, 6, 7, 8, 9, 10, 11] rfl rfl dX0_readClause_119 (Nat.le_of_ble_eq_true rfl) (Nat.le_of_ble_eq_true rfl) rfl
      · skip
        refine lv_iconst (v := 1) hx hb dX0_readClause_30 (by decide) ?_
        refine lv_goto (tgt := 35) hx hb dX0_readClause_31 (by decide) ?_
        refine lv_iload_n hx hb dX0_readClause_35 rfl (lv_at hl 3 rfl) ?_
        refine lv_if_ne (tgt := 43) hx hb dX0_readClause_36 (by decide) (fun c_120 => ?_) (fun c_120 => ?_)
        · skip
          refine lv_iconst (v := 0) hx hb dX0_readClause_43 (by decide) ?_
          refine lv_icmp_ne (tgt := 64) hx hb dX0_readClause_44 (by decide) (fun c_121 => ?_) (fun c_121 => absurd c_121 (by decide))
          refine lv_aload_n hx hb dX0_readClause_64 rfl (lv_at hl 2 rfl) ?_
          refine lv_iconst (v := 4) hx hb dX0_readClause_65 (by decide) ?_
          have hh_122 : 0 ≤ ((Tv 0) : Int32).toInt ∧ ((Tv 0) : Int32).toInt ≤ 400 ∧ 0 ≤ ((Tv 1) : Int32).toInt ∧ ((Tv 1) : Int32).toInt ≤ 400 ∧ 0 ≤ ((Tv 2) : Int32).toInt ∧ ((Tv 2) : Int32).toInt ≤ 400 := by
            have z_1 : ¬ (r_6 : Int32).toInt = ((-1) : Int32).toInt := fun z => c_8 (Int32.toInt_inj.mp z)
            have z_2 := Int32.lt_iff_toInt_lt.mp (Int32.not_le.mp c_9)
            have z_3 := congrArg Int32.toInt c_19
            have z_4 : ¬ (x1 : Int32).toInt = (0 : Int32).toInt := fun z => c_120 (Int32.toInt_inj.mp z)
            have y_m1 : (-1 : Int32).toInt = -1 := by decide
            have y_0 : (0 : Int32).toInt = 0 := by decide
            have y_40 : (40 : Int32).toInt = 40 := by decide
            first | assumption | omega
          refine cV (a := (Ta 0)) (As := [.int 4]) (rest := []) (wr := [((Wa 0), .inr (0, [.ref (Aa 0)])), ((Aa 0), .inr (9, [.int (Av 0), .int (Av 1), .int (Av 2), .int (Av 3), .int (Av 4), .int (Av 5), .ref (Aa 1), .ref (Aa 2), .ref (Aa 3), .ref (Aa 4), .ref (Aa 5), .ref (Aa 6), .ref (Aa 7), .ref (Aa 8)])), ((Aa 1), .inl (tc 0, 10, .inl (Af 1))), ((Aa 2), .inl (tc 0, 10, .inl (Af 2))), ((Aa 3), .inl (tc 0, 6, .inl (Af 3))), ((Aa 4), .inl (tc 0, 6, .inl (Af 4))), ((Aa 5), .inl (tc 0, 6, .inl (Af 5))), ((Aa 6), .inl (tc 0, 6, .inl (Af 6))), ((Aa 7), .inl (tc 0, 6, .inl (Af 7))), ((Aa 8), .inl (tc 0, 6, .inl (Af 8)))]) ⟨hx, hb, hml, hown, hts⟩ hK hX hA (cu_X10_fail l D tc sk (Ta 0) (Ta 1) (Tv 0) (Tv 1) (Tv 2) (Tv 3) (Tv 4) (Tf 1) 4 hh_122) k_557 k_554 k_555 k_556 k_96 pl_X10_fail ⟨Nat.le_of_ble_eq_true rfl, Nat.le_of_ble_eq_true rfl⟩ rfl rfl (va_recv hK hP (ci := 10) (q0 := 10) rfl rfl) hP hD hS [10, 11] [0, 1, 2, 3, 4, 5, 6, 7, 8, 9] rfl rfl rfl rfl rfl (by decide) rfl hl.1 rfl (Nat.le_of_ble_eq_true rfl) dX0_readClause_66 ⟨Nat.le_of_ble_eq_true rfl, Nat.le_of_ble_eq_true rfl⟩ (fun v_123 u_124 H locs hv_125 hP hD hS => ?_)
          obtain ⟨sv_126, sv_127⟩ := u_124
          obtain ⟨rfl, he_128⟩ := hv_125
          have he_128 : (0 ≤ ((Tv 0) : Int32).toInt ∧ ((Tv 0) : Int32).toInt ≤ 400 ∧ 0 ≤ ((Tv 1) : Int32).toInt ∧ ((Tv 1) : Int32).toInt ≤ 400 ∧ 0 ≤ ((Tv 2) : Int32).toInt ∧ ((Tv 2) : Int32).toInt ≤ 400) := he_128
          refine W.eq (g2 := F0 m 69 ls []) rfl ?_
          have hP : va_P D classes [((Wa 0), .inr (0, [.ref (Aa 0)])), ((Aa 0), .inr (9, [.int (Av 0), .int (Av 1), .int (Av 2), .int (Av 3), .int (Av 4), .int (Av 5), .ref (Aa 1), .ref (Aa 2), .ref (Aa 3), .ref (Aa 4), .ref (Aa 5), .ref (Aa 6), .ref (Aa 7), .ref (Aa 8)])), ((Aa 1), .inl (tc 0, 10, .inl (Af 1))), ((Aa 2), .inl (tc 0, 10, .inl (Af 2))), ((Aa 3), .inl (tc 0, 6, .inl (Af 3))), ((Aa 4), .inl (tc 0, 6, .inl (Af 4))), ((Aa 5), .inl (tc 0, 6, .inl (Af 5))), ((Aa 6), .inl (tc 0, 6, .inl (Af 6))), ((Aa 7), .inl (tc 0, 6, .inl (Af 7))), ((Aa 8), .inl (tc 0, 6, .inl (Af 8))), ((Ta 0), .inr (10, [.ref (Ta 1), .int (Tv 0), .int (Tv 1), .int (Tv 2), .int sv_126, .int sv_127])), ((Ta 1), .inl (tc 0, 400, .inl (Tf 1)))] H := hP
          have hD : va_D A [((Wa 0), .inr (0, [.ref (Aa 0)])), ((Aa 0), .inr (9, [.int (Av 0), .int (Av 1), .int (Av 2), .int (Av 3), .int (Av 4), .int (Av 5), .ref (Aa 1), .ref (Aa 2), .ref (Aa 3), .ref (Aa 4), .ref (Aa 5), .ref (Aa 6), .ref (Aa 7), .ref (Aa 8)])), ((Aa 1), .inl (tc 0, 10, .inl (Af 1))), ((Aa 2), .inl (tc 0, 10, .inl (Af 2))), ((Aa 3), .inl (tc 0, 6, .inl (Af 3))), ((Aa 4), .inl (tc 0, 6, .inl (Af 4))), ((Aa 5), .inl (tc 0, 6, .inl (Af 5))), ((Aa 6), .inl (tc 0, 6, .inl (Af 6))), ((Aa 7), .inl (tc 0, 6, .inl (Af 7))), ((Aa 8), .inl (tc 0, 6, .inl (Af 8))), ((Ta 0), .inr (10, [.ref (Ta 1), .int (Tv 0), .int (Tv 1), .int (Tv 2), .int sv_126, .int sv_127])), ((Ta 1), .inl (tc 0, 400, .inl (Tf 1)))] := hD
          refine lv_goto (tgt := 119) hx hb dX0_readClause_69 (by decide) ?_
          have hq_129 : 0 ≤ ((Tv 0) : Int32).toInt ∧ ((Tv 0) : Int32).toInt ≤ 400 ∧ 0 ≤ ((Tv 1) : Int32).toInt ∧ ((Tv 1) : Int32).toInt ≤ 400 ∧ 0 ≤ ((Tv 2) : Int32).toInt ∧ ((Tv 2) : Int32).toInt ≤ 400 := by
            have z_1 : ¬ (r_6 : Int32).toInt = ((-1) : Int32).toInt := fun z => c_8 (Int32.toInt_inj.mp z)
            have z_2 := Int32.lt_iff_toInt_lt.mp (Int32.not_le.mp c_9)
            have z_3 := congrArg Int32.toInt c_19
            have z_4 : ¬ (x1 : Int32).toInt = (0 : Int32).toInt := fun z => c_120 (Int32.toInt_inj.mp z)
            have y_m1 : (-1 : Int32).toInt = -1 := by decide
            have y_0 : (0 : Int32).toInt = 0 := by decide
            have y_40 : (40 : Int32).toInt = 40 := by decide
            first | assumption | omega
          have hq_130 : 0 ≤ ((Av 3) : Int32).toInt ∧ ((Av 3) : Int32).toInt ≤ 6 := by
            have z_1 : ¬ (r_6 : Int32).toInt = ((-1) : Int32).toInt := fun z => c_8 (Int32.toInt_inj.mp z)
            have z_2 := Int32.lt_iff_toInt_lt.mp (Int32.not_le.mp c_9)
            have z_3 := congrArg Int32.toInt c_19
            have z_4 : ¬ (x1 : Int32).toInt = (0 : Int32).toInt := fun z => c_120 (Int32.toInt_inj.mp z)
            have y_m1 : (-1 : Int32).toInt = -1 := by decide
            have y_0 : (0 : Int32).toInt = 0 := by decide
            have y_40 : (40 : Int32).toInt = 40 := by decide
            first | assumption | omega
          exact retV hx hb hr hlk hP hD hS ((Av 0), (Av 1), (Av 2), (Av 3), (Af 1), (Af 2), (Af 3), (Af 4), (Af 5), (Tv 1), (Tv 2), sv_126, sv_127) ⟨rfl, hq_129, hq_130⟩ [0, 1, 2, 3, 4, 5, 6, 7, 8, 9, 10, 11] rfl rfl dX0_readClause_119 (Nat.le_of_ble_eq_true rfl) (Nat.le_of_ble_eq_true rfl) rfl
        · skip
          refine lv_iconst (v := 1) hx hb dX0_readClause_39 (by decide) ?_
          refine lv_goto (tgt := 44) hx hb dX0_readClause_40 (by decide) ?_
          refine lv_icmp_ne (tgt := 64) hx hb dX0_readClause_44 (by decide) (fun c_131 => absurd c_131 (by decide)) (fun c_131 => ?_)
          refine lv_iload_n hx hb dX0_readClause_47 rfl (lv_at hl 0 rfl) ?_
          refine lv_iconst (v := 2) hx hb dX0_readClause_48 (by decide) ?_
          refine lv_icmp_ne (tgt := 72) hx hb dX0_readClause_49 (by decide) (fun c_132 => ?_) (fun c_132 => ?_)
          · skip
            refine lv_aload_n hx hb dX0_readClause_72 rfl (lv_at hl 2 rfl) ?_
            have hh_133 : 0 ≤ ((Tv 0) : Int32).toInt ∧ ((Tv 0) : Int32).toInt ≤ 400 ∧ 0 ≤ ((Tv 1) : Int32).toInt ∧ ((Tv 1) : Int32).toInt ≤ 400 ∧ 0 ≤ ((Tv 2) : Int32).toInt ∧ ((Tv 2) : Int32).toInt ≤ 400 := by
              have z_1 : ¬ (r_6 : Int32).toInt = ((-1) : Int32).toInt := fun z => c_8 (Int32.toInt_inj.mp z)
              have z_2 := Int32.lt_iff_toInt_lt.mp (Int32.not_le.mp c_9)
              have z_3 := congrArg Int32.toInt c_19
              have z_4 := congrArg Int32.toInt c_120
              have z_5 : ¬ (r_6 : Int32).toInt = (2 : Int32).toInt := fun z => c_132 (Int32.toInt_inj.mp z)
              have y_m1 : (-1 : Int32).toInt = -1 := by decide
              have y_0 : (0 : Int32).toInt = 0 := by decide
              have y_2 : (2 : Int32).toInt = 2 := by decide
              have y_40 : (40 : Int32).toInt = 40 := by decide
              first | assumption | omega
            refine cV (a := (Ta 0)) (As := []) (rest := []) (wr := [((Wa 0), .inr (0, [.ref (Aa 0)])), ((Aa 0), .inr (9, [.int (Av 0), .int (Av 1), .int (Av 2), .int (Av 3), .int (Av 4), .int (Av 5), .ref (Aa 1), .ref (Aa 2), .ref (Aa 3), .ref (Aa 4), .ref (Aa 5), .ref (Aa 6), .ref (Aa 7), .ref (Aa 8)])), ((Aa 1), .inl (tc 0, 10, .inl (Af 1))), ((Aa 2), .inl (tc 0, 10, .inl (Af 2))), ((Aa 3), .inl (tc 0, 6, .inl (Af 3))), ((Aa 4), .inl (tc 0, 6, .inl (Af 4))), ((Aa 5), .inl (tc 0, 6, .inl (Af 5))), ((Aa 6), .inl (tc 0, 6, .inl (Af 6))), ((Aa 7), .inl (tc 0, 6, .inl (Af 7))), ((Aa 8), .inl (tc 0, 6, .inl (Af 8)))]) ⟨hx, hb, hml, hown, hts⟩ hK hX hA (cu_X10_step l D tc sk (Ta 0) (Ta 1) (Tv 0) (Tv 1) (Tv 2) (Tv 3) (Tv 4) (Tf 1) hh_133) k_478 k_558 k_476 k_477 k_96 pl_X10_step ⟨Nat.le_of_ble_eq_true rfl, Nat.le_of_ble_eq_true rfl⟩ rfl rfl (va_recv hK hP (ci := 10) (q0 := 10) rfl rfl) hP hD hS [10, 11] [0, 1, 2, 3, 4, 5, 6, 7, 8, 9] rfl rfl rfl rfl rfl (by decide) rfl hl.1 rfl (Nat.le_of_ble_eq_true rfl) dX0_readClause_73 ⟨Nat.le_of_ble_eq_true rfl, Nat.le_of_ble_eq_true rfl⟩ (fun v_134 u_135 H locs hv_136 hP hD hS => ?_)
            obtain ⟨sv_137, sv_138, sv_139⟩ := u_135
            obtain ⟨rfl, he_140⟩ := hv_136
            have he_140 : (0 ≤ ((Tv 0) : Int32).toInt ∧ ((Tv 0) : Int32).toInt ≤ 400 ∧ 0 ≤ (sv_137 : Int32).toInt ∧ (sv_137 : Int32).toInt ≤ 400 ∧ 0 ≤ (sv_138 : Int32).toInt ∧ (sv_138 : Int32).toInt ≤ 400) := he_140
            refine W.eq (g2 := F0 m 76 ls []) rfl ?_
            have hP : va_P D classes [((Wa 0), .inr (0, [.ref (Aa 0)])), ((Aa 0), .inr (9, [.int (Av 0), .int (Av 1), .int (Av 2), .int (Av 3), .int (Av 4), .int (Av 5), .ref (Aa 1), .ref (Aa 2), .ref (Aa 3), .ref (Aa 4), .ref (Aa 5), .ref (Aa 6), .ref (Aa 7), .ref (Aa 8)])), ((Aa 1), .inl (tc 0, 10, .inl (Af 1))), ((Aa 2), .inl (tc 0, 10, .inl (Af 2))), ((Aa 3), .inl (tc 0, 6, .inl (Af 3))), ((Aa 4), .inl (tc 0, 6, .inl (Af 4))), ((Aa 5), .inl (tc 0, 6, .inl (Af 5))), ((Aa 6), .inl (tc 0, 6, .inl (Af 6))), ((Aa 7), .inl (tc 0, 6, .inl (Af 7))), ((Aa 8), .inl (tc 0, 6, .inl (Af 8))), ((Ta 0), .inr (10, [.ref (Ta 1), .int (Tv 0), .int sv_137, .int sv_138, .int sv_139, .int (Tv 4)])), ((Ta 1), .inl (tc 0, 400, .inl (Tf 1)))] H := hP
            have hD : va_D A [((Wa 0), .inr (0, [.ref (Aa 0)])), ((Aa 0), .inr (9, [.int (Av 0), .int (Av 1), .int (Av 2), .int (Av 3), .int (Av 4), .int (Av 5), .ref (Aa 1), .ref (Aa 2), .ref (Aa 3), .ref (Aa 4), .ref (Aa 5), .ref (Aa 6), .ref (Aa 7), .ref (Aa 8)])), ((Aa 1), .inl (tc 0, 10, .inl (Af 1))), ((Aa 2), .inl (tc 0, 10, .inl (Af 2))), ((Aa 3), .inl (tc 0, 6, .inl (Af 3))), ((Aa 4), .inl (tc 0, 6, .inl (Af 4))), ((Aa 5), .inl (tc 0, 6, .inl (Af 5))), ((Aa 6), .inl (tc 0, 6, .inl (Af 6))), ((Aa 7), .inl (tc 0, 6, .inl (Af 7))), ((Aa 8), .inl (tc 0, 6, .inl (Af 8))), ((Ta 0), .inr (10, [.ref (Ta 1), .int (Tv 0), .int sv_137, .int sv_138, .int sv_139, .int (Tv 4)])), ((Ta 1), .inl (tc 0, 400, .inl (Tf 1)))] := hD
            refine lv_iload_n hx hb dX0_readClause_76 rfl (lv_at hl 0 rfl) ?_
            refine lv_if_ne (tgt := 88) hx hb dX0_readClause_77 (by decide) (fun c_141 => ?_) (fun c_141 => ?_)
            · skip
              exfalso
              have z_1 : ¬ (r_6 : Int32).toInt = ((-1) : Int32).toInt := fun z => c_8 (Int32.toInt_inj.mp z)
              have z_2 := Int32.lt_iff_toInt_lt.mp (Int32.not_le.mp c_9)
              have z_3 := congrArg Int32.toInt c_19
              have z_4 := congrArg Int32.toInt c_120
              have z_5 : ¬ (r_6 : Int32).toInt = (2 : Int32).toInt := fun z => c_132 (Int32.toInt_inj.mp z)
              have z_6 : ¬ (r_6 : Int32).toInt = (0 : Int32).toInt := fun z => c_141 (Int32.toInt_inj.mp z)
              have y_m1 : (-1 : Int32).toInt = -1 := by decide
              have y_0 : (0 : Int32).toInt = 0 := by decide
              have y_2 : (2 : Int32).toInt = 2 := by decide
              have y_40 : (40 : Int32).toInt = 40 := by decide
              omega
            · skip
              refine lv_aload_n hx hb dX0_readClause_80 rfl (lv_at hl 1 rfl) ?_
              refine lv_aload_n hx hb dX0_readClause_81 rfl (lv_at hl 2 rfl) ?_
              have hh_142 : 0 ≤ ((Tv 0) : Int32).toInt ∧ ((Tv 0) : Int32).toInt ≤ 400 ∧ 0 ≤ (sv_137 : Int32).toInt ∧ (sv_137 : Int32).toInt ≤ 400 ∧ 0 ≤ (sv_138 : Int32).toInt ∧ (sv_138 : Int32).toInt ≤ 400 := by
                have z_1 : ¬ (r_6 : Int32).toInt = ((-1) : Int32).toInt := fun z => c_8 (Int32.toInt_inj.mp z)
                have z_2 := Int32.lt_iff_toInt_lt.mp (Int32.not_le.mp c_9)
                have z_3 := congrArg Int32.toInt c_19
                have z_4 := congrArg Int32.toInt c_120
                have z_5 : ¬ (r_6 : Int32).toInt = (2 : Int32).toInt := fun z => c_132 (Int32.toInt_inj.mp z)
                have z_6 := congrArg Int32.toInt c_141
                have y_m1 : (-1 : Int32).toInt = -1 := by decide
                have y_0 : (0 : Int32).toInt = 0 := by decide
                have y_2 : (2 : Int32).toInt = 2 := by decide
                have y_40 : (40 : Int32).toInt = 40 := by decide
                first | assumption | omega
              have hh_143 : 0 ≤ ((Av 3) : Int32).toInt ∧ ((Av 3) : Int32).toInt ≤ 6 := by
                have z_1 : ¬ (r_6 : Int32).toInt = ((-1) : Int32).toInt := fun z => c_8 (Int32.toInt_inj.mp z)
                have z_2 := Int32.lt_iff_toInt_lt.mp (Int32.not_le.mp c_9)
                have z_3 := congrArg Int32.toInt c_19
                have z_4 := congrArg Int32.toInt c_120
                have z_5 : ¬ (r_6 : Int32).toInt = (2 : Int32).toInt := fun z => c_132 (Int32.toInt_inj.mp z)
                have z_6 := congrArg Int32.toInt c_141
                have y_m1 : (-1 : Int32).toInt = -1 := by decide
                have y_0 : (0 : Int32).toInt = 0 := by decide
                have y_2 : (2 : Int32).toInt = 2 := by decide
                have y_40 : (40 : Int32).toInt = 40 := by decide
                first | assumption | omega
              refine cV (a := (Wa 0)) (As := [.ref (Ta 0)]) (rest := []) (wr := []) ⟨hx, hb, hml, hown, hts⟩ hK hX hA (cu_X0_readBook l D tc sk (Wa 0) (Aa 0) (Aa 1) (Aa 2) (Aa 3) (Aa 4) (Aa 5) (Aa 6) (Aa 7) (Aa 8) (Av 0) (Av 1) (Av 2) (Av 3) (Av 4) (Av 5) (Af 1) (Af 2) (Af 3) (Af 4) (Af 5) (Af 6) (Af 7) (Af 8) (Ta 0) (Ta 1) (Tv 0) sv_137 sv_138 sv_139 (Tv 4) (Tf 1) hh_142 hh_143) k_562 k_559 k_561 k_3 k_97 pl_X0_readBook ⟨Nat.le_of_ble_eq_true rfl, Nat.le_of_ble_eq_true rfl⟩ rfl rfl (va_recv hK hP (ci := 0) (q0 := 0) rfl rfl) hP hD hS [0, 1, 2, 3, 4, 5, 6, 7, 8, 9, 10, 11] [] rfl rfl rfl rfl rfl (by decide) rfl hl.1 rfl (Nat.le_of_ble_eq_true rfl) dX0_readClause_82 ⟨Nat.le_of_ble_eq_true rfl, Nat.le_of_ble_eq_true rfl⟩ (fun v_144 u_145 H locs hv_146 hP hD hS => ?_)
              obtain ⟨sv_147, sv_148, sv_149, sv_150, sv_151, sv_152, sv_153⟩ := u_145
              obtain ⟨rfl, he_154⟩ := hv_146
              have he_154 : (0 ≤ ((Tv 0) : Int32).toInt ∧ ((Tv 0) : Int32).toInt ≤ 400 ∧ 0 ≤ (sv_150 : Int32).toInt ∧ (sv_150 : Int32).toInt ≤ 400 ∧ 0 ≤ (sv_151 : Int32).toInt ∧ (sv_151 : Int32).toInt ≤ 400) ∧ (0 ≤ ((Av 3) : Int32).toInt ∧ ((Av 3) : Int32).toInt ≤ 6) := he_154
              have he_154_0 : (0 ≤ ((Tv 0) : Int32).toInt ∧ ((Tv 0) : Int32).toInt ≤ 400 ∧ 0 ≤ (sv_150 : Int32).toInt ∧ (sv_150 : Int32).toInt ≤ 400 ∧ 0 ≤ (sv_151 : Int32).toInt ∧ (sv_151 : Int32).toInt ≤ 400) := he_154.1
              have he_154_1 : (0 ≤ ((Av 3) : Int32).toInt ∧ ((Av 3) : Int32).toInt ≤ 6) := he_154.2
              refine W.eq (g2 := F0 m 85 ls []) rfl ?_
              have hP : va_P D classes [((Wa 0), .inr (0, [.ref (Aa 0)])), ((Aa 0), .inr (9, [.int sv_147, .int sv_148, .int sv_149, .int (Av 3), .int (Av 4), .int (Av 5), .ref (Aa 1), .ref (Aa 2), .ref (Aa 3), .ref (Aa 4), .ref (Aa 5), .ref (Aa 6), .ref (Aa 7), .ref (Aa 8)])), ((Aa 1), .inl (tc 0, 10, .inl (Af 1))), ((Aa 2), .inl (tc 0, 10, .inl (Af 2))), ((Aa 3), .inl (tc 0, 6, .inl (Af 3))), ((Aa 4), .inl (tc 0, 6, .inl (Af 4))), ((Aa 5), .inl (tc 0, 6, .inl (Af 5))), ((Aa 6), .inl (tc 0, 6, .inl (Af 6))), ((Aa 7), .inl (tc 0, 6, .inl (Af 7))), ((Aa 8), .inl (tc 0, 6, .inl (Af 8))), ((Ta 0), .inr (10, [.ref (Ta 1), .int (Tv 0), .int sv_150, .int sv_151, .int sv_152, .int sv_153])), ((Ta 1), .inl (tc 0, 400, .inl (Tf 1)))] H := hP
              have hD : va_D A [((Wa 0), .inr (0, [.ref (Aa 0)])), ((Aa 0), .inr (9, [.int sv_147, .int sv_148, .int sv_149, .int (Av 3), .int (Av 4), .int (Av 5), .ref (Aa 1), .ref (Aa 2), .ref (Aa 3), .ref (Aa 4), .ref (Aa 5), .ref (Aa 6), .ref (Aa 7), .ref (Aa 8)])), ((Aa 1), .inl (tc 0, 10, .inl (Af 1))), ((Aa 2), .inl (tc 0, 10, .inl (Af 2))), ((Aa 3), .inl (tc 0, 6, .inl (Af 3))), ((Aa 4), .inl (tc 0, 6, .inl (Af 4))), ((Aa 5), .inl (tc 0, 6, .inl (Af 5))), ((Aa 6), .inl (tc 0, 6, .inl (Af 6))), ((Aa 7), .inl (tc 0, 6, .inl (Af 7))), ((Aa 8), .inl (tc 0, 6, .inl (Af 8))), ((Ta 0), .inr (10, [.ref (Ta 1), .int (Tv 0), .int sv_150, .int sv_151, .int sv_152, .int sv_153])), ((Ta 1), .inl (tc 0, 400, .inl (Tf 1)))] := hD
              refine lv_goto (tgt := 119) hx hb dX0_readClause_85 (by decide) ?_
              have hq_155 : 0 ≤ ((Tv 0) : Int32).toInt ∧ ((Tv 0) : Int32).toInt ≤ 400 ∧ 0 ≤ (sv_150 : Int32).toInt ∧ (sv_150 : Int32).toInt ≤ 400 ∧ 0 ≤ (sv_151 : Int32).toInt ∧ (sv_151 : Int32).toInt ≤ 400 := by
                have z_1 : ¬ (r_6 : Int32).toInt = ((-1) : Int32).toInt := fun z => c_8 (Int32.toInt_inj.mp z)
                have z_2 := Int32.lt_iff_toInt_lt.mp (Int32.not_le.mp c_9)
                have z_3 := congrArg Int32.toInt c_19
                have z_4 := congrArg Int32.toInt c_120
                have z_5 : ¬ (r_6 : Int32).toInt = (2 : Int32).toInt := fun z => c_132 (Int32.toInt_inj.mp z)
                have z_6 := congrArg Int32.toInt c_141
                have y_m1 : (-1 : Int32).toInt = -1 := by decide
                have y_0 : (0 : Int32).toInt = 0 := by decide
                have y_2 : (2 : Int32).toInt = 2 := by decide
                have y_40 : (40 : Int32).toInt = 40 := by decide
                first | assumption | omega
              have hq_156 : 0 ≤ ((Av 3) : Int32).toInt ∧ ((Av 3) : Int32).toInt ≤ 6 := by
                have z_1 : ¬ (r_6 : Int32).toInt = ((-1) : Int32).toInt := fun z => c_8 (Int32.toInt_inj.mp z)
                have z_2 := Int32.lt_iff_toInt_lt.mp (Int32.not_le.mp c_9)
                have z_3 := congrArg Int32.toInt c_19
                have z_4 := congrArg Int32.toInt c_120
                have z_5 : ¬ (r_6 : Int32).toInt = (2 : Int32).toInt := fun z => c_132 (Int32.toInt_inj.mp z)
                have z_6 := congrArg Int32.toInt c_141
                have y_m1 : (-1 : Int32).toInt = -1 := by decide
                have y_0 : (0 : Int32).toInt = 0 := by decide
                have y_2 : (2 : Int32).toInt = 2 := by decide
                have y_40 : (40 : Int32).toInt = 40 := by decide
                first | assumption | omega
              exact retV hx hb hr hlk hP hD hS (sv_147, sv_148, sv_149, (Av 3), (Af 1), (Af 2), (Af 3), (Af 4), (Af 5), sv_150, sv_151, sv_152, sv_153) ⟨rfl, hq_155, hq_156⟩ [0, 1, 2, 3, 4, 5, 6, 7, 8, 9, 10, 11] rfl rfl dX0_readClause_119 (Nat.le_of_ble_eq_true rfl) (Nat.le_of_ble_eq_true rfl) rfl
          · skip
            refine lv_aload_n hx hb dX0_readClause_52 rfl (lv_at hl 1 rfl) ?_
            refine gf_X0_12 hx hb hts hown hK hP 0 rfl rfl dX0_readClause_53 ?_
            refine gf_X0_51 hx hb hts hown hK hP 1 rfl rfl dX0_readClause_56 ?_
            refine lv_bipush (v := 6) hx hb dX0_readClause_59 (by decide) ?_
            refine lv_icmp_lt (tgt := 72) hx hb dX0_readClause_61 (by decide) (fun c_157 => ?_) (fun c_157 => ?_)
            · skip
              refine lv_aload_n hx hb dX0_readClause_72 rfl (lv_at hl 2 rfl) ?_
              have hh_158 : 0 ≤ ((Tv 0) : Int32).toInt ∧ ((Tv 0) : Int32).toInt ≤ 400 ∧ 0 ≤ ((Tv 1) : Int32).toInt ∧ ((Tv 1) : Int32).toInt ≤ 400 ∧ 0 ≤ ((Tv 2) : Int32).toInt ∧ ((Tv 2) : Int32).toInt ≤ 400 := by
                have z_1 : ¬ (r_6 : Int32).toInt = ((-1) : Int32).toInt := fun z => c_8 (Int32.toInt_inj.mp z)
                have z_2 := Int32.lt_iff_toInt_lt.mp (Int32.not_le.mp c_9)
                have z_3 := congrArg Int32.toInt c_19
                have z_4 := congrArg Int32.toInt c_120
                have z_5 := congrArg Int32.toInt c_132
                have z_6 := Int32.lt_iff_toInt_lt.mp c_157
                have y_m1 : (-1 : Int32).toInt = -1 := by decide
                have y_0 : (0 : Int32).toInt = 0 := by decide
                have y_2 : (2 : Int32).toInt = 2 := by decide
                have y_6 : (6 : Int32).toInt = 6 := by decide
                have y_40 : (40 : Int32).toInt = 40 := by decide
                first | assumption | omega
              refine cV (a := (Ta 0)) (As := []) (rest := []) (wr := [((Wa 0), .inr (0, [.ref (Aa 0)])), ((Aa 0), .inr (9, [.int (Av 0), .int (Av 1), .int (Av 2), .int (Av 3), .int (Av 4), .int (Av 5), .ref (Aa 1), .ref (Aa 2), .ref (Aa 3), .ref (Aa 4), .ref (Aa 5), .ref (Aa 6), .ref (Aa 7), .ref (Aa 8)])), ((Aa 1), .inl (tc 0, 10, .inl (Af 1))), ((Aa 2), .inl (tc 0, 10, .inl (Af 2))), ((Aa 3), .inl (tc 0, 6, .inl (Af 3))), ((Aa 4), .inl (tc 0, 6, .inl (Af 4))), ((Aa 5), .inl (tc 0, 6, .inl (Af 5))), ((Aa 6), .inl (tc 0, 6, .inl (Af 6))), ((Aa 7), .inl (tc 0, 6, .inl (Af 7))), ((Aa 8), .inl (tc 0, 6, .inl (Af 8)))]) ⟨hx, hb, hml, hown, hts⟩ hK hX hA (cu_X10_step l D tc sk (Ta 0) (Ta 1) (Tv 0) (Tv 1) (Tv 2) (Tv 3) (Tv 4) (Tf 1) hh_158) k_478 k_558 k_476 k_477 k_96 pl_X10_step ⟨Nat.le_of_ble_eq_true rfl, Nat.le_of_ble_eq_true rfl⟩ rfl rfl (va_recv hK hP (ci := 10) (q0 := 10) rfl rfl) hP hD hS [10, 11] [0, 1, 2, 3, 4, 5, 6, 7, 8, 9] rfl rfl rfl rfl rfl (by decide) rfl hl.1 rfl (Nat.le_of_ble_eq_true rfl) dX0_readClause_73 ⟨Nat.le_of_ble_eq_true rfl, Nat.le_of_ble_eq_true rfl⟩ (fun v_159 u_160 H locs hv_161 hP hD hS => ?_)
              obtain ⟨sv_162, sv_163, sv_164⟩ := u_160
              obtain ⟨rfl, he_165⟩ := hv_161
              have he_165 : (0 ≤ ((Tv 0) : Int32).toInt ∧ ((Tv 0) : Int32).toInt ≤ 400 ∧ 0 ≤ (sv_162 : Int32).toInt ∧ (sv_162 : Int32).toInt ≤ 400 ∧ 0 ≤ (sv_163 : Int32).toInt ∧ (sv_163 : Int32).toInt ≤ 400) := he_165
              refine W.eq (g2 := F0 m 76 ls []) rfl ?_
              have hP : va_P D classes [((Wa 0), .inr (0, [.ref (Aa 0)])), ((Aa 0), .inr (9, [.int (Av 0), .int (Av 1), .int (Av 2), .int (Av 3), .int (Av 4), .int (Av 5), .ref (Aa 1), .ref (Aa 2), .ref (Aa 3), .ref (Aa 4), .ref (Aa 5), .ref (Aa 6), .ref (Aa 7), .ref (Aa 8)])), ((Aa 1), .inl (tc 0, 10, .inl (Af 1))), ((Aa 2), .inl (tc 0, 10, .inl (Af 2))), ((Aa 3), .inl (tc 0, 6, .inl (Af 3))), ((Aa 4), .inl (tc 0, 6, .inl (Af 4))), ((Aa 5), .inl (tc 0, 6, .inl (Af 5))), ((Aa 6), .inl (tc 0, 6, .inl (Af 6))), ((Aa 7), .inl (tc 0, 6, .inl (Af 7))), ((Aa 8), .inl (tc 0, 6, .inl (Af 8))), ((Ta 0), .inr (10, [.ref (Ta 1), .int (Tv 0), .int sv_162, .int sv_163, .int sv_164, .int (Tv 4)])), ((Ta 1), .inl (tc 0, 400, .inl (Tf 1)))] H := hP
              have hD : va_D A [((Wa 0), .inr (0, [.ref (Aa 0)])), ((Aa 0), .inr (9, [.int (Av 0), .int (Av 1), .int (Av 2), .int (Av 3), .int (Av 4), .int (Av 5), .ref (Aa 1), .ref (Aa 2), .ref (Aa 3), .ref (Aa 4), .ref (Aa 5), .ref (Aa 6), .ref (Aa 7), .ref (Aa 8)])), ((Aa 1), .inl (tc 0, 10, .inl (Af 1))), ((Aa 2), .inl (tc 0, 10, .inl (Af 2))), ((Aa 3), .inl (tc 0, 6, .inl (Af 3))), ((Aa 4), .inl (tc 0, 6, .inl (Af 4))), ((Aa 5), .inl (tc 0, 6, .inl (Af 5))), ((Aa 6), .inl (tc 0, 6, .inl (Af 6))), ((Aa 7), .inl (tc 0, 6, .inl (Af 7))), ((Aa 8), .inl (tc 0, 6, .inl (Af 8))), ((Ta 0), .inr (10, [.ref (Ta 1), .int (Tv 0), .int sv_162, .int sv_163, .int sv_164, .int (Tv 4)])), ((Ta 1), .inl (tc 0, 400, .inl (Tf 1)))] := hD
              refine lv_iload_n hx hb dX0_readClause_76 rfl (lv_at hl 0 rfl) ?_
              refine lv_if_ne (tgt := 88) hx hb dX0_readClause_77 (by decide) (fun c_166 => ?_) (fun c_166 => ?_)
              · skip
                exfalso
                have z_1 : ¬ (r_6 : Int32).toInt = ((-1) : Int32).toInt := fun z => c_8 (Int32.toInt_inj.mp z)
                have z_2 := Int32.lt_iff_toInt_lt.mp (Int32.not_le.mp c_9)
                have z_3 := congrArg Int32.toInt c_19
                have z_4 := congrArg Int32.toInt c_120
                have z_5 := congrArg Int32.toInt c_132
                have z_6 := Int32.lt_iff_toInt_lt.mp c_157
                have z_7 : ¬ (r_6 : Int32).toInt = (0 : Int32).toInt := fun z => c_166 (Int32.toInt_inj.mp z)
                have y_m1 : (-1 : Int32).toInt = -1 := by decide
                have y_0 : (0 : Int32).toInt = 0 := by decide
                have y_2 : (2 : Int32).toInt = 2 := by decide
                have y_6 : (6 : Int32).toInt = 6 := by decide
                have y_40 : (40 : Int32).toInt = 40 := by decide
                omega
              · skip
                refine lv_aload_n hx hb dX0_readClause_80 rfl (lv_at hl 1 rfl) ?_
                refine lv_aload_n hx hb dX0_readClause_81 rfl (lv_at hl 2 rfl) ?_
                have hh_167 : 0 ≤ ((Tv 0) : Int32).toInt ∧ ((Tv 0) : Int32).toInt ≤ 400 ∧ 0 ≤ (sv_162 : Int32).toInt ∧ (sv_162 : Int32).toInt ≤ 400 ∧ 0 ≤ (sv_163 : Int32).toInt ∧ (sv_163 : Int32).toInt ≤ 400 := by
                  have z_1 : ¬ (r_6 : Int32).toInt = ((-1) : Int32).toInt := fun z => c_8 (Int32.toInt_inj.mp z)
                  have z_2 := Int32.lt_iff_toInt_lt.mp (Int32.not_le.mp c_9)
                  have z_3 := congrArg Int32.toInt c_19
                  have z_4 := congrArg Int32.toInt c_120
                  have z_5 := congrArg Int32.toInt c_132
                  have z_6 := Int32.lt_iff_toInt_lt.mp c_157
                  have z_7 := congrArg Int32.toInt c_166
                  have y_m1 : (-1 : Int32).toInt = -1 := by decide
                  have y_0 : (0 : Int32).toInt = 0 := by decide
                  have y_2 : (2 : Int32).toInt = 2 := by decide
                  have y_6 : (6 : Int32).toInt = 6 := by decide
                  have y_40 : (40 : Int32).toInt = 40 := by decide
                  first | assumption | omega
                have hh_168 : 0 ≤ ((Av 3) : Int32).toInt ∧ ((Av 3) : Int32).toInt ≤ 6 := by
                  have z_1 : ¬ (r_6 : Int32).toInt = ((-1) : Int32).toInt := fun z => c_8 (Int32.toInt_inj.mp z)
                  have z_2 := Int32.lt_iff_toInt_lt.mp (Int32.not_le.mp c_9)
                  have z_3 := congrArg Int32.toInt c_19
                  have z_4 := congrArg Int32.toInt c_120
                  have z_5 := congrArg Int32.toInt c_132
                  have z_6 := Int32.lt_iff_toInt_lt.mp c_157
                  have z_7 := congrArg Int32.toInt c_166
                  have y_m1 : (-1 : Int32).toInt = -1 := by decide
                  have y_0 : (0 : Int32).toInt = 0 := by decide
                  have y_2 : (2 : Int32).toInt = 2 := by decide
                  have y_6 : (6 : Int32).toInt = 6 := by decide
                  have y_40 : (40 : Int32).toInt = 40 := by decide
                  first | assumption | omega
                refine cV (a := (Wa 0)) (As := [.ref (Ta 0)]) (rest := []) (wr := []) ⟨hx, hb, hml, hown, hts⟩ hK hX hA (cu_X0_readBook l D tc sk (Wa 0) (Aa 0) (Aa 1) (Aa 2) (Aa 3) (Aa 4) (Aa 5) (Aa 6) (Aa 7) (Aa 8) (Av 0) (Av 1) (Av 2) (Av 3) (Av 4) (Av 5) (Af 1) (Af 2) (Af 3) (Af 4) (Af 5) (Af 6) (Af 7) (Af 8) (Ta 0) (Ta 1) (Tv 0) sv_162 sv_163 sv_164 (Tv 4) (Tf 1) hh_167 hh_168) k_562 k_559 k_561 k_3 k_97 pl_X0_readBook ⟨Nat.le_of_ble_eq_true rfl, Nat.le_of_ble_eq_true rfl⟩ rfl rfl (va_recv hK hP (ci := 0) (q0 := 0) rfl rfl) hP hD hS [0, 1, 2, 3, 4, 5, 6, 7, 8, 9, 10, 11] [] rfl rfl rfl rfl rfl (by decide) rfl hl.1 rfl (Nat.le_of_ble_eq_true rfl) dX0_readClause_82 ⟨Nat.le_of_ble_eq_true rfl, Nat.le_of_ble_eq_true rfl⟩ (fun v_169 u_170 H locs hv_171 hP hD hS => ?_)
                obtain ⟨sv_172, sv_173, sv_174, sv_175, sv_176, sv_177, sv_178⟩ := u_170
                obtain ⟨rfl, he_179⟩ := hv_171
                have he_179 : (0 ≤ ((Tv 0) : Int32).toInt ∧ ((Tv 0) : Int32).toInt ≤ 400 ∧ 0 ≤ (sv_175 : Int32).toInt ∧ (sv_175 : Int32).toInt ≤ 400 ∧ 0 ≤ (sv_176 : Int32).toInt ∧ (sv_176 : Int32).toInt ≤ 400) ∧ (0 ≤ ((Av 3) : Int32).toInt ∧ ((Av 3) : Int32).toInt ≤ 6) := he_179
                have he_179_0 : (0 ≤ ((Tv 0) : Int32).toInt ∧ ((Tv 0) : Int32).toInt ≤ 400 ∧ 0 ≤ (sv_175 : Int32).toInt ∧ (sv_175 : Int32).toInt ≤ 400 ∧ 0 ≤ (sv_176 : Int32).toInt ∧ (sv_176 : Int32).toInt ≤ 400) := he_179.1
                have he_179_1 : (0 ≤ ((Av 3) : Int32).toInt ∧ ((Av 3) : Int32).toInt ≤ 6) := he_179.2
                refine W.eq (g2 := F0 m 85 ls []) rfl ?_
                have hP : va_P D classes [((Wa 0), .inr (0, [.ref (Aa 0)])), ((Aa 0), .inr (9, [.int sv_172, .int sv_173, .int sv_174, .int (Av 3), .int (Av 4), .int (Av 5), .ref (Aa 1), .ref (Aa 2), .ref (Aa 3), .ref (Aa 4), .ref (Aa 5), .ref (Aa 6), .ref (Aa 7), .ref (Aa 8)])), ((Aa 1), .inl (tc 0, 10, .inl (Af 1))), ((Aa 2), .inl (tc 0, 10, .inl (Af 2))), ((Aa 3), .inl (tc 0, 6, .inl (Af 3))), ((Aa 4), .inl (tc 0, 6, .inl (Af 4))), ((Aa 5), .inl (tc 0, 6, .inl (Af 5))), ((Aa 6), .inl (tc 0, 6, .inl (Af 6))), ((Aa 7), .inl (tc 0, 6, .inl (Af 7))), ((Aa 8), .inl (tc 0, 6, .inl (Af 8))), ((Ta 0), .inr (10, [.ref (Ta 1), .int (Tv 0), .int sv_175, .int sv_176, .int sv_177, .int sv_178])), ((Ta 1), .inl (tc 0, 400, .inl (Tf 1)))] H := hP
                have hD : va_D A [((Wa 0), .inr (0, [.ref (Aa 0)])), ((Aa 0), .inr (9, [.int sv_172, .int sv_173, .int sv_174, .int (Av 3), .int (Av 4), .int (Av 5), .ref (Aa 1), .ref (Aa 2), .ref (Aa 3), .ref (Aa 4), .ref (Aa 5), .ref (Aa 6), .ref (Aa 7), .ref (Aa 8)])), ((Aa 1), .inl (tc 0, 10, .inl (Af 1))), ((Aa 2), .inl (tc 0, 10, .inl (Af 2))), ((Aa 3), .inl (tc 0, 6, .inl (Af 3))), ((Aa 4), .inl (tc 0, 6, .inl (Af 4))), ((Aa 5), .inl (tc 0, 6, .inl (Af 5))), ((Aa 6), .inl (tc 0, 6, .inl (Af 6))), ((Aa 7), .inl (tc 0, 6, .inl (Af 7))), ((Aa 8), .inl (tc 0, 6, .inl (Af 8))), ((Ta 0), .inr (10, [.ref (Ta 1), .int (Tv 0), .int sv_175, .int sv_176, .int sv_177, .int sv_178])), ((Ta 1), .inl (tc 0, 400, .inl (Tf 1)))] := hD
                refine lv_goto (tgt := 119) hx hb dX0_readClause_85 (by decide) ?_
                have hq_180 : 0 ≤ ((Tv 0) : Int32).toInt ∧ ((Tv 0) : Int32).toInt ≤ 400 ∧ 0 ≤ (sv_175 : Int32).toInt ∧ (sv_175 : Int32).toInt ≤ 400 ∧ 0 ≤ (sv_176 : Int32).toInt ∧ (sv_176 : Int32).toInt ≤ 400 := by
                  have z_1 : ¬ (r_6 : Int32).toInt = ((-1) : Int32).toInt := fun z => c_8 (Int32.toInt_inj.mp z)
                  have z_2 := Int32.lt_iff_toInt_lt.mp (Int32.not_le.mp c_9)
                  have z_3 := congrArg Int32.toInt c_19
                  have z_4 := congrArg Int32.toInt c_120
                  have z_5 := congrArg Int32.toInt c_132
                  have z_6 := Int32.lt_iff_toInt_lt.mp c_157
                  have z_7 := congrArg Int32.toInt c_166
                  have y_m1 : (-1 : Int32).toInt = -1 := by decide
                  have y_0 : (0 : Int32).toInt = 0 := by decide
                  have y_2 : (2 : Int32).toInt = 2 := by decide
                  have y_6 : (6 : Int32).toInt = 6 := by decide
                  have y_40 : (40 : Int32).toInt = 40 := by decide
                  first | assumption | omega
                have hq_181 : 0 ≤ ((Av 3) : Int32).toInt ∧ ((Av 3) : Int32).toInt ≤ 6 := by
                  have z_1 : ¬ (r_6 : Int32).toInt = ((-1) : Int32).toInt := fun z => c_8 (Int32.toInt_inj.mp z)
                  have z_2 := Int32.lt_iff_toInt_lt.mp (Int32.not_le.mp c_9)
                  have z_3 := congrArg Int32.toInt c_19
                  have z_4 := congrArg Int32.toInt c_120
                  have z_5 := congrArg Int32.toInt c_132
                  have z_6 := Int32.lt_iff_toInt_lt.mp c_157
                  have z_7 := congrArg Int32.toInt c_166
                  have y_m1 : (-1 : Int32).toInt = -1 := by decide
                  have y_0 : (0 : Int32).toInt = 0 := by decide
                  have y_2 : (2 : Int32).toInt = 2 := by decide
                  have y_6 : (6 : Int32).toInt = 6 := by decide
                  have y_40 : (40 : Int32).toInt = 40 := by decide
                  first | assumption | omega
                exact retV hx hb hr hlk hP hD hS (sv_172, sv_173, sv_174, (Av 3), (Af 1), (Af 2), (Af 3), (Af 4), (Af 5), sv_175, sv_176, sv_177, sv_178) ⟨rfl, hq_180, hq_181⟩ [0, 1, 2, 3, 4, 5, 6, 7, 8, 9, 10, 11] rfl rfl dX0_readClause_119 (Nat.le_of_ble_eq_true rfl) (Nat.le_of_ble_eq_true rfl) rfl
            · skip
              refine lv_aload_n hx hb dX0_readClause_64 rfl (lv_at hl 2 rfl) ?_
              refine lv_iconst (v := 4) hx hb dX0_readClause_65 (by decide) ?_
              have hh_182 : 0 ≤ ((Tv 0) : Int32).toInt ∧ ((Tv 0) : Int32).toInt ≤ 400 ∧ 0 ≤ ((Tv 1) : Int32).toInt ∧ ((Tv 1) : Int32).toInt ≤ 400 ∧ 0 ≤ ((Tv 2) : Int32).toInt ∧ ((Tv 2) : Int32).toInt ≤ 400 := by
                have z_1 : ¬ (r_6 : Int32).toInt = ((-1) : Int32).toInt := fun z => c_8 (Int32.toInt_inj.mp z)
                have z_2 := Int32.lt_iff_toInt_lt.mp (Int32.not_le.mp c_9)
                have z_3 := congrArg Int32.toInt c_19
                have z_4 := congrArg Int32.toInt c_120
                have z_5 := congrArg Int32.toInt c_132
                have z_6 := Int32.le_iff_toInt_le.mp (Int32.not_lt.mp c_157)
                have y_m1 : (-1 : Int32).toInt = -1 := by decide
                have y_0 : (0 : Int32).toInt = 0 := by decide
                have y_2 : (2 : Int32).toInt = 2 := by decide
                have y_6 : (6 : Int32).toInt = 6 := by decide
                have y_40 : (40 : Int32).toInt = 40 := by decide
                first | assumption | omega
              refine cV (a := (Ta 0)) (As := [.int 4]) (rest := []) (wr := [((Wa 0), .inr (0, [.ref (Aa 0)])), ((Aa 0), .inr (9, [.int (Av 0), .int (Av 1), .int (Av 2), .int (Av 3), .int (Av 4), .int (Av 5), .ref (Aa 1), .ref (Aa 2), .ref (Aa 3), .ref (Aa 4), .ref (Aa 5), .ref (Aa 6), .ref (Aa 7), .ref (Aa 8)])), ((Aa 1), .inl (tc 0, 10, .inl (Af 1))), ((Aa 2), .inl (tc 0, 10, .inl (Af 2))), ((Aa 3), .inl (tc 0, 6, .inl (Af 3))), ((Aa 4), .inl (tc 0, 6, .inl (Af 4))), ((Aa 5), .inl (tc 0, 6, .inl (Af 5))), ((Aa 6), .inl (tc 0, 6, .inl (Af 6))), ((Aa 7), .inl (tc 0, 6, .inl (Af 7))), ((Aa 8), .inl (tc 0, 6, .inl (Af 8)))]) ⟨hx, hb, hml, hown, hts⟩ hK hX hA (cu_X10_fail l D tc sk (Ta 0) (Ta 1) (Tv 0) (Tv 1) (Tv 2) (Tv 3) (Tv 4) (Tf 1) 4 hh_182) k_557 k_554 k_555 k_556 k_96 pl_X10_fail ⟨Nat.le_of_ble_eq_true rfl, Nat.le_of_ble_eq_true rfl⟩ rfl rfl (va_recv hK hP (ci := 10) (q0 := 10) rfl rfl) hP hD hS [10, 11] [0, 1, 2, 3, 4, 5, 6, 7, 8, 9] rfl rfl rfl rfl rfl (by decide) rfl hl.1 rfl (Nat.le_of_ble_eq_true rfl) dX0_readClause_66 ⟨Nat.le_of_ble_eq_true rfl, Nat.le_of_ble_eq_true rfl⟩ (fun v_183 u_184 H locs hv_185 hP hD hS => ?_)
              obtain ⟨sv_186, sv_187⟩ := u_184
              obtain ⟨rfl, he_188⟩ := hv_185
              have he_188 : (0 ≤ ((Tv 0) : Int32).toInt ∧ ((Tv 0) : Int32).toInt ≤ 400 ∧ 0 ≤ ((Tv 1) : Int32).toInt ∧ ((Tv 1) : Int32).toInt ≤ 400 ∧ 0 ≤ ((Tv 2) : Int32).toInt ∧ ((Tv 2) : Int32).toInt ≤ 400) := he_188
              refine W.eq (g2 := F0 m 69 ls []) rfl ?_
              have hP : va_P D classes [((Wa 0), .inr (0, [.ref (Aa 0)])), ((Aa 0), .inr (9, [.int (Av 0), .int (Av 1), .int (Av 2), .int (Av 3), .int (Av 4), .int (Av 5), .ref (Aa 1), .ref (Aa 2), .ref (Aa 3), .ref (Aa 4), .ref (Aa 5), .ref (Aa 6), .ref (Aa 7), .ref (Aa 8)])), ((Aa 1), .inl (tc 0, 10, .inl (Af 1))), ((Aa 2), .inl (tc 0, 10, .inl (Af 2))), ((Aa 3), .inl (tc 0, 6, .inl (Af 3))), ((Aa 4), .inl (tc 0, 6, .inl (Af 4))), ((Aa 5), .inl (tc 0, 6, .inl (Af 5))), ((Aa 6), .inl (tc 0, 6, .inl (Af 6))), ((Aa 7), .inl (tc 0, 6, .inl (Af 7))), ((Aa 8), .inl (tc 0, 6, .inl (Af 8))), ((Ta 0), .inr (10, [.ref (Ta 1), .int (Tv 0), .int (Tv 1), .int (Tv 2), .int sv_186, .int sv_187])), ((Ta 1), .inl (tc 0, 400, .inl (Tf 1)))] H := hP
              have hD : va_D A [((Wa 0), .inr (0, [.ref (Aa 0)])), ((Aa 0), .inr (9, [.int (Av 0), .int (Av 1), .int (Av 2), .int (Av 3), .int (Av 4), .int (Av 5), .ref (Aa 1), .ref (Aa 2), .ref (Aa 3), .ref (Aa 4), .ref (Aa 5), .ref (Aa 6), .ref (Aa 7), .ref (Aa 8)])), ((Aa 1), .inl (tc 0, 10, .inl (Af 1))), ((Aa 2), .inl (tc 0, 10, .inl (Af 2))), ((Aa 3), .inl (tc 0, 6, .inl (Af 3))), ((Aa 4), .inl (tc 0, 6, .inl (Af 4))), ((Aa 5), .inl (tc 0, 6, .inl (Af 5))), ((Aa 6), .inl (tc 0, 6, .inl (Af 6))), ((Aa 7), .inl (tc 0, 6, .inl (Af 7))), ((Aa 8), .inl (tc 0, 6, .inl (Af 8))), ((Ta 0), .inr (10, [.ref (Ta 1), .int (Tv 0), .int (Tv 1), .int (Tv 2), .int sv_186, .int sv_187])), ((Ta 1), .inl (tc 0, 400, .inl (Tf 1)))] := hD
              refine lv_goto (tgt := 119) hx hb dX0_readClause_69 (by decide) ?_
              have hq_189 : 0 ≤ ((Tv 0) : Int32).toInt ∧ ((Tv 0) : Int32).toInt ≤ 400 ∧ 0 ≤ ((Tv 1) : Int32).toInt ∧ ((Tv 1) : Int32).toInt ≤ 400 ∧ 0 ≤ ((Tv 2) : Int32).toInt ∧ ((Tv 2) : Int32).toInt ≤ 400 := by
                have z_1 : ¬ (r_6 : Int32).toInt = ((-1) : Int32).toInt := fun z => c_8 (Int32.toInt_inj.mp z)
                have z_2 := Int32.lt_iff_toInt_lt.mp (Int32.not_le.mp c_9)
                have z_3 := congrArg Int32.toInt c_19
                have z_4 := congrArg Int32.toInt c_120
                have z_5 := congrArg Int32.toInt c_132
                have z_6 := Int32.le_iff_toInt_le.mp (Int32.not_lt.mp c_157)
                have y_m1 : (-1 : Int32).toInt = -1 := by decide
                have y_0 : (0 : Int32).toInt = 0 := by decide
                have y_2 : (2 : Int32).toInt = 2 := by decide
                have y_6 : (6 : Int32).toInt = 6 := by decide
                have y_40 : (40 : Int32).toInt = 40 := by decide
                first | assumption | omega
              have hq_190 : 0 ≤ ((Av 3) : Int32).toInt ∧ ((Av 3) : Int32).toInt ≤ 6 := by
                have z_1 : ¬ (r_6 : Int32).toInt = ((-1) : Int32).toInt := fun z => c_8 (Int32.toInt_inj.mp z)
                have z_2 := Int32.lt_iff_toInt_lt.mp (Int32.not_le.mp c_9)
                have z_3 := congrArg Int32.toInt c_19
                have z_4 := congrArg Int32.toInt c_120
                have z_5 := congrArg Int32.toInt c_132
                have z_6 := Int32.le_iff_toInt_le.mp (Int32.not_lt.mp c_157)
                have y_m1 : (-1 : Int32).toInt = -1 := by decide
                have y_0 : (0 : Int32).toInt = 0 := by decide
                have y_2 : (2 : Int32).toInt = 2 := by decide
                have y_6 : (6 : Int32).toInt = 6 := by decide
                have y_40 : (40 : Int32).toInt = 40 := by decide
                first | assumption | omega
              exact retV hx hb hr hlk hP hD hS ((Av 0), (Av 1), (Av 2), (Av 3), (Af 1), (Af 2), (Af 3), (Af 4), (Af 5), (Tv 1), (Tv 2), sv_186, sv_187) ⟨rfl, hq_189, hq_190⟩ [0, 1, 2, 3, 4, 5, 6, 7, 8, 9, 10, 11] rfl rfl dX0_readClause_119 (Nat.le_of_ble_eq_true rfl) (Nat.le_of_ble_eq_true rfl) rfl
  · skip
    refine lv_aload_n hx hb dX0_readClause_12 rfl (lv_at hl 2 rfl) ?_
    refine lv_iconst (v := 0) hx hb dX0_readClause_13 (by decide) ?_
    have hh_191 : 0 ≤ ((Tv 0) : Int32).toInt ∧ ((Tv 0) : Int32).toInt ≤ 400 ∧ 0 ≤ ((Tv 1) : Int32).toInt ∧ ((Tv 1) : Int32).toInt ≤ 400 ∧ 0 ≤ ((Tv 2) : Int32).toInt ∧ ((Tv 2) : Int32).toInt ≤ 400 := by
      have z_1 := congrArg Int32.toInt c_8
      have y_m1 : (-1 : Int32).toInt = -1 := by decide
      first | assumption | omega
    refine cV (a := (Ta 0)) (As := [.int 0]) (rest := []) (wr := [((Wa 0), .inr (0, [.ref (Aa 0)])), ((Aa 0), .inr (9, [.int (Av 0), .int (Av 1), .int (Av 2), .int (Av 3), .int (Av 4), .int (Av 5), .ref (Aa 1), .ref (Aa 2), .ref (Aa 3), .ref (Aa 4), .ref (Aa 5), .ref (Aa 6), .ref (Aa 7), .ref (Aa 8)])), ((Aa 1), .inl (tc 0, 10, .inl (Af 1))), ((Aa 2), .inl (tc 0, 10, .inl (Af 2))), ((Aa 3), .inl (tc 0, 6, .inl (Af 3))), ((Aa 4), .inl (tc 0, 6, .inl (Af 4))), ((Aa 5), .inl (tc 0, 6, .inl (Af 5))), ((Aa 6), .inl (tc 0, 6, .inl (Af 6))), ((Aa 7), .inl (tc 0, 6, .inl (Af 7))), ((Aa 8), .inl (tc 0, 6, .inl (Af 8)))]) ⟨hx, hb, hml, hown, hts⟩ hK hX hA (cu_X10_fail l D tc sk (Ta 0) (Ta 1) (Tv 0) (Tv 1) (Tv 2) (Tv 3) (Tv 4) (Tf 1) 0 hh_191) k_557 k_554 k_555 k_556 k_96 pl_X10_fail ⟨Nat.le_of_ble_eq_true rfl, Nat.le_of_ble_eq_true rfl⟩ rfl rfl (va_recv hK hP (ci := 10) (q0 := 10) rfl rfl) hP hD hS [10, 11] [0, 1, 2, 3, 4, 5, 6, 7, 8, 9] rfl rfl rfl rfl rfl (by decide) rfl hl.1 rfl (Nat.le_of_ble_eq_true rfl) dX0_readClause_14 ⟨Nat.le_of_ble_eq_true rfl, Nat.le_of_ble_eq_true rfl⟩ (fun v_192 u_193 H locs hv_194 hP hD hS => ?_)
    obtain ⟨sv_195, sv_196⟩ := u_193
    obtain ⟨rfl, he_197⟩ := hv_194
    have he_197 : (0 ≤ ((Tv 0) : Int32).toInt ∧ ((Tv 0) : Int32).toInt ≤ 400 ∧ 0 ≤ ((Tv 1) : Int32).toInt ∧ ((Tv 1) : Int32).toInt ≤ 400 ∧ 0 ≤ ((Tv 2) : Int32).toInt ∧ ((Tv 2) : Int32).toInt ≤ 400) := he_197
    refine W.eq (g2 := F0 m 17 ls []) rfl ?_
    have hP : va_P D classes [((Wa 0), .inr (0, [.ref (Aa 0)])), ((Aa 0), .inr (9, [.int (Av 0), .int (Av 1), .int (Av 2), .int (Av 3), .int (Av 4), .int (Av 5), .ref (Aa 1), .ref (Aa 2), .ref (Aa 3), .ref (Aa 4), .ref (Aa 5), .ref (Aa 6), .ref (Aa 7), .ref (Aa 8)])), ((Aa 1), .inl (tc 0, 10, .inl (Af 1))), ((Aa 2), .inl (tc 0, 10, .inl (Af 2))), ((Aa 3), .inl (tc 0, 6, .inl (Af 3))), ((Aa 4), .inl (tc 0, 6, .inl (Af 4))), ((Aa 5), .inl (tc 0, 6, .inl (Af 5))), ((Aa 6), .inl (tc 0, 6, .inl (Af 6))), ((Aa 7), .inl (tc 0, 6, .inl (Af 7))), ((Aa 8), .inl (tc 0, 6, .inl (Af 8))), ((Ta 0), .inr (10, [.ref (Ta 1), .int (Tv 0), .int (Tv 1), .int (Tv 2), .int sv_195, .int sv_196])), ((Ta 1), .inl (tc 0, 400, .inl (Tf 1)))] H := hP
    have hD : va_D A [((Wa 0), .inr (0, [.ref (Aa 0)])), ((Aa 0), .inr (9, [.int (Av 0), .int (Av 1), .int (Av 2), .int (Av 3), .int (Av 4), .int (Av 5), .ref (Aa 1), .ref (Aa 2), .ref (Aa 3), .ref (Aa 4), .ref (Aa 5), .ref (Aa 6), .ref (Aa 7), .ref (Aa 8)])), ((Aa 1), .inl (tc 0, 10, .inl (Af 1))), ((Aa 2), .inl (tc 0, 10, .inl (Af 2))), ((Aa 3), .inl (tc 0, 6, .inl (Af 3))), ((Aa 4), .inl (tc 0, 6, .inl (Af 4))), ((Aa 5), .inl (tc 0, 6, .inl (Af 5))), ((Aa 6), .inl (tc 0, 6, .inl (Af 6))), ((Aa 7), .inl (tc 0, 6, .inl (Af 7))), ((Aa 8), .inl (tc 0, 6, .inl (Af 8))), ((Ta 0), .inr (10, [.ref (Ta 1), .int (Tv 0), .int (Tv 1), .int (Tv 2), .int sv_195, .int sv_196])), ((Ta 1), .inl (tc 0, 400, .inl (Tf 1)))] := hD
    refine lv_goto (tgt := 119) hx hb dX0_readClause_17 (by decide) ?_
    have hq_198 : 0 ≤ ((Tv 0) : Int32).toInt ∧ ((Tv 0) : Int32).toInt ≤ 400 ∧ 0 ≤ ((Tv 1) : Int32).toInt ∧ ((Tv 1) : Int32).toInt ≤ 400 ∧ 0 ≤ ((Tv 2) : Int32).toInt ∧ ((Tv 2) : Int32).toInt ≤ 400 := by
      have z_1 := congrArg Int32.toInt c_8
      have y_m1 : (-1 : Int32).toInt = -1 := by decide
      first | assumption | omega
    have hq_199 : 0 ≤ ((Av 3) : Int32).toInt ∧ ((Av 3) : Int32).toInt ≤ 6 := by
      have z_1 := congrArg Int32.toInt c_8
      have y_m1 : (-1 : Int32).toInt = -1 := by decide
      first | assumption | omega
    exact retV hx hb hr hlk hP hD hS ((Av 0), (Av 1), (Av 2), (Av 3), (Af 1), (Af 2), (Af 3), (Af 4), (Af 5), (Tv 1), (Tv 2), sv_195, sv_196) ⟨rfl, hq_198, hq_199⟩ [0, 1, 2, 3, 4, 5, 6, 7, 8, 9, 10, 11] rfl rfl dX0_readClause_119 (Nat.le_of_ble_eq_true rfl) (Nat.le_of_ble_eq_true rfl) rfl
set_option maxRecDepth 100000 in
theorem cu_X0_readClause (l : Launch) (D : va_G) (tc : Nat → ClassId) (sk : (Nat → Nat) × (Nat → Nat)) (Wa_0 : Nat) (Aa_0 : Nat) (Aa_1 : Nat) (Aa_2 : Nat) (Aa_3 : Nat) (Aa_4 : Nat) (Aa_5 : Nat) (Aa_6 : Nat) (Aa_7 : Nat) (Aa_8 : Nat) (Av_0 : Int32) (Av_1 : Int32) (Av_2 : Int32) (Av_3 : Int32) (Av_4 : Int32) (Av_5 : Int32) (Af_1 : Nat → Int32) (Af_2 : Nat → Int32) (Af_3 : Nat → Int32) (Af_4 : Nat → Int32) (Af_5 : Nat → Int32) (Af_6 : Nat → Int32) (Af_7 : Nat → Int32) (Af_8 : Nat → Int32) (Ta_0 : Nat) (Ta_1 : Nat) (Tv_0 : Int32) (Tv_1 : Int32) (Tv_2 : Int32) (Tv_3 : Int32) (Tv_4 : Int32) (Tf_1 : Nat → Int32) (x1 : Int32) (h_tape : 0 ≤ (Tv_0 : Int32).toInt ∧ (Tv_0 : Int32).toInt ≤ 400 ∧ 0 ≤ (Tv_1 : Int32).toInt ∧ (Tv_1 : Int32).toInt ≤ 400 ∧ 0 ≤ (Tv_2 : Int32).toInt ∧ (Tv_2 : Int32).toInt ≤ 400) (h_buy : 0 ≤ (Av_3 : Int32).toInt ∧ (Av_3 : Int32).toInt ≤ 6) : Ct l yX0_readClause cX0_readClause 4 none { frames := 6, cells := 0, slots := 0, locals := 133 } D tc sk [.ref Wa_0, .ref Ta_0, .int x1] [(Wa_0, .inr (0, [.ref Aa_0])), (Aa_0, .inr (9, [.int Av_0, .int Av_1, .int Av_2, .int Av_3, .int Av_4, .int Av_5, .ref Aa_1, .ref Aa_2, .ref Aa_3, .ref Aa_4, .ref Aa_5, .ref Aa_6, .ref Aa_7, .ref Aa_8])), (Aa_1, .inl (tc 0, 10, .inl Af_1)), (Aa_2, .inl (tc 0, 10, .inl Af_2)), (Aa_3, .inl (tc 0, 6, .inl Af_3)), (Aa_4, .inl (tc 0, 6, .inl Af_4)), (Aa_5, .inl (tc 0, 6, .inl Af_5)), (Aa_6, .inl (tc 0, 6, .inl Af_6)), (Aa_7, .inl (tc 0, 6, .inl Af_7)), (Aa_8, .inl (tc 0, 6, .inl Af_8)), (Ta_0, .inr (10, [.ref Ta_1, .int Tv_0, .int Tv_1, .int Tv_2, .int Tv_3, .int Tv_4])), (Ta_1, .inl (tc 0, 400, .inl Tf_1))] (fun (v : Option Value) (u : (Int32) × (Int32) × (Int32) × (Int32) × (Nat → Int32) × (Nat → Int32) × (Nat → Int32) × (Nat → Int32) × (Nat → Int32) × (Int32) × (Int32) × (Int32) × (Int32)) => match u with | (o1, o2, o3, o4, o5, o6, o7, o8, o9, o10, o11, o12, o13) => v = none ∧ (0 ≤ (Tv_0 : Int32).toInt ∧ (Tv_0 : Int32).toInt ≤ 400 ∧ 0 ≤ (o10 : Int32).toInt ∧ (o10 : Int32).toInt ≤ 400 ∧ 0 ≤ (o11 : Int32).toInt ∧ (o11 : Int32).toInt ≤ 400) ∧ (0 ≤ (o4 : Int32).toInt ∧ (o4 : Int32).toInt ≤ 6)) (fun (u : (Int32) × (Int32) × (Int32) × (Int32) × (Nat → Int32) × (Nat → Int32) × (Nat → Int32) × (Nat → Int32) × (Nat → Int32) × (Int32) × (Int32) × (Int32) × (Int32)) => match u with | (o1, o2, o3, o4, o5, o6, o7, o8, o9, o10, o11, o12, o13) => [(Wa_0, .inr (0, [.ref Aa_0])), (Aa_0, .inr (9, [.int o1, .int o2, .int o3, .int o4, .int Av_4, .int Av_5, .ref Aa_1, .ref Aa_2, .ref Aa_3, .ref Aa_4, .ref Aa_5, .ref Aa_6, .ref Aa_7, .ref Aa_8])), (Aa_1, .inl (tc 0, 10, .inl o5)), (Aa_2, .inl (tc 0, 10, .inl o6)), (Aa_3, .inl (tc 0, 6, .inl o7)), (Aa_4, .inl (tc 0, 6, .inl o8)), (Aa_5, .inl (tc 0, 6, .inl o9)), (Aa_6, .inl (tc 0, 6, .inl Af_6)), (Aa_7, .inl (tc 0, 6, .inl Af_7)), (Aa_8, .inl (tc 0, 6, .inl Af_8)), (Ta_0, .inr (10, [.ref Ta_1, .int Tv_0, .int o10, .int o11, .int o12, .int o13])), (Ta_1, .inl (tc 0, 400, .inl Tf_1))]) 0 0 :=
  ct_X0_readClause l D tc sk (fun k => ([Wa_0] : List (Nat)).getD k 0) (fun k => ([Aa_0, Aa_1, Aa_2, Aa_3, Aa_4, Aa_5, Aa_6, Aa_7, Aa_8] : List (Nat)).getD k 0) (fun k => ([Av_0, Av_1, Av_2, Av_3, Av_4, Av_5] : List (Int32)).getD k 0) (fun k => ([(fun _ => 0), Af_1, Af_2, Af_3, Af_4, Af_5, Af_6, Af_7, Af_8] : List (Nat → Int32)).getD k (fun _ => 0)) (fun k => ([Ta_0, Ta_1] : List (Nat)).getD k 0) (fun k => ([Tv_0, Tv_1, Tv_2, Tv_3, Tv_4] : List (Int32)).getD k 0) (fun k => ([(fun _ => 0), Tf_1] : List (Nat → Int32)).getD k (fun _ => 0)) x1 h_tape h_buy
set_option maxHeartbeats 4000000 in
set_option maxRecDepth 100000 in
theorem ct_X0_read (l : Launch) (D : va_G) (tc : Nat → ClassId) (sk : (Nat → Nat) × (Nat → Nat)) (Wa : Nat → Nat) (Aa : Nat → Nat) (Av : Nat → Int32) (Af : Nat → Nat → Int32) (Ta : Nat → Nat) (Tv : Nat → Int32) (Tf : Nat → Nat → Int32) (h_tape : 0 ≤ ((Tv 0) : Int32).toInt ∧ ((Tv 0) : Int32).toInt ≤ 400 ∧ 0 ≤ ((Tv 1) : Int32).toInt ∧ ((Tv 1) : Int32).toInt ≤ 400 ∧ 0 ≤ ((Tv 2) : Int32).toInt ∧ ((Tv 2) : Int32).toInt ≤ 400) (h_buy : 0 ≤ ((Av 3) : Int32).toInt ∧ ((Av 3) : Int32).toInt ≤ 6) : Ct l yX0_read cX0_read 3 (some .int) { frames := 7, cells := 0, slots := 0, locals := 156 } D tc sk [.ref (Wa 0), .ref (Ta 0)] [((Wa 0), .inr (0, [.ref (Aa 0)])), ((Aa 0), .inr (9, [.int (Av 0), .int (Av 1), .int (Av 2), .int (Av 3), .int (Av 4), .int (Av 5), .ref (Aa 1), .ref (Aa 2), .ref (Aa 3), .ref (Aa 4), .ref (Aa 5), .ref (Aa 6), .ref (Aa 7), .ref (Aa 8)])), ((Aa 1), .inl (tc 0, 10, .inl (Af 1))), ((Aa 2), .inl (tc 0, 10, .inl (Af 2))), ((Aa 3), .inl (tc 0, 6, .inl (Af 3))), ((Aa 4), .inl (tc 0, 6, .inl (Af 4))), ((Aa 5), .inl (tc 0, 6, .inl (Af 5))), ((Aa 6), .inl (tc 0, 6, .inl (Af 6))), ((Aa 7), .inl (tc 0, 6, .inl (Af 7))), ((Aa 8), .inl (tc 0, 6, .inl (Af 8))), ((Ta 0), .inr (10, [.ref (Ta 1), .int (Tv 0), .int (Tv 1), .int (Tv 2), .int (Tv 3), .int (Tv 4)])), ((Ta 1), .inl (tc 0, 400, .inl (Tf 1)))] (fun (v : Option Value) (u : (Int32) × (Int32) × (Int32) × (Int32) × (Nat → Int32) × (Nat → Int32) × (Nat → Int32) × (Nat → Int32) × (Nat → Int32) × (Nat → Int32) × (Nat → Int32) × (Nat → Int32) × (Int32) × (Int32) × (Int32) × (Int32)) => match u with | (o1, o2, o3, o4, o5, o6, o7, o8, o9, o10, o11, o12, o13, o14, o15, o16) => ∃ r : Int32, v = some (.int r) ∧ (True) ∧ (0 ≤ ((Tv 0) : Int32).toInt ∧ ((Tv 0) : Int32).toInt ≤ 400 ∧ 0 ≤ (o13 : Int32).toInt ∧ (o13 : Int32).toInt ≤ 400 ∧ 0 ≤ (o14 : Int32).toInt ∧ (o14 : Int32).toInt ≤ 400) ∧ (0 ≤ (o4 : Int32).toInt ∧ (o4 : Int32).toInt ≤ 6)) (fun (u : (Int32) × (Int32) × (Int32) × (Int32) × (Nat → Int32) × (Nat → Int32) × (Nat → Int32) × (Nat → Int32) × (Nat → Int32) × (Nat → Int32) × (Nat → Int32) × (Nat → Int32) × (Int32) × (Int32) × (Int32) × (Int32)) => match u with | (o1, o2, o3, o4, o5, o6, o7, o8, o9, o10, o11, o12, o13, o14, o15, o16) => [((Wa 0), .inr (0, [.ref (Aa 0)])), ((Aa 0), .inr (9, [.int o1, .int o2, .int o3, .int o4, .int 0, .int 0, .ref (Aa 1), .ref (Aa 2), .ref (Aa 3), .ref (Aa 4), .ref (Aa 5), .ref (Aa 6), .ref (Aa 7), .ref (Aa 8)])), ((Aa 1), .inl (tc 0, 10, .inl o5)), ((Aa 2), .inl (tc 0, 10, .inl o6)), ((Aa 3), .inl (tc 0, 6, .inl o7)), ((Aa 4), .inl (tc 0, 6, .inl o8)), ((Aa 5), .inl (tc 0, 6, .inl o9)), ((Aa 6), .inl (tc 0, 6, .inl o10)), ((Aa 7), .inl (tc 0, 6, .inl o11)), ((Aa 8), .inl (tc 0, 6, .inl o12)), ((Ta 0), .inr (10, [.ref (Ta 1), .int (Tv 0), .int o13, .int o14, .int o15, .int o16])), ((Ta 1), .inl (tc 0, 400, .inl (Tf 1)))]) 0 0 := by
  refine Ct.start (by decide) (Nat.le_of_ble_eq_true rfl) (fun p e s m below meth c A ls hx hb hr hlk hin hml hown hts hK hX hP hD hA hl hS => ?_)
  have hl : lv_has ls 3 [(0, .ref (Wa 0)), (1, .ref (Ta 0))] := hl
  refine lv_aload_n hx hb dX0_read_0 rfl (lv_at hl 0 rfl) ?_
  refine gf_X0_12 hx hb hts hown hK hP 0 rfl rfl dX0_read_1 ?_
  refine cV (a := (Aa 0)) (As := []) (rest := []) (wr := [((Wa 0), .inr (0, [.ref (Aa 0)])), ((Ta 0), .inr (10, [.ref (Ta 1), .int (Tv 0), .int (Tv 1), .int (Tv 2), .int (Tv 3), .int (Tv 4)])), ((Ta 1), .inl (tc 0, 400, .inl (Tf 1)))]) ⟨hx, hb, hml, hown, hts⟩ hK hX hA (cu_X9_clear l D tc sk (Aa 0) (Aa 1) (Aa 2) (Aa 3) (Aa 4) (Aa 5) (Aa 6) (Aa 7) (Aa 8) (Av 0) (Av 1) (Av 2) (Av 3) (Av 4) (Av 5) (Af 1) (Af 2) (Af 3) (Af 4) (Af 5) (Af 6) (Af 7) (Af 8)) k_470 k_467 k_468 k_469 k_98 pl_X9_clear ⟨Nat.le_of_ble_eq_true rfl, Nat.le_of_ble_eq_true rfl⟩ rfl rfl (va_recv hK hP (ci := 9) (q0 := 1) rfl rfl) hP hD hS [1, 2, 3, 4, 5, 6, 7, 8, 9] [0, 10, 11] rfl rfl rfl rfl rfl (by decide) rfl hl.1 rfl (Nat.le_of_ble_eq_true rfl) dX0_read_4 ⟨Nat.le_of_ble_eq_true rfl, Nat.le_of_ble_eq_true rfl⟩ (fun v_1 u_2 H locs hv_3 hP hD hS => ?_)
  obtain ⟨sv_4, sv_5, sv_6, sv_7, sv_8, sv_9, sv_10, sv_11⟩ := u_2
  obtain rfl : v_1 = none := hv_3
  refine W.eq (g2 := F0 m 7 ls []) rfl ?_
  have hP : va_P D classes [((Wa 0), .inr (0, [.ref (Aa 0)])), ((Ta 0), .inr (10, [.ref (Ta 1), .int (Tv 0), .int (Tv 1), .int (Tv 2), .int (Tv 3), .int (Tv 4)])), ((Ta 1), .inl (tc 0, 400, .inl (Tf 1))), ((Aa 0), .inr (9, [.int 0, .int 0, .int 0, .int 0, .int 0, .int 0, .ref (Aa 1), .ref (Aa 2), .ref (Aa 3), .ref (Aa 4), .ref (Aa 5), .ref (Aa 6), .ref (Aa 7), .ref (Aa 8)])), ((Aa 1), .inl (tc 0, 10, .inl sv_4)), ((Aa 2), .inl (tc 0, 10, .inl sv_5)), ((Aa 3), .inl (tc 0, 6, .inl sv_6)), ((Aa 4), .inl (tc 0, 6, .inl sv_7)), ((Aa 5), .inl (tc 0, 6, .inl sv_8)), ((Aa 6), .inl (tc 0, 6, .inl sv_9)), ((Aa 7), .inl (tc 0, 6, .inl sv_10)), ((Aa 8), .inl (tc 0, 6, .inl sv_11))] H := hP
  have hD : va_D A [((Wa 0), .inr (0, [.ref (Aa 0)])), ((Ta 0), .inr (10, [.ref (Ta 1), .int (Tv 0), .int (Tv 1), .int (Tv 2), .int (Tv 3), .int (Tv 4)])), ((Ta 1), .inl (tc 0, 400, .inl (Tf 1))), ((Aa 0), .inr (9, [.int 0, .int 0, .int 0, .int 0, .int 0, .int 0, .ref (Aa 1), .ref (Aa 2), .ref (Aa 3), .ref (Aa 4), .ref (Aa 5), .ref (Aa 6), .ref (Aa 7), .ref (Aa 8)])), ((Aa 1), .inl (tc 0, 10, .inl sv_4)), ((Aa 2), .inl (tc 0, 10, .inl sv_5)), ((Aa 3), .inl (tc 0, 6, .inl sv_6)), ((Aa 4), .inl (tc 0, 6, .inl sv_7)), ((Aa 5), .inl (tc 0, 6, .inl sv_8)), ((Aa 6), .inl (tc 0, 6, .inl sv_9)), ((Aa 7), .inl (tc 0, 6, .inl sv_10)), ((Aa 8), .inl (tc 0, 6, .inl sv_11))] := hD
  refine lv_aload_n hx hb dX0_read_7 rfl (lv_at hl 1 rfl) ?_
  have hh_12 : 0 ≤ ((Tv 0) : Int32).toInt ∧ ((Tv 0) : Int32).toInt ≤ 400 ∧ 0 ≤ ((Tv 1) : Int32).toInt ∧ ((Tv 1) : Int32).toInt ≤ 400 ∧ 0 ≤ ((Tv 2) : Int32).toInt ∧ ((Tv 2) : Int32).toInt ≤ 400 := by
    first | assumption | omega
  refine cV (a := (Ta 0)) (As := []) (rest := []) (wr := [((Wa 0), .inr (0, [.ref (Aa 0)])), ((Aa 0), .inr (9, [.int 0, .int 0, .int 0, .int 0, .int 0, .int 0, .ref (Aa 1), .ref (Aa 2), .ref (Aa 3), .ref (Aa 4), .ref (Aa 5), .ref (Aa 6), .ref (Aa 7), .ref (Aa 8)])), ((Aa 1), .inl (tc 0, 10, .inl sv_4)), ((Aa 2), .inl (tc 0, 10, .inl sv_5)), ((Aa 3), .inl (tc 0, 6, .inl sv_6)), ((Aa 4), .inl (tc 0, 6, .inl sv_7)), ((Aa 5), .inl (tc 0, 6, .inl sv_8)), ((Aa 6), .inl (tc 0, 6, .inl sv_9)), ((Aa 7), .inl (tc 0, 6, .inl sv_10)), ((Aa 8), .inl (tc 0, 6, .inl sv_11))]) ⟨hx, hb, hml, hown, hts⟩ hK hX hA (cu_X10_begin l D tc sk (Ta 0) (Ta 1) (Tv 0) (Tv 1) (Tv 2) (Tv 3) (Tv 4) (Tf 1) hh_12) k_474 k_471 k_472 k_473 k_96 pl_X10_begin ⟨Nat.le_of_ble_eq_true rfl, Nat.le_of_ble_eq_true rfl⟩ rfl rfl (va_recv hK hP (ci := 10) (q0 := 1) rfl rfl) hP hD hS [1, 2] [0, 3, 4, 5, 6, 7, 8, 9, 10, 11] rfl rfl rfl rfl rfl (by decide) rfl hl.1 rfl (Nat.le_of_ble_eq_true rfl) dX0_read_8 ⟨Nat.le_of_ble_eq_true rfl, Nat.le_of_ble_eq_true rfl⟩ (fun v_13 u_14 H locs hv_15 hP hD hS => ?_)
  obtain ⟨sv_16, sv_17, sv_18⟩ := u_14
  obtain ⟨rfl, he_19⟩ := hv_15
  have he_19 : (0 ≤ ((Tv 0) : Int32).toInt ∧ ((Tv 0) : Int32).toInt ≤ 400 ∧ 0 ≤ (sv_16 : Int32).toInt ∧ (sv_16 : Int32).toInt ≤ 400 ∧ 0 ≤ (sv_17 : Int32).toInt ∧ (sv_17 : Int32).toInt ≤ 400) := he_19
  refine W.eq (g2 := F0 m 11 ls []) rfl ?_
  have hP : va_P D classes [((Wa 0), .inr (0, [.ref (Aa 0)])), ((Aa 0), .inr (9, [.int 0, .int 0, .int 0, .int 0, .int 0, .int 0, .ref (Aa 1), .ref (Aa 2), .ref (Aa 3), .ref (Aa 4), .ref (Aa 5), .ref (Aa 6), .ref (Aa 7), .ref (Aa 8)])), ((Aa 1), .inl (tc 0, 10, .inl sv_4)), ((Aa 2), .inl (tc 0, 10, .inl sv_5)), ((Aa 3), .inl (tc 0, 6, .inl sv_6)), ((Aa 4), .inl (tc 0, 6, .inl sv_7)), ((Aa 5), .inl (tc 0, 6, .inl sv_8)), ((Aa 6), .inl (tc 0, 6, .inl sv_9)), ((Aa 7), .inl (tc 0, 6, .inl sv_10)), ((Aa 8), .inl (tc 0, 6, .inl sv_11)), ((Ta 0), .inr (10, [.ref (Ta 1), .int (Tv 0), .int sv_16, .int sv_17, .int sv_18, .int 0])), ((Ta 1), .inl (tc 0, 400, .inl (Tf 1)))] H := hP
  have hD : va_D A [((Wa 0), .inr (0, [.ref (Aa 0)])), ((Aa 0), .inr (9, [.int 0, .int 0, .int 0, .int 0, .int 0, .int 0, .ref (Aa 1), .ref (Aa 2), .ref (Aa 3), .ref (Aa 4), .ref (Aa 5), .ref (Aa 6), .ref (Aa 7), .ref (Aa 8)])), ((Aa 1), .inl (tc 0, 10, .inl sv_4)), ((Aa 2), .inl (tc 0, 10, .inl sv_5)), ((Aa 3), .inl (tc 0, 6, .inl sv_6)), ((Aa 4), .inl (tc 0, 6, .inl sv_7)), ((Aa 5), .inl (tc 0, 6, .inl sv_8)), ((Aa 6), .inl (tc 0, 6, .inl sv_9)), ((Aa 7), .inl (tc 0, 6, .inl sv_10)), ((Aa 8), .inl (tc 0, 6, .inl sv_11)), ((Ta 0), .inr (10, [.ref (Ta 1), .int (Tv 0), .int sv_16, .int sv_17, .int sv_18, .int 0])), ((Ta 1), .inl (tc 0, 400, .inl (Tf 1)))] := hD
  refine lv_iconst (v := 0) hx hb dX0_read_11 (by decide) ?_
  refine lv_istore_n (lv' := [(2, .int 0), (0, .ref (Wa 0)), (1, .ref (Ta 0))]) hx hb dX0_read_12 rfl hl (by decide) rfl (fun ls hl => ?_)
  have loop_51 : ∀ (n_49 : Nat) (vy_35 : Int32) (vy_36 : Int32) (vy_37 : Int32) (vy_38 : Int32) (vy_39 : Int32) (vy_40 : Nat → Int32) (vy_41 : Nat → Int32) (vy_42 : Nat → Int32) (vy_43 : Nat → Int32) (vy_44 : Nat → Int32) (vy_45 : Int32) (vy_46 : Int32) (vy_47 : Int32) (vy_48 : Int32) (H : Heap) (locs : List Loc) (ls : Array Slot), 0 ≤ (vy_35 : Int32).toInt → (41 - (vy_35 : Int32).toInt).toNat < n_49 → 0 ≤ ((Tv 0) : Int32).toInt ∧ ((Tv 0) : Int32).toInt ≤ 400 ∧ 0 ≤ (vy_45 : Int32).toInt ∧ (vy_45 : Int32).toInt ≤ 400 ∧ 0 ≤ (vy_46 : Int32).toInt ∧ (vy_46 : Int32).toInt ≤ 400 ∧ 0 ≤ (vy_39 : Int32).toInt ∧ (vy_39 : Int32).toInt ≤ 6 → va_P D classes [((Wa 0), .inr (0, [.ref (Aa 0)])), ((Aa 0), .inr (9, [.int vy_36, .int vy_37, .int vy_38, .int vy_39, .int 0, .int 0, .ref (Aa 1), .ref (Aa 2), .ref (Aa 3), .ref (Aa 4), .ref (Aa 5), .ref (Aa 6), .ref (Aa 7), .ref (Aa 8)])), ((Aa 1), .inl (tc 0, 10, .inl vy_40)), ((Aa 2), .inl (tc 0, 10, .inl vy_41)), ((Aa 3), .inl (tc 0, 6, .inl vy_42)), ((Aa 4), .inl (tc 0, 6, .inl vy_43)), ((Aa 5), .inl (tc 0, 6, .inl vy_44)), ((Aa 6), .inl (tc 0, 6, .inl sv_9)), ((Aa 7), .inl (tc 0, 6, .inl sv_10)), ((Aa 8), .inl (tc 0, 6, .inl sv_11)), ((Ta 0), .inr (10, [.ref (Ta 1), .int (Tv 0), .int vy_45, .int vy_46, .int vy_47, .int vy_48])), ((Ta 1), .inl (tc 0, 400, .inl (Tf 1)))] H → va_D A [((Wa 0), .inr (0, [.ref (Aa 0)])), ((Aa 0), .inr (9, [.int vy_36, .int vy_37, .int vy_38, .int vy_39, .int 0, .int 0, .ref (Aa 1), .ref (Aa 2), .ref (Aa 3), .ref (Aa 4), .ref (Aa 5), .ref (Aa 6), .ref (Aa 7), .ref (Aa 8)])), ((Aa 1), .inl (tc 0, 10, .inl vy_40)), ((Aa 2), .inl (tc 0, 10, .inl vy_41)), ((Aa 3), .inl (tc 0, 6, .inl vy_42)), ((Aa 4), .inl (tc 0, 6, .inl vy_43)), ((Aa 5), .inl (tc 0, 6, .inl vy_44)), ((Aa 6), .inl (tc 0, 6, .inl sv_9)), ((Aa 7), .inl (tc 0, 6, .inl sv_10)), ((Aa 8), .inl (tc 0, 6, .inl sv_11)), ((Ta 0), .inr (10, [.ref (Ta 1), .int (Tv 0), .int vy_45, .int vy_46, .int vy_47, .int vy_48])), ((Ta 1), .inl (tc 0, 400, .inl (Tf 1)))] → va_S A s.heap H locs → lv_has ls 3 [(2, .int vy_35), (0, .ref (Wa 0)), (1, .ref (Ta 0))] → W p l e ({ frames := 7, cells := 0, slots := 0, locals := 156 }) s m ([.ref (Wa 0), .ref (Ta 0)].toArray) below meth c H locs 0 0 (MQ below (QW (fun (v : Option Value) (u : (Int32) × (Int32) × (Int32) × (Int32) × (Nat → Int32) × (Nat → Int32) × (Nat → Int32) × (Nat → Int32) × (Nat → Int32) × (Nat → Int32) × (Nat → Int32) × (Nat → Int32) × (Int32) × (Int32) × (Int32) × (Int32)) => match u with | (o1, o2, o3, o4, o5, o6, o7, o8, o9, o10, o11, o12, o13, o14, o15, o16) => ∃ r : Int32, v = some (.int r) ∧ (True) ∧ (0 ≤ ((Tv 0) : Int32).toInt ∧ ((Tv 0) : Int32).toInt ≤ 400 ∧ 0 ≤ (o13 : Int32).toInt ∧ (o13 : Int32).toInt ≤ 400 ∧ 0 ≤ (o14 : Int32).toInt ∧ (o14 : Int32).toInt ≤ 400) ∧ (0 ≤ (o4 : Int32).toInt ∧ (o4 : Int32).toInt ≤ 6)) (BW D (fun (u : (Int32) × (Int32) × (Int32) × (Int32) × (Nat → Int32) × (Nat → Int32) × (Nat → Int32) × (Nat → Int32) × (Nat → Int32) × (Nat → Int32) × (Nat → Int32) × (Nat → Int32) × (Int32) × (Int32) × (Int32) × (Int32)) => match u with | (o1, o2, o3, o4, o5, o6, o7, o8, o9, o10, o11, o12, o13, o14, o15, o16) => [((Wa 0), .inr (0, [.ref (Aa 0)])), ((Aa 0), .inr (9, [.int o1, .int o2, .int o3, .int o4, .int 0, .int 0, .ref (Aa 1), .ref (Aa 2), .ref (Aa 3), .ref (Aa 4), .ref (Aa 5), .ref (Aa 6), .ref (Aa 7), .ref (Aa 8)])), ((Aa 1), .inl (tc 0, 10, .inl o5)), ((Aa 2), .inl (tc 0, 10, .inl o6)), ((Aa 3), .inl (tc 0, 6, .inl o7)), ((Aa 4), .inl (tc 0, 6, .inl o8)), ((Aa 5), .inl (tc 0, 6, .inl o9)), ((Aa 6), .inl (tc 0, 6, .inl o10)), ((Aa 7), .inl (tc 0, 6, .inl o11)), ((Aa 8), .inl (tc 0, 6, .inl o12)), ((Ta 0), .inr (10, [.ref (Ta 1), .int (Tv 0), .int o13, .int o14, .int o15, .int o16])), ((Ta 1), .inl (tc 0, 400, .inl (Tf 1)))]) A) A) ([.ref (Wa 0), .ref (Ta 0)].toArray) s 0 0 A) (F0 m 13 ls []) := by
    intro n_49
    induction n_49 with
    | zero =>
      intro vy_35 vy_36 vy_37 vy_38 vy_39 vy_40 vy_41 vy_42 vy_43 vy_44 vy_45 vy_46 vy_47 vy_48 H locs ls h1 h2
      exact absurd h2 (Nat.not_lt_zero _)
    | succ n_49 ih_50 =>
      intro vy_35 vy_36 vy_37 vy_38 vy_39 vy_40 vy_41 vy_42 vy_43 vy_44 vy_45 vy_46 vy_47 vy_48 H locs ls hi_53 hn_54 hv_52 hP hD hS hl
      refine lv_iload_n hx hb dX0_read_13 rfl (lv_at hl 0 rfl) ?_
      refine lv_bipush (v := 40) hx hb dX0_read_14 (by decide) ?_
      refine lv_icmp_gt (tgt := 44) hx hb dX0_read_16 (by decide) (fun c_55 => ?_) (fun c_55 => ?_)
      · skip
        refine lv_aload_n hx hb dX0_read_44 rfl (lv_at hl 2 rfl) ?_
        have hh_56 : 0 ≤ ((Tv 0) : Int32).toInt ∧ ((Tv 0) : Int32).toInt ≤ 400 ∧ 0 ≤ (vy_45 : Int32).toInt ∧ (vy_45 : Int32).toInt ≤ 400 ∧ 0 ≤ (vy_46 : Int32).toInt ∧ (vy_46 : Int32).toInt ≤ 400 := by
          have z_1 := Int32.lt_iff_toInt_lt.mp c_55
          have y_40 : (40 : Int32).toInt = 40 := by decide
          first | assumption | omega
        refine cV (a := (Ta 0)) (As := []) (rest := []) (wr := [((Wa 0), .inr (0, [.ref (Aa 0)])), ((Aa 0), .inr (9, [.int vy_36, .int vy_37, .int vy_38, .int vy_39, .int 0, .int 0, .ref (Aa 1), .ref (Aa 2), .ref (Aa 3), .ref (Aa 4), .ref (Aa 5), .ref (Aa 6), .ref (Aa 7), .ref (Aa 8)])), ((Aa 1), .inl (tc 0, 10, .inl vy_40)), ((Aa 2), .inl (tc 0, 10, .inl vy_41)), ((Aa 3), .inl (tc 0, 6, .inl vy_42)), ((Aa 4), .inl (tc 0, 6, .inl vy_43)), ((Aa 5), .inl (tc 0, 6, .inl vy_44)), ((Aa 6), .inl (tc 0, 6, .inl sv_9)), ((Aa 7), .inl (tc 0, 6, .inl sv_10)), ((Aa 8), .inl (tc 0, 6, .inl sv_11))]) ⟨hx, hb, hml, hown, hts⟩ hK hX hA (cu_X10_finish l D tc sk (Ta 0) (Ta 1) (Tv 0) vy_45 vy_46 vy_47 vy_48 (Tf 1) hh_56) k_595 k_592 k_593 k_594 k_96 pl_X10_finish ⟨Nat.le_of_ble_eq_true rfl, Nat.le_of_ble_eq_true rfl⟩ rfl rfl (va_recv hK hP (ci := 10) (q0 := 10) rfl rfl) hP hD hS [10, 11] [0, 1, 2, 3, 4, 5, 6, 7, 8, 9] rfl rfl rfl rfl rfl (by decide) rfl hl.1 rfl (Nat.le_of_ble_eq_true rfl) dX0_read_45 ⟨Nat.le_of_ble_eq_true rfl, Nat.le_of_ble_eq_true rfl⟩ (fun v_57 u_58 H locs hv_59 hP hD hS => ?_)
        obtain ⟨sv_60, sv_61⟩ := u_58
        obtain ⟨rfl, he_62⟩ := hv_59
        have he_62 : (0 ≤ ((Tv 0) : Int32).toInt ∧ ((Tv 0) : Int32).toInt ≤ 400 ∧ 0 ≤ (vy_45 : Int32).toInt ∧ (vy_45 : Int32).toInt ≤ 400 ∧ 0 ≤ (vy_46 : Int32).toInt ∧ (vy_46 : Int32).toInt ≤ 400) := he_62
        refine W.eq (g2 := F0 m 48 ls []) rfl ?_
        have hP : va_P D classes [((Wa 0), .inr (0, [.ref (Aa 0)])), ((Aa 0), .inr (9, [.int vy_36, .int vy_37, .int vy_38, .int vy_39, .int 0, .int 0, .ref (Aa 1), .ref (Aa 2), .ref (Aa 3), .ref (Aa 4), .ref (Aa 5), .ref (Aa 6), .ref (Aa 7), .ref (Aa 8)])), ((Aa 1), .inl (tc 0, 10, .inl vy_40)), ((Aa 2), .inl (tc 0, 10, .inl vy_41)), ((Aa 3), .inl (tc 0, 6, .inl vy_42)), ((Aa 4), .inl (tc 0, 6, .inl vy_43)), ((Aa 5), .inl (tc 0, 6, .inl vy_44)), ((Aa 6), .inl (tc 0, 6, .inl sv_9)), ((Aa 7), .inl (tc 0, 6, .inl sv_10)), ((Aa 8), .inl (tc 0, 6, .inl sv_11)), ((Ta 0), .inr (10, [.ref (Ta 1), .int (Tv 0), .int vy_45, .int vy_46, .int sv_60, .int sv_61])), ((Ta 1), .inl (tc 0, 400, .inl (Tf 1)))] H := hP
        have hD : va_D A [((Wa 0), .inr (0, [.ref (Aa 0)])), ((Aa 0), .inr (9, [.int vy_36, .int vy_37, .int vy_38, .int vy_39, .int 0, .int 0, .ref (Aa 1), .ref (Aa 2), .ref (Aa 3), .ref (Aa 4), .ref (Aa 5), .ref (Aa 6), .ref (Aa 7), .ref (Aa 8)])), ((Aa 1), .inl (tc 0, 10, .inl vy_40)), ((Aa 2), .inl (tc 0, 10, .inl vy_41)), ((Aa 3), .inl (tc 0, 6, .inl vy_42)), ((Aa 4), .inl (tc 0, 6, .inl vy_43)), ((Aa 5), .inl (tc 0, 6, .inl vy_44)), ((Aa 6), .inl (tc 0, 6, .inl sv_9)), ((Aa 7), .inl (tc 0, 6, .inl sv_10)), ((Aa 8), .inl (tc 0, 6, .inl sv_11)), ((Ta 0), .inr (10, [.ref (Ta 1), .int (Tv 0), .int vy_45, .int vy_46, .int sv_60, .int sv_61])), ((Ta 1), .inl (tc 0, 400, .inl (Tf 1)))] := hD
        refine lv_aload_n hx hb dX0_read_48 rfl (lv_at hl 2 rfl) ?_
        refine gf_X0_37 hx hb hts hown hK hP 10 rfl rfl dX0_read_49 ?_
        have hq_63 : 0 ≤ ((Tv 0) : Int32).toInt ∧ ((Tv 0) : Int32).toInt ≤ 400 ∧ 0 ≤ (vy_45 : Int32).toInt ∧ (vy_45 : Int32).toInt ≤ 400 ∧ 0 ≤ (vy_46 : Int32).toInt ∧ (vy_46 : Int32).toInt ≤ 400 := by
          have z_1 := Int32.lt_iff_toInt_lt.mp c_55
          have y_40 : (40 : Int32).toInt = 40 := by decide
          first | assumption | omega
        have hq_64 : 0 ≤ (vy_39 : Int32).toInt ∧ (vy_39 : Int32).toInt ≤ 6 := by
          have z_1 := Int32.lt_iff_toInt_lt.mp c_55
          have y_40 : (40 : Int32).toInt = 40 := by decide
          first | assumption | omega
        exact retI (v := sv_61) hx hb hr hlk (rfl) hP hD hS (vy_36, vy_37, vy_38, vy_39, vy_40, vy_41, vy_42, vy_43, vy_44, sv_9, sv_10, sv_11, vy_45, vy_46, sv_60, sv_61) ⟨_, rfl, trivial, hq_63, hq_64⟩ [0, 1, 2, 3, 4, 5, 6, 7, 8, 9, 10, 11] rfl rfl dX0_read_52 (Nat.le_of_ble_eq_true rfl) (Nat.le_of_ble_eq_true rfl) rfl
      · skip
        refine lv_iload_n hx hb dX0_read_19 rfl (lv_at hl 0 rfl) ?_
        refine lv_if_eq (tgt := 32) hx hb dX0_read_20 (by decide) (fun c_65 => ?_) (fun c_65 => ?_)
        · skip
          refine lv_aload_n hx hb dX0_read_32 rfl (lv_at hl 1 rfl) ?_
          refine lv_aload_n hx hb dX0_read_33 rfl (lv_at hl 2 rfl) ?_
          refine lv_iload_n hx hb dX0_read_34 rfl (lv_at hl 0 rfl) ?_
          have hh_66 : 0 ≤ ((Tv 0) : Int32).toInt ∧ ((Tv 0) : Int32).toInt ≤ 400 ∧ 0 ≤ (vy_45 : Int32).toInt ∧ (vy_45 : Int32).toInt ≤ 400 ∧ 0 ≤ (vy_46 : Int32).toInt ∧ (vy_46 : Int32).toInt ≤ 400 := by
            have z_1 := Int32.le_iff_toInt_le.mp (Int32.not_lt.mp c_55)
            have z_2 := congrArg Int32.toInt c_65
            have y_0 : (0 : Int32).toInt = 0 := by decide
            have y_40 : (40 : Int32).toInt = 40 := by decide
            first | assumption | omega
          have hh_67 : 0 ≤ (vy_39 : Int32).toInt ∧ (vy_39 : Int32).toInt ≤ 6 := by
            have z_1 := Int32.le_iff_toInt_le.mp (Int32.not_lt.mp c_55)
            have z_2 := congrArg Int32.toInt c_65
            have y_0 : (0 : Int32).toInt = 0 := by decide
            have y_40 : (40 : Int32).toInt = 40 := by decide
            first | assumption | omega
          refine cV (a := (Wa 0)) (As := [.ref (Ta 0), .int vy_35]) (rest := []) (wr := []) ⟨hx, hb, hml, hown, hts⟩ hK hX hA (cu_X0_readClause l D tc sk (Wa 0) (Aa 0) (Aa 1) (Aa 2) (Aa 3) (Aa 4) (Aa 5) (Aa 6) (Aa 7) (Aa 8) vy_36 vy_37 vy_38 vy_39 0 0 vy_40 vy_41 vy_42 vy_43 vy_44 sv_9 sv_10 sv_11 (Ta 0) (Ta 1) (Tv 0) vy_45 vy_46 vy_47 vy_48 (Tf 1) vy_35 hh_66 hh_67) k_496 k_493 k_495 k_1 k_97 pl_X0_readClause ⟨Nat.le_of_ble_eq_true rfl, Nat.le_of_ble_eq_true rfl⟩ rfl rfl (va_recv hK hP (ci := 0) (q0 := 0) rfl rfl) hP hD hS [0, 1, 2, 3, 4, 5, 6, 7, 8, 9, 10, 11] [] rfl rfl rfl rfl rfl (by decide) rfl hl.1 rfl (Nat.le_of_ble_eq_true rfl) dX0_read_35 ⟨Nat.le_of_ble_eq_true rfl, Nat.le_of_ble_eq_true rfl⟩ (fun v_68 u_69 H locs hv_70 hP hD hS => ?_)
          obtain ⟨sv_71, sv_72, sv_73, sv_74, sv_75, sv_76, sv_77, sv_78, sv_79, sv_80, sv_81, sv_82, sv_83⟩ := u_69
          obtain ⟨rfl, he_84⟩ := hv_70
          have he_84 : (0 ≤ ((Tv 0) : Int32).toInt ∧ ((Tv 0) : Int32).toInt ≤ 400 ∧ 0 ≤ (sv_80 : Int32).toInt ∧ (sv_80 : Int32).toInt ≤ 400 ∧ 0 ≤ (sv_81 : Int32).toInt ∧ (sv_81 : Int32).toInt ≤ 400) ∧ (0 ≤ (sv_74 : Int32).toInt ∧ (sv_74 : Int32).toInt ≤ 6) := he_84
          have he_84_0 : (0 ≤ ((Tv 0) : Int32).toInt ∧ ((Tv 0) : Int32).toInt ≤ 400 ∧ 0 ≤ (sv_80 : Int32).toInt ∧ (sv_80 : Int32).toInt ≤ 400 ∧ 0 ≤ (sv_81 : Int32).toInt ∧ (sv_81 : Int32).toInt ≤ 400) := he_84.1
          have he_84_1 : (0 ≤ (sv_74 : Int32).toInt ∧ (sv_74 : Int32).toInt ≤ 6) := he_84.2
          refine W.eq (g2 := F0 m 38 ls []) rfl ?_
          have hP : va_P D classes [((Wa 0), .inr (0, [.ref (Aa 0)])), ((Aa 0), .inr (9, [.int sv_71, .int sv_72, .int sv_73, .int sv_74, .int 0, .int 0, .ref (Aa 1), .ref (Aa 2), .ref (Aa 3), .ref (Aa 4), .ref (Aa 5), .ref (Aa 6), .ref (Aa 7), .ref (Aa 8)])), ((Aa 1), .inl (tc 0, 10, .inl sv_75)), ((Aa 2), .inl (tc 0, 10, .inl sv_76)), ((Aa 3), .inl (tc 0, 6, .inl sv_77)), ((Aa 4), .inl (tc 0, 6, .inl sv_78)), ((Aa 5), .inl (tc 0, 6, .inl sv_79)), ((Aa 6), .inl (tc 0, 6, .inl sv_9)), ((Aa 7), .inl (tc 0, 6, .inl sv_10)), ((Aa 8), .inl (tc 0, 6, .inl sv_11)), ((Ta 0), .inr (10, [.ref (Ta 1), .int (Tv 0), .int sv_80, .int sv_81, .int sv_82, .int sv_83])), ((Ta 1), .inl (tc 0, 400, .inl (Tf 1)))] H := hP
          have hD : va_D A [((Wa 0), .inr (0, [.ref (Aa 0)])), ((Aa 0), .inr (9, [.int sv_71, .int sv_72, .int sv_73, .int sv_74, .int 0, .int 0, .ref (Aa 1), .ref (Aa 2), .ref (Aa 3), .ref (Aa 4), .ref (Aa 5), .ref (Aa 6), .ref (Aa 7), .ref (Aa 8)])), ((Aa 1), .inl (tc 0, 10, .inl sv_75)), ((Aa 2), .inl (tc 0, 10, .inl sv_76)), ((Aa 3), .inl (tc 0, 6, .inl sv_77)), ((Aa 4), .inl (tc 0, 6, .inl sv_78)), ((Aa 5), .inl (tc 0, 6, .inl sv_79)), ((Aa 6), .inl (tc 0, 6, .inl sv_9)), ((Aa 7), .inl (tc 0, 6, .inl sv_10)), ((Aa 8), .inl (tc 0, 6, .inl sv_11)), ((Ta 0), .inr (10, [.ref (Ta 1), .int (Tv 0), .int sv_80, .int sv_81, .int sv_82, .int sv_83])), ((Ta 1), .inl (tc 0, 400, .inl (Tf 1)))] := hD
          obtain ⟨x_85, ex_85⟩ : ∃ y : Int32, y = vy_35 + 1 := ⟨_, rfl⟩
          refine lv_iinc (v := x_85) (lv' := [(2, .int x_85), (0, .ref (Wa 0)), (1, .ref (Ta 0))]) hx hb dX0_read_38 hl (k := 0) rfl (by rw [ex_85]; rfl) (by decide) rfl (fun ls hl => ?_)
          refine lv_goto (tgt := 13) hx hb dX0_read_41 (by decide) ?_
          have hb_86 : 0 ≤ (x_85 : Int32).toInt ∧ (41 - (x_85 : Int32).toInt).toNat < n_49 := by
            have z_1 := Int32.le_iff_toInt_le.mp (Int32.not_lt.mp c_55)
            have z_2 := congrArg Int32.toInt c_65
            have y_0 : (0 : Int32).toInt = 0 := by decide
            have y_40 : (40 : Int32).toInt = 40 := by decide
            have y_1 : (1 : Int32).toInt = 1 := by decide
            have t_x_85 : x_85.toInt = (vy_35 : Int32).toInt + (1 : Int32).toInt := by rw [ex_85]; exact add_toInt (by omega) (by omega)
            omega
          have hv_87 : 0 ≤ ((Tv 0) : Int32).toInt ∧ ((Tv 0) : Int32).toInt ≤ 400 ∧ 0 ≤ (sv_80 : Int32).toInt ∧ (sv_80 : Int32).toInt ≤ 400 ∧ 0 ≤ (sv_81 : Int32).toInt ∧ (sv_81 : Int32).toInt ≤ 400 ∧ 0 ≤ (sv_74 : Int32).toInt ∧ (sv_74 : Int32).toInt ≤ 6 := by
            have z_1 := Int32.le_iff_toInt_le.mp (Int32.not_lt.mp c_55)
            have z_2 := congrArg Int32.toInt c_65
            have y_0 : (0 : Int32).toInt = 0 := by decide
            have y_40 : (40 : Int32).toInt = 40 := by decide
            omega
          exact ih_50 x_85 sv_71 sv_72 sv_73 sv_74 sv_75 sv_76 sv_77 sv_78 sv_79 sv_80 sv_81 sv_82 sv_83 _ _ _ hb_86.1 hb_86.2 hv_87 (hP.sub [0, 1, 2, 3, 4, 5, 6, 7, 8, 9, 10, 11] rfl) (hD.sub [0, 1, 2, 3, 4, 5, 6, 7, 8, 9, 10, 11] rfl rfl) hS (lv_sub hl [0, 1, 2] rfl)
        · skip
          refine lv_aload_n hx hb dX0_read_23 rfl (lv_at hl 2 rfl) ?_
          refine lv_bipush (v := 59) hx hb dX0_read_24 (by decide) ?_
          have hh_88 : 0 ≤ ((Tv 0) : Int32).toInt ∧ ((Tv 0) : Int32).toInt ≤ 400 ∧ 0 ≤ (vy_45 : Int32).toInt ∧ (vy_45 : Int32).toInt ≤ 400 ∧ 0 ≤ (vy_46 : Int32).toInt ∧ (vy_46 : Int32).toInt ≤ 400 := by
            have z_1 := Int32.le_iff_toInt_le.mp (Int32.not_lt.mp c_55)
            have z_2 : ¬ (vy_35 : Int32).toInt = (0 : Int32).toInt := fun z => c_65 (Int32.toInt_inj.mp z)
            have y_0 : (0 : Int32).toInt = 0 := by decide
            have y_40 : (40 : Int32).toInt = 40 := by decide
            first | assumption | omega
          refine cV (a := (Ta 0)) (As := [.int 59]) (rest := []) (wr := [((Wa 0), .inr (0, [.ref (Aa 0)])), ((Aa 0), .inr (9, [.int vy_36, .int vy_37, .int vy_38, .int vy_39, .int 0, .int 0, .ref (Aa 1), .ref (Aa 2), .ref (Aa 3), .ref (Aa 4), .ref (Aa 5), .ref (Aa 6), .ref (Aa 7), .ref (Aa 8)])), ((Aa 1), .inl (tc 0, 10, .inl vy_40)), ((Aa 2), .inl (tc 0, 10, .inl vy_41)), ((Aa 3), .inl (tc 0, 6, .inl vy_42)), ((Aa 4), .inl (tc 0, 6, .inl vy_43)), ((Aa 5), .inl (tc 0, 6, .inl vy_44)), ((Aa 6), .inl (tc 0, 6, .inl sv_9)), ((Aa 7), .inl (tc 0, 6, .inl sv_10)), ((Aa 8), .inl (tc 0, 6, .inl sv_11))]) ⟨hx, hb, hml, hown, hts⟩ hK hX hA (cu_X10_takes l D tc sk (Ta 0) (Ta 1) (Tv 0) vy_45 vy_46 vy_47 vy_48 (Tf 1) 59 hh_88) k_492 k_489 k_490 k_491 k_96 pl_X10_takes ⟨Nat.le_of_ble_eq_true rfl, Nat.le_of_ble_eq_true rfl⟩ rfl rfl (va_recv hK hP (ci := 10) (q0 := 10) rfl rfl) hP hD hS [10, 11] [0, 1, 2, 3, 4, 5, 6, 7, 8, 9] rfl rfl rfl rfl rfl (by decide) rfl hl.1 rfl (Nat.le_of_ble_eq_true rfl) dX0_read_26 ⟨Nat.le_of_ble_eq_true rfl, Nat.le_of_ble_eq_true rfl⟩ (fun v_89 u_90 H locs hv_91 hP hD hS => ?_)
          obtain ⟨sv_92, sv_93, sv_94⟩ := u_90
          obtain ⟨r_95, rfl, he_96⟩ := hv_91
          have he_96 : ((r_95.toInt = 0 ∨ (r_95.toInt = 1 ∧ vy_47.toInt = (59 : Int32).toInt))) ∧ (0 ≤ ((Tv 0) : Int32).toInt ∧ ((Tv 0) : Int32).toInt ≤ 400 ∧ 0 ≤ (sv_92 : Int32).toInt ∧ (sv_92 : Int32).toInt ≤ 400 ∧ 0 ≤ (sv_93 : Int32).toInt ∧ (sv_93 : Int32).toInt ≤ 400) := he_96
          have he_96_0 : (0 ≤ ((Tv 0) : Int32).toInt ∧ ((Tv 0) : Int32).toInt ≤ 400 ∧ 0 ≤ (sv_92 : Int32).toInt ∧ (sv_92 : Int32).toInt ≤ 400 ∧ 0 ≤ (sv_93 : Int32).toInt ∧ (sv_93 : Int32).toInt ≤ 400) := he_96.2
          refine W.eq (g2 := F0 m 29 ls [.int r_95]) rfl ?_
          have hP : va_P D classes [((Wa 0), .inr (0, [.ref (Aa 0)])), ((Aa 0), .inr (9, [.int vy_36, .int vy_37, .int vy_38, .int vy_39, .int 0, .int 0, .ref (Aa 1), .ref (Aa 2), .ref (Aa 3), .ref (Aa 4), .ref (Aa 5), .ref (Aa 6), .ref (Aa 7), .ref (Aa 8)])), ((Aa 1), .inl (tc 0, 10, .inl vy_40)), ((Aa 2), .inl (tc 0, 10, .inl vy_41)), ((Aa 3), .inl (tc 0, 6, .inl vy_42)), ((Aa 4), .inl (tc 0, 6, .inl vy_43)), ((Aa 5), .inl (tc 0, 6, .inl vy_44)), ((Aa 6), .inl (tc 0, 6, .inl sv_9)), ((Aa 7), .inl (tc 0, 6, .inl sv_10)), ((Aa 8), .inl (tc 0, 6, .inl sv_11)), ((Ta 0), .inr (10, [.ref (Ta 1), .int (Tv 0), .int sv_92, .int sv_93, .int sv_94, .int vy_48])), ((Ta 1), .inl (tc 0, 400, .inl (Tf 1)))] H := hP
          have hD : va_D A [((Wa 0), .inr (0, [.ref (Aa 0)])), ((Aa 0), .inr (9, [.int vy_36, .int vy_37, .int vy_38, .int vy_39, .int 0, .int 0, .ref (Aa 1), .ref (Aa 2), .ref (Aa 3), .ref (Aa 4), .ref (Aa 5), .ref (Aa 6), .ref (Aa 7), .ref (Aa 8)])), ((Aa 1), .inl (tc 0, 10, .inl vy_40)), ((Aa 2), .inl (tc 0, 10, .inl vy_41)), ((Aa 3), .inl (tc 0, 6, .inl vy_42)), ((Aa 4), .inl (tc 0, 6, .inl vy_43)), ((Aa 5), .inl (tc 0, 6, .inl vy_44)), ((Aa 6), .inl (tc 0, 6, .inl sv_9)), ((Aa 7), .inl (tc 0, 6, .inl sv_10)), ((Aa 8), .inl (tc 0, 6, .inl sv_11)), ((Ta 0), .inr (10, [.ref (Ta 1), .int (Tv 0), .int sv_92, .int sv_93, .int sv_94, .int vy_48])), ((Ta 1), .inl (tc 0, 400, .inl (Tf 1)))] := hD
          refine lv_if_eq (tgt := 44) hx hb dX0_read_29 (by decide) (fun c_97 => ?_) (fun c_97 => ?_)
          · skip
            refine lv_aload_n hx hb dX0_read_44 rfl (lv_at hl 2 rfl) ?_
            have hh_98 : 0 ≤ ((Tv 0) : Int32).toInt ∧ ((Tv 0) : Int32).toInt ≤ 400 ∧ 0 ≤ (sv_92 : Int32).toInt ∧ (sv_92 : Int32).toInt ≤ 400 ∧ 0 ≤ (sv_93 : Int32).toInt ∧ (sv_93 : Int32).toInt ≤ 400 := by
              have z_1 := Int32.le_iff_toInt_le.mp (Int32.not_lt.mp c_55)
              have z_2 : ¬ (vy_35 : Int32).toInt = (0 : Int32).toInt := fun z => c_65 (Int32.toInt_inj.mp z)
              have z_3 := congrArg Int32.toInt c_97
              have y_0 : (0 : Int32).toInt = 0 := by decide
              have y_40 : (40 : Int32).toInt = 40 := by decide
              first | assumption | omega
            refine cV (a := (Ta 0)) (As := []) (rest := []) (wr := [((Wa 0), .inr (0, [.ref (Aa 0)])), ((Aa 0), .inr (9, [.int vy_36, .int vy_37, .int vy_38, .int vy_39, .int 0, .int 0, .ref (Aa 1), .ref (Aa 2), .ref (Aa 3), .ref (Aa 4), .ref (Aa 5), .ref (Aa 6), .ref (Aa 7), .ref (Aa 8)])), ((Aa 1), .inl (tc 0, 10, .inl vy_40)), ((Aa 2), .inl (tc 0, 10, .inl vy_41)), ((Aa 3), .inl (tc 0, 6, .inl vy_42)), ((Aa 4), .inl (tc 0, 6, .inl vy_43)), ((Aa 5), .inl (tc 0, 6, .inl vy_44)), ((Aa 6), .inl (tc 0, 6, .inl sv_9)), ((Aa 7), .inl (tc 0, 6, .inl sv_10)), ((Aa 8), .inl (tc 0, 6, .inl sv_11))]) ⟨hx, hb, hml, hown, hts⟩ hK hX hA (cu_X10_finish l D tc sk (Ta 0) (Ta 1) (Tv 0) sv_92 sv_93 sv_94 vy_48 (Tf 1) hh_98) k_595 k_592 k_593 k_594 k_96 pl_X10_finish ⟨Nat.le_of_ble_eq_true rfl, Nat.le_of_ble_eq_true rfl⟩ rfl rfl (va_recv hK hP (ci := 10) (q0 := 10) rfl rfl) hP hD hS [10, 11] [0, 1, 2, 3, 4, 5, 6, 7, 8, 9] rfl rfl rfl rfl rfl (by decide) rfl hl.1 rfl (Nat.le_of_ble_eq_true rfl) dX0_read_45 ⟨Nat.le_of_ble_eq_true rfl, Nat.le_of_ble_eq_true rfl⟩ (fun v_99 u_100 H locs hv_101 hP hD hS => ?_)
            obtain ⟨sv_102, sv_103⟩ := u_100
            obtain ⟨rfl, he_104⟩ := hv_101
            have he_104 : (0 ≤ ((Tv 0) : Int32).toInt ∧ ((Tv 0) : Int32).toInt ≤ 400 ∧ 0 ≤ (sv_92 : Int32).toInt ∧ (sv_92 : Int32).toInt ≤ 400 ∧ 0 ≤ (sv_93 : Int32).toInt ∧ (sv_93 : Int32).toInt ≤ 400) := he_104
            refine W.eq (g2 := F0 m 48 ls []) rfl ?_
            have hP : va_P D classes [((Wa 0), .inr (0, [.ref (Aa 0)])), ((Aa 0), .inr (9, [.int vy_36, .int vy_37, .int vy_38, .int vy_39, .int 0, .int 0, .ref (Aa 1), .ref (Aa 2), .ref (Aa 3), .ref (Aa 4), .ref (Aa 5), .ref (Aa 6), .ref (Aa 7), .ref (Aa 8)])), ((Aa 1), .inl (tc 0, 10, .inl vy_40)), ((Aa 2), .inl (tc 0, 10, .inl vy_41)), ((Aa 3), .inl (tc 0, 6, .inl vy_42)), ((Aa 4), .inl (tc 0, 6, .inl vy_43)), ((Aa 5), .inl (tc 0, 6, .inl vy_44)), ((Aa 6), .inl (tc 0, 6, .inl sv_9)), ((Aa 7), .inl (tc 0, 6, .inl sv_10)), ((Aa 8), .inl (tc 0, 6, .inl sv_11)), ((Ta 0), .inr (10, [.ref (Ta 1), .int (Tv 0), .int sv_92, .int sv_93, .int sv_102, .int sv_103])), ((Ta 1), .inl (tc 0, 400, .inl (Tf 1)))] H := hP
            have hD : va_D A [((Wa 0), .inr (0, [.ref (Aa 0)])), ((Aa 0), .inr (9, [.int vy_36, .int vy_37, .int vy_38, .int vy_39, .int 0, .int 0, .ref (Aa 1), .ref (Aa 2), .ref (Aa 3), .ref (Aa 4), .ref (Aa 5), .ref (Aa 6), .ref (Aa 7), .ref (Aa 8)])), ((Aa 1), .inl (tc 0, 10, .inl vy_40)), ((Aa 2), .inl (tc 0, 10, .inl vy_41)), ((Aa 3), .inl (tc 0, 6, .inl vy_42)), ((Aa 4), .inl (tc 0, 6, .inl vy_43)), ((Aa 5), .inl (tc 0, 6, .inl vy_44)), ((Aa 6), .inl (tc 0, 6, .inl sv_9)), ((Aa 7), .inl (tc 0, 6, .inl sv_10)), ((Aa 8), .inl (tc 0, 6, .inl sv_11)), ((Ta 0), .inr (10, [.ref (Ta 1), .int (Tv 0), .int sv_92, .int sv_93, .int sv_102, .int sv_103])), ((Ta 1), .inl (tc 0, 400, .inl (Tf 1)))] := hD
            refine lv_aload_n hx hb dX0_read_48 rfl (lv_at hl 2 rfl) ?_
            refine gf_X0_37 hx hb hts hown hK hP 10 rfl rfl dX0_read_49 ?_
            have hq_105 : 0 ≤ ((Tv 0) : Int32).toInt ∧ ((Tv 0) : Int32).toInt ≤ 400 ∧ 0 ≤ (sv_92 : Int32).toInt ∧ (sv_92 : Int32).toInt ≤ 400 ∧ 0 ≤ (sv_93 : Int32).toInt ∧ (sv_93 : Int32).toInt ≤ 400 := by
              have z_1 := Int32.le_iff_toInt_le.mp (Int32.not_lt.mp c_55)
              have z_2 : ¬ (vy_35 : Int32).toInt = (0 : Int32).toInt := fun z => c_65 (Int32.toInt_inj.mp z)
              have z_3 := congrArg Int32.toInt c_97
              have y_0 : (0 : Int32).toInt = 0 := by decide
              have y_40 : (40 : Int32).toInt = 40 := by decide
              first | assumption | omega
            have hq_106 : 0 ≤ (vy_39 : Int32).toInt ∧ (vy_39 : Int32).toInt ≤ 6 := by
              have z_1 := Int32.le_iff_toInt_le.mp (Int32.not_lt.mp c_55)
              have z_2 : ¬ (vy_35 : Int32).toInt = (0 : Int32).toInt := fun z => c_65 (Int32.toInt_inj.mp z)
              have z_3 := congrArg Int32.toInt c_97
              have y_0 : (0 : Int32).toInt = 0 := by decide
              have y_40 : (40 : Int32).toInt = 40 := by decide
              first | assumption | omega
            exact retI (v := sv_103) hx hb hr hlk (rfl) hP hD hS (vy_36, vy_37, vy_38, vy_39, vy_40, vy_41, vy_42, vy_43, vy_44, sv_9, sv_10, sv_11, sv_92, sv_93, sv_102, sv_103) ⟨_, rfl, trivial, hq_105, hq_106⟩ [0, 1, 2, 3, 4, 5, 6, 7, 8, 9, 10, 11] rfl rfl dX0_read_52 (Nat.le_of_ble_eq_true rfl) (Nat.le_of_ble_eq_true rfl) rfl
          · skip
            refine lv_aload_n hx hb dX0_read_32 rfl (lv_at hl 1 rfl) ?_
            refine lv_aload_n hx hb dX0_read_33 rfl (lv_at hl 2 rfl) ?_
            refine lv_iload_n hx hb dX0_read_34 rfl (lv_at hl 0 rfl) ?_
            have hh_107 : 0 ≤ ((Tv 0) : Int32).toInt ∧ ((Tv 0) : Int32).toInt ≤ 400 ∧ 0 ≤ (sv_92 : Int32).toInt ∧ (sv_92 : Int32).toInt ≤ 400 ∧ 0 ≤ (sv_93 : Int32).toInt ∧ (sv_93 : Int32).toInt ≤ 400 := by
              have z_1 := Int32.le_iff_toInt_le.mp (Int32.not_lt.mp c_55)
              have z_2 : ¬ (vy_35 : Int32).toInt = (0 : Int32).toInt := fun z => c_65 (Int32.toInt_inj.mp z)
              have z_3 : ¬ (r_95 : Int32).toInt = (0 : Int32).toInt := fun z => c_97 (Int32.toInt_inj.mp z)
              have y_0 : (0 : Int32).toInt = 0 := by decide
              have y_40 : (40 : Int32).toInt = 40 := by decide
              first | assumption | omega
            have hh_108 : 0 ≤ (vy_39 : Int32).toInt ∧ (vy_39 : Int32).toInt ≤ 6 := by
              have z_1 := Int32.le_iff_toInt_le.mp (Int32.not_lt.mp c_55)
              have z_2 : ¬ (vy_35 : Int32).toInt = (0 : Int32).toInt := fun z => c_65 (Int32.toInt_inj.mp z)
              have z_3 : ¬ (r_95 : Int32).toInt = (0 : Int32).toInt := fun z => c_97 (Int32.toInt_inj.mp z)
              have y_0 : (0 : Int32).toInt = 0 := by decide
              have y_40 : (40 : Int32).toInt = 40 := by decide
              first | assumption | omega
            refine cV (a := (Wa 0)) (As := [.ref (Ta 0), .int vy_35]) (rest := []) (wr := []) ⟨hx, hb, hml, hown, hts⟩ hK hX hA (cu_X0_readClause l D tc sk (Wa 0) (Aa 0) (Aa 1) (Aa 2) (Aa 3) (Aa 4) (Aa 5) (Aa 6) (Aa 7) (Aa 8) vy_36 vy_37 vy_38 vy_39 0 0 vy_40 vy_41 vy_42 vy_43 vy_44 sv_9 sv_10 sv_11 (Ta 0) (Ta 1) (Tv 0) sv_92 sv_93 sv_94 vy_48 (Tf 1) vy_35 hh_107 hh_108) k_496 k_493 k_495 k_1 k_97 pl_X0_readClause ⟨Nat.le_of_ble_eq_true rfl, Nat.le_of_ble_eq_true rfl⟩ rfl rfl (va_recv hK hP (ci := 0) (q0 := 0) rfl rfl) hP hD hS [0, 1, 2, 3, 4, 5, 6, 7, 8, 9, 10, 11] [] rfl rfl rfl rfl rfl (by decide) rfl hl.1 rfl (Nat.le_of_ble_eq_true rfl) dX0_read_35 ⟨Nat.le_of_ble_eq_true rfl, Nat.le_of_ble_eq_true rfl⟩ (fun v_109 u_110 H locs hv_111 hP hD hS => ?_)
            obtain ⟨sv_112, sv_113, sv_114, sv_115, sv_116, sv_117, sv_118, sv_119, sv_120, sv_121, sv_122, sv_123, sv_124⟩ := u_110
            obtain ⟨rfl, he_125⟩ := hv_111
            have he_125 : (0 ≤ ((Tv 0) : Int32).toInt ∧ ((Tv 0) : Int32).toInt ≤ 400 ∧ 0 ≤ (sv_121 : Int32).toInt ∧ (sv_121 : Int32).toInt ≤ 400 ∧ 0 ≤ (sv_122 : Int32).toInt ∧ (sv_122 : Int32).toInt ≤ 400) ∧ (0 ≤ (sv_115 : Int32).toInt ∧ (sv_115 : Int32).toInt ≤ 6) := he_125
            have he_125_0 : (0 ≤ ((Tv 0) : Int32).toInt ∧ ((Tv 0) : Int32).toInt ≤ 400 ∧ 0 ≤ (sv_121 : Int32).toInt ∧ (sv_121 : Int32).toInt ≤ 400 ∧ 0 ≤ (sv_122 : Int32).toInt ∧ (sv_122 : Int32).toInt ≤ 400) := he_125.1
            have he_125_1 : (0 ≤ (sv_115 : Int32).toInt ∧ (sv_115 : Int32).toInt ≤ 6) := he_125.2
            refine W.eq (g2 := F0 m 38 ls []) rfl ?_
            have hP : va_P D classes [((Wa 0), .inr (0, [.ref (Aa 0)])), ((Aa 0), .inr (9, [.int sv_112, .int sv_113, .int sv_114, .int sv_115, .int 0, .int 0, .ref (Aa 1), .ref (Aa 2), .ref (Aa 3), .ref (Aa 4), .ref (Aa 5), .ref (Aa 6), .ref (Aa 7), .ref (Aa 8)])), ((Aa 1), .inl (tc 0, 10, .inl sv_116)), ((Aa 2), .inl (tc 0, 10, .inl sv_117)), ((Aa 3), .inl (tc 0, 6, .inl sv_118)), ((Aa 4), .inl (tc 0, 6, .inl sv_119)), ((Aa 5), .inl (tc 0, 6, .inl sv_120)), ((Aa 6), .inl (tc 0, 6, .inl sv_9)), ((Aa 7), .inl (tc 0, 6, .inl sv_10)), ((Aa 8), .inl (tc 0, 6, .inl sv_11)), ((Ta 0), .inr (10, [.ref (Ta 1), .int (Tv 0), .int sv_121, .int sv_122, .int sv_123, .int sv_124])), ((Ta 1), .inl (tc 0, 400, .inl (Tf 1)))] H := hP
            have hD : va_D A [((Wa 0), .inr (0, [.ref (Aa 0)])), ((Aa 0), .inr (9, [.int sv_112, .int sv_113, .int sv_114, .int sv_115, .int 0, .int 0, .ref (Aa 1), .ref (Aa 2), .ref (Aa 3), .ref (Aa 4), .ref (Aa 5), .ref (Aa 6), .ref (Aa 7), .ref (Aa 8)])), ((Aa 1), .inl (tc 0, 10, .inl sv_116)), ((Aa 2), .inl (tc 0, 10, .inl sv_117)), ((Aa 3), .inl (tc 0, 6, .inl sv_118)), ((Aa 4), .inl (tc 0, 6, .inl sv_119)), ((Aa 5), .inl (tc 0, 6, .inl sv_120)), ((Aa 6), .inl (tc 0, 6, .inl sv_9)), ((Aa 7), .inl (tc 0, 6, .inl sv_10)), ((Aa 8), .inl (tc 0, 6, .inl sv_11)), ((Ta 0), .inr (10, [.ref (Ta 1), .int (Tv 0), .int sv_121, .int sv_122, .int sv_123, .int sv_124])), ((Ta 1), .inl (tc 0, 400, .inl (Tf 1)))] := hD
            obtain ⟨x_126, ex_126⟩ : ∃ y : Int32, y = vy_35 + 1 := ⟨_, rfl⟩
            refine lv_iinc (v := x_126) (lv' := [(2, .int x_126), (0, .ref (Wa 0)), (1, .ref (Ta 0))]) hx hb dX0_read_38 hl (k := 0) rfl (by rw [ex_126]; rfl) (by decide) rfl (fun ls hl => ?_)
            refine lv_goto (tgt := 13) hx hb dX0_read_41 (by decide) ?_
            have hb_127 : 0 ≤ (x_126 : Int32).toInt ∧ (41 - (x_126 : Int32).toInt).toNat < n_49 := by
              have z_1 := Int32.le_iff_toInt_le.mp (Int32.not_lt.mp c_55)
              have z_2 : ¬ (vy_35 : Int32).toInt = (0 : Int32).toInt := fun z => c_65 (Int32.toInt_inj.mp z)
              have z_3 : ¬ (r_95 : Int32).toInt = (0 : Int32).toInt := fun z => c_97 (Int32.toInt_inj.mp z)
              have y_0 : (0 : Int32).toInt = 0 := by decide
              have y_40 : (40 : Int32).toInt = 40 := by decide
              have y_1 : (1 : Int32).toInt = 1 := by decide
              have t_x_126 : x_126.toInt = (vy_35 : Int32).toInt + (1 : Int32).toInt := by rw [ex_126]; exact add_toInt (by omega) (by omega)
              omega
            have hv_128 : 0 ≤ ((Tv 0) : Int32).toInt ∧ ((Tv 0) : Int32).toInt ≤ 400 ∧ 0 ≤ (sv_121 : Int32).toInt ∧ (sv_121 : Int32).toInt ≤ 400 ∧ 0 ≤ (sv_122 : Int32).toInt ∧ (sv_122 : Int32).toInt ≤ 400 ∧ 0 ≤ (sv_115 : Int32).toInt ∧ (sv_115 : Int32).toInt ≤ 6 := by
              have z_1 := Int32.le_iff_toInt_le.mp (Int32.not_lt.mp c_55)
              have z_2 : ¬ (vy_35 : Int32).toInt = (0 : Int32).toInt := fun z => c_65 (Int32.toInt_inj.mp z)
              have z_3 : ¬ (r_95 : Int32).toInt = (0 : Int32).toInt := fun z => c_97 (Int32.toInt_inj.mp z)
              have y_0 : (0 : Int32).toInt = 0 := by decide
              have y_40 : (40 : Int32).toInt = 40 := by decide
              omega
            exact ih_50 x_126 sv_112 sv_113 sv_114 sv_115 sv_116 sv_117 sv_118 sv_119 sv_120 sv_121 sv_122 sv_123 sv_124 _ _ _ hb_127.1 hb_127.2 hv_128 (hP.sub [0, 1, 2, 3, 4, 5, 6, 7, 8, 9, 10, 11] rfl) (hD.sub [0, 1, 2, 3, 4, 5, 6, 7, 8, 9, 10, 11] rfl rfl) hS (lv_sub hl [0, 1, 2] rfl)
  have h0_129 : 0 ≤ (0 : Int32).toInt := by
    have y_0 : (0 : Int32).toInt = 0 := by decide
    decide
  have hv_130 : 0 ≤ ((Tv 0) : Int32).toInt ∧ ((Tv 0) : Int32).toInt ≤ 400 ∧ 0 ≤ (sv_16 : Int32).toInt ∧ (sv_16 : Int32).toInt ≤ 400 ∧ 0 ≤ (sv_17 : Int32).toInt ∧ (sv_17 : Int32).toInt ≤ 400 ∧ 0 ≤ (0 : Int32).toInt ∧ (0 : Int32).toInt ≤ 6 := by
    have y_0 : (0 : Int32).toInt = 0 := by decide
    omega
  exact loop_51 _ 0 0 0 0 0 sv_4 sv_5 sv_6 sv_7 sv_8 sv_16 sv_17 sv_18 0 _ _ _ h0_129 (Nat.lt_succ_self _) hv_130 hP hD hS hl
set_option maxRecDepth 100000 in
theorem cu_X0_read (l : Launch) (D : va_G) (tc : Nat → ClassId) (sk : (Nat → Nat) × (Nat → Nat)) (Wa_0 : Nat) (Aa_0 : Nat) (Aa_1 : Nat) (Aa_2 : Nat) (Aa_3 : Nat) (Aa_4 : Nat) (Aa_5 : Nat) (Aa_6 : Nat) (Aa_7 : Nat) (Aa_8 : Nat) (Av_0 : Int32) (Av_1 : Int32) (Av_2 : Int32) (Av_3 : Int32) (Av_4 : Int32) (Av_5 : Int32) (Af_1 : Nat → Int32) (Af_2 : Nat → Int32) (Af_3 : Nat → Int32) (Af_4 : Nat → Int32) (Af_5 : Nat → Int32) (Af_6 : Nat → Int32) (Af_7 : Nat → Int32) (Af_8 : Nat → Int32) (Ta_0 : Nat) (Ta_1 : Nat) (Tv_0 : Int32) (Tv_1 : Int32) (Tv_2 : Int32) (Tv_3 : Int32) (Tv_4 : Int32) (Tf_1 : Nat → Int32) (h_tape : 0 ≤ (Tv_0 : Int32).toInt ∧ (Tv_0 : Int32).toInt ≤ 400 ∧ 0 ≤ (Tv_1 : Int32).toInt ∧ (Tv_1 : Int32).toInt ≤ 400 ∧ 0 ≤ (Tv_2 : Int32).toInt ∧ (Tv_2 : Int32).toInt ≤ 400) (h_buy : 0 ≤ (Av_3 : Int32).toInt ∧ (Av_3 : Int32).toInt ≤ 6) : Ct l yX0_read cX0_read 3 (some .int) { frames := 7, cells := 0, slots := 0, locals := 156 } D tc sk [.ref Wa_0, .ref Ta_0] [(Wa_0, .inr (0, [.ref Aa_0])), (Aa_0, .inr (9, [.int Av_0, .int Av_1, .int Av_2, .int Av_3, .int Av_4, .int Av_5, .ref Aa_1, .ref Aa_2, .ref Aa_3, .ref Aa_4, .ref Aa_5, .ref Aa_6, .ref Aa_7, .ref Aa_8])), (Aa_1, .inl (tc 0, 10, .inl Af_1)), (Aa_2, .inl (tc 0, 10, .inl Af_2)), (Aa_3, .inl (tc 0, 6, .inl Af_3)), (Aa_4, .inl (tc 0, 6, .inl Af_4)), (Aa_5, .inl (tc 0, 6, .inl Af_5)), (Aa_6, .inl (tc 0, 6, .inl Af_6)), (Aa_7, .inl (tc 0, 6, .inl Af_7)), (Aa_8, .inl (tc 0, 6, .inl Af_8)), (Ta_0, .inr (10, [.ref Ta_1, .int Tv_0, .int Tv_1, .int Tv_2, .int Tv_3, .int Tv_4])), (Ta_1, .inl (tc 0, 400, .inl Tf_1))] (fun (v : Option Value) (u : (Int32) × (Int32) × (Int32) × (Int32) × (Nat → Int32) × (Nat → Int32) × (Nat → Int32) × (Nat → Int32) × (Nat → Int32) × (Nat → Int32) × (Nat → Int32) × (Nat → Int32) × (Int32) × (Int32) × (Int32) × (Int32)) => match u with | (o1, o2, o3, o4, o5, o6, o7, o8, o9, o10, o11, o12, o13, o14, o15, o16) => ∃ r : Int32, v = some (.int r) ∧ (True) ∧ (0 ≤ (Tv_0 : Int32).toInt ∧ (Tv_0 : Int32).toInt ≤ 400 ∧ 0 ≤ (o13 : Int32).toInt ∧ (o13 : Int32).toInt ≤ 400 ∧ 0 ≤ (o14 : Int32).toInt ∧ (o14 : Int32).toInt ≤ 400) ∧ (0 ≤ (o4 : Int32).toInt ∧ (o4 : Int32).toInt ≤ 6)) (fun (u : (Int32) × (Int32) × (Int32) × (Int32) × (Nat → Int32) × (Nat → Int32) × (Nat → Int32) × (Nat → Int32) × (Nat → Int32) × (Nat → Int32) × (Nat → Int32) × (Nat → Int32) × (Int32) × (Int32) × (Int32) × (Int32)) => match u with | (o1, o2, o3, o4, o5, o6, o7, o8, o9, o10, o11, o12, o13, o14, o15, o16) => [(Wa_0, .inr (0, [.ref Aa_0])), (Aa_0, .inr (9, [.int o1, .int o2, .int o3, .int o4, .int 0, .int 0, .ref Aa_1, .ref Aa_2, .ref Aa_3, .ref Aa_4, .ref Aa_5, .ref Aa_6, .ref Aa_7, .ref Aa_8])), (Aa_1, .inl (tc 0, 10, .inl o5)), (Aa_2, .inl (tc 0, 10, .inl o6)), (Aa_3, .inl (tc 0, 6, .inl o7)), (Aa_4, .inl (tc 0, 6, .inl o8)), (Aa_5, .inl (tc 0, 6, .inl o9)), (Aa_6, .inl (tc 0, 6, .inl o10)), (Aa_7, .inl (tc 0, 6, .inl o11)), (Aa_8, .inl (tc 0, 6, .inl o12)), (Ta_0, .inr (10, [.ref Ta_1, .int Tv_0, .int o13, .int o14, .int o15, .int o16])), (Ta_1, .inl (tc 0, 400, .inl Tf_1))]) 0 0 :=
  ct_X0_read l D tc sk (fun k => ([Wa_0] : List (Nat)).getD k 0) (fun k => ([Aa_0, Aa_1, Aa_2, Aa_3, Aa_4, Aa_5, Aa_6, Aa_7, Aa_8] : List (Nat)).getD k 0) (fun k => ([Av_0, Av_1, Av_2, Av_3, Av_4, Av_5] : List (Int32)).getD k 0) (fun k => ([(fun _ => 0), Af_1, Af_2, Af_3, Af_4, Af_5, Af_6, Af_7, Af_8] : List (Nat → Int32)).getD k (fun _ => 0)) (fun k => ([Ta_0, Ta_1] : List (Nat)).getD k 0) (fun k => ([Tv_0, Tv_1, Tv_2, Tv_3, Tv_4] : List (Int32)).getD k 0) (fun k => ([(fun _ => 0), Tf_1] : List (Nat → Int32)).getD k (fun _ => 0)) h_tape h_buy
