theorem dX0_read_0 : decode cX0_read 0 = .ok (.aload_n 0, 1) := by decide +kernel
theorem dX0_read_1 : decode cX0_read 1 = .ok (.getfield 12, 3) := by decide +kernel
theorem dX0_read_4 : decode cX0_read 4 = .ok (.invokevirtual 18, 3) := by decide +kernel
theorem dX0_read_7 : decode cX0_read 7 = .ok (.aload_n 1, 1) := by decide +kernel
theorem dX0_read_8 : decode cX0_read 8 = .ok (.invokevirtual 21, 3) := by decide +kernel
theorem dX0_read_11 : decode cX0_read 11 = .ok (.iconst 0, 1) := by decide +kernel
theorem dX0_read_12 : decode cX0_read 12 = .ok (.istore_n 2, 1) := by decide +kernel
theorem dX0_read_13 : decode cX0_read 13 = .ok (.iload_n 2, 1) := by decide +kernel
theorem dX0_read_14 : decode cX0_read 14 = .ok (.bipush 40, 2) := by decide +kernel
theorem dX0_read_16 : decode cX0_read 16 = .ok (.if_icmp .gt 28, 3) := by decide +kernel
theorem dX0_read_19 : decode cX0_read 19 = .ok (.iload_n 2, 1) := by decide +kernel
theorem dX0_read_20 : decode cX0_read 20 = .ok (.ifCond .eq 12, 3) := by decide +kernel
theorem dX0_read_23 : decode cX0_read 23 = .ok (.aload_n 1, 1) := by decide +kernel
theorem dX0_read_24 : decode cX0_read 24 = .ok (.bipush 59, 2) := by decide +kernel
theorem dX0_read_26 : decode cX0_read 26 = .ok (.invokevirtual 26, 3) := by decide +kernel
theorem dX0_read_29 : decode cX0_read 29 = .ok (.ifCond .eq 15, 3) := by decide +kernel
theorem dX0_read_32 : decode cX0_read 32 = .ok (.aload_n 0, 1) := by decide +kernel
theorem dX0_read_33 : decode cX0_read 33 = .ok (.aload_n 1, 1) := by decide +kernel
theorem dX0_read_34 : decode cX0_read 34 = .ok (.iload_n 2, 1) := by decide +kernel
theorem dX0_read_35 : decode cX0_read 35 = .ok (.invokevirtual 30, 3) := by decide +kernel
theorem dX0_read_38 : decode cX0_read 38 = .ok (.iinc 2 1, 3) := by decide +kernel
theorem dX0_read_41 : decode cX0_read 41 = .ok (.goto (-28), 3) := by decide +kernel
theorem dX0_read_44 : decode cX0_read 44 = .ok (.aload_n 1, 1) := by decide +kernel
theorem dX0_read_45 : decode cX0_read 45 = .ok (.invokevirtual 34, 3) := by decide +kernel
theorem dX0_read_48 : decode cX0_read 48 = .ok (.aload_n 1, 1) := by decide +kernel
theorem dX0_read_49 : decode cX0_read 49 = .ok (.getfield 37, 3) := by decide +kernel
theorem dX0_read_52 : decode cX0_read 52 = .ok (.ireturn, 1) := by decide +kernel
theorem dX0_readBook_0 : decode cX0_readBook 0 = .ok (.aload_n 0, 1) := by decide +kernel
theorem dX0_readBook_1 : decode cX0_readBook 1 = .ok (.getfield 12, 3) := by decide +kernel
theorem dX0_readBook_4 : decode cX0_readBook 4 = .ok (.aload_n 1, 1) := by decide +kernel
theorem dX0_readBook_5 : decode cX0_readBook 5 = .ok (.iconst 0, 1) := by decide +kernel
theorem dX0_readBook_6 : decode cX0_readBook 6 = .ok (.bipush 99, 2) := by decide +kernel
theorem dX0_readBook_8 : decode cX0_readBook 8 = .ok (.invokevirtual 70, 3) := by decide +kernel
theorem dX0_readBook_11 : decode cX0_readBook 11 = .ok (.putfield 74, 3) := by decide +kernel
theorem dX0_readBook_14 : decode cX0_readBook 14 = .ok (.aload_n 0, 1) := by decide +kernel
theorem dX0_readBook_15 : decode cX0_readBook 15 = .ok (.getfield 12, 3) := by decide +kernel
theorem dX0_readBook_18 : decode cX0_readBook 18 = .ok (.aload_n 1, 1) := by decide +kernel
theorem dX0_readBook_19 : decode cX0_readBook 19 = .ok (.iconst 0, 1) := by decide +kernel
theorem dX0_readBook_20 : decode cX0_readBook 20 = .ok (.bipush 9, 2) := by decide +kernel
theorem dX0_readBook_22 : decode cX0_readBook 22 = .ok (.invokevirtual 70, 3) := by decide +kernel
theorem dX0_readBook_25 : decode cX0_readBook 25 = .ok (.putfield 77, 3) := by decide +kernel
theorem dX0_readBook_28 : decode cX0_readBook 28 = .ok (.aload_n 0, 1) := by decide +kernel
theorem dX0_readBook_29 : decode cX0_readBook 29 = .ok (.getfield 12, 3) := by decide +kernel
theorem dX0_readBook_32 : decode cX0_readBook 32 = .ok (.aload_n 1, 1) := by decide +kernel
theorem dX0_readBook_33 : decode cX0_readBook 33 = .ok (.iconst 1, 1) := by decide +kernel
theorem dX0_readBook_34 : decode cX0_readBook 34 = .ok (.bipush 10, 2) := by decide +kernel
theorem dX0_readBook_36 : decode cX0_readBook 36 = .ok (.invokevirtual 70, 3) := by decide +kernel
theorem dX0_readBook_39 : decode cX0_readBook 39 = .ok (.putfield 80, 3) := by decide +kernel
theorem dX0_readBook_42 : decode cX0_readBook 42 = .ok (.return_, 1) := by decide +kernel
theorem dX0_readBuyer_0 : decode cX0_readBuyer 0 = .ok (.aload_n 0, 1) := by decide +kernel
theorem dX0_readBuyer_1 : decode cX0_readBuyer 1 = .ok (.getfield 12, 3) := by decide +kernel
theorem dX0_readBuyer_4 : decode cX0_readBuyer 4 = .ok (.getfield 51, 3) := by decide +kernel
theorem dX0_readBuyer_7 : decode cX0_readBuyer 7 = .ok (.istore_n 2, 1) := by decide +kernel
theorem dX0_readBuyer_8 : decode cX0_readBuyer 8 = .ok (.iload_n 2, 1) := by decide +kernel
theorem dX0_readBuyer_9 : decode cX0_readBuyer 9 = .ok (.ifCond .lt 9, 3) := by decide +kernel
theorem dX0_readBuyer_12 : decode cX0_readBuyer 12 = .ok (.iload_n 2, 1) := by decide +kernel
theorem dX0_readBuyer_13 : decode cX0_readBuyer 13 = .ok (.bipush 6, 2) := by decide +kernel
theorem dX0_readBuyer_15 : decode cX0_readBuyer 15 = .ok (.if_icmp .lt 4, 3) := by decide +kernel
theorem dX0_readBuyer_19 : decode cX0_readBuyer 19 = .ok (.aload_n 0, 1) := by decide +kernel
theorem dX0_readBuyer_20 : decode cX0_readBuyer 20 = .ok (.getfield 12, 3) := by decide +kernel
theorem dX0_readBuyer_23 : decode cX0_readBuyer 23 = .ok (.getfield 91, 3) := by decide +kernel
theorem dX0_readBuyer_26 : decode cX0_readBuyer 26 = .ok (.iload_n 2, 1) := by decide +kernel
theorem dX0_readBuyer_27 : decode cX0_readBuyer 27 = .ok (.aload_n 1, 1) := by decide +kernel
theorem dX0_readBuyer_28 : decode cX0_readBuyer 28 = .ok (.iconst 0, 1) := by decide +kernel
theorem dX0_readBuyer_29 : decode cX0_readBuyer 29 = .ok (.bipush 20, 2) := by decide +kernel
theorem dX0_readBuyer_31 : decode cX0_readBuyer 31 = .ok (.invokevirtual 70, 3) := by decide +kernel
theorem dX0_readBuyer_34 : decode cX0_readBuyer 34 = .ok (.iastore, 1) := by decide +kernel
theorem dX0_readBuyer_35 : decode cX0_readBuyer 35 = .ok (.aload_n 0, 1) := by decide +kernel
theorem dX0_readBuyer_36 : decode cX0_readBuyer 36 = .ok (.getfield 12, 3) := by decide +kernel
theorem dX0_readBuyer_39 : decode cX0_readBuyer 39 = .ok (.getfield 94, 3) := by decide +kernel
theorem dX0_readBuyer_42 : decode cX0_readBuyer 42 = .ok (.iload_n 2, 1) := by decide +kernel
theorem dX0_readBuyer_43 : decode cX0_readBuyer 43 = .ok (.aload_n 1, 1) := by decide +kernel
theorem dX0_readBuyer_44 : decode cX0_readBuyer 44 = .ok (.iconst 1, 1) := by decide +kernel
theorem dX0_readBuyer_45 : decode cX0_readBuyer 45 = .ok (.bipush 9, 2) := by decide +kernel
theorem dX0_readBuyer_47 : decode cX0_readBuyer 47 = .ok (.invokevirtual 70, 3) := by decide +kernel
theorem dX0_readBuyer_50 : decode cX0_readBuyer 50 = .ok (.iastore, 1) := by decide +kernel
theorem dX0_readBuyer_51 : decode cX0_readBuyer 51 = .ok (.aload_n 0, 1) := by decide +kernel
theorem dX0_readBuyer_52 : decode cX0_readBuyer 52 = .ok (.getfield 12, 3) := by decide +kernel
theorem dX0_readBuyer_55 : decode cX0_readBuyer 55 = .ok (.getfield 97, 3) := by decide +kernel
theorem dX0_readBuyer_58 : decode cX0_readBuyer 58 = .ok (.iload_n 2, 1) := by decide +kernel
theorem dX0_readBuyer_59 : decode cX0_readBuyer 59 = .ok (.aload_n 1, 1) := by decide +kernel
theorem dX0_readBuyer_60 : decode cX0_readBuyer 60 = .ok (.iconst 0, 1) := by decide +kernel
theorem dX0_readBuyer_61 : decode cX0_readBuyer 61 = .ok (.bipush 9, 2) := by decide +kernel
theorem dX0_readBuyer_63 : decode cX0_readBuyer 63 = .ok (.invokevirtual 70, 3) := by decide +kernel
theorem dX0_readBuyer_66 : decode cX0_readBuyer 66 = .ok (.iastore, 1) := by decide +kernel
theorem dX0_readBuyer_67 : decode cX0_readBuyer 67 = .ok (.aload_n 0, 1) := by decide +kernel
theorem dX0_readBuyer_68 : decode cX0_readBuyer 68 = .ok (.getfield 12, 3) := by decide +kernel
theorem dX0_readBuyer_71 : decode cX0_readBuyer 71 = .ok (.dup, 1) := by decide +kernel
theorem dX0_readBuyer_72 : decode cX0_readBuyer 72 = .ok (.getfield 51, 3) := by decide +kernel
theorem dX0_readBuyer_75 : decode cX0_readBuyer 75 = .ok (.iconst 1, 1) := by decide +kernel
theorem dX0_readBuyer_76 : decode cX0_readBuyer 76 = .ok (.iadd, 1) := by decide +kernel
theorem dX0_readBuyer_77 : decode cX0_readBuyer 77 = .ok (.putfield 51, 3) := by decide +kernel
theorem dX0_readBuyer_80 : decode cX0_readBuyer 80 = .ok (.return_, 1) := by decide +kernel
theorem dX0_readClause_0 : decode cX0_readClause 0 = .ok (.aload_n 1, 1) := by decide +kernel
theorem dX0_readClause_1 : decode cX0_readClause 1 = .ok (.ldc 41, 2) := by decide +kernel
theorem dX0_readClause_3 : decode cX0_readClause 3 = .ok (.invokevirtual 43, 3) := by decide +kernel
theorem dX0_readClause_6 : decode cX0_readClause 6 = .ok (.istore_n 3, 1) := by decide +kernel
theorem dX0_readClause_7 : decode cX0_readClause 7 = .ok (.iload_n 3, 1) := by decide +kernel
theorem dX0_readClause_8 : decode cX0_readClause 8 = .ok (.iconst (-1), 1) := by decide +kernel
theorem dX0_readClause_9 : decode cX0_readClause 9 = .ok (.if_icmp .ne 11, 3) := by decide +kernel
theorem dX0_readClause_12 : decode cX0_readClause 12 = .ok (.aload_n 1, 1) := by decide +kernel
theorem dX0_readClause_13 : decode cX0_readClause 13 = .ok (.iconst 0, 1) := by decide +kernel
theorem dX0_readClause_14 : decode cX0_readClause 14 = .ok (.invokevirtual 47, 3) := by decide +kernel
theorem dX0_readClause_17 : decode cX0_readClause 17 = .ok (.goto 102, 3) := by decide +kernel
theorem dX0_readClause_20 : decode cX0_readClause 20 = .ok (.iload_n 2, 1) := by decide +kernel
theorem dX0_readClause_21 : decode cX0_readClause 21 = .ok (.bipush 40, 2) := by decide +kernel
theorem dX0_readClause_23 : decode cX0_readClause 23 = .ok (.if_icmp .ge 41, 3) := by decide +kernel
theorem dX0_readClause_26 : decode cX0_readClause 26 = .ok (.iload_n 3, 1) := by decide +kernel
theorem dX0_readClause_27 : decode cX0_readClause 27 = .ok (.ifCond .ne 7, 3) := by decide +kernel
theorem dX0_readClause_30 : decode cX0_readClause 30 = .ok (.iconst 1, 1) := by decide +kernel
theorem dX0_readClause_31 : decode cX0_readClause 31 = .ok (.goto 4, 3) := by decide +kernel
theorem dX0_readClause_34 : decode cX0_readClause 34 = .ok (.iconst 0, 1) := by decide +kernel
theorem dX0_readClause_35 : decode cX0_readClause 35 = .ok (.iload_n 2, 1) := by decide +kernel
theorem dX0_readClause_36 : decode cX0_readClause 36 = .ok (.ifCond .ne 7, 3) := by decide +kernel
theorem dX0_readClause_39 : decode cX0_readClause 39 = .ok (.iconst 1, 1) := by decide +kernel
theorem dX0_readClause_40 : decode cX0_readClause 40 = .ok (.goto 4, 3) := by decide +kernel
theorem dX0_readClause_43 : decode cX0_readClause 43 = .ok (.iconst 0, 1) := by decide +kernel
theorem dX0_readClause_44 : decode cX0_readClause 44 = .ok (.if_icmp .ne 20, 3) := by decide +kernel
theorem dX0_readClause_47 : decode cX0_readClause 47 = .ok (.iload_n 3, 1) := by decide +kernel
theorem dX0_readClause_48 : decode cX0_readClause 48 = .ok (.iconst 2, 1) := by decide +kernel
theorem dX0_readClause_49 : decode cX0_readClause 49 = .ok (.if_icmp .ne 23, 3) := by decide +kernel
theorem dX0_readClause_52 : decode cX0_readClause 52 = .ok (.aload_n 0, 1) := by decide +kernel
theorem dX0_readClause_53 : decode cX0_readClause 53 = .ok (.getfield 12, 3) := by decide +kernel
theorem dX0_readClause_56 : decode cX0_readClause 56 = .ok (.getfield 51, 3) := by decide +kernel
theorem dX0_readClause_59 : decode cX0_readClause 59 = .ok (.bipush 6, 2) := by decide +kernel
theorem dX0_readClause_61 : decode cX0_readClause 61 = .ok (.if_icmp .lt 11, 3) := by decide +kernel
theorem dX0_readClause_64 : decode cX0_readClause 64 = .ok (.aload_n 1, 1) := by decide +kernel
theorem dX0_readClause_65 : decode cX0_readClause 65 = .ok (.iconst 4, 1) := by decide +kernel
theorem dX0_readClause_66 : decode cX0_readClause 66 = .ok (.invokevirtual 47, 3) := by decide +kernel
theorem dX0_readClause_69 : decode cX0_readClause 69 = .ok (.goto 50, 3) := by decide +kernel
theorem dX0_readClause_72 : decode cX0_readClause 72 = .ok (.aload_n 1, 1) := by decide +kernel
theorem dX0_readClause_73 : decode cX0_readClause 73 = .ok (.invokevirtual 54, 3) := by decide +kernel
theorem dX0_readClause_76 : decode cX0_readClause 76 = .ok (.iload_n 3, 1) := by decide +kernel
theorem dX0_readClause_77 : decode cX0_readClause 77 = .ok (.ifCond .ne 11, 3) := by decide +kernel
theorem dX0_readClause_80 : decode cX0_readClause 80 = .ok (.aload_n 0, 1) := by decide +kernel
theorem dX0_readClause_81 : decode cX0_readClause 81 = .ok (.aload_n 1, 1) := by decide +kernel
theorem dX0_readClause_82 : decode cX0_readClause 82 = .ok (.invokevirtual 57, 3) := by decide +kernel
theorem dX0_readClause_85 : decode cX0_readClause 85 = .ok (.goto 34, 3) := by decide +kernel
theorem dX0_readClause_88 : decode cX0_readClause 88 = .ok (.iload_n 3, 1) := by decide +kernel
theorem dX0_readClause_89 : decode cX0_readClause 89 = .ok (.iconst 1, 1) := by decide +kernel
theorem dX0_readClause_90 : decode cX0_readClause 90 = .ok (.if_icmp .ne 11, 3) := by decide +kernel
theorem dX0_readClause_93 : decode cX0_readClause 93 = .ok (.aload_n 0, 1) := by decide +kernel
theorem dX0_readClause_94 : decode cX0_readClause 94 = .ok (.aload_n 1, 1) := by decide +kernel
theorem dX0_readClause_95 : decode cX0_readClause 95 = .ok (.invokevirtual 61, 3) := by decide +kernel
theorem dX0_readClause_98 : decode cX0_readClause 98 = .ok (.goto 21, 3) := by decide +kernel
theorem dX0_readClause_101 : decode cX0_readClause 101 = .ok (.iload_n 3, 1) := by decide +kernel
theorem dX0_readClause_102 : decode cX0_readClause 102 = .ok (.iconst 2, 1) := by decide +kernel
theorem dX0_readClause_103 : decode cX0_readClause 103 = .ok (.if_icmp .ne 11, 3) := by decide +kernel
theorem dX0_readClause_106 : decode cX0_readClause 106 = .ok (.aload_n 0, 1) := by decide +kernel
theorem dX0_readClause_107 : decode cX0_readClause 107 = .ok (.aload_n 1, 1) := by decide +kernel
theorem dX0_readClause_108 : decode cX0_readClause 108 = .ok (.invokevirtual 64, 3) := by decide +kernel
theorem dX0_readClause_111 : decode cX0_readClause 111 = .ok (.goto 8, 3) := by decide +kernel
theorem dX0_readClause_114 : decode cX0_readClause 114 = .ok (.aload_n 0, 1) := by decide +kernel
theorem dX0_readClause_115 : decode cX0_readClause 115 = .ok (.aload_n 1, 1) := by decide +kernel
theorem dX0_readClause_116 : decode cX0_readClause 116 = .ok (.invokevirtual 67, 3) := by decide +kernel
theorem dX0_readClause_119 : decode cX0_readClause 119 = .ok (.return_, 1) := by decide +kernel
theorem dX0_readSky_0 : decode cX0_readSky 0 = .ok (.aload_n 1, 1) := by decide +kernel
theorem dX0_readSky_1 : decode cX0_readSky 1 = .ok (.iconst 0, 1) := by decide +kernel
theorem dX0_readSky_2 : decode cX0_readSky 2 = .ok (.aload_n 0, 1) := by decide +kernel
theorem dX0_readSky_3 : decode cX0_readSky 3 = .ok (.getfield 12, 3) := by decide +kernel
theorem dX0_readSky_6 : decode cX0_readSky 6 = .ok (.getfield 80, 3) := by decide +kernel
theorem dX0_readSky_9 : decode cX0_readSky 9 = .ok (.iconst 1, 1) := by decide +kernel
theorem dX0_readSky_10 : decode cX0_readSky 10 = .ok (.isub, 1) := by decide +kernel
theorem dX0_readSky_11 : decode cX0_readSky 11 = .ok (.invokevirtual 70, 3) := by decide +kernel
theorem dX0_readSky_14 : decode cX0_readSky 14 = .ok (.istore_n 2, 1) := by decide +kernel
theorem dX0_readSky_15 : decode cX0_readSky 15 = .ok (.aload_n 1, 1) := by decide +kernel
theorem dX0_readSky_16 : decode cX0_readSky 16 = .ok (.iconst 0, 1) := by decide +kernel
theorem dX0_readSky_17 : decode cX0_readSky 17 = .ok (.bipush 9, 2) := by decide +kernel
theorem dX0_readSky_19 : decode cX0_readSky 19 = .ok (.invokevirtual 70, 3) := by decide +kernel
theorem dX0_readSky_22 : decode cX0_readSky 22 = .ok (.istore_n 3, 1) := by decide +kernel
theorem dX0_readSky_23 : decode cX0_readSky 23 = .ok (.aload_n 0, 1) := by decide +kernel
theorem dX0_readSky_24 : decode cX0_readSky 24 = .ok (.getfield 12, 3) := by decide +kernel
theorem dX0_readSky_27 : decode cX0_readSky 27 = .ok (.iload_n 2, 1) := by decide +kernel
theorem dX0_readSky_28 : decode cX0_readSky 28 = .ok (.invokevirtual 83, 3) := by decide +kernel
theorem dX0_readSky_31 : decode cX0_readSky 31 = .ok (.ifCond .eq 13, 3) := by decide +kernel
theorem dX0_readSky_34 : decode cX0_readSky 34 = .ok (.aload_n 0, 1) := by decide +kernel
theorem dX0_readSky_35 : decode cX0_readSky 35 = .ok (.getfield 12, 3) := by decide +kernel
theorem dX0_readSky_38 : decode cX0_readSky 38 = .ok (.getfield 87, 3) := by decide +kernel
theorem dX0_readSky_41 : decode cX0_readSky 41 = .ok (.iload_n 2, 1) := by decide +kernel
theorem dX0_readSky_42 : decode cX0_readSky 42 = .ok (.iload_n 3, 1) := by decide +kernel
theorem dX0_readSky_43 : decode cX0_readSky 43 = .ok (.iastore, 1) := by decide +kernel
theorem dX0_readSky_44 : decode cX0_readSky 44 = .ok (.return_, 1) := by decide +kernel
theorem dX0_readWatch_0 : decode cX0_readWatch 0 = .ok (.aload_n 1, 1) := by decide +kernel
theorem dX0_readWatch_1 : decode cX0_readWatch 1 = .ok (.iconst 0, 1) := by decide +kernel
theorem dX0_readWatch_2 : decode cX0_readWatch 2 = .ok (.aload_n 0, 1) := by decide +kernel
theorem dX0_readWatch_3 : decode cX0_readWatch 3 = .ok (.getfield 12, 3) := by decide +kernel
theorem dX0_readWatch_6 : decode cX0_readWatch 6 = .ok (.getfield 80, 3) := by decide +kernel
theorem dX0_readWatch_9 : decode cX0_readWatch 9 = .ok (.iconst 1, 1) := by decide +kernel
theorem dX0_readWatch_10 : decode cX0_readWatch 10 = .ok (.isub, 1) := by decide +kernel
theorem dX0_readWatch_11 : decode cX0_readWatch 11 = .ok (.invokevirtual 70, 3) := by decide +kernel
theorem dX0_readWatch_14 : decode cX0_readWatch 14 = .ok (.istore_n 2, 1) := by decide +kernel
theorem dX0_readWatch_15 : decode cX0_readWatch 15 = .ok (.aload_n 1, 1) := by decide +kernel
theorem dX0_readWatch_16 : decode cX0_readWatch 16 = .ok (.iconst 0, 1) := by decide +kernel
theorem dX0_readWatch_17 : decode cX0_readWatch 17 = .ok (.aload_n 0, 1) := by decide +kernel
theorem dX0_readWatch_18 : decode cX0_readWatch 18 = .ok (.getfield 12, 3) := by decide +kernel
theorem dX0_readWatch_21 : decode cX0_readWatch 21 = .ok (.getfield 51, 3) := by decide +kernel
theorem dX0_readWatch_24 : decode cX0_readWatch 24 = .ok (.iconst 1, 1) := by decide +kernel
theorem dX0_readWatch_25 : decode cX0_readWatch 25 = .ok (.isub, 1) := by decide +kernel
theorem dX0_readWatch_26 : decode cX0_readWatch 26 = .ok (.invokevirtual 70, 3) := by decide +kernel
theorem dX0_readWatch_29 : decode cX0_readWatch 29 = .ok (.istore_n 3, 1) := by decide +kernel
theorem dX0_readWatch_30 : decode cX0_readWatch 30 = .ok (.aload_n 0, 1) := by decide +kernel
theorem dX0_readWatch_31 : decode cX0_readWatch 31 = .ok (.getfield 12, 3) := by decide +kernel
theorem dX0_readWatch_34 : decode cX0_readWatch 34 = .ok (.iload_n 2, 1) := by decide +kernel
theorem dX0_readWatch_35 : decode cX0_readWatch 35 = .ok (.invokevirtual 83, 3) := by decide +kernel
theorem dX0_readWatch_38 : decode cX0_readWatch 38 = .ok (.ifCond .eq 29, 3) := by decide +kernel
theorem dX0_readWatch_41 : decode cX0_readWatch 41 = .ok (.aload_n 0, 1) := by decide +kernel
theorem dX0_readWatch_42 : decode cX0_readWatch 42 = .ok (.getfield 12, 3) := by decide +kernel
theorem dX0_readWatch_45 : decode cX0_readWatch 45 = .ok (.iload_n 3, 1) := by decide +kernel
theorem dX0_readWatch_46 : decode cX0_readWatch 46 = .ok (.invokevirtual 100, 3) := by decide +kernel
theorem dX0_readWatch_49 : decode cX0_readWatch 49 = .ok (.ifCond .eq 18, 3) := by decide +kernel
theorem dX0_readWatch_52 : decode cX0_readWatch 52 = .ok (.aload_n 0, 1) := by decide +kernel
theorem dX0_readWatch_53 : decode cX0_readWatch 53 = .ok (.getfield 12, 3) := by decide +kernel
theorem dX0_readWatch_56 : decode cX0_readWatch 56 = .ok (.getfield 103, 3) := by decide +kernel
theorem dX0_readWatch_59 : decode cX0_readWatch 59 = .ok (.iload_n 2, 1) := by decide +kernel
theorem dX0_readWatch_60 : decode cX0_readWatch 60 = .ok (.dup2, 1) := by decide +kernel
theorem dX0_readWatch_61 : decode cX0_readWatch 61 = .ok (.iaload, 1) := by decide +kernel
theorem dX0_readWatch_62 : decode cX0_readWatch 62 = .ok (.iconst 1, 1) := by decide +kernel
theorem dX0_readWatch_63 : decode cX0_readWatch 63 = .ok (.iload_n 3, 1) := by decide +kernel
theorem dX0_readWatch_64 : decode cX0_readWatch 64 = .ok (.ishl, 1) := by decide +kernel
theorem dX0_readWatch_65 : decode cX0_readWatch 65 = .ok (.ior, 1) := by decide +kernel
theorem dX0_readWatch_66 : decode cX0_readWatch 66 = .ok (.iastore, 1) := by decide +kernel
theorem dX0_readWatch_67 : decode cX0_readWatch 67 = .ok (.return_, 1) := by decide +kernel
