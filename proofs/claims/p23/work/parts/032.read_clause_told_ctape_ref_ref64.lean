set_option maxRecDepth 16384
theorem dX12_closes_0 : decode cX12_closes 0 = .ok (.aload_n 0, 1) := by decide +kernel
theorem dX12_closes_1 : decode cX12_closes 1 = .ok (.iconst 3, 1) := by decide +kernel
theorem dX12_closes_2 : decode cX12_closes 2 = .ok (.invokevirtual 193, 3) := by decide +kernel
theorem dX12_closes_5 : decode cX12_closes 5 = .ok (.aload_n 0, 1) := by decide +kernel
theorem dX12_closes_6 : decode cX12_closes 6 = .ok (.invokevirtual 90, 3) := by decide +kernel
theorem dX12_closes_9 : decode cX12_closes 9 = .ok (.bipush 93, 2) := by decide +kernel
theorem dX12_closes_11 : decode cX12_closes 11 = .ok (.if_icmp .ne 53, 3) := by decide +kernel
theorem dX12_closes_14 : decode cX12_closes 14 = .ok (.aload_n 0, 1) := by decide +kernel
theorem dX12_closes_15 : decode cX12_closes 15 = .ok (.invokevirtual 196, 3) := by decide +kernel
theorem dX12_closes_18 : decode cX12_closes 18 = .ok (.ifCond .eq 46, 3) := by decide +kernel
theorem dX12_closes_21 : decode cX12_closes 21 = .ok (.aload_n 0, 1) := by decide +kernel
theorem dX12_closes_22 : decode cX12_closes 22 = .ok (.iconst 1, 1) := by decide +kernel
theorem dX12_closes_23 : decode cX12_closes 23 = .ok (.invokevirtual 193, 3) := by decide +kernel
theorem dX12_closes_26 : decode cX12_closes 26 = .ok (.aload_n 0, 1) := by decide +kernel
theorem dX12_closes_27 : decode cX12_closes 27 = .ok (.dup, 1) := by decide +kernel
theorem dX12_closes_28 : decode cX12_closes 28 = .ok (.getfield 154, 3) := by decide +kernel
theorem dX12_closes_31 : decode cX12_closes 31 = .ok (.iconst 1, 1) := by decide +kernel
theorem dX12_closes_32 : decode cX12_closes 32 = .ok (.isub, 1) := by decide +kernel
theorem dX12_closes_33 : decode cX12_closes 33 = .ok (.putfield 154, 3) := by decide +kernel
theorem dX12_closes_36 : decode cX12_closes 36 = .ok (.aload_n 0, 1) := by decide +kernel
theorem dX12_closes_37 : decode cX12_closes 37 = .ok (.dup, 1) := by decide +kernel
theorem dX12_closes_38 : decode cX12_closes 38 = .ok (.getfield 151, 3) := by decide +kernel
theorem dX12_closes_41 : decode cX12_closes 41 = .ok (.iconst 1, 1) := by decide +kernel
theorem dX12_closes_42 : decode cX12_closes 42 = .ok (.isub, 1) := by decide +kernel
theorem dX12_closes_43 : decode cX12_closes 43 = .ok (.putfield 151, 3) := by decide +kernel
theorem dX12_closes_46 : decode cX12_closes 46 = .ok (.aload_n 0, 1) := by decide +kernel
theorem dX12_closes_47 : decode cX12_closes 47 = .ok (.dup, 1) := by decide +kernel
theorem dX12_closes_48 : decode cX12_closes 48 = .ok (.getfield 87, 3) := by decide +kernel
theorem dX12_closes_51 : decode cX12_closes 51 = .ok (.iconst 1, 1) := by decide +kernel
theorem dX12_closes_52 : decode cX12_closes 52 = .ok (.iadd, 1) := by decide +kernel
theorem dX12_closes_53 : decode cX12_closes 53 = .ok (.putfield 87, 3) := by decide +kernel
theorem dX12_closes_56 : decode cX12_closes 56 = .ok (.aload_n 0, 1) := by decide +kernel
theorem dX12_closes_57 : decode cX12_closes 57 = .ok (.iconst 3, 1) := by decide +kernel
theorem dX12_closes_58 : decode cX12_closes 58 = .ok (.invokevirtual 193, 3) := by decide +kernel
theorem dX12_closes_61 : decode cX12_closes 61 = .ok (.goto (-56), 3) := by decide +kernel
theorem dX12_closes_64 : decode cX12_closes 64 = .ok (.return_, 1) := by decide +kernel
theorem dX12_fact_0 : decode cX12_fact 0 = .ok (.iconst 1, 1) := by decide +kernel
theorem dX12_fact_1 : decode cX12_fact 1 = .ok (.istore_n 1, 1) := by decide +kernel
theorem dX12_fact_2 : decode cX12_fact 2 = .ok (.iload_n 1, 1) := by decide +kernel
theorem dX12_fact_3 : decode cX12_fact 3 = .ok (.ifCond .eq 72, 3) := by decide +kernel
theorem dX12_fact_6 : decode cX12_fact 6 = .ok (.iconst 0, 1) := by decide +kernel
theorem dX12_fact_7 : decode cX12_fact 7 = .ok (.istore_n 1, 1) := by decide +kernel
theorem dX12_fact_8 : decode cX12_fact 8 = .ok (.aload_n 0, 1) := by decide +kernel
theorem dX12_fact_9 : decode cX12_fact 9 = .ok (.invokevirtual 90, 3) := by decide +kernel
theorem dX12_fact_12 : decode cX12_fact 12 = .ok (.istore_n 2, 1) := by decide +kernel
theorem dX12_fact_13 : decode cX12_fact 13 = .ok (.aload_n 0, 1) := by decide +kernel
theorem dX12_fact_14 : decode cX12_fact 14 = .ok (.ldc2_w 185, 3) := by decide +kernel
theorem dX12_fact_17 : decode cX12_fact 17 = .ok (.invokevirtual 98, 3) := by decide +kernel
theorem dX12_fact_20 : decode cX12_fact 20 = .ok (.ifCond .eq 23, 3) := by decide +kernel
theorem dX12_fact_23 : decode cX12_fact 23 = .ok (.aload_n 0, 1) := by decide +kernel
theorem dX12_fact_24 : decode cX12_fact 24 = .ok (.bipush 11, 2) := by decide +kernel
theorem dX12_fact_26 : decode cX12_fact 26 = .ok (.invokevirtual 187, 3) := by decide +kernel
theorem dX12_fact_29 : decode cX12_fact 29 = .ok (.ifCond .ne 5, 3) := by decide +kernel
theorem dX12_fact_32 : decode cX12_fact 32 = .ok (.iconst 0, 1) := by decide +kernel
theorem dX12_fact_33 : decode cX12_fact 33 = .ok (.ireturn, 1) := by decide +kernel
theorem dX12_fact_34 : decode cX12_fact 34 = .ok (.aload_n 0, 1) := by decide +kernel
theorem dX12_fact_35 : decode cX12_fact 35 = .ok (.invokevirtual 102, 3) := by decide +kernel
theorem dX12_fact_38 : decode cX12_fact 38 = .ok (.iconst 1, 1) := by decide +kernel
theorem dX12_fact_39 : decode cX12_fact 39 = .ok (.istore_n 1, 1) := by decide +kernel
theorem dX12_fact_40 : decode cX12_fact 40 = .ok (.goto 32, 3) := by decide +kernel
theorem dX12_fact_43 : decode cX12_fact 43 = .ok (.iload_n 2, 1) := by decide +kernel
theorem dX12_fact_44 : decode cX12_fact 44 = .ok (.bipush 91, 2) := by decide +kernel
theorem dX12_fact_46 : decode cX12_fact 46 = .ok (.if_icmp .ne 26, 3) := by decide +kernel
theorem dX12_fact_49 : decode cX12_fact 49 = .ok (.aload_n 0, 1) := by decide +kernel
theorem dX12_fact_50 : decode cX12_fact 50 = .ok (.bipush 91, 2) := by decide +kernel
theorem dX12_fact_52 : decode cX12_fact 52 = .ok (.invokevirtual 187, 3) := by decide +kernel
theorem dX12_fact_55 : decode cX12_fact 55 = .ok (.ifCond .ne 5, 3) := by decide +kernel
theorem dX12_fact_58 : decode cX12_fact 58 = .ok (.iconst 0, 1) := by decide +kernel
theorem dX12_fact_59 : decode cX12_fact 59 = .ok (.ireturn, 1) := by decide +kernel
theorem dX12_fact_60 : decode cX12_fact 60 = .ok (.aload_n 0, 1) := by decide +kernel
theorem dX12_fact_61 : decode cX12_fact 61 = .ok (.dup, 1) := by decide +kernel
theorem dX12_fact_62 : decode cX12_fact 62 = .ok (.getfield 87, 3) := by decide +kernel
theorem dX12_fact_65 : decode cX12_fact 65 = .ok (.iconst 1, 1) := by decide +kernel
theorem dX12_fact_66 : decode cX12_fact 66 = .ok (.iadd, 1) := by decide +kernel
theorem dX12_fact_67 : decode cX12_fact 67 = .ok (.putfield 87, 3) := by decide +kernel
theorem dX12_fact_70 : decode cX12_fact 70 = .ok (.iconst 1, 1) := by decide +kernel
theorem dX12_fact_71 : decode cX12_fact 71 = .ok (.istore_n 1, 1) := by decide +kernel
theorem dX12_fact_72 : decode cX12_fact 72 = .ok (.goto (-70), 3) := by decide +kernel
theorem dX12_fact_75 : decode cX12_fact 75 = .ok (.aload_n 0, 1) := by decide +kernel
theorem dX12_fact_76 : decode cX12_fact 76 = .ok (.invokevirtual 190, 3) := by decide +kernel
theorem dX12_fact_79 : decode cX12_fact 79 = .ok (.ireturn, 1) := by decide +kernel
theorem dX12_isInside_0 : decode cX12_isInside 0 = .ok (.iconst 0, 1) := by decide +kernel
theorem dX12_isInside_1 : decode cX12_isInside 1 = .ok (.istore_n 1, 1) := by decide +kernel
theorem dX12_isInside_2 : decode cX12_isInside 2 = .ok (.iload_n 1, 1) := by decide +kernel
theorem dX12_isInside_3 : decode cX12_isInside 3 = .ok (.aload_n 0, 1) := by decide +kernel
theorem dX12_isInside_4 : decode cX12_isInside 4 = .ok (.getfield 154, 3) := by decide +kernel
theorem dX12_isInside_7 : decode cX12_isInside 7 = .ok (.if_icmp .ge 22, 3) := by decide +kernel
theorem dX12_isInside_10 : decode cX12_isInside 10 = .ok (.aload_n 0, 1) := by decide +kernel
theorem dX12_isInside_11 : decode cX12_isInside 11 = .ok (.getfield 29, 3) := by decide +kernel
theorem dX12_isInside_14 : decode cX12_isInside 14 = .ok (.iload_n 1, 1) := by decide +kernel
theorem dX12_isInside_15 : decode cX12_isInside 15 = .ok (.iaload, 1) := by decide +kernel
theorem dX12_isInside_16 : decode cX12_isInside 16 = .ok (.bipush 91, 2) := by decide +kernel
theorem dX12_isInside_18 : decode cX12_isInside 18 = .ok (.if_icmp .ne 5, 3) := by decide +kernel
theorem dX12_isInside_21 : decode cX12_isInside 21 = .ok (.iconst 1, 1) := by decide +kernel
theorem dX12_isInside_22 : decode cX12_isInside 22 = .ok (.ireturn, 1) := by decide +kernel
theorem dX12_isInside_23 : decode cX12_isInside 23 = .ok (.iinc 1 1, 3) := by decide +kernel
theorem dX12_isInside_26 : decode cX12_isInside 26 = .ok (.goto (-24), 3) := by decide +kernel
theorem dX12_isInside_29 : decode cX12_isInside 29 = .ok (.iconst 0, 1) := by decide +kernel
theorem dX12_isInside_30 : decode cX12_isInside 30 = .ok (.ireturn, 1) := by decide +kernel
theorem dX12_layDown_0 : decode cX12_layDown 0 = .ok (.aload_n 0, 1) := by decide +kernel
theorem dX12_layDown_1 : decode cX12_layDown 1 = .ok (.getfield 154, 3) := by decide +kernel
theorem dX12_layDown_4 : decode cX12_layDown 4 = .ok (.ifCond .le 72, 3) := by decide +kernel
theorem dX12_layDown_7 : decode cX12_layDown 7 = .ok (.aload_n 0, 1) := by decide +kernel
theorem dX12_layDown_8 : decode cX12_layDown 8 = .ok (.getfield 29, 3) := by decide +kernel
theorem dX12_layDown_11 : decode cX12_layDown 11 = .ok (.aload_n 0, 1) := by decide +kernel
theorem dX12_layDown_12 : decode cX12_layDown 12 = .ok (.getfield 154, 3) := by decide +kernel
theorem dX12_layDown_15 : decode cX12_layDown 15 = .ok (.iconst 1, 1) := by decide +kernel
theorem dX12_layDown_16 : decode cX12_layDown 16 = .ok (.isub, 1) := by decide +kernel
theorem dX12_layDown_17 : decode cX12_layDown 17 = .ok (.iaload, 1) := by decide +kernel
theorem dX12_layDown_18 : decode cX12_layDown 18 = .ok (.invokestatic 157, 3) := by decide +kernel
theorem dX12_layDown_21 : decode cX12_layDown 21 = .ok (.iload_n 1, 1) := by decide +kernel
theorem dX12_layDown_22 : decode cX12_layDown 22 = .ok (.if_icmp .lt 54, 3) := by decide +kernel
theorem dX12_layDown_25 : decode cX12_layDown 25 = .ok (.aload_n 0, 1) := by decide +kernel
theorem dX12_layDown_26 : decode cX12_layDown 26 = .ok (.dup, 1) := by decide +kernel
theorem dX12_layDown_27 : decode cX12_layDown 27 = .ok (.getfield 154, 3) := by decide +kernel
theorem dX12_layDown_30 : decode cX12_layDown 30 = .ok (.iconst 1, 1) := by decide +kernel
theorem dX12_layDown_31 : decode cX12_layDown 31 = .ok (.isub, 1) := by decide +kernel
theorem dX12_layDown_32 : decode cX12_layDown 32 = .ok (.putfield 154, 3) := by decide +kernel
theorem dX12_layDown_35 : decode cX12_layDown 35 = .ok (.aload_n 0, 1) := by decide +kernel
theorem dX12_layDown_36 : decode cX12_layDown 36 = .ok (.aload_n 0, 1) := by decide +kernel
theorem dX12_layDown_37 : decode cX12_layDown 37 = .ok (.getfield 29, 3) := by decide +kernel
theorem dX12_layDown_40 : decode cX12_layDown 40 = .ok (.aload_n 0, 1) := by decide +kernel
theorem dX12_layDown_41 : decode cX12_layDown 41 = .ok (.getfield 154, 3) := by decide +kernel
theorem dX12_layDown_44 : decode cX12_layDown 44 = .ok (.iaload, 1) := by decide +kernel
theorem dX12_layDown_45 : decode cX12_layDown 45 = .ok (.iconst 0, 1) := by decide +kernel
theorem dX12_layDown_46 : decode cX12_layDown 46 = .ok (.invokevirtual 161, 3) := by decide +kernel
theorem dX12_layDown_49 : decode cX12_layDown 49 = .ok (.aload_n 0, 1) := by decide +kernel
theorem dX12_layDown_50 : decode cX12_layDown 50 = .ok (.getfield 29, 3) := by decide +kernel
theorem dX12_layDown_53 : decode cX12_layDown 53 = .ok (.aload_n 0, 1) := by decide +kernel
theorem dX12_layDown_54 : decode cX12_layDown 54 = .ok (.getfield 154, 3) := by decide +kernel
theorem dX12_layDown_57 : decode cX12_layDown 57 = .ok (.iaload, 1) := by decide +kernel
theorem dX12_layDown_58 : decode cX12_layDown 58 = .ok (.bipush 11, 2) := by decide +kernel
theorem dX12_layDown_60 : decode cX12_layDown 60 = .ok (.if_icmp .ne (-60), 3) := by decide +kernel
theorem dX12_layDown_63 : decode cX12_layDown 63 = .ok (.aload_n 0, 1) := by decide +kernel
theorem dX12_layDown_64 : decode cX12_layDown 64 = .ok (.dup, 1) := by decide +kernel
theorem dX12_layDown_65 : decode cX12_layDown 65 = .ok (.getfield 151, 3) := by decide +kernel
theorem dX12_layDown_68 : decode cX12_layDown 68 = .ok (.iconst 1, 1) := by decide +kernel
theorem dX12_layDown_69 : decode cX12_layDown 69 = .ok (.isub, 1) := by decide +kernel
theorem dX12_layDown_70 : decode cX12_layDown 70 = .ok (.putfield 151, 3) := by decide +kernel
theorem dX12_layDown_73 : decode cX12_layDown 73 = .ok (.goto (-73), 3) := by decide +kernel
theorem dX12_layDown_76 : decode cX12_layDown 76 = .ok (.return_, 1) := by decide +kernel
theorem dX12_opens_0 : decode cX12_opens 0 = .ok (.aload_n 0, 1) := by decide +kernel
theorem dX12_opens_1 : decode cX12_opens 1 = .ok (.getfield 151, 3) := by decide +kernel
theorem dX12_opens_4 : decode cX12_opens 4 = .ok (.bipush 10, 2) := by decide +kernel
theorem dX12_opens_6 : decode cX12_opens 6 = .ok (.if_icmp .ne 13, 3) := by decide +kernel
theorem dX12_opens_9 : decode cX12_opens 9 = .ok (.aload_n 0, 1) := by decide +kernel
theorem dX12_opens_10 : decode cX12_opens 10 = .ok (.iconst 2, 1) := by decide +kernel
theorem dX12_opens_11 : decode cX12_opens 11 = .ok (.aload_n 0, 1) := by decide +kernel
theorem dX12_opens_12 : decode cX12_opens 12 = .ok (.getfield 87, 3) := by decide +kernel
theorem dX12_opens_15 : decode cX12_opens 15 = .ok (.invokevirtual 108, 3) := by decide +kernel
theorem dX12_opens_18 : decode cX12_opens 18 = .ok (.ireturn, 1) := by decide +kernel
theorem dX12_opens_19 : decode cX12_opens 19 = .ok (.aload_n 0, 1) := by decide +kernel
theorem dX12_opens_20 : decode cX12_opens 20 = .ok (.dup, 1) := by decide +kernel
theorem dX12_opens_21 : decode cX12_opens 21 = .ok (.getfield 151, 3) := by decide +kernel
theorem dX12_opens_24 : decode cX12_opens 24 = .ok (.iconst 1, 1) := by decide +kernel
theorem dX12_opens_25 : decode cX12_opens 25 = .ok (.iadd, 1) := by decide +kernel
theorem dX12_opens_26 : decode cX12_opens 26 = .ok (.putfield 151, 3) := by decide +kernel
theorem dX12_opens_29 : decode cX12_opens 29 = .ok (.aload_n 0, 1) := by decide +kernel
theorem dX12_opens_30 : decode cX12_opens 30 = .ok (.getfield 29, 3) := by decide +kernel
theorem dX12_opens_33 : decode cX12_opens 33 = .ok (.aload_n 0, 1) := by decide +kernel
theorem dX12_opens_34 : decode cX12_opens 34 = .ok (.getfield 154, 3) := by decide +kernel
theorem dX12_opens_37 : decode cX12_opens 37 = .ok (.iload_n 1, 1) := by decide +kernel
theorem dX12_opens_38 : decode cX12_opens 38 = .ok (.iastore, 1) := by decide +kernel
theorem dX12_opens_39 : decode cX12_opens 39 = .ok (.aload_n 0, 1) := by decide +kernel
theorem dX12_opens_40 : decode cX12_opens 40 = .ok (.dup, 1) := by decide +kernel
theorem dX12_opens_41 : decode cX12_opens 41 = .ok (.getfield 154, 3) := by decide +kernel
theorem dX12_opens_44 : decode cX12_opens 44 = .ok (.iconst 1, 1) := by decide +kernel
theorem dX12_opens_45 : decode cX12_opens 45 = .ok (.iadd, 1) := by decide +kernel
theorem dX12_opens_46 : decode cX12_opens 46 = .ok (.putfield 154, 3) := by decide +kernel
theorem dX12_opens_49 : decode cX12_opens 49 = .ok (.iconst 1, 1) := by decide +kernel
theorem dX12_opens_50 : decode cX12_opens 50 = .ok (.ireturn, 1) := by decide +kernel
theorem dX12_strength_0 : decode cX12_strength 0 = .ok (.iload_n 0, 1) := by decide +kernel
theorem dX12_strength_1 : decode cX12_strength 1 = .ok (.bipush 13, 2) := by decide +kernel
theorem dX12_strength_3 : decode cX12_strength 3 = .ok (.if_icmp .ne 7, 3) := by decide +kernel
theorem dX12_strength_6 : decode cX12_strength 6 = .ok (.iconst 1, 1) := by decide +kernel
theorem dX12_strength_7 : decode cX12_strength 7 = .ok (.goto 24, 3) := by decide +kernel
theorem dX12_strength_10 : decode cX12_strength 10 = .ok (.iload_n 0, 1) := by decide +kernel
theorem dX12_strength_11 : decode cX12_strength 11 = .ok (.bipush 12, 2) := by decide +kernel
theorem dX12_strength_13 : decode cX12_strength 13 = .ok (.if_icmp .ne 7, 3) := by decide +kernel
theorem dX12_strength_16 : decode cX12_strength 16 = .ok (.iconst 2, 1) := by decide +kernel
theorem dX12_strength_17 : decode cX12_strength 17 = .ok (.goto 14, 3) := by decide +kernel
theorem dX12_strength_20 : decode cX12_strength 20 = .ok (.iload_n 0, 1) := by decide +kernel
theorem dX12_strength_21 : decode cX12_strength 21 = .ok (.bipush 11, 2) := by decide +kernel
theorem dX12_strength_23 : decode cX12_strength 23 = .ok (.if_icmp .ne 7, 3) := by decide +kernel
theorem dX12_strength_26 : decode cX12_strength 26 = .ok (.iconst 3, 1) := by decide +kernel
theorem dX12_strength_27 : decode cX12_strength 27 = .ok (.goto 4, 3) := by decide +kernel
theorem dX12_strength_30 : decode cX12_strength 30 = .ok (.iconst 0, 1) := by decide +kernel
theorem dX12_strength_31 : decode cX12_strength 31 = .ok (.ireturn, 1) := by decide +kernel
theorem dX12_tested_0 : decode cX12_tested 0 = .ok (.aload_n 0, 1) := by decide +kernel
theorem dX12_tested_1 : decode cX12_tested 1 = .ok (.iconst 0, 1) := by decide +kernel
theorem dX12_tested_2 : decode cX12_tested 2 = .ok (.putfield 154, 3) := by decide +kernel
theorem dX12_tested_5 : decode cX12_tested 5 = .ok (.aload_n 0, 1) := by decide +kernel
theorem dX12_tested_6 : decode cX12_tested 6 = .ok (.iconst 0, 1) := by decide +kernel
theorem dX12_tested_7 : decode cX12_tested 7 = .ok (.putfield 151, 3) := by decide +kernel
theorem dX12_tested_10 : decode cX12_tested 10 = .ok (.iconst 1, 1) := by decide +kernel
theorem dX12_tested_11 : decode cX12_tested 11 = .ok (.istore_n 1, 1) := by decide +kernel
theorem dX12_tested_12 : decode cX12_tested 12 = .ok (.iload_n 1, 1) := by decide +kernel
theorem dX12_tested_13 : decode cX12_tested 13 = .ok (.ifCond .eq 99, 3) := by decide +kernel
theorem dX12_tested_16 : decode cX12_tested 16 = .ok (.aload_n 0, 1) := by decide +kernel
theorem dX12_tested_17 : decode cX12_tested 17 = .ok (.invokevirtual 199, 3) := by decide +kernel
theorem dX12_tested_20 : decode cX12_tested 20 = .ok (.ifCond .ne 5, 3) := by decide +kernel
theorem dX12_tested_23 : decode cX12_tested 23 = .ok (.iconst 0, 1) := by decide +kernel
theorem dX12_tested_24 : decode cX12_tested 24 = .ok (.ireturn, 1) := by decide +kernel
theorem dX12_tested_25 : decode cX12_tested 25 = .ok (.aload_n 0, 1) := by decide +kernel
theorem dX12_tested_26 : decode cX12_tested 26 = .ok (.invokevirtual 202, 3) := by decide +kernel
theorem dX12_tested_29 : decode cX12_tested 29 = .ok (.aload_n 0, 1) := by decide +kernel
theorem dX12_tested_30 : decode cX12_tested 30 = .ok (.ldc2_w 205, 3) := by decide +kernel
theorem dX12_tested_33 : decode cX12_tested 33 = .ok (.invokevirtual 98, 3) := by decide +kernel
theorem dX12_tested_36 : decode cX12_tested 36 = .ok (.ifCond .ne 13, 3) := by decide +kernel
theorem dX12_tested_39 : decode cX12_tested 39 = .ok (.aload_n 0, 1) := by decide +kernel
theorem dX12_tested_40 : decode cX12_tested 40 = .ok (.ldc2_w 207, 3) := by decide +kernel
theorem dX12_tested_43 : decode cX12_tested 43 = .ok (.invokevirtual 98, 3) := by decide +kernel
theorem dX12_tested_46 : decode cX12_tested 46 = .ok (.ifCond .eq 7, 3) := by decide +kernel
theorem dX12_tested_49 : decode cX12_tested 49 = .ok (.iconst 1, 1) := by decide +kernel
theorem dX12_tested_50 : decode cX12_tested 50 = .ok (.goto 4, 3) := by decide +kernel
theorem dX12_tested_53 : decode cX12_tested 53 = .ok (.iconst 0, 1) := by decide +kernel
theorem dX12_tested_54 : decode cX12_tested 54 = .ok (.istore_n 1, 1) := by decide +kernel
theorem dX12_tested_55 : decode cX12_tested 55 = .ok (.iload_n 1, 1) := by decide +kernel
theorem dX12_tested_56 : decode cX12_tested 56 = .ok (.ifCond .eq (-44), 3) := by decide +kernel
theorem dX12_tested_59 : decode cX12_tested 59 = .ok (.aload_n 0, 1) := by decide +kernel
theorem dX12_tested_60 : decode cX12_tested 60 = .ok (.ldc2_w 205, 3) := by decide +kernel
theorem dX12_tested_63 : decode cX12_tested 63 = .ok (.invokevirtual 98, 3) := by decide +kernel
theorem dX12_tested_66 : decode cX12_tested 66 = .ok (.ifCond .eq 8, 3) := by decide +kernel
theorem dX12_tested_69 : decode cX12_tested 69 = .ok (.bipush 12, 2) := by decide +kernel
theorem dX12_tested_71 : decode cX12_tested 71 = .ok (.goto 5, 3) := by decide +kernel
theorem dX12_tested_74 : decode cX12_tested 74 = .ok (.bipush 13, 2) := by decide +kernel
theorem dX12_tested_76 : decode cX12_tested 76 = .ok (.istore_n 2, 1) := by decide +kernel
theorem dX12_tested_77 : decode cX12_tested 77 = .ok (.aload_n 0, 1) := by decide +kernel
theorem dX12_tested_78 : decode cX12_tested 78 = .ok (.invokevirtual 102, 3) := by decide +kernel
theorem dX12_tested_81 : decode cX12_tested 81 = .ok (.aload_n 0, 1) := by decide +kernel
theorem dX12_tested_82 : decode cX12_tested 82 = .ok (.iload_n 2, 1) := by decide +kernel
theorem dX12_tested_83 : decode cX12_tested 83 = .ok (.invokestatic 157, 3) := by decide +kernel
theorem dX12_tested_86 : decode cX12_tested 86 = .ok (.invokevirtual 193, 3) := by decide +kernel
theorem dX12_tested_89 : decode cX12_tested 89 = .ok (.aload_n 0, 1) := by decide +kernel
theorem dX12_tested_90 : decode cX12_tested 90 = .ok (.getfield 29, 3) := by decide +kernel
theorem dX12_tested_93 : decode cX12_tested 93 = .ok (.aload_n 0, 1) := by decide +kernel
theorem dX12_tested_94 : decode cX12_tested 94 = .ok (.getfield 154, 3) := by decide +kernel
theorem dX12_tested_97 : decode cX12_tested 97 = .ok (.iload_n 2, 1) := by decide +kernel
theorem dX12_tested_98 : decode cX12_tested 98 = .ok (.iastore, 1) := by decide +kernel
theorem dX12_tested_99 : decode cX12_tested 99 = .ok (.aload_n 0, 1) := by decide +kernel
theorem dX12_tested_100 : decode cX12_tested 100 = .ok (.dup, 1) := by decide +kernel
theorem dX12_tested_101 : decode cX12_tested 101 = .ok (.getfield 154, 3) := by decide +kernel
theorem dX12_tested_104 : decode cX12_tested 104 = .ok (.iconst 1, 1) := by decide +kernel
theorem dX12_tested_105 : decode cX12_tested 105 = .ok (.iadd, 1) := by decide +kernel
theorem dX12_tested_106 : decode cX12_tested 106 = .ok (.putfield 154, 3) := by decide +kernel
theorem dX12_tested_109 : decode cX12_tested 109 = .ok (.goto (-97), 3) := by decide +kernel
theorem dX12_tested_112 : decode cX12_tested 112 = .ok (.aload_n 0, 1) := by decide +kernel
theorem dX12_tested_113 : decode cX12_tested 113 = .ok (.invokevirtual 196, 3) := by decide +kernel
theorem dX12_tested_116 : decode cX12_tested 116 = .ok (.ifCond .eq 18, 3) := by decide +kernel
theorem dX12_tested_119 : decode cX12_tested 119 = .ok (.aload_n 0, 1) := by decide +kernel
theorem dX12_tested_120 : decode cX12_tested 120 = .ok (.invokevirtual 90, 3) := by decide +kernel
theorem dX12_tested_123 : decode cX12_tested 123 = .ok (.pop, 1) := by decide +kernel
theorem dX12_tested_124 : decode cX12_tested 124 = .ok (.aload_n 0, 1) := by decide +kernel
theorem dX12_tested_125 : decode cX12_tested 125 = .ok (.iconst 0, 1) := by decide +kernel
theorem dX12_tested_126 : decode cX12_tested 126 = .ok (.aload_n 0, 1) := by decide +kernel
theorem dX12_tested_127 : decode cX12_tested 127 = .ok (.getfield 87, 3) := by decide +kernel
theorem dX12_tested_130 : decode cX12_tested 130 = .ok (.invokevirtual 108, 3) := by decide +kernel
theorem dX12_tested_133 : decode cX12_tested 133 = .ok (.ireturn, 1) := by decide +kernel
theorem dX12_tested_134 : decode cX12_tested 134 = .ok (.aload_n 0, 1) := by decide +kernel
theorem dX12_tested_135 : decode cX12_tested 135 = .ok (.iconst 1, 1) := by decide +kernel
theorem dX12_tested_136 : decode cX12_tested 136 = .ok (.invokevirtual 193, 3) := by decide +kernel
theorem dX12_tested_139 : decode cX12_tested 139 = .ok (.iconst 1, 1) := by decide +kernel
theorem dX12_tested_140 : decode cX12_tested 140 = .ok (.ireturn, 1) := by decide +kernel
set_option maxHeartbeats 4000000 in
set_option maxRecDepth 100000 in
theorem ct_X12_strength (l : Launch) (D : va_G) (tc : Nat → ClassId) (sk : (Nat → Nat) × (Nat → Nat)) (x1 : Int32)  : Ct l yX12_strength cX12_strength 1 (some .int) { frames := 0, cells := 0, slots := 0, locals := 0 } D tc sk [.int x1] [] (fun (v : Option Value) (_ : Unit) => ∃ r : Int32, v = some (.int r) ∧ (((x1.toInt = 13 ∧ r.toInt = 1) ∨ (x1.toInt = 12 ∧ r.toInt = 2) ∨ (x1.toInt = 11 ∧ r.toInt = 3) ∨ (x1.toInt ≠ 13 ∧ x1.toInt ≠ 12 ∧ x1.toInt ≠ 11 ∧ r.toInt = 0)))) (fun (_ : Unit) => []) 0 0 := by
  refine Ct.start (by decide) (Nat.le_of_ble_eq_true rfl) (fun p e s m below meth c A ls hx hb hr hlk hin hml hown hts hK hX hP hD hA hl hS => ?_)
  have hl : lv_has ls 1 [(0, .int x1)] := hl
  refine lv_iload_n hx hb dX12_strength_0 rfl (lv_at hl 0 rfl) ?_
  refine lv_bipush (v := 13) hx hb dX12_strength_1 (by decide) ?_
  refine lv_icmp_ne (tgt := 10) hx hb dX12_strength_3 (by decide) (fun c_1 => ?_) (fun c_1 => ?_)
  · skip
    refine lv_iload_n hx hb dX12_strength_10 rfl (lv_at hl 0 rfl) ?_
    refine lv_bipush (v := 12) hx hb dX12_strength_11 (by decide) ?_
    refine lv_icmp_ne (tgt := 20) hx hb dX12_strength_13 (by decide) (fun c_2 => ?_) (fun c_2 => ?_)
    · skip
      refine lv_iload_n hx hb dX12_strength_20 rfl (lv_at hl 0 rfl) ?_
      refine lv_bipush (v := 11) hx hb dX12_strength_21 (by decide) ?_
      refine lv_icmp_ne (tgt := 30) hx hb dX12_strength_23 (by decide) (fun c_3 => ?_) (fun c_3 => ?_)
      · skip
        refine lv_iconst (v := 0) hx hb dX12_strength_30 (by decide) ?_
        have hp_4 : ((x1.toInt = 13 ∧ (0 : Int32).toInt = 1) ∨ (x1.toInt = 12 ∧ (0 : Int32).toInt = 2) ∨ (x1.toInt = 11 ∧ (0 : Int32).toInt = 3) ∨ (x1.toInt ≠ 13 ∧ x1.toInt ≠ 12 ∧ x1.toInt ≠ 11 ∧ (0 : Int32).toInt = 0)) := by
          have z_1 : ¬ (x1 : Int32).toInt = (13 : Int32).toInt := fun z => c_1 (Int32.toInt_inj.mp z)
          have z_2 : ¬ (x1 : Int32).toInt = (12 : Int32).toInt := fun z => c_2 (Int32.toInt_inj.mp z)
          have z_3 : ¬ (x1 : Int32).toInt = (11 : Int32).toInt := fun z => c_3 (Int32.toInt_inj.mp z)
          have y_11 : (11 : Int32).toInt = 11 := by decide
          have y_12 : (12 : Int32).toInt = 12 := by decide
          have y_13 : (13 : Int32).toInt = 13 := by decide
          have y_0 : (0 : Int32).toInt = 0 := by decide
          have yr : (0 : Int32).toInt = 0 := by decide
          omega
        exact retI (v := 0) hx hb hr hlk (rfl) hP hD hS () ⟨_, rfl, hp_4⟩ [] rfl rfl dX12_strength_31 (Nat.le_of_ble_eq_true rfl) (Nat.le_of_ble_eq_true rfl) rfl
      · skip
        refine lv_iconst (v := 3) hx hb dX12_strength_26 (by decide) ?_
        refine lv_goto (tgt := 31) hx hb dX12_strength_27 (by decide) ?_
        have hp_5 : ((x1.toInt = 13 ∧ (3 : Int32).toInt = 1) ∨ (x1.toInt = 12 ∧ (3 : Int32).toInt = 2) ∨ (x1.toInt = 11 ∧ (3 : Int32).toInt = 3) ∨ (x1.toInt ≠ 13 ∧ x1.toInt ≠ 12 ∧ x1.toInt ≠ 11 ∧ (3 : Int32).toInt = 0)) := by
          have z_1 : ¬ (x1 : Int32).toInt = (13 : Int32).toInt := fun z => c_1 (Int32.toInt_inj.mp z)
          have z_2 : ¬ (x1 : Int32).toInt = (12 : Int32).toInt := fun z => c_2 (Int32.toInt_inj.mp z)
          have z_3 := congrArg Int32.toInt c_3
          have y_11 : (11 : Int32).toInt = 11 := by decide
          have y_12 : (12 : Int32).toInt = 12 := by decide
          have y_13 : (13 : Int32).toInt = 13 := by decide
          have y_3 : (3 : Int32).toInt = 3 := by decide
          have yr : (3 : Int32).toInt = 3 := by decide
          omega
        exact retI (v := 3) hx hb hr hlk (rfl) hP hD hS () ⟨_, rfl, hp_5⟩ [] rfl rfl dX12_strength_31 (Nat.le_of_ble_eq_true rfl) (Nat.le_of_ble_eq_true rfl) rfl
    · skip
      refine lv_iconst (v := 2) hx hb dX12_strength_16 (by decide) ?_
      refine lv_goto (tgt := 31) hx hb dX12_strength_17 (by decide) ?_
      have hp_6 : ((x1.toInt = 13 ∧ (2 : Int32).toInt = 1) ∨ (x1.toInt = 12 ∧ (2 : Int32).toInt = 2) ∨ (x1.toInt = 11 ∧ (2 : Int32).toInt = 3) ∨ (x1.toInt ≠ 13 ∧ x1.toInt ≠ 12 ∧ x1.toInt ≠ 11 ∧ (2 : Int32).toInt = 0)) := by
        have z_1 : ¬ (x1 : Int32).toInt = (13 : Int32).toInt := fun z => c_1 (Int32.toInt_inj.mp z)
        have z_2 := congrArg Int32.toInt c_2
        have y_12 : (12 : Int32).toInt = 12 := by decide
        have y_13 : (13 : Int32).toInt = 13 := by decide
        have y_2 : (2 : Int32).toInt = 2 := by decide
        have yr : (2 : Int32).toInt = 2 := by decide
        omega
      exact retI (v := 2) hx hb hr hlk (rfl) hP hD hS () ⟨_, rfl, hp_6⟩ [] rfl rfl dX12_strength_31 (Nat.le_of_ble_eq_true rfl) (Nat.le_of_ble_eq_true rfl) rfl
  · skip
    refine lv_iconst (v := 1) hx hb dX12_strength_6 (by decide) ?_
    refine lv_goto (tgt := 31) hx hb dX12_strength_7 (by decide) ?_
    have hp_7 : ((x1.toInt = 13 ∧ (1 : Int32).toInt = 1) ∨ (x1.toInt = 12 ∧ (1 : Int32).toInt = 2) ∨ (x1.toInt = 11 ∧ (1 : Int32).toInt = 3) ∨ (x1.toInt ≠ 13 ∧ x1.toInt ≠ 12 ∧ x1.toInt ≠ 11 ∧ (1 : Int32).toInt = 0)) := by
      have z_1 := congrArg Int32.toInt c_1
      have y_13 : (13 : Int32).toInt = 13 := by decide
      have y_1 : (1 : Int32).toInt = 1 := by decide
      have yr : (1 : Int32).toInt = 1 := by decide
      omega
    exact retI (v := 1) hx hb hr hlk (rfl) hP hD hS () ⟨_, rfl, hp_7⟩ [] rfl rfl dX12_strength_31 (Nat.le_of_ble_eq_true rfl) (Nat.le_of_ble_eq_true rfl) rfl
set_option maxHeartbeats 4000000 in
set_option maxRecDepth 100000 in
theorem ct_X12_isInside (l : Launch) (D : va_G) (tc : Nat → ClassId) (sk : (Nat → Nat) × (Nat → Nat)) (Ma : Nat → Nat) (Mv : Nat → Int32) (Mf : Nat → Nat → Int32) (Mj : Nat → Int64) (h_o : 0 ≤ ((Mv 9) : Int32).toInt ∧ ((Mv 9) : Int32).toInt ≤ 400) : Ct l yX12_isInside cX12_isInside 2 (some .boolean) { frames := 0, cells := 0, slots := 0, locals := 0 } D tc sk [.ref (Ma 0)] [((Ma 0), .inr (12, [.ref (Ma 1), .int (Mv 0), .int (Mv 1), .ref (Ma 2), .ref (Ma 3), .ref (Ma 4), .ref (Ma 5), .ref (Ma 6), .int (Mv 2), .int (Mv 3), .int (Mv 4), .int (Mv 5), .int (Mv 6), .int (Mv 7), .int (Mv 8), .ref (Ma 7), .int (Mv 9), .ref (Ma 8), .int (Mv 10), .ref (Ma 9), .ref (Ma 10), .int (Mv 11), .int (Mv 12), .int (Mv 13), .ref (Ma 11), .int (Mv 14), .ref (Ma 12), .ref (Ma 13), .ref (Ma 14), .ref (Ma 15), .ref (Ma 16), .long (Mj 0), .ref (Ma 17), .ref (Ma 18), .ref (Ma 19), .ref (Ma 20)])), ((Ma 7), .inl (tc 0, 400, .inl (Mf 7)))] (fun (v : Option Value) (_ : Unit) => ∃ r : Int32, v = some (.int r) ∧ ((r.toInt = 0 ∨ r.toInt = 1)) ∧ (r.toInt = 1 → (Ins (Mf 7) (Mv 9))) ∧ (r.toInt = 0 → (NIns (Mf 7) (Mv 9)))) (fun (_ : Unit) => [((Ma 0), .inr (12, [.ref (Ma 1), .int (Mv 0), .int (Mv 1), .ref (Ma 2), .ref (Ma 3), .ref (Ma 4), .ref (Ma 5), .ref (Ma 6), .int (Mv 2), .int (Mv 3), .int (Mv 4), .int (Mv 5), .int (Mv 6), .int (Mv 7), .int (Mv 8), .ref (Ma 7), .int (Mv 9), .ref (Ma 8), .int (Mv 10), .ref (Ma 9), .ref (Ma 10), .int (Mv 11), .int (Mv 12), .int (Mv 13), .ref (Ma 11), .int (Mv 14), .ref (Ma 12), .ref (Ma 13), .ref (Ma 14), .ref (Ma 15), .ref (Ma 16), .long (Mj 0), .ref (Ma 17), .ref (Ma 18), .ref (Ma 19), .ref (Ma 20)])), ((Ma 7), .inl (tc 0, 400, .inl (Mf 7)))]) 0 0 := by
  refine Ct.start (by decide) (Nat.le_of_ble_eq_true rfl) (fun p e s m below meth c A ls hx hb hr hlk hin hml hown hts hK hX hP hD hA hl hS => ?_)
  have hl : lv_has ls 2 [(0, .ref (Ma 0))] := hl
  refine lv_iconst (v := 0) hx hb dX12_isInside_0 (by decide) ?_
  refine lv_istore_n (lv' := [(1, .int 0), (0, .ref (Ma 0))]) hx hb dX12_isInside_1 rfl hl (by decide) rfl (fun ls hl₀ => ?_)
  replace hl := hl₀
  clear hl₀
  have loop_5 : ∀ (n_3 : Nat) (vy_2 : Int32) (H : Heap) (locs : List Loc) (ls : Array Slot), (400 - (vy_2 : Int32).toInt).toNat < n_3 → (0 ≤ (vy_2 : Int32).toInt) → (NIns (Mf 7) vy_2) → va_P D classes [((Ma 0), .inr (12, [.ref (Ma 1), .int (Mv 0), .int (Mv 1), .ref (Ma 2), .ref (Ma 3), .ref (Ma 4), .ref (Ma 5), .ref (Ma 6), .int (Mv 2), .int (Mv 3), .int (Mv 4), .int (Mv 5), .int (Mv 6), .int (Mv 7), .int (Mv 8), .ref (Ma 7), .int (Mv 9), .ref (Ma 8), .int (Mv 10), .ref (Ma 9), .ref (Ma 10), .int (Mv 11), .int (Mv 12), .int (Mv 13), .ref (Ma 11), .int (Mv 14), .ref (Ma 12), .ref (Ma 13), .ref (Ma 14), .ref (Ma 15), .ref (Ma 16), .long (Mj 0), .ref (Ma 17), .ref (Ma 18), .ref (Ma 19), .ref (Ma 20)])), ((Ma 7), .inl (tc 0, 400, .inl (Mf 7)))] H → va_D A [((Ma 0), .inr (12, [.ref (Ma 1), .int (Mv 0), .int (Mv 1), .ref (Ma 2), .ref (Ma 3), .ref (Ma 4), .ref (Ma 5), .ref (Ma 6), .int (Mv 2), .int (Mv 3), .int (Mv 4), .int (Mv 5), .int (Mv 6), .int (Mv 7), .int (Mv 8), .ref (Ma 7), .int (Mv 9), .ref (Ma 8), .int (Mv 10), .ref (Ma 9), .ref (Ma 10), .int (Mv 11), .int (Mv 12), .int (Mv 13), .ref (Ma 11), .int (Mv 14), .ref (Ma 12), .ref (Ma 13), .ref (Ma 14), .ref (Ma 15), .ref (Ma 16), .long (Mj 0), .ref (Ma 17), .ref (Ma 18), .ref (Ma 19), .ref (Ma 20)])), ((Ma 7), .inl (tc 0, 400, .inl (Mf 7)))] → va_S A s.heap H locs → lv_has ls 2 [(1, .int vy_2), (0, .ref (Ma 0))] → W p l e ({ frames := 0, cells := 0, slots := 0, locals := 0 }) s m ([.ref (Ma 0)].toArray) below meth c H locs 0 0 (MQ below (QW (fun (v : Option Value) (_ : Unit) => ∃ r : Int32, v = some (.int r) ∧ ((r.toInt = 0 ∨ r.toInt = 1)) ∧ (r.toInt = 1 → (Ins (Mf 7) (Mv 9))) ∧ (r.toInt = 0 → (NIns (Mf 7) (Mv 9)))) (BW D (fun (_ : Unit) => [((Ma 0), .inr (12, [.ref (Ma 1), .int (Mv 0), .int (Mv 1), .ref (Ma 2), .ref (Ma 3), .ref (Ma 4), .ref (Ma 5), .ref (Ma 6), .int (Mv 2), .int (Mv 3), .int (Mv 4), .int (Mv 5), .int (Mv 6), .int (Mv 7), .int (Mv 8), .ref (Ma 7), .int (Mv 9), .ref (Ma 8), .int (Mv 10), .ref (Ma 9), .ref (Ma 10), .int (Mv 11), .int (Mv 12), .int (Mv 13), .ref (Ma 11), .int (Mv 14), .ref (Ma 12), .ref (Ma 13), .ref (Ma 14), .ref (Ma 15), .ref (Ma 16), .long (Mj 0), .ref (Ma 17), .ref (Ma 18), .ref (Ma 19), .ref (Ma 20)])), ((Ma 7), .inl (tc 0, 400, .inl (Mf 7)))]) A) A) ([.ref (Ma 0)].toArray) s 0 0 A) (F0 m 2 ls []) := by
    clear hP hD hS hl
    intro n_3
    induction n_3 with
    | zero =>
      intro vy_2 H locs ls h1
      exact absurd h1 (Nat.not_lt_zero _)
    | succ n_3 ih_4 =>
      intro vy_2 H locs ls hn_8 pf_6 pf_7 hP hD hS hl
      refine lv_iload_n hx hb dX12_isInside_2 rfl (lv_at hl 0 rfl) ?_
      refine lv_aload_n hx hb dX12_isInside_3 rfl (lv_at hl 1 rfl) ?_
      refine gf_X12_154 hx hb hts hown hK hP 0 rfl rfl dX12_isInside_4 ?_
      refine lv_icmp_ge (tgt := 29) hx hb dX12_isInside_7 (by decide) (fun c_9 => ?_) (fun c_9 => ?_)
      · skip
        refine lv_iconst (v := 0) hx hb dX12_isInside_29 (by decide) ?_
        have hp_10 : ((0 : Int32).toInt = 0 ∨ (0 : Int32).toInt = 1) := by
          have z_1 := Int32.le_iff_toInt_le.mp c_9
          have y_0 : (0 : Int32).toInt = 0 := by decide
          have yr : (0 : Int32).toInt = 0 := by decide
          omega
        have hm_11 : (0 : Int32).toInt = 0 → (NIns (Mf 7) (Mv 9)) := by
          intro h1r
          have hr_12 : ((Mv 9) : Int32).toInt ≤ (vy_2 : Int32).toInt := by
            have z_1 := Int32.le_iff_toInt_le.mp c_9
            omega
          exact (NIns.ge pf_7 hr_12)
        exact retI (v := 0) hx hb hr hlk (rfl) hP hD hS () ⟨_, rfl, hp_10, (fun h => absurd h (by decide)), hm_11⟩ [0, 1] rfl rfl dX12_isInside_30 (Nat.le_of_ble_eq_true rfl) (Nat.le_of_ble_eq_true rfl) rfl
      · skip
        refine lv_aload_n hx hb dX12_isInside_10 rfl (lv_at hl 1 rfl) ?_
        refine gf_X12_29 hx hb hts hown hK hP 0 rfl rfl dX12_isInside_11 ?_
        refine lv_iload_n hx hb dX12_isInside_14 rfl (lv_at hl 0 rfl) ?_
        have hi_13 : vp_in vy_2 400 := by
          have z_1 := Int32.lt_iff_toInt_lt.mp (Int32.not_le.mp c_9)
          refine vp_in_iff.mpr ⟨?_, ?_⟩ <;> omega
        refine va_iald hx hb hK hP 1 0 rfl rfl hi_13 dX12_isInside_15 ?_
        refine lv_topi (fun x_14 ex_14 => ?_)
        refine lv_bipush (v := 91) hx hb dX12_isInside_16 (by decide) ?_
        refine lv_icmp_ne (tgt := 23) hx hb dX12_isInside_18 (by decide) (fun c_15 => ?_) (fun c_15 => ?_)
        · skip
          obtain ⟨x_16, ex_16⟩ : ∃ y : Int32, y = vy_2 + 1 := ⟨_, rfl⟩
          refine lv_iinc (v := x_16) (lv' := [(1, .int x_16), (0, .ref (Ma 0))]) hx hb dX12_isInside_23 hl (k := 0) rfl (by rw [ex_16]; rfl) (by decide) rfl (fun ls hl₀ => ?_)
          replace hl := hl₀
          clear hl₀
          refine lv_goto (tgt := 2) hx hb dX12_isInside_26 (by decide) ?_
          have hb_17 : 400 - (x_16 : Int32).toInt < 400 - (vy_2 : Int32).toInt ∧ 1 ≤ 400 - (vy_2 : Int32).toInt := by
            have z_1 := Int32.lt_iff_toInt_lt.mp (Int32.not_le.mp c_9)
            have z_2 : ¬ (x_14 : Int32).toInt = (91 : Int32).toInt := fun z => c_15 (Int32.toInt_inj.mp z)
            have y_91 : (91 : Int32).toInt = 91 := by decide
            have y_1 : (1 : Int32).toInt = 1 := by decide
            have t_x_16 : x_16.toInt = (vy_2 : Int32).toInt + (1 : Int32).toInt := by rw [ex_16]; exact add_toInt (by omega) (by omega)
            refine ⟨?_, ?_⟩ <;> omega
          have ha_18 : 0 ≤ (x_16 : Int32).toInt := by
            have z_1 := Int32.lt_iff_toInt_lt.mp (Int32.not_le.mp c_9)
            have z_2 : ¬ (x_14 : Int32).toInt = (91 : Int32).toInt := fun z => c_15 (Int32.toInt_inj.mp z)
            have y_91 : (91 : Int32).toInt = 91 := by decide
            have y_1 : (1 : Int32).toInt = 1 := by decide
            have t_x_16 : x_16.toInt = (vy_2 : Int32).toInt + (1 : Int32).toInt := by rw [ex_16]; exact add_toInt (by omega) (by omega)
            omega
          have hr_19 : ¬ (x_14 : Int32).toInt = 91 := by
            have z_1 := Int32.lt_iff_toInt_lt.mp (Int32.not_le.mp c_9)
            have z_2 : ¬ (x_14 : Int32).toInt = (91 : Int32).toInt := fun z => c_15 (Int32.toInt_inj.mp z)
            have y_91 : (91 : Int32).toInt = 91 := by decide
            omega
          have hi_20 : (x_16 : Int32).toInt = (vy_2 : Int32).toInt + 1 := by
            have z_1 := Int32.lt_iff_toInt_lt.mp (Int32.not_le.mp c_9)
            have z_2 : ¬ (x_14 : Int32).toInt = (91 : Int32).toInt := fun z => c_15 (Int32.toInt_inj.mp z)
            have y_91 : (91 : Int32).toInt = 91 := by decide
            have y_1 : (1 : Int32).toInt = 1 := by decide
            have t_x_16 : x_16.toInt = (vy_2 : Int32).toInt + (1 : Int32).toInt := by rw [ex_16]; exact add_toInt (by omega) (by omega)
            omega
          have hr_21 : 0 ≤ (vy_2 : Int32).toInt := by
            have z_1 := Int32.lt_iff_toInt_lt.mp (Int32.not_le.mp c_9)
            have z_2 : ¬ (x_14 : Int32).toInt = (91 : Int32).toInt := fun z => c_15 (Int32.toInt_inj.mp z)
            have y_91 : (91 : Int32).toInt = 91 := by decide
            omega
          exact ih_4 x_16 _ _ _ (by omega) ha_18 (NIns.step pf_7 ex_14 hr_19 hi_20 hr_21) (hP.sub [0, 1] rfl) (hD.sub [0, 1] rfl rfl) hS (lv_sub hl [0, 1] rfl)
        · skip
          refine lv_iconst (v := 1) hx hb dX12_isInside_21 (by decide) ?_
          have hp_22 : ((1 : Int32).toInt = 0 ∨ (1 : Int32).toInt = 1) := by
            have z_1 := Int32.lt_iff_toInt_lt.mp (Int32.not_le.mp c_9)
            have z_2 := congrArg Int32.toInt c_15
            have y_91 : (91 : Int32).toInt = 91 := by decide
            have y_1 : (1 : Int32).toInt = 1 := by decide
            have yr : (1 : Int32).toInt = 1 := by decide
            omega
          have hm_23 : (1 : Int32).toInt = 1 → (Ins (Mf 7) (Mv 9)) := by
            intro h1r
            have hr_24 : (x_14 : Int32).toInt = 91 := by
              have z_1 := Int32.lt_iff_toInt_lt.mp (Int32.not_le.mp c_9)
              have z_2 := congrArg Int32.toInt c_15
              have y_91 : (91 : Int32).toInt = 91 := by decide
              omega
            have hr_25 : 0 ≤ (vy_2 : Int32).toInt ∧ (vy_2 : Int32).toInt < ((Mv 9) : Int32).toInt := by
              have z_1 := Int32.lt_iff_toInt_lt.mp (Int32.not_le.mp c_9)
              have z_2 := congrArg Int32.toInt c_15
              have y_91 : (91 : Int32).toInt = 91 := by decide
              refine ⟨?_, ?_⟩ <;> omega
            exact (Ins.of ex_14 hr_24 hr_25)
          exact retI (v := 1) hx hb hr hlk (rfl) hP hD hS () ⟨_, rfl, hp_22, hm_23, (fun h => absurd h (by decide))⟩ [0, 1] rfl rfl dX12_isInside_22 (Nat.le_of_ble_eq_true rfl) (Nat.le_of_ble_eq_true rfl) rfl
  have ha_26 : 0 ≤ (0 : Int32).toInt := by
    have y_0 : (0 : Int32).toInt = 0 := by decide
    omega
  exact loop_5 _ 0 _ _ _ (Nat.lt_succ_self _) ha_26 (NIns.nil (by decide)) hP hD hS hl
set_option maxRecDepth 100000 in
theorem cu_X12_isInside (l : Launch) (D : va_G) (tc : Nat → ClassId) (sk : (Nat → Nat) × (Nat → Nat)) (Ma_0 : Nat) (Ma_1 : Nat) (Ma_2 : Nat) (Ma_3 : Nat) (Ma_4 : Nat) (Ma_5 : Nat) (Ma_6 : Nat) (Ma_7 : Nat) (Ma_8 : Nat) (Ma_9 : Nat) (Ma_10 : Nat) (Ma_11 : Nat) (Ma_12 : Nat) (Ma_13 : Nat) (Ma_14 : Nat) (Ma_15 : Nat) (Ma_16 : Nat) (Ma_17 : Nat) (Ma_18 : Nat) (Ma_19 : Nat) (Ma_20 : Nat) (Mv_0 : Int32) (Mv_1 : Int32) (Mv_2 : Int32) (Mv_3 : Int32) (Mv_4 : Int32) (Mv_5 : Int32) (Mv_6 : Int32) (Mv_7 : Int32) (Mv_8 : Int32) (Mv_9 : Int32) (Mv_10 : Int32) (Mv_11 : Int32) (Mv_12 : Int32) (Mv_13 : Int32) (Mv_14 : Int32) (Mf_7 : Nat → Int32) (Mj_0 : Int64) (h_o : 0 ≤ (Mv_9 : Int32).toInt ∧ (Mv_9 : Int32).toInt ≤ 400) : Ct l yX12_isInside cX12_isInside 2 (some .boolean) { frames := 0, cells := 0, slots := 0, locals := 0 } D tc sk [.ref Ma_0] [(Ma_0, .inr (12, [.ref Ma_1, .int Mv_0, .int Mv_1, .ref Ma_2, .ref Ma_3, .ref Ma_4, .ref Ma_5, .ref Ma_6, .int Mv_2, .int Mv_3, .int Mv_4, .int Mv_5, .int Mv_6, .int Mv_7, .int Mv_8, .ref Ma_7, .int Mv_9, .ref Ma_8, .int Mv_10, .ref Ma_9, .ref Ma_10, .int Mv_11, .int Mv_12, .int Mv_13, .ref Ma_11, .int Mv_14, .ref Ma_12, .ref Ma_13, .ref Ma_14, .ref Ma_15, .ref Ma_16, .long Mj_0, .ref Ma_17, .ref Ma_18, .ref Ma_19, .ref Ma_20])), (Ma_7, .inl (tc 0, 400, .inl Mf_7))] (fun (v : Option Value) (_ : Unit) => ∃ r : Int32, v = some (.int r) ∧ ((r.toInt = 0 ∨ r.toInt = 1)) ∧ (r.toInt = 1 → (Ins Mf_7 Mv_9)) ∧ (r.toInt = 0 → (NIns Mf_7 Mv_9))) (fun (_ : Unit) => [(Ma_0, .inr (12, [.ref Ma_1, .int Mv_0, .int Mv_1, .ref Ma_2, .ref Ma_3, .ref Ma_4, .ref Ma_5, .ref Ma_6, .int Mv_2, .int Mv_3, .int Mv_4, .int Mv_5, .int Mv_6, .int Mv_7, .int Mv_8, .ref Ma_7, .int Mv_9, .ref Ma_8, .int Mv_10, .ref Ma_9, .ref Ma_10, .int Mv_11, .int Mv_12, .int Mv_13, .ref Ma_11, .int Mv_14, .ref Ma_12, .ref Ma_13, .ref Ma_14, .ref Ma_15, .ref Ma_16, .long Mj_0, .ref Ma_17, .ref Ma_18, .ref Ma_19, .ref Ma_20])), (Ma_7, .inl (tc 0, 400, .inl Mf_7))]) 0 0 :=
  ct_X12_isInside l D tc sk (fun k => ([Ma_0, Ma_1, Ma_2, Ma_3, Ma_4, Ma_5, Ma_6, Ma_7, Ma_8, Ma_9, Ma_10, Ma_11, Ma_12, Ma_13, Ma_14, Ma_15, Ma_16, Ma_17, Ma_18, Ma_19, Ma_20] : List (Nat)).getD k 0) (fun k => ([Mv_0, Mv_1, Mv_2, Mv_3, Mv_4, Mv_5, Mv_6, Mv_7, Mv_8, Mv_9, Mv_10, Mv_11, Mv_12, Mv_13, Mv_14] : List (Int32)).getD k 0) (fun k => ([(fun _ => 0), (fun _ => 0), (fun _ => 0), (fun _ => 0), (fun _ => 0), (fun _ => 0), (fun _ => 0), Mf_7] : List (Nat → Int32)).getD k (fun _ => 0)) (fun k => ([Mj_0] : List (Int64)).getD k 0) h_o
theorem dX12_clauseHere_0 : decode cX12_clauseHere 0 = .ok (.aload_n 0, 1) := by decide +kernel
theorem dX12_clauseHere_1 : decode cX12_clauseHere 1 = .ok (.invokevirtual 90, 3) := by decide +kernel
theorem dX12_clauseHere_4 : decode cX12_clauseHere 4 = .ok (.pop, 1) := by decide +kernel
theorem dX12_clauseHere_5 : decode cX12_clauseHere 5 = .ok (.aload_n 0, 1) := by decide +kernel
theorem dX12_clauseHere_6 : decode cX12_clauseHere 6 = .ok (.getfield 87, 3) := by decide +kernel
theorem dX12_clauseHere_9 : decode cX12_clauseHere 9 = .ok (.istore_n 1, 1) := by decide +kernel
theorem dX12_clauseHere_10 : decode cX12_clauseHere 10 = .ok (.aload_n 0, 1) := by decide +kernel
theorem dX12_clauseHere_11 : decode cX12_clauseHere 11 = .ok (.getfield 145, 3) := by decide +kernel
theorem dX12_clauseHere_14 : decode cX12_clauseHere 14 = .ok (.bipush 6, 2) := by decide +kernel
theorem dX12_clauseHere_16 : decode cX12_clauseHere 16 = .ok (.if_icmp .ne 7, 3) := by decide +kernel
theorem dX12_clauseHere_23 : decode cX12_clauseHere 23 = .ok (.iconst 0, 1) := by decide +kernel
theorem dX12_clauseHere_24 : decode cX12_clauseHere 24 = .ok (.istore_n 2, 1) := by decide +kernel
theorem dX12_clauseHere_25 : decode cX12_clauseHere 25 = .ok (.iload_n 2, 1) := by decide +kernel
theorem dX12_clauseHere_26 : decode cX12_clauseHere 26 = .ok (.ifCond .eq 13, 3) := by decide +kernel
theorem dX12_clauseHere_39 : decode cX12_clauseHere 39 = .ok (.aload_n 0, 1) := by decide +kernel
theorem dX12_clauseHere_40 : decode cX12_clauseHere 40 = .ok (.ldc2_w 242, 3) := by decide +kernel
theorem dX12_clauseHere_43 : decode cX12_clauseHere 43 = .ok (.invokevirtual 98, 3) := by decide +kernel
theorem dX12_clauseHere_46 : decode cX12_clauseHere 46 = .ok (.ifCond .ne 10, 3) := by decide +kernel
theorem dX12_clauseHere_49 : decode cX12_clauseHere 49 = .ok (.aload_n 0, 1) := by decide +kernel
theorem dX12_clauseHere_50 : decode cX12_clauseHere 50 = .ok (.iconst 0, 1) := by decide +kernel
theorem dX12_clauseHere_51 : decode cX12_clauseHere 51 = .ok (.iload_n 1, 1) := by decide +kernel
theorem dX12_clauseHere_52 : decode cX12_clauseHere 52 = .ok (.invokevirtual 108, 3) := by decide +kernel
theorem dX12_clauseHere_55 : decode cX12_clauseHere 55 = .ok (.ireturn, 1) := by decide +kernel
theorem dX12_clauseHere_56 : decode cX12_clauseHere 56 = .ok (.aload_n 0, 1) := by decide +kernel
theorem dX12_clauseHere_57 : decode cX12_clauseHere 57 = .ok (.getfield 244, 3) := by decide +kernel
theorem dX12_clauseHere_60 : decode cX12_clauseHere 60 = .ok (.iload_n 2, 1) := by decide +kernel
theorem dX12_clauseHere_61 : decode cX12_clauseHere 61 = .ok (.ifCond .eq 8, 3) := by decide +kernel
theorem dX12_clauseHere_69 : decode cX12_clauseHere 69 = .ok (.bipush 12, 2) := by decide +kernel
theorem dX12_clauseHere_71 : decode cX12_clauseHere 71 = .ok (.if_icmp .ne 10, 3) := by decide +kernel
theorem dX12_clauseHere_74 : decode cX12_clauseHere 74 = .ok (.aload_n 0, 1) := by decide +kernel
theorem dX12_clauseHere_75 : decode cX12_clauseHere 75 = .ok (.iconst 4, 1) := by decide +kernel
theorem dX12_clauseHere_76 : decode cX12_clauseHere 76 = .ok (.iload_n 1, 1) := by decide +kernel
theorem dX12_clauseHere_77 : decode cX12_clauseHere 77 = .ok (.invokevirtual 108, 3) := by decide +kernel
theorem dX12_clauseHere_80 : decode cX12_clauseHere 80 = .ok (.ireturn, 1) := by decide +kernel
theorem dX12_clauseHere_81 : decode cX12_clauseHere 81 = .ok (.aload_n 0, 1) := by decide +kernel
theorem dX12_clauseHere_82 : decode cX12_clauseHere 82 = .ok (.dup, 1) := by decide +kernel
theorem dX12_clauseHere_83 : decode cX12_clauseHere 83 = .ok (.getfield 244, 3) := by decide +kernel
theorem dX12_clauseHere_86 : decode cX12_clauseHere 86 = .ok (.iconst 1, 1) := by decide +kernel
theorem dX12_clauseHere_87 : decode cX12_clauseHere 87 = .ok (.iadd, 1) := by decide +kernel
theorem dX12_clauseHere_88 : decode cX12_clauseHere 88 = .ok (.putfield 244, 3) := by decide +kernel
theorem dX12_clauseHere_91 : decode cX12_clauseHere 91 = .ok (.iload_n 2, 1) := by decide +kernel
theorem dX12_clauseHere_92 : decode cX12_clauseHere 92 = .ok (.ifCond .eq 11, 3) := by decide +kernel
theorem dX12_clauseHere_103 : decode cX12_clauseHere 103 = .ok (.aload_n 0, 1) := by decide +kernel
theorem dX12_clauseHere_104 : decode cX12_clauseHere 104 = .ok (.invokevirtual 250, 3) := by decide +kernel
theorem dX12_clauseHere_107 : decode cX12_clauseHere 107 = .ok (.ireturn, 1) := by decide +kernel
theorem dX12_isBuyHere_0 : decode cX12_isBuyHere 0 = .ok (.aload_n 0, 1) := by decide +kernel
theorem dX12_isBuyHere_1 : decode cX12_isBuyHere 1 = .ok (.invokevirtual 102, 3) := by decide +kernel
theorem dX12_isBuyHere_4 : decode cX12_isBuyHere 4 = .ok (.bipush 48, 2) := by decide +kernel
theorem dX12_isBuyHere_6 : decode cX12_isBuyHere 6 = .ok (.aload_n 0, 1) := by decide +kernel
theorem dX12_isBuyHere_7 : decode cX12_isBuyHere 7 = .ok (.getfield 145, 3) := by decide +kernel
theorem dX12_isBuyHere_10 : decode cX12_isBuyHere 10 = .ok (.imul, 1) := by decide +kernel
theorem dX12_isBuyHere_11 : decode cX12_isBuyHere 11 = .ok (.iconst 4, 1) := by decide +kernel
theorem dX12_isBuyHere_12 : decode cX12_isBuyHere 12 = .ok (.aload_n 0, 1) := by decide +kernel
theorem dX12_isBuyHere_13 : decode cX12_isBuyHere 13 = .ok (.getfield 23, 3) := by decide +kernel
theorem dX12_isBuyHere_16 : decode cX12_isBuyHere 16 = .ok (.aload_n 0, 1) := by decide +kernel
theorem dX12_isBuyHere_17 : decode cX12_isBuyHere 17 = .ok (.getfield 145, 3) := by decide +kernel
theorem dX12_isBuyHere_20 : decode cX12_isBuyHere 20 = .ok (.iaload, 1) := by decide +kernel
theorem dX12_isBuyHere_21 : decode cX12_isBuyHere 21 = .ok (.imul, 1) := by decide +kernel
theorem dX12_isBuyHere_22 : decode cX12_isBuyHere 22 = .ok (.iadd, 1) := by decide +kernel
theorem dX12_isBuyHere_23 : decode cX12_isBuyHere 23 = .ok (.istore_n 1, 1) := by decide +kernel
theorem dX12_isBuyHere_24 : decode cX12_isBuyHere 24 = .ok (.aload_n 0, 1) := by decide +kernel
theorem dX12_isBuyHere_25 : decode cX12_isBuyHere 25 = .ok (.getfield 20, 3) := by decide +kernel
theorem dX12_isBuyHere_28 : decode cX12_isBuyHere 28 = .ok (.iload_n 1, 1) := by decide +kernel
theorem dX12_isBuyHere_29 : decode cX12_isBuyHere 29 = .ok (.aload_n 0, 1) := by decide +kernel
theorem dX12_isBuyHere_30 : decode cX12_isBuyHere 30 = .ok (.getfield 17, 3) := by decide +kernel
theorem dX12_isBuyHere_33 : decode cX12_isBuyHere 33 = .ok (.aload_n 0, 1) := by decide +kernel
theorem dX12_isBuyHere_34 : decode cX12_isBuyHere 34 = .ok (.getfield 145, 3) := by decide +kernel
theorem dX12_isBuyHere_37 : decode cX12_isBuyHere 37 = .ok (.iaload, 1) := by decide +kernel
theorem dX12_isBuyHere_38 : decode cX12_isBuyHere 38 = .ok (.iastore, 1) := by decide +kernel
theorem dX12_isBuyHere_39 : decode cX12_isBuyHere 39 = .ok (.aload_n 0, 1) := by decide +kernel
theorem dX12_isBuyHere_40 : decode cX12_isBuyHere 40 = .ok (.invokevirtual 182, 3) := by decide +kernel
theorem dX12_isBuyHere_43 : decode cX12_isBuyHere 43 = .ok (.ifCond .ne 5, 3) := by decide +kernel
theorem dX12_isBuyHere_46 : decode cX12_isBuyHere 46 = .ok (.iconst 0, 1) := by decide +kernel
theorem dX12_isBuyHere_47 : decode cX12_isBuyHere 47 = .ok (.ireturn, 1) := by decide +kernel
theorem dX12_isBuyHere_48 : decode cX12_isBuyHere 48 = .ok (.aload_n 0, 1) := by decide +kernel
theorem dX12_isBuyHere_49 : decode cX12_isBuyHere 49 = .ok (.getfield 20, 3) := by decide +kernel
theorem dX12_isBuyHere_52 : decode cX12_isBuyHere 52 = .ok (.iload_n 1, 1) := by decide +kernel
theorem dX12_isBuyHere_53 : decode cX12_isBuyHere 53 = .ok (.iconst 1, 1) := by decide +kernel
theorem dX12_isBuyHere_54 : decode cX12_isBuyHere 54 = .ok (.iadd, 1) := by decide +kernel
theorem dX12_isBuyHere_55 : decode cX12_isBuyHere 55 = .ok (.aload_n 0, 1) := by decide +kernel
theorem dX12_isBuyHere_56 : decode cX12_isBuyHere 56 = .ok (.getfield 17, 3) := by decide +kernel
theorem dX12_isBuyHere_59 : decode cX12_isBuyHere 59 = .ok (.aload_n 0, 1) := by decide +kernel
theorem dX12_isBuyHere_60 : decode cX12_isBuyHere 60 = .ok (.getfield 145, 3) := by decide +kernel
theorem dX12_isBuyHere_63 : decode cX12_isBuyHere 63 = .ok (.iaload, 1) := by decide +kernel
theorem dX12_isBuyHere_64 : decode cX12_isBuyHere 64 = .ok (.iastore, 1) := by decide +kernel
theorem dX12_isBuyHere_65 : decode cX12_isBuyHere 65 = .ok (.aload_n 0, 1) := by decide +kernel
theorem dX12_isBuyHere_66 : decode cX12_isBuyHere 66 = .ok (.getfield 20, 3) := by decide +kernel
theorem dX12_isBuyHere_69 : decode cX12_isBuyHere 69 = .ok (.iload_n 1, 1) := by decide +kernel
theorem dX12_isBuyHere_70 : decode cX12_isBuyHere 70 = .ok (.iconst 2, 1) := by decide +kernel
theorem dX12_isBuyHere_71 : decode cX12_isBuyHere 71 = .ok (.iadd, 1) := by decide +kernel
theorem dX12_isBuyHere_72 : decode cX12_isBuyHere 72 = .ok (.iconst (-1), 1) := by decide +kernel
theorem dX12_isBuyHere_73 : decode cX12_isBuyHere 73 = .ok (.iastore, 1) := by decide +kernel
theorem dX12_isBuyHere_74 : decode cX12_isBuyHere 74 = .ok (.aload_n 0, 1) := by decide +kernel
theorem dX12_isBuyHere_75 : decode cX12_isBuyHere 75 = .ok (.ldc2_w 209, 3) := by decide +kernel
theorem dX12_isBuyHere_78 : decode cX12_isBuyHere 78 = .ok (.invokevirtual 211, 3) := by decide +kernel
theorem dX12_isBuyHere_81 : decode cX12_isBuyHere 81 = .ok (.ifCond .eq 29, 3) := by decide +kernel
theorem dX12_isBuyHere_84 : decode cX12_isBuyHere 84 = .ok (.aload_n 0, 1) := by decide +kernel
theorem dX12_isBuyHere_85 : decode cX12_isBuyHere 85 = .ok (.getfield 20, 3) := by decide +kernel
theorem dX12_isBuyHere_88 : decode cX12_isBuyHere 88 = .ok (.iload_n 1, 1) := by decide +kernel
theorem dX12_isBuyHere_89 : decode cX12_isBuyHere 89 = .ok (.iconst 2, 1) := by decide +kernel
theorem dX12_isBuyHere_90 : decode cX12_isBuyHere 90 = .ok (.iadd, 1) := by decide +kernel
theorem dX12_isBuyHere_91 : decode cX12_isBuyHere 91 = .ok (.aload_n 0, 1) := by decide +kernel
theorem dX12_isBuyHere_92 : decode cX12_isBuyHere 92 = .ok (.getfield 17, 3) := by decide +kernel
theorem dX12_isBuyHere_95 : decode cX12_isBuyHere 95 = .ok (.aload_n 0, 1) := by decide +kernel
theorem dX12_isBuyHere_96 : decode cX12_isBuyHere 96 = .ok (.getfield 145, 3) := by decide +kernel
theorem dX12_isBuyHere_99 : decode cX12_isBuyHere 99 = .ok (.iaload, 1) := by decide +kernel
theorem dX12_isBuyHere_100 : decode cX12_isBuyHere 100 = .ok (.iastore, 1) := by decide +kernel
theorem dX12_isBuyHere_101 : decode cX12_isBuyHere 101 = .ok (.aload_n 0, 1) := by decide +kernel
theorem dX12_isBuyHere_102 : decode cX12_isBuyHere 102 = .ok (.invokevirtual 214, 3) := by decide +kernel
theorem dX12_isBuyHere_105 : decode cX12_isBuyHere 105 = .ok (.ifCond .ne 5, 3) := by decide +kernel
theorem dX12_isBuyHere_108 : decode cX12_isBuyHere 108 = .ok (.iconst 0, 1) := by decide +kernel
theorem dX12_isBuyHere_109 : decode cX12_isBuyHere 109 = .ok (.ireturn, 1) := by decide +kernel
theorem dX12_isBuyHere_110 : decode cX12_isBuyHere 110 = .ok (.aload_n 0, 1) := by decide +kernel
theorem dX12_isBuyHere_111 : decode cX12_isBuyHere 111 = .ok (.getfield 20, 3) := by decide +kernel
theorem dX12_isBuyHere_114 : decode cX12_isBuyHere 114 = .ok (.iload_n 1, 1) := by decide +kernel
theorem dX12_isBuyHere_115 : decode cX12_isBuyHere 115 = .ok (.iconst 3, 1) := by decide +kernel
theorem dX12_isBuyHere_116 : decode cX12_isBuyHere 116 = .ok (.iadd, 1) := by decide +kernel
theorem dX12_isBuyHere_117 : decode cX12_isBuyHere 117 = .ok (.aload_n 0, 1) := by decide +kernel
theorem dX12_isBuyHere_118 : decode cX12_isBuyHere 118 = .ok (.getfield 17, 3) := by decide +kernel
theorem dX12_isBuyHere_121 : decode cX12_isBuyHere 121 = .ok (.aload_n 0, 1) := by decide +kernel
theorem dX12_isBuyHere_122 : decode cX12_isBuyHere 122 = .ok (.getfield 145, 3) := by decide +kernel
theorem dX12_isBuyHere_125 : decode cX12_isBuyHere 125 = .ok (.iaload, 1) := by decide +kernel
theorem dX12_isBuyHere_126 : decode cX12_isBuyHere 126 = .ok (.iastore, 1) := by decide +kernel
theorem dX12_isBuyHere_127 : decode cX12_isBuyHere 127 = .ok (.aload_n 0, 1) := by decide +kernel
theorem dX12_isBuyHere_128 : decode cX12_isBuyHere 128 = .ok (.getfield 23, 3) := by decide +kernel
theorem dX12_isBuyHere_131 : decode cX12_isBuyHere 131 = .ok (.aload_n 0, 1) := by decide +kernel
theorem dX12_isBuyHere_132 : decode cX12_isBuyHere 132 = .ok (.getfield 145, 3) := by decide +kernel
theorem dX12_isBuyHere_135 : decode cX12_isBuyHere 135 = .ok (.dup2, 1) := by decide +kernel
theorem dX12_isBuyHere_136 : decode cX12_isBuyHere 136 = .ok (.iaload, 1) := by decide +kernel
theorem dX12_isBuyHere_137 : decode cX12_isBuyHere 137 = .ok (.iconst 1, 1) := by decide +kernel
theorem dX12_isBuyHere_138 : decode cX12_isBuyHere 138 = .ok (.iadd, 1) := by decide +kernel
theorem dX12_isBuyHere_139 : decode cX12_isBuyHere 139 = .ok (.iastore, 1) := by decide +kernel
theorem dX12_isBuyHere_140 : decode cX12_isBuyHere 140 = .ok (.iconst 1, 1) := by decide +kernel
theorem dX12_isBuyHere_141 : decode cX12_isBuyHere 141 = .ok (.ireturn, 1) := by decide +kernel
theorem dX12_readsAll_0 : decode cX12_readsAll 0 = .ok (.aload_n 0, 1) := by decide +kernel
theorem dX12_readsAll_1 : decode cX12_readsAll 1 = .ok (.getfield 17, 3) := by decide +kernel
theorem dX12_readsAll_4 : decode cX12_readsAll 4 = .ok (.aload_n 0, 1) := by decide +kernel
theorem dX12_readsAll_5 : decode cX12_readsAll 5 = .ok (.getfield 145, 3) := by decide +kernel
theorem dX12_readsAll_8 : decode cX12_readsAll 8 = .ok (.iconst 0, 1) := by decide +kernel
theorem dX12_readsAll_9 : decode cX12_readsAll 9 = .ok (.iastore, 1) := by decide +kernel
theorem dX12_readsAll_10 : decode cX12_readsAll 10 = .ok (.aload_n 0, 1) := by decide +kernel
theorem dX12_readsAll_11 : decode cX12_readsAll 11 = .ok (.iconst 0, 1) := by decide +kernel
theorem dX12_readsAll_12 : decode cX12_readsAll 12 = .ok (.putfield 244, 3) := by decide +kernel
theorem dX12_readsAll_15 : decode cX12_readsAll 15 = .ok (.aload_n 0, 1) := by decide +kernel
theorem dX12_readsAll_16 : decode cX12_readsAll 16 = .ok (.iconst 0, 1) := by decide +kernel
theorem dX12_readsAll_17 : decode cX12_readsAll 17 = .ok (.putfield 87, 3) := by decide +kernel
theorem dX12_readsAll_20 : decode cX12_readsAll 20 = .ok (.aload_n 0, 1) := by decide +kernel
theorem dX12_readsAll_21 : decode cX12_readsAll 21 = .ok (.iconst 0, 1) := by decide +kernel
theorem dX12_readsAll_22 : decode cX12_readsAll 22 = .ok (.putfield 84, 3) := by decide +kernel
theorem dX12_readsAll_25 : decode cX12_readsAll 25 = .ok (.aload_n 0, 1) := by decide +kernel
theorem dX12_readsAll_26 : decode cX12_readsAll 26 = .ok (.iconst 0, 1) := by decide +kernel
theorem dX12_readsAll_27 : decode cX12_readsAll 27 = .ok (.putfield 148, 3) := by decide +kernel
theorem dX12_readsAll_30 : decode cX12_readsAll 30 = .ok (.aload_n 0, 1) := by decide +kernel
theorem dX12_readsAll_31 : decode cX12_readsAll 31 = .ok (.invokevirtual 253, 3) := by decide +kernel
theorem dX12_readsAll_34 : decode cX12_readsAll 34 = .ok (.istore_n 1, 1) := by decide +kernel
theorem dX12_readsAll_35 : decode cX12_readsAll 35 = .ok (.iload_n 1, 1) := by decide +kernel
theorem dX12_readsAll_36 : decode cX12_readsAll 36 = .ok (.ifCond .eq 30, 3) := by decide +kernel
theorem dX12_readsAll_39 : decode cX12_readsAll 39 = .ok (.aload_n 0, 1) := by decide +kernel
theorem dX12_readsAll_40 : decode cX12_readsAll 40 = .ok (.invokevirtual 90, 3) := by decide +kernel
theorem dX12_readsAll_43 : decode cX12_readsAll 43 = .ok (.bipush 59, 2) := by decide +kernel
theorem dX12_readsAll_45 : decode cX12_readsAll 45 = .ok (.if_icmp .ne 21, 3) := by decide +kernel
theorem dX12_readsAll_48 : decode cX12_readsAll 48 = .ok (.aload_n 0, 1) := by decide +kernel
theorem dX12_readsAll_49 : decode cX12_readsAll 49 = .ok (.dup, 1) := by decide +kernel
theorem dX12_readsAll_50 : decode cX12_readsAll 50 = .ok (.getfield 87, 3) := by decide +kernel
theorem dX12_readsAll_53 : decode cX12_readsAll 53 = .ok (.iconst 1, 1) := by decide +kernel
theorem dX12_readsAll_54 : decode cX12_readsAll 54 = .ok (.iadd, 1) := by decide +kernel
theorem dX12_readsAll_55 : decode cX12_readsAll 55 = .ok (.putfield 87, 3) := by decide +kernel
theorem dX12_readsAll_58 : decode cX12_readsAll 58 = .ok (.aload_n 0, 1) := by decide +kernel
theorem dX12_readsAll_59 : decode cX12_readsAll 59 = .ok (.invokevirtual 253, 3) := by decide +kernel
theorem dX12_readsAll_62 : decode cX12_readsAll 62 = .ok (.istore_n 1, 1) := by decide +kernel
theorem dX12_readsAll_63 : decode cX12_readsAll 63 = .ok (.goto (-28), 3) := by decide +kernel
theorem dX12_readsAll_66 : decode cX12_readsAll 66 = .ok (.iload_n 1, 1) := by decide +kernel
theorem dX12_readsAll_67 : decode cX12_readsAll 67 = .ok (.ifCond .eq 21, 3) := by decide +kernel
theorem dX12_readsAll_70 : decode cX12_readsAll 70 = .ok (.aload_n 0, 1) := by decide +kernel
theorem dX12_readsAll_71 : decode cX12_readsAll 71 = .ok (.invokevirtual 90, 3) := by decide +kernel
theorem dX12_readsAll_74 : decode cX12_readsAll 74 = .ok (.iconst (-1), 1) := by decide +kernel
theorem dX12_readsAll_75 : decode cX12_readsAll 75 = .ok (.if_icmp .eq 13, 3) := by decide +kernel
theorem dX12_readsAll_78 : decode cX12_readsAll 78 = .ok (.aload_n 0, 1) := by decide +kernel
theorem dX12_readsAll_79 : decode cX12_readsAll 79 = .ok (.iconst 0, 1) := by decide +kernel
theorem dX12_readsAll_80 : decode cX12_readsAll 80 = .ok (.aload_n 0, 1) := by decide +kernel
theorem dX12_readsAll_81 : decode cX12_readsAll 81 = .ok (.getfield 87, 3) := by decide +kernel
theorem dX12_readsAll_84 : decode cX12_readsAll 84 = .ok (.invokevirtual 108, 3) := by decide +kernel
theorem dX12_readsAll_87 : decode cX12_readsAll 87 = .ok (.pop, 1) := by decide +kernel
theorem dX12_readsAll_88 : decode cX12_readsAll 88 = .ok (.aload_n 0, 1) := by decide +kernel
theorem dX12_readsAll_89 : decode cX12_readsAll 89 = .ok (.iconst 0, 1) := by decide +kernel
theorem dX12_readsAll_90 : decode cX12_readsAll 90 = .ok (.putfield 77, 3) := by decide +kernel
theorem dX12_readsAll_93 : decode cX12_readsAll 93 = .ok (.aload_n 0, 1) := by decide +kernel
theorem dX12_readsAll_94 : decode cX12_readsAll 94 = .ok (.getfield 84, 3) := by decide +kernel
theorem dX12_readsAll_97 : decode cX12_readsAll 97 = .ok (.ifCond .ne 7, 3) := by decide +kernel
theorem dX12_readsAll_100 : decode cX12_readsAll 100 = .ok (.iconst 1, 1) := by decide +kernel
theorem dX12_readsAll_101 : decode cX12_readsAll 101 = .ok (.goto 4, 3) := by decide +kernel
theorem dX12_readsAll_104 : decode cX12_readsAll 104 = .ok (.iconst 0, 1) := by decide +kernel
theorem dX12_readsAll_105 : decode cX12_readsAll 105 = .ok (.ireturn, 1) := by decide +kernel
theorem dX12_rule_0 : decode cX12_rule 0 = .ok (.aload_n 0, 1) := by decide +kernel
theorem dX12_rule_1 : decode cX12_rule 1 = .ok (.getfield 256, 3) := by decide +kernel
theorem dX12_rule_4 : decode cX12_rule 4 = .ok (.bipush 6, 2) := by decide +kernel
theorem dX12_rule_6 : decode cX12_rule 6 = .ok (.if_icmp .ne 5, 3) := by decide +kernel
theorem dX12_rule_9 : decode cX12_rule 9 = .ok (.iconst (-1), 1) := by decide +kernel
theorem dX12_rule_10 : decode cX12_rule 10 = .ok (.ireturn, 1) := by decide +kernel
theorem dX12_rule_11 : decode cX12_rule 11 = .ok (.aload_n 0, 1) := by decide +kernel
theorem dX12_rule_12 : decode cX12_rule 12 = .ok (.aload_n 0, 1) := by decide +kernel
theorem dX12_rule_13 : decode cX12_rule 13 = .ok (.getfield 256, 3) := by decide +kernel
theorem dX12_rule_16 : decode cX12_rule 16 = .ok (.putfield 145, 3) := by decide +kernel
theorem dX12_rule_19 : decode cX12_rule 19 = .ok (.aload_n 0, 1) := by decide +kernel
theorem dX12_rule_20 : decode cX12_rule 20 = .ok (.getfield 23, 3) := by decide +kernel
theorem dX12_rule_23 : decode cX12_rule 23 = .ok (.aload_n 0, 1) := by decide +kernel
theorem dX12_rule_24 : decode cX12_rule 24 = .ok (.getfield 145, 3) := by decide +kernel
theorem dX12_rule_27 : decode cX12_rule 27 = .ok (.iconst 0, 1) := by decide +kernel
theorem dX12_rule_28 : decode cX12_rule 28 = .ok (.iastore, 1) := by decide +kernel
theorem dX12_rule_29 : decode cX12_rule 29 = .ok (.aload_n 0, 1) := by decide +kernel
theorem dX12_rule_30 : decode cX12_rule 30 = .ok (.invokevirtual 259, 3) := by decide +kernel
theorem dX12_rule_33 : decode cX12_rule 33 = .ok (.ifCond .ne 11, 3) := by decide +kernel
theorem dX12_rule_36 : decode cX12_rule 36 = .ok (.bipush (-2), 2) := by decide +kernel
theorem dX12_rule_38 : decode cX12_rule 38 = .ok (.aload_n 0, 1) := by decide +kernel
theorem dX12_rule_39 : decode cX12_rule 39 = .ok (.getfield 84, 3) := by decide +kernel
theorem dX12_rule_42 : decode cX12_rule 42 = .ok (.isub, 1) := by decide +kernel
theorem dX12_rule_43 : decode cX12_rule 43 = .ok (.ireturn, 1) := by decide +kernel
theorem dX12_rule_44 : decode cX12_rule 44 = .ok (.aload_n 0, 1) := by decide +kernel
theorem dX12_rule_45 : decode cX12_rule 45 = .ok (.dup, 1) := by decide +kernel
theorem dX12_rule_46 : decode cX12_rule 46 = .ok (.getfield 256, 3) := by decide +kernel
theorem dX12_rule_49 : decode cX12_rule 49 = .ok (.iconst 1, 1) := by decide +kernel
theorem dX12_rule_50 : decode cX12_rule 50 = .ok (.iadd, 1) := by decide +kernel
theorem dX12_rule_51 : decode cX12_rule 51 = .ok (.putfield 256, 3) := by decide +kernel
theorem dX12_rule_54 : decode cX12_rule 54 = .ok (.aload_n 0, 1) := by decide +kernel
theorem dX12_rule_55 : decode cX12_rule 55 = .ok (.getfield 256, 3) := by decide +kernel
theorem dX12_rule_58 : decode cX12_rule 58 = .ok (.iconst 1, 1) := by decide +kernel
theorem dX12_rule_59 : decode cX12_rule 59 = .ok (.isub, 1) := by decide +kernel
theorem dX12_rule_60 : decode cX12_rule 60 = .ok (.ireturn, 1) := by decide +kernel
theorem dX12_book_0 : decode cX12_book 0 = .ok (.aload_n 0, 1) := by decide +kernel
theorem dX12_book_1 : decode cX12_book 1 = .ok (.bipush 6, 2) := by decide +kernel
theorem dX12_book_3 : decode cX12_book 3 = .ok (.putfield 145, 3) := by decide +kernel
theorem dX12_book_6 : decode cX12_book 6 = .ok (.iconst 0, 1) := by decide +kernel
theorem dX12_book_7 : decode cX12_book 7 = .ok (.istore_n 1, 1) := by decide +kernel
theorem dX12_book_8 : decode cX12_book 8 = .ok (.iload_n 1, 1) := by decide +kernel
theorem dX12_book_9 : decode cX12_book 9 = .ok (.bipush 95, 2) := by decide +kernel
theorem dX12_book_11 : decode cX12_book 11 = .ok (.if_icmp .ge 16, 3) := by decide +kernel
theorem dX12_book_14 : decode cX12_book 14 = .ok (.aload_n 0, 1) := by decide +kernel
theorem dX12_book_15 : decode cX12_book 15 = .ok (.getfield 26, 3) := by decide +kernel
theorem dX12_book_18 : decode cX12_book 18 = .ok (.iload_n 1, 1) := by decide +kernel
theorem dX12_book_19 : decode cX12_book 19 = .ok (.iconst 0, 1) := by decide +kernel
theorem dX12_book_20 : decode cX12_book 20 = .ok (.iastore, 1) := by decide +kernel
theorem dX12_book_21 : decode cX12_book 21 = .ok (.iinc 1 1, 3) := by decide +kernel
theorem dX12_book_24 : decode cX12_book 24 = .ok (.goto (-16), 3) := by decide +kernel
theorem dX12_book_27 : decode cX12_book 27 = .ok (.aload_n 0, 1) := by decide +kernel
theorem dX12_book_28 : decode cX12_book 28 = .ok (.invokevirtual 259, 3) := by decide +kernel
theorem dX12_book_31 : decode cX12_book 31 = .ok (.ifCond .ne 11, 3) := by decide +kernel
theorem dX12_book_34 : decode cX12_book 34 = .ok (.bipush (-2), 2) := by decide +kernel
theorem dX12_book_36 : decode cX12_book 36 = .ok (.aload_n 0, 1) := by decide +kernel
theorem dX12_book_37 : decode cX12_book 37 = .ok (.getfield 84, 3) := by decide +kernel
theorem dX12_book_40 : decode cX12_book 40 = .ok (.isub, 1) := by decide +kernel
theorem dX12_book_41 : decode cX12_book 41 = .ok (.ireturn, 1) := by decide +kernel
theorem dX12_book_42 : decode cX12_book 42 = .ok (.iconst 0, 1) := by decide +kernel
theorem dX12_book_43 : decode cX12_book 43 = .ok (.istore_n 1, 1) := by decide +kernel
theorem dX12_book_44 : decode cX12_book 44 = .ok (.iload_n 1, 1) := by decide +kernel
theorem dX12_book_45 : decode cX12_book 45 = .ok (.bipush 126, 2) := by decide +kernel
theorem dX12_book_47 : decode cX12_book 47 = .ok (.if_icmp .ge 31, 3) := by decide +kernel
theorem dX12_book_50 : decode cX12_book 50 = .ok (.aload_n 0, 1) := by decide +kernel
theorem dX12_book_51 : decode cX12_book 51 = .ok (.getfield 39, 3) := by decide +kernel
theorem dX12_book_54 : decode cX12_book 54 = .ok (.iload_n 1, 1) := by decide +kernel
theorem dX12_book_55 : decode cX12_book 55 = .ok (.iload_n 1, 1) := by decide +kernel
theorem dX12_book_56 : decode cX12_book 56 = .ok (.bipush 95, 2) := by decide +kernel
theorem dX12_book_58 : decode cX12_book 58 = .ok (.if_icmp .ge 12, 3) := by decide +kernel
theorem dX12_book_61 : decode cX12_book 61 = .ok (.aload_n 0, 1) := by decide +kernel
theorem dX12_book_62 : decode cX12_book 62 = .ok (.getfield 26, 3) := by decide +kernel
theorem dX12_book_65 : decode cX12_book 65 = .ok (.iload_n 1, 1) := by decide +kernel
theorem dX12_book_66 : decode cX12_book 66 = .ok (.iaload, 1) := by decide +kernel
theorem dX12_book_67 : decode cX12_book 67 = .ok (.goto 4, 3) := by decide +kernel
theorem dX12_book_70 : decode cX12_book 70 = .ok (.iconst 0, 1) := by decide +kernel
theorem dX12_book_71 : decode cX12_book 71 = .ok (.iastore, 1) := by decide +kernel
theorem dX12_book_72 : decode cX12_book 72 = .ok (.iinc 1 1, 3) := by decide +kernel
theorem dX12_book_75 : decode cX12_book 75 = .ok (.goto (-31), 3) := by decide +kernel
theorem dX12_book_78 : decode cX12_book 78 = .ok (.aload_n 0, 1) := by decide +kernel
theorem dX12_book_79 : decode cX12_book 79 = .ok (.invokevirtual 262, 3) := by decide +kernel
theorem dX12_book_82 : decode cX12_book 82 = .ok (.aload_n 0, 1) := by decide +kernel
theorem dX12_book_83 : decode cX12_book 83 = .ok (.iconst 0, 1) := by decide +kernel
theorem dX12_book_84 : decode cX12_book 84 = .ok (.putfield 265, 3) := by decide +kernel
theorem dX12_book_87 : decode cX12_book 87 = .ok (.aload_n 0, 1) := by decide +kernel
theorem dX12_book_88 : decode cX12_book 88 = .ok (.getfield 39, 3) := by decide +kernel
theorem dX12_book_91 : decode cX12_book 91 = .ok (.iconst 3, 1) := by decide +kernel
theorem dX12_book_92 : decode cX12_book 92 = .ok (.iaload, 1) := by decide +kernel
theorem dX12_book_93 : decode cX12_book 93 = .ok (.ireturn, 1) := by decide +kernel
theorem dX12_bookLineHere_0 : decode cX12_bookLineHere 0 = .ok (.aload_n 0, 1) := by decide +kernel
theorem dX12_bookLineHere_1 : decode cX12_bookLineHere 1 = .ok (.ldc2_w 221, 3) := by decide +kernel
theorem dX12_bookLineHere_4 : decode cX12_bookLineHere 4 = .ok (.invokevirtual 98, 3) := by decide +kernel
theorem dX12_bookLineHere_7 : decode cX12_bookLineHere 7 = .ok (.ifCond .eq 9, 3) := by decide +kernel
theorem dX12_bookLineHere_10 : decode cX12_bookLineHere 10 = .ok (.aload_n 0, 1) := by decide +kernel
theorem dX12_bookLineHere_11 : decode cX12_bookLineHere 11 = .ok (.iload_n 1, 1) := by decide +kernel
theorem dX12_bookLineHere_12 : decode cX12_bookLineHere 12 = .ok (.invokevirtual 223, 3) := by decide +kernel
theorem dX12_bookLineHere_15 : decode cX12_bookLineHere 15 = .ok (.ireturn, 1) := by decide +kernel
theorem dX12_bookLineHere_16 : decode cX12_bookLineHere 16 = .ok (.aload_n 0, 1) := by decide +kernel
theorem dX12_bookLineHere_17 : decode cX12_bookLineHere 17 = .ok (.getfield 26, 3) := by decide +kernel
theorem dX12_bookLineHere_20 : decode cX12_bookLineHere 20 = .ok (.iconst 0, 1) := by decide +kernel
theorem dX12_bookLineHere_21 : decode cX12_bookLineHere 21 = .ok (.iaload, 1) := by decide +kernel
theorem dX12_bookLineHere_22 : decode cX12_bookLineHere 22 = .ok (.ifCond .ne 10, 3) := by decide +kernel
theorem dX12_bookLineHere_25 : decode cX12_bookLineHere 25 = .ok (.aload_n 0, 1) := by decide +kernel
theorem dX12_bookLineHere_26 : decode cX12_bookLineHere 26 = .ok (.iconst 4, 1) := by decide +kernel
theorem dX12_bookLineHere_27 : decode cX12_bookLineHere 27 = .ok (.iload_n 1, 1) := by decide +kernel
theorem dX12_bookLineHere_28 : decode cX12_bookLineHere 28 = .ok (.invokevirtual 108, 3) := by decide +kernel
theorem dX12_bookLineHere_31 : decode cX12_bookLineHere 31 = .ok (.ireturn, 1) := by decide +kernel
theorem dX12_bookLineHere_32 : decode cX12_bookLineHere 32 = .ok (.aload_n 0, 1) := by decide +kernel
theorem dX12_bookLineHere_33 : decode cX12_bookLineHere 33 = .ok (.ldc2_w 226, 3) := by decide +kernel
theorem dX12_bookLineHere_36 : decode cX12_bookLineHere 36 = .ok (.invokevirtual 98, 3) := by decide +kernel
theorem dX12_bookLineHere_39 : decode cX12_bookLineHere 39 = .ok (.ifCond .eq 8, 3) := by decide +kernel
theorem dX12_bookLineHere_42 : decode cX12_bookLineHere 42 = .ok (.aload_n 0, 1) := by decide +kernel
theorem dX12_bookLineHere_43 : decode cX12_bookLineHere 43 = .ok (.invokevirtual 228, 3) := by decide +kernel
theorem dX12_bookLineHere_46 : decode cX12_bookLineHere 46 = .ok (.ireturn, 1) := by decide +kernel
theorem dX12_bookLineHere_47 : decode cX12_bookLineHere 47 = .ok (.aload_n 0, 1) := by decide +kernel
theorem dX12_bookLineHere_48 : decode cX12_bookLineHere 48 = .ok (.ldc2_w 119, 3) := by decide +kernel
theorem dX12_bookLineHere_51 : decode cX12_bookLineHere 51 = .ok (.invokevirtual 98, 3) := by decide +kernel
theorem dX12_bookLineHere_54 : decode cX12_bookLineHere 54 = .ok (.ifCond .eq 11, 3) := by decide +kernel
theorem dX12_bookLineHere_57 : decode cX12_bookLineHere 57 = .ok (.aload_n 0, 1) := by decide +kernel
theorem dX12_bookLineHere_58 : decode cX12_bookLineHere 58 = .ok (.iload_n 1, 1) := by decide +kernel
theorem dX12_bookLineHere_59 : decode cX12_bookLineHere 59 = .ok (.invokevirtual 231, 3) := by decide +kernel
theorem dX12_bookLineHere_62 : decode cX12_bookLineHere 62 = .ok (.goto 7, 3) := by decide +kernel
theorem dX12_bookLineHere_65 : decode cX12_bookLineHere 65 = .ok (.aload_n 0, 1) := by decide +kernel
theorem dX12_bookLineHere_66 : decode cX12_bookLineHere 66 = .ok (.invokevirtual 234, 3) := by decide +kernel
theorem dX12_bookLineHere_69 : decode cX12_bookLineHere 69 = .ok (.ireturn, 1) := by decide +kernel
theorem dX12_cellHere_0 : decode cX12_cellHere 0 = .ok (.aload_n 0, 1) := by decide +kernel
theorem dX12_cellHere_1 : decode cX12_cellHere 1 = .ok (.iload_n 2, 1) := by decide +kernel
theorem dX12_cellHere_2 : decode cX12_cellHere 2 = .ok (.iload_n 3, 1) := by decide +kernel
theorem dX12_cellHere_3 : decode cX12_cellHere 3 = .ok (.invokevirtual 166, 3) := by decide +kernel
theorem dX12_cellHere_6 : decode cX12_cellHere 6 = .ok (.ifCond .ne 5, 3) := by decide +kernel
theorem dX12_cellHere_9 : decode cX12_cellHere 9 = .ok (.iconst 0, 1) := by decide +kernel
theorem dX12_cellHere_10 : decode cX12_cellHere 10 = .ok (.ireturn, 1) := by decide +kernel
theorem dX12_cellHere_11 : decode cX12_cellHere 11 = .ok (.aload_n 0, 1) := by decide +kernel
theorem dX12_cellHere_12 : decode cX12_cellHere 12 = .ok (.getfield 26, 3) := by decide +kernel
theorem dX12_cellHere_15 : decode cX12_cellHere 15 = .ok (.iload_n 1, 1) := by decide +kernel
theorem dX12_cellHere_16 : decode cX12_cellHere 16 = .ok (.aload_n 0, 1) := by decide +kernel
theorem dX12_cellHere_17 : decode cX12_cellHere 17 = .ok (.getfield 112, 3) := by decide +kernel
theorem dX12_cellHere_20 : decode cX12_cellHere 20 = .ok (.iastore, 1) := by decide +kernel
theorem dX12_cellHere_21 : decode cX12_cellHere 21 = .ok (.iconst 1, 1) := by decide +kernel
theorem dX12_cellHere_22 : decode cX12_cellHere 22 = .ok (.ireturn, 1) := by decide +kernel
theorem dX12_clauseHere_19 : decode cX12_clauseHere 19 = .ok (.iconst 1, 1) := by decide +kernel
theorem dX12_clauseHere_20 : decode cX12_clauseHere 20 = .ok (.goto 4, 3) := by decide +kernel
theorem dX12_clauseHere_29 : decode cX12_clauseHere 29 = .ok (.aload_n 0, 1) := by decide +kernel
theorem dX12_clauseHere_30 : decode cX12_clauseHere 30 = .ok (.invokevirtual 239, 3) := by decide +kernel
theorem dX12_clauseHere_33 : decode cX12_clauseHere 33 = .ok (.ifCond .ne 23, 3) := by decide +kernel
theorem dX12_clauseHere_36 : decode cX12_clauseHere 36 = .ok (.goto 13, 3) := by decide +kernel
theorem dX12_clauseHere_64 : decode cX12_clauseHere 64 = .ok (.bipush 40, 2) := by decide +kernel
theorem dX12_clauseHere_66 : decode cX12_clauseHere 66 = .ok (.goto 5, 3) := by decide +kernel
theorem dX12_clauseHere_95 : decode cX12_clauseHere 95 = .ok (.aload_n 0, 1) := by decide +kernel
theorem dX12_clauseHere_96 : decode cX12_clauseHere 96 = .ok (.iload_n 1, 1) := by decide +kernel
theorem dX12_clauseHere_97 : decode cX12_clauseHere 97 = .ok (.invokevirtual 247, 3) := by decide +kernel
theorem dX12_clauseHere_100 : decode cX12_clauseHere 100 = .ok (.goto 7, 3) := by decide +kernel
theorem dX12_isBookHere_0 : decode cX12_isBookHere 0 = .ok (.aload_n 0, 1) := by decide +kernel
theorem dX12_isBookHere_1 : decode cX12_isBookHere 1 = .ok (.getfield 26, 3) := by decide +kernel
theorem dX12_isBookHere_4 : decode cX12_isBookHere 4 = .ok (.iconst 0, 1) := by decide +kernel
theorem dX12_isBookHere_5 : decode cX12_isBookHere 5 = .ok (.iaload, 1) := by decide +kernel
theorem dX12_isBookHere_6 : decode cX12_isBookHere 6 = .ok (.ifCond .le 10, 3) := by decide +kernel
theorem dX12_isBookHere_9 : decode cX12_isBookHere 9 = .ok (.aload_n 0, 1) := by decide +kernel
theorem dX12_isBookHere_10 : decode cX12_isBookHere 10 = .ok (.iconst 4, 1) := by decide +kernel
theorem dX12_isBookHere_11 : decode cX12_isBookHere 11 = .ok (.iload_n 1, 1) := by decide +kernel
theorem dX12_isBookHere_12 : decode cX12_isBookHere 12 = .ok (.invokevirtual 108, 3) := by decide +kernel
theorem dX12_isBookHere_15 : decode cX12_isBookHere 15 = .ok (.ireturn, 1) := by decide +kernel
theorem dX12_isBookHere_16 : decode cX12_isBookHere 16 = .ok (.aload_n 0, 1) := by decide +kernel
theorem dX12_isBookHere_17 : decode cX12_isBookHere 17 = .ok (.invokevirtual 102, 3) := by decide +kernel
theorem dX12_isBookHere_20 : decode cX12_isBookHere 20 = .ok (.aload_n 0, 1) := by decide +kernel
theorem dX12_isBookHere_21 : decode cX12_isBookHere 21 = .ok (.bipush 94, 2) := by decide +kernel
theorem dX12_isBookHere_23 : decode cX12_isBookHere 23 = .ok (.iconst 0, 1) := by decide +kernel
theorem dX12_isBookHere_24 : decode cX12_isBookHere 24 = .ok (.bipush 99, 2) := by decide +kernel
theorem dX12_isBookHere_26 : decode cX12_isBookHere 26 = .ok (.invokevirtual 217, 3) := by decide +kernel
theorem dX12_isBookHere_29 : decode cX12_isBookHere 29 = .ok (.ifCond .eq 25, 3) := by decide +kernel
theorem dX12_isBookHere_32 : decode cX12_isBookHere 32 = .ok (.aload_n 0, 1) := by decide +kernel
theorem dX12_isBookHere_33 : decode cX12_isBookHere 33 = .ok (.iconst 1, 1) := by decide +kernel
theorem dX12_isBookHere_34 : decode cX12_isBookHere 34 = .ok (.iconst 0, 1) := by decide +kernel
theorem dX12_isBookHere_35 : decode cX12_isBookHere 35 = .ok (.bipush 9, 2) := by decide +kernel
theorem dX12_isBookHere_37 : decode cX12_isBookHere 37 = .ok (.invokevirtual 217, 3) := by decide +kernel
theorem dX12_isBookHere_40 : decode cX12_isBookHere 40 = .ok (.ifCond .eq 14, 3) := by decide +kernel
theorem dX12_isBookHere_43 : decode cX12_isBookHere 43 = .ok (.aload_n 0, 1) := by decide +kernel
theorem dX12_isBookHere_44 : decode cX12_isBookHere 44 = .ok (.iconst 2, 1) := by decide +kernel
theorem dX12_isBookHere_45 : decode cX12_isBookHere 45 = .ok (.iconst 1, 1) := by decide +kernel
theorem dX12_isBookHere_46 : decode cX12_isBookHere 46 = .ok (.bipush 10, 2) := by decide +kernel
theorem dX12_isBookHere_48 : decode cX12_isBookHere 48 = .ok (.invokevirtual 217, 3) := by decide +kernel
theorem dX12_isBookHere_51 : decode cX12_isBookHere 51 = .ok (.ifCond .ne 5, 3) := by decide +kernel
theorem dX12_isBookHere_54 : decode cX12_isBookHere 54 = .ok (.iconst 0, 1) := by decide +kernel
theorem dX12_isBookHere_55 : decode cX12_isBookHere 55 = .ok (.ireturn, 1) := by decide +kernel
theorem dX12_isBookHere_56 : decode cX12_isBookHere 56 = .ok (.aload_n 0, 1) := by decide +kernel
theorem dX12_isBookHere_57 : decode cX12_isBookHere 57 = .ok (.getfield 26, 3) := by decide +kernel
theorem dX12_isBookHere_60 : decode cX12_isBookHere 60 = .ok (.iconst 0, 1) := by decide +kernel
theorem dX12_isBookHere_61 : decode cX12_isBookHere 61 = .ok (.iconst 1, 1) := by decide +kernel
theorem dX12_isBookHere_62 : decode cX12_isBookHere 62 = .ok (.iastore, 1) := by decide +kernel
theorem dX12_isBookHere_63 : decode cX12_isBookHere 63 = .ok (.iconst 1, 1) := by decide +kernel
theorem dX12_isBookHere_64 : decode cX12_isBookHere 64 = .ok (.ireturn, 1) := by decide +kernel
theorem dX12_isBookWord_0 : decode cX12_isBookWord 0 = .ok (.aload_n 0, 1) := by decide +kernel
theorem dX12_isBookWord_1 : decode cX12_isBookWord 1 = .ok (.ldc2_w 221, 3) := by decide +kernel
theorem dX12_isBookWord_4 : decode cX12_isBookWord 4 = .ok (.invokevirtual 98, 3) := by decide +kernel
theorem dX12_isBookWord_7 : decode cX12_isBookWord 7 = .ok (.ifCond .ne 33, 3) := by decide +kernel
theorem dX12_isBookWord_10 : decode cX12_isBookWord 10 = .ok (.aload_n 0, 1) := by decide +kernel
theorem dX12_isBookWord_11 : decode cX12_isBookWord 11 = .ok (.ldc2_w 226, 3) := by decide +kernel
theorem dX12_isBookWord_14 : decode cX12_isBookWord 14 = .ok (.invokevirtual 98, 3) := by decide +kernel
theorem dX12_isBookWord_17 : decode cX12_isBookWord 17 = .ok (.ifCond .ne 23, 3) := by decide +kernel
theorem dX12_isBookWord_20 : decode cX12_isBookWord 20 = .ok (.aload_n 0, 1) := by decide +kernel
theorem dX12_isBookWord_21 : decode cX12_isBookWord 21 = .ok (.ldc2_w 119, 3) := by decide +kernel
theorem dX12_isBookWord_24 : decode cX12_isBookWord 24 = .ok (.invokevirtual 98, 3) := by decide +kernel
theorem dX12_isBookWord_27 : decode cX12_isBookWord 27 = .ok (.ifCond .ne 13, 3) := by decide +kernel
theorem dX12_isBookWord_30 : decode cX12_isBookWord 30 = .ok (.aload_n 0, 1) := by decide +kernel
theorem dX12_isBookWord_31 : decode cX12_isBookWord 31 = .ok (.ldc2_w 237, 3) := by decide +kernel
theorem dX12_isBookWord_34 : decode cX12_isBookWord 34 = .ok (.invokevirtual 98, 3) := by decide +kernel
theorem dX12_isBookWord_37 : decode cX12_isBookWord 37 = .ok (.ifCond .eq 7, 3) := by decide +kernel
theorem dX12_isBookWord_40 : decode cX12_isBookWord 40 = .ok (.iconst 1, 1) := by decide +kernel
theorem dX12_isBookWord_41 : decode cX12_isBookWord 41 = .ok (.goto 4, 3) := by decide +kernel
theorem dX12_isBookWord_44 : decode cX12_isBookWord 44 = .ok (.iconst 0, 1) := by decide +kernel
theorem dX12_isBookWord_45 : decode cX12_isBookWord 45 = .ok (.ireturn, 1) := by decide +kernel
theorem dX12_isBuyerHere_0 : decode cX12_isBuyerHere 0 = .ok (.aload_n 0, 1) := by decide +kernel
theorem dX12_isBuyerHere_1 : decode cX12_isBuyerHere 1 = .ok (.getfield 26, 3) := by decide +kernel
theorem dX12_isBuyerHere_4 : decode cX12_isBuyerHere 4 = .ok (.iconst 3, 1) := by decide +kernel
theorem dX12_isBuyerHere_5 : decode cX12_isBuyerHere 5 = .ok (.iaload, 1) := by decide +kernel
theorem dX12_isBuyerHere_6 : decode cX12_isBuyerHere 6 = .ok (.bipush 6, 2) := by decide +kernel
theorem dX12_isBuyerHere_8 : decode cX12_isBuyerHere 8 = .ok (.if_icmp .ne 10, 3) := by decide +kernel
theorem dX12_isBuyerHere_11 : decode cX12_isBuyerHere 11 = .ok (.aload_n 0, 1) := by decide +kernel
theorem dX12_isBuyerHere_12 : decode cX12_isBuyerHere 12 = .ok (.iconst 4, 1) := by decide +kernel
theorem dX12_isBuyerHere_13 : decode cX12_isBuyerHere 13 = .ok (.iload_n 1, 1) := by decide +kernel
theorem dX12_isBuyerHere_14 : decode cX12_isBuyerHere 14 = .ok (.invokevirtual 108, 3) := by decide +kernel
theorem dX12_isBuyerHere_17 : decode cX12_isBuyerHere 17 = .ok (.ireturn, 1) := by decide +kernel
theorem dX12_isBuyerHere_18 : decode cX12_isBuyerHere 18 = .ok (.aload_n 0, 1) := by decide +kernel
theorem dX12_isBuyerHere_19 : decode cX12_isBuyerHere 19 = .ok (.invokevirtual 102, 3) := by decide +kernel
theorem dX12_isBuyerHere_22 : decode cX12_isBuyerHere 22 = .ok (.aload_n 0, 1) := by decide +kernel
theorem dX12_isBuyerHere_23 : decode cX12_isBuyerHere 23 = .ok (.getfield 26, 3) := by decide +kernel
theorem dX12_isBuyerHere_26 : decode cX12_isBuyerHere 26 = .ok (.iconst 3, 1) := by decide +kernel
theorem dX12_isBuyerHere_27 : decode cX12_isBuyerHere 27 = .ok (.iaload, 1) := by decide +kernel
theorem dX12_isBuyerHere_28 : decode cX12_isBuyerHere 28 = .ok (.istore_n 2, 1) := by decide +kernel
theorem dX12_isBuyerHere_29 : decode cX12_isBuyerHere 29 = .ok (.aload_n 0, 1) := by decide +kernel
theorem dX12_isBuyerHere_30 : decode cX12_isBuyerHere 30 = .ok (.bipush 68, 2) := by decide +kernel
theorem dX12_isBuyerHere_32 : decode cX12_isBuyerHere 32 = .ok (.iload_n 2, 1) := by decide +kernel
theorem dX12_isBuyerHere_33 : decode cX12_isBuyerHere 33 = .ok (.iadd, 1) := by decide +kernel
theorem dX12_isBuyerHere_34 : decode cX12_isBuyerHere 34 = .ok (.iconst 0, 1) := by decide +kernel
theorem dX12_isBuyerHere_35 : decode cX12_isBuyerHere 35 = .ok (.bipush 20, 2) := by decide +kernel
theorem dX12_isBuyerHere_37 : decode cX12_isBuyerHere 37 = .ok (.invokevirtual 217, 3) := by decide +kernel
theorem dX12_isBuyerHere_40 : decode cX12_isBuyerHere 40 = .ok (.ifCond .eq 31, 3) := by decide +kernel
theorem dX12_isBuyerHere_43 : decode cX12_isBuyerHere 43 = .ok (.aload_n 0, 1) := by decide +kernel
theorem dX12_isBuyerHere_44 : decode cX12_isBuyerHere 44 = .ok (.bipush 56, 2) := by decide +kernel
theorem dX12_isBuyerHere_46 : decode cX12_isBuyerHere 46 = .ok (.iload_n 2, 1) := by decide +kernel
theorem dX12_isBuyerHere_47 : decode cX12_isBuyerHere 47 = .ok (.iadd, 1) := by decide +kernel
theorem dX12_isBuyerHere_48 : decode cX12_isBuyerHere 48 = .ok (.iconst 1, 1) := by decide +kernel
theorem dX12_isBuyerHere_49 : decode cX12_isBuyerHere 49 = .ok (.bipush 9, 2) := by decide +kernel
theorem dX12_isBuyerHere_51 : decode cX12_isBuyerHere 51 = .ok (.invokevirtual 217, 3) := by decide +kernel
theorem dX12_isBuyerHere_54 : decode cX12_isBuyerHere 54 = .ok (.ifCond .eq 17, 3) := by decide +kernel
theorem dX12_isBuyerHere_57 : decode cX12_isBuyerHere 57 = .ok (.aload_n 0, 1) := by decide +kernel
theorem dX12_isBuyerHere_58 : decode cX12_isBuyerHere 58 = .ok (.bipush 62, 2) := by decide +kernel
theorem dX12_isBuyerHere_60 : decode cX12_isBuyerHere 60 = .ok (.iload_n 2, 1) := by decide +kernel
theorem dX12_isBuyerHere_61 : decode cX12_isBuyerHere 61 = .ok (.iadd, 1) := by decide +kernel
theorem dX12_isBuyerHere_62 : decode cX12_isBuyerHere 62 = .ok (.iconst 0, 1) := by decide +kernel
theorem dX12_isBuyerHere_63 : decode cX12_isBuyerHere 63 = .ok (.bipush 9, 2) := by decide +kernel
theorem dX12_isBuyerHere_65 : decode cX12_isBuyerHere 65 = .ok (.invokevirtual 217, 3) := by decide +kernel
theorem dX12_isBuyerHere_68 : decode cX12_isBuyerHere 68 = .ok (.ifCond .ne 5, 3) := by decide +kernel
theorem dX12_isBuyerHere_71 : decode cX12_isBuyerHere 71 = .ok (.iconst 0, 1) := by decide +kernel
theorem dX12_isBuyerHere_72 : decode cX12_isBuyerHere 72 = .ok (.ireturn, 1) := by decide +kernel
theorem dX12_isBuyerHere_73 : decode cX12_isBuyerHere 73 = .ok (.aload_n 0, 1) := by decide +kernel
theorem dX12_isBuyerHere_74 : decode cX12_isBuyerHere 74 = .ok (.getfield 26, 3) := by decide +kernel
theorem dX12_isBuyerHere_77 : decode cX12_isBuyerHere 77 = .ok (.iconst 3, 1) := by decide +kernel
theorem dX12_isBuyerHere_78 : decode cX12_isBuyerHere 78 = .ok (.dup2, 1) := by decide +kernel
theorem dX12_isBuyerHere_79 : decode cX12_isBuyerHere 79 = .ok (.iaload, 1) := by decide +kernel
theorem dX12_isBuyerHere_80 : decode cX12_isBuyerHere 80 = .ok (.iconst 1, 1) := by decide +kernel
theorem dX12_isBuyerHere_81 : decode cX12_isBuyerHere 81 = .ok (.iadd, 1) := by decide +kernel
theorem dX12_isBuyerHere_82 : decode cX12_isBuyerHere 82 = .ok (.iastore, 1) := by decide +kernel
theorem dX12_isBuyerHere_83 : decode cX12_isBuyerHere 83 = .ok (.iconst 1, 1) := by decide +kernel
theorem dX12_isBuyerHere_84 : decode cX12_isBuyerHere 84 = .ok (.ireturn, 1) := by decide +kernel
theorem dX12_isSkyHere_0 : decode cX12_isSkyHere 0 = .ok (.aload_n 0, 1) := by decide +kernel
theorem dX12_isSkyHere_1 : decode cX12_isSkyHere 1 = .ok (.invokevirtual 102, 3) := by decide +kernel
theorem dX12_isSkyHere_4 : decode cX12_isSkyHere 4 = .ok (.aload_n 0, 1) := by decide +kernel
theorem dX12_isSkyHere_5 : decode cX12_isSkyHere 5 = .ok (.iconst 0, 1) := by decide +kernel
theorem dX12_isSkyHere_6 : decode cX12_isSkyHere 6 = .ok (.aload_n 0, 1) := by decide +kernel
theorem dX12_isSkyHere_7 : decode cX12_isSkyHere 7 = .ok (.getfield 26, 3) := by decide +kernel
theorem dX12_isSkyHere_10 : decode cX12_isSkyHere 10 = .ok (.iconst 2, 1) := by decide +kernel
theorem dX12_isSkyHere_11 : decode cX12_isSkyHere 11 = .ok (.iaload, 1) := by decide +kernel
theorem dX12_isSkyHere_12 : decode cX12_isSkyHere 12 = .ok (.iconst 1, 1) := by decide +kernel
theorem dX12_isSkyHere_13 : decode cX12_isSkyHere 13 = .ok (.isub, 1) := by decide +kernel
theorem dX12_isSkyHere_14 : decode cX12_isSkyHere 14 = .ok (.invokevirtual 166, 3) := by decide +kernel
theorem dX12_isSkyHere_17 : decode cX12_isSkyHere 17 = .ok (.ifCond .ne 5, 3) := by decide +kernel
theorem dX12_isSkyHere_20 : decode cX12_isSkyHere 20 = .ok (.iconst 0, 1) := by decide +kernel
theorem dX12_isSkyHere_21 : decode cX12_isSkyHere 21 = .ok (.ireturn, 1) := by decide +kernel
theorem dX12_isSkyHere_22 : decode cX12_isSkyHere 22 = .ok (.aload_n 0, 1) := by decide +kernel
theorem dX12_isSkyHere_23 : decode cX12_isSkyHere 23 = .ok (.bipush 74, 2) := by decide +kernel
theorem dX12_isSkyHere_25 : decode cX12_isSkyHere 25 = .ok (.aload_n 0, 1) := by decide +kernel
theorem dX12_isSkyHere_26 : decode cX12_isSkyHere 26 = .ok (.getfield 112, 3) := by decide +kernel
theorem dX12_isSkyHere_29 : decode cX12_isSkyHere 29 = .ok (.iadd, 1) := by decide +kernel
theorem dX12_isSkyHere_30 : decode cX12_isSkyHere 30 = .ok (.iconst 0, 1) := by decide +kernel
theorem dX12_isSkyHere_31 : decode cX12_isSkyHere 31 = .ok (.bipush 9, 2) := by decide +kernel
theorem dX12_isSkyHere_33 : decode cX12_isSkyHere 33 = .ok (.invokevirtual 217, 3) := by decide +kernel
theorem dX12_isSkyHere_36 : decode cX12_isSkyHere 36 = .ok (.ireturn, 1) := by decide +kernel
theorem dX12_isWatchHere_0 : decode cX12_isWatchHere 0 = .ok (.aload_n 0, 1) := by decide +kernel
theorem dX12_isWatchHere_1 : decode cX12_isWatchHere 1 = .ok (.invokevirtual 102, 3) := by decide +kernel
theorem dX12_isWatchHere_4 : decode cX12_isWatchHere 4 = .ok (.aload_n 0, 1) := by decide +kernel
theorem dX12_isWatchHere_5 : decode cX12_isWatchHere 5 = .ok (.iconst 0, 1) := by decide +kernel
theorem dX12_isWatchHere_6 : decode cX12_isWatchHere 6 = .ok (.aload_n 0, 1) := by decide +kernel
theorem dX12_isWatchHere_7 : decode cX12_isWatchHere 7 = .ok (.getfield 26, 3) := by decide +kernel
theorem dX12_isWatchHere_10 : decode cX12_isWatchHere 10 = .ok (.iconst 2, 1) := by decide +kernel
theorem dX12_isWatchHere_11 : decode cX12_isWatchHere 11 = .ok (.iaload, 1) := by decide +kernel
theorem dX12_isWatchHere_12 : decode cX12_isWatchHere 12 = .ok (.iconst 1, 1) := by decide +kernel
theorem dX12_isWatchHere_13 : decode cX12_isWatchHere 13 = .ok (.isub, 1) := by decide +kernel
theorem dX12_isWatchHere_14 : decode cX12_isWatchHere 14 = .ok (.invokevirtual 166, 3) := by decide +kernel
theorem dX12_isWatchHere_17 : decode cX12_isWatchHere 17 = .ok (.ifCond .ne 5, 3) := by decide +kernel
theorem dX12_isWatchHere_20 : decode cX12_isWatchHere 20 = .ok (.iconst 0, 1) := by decide +kernel
theorem dX12_isWatchHere_21 : decode cX12_isWatchHere 21 = .ok (.ireturn, 1) := by decide +kernel
theorem dX12_isWatchHere_22 : decode cX12_isWatchHere 22 = .ok (.aload_n 0, 1) := by decide +kernel
theorem dX12_isWatchHere_23 : decode cX12_isWatchHere 23 = .ok (.getfield 112, 3) := by decide +kernel
theorem dX12_isWatchHere_26 : decode cX12_isWatchHere 26 = .ok (.istore_n 1, 1) := by decide +kernel
theorem dX12_isWatchHere_27 : decode cX12_isWatchHere 27 = .ok (.aload_n 0, 1) := by decide +kernel
theorem dX12_isWatchHere_28 : decode cX12_isWatchHere 28 = .ok (.iconst 0, 1) := by decide +kernel
theorem dX12_isWatchHere_29 : decode cX12_isWatchHere 29 = .ok (.aload_n 0, 1) := by decide +kernel
theorem dX12_isWatchHere_30 : decode cX12_isWatchHere 30 = .ok (.getfield 26, 3) := by decide +kernel
theorem dX12_isWatchHere_33 : decode cX12_isWatchHere 33 = .ok (.iconst 3, 1) := by decide +kernel
theorem dX12_isWatchHere_34 : decode cX12_isWatchHere 34 = .ok (.iaload, 1) := by decide +kernel
theorem dX12_isWatchHere_35 : decode cX12_isWatchHere 35 = .ok (.iconst 1, 1) := by decide +kernel
theorem dX12_isWatchHere_36 : decode cX12_isWatchHere 36 = .ok (.isub, 1) := by decide +kernel
theorem dX12_isWatchHere_37 : decode cX12_isWatchHere 37 = .ok (.invokevirtual 166, 3) := by decide +kernel
theorem dX12_isWatchHere_40 : decode cX12_isWatchHere 40 = .ok (.ifCond .ne 5, 3) := by decide +kernel
theorem dX12_isWatchHere_43 : decode cX12_isWatchHere 43 = .ok (.iconst 0, 1) := by decide +kernel
theorem dX12_isWatchHere_44 : decode cX12_isWatchHere 44 = .ok (.ireturn, 1) := by decide +kernel
theorem dX12_isWatchHere_45 : decode cX12_isWatchHere 45 = .ok (.aload_n 0, 1) := by decide +kernel
theorem dX12_isWatchHere_46 : decode cX12_isWatchHere 46 = .ok (.getfield 26, 3) := by decide +kernel
theorem dX12_isWatchHere_49 : decode cX12_isWatchHere 49 = .ok (.bipush 84, 2) := by decide +kernel
theorem dX12_isWatchHere_51 : decode cX12_isWatchHere 51 = .ok (.iload_n 1, 1) := by decide +kernel
theorem dX12_isWatchHere_52 : decode cX12_isWatchHere 52 = .ok (.iadd, 1) := by decide +kernel
theorem dX12_isWatchHere_53 : decode cX12_isWatchHere 53 = .ok (.dup2, 1) := by decide +kernel
theorem dX12_isWatchHere_54 : decode cX12_isWatchHere 54 = .ok (.iaload, 1) := by decide +kernel
theorem dX12_isWatchHere_55 : decode cX12_isWatchHere 55 = .ok (.iconst 1, 1) := by decide +kernel
theorem dX12_isWatchHere_56 : decode cX12_isWatchHere 56 = .ok (.aload_n 0, 1) := by decide +kernel
theorem dX12_isWatchHere_57 : decode cX12_isWatchHere 57 = .ok (.getfield 112, 3) := by decide +kernel
theorem dX12_isWatchHere_60 : decode cX12_isWatchHere 60 = .ok (.ishl, 1) := by decide +kernel
theorem dX12_isWatchHere_61 : decode cX12_isWatchHere 61 = .ok (.ior, 1) := by decide +kernel
theorem dX12_isWatchHere_62 : decode cX12_isWatchHere 62 = .ok (.iastore, 1) := by decide +kernel
theorem dX12_isWatchHere_63 : decode cX12_isWatchHere 63 = .ok (.iconst 1, 1) := by decide +kernel
theorem dX12_isWatchHere_64 : decode cX12_isWatchHere 64 = .ok (.ireturn, 1) := by decide +kernel
def Byt (f : Nat → Int32) : Prop := ∀ k : Nat, 0 ≤ (f k).toInt ∧ (f k).toInt ≤ 255
theorem cB_in {f : Nat → Int32} {n : Int32} {k : Nat} (h : (k : Int) < n.toInt) : cB f n k = (f k).toInt := if_pos h
theorem Rn.st {P : Int → Bool} {f : Nat → Int32} {n p q q' x : Int32} (h : Rn P f n p q) (h0 : 0 ≤ q.toInt) (hx : x.toInt = cB f n q.toInt.toNat) (hP : P x.toInt = true) (hq : q'.toInt = q.toInt + 1) : Rn P f n p q' := by
  have hp := h.1
  refine ⟨by omega, fun i a b => ?_⟩
  by_cases z : (i : Int) < q.toInt
  · exact h.2 i a z
  · rw [show i = q.toInt.toNat by omega, ← hx]; exact hP
theorem Rn.run {P : Int → Bool} {f : Nat → Int32} {n p q : Int32} (h : Rn P f n p q) (h0 : 0 ≤ p.toInt) (h4 : q.toInt ≤ 400) (hq : ¬ P (cB f n q.toInt.toNat) = true) : pz_run P (cB f n) 401 p.toInt.toNat = q.toInt.toNat := by
  have hp := h.1
  exact pz_run_eq 401 _ _ (by omega) (by omega) (fun i a b => h.2 i (by omega) (by omega)) hq
def Mt (f : Nat → Int32) (i : Nat) (a x2 k : Int32) : Prop := ∀ j : Nat, x2.toInt ≤ (j : Int) → (j : Int) < k.toInt → (f (a.toInt.toNat + (j - x2.toInt.toNat))).toInt = stB i j
theorem Mt.st {f : Nat → Int32} {i : Nat} {a x2 k k' x y r : Int32} (h : Mt f i a x2 k) (h2 : 0 ≤ x2.toInt ∧ x2.toInt ≤ k.toInt ∧ 0 ≤ a.toInt) (ey : y = f x.toNatClampNeg) (hx : x.toInt = a.toInt + k.toInt - x2.toInt) (hr : r.toInt = stB i k.toInt.toNat) (hyr : y.toInt = r.toInt) (hk : k'.toInt = k.toInt + 1) : Mt f i a x2 k' := fun j h1 hj => by
  by_cases z : (j : Int) < k.toInt
  · exact h j h1 z
  · have e1 : j = k.toInt.toNat := by omega
    have e2 : a.toInt.toNat + (j - x2.toInt.toNat) = x.toInt.toNat := by omega
    rw [e2, e1, ← hr, ← hyr, ey]
    rfl
theorem Wa.end {B : Nat → Int} {i : Nat} {r : Except Int (Nat × Nat)} {num frm k : Int32} (h : Wa B i r num frm k) (hk : ((lenS.getD i 0 : Nat) : Int) ≤ k.toInt) : waR B (wL i) 0 r = -1 := by
  unfold Wa at h
  rw [h, show lenS.getD i 0 - k.toInt.toNat = 0 by omega]
  cases r <;> rfl
theorem pz_run_all {P : Int → Bool} {B : Nat → Int} : ∀ (k p i : Nat), p ≤ i → i < pz_run P B k p → P (B i) = true
  | 0, p, i, h1, h2 => by have : i < p := h2; omega
  | k + 1, p, i, h1, h2 => by
    unfold pz_run at h2
    by_cases z : P (B p) = true
    · rw [if_pos z] at h2
      by_cases y : i = p
      · rw [y]; exact z
      · exact pz_run_all k (p + 1) i (by omega) h2
    · rw [if_neg z] at h2; omega
theorem Nv.nil {B : Nat → Int} {a : Int32} : Nv B a 0 a := by
  unfold Nv
  rw [show (a.toInt - a.toInt).toNat = 0 by omega]
  exact ⟨rfl, by decide, by decide⟩
theorem Nv.ar {B : Nat → Int} {a v i : Int32} (h : Nv B a v i) : 0 ≤ v.toInt ∧ (i.toInt - a.toInt ≤ 5 → v.toInt ≤ 99999) ∧ (i.toInt - a.toInt ≤ 4 → v.toInt ≤ 9999) := by
  refine ⟨h.2.1, fun z => ?_, fun z => ?_⟩
  · have h1 : (10 : Int) ^ (i.toInt - a.toInt).toNat ≤ 10 ^ 5 := by
      have := Nat.pow_le_pow_right (n := 10) (by decide) (show (i.toInt - a.toInt).toNat ≤ 5 by omega)
      exact_mod_cast this
    have := h.2.2
    omega
  · have h1 : (10 : Int) ^ (i.toInt - a.toInt).toNat ≤ 10 ^ 4 := by
      have := Nat.pow_le_pow_right (n := 10) (by decide) (show (i.toInt - a.toInt).toNat ≤ 4 by omega)
      exact_mod_cast this
    have := h.2.2
    omega
theorem Nv.st {B : Nat → Int} {a v v' i i' x : Int32} (h : Nv B a v i) (hi : 0 ≤ a.toInt ∧ a.toInt ≤ i.toInt) (hx : x.toInt = B i.toInt.toNat) (hd : 48 ≤ x.toInt ∧ x.toInt ≤ 57) (hv : v'.toInt = v.toInt * 10 + x.toInt - 48) (hi' : i'.toInt = i.toInt + 1) : Nv B a v' i' := by
  obtain ⟨h1, h2, h3⟩ := h
  unfold Nv
  rw [show (i'.toInt - a.toInt).toNat = (i.toInt - a.toInt).toNat + 1 by omega]
  have e : a.toInt.toNat + (i.toInt - a.toInt).toNat = i.toInt.toNat := by omega
  refine ⟨?_, by omega, ?_⟩
  · show v'.toInt = 10 * pz_nv B a.toInt.toNat (i.toInt - a.toInt).toNat + (B (a.toInt.toNat + (i.toInt - a.toInt).toNat) - 48)
    rw [e, ← hx, ← h1]; omega
  · rw [Int.pow_succ]; omega
theorem wb_tb (n : Nat) : (lN n).toBitVec = BitVec.ofNat 64 n := rfl
theorem wb_inj {a b : Int64} (h : a.toBitVec = b.toBitVec) : a = b := Int64.toBitVec_inj.mp h
theorem wb_c : ∀ k, k < 64 → ((nI k).toInt64 &&& 63) = lN k := by decide +kernel
theorem wb_sm : ∀ k, k < 64 → (BitVec.ofNat 64 k).smod 64 = BitVec.ofNat 64 k := by decide +kernel
theorem wb_shl (n : Nat) {k : Nat} (hk : k < 64) : lN n <<< ((nI k).toInt64 &&& 63) = lN (n * 2 ^ k) := by
  rw [wb_c k hk]
  apply wb_inj
  rw [Int64.toBitVec_shiftLeft, wb_tb, wb_tb, wb_tb, wb_sm k hk]
  apply BitVec.eq_of_toNat_eq
  rw [BitVec.shiftLeft_eq', BitVec.toNat_shiftLeft, BitVec.toNat_ofNat, BitVec.toNat_ofNat, BitVec.toNat_ofNat, Nat.mod_eq_of_lt (show k < 2 ^ 64 by omega), Nat.shiftLeft_eq, Nat.mul_mod, Nat.mod_mod, ← Nat.mul_mod]
theorem u_tn {n : Nat} (h : n < 2 ^ 64) : (UInt64.ofNat n).toNat = n := Nat.mod_eq_of_lt h
theorem g_or {k p a b : Nat} (hp : 2 ^ k = p) (ha : a < p) (h : b * p + a < 2 ^ 64) : lN (b * p) ||| lN a = lN (b * p + a) := by
  subst hp
  have h1 : b * 2 ^ k ||| a = b * 2 ^ k + a := by rw [← Nat.shiftLeft_eq, Nat.shiftLeft_add_eq_or_of_lt ha]
  have h3 : UInt64.ofNat (b * 2 ^ k) ||| UInt64.ofNat a = UInt64.ofNat (b * 2 ^ k + a) := UInt64.toNat_inj.mp (by rw [UInt64.toNat_or, u_tn (by omega), u_tn (by omega), u_tn h, h1])
  have h2 := congrArg UInt64.toInt64 h3
  exact h2
def rB (f : Nat → Int32) (n : Int32) (k : Nat) : Int := if (k : Int) < n.toInt then (f k).toInt % 256 else -1
def ByS (f : Nat → Int32) : Prop := ∀ k : Nat, -128 ≤ (f k).toInt ∧ (f k).toInt ≤ 127
theorem rB_in {f : Nat → Int32} {n : Int32} {k : Nat} (h : (k : Int) < n.toInt) : rB f n k = (f k).toInt % 256 := if_pos h
theorem rB_out {f : Nat → Int32} {n : Int32} {k : Nat} (h : n.toInt ≤ (k : Int)) : rB f n k = -1 := if_neg (by omega)
theorem rB_fi {f : Nat → Int32} {n : Int32} (h : n.toInt ≤ 400) : pz_fi (rB f n) := fun k hk => rB_out (by omega)
theorem rB_rg {f : Nat → Int32} {n : Int32} (h : ByS f) (k : Nat) : ((k : Int) < n.toInt ∧ 0 ≤ rB f n k ∧ rB f n k ≤ 255 ∧ ((rB f n k = (f k).toInt ∧ rB f n k ≤ 127) ∨ (128 ≤ rB f n k ∧ (f k).toInt < 0))) ∨ (n.toInt ≤ (k : Int) ∧ rB f n k = -1) := by
  by_cases z : (k : Int) < n.toInt
  · left
    have := h k
    rw [rB_in z]
    omega
  · right; exact ⟨by omega, rB_out (by omega)⟩
def RnB (P : Int → Bool) (B : Nat → Int) (p q : Int) : Prop := p ≤ q ∧ ∀ i : Nat, p ≤ (i : Int) → (i : Int) < q → P (B i) = true
theorem RnB.rf {P : Int → Bool} {B : Nat → Int} {p : Int} : RnB P B p p := ⟨Int.le_refl _, fun i a b => by omega⟩
theorem RnB.st {P : Int → Bool} {B : Nat → Int} {p q q' : Int} (h : RnB P B p q) (h0 : 0 ≤ q) (hP : P (B q.toNat) = true) (hq : q' = q + 1) : RnB P B p q' := by
  have hp := h.1
  refine ⟨by omega, fun i a b => ?_⟩
  by_cases z : (i : Int) < q
  · exact h.2 i a z
  · rw [show i = q.toNat by omega]; exact hP
theorem RnB.run {P : Int → Bool} {B : Nat → Int} {p q : Int} (h : RnB P B p q) (h0 : 0 ≤ p) (h4 : q ≤ 400) (hq : ¬ P (B q.toNat) = true) : pz_run P B 401 p.toNat = q.toNat := by
  have hp := h.1
  exact pz_run_eq 401 _ _ (by omega) (by omega) (fun i a b => h.2 i (by omega) (by omega)) hq
theorem getD_ap {t s : List Int} {i : Nat} (h : i < t.length) : (t ++ s).getD i 0 = t.getD i 0 := by
  rw [List.getD_eq_getElem?_getD, List.getD_eq_getElem?_getD, List.getElem?_append_left h]
def pz_pk (B : Nat → Int) (p : Nat) : Nat → Int
  | 0 => 0
  | k + 1 => pz_pk B p k * 256 + B (p + k)
def pz_pl : List Int → Int
  | [] => 0
  | x :: t => x * 256 ^ t.length + pz_pl t
theorem pz_pl_snoc (x : Int) : ∀ t : List Int, pz_pl (t ++ [x]) = pz_pl t * 256 + x
  | [] => by simp [pz_pl]
  | y :: t => by
    have ih := pz_pl_snoc x t
    show y * 256 ^ (t ++ [x]).length + pz_pl (t ++ [x]) = (y * 256 ^ t.length + pz_pl t) * 256 + x
    rw [ih, List.length_append, List.length_singleton, Int.pow_succ, Int.add_mul, Int.mul_assoc]
    omega
theorem pz_pk_nn {B : Nat → Int} {p : Nat} : ∀ n : Nat, (∀ i, i < n → 97 ≤ B (p + i) ∧ B (p + i) ≤ 122) → 0 ≤ pz_pk B p n
  | 0, _ => Int.le_refl _
  | n + 1, h => by
    have h1 := pz_pk_nn n (fun i hi => h i (by omega))
    have h2 := h n (by omega)
    show 0 ≤ pz_pk B p n * 256 + B (p + n)
    omega
theorem pz_pl_nn : ∀ L : List Int, (∀ x ∈ L, 97 ≤ x ∧ x ≤ 122) → 0 ≤ pz_pl L
  | [], _ => Int.le_refl _
  | x :: t, h => by
    have h1 := pz_pl_nn t (fun y hy => h y (List.mem_cons_of_mem _ hy))
    have h2 := h x List.mem_cons_self
    have h3 : 0 ≤ x * 256 ^ t.length := Int.mul_nonneg (by omega) (Int.pow_nonneg (by decide))
    show 0 ≤ x * 256 ^ t.length + pz_pl t
    omega
theorem pz_pk_inj {B : Nat → Int} {p : Nat} : ∀ (n : Nat) (L : List Int), (∀ i, i < n → 97 ≤ B (p + i) ∧ B (p + i) ≤ 122) → (∀ x ∈ L, 97 ≤ x ∧ x ≤ 122) → pz_pk B p n = pz_pl L → n = L.length ∧ ∀ i, i < n → B (p + i) = L.getD i 0
  | 0, L, _, hL, e => by
    cases L with
    | nil => exact ⟨rfl, fun i hi => absurd hi (Nat.not_lt_zero i)⟩
    | cons x t =>
      exfalso
      have h1 := pz_pl_nn t (fun y hy => hL y (List.mem_cons_of_mem _ hy))
      have h2 := hL x List.mem_cons_self
      have h4 : (1 : Int) ≤ 256 ^ t.length := by
        have := Nat.pow_pos (n := t.length) (show 0 < 256 by decide)
        exact_mod_cast this
      have h3 : 97 * 1 ≤ x * 256 ^ t.length := Int.mul_le_mul h2.1 h4 (by decide) (by omega)
      have e : 0 = x * 256 ^ t.length + pz_pl t := e
      omega
  | n + 1, L, hB, hL, e => by
    have hb := hB n (by omega)
    have e : pz_pk B p n * 256 + B (p + n) = pz_pl L := e
    rcases List.eq_nil_or_concat L with rfl | ⟨t, x, rfl⟩
    · exfalso
      have h1 := pz_pk_nn (B := B) (p := p) n (fun i hi => hB i (by omega))
      have e : pz_pk B p n * 256 + B (p + n) = 0 := e
      omega
    · have hx := hL x (by simp)
      rw [List.concat_eq_append, pz_pl_snoc] at e
      have e1 : B (p + n) = x := by omega
      have e2 : pz_pk B p n = pz_pl t := by omega
      obtain ⟨h1, h2⟩ := pz_pk_inj n t (fun i hi => hB i (by omega)) (fun y hy => hL y (by simp [hy])) e2
      refine ⟨by simp [h1], fun i hi => ?_⟩
      by_cases z : i < n
      · rw [h2 i z, List.concat_eq_append, getD_ap (by omega)]
      · have : i = n := by omega
        subst this
        rw [e1, List.concat_eq_append, h1]
        simp
theorem pz_pk_of {B : Nat → Int} {p : Nat} (L : List Int) : (∀ i, i < L.length → B (p + i) = L.getD i 0) → pz_pk B p L.length = pz_pl L := by
  suffices h : ∀ (n : Nat) (L : List Int), L.length = n → (∀ i, i < L.length → B (p + i) = L.getD i 0) → pz_pk B p L.length = pz_pl L from h _ L rfl
  intro n
  induction n with
  | zero => intro L hL _; rw [List.eq_nil_of_length_eq_zero hL]; rfl
  | succ n ih =>
    intro L hL h
    rcases List.eq_nil_or_concat L with rfl | ⟨t, x, rfl⟩
    · simp at hL
    · rw [List.concat_eq_append] at *
      have ht : t.length = n := by simpa using hL
      have h1 := ih t ht (fun i hi => by rw [h i (by simp; omega), getD_ap hi])
      have h2 : B (p + t.length) = x := by rw [h t.length (by simp)]; simp
      rw [pz_pl_snoc, List.length_append, List.length_singleton]
      show pz_pk B p t.length * 256 + B (p + t.length) = _
      rw [h1, h2]
def PkW (B : Nat → Int) (p : Nat) (w : Int) : Prop := ∃ n : Nat, 1 ≤ n ∧ n ≤ 7 ∧ pz_run pz_isL B 401 p = p + n ∧ pz_pk B p n = w
theorem PkW.wd {B : Nat → Int} {p : Nat} {L : List Int} (hL : ∀ x ∈ L, 97 ≤ x ∧ x ≤ 122) (h1 : 1 ≤ L.length) (h7 : L.length ≤ 7) : PkW B p (pz_pl L) ↔ pz_wd B p L = true := by
  constructor
  · rintro ⟨n, hn1, hn7, hr, hp⟩
    have hB : ∀ i, i < n → 97 ≤ B (p + i) ∧ B (p + i) ≤ 122 := fun i hi => of_decide_eq_true (pz_run_all (P := pz_isL) (B := B) 401 p (p + i) (by omega) (by rw [hr]; omega))
    obtain ⟨e1, e2⟩ := pz_pk_inj n L hB hL hp
    subst e1
    refine decide_eq_true ⟨?_, e2⟩
    unfold pz_te
    rw [if_pos (show pz_isL (B p) = true from decide_eq_true (hB 0 (by omega)))]
    exact hr
  · intro h
    obtain ⟨h2, h3⟩ := of_decide_eq_true h
    have hl : ∀ i, i < L.length → 97 ≤ B (p + i) ∧ B (p + i) ≤ 122 := fun i hi => by
      rw [h3 i hi]
      refine hL _ ?_
      rw [List.getD_eq_getElem?_getD, List.getElem?_eq_getElem hi]
      exact List.getElem_mem hi
    refine ⟨L.length, h1, h7, ?_, pz_pk_of L h3⟩
    rw [← h2]
    unfold pz_te
    rw [if_pos (show pz_isL (B p) = true from decide_eq_true (hl 0 (by omega)))]
theorem SkR.of {B : Nat → Int} {a b : Int32} (h : RnB pz_isS B a.toInt b.toInt) (h0 : 0 ≤ a.toInt) (h4 : b.toInt ≤ 400) (hn : ¬ B b.toInt.toNat = 32) : SkR B a b := by
  have hp := h.1
  refine ⟨?_, pz_sk_rf hn, hn⟩
  have e : pz_sk B a.toInt.toNat = b.toInt.toNat := h.run h0 h4 (fun z => hn (of_decide_eq_true z))
  rw [e]; omega
theorem PsR.of {B : Nat → Int} {a b : Int32} (h : RnB pz_isL B a.toInt b.toInt) (h0 : 0 ≤ a.toInt) (h4 : b.toInt ≤ 400) (hn : ¬ (97 ≤ B b.toInt.toNat ∧ B b.toInt.toNat ≤ 122)) : PsR B a b := by
  have hp := h.1
  have e : pz_run pz_isL B 401 a.toInt.toNat = b.toInt.toNat := h.run h0 h4 (fun z => hn (of_decide_eq_true z))
  unfold PsR
  rw [e]; omega
def NPk (B : Nat → Int) (p : Nat) (w : Int) : Prop := ¬ PkW B p w
theorem and255 (y : Int32) : (y &&& 255).toInt = y.toInt % 256 := by
  have h1 : (y &&& 255).toBitVec.toNat = y.toBitVec.toNat % 256 := by
    show (y.toBitVec &&& 255#32).toNat = _
    rw [BitVec.toNat_and]
    exact Nat.and_two_pow_sub_one_eq_mod _ 8
  have h2 : (y &&& 255).toInt = ((y &&& 255).toBitVec.toNat : Int) := by
    show (y &&& 255).toBitVec.toInt = _
    rw [BitVec.toInt_eq_toNat_cond, if_pos (by omega)]
  have h3 : y.toInt = if 2 * y.toBitVec.toNat < 2 ^ 32 then (y.toBitVec.toNat : Int) else (y.toBitVec.toNat : Int) - ((2 ^ 32 : Nat) : Int) := BitVec.toInt_eq_toNat_cond y.toBitVec
  have h4 := y.toBitVec.isLt
  rw [h2, h1]
  split at h3 <;> omega
theorem nI_ofP {y : Int32} (h : 0 ≤ y.toInt) : y = nI y.toInt.toNat := by
  apply Int32.toInt_inj.mp
  rw [nI_toInt (by have := y.toInt_lt; omega)]
  omega
theorem lN_tI {k : Nat} (h : k < 2 ^ 63) : (lN k).toInt = (k : Int) := by
  show (BitVec.ofNat 64 k).toInt = (k : Int)
  rw [BitVec.toInt_eq_toNat_cond, BitVec.toNat_ofNat, Nat.mod_eq_of_lt (by omega), if_pos (by omega)]
theorem pz_pk_lt {B : Nat → Int} {p : Nat} : ∀ n : Nat, (∀ i, i < n → 97 ≤ B (p + i) ∧ B (p + i) ≤ 122) → pz_pk B p n < 256 ^ n
  | 0, _ => Int.zero_lt_one
  | n + 1, h => by
    have h1 := pz_pk_lt n (fun i hi => h i (by omega))
    have h2 := h n (by omega)
    show pz_pk B p n * 256 + B (p + n) < 256 ^ (n + 1)
    rw [Int.pow_succ]
    omega
def PkV (B : Nat → Int) (nx n : Int32) (v : Int64) : Prop := n.toInt ≤ 7 → v = lN (pz_pk B nx.toInt.toNat n.toInt.toNat).toNat
theorem PkV.nil {B : Nat → Int} {nx : Int32} : PkV B nx 0 0 := fun _ => rfl
theorem PkV.big {B : Nat → Int} {nx n : Int32} {v : Int64} (h : 8 ≤ n.toInt) : PkV B nx n v := fun z => by omega
theorem RnB.let {B : Nat → Int} {p q : Int} (h : RnB pz_isL B p q) (h0 : 0 ≤ p) : ∀ i : Nat, i < (q - p).toNat → 97 ≤ B (p.toNat + i) ∧ B (p.toNat + i) ≤ 122 := fun i hi => of_decide_eq_true (h.2 (p.toNat + i) (by omega) (by omega))
theorem PkV.st {B : Nat → Int} {nx n n' y : Int32} {v v' x1 : Int64} (h : PkV B nx n v) (hr : RnB pz_isL B nx.toInt (nx.toInt + n.toInt)) (h0 : 0 ≤ nx.toInt ∧ 0 ≤ n.toInt) (hy : y.toInt = B (nx.toInt.toNat + n.toInt.toNat)) (hL : 97 ≤ y.toInt ∧ y.toInt ≤ 122) (e1 : x1 = v <<< ((8 : Int32).toInt64 &&& 63)) (e2 : v' = x1 ||| y.toInt64) (hn : n'.toInt = n.toInt + 1) : PkV B nx n' v' := fun z => by
  have hv := h (by omega)
  have hlet : ∀ i, i < n.toInt.toNat → 97 ≤ B (nx.toInt.toNat + i) ∧ B (nx.toInt.toNat + i) ≤ 122 := fun i hi => hr.let h0.1 i (by omega)
  have h1 := pz_pk_nn n.toInt.toNat hlet
  have h2 := pz_pk_lt n.toInt.toNat hlet
  have h3 : (256 : Int) ^ n.toInt.toNat ≤ 256 ^ 6 := by
    have := Nat.pow_le_pow_right (n := 256) (by decide) (show n.toInt.toNat ≤ 6 by omega)
    have h4 : ((256 ^ n.toInt.toNat : Nat) : Int) ≤ ((256 ^ 6 : Nat) : Int) := Int.ofNat_le.mpr this
    rw [Int.natCast_pow, Int.natCast_pow] at h4
    exact h4
  obtain ⟨a, ha⟩ : ∃ a : Nat, (pz_pk B nx.toInt.toNat n.toInt.toNat).toNat = a := ⟨_, rfl⟩
  have ha2 : (a : Int) < 281474976710656 := by
    have : (256 : Int) ^ 6 = 281474976710656 := by decide
    omega
  rw [ha] at hv
  have e3 : y.toInt64 = lN y.toInt.toNat := by
    conv => lhs; rw [nI_ofP (y := y) (by omega)]
    exact nI_l (by omega)
  have e4 : lN a <<< ((8 : Int32).toInt64 &&& 63) = lN (a * 256) := wb_shl a (k := 8) (by decide)
  rw [e2, e1, hv, e3, e4, g_or (k := 8) (p := 256) rfl (by omega) (by omega)]
  congr 1
  rw [show n'.toInt.toNat = n.toInt.toNat + 1 by omega]
  show a * 256 + y.toInt.toNat = (pz_pk B nx.toInt.toNat n.toInt.toNat * 256 + B (nx.toInt.toNat + n.toInt.toNat)).toNat
  omega
theorem run_at {B : Nat → Int} {nx n : Int32} (hr : RnB pz_isL B nx.toInt (nx.toInt + n.toInt)) (h0 : 0 ≤ nx.toInt ∧ 0 ≤ n.toInt ∧ nx.toInt + n.toInt ≤ 400) (he : ¬ (97 ≤ B (nx.toInt + n.toInt).toNat ∧ B (nx.toInt + n.toInt).toNat ≤ 122)) : pz_run pz_isL B 401 nx.toInt.toNat = nx.toInt.toNat + n.toInt.toNat := by
  have := hr.run h0.1 h0.2.2 (fun z => he (of_decide_eq_true z))
  rw [this]; omega
theorem PkW.of {B : Nat → Int} {nx n : Int32} {v w : Int64} (h : PkV B nx n v) (hr : RnB pz_isL B nx.toInt (nx.toInt + n.toInt)) (h0 : 0 ≤ nx.toInt ∧ 0 ≤ n.toInt ∧ nx.toInt + n.toInt ≤ 400) (he : ¬ (97 ≤ B (nx.toInt + n.toInt).toNat ∧ B (nx.toInt + n.toInt).toNat ≤ 122)) (hn : 1 ≤ n.toInt ∧ n.toInt ≤ 7) (hw : v.toInt = w.toInt) : PkW B nx.toInt.toNat w.toInt := by
  have hlet : ∀ i, i < n.toInt.toNat → 97 ≤ B (nx.toInt.toNat + i) ∧ B (nx.toInt.toNat + i) ≤ 122 := fun i hi => hr.let h0.1 i (by omega)
  refine ⟨n.toInt.toNat, by omega, by omega, run_at hr h0 he, ?_⟩
  have h1 := pz_pk_nn n.toInt.toNat hlet
  have h2 := pz_pk_lt n.toInt.toNat hlet
  have h3 : (256 : Int) ^ n.toInt.toNat ≤ 256 ^ 7 := by
    have := Nat.pow_le_pow_right (n := 256) (by decide) (show n.toInt.toNat ≤ 7 by omega)
    have h4 : ((256 ^ n.toInt.toNat : Nat) : Int) ≤ ((256 ^ 7 : Nat) : Int) := Int.ofNat_le.mpr this
    rw [Int.natCast_pow, Int.natCast_pow] at h4
    exact h4
  have h4 : (256 : Int) ^ 7 = 72057594037927936 := by decide
  rw [← hw, h hn.2, lN_tI (by omega)]
  omega
theorem NPk.of {B : Nat → Int} {nx n : Int32} {v w : Int64} (h : PkV B nx n v) (hr : RnB pz_isL B nx.toInt (nx.toInt + n.toInt)) (h0 : 0 ≤ nx.toInt ∧ 0 ≤ n.toInt ∧ nx.toInt + n.toInt ≤ 400) (he : ¬ (97 ≤ B (nx.toInt + n.toInt).toNat ∧ B (nx.toInt + n.toInt).toNat ≤ 122)) (hn : n.toInt ≤ 0 ∨ 8 ≤ n.toInt ∨ (n.toInt ≤ 7 ∧ ¬ v.toInt = w.toInt)) : NPk B nx.toInt.toNat w.toInt := fun ⟨k, hk1, hk7, hk, hp⟩ => by
  have hlet : ∀ i, i < n.toInt.toNat → 97 ≤ B (nx.toInt.toNat + i) ∧ B (nx.toInt.toNat + i) ≤ 122 := fun i hi => hr.let h0.1 i (by omega)
  have e := run_at hr h0 he
  have ek : k = n.toInt.toNat := by omega
  subst ek
  rcases hn with hn | hn | hn
  · omega
  · omega
  · refine hn.2 ?_
    have h1 := pz_pk_nn n.toInt.toNat hlet
    have h2 := pz_pk_lt n.toInt.toNat hlet
    have h3 : (256 : Int) ^ n.toInt.toNat ≤ 256 ^ 7 := by
      have := Nat.pow_le_pow_right (n := 256) (by decide) (show n.toInt.toNat ≤ 7 by omega)
      have h4 : ((256 ^ n.toInt.toNat : Nat) : Int) ≤ ((256 ^ 7 : Nat) : Int) := Int.ofNat_le.mpr this
      rw [Int.natCast_pow, Int.natCast_pow] at h4
      exact h4
    have h4 : (256 : Int) ^ 7 = 72057594037927936 := by decide
    rw [h hn.1, lN_tI (by omega), ← hp]
    omega
theorem NvF.nil {B : Nat → Int} {a : Int32} : NvF B a 0 a := ⟨fun _ => Nv.nil, by decide, by decide⟩
theorem NvF.st {B : Nat → Int} {a v v' i i' x : Int32} (h : NvF B a v i) (hi : 0 ≤ a.toInt ∧ a.toInt ≤ i.toInt) (h5 : i.toInt - a.toInt < 5) (hx : x.toInt = B i.toInt.toNat) (hd : 48 ≤ x.toInt ∧ x.toInt ≤ 57) (hv : v'.toInt = v.toInt * 10 + x.toInt - 48) (hi' : i'.toInt = i.toInt + 1) : NvF B a v' i' := by
  have h1 := Nv.st (h.1 (by omega)) hi hx hd hv hi'
  have h2 := Nv.ar (h.1 (by omega))
  have h3 := h2.2.2 (by omega)
  exact ⟨fun _ => h1, by omega, by omega⟩
theorem te_run {B : Nat → Int} {at' nx : Int32} (h : RnB pz_isD B at'.toInt nx.toInt) (h0 : 0 ≤ at'.toInt) (h4 : nx.toInt ≤ 400) (h1 : 48 ≤ B at'.toInt.toNat ∧ B at'.toInt.toNat ≤ 57) (hn : ¬ (48 ≤ B nx.toInt.toNat ∧ B nx.toInt.toNat ≤ 57)) : pz_te B at'.toInt.toNat = nx.toInt.toNat := by
  unfold pz_te
  rw [if_neg (fun z => by have := of_decide_eq_true z; omega), if_pos (show pz_isD (B at'.toInt.toNat) = true from decide_eq_true h1)]
  exact h.run h0 h4 (fun z => hn (of_decide_eq_true z))
theorem NmE.nd {B : Nat → Int} {lo hi : Int} {nx nx' wr : Int32} (hs : SkR B nx nx') (hd : ¬ (48 ≤ B nx'.toInt.toNat ∧ B nx'.toInt.toNat ≤ 57)) (h0 : 0 ≤ nx'.toInt) (hw : wr.toInt = 1 + 8 * nx'.toInt) : NmE B lo hi nx wr := by
  unfold NmE
  rw [hs.nat]
  rw [show pz_num B lo hi nx'.toInt.toNat = .error (pz_er 0 nx'.toInt.toNat) from if_neg (fun z => hd (of_decide_eq_true z))]
  congr 1
  unfold pz_er; omega
theorem num_at {B : Nat → Int} {lo hi : Int} {at' nx v : Int32} (h : RnB pz_isD B at'.toInt nx.toInt) (h0 : 0 ≤ at'.toInt) (h4 : nx.toInt ≤ 400) (h1 : 48 ≤ B at'.toInt.toNat ∧ B at'.toInt.toNat ≤ 57) (hn : ¬ (48 ≤ B nx.toInt.toNat ∧ B nx.toInt.toNat ≤ 57)) (hv : NvF B at' v nx) : pz_num B lo hi at'.toInt.toNat = if 5 < nx.toInt - at'.toInt ∨ v.toInt < lo ∨ hi < v.toInt then (if 5 < nx.toInt - at'.toInt then .error (pz_er 1 at'.toInt.toNat) else .error (pz_er 1 at'.toInt.toNat)) else .ok v.toInt := by
  have hp := h.1
  rw [num_dig (decide_eq_true h1), te_run h h0 h4 h1 hn]
  by_cases z : 5 < nx.toInt - at'.toInt
  · rw [if_pos (by omega), if_pos (Or.inl z), if_pos z]
  · have e := (hv.1 (by omega)).1
    rw [if_neg (by omega), show nx.toInt.toNat - at'.toInt.toNat = (nx.toInt - at'.toInt).toNat by omega, ← e]
    by_cases y : v.toInt < lo ∨ hi < v.toInt
    · rw [if_pos y, if_pos (Or.inr y), if_neg z]
    · rw [if_neg y, if_neg (by omega)]
theorem NmE.of {B : Nat → Int} {lo hi : Int} {n0 at' nx v wr : Int32} (hs : SkR B n0 at') (h : RnB pz_isD B at'.toInt nx.toInt) (h0 : 0 ≤ at'.toInt) (h4 : nx.toInt ≤ 400) (h1 : 48 ≤ B at'.toInt.toNat ∧ B at'.toInt.toNat ≤ 57) (hn : ¬ (48 ≤ B nx.toInt.toNat ∧ B nx.toInt.toNat ≤ 57)) (hv : NvF B at' v nx) (ho : 5 < nx.toInt - at'.toInt ∨ v.toInt < lo ∨ hi < v.toInt) (hw : wr.toInt = 1 + 8 * at'.toInt + 1) : NmE B lo hi n0 wr := by
  unfold NmE
  rw [hs.nat, num_at h h0 h4 h1 hn hv, if_pos ho]
  have : wr.toInt = pz_er 1 at'.toInt.toNat := by unfold pz_er; omega
  rw [this]
  split <;> rfl
theorem NmO.of {B : Nat → Int} {lo hi : Int} {n0 at' nx v wr : Int32} (hs : SkR B n0 at') (h : RnB pz_isD B at'.toInt nx.toInt) (h0 : 0 ≤ at'.toInt) (h4 : nx.toInt ≤ 400) (h1 : 48 ≤ B at'.toInt.toNat ∧ B at'.toInt.toNat ≤ 57) (hn : ¬ (48 ≤ B nx.toInt.toNat ∧ B nx.toInt.toNat ≤ 57)) (hv : NvF B at' v nx) (ho : ¬ (5 < nx.toInt - at'.toInt ∨ v.toInt < lo ∨ hi < v.toInt)) (hw : wr.toInt = 0) : NmO B lo hi n0 v nx wr := by
  have hp := h.1
  refine ⟨?_, ?_, hw⟩
  · rw [hs.nat, num_at h h0 h4 h1 hn hv, if_neg ho]
  · rw [hs.nat, te_run h h0 h4 h1 hn]; omega
theorem val_num {B : Nat → Int} {p c : Nat} (h : 48 ≤ B p ∧ B p ≤ 57) : pz_val B (p, c) = pz_b (pz_num B 0 99999 p) (fun _ => pz_cnt B (p, c)) := if_pos (decide_eq_true h)
theorem val_none {B : Nat → Int} {p c : Nat} (h : ¬ (48 ≤ B p ∧ B p ≤ 57)) (hw : pz_wa B p pz_words 0 = -1) : pz_val B (p, c) = .error (pz_er 0 p) := (if_neg (fun z => h (of_decide_eq_true z))).trans (if_pos hw)
theorem RfE.num {B : Nat → Int} {nx n1 md wr : Int32} (hs : SkR B nx n1) (hd : 48 ≤ B n1.toInt.toNat ∧ B n1.toInt.toNat ≤ 57) (hn : NmE B 0 99999 n1 wr) : RfE (pz_val B (St0 B nx md)) wr := by
  unfold NmE at hn
  rw [hs.sk, hs.nat] at hn
  refine ⟨wr.toInt, ?_, rfl⟩
  unfold St0
  rw [hs.nat, val_num hd, hn]
  rfl
theorem cnt_max {B : Nat → Int} {p c : Nat} (h : 60 ≤ c) : pz_cnt B (p, c) = .error (pz_er 3 p) := if_pos h
theorem RfE.numMax {B : Nat → Int} {nx n1 n2 nu md wr0 wr : Int32} (hs : SkR B nx n1) (hd : 48 ≤ B n1.toInt.toNat ∧ B n1.toInt.toNat ≤ 57) (hn : NmO B 0 99999 n1 nu n2 wr0) (hm : 60 ≤ md.toInt) (h0 : 0 ≤ n1.toInt) (hw : wr.toInt = 1 + 8 * n1.toInt + 3) : RfE (pz_val B (St0 B nx md)) wr := by
  have hn := hn.1
  rw [hs.sk, hs.nat] at hn
  refine ⟨wr.toInt, ?_, rfl⟩
  unfold St0
  rw [hs.nat, val_num hd, hn]
  show pz_cnt B (n1.toInt.toNat, md.toInt.toNat) = _
  rw [cnt_max (by omega)]
  congr 1
  unfold pz_er; omega
theorem RfO.num {B : Nat → Int} {nx n1 n2 nu md md' wr0 wr : Int32} (hs : SkR B nx n1) (hd : 48 ≤ B n1.toInt.toNat ∧ B n1.toInt.toNat ≤ 57) (hn : NmO B 0 99999 n1 nu n2 wr0) (hm : 0 ≤ md.toInt ∧ md.toInt < 60 ∧ md'.toInt = md.toInt + 1) (hw : wr.toInt = 0) : RfO (pz_val B (St0 B nx md)) B wr n2 md' := by
  obtain ⟨h1, h2, -⟩ := hn
  rw [hs.sk, hs.nat] at h1 h2
  refine ⟨(pz_nt B n1.toInt.toNat, md.toInt.toNat + 1), ?_, hw, ?_, ?_⟩
  · unfold St0
    rw [hs.nat, val_num hd, h1]
    exact cnt_one (by omega)
  · show pz_sk B n2.toInt.toNat = pz_sk B (pz_te B n1.toInt.toNat)
    rw [show n2.toInt.toNat = pz_te B n1.toInt.toNat by omega]
  · show md'.toInt = ((md.toInt.toNat + 1 : Nat) : Int)
    omega
theorem RfE.none {B : Nat → Int} {nx n1 md wr : Int32} (hs : SkR B nx n1) (hd : ¬ (48 ≤ B n1.toInt.toNat ∧ B n1.toInt.toNat ≤ 57)) (hw : pz_wa B n1.toInt.toNat pz_words 0 = -1) (h0 : 0 ≤ n1.toInt) (he : wr.toInt = 1 + 8 * n1.toInt) : RfE (pz_val B (St0 B nx md)) wr := by
  refine ⟨wr.toInt, ?_, rfl⟩
  unfold St0
  rw [hs.nat, val_none hd hw]
  congr 1
  unfold pz_er; omega
theorem RfE.wordMax {B : Nat → Int} {nx n1 md wr : Int32} (hs : SkR B nx n1) (hd : ¬ (48 ≤ B n1.toInt.toNat ∧ B n1.toInt.toNat ≤ 57)) (hw : ¬ pz_wa B n1.toInt.toNat pz_words 0 = -1) (hm : 60 ≤ md.toInt) (h0 : 0 ≤ n1.toInt) (he : wr.toInt = 1 + 8 * n1.toInt + 3) : RfE (pz_val B (St0 B nx md)) wr := by
  refine ⟨wr.toInt, ?_, rfl⟩
  unfold St0
  rw [hs.nat, val_word hd hw, cnt_max (by omega)]
  congr 1
  unfold pz_er; omega
theorem SkR.eqB {B : Nat → Int} {a b c : Int32} (h : SkR B a b) (h2 : SkR B b c) : B c.toInt.toNat = B b.toInt.toNat ∧ c.toInt = b.toInt := by
  rw [h.eq h2]; exact ⟨rfl, rfl⟩
theorem SkR.self {B : Nat → Int} {a b : Int32} (h : SkR B a b) : SkR B b b := ⟨by have := h.1; rw [h.2.1]; omega, h.2⟩
theorem RfO.st {r : Except Int (Nat × Nat)} {B : Nat → Int} {wr nx md : Int32} (h : RfO r B wr nx md) : r = .ok (St0 B nx md) := by
  obtain ⟨s, rfl, -, h1, h2⟩ := h
  unfold St0
  rw [h1, show md.toInt.toNat = s.2 by omega]
theorem RfO.wr {r : Except Int (Nat × Nat)} {B : Nat → Int} {wr nx md : Int32} (h : RfO r B wr nx md) : wr.toInt = 0 := h.elim (fun _ z => z.2.1)
theorem TmL.first {B : Nat → Int} {s : Nat × Nat} {wr nx md : Int32} (h : RfO (pz_val B s) B wr nx md) : TmL (pz_sum B s) B wr nx md := ⟨h.elim (fun _ z => z.2.1), by unfold pz_sum; rw [h.st]; rfl⟩
theorem TmL.next {R : Except Int (Nat × Nat)} {B : Nat → Int} {wr nx md n1 nx' wr2 nx2 md2 : Int32} (hB : pz_fi B) (h : TmL R B wr nx md) (hs : SkR B nx n1) (hop : B n1.toInt.toNat = 43 ∨ B n1.toInt.toNat = 45 ∨ B n1.toInt.toNat = 42 ∨ B n1.toInt.toNat = 47 ∨ B n1.toInt.toNat = 37) (h1 : nx'.toInt = n1.toInt + 1) (hv : RfO (pz_val B (St0 B nx' md)) B wr2 nx2 md2) : TmL R B wr2 nx2 md2 := by
  rw [h.go hB hs hop h1]; exact TmL.first hv
theorem TmO.of {R : Except Int (Nat × Nat)} {B : Nat → Int} {wr nx md n1 : Int32} (h : TmL R B wr nx md) (hs : SkR B nx n1) (hn : ¬ (B n1.toInt.toNat = 42 ∨ B n1.toInt.toNat = 47 ∨ B n1.toInt.toNat = 37)) : TmO R B wr n1 md := by
  refine ⟨⟨h.1, ?_⟩, ?_⟩
  · rw [St0.sk hs]; exact h.2
  · rw [hs.2.1]; exact hn
theorem TmO.next {R : Except Int (Nat × Nat)} {B : Nat → Int} {wr nx md n1 nx' wr2 nx2 md2 : Int32} (hB : pz_fi B) (h : TmO R B wr nx md) (hs : SkR B nx n1) (hop : B n1.toInt.toNat = 43 ∨ B n1.toInt.toNat = 45) (h1 : nx'.toInt = n1.toInt + 1) (hv : TmO (pz_sum B (St0 B nx' md)) B wr2 nx2 md2) : TmO R B wr2 nx2 md2 := by
  rw [h.1.go hB hs (by omega) h1]; exact hv
theorem RfE.com1 {B : Nat → Int} {s : Nat × Nat} {wr : Int32} (h : RfE (pz_sum B s) wr) : RfE (pz_com B s) wr := by
  obtain ⟨e, h1, h2⟩ := h
  exact ⟨e, by unfold pz_com; rw [h1]; rfl, h2⟩
theorem com_at {B : Nat → Int} {s : Nat × Nat} {wr nx md n1 : Int32} (h : RfO (pz_sum B s) B wr nx md) (hs : SkR B nx n1) : pz_com B s = pz_b (pz_cmp B (n1.toInt.toNat, md.toInt.toNat)) (pz_sum B) := by
  unfold pz_com
  rw [h.st, St0.at hs]; rfl
theorem RfE.com0 {B : Nat → Int} {s : Nat × Nat} {w0 nx md n1 wr : Int32} (h : RfO (pz_sum B s) B w0 nx md) (hs : SkR B nx n1) (hc : ¬ (B n1.toInt.toNat = 60 ∨ B n1.toInt.toNat = 61 ∨ B n1.toInt.toNat = 62)) (hw : wr.toInt = 1 + 8 * n1.toInt) : RfE (pz_com B s) wr := by
  refine ⟨wr.toInt, ?_, rfl⟩
  have := hs.1
  rw [com_at h hs, show pz_cmp B (n1.toInt.toNat, md.toInt.toNat) = .error (pz_er 0 n1.toInt.toNat) from if_neg hc]
  show Except.error _ = _
  congr 1
  unfold pz_er; omega
theorem RfE.com3 {B : Nat → Int} {s : Nat × Nat} {w0 nx md n1 wr : Int32} (h : RfO (pz_sum B s) B w0 nx md) (hs : SkR B nx n1) (hc : B n1.toInt.toNat = 60 ∨ B n1.toInt.toNat = 61 ∨ B n1.toInt.toNat = 62) (hm : 60 ≤ md.toInt) (hw : wr.toInt = 1 + 8 * n1.toInt + 3) : RfE (pz_com B s) wr := by
  refine ⟨wr.toInt, ?_, rfl⟩
  have := hs.1
  rw [com_at h hs, show pz_cmp B (n1.toInt.toNat, md.toInt.toNat) = pz_cnt B (n1.toInt.toNat, md.toInt.toNat) from if_pos hc, cnt_max (by omega)]
  show Except.error _ = _
  congr 1
  unfold pz_er; omega
theorem te_cmp {B : Nat → Int} {p : Nat} (hc : B p = 60 ∨ B p = 61 ∨ B p = 62) : pz_te B p = if (B p = 60 ∨ B p = 62) ∧ B (p + 1) = 61 then p + 2 else p + 1 := by
  unfold pz_te
  rw [if_neg (show ¬ pz_isL (B p) = true from fun z => by have := of_decide_eq_true z; omega), if_neg (show ¬ pz_isD (B p) = true from fun z => by have := of_decide_eq_true z; omega), if_neg (by omega)]
theorem com_go {B : Nat → Int} {s : Nat × Nat} {w0 nx md n1 nx' md' : Int32} (h : RfO (pz_sum B s) B w0 nx md) (hs : SkR B nx n1) (hc : B n1.toInt.toNat = 60 ∨ B n1.toInt.toNat = 61 ∨ B n1.toInt.toNat = 62) (ha : (nx'.toInt = n1.toInt + 1 ∧ ¬ ((B n1.toInt.toNat = 60 ∨ B n1.toInt.toNat = 62) ∧ B (n1.toInt.toNat + 1) = 61)) ∨ (nx'.toInt = n1.toInt + 2 ∧ (B n1.toInt.toNat = 60 ∨ B n1.toInt.toNat = 62) ∧ B (n1.toInt.toNat + 1) = 61)) (hm : 0 ≤ md.toInt ∧ md.toInt < 60 ∧ md'.toInt = md.toInt + 1) : pz_com B s = pz_sum B (St0 B nx' md') := by
  have h0 := hs.1
  have et : nx'.toInt.toNat = pz_te B n1.toInt.toNat := by
    rw [te_cmp hc]
    rcases ha with ⟨h1, h2⟩ | ⟨h1, h2⟩
    · rw [if_neg h2]; omega
    · rw [if_pos h2]; omega
  rw [com_at h hs, show pz_cmp B (n1.toInt.toNat, md.toInt.toNat) = pz_cnt B (n1.toInt.toNat, md.toInt.toNat) from if_pos hc, cnt_one (by omega)]
  show pz_sum B (pz_nt B n1.toInt.toNat, md.toInt.toNat + 1) = pz_sum B (pz_sk B nx'.toInt.toNat, md'.toInt.toNat)
  rw [et, show md'.toInt.toNat = md.toInt.toNat + 1 by omega]
  rfl
theorem RfE.com2 {B : Nat → Int} {s : Nat × Nat} {w0 nx md n1 nx' md' wr : Int32} (h : RfO (pz_sum B s) B w0 nx md) (hs : SkR B nx n1) (hc : B n1.toInt.toNat = 60 ∨ B n1.toInt.toNat = 61 ∨ B n1.toInt.toNat = 62) (ha : (nx'.toInt = n1.toInt + 1 ∧ ¬ ((B n1.toInt.toNat = 60 ∨ B n1.toInt.toNat = 62) ∧ B (n1.toInt.toNat + 1) = 61)) ∨ (nx'.toInt = n1.toInt + 2 ∧ (B n1.toInt.toNat = 60 ∨ B n1.toInt.toNat = 62) ∧ B (n1.toInt.toNat + 1) = 61)) (hm : 0 ≤ md.toInt ∧ md.toInt < 60 ∧ md'.toInt = md.toInt + 1) (hv : RfE (pz_sum B (St0 B nx' md')) wr) : RfE (pz_com B s) wr := by
  rw [com_go h hs hc ha hm]; exact hv
theorem RfO.com {B : Nat → Int} {s : Nat × Nat} {w0 nx md n1 nx' md' wr nx2 md2 : Int32} (h : RfO (pz_sum B s) B w0 nx md) (hs : SkR B nx n1) (hc : B n1.toInt.toNat = 60 ∨ B n1.toInt.toNat = 61 ∨ B n1.toInt.toNat = 62) (ha : (nx'.toInt = n1.toInt + 1 ∧ ¬ ((B n1.toInt.toNat = 60 ∨ B n1.toInt.toNat = 62) ∧ B (n1.toInt.toNat + 1) = 61)) ∨ (nx'.toInt = n1.toInt + 2 ∧ (B n1.toInt.toNat = 60 ∨ B n1.toInt.toNat = 62) ∧ B (n1.toInt.toNat + 1) = 61)) (hm : 0 ≤ md.toInt ∧ md.toInt < 60 ∧ md'.toInt = md.toInt + 1) (hv : RfO (pz_sum B (St0 B nx' md')) B wr nx2 md2) : RfO (pz_com B s) B wr nx2 md2 := by
  rw [com_go h hs hc ha hm]; exact hv
